/-! what the constant pools link (printed by program) -/
theorem lf_X6_7 : Cond.fieldLink RX6 7 (TX6 0).1 (TX6 0).2.1 (TX6 0).2.2.1 ∈ xtb := xt 31 (by decide +kernel) (by decide +kernel)
theorem lf_X3_39 : Cond.fieldLink RX3 39 (TX6 0).1 (TX6 0).2.1 (TX6 0).2.2.1 ∈ xtb := xt 32 (by decide +kernel) (by decide +kernel)
theorem lf_X2_74 : Cond.fieldLink RX2 74 (TX6 0).1 (TX6 0).2.1 (TX6 0).2.2.1 ∈ xtb := xt 33 (by decide +kernel) (by decide +kernel)
theorem lf_X9_97 : Cond.fieldLink RX9 97 (TX6 0).1 (TX6 0).2.1 (TX6 0).2.2.1 ∈ xtb := xt 34 (by decide +kernel) (by decide +kernel)
theorem lf_X1_133 : Cond.fieldLink RX1 133 (TX6 0).1 (TX6 0).2.1 (TX6 0).2.2.1 ∈ xtb := xt 35 (by decide +kernel) (by decide +kernel)
theorem lf_X6_13 : Cond.fieldLink RX6 13 (TX6 1).1 (TX6 1).2.1 (TX6 1).2.2.1 ∈ xtb := xt 36 (by decide +kernel) (by decide +kernel)
theorem lf_X2_68 : Cond.fieldLink RX2 68 (TX6 1).1 (TX6 1).2.1 (TX6 1).2.2.1 ∈ xtb := xt 37 (by decide +kernel) (by decide +kernel)
theorem lf_X3_44 : Cond.fieldLink RX3 44 (TX6 1).1 (TX6 1).2.1 (TX6 1).2.2.1 ∈ xtb := xt 38 (by decide +kernel) (by decide +kernel)
theorem lf_X9_100 : Cond.fieldLink RX9 100 (TX6 1).1 (TX6 1).2.1 (TX6 1).2.2.1 ∈ xtb := xt 39 (by decide +kernel) (by decide +kernel)
theorem lf_X6_16 : Cond.fieldLink RX6 16 (TX6 2).1 (TX6 2).2.1 (TX6 2).2.2.1 ∈ xtb := xt 40 (by decide +kernel) (by decide +kernel)
theorem lf_X3_47 : Cond.fieldLink RX3 47 (TX6 2).1 (TX6 2).2.1 (TX6 2).2.2.1 ∈ xtb := xt 41 (by decide +kernel) (by decide +kernel)
theorem lf_X9_103 : Cond.fieldLink RX9 103 (TX6 2).1 (TX6 2).2.1 (TX6 2).2.2.1 ∈ xtb := xt 42 (by decide +kernel) (by decide +kernel)
theorem lf_X1_118 : Cond.fieldLink RX1 118 (TX6 2).1 (TX6 2).2.1 (TX6 2).2.2.1 ∈ xtb := xt 43 (by decide +kernel) (by decide +kernel)
theorem lf_X6_19 : Cond.fieldLink RX6 19 (TX6 3).1 (TX6 3).2.1 (TX6 3).2.2.1 ∈ xtb := xt 44 (by decide +kernel) (by decide +kernel)
theorem lf_X2_59 : Cond.fieldLink RX2 59 (TX6 3).1 (TX6 3).2.1 (TX6 3).2.2.1 ∈ xtb := xt 45 (by decide +kernel) (by decide +kernel)
theorem lf_X9_163 : Cond.fieldLink RX9 163 (TX6 3).1 (TX6 3).2.1 (TX6 3).2.2.1 ∈ xtb := xt 46 (by decide +kernel) (by decide +kernel)
theorem lf_X1_154 : Cond.fieldLink RX1 154 (TX6 3).1 (TX6 3).2.1 (TX6 3).2.2.1 ∈ xtb := xt 47 (by decide +kernel) (by decide +kernel)
theorem lf_X6_23 : Cond.fieldLink RX6 23 (TX6 4).1 (TX6 4).2.1 (TX6 4).2.2.1 ∈ xtb := xt 48 (by decide +kernel) (by decide +kernel)
theorem lf_X2_47 : Cond.fieldLink RX2 47 (TX6 4).1 (TX6 4).2.1 (TX6 4).2.2.1 ∈ xtb := xt 49 (by decide +kernel) (by decide +kernel)
theorem lf_X9_110 : Cond.fieldLink RX9 110 (TX6 4).1 (TX6 4).2.1 (TX6 4).2.2.1 ∈ xtb := xt 50 (by decide +kernel) (by decide +kernel)
theorem lf_X1_127 : Cond.fieldLink RX1 127 (TX6 4).1 (TX6 4).2.1 (TX6 4).2.2.1 ∈ xtb := xt 51 (by decide +kernel) (by decide +kernel)
theorem lf_X6_26 : Cond.fieldLink RX6 26 (TX6 5).1 (TX6 5).2.1 (TX6 5).2.2.1 ∈ xtb := xt 52 (by decide +kernel) (by decide +kernel)
theorem lf_X2_56 : Cond.fieldLink RX2 56 (TX6 5).1 (TX6 5).2.1 (TX6 5).2.2.1 ∈ xtb := xt 53 (by decide +kernel) (by decide +kernel)
theorem lf_X9_166 : Cond.fieldLink RX9 166 (TX6 5).1 (TX6 5).2.1 (TX6 5).2.2.1 ∈ xtb := xt 54 (by decide +kernel) (by decide +kernel)
theorem lf_X1_151 : Cond.fieldLink RX1 151 (TX6 5).1 (TX6 5).2.1 (TX6 5).2.2.1 ∈ xtb := xt 55 (by decide +kernel) (by decide +kernel)
theorem lf_X4_9 : Cond.fieldLink RX4 9 (TX4 0).1 (TX4 0).2.1 (TX4 0).2.2.1 ∈ xtb := xt 76 (by decide +kernel) (by decide +kernel)
theorem lf_X0_26 : Cond.fieldLink RX0 26 (TX4 0).1 (TX4 0).2.1 (TX4 0).2.2.1 ∈ xtb := xt 77 (by decide +kernel) (by decide +kernel)
theorem lf_X2_38 : Cond.fieldLink RX2 38 (TX4 0).1 (TX4 0).2.1 (TX4 0).2.2.1 ∈ xtb := xt 78 (by decide +kernel) (by decide +kernel)
theorem lf_X9_85 : Cond.fieldLink RX9 85 (TX4 0).1 (TX4 0).2.1 (TX4 0).2.2.1 ∈ xtb := xt 79 (by decide +kernel) (by decide +kernel)
theorem lf_X1_85 : Cond.fieldLink RX1 85 (TX4 0).1 (TX4 0).2.1 (TX4 0).2.2.1 ∈ xtb := xt 80 (by decide +kernel) (by decide +kernel)
theorem lf_X4_15 : Cond.fieldLink RX4 15 (TX4 1).1 (TX4 1).2.1 (TX4 1).2.2.1 ∈ xtb := xt 81 (by decide +kernel) (by decide +kernel)
theorem lf_X2_62 : Cond.fieldLink RX2 62 (TX4 1).1 (TX4 1).2.1 (TX4 1).2.2.1 ∈ xtb := xt 82 (by decide +kernel) (by decide +kernel)
theorem lf_X1_65 : Cond.fieldLink RX1 65 (TX4 1).1 (TX4 1).2.1 (TX4 1).2.2.1 ∈ xtb := xt 83 (by decide +kernel) (by decide +kernel)
theorem lf_X9_172 : Cond.fieldLink RX9 172 (TX4 1).1 (TX4 1).2.1 (TX4 1).2.2.1 ∈ xtb := xt 84 (by decide +kernel) (by decide +kernel)
theorem lf_X4_19 : Cond.fieldLink RX4 19 (TX4 2).1 (TX4 2).2.1 (TX4 2).2.2.1 ∈ xtb := xt 85 (by decide +kernel) (by decide +kernel)
theorem lf_X2_94 : Cond.fieldLink RX2 94 (TX4 2).1 (TX4 2).2.1 (TX4 2).2.2.1 ∈ xtb := xt 86 (by decide +kernel) (by decide +kernel)
theorem lf_X9_175 : Cond.fieldLink RX9 175 (TX4 2).1 (TX4 2).2.1 (TX4 2).2.2.1 ∈ xtb := xt 87 (by decide +kernel) (by decide +kernel)
theorem lf_X4_22 : Cond.fieldLink RX4 22 (TX4 3).1 (TX4 3).2.1 (TX4 3).2.2.1 ∈ xtb := xt 88 (by decide +kernel) (by decide +kernel)
theorem lf_X2_44 : Cond.fieldLink RX2 44 (TX4 3).1 (TX4 3).2.1 (TX4 3).2.2.1 ∈ xtb := xt 89 (by decide +kernel) (by decide +kernel)
theorem lf_X1_130 : Cond.fieldLink RX1 130 (TX4 3).1 (TX4 3).2.1 (TX4 3).2.2.1 ∈ xtb := xt 90 (by decide +kernel) (by decide +kernel)
theorem lf_X9_178 : Cond.fieldLink RX9 178 (TX4 3).1 (TX4 3).2.1 (TX4 3).2.2.1 ∈ xtb := xt 91 (by decide +kernel) (by decide +kernel)
theorem lf_X4_25 : Cond.fieldLink RX4 25 (TX4 4).1 (TX4 4).2.1 (TX4 4).2.2.1 ∈ xtb := xt 92 (by decide +kernel) (by decide +kernel)
theorem lf_X2_65 : Cond.fieldLink RX2 65 (TX4 4).1 (TX4 4).2.1 (TX4 4).2.2.1 ∈ xtb := xt 93 (by decide +kernel) (by decide +kernel)
theorem lf_X4_28 : Cond.fieldLink RX4 28 (TX4 5).1 (TX4 5).2.1 (TX4 5).2.2.1 ∈ xtb := xt 94 (by decide +kernel) (by decide +kernel)
theorem lf_X2_71 : Cond.fieldLink RX2 71 (TX4 5).1 (TX4 5).2.1 (TX4 5).2.2.1 ∈ xtb := xt 95 (by decide +kernel) (by decide +kernel)
theorem lf_X2_9 : Cond.fieldLink RX2 9 (TX2 0).1 (TX2 0).2.1 (TX2 0).2.2.1 ∈ xtb := xt 115 (by decide +kernel) (by decide +kernel)
theorem lf_X2_15 : Cond.fieldLink RX2 15 (TX2 1).1 (TX2 1).2.1 (TX2 1).2.2.1 ∈ xtb := xt 116 (by decide +kernel) (by decide +kernel)
theorem lf_X2_19 : Cond.fieldLink RX2 19 (TX2 2).1 (TX2 2).2.1 (TX2 2).2.2.1 ∈ xtb := xt 117 (by decide +kernel) (by decide +kernel)
theorem lf_X2_23 : Cond.fieldLink RX2 23 (TX2 3).1 (TX2 3).2.1 (TX2 3).2.2.1 ∈ xtb := xt 118 (by decide +kernel) (by decide +kernel)
theorem lf_X2_26 : Cond.fieldLink RX2 26 (TX2 4).1 (TX2 4).2.1 (TX2 4).2.2.1 ∈ xtb := xt 119 (by decide +kernel) (by decide +kernel)
theorem lf_X2_29 : Cond.fieldLink RX2 29 (TX2 5).1 (TX2 5).2.1 (TX2 5).2.2.1 ∈ xtb := xt 120 (by decide +kernel) (by decide +kernel)
theorem lf_X2_32 : Cond.fieldLink RX2 32 (TX2 6).1 (TX2 6).2.1 (TX2 6).2.2.1 ∈ xtb := xt 121 (by decide +kernel) (by decide +kernel)
theorem lf_X1_157 : Cond.fieldLink RX1 157 (TX2 6).1 (TX2 6).2.1 (TX2 6).2.2.1 ∈ xtb := xt 122 (by decide +kernel) (by decide +kernel)
theorem lf_X9_199 : Cond.fieldLink RX9 199 (TX2 6).1 (TX2 6).2.1 (TX2 6).2.2.1 ∈ xtb := xt 123 (by decide +kernel) (by decide +kernel)
theorem lf_X2_35 : Cond.fieldLink RX2 35 (TX2 7).1 (TX2 7).2.1 (TX2 7).2.2.1 ∈ xtb := xt 124 (by decide +kernel) (by decide +kernel)
theorem lf_X9_206 : Cond.fieldLink RX9 206 (TX2 7).1 (TX2 7).2.1 (TX2 7).2.2.1 ∈ xtb := xt 125 (by decide +kernel) (by decide +kernel)
theorem lf_X0_9 : Cond.fieldLink RX0 9 (TX0 0).1 (TX0 0).2.1 (TX0 0).2.2.1 ∈ xtb := xt 149 (by decide +kernel) (by decide +kernel)
theorem lf_X0_15 : Cond.fieldLink RX0 15 (TX0 1).1 (TX0 1).2.1 (TX0 1).2.2.1 ∈ xtb := xt 150 (by decide +kernel) (by decide +kernel)
theorem lf_X0_19 : Cond.fieldLink RX0 19 (TX0 2).1 (TX0 2).2.1 (TX0 2).2.2.1 ∈ xtb := xt 151 (by decide +kernel) (by decide +kernel)
theorem lf_X9_145 : Cond.fieldLink RX9 145 (TX0 2).1 (TX0 2).2.1 (TX0 2).2.2.1 ∈ xtb := xt 152 (by decide +kernel) (by decide +kernel)
theorem lf_X0_23 : Cond.fieldLink RX0 23 (TX0 3).1 (TX0 3).2.1 (TX0 3).2.2.1 ∈ xtb := xt 153 (by decide +kernel) (by decide +kernel)
theorem lf_X1_107 : Cond.fieldLink RX1 107 (TX0 3).1 (TX0 3).2.1 (TX0 3).2.2.1 ∈ xtb := xt 154 (by decide +kernel) (by decide +kernel)
theorem lf_X8_9 : Cond.fieldLink RX8 9 (TX8 0).1 (TX8 0).2.1 (TX8 0).2.2.1 ∈ xtb := xt 170 (by decide +kernel) (by decide +kernel)
theorem lf_X4_36 : Cond.fieldLink RX4 36 (TX8 0).1 (TX8 0).2.1 (TX8 0).2.2.1 ∈ xtb := xt 171 (by decide +kernel) (by decide +kernel)
theorem lf_X8_15 : Cond.fieldLink RX8 15 (TX8 1).1 (TX8 1).2.1 (TX8 1).2.2.1 ∈ xtb := xt 172 (by decide +kernel) (by decide +kernel)
theorem lf_X3_32 : Cond.fieldLink RX3 32 (TX8 1).1 (TX8 1).2.1 (TX8 1).2.2.1 ∈ xtb := xt 173 (by decide +kernel) (by decide +kernel)
theorem lf_X4_31 : Cond.fieldLink RX4 31 (TX8 1).1 (TX8 1).2.1 (TX8 1).2.2.1 ∈ xtb := xt 174 (by decide +kernel) (by decide +kernel)
theorem lf_X3_11 : Cond.fieldLink RX3 11 (TX3 0).1 (TX3 0).2.1 (TX3 0).2.2.1 ∈ xtb := xt 187 (by decide +kernel) (by decide +kernel)
theorem lf_X3_15 : Cond.fieldLink RX3 15 (TX3 1).1 (TX3 1).2.1 (TX3 1).2.2.1 ∈ xtb := xt 188 (by decide +kernel) (by decide +kernel)
theorem lf_X3_19 : Cond.fieldLink RX3 19 (TX3 2).1 (TX3 2).2.1 (TX3 2).2.2.1 ∈ xtb := xt 189 (by decide +kernel) (by decide +kernel)
theorem lf_X5_9 : Cond.fieldLink RX5 9 (TX5 0).1 (TX5 0).2.1 (TX5 0).2.2.1 ∈ xtb := xt 209 (by decide +kernel) (by decide +kernel)
theorem lf_X9_152 : Cond.fieldLink RX9 152 (TX5 0).1 (TX5 0).2.1 (TX5 0).2.2.1 ∈ xtb := xt 210 (by decide +kernel) (by decide +kernel)
theorem lf_X5_15 : Cond.fieldLink RX5 15 (TX5 1).1 (TX5 1).2.1 (TX5 1).2.2.1 ∈ xtb := xt 211 (by decide +kernel) (by decide +kernel)
theorem lf_X9_160 : Cond.fieldLink RX9 160 (TX5 1).1 (TX5 1).2.1 (TX5 1).2.2.1 ∈ xtb := xt 212 (by decide +kernel) (by decide +kernel)
theorem lf_X5_18 : Cond.fieldLink RX5 18 (TX5 2).1 (TX5 2).2.1 (TX5 2).2.2.1 ∈ xtb := xt 213 (by decide +kernel) (by decide +kernel)
theorem lf_X9_157 : Cond.fieldLink RX9 157 (TX5 2).1 (TX5 2).2.1 (TX5 2).2.2.1 ∈ xtb := xt 214 (by decide +kernel) (by decide +kernel)
theorem lf_X5_21 : Cond.fieldLink RX5 21 (TX5 3).1 (TX5 3).2.1 (TX5 3).2.2.1 ∈ xtb := xt 215 (by decide +kernel) (by decide +kernel)
theorem lf_X9_218 : Cond.fieldLink RX9 218 (TX5 3).1 (TX5 3).2.1 (TX5 3).2.2.1 ∈ xtb := xt 216 (by decide +kernel) (by decide +kernel)
theorem lf_X5_25 : Cond.fieldLink RX5 25 (TX5 4).1 (TX5 4).2.1 (TX5 4).2.2.1 ∈ xtb := xt 217 (by decide +kernel) (by decide +kernel)
theorem lf_X5_28 : Cond.fieldLink RX5 28 (TX5 5).1 (TX5 5).2.1 (TX5 5).2.2.1 ∈ xtb := xt 218 (by decide +kernel) (by decide +kernel)
theorem lf_X5_31 : Cond.fieldLink RX5 31 (TX5 6).1 (TX5 6).2.1 (TX5 6).2.2.1 ∈ xtb := xt 219 (by decide +kernel) (by decide +kernel)
theorem lf_X5_35 : Cond.fieldLink RX5 35 (TX5 7).1 (TX5 7).2.1 (TX5 7).2.2.1 ∈ xtb := xt 220 (by decide +kernel) (by decide +kernel)
theorem lf_X1_9 : Cond.fieldLink RX1 9 (TX1 0).1 (TX1 0).2.1 (TX1 0).2.2.1 ∈ xtb := xt 239 (by decide +kernel) (by decide +kernel)
theorem lf_X1_15 : Cond.fieldLink RX1 15 (TX1 1).1 (TX1 1).2.1 (TX1 1).2.2.1 ∈ xtb := xt 240 (by decide +kernel) (by decide +kernel)
theorem lf_X1_19 : Cond.fieldLink RX1 19 (TX1 2).1 (TX1 2).2.1 (TX1 2).2.2.1 ∈ xtb := xt 241 (by decide +kernel) (by decide +kernel)
theorem lf_X1_23 : Cond.fieldLink RX1 23 (TX1 3).1 (TX1 3).2.1 (TX1 3).2.2.1 ∈ xtb := xt 242 (by decide +kernel) (by decide +kernel)
theorem lf_X1_27 : Cond.fieldLink RX1 27 (TX1 4).1 (TX1 4).2.1 (TX1 4).2.2.1 ∈ xtb := xt 243 (by decide +kernel) (by decide +kernel)
theorem lf_X5_42 : Cond.fieldLink RX5 42 (TX1 4).1 (TX1 4).2.1 (TX1 4).2.2.1 ∈ xtb := xt 244 (by decide +kernel) (by decide +kernel)
theorem lf_X9_121 : Cond.fieldLink RX9 121 (TX1 4).1 (TX1 4).2.1 (TX1 4).2.2.1 ∈ xtb := xt 245 (by decide +kernel) (by decide +kernel)
theorem lf_X1_31 : Cond.fieldLink RX1 31 (TX1 5).1 (TX1 5).2.1 (TX1 5).2.2.1 ∈ xtb := xt 246 (by decide +kernel) (by decide +kernel)
theorem lf_X9_138 : Cond.fieldLink RX9 138 (TX1 5).1 (TX1 5).2.1 (TX1 5).2.2.1 ∈ xtb := xt 247 (by decide +kernel) (by decide +kernel)
theorem lf_X1_34 : Cond.fieldLink RX1 34 (TX1 6).1 (TX1 6).2.1 (TX1 6).2.2.1 ∈ xtb := xt 248 (by decide +kernel) (by decide +kernel)
theorem lf_X1_38 : Cond.fieldLink RX1 38 (TX1 7).1 (TX1 7).2.1 (TX1 7).2.2.1 ∈ xtb := xt 249 (by decide +kernel) (by decide +kernel)
theorem lf_X5_71 : Cond.fieldLink RX5 71 (TX1 7).1 (TX1 7).2.1 (TX1 7).2.2.1 ∈ xtb := xt 250 (by decide +kernel) (by decide +kernel)
theorem lf_X9_181 : Cond.fieldLink RX9 181 (TX1 7).1 (TX1 7).2.1 (TX1 7).2.2.1 ∈ xtb := xt 251 (by decide +kernel) (by decide +kernel)
theorem lf_X1_41 : Cond.fieldLink RX1 41 (TX1 8).1 (TX1 8).2.1 (TX1 8).2.2.1 ∈ xtb := xt 252 (by decide +kernel) (by decide +kernel)
theorem lf_X5_54 : Cond.fieldLink RX5 54 (TX1 8).1 (TX1 8).2.1 (TX1 8).2.2.1 ∈ xtb := xt 253 (by decide +kernel) (by decide +kernel)
theorem lf_X1_44 : Cond.fieldLink RX1 44 (TX1 9).1 (TX1 9).2.1 (TX1 9).2.2.1 ∈ xtb := xt 254 (by decide +kernel) (by decide +kernel)
theorem lf_X9_212 : Cond.fieldLink RX9 212 (TX1 9).1 (TX1 9).2.1 (TX1 9).2.2.1 ∈ xtb := xt 255 (by decide +kernel) (by decide +kernel)
theorem lf_X1_47 : Cond.fieldLink RX1 47 (TX1 10).1 (TX1 10).2.1 (TX1 10).2.2.1 ∈ xtb := xt 256 (by decide +kernel) (by decide +kernel)
theorem lf_X5_51 : Cond.fieldLink RX5 51 (TX1 10).1 (TX1 10).2.1 (TX1 10).2.2.1 ∈ xtb := xt 257 (by decide +kernel) (by decide +kernel)
theorem lf_X9_215 : Cond.fieldLink RX9 215 (TX1 10).1 (TX1 10).2.1 (TX1 10).2.2.1 ∈ xtb := xt 258 (by decide +kernel) (by decide +kernel)
theorem lf_X1_53 : Cond.fieldLink RX1 53 (TX1 11).1 (TX1 11).2.1 (TX1 11).2.2.1 ∈ xtb := xt 259 (by decide +kernel) (by decide +kernel)
theorem lf_X9_148 : Cond.fieldLink RX9 148 (TX1 11).1 (TX1 11).2.1 (TX1 11).2.2.1 ∈ xtb := xt 260 (by decide +kernel) (by decide +kernel)
theorem lf_X9_26 : Cond.fieldLink RX9 26 (TX9 0).1 (TX9 0).2.1 (TX9 0).2.2.1 ∈ xtb := xt 286 (by decide +kernel) (by decide +kernel)
theorem lf_X9_35 : Cond.fieldLink RX9 35 (TX9 1).1 (TX9 1).2.1 (TX9 1).2.2.1 ∈ xtb := xt 287 (by decide +kernel) (by decide +kernel)
theorem lf_X9_39 : Cond.fieldLink RX9 39 (TX9 2).1 (TX9 2).2.1 (TX9 2).2.2.1 ∈ xtb := xt 288 (by decide +kernel) (by decide +kernel)
theorem lf_X9_43 : Cond.fieldLink RX9 43 (TX9 3).1 (TX9 3).2.1 (TX9 3).2.2.1 ∈ xtb := xt 289 (by decide +kernel) (by decide +kernel)
theorem lf_X9_47 : Cond.fieldLink RX9 47 (TX9 4).1 (TX9 4).2.1 (TX9 4).2.2.1 ∈ xtb := xt 290 (by decide +kernel) (by decide +kernel)
theorem lf_X9_51 : Cond.fieldLink RX9 51 (TX9 5).1 (TX9 5).2.1 (TX9 5).2.2.1 ∈ xtb := xt 291 (by decide +kernel) (by decide +kernel)
theorem lf_X9_60 : Cond.fieldLink RX9 60 (TX9 6).1 (TX9 6).2.1 (TX9 6).2.2.1 ∈ xtb := xt 292 (by decide +kernel) (by decide +kernel)
theorem lf_X9_64 : Cond.fieldLink RX9 64 (TX9 7).1 (TX9 7).2.1 (TX9 7).2.2.1 ∈ xtb := xt 293 (by decide +kernel) (by decide +kernel)
theorem lf_J0_38 : Cond.fieldLink RJ0 38 "java/lang/String" "COMPACT_STRINGS" "Z" ∈ xtb := xt 341 (by decide +kernel) (by decide +kernel)
theorem lf_J0_1053 : Cond.fieldLink RJ0 1053 "jdk/internal/util/Preconditions" "SIOOBE_FORMATTER" "Ljava/util/function/BiFunction;" ∈ xtb := xt 384 (by decide +kernel) (by decide +kernel)
theorem lf_J0_15 : Cond.fieldLink RJ0 15 "java/lang/String" "coder" "B" ∈ xtb := xt 803 (by decide +kernel) (by decide +kernel)
theorem lf_J0_9 : Cond.fieldLink RJ0 9 "java/lang/String" "value" "[B" ∈ xtb := xt 804 (by decide +kernel) (by decide +kernel)
theorem ft_X0_0 (v : Option Nat) : ab_fit (parseFieldDescriptor (TX0 0).2.2.1) (.inr v) := by
  rw [tyX0_ok 0 (by decide)]
  exact True.intro
theorem ft_X0_1 (v : Option Nat) : ab_fit (parseFieldDescriptor (TX0 1).2.2.1) (.inr v) := by
  rw [tyX0_ok 1 (by decide)]
  exact True.intro
theorem ft_X0_2 (v : Option Nat) : ab_fit (parseFieldDescriptor (TX0 2).2.2.1) (.inr v) := by
  rw [tyX0_ok 2 (by decide)]
  exact True.intro
theorem ft_X0_3 (v : Option Nat) : ab_fit (parseFieldDescriptor (TX0 3).2.2.1) (.inr v) := by
  rw [tyX0_ok 3 (by decide)]
  exact True.intro
theorem ft_X1_0 (v : Option Nat) : ab_fit (parseFieldDescriptor (TX1 0).2.2.1) (.inr v) := by
  rw [tyX1_ok 0 (by decide)]
  exact True.intro
theorem ft_X1_1 (v : Option Nat) : ab_fit (parseFieldDescriptor (TX1 1).2.2.1) (.inr v) := by
  rw [tyX1_ok 1 (by decide)]
  exact True.intro
theorem ft_X1_2 (v : Option Nat) : ab_fit (parseFieldDescriptor (TX1 2).2.2.1) (.inr v) := by
  rw [tyX1_ok 2 (by decide)]
  exact True.intro
theorem ft_X1_3 (v : Option Nat) : ab_fit (parseFieldDescriptor (TX1 3).2.2.1) (.inr v) := by
  rw [tyX1_ok 3 (by decide)]
  exact True.intro
theorem ft_X1_4 (v : Int) : ab_fit (parseFieldDescriptor (TX1 4).2.2.1) (.inl v) := by
  rw [tyX1_ok 4 (by decide)]
  exact True.intro
theorem ft_X1_5 (v : Int) : ab_fit (parseFieldDescriptor (TX1 5).2.2.1) (.inl v) := by
  rw [tyX1_ok 5 (by decide)]
  exact True.intro
theorem ft_X1_6 (v : Option Nat) : ab_fit (parseFieldDescriptor (TX1 6).2.2.1) (.inr v) := by
  rw [tyX1_ok 6 (by decide)]
  exact True.intro
theorem ft_X1_7 (v : Option Nat) : ab_fit (parseFieldDescriptor (TX1 7).2.2.1) (.inr v) := by
  rw [tyX1_ok 7 (by decide)]
  exact True.intro
theorem ft_X1_8 (v : Option Nat) : ab_fit (parseFieldDescriptor (TX1 8).2.2.1) (.inr v) := by
  rw [tyX1_ok 8 (by decide)]
  exact True.intro
theorem ft_X1_9 (v : Option Nat) : ab_fit (parseFieldDescriptor (TX1 9).2.2.1) (.inr v) := by
  rw [tyX1_ok 9 (by decide)]
  exact True.intro
theorem ft_X1_10 (v : Option Nat) : ab_fit (parseFieldDescriptor (TX1 10).2.2.1) (.inr v) := by
  rw [tyX1_ok 10 (by decide)]
  exact True.intro
theorem ft_X1_11 (v : Option Nat) : ab_fit (parseFieldDescriptor (TX1 11).2.2.1) (.inr v) := by
  rw [tyX1_ok 11 (by decide)]
  exact True.intro
theorem ft_X2_0 (v : Option Nat) : ab_fit (parseFieldDescriptor (TX2 0).2.2.1) (.inr v) := by
  rw [tyX2_ok 0 (by decide)]
  exact True.intro
theorem ft_X2_1 (v : Option Nat) : ab_fit (parseFieldDescriptor (TX2 1).2.2.1) (.inr v) := by
  rw [tyX2_ok 1 (by decide)]
  exact True.intro
theorem ft_X2_2 (v : Option Nat) : ab_fit (parseFieldDescriptor (TX2 2).2.2.1) (.inr v) := by
  rw [tyX2_ok 2 (by decide)]
  exact True.intro
theorem ft_X2_3 (v : Option Nat) : ab_fit (parseFieldDescriptor (TX2 3).2.2.1) (.inr v) := by
  rw [tyX2_ok 3 (by decide)]
  exact True.intro
theorem ft_X2_4 (v : Option Nat) : ab_fit (parseFieldDescriptor (TX2 4).2.2.1) (.inr v) := by
  rw [tyX2_ok 4 (by decide)]
  exact True.intro
theorem ft_X2_5 (v : Option Nat) : ab_fit (parseFieldDescriptor (TX2 5).2.2.1) (.inr v) := by
  rw [tyX2_ok 5 (by decide)]
  exact True.intro
theorem ft_X2_6 (v : Option Nat) : ab_fit (parseFieldDescriptor (TX2 6).2.2.1) (.inr v) := by
  rw [tyX2_ok 6 (by decide)]
  exact True.intro
theorem ft_X2_7 (v : Option Nat) : ab_fit (parseFieldDescriptor (TX2 7).2.2.1) (.inr v) := by
  rw [tyX2_ok 7 (by decide)]
  exact True.intro
theorem ft_X3_0 (v : Option Nat) : ab_fit (parseFieldDescriptor (TX3 0).2.2.1) (.inr v) := by
  rw [tyX3_ok 0 (by decide)]
  exact True.intro
theorem ft_X3_1 (v : Int) : ab_fit (parseFieldDescriptor (TX3 1).2.2.1) (.inl v) := by
  rw [tyX3_ok 1 (by decide)]
  exact True.intro
theorem ft_X3_2 (v : Int) : ab_fit (parseFieldDescriptor (TX3 2).2.2.1) (.inl v) := by
  rw [tyX3_ok 2 (by decide)]
  exact True.intro
theorem ft_X4_0 (v : Int) : ab_fit (parseFieldDescriptor (TX4 0).2.2.1) (.inl v) := by
  rw [tyX4_ok 0 (by decide)]
  exact True.intro
theorem ft_X4_1 (v : Option Nat) : ab_fit (parseFieldDescriptor (TX4 1).2.2.1) (.inr v) := by
  rw [tyX4_ok 1 (by decide)]
  exact True.intro
theorem ft_X4_2 (v : Option Nat) : ab_fit (parseFieldDescriptor (TX4 2).2.2.1) (.inr v) := by
  rw [tyX4_ok 2 (by decide)]
  exact True.intro
theorem ft_X4_3 (v : Option Nat) : ab_fit (parseFieldDescriptor (TX4 3).2.2.1) (.inr v) := by
  rw [tyX4_ok 3 (by decide)]
  exact True.intro
theorem ft_X4_4 (v : Option Nat) : ab_fit (parseFieldDescriptor (TX4 4).2.2.1) (.inr v) := by
  rw [tyX4_ok 4 (by decide)]
  exact True.intro
theorem ft_X4_5 (v : Option Nat) : ab_fit (parseFieldDescriptor (TX4 5).2.2.1) (.inr v) := by
  rw [tyX4_ok 5 (by decide)]
  exact True.intro
theorem ft_X5_0 (v : Int) : ab_fit (parseFieldDescriptor (TX5 0).2.2.1) (.inl v) := by
  rw [tyX5_ok 0 (by decide)]
  exact True.intro
theorem ft_X5_1 (v : Int) : ab_fit (parseFieldDescriptor (TX5 1).2.2.1) (.inl v) := by
  rw [tyX5_ok 1 (by decide)]
  exact True.intro
theorem ft_X5_2 (v : Int) : ab_fit (parseFieldDescriptor (TX5 2).2.2.1) (.inl v) := by
  rw [tyX5_ok 2 (by decide)]
  exact True.intro
theorem ft_X5_3 (v : Option Nat) : ab_fit (parseFieldDescriptor (TX5 3).2.2.1) (.inr v) := by
  rw [tyX5_ok 3 (by decide)]
  exact True.intro
theorem ft_X5_4 (v : Option Nat) : ab_fit (parseFieldDescriptor (TX5 4).2.2.1) (.inr v) := by
  rw [tyX5_ok 4 (by decide)]
  exact True.intro
theorem ft_X5_5 (v : Option Nat) : ab_fit (parseFieldDescriptor (TX5 5).2.2.1) (.inr v) := by
  rw [tyX5_ok 5 (by decide)]
  exact True.intro
theorem ft_X5_6 (v : Option Nat) : ab_fit (parseFieldDescriptor (TX5 6).2.2.1) (.inr v) := by
  rw [tyX5_ok 6 (by decide)]
  exact True.intro
theorem ft_X5_7 (v : Option Nat) : ab_fit (parseFieldDescriptor (TX5 7).2.2.1) (.inr v) := by
  rw [tyX5_ok 7 (by decide)]
  exact True.intro
theorem ft_X6_0 (v : Int) : ab_fit (parseFieldDescriptor (TX6 0).2.2.1) (.inl v) := by
  rw [tyX6_ok 0 (by decide)]
  exact True.intro
theorem ft_X6_1 (v : Int) : ab_fit (parseFieldDescriptor (TX6 1).2.2.1) (.inl v) := by
  rw [tyX6_ok 1 (by decide)]
  exact True.intro
theorem ft_X6_2 (v : Int) : ab_fit (parseFieldDescriptor (TX6 2).2.2.1) (.inl v) := by
  rw [tyX6_ok 2 (by decide)]
  exact True.intro
theorem ft_X6_3 (v : Option Nat) : ab_fit (parseFieldDescriptor (TX6 3).2.2.1) (.inr v) := by
  rw [tyX6_ok 3 (by decide)]
  exact True.intro
theorem ft_X6_4 (v : Option Nat) : ab_fit (parseFieldDescriptor (TX6 4).2.2.1) (.inr v) := by
  rw [tyX6_ok 4 (by decide)]
  exact True.intro
theorem ft_X6_5 (v : Option Nat) : ab_fit (parseFieldDescriptor (TX6 5).2.2.1) (.inr v) := by
  rw [tyX6_ok 5 (by decide)]
  exact True.intro
theorem ft_X8_0 (v : Option Nat) : ab_fit (parseFieldDescriptor (TX8 0).2.2.1) (.inr v) := by
  rw [tyX8_ok 0 (by decide)]
  exact True.intro
theorem ft_X8_1 (v : Int) : ab_fit (parseFieldDescriptor (TX8 1).2.2.1) (.inl v) := by
  rw [tyX8_ok 1 (by decide)]
  exact True.intro
theorem ft_X9_0 (v : Option Nat) : ab_fit (parseFieldDescriptor (TX9 0).2.2.1) (.inr v) := by
  rw [tyX9_ok 0 (by decide)]
  exact True.intro
theorem ft_X9_1 (v : Option Nat) : ab_fit (parseFieldDescriptor (TX9 1).2.2.1) (.inr v) := by
  rw [tyX9_ok 1 (by decide)]
  exact True.intro
theorem ft_X9_2 (v : Option Nat) : ab_fit (parseFieldDescriptor (TX9 2).2.2.1) (.inr v) := by
  rw [tyX9_ok 2 (by decide)]
  exact True.intro
theorem ft_X9_3 (v : Option Nat) : ab_fit (parseFieldDescriptor (TX9 3).2.2.1) (.inr v) := by
  rw [tyX9_ok 3 (by decide)]
  exact True.intro
theorem ft_X9_4 (v : Option Nat) : ab_fit (parseFieldDescriptor (TX9 4).2.2.1) (.inr v) := by
  rw [tyX9_ok 4 (by decide)]
  exact True.intro
theorem ft_X9_5 (v : Option Nat) : ab_fit (parseFieldDescriptor (TX9 5).2.2.1) (.inr v) := by
  rw [tyX9_ok 5 (by decide)]
  exact True.intro
theorem ft_X9_6 (v : Option Nat) : ab_fit (parseFieldDescriptor (TX9 6).2.2.1) (.inr v) := by
  rw [tyX9_ok 6 (by decide)]
  exact True.intro
theorem ft_X9_7 (v : Option Nat) : ab_fit (parseFieldDescriptor (TX9 7).2.2.1) (.inr v) := by
  rw [tyX9_ok 7 (by decide)]
  exact True.intro
theorem lk_L_100 : ab_LI RL 100 yX9_init cX9_init 5 0 := ⟨⟨xt 19 (by decide +kernel) (by decide +kernel), xt 20 (by decide +kernel) (by decide +kernel), xt 1 (by decide +kernel) (by decide +kernel), xt 21 (by decide +kernel) (by decide +kernel)⟩, rfl, (by decide +kernel), (by decide +kernel), (by decide +kernel)⟩
theorem lk_X9_1 : Cond.methodLink RX9 1 Lib.objectInit ∈ xtb := xt 22 (by decide +kernel) (by decide +kernel)
theorem lk_X9_9 : ab_LI RX9 9 yX6_init cX6_init 1 0 := ⟨⟨xt 27 (by decide +kernel) (by decide +kernel), xt 28 (by decide +kernel) (by decide +kernel), xt 2 (by decide +kernel) (by decide +kernel), xt 29 (by decide +kernel) (by decide +kernel)⟩, rfl, (by decide +kernel), (by decide +kernel), (by decide +kernel)⟩
theorem lk_X6_1 : Cond.methodLink RX6 1 Lib.objectInit ∈ xtb := xt 30 (by decide +kernel) (by decide +kernel)
theorem lk_X9_12 : ab_LI RX9 12 yX4_init cX4_init 1 0 := ⟨⟨xt 72 (by decide +kernel) (by decide +kernel), xt 73 (by decide +kernel) (by decide +kernel), xt 3 (by decide +kernel) (by decide +kernel), xt 74 (by decide +kernel) (by decide +kernel)⟩, rfl, (by decide +kernel), (by decide +kernel), (by decide +kernel)⟩
theorem lk_X4_3 : Cond.methodLink RX4 3 Lib.objectInit ∈ xtb := xt 75 (by decide +kernel) (by decide +kernel)
theorem lk_X9_15 : ab_LI RX9 15 yX2_init cX2_init 3 2 := ⟨⟨xt 111 (by decide +kernel) (by decide +kernel), xt 112 (by decide +kernel) (by decide +kernel), xt 4 (by decide +kernel) (by decide +kernel), xt 113 (by decide +kernel) (by decide +kernel)⟩, rfl, (by decide +kernel), (by decide +kernel), (by decide +kernel)⟩
theorem lk_X2_3 : Cond.methodLink RX2 3 Lib.objectInit ∈ xtb := xt 114 (by decide +kernel) (by decide +kernel)
theorem lk_X9_20 : ab_LI RX9 20 yX0_init cX0_init 3 2 := ⟨⟨xt 145 (by decide +kernel) (by decide +kernel), xt 146 (by decide +kernel) (by decide +kernel), xt 5 (by decide +kernel) (by decide +kernel), xt 147 (by decide +kernel) (by decide +kernel)⟩, rfl, (by decide +kernel), (by decide +kernel), (by decide +kernel)⟩
theorem lk_X0_3 : Cond.methodLink RX0 3 Lib.objectInit ∈ xtb := xt 148 (by decide +kernel) (by decide +kernel)
theorem lk_X9_25 : ab_LI RX9 25 yX8_init cX8_init 1 0 := ⟨⟨xt 166 (by decide +kernel) (by decide +kernel), xt 167 (by decide +kernel) (by decide +kernel), xt 6 (by decide +kernel) (by decide +kernel), xt 168 (by decide +kernel) (by decide +kernel)⟩, rfl, (by decide +kernel), (by decide +kernel), (by decide +kernel)⟩
theorem lk_X8_3 : Cond.methodLink RX8 3 Lib.objectInit ∈ xtb := xt 169 (by decide +kernel) (by decide +kernel)
theorem lk_X9_34 : ab_LI RX9 34 yX3_init cX3_init 1 0 := ⟨⟨xt 183 (by decide +kernel) (by decide +kernel), xt 184 (by decide +kernel) (by decide +kernel), xt 7 (by decide +kernel) (by decide +kernel), xt 185 (by decide +kernel) (by decide +kernel)⟩, rfl, (by decide +kernel), (by decide +kernel), (by decide +kernel)⟩
theorem lk_X3_3 : Cond.methodLink RX3 3 Lib.objectInit ∈ xtb := xt 186 (by decide +kernel) (by decide +kernel)
theorem lk_X9_57 : ab_LI RX9 57 yX1_init cX1_init 5 4 := ⟨⟨xt 199 (by decide +kernel) (by decide +kernel), xt 200 (by decide +kernel) (by decide +kernel), xt 8 (by decide +kernel) (by decide +kernel), xt 201 (by decide +kernel) (by decide +kernel)⟩, rfl, (by decide +kernel), (by decide +kernel), (by decide +kernel)⟩
theorem lk_X1_3 : Cond.methodLink RX1 3 Lib.objectInit ∈ xtb := xt 202 (by decide +kernel) (by decide +kernel)
theorem lk_X1_52 : ab_LI RX1 52 yX5_init cX5_init 1 0 := ⟨⟨xt 205 (by decide +kernel) (by decide +kernel), xt 206 (by decide +kernel) (by decide +kernel), xt 9 (by decide +kernel) (by decide +kernel), xt 207 (by decide +kernel) (by decide +kernel)⟩, rfl, (by decide +kernel), (by decide +kernel), (by decide +kernel)⟩
theorem lk_X5_3 : Cond.methodLink RX5 3 Lib.objectInit ∈ xtb := xt 208 (by decide +kernel) (by decide +kernel)
theorem lk_L_33 : ab_LV RL 33 yX9_readParagraph cX9_readParagraph 2 (some .int) 0 := ⟨⟨xt 311 (by decide +kernel) (by decide +kernel), xt 312 (by decide +kernel) (by decide +kernel), xt 313 (by decide +kernel) (by decide +kernel), xt 1 (by decide +kernel) (by decide +kernel), xt 314 (by decide +kernel) (by decide +kernel)⟩, (by decide +kernel), (by decide +kernel), (by decide +kernel)⟩
theorem lk_X9_75 : ab_LV RX9 75 yX8_paragraphFault cX8_paragraphFault 2 (some .int) 0 := ⟨⟨xt 315 (by decide +kernel) (by decide +kernel), xt 316 (by decide +kernel) (by decide +kernel), xt 317 (by decide +kernel) (by decide +kernel), xt 6 (by decide +kernel) (by decide +kernel), xt 318 (by decide +kernel) (by decide +kernel)⟩, (by decide +kernel), (by decide +kernel), (by decide +kernel)⟩
theorem lk_X8_19 : ab_LS RX8 19 yX7_widthOf cX7_widthOf 1 (some .int) 1 := ⟨⟨Or.inl (xt 319 (by decide +kernel) (by decide +kernel)), xt 320 (by decide +kernel) (by decide +kernel), xt 10 (by decide +kernel) (by decide +kernel), xt 321 (by decide +kernel) (by decide +kernel)⟩, (by decide +kernel), (by decide +kernel), (by decide +kernel)⟩
theorem lk_X7_7 : ab_LS RX7 7 yX7_smallLetterWidth cX7_smallLetterWidth 1 (some .int) 1 := ⟨⟨Or.inl (xt 322 (by decide +kernel) (by decide +kernel)), xt 323 (by decide +kernel) (by decide +kernel), xt 10 (by decide +kernel) (by decide +kernel), xt 324 (by decide +kernel) (by decide +kernel)⟩, (by decide +kernel), (by decide +kernel), (by decide +kernel)⟩
theorem lk_X7_22 : ab_LS RX7 22 yX7_isOneOf cX7_isOneOf 2 (some .boolean) 2 := ⟨⟨Or.inl (xt 326 (by decide +kernel) (by decide +kernel)), xt 327 (by decide +kernel) (by decide +kernel), xt 10 (by decide +kernel) (by decide +kernel), xt 328 (by decide +kernel) (by decide +kernel)⟩, (by decide +kernel), (by decide +kernel), (by decide +kernel)⟩
theorem lk_X7_42 : ab_LV RX7 42 yJ0_indexOf_0f7a4 cJ0_indexOf_0f7a4 2 (some .int) 1 := ⟨⟨xt 329 (by decide +kernel) (by decide +kernel), xt 330 (by decide +kernel) (by decide +kernel), xt 331 (by decide +kernel) (by decide +kernel), xt 11 (by decide +kernel) (by decide +kernel), xt 332 (by decide +kernel) (by decide +kernel)⟩, (by decide +kernel), (by decide +kernel), (by decide +kernel)⟩
theorem lk_J0_633 : ab_LV RJ0 633 yJ0_indexOf_7cf53 cJ0_indexOf_7cf53 3 (some .int) 2 := ⟨⟨xt 333 (by decide +kernel) (by decide +kernel), xt 334 (by decide +kernel) (by decide +kernel), xt 335 (by decide +kernel) (by decide +kernel), xt 11 (by decide +kernel) (by decide +kernel), xt 336 (by decide +kernel) (by decide +kernel)⟩, (by decide +kernel), (by decide +kernel), (by decide +kernel)⟩
theorem lk_J0_492 : ab_LV RJ0 492 yJ0_isLatin1_aae02 cJ0_isLatin1_aae02 1 (some .boolean) 0 := ⟨⟨xt 337 (by decide +kernel) (by decide +kernel), xt 338 (by decide +kernel) (by decide +kernel), xt 339 (by decide +kernel) (by decide +kernel), xt 11 (by decide +kernel) (by decide +kernel), xt 340 (by decide +kernel) (by decide +kernel)⟩, (by decide +kernel), (by decide +kernel), (by decide +kernel)⟩
theorem lk_J0_505 : ab_LV RJ0 505 yJ0_length_8abf5 cJ0_length_8abf5 1 (some .int) 0 := ⟨⟨xt 343 (by decide +kernel) (by decide +kernel), xt 344 (by decide +kernel) (by decide +kernel), xt 345 (by decide +kernel) (by decide +kernel), xt 11 (by decide +kernel) (by decide +kernel), xt 346 (by decide +kernel) (by decide +kernel)⟩, (by decide +kernel), (by decide +kernel), (by decide +kernel)⟩
theorem lk_J0_335 : ab_LV RJ0 335 yJ0_coder_7d493 cJ0_coder_7d493 1 (some .byte) 0 := ⟨⟨xt 347 (by decide +kernel) (by decide +kernel), xt 348 (by decide +kernel) (by decide +kernel), xt 349 (by decide +kernel) (by decide +kernel), xt 11 (by decide +kernel) (by decide +kernel), xt 350 (by decide +kernel) (by decide +kernel)⟩, (by decide +kernel), (by decide +kernel), (by decide +kernel)⟩
theorem lk_J0_637 : ab_LS RJ0 637 yJ1_indexOf_4cfef cJ1_indexOf_4cfef 4 (some .int) 4 := ⟨⟨Or.inl (xt 351 (by decide +kernel) (by decide +kernel)), xt 352 (by decide +kernel) (by decide +kernel), xt 12 (by decide +kernel) (by decide +kernel), xt 353 (by decide +kernel) (by decide +kernel)⟩, (by decide +kernel), (by decide +kernel), (by decide +kernel)⟩
theorem lk_J1_88 : ab_LS RJ1 88 yJ1_canEncode_9a6ad cJ1_canEncode_9a6ad 1 (some .boolean) 1 := ⟨⟨Or.inl (xt 354 (by decide +kernel) (by decide +kernel)), xt 355 (by decide +kernel) (by decide +kernel), xt 12 (by decide +kernel) (by decide +kernel), xt 356 (by decide +kernel) (by decide +kernel)⟩, (by decide +kernel), (by decide +kernel), (by decide +kernel)⟩
theorem lk_J1_92 : Cond.methodLink RJ1 92 Lib.Math.max.name ∈ xtb := xt 357 (by decide +kernel) (by decide +kernel)
theorem lk_J1_38 : Cond.methodLink RJ1 38 Lib.Math.min.name ∈ xtb := xt 360 (by decide +kernel) (by decide +kernel)
theorem lk_J1_95 : ab_LS RJ1 95 yJ1_indexOfChar_4cfef cJ1_indexOfChar_4cfef 6 (some .int) 4 := ⟨⟨Or.inl (xt 363 (by decide +kernel) (by decide +kernel)), xt 364 (by decide +kernel) (by decide +kernel), xt 12 (by decide +kernel) (by decide +kernel), xt 365 (by decide +kernel) (by decide +kernel)⟩, (by decide +kernel), (by decide +kernel), (by decide +kernel)⟩
theorem lk_J0_1062 : ab_LS RJ0 1062 yJ3_checkFromToIndex_8c36e cJ3_checkFromToIndex_8c36e 4 (some .int) 4 := ⟨⟨Or.inl (xt 386 (by decide +kernel) (by decide +kernel)), xt 387 (by decide +kernel) (by decide +kernel), xt 15 (by decide +kernel) (by decide +kernel), xt 388 (by decide +kernel) (by decide +kernel)⟩, (by decide +kernel), (by decide +kernel), (by decide +kernel)⟩
theorem lk_X7_13 : ab_LS RX7 13 yX7_capitalWidth cX7_capitalWidth 1 (some .int) 1 := ⟨⟨Or.inl (xt 416 (by decide +kernel) (by decide +kernel)), xt 417 (by decide +kernel) (by decide +kernel), xt 10 (by decide +kernel) (by decide +kernel), xt 418 (by decide +kernel) (by decide +kernel)⟩, (by decide +kernel), (by decide +kernel), (by decide +kernel)⟩
theorem lk_X7_16 : ab_LS RX7 16 yX7_isDigit cX7_isDigit 1 (some .boolean) 1 := ⟨⟨Or.inl (xt 420 (by decide +kernel) (by decide +kernel)), xt 421 (by decide +kernel) (by decide +kernel), xt 10 (by decide +kernel) (by decide +kernel), xt 422 (by decide +kernel) (by decide +kernel)⟩, (by decide +kernel), (by decide +kernel), (by decide +kernel)⟩
theorem lk_X9_78 : ab_LV RX9 78 yX4_take cX4_take 6 none 1 := ⟨⟨xt 425 (by decide +kernel) (by decide +kernel), xt 426 (by decide +kernel) (by decide +kernel), xt 427 (by decide +kernel) (by decide +kernel), xt 3 (by decide +kernel) (by decide +kernel), xt 428 (by decide +kernel) (by decide +kernel)⟩, (by decide +kernel), (by decide +kernel), (by decide +kernel)⟩
theorem lk_X4_40 : ab_LV RX4 40 yX4_openWord cX4_openWord 2 none 1 := ⟨⟨xt 429 (by decide +kernel) (by decide +kernel), xt 431 (by decide +kernel) (by decide +kernel), xp 0 (by decide +kernel) (by decide +kernel), xt 3 (by decide +kernel) (by decide +kernel), xt 432 (by decide +kernel) (by decide +kernel)⟩, (by decide +kernel), (by decide +kernel), (by decide +kernel)⟩
theorem lk_X4_47 : ab_LS RX4 47 yX7_hangsLeft cX7_hangsLeft 1 (some .boolean) 1 := ⟨⟨Or.inl (xt 433 (by decide +kernel) (by decide +kernel)), xt 434 (by decide +kernel) (by decide +kernel), xt 10 (by decide +kernel) (by decide +kernel), xt 435 (by decide +kernel) (by decide +kernel)⟩, (by decide +kernel), (by decide +kernel), (by decide +kernel)⟩
theorem lk_X4_53 : ab_LS RX4 53 yX7_widthOf cX7_widthOf 1 (some .int) 1 := ⟨⟨Or.inl (xt 437 (by decide +kernel) (by decide +kernel)), xt 320 (by decide +kernel) (by decide +kernel), xt 10 (by decide +kernel) (by decide +kernel), xt 321 (by decide +kernel) (by decide +kernel)⟩, (by decide +kernel), (by decide +kernel), (by decide +kernel)⟩
theorem lk_X4_44 : ab_LV RX4 44 yX4_lengthenWord cX4_lengthenWord 4 none 1 := ⟨⟨xt 438 (by decide +kernel) (by decide +kernel), xt 440 (by decide +kernel) (by decide +kernel), xp 1 (by decide +kernel) (by decide +kernel), xt 3 (by decide +kernel) (by decide +kernel), xt 441 (by decide +kernel) (by decide +kernel)⟩, (by decide +kernel), (by decide +kernel), (by decide +kernel)⟩
theorem lk_X4_57 : ab_LS RX4 57 yX7_kindBehind cX7_kindBehind 1 (some .int) 1 := ⟨⟨Or.inl (xt 442 (by decide +kernel) (by decide +kernel)), xt 443 (by decide +kernel) (by decide +kernel), xt 10 (by decide +kernel) (by decide +kernel), xt 444 (by decide +kernel) (by decide +kernel)⟩, (by decide +kernel), (by decide +kernel), (by decide +kernel)⟩
theorem lk_X4_60 : ab_LS RX4 60 yX7_hangsRight cX7_hangsRight 1 (some .boolean) 1 := ⟨⟨Or.inl (xt 447 (by decide +kernel) (by decide +kernel)), xt 448 (by decide +kernel) (by decide +kernel), xt 10 (by decide +kernel) (by decide +kernel), xt 449 (by decide +kernel) (by decide +kernel)⟩, (by decide +kernel), (by decide +kernel), (by decide +kernel)⟩
theorem lk_X9_82 : ab_LV RX9 82 yX9_restoreBest cX9_restoreBest 1 (some .int) 0 := ⟨⟨xt 451 (by decide +kernel) (by decide +kernel), xt 453 (by decide +kernel) (by decide +kernel), xp 2 (by decide +kernel) (by decide +kernel), xt 1 (by decide +kernel) (by decide +kernel), xt 454 (by decide +kernel) (by decide +kernel)⟩, (by decide +kernel), (by decide +kernel), (by decide +kernel)⟩
theorem lk_X9_233 : ab_LV RX9 233 yX2_prepare cX2_prepare 6 none 0 := ⟨⟨xt 455 (by decide +kernel) (by decide +kernel), xt 456 (by decide +kernel) (by decide +kernel), xt 457 (by decide +kernel) (by decide +kernel), xt 4 (by decide +kernel) (by decide +kernel), xt 458 (by decide +kernel) (by decide +kernel)⟩, (by decide +kernel), (by decide +kernel), (by decide +kernel)⟩
theorem lk_X2_52 : ab_LS RX2 52 yX9_at cX9_at 2 (some .int) 2 := ⟨⟨Or.inr ⟨"RiverJustifier", by simp [xsN, RX2, yX9_at, RX9]⟩, xt 460 (by decide +kernel) (by decide +kernel), xt 1 (by decide +kernel) (by decide +kernel), xt 461 (by decide +kernel) (by decide +kernel)⟩, (by decide +kernel), (by decide +kernel), (by decide +kernel)⟩
theorem lk_X9_236 : ab_LV RX9 236 yX0_find cX0_find 4 none 0 := ⟨⟨xt 462 (by decide +kernel) (by decide +kernel), xt 463 (by decide +kernel) (by decide +kernel), xt 464 (by decide +kernel) (by decide +kernel), xt 5 (by decide +kernel) (by decide +kernel), xt 465 (by decide +kernel) (by decide +kernel)⟩, (by decide +kernel), (by decide +kernel), (by decide +kernel)⟩
theorem lk_X0_32 : ab_LV RX0 32 yX0_sumWith cX0_sumWith 5 (some .int) 2 := ⟨⟨xt 466 (by decide +kernel) (by decide +kernel), xt 467 (by decide +kernel) (by decide +kernel), xt 468 (by decide +kernel) (by decide +kernel), xt 5 (by decide +kernel) (by decide +kernel), xt 469 (by decide +kernel) (by decide +kernel)⟩, (by decide +kernel), (by decide +kernel), (by decide +kernel)⟩
theorem lk_X0_36 : ab_LS RX0 36 yX9_at cX9_at 2 (some .int) 2 := ⟨⟨Or.inr ⟨"RiverJustifier", by simp [xsN, RX0, yX9_at, RX9]⟩, xt 460 (by decide +kernel) (by decide +kernel), xt 1 (by decide +kernel) (by decide +kernel), xt 461 (by decide +kernel) (by decide +kernel)⟩, (by decide +kernel), (by decide +kernel), (by decide +kernel)⟩
theorem lk_X0_40 : ab_LV RX0 40 yX2_demerits cX2_demerits 5 (some .int) 2 := ⟨⟨xt 471 (by decide +kernel) (by decide +kernel), xt 472 (by decide +kernel) (by decide +kernel), xt 473 (by decide +kernel) (by decide +kernel), xt 4 (by decide +kernel) (by decide +kernel), xt 474 (by decide +kernel) (by decide +kernel)⟩, (by decide +kernel), (by decide +kernel), (by decide +kernel)⟩
theorem lk_X2_91 : ab_LV RX2 91 yX2_badness cX2_badness 6 (some .int) 2 := ⟨⟨xt 475 (by decide +kernel) (by decide +kernel), xt 476 (by decide +kernel) (by decide +kernel), xt 477 (by decide +kernel) (by decide +kernel), xt 4 (by decide +kernel) (by decide +kernel), xt 478 (by decide +kernel) (by decide +kernel)⟩, (by decide +kernel), (by decide +kernel), (by decide +kernel)⟩
theorem lk_X2_77 : ab_LV RX2 77 yX2_naturalWidth cX2_naturalWidth 5 (some .int) 2 := ⟨⟨xt 479 (by decide +kernel) (by decide +kernel), xt 480 (by decide +kernel) (by decide +kernel), xt 481 (by decide +kernel) (by decide +kernel), xt 4 (by decide +kernel) (by decide +kernel), xt 482 (by decide +kernel) (by decide +kernel)⟩, (by decide +kernel), (by decide +kernel), (by decide +kernel)⟩
theorem lk_X2_81 : ab_LV RX2 81 yX2_isEnd cX2_isEnd 2 (some .boolean) 1 := ⟨⟨xt 483 (by decide +kernel) (by decide +kernel), xt 484 (by decide +kernel) (by decide +kernel), xt 485 (by decide +kernel) (by decide +kernel), xt 4 (by decide +kernel) (by decide +kernel), xt 486 (by decide +kernel) (by decide +kernel)⟩, (by decide +kernel), (by decide +kernel), (by decide +kernel)⟩
theorem lk_X2_85 : Cond.methodLink RX2 85 Lib.Math.abs.name ∈ xtb := xt 487 (by decide +kernel) (by decide +kernel)
theorem lk_X9_118 : ab_LV RX9 118 yX1_becomeBest cX1_becomeBest 1 none 0 := ⟨⟨xt 490 (by decide +kernel) (by decide +kernel), xt 491 (by decide +kernel) (by decide +kernel), xt 492 (by decide +kernel) (by decide +kernel), xt 8 (by decide +kernel) (by decide +kernel), xt 493 (by decide +kernel) (by decide +kernel)⟩, (by decide +kernel), (by decide +kernel), (by decide +kernel)⟩
theorem lk_X1_93 : ab_LV RX1 93 yX0_exists cX0_exists 1 (some .boolean) 0 := ⟨⟨xt 494 (by decide +kernel) (by decide +kernel), xt 495 (by decide +kernel) (by decide +kernel), xt 496 (by decide +kernel) (by decide +kernel), xt 5 (by decide +kernel) (by decide +kernel), xt 497 (by decide +kernel) (by decide +kernel)⟩, (by decide +kernel), (by decide +kernel), (by decide +kernel)⟩
theorem lk_X1_97 : ab_LV RX1 97 yX1_goOnFrom cX1_goOnFrom 3 none 1 := ⟨⟨xt 498 (by decide +kernel) (by decide +kernel), xt 500 (by decide +kernel) (by decide +kernel), xp 3 (by decide +kernel) (by decide +kernel), xt 8 (by decide +kernel) (by decide +kernel), xt 501 (by decide +kernel) (by decide +kernel)⟩, (by decide +kernel), (by decide +kernel), (by decide +kernel)⟩
theorem lk_X1_61 : ab_LS RX1 61 yX9_at cX9_at 2 (some .int) 2 := ⟨⟨Or.inr ⟨"RiverJustifier", by simp [xsN, RX1, yX9_at, RX9]⟩, xt 460 (by decide +kernel) (by decide +kernel), xt 1 (by decide +kernel) (by decide +kernel), xt 461 (by decide +kernel) (by decide +kernel)⟩, (by decide +kernel), (by decide +kernel), (by decide +kernel)⟩
theorem lk_X1_101 : ab_LV RX1 101 yX1_settle cX1_settle 4 none 0 := ⟨⟨xt 503 (by decide +kernel) (by decide +kernel), xt 505 (by decide +kernel) (by decide +kernel), xp 4 (by decide +kernel) (by decide +kernel), xt 8 (by decide +kernel) (by decide +kernel), xt 506 (by decide +kernel) (by decide +kernel)⟩, (by decide +kernel), (by decide +kernel), (by decide +kernel)⟩
theorem lk_X1_70 : ab_LV RX1 70 yX1_firstWord cX1_firstWord 2 (some .int) 1 := ⟨⟨xt 507 (by decide +kernel) (by decide +kernel), xt 508 (by decide +kernel) (by decide +kernel), xt 509 (by decide +kernel) (by decide +kernel), xt 8 (by decide +kernel) (by decide +kernel), xt 510 (by decide +kernel) (by decide +kernel)⟩, (by decide +kernel), (by decide +kernel), (by decide +kernel)⟩
theorem lk_X1_57 : ab_LV RX1 57 yX1_hasLine cX1_hasLine 2 (some .boolean) 1 := ⟨⟨xt 511 (by decide +kernel) (by decide +kernel), xt 512 (by decide +kernel) (by decide +kernel), xt 513 (by decide +kernel) (by decide +kernel), xt 8 (by decide +kernel) (by decide +kernel), xt 514 (by decide +kernel) (by decide +kernel)⟩, (by decide +kernel), (by decide +kernel), (by decide +kernel)⟩
theorem lk_X1_74 : ab_LV RX1 74 yX1_lastWord cX1_lastWord 2 (some .int) 1 := ⟨⟨xt 515 (by decide +kernel) (by decide +kernel), xt 516 (by decide +kernel) (by decide +kernel), xt 517 (by decide +kernel) (by decide +kernel), xt 8 (by decide +kernel) (by decide +kernel), xt 518 (by decide +kernel) (by decide +kernel)⟩, (by decide +kernel), (by decide +kernel), (by decide +kernel)⟩
theorem lk_X1_104 : ab_LV RX1 104 yX4_hasWord cX4_hasWord 2 (some .boolean) 1 := ⟨⟨xt 519 (by decide +kernel) (by decide +kernel), xt 520 (by decide +kernel) (by decide +kernel), xt 521 (by decide +kernel) (by decide +kernel), xt 3 (by decide +kernel) (by decide +kernel), xt 522 (by decide +kernel) (by decide +kernel)⟩, (by decide +kernel), (by decide +kernel), (by decide +kernel)⟩
theorem lk_X1_77 : ab_LV RX1 77 yX2_demerits cX2_demerits 5 (some .int) 2 := ⟨⟨xt 523 (by decide +kernel) (by decide +kernel), xt 472 (by decide +kernel) (by decide +kernel), xt 473 (by decide +kernel) (by decide +kernel), xt 4 (by decide +kernel) (by decide +kernel), xt 474 (by decide +kernel) (by decide +kernel)⟩, (by decide +kernel), (by decide +kernel), (by decide +kernel)⟩
theorem lk_X1_110 : ab_LV RX1 110 yX1_shareOut cX1_shareOut 7 none 2 := ⟨⟨xt 524 (by decide +kernel) (by decide +kernel), xt 526 (by decide +kernel) (by decide +kernel), xp 5 (by decide +kernel) (by decide +kernel), xt 8 (by decide +kernel) (by decide +kernel), xt 527 (by decide +kernel) (by decide +kernel)⟩, (by decide +kernel), (by decide +kernel), (by decide +kernel)⟩
theorem lk_X1_136 : ab_LV RX1 136 yX2_naturalWidth cX2_naturalWidth 5 (some .int) 2 := ⟨⟨xt 528 (by decide +kernel) (by decide +kernel), xt 480 (by decide +kernel) (by decide +kernel), xt 481 (by decide +kernel) (by decide +kernel), xt 4 (by decide +kernel) (by decide +kernel), xt 482 (by decide +kernel) (by decide +kernel)⟩, (by decide +kernel), (by decide +kernel), (by decide +kernel)⟩
theorem lk_X1_139 : ab_LV RX1 139 yX2_isEnd cX2_isEnd 2 (some .boolean) 1 := ⟨⟨xt 529 (by decide +kernel) (by decide +kernel), xt 484 (by decide +kernel) (by decide +kernel), xt 485 (by decide +kernel) (by decide +kernel), xt 4 (by decide +kernel) (by decide +kernel), xt 486 (by decide +kernel) (by decide +kernel)⟩, (by decide +kernel), (by decide +kernel), (by decide +kernel)⟩
theorem lk_X1_142 : Cond.methodLink RX1 142 Lib.Math.abs.name ∈ xtb := xt 530 (by decide +kernel) (by decide +kernel)
theorem lk_X1_147 : ab_LV RX1 147 yX1_changeKind cX1_changeKind 9 (some .int) 5 := ⟨⟨xt 531 (by decide +kernel) (by decide +kernel), xt 533 (by decide +kernel) (by decide +kernel), xp 6 (by decide +kernel) (by decide +kernel), xt 8 (by decide +kernel) (by decide +kernel), xt 534 (by decide +kernel) (by decide +kernel)⟩, (by decide +kernel), (by decide +kernel), (by decide +kernel)⟩
theorem lk_X1_114 : ab_LV RX1 114 yX1_placeWords cX1_placeWords 6 none 3 := ⟨⟨xt 535 (by decide +kernel) (by decide +kernel), xt 537 (by decide +kernel) (by decide +kernel), xp 7 (by decide +kernel) (by decide +kernel), xt 8 (by decide +kernel) (by decide +kernel), xt 538 (by decide +kernel) (by decide +kernel)⟩, (by decide +kernel), (by decide +kernel), (by decide +kernel)⟩
theorem lk_X1_160 : ab_LV RX1 160 yX1_endOf cX1_endOf 2 (some .int) 1 := ⟨⟨xt 539 (by decide +kernel) (by decide +kernel), xt 540 (by decide +kernel) (by decide +kernel), xt 541 (by decide +kernel) (by decide +kernel), xt 8 (by decide +kernel) (by decide +kernel), xt 542 (by decide +kernel) (by decide +kernel)⟩, (by decide +kernel), (by decide +kernel), (by decide +kernel)⟩
theorem lk_X1_123 : ab_LV RX1 123 yX5_find cX5_find 5 none 3 := ⟨⟨xt 543 (by decide +kernel) (by decide +kernel), xt 544 (by decide +kernel) (by decide +kernel), xt 545 (by decide +kernel) (by decide +kernel), xt 9 (by decide +kernel) (by decide +kernel), xt 546 (by decide +kernel) (by decide +kernel)⟩, (by decide +kernel), (by decide +kernel), (by decide +kernel)⟩
theorem lk_X5_47 : ab_LV RX5 47 yX1_endOf cX1_endOf 2 (some .int) 1 := ⟨⟨xt 547 (by decide +kernel) (by decide +kernel), xt 540 (by decide +kernel) (by decide +kernel), xt 541 (by decide +kernel) (by decide +kernel), xt 8 (by decide +kernel) (by decide +kernel), xt 542 (by decide +kernel) (by decide +kernel)⟩, (by decide +kernel), (by decide +kernel), (by decide +kernel)⟩
theorem lk_X5_57 : ab_LV RX5 57 yX5_spaceAbove cX5_spaceAbove 9 (some .int) 3 := ⟨⟨xt 548 (by decide +kernel) (by decide +kernel), xt 550 (by decide +kernel) (by decide +kernel), xp 8 (by decide +kernel) (by decide +kernel), xt 9 (by decide +kernel) (by decide +kernel), xt 551 (by decide +kernel) (by decide +kernel)⟩, (by decide +kernel), (by decide +kernel), (by decide +kernel)⟩
theorem lk_X5_38 : ab_LS RX5 38 yX9_at cX9_at 2 (some .int) 2 := ⟨⟨Or.inr ⟨"RiverJustifier", by simp [xsN, RX5, yX9_at, RX9]⟩, xt 460 (by decide +kernel) (by decide +kernel), xt 1 (by decide +kernel) (by decide +kernel), xt 461 (by decide +kernel) (by decide +kernel)⟩, (by decide +kernel), (by decide +kernel), (by decide +kernel)⟩
theorem lk_X5_74 : Cond.methodLink RX5 74 Lib.Math.min.name ∈ xtb := xt 553 (by decide +kernel) (by decide +kernel)
theorem lk_X5_77 : Cond.methodLink RX5 77 Lib.Math.abs.name ∈ xtb := xt 554 (by decide +kernel) (by decide +kernel)
theorem lk_X5_61 : Cond.methodLink RX5 61 Lib.Math.max.name ∈ xtb := xt 555 (by decide +kernel) (by decide +kernel)
theorem lk_X5_67 : ab_LV RX5 67 yX5_collectEnds cX5_collectEnds 5 none 2 := ⟨⟨xt 556 (by decide +kernel) (by decide +kernel), xt 558 (by decide +kernel) (by decide +kernel), xp 9 (by decide +kernel) (by decide +kernel), xt 9 (by decide +kernel) (by decide +kernel), xt 559 (by decide +kernel) (by decide +kernel)⟩, (by decide +kernel), (by decide +kernel), (by decide +kernel)⟩
theorem lk_L_81 : ab_LV RL 81 yX9_command cX9_command 2 (some .int) 0 := ⟨⟨xt 561 (by decide +kernel) (by decide +kernel), xt 562 (by decide +kernel) (by decide +kernel), xt 563 (by decide +kernel) (by decide +kernel), xt 1 (by decide +kernel) (by decide +kernel), xt 564 (by decide +kernel) (by decide +kernel)⟩, (by decide +kernel), (by decide +kernel), (by decide +kernel)⟩
theorem lk_X9_89 : ab_LV RX9 89 yX3_parse cX3_parse 5 (some .int) 1 := ⟨⟨xt 565 (by decide +kernel) (by decide +kernel), xt 566 (by decide +kernel) (by decide +kernel), xt 567 (by decide +kernel) (by decide +kernel), xt 7 (by decide +kernel) (by decide +kernel), xt 568 (by decide +kernel) (by decide +kernel)⟩, (by decide +kernel), (by decide +kernel), (by decide +kernel)⟩
theorem lk_X3_22 : ab_LV RX3 22 yX8_endOfPiece cX8_endOfPiece 3 (some .int) 1 := ⟨⟨xt 569 (by decide +kernel) (by decide +kernel), xt 570 (by decide +kernel) (by decide +kernel), xt 571 (by decide +kernel) (by decide +kernel), xt 6 (by decide +kernel) (by decide +kernel), xt 572 (by decide +kernel) (by decide +kernel)⟩, (by decide +kernel), (by decide +kernel), (by decide +kernel)⟩
theorem lk_X3_28 : ab_LV RX3 28 yX3_takePiece cX3_takePiece 5 (some .boolean) 4 := ⟨⟨xt 573 (by decide +kernel) (by decide +kernel), xt 575 (by decide +kernel) (by decide +kernel), xp 10 (by decide +kernel) (by decide +kernel), xt 7 (by decide +kernel) (by decide +kernel), xt 576 (by decide +kernel) (by decide +kernel)⟩, (by decide +kernel), (by decide +kernel), (by decide +kernel)⟩
theorem lk_X3_54 : ab_LS RX3 54 yX3_subjectAt cX3_subjectAt 3 (some .int) 3 := ⟨⟨Or.inl (xt 577 (by decide +kernel) (by decide +kernel)), xt 578 (by decide +kernel) (by decide +kernel), xt 7 (by decide +kernel) (by decide +kernel), xt 579 (by decide +kernel) (by decide +kernel)⟩, (by decide +kernel), (by decide +kernel), (by decide +kernel)⟩
theorem lk_X3_80 : ab_LV RX3 80 yX8_isName cX8_isName 5 (some .boolean) 3 := ⟨⟨xt 581 (by decide +kernel) (by decide +kernel), xt 582 (by decide +kernel) (by decide +kernel), xt 583 (by decide +kernel) (by decide +kernel), xt 6 (by decide +kernel) (by decide +kernel), xt 584 (by decide +kernel) (by decide +kernel)⟩, (by decide +kernel), (by decide +kernel), (by decide +kernel)⟩
theorem lk_X8_25 : ab_LV RX8 25 yJ0_length_8abf5 cJ0_length_8abf5 1 (some .int) 0 := ⟨⟨xt 585 (by decide +kernel) (by decide +kernel), xt 344 (by decide +kernel) (by decide +kernel), xt 345 (by decide +kernel) (by decide +kernel), xt 11 (by decide +kernel) (by decide +kernel), xt 346 (by decide +kernel) (by decide +kernel)⟩, (by decide +kernel), (by decide +kernel), (by decide +kernel)⟩
theorem lk_X8_30 : ab_LV RX8 30 yJ0_charAt_5068e cJ0_charAt_5068e 2 (some .char) 1 := ⟨⟨xt 586 (by decide +kernel) (by decide +kernel), xt 587 (by decide +kernel) (by decide +kernel), xt 588 (by decide +kernel) (by decide +kernel), xt 11 (by decide +kernel) (by decide +kernel), xt 589 (by decide +kernel) (by decide +kernel)⟩, (by decide +kernel), (by decide +kernel), (by decide +kernel)⟩
theorem lk_J0_495 : ab_LS RJ0 495 yJ1_charAt_3b067 cJ1_charAt_3b067 2 (some .char) 2 := ⟨⟨Or.inl (xt 590 (by decide +kernel) (by decide +kernel)), xt 591 (by decide +kernel) (by decide +kernel), xt 12 (by decide +kernel) (by decide +kernel), xt 592 (by decide +kernel) (by decide +kernel)⟩, (by decide +kernel), (by decide +kernel), (by decide +kernel)⟩
theorem lk_J1_9 : ab_LS RJ1 9 yJ0_checkIndex_df160 cJ0_checkIndex_df160 2 none 2 := ⟨⟨Or.inl (xt 593 (by decide +kernel) (by decide +kernel)), xt 594 (by decide +kernel) (by decide +kernel), xt 11 (by decide +kernel) (by decide +kernel), xt 595 (by decide +kernel) (by decide +kernel)⟩, (by decide +kernel), (by decide +kernel), (by decide +kernel)⟩
theorem lk_J0_1059 : ab_LS RJ0 1059 yJ3_checkIndex_8e157 cJ3_checkIndex_8e157 3 (some .int) 3 := ⟨⟨Or.inl (xt 596 (by decide +kernel) (by decide +kernel)), xt 597 (by decide +kernel) (by decide +kernel), xt 15 (by decide +kernel) (by decide +kernel), xt 598 (by decide +kernel) (by decide +kernel)⟩, (by decide +kernel), (by decide +kernel), (by decide +kernel)⟩
theorem lk_X3_35 : ab_LV RX3 35 yX3_wantedPieces cX3_wantedPieces 1 (some .int) 0 := ⟨⟨xt 609 (by decide +kernel) (by decide +kernel), xt 611 (by decide +kernel) (by decide +kernel), xp 11 (by decide +kernel) (by decide +kernel), xt 7 (by decide +kernel) (by decide +kernel), xt 612 (by decide +kernel) (by decide +kernel)⟩, (by decide +kernel), (by decide +kernel), (by decide +kernel)⟩
theorem lk_X3_58 : ab_LV RX3 58 yX8_numberAt cX8_numberAt 5 (some .int) 2 := ⟨⟨xt 613 (by decide +kernel) (by decide +kernel), xt 614 (by decide +kernel) (by decide +kernel), xt 615 (by decide +kernel) (by decide +kernel), xt 6 (by decide +kernel) (by decide +kernel), xt 616 (by decide +kernel) (by decide +kernel)⟩, (by decide +kernel), (by decide +kernel), (by decide +kernel)⟩
theorem lk_X8_34 : ab_LS RX8 34 yX7_isDigit cX7_isDigit 1 (some .boolean) 1 := ⟨⟨Or.inl (xt 617 (by decide +kernel) (by decide +kernel)), xt 421 (by decide +kernel) (by decide +kernel), xt 10 (by decide +kernel) (by decide +kernel), xt 422 (by decide +kernel) (by decide +kernel)⟩, (by decide +kernel), (by decide +kernel), (by decide +kernel)⟩
theorem lk_X3_62 : ab_LV RX3 62 yX3_takeNumber cX3_takeNumber 3 (some .boolean) 2 := ⟨⟨xt 618 (by decide +kernel) (by decide +kernel), xt 620 (by decide +kernel) (by decide +kernel), xp 12 (by decide +kernel) (by decide +kernel), xt 7 (by decide +kernel) (by decide +kernel), xt 621 (by decide +kernel) (by decide +kernel)⟩, (by decide +kernel), (by decide +kernel), (by decide +kernel)⟩
theorem lk_X3_69 : ab_LV RX3 69 yX3_leastNumber cX3_leastNumber 2 (some .int) 1 := ⟨⟨xt 622 (by decide +kernel) (by decide +kernel), xt 624 (by decide +kernel) (by decide +kernel), xp 13 (by decide +kernel) (by decide +kernel), xt 7 (by decide +kernel) (by decide +kernel), xt 625 (by decide +kernel) (by decide +kernel)⟩, (by decide +kernel), (by decide +kernel), (by decide +kernel)⟩
theorem lk_X3_75 : ab_LS RX3 75 yX9_at cX9_at 2 (some .int) 2 := ⟨⟨Or.inr ⟨"RiverJustifier", by simp [xsN, RX3, yX9_at, RX9]⟩, xt 460 (by decide +kernel) (by decide +kernel), xt 1 (by decide +kernel) (by decide +kernel), xt 461 (by decide +kernel) (by decide +kernel)⟩, (by decide +kernel), (by decide +kernel), (by decide +kernel)⟩
theorem lk_X3_72 : ab_LV RX3 72 yX3_greatestNumber cX3_greatestNumber 1 (some .int) 0 := ⟨⟨xt 627 (by decide +kernel) (by decide +kernel), xt 629 (by decide +kernel) (by decide +kernel), xp 14 (by decide +kernel) (by decide +kernel), xt 7 (by decide +kernel) (by decide +kernel), xt 630 (by decide +kernel) (by decide +kernel)⟩, (by decide +kernel), (by decide +kernel), (by decide +kernel)⟩
theorem lk_X3_66 : ab_LS RX3 66 yX3_kindAt cX3_kindAt 3 (some .int) 3 := ⟨⟨Or.inl (xt 631 (by decide +kernel) (by decide +kernel)), xt 632 (by decide +kernel) (by decide +kernel), xt 7 (by decide +kernel) (by decide +kernel), xt 633 (by decide +kernel) (by decide +kernel)⟩, (by decide +kernel), (by decide +kernel), (by decide +kernel)⟩
theorem lk_X9_93 : ab_LV RX9 93 yX3_applyTo cX3_applyTo 2 none 1 := ⟨⟨xt 637 (by decide +kernel) (by decide +kernel), xt 638 (by decide +kernel) (by decide +kernel), xt 639 (by decide +kernel) (by decide +kernel), xt 7 (by decide +kernel) (by decide +kernel), xt 640 (by decide +kernel) (by decide +kernel)⟩, (by decide +kernel), (by decide +kernel), (by decide +kernel)⟩
theorem lk_X3_50 : ab_LV RX3 50 yX6_putWidths cX6_putWidths 5 none 4 := ⟨⟨xt 641 (by decide +kernel) (by decide +kernel), xt 642 (by decide +kernel) (by decide +kernel), xt 643 (by decide +kernel) (by decide +kernel), xt 2 (by decide +kernel) (by decide +kernel), xt 644 (by decide +kernel) (by decide +kernel)⟩, (by decide +kernel), (by decide +kernel), (by decide +kernel)⟩
theorem lk_X6_29 : ab_LS RX6 29 yX9_isKind cX9_isKind 1 (some .boolean) 1 := ⟨⟨Or.inr ⟨"RiverJustifier", by simp [xsN, RX6, yX9_isKind, RX9]⟩, xt 646 (by decide +kernel) (by decide +kernel), xt 1 (by decide +kernel) (by decide +kernel), xt 647 (by decide +kernel) (by decide +kernel)⟩, (by decide +kernel), (by decide +kernel), (by decide +kernel)⟩
theorem lk_L_91 : ab_LV RL 91 yX9_setMeasure cX9_setMeasure 3 (some .int) 1 := ⟨⟨xt 648 (by decide +kernel) (by decide +kernel), xt 649 (by decide +kernel) (by decide +kernel), xt 650 (by decide +kernel) (by decide +kernel), xt 1 (by decide +kernel) (by decide +kernel), xt 651 (by decide +kernel) (by decide +kernel)⟩, (by decide +kernel), (by decide +kernel), (by decide +kernel)⟩
theorem lk_L_97 : ab_LV RL 97 yX9_setTolerance cX9_setTolerance 3 (some .int) 1 := ⟨⟨xt 652 (by decide +kernel) (by decide +kernel), xt 653 (by decide +kernel) (by decide +kernel), xt 654 (by decide +kernel) (by decide +kernel), xt 1 (by decide +kernel) (by decide +kernel), xt 655 (by decide +kernel) (by decide +kernel)⟩, (by decide +kernel), (by decide +kernel), (by decide +kernel)⟩
theorem lk_L_68 : ab_LV RL 68 yX9_layBest cX9_layBest 1 (some .int) 0 := ⟨⟨xt 656 (by decide +kernel) (by decide +kernel), xt 657 (by decide +kernel) (by decide +kernel), xt 658 (by decide +kernel) (by decide +kernel), xt 1 (by decide +kernel) (by decide +kernel), xt 659 (by decide +kernel) (by decide +kernel)⟩, (by decide +kernel), (by decide +kernel), (by decide +kernel)⟩
theorem lk_L_36 : ab_LV RL 36 yX9_count cX9_count 2 (some .int) 1 := ⟨⟨xt 660 (by decide +kernel) (by decide +kernel), xt 661 (by decide +kernel) (by decide +kernel), xt 662 (by decide +kernel) (by decide +kernel), xt 1 (by decide +kernel) (by decide +kernel), xt 663 (by decide +kernel) (by decide +kernel)⟩, (by decide +kernel), (by decide +kernel), (by decide +kernel)⟩
theorem lk_X9_141 : ab_LV RX9 141 yX0_exists cX0_exists 1 (some .boolean) 0 := ⟨⟨xt 664 (by decide +kernel) (by decide +kernel), xt 495 (by decide +kernel) (by decide +kernel), xt 496 (by decide +kernel) (by decide +kernel), xt 5 (by decide +kernel) (by decide +kernel), xt 497 (by decide +kernel) (by decide +kernel)⟩, (by decide +kernel), (by decide +kernel), (by decide +kernel)⟩
theorem lk_L_15 : ab_LV RL 15 yX9_clearText cX9_clearText 1 (some .int) 0 := ⟨⟨xt 676 (by decide +kernel) (by decide +kernel), xt 677 (by decide +kernel) (by decide +kernel), xt 678 (by decide +kernel) (by decide +kernel), xt 1 (by decide +kernel) (by decide +kernel), xt 679 (by decide +kernel) (by decide +kernel)⟩, (by decide +kernel), (by decide +kernel), (by decide +kernel)⟩
theorem lk_X9_71 : ab_LV RX9 71 yX8_empty cX8_empty 2 (some .int) 0 := ⟨⟨xt 680 (by decide +kernel) (by decide +kernel), xt 681 (by decide +kernel) (by decide +kernel), xt 682 (by decide +kernel) (by decide +kernel), xt 6 (by decide +kernel) (by decide +kernel), xt 683 (by decide +kernel) (by decide +kernel)⟩, (by decide +kernel), (by decide +kernel), (by decide +kernel)⟩
theorem lk_L_29 : ab_LV RL 29 yX9_type cX9_type 2 (some .int) 1 := ⟨⟨xt 687 (by decide +kernel) (by decide +kernel), xt 688 (by decide +kernel) (by decide +kernel), xt 689 (by decide +kernel) (by decide +kernel), xt 1 (by decide +kernel) (by decide +kernel), xt 690 (by decide +kernel) (by decide +kernel)⟩, (by decide +kernel), (by decide +kernel), (by decide +kernel)⟩
theorem lk_X9_67 : ab_LV RX9 67 yX8_append cX8_append 2 (some .int) 1 := ⟨⟨xt 691 (by decide +kernel) (by decide +kernel), xt 692 (by decide +kernel) (by decide +kernel), xt 693 (by decide +kernel) (by decide +kernel), xt 6 (by decide +kernel) (by decide +kernel), xt 694 (by decide +kernel) (by decide +kernel)⟩, (by decide +kernel), (by decide +kernel), (by decide +kernel)⟩
theorem lk_L_40 : ab_LV RL 40 yX9_word cX9_word 3 (some .int) 2 := ⟨⟨xt 695 (by decide +kernel) (by decide +kernel), xt 696 (by decide +kernel) (by decide +kernel), xt 697 (by decide +kernel) (by decide +kernel), xt 1 (by decide +kernel) (by decide +kernel), xt 698 (by decide +kernel) (by decide +kernel)⟩, (by decide +kernel), (by decide +kernel), (by decide +kernel)⟩
theorem lk_X9_169 : ab_LV RX9 169 yX4_hasWord cX4_hasWord 2 (some .boolean) 1 := ⟨⟨xt 699 (by decide +kernel) (by decide +kernel), xt 520 (by decide +kernel) (by decide +kernel), xt 521 (by decide +kernel) (by decide +kernel), xt 3 (by decide +kernel) (by decide +kernel), xt 522 (by decide +kernel) (by decide +kernel)⟩, (by decide +kernel), (by decide +kernel), (by decide +kernel)⟩
theorem lk_L_43 : ab_LV RL 43 yX9_line cX9_line 5 (some .int) 2 := ⟨⟨xt 703 (by decide +kernel) (by decide +kernel), xt 704 (by decide +kernel) (by decide +kernel), xt 705 (by decide +kernel) (by decide +kernel), xt 1 (by decide +kernel) (by decide +kernel), xt 706 (by decide +kernel) (by decide +kernel)⟩, (by decide +kernel), (by decide +kernel), (by decide +kernel)⟩
theorem lk_X9_124 : ab_LV RX9 124 yX1_hasLine cX1_hasLine 2 (some .boolean) 1 := ⟨⟨xt 707 (by decide +kernel) (by decide +kernel), xt 512 (by decide +kernel) (by decide +kernel), xt 513 (by decide +kernel) (by decide +kernel), xt 8 (by decide +kernel) (by decide +kernel), xt 514 (by decide +kernel) (by decide +kernel)⟩, (by decide +kernel), (by decide +kernel), (by decide +kernel)⟩
theorem lk_X9_184 : ab_LV RX9 184 yX1_firstWord cX1_firstWord 2 (some .int) 1 := ⟨⟨xt 708 (by decide +kernel) (by decide +kernel), xt 508 (by decide +kernel) (by decide +kernel), xt 509 (by decide +kernel) (by decide +kernel), xt 8 (by decide +kernel) (by decide +kernel), xt 510 (by decide +kernel) (by decide +kernel)⟩, (by decide +kernel), (by decide +kernel), (by decide +kernel)⟩
theorem lk_X9_187 : ab_LV RX9 187 yX1_lastWord cX1_lastWord 2 (some .int) 1 := ⟨⟨xt 709 (by decide +kernel) (by decide +kernel), xt 516 (by decide +kernel) (by decide +kernel), xt 517 (by decide +kernel) (by decide +kernel), xt 8 (by decide +kernel) (by decide +kernel), xt 518 (by decide +kernel) (by decide +kernel)⟩, (by decide +kernel), (by decide +kernel), (by decide +kernel)⟩
theorem lk_X9_190 : ab_LV RX9 190 yX2_naturalWidth cX2_naturalWidth 5 (some .int) 2 := ⟨⟨xt 710 (by decide +kernel) (by decide +kernel), xt 480 (by decide +kernel) (by decide +kernel), xt 481 (by decide +kernel) (by decide +kernel), xt 4 (by decide +kernel) (by decide +kernel), xt 482 (by decide +kernel) (by decide +kernel)⟩, (by decide +kernel), (by decide +kernel), (by decide +kernel)⟩
theorem lk_X9_194 : ab_LV RX9 194 yX2_badness cX2_badness 6 (some .int) 2 := ⟨⟨xt 711 (by decide +kernel) (by decide +kernel), xt 476 (by decide +kernel) (by decide +kernel), xt 477 (by decide +kernel) (by decide +kernel), xt 4 (by decide +kernel) (by decide +kernel), xt 478 (by decide +kernel) (by decide +kernel)⟩, (by decide +kernel), (by decide +kernel), (by decide +kernel)⟩
theorem lk_X9_197 : ab_LV RX9 197 yX2_demerits cX2_demerits 5 (some .int) 2 := ⟨⟨xt 712 (by decide +kernel) (by decide +kernel), xt 472 (by decide +kernel) (by decide +kernel), xt 473 (by decide +kernel) (by decide +kernel), xt 4 (by decide +kernel) (by decide +kernel), xt 474 (by decide +kernel) (by decide +kernel)⟩, (by decide +kernel), (by decide +kernel), (by decide +kernel)⟩
theorem lk_X9_202 : ab_LS RX9 202 yX9_at cX9_at 2 (some .int) 2 := ⟨⟨Or.inl (xt 713 (by decide +kernel) (by decide +kernel)), xt 460 (by decide +kernel) (by decide +kernel), xt 1 (by decide +kernel) (by decide +kernel), xt 461 (by decide +kernel) (by decide +kernel)⟩, (by decide +kernel), (by decide +kernel), (by decide +kernel)⟩
theorem lk_X9_209 : ab_LV RX9 209 yX1_endOf cX1_endOf 2 (some .int) 1 := ⟨⟨xt 714 (by decide +kernel) (by decide +kernel), xt 540 (by decide +kernel) (by decide +kernel), xt 541 (by decide +kernel) (by decide +kernel), xt 8 (by decide +kernel) (by decide +kernel), xt 542 (by decide +kernel) (by decide +kernel)⟩, (by decide +kernel), (by decide +kernel), (by decide +kernel)⟩
theorem lk_L_46 : ab_LV RL 46 yX9_begin cX9_begin 2 (some .int) 1 := ⟨⟨xt 715 (by decide +kernel) (by decide +kernel), xt 716 (by decide +kernel) (by decide +kernel), xt 717 (by decide +kernel) (by decide +kernel), xt 1 (by decide +kernel) (by decide +kernel), xt 718 (by decide +kernel) (by decide +kernel)⟩, (by decide +kernel), (by decide +kernel), (by decide +kernel)⟩
theorem lk_L_49 : ab_LV RL 49 yX9_space cX9_space 6 (some .int) 3 := ⟨⟨xt 719 (by decide +kernel) (by decide +kernel), xt 720 (by decide +kernel) (by decide +kernel), xt 721 (by decide +kernel) (by decide +kernel), xt 1 (by decide +kernel) (by decide +kernel), xt 722 (by decide +kernel) (by decide +kernel)⟩, (by decide +kernel), (by decide +kernel), (by decide +kernel)⟩
theorem lk_L_53 : ab_LV RL 53 yX9_spaceWidth cX9_spaceWidth 3 (some .int) 2 := ⟨⟨xt 723 (by decide +kernel) (by decide +kernel), xt 724 (by decide +kernel) (by decide +kernel), xt 725 (by decide +kernel) (by decide +kernel), xt 1 (by decide +kernel) (by decide +kernel), xt 726 (by decide +kernel) (by decide +kernel)⟩, (by decide +kernel), (by decide +kernel), (by decide +kernel)⟩
theorem lk_X9_106 : ab_LS RX9 106 yX9_isKind cX9_isKind 1 (some .boolean) 1 := ⟨⟨Or.inl (xt 727 (by decide +kernel) (by decide +kernel)), xt 646 (by decide +kernel) (by decide +kernel), xt 1 (by decide +kernel) (by decide +kernel), xt 647 (by decide +kernel) (by decide +kernel)⟩, (by decide +kernel), (by decide +kernel), (by decide +kernel)⟩
theorem lk_L_56 : ab_LV RL 56 yX9_second cX9_second 4 (some .int) 2 := ⟨⟨xt 728 (by decide +kernel) (by decide +kernel), xt 729 (by decide +kernel) (by decide +kernel), xt 730 (by decide +kernel) (by decide +kernel), xt 1 (by decide +kernel) (by decide +kernel), xt 731 (by decide +kernel) (by decide +kernel)⟩, (by decide +kernel), (by decide +kernel), (by decide +kernel)⟩
theorem lk_X9_127 : ab_LV RX9 127 yX1_secondLast cX1_secondLast 8 (some .int) 1 := ⟨⟨xt 732 (by decide +kernel) (by decide +kernel), xt 733 (by decide +kernel) (by decide +kernel), xt 734 (by decide +kernel) (by decide +kernel), xt 8 (by decide +kernel) (by decide +kernel), xt 735 (by decide +kernel) (by decide +kernel)⟩, (by decide +kernel), (by decide +kernel), (by decide +kernel)⟩
theorem lk_X1_88 : ab_LV RX1 88 yX0_sumWith cX0_sumWith 5 (some .int) 2 := ⟨⟨xt 736 (by decide +kernel) (by decide +kernel), xt 467 (by decide +kernel) (by decide +kernel), xt 468 (by decide +kernel) (by decide +kernel), xt 5 (by decide +kernel) (by decide +kernel), xt 469 (by decide +kernel) (by decide +kernel)⟩, (by decide +kernel), (by decide +kernel), (by decide +kernel)⟩
theorem lk_X9_221 : ab_LV RX9 221 yX1_demeritsBefore cX1_demeritsBefore 4 (some .int) 1 := ⟨⟨xt 737 (by decide +kernel) (by decide +kernel), xt 738 (by decide +kernel) (by decide +kernel), xt 739 (by decide +kernel) (by decide +kernel), xt 8 (by decide +kernel) (by decide +kernel), xt 740 (by decide +kernel) (by decide +kernel)⟩, (by decide +kernel), (by decide +kernel), (by decide +kernel)⟩
theorem lk_X9_224 : ab_LV RX9 224 yX0_sumWith cX0_sumWith 5 (some .int) 2 := ⟨⟨xt 741 (by decide +kernel) (by decide +kernel), xt 467 (by decide +kernel) (by decide +kernel), xt 468 (by decide +kernel) (by decide +kernel), xt 5 (by decide +kernel) (by decide +kernel), xt 469 (by decide +kernel) (by decide +kernel)⟩, (by decide +kernel), (by decide +kernel), (by decide +kernel)⟩
theorem lk_L_59 : ab_LV RL 59 yX9_takeSecond cX9_takeSecond 3 (some .int) 1 := ⟨⟨xt 742 (by decide +kernel) (by decide +kernel), xt 743 (by decide +kernel) (by decide +kernel), xt 744 (by decide +kernel) (by decide +kernel), xt 1 (by decide +kernel) (by decide +kernel), xt 745 (by decide +kernel) (by decide +kernel)⟩, (by decide +kernel), (by decide +kernel), (by decide +kernel)⟩
theorem lk_X9_131 : ab_LV RX9 131 yX1_endLineWith cX1_endLineWith 3 none 2 := ⟨⟨xt 746 (by decide +kernel) (by decide +kernel), xt 747 (by decide +kernel) (by decide +kernel), xt 748 (by decide +kernel) (by decide +kernel), xt 8 (by decide +kernel) (by decide +kernel), xt 749 (by decide +kernel) (by decide +kernel)⟩, (by decide +kernel), (by decide +kernel), (by decide +kernel)⟩
theorem lk_L_62 : ab_LV RL 62 yX9_river cX9_river 5 (some .int) 2 := ⟨⟨xt 753 (by decide +kernel) (by decide +kernel), xt 754 (by decide +kernel) (by decide +kernel), xt 755 (by decide +kernel) (by decide +kernel), xt 1 (by decide +kernel) (by decide +kernel), xt 756 (by decide +kernel) (by decide +kernel)⟩, (by decide +kernel), (by decide +kernel), (by decide +kernel)⟩
theorem lk_X9_230 : ab_LV RX9 230 yX5_spaceOf cX5_spaceOf 5 (some .int) 2 := ⟨⟨xt 757 (by decide +kernel) (by decide +kernel), xt 758 (by decide +kernel) (by decide +kernel), xt 759 (by decide +kernel) (by decide +kernel), xt 9 (by decide +kernel) (by decide +kernel), xt 760 (by decide +kernel) (by decide +kernel)⟩, (by decide +kernel), (by decide +kernel), (by decide +kernel)⟩
theorem lk_L_65 : ab_LV RL 65 yX9_worst cX9_worst 3 (some .int) 1 := ⟨⟨xt 761 (by decide +kernel) (by decide +kernel), xt 762 (by decide +kernel) (by decide +kernel), xt 763 (by decide +kernel) (by decide +kernel), xt 1 (by decide +kernel) (by decide +kernel), xt 764 (by decide +kernel) (by decide +kernel)⟩, (by decide +kernel), (by decide +kernel), (by decide +kernel)⟩
theorem lk_X9_227 : ab_LV RX9 227 yX1_linesWorseThan cX1_linesWorseThan 6 (some .int) 1 := ⟨⟨xt 765 (by decide +kernel) (by decide +kernel), xt 766 (by decide +kernel) (by decide +kernel), xt 767 (by decide +kernel) (by decide +kernel), xt 8 (by decide +kernel) (by decide +kernel), xt 768 (by decide +kernel) (by decide +kernel)⟩, (by decide +kernel), (by decide +kernel), (by decide +kernel)⟩
theorem lk_X1_82 : ab_LV RX1 82 yX2_badness cX2_badness 6 (some .int) 2 := ⟨⟨xt 769 (by decide +kernel) (by decide +kernel), xt 476 (by decide +kernel) (by decide +kernel), xt 477 (by decide +kernel) (by decide +kernel), xt 4 (by decide +kernel) (by decide +kernel), xt 478 (by decide +kernel) (by decide +kernel)⟩, (by decide +kernel), (by decide +kernel), (by decide +kernel)⟩
theorem lk_L_71 : ab_LV RL 71 yX9_breakRivers cX9_breakRivers 3 (some .int) 0 := ⟨⟨xt 773 (by decide +kernel) (by decide +kernel), xt 774 (by decide +kernel) (by decide +kernel), xt 775 (by decide +kernel) (by decide +kernel), xt 1 (by decide +kernel) (by decide +kernel), xt 776 (by decide +kernel) (by decide +kernel)⟩, (by decide +kernel), (by decide +kernel), (by decide +kernel)⟩
theorem lk_X9_135 : ab_LV RX9 135 yX9_calmingLine cX9_calmingLine 8 (some .int) 0 := ⟨⟨xt 777 (by decide +kernel) (by decide +kernel), xt 779 (by decide +kernel) (by decide +kernel), xp 15 (by decide +kernel) (by decide +kernel), xt 1 (by decide +kernel) (by decide +kernel), xt 780 (by decide +kernel) (by decide +kernel)⟩, (by decide +kernel), (by decide +kernel), (by decide +kernel)⟩
theorem lk_X9_239 : ab_LV RX9 239 yX1_copyBreaks cX1_copyBreaks 3 none 1 := ⟨⟨xt 781 (by decide +kernel) (by decide +kernel), xt 782 (by decide +kernel) (by decide +kernel), xt 783 (by decide +kernel) (by decide +kernel), xt 8 (by decide +kernel) (by decide +kernel), xt 784 (by decide +kernel) (by decide +kernel)⟩, (by decide +kernel), (by decide +kernel), (by decide +kernel)⟩
theorem lk_L_87 : ab_LV RL 87 yX9_setSpace cX9_setSpace 6 (some .int) 4 := ⟨⟨xt 794 (by decide +kernel) (by decide +kernel), xt 795 (by decide +kernel) (by decide +kernel), xt 796 (by decide +kernel) (by decide +kernel), xt 1 (by decide +kernel) (by decide +kernel), xt 797 (by decide +kernel) (by decide +kernel)⟩, (by decide +kernel), (by decide +kernel), (by decide +kernel)⟩
theorem lk_X9_114 : ab_LV RX9 114 yX6_putWidths cX6_putWidths 5 none 4 := ⟨⟨xt 798 (by decide +kernel) (by decide +kernel), xt 642 (by decide +kernel) (by decide +kernel), xt 643 (by decide +kernel) (by decide +kernel), xt 2 (by decide +kernel) (by decide +kernel), xt 644 (by decide +kernel) (by decide +kernel)⟩, (by decide +kernel), (by decide +kernel), (by decide +kernel)⟩
theorem lk_L_94 : ab_LV RL 94 yX9_setHang cX9_setHang 3 (some .int) 1 := ⟨⟨xt 799 (by decide +kernel) (by decide +kernel), xt 800 (by decide +kernel) (by decide +kernel), xt 801 (by decide +kernel) (by decide +kernel), xt 1 (by decide +kernel) (by decide +kernel), xt 802 (by decide +kernel) (by decide +kernel)⟩, (by decide +kernel), (by decide +kernel), (by decide +kernel)⟩
theorem ln_L_16 : Cond.classLink RL 16 RX9 ∈ xtb ∧ Cond.instantiable RX9 8 ∈ xtb ∧ Cond.initialized RX9 ∈ xtb := ⟨xt 17 (by decide +kernel) (by decide +kernel), xt 18 (by decide +kernel) (by decide +kernel), xt 1 (by decide +kernel) (by decide +kernel)⟩
theorem ln_X9_7 : Cond.classLink RX9 7 RX6 ∈ xtb ∧ Cond.instantiable RX6 6 ∈ xtb ∧ Cond.initialized RX6 ∈ xtb := ⟨xt 25 (by decide +kernel) (by decide +kernel), xt 26 (by decide +kernel) (by decide +kernel), xt 2 (by decide +kernel) (by decide +kernel)⟩
theorem ln_X9_10 : Cond.classLink RX9 10 RX4 ∈ xtb ∧ Cond.instantiable RX4 6 ∈ xtb ∧ Cond.initialized RX4 ∈ xtb := ⟨xt 70 (by decide +kernel) (by decide +kernel), xt 71 (by decide +kernel) (by decide +kernel), xt 3 (by decide +kernel) (by decide +kernel)⟩
theorem ln_X9_13 : Cond.classLink RX9 13 RX2 ∈ xtb ∧ Cond.instantiable RX2 8 ∈ xtb ∧ Cond.initialized RX2 ∈ xtb := ⟨xt 109 (by decide +kernel) (by decide +kernel), xt 110 (by decide +kernel) (by decide +kernel), xt 4 (by decide +kernel) (by decide +kernel)⟩
theorem ln_X9_18 : Cond.classLink RX9 18 RX0 ∈ xtb ∧ Cond.instantiable RX0 4 ∈ xtb ∧ Cond.initialized RX0 ∈ xtb := ⟨xt 143 (by decide +kernel) (by decide +kernel), xt 144 (by decide +kernel) (by decide +kernel), xt 5 (by decide +kernel) (by decide +kernel)⟩
theorem ln_X9_23 : Cond.classLink RX9 23 RX8 ∈ xtb ∧ Cond.instantiable RX8 2 ∈ xtb ∧ Cond.initialized RX8 ∈ xtb := ⟨xt 164 (by decide +kernel) (by decide +kernel), xt 165 (by decide +kernel) (by decide +kernel), xt 6 (by decide +kernel) (by decide +kernel)⟩
theorem ln_X9_32 : Cond.classLink RX9 32 RX3 ∈ xtb ∧ Cond.instantiable RX3 3 ∈ xtb ∧ Cond.initialized RX3 ∈ xtb := ⟨xt 181 (by decide +kernel) (by decide +kernel), xt 182 (by decide +kernel) (by decide +kernel), xt 7 (by decide +kernel) (by decide +kernel)⟩
theorem ln_X9_55 : Cond.classLink RX9 55 RX1 ∈ xtb ∧ Cond.instantiable RX1 12 ∈ xtb ∧ Cond.initialized RX1 ∈ xtb := ⟨xt 197 (by decide +kernel) (by decide +kernel), xt 198 (by decide +kernel) (by decide +kernel), xt 8 (by decide +kernel) (by decide +kernel)⟩
theorem ln_X1_50 : Cond.classLink RX1 50 RX5 ∈ xtb ∧ Cond.instantiable RX5 8 ∈ xtb ∧ Cond.initialized RX5 ∈ xtb := ⟨xt 203 (by decide +kernel) (by decide +kernel), xt 204 (by decide +kernel) (by decide +kernel), xt 9 (by decide +kernel) (by decide +kernel)⟩
theorem pn_X0_init : plainName yX0_init.cls = true := by decide +kernel
theorem pn_X0_exists : plainName yX0_exists.cls = true := by decide +kernel
theorem pn_X0_find : plainName yX0_find.cls = true := by decide +kernel
theorem pn_X0_sumWith : plainName yX0_sumWith.cls = true := by decide +kernel
theorem pn_X1_init : plainName yX1_init.cls = true := by decide +kernel
theorem pn_X1_hasLine : plainName yX1_hasLine.cls = true := by decide +kernel
theorem pn_X1_firstWord : plainName yX1_firstWord.cls = true := by decide +kernel
theorem pn_X1_lastWord : plainName yX1_lastWord.cls = true := by decide +kernel
theorem pn_X1_endOf : plainName yX1_endOf.cls = true := by decide +kernel
theorem pn_X1_demeritsBefore : plainName yX1_demeritsBefore.cls = true := by decide +kernel
theorem pn_X1_linesWorseThan : plainName yX1_linesWorseThan.cls = true := by decide +kernel
theorem pn_X1_secondLast : plainName yX1_secondLast.cls = true := by decide +kernel
theorem pn_X1_becomeBest : plainName yX1_becomeBest.cls = true := by decide +kernel
theorem pn_X1_copyBreaks : plainName yX1_copyBreaks.cls = true := by decide +kernel
theorem pn_X1_endLineWith : plainName yX1_endLineWith.cls = true := by decide +kernel
theorem pn_X1_goOnFrom : plainName yX1_goOnFrom.cls = true := by decide +kernel
theorem pn_X1_settle : plainName yX1_settle.cls = true := by decide +kernel
theorem pn_X1_shareOut : plainName yX1_shareOut.cls = true := by decide +kernel
theorem pn_X1_changeKind : plainName yX1_changeKind.cls = true := by decide +kernel
theorem pn_X1_placeWords : plainName yX1_placeWords.cls = true := by decide +kernel
theorem pn_X2_init : plainName yX2_init.cls = true := by decide +kernel
theorem pn_X2_prepare : plainName yX2_prepare.cls = true := by decide +kernel
theorem pn_X2_isEnd : plainName yX2_isEnd.cls = true := by decide +kernel
theorem pn_X2_naturalWidth : plainName yX2_naturalWidth.cls = true := by decide +kernel
theorem pn_X2_badness : plainName yX2_badness.cls = true := by decide +kernel
theorem pn_X2_demerits : plainName yX2_demerits.cls = true := by decide +kernel
theorem pn_X3_init : plainName yX3_init.cls = true := by decide +kernel
theorem pn_X3_parse : plainName yX3_parse.cls = true := by decide +kernel
theorem pn_X3_applyTo : plainName yX3_applyTo.cls = true := by decide +kernel
theorem pn_X3_wantedPieces : plainName yX3_wantedPieces.cls = true := by decide +kernel
theorem pn_X3_takePiece : plainName yX3_takePiece.cls = true := by decide +kernel
theorem pn_X3_takeNumber : plainName yX3_takeNumber.cls = true := by decide +kernel
theorem pn_X3_leastNumber : plainName yX3_leastNumber.cls = true := by decide +kernel
theorem pn_X3_greatestNumber : plainName yX3_greatestNumber.cls = true := by decide +kernel
theorem pn_X3_subjectAt : plainName yX3_subjectAt.cls = true := by decide +kernel
theorem pn_X3_kindAt : plainName yX3_kindAt.cls = true := by decide +kernel
theorem pn_X4_init : plainName yX4_init.cls = true := by decide +kernel
theorem pn_X4_hasWord : plainName yX4_hasWord.cls = true := by decide +kernel
theorem pn_X4_take : plainName yX4_take.cls = true := by decide +kernel
theorem pn_X4_openWord : plainName yX4_openWord.cls = true := by decide +kernel
theorem pn_X4_lengthenWord : plainName yX4_lengthenWord.cls = true := by decide +kernel
theorem pn_X5_init : plainName yX5_init.cls = true := by decide +kernel
theorem pn_X5_spaceOf : plainName yX5_spaceOf.cls = true := by decide +kernel
theorem pn_X5_find : plainName yX5_find.cls = true := by decide +kernel
theorem pn_X5_spaceAbove : plainName yX5_spaceAbove.cls = true := by decide +kernel
theorem pn_X5_collectEnds : plainName yX5_collectEnds.cls = true := by decide +kernel
theorem pn_X6_init : plainName yX6_init.cls = true := by decide +kernel
theorem pn_X6_putWidths : plainName yX6_putWidths.cls = true := by decide +kernel
theorem pn_X7_widthOf : plainName yX7_widthOf.cls = true := by decide +kernel
theorem pn_X7_smallLetterWidth : plainName yX7_smallLetterWidth.cls = true := by decide +kernel
theorem pn_X7_capitalWidth : plainName yX7_capitalWidth.cls = true := by decide +kernel
theorem pn_X7_kindBehind : plainName yX7_kindBehind.cls = true := by decide +kernel
theorem pn_X7_hangsLeft : plainName yX7_hangsLeft.cls = true := by decide +kernel
theorem pn_X7_hangsRight : plainName yX7_hangsRight.cls = true := by decide +kernel
theorem pn_X7_isDigit : plainName yX7_isDigit.cls = true := by decide +kernel
theorem pn_X7_isOneOf : plainName yX7_isOneOf.cls = true := by decide +kernel
theorem pn_X8_init : plainName yX8_init.cls = true := by decide +kernel
theorem pn_X8_append : plainName yX8_append.cls = true := by decide +kernel
theorem pn_X8_empty : plainName yX8_empty.cls = true := by decide +kernel
theorem pn_X8_paragraphFault : plainName yX8_paragraphFault.cls = true := by decide +kernel
theorem pn_X8_endOfPiece : plainName yX8_endOfPiece.cls = true := by decide +kernel
theorem pn_X8_isName : plainName yX8_isName.cls = true := by decide +kernel
theorem pn_X8_numberAt : plainName yX8_numberAt.cls = true := by decide +kernel
theorem pn_X9_init : plainName yX9_init.cls = true := by decide +kernel
theorem pn_X9_type : plainName yX9_type.cls = true := by decide +kernel
theorem pn_X9_clearText : plainName yX9_clearText.cls = true := by decide +kernel
theorem pn_X9_readParagraph : plainName yX9_readParagraph.cls = true := by decide +kernel
theorem pn_X9_command : plainName yX9_command.cls = true := by decide +kernel
theorem pn_X9_setMeasure : plainName yX9_setMeasure.cls = true := by decide +kernel
theorem pn_X9_setHang : plainName yX9_setHang.cls = true := by decide +kernel
theorem pn_X9_setTolerance : plainName yX9_setTolerance.cls = true := by decide +kernel
theorem pn_X9_setSpace : plainName yX9_setSpace.cls = true := by decide +kernel
theorem pn_X9_layBest : plainName yX9_layBest.cls = true := by decide +kernel
theorem pn_X9_takeSecond : plainName yX9_takeSecond.cls = true := by decide +kernel
theorem pn_X9_breakRivers : plainName yX9_breakRivers.cls = true := by decide +kernel
theorem pn_X9_count : plainName yX9_count.cls = true := by decide +kernel
theorem pn_X9_spaceWidth : plainName yX9_spaceWidth.cls = true := by decide +kernel
theorem pn_X9_word : plainName yX9_word.cls = true := by decide +kernel
theorem pn_X9_line : plainName yX9_line.cls = true := by decide +kernel
theorem pn_X9_space : plainName yX9_space.cls = true := by decide +kernel
theorem pn_X9_begin : plainName yX9_begin.cls = true := by decide +kernel
theorem pn_X9_second : plainName yX9_second.cls = true := by decide +kernel
theorem pn_X9_worst : plainName yX9_worst.cls = true := by decide +kernel
theorem pn_X9_river : plainName yX9_river.cls = true := by decide +kernel
theorem pn_X9_at : plainName yX9_at.cls = true := by decide +kernel
theorem pn_X9_isKind : plainName yX9_isKind.cls = true := by decide +kernel
theorem pn_X9_restoreBest : plainName yX9_restoreBest.cls = true := by decide +kernel
theorem pn_X9_calmingLine : plainName yX9_calmingLine.cls = true := by decide +kernel
theorem pn_J0_length_8abf5 : plainName yJ0_length_8abf5.cls = true := by decide +kernel
theorem pn_J0_charAt_5068e : plainName yJ0_charAt_5068e.cls = true := by decide +kernel
theorem pn_J0_indexOf_0f7a4 : plainName yJ0_indexOf_0f7a4.cls = true := by decide +kernel
theorem pn_J0_indexOf_7cf53 : plainName yJ0_indexOf_7cf53.cls = true := by decide +kernel
theorem pn_J0_coder_7d493 : plainName yJ0_coder_7d493.cls = true := by decide +kernel
theorem pn_J0_isLatin1_aae02 : plainName yJ0_isLatin1_aae02.cls = true := by decide +kernel
theorem pn_J0_checkIndex_df160 : plainName yJ0_checkIndex_df160.cls = true := by decide +kernel
theorem pn_J0_checkBoundsBeginEnd_23922 : plainName yJ0_checkBoundsBeginEnd_23922.cls = true := by decide +kernel
theorem pn_J1_charAt_3b067 : plainName yJ1_charAt_3b067.cls = true := by decide +kernel
theorem pn_J1_canEncode_9a6ad : plainName yJ1_canEncode_9a6ad.cls = true := by decide +kernel
theorem pn_J1_indexOf_4cfef : plainName yJ1_indexOf_4cfef.cls = true := by decide +kernel
theorem pn_J1_indexOfChar_4cfef : plainName yJ1_indexOfChar_4cfef.cls = true := by decide +kernel
theorem pn_J3_checkIndex_8e157 : plainName yJ3_checkIndex_8e157.cls = true := by decide +kernel
theorem pn_J3_checkFromToIndex_8c36e : plainName yJ3_checkFromToIndex_8c36e.cls = true := by decide +kernel
theorem pn_L_cell : plainName yL_cell.cls = true := by decide +kernel
theorem pn_L_low : plainName yL_low.cls = true := by decide +kernel
theorem pn_L_sign : plainName yL_sign.cls = true := by decide +kernel
theorem pn_L_reads : plainName yL_reads.cls = true := by decide +kernel
theorem pn_L_lines : plainName yL_lines.cls = true := by decide +kernel
theorem pn_L_rivers : plainName yL_rivers.cls = true := by decide +kernel
theorem pn_L_seconds : plainName yL_seconds.cls = true := by decide +kernel
theorem pn_L_number : plainName yL_number.cls = true := by decide +kernel
theorem pn_L_word : plainName yL_word.cls = true := by decide +kernel
theorem pn_L_commands : plainName yL_commands.cls = true := by decide +kernel
