theorem dX10_init_0 : decode cX10_init 0 = .ok (.aload_n 0, 1) := by decide +kernel
theorem dX10_init_1 : decode cX10_init 1 = .ok (.invokespecial 1, 3) := by decide +kernel
theorem dX10_init_4 : decode cX10_init 4 = .ok (.aload_n 0, 1) := by decide +kernel
theorem dX10_init_5 : decode cX10_init 5 = .ok (.bipush 60, 2) := by decide +kernel
theorem dX10_init_7 : decode cX10_init 7 = .ok (.putfield 7, 3) := by decide +kernel
theorem dX10_init_10 : decode cX10_init 10 = .ok (.aload_n 0, 1) := by decide +kernel
theorem dX10_init_11 : decode cX10_init 11 = .ok (.bipush 50, 2) := by decide +kernel
theorem dX10_init_13 : decode cX10_init 13 = .ok (.putfield 13, 3) := by decide +kernel
theorem dX10_init_16 : decode cX10_init 16 = .ok (.aload_n 0, 1) := by decide +kernel
theorem dX10_init_17 : decode cX10_init 17 = .ok (.iconst 2, 1) := by decide +kernel
theorem dX10_init_18 : decode cX10_init 18 = .ok (.putfield 16, 3) := by decide +kernel
theorem dX10_init_21 : decode cX10_init 21 = .ok (.aload_n 0, 1) := by decide +kernel
theorem dX10_init_22 : decode cX10_init 22 = .ok (.bipush 9, 2) := by decide +kernel
theorem dX10_init_24 : decode cX10_init 24 = .ok (.newarray .int, 2) := by decide +kernel
theorem dX10_init_26 : decode cX10_init 26 = .ok (.putfield 19, 3) := by decide +kernel
theorem dX10_init_29 : decode cX10_init 29 = .ok (.aload_n 0, 1) := by decide +kernel
theorem dX10_init_30 : decode cX10_init 30 = .ok (.bipush 60, 2) := by decide +kernel
theorem dX10_init_32 : decode cX10_init 32 = .ok (.newarray .int, 2) := by decide +kernel
theorem dX10_init_34 : decode cX10_init 34 = .ok (.putfield 23, 3) := by decide +kernel
theorem dX10_init_37 : decode cX10_init 37 = .ok (.aload_n 0, 1) := by decide +kernel
theorem dX10_init_38 : decode cX10_init 38 = .ok (.bipush 60, 2) := by decide +kernel
theorem dX10_init_40 : decode cX10_init 40 = .ok (.newarray .int, 2) := by decide +kernel
theorem dX10_init_42 : decode cX10_init 42 = .ok (.putfield 26, 3) := by decide +kernel
theorem dX10_init_45 : decode cX10_init 45 = .ok (.aload_n 0, 1) := by decide +kernel
theorem dX10_init_46 : decode cX10_init 46 = .ok (.bipush 60, 2) := by decide +kernel
theorem dX10_init_48 : decode cX10_init 48 = .ok (.newarray .int, 2) := by decide +kernel
theorem dX10_init_50 : decode cX10_init 50 = .ok (.putfield 29, 3) := by decide +kernel
theorem dX10_init_53 : decode cX10_init 53 = .ok (.aload_n 0, 1) := by decide +kernel
theorem dX10_init_54 : decode cX10_init 54 = .ok (.bipush 60, 2) := by decide +kernel
theorem dX10_init_56 : decode cX10_init 56 = .ok (.newarray .int, 2) := by decide +kernel
theorem dX10_init_58 : decode cX10_init 58 = .ok (.putfield 32, 3) := by decide +kernel
theorem dX10_init_61 : decode cX10_init 61 = .ok (.aload_n 0, 1) := by decide +kernel
theorem dX10_init_62 : decode cX10_init 62 = .ok (.bipush 60, 2) := by decide +kernel
theorem dX10_init_64 : decode cX10_init 64 = .ok (.newarray .int, 2) := by decide +kernel
theorem dX10_init_66 : decode cX10_init 66 = .ok (.putfield 35, 3) := by decide +kernel
theorem dX10_init_69 : decode cX10_init 69 = .ok (.aload_n 0, 1) := by decide +kernel
theorem dX10_init_70 : decode cX10_init 70 = .ok (.bipush 120, 2) := by decide +kernel
theorem dX10_init_72 : decode cX10_init 72 = .ok (.newarray .char, 2) := by decide +kernel
theorem dX10_init_74 : decode cX10_init 74 = .ok (.putfield 38, 3) := by decide +kernel
theorem dX10_init_77 : decode cX10_init 77 = .ok (.aload_n 0, 1) := by decide +kernel
theorem dX10_init_78 : decode cX10_init 78 = .ok (.bipush 61, 2) := by decide +kernel
theorem dX10_init_80 : decode cX10_init 80 = .ok (.newarray .int, 2) := by decide +kernel
theorem dX10_init_82 : decode cX10_init 82 = .ok (.putfield 42, 3) := by decide +kernel
theorem dX10_init_85 : decode cX10_init 85 = .ok (.aload_n 0, 1) := by decide +kernel
theorem dX10_init_86 : decode cX10_init 86 = .ok (.bipush 60, 2) := by decide +kernel
theorem dX10_init_88 : decode cX10_init 88 = .ok (.newarray .int, 2) := by decide +kernel
theorem dX10_init_90 : decode cX10_init 90 = .ok (.putfield 45, 3) := by decide +kernel
theorem dX10_init_93 : decode cX10_init 93 = .ok (.aload_n 0, 1) := by decide +kernel
theorem dX10_init_94 : decode cX10_init 94 = .ok (.bipush 61, 2) := by decide +kernel
theorem dX10_init_96 : decode cX10_init 96 = .ok (.newarray .int, 2) := by decide +kernel
theorem dX10_init_98 : decode cX10_init 98 = .ok (.putfield 48, 3) := by decide +kernel
theorem dX10_init_101 : decode cX10_init 101 = .ok (.aload_n 0, 1) := by decide +kernel
theorem dX10_init_102 : decode cX10_init 102 = .ok (.bipush 60, 2) := by decide +kernel
theorem dX10_init_104 : decode cX10_init 104 = .ok (.newarray .int, 2) := by decide +kernel
theorem dX10_init_106 : decode cX10_init 106 = .ok (.putfield 51, 3) := by decide +kernel
theorem dX10_init_109 : decode cX10_init 109 = .ok (.aload_n 0, 1) := by decide +kernel
theorem dX10_init_110 : decode cX10_init 110 = .ok (.bipush 60, 2) := by decide +kernel
theorem dX10_init_112 : decode cX10_init 112 = .ok (.newarray .int, 2) := by decide +kernel
theorem dX10_init_114 : decode cX10_init 114 = .ok (.putfield 54, 3) := by decide +kernel
theorem dX10_init_117 : decode cX10_init 117 = .ok (.aload_n 0, 1) := by decide +kernel
theorem dX10_init_118 : decode cX10_init 118 = .ok (.bipush 60, 2) := by decide +kernel
theorem dX10_init_120 : decode cX10_init 120 = .ok (.newarray .int, 2) := by decide +kernel
theorem dX10_init_122 : decode cX10_init 122 = .ok (.putfield 57, 3) := by decide +kernel
theorem dX10_init_125 : decode cX10_init 125 = .ok (.aload_n 0, 1) := by decide +kernel
theorem dX10_init_126 : decode cX10_init 126 = .ok (.bipush 60, 2) := by decide +kernel
theorem dX10_init_128 : decode cX10_init 128 = .ok (.newarray .int, 2) := by decide +kernel
theorem dX10_init_130 : decode cX10_init 130 = .ok (.putfield 60, 3) := by decide +kernel
theorem dX10_init_133 : decode cX10_init 133 = .ok (.aload_n 0, 1) := by decide +kernel
theorem dX10_init_134 : decode cX10_init 134 = .ok (.bipush 61, 2) := by decide +kernel
theorem dX10_init_136 : decode cX10_init 136 = .ok (.newarray .int, 2) := by decide +kernel
theorem dX10_init_138 : decode cX10_init 138 = .ok (.putfield 63, 3) := by decide +kernel
theorem dX10_init_141 : decode cX10_init 141 = .ok (.aload_n 0, 1) := by decide +kernel
theorem dX10_init_142 : decode cX10_init 142 = .ok (.getfield 19, 3) := by decide +kernel
theorem dX10_init_145 : decode cX10_init 145 = .ok (.iconst 0, 1) := by decide +kernel
theorem dX10_init_146 : decode cX10_init 146 = .ok (.iconst 2, 1) := by decide +kernel
theorem dX10_init_147 : decode cX10_init 147 = .ok (.iastore, 1) := by decide +kernel
theorem dX10_init_148 : decode cX10_init 148 = .ok (.aload_n 0, 1) := by decide +kernel
theorem dX10_init_149 : decode cX10_init 149 = .ok (.getfield 19, 3) := by decide +kernel
theorem dX10_init_152 : decode cX10_init 152 = .ok (.iconst 1, 1) := by decide +kernel
theorem dX10_init_153 : decode cX10_init 153 = .ok (.iconst 3, 1) := by decide +kernel
theorem dX10_init_154 : decode cX10_init 154 = .ok (.iastore, 1) := by decide +kernel
theorem dX10_init_155 : decode cX10_init 155 = .ok (.aload_n 0, 1) := by decide +kernel
theorem dX10_init_156 : decode cX10_init 156 = .ok (.getfield 19, 3) := by decide +kernel
theorem dX10_init_159 : decode cX10_init 159 = .ok (.iconst 2, 1) := by decide +kernel
theorem dX10_init_160 : decode cX10_init 160 = .ok (.bipush 6, 2) := by decide +kernel
theorem dX10_init_162 : decode cX10_init 162 = .ok (.iastore, 1) := by decide +kernel
theorem dX10_init_163 : decode cX10_init 163 = .ok (.aload_n 0, 1) := by decide +kernel
theorem dX10_init_164 : decode cX10_init 164 = .ok (.getfield 19, 3) := by decide +kernel
theorem dX10_init_167 : decode cX10_init 167 = .ok (.iconst 3, 1) := by decide +kernel
theorem dX10_init_168 : decode cX10_init 168 = .ok (.iconst 2, 1) := by decide +kernel
theorem dX10_init_169 : decode cX10_init 169 = .ok (.iastore, 1) := by decide +kernel
theorem dX10_init_170 : decode cX10_init 170 = .ok (.aload_n 0, 1) := by decide +kernel
theorem dX10_init_171 : decode cX10_init 171 = .ok (.getfield 19, 3) := by decide +kernel
theorem dX10_init_174 : decode cX10_init 174 = .ok (.iconst 4, 1) := by decide +kernel
theorem dX10_init_175 : decode cX10_init 175 = .ok (.iconst 4, 1) := by decide +kernel
theorem dX10_init_176 : decode cX10_init 176 = .ok (.iastore, 1) := by decide +kernel
theorem dX10_init_177 : decode cX10_init 177 = .ok (.aload_n 0, 1) := by decide +kernel
theorem dX10_init_178 : decode cX10_init 178 = .ok (.getfield 19, 3) := by decide +kernel
theorem dX10_init_181 : decode cX10_init 181 = .ok (.iconst 5, 1) := by decide +kernel
theorem dX10_init_182 : decode cX10_init 182 = .ok (.bipush 8, 2) := by decide +kernel
theorem dX10_init_184 : decode cX10_init 184 = .ok (.iastore, 1) := by decide +kernel
theorem dX10_init_185 : decode cX10_init 185 = .ok (.aload_n 0, 1) := by decide +kernel
theorem dX10_init_186 : decode cX10_init 186 = .ok (.getfield 19, 3) := by decide +kernel
theorem dX10_init_189 : decode cX10_init 189 = .ok (.bipush 6, 2) := by decide +kernel
theorem dX10_init_191 : decode cX10_init 191 = .ok (.iconst 3, 1) := by decide +kernel
theorem dX10_init_192 : decode cX10_init 192 = .ok (.iastore, 1) := by decide +kernel
theorem dX10_init_193 : decode cX10_init 193 = .ok (.aload_n 0, 1) := by decide +kernel
theorem dX10_init_194 : decode cX10_init 194 = .ok (.getfield 19, 3) := by decide +kernel
theorem dX10_init_197 : decode cX10_init 197 = .ok (.bipush 7, 2) := by decide +kernel
theorem dX10_init_199 : decode cX10_init 199 = .ok (.iconst 5, 1) := by decide +kernel
theorem dX10_init_200 : decode cX10_init 200 = .ok (.iastore, 1) := by decide +kernel
theorem dX10_init_201 : decode cX10_init 201 = .ok (.aload_n 0, 1) := by decide +kernel
theorem dX10_init_202 : decode cX10_init 202 = .ok (.getfield 19, 3) := by decide +kernel
theorem dX10_init_205 : decode cX10_init 205 = .ok (.bipush 8, 2) := by decide +kernel
theorem dX10_init_207 : decode cX10_init 207 = .ok (.bipush 10, 2) := by decide +kernel
theorem dX10_init_209 : decode cX10_init 209 = .ok (.iastore, 1) := by decide +kernel
theorem dX10_init_210 : decode cX10_init 210 = .ok (.aload_n 0, 1) := by decide +kernel
theorem dX10_init_211 : decode cX10_init 211 = .ok (.invokevirtual 66, 3) := by decide +kernel
theorem dX10_init_214 : decode cX10_init 214 = .ok (.return_, 1) := by decide +kernel
theorem dX10_in_0 : decode cX10_in 0 = .ok (.iload_n 0, 1) := by decide +kernel
theorem dX10_in_1 : decode cX10_in 1 = .ok (.iload_n 1, 1) := by decide +kernel
theorem dX10_in_2 : decode cX10_in 2 = .ok (.if_icmp .lt 12, 3) := by decide +kernel
theorem dX10_in_5 : decode cX10_in 5 = .ok (.iload_n 0, 1) := by decide +kernel
theorem dX10_in_6 : decode cX10_in 6 = .ok (.iload_n 2, 1) := by decide +kernel
theorem dX10_in_7 : decode cX10_in 7 = .ok (.if_icmp .gt 7, 3) := by decide +kernel
theorem dX10_in_10 : decode cX10_in 10 = .ok (.iconst 1, 1) := by decide +kernel
theorem dX10_in_11 : decode cX10_in 11 = .ok (.goto 4, 3) := by decide +kernel
theorem dX10_in_14 : decode cX10_in 14 = .ok (.iconst 0, 1) := by decide +kernel
theorem dX10_in_15 : decode cX10_in 15 = .ok (.ireturn, 1) := by decide +kernel
theorem dX10_widthOf_0 : decode cX10_widthOf 0 = .ok (.iload_n 0, 1) := by decide +kernel
theorem dX10_widthOf_1 : decode cX10_widthOf 1 = .ok (.bipush 102, 2) := by decide +kernel
theorem dX10_widthOf_3 : decode cX10_widthOf 3 = .ok (.if_icmp .eq 39, 3) := by decide +kernel
theorem dX10_widthOf_6 : decode cX10_widthOf 6 = .ok (.iload_n 0, 1) := by decide +kernel
theorem dX10_widthOf_7 : decode cX10_widthOf 7 = .ok (.bipush 105, 2) := by decide +kernel
theorem dX10_widthOf_9 : decode cX10_widthOf 9 = .ok (.if_icmp .eq 33, 3) := by decide +kernel
theorem dX10_widthOf_12 : decode cX10_widthOf 12 = .ok (.iload_n 0, 1) := by decide +kernel
theorem dX10_widthOf_13 : decode cX10_widthOf 13 = .ok (.bipush 106, 2) := by decide +kernel
theorem dX10_widthOf_15 : decode cX10_widthOf 15 = .ok (.if_icmp .eq 27, 3) := by decide +kernel
theorem dX10_widthOf_18 : decode cX10_widthOf 18 = .ok (.iload_n 0, 1) := by decide +kernel
theorem dX10_widthOf_19 : decode cX10_widthOf 19 = .ok (.bipush 108, 2) := by decide +kernel
theorem dX10_widthOf_21 : decode cX10_widthOf 21 = .ok (.if_icmp .eq 21, 3) := by decide +kernel
theorem dX10_widthOf_24 : decode cX10_widthOf 24 = .ok (.iload_n 0, 1) := by decide +kernel
theorem dX10_widthOf_25 : decode cX10_widthOf 25 = .ok (.bipush 114, 2) := by decide +kernel
theorem dX10_widthOf_27 : decode cX10_widthOf 27 = .ok (.if_icmp .eq 15, 3) := by decide +kernel
theorem dX10_widthOf_30 : decode cX10_widthOf 30 = .ok (.iload_n 0, 1) := by decide +kernel
theorem dX10_widthOf_31 : decode cX10_widthOf 31 = .ok (.bipush 116, 2) := by decide +kernel
theorem dX10_widthOf_33 : decode cX10_widthOf 33 = .ok (.if_icmp .eq 9, 3) := by decide +kernel
theorem dX10_widthOf_36 : decode cX10_widthOf 36 = .ok (.iload_n 0, 1) := by decide +kernel
theorem dX10_widthOf_37 : decode cX10_widthOf 37 = .ok (.bipush 73, 2) := by decide +kernel
theorem dX10_widthOf_39 : decode cX10_widthOf 39 = .ok (.if_icmp .ne 5, 3) := by decide +kernel
theorem dX10_widthOf_42 : decode cX10_widthOf 42 = .ok (.iconst 2, 1) := by decide +kernel
theorem dX10_widthOf_43 : decode cX10_widthOf 43 = .ok (.ireturn, 1) := by decide +kernel
theorem dX10_widthOf_44 : decode cX10_widthOf 44 = .ok (.iload_n 0, 1) := by decide +kernel
theorem dX10_widthOf_45 : decode cX10_widthOf 45 = .ok (.bipush 109, 2) := by decide +kernel
theorem dX10_widthOf_47 : decode cX10_widthOf 47 = .ok (.if_icmp .eq 9, 3) := by decide +kernel
theorem dX10_widthOf_50 : decode cX10_widthOf 50 = .ok (.iload_n 0, 1) := by decide +kernel
theorem dX10_widthOf_51 : decode cX10_widthOf 51 = .ok (.bipush 119, 2) := by decide +kernel
theorem dX10_widthOf_53 : decode cX10_widthOf 53 = .ok (.if_icmp .ne 5, 3) := by decide +kernel
theorem dX10_widthOf_56 : decode cX10_widthOf 56 = .ok (.iconst 4, 1) := by decide +kernel
theorem dX10_widthOf_57 : decode cX10_widthOf 57 = .ok (.ireturn, 1) := by decide +kernel
theorem dX10_widthOf_58 : decode cX10_widthOf 58 = .ok (.iload_n 0, 1) := by decide +kernel
theorem dX10_widthOf_59 : decode cX10_widthOf 59 = .ok (.bipush 77, 2) := by decide +kernel
theorem dX10_widthOf_61 : decode cX10_widthOf 61 = .ok (.if_icmp .eq 9, 3) := by decide +kernel
theorem dX10_widthOf_64 : decode cX10_widthOf 64 = .ok (.iload_n 0, 1) := by decide +kernel
theorem dX10_widthOf_65 : decode cX10_widthOf 65 = .ok (.bipush 87, 2) := by decide +kernel
theorem dX10_widthOf_67 : decode cX10_widthOf 67 = .ok (.if_icmp .ne 5, 3) := by decide +kernel
theorem dX10_widthOf_70 : decode cX10_widthOf 70 = .ok (.iconst 5, 1) := by decide +kernel
theorem dX10_widthOf_71 : decode cX10_widthOf 71 = .ok (.ireturn, 1) := by decide +kernel
theorem dX10_widthOf_72 : decode cX10_widthOf 72 = .ok (.iload_n 0, 1) := by decide +kernel
theorem dX10_widthOf_73 : decode cX10_widthOf 73 = .ok (.bipush 65, 2) := by decide +kernel
theorem dX10_widthOf_75 : decode cX10_widthOf 75 = .ok (.bipush 90, 2) := by decide +kernel
theorem dX10_widthOf_77 : decode cX10_widthOf 77 = .ok (.invokestatic 69, 3) := by decide +kernel
theorem dX10_widthOf_80 : decode cX10_widthOf 80 = .ok (.ifCond .eq 5, 3) := by decide +kernel
theorem dX10_widthOf_83 : decode cX10_widthOf 83 = .ok (.iconst 4, 1) := by decide +kernel
theorem dX10_widthOf_84 : decode cX10_widthOf 84 = .ok (.ireturn, 1) := by decide +kernel
theorem dX10_widthOf_85 : decode cX10_widthOf 85 = .ok (.iload_n 0, 1) := by decide +kernel
theorem dX10_widthOf_86 : decode cX10_widthOf 86 = .ok (.bipush 97, 2) := by decide +kernel
theorem dX10_widthOf_88 : decode cX10_widthOf 88 = .ok (.bipush 122, 2) := by decide +kernel
theorem dX10_widthOf_90 : decode cX10_widthOf 90 = .ok (.invokestatic 69, 3) := by decide +kernel
theorem dX10_widthOf_93 : decode cX10_widthOf 93 = .ok (.ifCond .ne 14, 3) := by decide +kernel
theorem dX10_widthOf_96 : decode cX10_widthOf 96 = .ok (.iload_n 0, 1) := by decide +kernel
theorem dX10_widthOf_97 : decode cX10_widthOf 97 = .ok (.bipush 48, 2) := by decide +kernel
theorem dX10_widthOf_99 : decode cX10_widthOf 99 = .ok (.bipush 57, 2) := by decide +kernel
theorem dX10_widthOf_101 : decode cX10_widthOf 101 = .ok (.invokestatic 69, 3) := by decide +kernel
theorem dX10_widthOf_104 : decode cX10_widthOf 104 = .ok (.ifCond .eq 5, 3) := by decide +kernel
theorem dX10_widthOf_107 : decode cX10_widthOf 107 = .ok (.iconst 3, 1) := by decide +kernel
theorem dX10_widthOf_108 : decode cX10_widthOf 108 = .ok (.ireturn, 1) := by decide +kernel
theorem dX10_widthOf_109 : decode cX10_widthOf 109 = .ok (.iload_n 0, 1) := by decide +kernel
theorem dX10_widthOf_110 : decode cX10_widthOf 110 = .ok (.bipush 63, 2) := by decide +kernel
theorem dX10_widthOf_112 : decode cX10_widthOf 112 = .ok (.if_icmp .eq 27, 3) := by decide +kernel
theorem dX10_widthOf_115 : decode cX10_widthOf 115 = .ok (.iload_n 0, 1) := by decide +kernel
theorem dX10_widthOf_116 : decode cX10_widthOf 116 = .ok (.bipush 45, 2) := by decide +kernel
theorem dX10_widthOf_118 : decode cX10_widthOf 118 = .ok (.if_icmp .eq 21, 3) := by decide +kernel
theorem dX10_widthOf_121 : decode cX10_widthOf 121 = .ok (.iload_n 0, 1) := by decide +kernel
theorem dX10_widthOf_122 : decode cX10_widthOf 122 = .ok (.bipush 34, 2) := by decide +kernel
theorem dX10_widthOf_124 : decode cX10_widthOf 124 = .ok (.if_icmp .eq 15, 3) := by decide +kernel
theorem dX10_widthOf_127 : decode cX10_widthOf 127 = .ok (.iload_n 0, 1) := by decide +kernel
theorem dX10_widthOf_128 : decode cX10_widthOf 128 = .ok (.bipush 40, 2) := by decide +kernel
theorem dX10_widthOf_130 : decode cX10_widthOf 130 = .ok (.if_icmp .eq 9, 3) := by decide +kernel
theorem dX10_widthOf_133 : decode cX10_widthOf 133 = .ok (.iload_n 0, 1) := by decide +kernel
theorem dX10_widthOf_134 : decode cX10_widthOf 134 = .ok (.bipush 41, 2) := by decide +kernel
theorem dX10_widthOf_136 : decode cX10_widthOf 136 = .ok (.if_icmp .ne 7, 3) := by decide +kernel
theorem dX10_widthOf_139 : decode cX10_widthOf 139 = .ok (.iconst 2, 1) := by decide +kernel
theorem dX10_widthOf_140 : decode cX10_widthOf 140 = .ok (.goto 4, 3) := by decide +kernel
theorem dX10_widthOf_143 : decode cX10_widthOf 143 = .ok (.iconst 1, 1) := by decide +kernel
theorem dX10_widthOf_144 : decode cX10_widthOf 144 = .ok (.ireturn, 1) := by decide +kernel
theorem dX10_isSentence_0 : decode cX10_isSentence 0 = .ok (.iload_n 0, 1) := by decide +kernel
theorem dX10_isSentence_1 : decode cX10_isSentence 1 = .ok (.bipush 46, 2) := by decide +kernel
theorem dX10_isSentence_3 : decode cX10_isSentence 3 = .ok (.if_icmp .eq 15, 3) := by decide +kernel
theorem dX10_isSentence_6 : decode cX10_isSentence 6 = .ok (.iload_n 0, 1) := by decide +kernel
theorem dX10_isSentence_7 : decode cX10_isSentence 7 = .ok (.bipush 33, 2) := by decide +kernel
theorem dX10_isSentence_9 : decode cX10_isSentence 9 = .ok (.if_icmp .eq 9, 3) := by decide +kernel
theorem dX10_isSentence_12 : decode cX10_isSentence 12 = .ok (.iload_n 0, 1) := by decide +kernel
theorem dX10_isSentence_13 : decode cX10_isSentence 13 = .ok (.bipush 63, 2) := by decide +kernel
theorem dX10_isSentence_15 : decode cX10_isSentence 15 = .ok (.if_icmp .ne 7, 3) := by decide +kernel
theorem dX10_isSentence_18 : decode cX10_isSentence 18 = .ok (.iconst 1, 1) := by decide +kernel
theorem dX10_isSentence_19 : decode cX10_isSentence 19 = .ok (.goto 4, 3) := by decide +kernel
theorem dX10_isSentence_22 : decode cX10_isSentence 22 = .ok (.iconst 0, 1) := by decide +kernel
theorem dX10_isSentence_23 : decode cX10_isSentence 23 = .ok (.ireturn, 1) := by decide +kernel
theorem dX10_isClause_0 : decode cX10_isClause 0 = .ok (.iload_n 0, 1) := by decide +kernel
theorem dX10_isClause_1 : decode cX10_isClause 1 = .ok (.bipush 44, 2) := by decide +kernel
theorem dX10_isClause_3 : decode cX10_isClause 3 = .ok (.if_icmp .eq 15, 3) := by decide +kernel
theorem dX10_isClause_6 : decode cX10_isClause 6 = .ok (.iload_n 0, 1) := by decide +kernel
theorem dX10_isClause_7 : decode cX10_isClause 7 = .ok (.bipush 59, 2) := by decide +kernel
theorem dX10_isClause_9 : decode cX10_isClause 9 = .ok (.if_icmp .eq 9, 3) := by decide +kernel
theorem dX10_isClause_12 : decode cX10_isClause 12 = .ok (.iload_n 0, 1) := by decide +kernel
theorem dX10_isClause_13 : decode cX10_isClause 13 = .ok (.bipush 58, 2) := by decide +kernel
theorem dX10_isClause_15 : decode cX10_isClause 15 = .ok (.if_icmp .ne 7, 3) := by decide +kernel
theorem dX10_isClause_18 : decode cX10_isClause 18 = .ok (.iconst 1, 1) := by decide +kernel
theorem dX10_isClause_19 : decode cX10_isClause 19 = .ok (.goto 4, 3) := by decide +kernel
theorem dX10_isClause_22 : decode cX10_isClause 22 = .ok (.iconst 0, 1) := by decide +kernel
theorem dX10_isClause_23 : decode cX10_isClause 23 = .ok (.ireturn, 1) := by decide +kernel
theorem dX10_isMark_0 : decode cX10_isMark 0 = .ok (.iload_n 0, 1) := by decide +kernel
theorem dX10_isMark_1 : decode cX10_isMark 1 = .ok (.invokestatic 73, 3) := by decide +kernel
theorem dX10_isMark_4 : decode cX10_isMark 4 = .ok (.ifCond .ne 28, 3) := by decide +kernel
theorem dX10_isMark_7 : decode cX10_isMark 7 = .ok (.iload_n 0, 1) := by decide +kernel
theorem dX10_isMark_8 : decode cX10_isMark 8 = .ok (.invokestatic 77, 3) := by decide +kernel
theorem dX10_isMark_11 : decode cX10_isMark 11 = .ok (.ifCond .ne 21, 3) := by decide +kernel
theorem dX10_isMark_14 : decode cX10_isMark 14 = .ok (.iload_n 0, 1) := by decide +kernel
theorem dX10_isMark_15 : decode cX10_isMark 15 = .ok (.bipush 45, 2) := by decide +kernel
theorem dX10_isMark_17 : decode cX10_isMark 17 = .ok (.if_icmp .eq 15, 3) := by decide +kernel
theorem dX10_isMark_20 : decode cX10_isMark 20 = .ok (.iload_n 0, 1) := by decide +kernel
theorem dX10_isMark_21 : decode cX10_isMark 21 = .ok (.bipush 39, 2) := by decide +kernel
theorem dX10_isMark_23 : decode cX10_isMark 23 = .ok (.if_icmp .eq 9, 3) := by decide +kernel
theorem dX10_isMark_26 : decode cX10_isMark 26 = .ok (.iload_n 0, 1) := by decide +kernel
theorem dX10_isMark_27 : decode cX10_isMark 27 = .ok (.bipush 34, 2) := by decide +kernel
theorem dX10_isMark_29 : decode cX10_isMark 29 = .ok (.if_icmp .ne 7, 3) := by decide +kernel
theorem dX10_isMark_32 : decode cX10_isMark 32 = .ok (.iconst 1, 1) := by decide +kernel
theorem dX10_isMark_33 : decode cX10_isMark 33 = .ok (.goto 4, 3) := by decide +kernel
theorem dX10_isMark_36 : decode cX10_isMark 36 = .ok (.iconst 0, 1) := by decide +kernel
theorem dX10_isMark_37 : decode cX10_isMark 37 = .ok (.ireturn, 1) := by decide +kernel
theorem dX10_isAllowed_0 : decode cX10_isAllowed 0 = .ok (.iload_n 0, 1) := by decide +kernel
theorem dX10_isAllowed_1 : decode cX10_isAllowed 1 = .ok (.invokestatic 80, 3) := by decide +kernel
theorem dX10_isAllowed_4 : decode cX10_isAllowed 4 = .ok (.ifCond .ne 54, 3) := by decide +kernel
theorem dX10_isAllowed_7 : decode cX10_isAllowed 7 = .ok (.iload_n 0, 1) := by decide +kernel
theorem dX10_isAllowed_8 : decode cX10_isAllowed 8 = .ok (.bipush 40, 2) := by decide +kernel
theorem dX10_isAllowed_10 : decode cX10_isAllowed 10 = .ok (.if_icmp .eq 48, 3) := by decide +kernel
theorem dX10_isAllowed_13 : decode cX10_isAllowed 13 = .ok (.iload_n 0, 1) := by decide +kernel
theorem dX10_isAllowed_14 : decode cX10_isAllowed 14 = .ok (.bipush 41, 2) := by decide +kernel
theorem dX10_isAllowed_16 : decode cX10_isAllowed 16 = .ok (.if_icmp .eq 42, 3) := by decide +kernel
theorem dX10_isAllowed_19 : decode cX10_isAllowed 19 = .ok (.iload_n 0, 1) := by decide +kernel
theorem dX10_isAllowed_20 : decode cX10_isAllowed 20 = .ok (.bipush 32, 2) := by decide +kernel
theorem dX10_isAllowed_22 : decode cX10_isAllowed 22 = .ok (.if_icmp .eq 36, 3) := by decide +kernel
theorem dX10_isAllowed_25 : decode cX10_isAllowed 25 = .ok (.iload_n 0, 1) := by decide +kernel
theorem dX10_isAllowed_26 : decode cX10_isAllowed 26 = .ok (.bipush 97, 2) := by decide +kernel
theorem dX10_isAllowed_28 : decode cX10_isAllowed 28 = .ok (.bipush 122, 2) := by decide +kernel
theorem dX10_isAllowed_30 : decode cX10_isAllowed 30 = .ok (.invokestatic 69, 3) := by decide +kernel
theorem dX10_isAllowed_33 : decode cX10_isAllowed 33 = .ok (.ifCond .ne 25, 3) := by decide +kernel
theorem dX10_isAllowed_36 : decode cX10_isAllowed 36 = .ok (.iload_n 0, 1) := by decide +kernel
theorem dX10_isAllowed_37 : decode cX10_isAllowed 37 = .ok (.bipush 65, 2) := by decide +kernel
theorem dX10_isAllowed_39 : decode cX10_isAllowed 39 = .ok (.bipush 90, 2) := by decide +kernel
theorem dX10_isAllowed_41 : decode cX10_isAllowed 41 = .ok (.invokestatic 69, 3) := by decide +kernel
theorem dX10_isAllowed_44 : decode cX10_isAllowed 44 = .ok (.ifCond .ne 14, 3) := by decide +kernel
theorem dX10_isAllowed_47 : decode cX10_isAllowed 47 = .ok (.iload_n 0, 1) := by decide +kernel
theorem dX10_isAllowed_48 : decode cX10_isAllowed 48 = .ok (.bipush 48, 2) := by decide +kernel
theorem dX10_isAllowed_50 : decode cX10_isAllowed 50 = .ok (.bipush 57, 2) := by decide +kernel
theorem dX10_isAllowed_52 : decode cX10_isAllowed 52 = .ok (.invokestatic 69, 3) := by decide +kernel
theorem dX10_isAllowed_55 : decode cX10_isAllowed 55 = .ok (.ifCond .eq 7, 3) := by decide +kernel
theorem dX10_isAllowed_58 : decode cX10_isAllowed 58 = .ok (.iconst 1, 1) := by decide +kernel
theorem dX10_isAllowed_59 : decode cX10_isAllowed 59 = .ok (.goto 4, 3) := by decide +kernel
theorem dX10_isAllowed_62 : decode cX10_isAllowed 62 = .ok (.iconst 0, 1) := by decide +kernel
theorem dX10_isAllowed_63 : decode cX10_isAllowed 63 = .ok (.ireturn, 1) := by decide +kernel
theorem dX10_type_0 : decode cX10_type 0 = .ok (.aload_n 0, 1) := by decide +kernel
theorem dX10_type_1 : decode cX10_type 1 = .ok (.getfield 83, 3) := by decide +kernel
theorem dX10_type_4 : decode cX10_type 4 = .ok (.bipush 120, 2) := by decide +kernel
theorem dX10_type_6 : decode cX10_type 6 = .ok (.if_icmp .ne 7, 3) := by decide +kernel
theorem dX10_type_9 : decode cX10_type 9 = .ok (.sipush (-1003), 3) := by decide +kernel
theorem dX10_type_12 : decode cX10_type 12 = .ok (.ireturn, 1) := by decide +kernel
theorem dX10_type_13 : decode cX10_type 13 = .ok (.aload_n 0, 1) := by decide +kernel
theorem dX10_type_14 : decode cX10_type 14 = .ok (.getfield 38, 3) := by decide +kernel
theorem dX10_type_17 : decode cX10_type 17 = .ok (.aload_n 0, 1) := by decide +kernel
theorem dX10_type_18 : decode cX10_type 18 = .ok (.getfield 83, 3) := by decide +kernel
theorem dX10_type_21 : decode cX10_type 21 = .ok (.iload_n 1, 1) := by decide +kernel
theorem dX10_type_22 : decode cX10_type 22 = .ok (.castore, 1) := by decide +kernel
theorem dX10_type_23 : decode cX10_type 23 = .ok (.aload_n 0, 1) := by decide +kernel
theorem dX10_type_24 : decode cX10_type 24 = .ok (.dup, 1) := by decide +kernel
theorem dX10_type_25 : decode cX10_type 25 = .ok (.getfield 83, 3) := by decide +kernel
theorem dX10_type_28 : decode cX10_type 28 = .ok (.iconst 1, 1) := by decide +kernel
theorem dX10_type_29 : decode cX10_type 29 = .ok (.iadd, 1) := by decide +kernel
theorem dX10_type_30 : decode cX10_type 30 = .ok (.putfield 83, 3) := by decide +kernel
theorem dX10_type_33 : decode cX10_type 33 = .ok (.aload_n 0, 1) := by decide +kernel
theorem dX10_type_34 : decode cX10_type 34 = .ok (.getfield 83, 3) := by decide +kernel
theorem dX10_type_37 : decode cX10_type 37 = .ok (.ireturn, 1) := by decide +kernel
theorem dX10_clearText_0 : decode cX10_clearText 0 = .ok (.aload_n 0, 1) := by decide +kernel
theorem dX10_clearText_1 : decode cX10_clearText 1 = .ok (.getfield 83, 3) := by decide +kernel
theorem dX10_clearText_4 : decode cX10_clearText 4 = .ok (.istore_n 1, 1) := by decide +kernel
theorem dX10_clearText_5 : decode cX10_clearText 5 = .ok (.aload_n 0, 1) := by decide +kernel
theorem dX10_clearText_6 : decode cX10_clearText 6 = .ok (.iconst 0, 1) := by decide +kernel
theorem dX10_clearText_7 : decode cX10_clearText 7 = .ok (.putfield 83, 3) := by decide +kernel
theorem dX10_clearText_10 : decode cX10_clearText 10 = .ok (.iload_n 1, 1) := by decide +kernel
theorem dX10_clearText_11 : decode cX10_clearText 11 = .ok (.ireturn, 1) := by decide +kernel
theorem dX10_addWord_0 : decode cX10_addWord 0 = .ok (.iconst 0, 1) := by decide +kernel
theorem dX10_addWord_1 : decode cX10_addWord 1 = .ok (.istore_n 3, 1) := by decide +kernel
theorem dX10_addWord_2 : decode cX10_addWord 2 = .ok (.iload_n 1, 1) := by decide +kernel
theorem dX10_addWord_3 : decode cX10_addWord 3 = .ok (.istore 4, 2) := by decide +kernel
theorem dX10_addWord_5 : decode cX10_addWord 5 = .ok (.iload 4, 2) := by decide +kernel
theorem dX10_addWord_7 : decode cX10_addWord 7 = .ok (.iload_n 2, 1) := by decide +kernel
theorem dX10_addWord_8 : decode cX10_addWord 8 = .ok (.if_icmp .ge 22, 3) := by decide +kernel
theorem dX10_addWord_11 : decode cX10_addWord 11 = .ok (.iload_n 3, 1) := by decide +kernel
theorem dX10_addWord_12 : decode cX10_addWord 12 = .ok (.aload_n 0, 1) := by decide +kernel
theorem dX10_addWord_13 : decode cX10_addWord 13 = .ok (.getfield 38, 3) := by decide +kernel
theorem dX10_addWord_16 : decode cX10_addWord 16 = .ok (.iload 4, 2) := by decide +kernel
theorem dX10_addWord_18 : decode cX10_addWord 18 = .ok (.caload, 1) := by decide +kernel
theorem dX10_addWord_19 : decode cX10_addWord 19 = .ok (.invokestatic 86, 3) := by decide +kernel
theorem dX10_addWord_22 : decode cX10_addWord 22 = .ok (.iadd, 1) := by decide +kernel
theorem dX10_addWord_23 : decode cX10_addWord 23 = .ok (.istore_n 3, 1) := by decide +kernel
theorem dX10_addWord_24 : decode cX10_addWord 24 = .ok (.iinc 4 1, 3) := by decide +kernel
theorem dX10_addWord_27 : decode cX10_addWord 27 = .ok (.goto (-22), 3) := by decide +kernel
theorem dX10_addWord_30 : decode cX10_addWord 30 = .ok (.aload_n 0, 1) := by decide +kernel
theorem dX10_addWord_31 : decode cX10_addWord 31 = .ok (.getfield 38, 3) := by decide +kernel
theorem dX10_addWord_34 : decode cX10_addWord 34 = .ok (.iload_n 1, 1) := by decide +kernel
theorem dX10_addWord_35 : decode cX10_addWord 35 = .ok (.caload, 1) := by decide +kernel
theorem dX10_addWord_36 : decode cX10_addWord 36 = .ok (.istore 4, 2) := by decide +kernel
theorem dX10_addWord_38 : decode cX10_addWord 38 = .ok (.aload_n 0, 1) := by decide +kernel
theorem dX10_addWord_39 : decode cX10_addWord 39 = .ok (.getfield 38, 3) := by decide +kernel
theorem dX10_addWord_42 : decode cX10_addWord 42 = .ok (.iload_n 2, 1) := by decide +kernel
theorem dX10_addWord_43 : decode cX10_addWord 43 = .ok (.iconst 1, 1) := by decide +kernel
theorem dX10_addWord_44 : decode cX10_addWord 44 = .ok (.isub, 1) := by decide +kernel
theorem dX10_addWord_45 : decode cX10_addWord 45 = .ok (.caload, 1) := by decide +kernel
theorem dX10_addWord_46 : decode cX10_addWord 46 = .ok (.istore 5, 2) := by decide +kernel
theorem dX10_addWord_48 : decode cX10_addWord 48 = .ok (.aload_n 0, 1) := by decide +kernel
theorem dX10_addWord_49 : decode cX10_addWord 49 = .ok (.getfield 23, 3) := by decide +kernel
theorem dX10_addWord_52 : decode cX10_addWord 52 = .ok (.aload_n 0, 1) := by decide +kernel
theorem dX10_addWord_53 : decode cX10_addWord 53 = .ok (.getfield 90, 3) := by decide +kernel
theorem dX10_addWord_56 : decode cX10_addWord 56 = .ok (.iload_n 3, 1) := by decide +kernel
theorem dX10_addWord_57 : decode cX10_addWord 57 = .ok (.iastore, 1) := by decide +kernel
theorem dX10_addWord_58 : decode cX10_addWord 58 = .ok (.aload_n 0, 1) := by decide +kernel
theorem dX10_addWord_59 : decode cX10_addWord 59 = .ok (.getfield 26, 3) := by decide +kernel
theorem dX10_addWord_62 : decode cX10_addWord 62 = .ok (.aload_n 0, 1) := by decide +kernel
theorem dX10_addWord_63 : decode cX10_addWord 63 = .ok (.getfield 90, 3) := by decide +kernel
theorem dX10_addWord_66 : decode cX10_addWord 66 = .ok (.iload_n 2, 1) := by decide +kernel
theorem dX10_addWord_67 : decode cX10_addWord 67 = .ok (.iload_n 1, 1) := by decide +kernel
theorem dX10_addWord_68 : decode cX10_addWord 68 = .ok (.isub, 1) := by decide +kernel
theorem dX10_addWord_69 : decode cX10_addWord 69 = .ok (.iastore, 1) := by decide +kernel
theorem dX10_addWord_70 : decode cX10_addWord 70 = .ok (.aload_n 0, 1) := by decide +kernel
theorem dX10_addWord_71 : decode cX10_addWord 71 = .ok (.getfield 29, 3) := by decide +kernel
theorem dX10_addWord_74 : decode cX10_addWord 74 = .ok (.aload_n 0, 1) := by decide +kernel
theorem dX10_addWord_75 : decode cX10_addWord 75 = .ok (.getfield 90, 3) := by decide +kernel
theorem dX10_addWord_78 : decode cX10_addWord 78 = .ok (.iload 5, 2) := by decide +kernel
theorem dX10_addWord_80 : decode cX10_addWord 80 = .ok (.invokestatic 73, 3) := by decide +kernel
theorem dX10_addWord_83 : decode cX10_addWord 83 = .ok (.ifCond .eq 7, 3) := by decide +kernel
theorem dX10_addWord_86 : decode cX10_addWord 86 = .ok (.iconst 2, 1) := by decide +kernel
theorem dX10_addWord_87 : decode cX10_addWord 87 = .ok (.goto 16, 3) := by decide +kernel
theorem dX10_addWord_90 : decode cX10_addWord 90 = .ok (.iload 5, 2) := by decide +kernel
theorem dX10_addWord_92 : decode cX10_addWord 92 = .ok (.invokestatic 77, 3) := by decide +kernel
theorem dX10_addWord_95 : decode cX10_addWord 95 = .ok (.ifCond .eq 7, 3) := by decide +kernel
theorem dX10_addWord_98 : decode cX10_addWord 98 = .ok (.iconst 1, 1) := by decide +kernel
theorem dX10_addWord_99 : decode cX10_addWord 99 = .ok (.goto 4, 3) := by decide +kernel
theorem dX10_addWord_102 : decode cX10_addWord 102 = .ok (.iconst 0, 1) := by decide +kernel
theorem dX10_addWord_103 : decode cX10_addWord 103 = .ok (.iastore, 1) := by decide +kernel
theorem dX10_addWord_104 : decode cX10_addWord 104 = .ok (.aload_n 0, 1) := by decide +kernel
theorem dX10_addWord_105 : decode cX10_addWord 105 = .ok (.getfield 32, 3) := by decide +kernel
theorem dX10_addWord_108 : decode cX10_addWord 108 = .ok (.aload_n 0, 1) := by decide +kernel
theorem dX10_addWord_109 : decode cX10_addWord 109 = .ok (.getfield 90, 3) := by decide +kernel
theorem dX10_addWord_112 : decode cX10_addWord 112 = .ok (.iload 4, 2) := by decide +kernel
theorem dX10_addWord_114 : decode cX10_addWord 114 = .ok (.bipush 39, 2) := by decide +kernel
theorem dX10_addWord_116 : decode cX10_addWord 116 = .ok (.if_icmp .eq 17, 3) := by decide +kernel
theorem dX10_addWord_119 : decode cX10_addWord 119 = .ok (.iload 4, 2) := by decide +kernel
theorem dX10_addWord_121 : decode cX10_addWord 121 = .ok (.bipush 34, 2) := by decide +kernel
theorem dX10_addWord_123 : decode cX10_addWord 123 = .ok (.if_icmp .eq 10, 3) := by decide +kernel
theorem dX10_addWord_126 : decode cX10_addWord 126 = .ok (.iload 4, 2) := by decide +kernel
theorem dX10_addWord_128 : decode cX10_addWord 128 = .ok (.bipush 40, 2) := by decide +kernel
theorem dX10_addWord_130 : decode cX10_addWord 130 = .ok (.if_icmp .ne 11, 3) := by decide +kernel
theorem dX10_addWord_133 : decode cX10_addWord 133 = .ok (.iload 4, 2) := by decide +kernel
theorem dX10_addWord_135 : decode cX10_addWord 135 = .ok (.invokestatic 86, 3) := by decide +kernel
theorem dX10_addWord_138 : decode cX10_addWord 138 = .ok (.goto 4, 3) := by decide +kernel
theorem dX10_addWord_141 : decode cX10_addWord 141 = .ok (.iconst 0, 1) := by decide +kernel
theorem dX10_addWord_142 : decode cX10_addWord 142 = .ok (.iastore, 1) := by decide +kernel
theorem dX10_addWord_143 : decode cX10_addWord 143 = .ok (.aload_n 0, 1) := by decide +kernel
theorem dX10_addWord_144 : decode cX10_addWord 144 = .ok (.getfield 35, 3) := by decide +kernel
theorem dX10_addWord_147 : decode cX10_addWord 147 = .ok (.aload_n 0, 1) := by decide +kernel
theorem dX10_addWord_148 : decode cX10_addWord 148 = .ok (.getfield 90, 3) := by decide +kernel
theorem dX10_addWord_151 : decode cX10_addWord 151 = .ok (.iload 5, 2) := by decide +kernel
theorem dX10_addWord_153 : decode cX10_addWord 153 = .ok (.invokestatic 80, 3) := by decide +kernel
theorem dX10_addWord_156 : decode cX10_addWord 156 = .ok (.ifCond .eq 11, 3) := by decide +kernel
theorem dX10_addWord_159 : decode cX10_addWord 159 = .ok (.iload 5, 2) := by decide +kernel
theorem dX10_addWord_161 : decode cX10_addWord 161 = .ok (.invokestatic 86, 3) := by decide +kernel
theorem dX10_addWord_164 : decode cX10_addWord 164 = .ok (.goto 4, 3) := by decide +kernel
theorem dX10_addWord_167 : decode cX10_addWord 167 = .ok (.iconst 0, 1) := by decide +kernel
theorem dX10_addWord_168 : decode cX10_addWord 168 = .ok (.iastore, 1) := by decide +kernel
theorem dX10_addWord_169 : decode cX10_addWord 169 = .ok (.aload_n 0, 1) := by decide +kernel
theorem dX10_addWord_170 : decode cX10_addWord 170 = .ok (.dup, 1) := by decide +kernel
theorem dX10_addWord_171 : decode cX10_addWord 171 = .ok (.getfield 90, 3) := by decide +kernel
theorem dX10_addWord_174 : decode cX10_addWord 174 = .ok (.iconst 1, 1) := by decide +kernel
theorem dX10_addWord_175 : decode cX10_addWord 175 = .ok (.iadd, 1) := by decide +kernel
theorem dX10_addWord_176 : decode cX10_addWord 176 = .ok (.putfield 90, 3) := by decide +kernel
theorem dX10_addWord_179 : decode cX10_addWord 179 = .ok (.return_, 1) := by decide +kernel
theorem dX10_readParagraph_0 : decode cX10_readParagraph 0 = .ok (.iconst 0, 1) := by decide +kernel
theorem dX10_readParagraph_1 : decode cX10_readParagraph 1 = .ok (.istore_n 1, 1) := by decide +kernel
theorem dX10_readParagraph_2 : decode cX10_readParagraph 2 = .ok (.iload_n 1, 1) := by decide +kernel
theorem dX10_readParagraph_3 : decode cX10_readParagraph 3 = .ok (.aload_n 0, 1) := by decide +kernel
theorem dX10_readParagraph_4 : decode cX10_readParagraph 4 = .ok (.getfield 83, 3) := by decide +kernel
theorem dX10_readParagraph_7 : decode cX10_readParagraph 7 = .ok (.if_icmp .ge 26, 3) := by decide +kernel
theorem dX10_readParagraph_10 : decode cX10_readParagraph 10 = .ok (.aload_n 0, 1) := by decide +kernel
theorem dX10_readParagraph_11 : decode cX10_readParagraph 11 = .ok (.getfield 38, 3) := by decide +kernel
theorem dX10_readParagraph_14 : decode cX10_readParagraph 14 = .ok (.iload_n 1, 1) := by decide +kernel
theorem dX10_readParagraph_15 : decode cX10_readParagraph 15 = .ok (.caload, 1) := by decide +kernel
theorem dX10_readParagraph_16 : decode cX10_readParagraph 16 = .ok (.invokestatic 93, 3) := by decide +kernel
theorem dX10_readParagraph_19 : decode cX10_readParagraph 19 = .ok (.ifCond .ne 8, 3) := by decide +kernel
theorem dX10_readParagraph_22 : decode cX10_readParagraph 22 = .ok (.bipush (-100), 2) := by decide +kernel
theorem dX10_readParagraph_24 : decode cX10_readParagraph 24 = .ok (.iload_n 1, 1) := by decide +kernel
theorem dX10_readParagraph_25 : decode cX10_readParagraph 25 = .ok (.isub, 1) := by decide +kernel
theorem dX10_readParagraph_26 : decode cX10_readParagraph 26 = .ok (.ireturn, 1) := by decide +kernel
theorem dX10_readParagraph_27 : decode cX10_readParagraph 27 = .ok (.iinc 1 1, 3) := by decide +kernel
theorem dX10_readParagraph_30 : decode cX10_readParagraph 30 = .ok (.goto (-28), 3) := by decide +kernel
theorem dX10_readParagraph_33 : decode cX10_readParagraph 33 = .ok (.aload_n 0, 1) := by decide +kernel
theorem dX10_readParagraph_34 : decode cX10_readParagraph 34 = .ok (.iconst 0, 1) := by decide +kernel
theorem dX10_readParagraph_35 : decode cX10_readParagraph 35 = .ok (.putfield 90, 3) := by decide +kernel
theorem dX10_readParagraph_38 : decode cX10_readParagraph 38 = .ok (.iconst 0, 1) := by decide +kernel
theorem dX10_readParagraph_39 : decode cX10_readParagraph 39 = .ok (.istore_n 1, 1) := by decide +kernel
theorem dX10_readParagraph_40 : decode cX10_readParagraph 40 = .ok (.iload_n 1, 1) := by decide +kernel
theorem dX10_readParagraph_41 : decode cX10_readParagraph 41 = .ok (.aload_n 0, 1) := by decide +kernel
theorem dX10_readParagraph_42 : decode cX10_readParagraph 42 = .ok (.getfield 83, 3) := by decide +kernel
theorem dX10_readParagraph_45 : decode cX10_readParagraph 45 = .ok (.if_icmp .ge 48, 3) := by decide +kernel
theorem dX10_readParagraph_48 : decode cX10_readParagraph 48 = .ok (.iload_n 1, 1) := by decide +kernel
theorem dX10_readParagraph_49 : decode cX10_readParagraph 49 = .ok (.istore_n 2, 1) := by decide +kernel
theorem dX10_readParagraph_50 : decode cX10_readParagraph 50 = .ok (.iload_n 2, 1) := by decide +kernel
theorem dX10_readParagraph_51 : decode cX10_readParagraph 51 = .ok (.aload_n 0, 1) := by decide +kernel
theorem dX10_readParagraph_52 : decode cX10_readParagraph 52 = .ok (.getfield 83, 3) := by decide +kernel
theorem dX10_readParagraph_55 : decode cX10_readParagraph 55 = .ok (.if_icmp .ge 20, 3) := by decide +kernel
theorem dX10_readParagraph_58 : decode cX10_readParagraph 58 = .ok (.aload_n 0, 1) := by decide +kernel
theorem dX10_readParagraph_59 : decode cX10_readParagraph 59 = .ok (.getfield 38, 3) := by decide +kernel
theorem dX10_readParagraph_62 : decode cX10_readParagraph 62 = .ok (.iload_n 2, 1) := by decide +kernel
theorem dX10_readParagraph_63 : decode cX10_readParagraph 63 = .ok (.caload, 1) := by decide +kernel
theorem dX10_readParagraph_64 : decode cX10_readParagraph 64 = .ok (.bipush 32, 2) := by decide +kernel
theorem dX10_readParagraph_66 : decode cX10_readParagraph 66 = .ok (.if_icmp .eq 9, 3) := by decide +kernel
theorem dX10_readParagraph_69 : decode cX10_readParagraph 69 = .ok (.iinc 2 1, 3) := by decide +kernel
theorem dX10_readParagraph_72 : decode cX10_readParagraph 72 = .ok (.goto (-22), 3) := by decide +kernel
theorem dX10_readParagraph_75 : decode cX10_readParagraph 75 = .ok (.iload_n 2, 1) := by decide +kernel
theorem dX10_readParagraph_76 : decode cX10_readParagraph 76 = .ok (.iload_n 1, 1) := by decide +kernel
theorem dX10_readParagraph_77 : decode cX10_readParagraph 77 = .ok (.if_icmp .le 9, 3) := by decide +kernel
theorem dX10_readParagraph_80 : decode cX10_readParagraph 80 = .ok (.aload_n 0, 1) := by decide +kernel
theorem dX10_readParagraph_81 : decode cX10_readParagraph 81 = .ok (.iload_n 1, 1) := by decide +kernel
theorem dX10_readParagraph_82 : decode cX10_readParagraph 82 = .ok (.iload_n 2, 1) := by decide +kernel
theorem dX10_readParagraph_83 : decode cX10_readParagraph 83 = .ok (.invokevirtual 96, 3) := by decide +kernel
theorem dX10_readParagraph_86 : decode cX10_readParagraph 86 = .ok (.iload_n 2, 1) := by decide +kernel
theorem dX10_readParagraph_87 : decode cX10_readParagraph 87 = .ok (.iconst 1, 1) := by decide +kernel
theorem dX10_readParagraph_88 : decode cX10_readParagraph 88 = .ok (.iadd, 1) := by decide +kernel
theorem dX10_readParagraph_89 : decode cX10_readParagraph 89 = .ok (.istore_n 1, 1) := by decide +kernel
theorem dX10_readParagraph_90 : decode cX10_readParagraph 90 = .ok (.goto (-50), 3) := by decide +kernel
theorem dX10_readParagraph_93 : decode cX10_readParagraph 93 = .ok (.aload_n 0, 1) := by decide +kernel
theorem dX10_readParagraph_94 : decode cX10_readParagraph 94 = .ok (.invokevirtual 66, 3) := by decide +kernel
theorem dX10_readParagraph_97 : decode cX10_readParagraph 97 = .ok (.aload_n 0, 1) := by decide +kernel
theorem dX10_readParagraph_98 : decode cX10_readParagraph 98 = .ok (.getfield 90, 3) := by decide +kernel
theorem dX10_readParagraph_101 : decode cX10_readParagraph 101 = .ok (.ireturn, 1) := by decide +kernel
theorem dX10_nextPiece_0 : decode cX10_nextPiece 0 = .ok (.aload_n 0, 1) := by decide +kernel
theorem dX10_nextPiece_1 : decode cX10_nextPiece 1 = .ok (.getfield 100, 3) := by decide +kernel
theorem dX10_nextPiece_4 : decode cX10_nextPiece 4 = .ok (.ifCond .lt 4, 3) := by decide +kernel
theorem dX10_nextPiece_7 : decode cX10_nextPiece 7 = .ok (.return_, 1) := by decide +kernel
theorem dX10_nextPiece_8 : decode cX10_nextPiece 8 = .ok (.iload_n 1, 1) := by decide +kernel
theorem dX10_nextPiece_9 : decode cX10_nextPiece 9 = .ok (.ifCond .ne 23, 3) := by decide +kernel
theorem dX10_nextPiece_12 : decode cX10_nextPiece 12 = .ok (.aload_n 0, 1) := by decide +kernel
theorem dX10_nextPiece_13 : decode cX10_nextPiece 13 = .ok (.getfield 103, 3) := by decide +kernel
theorem dX10_nextPiece_16 : decode cX10_nextPiece 16 = .ok (.aload_n 0, 1) := by decide +kernel
theorem dX10_nextPiece_17 : decode cX10_nextPiece 17 = .ok (.getfield 83, 3) := by decide +kernel
theorem dX10_nextPiece_20 : decode cX10_nextPiece 20 = .ok (.if_icmp .ne 12, 3) := by decide +kernel
theorem dX10_nextPiece_23 : decode cX10_nextPiece 23 = .ok (.aload_n 0, 1) := by decide +kernel
theorem dX10_nextPiece_24 : decode cX10_nextPiece 24 = .ok (.aload_n 0, 1) := by decide +kernel
theorem dX10_nextPiece_25 : decode cX10_nextPiece 25 = .ok (.getfield 83, 3) := by decide +kernel
theorem dX10_nextPiece_28 : decode cX10_nextPiece 28 = .ok (.putfield 100, 3) := by decide +kernel
theorem dX10_nextPiece_31 : decode cX10_nextPiece 31 = .ok (.return_, 1) := by decide +kernel
theorem dX10_nextPiece_32 : decode cX10_nextPiece 32 = .ok (.aload_n 0, 1) := by decide +kernel
theorem dX10_nextPiece_33 : decode cX10_nextPiece 33 = .ok (.iload_n 1, 1) := by decide +kernel
theorem dX10_nextPiece_34 : decode cX10_nextPiece 34 = .ok (.ifCond .eq 7, 3) := by decide +kernel
theorem dX10_nextPiece_37 : decode cX10_nextPiece 37 = .ok (.iconst 0, 1) := by decide +kernel
theorem dX10_nextPiece_38 : decode cX10_nextPiece 38 = .ok (.goto 9, 3) := by decide +kernel
theorem dX10_nextPiece_41 : decode cX10_nextPiece 41 = .ok (.aload_n 0, 1) := by decide +kernel
theorem dX10_nextPiece_42 : decode cX10_nextPiece 42 = .ok (.getfield 103, 3) := by decide +kernel
theorem dX10_nextPiece_45 : decode cX10_nextPiece 45 = .ok (.iconst 1, 1) := by decide +kernel
theorem dX10_nextPiece_46 : decode cX10_nextPiece 46 = .ok (.iadd, 1) := by decide +kernel
theorem dX10_nextPiece_47 : decode cX10_nextPiece 47 = .ok (.putfield 106, 3) := by decide +kernel
theorem dX10_nextPiece_50 : decode cX10_nextPiece 50 = .ok (.aload_n 0, 1) := by decide +kernel
theorem dX10_nextPiece_51 : decode cX10_nextPiece 51 = .ok (.aload_n 0, 1) := by decide +kernel
theorem dX10_nextPiece_52 : decode cX10_nextPiece 52 = .ok (.getfield 106, 3) := by decide +kernel
theorem dX10_nextPiece_55 : decode cX10_nextPiece 55 = .ok (.putfield 103, 3) := by decide +kernel
theorem dX10_nextPiece_58 : decode cX10_nextPiece 58 = .ok (.aload_n 0, 1) := by decide +kernel
theorem dX10_nextPiece_59 : decode cX10_nextPiece 59 = .ok (.getfield 103, 3) := by decide +kernel
theorem dX10_nextPiece_62 : decode cX10_nextPiece 62 = .ok (.aload_n 0, 1) := by decide +kernel
theorem dX10_nextPiece_63 : decode cX10_nextPiece 63 = .ok (.getfield 83, 3) := by decide +kernel
theorem dX10_nextPiece_66 : decode cX10_nextPiece 66 = .ok (.if_icmp .ge 30, 3) := by decide +kernel
theorem dX10_nextPiece_69 : decode cX10_nextPiece 69 = .ok (.aload_n 0, 1) := by decide +kernel
theorem dX10_nextPiece_70 : decode cX10_nextPiece 70 = .ok (.getfield 38, 3) := by decide +kernel
theorem dX10_nextPiece_73 : decode cX10_nextPiece 73 = .ok (.aload_n 0, 1) := by decide +kernel
theorem dX10_nextPiece_74 : decode cX10_nextPiece 74 = .ok (.getfield 103, 3) := by decide +kernel
theorem dX10_nextPiece_77 : decode cX10_nextPiece 77 = .ok (.caload, 1) := by decide +kernel
theorem dX10_nextPiece_78 : decode cX10_nextPiece 78 = .ok (.bipush 32, 2) := by decide +kernel
theorem dX10_nextPiece_80 : decode cX10_nextPiece 80 = .ok (.if_icmp .eq 16, 3) := by decide +kernel
theorem dX10_nextPiece_83 : decode cX10_nextPiece 83 = .ok (.aload_n 0, 1) := by decide +kernel
theorem dX10_nextPiece_84 : decode cX10_nextPiece 84 = .ok (.dup, 1) := by decide +kernel
theorem dX10_nextPiece_85 : decode cX10_nextPiece 85 = .ok (.getfield 103, 3) := by decide +kernel
theorem dX10_nextPiece_88 : decode cX10_nextPiece 88 = .ok (.iconst 1, 1) := by decide +kernel
theorem dX10_nextPiece_89 : decode cX10_nextPiece 89 = .ok (.iadd, 1) := by decide +kernel
theorem dX10_nextPiece_90 : decode cX10_nextPiece 90 = .ok (.putfield 103, 3) := by decide +kernel
theorem dX10_nextPiece_93 : decode cX10_nextPiece 93 = .ok (.goto (-35), 3) := by decide +kernel
theorem dX10_nextPiece_96 : decode cX10_nextPiece 96 = .ok (.aload_n 0, 1) := by decide +kernel
theorem dX10_nextPiece_97 : decode cX10_nextPiece 97 = .ok (.aload_n 0, 1) := by decide +kernel
theorem dX10_nextPiece_98 : decode cX10_nextPiece 98 = .ok (.getfield 103, 3) := by decide +kernel
theorem dX10_nextPiece_101 : decode cX10_nextPiece 101 = .ok (.aload_n 0, 1) := by decide +kernel
theorem dX10_nextPiece_102 : decode cX10_nextPiece 102 = .ok (.getfield 106, 3) := by decide +kernel
theorem dX10_nextPiece_105 : decode cX10_nextPiece 105 = .ok (.if_icmp .ne 10, 3) := by decide +kernel
theorem dX10_nextPiece_108 : decode cX10_nextPiece 108 = .ok (.aload_n 0, 1) := by decide +kernel
theorem dX10_nextPiece_109 : decode cX10_nextPiece 109 = .ok (.getfield 106, 3) := by decide +kernel
theorem dX10_nextPiece_112 : decode cX10_nextPiece 112 = .ok (.goto 4, 3) := by decide +kernel
theorem dX10_nextPiece_115 : decode cX10_nextPiece 115 = .ok (.iconst (-1), 1) := by decide +kernel
theorem dX10_nextPiece_116 : decode cX10_nextPiece 116 = .ok (.putfield 100, 3) := by decide +kernel
theorem dX10_nextPiece_119 : decode cX10_nextPiece 119 = .ok (.return_, 1) := by decide +kernel
theorem dX10_isPiece_0 : decode cX10_isPiece 0 = .ok (.aload_n 0, 1) := by decide +kernel
theorem dX10_isPiece_1 : decode cX10_isPiece 1 = .ok (.getfield 103, 3) := by decide +kernel
theorem dX10_isPiece_4 : decode cX10_isPiece 4 = .ok (.aload_n 0, 1) := by decide +kernel
theorem dX10_isPiece_5 : decode cX10_isPiece 5 = .ok (.getfield 106, 3) := by decide +kernel
theorem dX10_isPiece_8 : decode cX10_isPiece 8 = .ok (.isub, 1) := by decide +kernel
theorem dX10_isPiece_9 : decode cX10_isPiece 9 = .ok (.iconst 3, 1) := by decide +kernel
theorem dX10_isPiece_10 : decode cX10_isPiece 10 = .ok (.if_icmp .le 66, 3) := by decide +kernel
theorem dX10_isPiece_13 : decode cX10_isPiece 13 = .ok (.aload_n 0, 1) := by decide +kernel
theorem dX10_isPiece_14 : decode cX10_isPiece 14 = .ok (.getfield 38, 3) := by decide +kernel
theorem dX10_isPiece_17 : decode cX10_isPiece 17 = .ok (.aload_n 0, 1) := by decide +kernel
theorem dX10_isPiece_18 : decode cX10_isPiece 18 = .ok (.getfield 106, 3) := by decide +kernel
theorem dX10_isPiece_21 : decode cX10_isPiece 21 = .ok (.caload, 1) := by decide +kernel
theorem dX10_isPiece_22 : decode cX10_isPiece 22 = .ok (.iload_n 1, 1) := by decide +kernel
theorem dX10_isPiece_23 : decode cX10_isPiece 23 = .ok (.if_icmp .ne 53, 3) := by decide +kernel
theorem dX10_isPiece_26 : decode cX10_isPiece 26 = .ok (.aload_n 0, 1) := by decide +kernel
theorem dX10_isPiece_27 : decode cX10_isPiece 27 = .ok (.getfield 38, 3) := by decide +kernel
theorem dX10_isPiece_30 : decode cX10_isPiece 30 = .ok (.aload_n 0, 1) := by decide +kernel
theorem dX10_isPiece_31 : decode cX10_isPiece 31 = .ok (.getfield 106, 3) := by decide +kernel
theorem dX10_isPiece_34 : decode cX10_isPiece 34 = .ok (.iconst 1, 1) := by decide +kernel
theorem dX10_isPiece_35 : decode cX10_isPiece 35 = .ok (.iadd, 1) := by decide +kernel
theorem dX10_isPiece_36 : decode cX10_isPiece 36 = .ok (.caload, 1) := by decide +kernel
theorem dX10_isPiece_37 : decode cX10_isPiece 37 = .ok (.iload_n 2, 1) := by decide +kernel
theorem dX10_isPiece_38 : decode cX10_isPiece 38 = .ok (.if_icmp .ne 38, 3) := by decide +kernel
theorem dX10_isPiece_41 : decode cX10_isPiece 41 = .ok (.aload_n 0, 1) := by decide +kernel
theorem dX10_isPiece_42 : decode cX10_isPiece 42 = .ok (.getfield 38, 3) := by decide +kernel
theorem dX10_isPiece_45 : decode cX10_isPiece 45 = .ok (.aload_n 0, 1) := by decide +kernel
theorem dX10_isPiece_46 : decode cX10_isPiece 46 = .ok (.getfield 106, 3) := by decide +kernel
theorem dX10_isPiece_49 : decode cX10_isPiece 49 = .ok (.iconst 2, 1) := by decide +kernel
theorem dX10_isPiece_50 : decode cX10_isPiece 50 = .ok (.iadd, 1) := by decide +kernel
theorem dX10_isPiece_51 : decode cX10_isPiece 51 = .ok (.caload, 1) := by decide +kernel
theorem dX10_isPiece_52 : decode cX10_isPiece 52 = .ok (.iload_n 3, 1) := by decide +kernel
theorem dX10_isPiece_53 : decode cX10_isPiece 53 = .ok (.if_icmp .ne 23, 3) := by decide +kernel
theorem dX10_isPiece_56 : decode cX10_isPiece 56 = .ok (.aload_n 0, 1) := by decide +kernel
theorem dX10_isPiece_57 : decode cX10_isPiece 57 = .ok (.getfield 38, 3) := by decide +kernel
theorem dX10_isPiece_60 : decode cX10_isPiece 60 = .ok (.aload_n 0, 1) := by decide +kernel
theorem dX10_isPiece_61 : decode cX10_isPiece 61 = .ok (.getfield 106, 3) := by decide +kernel
theorem dX10_isPiece_64 : decode cX10_isPiece 64 = .ok (.iconst 3, 1) := by decide +kernel
theorem dX10_isPiece_65 : decode cX10_isPiece 65 = .ok (.iadd, 1) := by decide +kernel
theorem dX10_isPiece_66 : decode cX10_isPiece 66 = .ok (.caload, 1) := by decide +kernel
theorem dX10_isPiece_67 : decode cX10_isPiece 67 = .ok (.iload 4, 2) := by decide +kernel
theorem dX10_isPiece_69 : decode cX10_isPiece 69 = .ok (.if_icmp .ne 7, 3) := by decide +kernel
theorem dX10_isPiece_72 : decode cX10_isPiece 72 = .ok (.iconst 1, 1) := by decide +kernel
theorem dX10_isPiece_73 : decode cX10_isPiece 73 = .ok (.goto 4, 3) := by decide +kernel
theorem dX10_isPiece_76 : decode cX10_isPiece 76 = .ok (.iconst 0, 1) := by decide +kernel
theorem dX10_isPiece_77 : decode cX10_isPiece 77 = .ok (.ireturn, 1) := by decide +kernel
theorem dX10_endsWith_0 : decode cX10_endsWith 0 = .ok (.aload_n 0, 1) := by decide +kernel
theorem dX10_endsWith_1 : decode cX10_endsWith 1 = .ok (.getfield 38, 3) := by decide +kernel
theorem dX10_endsWith_4 : decode cX10_endsWith 4 = .ok (.aload_n 0, 1) := by decide +kernel
theorem dX10_endsWith_5 : decode cX10_endsWith 5 = .ok (.getfield 103, 3) := by decide +kernel
theorem dX10_endsWith_8 : decode cX10_endsWith 8 = .ok (.iconst 3, 1) := by decide +kernel
theorem dX10_endsWith_9 : decode cX10_endsWith 9 = .ok (.isub, 1) := by decide +kernel
theorem dX10_endsWith_10 : decode cX10_endsWith 10 = .ok (.caload, 1) := by decide +kernel
theorem dX10_endsWith_11 : decode cX10_endsWith 11 = .ok (.iload_n 1, 1) := by decide +kernel
theorem dX10_endsWith_12 : decode cX10_endsWith 12 = .ok (.if_icmp .ne 37, 3) := by decide +kernel
theorem dX10_endsWith_15 : decode cX10_endsWith 15 = .ok (.aload_n 0, 1) := by decide +kernel
theorem dX10_endsWith_16 : decode cX10_endsWith 16 = .ok (.getfield 38, 3) := by decide +kernel
theorem dX10_endsWith_19 : decode cX10_endsWith 19 = .ok (.aload_n 0, 1) := by decide +kernel
theorem dX10_endsWith_20 : decode cX10_endsWith 20 = .ok (.getfield 103, 3) := by decide +kernel
theorem dX10_endsWith_23 : decode cX10_endsWith 23 = .ok (.iconst 2, 1) := by decide +kernel
theorem dX10_endsWith_24 : decode cX10_endsWith 24 = .ok (.isub, 1) := by decide +kernel
theorem dX10_endsWith_25 : decode cX10_endsWith 25 = .ok (.caload, 1) := by decide +kernel
theorem dX10_endsWith_26 : decode cX10_endsWith 26 = .ok (.iload_n 2, 1) := by decide +kernel
theorem dX10_endsWith_27 : decode cX10_endsWith 27 = .ok (.if_icmp .ne 22, 3) := by decide +kernel
theorem dX10_endsWith_30 : decode cX10_endsWith 30 = .ok (.aload_n 0, 1) := by decide +kernel
theorem dX10_endsWith_31 : decode cX10_endsWith 31 = .ok (.getfield 38, 3) := by decide +kernel
theorem dX10_endsWith_34 : decode cX10_endsWith 34 = .ok (.aload_n 0, 1) := by decide +kernel
theorem dX10_endsWith_35 : decode cX10_endsWith 35 = .ok (.getfield 103, 3) := by decide +kernel
theorem dX10_endsWith_38 : decode cX10_endsWith 38 = .ok (.iconst 1, 1) := by decide +kernel
theorem dX10_endsWith_39 : decode cX10_endsWith 39 = .ok (.isub, 1) := by decide +kernel
theorem dX10_endsWith_40 : decode cX10_endsWith 40 = .ok (.caload, 1) := by decide +kernel
theorem dX10_endsWith_41 : decode cX10_endsWith 41 = .ok (.iload_n 3, 1) := by decide +kernel
theorem dX10_endsWith_42 : decode cX10_endsWith 42 = .ok (.if_icmp .ne 7, 3) := by decide +kernel
theorem dX10_endsWith_45 : decode cX10_endsWith 45 = .ok (.iconst 1, 1) := by decide +kernel
theorem dX10_endsWith_46 : decode cX10_endsWith 46 = .ok (.goto 4, 3) := by decide +kernel
theorem dX10_endsWith_49 : decode cX10_endsWith 49 = .ok (.iconst 0, 1) := by decide +kernel
theorem dX10_endsWith_50 : decode cX10_endsWith 50 = .ok (.ireturn, 1) := by decide +kernel
theorem dX10_isLong_0 : decode cX10_isLong 0 = .ok (.aload_n 0, 1) := by decide +kernel
theorem dX10_isLong_1 : decode cX10_isLong 1 = .ok (.getfield 103, 3) := by decide +kernel
theorem dX10_isLong_4 : decode cX10_isLong 4 = .ok (.aload_n 0, 1) := by decide +kernel
theorem dX10_isLong_5 : decode cX10_isLong 5 = .ok (.getfield 106, 3) := by decide +kernel
theorem dX10_isLong_8 : decode cX10_isLong 8 = .ok (.isub, 1) := by decide +kernel
theorem dX10_isLong_9 : decode cX10_isLong 9 = .ok (.iload_n 1, 1) := by decide +kernel
theorem dX10_isLong_10 : decode cX10_isLong 10 = .ok (.if_icmp .ne 7, 3) := by decide +kernel
theorem dX10_isLong_13 : decode cX10_isLong 13 = .ok (.iconst 1, 1) := by decide +kernel
theorem dX10_isLong_14 : decode cX10_isLong 14 = .ok (.goto 4, 3) := by decide +kernel
theorem dX10_isLong_17 : decode cX10_isLong 17 = .ok (.iconst 0, 1) := by decide +kernel
theorem dX10_isLong_18 : decode cX10_isLong 18 = .ok (.ireturn, 1) := by decide +kernel
theorem dX10_number_0 : decode cX10_number 0 = .ok (.aload_n 0, 1) := by decide +kernel
theorem dX10_number_1 : decode cX10_number 1 = .ok (.iconst 0, 1) := by decide +kernel
theorem dX10_number_2 : decode cX10_number 2 = .ok (.invokevirtual 109, 3) := by decide +kernel
theorem dX10_number_5 : decode cX10_number 5 = .ok (.iconst 0, 1) := by decide +kernel
theorem dX10_number_6 : decode cX10_number 6 = .ok (.istore_n 3, 1) := by decide +kernel
theorem dX10_number_7 : decode cX10_number 7 = .ok (.aload_n 0, 1) := by decide +kernel
theorem dX10_number_8 : decode cX10_number 8 = .ok (.getfield 106, 3) := by decide +kernel
theorem dX10_number_11 : decode cX10_number 11 = .ok (.istore 4, 2) := by decide +kernel
theorem dX10_number_13 : decode cX10_number 13 = .ok (.iload 4, 2) := by decide +kernel
theorem dX10_number_15 : decode cX10_number 15 = .ok (.aload_n 0, 1) := by decide +kernel
theorem dX10_number_16 : decode cX10_number 16 = .ok (.getfield 103, 3) := by decide +kernel
theorem dX10_number_19 : decode cX10_number 19 = .ok (.if_icmp .ge 74, 3) := by decide +kernel
theorem dX10_number_22 : decode cX10_number 22 = .ok (.aload_n 0, 1) := by decide +kernel
theorem dX10_number_23 : decode cX10_number 23 = .ok (.getfield 100, 3) := by decide +kernel
theorem dX10_number_26 : decode cX10_number 26 = .ok (.ifCond .ge 67, 3) := by decide +kernel
theorem dX10_number_29 : decode cX10_number 29 = .ok (.aload_n 0, 1) := by decide +kernel
theorem dX10_number_30 : decode cX10_number 30 = .ok (.getfield 38, 3) := by decide +kernel
theorem dX10_number_33 : decode cX10_number 33 = .ok (.iload 4, 2) := by decide +kernel
theorem dX10_number_35 : decode cX10_number 35 = .ok (.caload, 1) := by decide +kernel
theorem dX10_number_36 : decode cX10_number 36 = .ok (.bipush 48, 2) := by decide +kernel
theorem dX10_number_38 : decode cX10_number 38 = .ok (.bipush 57, 2) := by decide +kernel
theorem dX10_number_40 : decode cX10_number 40 = .ok (.invokestatic 69, 3) := by decide +kernel
theorem dX10_number_43 : decode cX10_number 43 = .ok (.ifCond .eq 20, 3) := by decide +kernel
theorem dX10_number_46 : decode cX10_number 46 = .ok (.aload_n 0, 1) := by decide +kernel
theorem dX10_number_47 : decode cX10_number 47 = .ok (.getfield 103, 3) := by decide +kernel
theorem dX10_number_50 : decode cX10_number 50 = .ok (.aload_n 0, 1) := by decide +kernel
theorem dX10_number_51 : decode cX10_number 51 = .ok (.getfield 106, 3) := by decide +kernel
theorem dX10_number_54 : decode cX10_number 54 = .ok (.isub, 1) := by decide +kernel
theorem dX10_number_55 : decode cX10_number 55 = .ok (.iconst 1, 1) := by decide +kernel
theorem dX10_number_56 : decode cX10_number 56 = .ok (.iconst 3, 1) := by decide +kernel
theorem dX10_number_57 : decode cX10_number 57 = .ok (.invokestatic 69, 3) := by decide +kernel
theorem dX10_number_60 : decode cX10_number 60 = .ok (.ifCond .ne 11, 3) := by decide +kernel
theorem dX10_number_63 : decode cX10_number 63 = .ok (.aload_n 0, 1) := by decide +kernel
theorem dX10_number_64 : decode cX10_number 64 = .ok (.aload_n 0, 1) := by decide +kernel
theorem dX10_number_65 : decode cX10_number 65 = .ok (.getfield 106, 3) := by decide +kernel
theorem dX10_number_68 : decode cX10_number 68 = .ok (.putfield 100, 3) := by decide +kernel
theorem dX10_number_71 : decode cX10_number 71 = .ok (.bipush 10, 2) := by decide +kernel
theorem dX10_number_73 : decode cX10_number 73 = .ok (.iload_n 3, 1) := by decide +kernel
theorem dX10_number_74 : decode cX10_number 74 = .ok (.imul, 1) := by decide +kernel
theorem dX10_number_75 : decode cX10_number 75 = .ok (.aload_n 0, 1) := by decide +kernel
theorem dX10_number_76 : decode cX10_number 76 = .ok (.getfield 38, 3) := by decide +kernel
theorem dX10_number_79 : decode cX10_number 79 = .ok (.iload 4, 2) := by decide +kernel
theorem dX10_number_81 : decode cX10_number 81 = .ok (.caload, 1) := by decide +kernel
theorem dX10_number_82 : decode cX10_number 82 = .ok (.iadd, 1) := by decide +kernel
theorem dX10_number_83 : decode cX10_number 83 = .ok (.bipush 48, 2) := by decide +kernel
theorem dX10_number_85 : decode cX10_number 85 = .ok (.isub, 1) := by decide +kernel
theorem dX10_number_86 : decode cX10_number 86 = .ok (.istore_n 3, 1) := by decide +kernel
theorem dX10_number_87 : decode cX10_number 87 = .ok (.iinc 4 1, 3) := by decide +kernel
theorem dX10_number_90 : decode cX10_number 90 = .ok (.goto (-77), 3) := by decide +kernel
theorem dX10_number_93 : decode cX10_number 93 = .ok (.aload_n 0, 1) := by decide +kernel
theorem dX10_number_94 : decode cX10_number 94 = .ok (.getfield 100, 3) := by decide +kernel
theorem dX10_number_97 : decode cX10_number 97 = .ok (.ifCond .ge 20, 3) := by decide +kernel
theorem dX10_number_100 : decode cX10_number 100 = .ok (.iload_n 3, 1) := by decide +kernel
theorem dX10_number_101 : decode cX10_number 101 = .ok (.iload_n 1, 1) := by decide +kernel
theorem dX10_number_102 : decode cX10_number 102 = .ok (.iload_n 2, 1) := by decide +kernel
theorem dX10_number_103 : decode cX10_number 103 = .ok (.invokestatic 69, 3) := by decide +kernel
theorem dX10_number_106 : decode cX10_number 106 = .ok (.ifCond .ne 11, 3) := by decide +kernel
theorem dX10_number_109 : decode cX10_number 109 = .ok (.aload_n 0, 1) := by decide +kernel
theorem dX10_number_110 : decode cX10_number 110 = .ok (.aload_n 0, 1) := by decide +kernel
theorem dX10_number_111 : decode cX10_number 111 = .ok (.getfield 106, 3) := by decide +kernel
theorem dX10_number_114 : decode cX10_number 114 = .ok (.putfield 100, 3) := by decide +kernel
theorem dX10_number_117 : decode cX10_number 117 = .ok (.iload_n 3, 1) := by decide +kernel
theorem dX10_number_118 : decode cX10_number 118 = .ok (.ireturn, 1) := by decide +kernel
theorem dX10_kind_0 : decode cX10_kind 0 = .ok (.aload_n 0, 1) := by decide +kernel
theorem dX10_kind_1 : decode cX10_kind 1 = .ok (.iconst 0, 1) := by decide +kernel
theorem dX10_kind_2 : decode cX10_kind 2 = .ok (.invokevirtual 109, 3) := by decide +kernel
theorem dX10_kind_5 : decode cX10_kind 5 = .ok (.aload_n 0, 1) := by decide +kernel
theorem dX10_kind_6 : decode cX10_kind 6 = .ok (.getfield 100, 3) := by decide +kernel
theorem dX10_kind_9 : decode cX10_kind 9 = .ok (.ifCond .lt 7, 3) := by decide +kernel
theorem dX10_kind_12 : decode cX10_kind 12 = .ok (.iconst (-1), 1) := by decide +kernel
theorem dX10_kind_13 : decode cX10_kind 13 = .ok (.goto 129, 3) := by decide +kernel
theorem dX10_kind_16 : decode cX10_kind 16 = .ok (.aload_n 0, 1) := by decide +kernel
theorem dX10_kind_17 : decode cX10_kind 17 = .ok (.bipush 119, 2) := by decide +kernel
theorem dX10_kind_19 : decode cX10_kind 19 = .ok (.bipush 111, 2) := by decide +kernel
theorem dX10_kind_21 : decode cX10_kind 21 = .ok (.bipush 114, 2) := by decide +kernel
theorem dX10_kind_23 : decode cX10_kind 23 = .ok (.bipush 100, 2) := by decide +kernel
theorem dX10_kind_25 : decode cX10_kind 25 = .ok (.invokevirtual 113, 3) := by decide +kernel
theorem dX10_kind_28 : decode cX10_kind 28 = .ok (.ifCond .eq 15, 3) := by decide +kernel
theorem dX10_kind_31 : decode cX10_kind 31 = .ok (.aload_n 0, 1) := by decide +kernel
theorem dX10_kind_32 : decode cX10_kind 32 = .ok (.iconst 4, 1) := by decide +kernel
theorem dX10_kind_33 : decode cX10_kind 33 = .ok (.invokevirtual 117, 3) := by decide +kernel
theorem dX10_kind_36 : decode cX10_kind 36 = .ok (.ifCond .eq 7, 3) := by decide +kernel
theorem dX10_kind_39 : decode cX10_kind 39 = .ok (.iconst 0, 1) := by decide +kernel
theorem dX10_kind_40 : decode cX10_kind 40 = .ok (.goto 102, 3) := by decide +kernel
theorem dX10_kind_43 : decode cX10_kind 43 = .ok (.aload_n 0, 1) := by decide +kernel
theorem dX10_kind_44 : decode cX10_kind 44 = .ok (.bipush 99, 2) := by decide +kernel
theorem dX10_kind_46 : decode cX10_kind 46 = .ok (.bipush 108, 2) := by decide +kernel
theorem dX10_kind_48 : decode cX10_kind 48 = .ok (.bipush 97, 2) := by decide +kernel
theorem dX10_kind_50 : decode cX10_kind 50 = .ok (.bipush 117, 2) := by decide +kernel
theorem dX10_kind_52 : decode cX10_kind 52 = .ok (.invokevirtual 113, 3) := by decide +kernel
theorem dX10_kind_55 : decode cX10_kind 55 = .ok (.ifCond .eq 29, 3) := by decide +kernel
theorem dX10_kind_58 : decode cX10_kind 58 = .ok (.aload_n 0, 1) := by decide +kernel
theorem dX10_kind_59 : decode cX10_kind 59 = .ok (.bipush 6, 2) := by decide +kernel
theorem dX10_kind_61 : decode cX10_kind 61 = .ok (.invokevirtual 117, 3) := by decide +kernel
theorem dX10_kind_64 : decode cX10_kind 64 = .ok (.ifCond .eq 20, 3) := by decide +kernel
theorem dX10_kind_67 : decode cX10_kind 67 = .ok (.aload_n 0, 1) := by decide +kernel
theorem dX10_kind_68 : decode cX10_kind 68 = .ok (.bipush 117, 2) := by decide +kernel
theorem dX10_kind_70 : decode cX10_kind 70 = .ok (.bipush 115, 2) := by decide +kernel
theorem dX10_kind_72 : decode cX10_kind 72 = .ok (.bipush 101, 2) := by decide +kernel
theorem dX10_kind_74 : decode cX10_kind 74 = .ok (.invokevirtual 121, 3) := by decide +kernel
theorem dX10_kind_77 : decode cX10_kind 77 = .ok (.ifCond .eq 7, 3) := by decide +kernel
theorem dX10_kind_80 : decode cX10_kind 80 = .ok (.iconst 1, 1) := by decide +kernel
theorem dX10_kind_81 : decode cX10_kind 81 = .ok (.goto 61, 3) := by decide +kernel
theorem dX10_kind_84 : decode cX10_kind 84 = .ok (.aload_n 0, 1) := by decide +kernel
theorem dX10_kind_85 : decode cX10_kind 85 = .ok (.bipush 115, 2) := by decide +kernel
theorem dX10_kind_87 : decode cX10_kind 87 = .ok (.bipush 101, 2) := by decide +kernel
theorem dX10_kind_89 : decode cX10_kind 89 = .ok (.bipush 110, 2) := by decide +kernel
theorem dX10_kind_91 : decode cX10_kind 91 = .ok (.bipush 116, 2) := by decide +kernel
theorem dX10_kind_93 : decode cX10_kind 93 = .ok (.invokevirtual 113, 3) := by decide +kernel
theorem dX10_kind_96 : decode cX10_kind 96 = .ok (.ifCond .eq 45, 3) := by decide +kernel
theorem dX10_kind_99 : decode cX10_kind 99 = .ok (.aload_n 0, 1) := by decide +kernel
theorem dX10_kind_100 : decode cX10_kind 100 = .ok (.bipush 8, 2) := by decide +kernel
theorem dX10_kind_102 : decode cX10_kind 102 = .ok (.invokevirtual 117, 3) := by decide +kernel
theorem dX10_kind_105 : decode cX10_kind 105 = .ok (.ifCond .eq 36, 3) := by decide +kernel
theorem dX10_kind_108 : decode cX10_kind 108 = .ok (.aload_n 0, 1) := by decide +kernel
theorem dX10_kind_109 : decode cX10_kind 109 = .ok (.bipush 110, 2) := by decide +kernel
theorem dX10_kind_111 : decode cX10_kind 111 = .ok (.bipush 99, 2) := by decide +kernel
theorem dX10_kind_113 : decode cX10_kind 113 = .ok (.bipush 101, 2) := by decide +kernel
theorem dX10_kind_115 : decode cX10_kind 115 = .ok (.invokevirtual 121, 3) := by decide +kernel
theorem dX10_kind_118 : decode cX10_kind 118 = .ok (.ifCond .eq 23, 3) := by decide +kernel
theorem dX10_kind_121 : decode cX10_kind 121 = .ok (.aload_n 0, 1) := by decide +kernel
theorem dX10_kind_122 : decode cX10_kind 122 = .ok (.getfield 38, 3) := by decide +kernel
theorem dX10_kind_125 : decode cX10_kind 125 = .ok (.aload_n 0, 1) := by decide +kernel
theorem dX10_kind_126 : decode cX10_kind 126 = .ok (.getfield 106, 3) := by decide +kernel
theorem dX10_kind_129 : decode cX10_kind 129 = .ok (.iconst 4, 1) := by decide +kernel
theorem dX10_kind_130 : decode cX10_kind 130 = .ok (.iadd, 1) := by decide +kernel
theorem dX10_kind_131 : decode cX10_kind 131 = .ok (.caload, 1) := by decide +kernel
theorem dX10_kind_132 : decode cX10_kind 132 = .ok (.bipush 101, 2) := by decide +kernel
theorem dX10_kind_134 : decode cX10_kind 134 = .ok (.if_icmp .ne 7, 3) := by decide +kernel
theorem dX10_kind_137 : decode cX10_kind 137 = .ok (.iconst 2, 1) := by decide +kernel
theorem dX10_kind_138 : decode cX10_kind 138 = .ok (.goto 4, 3) := by decide +kernel
theorem dX10_kind_141 : decode cX10_kind 141 = .ok (.iconst (-1), 1) := by decide +kernel
theorem dX10_kind_142 : decode cX10_kind 142 = .ok (.istore_n 1, 1) := by decide +kernel
theorem dX10_kind_143 : decode cX10_kind 143 = .ok (.aload_n 0, 1) := by decide +kernel
theorem dX10_kind_144 : decode cX10_kind 144 = .ok (.getfield 100, 3) := by decide +kernel
theorem dX10_kind_147 : decode cX10_kind 147 = .ok (.ifCond .ge 15, 3) := by decide +kernel
theorem dX10_kind_150 : decode cX10_kind 150 = .ok (.iload_n 1, 1) := by decide +kernel
theorem dX10_kind_151 : decode cX10_kind 151 = .ok (.ifCond .ge 11, 3) := by decide +kernel
theorem dX10_kind_154 : decode cX10_kind 154 = .ok (.aload_n 0, 1) := by decide +kernel
theorem dX10_kind_155 : decode cX10_kind 155 = .ok (.aload_n 0, 1) := by decide +kernel
theorem dX10_kind_156 : decode cX10_kind 156 = .ok (.getfield 106, 3) := by decide +kernel
theorem dX10_kind_159 : decode cX10_kind 159 = .ok (.putfield 100, 3) := by decide +kernel
theorem dX10_kind_162 : decode cX10_kind 162 = .ok (.iload_n 1, 1) := by decide +kernel
theorem dX10_kind_163 : decode cX10_kind 163 = .ok (.ireturn, 1) := by decide +kernel
theorem dX10_command_0 : decode cX10_command 0 = .ok (.aload_n 0, 1) := by decide +kernel
theorem dX10_command_1 : decode cX10_command 1 = .ok (.iconst (-1), 1) := by decide +kernel
theorem dX10_command_2 : decode cX10_command 2 = .ok (.putfield 100, 3) := by decide +kernel
theorem dX10_command_5 : decode cX10_command 5 = .ok (.aload_n 0, 1) := by decide +kernel
theorem dX10_command_6 : decode cX10_command 6 = .ok (.iconst 0, 1) := by decide +kernel
theorem dX10_command_7 : decode cX10_command 7 = .ok (.putfield 103, 3) := by decide +kernel
theorem dX10_command_10 : decode cX10_command 10 = .ok (.aload_n 0, 1) := by decide +kernel
theorem dX10_command_11 : decode cX10_command 11 = .ok (.iconst 1, 1) := by decide +kernel
theorem dX10_command_12 : decode cX10_command 12 = .ok (.invokevirtual 109, 3) := by decide +kernel
theorem dX10_command_15 : decode cX10_command 15 = .ok (.aload_n 0, 1) := by decide +kernel
theorem dX10_command_16 : decode cX10_command 16 = .ok (.getfield 100, 3) := by decide +kernel
theorem dX10_command_19 : decode cX10_command 19 = .ok (.ifCond .lt 7, 3) := by decide +kernel
theorem dX10_command_22 : decode cX10_command 22 = .ok (.iconst (-1), 1) := by decide +kernel
theorem dX10_command_23 : decode cX10_command 23 = .ok (.goto 158, 3) := by decide +kernel
theorem dX10_command_26 : decode cX10_command 26 = .ok (.aload_n 0, 1) := by decide +kernel
theorem dX10_command_27 : decode cX10_command 27 = .ok (.bipush 109, 2) := by decide +kernel
theorem dX10_command_29 : decode cX10_command 29 = .ok (.bipush 101, 2) := by decide +kernel
theorem dX10_command_31 : decode cX10_command 31 = .ok (.bipush 97, 2) := by decide +kernel
theorem dX10_command_33 : decode cX10_command 33 = .ok (.bipush 115, 2) := by decide +kernel
theorem dX10_command_35 : decode cX10_command 35 = .ok (.invokevirtual 113, 3) := by decide +kernel
theorem dX10_command_38 : decode cX10_command 38 = .ok (.ifCond .eq 29, 3) := by decide +kernel
theorem dX10_command_41 : decode cX10_command 41 = .ok (.aload_n 0, 1) := by decide +kernel
theorem dX10_command_42 : decode cX10_command 42 = .ok (.bipush 7, 2) := by decide +kernel
theorem dX10_command_44 : decode cX10_command 44 = .ok (.invokevirtual 117, 3) := by decide +kernel
theorem dX10_command_47 : decode cX10_command 47 = .ok (.ifCond .eq 20, 3) := by decide +kernel
theorem dX10_command_50 : decode cX10_command 50 = .ok (.aload_n 0, 1) := by decide +kernel
theorem dX10_command_51 : decode cX10_command 51 = .ok (.bipush 117, 2) := by decide +kernel
theorem dX10_command_53 : decode cX10_command 53 = .ok (.bipush 114, 2) := by decide +kernel
theorem dX10_command_55 : decode cX10_command 55 = .ok (.bipush 101, 2) := by decide +kernel
theorem dX10_command_57 : decode cX10_command 57 = .ok (.invokevirtual 121, 3) := by decide +kernel
theorem dX10_command_60 : decode cX10_command 60 = .ok (.ifCond .eq 7, 3) := by decide +kernel
theorem dX10_command_63 : decode cX10_command 63 = .ok (.iconst 0, 1) := by decide +kernel
theorem dX10_command_64 : decode cX10_command 64 = .ok (.goto 117, 3) := by decide +kernel
theorem dX10_command_67 : decode cX10_command 67 = .ok (.aload_n 0, 1) := by decide +kernel
theorem dX10_command_68 : decode cX10_command 68 = .ok (.bipush 104, 2) := by decide +kernel
theorem dX10_command_70 : decode cX10_command 70 = .ok (.bipush 97, 2) := by decide +kernel
theorem dX10_command_72 : decode cX10_command 72 = .ok (.bipush 110, 2) := by decide +kernel
theorem dX10_command_74 : decode cX10_command 74 = .ok (.bipush 103, 2) := by decide +kernel
theorem dX10_command_76 : decode cX10_command 76 = .ok (.invokevirtual 113, 3) := by decide +kernel
theorem dX10_command_79 : decode cX10_command 79 = .ok (.ifCond .eq 15, 3) := by decide +kernel
theorem dX10_command_82 : decode cX10_command 82 = .ok (.aload_n 0, 1) := by decide +kernel
theorem dX10_command_83 : decode cX10_command 83 = .ok (.iconst 4, 1) := by decide +kernel
theorem dX10_command_84 : decode cX10_command 84 = .ok (.invokevirtual 117, 3) := by decide +kernel
theorem dX10_command_87 : decode cX10_command 87 = .ok (.ifCond .eq 7, 3) := by decide +kernel
theorem dX10_command_90 : decode cX10_command 90 = .ok (.iconst 1, 1) := by decide +kernel
theorem dX10_command_91 : decode cX10_command 91 = .ok (.goto 90, 3) := by decide +kernel
theorem dX10_command_94 : decode cX10_command 94 = .ok (.aload_n 0, 1) := by decide +kernel
theorem dX10_command_95 : decode cX10_command 95 = .ok (.bipush 114, 2) := by decide +kernel
theorem dX10_command_97 : decode cX10_command 97 = .ok (.bipush 105, 2) := by decide +kernel
theorem dX10_command_99 : decode cX10_command 99 = .ok (.bipush 118, 2) := by decide +kernel
theorem dX10_command_101 : decode cX10_command 101 = .ok (.bipush 101, 2) := by decide +kernel
theorem dX10_command_103 : decode cX10_command 103 = .ok (.invokevirtual 113, 3) := by decide +kernel
theorem dX10_command_106 : decode cX10_command 106 = .ok (.ifCond .eq 31, 3) := by decide +kernel
theorem dX10_command_109 : decode cX10_command 109 = .ok (.aload_n 0, 1) := by decide +kernel
theorem dX10_command_110 : decode cX10_command 110 = .ok (.iconst 5, 1) := by decide +kernel
theorem dX10_command_111 : decode cX10_command 111 = .ok (.invokevirtual 117, 3) := by decide +kernel
theorem dX10_command_114 : decode cX10_command 114 = .ok (.ifCond .eq 23, 3) := by decide +kernel
theorem dX10_command_117 : decode cX10_command 117 = .ok (.aload_n 0, 1) := by decide +kernel
theorem dX10_command_118 : decode cX10_command 118 = .ok (.getfield 38, 3) := by decide +kernel
theorem dX10_command_121 : decode cX10_command 121 = .ok (.aload_n 0, 1) := by decide +kernel
theorem dX10_command_122 : decode cX10_command 122 = .ok (.getfield 106, 3) := by decide +kernel
theorem dX10_command_125 : decode cX10_command 125 = .ok (.iconst 4, 1) := by decide +kernel
theorem dX10_command_126 : decode cX10_command 126 = .ok (.iadd, 1) := by decide +kernel
theorem dX10_command_127 : decode cX10_command 127 = .ok (.caload, 1) := by decide +kernel
theorem dX10_command_128 : decode cX10_command 128 = .ok (.bipush 114, 2) := by decide +kernel
theorem dX10_command_130 : decode cX10_command 130 = .ok (.if_icmp .ne 7, 3) := by decide +kernel
theorem dX10_command_133 : decode cX10_command 133 = .ok (.iconst 2, 1) := by decide +kernel
theorem dX10_command_134 : decode cX10_command 134 = .ok (.goto 47, 3) := by decide +kernel
theorem dX10_command_137 : decode cX10_command 137 = .ok (.aload_n 0, 1) := by decide +kernel
theorem dX10_command_138 : decode cX10_command 138 = .ok (.bipush 115, 2) := by decide +kernel
theorem dX10_command_140 : decode cX10_command 140 = .ok (.bipush 112, 2) := by decide +kernel
theorem dX10_command_142 : decode cX10_command 142 = .ok (.bipush 97, 2) := by decide +kernel
theorem dX10_command_144 : decode cX10_command 144 = .ok (.bipush 99, 2) := by decide +kernel
theorem dX10_command_146 : decode cX10_command 146 = .ok (.invokevirtual 113, 3) := by decide +kernel
theorem dX10_command_149 : decode cX10_command 149 = .ok (.ifCond .eq 31, 3) := by decide +kernel
theorem dX10_command_152 : decode cX10_command 152 = .ok (.aload_n 0, 1) := by decide +kernel
theorem dX10_command_153 : decode cX10_command 153 = .ok (.iconst 5, 1) := by decide +kernel
theorem dX10_command_154 : decode cX10_command 154 = .ok (.invokevirtual 117, 3) := by decide +kernel
theorem dX10_command_157 : decode cX10_command 157 = .ok (.ifCond .eq 23, 3) := by decide +kernel
theorem dX10_command_160 : decode cX10_command 160 = .ok (.aload_n 0, 1) := by decide +kernel
theorem dX10_command_161 : decode cX10_command 161 = .ok (.getfield 38, 3) := by decide +kernel
theorem dX10_command_164 : decode cX10_command 164 = .ok (.aload_n 0, 1) := by decide +kernel
theorem dX10_command_165 : decode cX10_command 165 = .ok (.getfield 106, 3) := by decide +kernel
theorem dX10_command_168 : decode cX10_command 168 = .ok (.iconst 4, 1) := by decide +kernel
theorem dX10_command_169 : decode cX10_command 169 = .ok (.iadd, 1) := by decide +kernel
theorem dX10_command_170 : decode cX10_command 170 = .ok (.caload, 1) := by decide +kernel
theorem dX10_command_171 : decode cX10_command 171 = .ok (.bipush 101, 2) := by decide +kernel
theorem dX10_command_173 : decode cX10_command 173 = .ok (.if_icmp .ne 7, 3) := by decide +kernel
theorem dX10_command_176 : decode cX10_command 176 = .ok (.iconst 3, 1) := by decide +kernel
theorem dX10_command_177 : decode cX10_command 177 = .ok (.goto 4, 3) := by decide +kernel
theorem dX10_command_180 : decode cX10_command 180 = .ok (.iconst (-1), 1) := by decide +kernel
theorem dX10_command_181 : decode cX10_command 181 = .ok (.istore_n 1, 1) := by decide +kernel
theorem dX10_command_182 : decode cX10_command 182 = .ok (.aload_n 0, 1) := by decide +kernel
theorem dX10_command_183 : decode cX10_command 183 = .ok (.getfield 100, 3) := by decide +kernel
theorem dX10_command_186 : decode cX10_command 186 = .ok (.ifCond .ge 15, 3) := by decide +kernel
theorem dX10_command_189 : decode cX10_command 189 = .ok (.iload_n 1, 1) := by decide +kernel
theorem dX10_command_190 : decode cX10_command 190 = .ok (.ifCond .ge 11, 3) := by decide +kernel
theorem dX10_command_193 : decode cX10_command 193 = .ok (.aload_n 0, 1) := by decide +kernel
theorem dX10_command_194 : decode cX10_command 194 = .ok (.aload_n 0, 1) := by decide +kernel
theorem dX10_command_195 : decode cX10_command 195 = .ok (.getfield 106, 3) := by decide +kernel
theorem dX10_command_198 : decode cX10_command 198 = .ok (.putfield 100, 3) := by decide +kernel
theorem dX10_command_201 : decode cX10_command 201 = .ok (.iload_n 1, 1) := by decide +kernel
theorem dX10_command_202 : decode cX10_command 202 = .ok (.iconst 3, 1) := by decide +kernel
theorem dX10_command_203 : decode cX10_command 203 = .ok (.if_icmp .ne 10, 3) := by decide +kernel
theorem dX10_command_206 : decode cX10_command 206 = .ok (.aload_n 0, 1) := by decide +kernel
theorem dX10_command_207 : decode cX10_command 207 = .ok (.invokevirtual 125, 3) := by decide +kernel
theorem dX10_command_210 : decode cX10_command 210 = .ok (.goto 4, 3) := by decide +kernel
theorem dX10_command_213 : decode cX10_command 213 = .ok (.iconst 0, 1) := by decide +kernel
theorem dX10_command_214 : decode cX10_command 214 = .ok (.istore_n 2, 1) := by decide +kernel
theorem dX10_command_215 : decode cX10_command 215 = .ok (.aload_n 0, 1) := by decide +kernel
theorem dX10_command_216 : decode cX10_command 216 = .ok (.iload_n 1, 1) := by decide +kernel
theorem dX10_command_217 : decode cX10_command 217 = .ok (.ifCond .ne 8, 3) := by decide +kernel
theorem dX10_command_220 : decode cX10_command 220 = .ok (.bipush 10, 2) := by decide +kernel
theorem dX10_command_222 : decode cX10_command 222 = .ok (.goto 13, 3) := by decide +kernel
theorem dX10_command_225 : decode cX10_command 225 = .ok (.iload_n 1, 1) := by decide +kernel
theorem dX10_command_226 : decode cX10_command 226 = .ok (.iconst 3, 1) := by decide +kernel
theorem dX10_command_227 : decode cX10_command 227 = .ok (.if_icmp .ne 7, 3) := by decide +kernel
theorem dX10_command_230 : decode cX10_command 230 = .ok (.iconst 1, 1) := by decide +kernel
theorem dX10_command_231 : decode cX10_command 231 = .ok (.goto 4, 3) := by decide +kernel
theorem dX10_command_234 : decode cX10_command 234 = .ok (.iconst 0, 1) := by decide +kernel
theorem dX10_command_235 : decode cX10_command 235 = .ok (.iload_n 1, 1) := by decide +kernel
theorem dX10_command_236 : decode cX10_command 236 = .ok (.ifCond .ne 9, 3) := by decide +kernel
theorem dX10_command_239 : decode cX10_command 239 = .ok (.sipush 200, 3) := by decide +kernel
theorem dX10_command_242 : decode cX10_command 242 = .ok (.goto 25, 3) := by decide +kernel
theorem dX10_command_245 : decode cX10_command 245 = .ok (.iload_n 1, 1) := by decide +kernel
theorem dX10_command_246 : decode cX10_command 246 = .ok (.iconst 1, 1) := by decide +kernel
theorem dX10_command_247 : decode cX10_command 247 = .ok (.if_icmp .ne 8, 3) := by decide +kernel
theorem dX10_command_250 : decode cX10_command 250 = .ok (.bipush 100, 2) := by decide +kernel
theorem dX10_command_252 : decode cX10_command 252 = .ok (.goto 15, 3) := by decide +kernel
theorem dX10_command_255 : decode cX10_command 255 = .ok (.iload_n 1, 1) := by decide +kernel
theorem dX10_command_256 : decode cX10_command 256 = .ok (.iconst 2, 1) := by decide +kernel
theorem dX10_command_257 : decode cX10_command 257 = .ok (.if_icmp .ne 8, 3) := by decide +kernel
theorem dX10_command_260 : decode cX10_command 260 = .ok (.bipush 20, 2) := by decide +kernel
theorem dX10_command_262 : decode cX10_command 262 = .ok (.goto 5, 3) := by decide +kernel
theorem dX10_command_265 : decode cX10_command 265 = .ok (.bipush 40, 2) := by decide +kernel
theorem dX10_command_267 : decode cX10_command 267 = .ok (.invokevirtual 129, 3) := by decide +kernel
theorem dX10_command_270 : decode cX10_command 270 = .ok (.istore_n 3, 1) := by decide +kernel
theorem dX10_command_271 : decode cX10_command 271 = .ok (.iload_n 1, 1) := by decide +kernel
theorem dX10_command_272 : decode cX10_command 272 = .ok (.iconst 3, 1) := by decide +kernel
theorem dX10_command_273 : decode cX10_command 273 = .ok (.if_icmp .ne 13, 3) := by decide +kernel
theorem dX10_command_276 : decode cX10_command 276 = .ok (.aload_n 0, 1) := by decide +kernel
theorem dX10_command_277 : decode cX10_command 277 = .ok (.iload_n 3, 1) := by decide +kernel
theorem dX10_command_278 : decode cX10_command 278 = .ok (.bipush 40, 2) := by decide +kernel
theorem dX10_command_280 : decode cX10_command 280 = .ok (.invokevirtual 129, 3) := by decide +kernel
theorem dX10_command_283 : decode cX10_command 283 = .ok (.goto 4, 3) := by decide +kernel
theorem dX10_command_286 : decode cX10_command 286 = .ok (.iconst 0, 1) := by decide +kernel
theorem dX10_command_287 : decode cX10_command 287 = .ok (.istore 4, 2) := by decide +kernel
theorem dX10_command_289 : decode cX10_command 289 = .ok (.iload_n 1, 1) := by decide +kernel
theorem dX10_command_290 : decode cX10_command 290 = .ok (.iconst 3, 1) := by decide +kernel
theorem dX10_command_291 : decode cX10_command 291 = .ok (.if_icmp .ne 14, 3) := by decide +kernel
theorem dX10_command_294 : decode cX10_command 294 = .ok (.aload_n 0, 1) := by decide +kernel
theorem dX10_command_295 : decode cX10_command 295 = .ok (.iload 4, 2) := by decide +kernel
theorem dX10_command_297 : decode cX10_command 297 = .ok (.bipush 40, 2) := by decide +kernel
theorem dX10_command_299 : decode cX10_command 299 = .ok (.invokevirtual 129, 3) := by decide +kernel
theorem dX10_command_302 : decode cX10_command 302 = .ok (.goto 4, 3) := by decide +kernel
theorem dX10_command_305 : decode cX10_command 305 = .ok (.iconst 0, 1) := by decide +kernel
theorem dX10_command_306 : decode cX10_command 306 = .ok (.istore 5, 2) := by decide +kernel
theorem dX10_command_308 : decode cX10_command 308 = .ok (.aload_n 0, 1) := by decide +kernel
theorem dX10_command_309 : decode cX10_command 309 = .ok (.getfield 100, 3) := by decide +kernel
theorem dX10_command_312 : decode cX10_command 312 = .ok (.ifCond .ge 24, 3) := by decide +kernel
theorem dX10_command_315 : decode cX10_command 315 = .ok (.aload_n 0, 1) := by decide +kernel
theorem dX10_command_316 : decode cX10_command 316 = .ok (.getfield 103, 3) := by decide +kernel
theorem dX10_command_319 : decode cX10_command 319 = .ok (.aload_n 0, 1) := by decide +kernel
theorem dX10_command_320 : decode cX10_command 320 = .ok (.getfield 83, 3) := by decide +kernel
theorem dX10_command_323 : decode cX10_command 323 = .ok (.if_icmp .ge 13, 3) := by decide +kernel
theorem dX10_command_326 : decode cX10_command 326 = .ok (.aload_n 0, 1) := by decide +kernel
theorem dX10_command_327 : decode cX10_command 327 = .ok (.aload_n 0, 1) := by decide +kernel
theorem dX10_command_328 : decode cX10_command 328 = .ok (.getfield 103, 3) := by decide +kernel
theorem dX10_command_331 : decode cX10_command 331 = .ok (.iconst 1, 1) := by decide +kernel
theorem dX10_command_332 : decode cX10_command 332 = .ok (.iadd, 1) := by decide +kernel
theorem dX10_command_333 : decode cX10_command 333 = .ok (.putfield 100, 3) := by decide +kernel
theorem dX10_command_336 : decode cX10_command 336 = .ok (.aload_n 0, 1) := by decide +kernel
theorem dX10_command_337 : decode cX10_command 337 = .ok (.getfield 100, 3) := by decide +kernel
theorem dX10_command_340 : decode cX10_command 340 = .ok (.ifCond .lt 11, 3) := by decide +kernel
theorem dX10_command_343 : decode cX10_command 343 = .ok (.bipush (-100), 2) := by decide +kernel
theorem dX10_command_345 : decode cX10_command 345 = .ok (.aload_n 0, 1) := by decide +kernel
theorem dX10_command_346 : decode cX10_command 346 = .ok (.getfield 100, 3) := by decide +kernel
theorem dX10_command_349 : decode cX10_command 349 = .ok (.isub, 1) := by decide +kernel
theorem dX10_command_350 : decode cX10_command 350 = .ok (.ireturn, 1) := by decide +kernel
theorem dX10_command_351 : decode cX10_command 351 = .ok (.iload_n 1, 1) := by decide +kernel
theorem dX10_command_352 : decode cX10_command 352 = .ok (.ifCond .ne 12, 3) := by decide +kernel
theorem dX10_command_355 : decode cX10_command 355 = .ok (.aload_n 0, 1) := by decide +kernel
theorem dX10_command_356 : decode cX10_command 356 = .ok (.iload_n 3, 1) := by decide +kernel
theorem dX10_command_357 : decode cX10_command 357 = .ok (.invokevirtual 133, 3) := by decide +kernel
theorem dX10_command_360 : decode cX10_command 360 = .ok (.pop, 1) := by decide +kernel
theorem dX10_command_361 : decode cX10_command 361 = .ok (.goto 42, 3) := by decide +kernel
theorem dX10_command_364 : decode cX10_command 364 = .ok (.iload_n 1, 1) := by decide +kernel
theorem dX10_command_365 : decode cX10_command 365 = .ok (.iconst 1, 1) := by decide +kernel
theorem dX10_command_366 : decode cX10_command 366 = .ok (.if_icmp .ne 12, 3) := by decide +kernel
theorem dX10_command_369 : decode cX10_command 369 = .ok (.aload_n 0, 1) := by decide +kernel
theorem dX10_command_370 : decode cX10_command 370 = .ok (.iload_n 3, 1) := by decide +kernel
theorem dX10_command_371 : decode cX10_command 371 = .ok (.invokevirtual 137, 3) := by decide +kernel
theorem dX10_command_374 : decode cX10_command 374 = .ok (.pop, 1) := by decide +kernel
theorem dX10_command_375 : decode cX10_command 375 = .ok (.goto 28, 3) := by decide +kernel
theorem dX10_command_378 : decode cX10_command 378 = .ok (.iload_n 1, 1) := by decide +kernel
theorem dX10_command_379 : decode cX10_command 379 = .ok (.iconst 2, 1) := by decide +kernel
theorem dX10_command_380 : decode cX10_command 380 = .ok (.if_icmp .ne 12, 3) := by decide +kernel
theorem dX10_command_383 : decode cX10_command 383 = .ok (.aload_n 0, 1) := by decide +kernel
theorem dX10_command_384 : decode cX10_command 384 = .ok (.iload_n 3, 1) := by decide +kernel
theorem dX10_command_385 : decode cX10_command 385 = .ok (.invokevirtual 140, 3) := by decide +kernel
theorem dX10_command_388 : decode cX10_command 388 = .ok (.pop, 1) := by decide +kernel
theorem dX10_command_389 : decode cX10_command 389 = .ok (.goto 14, 3) := by decide +kernel
theorem dX10_command_392 : decode cX10_command 392 = .ok (.aload_n 0, 1) := by decide +kernel
theorem dX10_command_393 : decode cX10_command 393 = .ok (.iload_n 2, 1) := by decide +kernel
theorem dX10_command_394 : decode cX10_command 394 = .ok (.iload_n 3, 1) := by decide +kernel
theorem dX10_command_395 : decode cX10_command 395 = .ok (.iload 4, 2) := by decide +kernel
theorem dX10_command_397 : decode cX10_command 397 = .ok (.iload 5, 2) := by decide +kernel
theorem dX10_command_399 : decode cX10_command 399 = .ok (.invokevirtual 143, 3) := by decide +kernel
theorem dX10_command_402 : decode cX10_command 402 = .ok (.pop, 1) := by decide +kernel
theorem dX10_command_403 : decode cX10_command 403 = .ok (.aload_n 0, 1) := by decide +kernel
theorem dX10_command_404 : decode cX10_command 404 = .ok (.getfield 147, 3) := by decide +kernel
theorem dX10_command_407 : decode cX10_command 407 = .ok (.ireturn, 1) := by decide +kernel
theorem dX10_setMeasure_0 : decode cX10_setMeasure 0 = .ok (.iload_n 1, 1) := by decide +kernel
theorem dX10_setMeasure_1 : decode cX10_setMeasure 1 = .ok (.bipush 10, 2) := by decide +kernel
theorem dX10_setMeasure_3 : decode cX10_setMeasure 3 = .ok (.sipush 200, 3) := by decide +kernel
theorem dX10_setMeasure_6 : decode cX10_setMeasure 6 = .ok (.invokestatic 69, 3) := by decide +kernel
theorem dX10_setMeasure_9 : decode cX10_setMeasure 9 = .ok (.ifCond .ne 7, 3) := by decide +kernel
theorem dX10_setMeasure_12 : decode cX10_setMeasure 12 = .ok (.sipush (-1002), 3) := by decide +kernel
theorem dX10_setMeasure_15 : decode cX10_setMeasure 15 = .ok (.ireturn, 1) := by decide +kernel
theorem dX10_setMeasure_16 : decode cX10_setMeasure 16 = .ok (.aload_n 0, 1) := by decide +kernel
theorem dX10_setMeasure_17 : decode cX10_setMeasure 17 = .ok (.getfield 7, 3) := by decide +kernel
theorem dX10_setMeasure_20 : decode cX10_setMeasure 20 = .ok (.istore_n 2, 1) := by decide +kernel
theorem dX10_setMeasure_21 : decode cX10_setMeasure 21 = .ok (.aload_n 0, 1) := by decide +kernel
theorem dX10_setMeasure_22 : decode cX10_setMeasure 22 = .ok (.iload_n 1, 1) := by decide +kernel
theorem dX10_setMeasure_23 : decode cX10_setMeasure 23 = .ok (.putfield 7, 3) := by decide +kernel
theorem dX10_setMeasure_26 : decode cX10_setMeasure 26 = .ok (.aload_n 0, 1) := by decide +kernel
theorem dX10_setMeasure_27 : decode cX10_setMeasure 27 = .ok (.invokevirtual 66, 3) := by decide +kernel
theorem dX10_setMeasure_30 : decode cX10_setMeasure 30 = .ok (.iload_n 2, 1) := by decide +kernel
theorem dX10_setMeasure_31 : decode cX10_setMeasure 31 = .ok (.ireturn, 1) := by decide +kernel
theorem dX10_setHang_0 : decode cX10_setHang 0 = .ok (.iload_n 1, 1) := by decide +kernel
theorem dX10_setHang_1 : decode cX10_setHang 1 = .ok (.iconst 0, 1) := by decide +kernel
theorem dX10_setHang_2 : decode cX10_setHang 2 = .ok (.bipush 100, 2) := by decide +kernel
theorem dX10_setHang_4 : decode cX10_setHang 4 = .ok (.invokestatic 69, 3) := by decide +kernel
theorem dX10_setHang_7 : decode cX10_setHang 7 = .ok (.ifCond .ne 7, 3) := by decide +kernel
theorem dX10_setHang_10 : decode cX10_setHang 10 = .ok (.sipush (-1002), 3) := by decide +kernel
theorem dX10_setHang_13 : decode cX10_setHang 13 = .ok (.ireturn, 1) := by decide +kernel
theorem dX10_setHang_14 : decode cX10_setHang 14 = .ok (.aload_n 0, 1) := by decide +kernel
theorem dX10_setHang_15 : decode cX10_setHang 15 = .ok (.getfield 13, 3) := by decide +kernel
theorem dX10_setHang_18 : decode cX10_setHang 18 = .ok (.istore_n 2, 1) := by decide +kernel
theorem dX10_setHang_19 : decode cX10_setHang 19 = .ok (.aload_n 0, 1) := by decide +kernel
theorem dX10_setHang_20 : decode cX10_setHang 20 = .ok (.iload_n 1, 1) := by decide +kernel
theorem dX10_setHang_21 : decode cX10_setHang 21 = .ok (.putfield 13, 3) := by decide +kernel
theorem dX10_setHang_24 : decode cX10_setHang 24 = .ok (.aload_n 0, 1) := by decide +kernel
theorem dX10_setHang_25 : decode cX10_setHang 25 = .ok (.invokevirtual 66, 3) := by decide +kernel
theorem dX10_setHang_28 : decode cX10_setHang 28 = .ok (.iload_n 2, 1) := by decide +kernel
theorem dX10_setHang_29 : decode cX10_setHang 29 = .ok (.ireturn, 1) := by decide +kernel
theorem dX10_setTolerance_0 : decode cX10_setTolerance 0 = .ok (.iload_n 1, 1) := by decide +kernel
theorem dX10_setTolerance_1 : decode cX10_setTolerance 1 = .ok (.iconst 0, 1) := by decide +kernel
theorem dX10_setTolerance_2 : decode cX10_setTolerance 2 = .ok (.bipush 20, 2) := by decide +kernel
theorem dX10_setTolerance_4 : decode cX10_setTolerance 4 = .ok (.invokestatic 69, 3) := by decide +kernel
theorem dX10_setTolerance_7 : decode cX10_setTolerance 7 = .ok (.ifCond .ne 7, 3) := by decide +kernel
theorem dX10_setTolerance_10 : decode cX10_setTolerance 10 = .ok (.sipush (-1002), 3) := by decide +kernel
theorem dX10_setTolerance_13 : decode cX10_setTolerance 13 = .ok (.ireturn, 1) := by decide +kernel
theorem dX10_setTolerance_14 : decode cX10_setTolerance 14 = .ok (.aload_n 0, 1) := by decide +kernel
theorem dX10_setTolerance_15 : decode cX10_setTolerance 15 = .ok (.getfield 16, 3) := by decide +kernel
theorem dX10_setTolerance_18 : decode cX10_setTolerance 18 = .ok (.istore_n 2, 1) := by decide +kernel
theorem dX10_setTolerance_19 : decode cX10_setTolerance 19 = .ok (.aload_n 0, 1) := by decide +kernel
theorem dX10_setTolerance_20 : decode cX10_setTolerance 20 = .ok (.iload_n 1, 1) := by decide +kernel
theorem dX10_setTolerance_21 : decode cX10_setTolerance 21 = .ok (.putfield 16, 3) := by decide +kernel
theorem dX10_setTolerance_24 : decode cX10_setTolerance 24 = .ok (.aload_n 0, 1) := by decide +kernel
theorem dX10_setTolerance_25 : decode cX10_setTolerance 25 = .ok (.invokevirtual 66, 3) := by decide +kernel
theorem dX10_setTolerance_28 : decode cX10_setTolerance 28 = .ok (.iload_n 2, 1) := by decide +kernel
theorem dX10_setTolerance_29 : decode cX10_setTolerance 29 = .ok (.ireturn, 1) := by decide +kernel
theorem dX10_setSpace_0 : decode cX10_setSpace 0 = .ok (.iload_n 1, 1) := by decide +kernel
theorem dX10_setSpace_1 : decode cX10_setSpace 1 = .ok (.iconst 0, 1) := by decide +kernel
theorem dX10_setSpace_2 : decode cX10_setSpace 2 = .ok (.iconst 2, 1) := by decide +kernel
theorem dX10_setSpace_3 : decode cX10_setSpace 3 = .ok (.invokestatic 69, 3) := by decide +kernel
theorem dX10_setSpace_6 : decode cX10_setSpace 6 = .ok (.ifCond .ne 7, 3) := by decide +kernel
theorem dX10_setSpace_9 : decode cX10_setSpace 9 = .ok (.sipush (-1001), 3) := by decide +kernel
theorem dX10_setSpace_12 : decode cX10_setSpace 12 = .ok (.ireturn, 1) := by decide +kernel
theorem dX10_setSpace_13 : decode cX10_setSpace 13 = .ok (.iload_n 2, 1) := by decide +kernel
theorem dX10_setSpace_14 : decode cX10_setSpace 14 = .ok (.iconst 1, 1) := by decide +kernel
theorem dX10_setSpace_15 : decode cX10_setSpace 15 = .ok (.bipush 40, 2) := by decide +kernel
theorem dX10_setSpace_17 : decode cX10_setSpace 17 = .ok (.invokestatic 69, 3) := by decide +kernel
theorem dX10_setSpace_20 : decode cX10_setSpace 20 = .ok (.ifCond .eq 24, 3) := by decide +kernel
theorem dX10_setSpace_23 : decode cX10_setSpace 23 = .ok (.iload_n 3, 1) := by decide +kernel
theorem dX10_setSpace_24 : decode cX10_setSpace 24 = .ok (.iload_n 2, 1) := by decide +kernel
theorem dX10_setSpace_25 : decode cX10_setSpace 25 = .ok (.bipush 40, 2) := by decide +kernel
theorem dX10_setSpace_27 : decode cX10_setSpace 27 = .ok (.invokestatic 69, 3) := by decide +kernel
theorem dX10_setSpace_30 : decode cX10_setSpace 30 = .ok (.ifCond .eq 14, 3) := by decide +kernel
theorem dX10_setSpace_33 : decode cX10_setSpace 33 = .ok (.iload 4, 2) := by decide +kernel
theorem dX10_setSpace_35 : decode cX10_setSpace 35 = .ok (.iload_n 3, 1) := by decide +kernel
theorem dX10_setSpace_36 : decode cX10_setSpace 36 = .ok (.bipush 40, 2) := by decide +kernel
theorem dX10_setSpace_38 : decode cX10_setSpace 38 = .ok (.invokestatic 69, 3) := by decide +kernel
theorem dX10_setSpace_41 : decode cX10_setSpace 41 = .ok (.ifCond .ne 7, 3) := by decide +kernel
theorem dX10_setSpace_44 : decode cX10_setSpace 44 = .ok (.sipush (-1002), 3) := by decide +kernel
theorem dX10_setSpace_47 : decode cX10_setSpace 47 = .ok (.ireturn, 1) := by decide +kernel
theorem dX10_setSpace_48 : decode cX10_setSpace 48 = .ok (.aload_n 0, 1) := by decide +kernel
theorem dX10_setSpace_49 : decode cX10_setSpace 49 = .ok (.getfield 19, 3) := by decide +kernel
theorem dX10_setSpace_52 : decode cX10_setSpace 52 = .ok (.iconst 3, 1) := by decide +kernel
theorem dX10_setSpace_53 : decode cX10_setSpace 53 = .ok (.iload_n 1, 1) := by decide +kernel
theorem dX10_setSpace_54 : decode cX10_setSpace 54 = .ok (.imul, 1) := by decide +kernel
theorem dX10_setSpace_55 : decode cX10_setSpace 55 = .ok (.iconst 1, 1) := by decide +kernel
theorem dX10_setSpace_56 : decode cX10_setSpace 56 = .ok (.iadd, 1) := by decide +kernel
theorem dX10_setSpace_57 : decode cX10_setSpace 57 = .ok (.iaload, 1) := by decide +kernel
theorem dX10_setSpace_58 : decode cX10_setSpace 58 = .ok (.istore 5, 2) := by decide +kernel
theorem dX10_setSpace_60 : decode cX10_setSpace 60 = .ok (.aload_n 0, 1) := by decide +kernel
theorem dX10_setSpace_61 : decode cX10_setSpace 61 = .ok (.getfield 19, 3) := by decide +kernel
theorem dX10_setSpace_64 : decode cX10_setSpace 64 = .ok (.iconst 3, 1) := by decide +kernel
theorem dX10_setSpace_65 : decode cX10_setSpace 65 = .ok (.iload_n 1, 1) := by decide +kernel
theorem dX10_setSpace_66 : decode cX10_setSpace 66 = .ok (.imul, 1) := by decide +kernel
theorem dX10_setSpace_67 : decode cX10_setSpace 67 = .ok (.iload_n 2, 1) := by decide +kernel
theorem dX10_setSpace_68 : decode cX10_setSpace 68 = .ok (.iastore, 1) := by decide +kernel
theorem dX10_setSpace_69 : decode cX10_setSpace 69 = .ok (.aload_n 0, 1) := by decide +kernel
theorem dX10_setSpace_70 : decode cX10_setSpace 70 = .ok (.getfield 19, 3) := by decide +kernel
theorem dX10_setSpace_73 : decode cX10_setSpace 73 = .ok (.iconst 3, 1) := by decide +kernel
theorem dX10_setSpace_74 : decode cX10_setSpace 74 = .ok (.iload_n 1, 1) := by decide +kernel
theorem dX10_setSpace_75 : decode cX10_setSpace 75 = .ok (.imul, 1) := by decide +kernel
theorem dX10_setSpace_76 : decode cX10_setSpace 76 = .ok (.iconst 1, 1) := by decide +kernel
theorem dX10_setSpace_77 : decode cX10_setSpace 77 = .ok (.iadd, 1) := by decide +kernel
theorem dX10_setSpace_78 : decode cX10_setSpace 78 = .ok (.iload_n 3, 1) := by decide +kernel
theorem dX10_setSpace_79 : decode cX10_setSpace 79 = .ok (.iastore, 1) := by decide +kernel
theorem dX10_setSpace_80 : decode cX10_setSpace 80 = .ok (.aload_n 0, 1) := by decide +kernel
theorem dX10_setSpace_81 : decode cX10_setSpace 81 = .ok (.getfield 19, 3) := by decide +kernel
theorem dX10_setSpace_84 : decode cX10_setSpace 84 = .ok (.iconst 3, 1) := by decide +kernel
theorem dX10_setSpace_85 : decode cX10_setSpace 85 = .ok (.iload_n 1, 1) := by decide +kernel
theorem dX10_setSpace_86 : decode cX10_setSpace 86 = .ok (.imul, 1) := by decide +kernel
theorem dX10_setSpace_87 : decode cX10_setSpace 87 = .ok (.iconst 2, 1) := by decide +kernel
theorem dX10_setSpace_88 : decode cX10_setSpace 88 = .ok (.iadd, 1) := by decide +kernel
theorem dX10_setSpace_89 : decode cX10_setSpace 89 = .ok (.iload 4, 2) := by decide +kernel
theorem dX10_setSpace_91 : decode cX10_setSpace 91 = .ok (.iastore, 1) := by decide +kernel
theorem dX10_setSpace_92 : decode cX10_setSpace 92 = .ok (.aload_n 0, 1) := by decide +kernel
theorem dX10_setSpace_93 : decode cX10_setSpace 93 = .ok (.invokevirtual 66, 3) := by decide +kernel
theorem dX10_setSpace_96 : decode cX10_setSpace 96 = .ok (.iload 5, 2) := by decide +kernel
theorem dX10_setSpace_98 : decode cX10_setSpace 98 = .ok (.ireturn, 1) := by decide +kernel
theorem dX10_hangLeft_0 : decode cX10_hangLeft 0 = .ok (.aload_n 0, 1) := by decide +kernel
theorem dX10_hangLeft_1 : decode cX10_hangLeft 1 = .ok (.getfield 32, 3) := by decide +kernel
theorem dX10_hangLeft_4 : decode cX10_hangLeft 4 = .ok (.iload_n 1, 1) := by decide +kernel
theorem dX10_hangLeft_5 : decode cX10_hangLeft 5 = .ok (.iaload, 1) := by decide +kernel
theorem dX10_hangLeft_6 : decode cX10_hangLeft 6 = .ok (.aload_n 0, 1) := by decide +kernel
theorem dX10_hangLeft_7 : decode cX10_hangLeft 7 = .ok (.getfield 13, 3) := by decide +kernel
theorem dX10_hangLeft_10 : decode cX10_hangLeft 10 = .ok (.imul, 1) := by decide +kernel
theorem dX10_hangLeft_11 : decode cX10_hangLeft 11 = .ok (.bipush 100, 2) := by decide +kernel
theorem dX10_hangLeft_13 : decode cX10_hangLeft 13 = .ok (.idiv, 1) := by decide +kernel
theorem dX10_hangLeft_14 : decode cX10_hangLeft 14 = .ok (.ireturn, 1) := by decide +kernel
theorem dX10_hangRight_0 : decode cX10_hangRight 0 = .ok (.aload_n 0, 1) := by decide +kernel
theorem dX10_hangRight_1 : decode cX10_hangRight 1 = .ok (.getfield 35, 3) := by decide +kernel
theorem dX10_hangRight_4 : decode cX10_hangRight 4 = .ok (.iload_n 1, 1) := by decide +kernel
theorem dX10_hangRight_5 : decode cX10_hangRight 5 = .ok (.iaload, 1) := by decide +kernel
theorem dX10_hangRight_6 : decode cX10_hangRight 6 = .ok (.aload_n 0, 1) := by decide +kernel
theorem dX10_hangRight_7 : decode cX10_hangRight 7 = .ok (.getfield 13, 3) := by decide +kernel
theorem dX10_hangRight_10 : decode cX10_hangRight 10 = .ok (.imul, 1) := by decide +kernel
theorem dX10_hangRight_11 : decode cX10_hangRight 11 = .ok (.bipush 100, 2) := by decide +kernel
theorem dX10_hangRight_13 : decode cX10_hangRight 13 = .ok (.idiv, 1) := by decide +kernel
theorem dX10_hangRight_14 : decode cX10_hangRight 14 = .ok (.ireturn, 1) := by decide +kernel
theorem dX10_spaces_0 : decode cX10_spaces 0 = .ok (.iconst 0, 1) := by decide +kernel
theorem dX10_spaces_1 : decode cX10_spaces 1 = .ok (.istore 4, 2) := by decide +kernel
theorem dX10_spaces_3 : decode cX10_spaces 3 = .ok (.iload_n 1, 1) := by decide +kernel
theorem dX10_spaces_4 : decode cX10_spaces 4 = .ok (.istore 5, 2) := by decide +kernel
theorem dX10_spaces_6 : decode cX10_spaces 6 = .ok (.iload 5, 2) := by decide +kernel
theorem dX10_spaces_8 : decode cX10_spaces 8 = .ok (.iload_n 2, 1) := by decide +kernel
theorem dX10_spaces_9 : decode cX10_spaces 9 = .ok (.if_icmp .ge 30, 3) := by decide +kernel
theorem dX10_spaces_12 : decode cX10_spaces 12 = .ok (.iload 4, 2) := by decide +kernel
theorem dX10_spaces_14 : decode cX10_spaces 14 = .ok (.aload_n 0, 1) := by decide +kernel
theorem dX10_spaces_15 : decode cX10_spaces 15 = .ok (.getfield 19, 3) := by decide +kernel
theorem dX10_spaces_18 : decode cX10_spaces 18 = .ok (.iconst 3, 1) := by decide +kernel
theorem dX10_spaces_19 : decode cX10_spaces 19 = .ok (.aload_n 0, 1) := by decide +kernel
theorem dX10_spaces_20 : decode cX10_spaces 20 = .ok (.getfield 29, 3) := by decide +kernel
theorem dX10_spaces_23 : decode cX10_spaces 23 = .ok (.iload 5, 2) := by decide +kernel
theorem dX10_spaces_25 : decode cX10_spaces 25 = .ok (.iaload, 1) := by decide +kernel
theorem dX10_spaces_26 : decode cX10_spaces 26 = .ok (.imul, 1) := by decide +kernel
theorem dX10_spaces_27 : decode cX10_spaces 27 = .ok (.iload_n 3, 1) := by decide +kernel
theorem dX10_spaces_28 : decode cX10_spaces 28 = .ok (.iadd, 1) := by decide +kernel
theorem dX10_spaces_29 : decode cX10_spaces 29 = .ok (.iaload, 1) := by decide +kernel
theorem dX10_spaces_30 : decode cX10_spaces 30 = .ok (.iadd, 1) := by decide +kernel
theorem dX10_spaces_31 : decode cX10_spaces 31 = .ok (.istore 4, 2) := by decide +kernel
theorem dX10_spaces_33 : decode cX10_spaces 33 = .ok (.iinc 5 1, 3) := by decide +kernel
theorem dX10_spaces_36 : decode cX10_spaces 36 = .ok (.goto (-30), 3) := by decide +kernel
theorem dX10_spaces_39 : decode cX10_spaces 39 = .ok (.iload 4, 2) := by decide +kernel
theorem dX10_spaces_41 : decode cX10_spaces 41 = .ok (.ireturn, 1) := by decide +kernel
theorem dX10_natural_0 : decode cX10_natural 0 = .ok (.aload_n 0, 1) := by decide +kernel
theorem dX10_natural_1 : decode cX10_natural 1 = .ok (.iload_n 1, 1) := by decide +kernel
theorem dX10_natural_2 : decode cX10_natural 2 = .ok (.iload_n 2, 1) := by decide +kernel
theorem dX10_natural_3 : decode cX10_natural 3 = .ok (.iconst 1, 1) := by decide +kernel
theorem dX10_natural_4 : decode cX10_natural 4 = .ok (.invokevirtual 150, 3) := by decide +kernel
theorem dX10_natural_7 : decode cX10_natural 7 = .ok (.aload_n 0, 1) := by decide +kernel
theorem dX10_natural_8 : decode cX10_natural 8 = .ok (.iload_n 1, 1) := by decide +kernel
theorem dX10_natural_9 : decode cX10_natural 9 = .ok (.invokevirtual 154, 3) := by decide +kernel
theorem dX10_natural_12 : decode cX10_natural 12 = .ok (.isub, 1) := by decide +kernel
theorem dX10_natural_13 : decode cX10_natural 13 = .ok (.aload_n 0, 1) := by decide +kernel
theorem dX10_natural_14 : decode cX10_natural 14 = .ok (.iload_n 2, 1) := by decide +kernel
theorem dX10_natural_15 : decode cX10_natural 15 = .ok (.invokevirtual 157, 3) := by decide +kernel
theorem dX10_natural_18 : decode cX10_natural 18 = .ok (.isub, 1) := by decide +kernel
theorem dX10_natural_19 : decode cX10_natural 19 = .ok (.istore_n 3, 1) := by decide +kernel
theorem dX10_natural_20 : decode cX10_natural 20 = .ok (.iload_n 1, 1) := by decide +kernel
theorem dX10_natural_21 : decode cX10_natural 21 = .ok (.istore 4, 2) := by decide +kernel
theorem dX10_natural_23 : decode cX10_natural 23 = .ok (.iload 4, 2) := by decide +kernel
theorem dX10_natural_25 : decode cX10_natural 25 = .ok (.iload_n 2, 1) := by decide +kernel
theorem dX10_natural_26 : decode cX10_natural 26 = .ok (.if_icmp .gt 19, 3) := by decide +kernel
theorem dX10_natural_29 : decode cX10_natural 29 = .ok (.iload_n 3, 1) := by decide +kernel
theorem dX10_natural_30 : decode cX10_natural 30 = .ok (.aload_n 0, 1) := by decide +kernel
theorem dX10_natural_31 : decode cX10_natural 31 = .ok (.getfield 23, 3) := by decide +kernel
theorem dX10_natural_34 : decode cX10_natural 34 = .ok (.iload 4, 2) := by decide +kernel
theorem dX10_natural_36 : decode cX10_natural 36 = .ok (.iaload, 1) := by decide +kernel
theorem dX10_natural_37 : decode cX10_natural 37 = .ok (.iadd, 1) := by decide +kernel
theorem dX10_natural_38 : decode cX10_natural 38 = .ok (.istore_n 3, 1) := by decide +kernel
theorem dX10_natural_39 : decode cX10_natural 39 = .ok (.iinc 4 1, 3) := by decide +kernel
theorem dX10_natural_42 : decode cX10_natural 42 = .ok (.goto (-19), 3) := by decide +kernel
theorem dX10_natural_45 : decode cX10_natural 45 = .ok (.iload_n 3, 1) := by decide +kernel
theorem dX10_natural_46 : decode cX10_natural 46 = .ok (.ireturn, 1) := by decide +kernel
theorem dX10_difference_0 : decode cX10_difference 0 = .ok (.aload_n 0, 1) := by decide +kernel
theorem dX10_difference_1 : decode cX10_difference 1 = .ok (.getfield 7, 3) := by decide +kernel
theorem dX10_difference_4 : decode cX10_difference 4 = .ok (.aload_n 0, 1) := by decide +kernel
theorem dX10_difference_5 : decode cX10_difference 5 = .ok (.iload_n 1, 1) := by decide +kernel
theorem dX10_difference_6 : decode cX10_difference 6 = .ok (.iload_n 2, 1) := by decide +kernel
theorem dX10_difference_7 : decode cX10_difference 7 = .ok (.invokevirtual 160, 3) := by decide +kernel
theorem dX10_difference_10 : decode cX10_difference 10 = .ok (.isub, 1) := by decide +kernel
theorem dX10_difference_11 : decode cX10_difference 11 = .ok (.ireturn, 1) := by decide +kernel
theorem dX10_isLast_0 : decode cX10_isLast 0 = .ok (.iload_n 1, 1) := by decide +kernel
theorem dX10_isLast_1 : decode cX10_isLast 1 = .ok (.aload_n 0, 1) := by decide +kernel
theorem dX10_isLast_2 : decode cX10_isLast 2 = .ok (.getfield 90, 3) := by decide +kernel
theorem dX10_isLast_5 : decode cX10_isLast 5 = .ok (.iconst 1, 1) := by decide +kernel
theorem dX10_isLast_6 : decode cX10_isLast 6 = .ok (.isub, 1) := by decide +kernel
theorem dX10_isLast_7 : decode cX10_isLast 7 = .ok (.if_icmp .ne 7, 3) := by decide +kernel
theorem dX10_isLast_10 : decode cX10_isLast 10 = .ok (.iconst 1, 1) := by decide +kernel
theorem dX10_isLast_11 : decode cX10_isLast 11 = .ok (.goto 4, 3) := by decide +kernel
theorem dX10_isLast_14 : decode cX10_isLast 14 = .ok (.iconst 0, 1) := by decide +kernel
theorem dX10_isLast_15 : decode cX10_isLast 15 = .ok (.ireturn, 1) := by decide +kernel
theorem dX10_isPossible_0 : decode cX10_isPossible 0 = .ok (.aload_n 0, 1) := by decide +kernel
theorem dX10_isPossible_1 : decode cX10_isPossible 1 = .ok (.iload_n 1, 1) := by decide +kernel
theorem dX10_isPossible_2 : decode cX10_isPossible 2 = .ok (.iload_n 2, 1) := by decide +kernel
theorem dX10_isPossible_3 : decode cX10_isPossible 3 = .ok (.invokevirtual 163, 3) := by decide +kernel
theorem dX10_isPossible_6 : decode cX10_isPossible 6 = .ok (.istore_n 3, 1) := by decide +kernel
theorem dX10_isPossible_7 : decode cX10_isPossible 7 = .ok (.aload_n 0, 1) := by decide +kernel
theorem dX10_isPossible_8 : decode cX10_isPossible 8 = .ok (.iload_n 1, 1) := by decide +kernel
theorem dX10_isPossible_9 : decode cX10_isPossible 9 = .ok (.iload_n 2, 1) := by decide +kernel
theorem dX10_isPossible_10 : decode cX10_isPossible 10 = .ok (.iconst 1, 1) := by decide +kernel
theorem dX10_isPossible_11 : decode cX10_isPossible 11 = .ok (.invokevirtual 150, 3) := by decide +kernel
theorem dX10_isPossible_14 : decode cX10_isPossible 14 = .ok (.istore 4, 2) := by decide +kernel
theorem dX10_isPossible_16 : decode cX10_isPossible 16 = .ok (.iload_n 3, 1) := by decide +kernel
theorem dX10_isPossible_17 : decode cX10_isPossible 17 = .ok (.aload_n 0, 1) := by decide +kernel
theorem dX10_isPossible_18 : decode cX10_isPossible 18 = .ok (.iload_n 1, 1) := by decide +kernel
theorem dX10_isPossible_19 : decode cX10_isPossible 19 = .ok (.iload_n 2, 1) := by decide +kernel
theorem dX10_isPossible_20 : decode cX10_isPossible 20 = .ok (.iconst 0, 1) := by decide +kernel
theorem dX10_isPossible_21 : decode cX10_isPossible 21 = .ok (.invokevirtual 150, 3) := by decide +kernel
theorem dX10_isPossible_24 : decode cX10_isPossible 24 = .ok (.iload 4, 2) := by decide +kernel
theorem dX10_isPossible_26 : decode cX10_isPossible 26 = .ok (.isub, 1) := by decide +kernel
theorem dX10_isPossible_27 : decode cX10_isPossible 27 = .ok (.if_icmp .lt 29, 3) := by decide +kernel
theorem dX10_isPossible_30 : decode cX10_isPossible 30 = .ok (.aload_n 0, 1) := by decide +kernel
theorem dX10_isPossible_31 : decode cX10_isPossible 31 = .ok (.iload_n 2, 1) := by decide +kernel
theorem dX10_isPossible_32 : decode cX10_isPossible 32 = .ok (.invokevirtual 166, 3) := by decide +kernel
theorem dX10_isPossible_35 : decode cX10_isPossible 35 = .ok (.ifCond .ne 17, 3) := by decide +kernel
theorem dX10_isPossible_38 : decode cX10_isPossible 38 = .ok (.iload_n 3, 1) := by decide +kernel
theorem dX10_isPossible_39 : decode cX10_isPossible 39 = .ok (.aload_n 0, 1) := by decide +kernel
theorem dX10_isPossible_40 : decode cX10_isPossible 40 = .ok (.iload_n 1, 1) := by decide +kernel
theorem dX10_isPossible_41 : decode cX10_isPossible 41 = .ok (.iload_n 2, 1) := by decide +kernel
theorem dX10_isPossible_42 : decode cX10_isPossible 42 = .ok (.iconst 2, 1) := by decide +kernel
theorem dX10_isPossible_43 : decode cX10_isPossible 43 = .ok (.invokevirtual 150, 3) := by decide +kernel
theorem dX10_isPossible_46 : decode cX10_isPossible 46 = .ok (.iload 4, 2) := by decide +kernel
theorem dX10_isPossible_48 : decode cX10_isPossible 48 = .ok (.isub, 1) := by decide +kernel
theorem dX10_isPossible_49 : decode cX10_isPossible 49 = .ok (.if_icmp .gt 7, 3) := by decide +kernel
theorem dX10_isPossible_52 : decode cX10_isPossible 52 = .ok (.iconst 1, 1) := by decide +kernel
theorem dX10_isPossible_53 : decode cX10_isPossible 53 = .ok (.goto 4, 3) := by decide +kernel
theorem dX10_isPossible_56 : decode cX10_isPossible 56 = .ok (.iconst 0, 1) := by decide +kernel
theorem dX10_isPossible_57 : decode cX10_isPossible 57 = .ok (.ireturn, 1) := by decide +kernel
theorem dX10_badness_0 : decode cX10_badness 0 = .ok (.aload_n 0, 1) := by decide +kernel
theorem dX10_badness_1 : decode cX10_badness 1 = .ok (.iload_n 1, 1) := by decide +kernel
theorem dX10_badness_2 : decode cX10_badness 2 = .ok (.iload_n 2, 1) := by decide +kernel
theorem dX10_badness_3 : decode cX10_badness 3 = .ok (.invokevirtual 163, 3) := by decide +kernel
theorem dX10_badness_6 : decode cX10_badness 6 = .ok (.istore_n 3, 1) := by decide +kernel
theorem dX10_badness_7 : decode cX10_badness 7 = .ok (.iload_n 3, 1) := by decide +kernel
theorem dX10_badness_8 : decode cX10_badness 8 = .ok (.ifCond .eq 15, 3) := by decide +kernel
theorem dX10_badness_11 : decode cX10_badness 11 = .ok (.iload_n 3, 1) := by decide +kernel
theorem dX10_badness_12 : decode cX10_badness 12 = .ok (.ifCond .le 13, 3) := by decide +kernel
theorem dX10_badness_15 : decode cX10_badness 15 = .ok (.aload_n 0, 1) := by decide +kernel
theorem dX10_badness_16 : decode cX10_badness 16 = .ok (.iload_n 2, 1) := by decide +kernel
theorem dX10_badness_17 : decode cX10_badness 17 = .ok (.invokevirtual 166, 3) := by decide +kernel
theorem dX10_badness_20 : decode cX10_badness 20 = .ok (.ifCond .eq 5, 3) := by decide +kernel
theorem dX10_badness_23 : decode cX10_badness 23 = .ok (.iconst 0, 1) := by decide +kernel
theorem dX10_badness_24 : decode cX10_badness 24 = .ok (.ireturn, 1) := by decide +kernel
theorem dX10_badness_25 : decode cX10_badness 25 = .ok (.aload_n 0, 1) := by decide +kernel
theorem dX10_badness_26 : decode cX10_badness 26 = .ok (.iload_n 1, 1) := by decide +kernel
theorem dX10_badness_27 : decode cX10_badness 27 = .ok (.iload_n 2, 1) := by decide +kernel
theorem dX10_badness_28 : decode cX10_badness 28 = .ok (.iload_n 3, 1) := by decide +kernel
theorem dX10_badness_29 : decode cX10_badness 29 = .ok (.ifCond .le 7, 3) := by decide +kernel
theorem dX10_badness_32 : decode cX10_badness 32 = .ok (.iconst 2, 1) := by decide +kernel
theorem dX10_badness_33 : decode cX10_badness 33 = .ok (.goto 4, 3) := by decide +kernel
theorem dX10_badness_36 : decode cX10_badness 36 = .ok (.iconst 0, 1) := by decide +kernel
theorem dX10_badness_37 : decode cX10_badness 37 = .ok (.invokevirtual 150, 3) := by decide +kernel
theorem dX10_badness_40 : decode cX10_badness 40 = .ok (.aload_n 0, 1) := by decide +kernel
theorem dX10_badness_41 : decode cX10_badness 41 = .ok (.iload_n 1, 1) := by decide +kernel
theorem dX10_badness_42 : decode cX10_badness 42 = .ok (.iload_n 2, 1) := by decide +kernel
theorem dX10_badness_43 : decode cX10_badness 43 = .ok (.iconst 1, 1) := by decide +kernel
theorem dX10_badness_44 : decode cX10_badness 44 = .ok (.invokevirtual 150, 3) := by decide +kernel
theorem dX10_badness_47 : decode cX10_badness 47 = .ok (.isub, 1) := by decide +kernel
theorem dX10_badness_48 : decode cX10_badness 48 = .ok (.istore 4, 2) := by decide +kernel
theorem dX10_badness_50 : decode cX10_badness 50 = .ok (.bipush 100, 2) := by decide +kernel
theorem dX10_badness_52 : decode cX10_badness 52 = .ok (.iload_n 3, 1) := by decide +kernel
theorem dX10_badness_53 : decode cX10_badness 53 = .ok (.imul, 1) := by decide +kernel
theorem dX10_badness_54 : decode cX10_badness 54 = .ok (.iload_n 3, 1) := by decide +kernel
theorem dX10_badness_55 : decode cX10_badness 55 = .ok (.imul, 1) := by decide +kernel
theorem dX10_badness_56 : decode cX10_badness 56 = .ok (.iload 4, 2) := by decide +kernel
theorem dX10_badness_58 : decode cX10_badness 58 = .ok (.iload 4, 2) := by decide +kernel
theorem dX10_badness_60 : decode cX10_badness 60 = .ok (.imul, 1) := by decide +kernel
theorem dX10_badness_61 : decode cX10_badness 61 = .ok (.idiv, 1) := by decide +kernel
theorem dX10_badness_62 : decode cX10_badness 62 = .ok (.ireturn, 1) := by decide +kernel
theorem dX10_demerits_0 : decode cX10_demerits 0 = .ok (.bipush 10, 2) := by decide +kernel
theorem dX10_demerits_2 : decode cX10_demerits 2 = .ok (.aload_n 0, 1) := by decide +kernel
theorem dX10_demerits_3 : decode cX10_demerits 3 = .ok (.iload_n 1, 1) := by decide +kernel
theorem dX10_demerits_4 : decode cX10_demerits 4 = .ok (.iload_n 2, 1) := by decide +kernel
theorem dX10_demerits_5 : decode cX10_demerits 5 = .ok (.invokevirtual 169, 3) := by decide +kernel
theorem dX10_demerits_8 : decode cX10_demerits 8 = .ok (.iadd, 1) := by decide +kernel
theorem dX10_demerits_9 : decode cX10_demerits 9 = .ok (.istore_n 3, 1) := by decide +kernel
theorem dX10_demerits_10 : decode cX10_demerits 10 = .ok (.iload_n 3, 1) := by decide +kernel
theorem dX10_demerits_11 : decode cX10_demerits 11 = .ok (.iload_n 3, 1) := by decide +kernel
theorem dX10_demerits_12 : decode cX10_demerits 12 = .ok (.imul, 1) := by decide +kernel
theorem dX10_demerits_13 : decode cX10_demerits 13 = .ok (.aload_n 0, 1) := by decide +kernel
theorem dX10_demerits_14 : decode cX10_demerits 14 = .ok (.iload_n 2, 1) := by decide +kernel
theorem dX10_demerits_15 : decode cX10_demerits 15 = .ok (.invokevirtual 166, 3) := by decide +kernel
theorem dX10_demerits_18 : decode cX10_demerits 18 = .ok (.ifCond .ne 18, 3) := by decide +kernel
theorem dX10_demerits_21 : decode cX10_demerits 21 = .ok (.aload_n 0, 1) := by decide +kernel
theorem dX10_demerits_22 : decode cX10_demerits 22 = .ok (.getfield 26, 3) := by decide +kernel
theorem dX10_demerits_25 : decode cX10_demerits 25 = .ok (.iload_n 2, 1) := by decide +kernel
theorem dX10_demerits_26 : decode cX10_demerits 26 = .ok (.iaload, 1) := by decide +kernel
theorem dX10_demerits_27 : decode cX10_demerits 27 = .ok (.iconst 2, 1) := by decide +kernel
theorem dX10_demerits_28 : decode cX10_demerits 28 = .ok (.if_icmp .gt 8, 3) := by decide +kernel
theorem dX10_demerits_31 : decode cX10_demerits 31 = .ok (.bipush 100, 2) := by decide +kernel
theorem dX10_demerits_33 : decode cX10_demerits 33 = .ok (.goto 4, 3) := by decide +kernel
theorem dX10_demerits_36 : decode cX10_demerits 36 = .ok (.iconst 0, 1) := by decide +kernel
theorem dX10_demerits_37 : decode cX10_demerits 37 = .ok (.iadd, 1) := by decide +kernel
theorem dX10_demerits_38 : decode cX10_demerits 38 = .ok (.ireturn, 1) := by decide +kernel
theorem dX10_findWays_0 : decode cX10_findWays 0 = .ok (.aload_n 0, 1) := by decide +kernel
theorem dX10_findWays_1 : decode cX10_findWays 1 = .ok (.getfield 42, 3) := by decide +kernel
theorem dX10_findWays_4 : decode cX10_findWays 4 = .ok (.aload_n 0, 1) := by decide +kernel
theorem dX10_findWays_5 : decode cX10_findWays 5 = .ok (.getfield 90, 3) := by decide +kernel
theorem dX10_findWays_8 : decode cX10_findWays 8 = .ok (.iconst 0, 1) := by decide +kernel
theorem dX10_findWays_9 : decode cX10_findWays 9 = .ok (.iastore, 1) := by decide +kernel
theorem dX10_findWays_10 : decode cX10_findWays 10 = .ok (.aload_n 0, 1) := by decide +kernel
theorem dX10_findWays_11 : decode cX10_findWays 11 = .ok (.getfield 90, 3) := by decide +kernel
theorem dX10_findWays_14 : decode cX10_findWays 14 = .ok (.iconst 1, 1) := by decide +kernel
theorem dX10_findWays_15 : decode cX10_findWays 15 = .ok (.isub, 1) := by decide +kernel
theorem dX10_findWays_16 : decode cX10_findWays 16 = .ok (.istore_n 1, 1) := by decide +kernel
theorem dX10_findWays_17 : decode cX10_findWays 17 = .ok (.iload_n 1, 1) := by decide +kernel
theorem dX10_findWays_18 : decode cX10_findWays 18 = .ok (.ifCond .lt 101, 3) := by decide +kernel
theorem dX10_findWays_21 : decode cX10_findWays 21 = .ok (.aload_n 0, 1) := by decide +kernel
theorem dX10_findWays_22 : decode cX10_findWays 22 = .ok (.getfield 42, 3) := by decide +kernel
theorem dX10_findWays_25 : decode cX10_findWays 25 = .ok (.iload_n 1, 1) := by decide +kernel
theorem dX10_findWays_26 : decode cX10_findWays 26 = .ok (.iconst (-1), 1) := by decide +kernel
theorem dX10_findWays_27 : decode cX10_findWays 27 = .ok (.iastore, 1) := by decide +kernel
theorem dX10_findWays_28 : decode cX10_findWays 28 = .ok (.iload_n 1, 1) := by decide +kernel
theorem dX10_findWays_29 : decode cX10_findWays 29 = .ok (.istore_n 2, 1) := by decide +kernel
theorem dX10_findWays_30 : decode cX10_findWays 30 = .ok (.iload_n 2, 1) := by decide +kernel
theorem dX10_findWays_31 : decode cX10_findWays 31 = .ok (.aload_n 0, 1) := by decide +kernel
theorem dX10_findWays_32 : decode cX10_findWays 32 = .ok (.getfield 90, 3) := by decide +kernel
theorem dX10_findWays_35 : decode cX10_findWays 35 = .ok (.if_icmp .ge 78, 3) := by decide +kernel
theorem dX10_findWays_38 : decode cX10_findWays 38 = .ok (.aload_n 0, 1) := by decide +kernel
theorem dX10_findWays_39 : decode cX10_findWays 39 = .ok (.getfield 42, 3) := by decide +kernel
theorem dX10_findWays_42 : decode cX10_findWays 42 = .ok (.iload_n 2, 1) := by decide +kernel
theorem dX10_findWays_43 : decode cX10_findWays 43 = .ok (.iconst 1, 1) := by decide +kernel
theorem dX10_findWays_44 : decode cX10_findWays 44 = .ok (.iadd, 1) := by decide +kernel
theorem dX10_findWays_45 : decode cX10_findWays 45 = .ok (.iaload, 1) := by decide +kernel
theorem dX10_findWays_46 : decode cX10_findWays 46 = .ok (.ifCond .lt 61, 3) := by decide +kernel
theorem dX10_findWays_49 : decode cX10_findWays 49 = .ok (.aload_n 0, 1) := by decide +kernel
theorem dX10_findWays_50 : decode cX10_findWays 50 = .ok (.iload_n 1, 1) := by decide +kernel
theorem dX10_findWays_51 : decode cX10_findWays 51 = .ok (.iload_n 2, 1) := by decide +kernel
theorem dX10_findWays_52 : decode cX10_findWays 52 = .ok (.invokevirtual 172, 3) := by decide +kernel
theorem dX10_findWays_55 : decode cX10_findWays 55 = .ok (.ifCond .eq 52, 3) := by decide +kernel
theorem dX10_findWays_58 : decode cX10_findWays 58 = .ok (.aload_n 0, 1) := by decide +kernel
theorem dX10_findWays_59 : decode cX10_findWays 59 = .ok (.iload_n 1, 1) := by decide +kernel
theorem dX10_findWays_60 : decode cX10_findWays 60 = .ok (.iload_n 2, 1) := by decide +kernel
theorem dX10_findWays_61 : decode cX10_findWays 61 = .ok (.invokevirtual 176, 3) := by decide +kernel
theorem dX10_findWays_64 : decode cX10_findWays 64 = .ok (.aload_n 0, 1) := by decide +kernel
theorem dX10_findWays_65 : decode cX10_findWays 65 = .ok (.getfield 42, 3) := by decide +kernel
theorem dX10_findWays_68 : decode cX10_findWays 68 = .ok (.iload_n 2, 1) := by decide +kernel
theorem dX10_findWays_69 : decode cX10_findWays 69 = .ok (.iconst 1, 1) := by decide +kernel
theorem dX10_findWays_70 : decode cX10_findWays 70 = .ok (.iadd, 1) := by decide +kernel
theorem dX10_findWays_71 : decode cX10_findWays 71 = .ok (.iaload, 1) := by decide +kernel
theorem dX10_findWays_72 : decode cX10_findWays 72 = .ok (.iadd, 1) := by decide +kernel
theorem dX10_findWays_73 : decode cX10_findWays 73 = .ok (.istore_n 3, 1) := by decide +kernel
theorem dX10_findWays_74 : decode cX10_findWays 74 = .ok (.aload_n 0, 1) := by decide +kernel
theorem dX10_findWays_75 : decode cX10_findWays 75 = .ok (.getfield 42, 3) := by decide +kernel
theorem dX10_findWays_78 : decode cX10_findWays 78 = .ok (.iload_n 1, 1) := by decide +kernel
theorem dX10_findWays_79 : decode cX10_findWays 79 = .ok (.iaload, 1) := by decide +kernel
theorem dX10_findWays_80 : decode cX10_findWays 80 = .ok (.ifCond .lt 13, 3) := by decide +kernel
theorem dX10_findWays_83 : decode cX10_findWays 83 = .ok (.iload_n 3, 1) := by decide +kernel
theorem dX10_findWays_84 : decode cX10_findWays 84 = .ok (.aload_n 0, 1) := by decide +kernel
theorem dX10_findWays_85 : decode cX10_findWays 85 = .ok (.getfield 42, 3) := by decide +kernel
theorem dX10_findWays_88 : decode cX10_findWays 88 = .ok (.iload_n 1, 1) := by decide +kernel
theorem dX10_findWays_89 : decode cX10_findWays 89 = .ok (.iaload, 1) := by decide +kernel
theorem dX10_findWays_90 : decode cX10_findWays 90 = .ok (.if_icmp .gt 17, 3) := by decide +kernel
theorem dX10_findWays_93 : decode cX10_findWays 93 = .ok (.aload_n 0, 1) := by decide +kernel
theorem dX10_findWays_94 : decode cX10_findWays 94 = .ok (.getfield 42, 3) := by decide +kernel
theorem dX10_findWays_97 : decode cX10_findWays 97 = .ok (.iload_n 1, 1) := by decide +kernel
theorem dX10_findWays_98 : decode cX10_findWays 98 = .ok (.iload_n 3, 1) := by decide +kernel
theorem dX10_findWays_99 : decode cX10_findWays 99 = .ok (.iastore, 1) := by decide +kernel
theorem dX10_findWays_100 : decode cX10_findWays 100 = .ok (.aload_n 0, 1) := by decide +kernel
theorem dX10_findWays_101 : decode cX10_findWays 101 = .ok (.getfield 45, 3) := by decide +kernel
theorem dX10_findWays_104 : decode cX10_findWays 104 = .ok (.iload_n 1, 1) := by decide +kernel
theorem dX10_findWays_105 : decode cX10_findWays 105 = .ok (.iload_n 2, 1) := by decide +kernel
theorem dX10_findWays_106 : decode cX10_findWays 106 = .ok (.iastore, 1) := by decide +kernel
theorem dX10_findWays_107 : decode cX10_findWays 107 = .ok (.iinc 2 1, 3) := by decide +kernel
theorem dX10_findWays_110 : decode cX10_findWays 110 = .ok (.goto (-80), 3) := by decide +kernel
theorem dX10_findWays_113 : decode cX10_findWays 113 = .ok (.iinc 1 (-1), 3) := by decide +kernel
theorem dX10_findWays_116 : decode cX10_findWays 116 = .ok (.goto (-99), 3) := by decide +kernel
theorem dX10_findWays_119 : decode cX10_findWays 119 = .ok (.return_, 1) := by decide +kernel
theorem dX10_goOn_0 : decode cX10_goOn 0 = .ok (.iload_n 2, 1) := by decide +kernel
theorem dX10_goOn_1 : decode cX10_goOn 1 = .ok (.istore_n 3, 1) := by decide +kernel
theorem dX10_goOn_2 : decode cX10_goOn 2 = .ok (.aload_n 0, 1) := by decide +kernel
theorem dX10_goOn_3 : decode cX10_goOn 3 = .ok (.iload_n 1, 1) := by decide +kernel
theorem dX10_goOn_4 : decode cX10_goOn 4 = .ok (.putfield 147, 3) := by decide +kernel
theorem dX10_goOn_7 : decode cX10_goOn 7 = .ok (.iload_n 3, 1) := by decide +kernel
theorem dX10_goOn_8 : decode cX10_goOn 8 = .ok (.aload_n 0, 1) := by decide +kernel
theorem dX10_goOn_9 : decode cX10_goOn 9 = .ok (.getfield 90, 3) := by decide +kernel
theorem dX10_goOn_12 : decode cX10_goOn 12 = .ok (.if_icmp .ge 35, 3) := by decide +kernel
theorem dX10_goOn_15 : decode cX10_goOn 15 = .ok (.aload_n 0, 1) := by decide +kernel
theorem dX10_goOn_16 : decode cX10_goOn 16 = .ok (.getfield 48, 3) := by decide +kernel
theorem dX10_goOn_19 : decode cX10_goOn 19 = .ok (.aload_n 0, 1) := by decide +kernel
theorem dX10_goOn_20 : decode cX10_goOn 20 = .ok (.getfield 147, 3) := by decide +kernel
theorem dX10_goOn_23 : decode cX10_goOn 23 = .ok (.iload_n 3, 1) := by decide +kernel
theorem dX10_goOn_24 : decode cX10_goOn 24 = .ok (.iastore, 1) := by decide +kernel
theorem dX10_goOn_25 : decode cX10_goOn 25 = .ok (.aload_n 0, 1) := by decide +kernel
theorem dX10_goOn_26 : decode cX10_goOn 26 = .ok (.getfield 45, 3) := by decide +kernel
theorem dX10_goOn_29 : decode cX10_goOn 29 = .ok (.iload_n 3, 1) := by decide +kernel
theorem dX10_goOn_30 : decode cX10_goOn 30 = .ok (.iaload, 1) := by decide +kernel
theorem dX10_goOn_31 : decode cX10_goOn 31 = .ok (.iconst 1, 1) := by decide +kernel
theorem dX10_goOn_32 : decode cX10_goOn 32 = .ok (.iadd, 1) := by decide +kernel
theorem dX10_goOn_33 : decode cX10_goOn 33 = .ok (.istore_n 3, 1) := by decide +kernel
theorem dX10_goOn_34 : decode cX10_goOn 34 = .ok (.aload_n 0, 1) := by decide +kernel
theorem dX10_goOn_35 : decode cX10_goOn 35 = .ok (.dup, 1) := by decide +kernel
theorem dX10_goOn_36 : decode cX10_goOn 36 = .ok (.getfield 147, 3) := by decide +kernel
theorem dX10_goOn_39 : decode cX10_goOn 39 = .ok (.iconst 1, 1) := by decide +kernel
theorem dX10_goOn_40 : decode cX10_goOn 40 = .ok (.iadd, 1) := by decide +kernel
theorem dX10_goOn_41 : decode cX10_goOn 41 = .ok (.putfield 147, 3) := by decide +kernel
theorem dX10_goOn_44 : decode cX10_goOn 44 = .ok (.goto (-37), 3) := by decide +kernel
theorem dX10_goOn_47 : decode cX10_goOn 47 = .ok (.aload_n 0, 1) := by decide +kernel
theorem dX10_goOn_48 : decode cX10_goOn 48 = .ok (.getfield 48, 3) := by decide +kernel
theorem dX10_goOn_51 : decode cX10_goOn 51 = .ok (.aload_n 0, 1) := by decide +kernel
theorem dX10_goOn_52 : decode cX10_goOn 52 = .ok (.getfield 147, 3) := by decide +kernel
theorem dX10_goOn_55 : decode cX10_goOn 55 = .ok (.aload_n 0, 1) := by decide +kernel
theorem dX10_goOn_56 : decode cX10_goOn 56 = .ok (.getfield 90, 3) := by decide +kernel
theorem dX10_goOn_59 : decode cX10_goOn 59 = .ok (.iastore, 1) := by decide +kernel
theorem dX10_goOn_60 : decode cX10_goOn 60 = .ok (.aload_n 0, 1) := by decide +kernel
theorem dX10_goOn_61 : decode cX10_goOn 61 = .ok (.invokevirtual 179, 3) := by decide +kernel
theorem dX10_goOn_64 : decode cX10_goOn 64 = .ok (.return_, 1) := by decide +kernel
theorem dX10_hasWay_0 : decode cX10_hasWay 0 = .ok (.aload_n 0, 1) := by decide +kernel
theorem dX10_hasWay_1 : decode cX10_hasWay 1 = .ok (.getfield 90, 3) := by decide +kernel
theorem dX10_hasWay_4 : decode cX10_hasWay 4 = .ok (.ifCond .le 16, 3) := by decide +kernel
theorem dX10_hasWay_7 : decode cX10_hasWay 7 = .ok (.aload_n 0, 1) := by decide +kernel
theorem dX10_hasWay_8 : decode cX10_hasWay 8 = .ok (.getfield 42, 3) := by decide +kernel
theorem dX10_hasWay_11 : decode cX10_hasWay 11 = .ok (.iconst 0, 1) := by decide +kernel
theorem dX10_hasWay_12 : decode cX10_hasWay 12 = .ok (.iaload, 1) := by decide +kernel
theorem dX10_hasWay_13 : decode cX10_hasWay 13 = .ok (.ifCond .lt 7, 3) := by decide +kernel
theorem dX10_hasWay_16 : decode cX10_hasWay 16 = .ok (.iconst 1, 1) := by decide +kernel
theorem dX10_hasWay_17 : decode cX10_hasWay 17 = .ok (.goto 4, 3) := by decide +kernel
theorem dX10_hasWay_20 : decode cX10_hasWay 20 = .ok (.iconst 0, 1) := by decide +kernel
theorem dX10_hasWay_21 : decode cX10_hasWay 21 = .ok (.ireturn, 1) := by decide +kernel
theorem dX10_layAnew_0 : decode cX10_layAnew 0 = .ok (.aload_n 0, 1) := by decide +kernel
theorem dX10_layAnew_1 : decode cX10_layAnew 1 = .ok (.invokevirtual 182, 3) := by decide +kernel
theorem dX10_layAnew_4 : decode cX10_layAnew 4 = .ok (.aload_n 0, 1) := by decide +kernel
theorem dX10_layAnew_5 : decode cX10_layAnew 5 = .ok (.iconst 0, 1) := by decide +kernel
theorem dX10_layAnew_6 : decode cX10_layAnew 6 = .ok (.putfield 147, 3) := by decide +kernel
theorem dX10_layAnew_9 : decode cX10_layAnew 9 = .ok (.aload_n 0, 1) := by decide +kernel
theorem dX10_layAnew_10 : decode cX10_layAnew 10 = .ok (.invokevirtual 185, 3) := by decide +kernel
theorem dX10_layAnew_13 : decode cX10_layAnew 13 = .ok (.ifCond .eq 9, 3) := by decide +kernel
theorem dX10_layAnew_16 : decode cX10_layAnew 16 = .ok (.aload_n 0, 1) := by decide +kernel
theorem dX10_layAnew_17 : decode cX10_layAnew 17 = .ok (.iconst 0, 1) := by decide +kernel
theorem dX10_layAnew_18 : decode cX10_layAnew 18 = .ok (.iconst 0, 1) := by decide +kernel
theorem dX10_layAnew_19 : decode cX10_layAnew 19 = .ok (.invokevirtual 189, 3) := by decide +kernel
theorem dX10_layAnew_22 : decode cX10_layAnew 22 = .ok (.return_, 1) := by decide +kernel
theorem dX10_layBest_0 : decode cX10_layBest 0 = .ok (.aload_n 0, 1) := by decide +kernel
theorem dX10_layBest_1 : decode cX10_layBest 1 = .ok (.invokevirtual 185, 3) := by decide +kernel
theorem dX10_layBest_4 : decode cX10_layBest 4 = .ok (.ifCond .ne 7, 3) := by decide +kernel
theorem dX10_layBest_7 : decode cX10_layBest 7 = .ok (.sipush (-1004), 3) := by decide +kernel
theorem dX10_layBest_10 : decode cX10_layBest 10 = .ok (.ireturn, 1) := by decide +kernel
theorem dX10_layBest_11 : decode cX10_layBest 11 = .ok (.aload_n 0, 1) := by decide +kernel
theorem dX10_layBest_12 : decode cX10_layBest 12 = .ok (.iconst 0, 1) := by decide +kernel
theorem dX10_layBest_13 : decode cX10_layBest 13 = .ok (.iconst 0, 1) := by decide +kernel
theorem dX10_layBest_14 : decode cX10_layBest 14 = .ok (.invokevirtual 189, 3) := by decide +kernel
theorem dX10_layBest_17 : decode cX10_layBest 17 = .ok (.aload_n 0, 1) := by decide +kernel
theorem dX10_layBest_18 : decode cX10_layBest 18 = .ok (.getfield 147, 3) := by decide +kernel
theorem dX10_layBest_21 : decode cX10_layBest 21 = .ok (.ireturn, 1) := by decide +kernel
theorem dX10_lastOf_0 : decode cX10_lastOf 0 = .ok (.aload_n 0, 1) := by decide +kernel
theorem dX10_lastOf_1 : decode cX10_lastOf 1 = .ok (.getfield 48, 3) := by decide +kernel
theorem dX10_lastOf_4 : decode cX10_lastOf 4 = .ok (.iload_n 1, 1) := by decide +kernel
theorem dX10_lastOf_5 : decode cX10_lastOf 5 = .ok (.iconst 1, 1) := by decide +kernel
theorem dX10_lastOf_6 : decode cX10_lastOf 6 = .ok (.iadd, 1) := by decide +kernel
theorem dX10_lastOf_7 : decode cX10_lastOf 7 = .ok (.iaload, 1) := by decide +kernel
theorem dX10_lastOf_8 : decode cX10_lastOf 8 = .ok (.iconst 1, 1) := by decide +kernel
theorem dX10_lastOf_9 : decode cX10_lastOf 9 = .ok (.isub, 1) := by decide +kernel
theorem dX10_lastOf_10 : decode cX10_lastOf 10 = .ok (.ireturn, 1) := by decide +kernel
theorem dX10_demeritsBefore_0 : decode cX10_demeritsBefore 0 = .ok (.iconst 0, 1) := by decide +kernel
theorem dX10_demeritsBefore_1 : decode cX10_demeritsBefore 1 = .ok (.istore_n 2, 1) := by decide +kernel
theorem dX10_demeritsBefore_2 : decode cX10_demeritsBefore 2 = .ok (.iconst 0, 1) := by decide +kernel
theorem dX10_demeritsBefore_3 : decode cX10_demeritsBefore 3 = .ok (.istore_n 3, 1) := by decide +kernel
theorem dX10_demeritsBefore_4 : decode cX10_demeritsBefore 4 = .ok (.iload_n 3, 1) := by decide +kernel
theorem dX10_demeritsBefore_5 : decode cX10_demeritsBefore 5 = .ok (.iload_n 1, 1) := by decide +kernel
theorem dX10_demeritsBefore_6 : decode cX10_demeritsBefore 6 = .ok (.if_icmp .ge 27, 3) := by decide +kernel
theorem dX10_demeritsBefore_9 : decode cX10_demeritsBefore 9 = .ok (.iload_n 2, 1) := by decide +kernel
theorem dX10_demeritsBefore_10 : decode cX10_demeritsBefore 10 = .ok (.aload_n 0, 1) := by decide +kernel
theorem dX10_demeritsBefore_11 : decode cX10_demeritsBefore 11 = .ok (.aload_n 0, 1) := by decide +kernel
theorem dX10_demeritsBefore_12 : decode cX10_demeritsBefore 12 = .ok (.getfield 48, 3) := by decide +kernel
theorem dX10_demeritsBefore_15 : decode cX10_demeritsBefore 15 = .ok (.iload_n 3, 1) := by decide +kernel
theorem dX10_demeritsBefore_16 : decode cX10_demeritsBefore 16 = .ok (.iaload, 1) := by decide +kernel
theorem dX10_demeritsBefore_17 : decode cX10_demeritsBefore 17 = .ok (.aload_n 0, 1) := by decide +kernel
theorem dX10_demeritsBefore_18 : decode cX10_demeritsBefore 18 = .ok (.iload_n 3, 1) := by decide +kernel
theorem dX10_demeritsBefore_19 : decode cX10_demeritsBefore 19 = .ok (.invokevirtual 192, 3) := by decide +kernel
theorem dX10_demeritsBefore_22 : decode cX10_demeritsBefore 22 = .ok (.invokevirtual 176, 3) := by decide +kernel
theorem dX10_demeritsBefore_25 : decode cX10_demeritsBefore 25 = .ok (.iadd, 1) := by decide +kernel
theorem dX10_demeritsBefore_26 : decode cX10_demeritsBefore 26 = .ok (.istore_n 2, 1) := by decide +kernel
theorem dX10_demeritsBefore_27 : decode cX10_demeritsBefore 27 = .ok (.iinc 3 1, 3) := by decide +kernel
theorem dX10_demeritsBefore_30 : decode cX10_demeritsBefore 30 = .ok (.goto (-26), 3) := by decide +kernel
theorem dX10_demeritsBefore_33 : decode cX10_demeritsBefore 33 = .ok (.iload_n 2, 1) := by decide +kernel
theorem dX10_demeritsBefore_34 : decode cX10_demeritsBefore 34 = .ok (.ireturn, 1) := by decide +kernel
theorem dX10_secondOf_0 : decode cX10_secondOf 0 = .ok (.aload_n 0, 1) := by decide +kernel
theorem dX10_secondOf_1 : decode cX10_secondOf 1 = .ok (.getfield 48, 3) := by decide +kernel
theorem dX10_secondOf_4 : decode cX10_secondOf 4 = .ok (.iload_n 1, 1) := by decide +kernel
theorem dX10_secondOf_5 : decode cX10_secondOf 5 = .ok (.iaload, 1) := by decide +kernel
theorem dX10_secondOf_6 : decode cX10_secondOf 6 = .ok (.istore_n 2, 1) := by decide +kernel
theorem dX10_secondOf_7 : decode cX10_secondOf 7 = .ok (.iconst (-1), 1) := by decide +kernel
theorem dX10_secondOf_8 : decode cX10_secondOf 8 = .ok (.istore_n 3, 1) := by decide +kernel
theorem dX10_secondOf_9 : decode cX10_secondOf 9 = .ok (.iconst 0, 1) := by decide +kernel
theorem dX10_secondOf_10 : decode cX10_secondOf 10 = .ok (.istore 4, 2) := by decide +kernel
theorem dX10_secondOf_12 : decode cX10_secondOf 12 = .ok (.iload_n 2, 1) := by decide +kernel
theorem dX10_secondOf_13 : decode cX10_secondOf 13 = .ok (.istore 5, 2) := by decide +kernel
theorem dX10_secondOf_15 : decode cX10_secondOf 15 = .ok (.iload 5, 2) := by decide +kernel
theorem dX10_secondOf_17 : decode cX10_secondOf 17 = .ok (.aload_n 0, 1) := by decide +kernel
theorem dX10_secondOf_18 : decode cX10_secondOf 18 = .ok (.getfield 90, 3) := by decide +kernel
theorem dX10_secondOf_21 : decode cX10_secondOf 21 = .ok (.if_icmp .ge 78, 3) := by decide +kernel
theorem dX10_secondOf_24 : decode cX10_secondOf 24 = .ok (.iload 5, 2) := by decide +kernel
theorem dX10_secondOf_26 : decode cX10_secondOf 26 = .ok (.aload_n 0, 1) := by decide +kernel
theorem dX10_secondOf_27 : decode cX10_secondOf 27 = .ok (.iload_n 1, 1) := by decide +kernel
theorem dX10_secondOf_28 : decode cX10_secondOf 28 = .ok (.invokevirtual 192, 3) := by decide +kernel
theorem dX10_secondOf_31 : decode cX10_secondOf 31 = .ok (.if_icmp .eq 62, 3) := by decide +kernel
theorem dX10_secondOf_34 : decode cX10_secondOf 34 = .ok (.aload_n 0, 1) := by decide +kernel
theorem dX10_secondOf_35 : decode cX10_secondOf 35 = .ok (.getfield 42, 3) := by decide +kernel
theorem dX10_secondOf_38 : decode cX10_secondOf 38 = .ok (.iload 5, 2) := by decide +kernel
theorem dX10_secondOf_40 : decode cX10_secondOf 40 = .ok (.iconst 1, 1) := by decide +kernel
theorem dX10_secondOf_41 : decode cX10_secondOf 41 = .ok (.iadd, 1) := by decide +kernel
theorem dX10_secondOf_42 : decode cX10_secondOf 42 = .ok (.iaload, 1) := by decide +kernel
theorem dX10_secondOf_43 : decode cX10_secondOf 43 = .ok (.ifCond .lt 50, 3) := by decide +kernel
theorem dX10_secondOf_46 : decode cX10_secondOf 46 = .ok (.aload_n 0, 1) := by decide +kernel
theorem dX10_secondOf_47 : decode cX10_secondOf 47 = .ok (.iload_n 2, 1) := by decide +kernel
theorem dX10_secondOf_48 : decode cX10_secondOf 48 = .ok (.iload 5, 2) := by decide +kernel
theorem dX10_secondOf_50 : decode cX10_secondOf 50 = .ok (.invokevirtual 172, 3) := by decide +kernel
theorem dX10_secondOf_53 : decode cX10_secondOf 53 = .ok (.ifCond .eq 40, 3) := by decide +kernel
theorem dX10_secondOf_56 : decode cX10_secondOf 56 = .ok (.aload_n 0, 1) := by decide +kernel
theorem dX10_secondOf_57 : decode cX10_secondOf 57 = .ok (.iload_n 2, 1) := by decide +kernel
theorem dX10_secondOf_58 : decode cX10_secondOf 58 = .ok (.iload 5, 2) := by decide +kernel
theorem dX10_secondOf_60 : decode cX10_secondOf 60 = .ok (.invokevirtual 176, 3) := by decide +kernel
theorem dX10_secondOf_63 : decode cX10_secondOf 63 = .ok (.aload_n 0, 1) := by decide +kernel
theorem dX10_secondOf_64 : decode cX10_secondOf 64 = .ok (.getfield 42, 3) := by decide +kernel
theorem dX10_secondOf_67 : decode cX10_secondOf 67 = .ok (.iload 5, 2) := by decide +kernel
theorem dX10_secondOf_69 : decode cX10_secondOf 69 = .ok (.iconst 1, 1) := by decide +kernel
theorem dX10_secondOf_70 : decode cX10_secondOf 70 = .ok (.iadd, 1) := by decide +kernel
theorem dX10_secondOf_71 : decode cX10_secondOf 71 = .ok (.iaload, 1) := by decide +kernel
theorem dX10_secondOf_72 : decode cX10_secondOf 72 = .ok (.iadd, 1) := by decide +kernel
theorem dX10_secondOf_73 : decode cX10_secondOf 73 = .ok (.istore 6, 2) := by decide +kernel
theorem dX10_secondOf_75 : decode cX10_secondOf 75 = .ok (.iload_n 3, 1) := by decide +kernel
theorem dX10_secondOf_76 : decode cX10_secondOf 76 = .ok (.ifCond .lt 10, 3) := by decide +kernel
theorem dX10_secondOf_79 : decode cX10_secondOf 79 = .ok (.iload 6, 2) := by decide +kernel
theorem dX10_secondOf_81 : decode cX10_secondOf 81 = .ok (.iload 4, 2) := by decide +kernel
theorem dX10_secondOf_83 : decode cX10_secondOf 83 = .ok (.if_icmp .gt 10, 3) := by decide +kernel
theorem dX10_secondOf_86 : decode cX10_secondOf 86 = .ok (.iload 5, 2) := by decide +kernel
theorem dX10_secondOf_88 : decode cX10_secondOf 88 = .ok (.istore_n 3, 1) := by decide +kernel
theorem dX10_secondOf_89 : decode cX10_secondOf 89 = .ok (.iload 6, 2) := by decide +kernel
theorem dX10_secondOf_91 : decode cX10_secondOf 91 = .ok (.istore 4, 2) := by decide +kernel
theorem dX10_secondOf_93 : decode cX10_secondOf 93 = .ok (.iinc 5 1, 3) := by decide +kernel
theorem dX10_secondOf_96 : decode cX10_secondOf 96 = .ok (.goto (-81), 3) := by decide +kernel
theorem dX10_secondOf_99 : decode cX10_secondOf 99 = .ok (.iload_n 3, 1) := by decide +kernel
theorem dX10_secondOf_100 : decode cX10_secondOf 100 = .ok (.ireturn, 1) := by decide +kernel
theorem dX10_secondDemerits_0 : decode cX10_secondDemerits 0 = .ok (.aload_n 0, 1) := by decide +kernel
theorem dX10_secondDemerits_1 : decode cX10_secondDemerits 1 = .ok (.iload_n 1, 1) := by decide +kernel
theorem dX10_secondDemerits_2 : decode cX10_secondDemerits 2 = .ok (.invokevirtual 195, 3) := by decide +kernel
theorem dX10_secondDemerits_5 : decode cX10_secondDemerits 5 = .ok (.istore_n 2, 1) := by decide +kernel
theorem dX10_secondDemerits_6 : decode cX10_secondDemerits 6 = .ok (.aload_n 0, 1) := by decide +kernel
theorem dX10_secondDemerits_7 : decode cX10_secondDemerits 7 = .ok (.iload_n 1, 1) := by decide +kernel
theorem dX10_secondDemerits_8 : decode cX10_secondDemerits 8 = .ok (.invokevirtual 198, 3) := by decide +kernel
theorem dX10_secondDemerits_11 : decode cX10_secondDemerits 11 = .ok (.aload_n 0, 1) := by decide +kernel
theorem dX10_secondDemerits_12 : decode cX10_secondDemerits 12 = .ok (.aload_n 0, 1) := by decide +kernel
theorem dX10_secondDemerits_13 : decode cX10_secondDemerits 13 = .ok (.getfield 48, 3) := by decide +kernel
theorem dX10_secondDemerits_16 : decode cX10_secondDemerits 16 = .ok (.iload_n 1, 1) := by decide +kernel
theorem dX10_secondDemerits_17 : decode cX10_secondDemerits 17 = .ok (.iaload, 1) := by decide +kernel
theorem dX10_secondDemerits_18 : decode cX10_secondDemerits 18 = .ok (.iload_n 2, 1) := by decide +kernel
theorem dX10_secondDemerits_19 : decode cX10_secondDemerits 19 = .ok (.invokevirtual 176, 3) := by decide +kernel
theorem dX10_secondDemerits_22 : decode cX10_secondDemerits 22 = .ok (.iadd, 1) := by decide +kernel
theorem dX10_secondDemerits_23 : decode cX10_secondDemerits 23 = .ok (.aload_n 0, 1) := by decide +kernel
theorem dX10_secondDemerits_24 : decode cX10_secondDemerits 24 = .ok (.getfield 42, 3) := by decide +kernel
theorem dX10_secondDemerits_27 : decode cX10_secondDemerits 27 = .ok (.iload_n 2, 1) := by decide +kernel
theorem dX10_secondDemerits_28 : decode cX10_secondDemerits 28 = .ok (.iconst 1, 1) := by decide +kernel
theorem dX10_secondDemerits_29 : decode cX10_secondDemerits 29 = .ok (.iadd, 1) := by decide +kernel
theorem dX10_secondDemerits_30 : decode cX10_secondDemerits 30 = .ok (.iaload, 1) := by decide +kernel
theorem dX10_secondDemerits_31 : decode cX10_secondDemerits 31 = .ok (.iadd, 1) := by decide +kernel
theorem dX10_secondDemerits_32 : decode cX10_secondDemerits 32 = .ok (.ireturn, 1) := by decide +kernel
theorem dX10_noLine_0 : decode cX10_noLine 0 = .ok (.iload_n 1, 1) := by decide +kernel
theorem dX10_noLine_1 : decode cX10_noLine 1 = .ok (.iconst 0, 1) := by decide +kernel
theorem dX10_noLine_2 : decode cX10_noLine 2 = .ok (.aload_n 0, 1) := by decide +kernel
theorem dX10_noLine_3 : decode cX10_noLine 3 = .ok (.getfield 147, 3) := by decide +kernel
theorem dX10_noLine_6 : decode cX10_noLine 6 = .ok (.iconst 1, 1) := by decide +kernel
theorem dX10_noLine_7 : decode cX10_noLine 7 = .ok (.isub, 1) := by decide +kernel
theorem dX10_noLine_8 : decode cX10_noLine 8 = .ok (.invokestatic 69, 3) := by decide +kernel
theorem dX10_noLine_11 : decode cX10_noLine 11 = .ok (.ifCond .ne 7, 3) := by decide +kernel
theorem dX10_noLine_14 : decode cX10_noLine 14 = .ok (.iconst 1, 1) := by decide +kernel
theorem dX10_noLine_15 : decode cX10_noLine 15 = .ok (.goto 4, 3) := by decide +kernel
theorem dX10_noLine_18 : decode cX10_noLine 18 = .ok (.iconst 0, 1) := by decide +kernel
theorem dX10_noLine_19 : decode cX10_noLine 19 = .ok (.ireturn, 1) := by decide +kernel
theorem dX10_takesSecond_0 : decode cX10_takesSecond 0 = .ok (.aload_n 0, 1) := by decide +kernel
theorem dX10_takesSecond_1 : decode cX10_takesSecond 1 = .ok (.iload_n 1, 1) := by decide +kernel
theorem dX10_takesSecond_2 : decode cX10_takesSecond 2 = .ok (.iconst 1, 1) := by decide +kernel
theorem dX10_takesSecond_3 : decode cX10_takesSecond 3 = .ok (.iadd, 1) := by decide +kernel
theorem dX10_takesSecond_4 : decode cX10_takesSecond 4 = .ok (.aload_n 0, 1) := by decide +kernel
theorem dX10_takesSecond_5 : decode cX10_takesSecond 5 = .ok (.iload_n 1, 1) := by decide +kernel
theorem dX10_takesSecond_6 : decode cX10_takesSecond 6 = .ok (.invokevirtual 195, 3) := by decide +kernel
theorem dX10_takesSecond_9 : decode cX10_takesSecond 9 = .ok (.iconst 1, 1) := by decide +kernel
theorem dX10_takesSecond_10 : decode cX10_takesSecond 10 = .ok (.iadd, 1) := by decide +kernel
theorem dX10_takesSecond_11 : decode cX10_takesSecond 11 = .ok (.invokevirtual 189, 3) := by decide +kernel
theorem dX10_takesSecond_14 : decode cX10_takesSecond 14 = .ok (.return_, 1) := by decide +kernel
theorem dX10_takeSecond_0 : decode cX10_takeSecond 0 = .ok (.aload_n 0, 1) := by decide +kernel
theorem dX10_takeSecond_1 : decode cX10_takeSecond 1 = .ok (.iload_n 1, 1) := by decide +kernel
theorem dX10_takeSecond_2 : decode cX10_takeSecond 2 = .ok (.invokevirtual 201, 3) := by decide +kernel
theorem dX10_takeSecond_5 : decode cX10_takeSecond 5 = .ok (.ifCond .eq 7, 3) := by decide +kernel
theorem dX10_takeSecond_8 : decode cX10_takeSecond 8 = .ok (.sipush (-1001), 3) := by decide +kernel
theorem dX10_takeSecond_11 : decode cX10_takeSecond 11 = .ok (.ireturn, 1) := by decide +kernel
theorem dX10_takeSecond_12 : decode cX10_takeSecond 12 = .ok (.aload_n 0, 1) := by decide +kernel
theorem dX10_takeSecond_13 : decode cX10_takeSecond 13 = .ok (.iload_n 1, 1) := by decide +kernel
theorem dX10_takeSecond_14 : decode cX10_takeSecond 14 = .ok (.invokevirtual 195, 3) := by decide +kernel
theorem dX10_takeSecond_17 : decode cX10_takeSecond 17 = .ok (.ifCond .ge 7, 3) := by decide +kernel
theorem dX10_takeSecond_20 : decode cX10_takeSecond 20 = .ok (.sipush (-1004), 3) := by decide +kernel
theorem dX10_takeSecond_23 : decode cX10_takeSecond 23 = .ok (.ireturn, 1) := by decide +kernel
theorem dX10_takeSecond_24 : decode cX10_takeSecond 24 = .ok (.aload_n 0, 1) := by decide +kernel
theorem dX10_takeSecond_25 : decode cX10_takeSecond 25 = .ok (.iload_n 1, 1) := by decide +kernel
theorem dX10_takeSecond_26 : decode cX10_takeSecond 26 = .ok (.invokevirtual 204, 3) := by decide +kernel
theorem dX10_takeSecond_29 : decode cX10_takeSecond 29 = .ok (.aload_n 0, 1) := by decide +kernel
theorem dX10_takeSecond_30 : decode cX10_takeSecond 30 = .ok (.getfield 147, 3) := by decide +kernel
theorem dX10_takeSecond_33 : decode cX10_takeSecond 33 = .ok (.ireturn, 1) := by decide +kernel
theorem dX10_share_0 : decode cX10_share 0 = .ok (.iload 4, 2) := by decide +kernel
theorem dX10_share_2 : decode cX10_share 2 = .ok (.istore 6, 2) := by decide +kernel
theorem dX10_share_4 : decode cX10_share 4 = .ok (.aload_n 0, 1) := by decide +kernel
theorem dX10_share_5 : decode cX10_share 5 = .ok (.getfield 19, 3) := by decide +kernel
theorem dX10_share_8 : decode cX10_share 8 = .ok (.iconst 3, 1) := by decide +kernel
theorem dX10_share_9 : decode cX10_share 9 = .ok (.iload_n 3, 1) := by decide +kernel
theorem dX10_share_10 : decode cX10_share 10 = .ok (.imul, 1) := by decide +kernel
theorem dX10_share_11 : decode cX10_share 11 = .ok (.iload 5, 2) := by decide +kernel
theorem dX10_share_13 : decode cX10_share 13 = .ok (.ifCond .le 7, 3) := by decide +kernel
theorem dX10_share_16 : decode cX10_share 16 = .ok (.iconst 2, 1) := by decide +kernel
theorem dX10_share_17 : decode cX10_share 17 = .ok (.goto 4, 3) := by decide +kernel
theorem dX10_share_20 : decode cX10_share 20 = .ok (.iconst 0, 1) := by decide +kernel
theorem dX10_share_21 : decode cX10_share 21 = .ok (.iadd, 1) := by decide +kernel
theorem dX10_share_22 : decode cX10_share 22 = .ok (.iaload, 1) := by decide +kernel
theorem dX10_share_23 : decode cX10_share 23 = .ok (.istore 7, 2) := by decide +kernel
theorem dX10_share_25 : decode cX10_share 25 = .ok (.iload_n 1, 1) := by decide +kernel
theorem dX10_share_26 : decode cX10_share 26 = .ok (.istore 8, 2) := by decide +kernel
theorem dX10_share_28 : decode cX10_share 28 = .ok (.iload 8, 2) := by decide +kernel
theorem dX10_share_30 : decode cX10_share 30 = .ok (.iload_n 2, 1) := by decide +kernel
theorem dX10_share_31 : decode cX10_share 31 = .ok (.if_icmp .ge 52, 3) := by decide +kernel
theorem dX10_share_34 : decode cX10_share 34 = .ok (.iload 6, 2) := by decide +kernel
theorem dX10_share_36 : decode cX10_share 36 = .ok (.ifCond .le 47, 3) := by decide +kernel
theorem dX10_share_39 : decode cX10_share 39 = .ok (.aload_n 0, 1) := by decide +kernel
theorem dX10_share_40 : decode cX10_share 40 = .ok (.getfield 29, 3) := by decide +kernel
theorem dX10_share_43 : decode cX10_share 43 = .ok (.iload 8, 2) := by decide +kernel
theorem dX10_share_45 : decode cX10_share 45 = .ok (.iaload, 1) := by decide +kernel
theorem dX10_share_46 : decode cX10_share 46 = .ok (.iload_n 3, 1) := by decide +kernel
theorem dX10_share_47 : decode cX10_share 47 = .ok (.if_icmp .ne 30, 3) := by decide +kernel
theorem dX10_share_50 : decode cX10_share 50 = .ok (.aload_n 0, 1) := by decide +kernel
theorem dX10_share_51 : decode cX10_share 51 = .ok (.getfield 54, 3) := by decide +kernel
theorem dX10_share_54 : decode cX10_share 54 = .ok (.iload 8, 2) := by decide +kernel
theorem dX10_share_56 : decode cX10_share 56 = .ok (.iaload, 1) := by decide +kernel
theorem dX10_share_57 : decode cX10_share 57 = .ok (.iload 7, 2) := by decide +kernel
theorem dX10_share_59 : decode cX10_share 59 = .ok (.if_icmp .eq 18, 3) := by decide +kernel
theorem dX10_share_62 : decode cX10_share 62 = .ok (.aload_n 0, 1) := by decide +kernel
theorem dX10_share_63 : decode cX10_share 63 = .ok (.getfield 54, 3) := by decide +kernel
theorem dX10_share_66 : decode cX10_share 66 = .ok (.iload 8, 2) := by decide +kernel
theorem dX10_share_68 : decode cX10_share 68 = .ok (.dup2, 1) := by decide +kernel
theorem dX10_share_69 : decode cX10_share 69 = .ok (.iaload, 1) := by decide +kernel
theorem dX10_share_70 : decode cX10_share 70 = .ok (.iload 5, 2) := by decide +kernel
theorem dX10_share_72 : decode cX10_share 72 = .ok (.iadd, 1) := by decide +kernel
theorem dX10_share_73 : decode cX10_share 73 = .ok (.iastore, 1) := by decide +kernel
theorem dX10_share_74 : decode cX10_share 74 = .ok (.iinc 6 (-1), 3) := by decide +kernel
theorem dX10_share_77 : decode cX10_share 77 = .ok (.iinc 8 1, 3) := by decide +kernel
theorem dX10_share_80 : decode cX10_share 80 = .ok (.goto (-52), 3) := by decide +kernel
theorem dX10_share_83 : decode cX10_share 83 = .ok (.iload 6, 2) := by decide +kernel
theorem dX10_share_85 : decode cX10_share 85 = .ok (.ireturn, 1) := by decide +kernel
theorem dX10_layLine_0 : decode cX10_layLine 0 = .ok (.aload_n 0, 1) := by decide +kernel
theorem dX10_layLine_1 : decode cX10_layLine 1 = .ok (.getfield 48, 3) := by decide +kernel
theorem dX10_layLine_4 : decode cX10_layLine 4 = .ok (.iload_n 1, 1) := by decide +kernel
theorem dX10_layLine_5 : decode cX10_layLine 5 = .ok (.iaload, 1) := by decide +kernel
theorem dX10_layLine_6 : decode cX10_layLine 6 = .ok (.istore_n 2, 1) := by decide +kernel
theorem dX10_layLine_7 : decode cX10_layLine 7 = .ok (.aload_n 0, 1) := by decide +kernel
theorem dX10_layLine_8 : decode cX10_layLine 8 = .ok (.iload_n 1, 1) := by decide +kernel
theorem dX10_layLine_9 : decode cX10_layLine 9 = .ok (.invokevirtual 192, 3) := by decide +kernel
theorem dX10_layLine_12 : decode cX10_layLine 12 = .ok (.istore_n 3, 1) := by decide +kernel
theorem dX10_layLine_13 : decode cX10_layLine 13 = .ok (.iload_n 2, 1) := by decide +kernel
theorem dX10_layLine_14 : decode cX10_layLine 14 = .ok (.istore 4, 2) := by decide +kernel
theorem dX10_layLine_16 : decode cX10_layLine 16 = .ok (.iload 4, 2) := by decide +kernel
theorem dX10_layLine_18 : decode cX10_layLine 18 = .ok (.iload_n 3, 1) := by decide +kernel
theorem dX10_layLine_19 : decode cX10_layLine 19 = .ok (.if_icmp .gt 50, 3) := by decide +kernel
theorem dX10_layLine_22 : decode cX10_layLine 22 = .ok (.aload_n 0, 1) := by decide +kernel
theorem dX10_layLine_23 : decode cX10_layLine 23 = .ok (.getfield 54, 3) := by decide +kernel
theorem dX10_layLine_26 : decode cX10_layLine 26 = .ok (.iload 4, 2) := by decide +kernel
theorem dX10_layLine_28 : decode cX10_layLine 28 = .ok (.iload 4, 2) := by decide +kernel
theorem dX10_layLine_30 : decode cX10_layLine 30 = .ok (.iload_n 3, 1) := by decide +kernel
theorem dX10_layLine_31 : decode cX10_layLine 31 = .ok (.if_icmp .ge 22, 3) := by decide +kernel
theorem dX10_layLine_34 : decode cX10_layLine 34 = .ok (.aload_n 0, 1) := by decide +kernel
theorem dX10_layLine_35 : decode cX10_layLine 35 = .ok (.getfield 19, 3) := by decide +kernel
theorem dX10_layLine_38 : decode cX10_layLine 38 = .ok (.iconst 3, 1) := by decide +kernel
theorem dX10_layLine_39 : decode cX10_layLine 39 = .ok (.aload_n 0, 1) := by decide +kernel
theorem dX10_layLine_40 : decode cX10_layLine 40 = .ok (.getfield 29, 3) := by decide +kernel
theorem dX10_layLine_43 : decode cX10_layLine 43 = .ok (.iload 4, 2) := by decide +kernel
theorem dX10_layLine_45 : decode cX10_layLine 45 = .ok (.iaload, 1) := by decide +kernel
theorem dX10_layLine_46 : decode cX10_layLine 46 = .ok (.imul, 1) := by decide +kernel
theorem dX10_layLine_47 : decode cX10_layLine 47 = .ok (.iconst 1, 1) := by decide +kernel
theorem dX10_layLine_48 : decode cX10_layLine 48 = .ok (.iadd, 1) := by decide +kernel
theorem dX10_layLine_49 : decode cX10_layLine 49 = .ok (.iaload, 1) := by decide +kernel
theorem dX10_layLine_50 : decode cX10_layLine 50 = .ok (.goto 4, 3) := by decide +kernel
theorem dX10_layLine_53 : decode cX10_layLine 53 = .ok (.iconst 0, 1) := by decide +kernel
theorem dX10_layLine_54 : decode cX10_layLine 54 = .ok (.iastore, 1) := by decide +kernel
theorem dX10_layLine_55 : decode cX10_layLine 55 = .ok (.aload_n 0, 1) := by decide +kernel
theorem dX10_layLine_56 : decode cX10_layLine 56 = .ok (.getfield 60, 3) := by decide +kernel
theorem dX10_layLine_59 : decode cX10_layLine 59 = .ok (.iload 4, 2) := by decide +kernel
theorem dX10_layLine_61 : decode cX10_layLine 61 = .ok (.iload_n 1, 1) := by decide +kernel
theorem dX10_layLine_62 : decode cX10_layLine 62 = .ok (.iastore, 1) := by decide +kernel
theorem dX10_layLine_63 : decode cX10_layLine 63 = .ok (.iinc 4 1, 3) := by decide +kernel
theorem dX10_layLine_66 : decode cX10_layLine 66 = .ok (.goto (-50), 3) := by decide +kernel
theorem dX10_layLine_69 : decode cX10_layLine 69 = .ok (.aload_n 0, 1) := by decide +kernel
theorem dX10_layLine_70 : decode cX10_layLine 70 = .ok (.iload_n 2, 1) := by decide +kernel
theorem dX10_layLine_71 : decode cX10_layLine 71 = .ok (.iload_n 3, 1) := by decide +kernel
theorem dX10_layLine_72 : decode cX10_layLine 72 = .ok (.invokevirtual 163, 3) := by decide +kernel
theorem dX10_layLine_75 : decode cX10_layLine 75 = .ok (.istore 4, 2) := by decide +kernel
theorem dX10_layLine_77 : decode cX10_layLine 77 = .ok (.iload 4, 2) := by decide +kernel
theorem dX10_layLine_79 : decode cX10_layLine 79 = .ok (.ifCond .ge 9, 3) := by decide +kernel
theorem dX10_layLine_82 : decode cX10_layLine 82 = .ok (.iload 4, 2) := by decide +kernel
theorem dX10_layLine_84 : decode cX10_layLine 84 = .ok (.ineg, 1) := by decide +kernel
theorem dX10_layLine_85 : decode cX10_layLine 85 = .ok (.goto 17, 3) := by decide +kernel
theorem dX10_layLine_88 : decode cX10_layLine 88 = .ok (.aload_n 0, 1) := by decide +kernel
theorem dX10_layLine_89 : decode cX10_layLine 89 = .ok (.iload_n 3, 1) := by decide +kernel
theorem dX10_layLine_90 : decode cX10_layLine 90 = .ok (.invokevirtual 166, 3) := by decide +kernel
theorem dX10_layLine_93 : decode cX10_layLine 93 = .ok (.ifCond .eq 7, 3) := by decide +kernel
theorem dX10_layLine_96 : decode cX10_layLine 96 = .ok (.iconst 0, 1) := by decide +kernel
theorem dX10_layLine_97 : decode cX10_layLine 97 = .ok (.goto 5, 3) := by decide +kernel
theorem dX10_layLine_100 : decode cX10_layLine 100 = .ok (.iload 4, 2) := by decide +kernel
theorem dX10_layLine_102 : decode cX10_layLine 102 = .ok (.istore 5, 2) := by decide +kernel
theorem dX10_layLine_104 : decode cX10_layLine 104 = .ok (.iload 4, 2) := by decide +kernel
theorem dX10_layLine_106 : decode cX10_layLine 106 = .ok (.ifCond .ge 7, 3) := by decide +kernel
theorem dX10_layLine_109 : decode cX10_layLine 109 = .ok (.iconst (-1), 1) := by decide +kernel
theorem dX10_layLine_110 : decode cX10_layLine 110 = .ok (.goto 4, 3) := by decide +kernel
theorem dX10_layLine_113 : decode cX10_layLine 113 = .ok (.iconst 1, 1) := by decide +kernel
theorem dX10_layLine_114 : decode cX10_layLine 114 = .ok (.istore 6, 2) := by decide +kernel
theorem dX10_layLine_116 : decode cX10_layLine 116 = .ok (.iload 5, 2) := by decide +kernel
theorem dX10_layLine_118 : decode cX10_layLine 118 = .ok (.ifCond .le 63, 3) := by decide +kernel
theorem dX10_layLine_121 : decode cX10_layLine 121 = .ok (.aload_n 0, 1) := by decide +kernel
theorem dX10_layLine_122 : decode cX10_layLine 122 = .ok (.iload_n 2, 1) := by decide +kernel
theorem dX10_layLine_123 : decode cX10_layLine 123 = .ok (.iload_n 3, 1) := by decide +kernel
theorem dX10_layLine_124 : decode cX10_layLine 124 = .ok (.iload 4, 2) := by decide +kernel
theorem dX10_layLine_126 : decode cX10_layLine 126 = .ok (.ifCond .ge 7, 3) := by decide +kernel
theorem dX10_layLine_129 : decode cX10_layLine 129 = .ok (.iconst 1, 1) := by decide +kernel
theorem dX10_layLine_130 : decode cX10_layLine 130 = .ok (.goto 4, 3) := by decide +kernel
theorem dX10_layLine_133 : decode cX10_layLine 133 = .ok (.iconst 2, 1) := by decide +kernel
theorem dX10_layLine_134 : decode cX10_layLine 134 = .ok (.iload 5, 2) := by decide +kernel
theorem dX10_layLine_136 : decode cX10_layLine 136 = .ok (.iload 6, 2) := by decide +kernel
theorem dX10_layLine_138 : decode cX10_layLine 138 = .ok (.invokevirtual 208, 3) := by decide +kernel
theorem dX10_layLine_141 : decode cX10_layLine 141 = .ok (.istore 5, 2) := by decide +kernel
theorem dX10_layLine_143 : decode cX10_layLine 143 = .ok (.aload_n 0, 1) := by decide +kernel
theorem dX10_layLine_144 : decode cX10_layLine 144 = .ok (.iload_n 2, 1) := by decide +kernel
theorem dX10_layLine_145 : decode cX10_layLine 145 = .ok (.iload_n 3, 1) := by decide +kernel
theorem dX10_layLine_146 : decode cX10_layLine 146 = .ok (.iload 4, 2) := by decide +kernel
theorem dX10_layLine_148 : decode cX10_layLine 148 = .ok (.ifCond .ge 7, 3) := by decide +kernel
theorem dX10_layLine_151 : decode cX10_layLine 151 = .ok (.iconst 2, 1) := by decide +kernel
theorem dX10_layLine_152 : decode cX10_layLine 152 = .ok (.goto 4, 3) := by decide +kernel
theorem dX10_layLine_155 : decode cX10_layLine 155 = .ok (.iconst 1, 1) := by decide +kernel
theorem dX10_layLine_156 : decode cX10_layLine 156 = .ok (.iload 5, 2) := by decide +kernel
theorem dX10_layLine_158 : decode cX10_layLine 158 = .ok (.iload 6, 2) := by decide +kernel
theorem dX10_layLine_160 : decode cX10_layLine 160 = .ok (.invokevirtual 208, 3) := by decide +kernel
theorem dX10_layLine_163 : decode cX10_layLine 163 = .ok (.istore 5, 2) := by decide +kernel
theorem dX10_layLine_165 : decode cX10_layLine 165 = .ok (.aload_n 0, 1) := by decide +kernel
theorem dX10_layLine_166 : decode cX10_layLine 166 = .ok (.iload_n 2, 1) := by decide +kernel
theorem dX10_layLine_167 : decode cX10_layLine 167 = .ok (.iload_n 3, 1) := by decide +kernel
theorem dX10_layLine_168 : decode cX10_layLine 168 = .ok (.iconst 0, 1) := by decide +kernel
theorem dX10_layLine_169 : decode cX10_layLine 169 = .ok (.iload 5, 2) := by decide +kernel
theorem dX10_layLine_171 : decode cX10_layLine 171 = .ok (.iload 6, 2) := by decide +kernel
theorem dX10_layLine_173 : decode cX10_layLine 173 = .ok (.invokevirtual 208, 3) := by decide +kernel
theorem dX10_layLine_176 : decode cX10_layLine 176 = .ok (.istore 5, 2) := by decide +kernel
theorem dX10_layLine_178 : decode cX10_layLine 178 = .ok (.goto (-62), 3) := by decide +kernel
theorem dX10_layLine_181 : decode cX10_layLine 181 = .ok (.aload_n 0, 1) := by decide +kernel
theorem dX10_layLine_182 : decode cX10_layLine 182 = .ok (.iload_n 2, 1) := by decide +kernel
theorem dX10_layLine_183 : decode cX10_layLine 183 = .ok (.invokevirtual 154, 3) := by decide +kernel
theorem dX10_layLine_186 : decode cX10_layLine 186 = .ok (.ineg, 1) := by decide +kernel
theorem dX10_layLine_187 : decode cX10_layLine 187 = .ok (.istore 7, 2) := by decide +kernel
theorem dX10_layLine_189 : decode cX10_layLine 189 = .ok (.iload_n 2, 1) := by decide +kernel
theorem dX10_layLine_190 : decode cX10_layLine 190 = .ok (.istore 8, 2) := by decide +kernel
theorem dX10_layLine_192 : decode cX10_layLine 192 = .ok (.iload 8, 2) := by decide +kernel
theorem dX10_layLine_194 : decode cX10_layLine 194 = .ok (.iload_n 3, 1) := by decide +kernel
theorem dX10_layLine_195 : decode cX10_layLine 195 = .ok (.if_icmp .gt 38, 3) := by decide +kernel
theorem dX10_layLine_198 : decode cX10_layLine 198 = .ok (.aload_n 0, 1) := by decide +kernel
theorem dX10_layLine_199 : decode cX10_layLine 199 = .ok (.getfield 51, 3) := by decide +kernel
theorem dX10_layLine_202 : decode cX10_layLine 202 = .ok (.iload 8, 2) := by decide +kernel
theorem dX10_layLine_204 : decode cX10_layLine 204 = .ok (.iload 7, 2) := by decide +kernel
theorem dX10_layLine_206 : decode cX10_layLine 206 = .ok (.iastore, 1) := by decide +kernel
theorem dX10_layLine_207 : decode cX10_layLine 207 = .ok (.iload 7, 2) := by decide +kernel
theorem dX10_layLine_209 : decode cX10_layLine 209 = .ok (.aload_n 0, 1) := by decide +kernel
theorem dX10_layLine_210 : decode cX10_layLine 210 = .ok (.getfield 23, 3) := by decide +kernel
theorem dX10_layLine_213 : decode cX10_layLine 213 = .ok (.iload 8, 2) := by decide +kernel
theorem dX10_layLine_215 : decode cX10_layLine 215 = .ok (.iaload, 1) := by decide +kernel
theorem dX10_layLine_216 : decode cX10_layLine 216 = .ok (.aload_n 0, 1) := by decide +kernel
theorem dX10_layLine_217 : decode cX10_layLine 217 = .ok (.getfield 54, 3) := by decide +kernel
theorem dX10_layLine_220 : decode cX10_layLine 220 = .ok (.iload 8, 2) := by decide +kernel
theorem dX10_layLine_222 : decode cX10_layLine 222 = .ok (.iaload, 1) := by decide +kernel
theorem dX10_layLine_223 : decode cX10_layLine 223 = .ok (.iadd, 1) := by decide +kernel
theorem dX10_layLine_224 : decode cX10_layLine 224 = .ok (.iadd, 1) := by decide +kernel
theorem dX10_layLine_225 : decode cX10_layLine 225 = .ok (.istore 7, 2) := by decide +kernel
theorem dX10_layLine_227 : decode cX10_layLine 227 = .ok (.iinc 8 1, 3) := by decide +kernel
theorem dX10_layLine_230 : decode cX10_layLine 230 = .ok (.goto (-38), 3) := by decide +kernel
theorem dX10_layLine_233 : decode cX10_layLine 233 = .ok (.return_, 1) := by decide +kernel
theorem dX10_spaceBegin_0 : decode cX10_spaceBegin 0 = .ok (.aload_n 0, 1) := by decide +kernel
theorem dX10_spaceBegin_1 : decode cX10_spaceBegin 1 = .ok (.getfield 51, 3) := by decide +kernel
theorem dX10_spaceBegin_4 : decode cX10_spaceBegin 4 = .ok (.iload_n 1, 1) := by decide +kernel
theorem dX10_spaceBegin_5 : decode cX10_spaceBegin 5 = .ok (.iaload, 1) := by decide +kernel
theorem dX10_spaceBegin_6 : decode cX10_spaceBegin 6 = .ok (.aload_n 0, 1) := by decide +kernel
theorem dX10_spaceBegin_7 : decode cX10_spaceBegin 7 = .ok (.getfield 23, 3) := by decide +kernel
theorem dX10_spaceBegin_10 : decode cX10_spaceBegin 10 = .ok (.iload_n 1, 1) := by decide +kernel
theorem dX10_spaceBegin_11 : decode cX10_spaceBegin 11 = .ok (.iaload, 1) := by decide +kernel
theorem dX10_spaceBegin_12 : decode cX10_spaceBegin 12 = .ok (.iadd, 1) := by decide +kernel
theorem dX10_spaceBegin_13 : decode cX10_spaceBegin 13 = .ok (.ireturn, 1) := by decide +kernel
theorem dX10_middle_0 : decode cX10_middle 0 = .ok (.iconst 2, 1) := by decide +kernel
theorem dX10_middle_1 : decode cX10_middle 1 = .ok (.aload_n 0, 1) := by decide +kernel
theorem dX10_middle_2 : decode cX10_middle 2 = .ok (.iload_n 1, 1) := by decide +kernel
theorem dX10_middle_3 : decode cX10_middle 3 = .ok (.invokevirtual 212, 3) := by decide +kernel
theorem dX10_middle_6 : decode cX10_middle 6 = .ok (.imul, 1) := by decide +kernel
theorem dX10_middle_7 : decode cX10_middle 7 = .ok (.aload_n 0, 1) := by decide +kernel
theorem dX10_middle_8 : decode cX10_middle 8 = .ok (.getfield 54, 3) := by decide +kernel
theorem dX10_middle_11 : decode cX10_middle 11 = .ok (.iload_n 1, 1) := by decide +kernel
theorem dX10_middle_12 : decode cX10_middle 12 = .ok (.iaload, 1) := by decide +kernel
theorem dX10_middle_13 : decode cX10_middle 13 = .ok (.iadd, 1) := by decide +kernel
theorem dX10_middle_14 : decode cX10_middle 14 = .ok (.ireturn, 1) := by decide +kernel
theorem dX10_hasSpace_0 : decode cX10_hasSpace 0 = .ok (.iload_n 1, 1) := by decide +kernel
theorem dX10_hasSpace_1 : decode cX10_hasSpace 1 = .ok (.aload_n 0, 1) := by decide +kernel
theorem dX10_hasSpace_2 : decode cX10_hasSpace 2 = .ok (.aload_n 0, 1) := by decide +kernel
theorem dX10_hasSpace_3 : decode cX10_hasSpace 3 = .ok (.getfield 60, 3) := by decide +kernel
theorem dX10_hasSpace_6 : decode cX10_hasSpace 6 = .ok (.iload_n 1, 1) := by decide +kernel
theorem dX10_hasSpace_7 : decode cX10_hasSpace 7 = .ok (.iaload, 1) := by decide +kernel
theorem dX10_hasSpace_8 : decode cX10_hasSpace 8 = .ok (.invokevirtual 192, 3) := by decide +kernel
theorem dX10_hasSpace_11 : decode cX10_hasSpace 11 = .ok (.if_icmp .ge 7, 3) := by decide +kernel
theorem dX10_hasSpace_14 : decode cX10_hasSpace 14 = .ok (.iconst 1, 1) := by decide +kernel
theorem dX10_hasSpace_15 : decode cX10_hasSpace 15 = .ok (.goto 4, 3) := by decide +kernel
theorem dX10_hasSpace_18 : decode cX10_hasSpace 18 = .ok (.iconst 0, 1) := by decide +kernel
theorem dX10_hasSpace_19 : decode cX10_hasSpace 19 = .ok (.ireturn, 1) := by decide +kernel
theorem dX10_areNear_0 : decode cX10_areNear 0 = .ok (.aload_n 0, 1) := by decide +kernel
theorem dX10_areNear_1 : decode cX10_areNear 1 = .ok (.iload_n 1, 1) := by decide +kernel
theorem dX10_areNear_2 : decode cX10_areNear 2 = .ok (.invokevirtual 215, 3) := by decide +kernel
theorem dX10_areNear_5 : decode cX10_areNear 5 = .ok (.ifCond .eq 45, 3) := by decide +kernel
theorem dX10_areNear_8 : decode cX10_areNear 8 = .ok (.aload_n 0, 1) := by decide +kernel
theorem dX10_areNear_9 : decode cX10_areNear 9 = .ok (.iload_n 2, 1) := by decide +kernel
theorem dX10_areNear_10 : decode cX10_areNear 10 = .ok (.invokevirtual 215, 3) := by decide +kernel
theorem dX10_areNear_13 : decode cX10_areNear 13 = .ok (.ifCond .eq 37, 3) := by decide +kernel
theorem dX10_areNear_16 : decode cX10_areNear 16 = .ok (.aload_n 0, 1) := by decide +kernel
theorem dX10_areNear_17 : decode cX10_areNear 17 = .ok (.iload_n 1, 1) := by decide +kernel
theorem dX10_areNear_18 : decode cX10_areNear 18 = .ok (.invokevirtual 218, 3) := by decide +kernel
theorem dX10_areNear_21 : decode cX10_areNear 21 = .ok (.aload_n 0, 1) := by decide +kernel
theorem dX10_areNear_22 : decode cX10_areNear 22 = .ok (.iload_n 2, 1) := by decide +kernel
theorem dX10_areNear_23 : decode cX10_areNear 23 = .ok (.invokevirtual 218, 3) := by decide +kernel
theorem dX10_areNear_26 : decode cX10_areNear 26 = .ok (.isub, 1) := by decide +kernel
theorem dX10_areNear_27 : decode cX10_areNear 27 = .ok (.bipush (-2), 2) := by decide +kernel
theorem dX10_areNear_29 : decode cX10_areNear 29 = .ok (.aload_n 0, 1) := by decide +kernel
theorem dX10_areNear_30 : decode cX10_areNear 30 = .ok (.getfield 16, 3) := by decide +kernel
theorem dX10_areNear_33 : decode cX10_areNear 33 = .ok (.imul, 1) := by decide +kernel
theorem dX10_areNear_34 : decode cX10_areNear 34 = .ok (.iconst 2, 1) := by decide +kernel
theorem dX10_areNear_35 : decode cX10_areNear 35 = .ok (.aload_n 0, 1) := by decide +kernel
theorem dX10_areNear_36 : decode cX10_areNear 36 = .ok (.getfield 16, 3) := by decide +kernel
theorem dX10_areNear_39 : decode cX10_areNear 39 = .ok (.imul, 1) := by decide +kernel
theorem dX10_areNear_40 : decode cX10_areNear 40 = .ok (.invokestatic 69, 3) := by decide +kernel
theorem dX10_areNear_43 : decode cX10_areNear 43 = .ok (.ifCond .eq 7, 3) := by decide +kernel
theorem dX10_areNear_46 : decode cX10_areNear 46 = .ok (.iconst 1, 1) := by decide +kernel
theorem dX10_areNear_47 : decode cX10_areNear 47 = .ok (.goto 4, 3) := by decide +kernel
theorem dX10_areNear_50 : decode cX10_areNear 50 = .ok (.iconst 0, 1) := by decide +kernel
theorem dX10_areNear_51 : decode cX10_areNear 51 = .ok (.ireturn, 1) := by decide +kernel
theorem dX10_above_0 : decode cX10_above 0 = .ok (.aload_n 0, 1) := by decide +kernel
theorem dX10_above_1 : decode cX10_above 1 = .ok (.getfield 60, 3) := by decide +kernel
theorem dX10_above_4 : decode cX10_above 4 = .ok (.iload_n 1, 1) := by decide +kernel
theorem dX10_above_5 : decode cX10_above 5 = .ok (.iaload, 1) := by decide +kernel
theorem dX10_above_6 : decode cX10_above 6 = .ok (.istore_n 2, 1) := by decide +kernel
theorem dX10_above_7 : decode cX10_above 7 = .ok (.iconst (-1), 1) := by decide +kernel
theorem dX10_above_8 : decode cX10_above 8 = .ok (.istore_n 3, 1) := by decide +kernel
theorem dX10_above_9 : decode cX10_above 9 = .ok (.iload_n 2, 1) := by decide +kernel
theorem dX10_above_10 : decode cX10_above 10 = .ok (.ifCond .ne 10, 3) := by decide +kernel
theorem dX10_above_13 : decode cX10_above 13 = .ok (.aload_n 0, 1) := by decide +kernel
theorem dX10_above_14 : decode cX10_above 14 = .ok (.getfield 90, 3) := by decide +kernel
theorem dX10_above_17 : decode cX10_above 17 = .ok (.goto 11, 3) := by decide +kernel
theorem dX10_above_20 : decode cX10_above 20 = .ok (.aload_n 0, 1) := by decide +kernel
theorem dX10_above_21 : decode cX10_above 21 = .ok (.getfield 48, 3) := by decide +kernel
theorem dX10_above_24 : decode cX10_above 24 = .ok (.iload_n 2, 1) := by decide +kernel
theorem dX10_above_25 : decode cX10_above 25 = .ok (.iconst 1, 1) := by decide +kernel
theorem dX10_above_26 : decode cX10_above 26 = .ok (.isub, 1) := by decide +kernel
theorem dX10_above_27 : decode cX10_above 27 = .ok (.iaload, 1) := by decide +kernel
theorem dX10_above_28 : decode cX10_above 28 = .ok (.istore 4, 2) := by decide +kernel
theorem dX10_above_30 : decode cX10_above 30 = .ok (.iload 4, 2) := by decide +kernel
theorem dX10_above_32 : decode cX10_above 32 = .ok (.aload_n 0, 1) := by decide +kernel
theorem dX10_above_33 : decode cX10_above 33 = .ok (.getfield 48, 3) := by decide +kernel
theorem dX10_above_36 : decode cX10_above 36 = .ok (.iload_n 2, 1) := by decide +kernel
theorem dX10_above_37 : decode cX10_above 37 = .ok (.iaload, 1) := by decide +kernel
theorem dX10_above_38 : decode cX10_above 38 = .ok (.if_icmp .ge 46, 3) := by decide +kernel
theorem dX10_above_41 : decode cX10_above 41 = .ok (.aload_n 0, 1) := by decide +kernel
theorem dX10_above_42 : decode cX10_above 42 = .ok (.iload_n 1, 1) := by decide +kernel
theorem dX10_above_43 : decode cX10_above 43 = .ok (.iload 4, 2) := by decide +kernel
theorem dX10_above_45 : decode cX10_above 45 = .ok (.invokevirtual 221, 3) := by decide +kernel
theorem dX10_above_48 : decode cX10_above 48 = .ok (.ifCond .eq 28, 3) := by decide +kernel
theorem dX10_above_51 : decode cX10_above 51 = .ok (.iload_n 3, 1) := by decide +kernel
theorem dX10_above_52 : decode cX10_above 52 = .ok (.ifCond .lt 19, 3) := by decide +kernel
theorem dX10_above_55 : decode cX10_above 55 = .ok (.aload_n 0, 1) := by decide +kernel
theorem dX10_above_56 : decode cX10_above 56 = .ok (.getfield 57, 3) := by decide +kernel
theorem dX10_above_59 : decode cX10_above 59 = .ok (.iload 4, 2) := by decide +kernel
theorem dX10_above_61 : decode cX10_above 61 = .ok (.iaload, 1) := by decide +kernel
theorem dX10_above_62 : decode cX10_above 62 = .ok (.aload_n 0, 1) := by decide +kernel
theorem dX10_above_63 : decode cX10_above 63 = .ok (.getfield 57, 3) := by decide +kernel
theorem dX10_above_66 : decode cX10_above 66 = .ok (.iload_n 3, 1) := by decide +kernel
theorem dX10_above_67 : decode cX10_above 67 = .ok (.iaload, 1) := by decide +kernel
theorem dX10_above_68 : decode cX10_above 68 = .ok (.if_icmp .le 8, 3) := by decide +kernel
theorem dX10_above_71 : decode cX10_above 71 = .ok (.iload 4, 2) := by decide +kernel
theorem dX10_above_73 : decode cX10_above 73 = .ok (.goto 4, 3) := by decide +kernel
theorem dX10_above_76 : decode cX10_above 76 = .ok (.iload_n 3, 1) := by decide +kernel
theorem dX10_above_77 : decode cX10_above 77 = .ok (.istore_n 3, 1) := by decide +kernel
theorem dX10_above_78 : decode cX10_above 78 = .ok (.iinc 4 1, 3) := by decide +kernel
theorem dX10_above_81 : decode cX10_above 81 = .ok (.goto (-51), 3) := by decide +kernel
theorem dX10_above_84 : decode cX10_above 84 = .ok (.iload_n 3, 1) := by decide +kernel
theorem dX10_above_85 : decode cX10_above 85 = .ok (.ireturn, 1) := by decide +kernel
theorem dX10_hasBelow_0 : decode cX10_hasBelow 0 = .ok (.aload_n 0, 1) := by decide +kernel
theorem dX10_hasBelow_1 : decode cX10_hasBelow 1 = .ok (.getfield 60, 3) := by decide +kernel
theorem dX10_hasBelow_4 : decode cX10_hasBelow 4 = .ok (.iload_n 1, 1) := by decide +kernel
theorem dX10_hasBelow_5 : decode cX10_hasBelow 5 = .ok (.iaload, 1) := by decide +kernel
theorem dX10_hasBelow_6 : decode cX10_hasBelow 6 = .ok (.istore_n 2, 1) := by decide +kernel
theorem dX10_hasBelow_7 : decode cX10_hasBelow 7 = .ok (.iconst 0, 1) := by decide +kernel
theorem dX10_hasBelow_8 : decode cX10_hasBelow 8 = .ok (.istore_n 3, 1) := by decide +kernel
theorem dX10_hasBelow_9 : decode cX10_hasBelow 9 = .ok (.aload_n 0, 1) := by decide +kernel
theorem dX10_hasBelow_10 : decode cX10_hasBelow 10 = .ok (.getfield 48, 3) := by decide +kernel
theorem dX10_hasBelow_13 : decode cX10_hasBelow 13 = .ok (.iload_n 2, 1) := by decide +kernel
theorem dX10_hasBelow_14 : decode cX10_hasBelow 14 = .ok (.iconst 1, 1) := by decide +kernel
theorem dX10_hasBelow_15 : decode cX10_hasBelow 15 = .ok (.iadd, 1) := by decide +kernel
theorem dX10_hasBelow_16 : decode cX10_hasBelow 16 = .ok (.iaload, 1) := by decide +kernel
theorem dX10_hasBelow_17 : decode cX10_hasBelow 17 = .ok (.istore 4, 2) := by decide +kernel
theorem dX10_hasBelow_19 : decode cX10_hasBelow 19 = .ok (.iload_n 2, 1) := by decide +kernel
theorem dX10_hasBelow_20 : decode cX10_hasBelow 20 = .ok (.iconst 1, 1) := by decide +kernel
theorem dX10_hasBelow_21 : decode cX10_hasBelow 21 = .ok (.iadd, 1) := by decide +kernel
theorem dX10_hasBelow_22 : decode cX10_hasBelow 22 = .ok (.aload_n 0, 1) := by decide +kernel
theorem dX10_hasBelow_23 : decode cX10_hasBelow 23 = .ok (.getfield 147, 3) := by decide +kernel
theorem dX10_hasBelow_26 : decode cX10_hasBelow 26 = .ok (.if_icmp .ge 42, 3) := by decide +kernel
theorem dX10_hasBelow_29 : decode cX10_hasBelow 29 = .ok (.iload 4, 2) := by decide +kernel
theorem dX10_hasBelow_31 : decode cX10_hasBelow 31 = .ok (.aload_n 0, 1) := by decide +kernel
theorem dX10_hasBelow_32 : decode cX10_hasBelow 32 = .ok (.getfield 48, 3) := by decide +kernel
theorem dX10_hasBelow_35 : decode cX10_hasBelow 35 = .ok (.iload_n 2, 1) := by decide +kernel
theorem dX10_hasBelow_36 : decode cX10_hasBelow 36 = .ok (.iconst 2, 1) := by decide +kernel
theorem dX10_hasBelow_37 : decode cX10_hasBelow 37 = .ok (.iadd, 1) := by decide +kernel
theorem dX10_hasBelow_38 : decode cX10_hasBelow 38 = .ok (.iaload, 1) := by decide +kernel
theorem dX10_hasBelow_39 : decode cX10_hasBelow 39 = .ok (.if_icmp .ge 29, 3) := by decide +kernel
theorem dX10_hasBelow_42 : decode cX10_hasBelow 42 = .ok (.iload_n 3, 1) := by decide +kernel
theorem dX10_hasBelow_43 : decode cX10_hasBelow 43 = .ok (.ifCond .ne 13, 3) := by decide +kernel
theorem dX10_hasBelow_46 : decode cX10_hasBelow 46 = .ok (.aload_n 0, 1) := by decide +kernel
theorem dX10_hasBelow_47 : decode cX10_hasBelow 47 = .ok (.iload_n 1, 1) := by decide +kernel
theorem dX10_hasBelow_48 : decode cX10_hasBelow 48 = .ok (.iload 4, 2) := by decide +kernel
theorem dX10_hasBelow_50 : decode cX10_hasBelow 50 = .ok (.invokevirtual 221, 3) := by decide +kernel
theorem dX10_hasBelow_53 : decode cX10_hasBelow 53 = .ok (.ifCond .eq 7, 3) := by decide +kernel
theorem dX10_hasBelow_56 : decode cX10_hasBelow 56 = .ok (.iconst 1, 1) := by decide +kernel
theorem dX10_hasBelow_57 : decode cX10_hasBelow 57 = .ok (.goto 4, 3) := by decide +kernel
theorem dX10_hasBelow_60 : decode cX10_hasBelow 60 = .ok (.iconst 0, 1) := by decide +kernel
theorem dX10_hasBelow_61 : decode cX10_hasBelow 61 = .ok (.istore_n 3, 1) := by decide +kernel
theorem dX10_hasBelow_62 : decode cX10_hasBelow 62 = .ok (.iinc 4 1, 3) := by decide +kernel
theorem dX10_hasBelow_65 : decode cX10_hasBelow 65 = .ok (.goto (-46), 3) := by decide +kernel
theorem dX10_hasBelow_68 : decode cX10_hasBelow 68 = .ok (.iload_n 3, 1) := by decide +kernel
theorem dX10_hasBelow_69 : decode cX10_hasBelow 69 = .ok (.ireturn, 1) := by decide +kernel
theorem dX10_layOut_0 : decode cX10_layOut 0 = .ok (.iconst 0, 1) := by decide +kernel
theorem dX10_layOut_1 : decode cX10_layOut 1 = .ok (.istore_n 1, 1) := by decide +kernel
theorem dX10_layOut_2 : decode cX10_layOut 2 = .ok (.iload_n 1, 1) := by decide +kernel
theorem dX10_layOut_3 : decode cX10_layOut 3 = .ok (.aload_n 0, 1) := by decide +kernel
theorem dX10_layOut_4 : decode cX10_layOut 4 = .ok (.getfield 147, 3) := by decide +kernel
theorem dX10_layOut_7 : decode cX10_layOut 7 = .ok (.if_icmp .ge 14, 3) := by decide +kernel
theorem dX10_layOut_10 : decode cX10_layOut 10 = .ok (.aload_n 0, 1) := by decide +kernel
theorem dX10_layOut_11 : decode cX10_layOut 11 = .ok (.iload_n 1, 1) := by decide +kernel
theorem dX10_layOut_12 : decode cX10_layOut 12 = .ok (.invokevirtual 224, 3) := by decide +kernel
theorem dX10_layOut_15 : decode cX10_layOut 15 = .ok (.iinc 1 1, 3) := by decide +kernel
theorem dX10_layOut_18 : decode cX10_layOut 18 = .ok (.goto (-16), 3) := by decide +kernel
theorem dX10_layOut_21 : decode cX10_layOut 21 = .ok (.iconst 0, 1) := by decide +kernel
theorem dX10_layOut_22 : decode cX10_layOut 22 = .ok (.istore_n 1, 1) := by decide +kernel
theorem dX10_layOut_23 : decode cX10_layOut 23 = .ok (.iload_n 1, 1) := by decide +kernel
theorem dX10_layOut_24 : decode cX10_layOut 24 = .ok (.aload_n 0, 1) := by decide +kernel
theorem dX10_layOut_25 : decode cX10_layOut 25 = .ok (.getfield 90, 3) := by decide +kernel
theorem dX10_layOut_28 : decode cX10_layOut 28 = .ok (.if_icmp .ge 61, 3) := by decide +kernel
theorem dX10_layOut_31 : decode cX10_layOut 31 = .ok (.aload_n 0, 1) := by decide +kernel
theorem dX10_layOut_32 : decode cX10_layOut 32 = .ok (.iload_n 1, 1) := by decide +kernel
theorem dX10_layOut_33 : decode cX10_layOut 33 = .ok (.invokevirtual 215, 3) := by decide +kernel
theorem dX10_layOut_36 : decode cX10_layOut 36 = .ok (.ifCond .eq 11, 3) := by decide +kernel
theorem dX10_layOut_39 : decode cX10_layOut 39 = .ok (.aload_n 0, 1) := by decide +kernel
theorem dX10_layOut_40 : decode cX10_layOut 40 = .ok (.iload_n 1, 1) := by decide +kernel
theorem dX10_layOut_41 : decode cX10_layOut 41 = .ok (.invokevirtual 227, 3) := by decide +kernel
theorem dX10_layOut_44 : decode cX10_layOut 44 = .ok (.goto 4, 3) := by decide +kernel
theorem dX10_layOut_47 : decode cX10_layOut 47 = .ok (.iconst (-1), 1) := by decide +kernel
theorem dX10_layOut_48 : decode cX10_layOut 48 = .ok (.istore_n 2, 1) := by decide +kernel
theorem dX10_layOut_49 : decode cX10_layOut 49 = .ok (.aload_n 0, 1) := by decide +kernel
theorem dX10_layOut_50 : decode cX10_layOut 50 = .ok (.getfield 57, 3) := by decide +kernel
theorem dX10_layOut_53 : decode cX10_layOut 53 = .ok (.iload_n 1, 1) := by decide +kernel
theorem dX10_layOut_54 : decode cX10_layOut 54 = .ok (.aload_n 0, 1) := by decide +kernel
theorem dX10_layOut_55 : decode cX10_layOut 55 = .ok (.iload_n 1, 1) := by decide +kernel
theorem dX10_layOut_56 : decode cX10_layOut 56 = .ok (.invokevirtual 215, 3) := by decide +kernel
theorem dX10_layOut_59 : decode cX10_layOut 59 = .ok (.ifCond .ne 7, 3) := by decide +kernel
theorem dX10_layOut_62 : decode cX10_layOut 62 = .ok (.iconst 0, 1) := by decide +kernel
theorem dX10_layOut_63 : decode cX10_layOut 63 = .ok (.goto 19, 3) := by decide +kernel
theorem dX10_layOut_66 : decode cX10_layOut 66 = .ok (.iload_n 2, 1) := by decide +kernel
theorem dX10_layOut_67 : decode cX10_layOut 67 = .ok (.ifCond .ge 7, 3) := by decide +kernel
theorem dX10_layOut_70 : decode cX10_layOut 70 = .ok (.iconst 1, 1) := by decide +kernel
theorem dX10_layOut_71 : decode cX10_layOut 71 = .ok (.goto 11, 3) := by decide +kernel
theorem dX10_layOut_74 : decode cX10_layOut 74 = .ok (.aload_n 0, 1) := by decide +kernel
theorem dX10_layOut_75 : decode cX10_layOut 75 = .ok (.getfield 57, 3) := by decide +kernel
theorem dX10_layOut_78 : decode cX10_layOut 78 = .ok (.iload_n 2, 1) := by decide +kernel
theorem dX10_layOut_79 : decode cX10_layOut 79 = .ok (.iaload, 1) := by decide +kernel
theorem dX10_layOut_80 : decode cX10_layOut 80 = .ok (.iconst 1, 1) := by decide +kernel
theorem dX10_layOut_81 : decode cX10_layOut 81 = .ok (.iadd, 1) := by decide +kernel
theorem dX10_layOut_82 : decode cX10_layOut 82 = .ok (.iastore, 1) := by decide +kernel
theorem dX10_layOut_83 : decode cX10_layOut 83 = .ok (.iinc 1 1, 3) := by decide +kernel
theorem dX10_layOut_86 : decode cX10_layOut 86 = .ok (.goto (-63), 3) := by decide +kernel
theorem dX10_layOut_89 : decode cX10_layOut 89 = .ok (.return_, 1) := by decide +kernel
theorem dX10_ends_0 : decode cX10_ends 0 = .ok (.aload_n 0, 1) := by decide +kernel
theorem dX10_ends_1 : decode cX10_ends 1 = .ok (.getfield 57, 3) := by decide +kernel
theorem dX10_ends_4 : decode cX10_ends 4 = .ok (.iload_n 1, 1) := by decide +kernel
theorem dX10_ends_5 : decode cX10_ends 5 = .ok (.iaload, 1) := by decide +kernel
theorem dX10_ends_6 : decode cX10_ends 6 = .ok (.iconst 3, 1) := by decide +kernel
theorem dX10_ends_7 : decode cX10_ends 7 = .ok (.if_icmp .lt 15, 3) := by decide +kernel
theorem dX10_ends_10 : decode cX10_ends 10 = .ok (.aload_n 0, 1) := by decide +kernel
theorem dX10_ends_11 : decode cX10_ends 11 = .ok (.iload_n 1, 1) := by decide +kernel
theorem dX10_ends_12 : decode cX10_ends 12 = .ok (.invokevirtual 230, 3) := by decide +kernel
theorem dX10_ends_15 : decode cX10_ends 15 = .ok (.ifCond .ne 7, 3) := by decide +kernel
theorem dX10_ends_18 : decode cX10_ends 18 = .ok (.iconst 1, 1) := by decide +kernel
theorem dX10_ends_19 : decode cX10_ends 19 = .ok (.goto 4, 3) := by decide +kernel
theorem dX10_ends_22 : decode cX10_ends 22 = .ok (.iconst 0, 1) := by decide +kernel
theorem dX10_ends_23 : decode cX10_ends 23 = .ok (.ireturn, 1) := by decide +kernel
theorem dX10_endOf_0 : decode cX10_endOf 0 = .ok (.iconst 0, 1) := by decide +kernel
theorem dX10_endOf_1 : decode cX10_endOf 1 = .ok (.istore_n 2, 1) := by decide +kernel
theorem dX10_endOf_2 : decode cX10_endOf 2 = .ok (.iconst 0, 1) := by decide +kernel
theorem dX10_endOf_3 : decode cX10_endOf 3 = .ok (.istore_n 3, 1) := by decide +kernel
theorem dX10_endOf_4 : decode cX10_endOf 4 = .ok (.iload_n 3, 1) := by decide +kernel
theorem dX10_endOf_5 : decode cX10_endOf 5 = .ok (.aload_n 0, 1) := by decide +kernel
theorem dX10_endOf_6 : decode cX10_endOf 6 = .ok (.getfield 90, 3) := by decide +kernel
theorem dX10_endOf_9 : decode cX10_endOf 9 = .ok (.if_icmp .ge 34, 3) := by decide +kernel
theorem dX10_endOf_12 : decode cX10_endOf 12 = .ok (.aload_n 0, 1) := by decide +kernel
theorem dX10_endOf_13 : decode cX10_endOf 13 = .ok (.getfield 147, 3) := by decide +kernel
theorem dX10_endOf_16 : decode cX10_endOf 16 = .ok (.ifCond .le 27, 3) := by decide +kernel
theorem dX10_endOf_19 : decode cX10_endOf 19 = .ok (.aload_n 0, 1) := by decide +kernel
theorem dX10_endOf_20 : decode cX10_endOf 20 = .ok (.iload_n 3, 1) := by decide +kernel
theorem dX10_endOf_21 : decode cX10_endOf 21 = .ok (.invokevirtual 233, 3) := by decide +kernel
theorem dX10_endOf_24 : decode cX10_endOf 24 = .ok (.ifCond .eq 13, 3) := by decide +kernel
theorem dX10_endOf_27 : decode cX10_endOf 27 = .ok (.iload_n 2, 1) := by decide +kernel
theorem dX10_endOf_28 : decode cX10_endOf 28 = .ok (.iload_n 1, 1) := by decide +kernel
theorem dX10_endOf_29 : decode cX10_endOf 29 = .ok (.if_icmp .ne 5, 3) := by decide +kernel
theorem dX10_endOf_32 : decode cX10_endOf 32 = .ok (.iload_n 3, 1) := by decide +kernel
theorem dX10_endOf_33 : decode cX10_endOf 33 = .ok (.ireturn, 1) := by decide +kernel
theorem dX10_endOf_34 : decode cX10_endOf 34 = .ok (.iinc 2 1, 3) := by decide +kernel
theorem dX10_endOf_37 : decode cX10_endOf 37 = .ok (.iinc 3 1, 3) := by decide +kernel
theorem dX10_endOf_40 : decode cX10_endOf 40 = .ok (.goto (-36), 3) := by decide +kernel
theorem dX10_endOf_43 : decode cX10_endOf 43 = .ok (.iload_n 2, 1) := by decide +kernel
theorem dX10_endOf_44 : decode cX10_endOf 44 = .ok (.sipush 1000, 3) := by decide +kernel
theorem dX10_endOf_47 : decode cX10_endOf 47 = .ok (.isub, 1) := by decide +kernel
theorem dX10_endOf_48 : decode cX10_endOf 48 = .ok (.ireturn, 1) := by decide +kernel
theorem dX10_strength_0 : decode cX10_strength 0 = .ok (.iconst 0, 1) := by decide +kernel
theorem dX10_strength_1 : decode cX10_strength 1 = .ok (.istore_n 1, 1) := by decide +kernel
theorem dX10_strength_2 : decode cX10_strength 2 = .ok (.iconst 0, 1) := by decide +kernel
theorem dX10_strength_3 : decode cX10_strength 3 = .ok (.istore_n 2, 1) := by decide +kernel
theorem dX10_strength_4 : decode cX10_strength 4 = .ok (.iload_n 2, 1) := by decide +kernel
theorem dX10_strength_5 : decode cX10_strength 5 = .ok (.aload_n 0, 1) := by decide +kernel
theorem dX10_strength_6 : decode cX10_strength 6 = .ok (.getfield 90, 3) := by decide +kernel
theorem dX10_strength_9 : decode cX10_strength 9 = .ok (.if_icmp .ge 39, 3) := by decide +kernel
theorem dX10_strength_12 : decode cX10_strength 12 = .ok (.aload_n 0, 1) := by decide +kernel
theorem dX10_strength_13 : decode cX10_strength 13 = .ok (.getfield 147, 3) := by decide +kernel
theorem dX10_strength_16 : decode cX10_strength 16 = .ok (.ifCond .le 32, 3) := by decide +kernel
theorem dX10_strength_19 : decode cX10_strength 19 = .ok (.iload_n 1, 1) := by decide +kernel
theorem dX10_strength_20 : decode cX10_strength 20 = .ok (.aload_n 0, 1) := by decide +kernel
theorem dX10_strength_21 : decode cX10_strength 21 = .ok (.iload_n 2, 1) := by decide +kernel
theorem dX10_strength_22 : decode cX10_strength 22 = .ok (.invokevirtual 233, 3) := by decide +kernel
theorem dX10_strength_25 : decode cX10_strength 25 = .ok (.ifCond .eq 14, 3) := by decide +kernel
theorem dX10_strength_28 : decode cX10_strength 28 = .ok (.aload_n 0, 1) := by decide +kernel
theorem dX10_strength_29 : decode cX10_strength 29 = .ok (.getfield 57, 3) := by decide +kernel
theorem dX10_strength_32 : decode cX10_strength 32 = .ok (.iload_n 2, 1) := by decide +kernel
theorem dX10_strength_33 : decode cX10_strength 33 = .ok (.iaload, 1) := by decide +kernel
theorem dX10_strength_34 : decode cX10_strength 34 = .ok (.iconst 2, 1) := by decide +kernel
theorem dX10_strength_35 : decode cX10_strength 35 = .ok (.isub, 1) := by decide +kernel
theorem dX10_strength_36 : decode cX10_strength 36 = .ok (.goto 4, 3) := by decide +kernel
theorem dX10_strength_39 : decode cX10_strength 39 = .ok (.iconst 0, 1) := by decide +kernel
theorem dX10_strength_40 : decode cX10_strength 40 = .ok (.iadd, 1) := by decide +kernel
theorem dX10_strength_41 : decode cX10_strength 41 = .ok (.istore_n 1, 1) := by decide +kernel
theorem dX10_strength_42 : decode cX10_strength 42 = .ok (.iinc 2 1, 3) := by decide +kernel
theorem dX10_strength_45 : decode cX10_strength 45 = .ok (.goto (-41), 3) := by decide +kernel
theorem dX10_strength_48 : decode cX10_strength 48 = .ok (.iload_n 1, 1) := by decide +kernel
theorem dX10_strength_49 : decode cX10_strength 49 = .ok (.ireturn, 1) := by decide +kernel
theorem dX10_strengthWith_0 : decode cX10_strengthWith 0 = .ok (.aload_n 0, 1) := by decide +kernel
theorem dX10_strengthWith_1 : decode cX10_strengthWith 1 = .ok (.getfield 147, 3) := by decide +kernel
theorem dX10_strengthWith_4 : decode cX10_strengthWith 4 = .ok (.istore_n 2, 1) := by decide +kernel
theorem dX10_strengthWith_5 : decode cX10_strengthWith 5 = .ok (.iconst 0, 1) := by decide +kernel
theorem dX10_strengthWith_6 : decode cX10_strengthWith 6 = .ok (.istore_n 3, 1) := by decide +kernel
theorem dX10_strengthWith_7 : decode cX10_strengthWith 7 = .ok (.iload_n 3, 1) := by decide +kernel
theorem dX10_strengthWith_8 : decode cX10_strengthWith 8 = .ok (.aload_n 0, 1) := by decide +kernel
theorem dX10_strengthWith_9 : decode cX10_strengthWith 9 = .ok (.getfield 147, 3) := by decide +kernel
theorem dX10_strengthWith_12 : decode cX10_strengthWith 12 = .ok (.if_icmp .gt 21, 3) := by decide +kernel
theorem dX10_strengthWith_15 : decode cX10_strengthWith 15 = .ok (.aload_n 0, 1) := by decide +kernel
theorem dX10_strengthWith_16 : decode cX10_strengthWith 16 = .ok (.getfield 63, 3) := by decide +kernel
theorem dX10_strengthWith_19 : decode cX10_strengthWith 19 = .ok (.iload_n 3, 1) := by decide +kernel
theorem dX10_strengthWith_20 : decode cX10_strengthWith 20 = .ok (.aload_n 0, 1) := by decide +kernel
theorem dX10_strengthWith_21 : decode cX10_strengthWith 21 = .ok (.getfield 48, 3) := by decide +kernel
theorem dX10_strengthWith_24 : decode cX10_strengthWith 24 = .ok (.iload_n 3, 1) := by decide +kernel
theorem dX10_strengthWith_25 : decode cX10_strengthWith 25 = .ok (.iaload, 1) := by decide +kernel
theorem dX10_strengthWith_26 : decode cX10_strengthWith 26 = .ok (.iastore, 1) := by decide +kernel
theorem dX10_strengthWith_27 : decode cX10_strengthWith 27 = .ok (.iinc 3 1, 3) := by decide +kernel
theorem dX10_strengthWith_30 : decode cX10_strengthWith 30 = .ok (.goto (-23), 3) := by decide +kernel
theorem dX10_strengthWith_33 : decode cX10_strengthWith 33 = .ok (.aload_n 0, 1) := by decide +kernel
theorem dX10_strengthWith_34 : decode cX10_strengthWith 34 = .ok (.iload_n 1, 1) := by decide +kernel
theorem dX10_strengthWith_35 : decode cX10_strengthWith 35 = .ok (.invokevirtual 204, 3) := by decide +kernel
theorem dX10_strengthWith_38 : decode cX10_strengthWith 38 = .ok (.aload_n 0, 1) := by decide +kernel
theorem dX10_strengthWith_39 : decode cX10_strengthWith 39 = .ok (.invokevirtual 236, 3) := by decide +kernel
theorem dX10_strengthWith_42 : decode cX10_strengthWith 42 = .ok (.istore_n 3, 1) := by decide +kernel
theorem dX10_strengthWith_43 : decode cX10_strengthWith 43 = .ok (.aload_n 0, 1) := by decide +kernel
theorem dX10_strengthWith_44 : decode cX10_strengthWith 44 = .ok (.iload_n 2, 1) := by decide +kernel
theorem dX10_strengthWith_45 : decode cX10_strengthWith 45 = .ok (.putfield 147, 3) := by decide +kernel
theorem dX10_strengthWith_48 : decode cX10_strengthWith 48 = .ok (.iconst 0, 1) := by decide +kernel
theorem dX10_strengthWith_49 : decode cX10_strengthWith 49 = .ok (.istore 4, 2) := by decide +kernel
theorem dX10_strengthWith_51 : decode cX10_strengthWith 51 = .ok (.iload 4, 2) := by decide +kernel
theorem dX10_strengthWith_53 : decode cX10_strengthWith 53 = .ok (.aload_n 0, 1) := by decide +kernel
theorem dX10_strengthWith_54 : decode cX10_strengthWith 54 = .ok (.getfield 147, 3) := by decide +kernel
theorem dX10_strengthWith_57 : decode cX10_strengthWith 57 = .ok (.if_icmp .gt 23, 3) := by decide +kernel
theorem dX10_strengthWith_60 : decode cX10_strengthWith 60 = .ok (.aload_n 0, 1) := by decide +kernel
theorem dX10_strengthWith_61 : decode cX10_strengthWith 61 = .ok (.getfield 48, 3) := by decide +kernel
theorem dX10_strengthWith_64 : decode cX10_strengthWith 64 = .ok (.iload 4, 2) := by decide +kernel
theorem dX10_strengthWith_66 : decode cX10_strengthWith 66 = .ok (.aload_n 0, 1) := by decide +kernel
theorem dX10_strengthWith_67 : decode cX10_strengthWith 67 = .ok (.getfield 63, 3) := by decide +kernel
theorem dX10_strengthWith_70 : decode cX10_strengthWith 70 = .ok (.iload 4, 2) := by decide +kernel
theorem dX10_strengthWith_72 : decode cX10_strengthWith 72 = .ok (.iaload, 1) := by decide +kernel
theorem dX10_strengthWith_73 : decode cX10_strengthWith 73 = .ok (.iastore, 1) := by decide +kernel
theorem dX10_strengthWith_74 : decode cX10_strengthWith 74 = .ok (.iinc 4 1, 3) := by decide +kernel
theorem dX10_strengthWith_77 : decode cX10_strengthWith 77 = .ok (.goto (-26), 3) := by decide +kernel
theorem dX10_strengthWith_80 : decode cX10_strengthWith 80 = .ok (.aload_n 0, 1) := by decide +kernel
theorem dX10_strengthWith_81 : decode cX10_strengthWith 81 = .ok (.invokevirtual 179, 3) := by decide +kernel
theorem dX10_strengthWith_84 : decode cX10_strengthWith 84 = .ok (.iload_n 3, 1) := by decide +kernel
theorem dX10_strengthWith_85 : decode cX10_strengthWith 85 = .ok (.ireturn, 1) := by decide +kernel
theorem dX10_breaker_0 : decode cX10_breaker 0 = .ok (.iconst (-1), 1) := by decide +kernel
theorem dX10_breaker_1 : decode cX10_breaker 1 = .ok (.istore_n 1, 1) := by decide +kernel
theorem dX10_breaker_2 : decode cX10_breaker 2 = .ok (.iconst 0, 1) := by decide +kernel
theorem dX10_breaker_3 : decode cX10_breaker 3 = .ok (.istore_n 2, 1) := by decide +kernel
theorem dX10_breaker_4 : decode cX10_breaker 4 = .ok (.iconst 0, 1) := by decide +kernel
theorem dX10_breaker_5 : decode cX10_breaker 5 = .ok (.istore_n 3, 1) := by decide +kernel
theorem dX10_breaker_6 : decode cX10_breaker 6 = .ok (.iload_n 3, 1) := by decide +kernel
theorem dX10_breaker_7 : decode cX10_breaker 7 = .ok (.aload_n 0, 1) := by decide +kernel
theorem dX10_breaker_8 : decode cX10_breaker 8 = .ok (.getfield 147, 3) := by decide +kernel
theorem dX10_breaker_11 : decode cX10_breaker 11 = .ok (.if_icmp .ge 83, 3) := by decide +kernel
theorem dX10_breaker_14 : decode cX10_breaker 14 = .ok (.aload_n 0, 1) := by decide +kernel
theorem dX10_breaker_15 : decode cX10_breaker 15 = .ok (.iload_n 3, 1) := by decide +kernel
theorem dX10_breaker_16 : decode cX10_breaker 16 = .ok (.invokevirtual 195, 3) := by decide +kernel
theorem dX10_breaker_19 : decode cX10_breaker 19 = .ok (.ifCond .lt 69, 3) := by decide +kernel
theorem dX10_breaker_22 : decode cX10_breaker 22 = .ok (.aload_n 0, 1) := by decide +kernel
theorem dX10_breaker_23 : decode cX10_breaker 23 = .ok (.iload_n 3, 1) := by decide +kernel
theorem dX10_breaker_24 : decode cX10_breaker 24 = .ok (.invokevirtual 239, 3) := by decide +kernel
theorem dX10_breaker_27 : decode cX10_breaker 27 = .ok (.istore 4, 2) := by decide +kernel
theorem dX10_breaker_29 : decode cX10_breaker 29 = .ok (.iload_n 1, 1) := by decide +kernel
theorem dX10_breaker_30 : decode cX10_breaker 30 = .ok (.ifCond .lt 28, 3) := by decide +kernel
theorem dX10_breaker_33 : decode cX10_breaker 33 = .ok (.iload 4, 2) := by decide +kernel
theorem dX10_breaker_35 : decode cX10_breaker 35 = .ok (.iload_n 2, 1) := by decide +kernel
theorem dX10_breaker_36 : decode cX10_breaker 36 = .ok (.if_icmp .lt 22, 3) := by decide +kernel
theorem dX10_breaker_39 : decode cX10_breaker 39 = .ok (.iload 4, 2) := by decide +kernel
theorem dX10_breaker_41 : decode cX10_breaker 41 = .ok (.iload_n 2, 1) := by decide +kernel
theorem dX10_breaker_42 : decode cX10_breaker 42 = .ok (.if_icmp .ne 20, 3) := by decide +kernel
theorem dX10_breaker_45 : decode cX10_breaker 45 = .ok (.aload_n 0, 1) := by decide +kernel
theorem dX10_breaker_46 : decode cX10_breaker 46 = .ok (.iload_n 3, 1) := by decide +kernel
theorem dX10_breaker_47 : decode cX10_breaker 47 = .ok (.invokevirtual 242, 3) := by decide +kernel
theorem dX10_breaker_50 : decode cX10_breaker 50 = .ok (.aload_n 0, 1) := by decide +kernel
theorem dX10_breaker_51 : decode cX10_breaker 51 = .ok (.iload_n 1, 1) := by decide +kernel
theorem dX10_breaker_52 : decode cX10_breaker 52 = .ok (.invokevirtual 242, 3) := by decide +kernel
theorem dX10_breaker_55 : decode cX10_breaker 55 = .ok (.if_icmp .ge 7, 3) := by decide +kernel
theorem dX10_breaker_58 : decode cX10_breaker 58 = .ok (.iconst 1, 1) := by decide +kernel
theorem dX10_breaker_59 : decode cX10_breaker 59 = .ok (.goto 4, 3) := by decide +kernel
theorem dX10_breaker_62 : decode cX10_breaker 62 = .ok (.iconst 0, 1) := by decide +kernel
theorem dX10_breaker_63 : decode cX10_breaker 63 = .ok (.istore 5, 2) := by decide +kernel
theorem dX10_breaker_65 : decode cX10_breaker 65 = .ok (.iload 5, 2) := by decide +kernel
theorem dX10_breaker_67 : decode cX10_breaker 67 = .ok (.ifCond .eq 7, 3) := by decide +kernel
theorem dX10_breaker_70 : decode cX10_breaker 70 = .ok (.iload_n 3, 1) := by decide +kernel
theorem dX10_breaker_71 : decode cX10_breaker 71 = .ok (.goto 4, 3) := by decide +kernel
theorem dX10_breaker_74 : decode cX10_breaker 74 = .ok (.iload_n 1, 1) := by decide +kernel
theorem dX10_breaker_75 : decode cX10_breaker 75 = .ok (.istore_n 1, 1) := by decide +kernel
theorem dX10_breaker_76 : decode cX10_breaker 76 = .ok (.iload 5, 2) := by decide +kernel
theorem dX10_breaker_78 : decode cX10_breaker 78 = .ok (.ifCond .eq 8, 3) := by decide +kernel
theorem dX10_breaker_81 : decode cX10_breaker 81 = .ok (.iload 4, 2) := by decide +kernel
theorem dX10_breaker_83 : decode cX10_breaker 83 = .ok (.goto 4, 3) := by decide +kernel
theorem dX10_breaker_86 : decode cX10_breaker 86 = .ok (.iload_n 2, 1) := by decide +kernel
theorem dX10_breaker_87 : decode cX10_breaker 87 = .ok (.istore_n 2, 1) := by decide +kernel
theorem dX10_breaker_88 : decode cX10_breaker 88 = .ok (.iinc 3 1, 3) := by decide +kernel
theorem dX10_breaker_91 : decode cX10_breaker 91 = .ok (.goto (-85), 3) := by decide +kernel
theorem dX10_breaker_94 : decode cX10_breaker 94 = .ok (.iload_n 1, 1) := by decide +kernel
theorem dX10_breaker_95 : decode cX10_breaker 95 = .ok (.ifCond .lt 15, 3) := by decide +kernel
theorem dX10_breaker_98 : decode cX10_breaker 98 = .ok (.iload_n 2, 1) := by decide +kernel
theorem dX10_breaker_99 : decode cX10_breaker 99 = .ok (.aload_n 0, 1) := by decide +kernel
theorem dX10_breaker_100 : decode cX10_breaker 100 = .ok (.invokevirtual 236, 3) := by decide +kernel
theorem dX10_breaker_103 : decode cX10_breaker 103 = .ok (.if_icmp .ge 7, 3) := by decide +kernel
theorem dX10_breaker_106 : decode cX10_breaker 106 = .ok (.iload_n 1, 1) := by decide +kernel
theorem dX10_breaker_107 : decode cX10_breaker 107 = .ok (.goto 4, 3) := by decide +kernel
theorem dX10_breaker_110 : decode cX10_breaker 110 = .ok (.iconst (-1), 1) := by decide +kernel
theorem dX10_breaker_111 : decode cX10_breaker 111 = .ok (.ireturn, 1) := by decide +kernel
theorem dX10_breakRivers_0 : decode cX10_breakRivers 0 = .ok (.iconst 0, 1) := by decide +kernel
theorem dX10_breakRivers_1 : decode cX10_breakRivers 1 = .ok (.istore_n 1, 1) := by decide +kernel
theorem dX10_breakRivers_2 : decode cX10_breakRivers 2 = .ok (.aload_n 0, 1) := by decide +kernel
theorem dX10_breakRivers_3 : decode cX10_breakRivers 3 = .ok (.invokevirtual 245, 3) := by decide +kernel
theorem dX10_breakRivers_6 : decode cX10_breakRivers 6 = .ok (.istore_n 2, 1) := by decide +kernel
theorem dX10_breakRivers_7 : decode cX10_breakRivers 7 = .ok (.iload_n 2, 1) := by decide +kernel
theorem dX10_breakRivers_8 : decode cX10_breakRivers 8 = .ok (.ifCond .lt 35, 3) := by decide +kernel
theorem dX10_breakRivers_11 : decode cX10_breakRivers 11 = .ok (.iload_n 1, 1) := by decide +kernel
theorem dX10_breakRivers_12 : decode cX10_breakRivers 12 = .ok (.bipush 10, 2) := by decide +kernel
theorem dX10_breakRivers_14 : decode cX10_breakRivers 14 = .ok (.if_icmp .ge 29, 3) := by decide +kernel
theorem dX10_breakRivers_17 : decode cX10_breakRivers 17 = .ok (.aload_n 0, 1) := by decide +kernel
theorem dX10_breakRivers_18 : decode cX10_breakRivers 18 = .ok (.iload_n 2, 1) := by decide +kernel
theorem dX10_breakRivers_19 : decode cX10_breakRivers 19 = .ok (.invokevirtual 204, 3) := by decide +kernel
theorem dX10_breakRivers_22 : decode cX10_breakRivers 22 = .ok (.iinc 1 1, 3) := by decide +kernel
theorem dX10_breakRivers_25 : decode cX10_breakRivers 25 = .ok (.iload_n 1, 1) := by decide +kernel
theorem dX10_breakRivers_26 : decode cX10_breakRivers 26 = .ok (.bipush 10, 2) := by decide +kernel
theorem dX10_breakRivers_28 : decode cX10_breakRivers 28 = .ok (.if_icmp .ge 10, 3) := by decide +kernel
theorem dX10_breakRivers_31 : decode cX10_breakRivers 31 = .ok (.aload_n 0, 1) := by decide +kernel
theorem dX10_breakRivers_32 : decode cX10_breakRivers 32 = .ok (.invokevirtual 245, 3) := by decide +kernel
theorem dX10_breakRivers_35 : decode cX10_breakRivers 35 = .ok (.goto 4, 3) := by decide +kernel
theorem dX10_breakRivers_38 : decode cX10_breakRivers 38 = .ok (.iconst (-1), 1) := by decide +kernel
theorem dX10_breakRivers_39 : decode cX10_breakRivers 39 = .ok (.istore_n 2, 1) := by decide +kernel
theorem dX10_breakRivers_40 : decode cX10_breakRivers 40 = .ok (.goto (-33), 3) := by decide +kernel
theorem dX10_breakRivers_43 : decode cX10_breakRivers 43 = .ok (.iload_n 1, 1) := by decide +kernel
theorem dX10_breakRivers_44 : decode cX10_breakRivers 44 = .ok (.ireturn, 1) := by decide +kernel
theorem dX10_count_0 : decode cX10_count 0 = .ok (.iconst 0, 1) := by decide +kernel
theorem dX10_count_1 : decode cX10_count 1 = .ok (.istore_n 2, 1) := by decide +kernel
theorem dX10_count_2 : decode cX10_count 2 = .ok (.iconst 0, 1) := by decide +kernel
theorem dX10_count_3 : decode cX10_count 3 = .ok (.istore_n 3, 1) := by decide +kernel
theorem dX10_count_4 : decode cX10_count 4 = .ok (.iload_n 3, 1) := by decide +kernel
theorem dX10_count_5 : decode cX10_count 5 = .ok (.aload_n 0, 1) := by decide +kernel
theorem dX10_count_6 : decode cX10_count 6 = .ok (.getfield 90, 3) := by decide +kernel
theorem dX10_count_9 : decode cX10_count 9 = .ok (.if_icmp .ge 37, 3) := by decide +kernel
theorem dX10_count_12 : decode cX10_count 12 = .ok (.aload_n 0, 1) := by decide +kernel
theorem dX10_count_13 : decode cX10_count 13 = .ok (.getfield 147, 3) := by decide +kernel
theorem dX10_count_16 : decode cX10_count 16 = .ok (.ifCond .le 30, 3) := by decide +kernel
theorem dX10_count_19 : decode cX10_count 19 = .ok (.aload_n 0, 1) := by decide +kernel
theorem dX10_count_20 : decode cX10_count 20 = .ok (.getfield 57, 3) := by decide +kernel
theorem dX10_count_23 : decode cX10_count 23 = .ok (.iload_n 3, 1) := by decide +kernel
theorem dX10_count_24 : decode cX10_count 24 = .ok (.iaload, 1) := by decide +kernel
theorem dX10_count_25 : decode cX10_count 25 = .ok (.iload_n 2, 1) := by decide +kernel
theorem dX10_count_26 : decode cX10_count 26 = .ok (.if_icmp .le 12, 3) := by decide +kernel
theorem dX10_count_29 : decode cX10_count 29 = .ok (.aload_n 0, 1) := by decide +kernel
theorem dX10_count_30 : decode cX10_count 30 = .ok (.getfield 57, 3) := by decide +kernel
theorem dX10_count_33 : decode cX10_count 33 = .ok (.iload_n 3, 1) := by decide +kernel
theorem dX10_count_34 : decode cX10_count 34 = .ok (.iaload, 1) := by decide +kernel
theorem dX10_count_35 : decode cX10_count 35 = .ok (.goto 4, 3) := by decide +kernel
theorem dX10_count_38 : decode cX10_count 38 = .ok (.iload_n 2, 1) := by decide +kernel
theorem dX10_count_39 : decode cX10_count 39 = .ok (.istore_n 2, 1) := by decide +kernel
theorem dX10_count_40 : decode cX10_count 40 = .ok (.iinc 3 1, 3) := by decide +kernel
theorem dX10_count_43 : decode cX10_count 43 = .ok (.goto (-39), 3) := by decide +kernel
theorem dX10_count_46 : decode cX10_count 46 = .ok (.iload_n 1, 1) := by decide +kernel
theorem dX10_count_47 : decode cX10_count 47 = .ok (.tableswitch 122 0 9 #[53, 58, 63, 72, 90, 100, 102, 107, 112, 117], 53) := by decide +kernel
theorem dX10_count_100 : decode cX10_count 100 = .ok (.aload_n 0, 1) := by decide +kernel
theorem dX10_count_101 : decode cX10_count 101 = .ok (.getfield 90, 3) := by decide +kernel
theorem dX10_count_104 : decode cX10_count 104 = .ok (.ireturn, 1) := by decide +kernel
theorem dX10_count_105 : decode cX10_count 105 = .ok (.aload_n 0, 1) := by decide +kernel
theorem dX10_count_106 : decode cX10_count 106 = .ok (.getfield 147, 3) := by decide +kernel
theorem dX10_count_109 : decode cX10_count 109 = .ok (.ireturn, 1) := by decide +kernel
theorem dX10_count_110 : decode cX10_count 110 = .ok (.aload_n 0, 1) := by decide +kernel
theorem dX10_count_111 : decode cX10_count 111 = .ok (.aload_n 0, 1) := by decide +kernel
theorem dX10_count_112 : decode cX10_count 112 = .ok (.getfield 147, 3) := by decide +kernel
theorem dX10_count_115 : decode cX10_count 115 = .ok (.invokevirtual 198, 3) := by decide +kernel
theorem dX10_count_118 : decode cX10_count 118 = .ok (.ireturn, 1) := by decide +kernel
theorem dX10_count_119 : decode cX10_count 119 = .ok (.aload_n 0, 1) := by decide +kernel
theorem dX10_count_120 : decode cX10_count 120 = .ok (.getfield 147, 3) := by decide +kernel
theorem dX10_count_123 : decode cX10_count 123 = .ok (.ifCond .ne 7, 3) := by decide +kernel
theorem dX10_count_126 : decode cX10_count 126 = .ok (.iconst 0, 1) := by decide +kernel
theorem dX10_count_127 : decode cX10_count 127 = .ok (.goto 9, 3) := by decide +kernel
theorem dX10_count_130 : decode cX10_count 130 = .ok (.aload_n 0, 1) := by decide +kernel
theorem dX10_count_131 : decode cX10_count 131 = .ok (.getfield 42, 3) := by decide +kernel
theorem dX10_count_134 : decode cX10_count 134 = .ok (.iconst 0, 1) := by decide +kernel
theorem dX10_count_135 : decode cX10_count 135 = .ok (.iaload, 1) := by decide +kernel
theorem dX10_count_136 : decode cX10_count 136 = .ok (.ireturn, 1) := by decide +kernel
theorem dX10_count_137 : decode cX10_count 137 = .ok (.aload_n 0, 1) := by decide +kernel
theorem dX10_count_138 : decode cX10_count 138 = .ok (.iconst (-1), 1) := by decide +kernel
theorem dX10_count_139 : decode cX10_count 139 = .ok (.invokevirtual 248, 3) := by decide +kernel
theorem dX10_count_142 : decode cX10_count 142 = .ok (.sipush 1000, 3) := by decide +kernel
theorem dX10_count_145 : decode cX10_count 145 = .ok (.iadd, 1) := by decide +kernel
theorem dX10_count_146 : decode cX10_count 146 = .ok (.ireturn, 1) := by decide +kernel
theorem dX10_count_147 : decode cX10_count 147 = .ok (.iload_n 2, 1) := by decide +kernel
theorem dX10_count_148 : decode cX10_count 148 = .ok (.ireturn, 1) := by decide +kernel
theorem dX10_count_149 : decode cX10_count 149 = .ok (.aload_n 0, 1) := by decide +kernel
theorem dX10_count_150 : decode cX10_count 150 = .ok (.invokevirtual 236, 3) := by decide +kernel
theorem dX10_count_153 : decode cX10_count 153 = .ok (.ireturn, 1) := by decide +kernel
theorem dX10_count_154 : decode cX10_count 154 = .ok (.aload_n 0, 1) := by decide +kernel
theorem dX10_count_155 : decode cX10_count 155 = .ok (.getfield 7, 3) := by decide +kernel
theorem dX10_count_158 : decode cX10_count 158 = .ok (.ireturn, 1) := by decide +kernel
theorem dX10_count_159 : decode cX10_count 159 = .ok (.aload_n 0, 1) := by decide +kernel
theorem dX10_count_160 : decode cX10_count 160 = .ok (.getfield 13, 3) := by decide +kernel
theorem dX10_count_163 : decode cX10_count 163 = .ok (.ireturn, 1) := by decide +kernel
theorem dX10_count_164 : decode cX10_count 164 = .ok (.aload_n 0, 1) := by decide +kernel
theorem dX10_count_165 : decode cX10_count 165 = .ok (.getfield 16, 3) := by decide +kernel
theorem dX10_count_168 : decode cX10_count 168 = .ok (.ireturn, 1) := by decide +kernel
theorem dX10_count_169 : decode cX10_count 169 = .ok (.sipush (-1002), 3) := by decide +kernel
theorem dX10_count_172 : decode cX10_count 172 = .ok (.ireturn, 1) := by decide +kernel
theorem dX10_spaceWidth_0 : decode cX10_spaceWidth 0 = .ok (.iload_n 1, 1) := by decide +kernel
theorem dX10_spaceWidth_1 : decode cX10_spaceWidth 1 = .ok (.iconst 0, 1) := by decide +kernel
theorem dX10_spaceWidth_2 : decode cX10_spaceWidth 2 = .ok (.iconst 2, 1) := by decide +kernel
theorem dX10_spaceWidth_3 : decode cX10_spaceWidth 3 = .ok (.invokestatic 69, 3) := by decide +kernel
theorem dX10_spaceWidth_6 : decode cX10_spaceWidth 6 = .ok (.ifCond .ne 7, 3) := by decide +kernel
theorem dX10_spaceWidth_9 : decode cX10_spaceWidth 9 = .ok (.sipush (-1001), 3) := by decide +kernel
theorem dX10_spaceWidth_12 : decode cX10_spaceWidth 12 = .ok (.ireturn, 1) := by decide +kernel
theorem dX10_spaceWidth_13 : decode cX10_spaceWidth 13 = .ok (.iload_n 2, 1) := by decide +kernel
theorem dX10_spaceWidth_14 : decode cX10_spaceWidth 14 = .ok (.iconst 0, 1) := by decide +kernel
theorem dX10_spaceWidth_15 : decode cX10_spaceWidth 15 = .ok (.iconst 2, 1) := by decide +kernel
theorem dX10_spaceWidth_16 : decode cX10_spaceWidth 16 = .ok (.invokestatic 69, 3) := by decide +kernel
theorem dX10_spaceWidth_19 : decode cX10_spaceWidth 19 = .ok (.ifCond .eq 16, 3) := by decide +kernel
theorem dX10_spaceWidth_22 : decode cX10_spaceWidth 22 = .ok (.aload_n 0, 1) := by decide +kernel
theorem dX10_spaceWidth_23 : decode cX10_spaceWidth 23 = .ok (.getfield 19, 3) := by decide +kernel
theorem dX10_spaceWidth_26 : decode cX10_spaceWidth 26 = .ok (.iconst 3, 1) := by decide +kernel
theorem dX10_spaceWidth_27 : decode cX10_spaceWidth 27 = .ok (.iload_n 1, 1) := by decide +kernel
theorem dX10_spaceWidth_28 : decode cX10_spaceWidth 28 = .ok (.imul, 1) := by decide +kernel
theorem dX10_spaceWidth_29 : decode cX10_spaceWidth 29 = .ok (.iload_n 2, 1) := by decide +kernel
theorem dX10_spaceWidth_30 : decode cX10_spaceWidth 30 = .ok (.iadd, 1) := by decide +kernel
theorem dX10_spaceWidth_31 : decode cX10_spaceWidth 31 = .ok (.iaload, 1) := by decide +kernel
theorem dX10_spaceWidth_32 : decode cX10_spaceWidth 32 = .ok (.goto 6, 3) := by decide +kernel
theorem dX10_spaceWidth_35 : decode cX10_spaceWidth 35 = .ok (.sipush (-1002), 3) := by decide +kernel
theorem dX10_spaceWidth_38 : decode cX10_spaceWidth 38 = .ok (.ireturn, 1) := by decide +kernel
theorem dX10_noWord_0 : decode cX10_noWord 0 = .ok (.iload_n 1, 1) := by decide +kernel
theorem dX10_noWord_1 : decode cX10_noWord 1 = .ok (.iconst 0, 1) := by decide +kernel
theorem dX10_noWord_2 : decode cX10_noWord 2 = .ok (.aload_n 0, 1) := by decide +kernel
theorem dX10_noWord_3 : decode cX10_noWord 3 = .ok (.getfield 90, 3) := by decide +kernel
theorem dX10_noWord_6 : decode cX10_noWord 6 = .ok (.iconst 1, 1) := by decide +kernel
theorem dX10_noWord_7 : decode cX10_noWord 7 = .ok (.isub, 1) := by decide +kernel
theorem dX10_noWord_8 : decode cX10_noWord 8 = .ok (.invokestatic 69, 3) := by decide +kernel
theorem dX10_noWord_11 : decode cX10_noWord 11 = .ok (.ifCond .ne 7, 3) := by decide +kernel
theorem dX10_noWord_14 : decode cX10_noWord 14 = .ok (.iconst 1, 1) := by decide +kernel
theorem dX10_noWord_15 : decode cX10_noWord 15 = .ok (.goto 4, 3) := by decide +kernel
theorem dX10_noWord_18 : decode cX10_noWord 18 = .ok (.iconst 0, 1) := by decide +kernel
theorem dX10_noWord_19 : decode cX10_noWord 19 = .ok (.ireturn, 1) := by decide +kernel
theorem dX10_word_0 : decode cX10_word 0 = .ok (.aload_n 0, 1) := by decide +kernel
theorem dX10_word_1 : decode cX10_word 1 = .ok (.iload_n 1, 1) := by decide +kernel
theorem dX10_word_2 : decode cX10_word 2 = .ok (.invokevirtual 251, 3) := by decide +kernel
theorem dX10_word_5 : decode cX10_word 5 = .ok (.ifCond .eq 7, 3) := by decide +kernel
theorem dX10_word_8 : decode cX10_word 8 = .ok (.sipush (-1001), 3) := by decide +kernel
theorem dX10_word_11 : decode cX10_word 11 = .ok (.ireturn, 1) := by decide +kernel
theorem dX10_word_12 : decode cX10_word 12 = .ok (.iload_n 2, 1) := by decide +kernel
theorem dX10_word_13 : decode cX10_word 13 = .ok (.tableswitch 72 0 3 #[31, 38, 45, 52], 31) := by decide +kernel
theorem dX10_word_44 : decode cX10_word 44 = .ok (.aload_n 0, 1) := by decide +kernel
theorem dX10_word_45 : decode cX10_word 45 = .ok (.getfield 23, 3) := by decide +kernel
theorem dX10_word_48 : decode cX10_word 48 = .ok (.iload_n 1, 1) := by decide +kernel
theorem dX10_word_49 : decode cX10_word 49 = .ok (.iaload, 1) := by decide +kernel
theorem dX10_word_50 : decode cX10_word 50 = .ok (.ireturn, 1) := by decide +kernel
theorem dX10_word_51 : decode cX10_word 51 = .ok (.aload_n 0, 1) := by decide +kernel
theorem dX10_word_52 : decode cX10_word 52 = .ok (.getfield 26, 3) := by decide +kernel
theorem dX10_word_55 : decode cX10_word 55 = .ok (.iload_n 1, 1) := by decide +kernel
theorem dX10_word_56 : decode cX10_word 56 = .ok (.iaload, 1) := by decide +kernel
theorem dX10_word_57 : decode cX10_word 57 = .ok (.ireturn, 1) := by decide +kernel
theorem dX10_word_58 : decode cX10_word 58 = .ok (.aload_n 0, 1) := by decide +kernel
theorem dX10_word_59 : decode cX10_word 59 = .ok (.getfield 29, 3) := by decide +kernel
theorem dX10_word_62 : decode cX10_word 62 = .ok (.iload_n 1, 1) := by decide +kernel
theorem dX10_word_63 : decode cX10_word 63 = .ok (.iaload, 1) := by decide +kernel
theorem dX10_word_64 : decode cX10_word 64 = .ok (.ireturn, 1) := by decide +kernel
theorem dX10_word_65 : decode cX10_word 65 = .ok (.aload_n 0, 1) := by decide +kernel
theorem dX10_word_66 : decode cX10_word 66 = .ok (.getfield 147, 3) := by decide +kernel
theorem dX10_word_69 : decode cX10_word 69 = .ok (.ifCond .ne 9, 3) := by decide +kernel
theorem dX10_word_72 : decode cX10_word 72 = .ok (.sipush (-1004), 3) := by decide +kernel
theorem dX10_word_75 : decode cX10_word 75 = .ok (.goto 9, 3) := by decide +kernel
theorem dX10_word_78 : decode cX10_word 78 = .ok (.aload_n 0, 1) := by decide +kernel
theorem dX10_word_79 : decode cX10_word 79 = .ok (.getfield 60, 3) := by decide +kernel
theorem dX10_word_82 : decode cX10_word 82 = .ok (.iload_n 1, 1) := by decide +kernel
theorem dX10_word_83 : decode cX10_word 83 = .ok (.iaload, 1) := by decide +kernel
theorem dX10_word_84 : decode cX10_word 84 = .ok (.ireturn, 1) := by decide +kernel
theorem dX10_word_85 : decode cX10_word 85 = .ok (.sipush (-1002), 3) := by decide +kernel
theorem dX10_word_88 : decode cX10_word 88 = .ok (.ireturn, 1) := by decide +kernel
theorem dX10_line_0 : decode cX10_line 0 = .ok (.aload_n 0, 1) := by decide +kernel
theorem dX10_line_1 : decode cX10_line 1 = .ok (.iload_n 1, 1) := by decide +kernel
theorem dX10_line_2 : decode cX10_line 2 = .ok (.invokevirtual 201, 3) := by decide +kernel
theorem dX10_line_5 : decode cX10_line 5 = .ok (.ifCond .eq 7, 3) := by decide +kernel
theorem dX10_line_8 : decode cX10_line 8 = .ok (.sipush (-1001), 3) := by decide +kernel
theorem dX10_line_11 : decode cX10_line 11 = .ok (.ireturn, 1) := by decide +kernel
theorem dX10_line_12 : decode cX10_line 12 = .ok (.aload_n 0, 1) := by decide +kernel
theorem dX10_line_13 : decode cX10_line 13 = .ok (.getfield 48, 3) := by decide +kernel
theorem dX10_line_16 : decode cX10_line 16 = .ok (.iload_n 1, 1) := by decide +kernel
theorem dX10_line_17 : decode cX10_line 17 = .ok (.iaload, 1) := by decide +kernel
theorem dX10_line_18 : decode cX10_line 18 = .ok (.istore_n 3, 1) := by decide +kernel
theorem dX10_line_19 : decode cX10_line 19 = .ok (.aload_n 0, 1) := by decide +kernel
theorem dX10_line_20 : decode cX10_line 20 = .ok (.iload_n 1, 1) := by decide +kernel
theorem dX10_line_21 : decode cX10_line 21 = .ok (.invokevirtual 192, 3) := by decide +kernel
theorem dX10_line_24 : decode cX10_line 24 = .ok (.istore 4, 2) := by decide +kernel
theorem dX10_line_26 : decode cX10_line 26 = .ok (.iload_n 2, 1) := by decide +kernel
theorem dX10_line_27 : decode cX10_line 27 = .ok (.tableswitch 122 0 8 #[49, 51, 54, 62, 70, 78, 86, 92, 99], 49) := by decide +kernel
theorem dX10_line_76 : decode cX10_line 76 = .ok (.iload_n 3, 1) := by decide +kernel
theorem dX10_line_77 : decode cX10_line 77 = .ok (.ireturn, 1) := by decide +kernel
theorem dX10_line_78 : decode cX10_line 78 = .ok (.iload 4, 2) := by decide +kernel
theorem dX10_line_80 : decode cX10_line 80 = .ok (.ireturn, 1) := by decide +kernel
theorem dX10_line_81 : decode cX10_line 81 = .ok (.aload_n 0, 1) := by decide +kernel
theorem dX10_line_82 : decode cX10_line 82 = .ok (.iload_n 3, 1) := by decide +kernel
theorem dX10_line_83 : decode cX10_line 83 = .ok (.iload 4, 2) := by decide +kernel
theorem dX10_line_85 : decode cX10_line 85 = .ok (.invokevirtual 160, 3) := by decide +kernel
theorem dX10_line_88 : decode cX10_line 88 = .ok (.ireturn, 1) := by decide +kernel
theorem dX10_line_89 : decode cX10_line 89 = .ok (.aload_n 0, 1) := by decide +kernel
theorem dX10_line_90 : decode cX10_line 90 = .ok (.iload_n 3, 1) := by decide +kernel
theorem dX10_line_91 : decode cX10_line 91 = .ok (.iload 4, 2) := by decide +kernel
theorem dX10_line_93 : decode cX10_line 93 = .ok (.invokevirtual 163, 3) := by decide +kernel
theorem dX10_line_96 : decode cX10_line 96 = .ok (.ireturn, 1) := by decide +kernel
theorem dX10_line_97 : decode cX10_line 97 = .ok (.aload_n 0, 1) := by decide +kernel
theorem dX10_line_98 : decode cX10_line 98 = .ok (.iload_n 3, 1) := by decide +kernel
theorem dX10_line_99 : decode cX10_line 99 = .ok (.iload 4, 2) := by decide +kernel
theorem dX10_line_101 : decode cX10_line 101 = .ok (.invokevirtual 169, 3) := by decide +kernel
theorem dX10_line_104 : decode cX10_line 104 = .ok (.ireturn, 1) := by decide +kernel
theorem dX10_line_105 : decode cX10_line 105 = .ok (.aload_n 0, 1) := by decide +kernel
theorem dX10_line_106 : decode cX10_line 106 = .ok (.iload_n 3, 1) := by decide +kernel
theorem dX10_line_107 : decode cX10_line 107 = .ok (.iload 4, 2) := by decide +kernel
theorem dX10_line_109 : decode cX10_line 109 = .ok (.invokevirtual 176, 3) := by decide +kernel
theorem dX10_line_112 : decode cX10_line 112 = .ok (.ireturn, 1) := by decide +kernel
theorem dX10_line_113 : decode cX10_line 113 = .ok (.aload_n 0, 1) := by decide +kernel
theorem dX10_line_114 : decode cX10_line 114 = .ok (.iload_n 3, 1) := by decide +kernel
theorem dX10_line_115 : decode cX10_line 115 = .ok (.invokevirtual 154, 3) := by decide +kernel
theorem dX10_line_118 : decode cX10_line 118 = .ok (.ireturn, 1) := by decide +kernel
theorem dX10_line_119 : decode cX10_line 119 = .ok (.aload_n 0, 1) := by decide +kernel
theorem dX10_line_120 : decode cX10_line 120 = .ok (.iload 4, 2) := by decide +kernel
theorem dX10_line_122 : decode cX10_line 122 = .ok (.invokevirtual 157, 3) := by decide +kernel
theorem dX10_line_125 : decode cX10_line 125 = .ok (.ireturn, 1) := by decide +kernel
theorem dX10_line_126 : decode cX10_line 126 = .ok (.aload_n 0, 1) := by decide +kernel
theorem dX10_line_127 : decode cX10_line 127 = .ok (.getfield 51, 3) := by decide +kernel
theorem dX10_line_130 : decode cX10_line 130 = .ok (.iload 4, 2) := by decide +kernel
theorem dX10_line_132 : decode cX10_line 132 = .ok (.iaload, 1) := by decide +kernel
theorem dX10_line_133 : decode cX10_line 133 = .ok (.aload_n 0, 1) := by decide +kernel
theorem dX10_line_134 : decode cX10_line 134 = .ok (.getfield 23, 3) := by decide +kernel
theorem dX10_line_137 : decode cX10_line 137 = .ok (.iload 4, 2) := by decide +kernel
theorem dX10_line_139 : decode cX10_line 139 = .ok (.iaload, 1) := by decide +kernel
theorem dX10_line_140 : decode cX10_line 140 = .ok (.iadd, 1) := by decide +kernel
theorem dX10_line_141 : decode cX10_line 141 = .ok (.aload_n 0, 1) := by decide +kernel
theorem dX10_line_142 : decode cX10_line 142 = .ok (.iload 4, 2) := by decide +kernel
theorem dX10_line_144 : decode cX10_line 144 = .ok (.invokevirtual 157, 3) := by decide +kernel
theorem dX10_line_147 : decode cX10_line 147 = .ok (.isub, 1) := by decide +kernel
theorem dX10_line_148 : decode cX10_line 148 = .ok (.ireturn, 1) := by decide +kernel
theorem dX10_line_149 : decode cX10_line 149 = .ok (.sipush (-1002), 3) := by decide +kernel
theorem dX10_line_152 : decode cX10_line 152 = .ok (.ireturn, 1) := by decide +kernel
theorem dX10_space_0 : decode cX10_space 0 = .ok (.aload_n 0, 1) := by decide +kernel
theorem dX10_space_1 : decode cX10_space 1 = .ok (.iload_n 1, 1) := by decide +kernel
theorem dX10_space_2 : decode cX10_space 2 = .ok (.invokevirtual 201, 3) := by decide +kernel
theorem dX10_space_5 : decode cX10_space 5 = .ok (.ifCond .ne 25, 3) := by decide +kernel
theorem dX10_space_8 : decode cX10_space 8 = .ok (.iload_n 2, 1) := by decide +kernel
theorem dX10_space_9 : decode cX10_space 9 = .ok (.iconst 0, 1) := by decide +kernel
theorem dX10_space_10 : decode cX10_space 10 = .ok (.aload_n 0, 1) := by decide +kernel
theorem dX10_space_11 : decode cX10_space 11 = .ok (.iload_n 1, 1) := by decide +kernel
theorem dX10_space_12 : decode cX10_space 12 = .ok (.invokevirtual 192, 3) := by decide +kernel
theorem dX10_space_15 : decode cX10_space 15 = .ok (.aload_n 0, 1) := by decide +kernel
theorem dX10_space_16 : decode cX10_space 16 = .ok (.getfield 48, 3) := by decide +kernel
theorem dX10_space_19 : decode cX10_space 19 = .ok (.iload_n 1, 1) := by decide +kernel
theorem dX10_space_20 : decode cX10_space 20 = .ok (.iaload, 1) := by decide +kernel
theorem dX10_space_21 : decode cX10_space 21 = .ok (.isub, 1) := by decide +kernel
theorem dX10_space_22 : decode cX10_space 22 = .ok (.iconst 1, 1) := by decide +kernel
theorem dX10_space_23 : decode cX10_space 23 = .ok (.isub, 1) := by decide +kernel
theorem dX10_space_24 : decode cX10_space 24 = .ok (.invokestatic 69, 3) := by decide +kernel
theorem dX10_space_27 : decode cX10_space 27 = .ok (.ifCond .ne 7, 3) := by decide +kernel
theorem dX10_space_30 : decode cX10_space 30 = .ok (.sipush (-1001), 3) := by decide +kernel
theorem dX10_space_33 : decode cX10_space 33 = .ok (.ireturn, 1) := by decide +kernel
theorem dX10_space_34 : decode cX10_space 34 = .ok (.aload_n 0, 1) := by decide +kernel
theorem dX10_space_35 : decode cX10_space 35 = .ok (.getfield 48, 3) := by decide +kernel
theorem dX10_space_38 : decode cX10_space 38 = .ok (.iload_n 1, 1) := by decide +kernel
theorem dX10_space_39 : decode cX10_space 39 = .ok (.iaload, 1) := by decide +kernel
theorem dX10_space_40 : decode cX10_space 40 = .ok (.iload_n 2, 1) := by decide +kernel
theorem dX10_space_41 : decode cX10_space 41 = .ok (.iadd, 1) := by decide +kernel
theorem dX10_space_42 : decode cX10_space 42 = .ok (.istore 4, 2) := by decide +kernel
theorem dX10_space_44 : decode cX10_space 44 = .ok (.iload_n 3, 1) := by decide +kernel
theorem dX10_space_45 : decode cX10_space 45 = .ok (.tableswitch 62 0 3 #[31, 39, 46, 54], 31) := by decide +kernel
theorem dX10_space_76 : decode cX10_space 76 = .ok (.aload_n 0, 1) := by decide +kernel
theorem dX10_space_77 : decode cX10_space 77 = .ok (.getfield 54, 3) := by decide +kernel
theorem dX10_space_80 : decode cX10_space 80 = .ok (.iload 4, 2) := by decide +kernel
theorem dX10_space_82 : decode cX10_space 82 = .ok (.iaload, 1) := by decide +kernel
theorem dX10_space_83 : decode cX10_space 83 = .ok (.ireturn, 1) := by decide +kernel
theorem dX10_space_84 : decode cX10_space 84 = .ok (.aload_n 0, 1) := by decide +kernel
theorem dX10_space_85 : decode cX10_space 85 = .ok (.iload 4, 2) := by decide +kernel
theorem dX10_space_87 : decode cX10_space 87 = .ok (.invokevirtual 212, 3) := by decide +kernel
theorem dX10_space_90 : decode cX10_space 90 = .ok (.ireturn, 1) := by decide +kernel
theorem dX10_space_91 : decode cX10_space 91 = .ok (.aload_n 0, 1) := by decide +kernel
theorem dX10_space_92 : decode cX10_space 92 = .ok (.getfield 29, 3) := by decide +kernel
theorem dX10_space_95 : decode cX10_space 95 = .ok (.iload 4, 2) := by decide +kernel
theorem dX10_space_97 : decode cX10_space 97 = .ok (.iaload, 1) := by decide +kernel
theorem dX10_space_98 : decode cX10_space 98 = .ok (.ireturn, 1) := by decide +kernel
theorem dX10_space_99 : decode cX10_space 99 = .ok (.aload_n 0, 1) := by decide +kernel
theorem dX10_space_100 : decode cX10_space 100 = .ok (.getfield 57, 3) := by decide +kernel
theorem dX10_space_103 : decode cX10_space 103 = .ok (.iload 4, 2) := by decide +kernel
theorem dX10_space_105 : decode cX10_space 105 = .ok (.iaload, 1) := by decide +kernel
theorem dX10_space_106 : decode cX10_space 106 = .ok (.ireturn, 1) := by decide +kernel
theorem dX10_space_107 : decode cX10_space 107 = .ok (.sipush (-1002), 3) := by decide +kernel
theorem dX10_space_110 : decode cX10_space 110 = .ok (.ireturn, 1) := by decide +kernel
theorem dX10_begin_0 : decode cX10_begin 0 = .ok (.aload_n 0, 1) := by decide +kernel
theorem dX10_begin_1 : decode cX10_begin 1 = .ok (.iload_n 1, 1) := by decide +kernel
theorem dX10_begin_2 : decode cX10_begin 2 = .ok (.invokevirtual 251, 3) := by decide +kernel
theorem dX10_begin_5 : decode cX10_begin 5 = .ok (.ifCond .eq 7, 3) := by decide +kernel
theorem dX10_begin_8 : decode cX10_begin 8 = .ok (.sipush (-1001), 3) := by decide +kernel
theorem dX10_begin_11 : decode cX10_begin 11 = .ok (.ireturn, 1) := by decide +kernel
theorem dX10_begin_12 : decode cX10_begin 12 = .ok (.aload_n 0, 1) := by decide +kernel
theorem dX10_begin_13 : decode cX10_begin 13 = .ok (.getfield 147, 3) := by decide +kernel
theorem dX10_begin_16 : decode cX10_begin 16 = .ok (.ifCond .ne 9, 3) := by decide +kernel
theorem dX10_begin_19 : decode cX10_begin 19 = .ok (.sipush (-1004), 3) := by decide +kernel
theorem dX10_begin_22 : decode cX10_begin 22 = .ok (.goto 9, 3) := by decide +kernel
theorem dX10_begin_25 : decode cX10_begin 25 = .ok (.aload_n 0, 1) := by decide +kernel
theorem dX10_begin_26 : decode cX10_begin 26 = .ok (.getfield 51, 3) := by decide +kernel
theorem dX10_begin_29 : decode cX10_begin 29 = .ok (.iload_n 1, 1) := by decide +kernel
theorem dX10_begin_30 : decode cX10_begin 30 = .ok (.iaload, 1) := by decide +kernel
theorem dX10_begin_31 : decode cX10_begin 31 = .ok (.ireturn, 1) := by decide +kernel
theorem dX10_second_0 : decode cX10_second 0 = .ok (.aload_n 0, 1) := by decide +kernel
theorem dX10_second_1 : decode cX10_second 1 = .ok (.iload_n 1, 1) := by decide +kernel
theorem dX10_second_2 : decode cX10_second 2 = .ok (.invokevirtual 201, 3) := by decide +kernel
theorem dX10_second_5 : decode cX10_second 5 = .ok (.ifCond .eq 7, 3) := by decide +kernel
theorem dX10_second_8 : decode cX10_second 8 = .ok (.sipush (-1001), 3) := by decide +kernel
theorem dX10_second_11 : decode cX10_second 11 = .ok (.ireturn, 1) := by decide +kernel
theorem dX10_second_12 : decode cX10_second 12 = .ok (.iload_n 2, 1) := by decide +kernel
theorem dX10_second_13 : decode cX10_second 13 = .ok (.iconst 0, 1) := by decide +kernel
theorem dX10_second_14 : decode cX10_second 14 = .ok (.iconst 1, 1) := by decide +kernel
theorem dX10_second_15 : decode cX10_second 15 = .ok (.invokestatic 69, 3) := by decide +kernel
theorem dX10_second_18 : decode cX10_second 18 = .ok (.ifCond .ne 7, 3) := by decide +kernel
theorem dX10_second_21 : decode cX10_second 21 = .ok (.sipush (-1002), 3) := by decide +kernel
theorem dX10_second_24 : decode cX10_second 24 = .ok (.ireturn, 1) := by decide +kernel
theorem dX10_second_25 : decode cX10_second 25 = .ok (.aload_n 0, 1) := by decide +kernel
theorem dX10_second_26 : decode cX10_second 26 = .ok (.iload_n 1, 1) := by decide +kernel
theorem dX10_second_27 : decode cX10_second 27 = .ok (.invokevirtual 195, 3) := by decide +kernel
theorem dX10_second_30 : decode cX10_second 30 = .ok (.istore_n 3, 1) := by decide +kernel
theorem dX10_second_31 : decode cX10_second 31 = .ok (.iload_n 3, 1) := by decide +kernel
theorem dX10_second_32 : decode cX10_second 32 = .ok (.ifCond .ge 9, 3) := by decide +kernel
theorem dX10_second_35 : decode cX10_second 35 = .ok (.sipush (-1004), 3) := by decide +kernel
theorem dX10_second_38 : decode cX10_second 38 = .ok (.goto 16, 3) := by decide +kernel
theorem dX10_second_41 : decode cX10_second 41 = .ok (.iload_n 2, 1) := by decide +kernel
theorem dX10_second_42 : decode cX10_second 42 = .ok (.ifCond .ne 7, 3) := by decide +kernel
theorem dX10_second_45 : decode cX10_second 45 = .ok (.iload_n 3, 1) := by decide +kernel
theorem dX10_second_46 : decode cX10_second 46 = .ok (.goto 8, 3) := by decide +kernel
theorem dX10_second_49 : decode cX10_second 49 = .ok (.aload_n 0, 1) := by decide +kernel
theorem dX10_second_50 : decode cX10_second 50 = .ok (.iload_n 1, 1) := by decide +kernel
theorem dX10_second_51 : decode cX10_second 51 = .ok (.invokevirtual 242, 3) := by decide +kernel
theorem dX10_second_54 : decode cX10_second 54 = .ok (.ireturn, 1) := by decide +kernel
theorem dX10_badnessOf_0 : decode cX10_badnessOf 0 = .ok (.aload_n 0, 1) := by decide +kernel
theorem dX10_badnessOf_1 : decode cX10_badnessOf 1 = .ok (.aload_n 0, 1) := by decide +kernel
theorem dX10_badnessOf_2 : decode cX10_badnessOf 2 = .ok (.getfield 48, 3) := by decide +kernel
theorem dX10_badnessOf_5 : decode cX10_badnessOf 5 = .ok (.iload_n 1, 1) := by decide +kernel
theorem dX10_badnessOf_6 : decode cX10_badnessOf 6 = .ok (.iaload, 1) := by decide +kernel
theorem dX10_badnessOf_7 : decode cX10_badnessOf 7 = .ok (.aload_n 0, 1) := by decide +kernel
theorem dX10_badnessOf_8 : decode cX10_badnessOf 8 = .ok (.iload_n 1, 1) := by decide +kernel
theorem dX10_badnessOf_9 : decode cX10_badnessOf 9 = .ok (.invokevirtual 192, 3) := by decide +kernel
theorem dX10_badnessOf_12 : decode cX10_badnessOf 12 = .ok (.invokevirtual 169, 3) := by decide +kernel
theorem dX10_badnessOf_15 : decode cX10_badnessOf 15 = .ok (.ireturn, 1) := by decide +kernel
theorem dX10_worst_0 : decode cX10_worst 0 = .ok (.iload_n 1, 1) := by decide +kernel
theorem dX10_worst_1 : decode cX10_worst 1 = .ok (.ifCond .ge 7, 3) := by decide +kernel
theorem dX10_worst_4 : decode cX10_worst 4 = .ok (.sipush (-1002), 3) := by decide +kernel
theorem dX10_worst_7 : decode cX10_worst 7 = .ok (.ireturn, 1) := by decide +kernel
theorem dX10_worst_8 : decode cX10_worst 8 = .ok (.iconst 0, 1) := by decide +kernel
theorem dX10_worst_9 : decode cX10_worst 9 = .ok (.istore_n 2, 1) := by decide +kernel
theorem dX10_worst_10 : decode cX10_worst 10 = .ok (.iload_n 2, 1) := by decide +kernel
theorem dX10_worst_11 : decode cX10_worst 11 = .ok (.aload_n 0, 1) := by decide +kernel
theorem dX10_worst_12 : decode cX10_worst 12 = .ok (.getfield 147, 3) := by decide +kernel
theorem dX10_worst_15 : decode cX10_worst 15 = .ok (.if_icmp .ge 78, 3) := by decide +kernel
theorem dX10_worst_18 : decode cX10_worst 18 = .ok (.iconst 0, 1) := by decide +kernel
theorem dX10_worst_19 : decode cX10_worst 19 = .ok (.istore_n 3, 1) := by decide +kernel
theorem dX10_worst_20 : decode cX10_worst 20 = .ok (.iconst 0, 1) := by decide +kernel
theorem dX10_worst_21 : decode cX10_worst 21 = .ok (.istore 4, 2) := by decide +kernel
theorem dX10_worst_23 : decode cX10_worst 23 = .ok (.iload 4, 2) := by decide +kernel
theorem dX10_worst_25 : decode cX10_worst 25 = .ok (.aload_n 0, 1) := by decide +kernel
theorem dX10_worst_26 : decode cX10_worst 26 = .ok (.getfield 147, 3) := by decide +kernel
theorem dX10_worst_29 : decode cX10_worst 29 = .ok (.if_icmp .ge 51, 3) := by decide +kernel
theorem dX10_worst_32 : decode cX10_worst 32 = .ok (.iload_n 3, 1) := by decide +kernel
theorem dX10_worst_33 : decode cX10_worst 33 = .ok (.aload_n 0, 1) := by decide +kernel
theorem dX10_worst_34 : decode cX10_worst 34 = .ok (.iload 4, 2) := by decide +kernel
theorem dX10_worst_36 : decode cX10_worst 36 = .ok (.invokevirtual 254, 3) := by decide +kernel
theorem dX10_worst_39 : decode cX10_worst 39 = .ok (.aload_n 0, 1) := by decide +kernel
theorem dX10_worst_40 : decode cX10_worst 40 = .ok (.iload_n 2, 1) := by decide +kernel
theorem dX10_worst_41 : decode cX10_worst 41 = .ok (.invokevirtual 254, 3) := by decide +kernel
theorem dX10_worst_44 : decode cX10_worst 44 = .ok (.if_icmp .gt 23, 3) := by decide +kernel
theorem dX10_worst_47 : decode cX10_worst 47 = .ok (.aload_n 0, 1) := by decide +kernel
theorem dX10_worst_48 : decode cX10_worst 48 = .ok (.iload 4, 2) := by decide +kernel
theorem dX10_worst_50 : decode cX10_worst 50 = .ok (.invokevirtual 254, 3) := by decide +kernel
theorem dX10_worst_53 : decode cX10_worst 53 = .ok (.aload_n 0, 1) := by decide +kernel
theorem dX10_worst_54 : decode cX10_worst 54 = .ok (.iload_n 2, 1) := by decide +kernel
theorem dX10_worst_55 : decode cX10_worst 55 = .ok (.invokevirtual 254, 3) := by decide +kernel
theorem dX10_worst_58 : decode cX10_worst 58 = .ok (.if_icmp .ne 13, 3) := by decide +kernel
theorem dX10_worst_61 : decode cX10_worst 61 = .ok (.iload 4, 2) := by decide +kernel
theorem dX10_worst_63 : decode cX10_worst 63 = .ok (.iload_n 2, 1) := by decide +kernel
theorem dX10_worst_64 : decode cX10_worst 64 = .ok (.if_icmp .ge 7, 3) := by decide +kernel
theorem dX10_worst_67 : decode cX10_worst 67 = .ok (.iconst 1, 1) := by decide +kernel
theorem dX10_worst_68 : decode cX10_worst 68 = .ok (.goto 4, 3) := by decide +kernel
theorem dX10_worst_71 : decode cX10_worst 71 = .ok (.iconst 0, 1) := by decide +kernel
theorem dX10_worst_72 : decode cX10_worst 72 = .ok (.iadd, 1) := by decide +kernel
theorem dX10_worst_73 : decode cX10_worst 73 = .ok (.istore_n 3, 1) := by decide +kernel
theorem dX10_worst_74 : decode cX10_worst 74 = .ok (.iinc 4 1, 3) := by decide +kernel
theorem dX10_worst_77 : decode cX10_worst 77 = .ok (.goto (-54), 3) := by decide +kernel
theorem dX10_worst_80 : decode cX10_worst 80 = .ok (.iload_n 3, 1) := by decide +kernel
theorem dX10_worst_81 : decode cX10_worst 81 = .ok (.iload_n 1, 1) := by decide +kernel
theorem dX10_worst_82 : decode cX10_worst 82 = .ok (.if_icmp .ne 5, 3) := by decide +kernel
theorem dX10_worst_85 : decode cX10_worst 85 = .ok (.iload_n 2, 1) := by decide +kernel
theorem dX10_worst_86 : decode cX10_worst 86 = .ok (.ireturn, 1) := by decide +kernel
theorem dX10_worst_87 : decode cX10_worst 87 = .ok (.iinc 2 1, 3) := by decide +kernel
theorem dX10_worst_90 : decode cX10_worst 90 = .ok (.goto (-80), 3) := by decide +kernel
theorem dX10_worst_93 : decode cX10_worst 93 = .ok (.sipush (-1004), 3) := by decide +kernel
theorem dX10_worst_96 : decode cX10_worst 96 = .ok (.ireturn, 1) := by decide +kernel
theorem dX10_river_0 : decode cX10_river 0 = .ok (.iload_n 1, 1) := by decide +kernel
theorem dX10_river_1 : decode cX10_river 1 = .ok (.ifCond .ge 7, 3) := by decide +kernel
theorem dX10_river_4 : decode cX10_river 4 = .ok (.iconst (-1), 1) := by decide +kernel
theorem dX10_river_5 : decode cX10_river 5 = .ok (.goto 8, 3) := by decide +kernel
theorem dX10_river_8 : decode cX10_river 8 = .ok (.aload_n 0, 1) := by decide +kernel
theorem dX10_river_9 : decode cX10_river 9 = .ok (.iload_n 1, 1) := by decide +kernel
theorem dX10_river_10 : decode cX10_river 10 = .ok (.invokevirtual 248, 3) := by decide +kernel
theorem dX10_river_13 : decode cX10_river 13 = .ok (.istore_n 3, 1) := by decide +kernel
theorem dX10_river_14 : decode cX10_river 14 = .ok (.iload_n 3, 1) := by decide +kernel
theorem dX10_river_15 : decode cX10_river 15 = .ok (.ifCond .ge 7, 3) := by decide +kernel
theorem dX10_river_18 : decode cX10_river 18 = .ok (.sipush (-1001), 3) := by decide +kernel
theorem dX10_river_21 : decode cX10_river 21 = .ok (.ireturn, 1) := by decide +kernel
theorem dX10_river_22 : decode cX10_river 22 = .ok (.iload_n 2, 1) := by decide +kernel
theorem dX10_river_23 : decode cX10_river 23 = .ok (.ifCond .ge 7, 3) := by decide +kernel
theorem dX10_river_26 : decode cX10_river 26 = .ok (.sipush (-1002), 3) := by decide +kernel
theorem dX10_river_29 : decode cX10_river 29 = .ok (.ireturn, 1) := by decide +kernel
theorem dX10_river_30 : decode cX10_river 30 = .ok (.iload_n 2, 1) := by decide +kernel
theorem dX10_river_31 : decode cX10_river 31 = .ok (.aload_n 0, 1) := by decide +kernel
theorem dX10_river_32 : decode cX10_river 32 = .ok (.getfield 57, 3) := by decide +kernel
theorem dX10_river_35 : decode cX10_river 35 = .ok (.iload_n 3, 1) := by decide +kernel
theorem dX10_river_36 : decode cX10_river 36 = .ok (.iaload, 1) := by decide +kernel
theorem dX10_river_37 : decode cX10_river 37 = .ok (.if_icmp .lt 7, 3) := by decide +kernel
theorem dX10_river_40 : decode cX10_river 40 = .ok (.sipush (-1004), 3) := by decide +kernel
theorem dX10_river_43 : decode cX10_river 43 = .ok (.ireturn, 1) := by decide +kernel
theorem dX10_river_44 : decode cX10_river 44 = .ok (.iconst 0, 1) := by decide +kernel
theorem dX10_river_45 : decode cX10_river 45 = .ok (.istore 4, 2) := by decide +kernel
theorem dX10_river_47 : decode cX10_river 47 = .ok (.iload 4, 2) := by decide +kernel
theorem dX10_river_49 : decode cX10_river 49 = .ok (.iload_n 2, 1) := by decide +kernel
theorem dX10_river_50 : decode cX10_river 50 = .ok (.if_icmp .ge 15, 3) := by decide +kernel
theorem dX10_river_53 : decode cX10_river 53 = .ok (.aload_n 0, 1) := by decide +kernel
theorem dX10_river_54 : decode cX10_river 54 = .ok (.iload_n 3, 1) := by decide +kernel
theorem dX10_river_55 : decode cX10_river 55 = .ok (.invokevirtual 227, 3) := by decide +kernel
theorem dX10_river_58 : decode cX10_river 58 = .ok (.istore_n 3, 1) := by decide +kernel
theorem dX10_river_59 : decode cX10_river 59 = .ok (.iinc 4 1, 3) := by decide +kernel
theorem dX10_river_62 : decode cX10_river 62 = .ok (.goto (-15), 3) := by decide +kernel
theorem dX10_river_65 : decode cX10_river 65 = .ok (.bipush 100, 2) := by decide +kernel
theorem dX10_river_67 : decode cX10_river 67 = .ok (.aload_n 0, 1) := by decide +kernel
theorem dX10_river_68 : decode cX10_river 68 = .ok (.getfield 60, 3) := by decide +kernel
theorem dX10_river_71 : decode cX10_river 71 = .ok (.iload_n 3, 1) := by decide +kernel
theorem dX10_river_72 : decode cX10_river 72 = .ok (.iaload, 1) := by decide +kernel
theorem dX10_river_73 : decode cX10_river 73 = .ok (.imul, 1) := by decide +kernel
theorem dX10_river_74 : decode cX10_river 74 = .ok (.iload_n 3, 1) := by decide +kernel
theorem dX10_river_75 : decode cX10_river 75 = .ok (.iadd, 1) := by decide +kernel
theorem dX10_river_76 : decode cX10_river 76 = .ok (.aload_n 0, 1) := by decide +kernel
theorem dX10_river_77 : decode cX10_river 77 = .ok (.getfield 48, 3) := by decide +kernel
theorem dX10_river_80 : decode cX10_river 80 = .ok (.aload_n 0, 1) := by decide +kernel
theorem dX10_river_81 : decode cX10_river 81 = .ok (.getfield 60, 3) := by decide +kernel
theorem dX10_river_84 : decode cX10_river 84 = .ok (.iload_n 3, 1) := by decide +kernel
theorem dX10_river_85 : decode cX10_river 85 = .ok (.iaload, 1) := by decide +kernel
theorem dX10_river_86 : decode cX10_river 86 = .ok (.iaload, 1) := by decide +kernel
theorem dX10_river_87 : decode cX10_river 87 = .ok (.isub, 1) := by decide +kernel
theorem dX10_river_88 : decode cX10_river 88 = .ok (.ireturn, 1) := by decide +kernel
