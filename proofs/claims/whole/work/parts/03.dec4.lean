theorem dX12_here_14 : decode cX12_here 14 = .ok (.getfield 7, 3) := by decide +kernel
theorem dX12_here_17 : decode cX12_here 17 = .ok (.aload_n 0, 1) := by decide +kernel
theorem dX12_here_18 : decode cX12_here 18 = .ok (.getfield 149, 3) := by decide +kernel
theorem dX12_here_21 : decode cX12_here 21 = .ok (.iload_n 1, 1) := by decide +kernel
theorem dX12_here_22 : decode cX12_here 22 = .ok (.iadd, 1) := by decide +kernel
theorem dX12_here_23 : decode cX12_here 23 = .ok (.iaload, 1) := by decide +kernel
theorem dX12_here_24 : decode cX12_here 24 = .ok (.goto 4, 3) := by decide +kernel
theorem dX12_here_27 : decode cX12_here 27 = .ok (.iconst (-1), 1) := by decide +kernel
theorem dX12_here_28 : decode cX12_here 28 = .ok (.ireturn, 1) := by decide +kernel
theorem dX12_isLetter_0 : decode cX12_isLetter 0 = .ok (.iload_n 0, 1) := by decide +kernel
theorem dX12_isLetter_1 : decode cX12_isLetter 1 = .ok (.bipush 97, 2) := by decide +kernel
theorem dX12_isLetter_3 : decode cX12_isLetter 3 = .ok (.if_icmp .lt 13, 3) := by decide +kernel
theorem dX12_isLetter_6 : decode cX12_isLetter 6 = .ok (.iload_n 0, 1) := by decide +kernel
theorem dX12_isLetter_7 : decode cX12_isLetter 7 = .ok (.bipush 122, 2) := by decide +kernel
theorem dX12_isLetter_9 : decode cX12_isLetter 9 = .ok (.if_icmp .gt 7, 3) := by decide +kernel
theorem dX12_isLetter_12 : decode cX12_isLetter 12 = .ok (.iconst 1, 1) := by decide +kernel
theorem dX12_isLetter_13 : decode cX12_isLetter 13 = .ok (.goto 4, 3) := by decide +kernel
theorem dX12_isLetter_16 : decode cX12_isLetter 16 = .ok (.iconst 0, 1) := by decide +kernel
theorem dX12_isLetter_17 : decode cX12_isLetter 17 = .ok (.ireturn, 1) := by decide +kernel
theorem dX12_isDigit_0 : decode cX12_isDigit 0 = .ok (.iload_n 0, 1) := by decide +kernel
theorem dX12_isDigit_1 : decode cX12_isDigit 1 = .ok (.bipush 48, 2) := by decide +kernel
theorem dX12_isDigit_3 : decode cX12_isDigit 3 = .ok (.if_icmp .lt 13, 3) := by decide +kernel
theorem dX12_isDigit_6 : decode cX12_isDigit 6 = .ok (.iload_n 0, 1) := by decide +kernel
theorem dX12_isDigit_7 : decode cX12_isDigit 7 = .ok (.bipush 57, 2) := by decide +kernel
theorem dX12_isDigit_9 : decode cX12_isDigit 9 = .ok (.if_icmp .gt 7, 3) := by decide +kernel
theorem dX12_isDigit_12 : decode cX12_isDigit 12 = .ok (.iconst 1, 1) := by decide +kernel
theorem dX12_isDigit_13 : decode cX12_isDigit 13 = .ok (.goto 4, 3) := by decide +kernel
theorem dX12_isDigit_16 : decode cX12_isDigit 16 = .ok (.iconst 0, 1) := by decide +kernel
theorem dX12_isDigit_17 : decode cX12_isDigit 17 = .ok (.ireturn, 1) := by decide +kernel
theorem dX12_isSign_0 : decode cX12_isSign 0 = .ok (.iload_n 0, 1) := by decide +kernel
theorem dX12_isSign_1 : decode cX12_isSign 1 = .ok (.bipush 59, 2) := by decide +kernel
theorem dX12_isSign_3 : decode cX12_isSign 3 = .ok (.if_icmp .eq 63, 3) := by decide +kernel
theorem dX12_isSign_6 : decode cX12_isSign 6 = .ok (.iload_n 0, 1) := by decide +kernel
theorem dX12_isSign_7 : decode cX12_isSign 7 = .ok (.bipush 40, 2) := by decide +kernel
theorem dX12_isSign_9 : decode cX12_isSign 9 = .ok (.if_icmp .eq 57, 3) := by decide +kernel
theorem dX12_isSign_12 : decode cX12_isSign 12 = .ok (.iload_n 0, 1) := by decide +kernel
theorem dX12_isSign_13 : decode cX12_isSign 13 = .ok (.bipush 41, 2) := by decide +kernel
theorem dX12_isSign_15 : decode cX12_isSign 15 = .ok (.if_icmp .eq 51, 3) := by decide +kernel
theorem dX12_isSign_18 : decode cX12_isSign 18 = .ok (.iload_n 0, 1) := by decide +kernel
theorem dX12_isSign_19 : decode cX12_isSign 19 = .ok (.bipush 60, 2) := by decide +kernel
theorem dX12_isSign_21 : decode cX12_isSign 21 = .ok (.if_icmp .eq 45, 3) := by decide +kernel
theorem dX12_isSign_24 : decode cX12_isSign 24 = .ok (.iload_n 0, 1) := by decide +kernel
theorem dX12_isSign_25 : decode cX12_isSign 25 = .ok (.bipush 62, 2) := by decide +kernel
theorem dX12_isSign_27 : decode cX12_isSign 27 = .ok (.if_icmp .eq 39, 3) := by decide +kernel
theorem dX12_isSign_30 : decode cX12_isSign 30 = .ok (.iload_n 0, 1) := by decide +kernel
theorem dX12_isSign_31 : decode cX12_isSign 31 = .ok (.bipush 61, 2) := by decide +kernel
theorem dX12_isSign_33 : decode cX12_isSign 33 = .ok (.if_icmp .eq 33, 3) := by decide +kernel
theorem dX12_isSign_36 : decode cX12_isSign 36 = .ok (.iload_n 0, 1) := by decide +kernel
theorem dX12_isSign_37 : decode cX12_isSign 37 = .ok (.bipush 43, 2) := by decide +kernel
theorem dX12_isSign_39 : decode cX12_isSign 39 = .ok (.if_icmp .eq 27, 3) := by decide +kernel
theorem dX12_isSign_42 : decode cX12_isSign 42 = .ok (.iload_n 0, 1) := by decide +kernel
theorem dX12_isSign_43 : decode cX12_isSign 43 = .ok (.bipush 45, 2) := by decide +kernel
theorem dX12_isSign_45 : decode cX12_isSign 45 = .ok (.if_icmp .eq 21, 3) := by decide +kernel
theorem dX12_isSign_48 : decode cX12_isSign 48 = .ok (.iload_n 0, 1) := by decide +kernel
theorem dX12_isSign_49 : decode cX12_isSign 49 = .ok (.bipush 42, 2) := by decide +kernel
theorem dX12_isSign_51 : decode cX12_isSign 51 = .ok (.if_icmp .eq 15, 3) := by decide +kernel
theorem dX12_isSign_54 : decode cX12_isSign 54 = .ok (.iload_n 0, 1) := by decide +kernel
theorem dX12_isSign_55 : decode cX12_isSign 55 = .ok (.bipush 47, 2) := by decide +kernel
theorem dX12_isSign_57 : decode cX12_isSign 57 = .ok (.if_icmp .eq 9, 3) := by decide +kernel
theorem dX12_isSign_60 : decode cX12_isSign 60 = .ok (.iload_n 0, 1) := by decide +kernel
theorem dX12_isSign_61 : decode cX12_isSign 61 = .ok (.bipush 37, 2) := by decide +kernel
theorem dX12_isSign_63 : decode cX12_isSign 63 = .ok (.if_icmp .ne 7, 3) := by decide +kernel
theorem dX12_isSign_66 : decode cX12_isSign 66 = .ok (.iconst 1, 1) := by decide +kernel
theorem dX12_isSign_67 : decode cX12_isSign 67 = .ok (.goto 4, 3) := by decide +kernel
theorem dX12_isSign_70 : decode cX12_isSign 70 = .ok (.iconst 0, 1) := by decide +kernel
theorem dX12_isSign_71 : decode cX12_isSign 71 = .ok (.ireturn, 1) := by decide +kernel
theorem dX12_token_0 : decode cX12_token 0 = .ok (.aload_n 0, 1) := by decide +kernel
theorem dX12_token_1 : decode cX12_token 1 = .ok (.iconst 0, 1) := by decide +kernel
theorem dX12_token_2 : decode cX12_token 2 = .ok (.invokevirtual 155, 3) := by decide +kernel
theorem dX12_token_5 : decode cX12_token 5 = .ok (.bipush 32, 2) := by decide +kernel
theorem dX12_token_7 : decode cX12_token 7 = .ok (.if_icmp .eq 13, 3) := by decide +kernel
theorem dX12_token_10 : decode cX12_token 10 = .ok (.aload_n 0, 1) := by decide +kernel
theorem dX12_token_11 : decode cX12_token 11 = .ok (.iconst 0, 1) := by decide +kernel
theorem dX12_token_12 : decode cX12_token 12 = .ok (.invokevirtual 155, 3) := by decide +kernel
theorem dX12_token_15 : decode cX12_token 15 = .ok (.bipush 10, 2) := by decide +kernel
theorem dX12_token_17 : decode cX12_token 17 = .ok (.if_icmp .ne 16, 3) := by decide +kernel
theorem dX12_token_20 : decode cX12_token 20 = .ok (.aload_n 0, 1) := by decide +kernel
theorem dX12_token_21 : decode cX12_token 21 = .ok (.dup, 1) := by decide +kernel
theorem dX12_token_22 : decode cX12_token 22 = .ok (.getfield 149, 3) := by decide +kernel
theorem dX12_token_25 : decode cX12_token 25 = .ok (.iconst 1, 1) := by decide +kernel
theorem dX12_token_26 : decode cX12_token 26 = .ok (.iadd, 1) := by decide +kernel
theorem dX12_token_27 : decode cX12_token 27 = .ok (.putfield 149, 3) := by decide +kernel
theorem dX12_token_30 : decode cX12_token 30 = .ok (.goto (-30), 3) := by decide +kernel
theorem dX12_token_33 : decode cX12_token 33 = .ok (.aload_n 0, 1) := by decide +kernel
theorem dX12_token_34 : decode cX12_token 34 = .ok (.aload_n 0, 1) := by decide +kernel
theorem dX12_token_35 : decode cX12_token 35 = .ok (.getfield 149, 3) := by decide +kernel
theorem dX12_token_38 : decode cX12_token 38 = .ok (.putfield 159, 3) := by decide +kernel
theorem dX12_token_41 : decode cX12_token 41 = .ok (.aload_n 0, 1) := by decide +kernel
theorem dX12_token_42 : decode cX12_token 42 = .ok (.iconst 0, 1) := by decide +kernel
theorem dX12_token_43 : decode cX12_token 43 = .ok (.invokevirtual 155, 3) := by decide +kernel
theorem dX12_token_46 : decode cX12_token 46 = .ok (.istore_n 1, 1) := by decide +kernel
theorem dX12_token_47 : decode cX12_token 47 = .ok (.iconst 0, 1) := by decide +kernel
theorem dX12_token_48 : decode cX12_token 48 = .ok (.istore_n 2, 1) := by decide +kernel
theorem dX12_token_49 : decode cX12_token 49 = .ok (.aload_n 0, 1) := by decide +kernel
theorem dX12_token_50 : decode cX12_token 50 = .ok (.lconst 0, 1) := by decide +kernel
theorem dX12_token_51 : decode cX12_token 51 = .ok (.putfield 162, 3) := by decide +kernel
theorem dX12_token_54 : decode cX12_token 54 = .ok (.aload_n 0, 1) := by decide +kernel
theorem dX12_token_55 : decode cX12_token 55 = .ok (.iconst 0, 1) := by decide +kernel
theorem dX12_token_56 : decode cX12_token 56 = .ok (.putfield 166, 3) := by decide +kernel
theorem dX12_token_59 : decode cX12_token 59 = .ok (.iload_n 1, 1) := by decide +kernel
theorem dX12_token_60 : decode cX12_token 60 = .ok (.ifCond .ge 11, 3) := by decide +kernel
theorem dX12_token_63 : decode cX12_token 63 = .ok (.aload_n 0, 1) := by decide +kernel
theorem dX12_token_64 : decode cX12_token 64 = .ok (.iconst 0, 1) := by decide +kernel
theorem dX12_token_65 : decode cX12_token 65 = .ok (.putfield 169, 3) := by decide +kernel
theorem dX12_token_68 : decode cX12_token 68 = .ok (.goto 164, 3) := by decide +kernel
theorem dX12_token_71 : decode cX12_token 71 = .ok (.iload_n 1, 1) := by decide +kernel
theorem dX12_token_72 : decode cX12_token 72 = .ok (.invokestatic 172, 3) := by decide +kernel
theorem dX12_token_75 : decode cX12_token 75 = .ok (.ifCond .eq 62, 3) := by decide +kernel
theorem dX12_token_78 : decode cX12_token 78 = .ok (.aload_n 0, 1) := by decide +kernel
theorem dX12_token_79 : decode cX12_token 79 = .ok (.iload_n 2, 1) := by decide +kernel
theorem dX12_token_80 : decode cX12_token 80 = .ok (.invokevirtual 155, 3) := by decide +kernel
theorem dX12_token_83 : decode cX12_token 83 = .ok (.invokestatic 172, 3) := by decide +kernel
theorem dX12_token_86 : decode cX12_token 86 = .ok (.ifCond .eq 33, 3) := by decide +kernel
theorem dX12_token_89 : decode cX12_token 89 = .ok (.iload_n 2, 1) := by decide +kernel
theorem dX12_token_90 : decode cX12_token 90 = .ok (.bipush 8, 2) := by decide +kernel
theorem dX12_token_92 : decode cX12_token 92 = .ok (.if_icmp .ge 21, 3) := by decide +kernel
theorem dX12_token_95 : decode cX12_token 95 = .ok (.aload_n 0, 1) := by decide +kernel
theorem dX12_token_96 : decode cX12_token 96 = .ok (.aload_n 0, 1) := by decide +kernel
theorem dX12_token_97 : decode cX12_token 97 = .ok (.getfield 162, 3) := by decide +kernel
theorem dX12_token_100 : decode cX12_token 100 = .ok (.bipush 8, 2) := by decide +kernel
theorem dX12_token_102 : decode cX12_token 102 = .ok (.lshl, 1) := by decide +kernel
theorem dX12_token_103 : decode cX12_token 103 = .ok (.aload_n 0, 1) := by decide +kernel
theorem dX12_token_104 : decode cX12_token 104 = .ok (.iload_n 2, 1) := by decide +kernel
theorem dX12_token_105 : decode cX12_token 105 = .ok (.invokevirtual 155, 3) := by decide +kernel
theorem dX12_token_108 : decode cX12_token 108 = .ok (.i2l, 1) := by decide +kernel
theorem dX12_token_109 : decode cX12_token 109 = .ok (.lor, 1) := by decide +kernel
theorem dX12_token_110 : decode cX12_token 110 = .ok (.putfield 162, 3) := by decide +kernel
theorem dX12_token_113 : decode cX12_token 113 = .ok (.iinc 2 1, 3) := by decide +kernel
theorem dX12_token_116 : decode cX12_token 116 = .ok (.goto (-38), 3) := by decide +kernel
theorem dX12_token_119 : decode cX12_token 119 = .ok (.aload_n 0, 1) := by decide +kernel
theorem dX12_token_120 : decode cX12_token 120 = .ok (.iload_n 2, 1) := by decide +kernel
theorem dX12_token_121 : decode cX12_token 121 = .ok (.bipush 8, 2) := by decide +kernel
theorem dX12_token_123 : decode cX12_token 123 = .ok (.if_icmp .le 7, 3) := by decide +kernel
theorem dX12_token_126 : decode cX12_token 126 = .ok (.iconst 3, 1) := by decide +kernel
theorem dX12_token_127 : decode cX12_token 127 = .ok (.goto 4, 3) := by decide +kernel
theorem dX12_token_130 : decode cX12_token 130 = .ok (.iconst 1, 1) := by decide +kernel
theorem dX12_token_131 : decode cX12_token 131 = .ok (.putfield 169, 3) := by decide +kernel
theorem dX12_token_134 : decode cX12_token 134 = .ok (.goto 98, 3) := by decide +kernel
theorem dX12_token_137 : decode cX12_token 137 = .ok (.iload_n 1, 1) := by decide +kernel
theorem dX12_token_138 : decode cX12_token 138 = .ok (.invokestatic 176, 3) := by decide +kernel
theorem dX12_token_141 : decode cX12_token 141 = .ok (.ifCond .eq 73, 3) := by decide +kernel
theorem dX12_token_144 : decode cX12_token 144 = .ok (.aload_n 0, 1) := by decide +kernel
theorem dX12_token_145 : decode cX12_token 145 = .ok (.iload_n 2, 1) := by decide +kernel
theorem dX12_token_146 : decode cX12_token 146 = .ok (.invokevirtual 155, 3) := by decide +kernel
theorem dX12_token_149 : decode cX12_token 149 = .ok (.invokestatic 176, 3) := by decide +kernel
theorem dX12_token_152 : decode cX12_token 152 = .ok (.ifCond .eq 34, 3) := by decide +kernel
theorem dX12_token_155 : decode cX12_token 155 = .ok (.iload_n 2, 1) := by decide +kernel
theorem dX12_token_156 : decode cX12_token 156 = .ok (.iconst 4, 1) := by decide +kernel
theorem dX12_token_157 : decode cX12_token 157 = .ok (.if_icmp .ge 23, 3) := by decide +kernel
theorem dX12_token_160 : decode cX12_token 160 = .ok (.aload_n 0, 1) := by decide +kernel
theorem dX12_token_161 : decode cX12_token 161 = .ok (.bipush 10, 2) := by decide +kernel
theorem dX12_token_163 : decode cX12_token 163 = .ok (.aload_n 0, 1) := by decide +kernel
theorem dX12_token_164 : decode cX12_token 164 = .ok (.getfield 166, 3) := by decide +kernel
theorem dX12_token_167 : decode cX12_token 167 = .ok (.imul, 1) := by decide +kernel
theorem dX12_token_168 : decode cX12_token 168 = .ok (.aload_n 0, 1) := by decide +kernel
theorem dX12_token_169 : decode cX12_token 169 = .ok (.iload_n 2, 1) := by decide +kernel
theorem dX12_token_170 : decode cX12_token 170 = .ok (.invokevirtual 155, 3) := by decide +kernel
theorem dX12_token_173 : decode cX12_token 173 = .ok (.iadd, 1) := by decide +kernel
theorem dX12_token_174 : decode cX12_token 174 = .ok (.bipush 48, 2) := by decide +kernel
theorem dX12_token_176 : decode cX12_token 176 = .ok (.isub, 1) := by decide +kernel
theorem dX12_token_177 : decode cX12_token 177 = .ok (.putfield 166, 3) := by decide +kernel
theorem dX12_token_180 : decode cX12_token 180 = .ok (.iinc 2 1, 3) := by decide +kernel
theorem dX12_token_183 : decode cX12_token 183 = .ok (.goto (-39), 3) := by decide +kernel
theorem dX12_token_186 : decode cX12_token 186 = .ok (.aload_n 0, 1) := by decide +kernel
theorem dX12_token_187 : decode cX12_token 187 = .ok (.iload_n 2, 1) := by decide +kernel
theorem dX12_token_188 : decode cX12_token 188 = .ok (.iconst 4, 1) := by decide +kernel
theorem dX12_token_189 : decode cX12_token 189 = .ok (.if_icmp .gt 14, 3) := by decide +kernel
theorem dX12_token_192 : decode cX12_token 192 = .ok (.aload_n 0, 1) := by decide +kernel
theorem dX12_token_193 : decode cX12_token 193 = .ok (.iload_n 2, 1) := by decide +kernel
theorem dX12_token_194 : decode cX12_token 194 = .ok (.invokevirtual 155, 3) := by decide +kernel
theorem dX12_token_197 : decode cX12_token 197 = .ok (.invokestatic 172, 3) := by decide +kernel
theorem dX12_token_200 : decode cX12_token 200 = .ok (.ifCond .eq 7, 3) := by decide +kernel
theorem dX12_token_203 : decode cX12_token 203 = .ok (.iconst 3, 1) := by decide +kernel
theorem dX12_token_204 : decode cX12_token 204 = .ok (.goto 4, 3) := by decide +kernel
theorem dX12_token_207 : decode cX12_token 207 = .ok (.iconst 2, 1) := by decide +kernel
theorem dX12_token_208 : decode cX12_token 208 = .ok (.putfield 169, 3) := by decide +kernel
theorem dX12_token_211 : decode cX12_token 211 = .ok (.goto 21, 3) := by decide +kernel
theorem dX12_token_214 : decode cX12_token 214 = .ok (.iconst 1, 1) := by decide +kernel
theorem dX12_token_215 : decode cX12_token 215 = .ok (.istore_n 2, 1) := by decide +kernel
theorem dX12_token_216 : decode cX12_token 216 = .ok (.aload_n 0, 1) := by decide +kernel
theorem dX12_token_217 : decode cX12_token 217 = .ok (.iload_n 1, 1) := by decide +kernel
theorem dX12_token_218 : decode cX12_token 218 = .ok (.invokestatic 179, 3) := by decide +kernel
theorem dX12_token_221 : decode cX12_token 221 = .ok (.ifCond .eq 7, 3) := by decide +kernel
theorem dX12_token_224 : decode cX12_token 224 = .ok (.iload_n 1, 1) := by decide +kernel
theorem dX12_token_225 : decode cX12_token 225 = .ok (.goto 4, 3) := by decide +kernel
theorem dX12_token_228 : decode cX12_token 228 = .ok (.iconst 3, 1) := by decide +kernel
theorem dX12_token_229 : decode cX12_token 229 = .ok (.putfield 169, 3) := by decide +kernel
theorem dX12_token_232 : decode cX12_token 232 = .ok (.aload_n 0, 1) := by decide +kernel
theorem dX12_token_233 : decode cX12_token 233 = .ok (.getfield 169, 3) := by decide +kernel
theorem dX12_token_236 : decode cX12_token 236 = .ok (.iconst 3, 1) := by decide +kernel
theorem dX12_token_237 : decode cX12_token 237 = .ok (.if_icmp .eq 13, 3) := by decide +kernel
theorem dX12_token_240 : decode cX12_token 240 = .ok (.aload_n 0, 1) := by decide +kernel
theorem dX12_token_241 : decode cX12_token 241 = .ok (.dup, 1) := by decide +kernel
theorem dX12_token_242 : decode cX12_token 242 = .ok (.getfield 149, 3) := by decide +kernel
theorem dX12_token_245 : decode cX12_token 245 = .ok (.iload_n 2, 1) := by decide +kernel
theorem dX12_token_246 : decode cX12_token 246 = .ok (.iadd, 1) := by decide +kernel
theorem dX12_token_247 : decode cX12_token 247 = .ok (.putfield 149, 3) := by decide +kernel
theorem dX12_token_250 : decode cX12_token 250 = .ok (.return_, 1) := by decide +kernel
theorem dX12_wrong_0 : decode cX12_wrong 0 = .ok (.aload_n 0, 1) := by decide +kernel
theorem dX12_wrong_1 : decode cX12_wrong 1 = .ok (.getfield 182, 3) := by decide +kernel
theorem dX12_wrong_4 : decode cX12_wrong 4 = .ok (.ifCond .le 4, 3) := by decide +kernel
theorem dX12_wrong_7 : decode cX12_wrong 7 = .ok (.return_, 1) := by decide +kernel
theorem dX12_wrong_8 : decode cX12_wrong 8 = .ok (.aload_n 0, 1) := by decide +kernel
theorem dX12_wrong_9 : decode cX12_wrong 9 = .ok (.aload_n 0, 1) := by decide +kernel
theorem dX12_wrong_10 : decode cX12_wrong 10 = .ok (.getfield 169, 3) := by decide +kernel
theorem dX12_wrong_13 : decode cX12_wrong 13 = .ok (.iconst 3, 1) := by decide +kernel
theorem dX12_wrong_14 : decode cX12_wrong 14 = .ok (.if_icmp .ne 7, 3) := by decide +kernel
theorem dX12_wrong_17 : decode cX12_wrong 17 = .ok (.iconst 1, 1) := by decide +kernel
theorem dX12_wrong_18 : decode cX12_wrong 18 = .ok (.goto 4, 3) := by decide +kernel
theorem dX12_wrong_21 : decode cX12_wrong 21 = .ok (.iload_n 1, 1) := by decide +kernel
theorem dX12_wrong_22 : decode cX12_wrong 22 = .ok (.putfield 182, 3) := by decide +kernel
theorem dX12_wrong_25 : decode cX12_wrong 25 = .ok (.aload_n 0, 1) := by decide +kernel
theorem dX12_wrong_26 : decode cX12_wrong 26 = .ok (.aload_n 0, 1) := by decide +kernel
theorem dX12_wrong_27 : decode cX12_wrong 27 = .ok (.getfield 159, 3) := by decide +kernel
theorem dX12_wrong_30 : decode cX12_wrong 30 = .ok (.putfield 13, 3) := by decide +kernel
theorem dX12_wrong_33 : decode cX12_wrong 33 = .ok (.return_, 1) := by decide +kernel
theorem dX12_isWord_0 : decode cX12_isWord 0 = .ok (.aload_n 0, 1) := by decide +kernel
theorem dX12_isWord_1 : decode cX12_isWord 1 = .ok (.getfield 169, 3) := by decide +kernel
theorem dX12_isWord_4 : decode cX12_isWord 4 = .ok (.iconst 1, 1) := by decide +kernel
theorem dX12_isWord_5 : decode cX12_isWord 5 = .ok (.if_icmp .ne 16, 3) := by decide +kernel
theorem dX12_isWord_8 : decode cX12_isWord 8 = .ok (.aload_n 0, 1) := by decide +kernel
theorem dX12_isWord_9 : decode cX12_isWord 9 = .ok (.getfield 162, 3) := by decide +kernel
theorem dX12_isWord_12 : decode cX12_isWord 12 = .ok (.lload_n 1, 1) := by decide +kernel
theorem dX12_isWord_13 : decode cX12_isWord 13 = .ok (.lcmp, 1) := by decide +kernel
theorem dX12_isWord_14 : decode cX12_isWord 14 = .ok (.ifCond .ne 7, 3) := by decide +kernel
theorem dX12_isWord_17 : decode cX12_isWord 17 = .ok (.iconst 1, 1) := by decide +kernel
theorem dX12_isWord_18 : decode cX12_isWord 18 = .ok (.goto 4, 3) := by decide +kernel
theorem dX12_isWord_21 : decode cX12_isWord 21 = .ok (.iconst 0, 1) := by decide +kernel
theorem dX12_isWord_22 : decode cX12_isWord 22 = .ok (.ireturn, 1) := by decide +kernel
theorem dX12_isOwn_0 : decode cX12_isOwn 0 = .ok (.aload_n 0, 1) := by decide +kernel
theorem dX12_isOwn_1 : decode cX12_isOwn 1 = .ok (.getfield 162, 3) := by decide +kernel
theorem dX12_isOwn_4 : decode cX12_isOwn 4 = .ok (.ldc2_w 185, 3) := by decide +kernel
theorem dX12_isOwn_7 : decode cX12_isOwn 7 = .ok (.lcmp, 1) := by decide +kernel
theorem dX12_isOwn_8 : decode cX12_isOwn 8 = .ok (.ifCond .eq 179, 3) := by decide +kernel
theorem dX12_isOwn_11 : decode cX12_isOwn 11 = .ok (.aload_n 0, 1) := by decide +kernel
theorem dX12_isOwn_12 : decode cX12_isOwn 12 = .ok (.getfield 162, 3) := by decide +kernel
theorem dX12_isOwn_15 : decode cX12_isOwn 15 = .ok (.ldc2_w 187, 3) := by decide +kernel
theorem dX12_isOwn_18 : decode cX12_isOwn 18 = .ok (.lcmp, 1) := by decide +kernel
theorem dX12_isOwn_19 : decode cX12_isOwn 19 = .ok (.ifCond .eq 168, 3) := by decide +kernel
theorem dX12_isOwn_22 : decode cX12_isOwn 22 = .ok (.aload_n 0, 1) := by decide +kernel
theorem dX12_isOwn_23 : decode cX12_isOwn 23 = .ok (.getfield 162, 3) := by decide +kernel
theorem dX12_isOwn_26 : decode cX12_isOwn 26 = .ok (.ldc2_w 189, 3) := by decide +kernel
theorem dX12_isOwn_29 : decode cX12_isOwn 29 = .ok (.lcmp, 1) := by decide +kernel
theorem dX12_isOwn_30 : decode cX12_isOwn 30 = .ok (.ifCond .eq 157, 3) := by decide +kernel
theorem dX12_isOwn_33 : decode cX12_isOwn 33 = .ok (.aload_n 0, 1) := by decide +kernel
theorem dX12_isOwn_34 : decode cX12_isOwn 34 = .ok (.getfield 162, 3) := by decide +kernel
theorem dX12_isOwn_37 : decode cX12_isOwn 37 = .ok (.ldc2_w 191, 3) := by decide +kernel
theorem dX12_isOwn_40 : decode cX12_isOwn 40 = .ok (.lcmp, 1) := by decide +kernel
theorem dX12_isOwn_41 : decode cX12_isOwn 41 = .ok (.ifCond .eq 146, 3) := by decide +kernel
theorem dX12_isOwn_44 : decode cX12_isOwn 44 = .ok (.aload_n 0, 1) := by decide +kernel
theorem dX12_isOwn_45 : decode cX12_isOwn 45 = .ok (.getfield 162, 3) := by decide +kernel
theorem dX12_isOwn_48 : decode cX12_isOwn 48 = .ok (.ldc2_w 193, 3) := by decide +kernel
theorem dX12_isOwn_51 : decode cX12_isOwn 51 = .ok (.lcmp, 1) := by decide +kernel
theorem dX12_isOwn_52 : decode cX12_isOwn 52 = .ok (.ifCond .eq 135, 3) := by decide +kernel
theorem dX12_isOwn_55 : decode cX12_isOwn 55 = .ok (.aload_n 0, 1) := by decide +kernel
theorem dX12_isOwn_56 : decode cX12_isOwn 56 = .ok (.getfield 162, 3) := by decide +kernel
theorem dX12_isOwn_59 : decode cX12_isOwn 59 = .ok (.ldc2_w 195, 3) := by decide +kernel
theorem dX12_isOwn_62 : decode cX12_isOwn 62 = .ok (.lcmp, 1) := by decide +kernel
theorem dX12_isOwn_63 : decode cX12_isOwn 63 = .ok (.ifCond .eq 124, 3) := by decide +kernel
theorem dX12_isOwn_66 : decode cX12_isOwn 66 = .ok (.aload_n 0, 1) := by decide +kernel
theorem dX12_isOwn_67 : decode cX12_isOwn 67 = .ok (.getfield 162, 3) := by decide +kernel
theorem dX12_isOwn_70 : decode cX12_isOwn 70 = .ok (.ldc2_w 197, 3) := by decide +kernel
theorem dX12_isOwn_73 : decode cX12_isOwn 73 = .ok (.lcmp, 1) := by decide +kernel
theorem dX12_isOwn_74 : decode cX12_isOwn 74 = .ok (.ifCond .eq 113, 3) := by decide +kernel
theorem dX12_isOwn_77 : decode cX12_isOwn 77 = .ok (.aload_n 0, 1) := by decide +kernel
theorem dX12_isOwn_78 : decode cX12_isOwn 78 = .ok (.getfield 162, 3) := by decide +kernel
theorem dX12_isOwn_81 : decode cX12_isOwn 81 = .ok (.ldc2_w 199, 3) := by decide +kernel
theorem dX12_isOwn_84 : decode cX12_isOwn 84 = .ok (.lcmp, 1) := by decide +kernel
theorem dX12_isOwn_85 : decode cX12_isOwn 85 = .ok (.ifCond .eq 102, 3) := by decide +kernel
theorem dX12_isOwn_88 : decode cX12_isOwn 88 = .ok (.aload_n 0, 1) := by decide +kernel
theorem dX12_isOwn_89 : decode cX12_isOwn 89 = .ok (.getfield 162, 3) := by decide +kernel
theorem dX12_isOwn_92 : decode cX12_isOwn 92 = .ok (.ldc2_w 201, 3) := by decide +kernel
theorem dX12_isOwn_95 : decode cX12_isOwn 95 = .ok (.lcmp, 1) := by decide +kernel
theorem dX12_isOwn_96 : decode cX12_isOwn 96 = .ok (.ifCond .eq 91, 3) := by decide +kernel
theorem dX12_isOwn_99 : decode cX12_isOwn 99 = .ok (.aload_n 0, 1) := by decide +kernel
theorem dX12_isOwn_100 : decode cX12_isOwn 100 = .ok (.getfield 162, 3) := by decide +kernel
theorem dX12_isOwn_103 : decode cX12_isOwn 103 = .ok (.ldc2_w 203, 3) := by decide +kernel
theorem dX12_isOwn_106 : decode cX12_isOwn 106 = .ok (.lcmp, 1) := by decide +kernel
theorem dX12_isOwn_107 : decode cX12_isOwn 107 = .ok (.ifCond .eq 80, 3) := by decide +kernel
theorem dX12_isOwn_110 : decode cX12_isOwn 110 = .ok (.aload_n 0, 1) := by decide +kernel
theorem dX12_isOwn_111 : decode cX12_isOwn 111 = .ok (.getfield 162, 3) := by decide +kernel
theorem dX12_isOwn_114 : decode cX12_isOwn 114 = .ok (.ldc2_w 205, 3) := by decide +kernel
theorem dX12_isOwn_117 : decode cX12_isOwn 117 = .ok (.lcmp, 1) := by decide +kernel
theorem dX12_isOwn_118 : decode cX12_isOwn 118 = .ok (.ifCond .eq 69, 3) := by decide +kernel
theorem dX12_isOwn_121 : decode cX12_isOwn 121 = .ok (.aload_n 0, 1) := by decide +kernel
theorem dX12_isOwn_122 : decode cX12_isOwn 122 = .ok (.getfield 162, 3) := by decide +kernel
theorem dX12_isOwn_125 : decode cX12_isOwn 125 = .ok (.ldc2_w 207, 3) := by decide +kernel
theorem dX12_isOwn_128 : decode cX12_isOwn 128 = .ok (.lcmp, 1) := by decide +kernel
theorem dX12_isOwn_129 : decode cX12_isOwn 129 = .ok (.ifCond .eq 58, 3) := by decide +kernel
theorem dX12_isOwn_132 : decode cX12_isOwn 132 = .ok (.aload_n 0, 1) := by decide +kernel
theorem dX12_isOwn_133 : decode cX12_isOwn 133 = .ok (.getfield 162, 3) := by decide +kernel
theorem dX12_isOwn_136 : decode cX12_isOwn 136 = .ok (.ldc2_w 209, 3) := by decide +kernel
theorem dX12_isOwn_139 : decode cX12_isOwn 139 = .ok (.lcmp, 1) := by decide +kernel
theorem dX12_isOwn_140 : decode cX12_isOwn 140 = .ok (.ifCond .eq 47, 3) := by decide +kernel
theorem dX12_isOwn_143 : decode cX12_isOwn 143 = .ok (.aload_n 0, 1) := by decide +kernel
theorem dX12_isOwn_144 : decode cX12_isOwn 144 = .ok (.getfield 162, 3) := by decide +kernel
theorem dX12_isOwn_147 : decode cX12_isOwn 147 = .ok (.ldc2_w 211, 3) := by decide +kernel
theorem dX12_isOwn_150 : decode cX12_isOwn 150 = .ok (.lcmp, 1) := by decide +kernel
theorem dX12_isOwn_151 : decode cX12_isOwn 151 = .ok (.ifCond .eq 36, 3) := by decide +kernel
theorem dX12_isOwn_154 : decode cX12_isOwn 154 = .ok (.aload_n 0, 1) := by decide +kernel
theorem dX12_isOwn_155 : decode cX12_isOwn 155 = .ok (.getfield 162, 3) := by decide +kernel
theorem dX12_isOwn_158 : decode cX12_isOwn 158 = .ok (.ldc2_w 213, 3) := by decide +kernel
theorem dX12_isOwn_161 : decode cX12_isOwn 161 = .ok (.lcmp, 1) := by decide +kernel
theorem dX12_isOwn_162 : decode cX12_isOwn 162 = .ok (.ifCond .eq 25, 3) := by decide +kernel
theorem dX12_isOwn_165 : decode cX12_isOwn 165 = .ok (.aload_n 0, 1) := by decide +kernel
theorem dX12_isOwn_166 : decode cX12_isOwn 166 = .ok (.getfield 162, 3) := by decide +kernel
theorem dX12_isOwn_169 : decode cX12_isOwn 169 = .ok (.ldc2_w 215, 3) := by decide +kernel
theorem dX12_isOwn_172 : decode cX12_isOwn 172 = .ok (.lcmp, 1) := by decide +kernel
theorem dX12_isOwn_173 : decode cX12_isOwn 173 = .ok (.ifCond .eq 14, 3) := by decide +kernel
theorem dX12_isOwn_176 : decode cX12_isOwn 176 = .ok (.aload_n 0, 1) := by decide +kernel
theorem dX12_isOwn_177 : decode cX12_isOwn 177 = .ok (.getfield 162, 3) := by decide +kernel
theorem dX12_isOwn_180 : decode cX12_isOwn 180 = .ok (.ldc2_w 217, 3) := by decide +kernel
theorem dX12_isOwn_183 : decode cX12_isOwn 183 = .ok (.lcmp, 1) := by decide +kernel
theorem dX12_isOwn_184 : decode cX12_isOwn 184 = .ok (.ifCond .ne 7, 3) := by decide +kernel
theorem dX12_isOwn_187 : decode cX12_isOwn 187 = .ok (.iconst 1, 1) := by decide +kernel
theorem dX12_isOwn_188 : decode cX12_isOwn 188 = .ok (.goto 4, 3) := by decide +kernel
theorem dX12_isOwn_191 : decode cX12_isOwn 191 = .ok (.iconst 0, 1) := by decide +kernel
theorem dX12_isOwn_192 : decode cX12_isOwn 192 = .ok (.ireturn, 1) := by decide +kernel
theorem dX12_isName_0 : decode cX12_isName 0 = .ok (.aload_n 0, 1) := by decide +kernel
theorem dX12_isName_1 : decode cX12_isName 1 = .ok (.getfield 169, 3) := by decide +kernel
theorem dX12_isName_4 : decode cX12_isName 4 = .ok (.iconst 1, 1) := by decide +kernel
theorem dX12_isName_5 : decode cX12_isName 5 = .ok (.if_icmp .ne 14, 3) := by decide +kernel
theorem dX12_isName_8 : decode cX12_isName 8 = .ok (.aload_n 0, 1) := by decide +kernel
theorem dX12_isName_9 : decode cX12_isName 9 = .ok (.invokevirtual 219, 3) := by decide +kernel
theorem dX12_isName_12 : decode cX12_isName 12 = .ok (.ifCond .ne 7, 3) := by decide +kernel
theorem dX12_isName_15 : decode cX12_isName 15 = .ok (.iconst 1, 1) := by decide +kernel
theorem dX12_isName_16 : decode cX12_isName 16 = .ok (.goto 4, 3) := by decide +kernel
theorem dX12_isName_19 : decode cX12_isName 19 = .ok (.iconst 0, 1) := by decide +kernel
theorem dX12_isName_20 : decode cX12_isName 20 = .ok (.ireturn, 1) := by decide +kernel
theorem dX12_want_0 : decode cX12_want 0 = .ok (.aload_n 0, 1) := by decide +kernel
theorem dX12_want_1 : decode cX12_want 1 = .ok (.getfield 182, 3) := by decide +kernel
theorem dX12_want_4 : decode cX12_want 4 = .ok (.ifCond .le 4, 3) := by decide +kernel
theorem dX12_want_7 : decode cX12_want 7 = .ok (.return_, 1) := by decide +kernel
theorem dX12_want_8 : decode cX12_want 8 = .ok (.aload_n 0, 1) := by decide +kernel
theorem dX12_want_9 : decode cX12_want 9 = .ok (.lload_n 1, 1) := by decide +kernel
theorem dX12_want_10 : decode cX12_want 10 = .ok (.invokevirtual 223, 3) := by decide +kernel
theorem dX12_want_13 : decode cX12_want 13 = .ok (.ifCond .ne 11, 3) := by decide +kernel
theorem dX12_want_16 : decode cX12_want 16 = .ok (.aload_n 0, 1) := by decide +kernel
theorem dX12_want_17 : decode cX12_want 17 = .ok (.iconst 2, 1) := by decide +kernel
theorem dX12_want_18 : decode cX12_want 18 = .ok (.invokevirtual 227, 3) := by decide +kernel
theorem dX12_want_21 : decode cX12_want 21 = .ok (.goto 7, 3) := by decide +kernel
theorem dX12_want_24 : decode cX12_want 24 = .ok (.aload_n 0, 1) := by decide +kernel
theorem dX12_want_25 : decode cX12_want 25 = .ok (.invokevirtual 230, 3) := by decide +kernel
theorem dX12_want_28 : decode cX12_want 28 = .ok (.return_, 1) := by decide +kernel
theorem dX12_toldNumber_0 : decode cX12_toldNumber 0 = .ok (.aload_n 0, 1) := by decide +kernel
theorem dX12_toldNumber_1 : decode cX12_toldNumber 1 = .ok (.getfield 182, 3) := by decide +kernel
theorem dX12_toldNumber_4 : decode cX12_toldNumber 4 = .ok (.ifCond .le 5, 3) := by decide +kernel
theorem dX12_toldNumber_7 : decode cX12_toldNumber 7 = .ok (.iconst 0, 1) := by decide +kernel
theorem dX12_toldNumber_8 : decode cX12_toldNumber 8 = .ok (.ireturn, 1) := by decide +kernel
theorem dX12_toldNumber_9 : decode cX12_toldNumber 9 = .ok (.aload_n 0, 1) := by decide +kernel
theorem dX12_toldNumber_10 : decode cX12_toldNumber 10 = .ok (.getfield 169, 3) := by decide +kernel
theorem dX12_toldNumber_13 : decode cX12_toldNumber 13 = .ok (.iconst 2, 1) := by decide +kernel
theorem dX12_toldNumber_14 : decode cX12_toldNumber 14 = .ok (.if_icmp .eq 11, 3) := by decide +kernel
theorem dX12_toldNumber_17 : decode cX12_toldNumber 17 = .ok (.aload_n 0, 1) := by decide +kernel
theorem dX12_toldNumber_18 : decode cX12_toldNumber 18 = .ok (.iconst 2, 1) := by decide +kernel
theorem dX12_toldNumber_19 : decode cX12_toldNumber 19 = .ok (.invokevirtual 227, 3) := by decide +kernel
theorem dX12_toldNumber_22 : decode cX12_toldNumber 22 = .ok (.goto 24, 3) := by decide +kernel
theorem dX12_toldNumber_25 : decode cX12_toldNumber 25 = .ok (.aload_n 0, 1) := by decide +kernel
theorem dX12_toldNumber_26 : decode cX12_toldNumber 26 = .ok (.getfield 166, 3) := by decide +kernel
theorem dX12_toldNumber_29 : decode cX12_toldNumber 29 = .ok (.iload_n 1, 1) := by decide +kernel
theorem dX12_toldNumber_30 : decode cX12_toldNumber 30 = .ok (.if_icmp .lt 11, 3) := by decide +kernel
theorem dX12_toldNumber_33 : decode cX12_toldNumber 33 = .ok (.aload_n 0, 1) := by decide +kernel
theorem dX12_toldNumber_34 : decode cX12_toldNumber 34 = .ok (.getfield 166, 3) := by decide +kernel
theorem dX12_toldNumber_37 : decode cX12_toldNumber 37 = .ok (.iload_n 2, 1) := by decide +kernel
theorem dX12_toldNumber_38 : decode cX12_toldNumber 38 = .ok (.if_icmp .le 8, 3) := by decide +kernel
theorem dX12_toldNumber_41 : decode cX12_toldNumber 41 = .ok (.aload_n 0, 1) := by decide +kernel
theorem dX12_toldNumber_42 : decode cX12_toldNumber 42 = .ok (.iconst 4, 1) := by decide +kernel
theorem dX12_toldNumber_43 : decode cX12_toldNumber 43 = .ok (.invokevirtual 227, 3) := by decide +kernel
theorem dX12_toldNumber_46 : decode cX12_toldNumber 46 = .ok (.aload_n 0, 1) := by decide +kernel
theorem dX12_toldNumber_47 : decode cX12_toldNumber 47 = .ok (.getfield 166, 3) := by decide +kernel
theorem dX12_toldNumber_50 : decode cX12_toldNumber 50 = .ok (.istore_n 3, 1) := by decide +kernel
theorem dX12_toldNumber_51 : decode cX12_toldNumber 51 = .ok (.aload_n 0, 1) := by decide +kernel
theorem dX12_toldNumber_52 : decode cX12_toldNumber 52 = .ok (.getfield 182, 3) := by decide +kernel
theorem dX12_toldNumber_55 : decode cX12_toldNumber 55 = .ok (.ifCond .ne 7, 3) := by decide +kernel
theorem dX12_toldNumber_58 : decode cX12_toldNumber 58 = .ok (.aload_n 0, 1) := by decide +kernel
theorem dX12_toldNumber_59 : decode cX12_toldNumber 59 = .ok (.invokevirtual 230, 3) := by decide +kernel
theorem dX12_toldNumber_62 : decode cX12_toldNumber 62 = .ok (.iload_n 3, 1) := by decide +kernel
theorem dX12_toldNumber_63 : decode cX12_toldNumber 63 = .ok (.ireturn, 1) := by decide +kernel
theorem dX12_told_0 : decode cX12_told 0 = .ok (.aload_n 0, 1) := by decide +kernel
theorem dX12_told_1 : decode cX12_told 1 = .ok (.lload_n 1, 1) := by decide +kernel
theorem dX12_told_2 : decode cX12_told 2 = .ok (.invokevirtual 233, 3) := by decide +kernel
theorem dX12_told_5 : decode cX12_told 5 = .ok (.aload_n 0, 1) := by decide +kernel
theorem dX12_told_6 : decode cX12_told 6 = .ok (.iload_n 3, 1) := by decide +kernel
theorem dX12_told_7 : decode cX12_told 7 = .ok (.iload 4, 2) := by decide +kernel
theorem dX12_told_9 : decode cX12_told 9 = .ok (.invokevirtual 237, 3) := by decide +kernel
theorem dX12_told_12 : decode cX12_told 12 = .ok (.ireturn, 1) := by decide +kernel
theorem dX12_option_0 : decode cX12_option 0 = .ok (.aload_n 0, 1) := by decide +kernel
theorem dX12_option_1 : decode cX12_option 1 = .ok (.getfield 182, 3) := by decide +kernel
theorem dX12_option_4 : decode cX12_option 4 = .ok (.ifCond .ne 21, 3) := by decide +kernel
theorem dX12_option_7 : decode cX12_option 7 = .ok (.aload_n 0, 1) := by decide +kernel
theorem dX12_option_8 : decode cX12_option 8 = .ok (.lload_n 1, 1) := by decide +kernel
theorem dX12_option_9 : decode cX12_option 9 = .ok (.invokevirtual 223, 3) := by decide +kernel
theorem dX12_option_12 : decode cX12_option 12 = .ok (.ifCond .eq 13, 3) := by decide +kernel
theorem dX12_option_15 : decode cX12_option 15 = .ok (.aload_n 0, 1) := by decide +kernel
theorem dX12_option_16 : decode cX12_option 16 = .ok (.lload_n 1, 1) := by decide +kernel
theorem dX12_option_17 : decode cX12_option 17 = .ok (.iconst 0, 1) := by decide +kernel
theorem dX12_option_18 : decode cX12_option 18 = .ok (.iload_n 3, 1) := by decide +kernel
theorem dX12_option_19 : decode cX12_option 19 = .ok (.invokevirtual 241, 3) := by decide +kernel
theorem dX12_option_22 : decode cX12_option 22 = .ok (.goto 4, 3) := by decide +kernel
theorem dX12_option_25 : decode cX12_option 25 = .ok (.iconst 0, 1) := by decide +kernel
theorem dX12_option_26 : decode cX12_option 26 = .ok (.ireturn, 1) := by decide +kernel
theorem dX12_newName_0 : decode cX12_newName 0 = .ok (.aload_n 0, 1) := by decide +kernel
theorem dX12_newName_1 : decode cX12_newName 1 = .ok (.invokevirtual 230, 3) := by decide +kernel
theorem dX12_newName_4 : decode cX12_newName 4 = .ok (.aload_n 0, 1) := by decide +kernel
theorem dX12_newName_5 : decode cX12_newName 5 = .ok (.invokevirtual 245, 3) := by decide +kernel
theorem dX12_newName_8 : decode cX12_newName 8 = .ok (.ifCond .ne 8, 3) := by decide +kernel
theorem dX12_newName_11 : decode cX12_newName 11 = .ok (.aload_n 0, 1) := by decide +kernel
theorem dX12_newName_12 : decode cX12_newName 12 = .ok (.iconst 2, 1) := by decide +kernel
theorem dX12_newName_13 : decode cX12_newName 13 = .ok (.invokevirtual 227, 3) := by decide +kernel
theorem dX12_newName_16 : decode cX12_newName 16 = .ok (.iconst 0, 1) := by decide +kernel
theorem dX12_newName_17 : decode cX12_newName 17 = .ok (.istore_n 1, 1) := by decide +kernel
theorem dX12_newName_18 : decode cX12_newName 18 = .ok (.iload_n 1, 1) := by decide +kernel
theorem dX12_newName_19 : decode cX12_newName 19 = .ok (.aload_n 0, 1) := by decide +kernel
theorem dX12_newName_20 : decode cX12_newName 20 = .ok (.getfield 248, 3) := by decide +kernel
theorem dX12_newName_23 : decode cX12_newName 23 = .ok (.if_icmp .ge 35, 3) := by decide +kernel
theorem dX12_newName_26 : decode cX12_newName 26 = .ok (.aload_n 0, 1) := by decide +kernel
theorem dX12_newName_27 : decode cX12_newName 27 = .ok (.getfield 182, 3) := by decide +kernel
theorem dX12_newName_30 : decode cX12_newName 30 = .ok (.ifCond .ne 28, 3) := by decide +kernel
theorem dX12_newName_33 : decode cX12_newName 33 = .ok (.aload_n 0, 1) := by decide +kernel
theorem dX12_newName_34 : decode cX12_newName 34 = .ok (.getfield 17, 3) := by decide +kernel
theorem dX12_newName_37 : decode cX12_newName 37 = .ok (.iload_n 1, 1) := by decide +kernel
theorem dX12_newName_38 : decode cX12_newName 38 = .ok (.laload, 1) := by decide +kernel
theorem dX12_newName_39 : decode cX12_newName 39 = .ok (.aload_n 0, 1) := by decide +kernel
theorem dX12_newName_40 : decode cX12_newName 40 = .ok (.getfield 162, 3) := by decide +kernel
theorem dX12_newName_43 : decode cX12_newName 43 = .ok (.lcmp, 1) := by decide +kernel
theorem dX12_newName_44 : decode cX12_newName 44 = .ok (.ifCond .ne 8, 3) := by decide +kernel
theorem dX12_newName_47 : decode cX12_newName 47 = .ok (.aload_n 0, 1) := by decide +kernel
theorem dX12_newName_48 : decode cX12_newName 48 = .ok (.iconst 3, 1) := by decide +kernel
theorem dX12_newName_49 : decode cX12_newName 49 = .ok (.invokevirtual 227, 3) := by decide +kernel
theorem dX12_newName_52 : decode cX12_newName 52 = .ok (.iinc 1 1, 3) := by decide +kernel
theorem dX12_newName_55 : decode cX12_newName 55 = .ok (.goto (-37), 3) := by decide +kernel
theorem dX12_newName_58 : decode cX12_newName 58 = .ok (.aload_n 0, 1) := by decide +kernel
theorem dX12_newName_59 : decode cX12_newName 59 = .ok (.getfield 182, 3) := by decide +kernel
theorem dX12_newName_62 : decode cX12_newName 62 = .ok (.ifCond .le 4, 3) := by decide +kernel
theorem dX12_newName_65 : decode cX12_newName 65 = .ok (.return_, 1) := by decide +kernel
theorem dX12_newName_66 : decode cX12_newName 66 = .ok (.aload_n 0, 1) := by decide +kernel
theorem dX12_newName_67 : decode cX12_newName 67 = .ok (.getfield 17, 3) := by decide +kernel
theorem dX12_newName_70 : decode cX12_newName 70 = .ok (.aload_n 0, 1) := by decide +kernel
theorem dX12_newName_71 : decode cX12_newName 71 = .ok (.getfield 248, 3) := by decide +kernel
theorem dX12_newName_74 : decode cX12_newName 74 = .ok (.aload_n 0, 1) := by decide +kernel
theorem dX12_newName_75 : decode cX12_newName 75 = .ok (.getfield 162, 3) := by decide +kernel
theorem dX12_newName_78 : decode cX12_newName 78 = .ok (.lastore, 1) := by decide +kernel
theorem dX12_newName_79 : decode cX12_newName 79 = .ok (.aload_n 0, 1) := by decide +kernel
theorem dX12_newName_80 : decode cX12_newName 80 = .ok (.invokevirtual 230, 3) := by decide +kernel
theorem dX12_newName_83 : decode cX12_newName 83 = .ok (.return_, 1) := by decide +kernel
theorem dX12_add_0 : decode cX12_add 0 = .ok (.aload_n 0, 1) := by decide +kernel
theorem dX12_add_1 : decode cX12_add 1 = .ok (.getfield 21, 3) := by decide +kernel
theorem dX12_add_4 : decode cX12_add 4 = .ok (.sipush 320, 3) := by decide +kernel
theorem dX12_add_7 : decode cX12_add 7 = .ok (.aload_n 0, 1) := by decide +kernel
theorem dX12_add_8 : decode cX12_add 8 = .ok (.getfield 251, 3) := by decide +kernel
theorem dX12_add_11 : decode cX12_add 11 = .ok (.imul, 1) := by decide +kernel
theorem dX12_add_12 : decode cX12_add 12 = .ok (.aload_n 0, 1) := by decide +kernel
theorem dX12_add_13 : decode cX12_add 13 = .ok (.getfield 27, 3) := by decide +kernel
theorem dX12_add_16 : decode cX12_add 16 = .ok (.aload_n 0, 1) := by decide +kernel
theorem dX12_add_17 : decode cX12_add 17 = .ok (.getfield 251, 3) := by decide +kernel
theorem dX12_add_20 : decode cX12_add 20 = .ok (.iaload, 1) := by decide +kernel
theorem dX12_add_21 : decode cX12_add 21 = .ok (.iadd, 1) := by decide +kernel
theorem dX12_add_22 : decode cX12_add 22 = .ok (.iload_n 1, 1) := by decide +kernel
theorem dX12_add_23 : decode cX12_add 23 = .ok (.iastore, 1) := by decide +kernel
theorem dX12_add_24 : decode cX12_add 24 = .ok (.aload_n 0, 1) := by decide +kernel
theorem dX12_add_25 : decode cX12_add 25 = .ok (.getfield 24, 3) := by decide +kernel
theorem dX12_add_28 : decode cX12_add 28 = .ok (.sipush 320, 3) := by decide +kernel
theorem dX12_add_31 : decode cX12_add 31 = .ok (.aload_n 0, 1) := by decide +kernel
theorem dX12_add_32 : decode cX12_add 32 = .ok (.getfield 251, 3) := by decide +kernel
theorem dX12_add_35 : decode cX12_add 35 = .ok (.imul, 1) := by decide +kernel
theorem dX12_add_36 : decode cX12_add 36 = .ok (.aload_n 0, 1) := by decide +kernel
theorem dX12_add_37 : decode cX12_add 37 = .ok (.getfield 27, 3) := by decide +kernel
theorem dX12_add_40 : decode cX12_add 40 = .ok (.aload_n 0, 1) := by decide +kernel
theorem dX12_add_41 : decode cX12_add 41 = .ok (.getfield 251, 3) := by decide +kernel
theorem dX12_add_44 : decode cX12_add 44 = .ok (.iaload, 1) := by decide +kernel
theorem dX12_add_45 : decode cX12_add 45 = .ok (.iadd, 1) := by decide +kernel
theorem dX12_add_46 : decode cX12_add 46 = .ok (.iload_n 2, 1) := by decide +kernel
theorem dX12_add_47 : decode cX12_add 47 = .ok (.iastore, 1) := by decide +kernel
theorem dX12_add_48 : decode cX12_add 48 = .ok (.aload_n 0, 1) := by decide +kernel
theorem dX12_add_49 : decode cX12_add 49 = .ok (.getfield 27, 3) := by decide +kernel
theorem dX12_add_52 : decode cX12_add 52 = .ok (.aload_n 0, 1) := by decide +kernel
theorem dX12_add_53 : decode cX12_add 53 = .ok (.getfield 251, 3) := by decide +kernel
theorem dX12_add_56 : decode cX12_add 56 = .ok (.dup2, 1) := by decide +kernel
theorem dX12_add_57 : decode cX12_add 57 = .ok (.iaload, 1) := by decide +kernel
theorem dX12_add_58 : decode cX12_add 58 = .ok (.iconst 1, 1) := by decide +kernel
theorem dX12_add_59 : decode cX12_add 59 = .ok (.iadd, 1) := by decide +kernel
theorem dX12_add_60 : decode cX12_add 60 = .ok (.iastore, 1) := by decide +kernel
theorem dX12_add_61 : decode cX12_add 61 = .ok (.return_, 1) := by decide +kernel
theorem dX12_tight_0 : decode cX12_tight 0 = .ok (.iload_n 0, 1) := by decide +kernel
theorem dX12_tight_1 : decode cX12_tight 1 = .ok (.lookupswitch 85 #[(21, 79), (38, 77), (43, 83), (45, 83), (60, 81), (61, 81), (62, 81), (124, 75)], 75) := by decide +kernel
theorem dX12_tight_76 : decode cX12_tight 76 = .ok (.iconst 1, 1) := by decide +kernel
theorem dX12_tight_77 : decode cX12_tight 77 = .ok (.ireturn, 1) := by decide +kernel
theorem dX12_tight_78 : decode cX12_tight 78 = .ok (.iconst 2, 1) := by decide +kernel
theorem dX12_tight_79 : decode cX12_tight 79 = .ok (.ireturn, 1) := by decide +kernel
theorem dX12_tight_80 : decode cX12_tight 80 = .ok (.iconst 3, 1) := by decide +kernel
theorem dX12_tight_81 : decode cX12_tight 81 = .ok (.ireturn, 1) := by decide +kernel
theorem dX12_tight_82 : decode cX12_tight 82 = .ok (.iconst 4, 1) := by decide +kernel
theorem dX12_tight_83 : decode cX12_tight 83 = .ok (.ireturn, 1) := by decide +kernel
theorem dX12_tight_84 : decode cX12_tight 84 = .ok (.iconst 5, 1) := by decide +kernel
theorem dX12_tight_85 : decode cX12_tight 85 = .ok (.ireturn, 1) := by decide +kernel
theorem dX12_tight_86 : decode cX12_tight 86 = .ok (.bipush 6, 2) := by decide +kernel
theorem dX12_tight_88 : decode cX12_tight 88 = .ok (.ireturn, 1) := by decide +kernel
theorem dX12_close_0 : decode cX12_close 0 = .ok (.aload_n 0, 1) := by decide +kernel
theorem dX12_close_1 : decode cX12_close 1 = .ok (.getfield 254, 3) := by decide +kernel
theorem dX12_close_4 : decode cX12_close 4 = .ok (.ifCond .le 97, 3) := by decide +kernel
theorem dX12_close_7 : decode cX12_close 7 = .ok (.aload_n 0, 1) := by decide +kernel
theorem dX12_close_8 : decode cX12_close 8 = .ok (.getfield 39, 3) := by decide +kernel
theorem dX12_close_11 : decode cX12_close 11 = .ok (.aload_n 0, 1) := by decide +kernel
theorem dX12_close_12 : decode cX12_close 12 = .ok (.getfield 254, 3) := by decide +kernel
theorem dX12_close_15 : decode cX12_close 15 = .ok (.iconst 1, 1) := by decide +kernel
theorem dX12_close_16 : decode cX12_close 16 = .ok (.isub, 1) := by decide +kernel
theorem dX12_close_17 : decode cX12_close 17 = .ok (.iaload, 1) := by decide +kernel
theorem dX12_close_18 : decode cX12_close 18 = .ok (.bipush 20, 2) := by decide +kernel
theorem dX12_close_20 : decode cX12_close 20 = .ok (.if_icmp .eq 81, 3) := by decide +kernel
theorem dX12_close_23 : decode cX12_close 23 = .ok (.aload_n 0, 1) := by decide +kernel
theorem dX12_close_24 : decode cX12_close 24 = .ok (.getfield 39, 3) := by decide +kernel
theorem dX12_close_27 : decode cX12_close 27 = .ok (.aload_n 0, 1) := by decide +kernel
theorem dX12_close_28 : decode cX12_close 28 = .ok (.getfield 254, 3) := by decide +kernel
theorem dX12_close_31 : decode cX12_close 31 = .ok (.iconst 1, 1) := by decide +kernel
theorem dX12_close_32 : decode cX12_close 32 = .ok (.isub, 1) := by decide +kernel
theorem dX12_close_33 : decode cX12_close 33 = .ok (.iaload, 1) := by decide +kernel
theorem dX12_close_34 : decode cX12_close 34 = .ok (.invokestatic 257, 3) := by decide +kernel
theorem dX12_close_37 : decode cX12_close 37 = .ok (.iload_n 1, 1) := by decide +kernel
theorem dX12_close_38 : decode cX12_close 38 = .ok (.if_icmp .lt 63, 3) := by decide +kernel
theorem dX12_close_41 : decode cX12_close 41 = .ok (.aload_n 0, 1) := by decide +kernel
theorem dX12_close_42 : decode cX12_close 42 = .ok (.dup, 1) := by decide +kernel
theorem dX12_close_43 : decode cX12_close 43 = .ok (.getfield 254, 3) := by decide +kernel
theorem dX12_close_46 : decode cX12_close 46 = .ok (.iconst 1, 1) := by decide +kernel
theorem dX12_close_47 : decode cX12_close 47 = .ok (.isub, 1) := by decide +kernel
theorem dX12_close_48 : decode cX12_close 48 = .ok (.putfield 254, 3) := by decide +kernel
theorem dX12_close_51 : decode cX12_close 51 = .ok (.aload_n 0, 1) := by decide +kernel
theorem dX12_close_52 : decode cX12_close 52 = .ok (.getfield 39, 3) := by decide +kernel
theorem dX12_close_55 : decode cX12_close 55 = .ok (.aload_n 0, 1) := by decide +kernel
theorem dX12_close_56 : decode cX12_close 56 = .ok (.getfield 254, 3) := by decide +kernel
theorem dX12_close_59 : decode cX12_close 59 = .ok (.iaload, 1) := by decide +kernel
theorem dX12_close_60 : decode cX12_close 60 = .ok (.bipush 21, 2) := by decide +kernel
theorem dX12_close_62 : decode cX12_close 62 = .ok (.if_icmp .ne 22, 3) := by decide +kernel
theorem dX12_close_65 : decode cX12_close 65 = .ok (.aload_n 0, 1) := by decide +kernel
theorem dX12_close_66 : decode cX12_close 66 = .ok (.iconst 2, 1) := by decide +kernel
theorem dX12_close_67 : decode cX12_close 67 = .ok (.iconst 0, 1) := by decide +kernel
theorem dX12_close_68 : decode cX12_close 68 = .ok (.invokevirtual 260, 3) := by decide +kernel
theorem dX12_close_71 : decode cX12_close 71 = .ok (.aload_n 0, 1) := by decide +kernel
theorem dX12_close_72 : decode cX12_close 72 = .ok (.dup, 1) := by decide +kernel
theorem dX12_close_73 : decode cX12_close 73 = .ok (.getfield 264, 3) := by decide +kernel
theorem dX12_close_76 : decode cX12_close 76 = .ok (.iconst 1, 1) := by decide +kernel
theorem dX12_close_77 : decode cX12_close 77 = .ok (.isub, 1) := by decide +kernel
theorem dX12_close_78 : decode cX12_close 78 = .ok (.putfield 264, 3) := by decide +kernel
theorem dX12_close_81 : decode cX12_close 81 = .ok (.goto (-81), 3) := by decide +kernel
theorem dX12_close_84 : decode cX12_close 84 = .ok (.aload_n 0, 1) := by decide +kernel
theorem dX12_close_85 : decode cX12_close 85 = .ok (.iconst 3, 1) := by decide +kernel
theorem dX12_close_86 : decode cX12_close 86 = .ok (.aload_n 0, 1) := by decide +kernel
theorem dX12_close_87 : decode cX12_close 87 = .ok (.getfield 39, 3) := by decide +kernel
theorem dX12_close_90 : decode cX12_close 90 = .ok (.aload_n 0, 1) := by decide +kernel
theorem dX12_close_91 : decode cX12_close 91 = .ok (.getfield 254, 3) := by decide +kernel
theorem dX12_close_94 : decode cX12_close 94 = .ok (.iaload, 1) := by decide +kernel
theorem dX12_close_95 : decode cX12_close 95 = .ok (.invokevirtual 260, 3) := by decide +kernel
theorem dX12_close_98 : decode cX12_close 98 = .ok (.goto (-98), 3) := by decide +kernel
theorem dX12_close_101 : decode cX12_close 101 = .ok (.return_, 1) := by decide +kernel
theorem dX12_hasRelation_0 : decode cX12_hasRelation 0 = .ok (.aload_n 0, 1) := by decide +kernel
theorem dX12_hasRelation_1 : decode cX12_hasRelation 1 = .ok (.getfield 254, 3) := by decide +kernel
theorem dX12_hasRelation_4 : decode cX12_hasRelation 4 = .ok (.iconst 1, 1) := by decide +kernel
theorem dX12_hasRelation_5 : decode cX12_hasRelation 5 = .ok (.isub, 1) := by decide +kernel
theorem dX12_hasRelation_6 : decode cX12_hasRelation 6 = .ok (.istore_n 1, 1) := by decide +kernel
theorem dX12_hasRelation_7 : decode cX12_hasRelation 7 = .ok (.iload_n 1, 1) := by decide +kernel
theorem dX12_hasRelation_8 : decode cX12_hasRelation 8 = .ok (.ifCond .lt 33, 3) := by decide +kernel
theorem dX12_hasRelation_11 : decode cX12_hasRelation 11 = .ok (.aload_n 0, 1) := by decide +kernel
theorem dX12_hasRelation_12 : decode cX12_hasRelation 12 = .ok (.getfield 39, 3) := by decide +kernel
theorem dX12_hasRelation_15 : decode cX12_hasRelation 15 = .ok (.iload_n 1, 1) := by decide +kernel
theorem dX12_hasRelation_16 : decode cX12_hasRelation 16 = .ok (.iaload, 1) := by decide +kernel
theorem dX12_hasRelation_17 : decode cX12_hasRelation 17 = .ok (.bipush 20, 2) := by decide +kernel
theorem dX12_hasRelation_19 : decode cX12_hasRelation 19 = .ok (.if_icmp .eq 22, 3) := by decide +kernel
theorem dX12_hasRelation_22 : decode cX12_hasRelation 22 = .ok (.aload_n 0, 1) := by decide +kernel
theorem dX12_hasRelation_23 : decode cX12_hasRelation 23 = .ok (.getfield 39, 3) := by decide +kernel
theorem dX12_hasRelation_26 : decode cX12_hasRelation 26 = .ok (.iload_n 1, 1) := by decide +kernel
theorem dX12_hasRelation_27 : decode cX12_hasRelation 27 = .ok (.iaload, 1) := by decide +kernel
theorem dX12_hasRelation_28 : decode cX12_hasRelation 28 = .ok (.invokestatic 257, 3) := by decide +kernel
theorem dX12_hasRelation_31 : decode cX12_hasRelation 31 = .ok (.iconst 4, 1) := by decide +kernel
theorem dX12_hasRelation_32 : decode cX12_hasRelation 32 = .ok (.if_icmp .le 9, 3) := by decide +kernel
theorem dX12_hasRelation_35 : decode cX12_hasRelation 35 = .ok (.iinc 1 (-1), 3) := by decide +kernel
theorem dX12_hasRelation_38 : decode cX12_hasRelation 38 = .ok (.goto (-31), 3) := by decide +kernel
theorem dX12_hasRelation_41 : decode cX12_hasRelation 41 = .ok (.iload_n 1, 1) := by decide +kernel
theorem dX12_hasRelation_42 : decode cX12_hasRelation 42 = .ok (.ifCond .lt 31, 3) := by decide +kernel
theorem dX12_hasRelation_45 : decode cX12_hasRelation 45 = .ok (.aload_n 0, 1) := by decide +kernel
theorem dX12_hasRelation_46 : decode cX12_hasRelation 46 = .ok (.getfield 39, 3) := by decide +kernel
theorem dX12_hasRelation_49 : decode cX12_hasRelation 49 = .ok (.iload_n 1, 1) := by decide +kernel
theorem dX12_hasRelation_50 : decode cX12_hasRelation 50 = .ok (.iaload, 1) := by decide +kernel
theorem dX12_hasRelation_51 : decode cX12_hasRelation 51 = .ok (.bipush 20, 2) := by decide +kernel
theorem dX12_hasRelation_53 : decode cX12_hasRelation 53 = .ok (.if_icmp .eq 20, 3) := by decide +kernel
theorem dX12_hasRelation_56 : decode cX12_hasRelation 56 = .ok (.aload_n 0, 1) := by decide +kernel
theorem dX12_hasRelation_57 : decode cX12_hasRelation 57 = .ok (.getfield 39, 3) := by decide +kernel
theorem dX12_hasRelation_60 : decode cX12_hasRelation 60 = .ok (.iload_n 1, 1) := by decide +kernel
theorem dX12_hasRelation_61 : decode cX12_hasRelation 61 = .ok (.iaload, 1) := by decide +kernel
theorem dX12_hasRelation_62 : decode cX12_hasRelation 62 = .ok (.invokestatic 257, 3) := by decide +kernel
theorem dX12_hasRelation_65 : decode cX12_hasRelation 65 = .ok (.iconst 4, 1) := by decide +kernel
theorem dX12_hasRelation_66 : decode cX12_hasRelation 66 = .ok (.if_icmp .ne 7, 3) := by decide +kernel
theorem dX12_hasRelation_69 : decode cX12_hasRelation 69 = .ok (.iconst 1, 1) := by decide +kernel
theorem dX12_hasRelation_70 : decode cX12_hasRelation 70 = .ok (.goto 4, 3) := by decide +kernel
theorem dX12_hasRelation_73 : decode cX12_hasRelation 73 = .ok (.iconst 0, 1) := by decide +kernel
theorem dX12_hasRelation_74 : decode cX12_hasRelation 74 = .ok (.ireturn, 1) := by decide +kernel
theorem dX12_mayNot_0 : decode cX12_mayNot 0 = .ok (.aload_n 0, 1) := by decide +kernel
theorem dX12_mayNot_1 : decode cX12_mayNot 1 = .ok (.getfield 254, 3) := by decide +kernel
theorem dX12_mayNot_4 : decode cX12_mayNot 4 = .ok (.ifCond .eq 37, 3) := by decide +kernel
theorem dX12_mayNot_7 : decode cX12_mayNot 7 = .ok (.aload_n 0, 1) := by decide +kernel
theorem dX12_mayNot_8 : decode cX12_mayNot 8 = .ok (.getfield 39, 3) := by decide +kernel
theorem dX12_mayNot_11 : decode cX12_mayNot 11 = .ok (.aload_n 0, 1) := by decide +kernel
theorem dX12_mayNot_12 : decode cX12_mayNot 12 = .ok (.getfield 254, 3) := by decide +kernel
theorem dX12_mayNot_15 : decode cX12_mayNot 15 = .ok (.iconst 1, 1) := by decide +kernel
theorem dX12_mayNot_16 : decode cX12_mayNot 16 = .ok (.isub, 1) := by decide +kernel
theorem dX12_mayNot_17 : decode cX12_mayNot 17 = .ok (.iaload, 1) := by decide +kernel
theorem dX12_mayNot_18 : decode cX12_mayNot 18 = .ok (.bipush 20, 2) := by decide +kernel
theorem dX12_mayNot_20 : decode cX12_mayNot 20 = .ok (.if_icmp .eq 21, 3) := by decide +kernel
theorem dX12_mayNot_23 : decode cX12_mayNot 23 = .ok (.aload_n 0, 1) := by decide +kernel
theorem dX12_mayNot_24 : decode cX12_mayNot 24 = .ok (.getfield 39, 3) := by decide +kernel
theorem dX12_mayNot_27 : decode cX12_mayNot 27 = .ok (.aload_n 0, 1) := by decide +kernel
theorem dX12_mayNot_28 : decode cX12_mayNot 28 = .ok (.getfield 254, 3) := by decide +kernel
theorem dX12_mayNot_31 : decode cX12_mayNot 31 = .ok (.iconst 1, 1) := by decide +kernel
theorem dX12_mayNot_32 : decode cX12_mayNot 32 = .ok (.isub, 1) := by decide +kernel
theorem dX12_mayNot_33 : decode cX12_mayNot 33 = .ok (.iaload, 1) := by decide +kernel
theorem dX12_mayNot_34 : decode cX12_mayNot 34 = .ok (.invokestatic 257, 3) := by decide +kernel
theorem dX12_mayNot_37 : decode cX12_mayNot 37 = .ok (.iconst 4, 1) := by decide +kernel
theorem dX12_mayNot_38 : decode cX12_mayNot 38 = .ok (.if_icmp .ge 7, 3) := by decide +kernel
theorem dX12_mayNot_41 : decode cX12_mayNot 41 = .ok (.iconst 1, 1) := by decide +kernel
theorem dX12_mayNot_42 : decode cX12_mayNot 42 = .ok (.goto 4, 3) := by decide +kernel
theorem dX12_mayNot_45 : decode cX12_mayNot 45 = .ok (.iconst 0, 1) := by decide +kernel
theorem dX12_mayNot_46 : decode cX12_mayNot 46 = .ok (.ireturn, 1) := by decide +kernel
theorem dX12_asked_0 : decode cX12_asked 0 = .ok (.aload_n 0, 1) := by decide +kernel
theorem dX12_asked_1 : decode cX12_asked 1 = .ok (.getfield 169, 3) := by decide +kernel
theorem dX12_asked_4 : decode cX12_asked 4 = .ok (.iconst 1, 1) := by decide +kernel
theorem dX12_asked_5 : decode cX12_asked 5 = .ok (.if_icmp .eq 5, 3) := by decide +kernel
theorem dX12_asked_8 : decode cX12_asked 8 = .ok (.iconst (-1), 1) := by decide +kernel
theorem dX12_asked_9 : decode cX12_asked 9 = .ok (.ireturn, 1) := by decide +kernel
theorem dX12_asked_10 : decode cX12_asked 10 = .ok (.aload_n 0, 1) := by decide +kernel
theorem dX12_asked_11 : decode cX12_asked 11 = .ok (.getfield 162, 3) := by decide +kernel
theorem dX12_asked_14 : decode cX12_asked 14 = .ok (.ldc2_w 185, 3) := by decide +kernel
theorem dX12_asked_17 : decode cX12_asked 17 = .ok (.lcmp, 1) := by decide +kernel
theorem dX12_asked_18 : decode cX12_asked 18 = .ok (.ifCond .ne 5, 3) := by decide +kernel
theorem dX12_asked_21 : decode cX12_asked 21 = .ok (.iconst 0, 1) := by decide +kernel
theorem dX12_asked_22 : decode cX12_asked 22 = .ok (.ireturn, 1) := by decide +kernel
theorem dX12_asked_23 : decode cX12_asked 23 = .ok (.aload_n 0, 1) := by decide +kernel
theorem dX12_asked_24 : decode cX12_asked 24 = .ok (.getfield 162, 3) := by decide +kernel
theorem dX12_asked_27 : decode cX12_asked 27 = .ok (.ldc2_w 195, 3) := by decide +kernel
theorem dX12_asked_30 : decode cX12_asked 30 = .ok (.lcmp, 1) := by decide +kernel
theorem dX12_asked_31 : decode cX12_asked 31 = .ok (.ifCond .ne 5, 3) := by decide +kernel
theorem dX12_asked_34 : decode cX12_asked 34 = .ok (.iconst 1, 1) := by decide +kernel
theorem dX12_asked_35 : decode cX12_asked 35 = .ok (.ireturn, 1) := by decide +kernel
theorem dX12_asked_36 : decode cX12_asked 36 = .ok (.aload_n 0, 1) := by decide +kernel
theorem dX12_asked_37 : decode cX12_asked 37 = .ok (.getfield 162, 3) := by decide +kernel
theorem dX12_asked_40 : decode cX12_asked 40 = .ok (.ldc2_w 207, 3) := by decide +kernel
theorem dX12_asked_43 : decode cX12_asked 43 = .ok (.lcmp, 1) := by decide +kernel
theorem dX12_asked_44 : decode cX12_asked 44 = .ok (.ifCond .ne 5, 3) := by decide +kernel
theorem dX12_asked_47 : decode cX12_asked 47 = .ok (.iconst 2, 1) := by decide +kernel
theorem dX12_asked_48 : decode cX12_asked 48 = .ok (.ireturn, 1) := by decide +kernel
theorem dX12_asked_49 : decode cX12_asked 49 = .ok (.aload_n 0, 1) := by decide +kernel
theorem dX12_asked_50 : decode cX12_asked 50 = .ok (.getfield 162, 3) := by decide +kernel
theorem dX12_asked_53 : decode cX12_asked 53 = .ok (.ldc2_w 209, 3) := by decide +kernel
theorem dX12_asked_56 : decode cX12_asked 56 = .ok (.lcmp, 1) := by decide +kernel
theorem dX12_asked_57 : decode cX12_asked 57 = .ok (.ifCond .ne 5, 3) := by decide +kernel
theorem dX12_asked_60 : decode cX12_asked 60 = .ok (.iconst 3, 1) := by decide +kernel
theorem dX12_asked_61 : decode cX12_asked 61 = .ok (.ireturn, 1) := by decide +kernel
theorem dX12_asked_62 : decode cX12_asked 62 = .ok (.aload_n 0, 1) := by decide +kernel
theorem dX12_asked_63 : decode cX12_asked 63 = .ok (.getfield 162, 3) := by decide +kernel
theorem dX12_asked_66 : decode cX12_asked 66 = .ok (.ldc2_w 211, 3) := by decide +kernel
theorem dX12_asked_69 : decode cX12_asked 69 = .ok (.lcmp, 1) := by decide +kernel
theorem dX12_asked_70 : decode cX12_asked 70 = .ok (.ifCond .ne 5, 3) := by decide +kernel
theorem dX12_asked_73 : decode cX12_asked 73 = .ok (.iconst 4, 1) := by decide +kernel
theorem dX12_asked_74 : decode cX12_asked 74 = .ok (.ireturn, 1) := by decide +kernel
theorem dX12_asked_75 : decode cX12_asked 75 = .ok (.aload_n 0, 1) := by decide +kernel
theorem dX12_asked_76 : decode cX12_asked 76 = .ok (.getfield 162, 3) := by decide +kernel
theorem dX12_asked_79 : decode cX12_asked 79 = .ok (.ldc2_w 187, 3) := by decide +kernel
theorem dX12_asked_82 : decode cX12_asked 82 = .ok (.lcmp, 1) := by decide +kernel
theorem dX12_asked_83 : decode cX12_asked 83 = .ok (.ifCond .ne 7, 3) := by decide +kernel
theorem dX12_asked_86 : decode cX12_asked 86 = .ok (.iconst 5, 1) := by decide +kernel
theorem dX12_asked_87 : decode cX12_asked 87 = .ok (.goto 4, 3) := by decide +kernel
theorem dX12_asked_90 : decode cX12_asked 90 = .ok (.iconst (-1), 1) := by decide +kernel
theorem dX12_asked_91 : decode cX12_asked 91 = .ok (.ireturn, 1) := by decide +kernel
theorem dX12_isFull_0 : decode cX12_isFull 0 = .ok (.aload_n 0, 1) := by decide +kernel
theorem dX12_isFull_1 : decode cX12_isFull 1 = .ok (.getfield 267, 3) := by decide +kernel
theorem dX12_isFull_4 : decode cX12_isFull 4 = .ok (.bipush 60, 2) := by decide +kernel
theorem dX12_isFull_6 : decode cX12_isFull 6 = .ok (.if_icmp .eq 12, 3) := by decide +kernel
theorem dX12_isFull_9 : decode cX12_isFull 9 = .ok (.aload_n 0, 1) := by decide +kernel
theorem dX12_isFull_10 : decode cX12_isFull 10 = .ok (.getfield 270, 3) := by decide +kernel
theorem dX12_isFull_13 : decode cX12_isFull 13 = .ok (.bipush 30, 2) := by decide +kernel
theorem dX12_isFull_15 : decode cX12_isFull 15 = .ok (.if_icmp .ne 7, 3) := by decide +kernel
theorem dX12_isFull_18 : decode cX12_isFull 18 = .ok (.iconst 1, 1) := by decide +kernel
theorem dX12_isFull_19 : decode cX12_isFull 19 = .ok (.goto 4, 3) := by decide +kernel
theorem dX12_isFull_22 : decode cX12_isFull 22 = .ok (.iconst 0, 1) := by decide +kernel
theorem dX12_isFull_23 : decode cX12_isFull 23 = .ok (.ireturn, 1) := by decide +kernel
theorem dX12_countUnit_0 : decode cX12_countUnit 0 = .ok (.aload_n 0, 1) := by decide +kernel
theorem dX12_countUnit_1 : decode cX12_countUnit 1 = .ok (.dup, 1) := by decide +kernel
theorem dX12_countUnit_2 : decode cX12_countUnit 2 = .ok (.getfield 267, 3) := by decide +kernel
theorem dX12_countUnit_5 : decode cX12_countUnit 5 = .ok (.iconst 1, 1) := by decide +kernel
theorem dX12_countUnit_6 : decode cX12_countUnit 6 = .ok (.iadd, 1) := by decide +kernel
theorem dX12_countUnit_7 : decode cX12_countUnit 7 = .ok (.putfield 267, 3) := by decide +kernel
theorem dX12_countUnit_10 : decode cX12_countUnit 10 = .ok (.aload_n 0, 1) := by decide +kernel
theorem dX12_countUnit_11 : decode cX12_countUnit 11 = .ok (.dup, 1) := by decide +kernel
theorem dX12_countUnit_12 : decode cX12_countUnit 12 = .ok (.getfield 270, 3) := by decide +kernel
theorem dX12_countUnit_15 : decode cX12_countUnit 15 = .ok (.iconst 1, 1) := by decide +kernel
theorem dX12_countUnit_16 : decode cX12_countUnit 16 = .ok (.iadd, 1) := by decide +kernel
theorem dX12_countUnit_17 : decode cX12_countUnit 17 = .ok (.putfield 270, 3) := by decide +kernel
theorem dX12_countUnit_20 : decode cX12_countUnit 20 = .ok (.return_, 1) := by decide +kernel
theorem dX12_openUp_0 : decode cX12_openUp 0 = .ok (.aload_n 0, 1) := by decide +kernel
theorem dX12_openUp_1 : decode cX12_openUp 1 = .ok (.getfield 39, 3) := by decide +kernel
theorem dX12_openUp_4 : decode cX12_openUp 4 = .ok (.aload_n 0, 1) := by decide +kernel
theorem dX12_openUp_5 : decode cX12_openUp 5 = .ok (.getfield 254, 3) := by decide +kernel
theorem dX12_openUp_8 : decode cX12_openUp 8 = .ok (.iload_n 1, 1) := by decide +kernel
theorem dX12_openUp_9 : decode cX12_openUp 9 = .ok (.iastore, 1) := by decide +kernel
theorem dX12_openUp_10 : decode cX12_openUp 10 = .ok (.aload_n 0, 1) := by decide +kernel
theorem dX12_openUp_11 : decode cX12_openUp 11 = .ok (.dup, 1) := by decide +kernel
theorem dX12_openUp_12 : decode cX12_openUp 12 = .ok (.getfield 254, 3) := by decide +kernel
theorem dX12_openUp_15 : decode cX12_openUp 15 = .ok (.iconst 1, 1) := by decide +kernel
theorem dX12_openUp_16 : decode cX12_openUp 16 = .ok (.iadd, 1) := by decide +kernel
theorem dX12_openUp_17 : decode cX12_openUp 17 = .ok (.putfield 254, 3) := by decide +kernel
theorem dX12_openUp_20 : decode cX12_openUp 20 = .ok (.aload_n 0, 1) := by decide +kernel
theorem dX12_openUp_21 : decode cX12_openUp 21 = .ok (.dup, 1) := by decide +kernel
theorem dX12_openUp_22 : decode cX12_openUp 22 = .ok (.getfield 264, 3) := by decide +kernel
theorem dX12_openUp_25 : decode cX12_openUp 25 = .ok (.iconst 1, 1) := by decide +kernel
theorem dX12_openUp_26 : decode cX12_openUp 26 = .ok (.iadd, 1) := by decide +kernel
theorem dX12_openUp_27 : decode cX12_openUp 27 = .ok (.putfield 264, 3) := by decide +kernel
theorem dX12_openUp_30 : decode cX12_openUp 30 = .ok (.aload_n 0, 1) := by decide +kernel
theorem dX12_openUp_31 : decode cX12_openUp 31 = .ok (.getfield 182, 3) := by decide +kernel
theorem dX12_openUp_34 : decode cX12_openUp 34 = .ok (.ifCond .ne 7, 3) := by decide +kernel
theorem dX12_openUp_37 : decode cX12_openUp 37 = .ok (.aload_n 0, 1) := by decide +kernel
theorem dX12_openUp_38 : decode cX12_openUp 38 = .ok (.invokevirtual 230, 3) := by decide +kernel
theorem dX12_openUp_41 : decode cX12_openUp 41 = .ok (.return_, 1) := by decide +kernel
theorem dX12_unit_0 : decode cX12_unit 0 = .ok (.iconst 1, 1) := by decide +kernel
theorem dX12_unit_1 : decode cX12_unit 1 = .ok (.istore_n 1, 1) := by decide +kernel
theorem dX12_unit_2 : decode cX12_unit 2 = .ok (.iload_n 1, 1) := by decide +kernel
theorem dX12_unit_3 : decode cX12_unit 3 = .ok (.ifCond .eq 98, 3) := by decide +kernel
theorem dX12_unit_6 : decode cX12_unit 6 = .ok (.aload_n 0, 1) := by decide +kernel
theorem dX12_unit_7 : decode cX12_unit 7 = .ok (.getfield 182, 3) := by decide +kernel
theorem dX12_unit_10 : decode cX12_unit 10 = .ok (.ifCond .ne 91, 3) := by decide +kernel
theorem dX12_unit_13 : decode cX12_unit 13 = .ok (.aload_n 0, 1) := by decide +kernel
theorem dX12_unit_14 : decode cX12_unit 14 = .ok (.ldc2_w 217, 3) := by decide +kernel
theorem dX12_unit_17 : decode cX12_unit 17 = .ok (.invokevirtual 223, 3) := by decide +kernel
theorem dX12_unit_20 : decode cX12_unit 20 = .ok (.ifCond .eq 33, 3) := by decide +kernel
theorem dX12_unit_23 : decode cX12_unit 23 = .ok (.aload_n 0, 1) := by decide +kernel
theorem dX12_unit_24 : decode cX12_unit 24 = .ok (.invokevirtual 273, 3) := by decide +kernel
theorem dX12_unit_27 : decode cX12_unit 27 = .ok (.ifCond .eq 26, 3) := by decide +kernel
theorem dX12_unit_30 : decode cX12_unit 30 = .ok (.aload_n 0, 1) := by decide +kernel
theorem dX12_unit_31 : decode cX12_unit 31 = .ok (.getfield 264, 3) := by decide +kernel
theorem dX12_unit_34 : decode cX12_unit 34 = .ok (.bipush 6, 2) := by decide +kernel
theorem dX12_unit_36 : decode cX12_unit 36 = .ok (.if_icmp .le 8, 3) := by decide +kernel
theorem dX12_unit_39 : decode cX12_unit 39 = .ok (.aload_n 0, 1) := by decide +kernel
theorem dX12_unit_40 : decode cX12_unit 40 = .ok (.iconst 2, 1) := by decide +kernel
theorem dX12_unit_41 : decode cX12_unit 41 = .ok (.invokevirtual 227, 3) := by decide +kernel
theorem dX12_unit_44 : decode cX12_unit 44 = .ok (.aload_n 0, 1) := by decide +kernel
theorem dX12_unit_45 : decode cX12_unit 45 = .ok (.bipush 21, 2) := by decide +kernel
theorem dX12_unit_47 : decode cX12_unit 47 = .ok (.invokevirtual 276, 3) := by decide +kernel
theorem dX12_unit_50 : decode cX12_unit 50 = .ok (.goto (-48), 3) := by decide +kernel
theorem dX12_unit_53 : decode cX12_unit 53 = .ok (.aload_n 0, 1) := by decide +kernel
theorem dX12_unit_54 : decode cX12_unit 54 = .ok (.getfield 169, 3) := by decide +kernel
theorem dX12_unit_57 : decode cX12_unit 57 = .ok (.bipush 40, 2) := by decide +kernel
theorem dX12_unit_59 : decode cX12_unit 59 = .ok (.if_icmp .ne 37, 3) := by decide +kernel
theorem dX12_unit_62 : decode cX12_unit 62 = .ok (.aload_n 0, 1) := by decide +kernel
theorem dX12_unit_63 : decode cX12_unit 63 = .ok (.invokevirtual 279, 3) := by decide +kernel
theorem dX12_unit_66 : decode cX12_unit 66 = .ok (.ifCond .ne 12, 3) := by decide +kernel
theorem dX12_unit_69 : decode cX12_unit 69 = .ok (.aload_n 0, 1) := by decide +kernel
theorem dX12_unit_70 : decode cX12_unit 70 = .ok (.getfield 264, 3) := by decide +kernel
theorem dX12_unit_73 : decode cX12_unit 73 = .ok (.bipush 6, 2) := by decide +kernel
theorem dX12_unit_75 : decode cX12_unit 75 = .ok (.if_icmp .le 8, 3) := by decide +kernel
theorem dX12_unit_78 : decode cX12_unit 78 = .ok (.aload_n 0, 1) := by decide +kernel
theorem dX12_unit_79 : decode cX12_unit 79 = .ok (.iconst 2, 1) := by decide +kernel
theorem dX12_unit_80 : decode cX12_unit 80 = .ok (.invokevirtual 227, 3) := by decide +kernel
theorem dX12_unit_83 : decode cX12_unit 83 = .ok (.aload_n 0, 1) := by decide +kernel
theorem dX12_unit_84 : decode cX12_unit 84 = .ok (.invokevirtual 282, 3) := by decide +kernel
theorem dX12_unit_87 : decode cX12_unit 87 = .ok (.aload_n 0, 1) := by decide +kernel
theorem dX12_unit_88 : decode cX12_unit 88 = .ok (.bipush 20, 2) := by decide +kernel
theorem dX12_unit_90 : decode cX12_unit 90 = .ok (.invokevirtual 276, 3) := by decide +kernel
theorem dX12_unit_93 : decode cX12_unit 93 = .ok (.goto (-91), 3) := by decide +kernel
theorem dX12_unit_96 : decode cX12_unit 96 = .ok (.iconst 0, 1) := by decide +kernel
theorem dX12_unit_97 : decode cX12_unit 97 = .ok (.istore_n 1, 1) := by decide +kernel
theorem dX12_unit_98 : decode cX12_unit 98 = .ok (.goto (-96), 3) := by decide +kernel
theorem dX12_unit_101 : decode cX12_unit 101 = .ok (.aload_n 0, 1) := by decide +kernel
theorem dX12_unit_102 : decode cX12_unit 102 = .ok (.getfield 182, 3) := by decide +kernel
theorem dX12_unit_105 : decode cX12_unit 105 = .ok (.ifCond .le 4, 3) := by decide +kernel
theorem dX12_unit_108 : decode cX12_unit 108 = .ok (.return_, 1) := by decide +kernel
theorem dX12_unit_109 : decode cX12_unit 109 = .ok (.aload_n 0, 1) := by decide +kernel
theorem dX12_unit_110 : decode cX12_unit 110 = .ok (.invokevirtual 285, 3) := by decide +kernel
theorem dX12_unit_113 : decode cX12_unit 113 = .ok (.istore_n 2, 1) := by decide +kernel
theorem dX12_unit_114 : decode cX12_unit 114 = .ok (.aload_n 0, 1) := by decide +kernel
theorem dX12_unit_115 : decode cX12_unit 115 = .ok (.getfield 169, 3) := by decide +kernel
theorem dX12_unit_118 : decode cX12_unit 118 = .ok (.iconst 2, 1) := by decide +kernel
theorem dX12_unit_119 : decode cX12_unit 119 = .ok (.if_icmp .eq 7, 3) := by decide +kernel
theorem dX12_unit_122 : decode cX12_unit 122 = .ok (.iload_n 2, 1) := by decide +kernel
theorem dX12_unit_123 : decode cX12_unit 123 = .ok (.ifCond .lt 10, 3) := by decide +kernel
theorem dX12_unit_126 : decode cX12_unit 126 = .ok (.aload_n 0, 1) := by decide +kernel
theorem dX12_unit_127 : decode cX12_unit 127 = .ok (.invokevirtual 279, 3) := by decide +kernel
theorem dX12_unit_130 : decode cX12_unit 130 = .ok (.ifCond .eq 8, 3) := by decide +kernel
theorem dX12_unit_133 : decode cX12_unit 133 = .ok (.aload_n 0, 1) := by decide +kernel
theorem dX12_unit_134 : decode cX12_unit 134 = .ok (.iconst 2, 1) := by decide +kernel
theorem dX12_unit_135 : decode cX12_unit 135 = .ok (.invokevirtual 227, 3) := by decide +kernel
theorem dX12_unit_138 : decode cX12_unit 138 = .ok (.aload_n 0, 1) := by decide +kernel
theorem dX12_unit_139 : decode cX12_unit 139 = .ok (.getfield 182, 3) := by decide +kernel
theorem dX12_unit_142 : decode cX12_unit 142 = .ok (.ifCond .le 4, 3) := by decide +kernel
theorem dX12_unit_145 : decode cX12_unit 145 = .ok (.return_, 1) := by decide +kernel
theorem dX12_unit_146 : decode cX12_unit 146 = .ok (.aload_n 0, 1) := by decide +kernel
theorem dX12_unit_147 : decode cX12_unit 147 = .ok (.invokevirtual 282, 3) := by decide +kernel
theorem dX12_unit_150 : decode cX12_unit 150 = .ok (.aload_n 0, 1) := by decide +kernel
theorem dX12_unit_151 : decode cX12_unit 151 = .ok (.iload_n 2, 1) := by decide +kernel
theorem dX12_unit_152 : decode cX12_unit 152 = .ok (.ifCond .ge 7, 3) := by decide +kernel
theorem dX12_unit_155 : decode cX12_unit 155 = .ok (.iconst 0, 1) := by decide +kernel
theorem dX12_unit_156 : decode cX12_unit 156 = .ok (.goto 4, 3) := by decide +kernel
theorem dX12_unit_159 : decode cX12_unit 159 = .ok (.iconst 1, 1) := by decide +kernel
theorem dX12_unit_160 : decode cX12_unit 160 = .ok (.iload_n 2, 1) := by decide +kernel
theorem dX12_unit_161 : decode cX12_unit 161 = .ok (.ifCond .ge 10, 3) := by decide +kernel
theorem dX12_unit_164 : decode cX12_unit 164 = .ok (.aload_n 0, 1) := by decide +kernel
theorem dX12_unit_165 : decode cX12_unit 165 = .ok (.getfield 166, 3) := by decide +kernel
theorem dX12_unit_168 : decode cX12_unit 168 = .ok (.goto 4, 3) := by decide +kernel
theorem dX12_unit_171 : decode cX12_unit 171 = .ok (.iload_n 2, 1) := by decide +kernel
theorem dX12_unit_172 : decode cX12_unit 172 = .ok (.invokevirtual 260, 3) := by decide +kernel
theorem dX12_unit_175 : decode cX12_unit 175 = .ok (.aload_n 0, 1) := by decide +kernel
theorem dX12_unit_176 : decode cX12_unit 176 = .ok (.invokevirtual 230, 3) := by decide +kernel
theorem dX12_unit_179 : decode cX12_unit 179 = .ok (.return_, 1) := by decide +kernel
theorem dX12_sign_0 : decode cX12_sign 0 = .ok (.aload_n 0, 1) := by decide +kernel
theorem dX12_sign_1 : decode cX12_sign 1 = .ok (.ldc2_w 213, 3) := by decide +kernel
theorem dX12_sign_4 : decode cX12_sign 4 = .ok (.invokevirtual 223, 3) := by decide +kernel
theorem dX12_sign_7 : decode cX12_sign 7 = .ok (.ifCond .eq 6, 3) := by decide +kernel
theorem dX12_sign_10 : decode cX12_sign 10 = .ok (.bipush 38, 2) := by decide +kernel
theorem dX12_sign_12 : decode cX12_sign 12 = .ok (.ireturn, 1) := by decide +kernel
theorem dX12_sign_13 : decode cX12_sign 13 = .ok (.aload_n 0, 1) := by decide +kernel
theorem dX12_sign_14 : decode cX12_sign 14 = .ok (.ldc2_w 215, 3) := by decide +kernel
theorem dX12_sign_17 : decode cX12_sign 17 = .ok (.invokevirtual 223, 3) := by decide +kernel
theorem dX12_sign_20 : decode cX12_sign 20 = .ok (.ifCond .eq 6, 3) := by decide +kernel
theorem dX12_sign_23 : decode cX12_sign 23 = .ok (.bipush 124, 2) := by decide +kernel
theorem dX12_sign_25 : decode cX12_sign 25 = .ok (.ireturn, 1) := by decide +kernel
theorem dX12_sign_26 : decode cX12_sign 26 = .ok (.aload_n 0, 1) := by decide +kernel
theorem dX12_sign_27 : decode cX12_sign 27 = .ok (.getfield 169, 3) := by decide +kernel
theorem dX12_sign_30 : decode cX12_sign 30 = .ok (.bipush 60, 2) := by decide +kernel
theorem dX12_sign_32 : decode cX12_sign 32 = .ok (.if_icmp .eq 66, 3) := by decide +kernel
theorem dX12_sign_35 : decode cX12_sign 35 = .ok (.aload_n 0, 1) := by decide +kernel
theorem dX12_sign_36 : decode cX12_sign 36 = .ok (.getfield 169, 3) := by decide +kernel
theorem dX12_sign_39 : decode cX12_sign 39 = .ok (.bipush 62, 2) := by decide +kernel
theorem dX12_sign_41 : decode cX12_sign 41 = .ok (.if_icmp .eq 57, 3) := by decide +kernel
theorem dX12_sign_44 : decode cX12_sign 44 = .ok (.aload_n 0, 1) := by decide +kernel
theorem dX12_sign_45 : decode cX12_sign 45 = .ok (.getfield 169, 3) := by decide +kernel
theorem dX12_sign_48 : decode cX12_sign 48 = .ok (.bipush 61, 2) := by decide +kernel
theorem dX12_sign_50 : decode cX12_sign 50 = .ok (.if_icmp .eq 48, 3) := by decide +kernel
theorem dX12_sign_53 : decode cX12_sign 53 = .ok (.aload_n 0, 1) := by decide +kernel
theorem dX12_sign_54 : decode cX12_sign 54 = .ok (.getfield 169, 3) := by decide +kernel
theorem dX12_sign_57 : decode cX12_sign 57 = .ok (.bipush 43, 2) := by decide +kernel
theorem dX12_sign_59 : decode cX12_sign 59 = .ok (.if_icmp .eq 39, 3) := by decide +kernel
theorem dX12_sign_62 : decode cX12_sign 62 = .ok (.aload_n 0, 1) := by decide +kernel
theorem dX12_sign_63 : decode cX12_sign 63 = .ok (.getfield 169, 3) := by decide +kernel
theorem dX12_sign_66 : decode cX12_sign 66 = .ok (.bipush 45, 2) := by decide +kernel
theorem dX12_sign_68 : decode cX12_sign 68 = .ok (.if_icmp .eq 30, 3) := by decide +kernel
theorem dX12_sign_71 : decode cX12_sign 71 = .ok (.aload_n 0, 1) := by decide +kernel
theorem dX12_sign_72 : decode cX12_sign 72 = .ok (.getfield 169, 3) := by decide +kernel
theorem dX12_sign_75 : decode cX12_sign 75 = .ok (.bipush 42, 2) := by decide +kernel
theorem dX12_sign_77 : decode cX12_sign 77 = .ok (.if_icmp .eq 21, 3) := by decide +kernel
theorem dX12_sign_80 : decode cX12_sign 80 = .ok (.aload_n 0, 1) := by decide +kernel
theorem dX12_sign_81 : decode cX12_sign 81 = .ok (.getfield 169, 3) := by decide +kernel
theorem dX12_sign_84 : decode cX12_sign 84 = .ok (.bipush 47, 2) := by decide +kernel
theorem dX12_sign_86 : decode cX12_sign 86 = .ok (.if_icmp .eq 12, 3) := by decide +kernel
theorem dX12_sign_89 : decode cX12_sign 89 = .ok (.aload_n 0, 1) := by decide +kernel
theorem dX12_sign_90 : decode cX12_sign 90 = .ok (.getfield 169, 3) := by decide +kernel
theorem dX12_sign_93 : decode cX12_sign 93 = .ok (.bipush 37, 2) := by decide +kernel
theorem dX12_sign_95 : decode cX12_sign 95 = .ok (.if_icmp .ne 10, 3) := by decide +kernel
theorem dX12_sign_98 : decode cX12_sign 98 = .ok (.aload_n 0, 1) := by decide +kernel
theorem dX12_sign_99 : decode cX12_sign 99 = .ok (.getfield 169, 3) := by decide +kernel
theorem dX12_sign_102 : decode cX12_sign 102 = .ok (.goto 4, 3) := by decide +kernel
theorem dX12_sign_105 : decode cX12_sign 105 = .ok (.iconst 0, 1) := by decide +kernel
theorem dX12_sign_106 : decode cX12_sign 106 = .ok (.ireturn, 1) := by decide +kernel
theorem dX12_hasBracket_0 : decode cX12_hasBracket 0 = .ok (.iconst 0, 1) := by decide +kernel
theorem dX12_hasBracket_1 : decode cX12_hasBracket 1 = .ok (.istore_n 1, 1) := by decide +kernel
theorem dX12_hasBracket_2 : decode cX12_hasBracket 2 = .ok (.iconst 0, 1) := by decide +kernel
theorem dX12_hasBracket_3 : decode cX12_hasBracket 3 = .ok (.istore_n 2, 1) := by decide +kernel
theorem dX12_hasBracket_4 : decode cX12_hasBracket 4 = .ok (.iload_n 2, 1) := by decide +kernel
theorem dX12_hasBracket_5 : decode cX12_hasBracket 5 = .ok (.aload_n 0, 1) := by decide +kernel
theorem dX12_hasBracket_6 : decode cX12_hasBracket 6 = .ok (.getfield 254, 3) := by decide +kernel
theorem dX12_hasBracket_9 : decode cX12_hasBracket 9 = .ok (.if_icmp .ge 30, 3) := by decide +kernel
theorem dX12_hasBracket_12 : decode cX12_hasBracket 12 = .ok (.iload_n 1, 1) := by decide +kernel
theorem dX12_hasBracket_13 : decode cX12_hasBracket 13 = .ok (.ifCond .ne 14, 3) := by decide +kernel
theorem dX12_hasBracket_16 : decode cX12_hasBracket 16 = .ok (.aload_n 0, 1) := by decide +kernel
theorem dX12_hasBracket_17 : decode cX12_hasBracket 17 = .ok (.getfield 39, 3) := by decide +kernel
theorem dX12_hasBracket_20 : decode cX12_hasBracket 20 = .ok (.iload_n 2, 1) := by decide +kernel
theorem dX12_hasBracket_21 : decode cX12_hasBracket 21 = .ok (.iaload, 1) := by decide +kernel
theorem dX12_hasBracket_22 : decode cX12_hasBracket 22 = .ok (.bipush 20, 2) := by decide +kernel
theorem dX12_hasBracket_24 : decode cX12_hasBracket 24 = .ok (.if_icmp .ne 7, 3) := by decide +kernel
theorem dX12_hasBracket_27 : decode cX12_hasBracket 27 = .ok (.iconst 1, 1) := by decide +kernel
theorem dX12_hasBracket_28 : decode cX12_hasBracket 28 = .ok (.goto 4, 3) := by decide +kernel
theorem dX12_hasBracket_31 : decode cX12_hasBracket 31 = .ok (.iconst 0, 1) := by decide +kernel
theorem dX12_hasBracket_32 : decode cX12_hasBracket 32 = .ok (.istore_n 1, 1) := by decide +kernel
theorem dX12_hasBracket_33 : decode cX12_hasBracket 33 = .ok (.iinc 2 1, 3) := by decide +kernel
theorem dX12_hasBracket_36 : decode cX12_hasBracket 36 = .ok (.goto (-32), 3) := by decide +kernel
theorem dX12_hasBracket_39 : decode cX12_hasBracket 39 = .ok (.iload_n 1, 1) := by decide +kernel
theorem dX12_hasBracket_40 : decode cX12_hasBracket 40 = .ok (.ireturn, 1) := by decide +kernel
theorem dX12_formula_0 : decode cX12_formula 0 = .ok (.aload_n 0, 1) := by decide +kernel
theorem dX12_formula_1 : decode cX12_formula 1 = .ok (.invokevirtual 230, 3) := by decide +kernel
theorem dX12_formula_4 : decode cX12_formula 4 = .ok (.aload_n 0, 1) := by decide +kernel
theorem dX12_formula_5 : decode cX12_formula 5 = .ok (.iload_n 1, 1) := by decide +kernel
theorem dX12_formula_6 : decode cX12_formula 6 = .ok (.putfield 251, 3) := by decide +kernel
theorem dX12_formula_9 : decode cX12_formula 9 = .ok (.aload_n 0, 1) := by decide +kernel
theorem dX12_formula_10 : decode cX12_formula 10 = .ok (.getfield 45, 3) := by decide +kernel
theorem dX12_formula_13 : decode cX12_formula 13 = .ok (.aload_n 0, 1) := by decide +kernel
theorem dX12_formula_14 : decode cX12_formula 14 = .ok (.getfield 251, 3) := by decide +kernel
theorem dX12_formula_17 : decode cX12_formula 17 = .ok (.iconst 1, 1) := by decide +kernel
theorem dX12_formula_18 : decode cX12_formula 18 = .ok (.bastore, 1) := by decide +kernel
theorem dX12_formula_19 : decode cX12_formula 19 = .ok (.aload_n 0, 1) := by decide +kernel
theorem dX12_formula_20 : decode cX12_formula 20 = .ok (.getfield 27, 3) := by decide +kernel
theorem dX12_formula_23 : decode cX12_formula 23 = .ok (.aload_n 0, 1) := by decide +kernel
theorem dX12_formula_24 : decode cX12_formula 24 = .ok (.getfield 251, 3) := by decide +kernel
theorem dX12_formula_27 : decode cX12_formula 27 = .ok (.iconst 0, 1) := by decide +kernel
theorem dX12_formula_28 : decode cX12_formula 28 = .ok (.iastore, 1) := by decide +kernel
theorem dX12_formula_29 : decode cX12_formula 29 = .ok (.aload_n 0, 1) := by decide +kernel
theorem dX12_formula_30 : decode cX12_formula 30 = .ok (.iconst 0, 1) := by decide +kernel
theorem dX12_formula_31 : decode cX12_formula 31 = .ok (.putfield 254, 3) := by decide +kernel
theorem dX12_formula_34 : decode cX12_formula 34 = .ok (.aload_n 0, 1) := by decide +kernel
theorem dX12_formula_35 : decode cX12_formula 35 = .ok (.iconst 0, 1) := by decide +kernel
theorem dX12_formula_36 : decode cX12_formula 36 = .ok (.putfield 264, 3) := by decide +kernel
theorem dX12_formula_39 : decode cX12_formula 39 = .ok (.aload_n 0, 1) := by decide +kernel
theorem dX12_formula_40 : decode cX12_formula 40 = .ok (.iconst 0, 1) := by decide +kernel
theorem dX12_formula_41 : decode cX12_formula 41 = .ok (.putfield 270, 3) := by decide +kernel
theorem dX12_formula_44 : decode cX12_formula 44 = .ok (.aload_n 0, 1) := by decide +kernel
theorem dX12_formula_45 : decode cX12_formula 45 = .ok (.invokevirtual 289, 3) := by decide +kernel
theorem dX12_formula_48 : decode cX12_formula 48 = .ok (.iconst 1, 1) := by decide +kernel
theorem dX12_formula_49 : decode cX12_formula 49 = .ok (.istore_n 2, 1) := by decide +kernel
theorem dX12_formula_50 : decode cX12_formula 50 = .ok (.iload_n 2, 1) := by decide +kernel
theorem dX12_formula_51 : decode cX12_formula 51 = .ok (.ifCond .eq 126, 3) := by decide +kernel
theorem dX12_formula_54 : decode cX12_formula 54 = .ok (.aload_n 0, 1) := by decide +kernel
theorem dX12_formula_55 : decode cX12_formula 55 = .ok (.getfield 182, 3) := by decide +kernel
theorem dX12_formula_58 : decode cX12_formula 58 = .ok (.ifCond .ne 119, 3) := by decide +kernel
theorem dX12_formula_61 : decode cX12_formula 61 = .ok (.aload_n 0, 1) := by decide +kernel
theorem dX12_formula_62 : decode cX12_formula 62 = .ok (.invokevirtual 292, 3) := by decide +kernel
theorem dX12_formula_65 : decode cX12_formula 65 = .ok (.istore_n 3, 1) := by decide +kernel
theorem dX12_formula_66 : decode cX12_formula 66 = .ok (.aload_n 0, 1) := by decide +kernel
theorem dX12_formula_67 : decode cX12_formula 67 = .ok (.getfield 169, 3) := by decide +kernel
theorem dX12_formula_70 : decode cX12_formula 70 = .ok (.bipush 41, 2) := by decide +kernel
theorem dX12_formula_72 : decode cX12_formula 72 = .ok (.if_icmp .ne 42, 3) := by decide +kernel
theorem dX12_formula_75 : decode cX12_formula 75 = .ok (.aload_n 0, 1) := by decide +kernel
theorem dX12_formula_76 : decode cX12_formula 76 = .ok (.invokevirtual 295, 3) := by decide +kernel
theorem dX12_formula_79 : decode cX12_formula 79 = .ok (.ifCond .eq 35, 3) := by decide +kernel
theorem dX12_formula_82 : decode cX12_formula 82 = .ok (.aload_n 0, 1) := by decide +kernel
theorem dX12_formula_83 : decode cX12_formula 83 = .ok (.iconst 0, 1) := by decide +kernel
theorem dX12_formula_84 : decode cX12_formula 84 = .ok (.invokevirtual 298, 3) := by decide +kernel
theorem dX12_formula_87 : decode cX12_formula 87 = .ok (.aload_n 0, 1) := by decide +kernel
theorem dX12_formula_88 : decode cX12_formula 88 = .ok (.dup, 1) := by decide +kernel
theorem dX12_formula_89 : decode cX12_formula 89 = .ok (.getfield 254, 3) := by decide +kernel
theorem dX12_formula_92 : decode cX12_formula 92 = .ok (.iconst 1, 1) := by decide +kernel
theorem dX12_formula_93 : decode cX12_formula 93 = .ok (.isub, 1) := by decide +kernel
theorem dX12_formula_94 : decode cX12_formula 94 = .ok (.putfield 254, 3) := by decide +kernel
theorem dX12_formula_97 : decode cX12_formula 97 = .ok (.aload_n 0, 1) := by decide +kernel
theorem dX12_formula_98 : decode cX12_formula 98 = .ok (.dup, 1) := by decide +kernel
theorem dX12_formula_99 : decode cX12_formula 99 = .ok (.getfield 264, 3) := by decide +kernel
theorem dX12_formula_102 : decode cX12_formula 102 = .ok (.iconst 1, 1) := by decide +kernel
theorem dX12_formula_103 : decode cX12_formula 103 = .ok (.isub, 1) := by decide +kernel
theorem dX12_formula_104 : decode cX12_formula 104 = .ok (.putfield 264, 3) := by decide +kernel
theorem dX12_formula_107 : decode cX12_formula 107 = .ok (.aload_n 0, 1) := by decide +kernel
theorem dX12_formula_108 : decode cX12_formula 108 = .ok (.invokevirtual 230, 3) := by decide +kernel
theorem dX12_formula_111 : decode cX12_formula 111 = .ok (.goto 63, 3) := by decide +kernel
theorem dX12_formula_114 : decode cX12_formula 114 = .ok (.iload_n 3, 1) := by decide +kernel
theorem dX12_formula_115 : decode cX12_formula 115 = .ok (.ifCond .eq 57, 3) := by decide +kernel
theorem dX12_formula_118 : decode cX12_formula 118 = .ok (.iload_n 3, 1) := by decide +kernel
theorem dX12_formula_119 : decode cX12_formula 119 = .ok (.invokestatic 257, 3) := by decide +kernel
theorem dX12_formula_122 : decode cX12_formula 122 = .ok (.iconst 4, 1) := by decide +kernel
theorem dX12_formula_123 : decode cX12_formula 123 = .ok (.if_icmp .ne 10, 3) := by decide +kernel
theorem dX12_formula_126 : decode cX12_formula 126 = .ok (.aload_n 0, 1) := by decide +kernel
theorem dX12_formula_127 : decode cX12_formula 127 = .ok (.invokevirtual 301, 3) := by decide +kernel
theorem dX12_formula_130 : decode cX12_formula 130 = .ok (.ifCond .ne 42, 3) := by decide +kernel
theorem dX12_formula_133 : decode cX12_formula 133 = .ok (.aload_n 0, 1) := by decide +kernel
theorem dX12_formula_134 : decode cX12_formula 134 = .ok (.iload_n 3, 1) := by decide +kernel
theorem dX12_formula_135 : decode cX12_formula 135 = .ok (.invokestatic 257, 3) := by decide +kernel
theorem dX12_formula_138 : decode cX12_formula 138 = .ok (.invokevirtual 298, 3) := by decide +kernel
theorem dX12_formula_141 : decode cX12_formula 141 = .ok (.aload_n 0, 1) := by decide +kernel
theorem dX12_formula_142 : decode cX12_formula 142 = .ok (.getfield 39, 3) := by decide +kernel
theorem dX12_formula_145 : decode cX12_formula 145 = .ok (.aload_n 0, 1) := by decide +kernel
theorem dX12_formula_146 : decode cX12_formula 146 = .ok (.getfield 254, 3) := by decide +kernel
theorem dX12_formula_149 : decode cX12_formula 149 = .ok (.iload_n 3, 1) := by decide +kernel
theorem dX12_formula_150 : decode cX12_formula 150 = .ok (.iastore, 1) := by decide +kernel
theorem dX12_formula_151 : decode cX12_formula 151 = .ok (.aload_n 0, 1) := by decide +kernel
theorem dX12_formula_152 : decode cX12_formula 152 = .ok (.dup, 1) := by decide +kernel
theorem dX12_formula_153 : decode cX12_formula 153 = .ok (.getfield 254, 3) := by decide +kernel
theorem dX12_formula_156 : decode cX12_formula 156 = .ok (.iconst 1, 1) := by decide +kernel
theorem dX12_formula_157 : decode cX12_formula 157 = .ok (.iadd, 1) := by decide +kernel
theorem dX12_formula_158 : decode cX12_formula 158 = .ok (.putfield 254, 3) := by decide +kernel
theorem dX12_formula_161 : decode cX12_formula 161 = .ok (.aload_n 0, 1) := by decide +kernel
theorem dX12_formula_162 : decode cX12_formula 162 = .ok (.invokevirtual 230, 3) := by decide +kernel
theorem dX12_formula_165 : decode cX12_formula 165 = .ok (.aload_n 0, 1) := by decide +kernel
theorem dX12_formula_166 : decode cX12_formula 166 = .ok (.invokevirtual 289, 3) := by decide +kernel
theorem dX12_formula_169 : decode cX12_formula 169 = .ok (.goto 5, 3) := by decide +kernel
theorem dX12_formula_172 : decode cX12_formula 172 = .ok (.iconst 0, 1) := by decide +kernel
theorem dX12_formula_173 : decode cX12_formula 173 = .ok (.istore_n 2, 1) := by decide +kernel
theorem dX12_formula_174 : decode cX12_formula 174 = .ok (.goto (-124), 3) := by decide +kernel
theorem dX12_formula_177 : decode cX12_formula 177 = .ok (.aload_n 0, 1) := by decide +kernel
theorem dX12_formula_178 : decode cX12_formula 178 = .ok (.getfield 182, 3) := by decide +kernel
theorem dX12_formula_181 : decode cX12_formula 181 = .ok (.ifCond .ne 15, 3) := by decide +kernel
theorem dX12_formula_184 : decode cX12_formula 184 = .ok (.aload_n 0, 1) := by decide +kernel
theorem dX12_formula_185 : decode cX12_formula 185 = .ok (.invokevirtual 295, 3) := by decide +kernel
theorem dX12_formula_188 : decode cX12_formula 188 = .ok (.ifCond .eq 8, 3) := by decide +kernel
theorem dX12_formula_191 : decode cX12_formula 191 = .ok (.aload_n 0, 1) := by decide +kernel
theorem dX12_formula_192 : decode cX12_formula 192 = .ok (.iconst 2, 1) := by decide +kernel
theorem dX12_formula_193 : decode cX12_formula 193 = .ok (.invokevirtual 227, 3) := by decide +kernel
theorem dX12_formula_196 : decode cX12_formula 196 = .ok (.aload_n 0, 1) := by decide +kernel
theorem dX12_formula_197 : decode cX12_formula 197 = .ok (.getfield 182, 3) := by decide +kernel
theorem dX12_formula_200 : decode cX12_formula 200 = .ok (.ifCond .ne 8, 3) := by decide +kernel
theorem dX12_formula_203 : decode cX12_formula 203 = .ok (.aload_n 0, 1) := by decide +kernel
theorem dX12_formula_204 : decode cX12_formula 204 = .ok (.iconst 0, 1) := by decide +kernel
theorem dX12_formula_205 : decode cX12_formula 205 = .ok (.invokevirtual 298, 3) := by decide +kernel
theorem dX12_formula_208 : decode cX12_formula 208 = .ok (.return_, 1) := by decide +kernel
theorem dX12_truth_0 : decode cX12_truth 0 = .ok (.iload_n 0, 1) := by decide +kernel
theorem dX12_truth_1 : decode cX12_truth 1 = .ok (.ifCond .eq 7, 3) := by decide +kernel
theorem dX12_truth_4 : decode cX12_truth 4 = .ok (.iconst 1, 1) := by decide +kernel
theorem dX12_truth_5 : decode cX12_truth 5 = .ok (.goto 4, 3) := by decide +kernel
theorem dX12_truth_8 : decode cX12_truth 8 = .ok (.iconst 0, 1) := by decide +kernel
theorem dX12_truth_9 : decode cX12_truth 9 = .ok (.ireturn, 1) := by decide +kernel
theorem dX12_done_0 : decode cX12_done 0 = .ok (.iload_n 0, 1) := by decide +kernel
theorem dX12_done_1 : decode cX12_done 1 = .ok (.tableswitch 214 37 62 #[143, 197, 214, 214, 214, 127, 119, 214, 123, 214, 131, 214, 214, 214, 214, 214, 214, 214, 214, 214, 214, 214, 214, 155, 183, 169], 119) := by decide +kernel
theorem dX12_done_120 : decode cX12_done 120 = .ok (.iload_n 1, 1) := by decide +kernel
theorem dX12_done_121 : decode cX12_done 121 = .ok (.iload_n 2, 1) := by decide +kernel
theorem dX12_done_122 : decode cX12_done 122 = .ok (.iadd, 1) := by decide +kernel
theorem dX12_done_123 : decode cX12_done 123 = .ok (.ireturn, 1) := by decide +kernel
theorem dX12_done_124 : decode cX12_done 124 = .ok (.iload_n 1, 1) := by decide +kernel
theorem dX12_done_125 : decode cX12_done 125 = .ok (.iload_n 2, 1) := by decide +kernel
theorem dX12_done_126 : decode cX12_done 126 = .ok (.isub, 1) := by decide +kernel
theorem dX12_done_127 : decode cX12_done 127 = .ok (.ireturn, 1) := by decide +kernel
theorem dX12_done_128 : decode cX12_done 128 = .ok (.iload_n 1, 1) := by decide +kernel
theorem dX12_done_129 : decode cX12_done 129 = .ok (.iload_n 2, 1) := by decide +kernel
theorem dX12_done_130 : decode cX12_done 130 = .ok (.imul, 1) := by decide +kernel
theorem dX12_done_131 : decode cX12_done 131 = .ok (.ireturn, 1) := by decide +kernel
theorem dX12_done_132 : decode cX12_done 132 = .ok (.iload_n 2, 1) := by decide +kernel
theorem dX12_done_133 : decode cX12_done 133 = .ok (.ifCond .ne 7, 3) := by decide +kernel
theorem dX12_done_136 : decode cX12_done 136 = .ok (.iconst 0, 1) := by decide +kernel
theorem dX12_done_137 : decode cX12_done 137 = .ok (.goto 6, 3) := by decide +kernel
theorem dX12_done_140 : decode cX12_done 140 = .ok (.iload_n 1, 1) := by decide +kernel
theorem dX12_done_141 : decode cX12_done 141 = .ok (.iload_n 2, 1) := by decide +kernel
theorem dX12_done_142 : decode cX12_done 142 = .ok (.idiv, 1) := by decide +kernel
theorem dX12_done_143 : decode cX12_done 143 = .ok (.ireturn, 1) := by decide +kernel
theorem dX12_done_144 : decode cX12_done 144 = .ok (.iload_n 2, 1) := by decide +kernel
theorem dX12_done_145 : decode cX12_done 145 = .ok (.ifCond .ne 7, 3) := by decide +kernel
theorem dX12_done_148 : decode cX12_done 148 = .ok (.iconst 0, 1) := by decide +kernel
theorem dX12_done_149 : decode cX12_done 149 = .ok (.goto 6, 3) := by decide +kernel
theorem dX12_done_152 : decode cX12_done 152 = .ok (.iload_n 1, 1) := by decide +kernel
theorem dX12_done_153 : decode cX12_done 153 = .ok (.iload_n 2, 1) := by decide +kernel
theorem dX12_done_154 : decode cX12_done 154 = .ok (.irem, 1) := by decide +kernel
theorem dX12_done_155 : decode cX12_done 155 = .ok (.ireturn, 1) := by decide +kernel
theorem dX12_done_156 : decode cX12_done 156 = .ok (.iload_n 1, 1) := by decide +kernel
theorem dX12_done_157 : decode cX12_done 157 = .ok (.iload_n 2, 1) := by decide +kernel
theorem dX12_done_158 : decode cX12_done 158 = .ok (.if_icmp .ge 7, 3) := by decide +kernel
theorem dX12_done_161 : decode cX12_done 161 = .ok (.iconst 1, 1) := by decide +kernel
theorem dX12_done_162 : decode cX12_done 162 = .ok (.goto 4, 3) := by decide +kernel
theorem dX12_done_165 : decode cX12_done 165 = .ok (.iconst 0, 1) := by decide +kernel
theorem dX12_done_166 : decode cX12_done 166 = .ok (.invokestatic 304, 3) := by decide +kernel
theorem dX12_done_169 : decode cX12_done 169 = .ok (.ireturn, 1) := by decide +kernel
theorem dX12_done_170 : decode cX12_done 170 = .ok (.iload_n 1, 1) := by decide +kernel
theorem dX12_done_171 : decode cX12_done 171 = .ok (.iload_n 2, 1) := by decide +kernel
theorem dX12_done_172 : decode cX12_done 172 = .ok (.if_icmp .le 7, 3) := by decide +kernel
theorem dX12_done_175 : decode cX12_done 175 = .ok (.iconst 1, 1) := by decide +kernel
theorem dX12_done_176 : decode cX12_done 176 = .ok (.goto 4, 3) := by decide +kernel
theorem dX12_done_179 : decode cX12_done 179 = .ok (.iconst 0, 1) := by decide +kernel
theorem dX12_done_180 : decode cX12_done 180 = .ok (.invokestatic 304, 3) := by decide +kernel
theorem dX12_done_183 : decode cX12_done 183 = .ok (.ireturn, 1) := by decide +kernel
theorem dX12_done_184 : decode cX12_done 184 = .ok (.iload_n 1, 1) := by decide +kernel
theorem dX12_done_185 : decode cX12_done 185 = .ok (.iload_n 2, 1) := by decide +kernel
theorem dX12_done_186 : decode cX12_done 186 = .ok (.if_icmp .ne 7, 3) := by decide +kernel
theorem dX12_done_189 : decode cX12_done 189 = .ok (.iconst 1, 1) := by decide +kernel
theorem dX12_done_190 : decode cX12_done 190 = .ok (.goto 4, 3) := by decide +kernel
theorem dX12_done_193 : decode cX12_done 193 = .ok (.iconst 0, 1) := by decide +kernel
theorem dX12_done_194 : decode cX12_done 194 = .ok (.invokestatic 304, 3) := by decide +kernel
theorem dX12_done_197 : decode cX12_done 197 = .ok (.ireturn, 1) := by decide +kernel
theorem dX12_done_198 : decode cX12_done 198 = .ok (.iload_n 1, 1) := by decide +kernel
theorem dX12_done_199 : decode cX12_done 199 = .ok (.ifCond .eq 11, 3) := by decide +kernel
theorem dX12_done_202 : decode cX12_done 202 = .ok (.iload_n 2, 1) := by decide +kernel
theorem dX12_done_203 : decode cX12_done 203 = .ok (.ifCond .eq 7, 3) := by decide +kernel
theorem dX12_done_206 : decode cX12_done 206 = .ok (.iconst 1, 1) := by decide +kernel
theorem dX12_done_207 : decode cX12_done 207 = .ok (.goto 4, 3) := by decide +kernel
theorem dX12_done_210 : decode cX12_done 210 = .ok (.iconst 0, 1) := by decide +kernel
theorem dX12_done_211 : decode cX12_done 211 = .ok (.invokestatic 304, 3) := by decide +kernel
theorem dX12_done_214 : decode cX12_done 214 = .ok (.ireturn, 1) := by decide +kernel
theorem dX12_done_215 : decode cX12_done 215 = .ok (.iload_n 1, 1) := by decide +kernel
theorem dX12_done_216 : decode cX12_done 216 = .ok (.ifCond .ne 7, 3) := by decide +kernel
theorem dX12_done_219 : decode cX12_done 219 = .ok (.iload_n 2, 1) := by decide +kernel
theorem dX12_done_220 : decode cX12_done 220 = .ok (.ifCond .eq 7, 3) := by decide +kernel
theorem dX12_done_223 : decode cX12_done 223 = .ok (.iconst 1, 1) := by decide +kernel
theorem dX12_done_224 : decode cX12_done 224 = .ok (.goto 4, 3) := by decide +kernel
theorem dX12_done_227 : decode cX12_done 227 = .ok (.iconst 0, 1) := by decide +kernel
theorem dX12_done_228 : decode cX12_done 228 = .ok (.invokestatic 304, 3) := by decide +kernel
theorem dX12_done_231 : decode cX12_done 231 = .ok (.ireturn, 1) := by decide +kernel
theorem dX12_worked_0 : decode cX12_worked 0 = .ok (.aload_n 0, 1) := by decide +kernel
theorem dX12_worked_1 : decode cX12_worked 1 = .ok (.getfield 49, 3) := by decide +kernel
theorem dX12_worked_4 : decode cX12_worked 4 = .ok (.iconst 0, 1) := by decide +kernel
theorem dX12_worked_5 : decode cX12_worked 5 = .ok (.iload_n 2, 1) := by decide +kernel
theorem dX12_worked_6 : decode cX12_worked 6 = .ok (.iastore, 1) := by decide +kernel
theorem dX12_worked_7 : decode cX12_worked 7 = .ok (.aload_n 0, 1) := by decide +kernel
theorem dX12_worked_8 : decode cX12_worked 8 = .ok (.getfield 49, 3) := by decide +kernel
theorem dX12_worked_11 : decode cX12_worked 11 = .ok (.iconst 1, 1) := by decide +kernel
theorem dX12_worked_12 : decode cX12_worked 12 = .ok (.iload_n 3, 1) := by decide +kernel
theorem dX12_worked_13 : decode cX12_worked 13 = .ok (.iastore, 1) := by decide +kernel
theorem dX12_worked_14 : decode cX12_worked 14 = .ok (.aload_n 0, 1) := by decide +kernel
theorem dX12_worked_15 : decode cX12_worked 15 = .ok (.getfield 49, 3) := by decide +kernel
theorem dX12_worked_18 : decode cX12_worked 18 = .ok (.iconst 2, 1) := by decide +kernel
theorem dX12_worked_19 : decode cX12_worked 19 = .ok (.iload 4, 2) := by decide +kernel
theorem dX12_worked_21 : decode cX12_worked 21 = .ok (.iastore, 1) := by decide +kernel
theorem dX12_worked_22 : decode cX12_worked 22 = .ok (.aload_n 0, 1) := by decide +kernel
theorem dX12_worked_23 : decode cX12_worked 23 = .ok (.getfield 49, 3) := by decide +kernel
theorem dX12_worked_26 : decode cX12_worked 26 = .ok (.iconst 3, 1) := by decide +kernel
theorem dX12_worked_27 : decode cX12_worked 27 = .ok (.aload_n 0, 1) := by decide +kernel
theorem dX12_worked_28 : decode cX12_worked 28 = .ok (.getfield 88, 3) := by decide +kernel
theorem dX12_worked_31 : decode cX12_worked 31 = .ok (.bipush 26, 2) := by decide +kernel
theorem dX12_worked_33 : decode cX12_worked 33 = .ok (.iaload, 1) := by decide +kernel
theorem dX12_worked_34 : decode cX12_worked 34 = .ok (.iastore, 1) := by decide +kernel
theorem dX12_worked_35 : decode cX12_worked 35 = .ok (.aload_n 0, 1) := by decide +kernel
theorem dX12_worked_36 : decode cX12_worked 36 = .ok (.getfield 49, 3) := by decide +kernel
theorem dX12_worked_39 : decode cX12_worked 39 = .ok (.iconst 4, 1) := by decide +kernel
theorem dX12_worked_40 : decode cX12_worked 40 = .ok (.aload_n 0, 1) := by decide +kernel
theorem dX12_worked_41 : decode cX12_worked 41 = .ok (.getfield 88, 3) := by decide +kernel
theorem dX12_worked_44 : decode cX12_worked 44 = .ok (.bipush 24, 2) := by decide +kernel
theorem dX12_worked_46 : decode cX12_worked 46 = .ok (.iaload, 1) := by decide +kernel
theorem dX12_worked_47 : decode cX12_worked 47 = .ok (.iastore, 1) := by decide +kernel
theorem dX12_worked_48 : decode cX12_worked 48 = .ok (.aload_n 0, 1) := by decide +kernel
theorem dX12_worked_49 : decode cX12_worked 49 = .ok (.getfield 49, 3) := by decide +kernel
theorem dX12_worked_52 : decode cX12_worked 52 = .ok (.iconst 5, 1) := by decide +kernel
theorem dX12_worked_53 : decode cX12_worked 53 = .ok (.aload_n 0, 1) := by decide +kernel
theorem dX12_worked_54 : decode cX12_worked 54 = .ok (.getfield 88, 3) := by decide +kernel
theorem dX12_worked_57 : decode cX12_worked 57 = .ok (.bipush 25, 2) := by decide +kernel
theorem dX12_worked_59 : decode cX12_worked 59 = .ok (.iaload, 1) := by decide +kernel
theorem dX12_worked_60 : decode cX12_worked 60 = .ok (.iastore, 1) := by decide +kernel
theorem dX12_worked_61 : decode cX12_worked 61 = .ok (.iconst 0, 1) := by decide +kernel
theorem dX12_worked_62 : decode cX12_worked 62 = .ok (.istore 6, 2) := by decide +kernel
theorem dX12_worked_64 : decode cX12_worked 64 = .ok (.aload_n 0, 1) := by decide +kernel
theorem dX12_worked_65 : decode cX12_worked 65 = .ok (.getfield 42, 3) := by decide +kernel
theorem dX12_worked_68 : decode cX12_worked 68 = .ok (.iconst 0, 1) := by decide +kernel
theorem dX12_worked_69 : decode cX12_worked 69 = .ok (.iload 5, 2) := by decide +kernel
theorem dX12_worked_71 : decode cX12_worked 71 = .ok (.iastore, 1) := by decide +kernel
theorem dX12_worked_72 : decode cX12_worked 72 = .ok (.sipush 320, 3) := by decide +kernel
theorem dX12_worked_75 : decode cX12_worked 75 = .ok (.iload_n 1, 1) := by decide +kernel
theorem dX12_worked_76 : decode cX12_worked 76 = .ok (.imul, 1) := by decide +kernel
theorem dX12_worked_77 : decode cX12_worked 77 = .ok (.istore 7, 2) := by decide +kernel
theorem dX12_worked_79 : decode cX12_worked 79 = .ok (.iload 7, 2) := by decide +kernel
theorem dX12_worked_81 : decode cX12_worked 81 = .ok (.sipush 320, 3) := by decide +kernel
theorem dX12_worked_84 : decode cX12_worked 84 = .ok (.iload_n 1, 1) := by decide +kernel
theorem dX12_worked_85 : decode cX12_worked 85 = .ok (.imul, 1) := by decide +kernel
theorem dX12_worked_86 : decode cX12_worked 86 = .ok (.aload_n 0, 1) := by decide +kernel
theorem dX12_worked_87 : decode cX12_worked 87 = .ok (.getfield 36, 3) := by decide +kernel
theorem dX12_worked_90 : decode cX12_worked 90 = .ok (.iload_n 1, 1) := by decide +kernel
theorem dX12_worked_91 : decode cX12_worked 91 = .ok (.iaload, 1) := by decide +kernel
theorem dX12_worked_92 : decode cX12_worked 92 = .ok (.iadd, 1) := by decide +kernel
theorem dX12_worked_93 : decode cX12_worked 93 = .ok (.if_icmp .ge 156, 3) := by decide +kernel
theorem dX12_worked_96 : decode cX12_worked 96 = .ok (.aload_n 0, 1) := by decide +kernel
theorem dX12_worked_97 : decode cX12_worked 97 = .ok (.getfield 30, 3) := by decide +kernel
theorem dX12_worked_100 : decode cX12_worked 100 = .ok (.iload 7, 2) := by decide +kernel
theorem dX12_worked_102 : decode cX12_worked 102 = .ok (.iaload, 1) := by decide +kernel
theorem dX12_worked_103 : decode cX12_worked 103 = .ok (.ifCond .eq 14, 3) := by decide +kernel
theorem dX12_worked_106 : decode cX12_worked 106 = .ok (.aload_n 0, 1) := by decide +kernel
theorem dX12_worked_107 : decode cX12_worked 107 = .ok (.getfield 30, 3) := by decide +kernel
theorem dX12_worked_110 : decode cX12_worked 110 = .ok (.iload 7, 2) := by decide +kernel
theorem dX12_worked_112 : decode cX12_worked 112 = .ok (.iaload, 1) := by decide +kernel
theorem dX12_worked_113 : decode cX12_worked 113 = .ok (.iconst 1, 1) := by decide +kernel
theorem dX12_worked_114 : decode cX12_worked 114 = .ok (.if_icmp .ne 48, 3) := by decide +kernel
theorem dX12_worked_117 : decode cX12_worked 117 = .ok (.aload_n 0, 1) := by decide +kernel
theorem dX12_worked_118 : decode cX12_worked 118 = .ok (.getfield 42, 3) := by decide +kernel
theorem dX12_worked_121 : decode cX12_worked 121 = .ok (.iload 6, 2) := by decide +kernel
theorem dX12_worked_123 : decode cX12_worked 123 = .ok (.aload_n 0, 1) := by decide +kernel
theorem dX12_worked_124 : decode cX12_worked 124 = .ok (.getfield 30, 3) := by decide +kernel
theorem dX12_worked_127 : decode cX12_worked 127 = .ok (.iload 7, 2) := by decide +kernel
theorem dX12_worked_129 : decode cX12_worked 129 = .ok (.iaload, 1) := by decide +kernel
theorem dX12_worked_130 : decode cX12_worked 130 = .ok (.ifCond .ne 13, 3) := by decide +kernel
theorem dX12_worked_133 : decode cX12_worked 133 = .ok (.aload_n 0, 1) := by decide +kernel
theorem dX12_worked_134 : decode cX12_worked 134 = .ok (.getfield 33, 3) := by decide +kernel
theorem dX12_worked_137 : decode cX12_worked 137 = .ok (.iload 7, 2) := by decide +kernel
theorem dX12_worked_139 : decode cX12_worked 139 = .ok (.iaload, 1) := by decide +kernel
theorem dX12_worked_140 : decode cX12_worked 140 = .ok (.goto 15, 3) := by decide +kernel
theorem dX12_worked_143 : decode cX12_worked 143 = .ok (.aload_n 0, 1) := by decide +kernel
theorem dX12_worked_144 : decode cX12_worked 144 = .ok (.getfield 49, 3) := by decide +kernel
theorem dX12_worked_147 : decode cX12_worked 147 = .ok (.aload_n 0, 1) := by decide +kernel
theorem dX12_worked_148 : decode cX12_worked 148 = .ok (.getfield 33, 3) := by decide +kernel
theorem dX12_worked_151 : decode cX12_worked 151 = .ok (.iload 7, 2) := by decide +kernel
theorem dX12_worked_153 : decode cX12_worked 153 = .ok (.iaload, 1) := by decide +kernel
theorem dX12_worked_154 : decode cX12_worked 154 = .ok (.iaload, 1) := by decide +kernel
theorem dX12_worked_155 : decode cX12_worked 155 = .ok (.iastore, 1) := by decide +kernel
theorem dX12_worked_156 : decode cX12_worked 156 = .ok (.iinc 6 1, 3) := by decide +kernel
theorem dX12_worked_159 : decode cX12_worked 159 = .ok (.goto 84, 3) := by decide +kernel
theorem dX12_worked_162 : decode cX12_worked 162 = .ok (.aload_n 0, 1) := by decide +kernel
theorem dX12_worked_163 : decode cX12_worked 163 = .ok (.getfield 30, 3) := by decide +kernel
theorem dX12_worked_166 : decode cX12_worked 166 = .ok (.iload 7, 2) := by decide +kernel
theorem dX12_worked_168 : decode cX12_worked 168 = .ok (.iaload, 1) := by decide +kernel
theorem dX12_worked_169 : decode cX12_worked 169 = .ok (.iconst 2, 1) := by decide +kernel
theorem dX12_worked_170 : decode cX12_worked 170 = .ok (.if_icmp .ne 35, 3) := by decide +kernel
theorem dX12_worked_173 : decode cX12_worked 173 = .ok (.aload_n 0, 1) := by decide +kernel
theorem dX12_worked_174 : decode cX12_worked 174 = .ok (.getfield 42, 3) := by decide +kernel
theorem dX12_worked_177 : decode cX12_worked 177 = .ok (.iload 6, 2) := by decide +kernel
theorem dX12_worked_179 : decode cX12_worked 179 = .ok (.iconst 1, 1) := by decide +kernel
theorem dX12_worked_180 : decode cX12_worked 180 = .ok (.isub, 1) := by decide +kernel
theorem dX12_worked_181 : decode cX12_worked 181 = .ok (.aload_n 0, 1) := by decide +kernel
theorem dX12_worked_182 : decode cX12_worked 182 = .ok (.getfield 42, 3) := by decide +kernel
theorem dX12_worked_185 : decode cX12_worked 185 = .ok (.iload 6, 2) := by decide +kernel
theorem dX12_worked_187 : decode cX12_worked 187 = .ok (.iconst 1, 1) := by decide +kernel
theorem dX12_worked_188 : decode cX12_worked 188 = .ok (.isub, 1) := by decide +kernel
theorem dX12_worked_189 : decode cX12_worked 189 = .ok (.iaload, 1) := by decide +kernel
theorem dX12_worked_190 : decode cX12_worked 190 = .ok (.ifCond .ne 7, 3) := by decide +kernel
theorem dX12_worked_193 : decode cX12_worked 193 = .ok (.iconst 1, 1) := by decide +kernel
theorem dX12_worked_194 : decode cX12_worked 194 = .ok (.goto 4, 3) := by decide +kernel
theorem dX12_worked_197 : decode cX12_worked 197 = .ok (.iconst 0, 1) := by decide +kernel
theorem dX12_worked_198 : decode cX12_worked 198 = .ok (.invokestatic 304, 3) := by decide +kernel
theorem dX12_worked_201 : decode cX12_worked 201 = .ok (.iastore, 1) := by decide +kernel
theorem dX12_worked_202 : decode cX12_worked 202 = .ok (.goto 41, 3) := by decide +kernel
theorem dX12_worked_205 : decode cX12_worked 205 = .ok (.iinc 6 (-1), 3) := by decide +kernel
theorem dX12_worked_208 : decode cX12_worked 208 = .ok (.aload_n 0, 1) := by decide +kernel
theorem dX12_worked_209 : decode cX12_worked 209 = .ok (.getfield 42, 3) := by decide +kernel
theorem dX12_worked_212 : decode cX12_worked 212 = .ok (.iload 6, 2) := by decide +kernel
theorem dX12_worked_214 : decode cX12_worked 214 = .ok (.iconst 1, 1) := by decide +kernel
theorem dX12_worked_215 : decode cX12_worked 215 = .ok (.isub, 1) := by decide +kernel
theorem dX12_worked_216 : decode cX12_worked 216 = .ok (.aload_n 0, 1) := by decide +kernel
theorem dX12_worked_217 : decode cX12_worked 217 = .ok (.getfield 33, 3) := by decide +kernel
theorem dX12_worked_220 : decode cX12_worked 220 = .ok (.iload 7, 2) := by decide +kernel
theorem dX12_worked_222 : decode cX12_worked 222 = .ok (.iaload, 1) := by decide +kernel
theorem dX12_worked_223 : decode cX12_worked 223 = .ok (.aload_n 0, 1) := by decide +kernel
theorem dX12_worked_224 : decode cX12_worked 224 = .ok (.getfield 42, 3) := by decide +kernel
theorem dX12_worked_227 : decode cX12_worked 227 = .ok (.iload 6, 2) := by decide +kernel
theorem dX12_worked_229 : decode cX12_worked 229 = .ok (.iconst 1, 1) := by decide +kernel
theorem dX12_worked_230 : decode cX12_worked 230 = .ok (.isub, 1) := by decide +kernel
theorem dX12_worked_231 : decode cX12_worked 231 = .ok (.iaload, 1) := by decide +kernel
theorem dX12_worked_232 : decode cX12_worked 232 = .ok (.aload_n 0, 1) := by decide +kernel
theorem dX12_worked_233 : decode cX12_worked 233 = .ok (.getfield 42, 3) := by decide +kernel
theorem dX12_worked_236 : decode cX12_worked 236 = .ok (.iload 6, 2) := by decide +kernel
theorem dX12_worked_238 : decode cX12_worked 238 = .ok (.iaload, 1) := by decide +kernel
theorem dX12_worked_239 : decode cX12_worked 239 = .ok (.invokestatic 308, 3) := by decide +kernel
theorem dX12_worked_242 : decode cX12_worked 242 = .ok (.iastore, 1) := by decide +kernel
theorem dX12_worked_243 : decode cX12_worked 243 = .ok (.iinc 7 1, 3) := by decide +kernel
theorem dX12_worked_246 : decode cX12_worked 246 = .ok (.goto (-167), 3) := by decide +kernel
theorem dX12_worked_249 : decode cX12_worked 249 = .ok (.aload_n 0, 1) := by decide +kernel
theorem dX12_worked_250 : decode cX12_worked 250 = .ok (.getfield 42, 3) := by decide +kernel
theorem dX12_worked_253 : decode cX12_worked 253 = .ok (.iconst 0, 1) := by decide +kernel
theorem dX12_worked_254 : decode cX12_worked 254 = .ok (.iaload, 1) := by decide +kernel
theorem dX12_worked_255 : decode cX12_worked 255 = .ok (.ireturn, 1) := by decide +kernel
theorem dX12_within_0 : decode cX12_within 0 = .ok (.iload_n 0, 1) := by decide +kernel
theorem dX12_within_1 : decode cX12_within 1 = .ok (.ifCond .ge 7, 3) := by decide +kernel
theorem dX12_within_4 : decode cX12_within 4 = .ok (.iconst 0, 1) := by decide +kernel
theorem dX12_within_5 : decode cX12_within 5 = .ok (.goto 13, 3) := by decide +kernel
theorem dX12_within_8 : decode cX12_within 8 = .ok (.iload_n 0, 1) := by decide +kernel
theorem dX12_within_9 : decode cX12_within 9 = .ok (.iload_n 1, 1) := by decide +kernel
theorem dX12_within_10 : decode cX12_within 10 = .ok (.if_icmp .le 7, 3) := by decide +kernel
theorem dX12_within_13 : decode cX12_within 13 = .ok (.iload_n 1, 1) := by decide +kernel
theorem dX12_within_14 : decode cX12_within 14 = .ok (.goto 4, 3) := by decide +kernel
theorem dX12_within_17 : decode cX12_within 17 = .ok (.iload_n 0, 1) := by decide +kernel
theorem dX12_within_18 : decode cX12_within 18 = .ok (.ireturn, 1) := by decide +kernel
theorem dX12_readStoreys_0 : decode cX12_readStoreys 0 = .ok (.aload_n 0, 1) := by decide +kernel
theorem dX12_readStoreys_1 : decode cX12_readStoreys 1 = .ok (.invokevirtual 230, 3) := by decide +kernel
theorem dX12_readStoreys_4 : decode cX12_readStoreys 4 = .ok (.aload_n 0, 1) := by decide +kernel
theorem dX12_readStoreys_5 : decode cX12_readStoreys 5 = .ok (.aload_n 0, 1) := by decide +kernel
theorem dX12_readStoreys_6 : decode cX12_readStoreys 6 = .ok (.iconst 1, 1) := by decide +kernel
theorem dX12_readStoreys_7 : decode cX12_readStoreys 7 = .ok (.bipush 20, 2) := by decide +kernel
theorem dX12_readStoreys_9 : decode cX12_readStoreys 9 = .ok (.invokevirtual 237, 3) := by decide +kernel
theorem dX12_readStoreys_12 : decode cX12_readStoreys 12 = .ok (.putfield 312, 3) := by decide +kernel
theorem dX12_readStoreys_15 : decode cX12_readStoreys 15 = .ok (.aload_n 0, 1) := by decide +kernel
theorem dX12_readStoreys_16 : decode cX12_readStoreys 16 = .ok (.aload_n 0, 1) := by decide +kernel
theorem dX12_readStoreys_17 : decode cX12_readStoreys 17 = .ok (.ldc2_w 187, 3) := by decide +kernel
theorem dX12_readStoreys_20 : decode cX12_readStoreys 20 = .ok (.aload_n 0, 1) := by decide +kernel
theorem dX12_readStoreys_21 : decode cX12_readStoreys 21 = .ok (.getfield 312, 3) := by decide +kernel
theorem dX12_readStoreys_24 : decode cX12_readStoreys 24 = .ok (.invokevirtual 315, 3) := by decide +kernel
theorem dX12_readStoreys_27 : decode cX12_readStoreys 27 = .ok (.putfield 319, 3) := by decide +kernel
theorem dX12_readStoreys_30 : decode cX12_readStoreys 30 = .ok (.return_, 1) := by decide +kernel
theorem dX12_readTenant_0 : decode cX12_readTenant 0 = .ok (.aload_n 0, 1) := by decide +kernel
theorem dX12_readTenant_1 : decode cX12_readTenant 1 = .ok (.invokevirtual 322, 3) := by decide +kernel
theorem dX12_readTenant_4 : decode cX12_readTenant 4 = .ok (.aload_n 0, 1) := by decide +kernel
theorem dX12_readTenant_5 : decode cX12_readTenant 5 = .ok (.getfield 248, 3) := by decide +kernel
theorem dX12_readTenant_8 : decode cX12_readTenant 8 = .ok (.istore_n 1, 1) := by decide +kernel
theorem dX12_readTenant_9 : decode cX12_readTenant 9 = .ok (.aload_n 0, 1) := by decide +kernel
theorem dX12_readTenant_10 : decode cX12_readTenant 10 = .ok (.getfield 52, 3) := by decide +kernel
theorem dX12_readTenant_13 : decode cX12_readTenant 13 = .ok (.iload_n 1, 1) := by decide +kernel
theorem dX12_readTenant_14 : decode cX12_readTenant 14 = .ok (.aload_n 0, 1) := by decide +kernel
theorem dX12_readTenant_15 : decode cX12_readTenant 15 = .ok (.ldc2_w 191, 3) := by decide +kernel
theorem dX12_readTenant_18 : decode cX12_readTenant 18 = .ok (.iconst 0, 1) := by decide +kernel
theorem dX12_readTenant_19 : decode cX12_readTenant 19 = .ok (.aload_n 0, 1) := by decide +kernel
theorem dX12_readTenant_20 : decode cX12_readTenant 20 = .ok (.getfield 312, 3) := by decide +kernel
theorem dX12_readTenant_23 : decode cX12_readTenant 23 = .ok (.invokevirtual 241, 3) := by decide +kernel
theorem dX12_readTenant_26 : decode cX12_readTenant 26 = .ok (.iastore, 1) := by decide +kernel
theorem dX12_readTenant_27 : decode cX12_readTenant 27 = .ok (.aload_n 0, 1) := by decide +kernel
theorem dX12_readTenant_28 : decode cX12_readTenant 28 = .ok (.getfield 55, 3) := by decide +kernel
theorem dX12_readTenant_31 : decode cX12_readTenant 31 = .ok (.iload_n 1, 1) := by decide +kernel
theorem dX12_readTenant_32 : decode cX12_readTenant 32 = .ok (.aload_n 0, 1) := by decide +kernel
theorem dX12_readTenant_33 : decode cX12_readTenant 33 = .ok (.ldc2_w 193, 3) := by decide +kernel
theorem dX12_readTenant_36 : decode cX12_readTenant 36 = .ok (.iconst 0, 1) := by decide +kernel
theorem dX12_readTenant_37 : decode cX12_readTenant 37 = .ok (.bipush 40, 2) := by decide +kernel
theorem dX12_readTenant_39 : decode cX12_readTenant 39 = .ok (.invokevirtual 241, 3) := by decide +kernel
theorem dX12_readTenant_42 : decode cX12_readTenant 42 = .ok (.iastore, 1) := by decide +kernel
theorem dX12_readTenant_43 : decode cX12_readTenant 43 = .ok (.aload_n 0, 1) := by decide +kernel
theorem dX12_readTenant_44 : decode cX12_readTenant 44 = .ok (.getfield 58, 3) := by decide +kernel
theorem dX12_readTenant_47 : decode cX12_readTenant 47 = .ok (.iload_n 1, 1) := by decide +kernel
theorem dX12_readTenant_48 : decode cX12_readTenant 48 = .ok (.aload_n 0, 1) := by decide +kernel
theorem dX12_readTenant_49 : decode cX12_readTenant 49 = .ok (.ldc2_w 195, 3) := by decide +kernel
theorem dX12_readTenant_52 : decode cX12_readTenant 52 = .ok (.iconst 0, 1) := by decide +kernel
theorem dX12_readTenant_53 : decode cX12_readTenant 53 = .ok (.bipush 9, 2) := by decide +kernel
theorem dX12_readTenant_55 : decode cX12_readTenant 55 = .ok (.invokevirtual 241, 3) := by decide +kernel
theorem dX12_readTenant_58 : decode cX12_readTenant 58 = .ok (.iastore, 1) := by decide +kernel
theorem dX12_readTenant_59 : decode cX12_readTenant 59 = .ok (.aload_n 0, 1) := by decide +kernel
theorem dX12_readTenant_60 : decode cX12_readTenant 60 = .ok (.getfield 61, 3) := by decide +kernel
theorem dX12_readTenant_63 : decode cX12_readTenant 63 = .ok (.iload_n 1, 1) := by decide +kernel
theorem dX12_readTenant_64 : decode cX12_readTenant 64 = .ok (.aload_n 0, 1) := by decide +kernel
theorem dX12_readTenant_65 : decode cX12_readTenant 65 = .ok (.ldc2_w 197, 3) := by decide +kernel
theorem dX12_readTenant_68 : decode cX12_readTenant 68 = .ok (.iconst 0, 1) := by decide +kernel
theorem dX12_readTenant_69 : decode cX12_readTenant 69 = .ok (.sipush 999, 3) := by decide +kernel
theorem dX12_readTenant_72 : decode cX12_readTenant 72 = .ok (.invokevirtual 241, 3) := by decide +kernel
theorem dX12_readTenant_75 : decode cX12_readTenant 75 = .ok (.iastore, 1) := by decide +kernel
theorem dX12_readTenant_76 : decode cX12_readTenant 76 = .ok (.aload_n 0, 1) := by decide +kernel
theorem dX12_readTenant_77 : decode cX12_readTenant 77 = .ok (.getfield 64, 3) := by decide +kernel
theorem dX12_readTenant_80 : decode cX12_readTenant 80 = .ok (.iload_n 1, 1) := by decide +kernel
theorem dX12_readTenant_81 : decode cX12_readTenant 81 = .ok (.aload_n 0, 1) := by decide +kernel
theorem dX12_readTenant_82 : decode cX12_readTenant 82 = .ok (.ldc2_w 199, 3) := by decide +kernel
theorem dX12_readTenant_85 : decode cX12_readTenant 85 = .ok (.bipush 100, 2) := by decide +kernel
theorem dX12_readTenant_87 : decode cX12_readTenant 87 = .ok (.invokevirtual 315, 3) := by decide +kernel
theorem dX12_readTenant_90 : decode cX12_readTenant 90 = .ok (.iastore, 1) := by decide +kernel
theorem dX12_readTenant_91 : decode cX12_readTenant 91 = .ok (.aload_n 0, 1) := by decide +kernel
theorem dX12_readTenant_92 : decode cX12_readTenant 92 = .ok (.getfield 182, 3) := by decide +kernel
theorem dX12_readTenant_95 : decode cX12_readTenant 95 = .ok (.ifCond .ne 13, 3) := by decide +kernel
theorem dX12_readTenant_98 : decode cX12_readTenant 98 = .ok (.aload_n 0, 1) := by decide +kernel
theorem dX12_readTenant_99 : decode cX12_readTenant 99 = .ok (.dup, 1) := by decide +kernel
theorem dX12_readTenant_100 : decode cX12_readTenant 100 = .ok (.getfield 248, 3) := by decide +kernel
theorem dX12_readTenant_103 : decode cX12_readTenant 103 = .ok (.iconst 1, 1) := by decide +kernel
theorem dX12_readTenant_104 : decode cX12_readTenant 104 = .ok (.iadd, 1) := by decide +kernel
theorem dX12_readTenant_105 : decode cX12_readTenant 105 = .ok (.putfield 248, 3) := by decide +kernel
theorem dX12_readTenant_108 : decode cX12_readTenant 108 = .ok (.return_, 1) := by decide +kernel
theorem dX12_readLine_0 : decode cX12_readLine 0 = .ok (.aload_n 0, 1) := by decide +kernel
theorem dX12_readLine_1 : decode cX12_readLine 1 = .ok (.ldc2_w 185, 3) := by decide +kernel
theorem dX12_readLine_4 : decode cX12_readLine 4 = .ok (.invokevirtual 223, 3) := by decide +kernel
theorem dX12_readLine_7 : decode cX12_readLine 7 = .ok (.ifCond .eq 17, 3) := by decide +kernel
theorem dX12_readLine_10 : decode cX12_readLine 10 = .ok (.aload_n 0, 1) := by decide +kernel
theorem dX12_readLine_11 : decode cX12_readLine 11 = .ok (.getfield 325, 3) := by decide +kernel
theorem dX12_readLine_14 : decode cX12_readLine 14 = .ok (.ifCond .ne 10, 3) := by decide +kernel
theorem dX12_readLine_17 : decode cX12_readLine 17 = .ok (.aload_n 0, 1) := by decide +kernel
theorem dX12_readLine_18 : decode cX12_readLine 18 = .ok (.invokevirtual 329, 3) := by decide +kernel
theorem dX12_readLine_21 : decode cX12_readLine 21 = .ok (.goto 128, 3) := by decide +kernel
theorem dX12_readLine_24 : decode cX12_readLine 24 = .ok (.aload_n 0, 1) := by decide +kernel
theorem dX12_readLine_25 : decode cX12_readLine 25 = .ok (.ldc2_w 189, 3) := by decide +kernel
theorem dX12_readLine_28 : decode cX12_readLine 28 = .ok (.invokevirtual 223, 3) := by decide +kernel
theorem dX12_readLine_31 : decode cX12_readLine 31 = .ok (.ifCond .eq 19, 3) := by decide +kernel
theorem dX12_readLine_34 : decode cX12_readLine 34 = .ok (.aload_n 0, 1) := by decide +kernel
theorem dX12_readLine_35 : decode cX12_readLine 35 = .ok (.getfield 248, 3) := by decide +kernel
theorem dX12_readLine_38 : decode cX12_readLine 38 = .ok (.bipush 8, 2) := by decide +kernel
theorem dX12_readLine_40 : decode cX12_readLine 40 = .ok (.if_icmp .ge 10, 3) := by decide +kernel
theorem dX12_readLine_43 : decode cX12_readLine 43 = .ok (.aload_n 0, 1) := by decide +kernel
theorem dX12_readLine_44 : decode cX12_readLine 44 = .ok (.invokevirtual 332, 3) := by decide +kernel
theorem dX12_readLine_47 : decode cX12_readLine 47 = .ok (.goto 102, 3) := by decide +kernel
theorem dX12_readLine_50 : decode cX12_readLine 50 = .ok (.aload_n 0, 1) := by decide +kernel
theorem dX12_readLine_51 : decode cX12_readLine 51 = .ok (.ldc2_w 201, 3) := by decide +kernel
theorem dX12_readLine_54 : decode cX12_readLine 54 = .ok (.invokevirtual 223, 3) := by decide +kernel
theorem dX12_readLine_57 : decode cX12_readLine 57 = .ok (.ifCond .eq 20, 3) := by decide +kernel
theorem dX12_readLine_60 : decode cX12_readLine 60 = .ok (.aload_n 0, 1) := by decide +kernel
theorem dX12_readLine_61 : decode cX12_readLine 61 = .ok (.getfield 45, 3) := by decide +kernel
theorem dX12_readLine_64 : decode cX12_readLine 64 = .ok (.iconst 0, 1) := by decide +kernel
theorem dX12_readLine_65 : decode cX12_readLine 65 = .ok (.baload, 1) := by decide +kernel
theorem dX12_readLine_66 : decode cX12_readLine 66 = .ok (.ifCond .ne 11, 3) := by decide +kernel
theorem dX12_readLine_69 : decode cX12_readLine 69 = .ok (.aload_n 0, 1) := by decide +kernel
theorem dX12_readLine_70 : decode cX12_readLine 70 = .ok (.iconst 0, 1) := by decide +kernel
theorem dX12_readLine_71 : decode cX12_readLine 71 = .ok (.invokevirtual 335, 3) := by decide +kernel
theorem dX12_readLine_74 : decode cX12_readLine 74 = .ok (.goto 75, 3) := by decide +kernel
theorem dX12_readLine_77 : decode cX12_readLine 77 = .ok (.aload_n 0, 1) := by decide +kernel
theorem dX12_readLine_78 : decode cX12_readLine 78 = .ok (.ldc2_w 203, 3) := by decide +kernel
theorem dX12_readLine_81 : decode cX12_readLine 81 = .ok (.invokevirtual 223, 3) := by decide +kernel
theorem dX12_readLine_84 : decode cX12_readLine 84 = .ok (.ifCond .eq 20, 3) := by decide +kernel
theorem dX12_readLine_87 : decode cX12_readLine 87 = .ok (.aload_n 0, 1) := by decide +kernel
theorem dX12_readLine_88 : decode cX12_readLine 88 = .ok (.getfield 45, 3) := by decide +kernel
theorem dX12_readLine_91 : decode cX12_readLine 91 = .ok (.iconst 1, 1) := by decide +kernel
theorem dX12_readLine_92 : decode cX12_readLine 92 = .ok (.baload, 1) := by decide +kernel
theorem dX12_readLine_93 : decode cX12_readLine 93 = .ok (.ifCond .ne 11, 3) := by decide +kernel
theorem dX12_readLine_96 : decode cX12_readLine 96 = .ok (.aload_n 0, 1) := by decide +kernel
theorem dX12_readLine_97 : decode cX12_readLine 97 = .ok (.iconst 1, 1) := by decide +kernel
theorem dX12_readLine_98 : decode cX12_readLine 98 = .ok (.invokevirtual 335, 3) := by decide +kernel
theorem dX12_readLine_101 : decode cX12_readLine 101 = .ok (.goto 48, 3) := by decide +kernel
theorem dX12_readLine_104 : decode cX12_readLine 104 = .ok (.aload_n 0, 1) := by decide +kernel
theorem dX12_readLine_105 : decode cX12_readLine 105 = .ok (.ldc2_w 205, 3) := by decide +kernel
theorem dX12_readLine_108 : decode cX12_readLine 108 = .ok (.invokevirtual 223, 3) := by decide +kernel
theorem dX12_readLine_111 : decode cX12_readLine 111 = .ok (.ifCond .eq 33, 3) := by decide +kernel
theorem dX12_readLine_114 : decode cX12_readLine 114 = .ok (.aload_n 0, 1) := by decide +kernel
theorem dX12_readLine_115 : decode cX12_readLine 115 = .ok (.getfield 338, 3) := by decide +kernel
theorem dX12_readLine_118 : decode cX12_readLine 118 = .ok (.ifCond .ne 26, 3) := by decide +kernel
theorem dX12_readLine_121 : decode cX12_readLine 121 = .ok (.aload_n 0, 1) := by decide +kernel
theorem dX12_readLine_122 : decode cX12_readLine 122 = .ok (.iconst 1, 1) := by decide +kernel
theorem dX12_readLine_123 : decode cX12_readLine 123 = .ok (.putfield 338, 3) := by decide +kernel
theorem dX12_readLine_126 : decode cX12_readLine 126 = .ok (.aload_n 0, 1) := by decide +kernel
theorem dX12_readLine_127 : decode cX12_readLine 127 = .ok (.aload_n 0, 1) := by decide +kernel
theorem dX12_readLine_128 : decode cX12_readLine 128 = .ok (.ldc2_w 205, 3) := by decide +kernel
theorem dX12_readLine_131 : decode cX12_readLine 131 = .ok (.iconst 0, 1) := by decide +kernel
theorem dX12_readLine_132 : decode cX12_readLine 132 = .ok (.sipush 999, 3) := by decide +kernel
theorem dX12_readLine_135 : decode cX12_readLine 135 = .ok (.invokevirtual 241, 3) := by decide +kernel
theorem dX12_readLine_138 : decode cX12_readLine 138 = .ok (.putfield 341, 3) := by decide +kernel
theorem dX12_readLine_141 : decode cX12_readLine 141 = .ok (.goto 8, 3) := by decide +kernel
theorem dX12_readLine_144 : decode cX12_readLine 144 = .ok (.aload_n 0, 1) := by decide +kernel
theorem dX12_readLine_145 : decode cX12_readLine 145 = .ok (.iconst 2, 1) := by decide +kernel
theorem dX12_readLine_146 : decode cX12_readLine 146 = .ok (.invokevirtual 227, 3) := by decide +kernel
theorem dX12_readLine_149 : decode cX12_readLine 149 = .ok (.aload_n 0, 1) := by decide +kernel
theorem dX12_readLine_150 : decode cX12_readLine 150 = .ok (.iconst 1, 1) := by decide +kernel
theorem dX12_readLine_151 : decode cX12_readLine 151 = .ok (.putfield 325, 3) := by decide +kernel
theorem dX12_readLine_154 : decode cX12_readLine 154 = .ok (.aload_n 0, 1) := by decide +kernel
theorem dX12_readLine_155 : decode cX12_readLine 155 = .ok (.getfield 182, 3) := by decide +kernel
theorem dX12_readLine_158 : decode cX12_readLine 158 = .ok (.ifCond .ne 17, 3) := by decide +kernel
theorem dX12_readLine_161 : decode cX12_readLine 161 = .ok (.aload_n 0, 1) := by decide +kernel
theorem dX12_readLine_162 : decode cX12_readLine 162 = .ok (.getfield 169, 3) := by decide +kernel
theorem dX12_readLine_165 : decode cX12_readLine 165 = .ok (.bipush 59, 2) := by decide +kernel
theorem dX12_readLine_167 : decode cX12_readLine 167 = .ok (.if_icmp .eq 8, 3) := by decide +kernel
theorem dX12_readLine_170 : decode cX12_readLine 170 = .ok (.aload_n 0, 1) := by decide +kernel
theorem dX12_readLine_171 : decode cX12_readLine 171 = .ok (.iconst 2, 1) := by decide +kernel
theorem dX12_readLine_172 : decode cX12_readLine 172 = .ok (.invokevirtual 227, 3) := by decide +kernel
theorem dX12_readLine_175 : decode cX12_readLine 175 = .ok (.aload_n 0, 1) := by decide +kernel
theorem dX12_readLine_176 : decode cX12_readLine 176 = .ok (.getfield 182, 3) := by decide +kernel
theorem dX12_readLine_179 : decode cX12_readLine 179 = .ok (.ifCond .ne 7, 3) := by decide +kernel
theorem dX12_readLine_182 : decode cX12_readLine 182 = .ok (.aload_n 0, 1) := by decide +kernel
theorem dX12_readLine_183 : decode cX12_readLine 183 = .ok (.invokevirtual 230, 3) := by decide +kernel
theorem dX12_readLine_186 : decode cX12_readLine 186 = .ok (.return_, 1) := by decide +kernel
theorem dX12_readAll_0 : decode cX12_readAll 0 = .ok (.aload_n 0, 1) := by decide +kernel
theorem dX12_readAll_1 : decode cX12_readAll 1 = .ok (.aload_n 0, 1) := by decide +kernel
theorem dX12_readAll_2 : decode cX12_readAll 2 = .ok (.getfield 142, 3) := by decide +kernel
theorem dX12_readAll_5 : decode cX12_readAll 5 = .ok (.putfield 152, 3) := by decide +kernel
theorem dX12_readAll_8 : decode cX12_readAll 8 = .ok (.aload_n 0, 1) := by decide +kernel
theorem dX12_readAll_9 : decode cX12_readAll 9 = .ok (.iconst 0, 1) := by decide +kernel
theorem dX12_readAll_10 : decode cX12_readAll 10 = .ok (.putfield 142, 3) := by decide +kernel
theorem dX12_readAll_13 : decode cX12_readAll 13 = .ok (.aload_n 0, 1) := by decide +kernel
theorem dX12_readAll_14 : decode cX12_readAll 14 = .ok (.iconst 0, 1) := by decide +kernel
theorem dX12_readAll_15 : decode cX12_readAll 15 = .ok (.putfield 149, 3) := by decide +kernel
theorem dX12_readAll_18 : decode cX12_readAll 18 = .ok (.aload_n 0, 1) := by decide +kernel
theorem dX12_readAll_19 : decode cX12_readAll 19 = .ok (.iconst 0, 1) := by decide +kernel
theorem dX12_readAll_20 : decode cX12_readAll 20 = .ok (.putfield 182, 3) := by decide +kernel
theorem dX12_readAll_23 : decode cX12_readAll 23 = .ok (.aload_n 0, 1) := by decide +kernel
theorem dX12_readAll_24 : decode cX12_readAll 24 = .ok (.iconst (-1), 1) := by decide +kernel
theorem dX12_readAll_25 : decode cX12_readAll 25 = .ok (.putfield 13, 3) := by decide +kernel
theorem dX12_readAll_28 : decode cX12_readAll 28 = .ok (.aload_n 0, 1) := by decide +kernel
theorem dX12_readAll_29 : decode cX12_readAll 29 = .ok (.bipush 9, 2) := by decide +kernel
theorem dX12_readAll_31 : decode cX12_readAll 31 = .ok (.putfield 312, 3) := by decide +kernel
theorem dX12_readAll_34 : decode cX12_readAll 34 = .ok (.aload_n 0, 1) := by decide +kernel
theorem dX12_readAll_35 : decode cX12_readAll 35 = .ok (.iconst 0, 1) := by decide +kernel
theorem dX12_readAll_36 : decode cX12_readAll 36 = .ok (.putfield 319, 3) := by decide +kernel
theorem dX12_readAll_39 : decode cX12_readAll 39 = .ok (.aload_n 0, 1) := by decide +kernel
theorem dX12_readAll_40 : decode cX12_readAll 40 = .ok (.iconst 0, 1) := by decide +kernel
theorem dX12_readAll_41 : decode cX12_readAll 41 = .ok (.putfield 248, 3) := by decide +kernel
theorem dX12_readAll_44 : decode cX12_readAll 44 = .ok (.aload_n 0, 1) := by decide +kernel
theorem dX12_readAll_45 : decode cX12_readAll 45 = .ok (.iconst 0, 1) := by decide +kernel
theorem dX12_readAll_46 : decode cX12_readAll 46 = .ok (.putfield 341, 3) := by decide +kernel
theorem dX12_readAll_49 : decode cX12_readAll 49 = .ok (.aload_n 0, 1) := by decide +kernel
theorem dX12_readAll_50 : decode cX12_readAll 50 = .ok (.iconst 0, 1) := by decide +kernel
theorem dX12_readAll_51 : decode cX12_readAll 51 = .ok (.putfield 325, 3) := by decide +kernel
theorem dX12_readAll_54 : decode cX12_readAll 54 = .ok (.aload_n 0, 1) := by decide +kernel
theorem dX12_readAll_55 : decode cX12_readAll 55 = .ok (.iconst 0, 1) := by decide +kernel
theorem dX12_readAll_56 : decode cX12_readAll 56 = .ok (.putfield 338, 3) := by decide +kernel
theorem dX12_readAll_59 : decode cX12_readAll 59 = .ok (.aload_n 0, 1) := by decide +kernel
theorem dX12_readAll_60 : decode cX12_readAll 60 = .ok (.getfield 45, 3) := by decide +kernel
theorem dX12_readAll_63 : decode cX12_readAll 63 = .ok (.iconst 0, 1) := by decide +kernel
theorem dX12_readAll_64 : decode cX12_readAll 64 = .ok (.iconst 0, 1) := by decide +kernel
theorem dX12_readAll_65 : decode cX12_readAll 65 = .ok (.bastore, 1) := by decide +kernel
theorem dX12_readAll_66 : decode cX12_readAll 66 = .ok (.aload_n 0, 1) := by decide +kernel
theorem dX12_readAll_67 : decode cX12_readAll 67 = .ok (.getfield 45, 3) := by decide +kernel
theorem dX12_readAll_70 : decode cX12_readAll 70 = .ok (.iconst 1, 1) := by decide +kernel
theorem dX12_readAll_71 : decode cX12_readAll 71 = .ok (.iconst 0, 1) := by decide +kernel
theorem dX12_readAll_72 : decode cX12_readAll 72 = .ok (.bastore, 1) := by decide +kernel
theorem dX12_readAll_73 : decode cX12_readAll 73 = .ok (.aload_n 0, 1) := by decide +kernel
theorem dX12_readAll_74 : decode cX12_readAll 74 = .ok (.iconst 0, 1) := by decide +kernel
theorem dX12_readAll_75 : decode cX12_readAll 75 = .ok (.putfield 267, 3) := by decide +kernel
theorem dX12_readAll_78 : decode cX12_readAll 78 = .ok (.aload_n 0, 1) := by decide +kernel
theorem dX12_readAll_79 : decode cX12_readAll 79 = .ok (.invokevirtual 230, 3) := by decide +kernel
theorem dX12_readAll_82 : decode cX12_readAll 82 = .ok (.aload_n 0, 1) := by decide +kernel
theorem dX12_readAll_83 : decode cX12_readAll 83 = .ok (.getfield 182, 3) := by decide +kernel
theorem dX12_readAll_86 : decode cX12_readAll 86 = .ok (.ifCond .ne 17, 3) := by decide +kernel
theorem dX12_readAll_89 : decode cX12_readAll 89 = .ok (.aload_n 0, 1) := by decide +kernel
theorem dX12_readAll_90 : decode cX12_readAll 90 = .ok (.getfield 169, 3) := by decide +kernel
theorem dX12_readAll_93 : decode cX12_readAll 93 = .ok (.ifCond .eq 10, 3) := by decide +kernel
theorem dX12_readAll_96 : decode cX12_readAll 96 = .ok (.aload_n 0, 1) := by decide +kernel
theorem dX12_readAll_97 : decode cX12_readAll 97 = .ok (.invokevirtual 344, 3) := by decide +kernel
theorem dX12_readAll_100 : decode cX12_readAll 100 = .ok (.goto (-18), 3) := by decide +kernel
theorem dX12_readAll_103 : decode cX12_readAll 103 = .ok (.return_, 1) := by decide +kernel
theorem dX12_house_0 : decode cX12_house 0 = .ok (.aload_n 0, 1) := by decide +kernel
theorem dX12_house_1 : decode cX12_house 1 = .ok (.invokevirtual 347, 3) := by decide +kernel
theorem dX12_house_4 : decode cX12_house 4 = .ok (.aload_n 0, 1) := by decide +kernel
theorem dX12_house_5 : decode cX12_house 5 = .ok (.getfield 182, 3) := by decide +kernel
theorem dX12_house_8 : decode cX12_house 8 = .ok (.ifCond .le 5, 3) := by decide +kernel
theorem dX12_house_11 : decode cX12_house 11 = .ok (.iconst (-1), 1) := by decide +kernel
theorem dX12_house_12 : decode cX12_house 12 = .ok (.ireturn, 1) := by decide +kernel
theorem dX12_house_13 : decode cX12_house 13 = .ok (.aload_n 0, 1) := by decide +kernel
theorem dX12_house_14 : decode cX12_house 14 = .ok (.aload_n 0, 1) := by decide +kernel
theorem dX12_house_15 : decode cX12_house 15 = .ok (.getfield 312, 3) := by decide +kernel
theorem dX12_house_18 : decode cX12_house 18 = .ok (.putfield 82, 3) := by decide +kernel
theorem dX12_house_21 : decode cX12_house 21 = .ok (.aload_n 0, 1) := by decide +kernel
theorem dX12_house_22 : decode cX12_house 22 = .ok (.aload_n 0, 1) := by decide +kernel
theorem dX12_house_23 : decode cX12_house 23 = .ok (.getfield 248, 3) := by decide +kernel
theorem dX12_house_26 : decode cX12_house 26 = .ok (.putfield 350, 3) := by decide +kernel
theorem dX12_house_29 : decode cX12_house 29 = .ok (.aload_n 0, 1) := by decide +kernel
theorem dX12_house_30 : decode cX12_house 30 = .ok (.aload_n 0, 1) := by decide +kernel
theorem dX12_house_31 : decode cX12_house 31 = .ok (.getfield 267, 3) := by decide +kernel
theorem dX12_house_34 : decode cX12_house 34 = .ok (.putfield 353, 3) := by decide +kernel
theorem dX12_house_37 : decode cX12_house 37 = .ok (.iconst 0, 1) := by decide +kernel
theorem dX12_house_38 : decode cX12_house 38 = .ok (.istore_n 1, 1) := by decide +kernel
theorem dX12_house_39 : decode cX12_house 39 = .ok (.iload_n 1, 1) := by decide +kernel
theorem dX12_house_40 : decode cX12_house 40 = .ok (.iconst 2, 1) := by decide +kernel
theorem dX12_house_41 : decode cX12_house 41 = .ok (.if_icmp .ge 86, 3) := by decide +kernel
theorem dX12_house_44 : decode cX12_house 44 = .ok (.aload_n 0, 1) := by decide +kernel
theorem dX12_house_45 : decode cX12_house 45 = .ok (.getfield 36, 3) := by decide +kernel
theorem dX12_house_48 : decode cX12_house 48 = .ok (.iload_n 1, 1) := by decide +kernel
theorem dX12_house_49 : decode cX12_house 49 = .ok (.aload_n 0, 1) := by decide +kernel
theorem dX12_house_50 : decode cX12_house 50 = .ok (.getfield 45, 3) := by decide +kernel
theorem dX12_house_53 : decode cX12_house 53 = .ok (.iload_n 1, 1) := by decide +kernel
theorem dX12_house_54 : decode cX12_house 54 = .ok (.baload, 1) := by decide +kernel
theorem dX12_house_55 : decode cX12_house 55 = .ok (.ifCond .eq 12, 3) := by decide +kernel
theorem dX12_house_58 : decode cX12_house 58 = .ok (.aload_n 0, 1) := by decide +kernel
theorem dX12_house_59 : decode cX12_house 59 = .ok (.getfield 27, 3) := by decide +kernel
theorem dX12_house_62 : decode cX12_house 62 = .ok (.iload_n 1, 1) := by decide +kernel
theorem dX12_house_63 : decode cX12_house 63 = .ok (.iaload, 1) := by decide +kernel
theorem dX12_house_64 : decode cX12_house 64 = .ok (.goto 4, 3) := by decide +kernel
theorem dX12_house_67 : decode cX12_house 67 = .ok (.iconst 0, 1) := by decide +kernel
theorem dX12_house_68 : decode cX12_house 68 = .ok (.iastore, 1) := by decide +kernel
theorem dX12_house_69 : decode cX12_house 69 = .ok (.sipush 320, 3) := by decide +kernel
theorem dX12_house_72 : decode cX12_house 72 = .ok (.iload_n 1, 1) := by decide +kernel
theorem dX12_house_73 : decode cX12_house 73 = .ok (.imul, 1) := by decide +kernel
theorem dX12_house_74 : decode cX12_house 74 = .ok (.istore_n 2, 1) := by decide +kernel
theorem dX12_house_75 : decode cX12_house 75 = .ok (.iload_n 2, 1) := by decide +kernel
theorem dX12_house_76 : decode cX12_house 76 = .ok (.sipush 320, 3) := by decide +kernel
theorem dX12_house_79 : decode cX12_house 79 = .ok (.iload_n 1, 1) := by decide +kernel
theorem dX12_house_80 : decode cX12_house 80 = .ok (.imul, 1) := by decide +kernel
theorem dX12_house_81 : decode cX12_house 81 = .ok (.aload_n 0, 1) := by decide +kernel
theorem dX12_house_82 : decode cX12_house 82 = .ok (.getfield 36, 3) := by decide +kernel
theorem dX12_house_85 : decode cX12_house 85 = .ok (.iload_n 1, 1) := by decide +kernel
theorem dX12_house_86 : decode cX12_house 86 = .ok (.iaload, 1) := by decide +kernel
theorem dX12_house_87 : decode cX12_house 87 = .ok (.iadd, 1) := by decide +kernel
theorem dX12_house_88 : decode cX12_house 88 = .ok (.if_icmp .ge 33, 3) := by decide +kernel
theorem dX12_house_91 : decode cX12_house 91 = .ok (.aload_n 0, 1) := by decide +kernel
theorem dX12_house_92 : decode cX12_house 92 = .ok (.getfield 30, 3) := by decide +kernel
theorem dX12_house_95 : decode cX12_house 95 = .ok (.iload_n 2, 1) := by decide +kernel
theorem dX12_house_96 : decode cX12_house 96 = .ok (.aload_n 0, 1) := by decide +kernel
theorem dX12_house_97 : decode cX12_house 97 = .ok (.getfield 21, 3) := by decide +kernel
theorem dX12_house_100 : decode cX12_house 100 = .ok (.iload_n 2, 1) := by decide +kernel
theorem dX12_house_101 : decode cX12_house 101 = .ok (.iaload, 1) := by decide +kernel
theorem dX12_house_102 : decode cX12_house 102 = .ok (.iastore, 1) := by decide +kernel
theorem dX12_house_103 : decode cX12_house 103 = .ok (.aload_n 0, 1) := by decide +kernel
theorem dX12_house_104 : decode cX12_house 104 = .ok (.getfield 33, 3) := by decide +kernel
theorem dX12_house_107 : decode cX12_house 107 = .ok (.iload_n 2, 1) := by decide +kernel
theorem dX12_house_108 : decode cX12_house 108 = .ok (.aload_n 0, 1) := by decide +kernel
theorem dX12_house_109 : decode cX12_house 109 = .ok (.getfield 24, 3) := by decide +kernel
theorem dX12_house_112 : decode cX12_house 112 = .ok (.iload_n 2, 1) := by decide +kernel
theorem dX12_house_113 : decode cX12_house 113 = .ok (.iaload, 1) := by decide +kernel
theorem dX12_house_114 : decode cX12_house 114 = .ok (.iastore, 1) := by decide +kernel
theorem dX12_house_115 : decode cX12_house 115 = .ok (.iinc 2 1, 3) := by decide +kernel
theorem dX12_house_118 : decode cX12_house 118 = .ok (.goto (-43), 3) := by decide +kernel
theorem dX12_house_121 : decode cX12_house 121 = .ok (.iinc 1 1, 3) := by decide +kernel
theorem dX12_house_124 : decode cX12_house 124 = .ok (.goto (-85), 3) := by decide +kernel
theorem dX12_house_127 : decode cX12_house 127 = .ok (.iconst 0, 1) := by decide +kernel
theorem dX12_house_128 : decode cX12_house 128 = .ok (.istore_n 1, 1) := by decide +kernel
theorem dX12_house_129 : decode cX12_house 129 = .ok (.iload_n 1, 1) := by decide +kernel
theorem dX12_house_130 : decode cX12_house 130 = .ok (.bipush 28, 2) := by decide +kernel
theorem dX12_house_132 : decode cX12_house 132 = .ok (.if_icmp .ge 16, 3) := by decide +kernel
theorem dX12_house_135 : decode cX12_house 135 = .ok (.aload_n 0, 1) := by decide +kernel
theorem dX12_house_136 : decode cX12_house 136 = .ok (.getfield 85, 3) := by decide +kernel
theorem dX12_house_139 : decode cX12_house 139 = .ok (.iload_n 1, 1) := by decide +kernel
theorem dX12_house_140 : decode cX12_house 140 = .ok (.iconst 0, 1) := by decide +kernel
theorem dX12_house_141 : decode cX12_house 141 = .ok (.iastore, 1) := by decide +kernel
theorem dX12_house_142 : decode cX12_house 142 = .ok (.iinc 1 1, 3) := by decide +kernel
theorem dX12_house_145 : decode cX12_house 145 = .ok (.goto (-16), 3) := by decide +kernel
theorem dX12_house_148 : decode cX12_house 148 = .ok (.iconst 0, 1) := by decide +kernel
theorem dX12_house_149 : decode cX12_house 149 = .ok (.istore_n 1, 1) := by decide +kernel
theorem dX12_house_150 : decode cX12_house 150 = .ok (.iload_n 1, 1) := by decide +kernel
theorem dX12_house_151 : decode cX12_house 151 = .ok (.aload_n 0, 1) := by decide +kernel
theorem dX12_house_152 : decode cX12_house 152 = .ok (.getfield 350, 3) := by decide +kernel
theorem dX12_house_155 : decode cX12_house 155 = .ok (.if_icmp .ge 81, 3) := by decide +kernel
theorem dX12_house_158 : decode cX12_house 158 = .ok (.aload_n 0, 1) := by decide +kernel
theorem dX12_house_159 : decode cX12_house 159 = .ok (.getfield 67, 3) := by decide +kernel
theorem dX12_house_162 : decode cX12_house 162 = .ok (.iload_n 1, 1) := by decide +kernel
theorem dX12_house_163 : decode cX12_house 163 = .ok (.aload_n 0, 1) := by decide +kernel
theorem dX12_house_164 : decode cX12_house 164 = .ok (.getfield 52, 3) := by decide +kernel
theorem dX12_house_167 : decode cX12_house 167 = .ok (.iload_n 1, 1) := by decide +kernel
theorem dX12_house_168 : decode cX12_house 168 = .ok (.iaload, 1) := by decide +kernel
theorem dX12_house_169 : decode cX12_house 169 = .ok (.iastore, 1) := by decide +kernel
theorem dX12_house_170 : decode cX12_house 170 = .ok (.aload_n 0, 1) := by decide +kernel
theorem dX12_house_171 : decode cX12_house 171 = .ok (.getfield 70, 3) := by decide +kernel
theorem dX12_house_174 : decode cX12_house 174 = .ok (.iload_n 1, 1) := by decide +kernel
theorem dX12_house_175 : decode cX12_house 175 = .ok (.aload_n 0, 1) := by decide +kernel
theorem dX12_house_176 : decode cX12_house 176 = .ok (.getfield 55, 3) := by decide +kernel
theorem dX12_house_179 : decode cX12_house 179 = .ok (.iload_n 1, 1) := by decide +kernel
theorem dX12_house_180 : decode cX12_house 180 = .ok (.iaload, 1) := by decide +kernel
theorem dX12_house_181 : decode cX12_house 181 = .ok (.iastore, 1) := by decide +kernel
theorem dX12_house_182 : decode cX12_house 182 = .ok (.aload_n 0, 1) := by decide +kernel
theorem dX12_house_183 : decode cX12_house 183 = .ok (.getfield 73, 3) := by decide +kernel
theorem dX12_house_186 : decode cX12_house 186 = .ok (.iload_n 1, 1) := by decide +kernel
theorem dX12_house_187 : decode cX12_house 187 = .ok (.aload_n 0, 1) := by decide +kernel
theorem dX12_house_188 : decode cX12_house 188 = .ok (.getfield 58, 3) := by decide +kernel
theorem dX12_house_191 : decode cX12_house 191 = .ok (.iload_n 1, 1) := by decide +kernel
theorem dX12_house_192 : decode cX12_house 192 = .ok (.iaload, 1) := by decide +kernel
theorem dX12_house_193 : decode cX12_house 193 = .ok (.iastore, 1) := by decide +kernel
theorem dX12_house_194 : decode cX12_house 194 = .ok (.aload_n 0, 1) := by decide +kernel
theorem dX12_house_195 : decode cX12_house 195 = .ok (.getfield 76, 3) := by decide +kernel
theorem dX12_house_198 : decode cX12_house 198 = .ok (.iload_n 1, 1) := by decide +kernel
theorem dX12_house_199 : decode cX12_house 199 = .ok (.aload_n 0, 1) := by decide +kernel
theorem dX12_house_200 : decode cX12_house 200 = .ok (.getfield 61, 3) := by decide +kernel
theorem dX12_house_203 : decode cX12_house 203 = .ok (.iload_n 1, 1) := by decide +kernel
theorem dX12_house_204 : decode cX12_house 204 = .ok (.iaload, 1) := by decide +kernel
theorem dX12_house_205 : decode cX12_house 205 = .ok (.iastore, 1) := by decide +kernel
theorem dX12_house_206 : decode cX12_house 206 = .ok (.aload_n 0, 1) := by decide +kernel
theorem dX12_house_207 : decode cX12_house 207 = .ok (.getfield 79, 3) := by decide +kernel
theorem dX12_house_210 : decode cX12_house 210 = .ok (.iload_n 1, 1) := by decide +kernel
theorem dX12_house_211 : decode cX12_house 211 = .ok (.aload_n 0, 1) := by decide +kernel
theorem dX12_house_212 : decode cX12_house 212 = .ok (.getfield 64, 3) := by decide +kernel
theorem dX12_house_215 : decode cX12_house 215 = .ok (.iload_n 1, 1) := by decide +kernel
theorem dX12_house_216 : decode cX12_house 216 = .ok (.iaload, 1) := by decide +kernel
theorem dX12_house_217 : decode cX12_house 217 = .ok (.iastore, 1) := by decide +kernel
theorem dX12_house_218 : decode cX12_house 218 = .ok (.aload_n 0, 1) := by decide +kernel
theorem dX12_house_219 : decode cX12_house 219 = .ok (.getfield 85, 3) := by decide +kernel
theorem dX12_house_222 : decode cX12_house 222 = .ok (.iload_n 1, 1) := by decide +kernel
theorem dX12_house_223 : decode cX12_house 223 = .ok (.aload_n 0, 1) := by decide +kernel
theorem dX12_house_224 : decode cX12_house 224 = .ok (.getfield 70, 3) := by decide +kernel
theorem dX12_house_227 : decode cX12_house 227 = .ok (.iload_n 1, 1) := by decide +kernel
theorem dX12_house_228 : decode cX12_house 228 = .ok (.iaload, 1) := by decide +kernel
theorem dX12_house_229 : decode cX12_house 229 = .ok (.iastore, 1) := by decide +kernel
theorem dX12_house_230 : decode cX12_house 230 = .ok (.iinc 1 1, 3) := by decide +kernel
theorem dX12_house_233 : decode cX12_house 233 = .ok (.goto (-83), 3) := by decide +kernel
theorem dX12_house_236 : decode cX12_house 236 = .ok (.aload_n 0, 1) := by decide +kernel
theorem dX12_house_237 : decode cX12_house 237 = .ok (.getfield 85, 3) := by decide +kernel
theorem dX12_house_240 : decode cX12_house 240 = .ok (.bipush 25, 2) := by decide +kernel
theorem dX12_house_242 : decode cX12_house 242 = .ok (.aload_n 0, 1) := by decide +kernel
theorem dX12_house_243 : decode cX12_house 243 = .ok (.getfield 319, 3) := by decide +kernel
theorem dX12_house_246 : decode cX12_house 246 = .ok (.iastore, 1) := by decide +kernel
theorem dX12_house_247 : decode cX12_house 247 = .ok (.aload_n 0, 1) := by decide +kernel
theorem dX12_house_248 : decode cX12_house 248 = .ok (.getfield 85, 3) := by decide +kernel
theorem dX12_house_251 : decode cX12_house 251 = .ok (.bipush 27, 2) := by decide +kernel
theorem dX12_house_253 : decode cX12_house 253 = .ok (.aload_n 0, 1) := by decide +kernel
theorem dX12_house_254 : decode cX12_house 254 = .ok (.getfield 341, 3) := by decide +kernel
theorem dX12_house_257 : decode cX12_house 257 = .ok (.iastore, 1) := by decide +kernel
theorem dX12_house_258 : decode cX12_house 258 = .ok (.aload_n 0, 1) := by decide +kernel
theorem dX12_house_259 : decode cX12_house 259 = .ok (.iconst 0, 1) := by decide +kernel
theorem dX12_house_260 : decode cX12_house 260 = .ok (.putfield 356, 3) := by decide +kernel
theorem dX12_house_263 : decode cX12_house 263 = .ok (.aload_n 0, 1) := by decide +kernel
theorem dX12_house_264 : decode cX12_house 264 = .ok (.iconst 0, 1) := by decide +kernel
theorem dX12_house_265 : decode cX12_house 265 = .ok (.putfield 359, 3) := by decide +kernel
theorem dX12_house_268 : decode cX12_house 268 = .ok (.aload_n 0, 1) := by decide +kernel
theorem dX12_house_269 : decode cX12_house 269 = .ok (.iconst 0, 1) := by decide +kernel
theorem dX12_house_270 : decode cX12_house 270 = .ok (.putfield 362, 3) := by decide +kernel
theorem dX12_house_273 : decode cX12_house 273 = .ok (.aload_n 0, 1) := by decide +kernel
theorem dX12_house_274 : decode cX12_house 274 = .ok (.iconst 0, 1) := by decide +kernel
theorem dX12_house_275 : decode cX12_house 275 = .ok (.putfield 365, 3) := by decide +kernel
theorem dX12_house_278 : decode cX12_house 278 = .ok (.iconst 0, 1) := by decide +kernel
theorem dX12_house_279 : decode cX12_house 279 = .ok (.istore_n 1, 1) := by decide +kernel
theorem dX12_house_280 : decode cX12_house 280 = .ok (.iload_n 1, 1) := by decide +kernel
theorem dX12_house_281 : decode cX12_house 281 = .ok (.iconst 3, 1) := by decide +kernel
theorem dX12_house_282 : decode cX12_house 282 = .ok (.if_icmp .ge 16, 3) := by decide +kernel
theorem dX12_house_285 : decode cX12_house 285 = .ok (.aload_n 0, 1) := by decide +kernel
theorem dX12_house_286 : decode cX12_house 286 = .ok (.getfield 136, 3) := by decide +kernel
theorem dX12_house_289 : decode cX12_house 289 = .ok (.iload_n 1, 1) := by decide +kernel
theorem dX12_house_290 : decode cX12_house 290 = .ok (.iconst 0, 1) := by decide +kernel
theorem dX12_house_291 : decode cX12_house 291 = .ok (.bastore, 1) := by decide +kernel
theorem dX12_house_292 : decode cX12_house 292 = .ok (.iinc 1 1, 3) := by decide +kernel
theorem dX12_house_295 : decode cX12_house 295 = .ok (.goto (-15), 3) := by decide +kernel
theorem dX12_house_298 : decode cX12_house 298 = .ok (.aload_n 0, 1) := by decide +kernel
theorem dX12_house_299 : decode cX12_house 299 = .ok (.getfield 350, 3) := by decide +kernel
theorem dX12_house_302 : decode cX12_house 302 = .ok (.ireturn, 1) := by decide +kernel
theorem dX12_fault_0 : decode cX12_fault 0 = .ok (.iload_n 1, 1) := by decide +kernel
theorem dX12_fault_1 : decode cX12_fault 1 = .ok (.ifCond .ne 10, 3) := by decide +kernel
theorem dX12_fault_4 : decode cX12_fault 4 = .ok (.aload_n 0, 1) := by decide +kernel
theorem dX12_fault_5 : decode cX12_fault 5 = .ok (.getfield 182, 3) := by decide +kernel
theorem dX12_fault_8 : decode cX12_fault 8 = .ok (.goto 16, 3) := by decide +kernel
theorem dX12_fault_11 : decode cX12_fault 11 = .ok (.iload_n 1, 1) := by decide +kernel
theorem dX12_fault_12 : decode cX12_fault 12 = .ok (.iconst 1, 1) := by decide +kernel
theorem dX12_fault_13 : decode cX12_fault 13 = .ok (.if_icmp .ne 10, 3) := by decide +kernel
theorem dX12_fault_16 : decode cX12_fault 16 = .ok (.aload_n 0, 1) := by decide +kernel
theorem dX12_fault_17 : decode cX12_fault 17 = .ok (.getfield 13, 3) := by decide +kernel
theorem dX12_fault_20 : decode cX12_fault 20 = .ok (.goto 4, 3) := by decide +kernel
theorem dX12_fault_23 : decode cX12_fault 23 = .ok (.iconst (-1), 1) := by decide +kernel
theorem dX12_fault_24 : decode cX12_fault 24 = .ok (.ireturn, 1) := by decide +kernel
theorem dX12_isIn_0 : decode cX12_isIn 0 = .ok (.iload_n 0, 1) := by decide +kernel
theorem dX12_isIn_1 : decode cX12_isIn 1 = .ok (.iload_n 1, 1) := by decide +kernel
theorem dX12_isIn_2 : decode cX12_isIn 2 = .ok (.if_icmp .lt 12, 3) := by decide +kernel
theorem dX12_isIn_5 : decode cX12_isIn 5 = .ok (.iload_n 0, 1) := by decide +kernel
theorem dX12_isIn_6 : decode cX12_isIn 6 = .ok (.iload_n 2, 1) := by decide +kernel
theorem dX12_isIn_7 : decode cX12_isIn 7 = .ok (.if_icmp .gt 7, 3) := by decide +kernel
theorem dX12_isIn_10 : decode cX12_isIn 10 = .ok (.iconst 1, 1) := by decide +kernel
theorem dX12_isIn_11 : decode cX12_isIn 11 = .ok (.goto 4, 3) := by decide +kernel
theorem dX12_isIn_14 : decode cX12_isIn 14 = .ok (.iconst 0, 1) := by decide +kernel
theorem dX12_isIn_15 : decode cX12_isIn 15 = .ok (.ireturn, 1) := by decide +kernel
theorem dX12_isTenant_0 : decode cX12_isTenant 0 = .ok (.iload_n 1, 1) := by decide +kernel
theorem dX12_isTenant_1 : decode cX12_isTenant 1 = .ok (.iconst 0, 1) := by decide +kernel
theorem dX12_isTenant_2 : decode cX12_isTenant 2 = .ok (.aload_n 0, 1) := by decide +kernel
theorem dX12_isTenant_3 : decode cX12_isTenant 3 = .ok (.getfield 350, 3) := by decide +kernel
theorem dX12_isTenant_6 : decode cX12_isTenant 6 = .ok (.iconst 1, 1) := by decide +kernel
theorem dX12_isTenant_7 : decode cX12_isTenant 7 = .ok (.isub, 1) := by decide +kernel
theorem dX12_isTenant_8 : decode cX12_isTenant 8 = .ok (.invokestatic 368, 3) := by decide +kernel
theorem dX12_isTenant_11 : decode cX12_isTenant 11 = .ok (.ireturn, 1) := by decide +kernel
theorem dX12_members_0 : decode cX12_members 0 = .ok (.iconst 0, 1) := by decide +kernel
theorem dX12_members_1 : decode cX12_members 1 = .ok (.istore_n 1, 1) := by decide +kernel
theorem dX12_members_2 : decode cX12_members 2 = .ok (.iconst 0, 1) := by decide +kernel
theorem dX12_members_3 : decode cX12_members 3 = .ok (.istore_n 2, 1) := by decide +kernel
theorem dX12_members_4 : decode cX12_members 4 = .ok (.iload_n 2, 1) := by decide +kernel
theorem dX12_members_5 : decode cX12_members 5 = .ok (.bipush 8, 2) := by decide +kernel
theorem dX12_members_7 : decode cX12_members 7 = .ok (.if_icmp .ge 17, 3) := by decide +kernel
theorem dX12_members_10 : decode cX12_members 10 = .ok (.iload_n 1, 1) := by decide +kernel
theorem dX12_members_11 : decode cX12_members 11 = .ok (.iload_n 0, 1) := by decide +kernel
theorem dX12_members_12 : decode cX12_members 12 = .ok (.iload_n 2, 1) := by decide +kernel
theorem dX12_members_13 : decode cX12_members 13 = .ok (.ishr, 1) := by decide +kernel
theorem dX12_members_14 : decode cX12_members 14 = .ok (.iconst 1, 1) := by decide +kernel
theorem dX12_members_15 : decode cX12_members 15 = .ok (.iand, 1) := by decide +kernel
theorem dX12_members_16 : decode cX12_members 16 = .ok (.iadd, 1) := by decide +kernel
theorem dX12_members_17 : decode cX12_members 17 = .ok (.istore_n 1, 1) := by decide +kernel
theorem dX12_members_18 : decode cX12_members 18 = .ok (.iinc 2 1, 3) := by decide +kernel
theorem dX12_members_21 : decode cX12_members 21 = .ok (.goto (-17), 3) := by decide +kernel
theorem dX12_members_24 : decode cX12_members 24 = .ok (.iload_n 1, 1) := by decide +kernel
theorem dX12_members_25 : decode cX12_members 25 = .ok (.ireturn, 1) := by decide +kernel
theorem dX12_load_0 : decode cX12_load 0 = .ok (.iconst 0, 1) := by decide +kernel
theorem dX12_load_1 : decode cX12_load 1 = .ok (.istore_n 1, 1) := by decide +kernel
theorem dX12_load_2 : decode cX12_load 2 = .ok (.iload_n 1, 1) := by decide +kernel
theorem dX12_load_3 : decode cX12_load 3 = .ok (.bipush 28, 2) := by decide +kernel
theorem dX12_load_5 : decode cX12_load 5 = .ok (.if_icmp .ge 21, 3) := by decide +kernel
theorem dX12_load_8 : decode cX12_load 8 = .ok (.aload_n 0, 1) := by decide +kernel
theorem dX12_load_9 : decode cX12_load 9 = .ok (.getfield 88, 3) := by decide +kernel
theorem dX12_load_12 : decode cX12_load 12 = .ok (.iload_n 1, 1) := by decide +kernel
theorem dX12_load_13 : decode cX12_load 13 = .ok (.aload_n 0, 1) := by decide +kernel
theorem dX12_load_14 : decode cX12_load 14 = .ok (.getfield 85, 3) := by decide +kernel
theorem dX12_load_17 : decode cX12_load 17 = .ok (.iload_n 1, 1) := by decide +kernel
theorem dX12_load_18 : decode cX12_load 18 = .ok (.iaload, 1) := by decide +kernel
theorem dX12_load_19 : decode cX12_load 19 = .ok (.iastore, 1) := by decide +kernel
theorem dX12_load_20 : decode cX12_load 20 = .ok (.iinc 1 1, 3) := by decide +kernel
theorem dX12_load_23 : decode cX12_load 23 = .ok (.goto (-21), 3) := by decide +kernel
theorem dX12_load_26 : decode cX12_load 26 = .ok (.return_, 1) := by decide +kernel
theorem dX12_keepAir_0 : decode cX12_keepAir 0 = .ok (.iconst 0, 1) := by decide +kernel
theorem dX12_keepAir_1 : decode cX12_keepAir 1 = .ok (.istore_n 1, 1) := by decide +kernel
theorem dX12_keepAir_2 : decode cX12_keepAir 2 = .ok (.iload_n 1, 1) := by decide +kernel
theorem dX12_keepAir_3 : decode cX12_keepAir 3 = .ok (.bipush 28, 2) := by decide +kernel
theorem dX12_keepAir_5 : decode cX12_keepAir 5 = .ok (.if_icmp .ge 21, 3) := by decide +kernel
theorem dX12_keepAir_8 : decode cX12_keepAir 8 = .ok (.aload_n 0, 1) := by decide +kernel
theorem dX12_keepAir_9 : decode cX12_keepAir 9 = .ok (.getfield 85, 3) := by decide +kernel
theorem dX12_keepAir_12 : decode cX12_keepAir 12 = .ok (.iload_n 1, 1) := by decide +kernel
theorem dX12_keepAir_13 : decode cX12_keepAir 13 = .ok (.aload_n 0, 1) := by decide +kernel
theorem dX12_keepAir_14 : decode cX12_keepAir 14 = .ok (.getfield 88, 3) := by decide +kernel
theorem dX12_keepAir_17 : decode cX12_keepAir 17 = .ok (.iload_n 1, 1) := by decide +kernel
theorem dX12_keepAir_18 : decode cX12_keepAir 18 = .ok (.iaload, 1) := by decide +kernel
theorem dX12_keepAir_19 : decode cX12_keepAir 19 = .ok (.iastore, 1) := by decide +kernel
theorem dX12_keepAir_20 : decode cX12_keepAir 20 = .ok (.iinc 1 1, 3) := by decide +kernel
theorem dX12_keepAir_23 : decode cX12_keepAir 23 = .ok (.goto (-21), 3) := by decide +kernel
theorem dX12_keepAir_26 : decode cX12_keepAir 26 = .ok (.return_, 1) := by decide +kernel
theorem dX12_dueOf_0 : decode cX12_dueOf 0 = .ok (.aload_n 0, 1) := by decide +kernel
theorem dX12_dueOf_1 : decode cX12_dueOf 1 = .ok (.getfield 76, 3) := by decide +kernel
theorem dX12_dueOf_4 : decode cX12_dueOf 4 = .ok (.iload_n 1, 1) := by decide +kernel
theorem dX12_dueOf_5 : decode cX12_dueOf 5 = .ok (.iaload, 1) := by decide +kernel
theorem dX12_dueOf_6 : decode cX12_dueOf 6 = .ok (.aload_n 0, 1) := by decide +kernel
theorem dX12_dueOf_7 : decode cX12_dueOf 7 = .ok (.getfield 88, 3) := by decide +kernel
theorem dX12_dueOf_10 : decode cX12_dueOf 10 = .ok (.bipush 16, 2) := by decide +kernel
theorem dX12_dueOf_12 : decode cX12_dueOf 12 = .ok (.iload_n 1, 1) := by decide +kernel
theorem dX12_dueOf_13 : decode cX12_dueOf 13 = .ok (.iadd, 1) := by decide +kernel
theorem dX12_dueOf_14 : decode cX12_dueOf 14 = .ok (.iaload, 1) := by decide +kernel
theorem dX12_dueOf_15 : decode cX12_dueOf 15 = .ok (.iadd, 1) := by decide +kernel
theorem dX12_dueOf_16 : decode cX12_dueOf 16 = .ok (.ireturn, 1) := by decide +kernel
theorem dX12_lackOf_0 : decode cX12_lackOf 0 = .ok (.aload_n 0, 1) := by decide +kernel
theorem dX12_lackOf_1 : decode cX12_lackOf 1 = .ok (.iload_n 1, 1) := by decide +kernel
theorem dX12_lackOf_2 : decode cX12_lackOf 2 = .ok (.invokevirtual 372, 3) := by decide +kernel
theorem dX12_lackOf_5 : decode cX12_lackOf 5 = .ok (.aload_n 0, 1) := by decide +kernel
theorem dX12_lackOf_6 : decode cX12_lackOf 6 = .ok (.getfield 88, 3) := by decide +kernel
theorem dX12_lackOf_9 : decode cX12_lackOf 9 = .ok (.bipush 8, 2) := by decide +kernel
theorem dX12_lackOf_11 : decode cX12_lackOf 11 = .ok (.iload_n 1, 1) := by decide +kernel
theorem dX12_lackOf_12 : decode cX12_lackOf 12 = .ok (.iadd, 1) := by decide +kernel
theorem dX12_lackOf_13 : decode cX12_lackOf 13 = .ok (.iaload, 1) := by decide +kernel
theorem dX12_lackOf_14 : decode cX12_lackOf 14 = .ok (.if_icmp .le 21, 3) := by decide +kernel
theorem dX12_lackOf_17 : decode cX12_lackOf 17 = .ok (.aload_n 0, 1) := by decide +kernel
theorem dX12_lackOf_18 : decode cX12_lackOf 18 = .ok (.iload_n 1, 1) := by decide +kernel
theorem dX12_lackOf_19 : decode cX12_lackOf 19 = .ok (.invokevirtual 372, 3) := by decide +kernel
theorem dX12_lackOf_22 : decode cX12_lackOf 22 = .ok (.aload_n 0, 1) := by decide +kernel
theorem dX12_lackOf_23 : decode cX12_lackOf 23 = .ok (.getfield 88, 3) := by decide +kernel
theorem dX12_lackOf_26 : decode cX12_lackOf 26 = .ok (.bipush 8, 2) := by decide +kernel
theorem dX12_lackOf_28 : decode cX12_lackOf 28 = .ok (.iload_n 1, 1) := by decide +kernel
theorem dX12_lackOf_29 : decode cX12_lackOf 29 = .ok (.iadd, 1) := by decide +kernel
theorem dX12_lackOf_30 : decode cX12_lackOf 30 = .ok (.iaload, 1) := by decide +kernel
theorem dX12_lackOf_31 : decode cX12_lackOf 31 = .ok (.isub, 1) := by decide +kernel
theorem dX12_lackOf_32 : decode cX12_lackOf 32 = .ok (.goto 4, 3) := by decide +kernel
theorem dX12_lackOf_35 : decode cX12_lackOf 35 = .ok (.iconst 0, 1) := by decide +kernel
theorem dX12_lackOf_36 : decode cX12_lackOf 36 = .ok (.ireturn, 1) := by decide +kernel
theorem dX12_countOf_0 : decode cX12_countOf 0 = .ok (.aload_n 0, 1) := by decide +kernel
theorem dX12_countOf_1 : decode cX12_countOf 1 = .ok (.iconst 0, 1) := by decide +kernel
theorem dX12_countOf_2 : decode cX12_countOf 2 = .ok (.iload_n 1, 1) := by decide +kernel
theorem dX12_countOf_3 : decode cX12_countOf 3 = .ok (.iload_n 2, 1) := by decide +kernel
theorem dX12_countOf_4 : decode cX12_countOf 4 = .ok (.ifCond .ge 7, 3) := by decide +kernel
theorem dX12_countOf_7 : decode cX12_countOf 7 = .ok (.iconst 0, 1) := by decide +kernel
theorem dX12_countOf_8 : decode cX12_countOf 8 = .ok (.goto 9, 3) := by decide +kernel
theorem dX12_countOf_11 : decode cX12_countOf 11 = .ok (.aload_n 0, 1) := by decide +kernel
theorem dX12_countOf_12 : decode cX12_countOf 12 = .ok (.getfield 73, 3) := by decide +kernel
theorem dX12_countOf_15 : decode cX12_countOf 15 = .ok (.iload_n 2, 1) := by decide +kernel
theorem dX12_countOf_16 : decode cX12_countOf 16 = .ok (.iaload, 1) := by decide +kernel
theorem dX12_countOf_17 : decode cX12_countOf 17 = .ok (.iload_n 3, 1) := by decide +kernel
theorem dX12_countOf_18 : decode cX12_countOf 18 = .ok (.bipush 10, 2) := by decide +kernel
theorem dX12_countOf_20 : decode cX12_countOf 20 = .ok (.iload_n 1, 1) := by decide +kernel
theorem dX12_countOf_21 : decode cX12_countOf 21 = .ok (.imul, 1) := by decide +kernel
theorem dX12_countOf_22 : decode cX12_countOf 22 = .ok (.invokevirtual 375, 3) := by decide +kernel
theorem dX12_countOf_25 : decode cX12_countOf 25 = .ok (.sipush 999, 3) := by decide +kernel
theorem dX12_countOf_28 : decode cX12_countOf 28 = .ok (.invokestatic 379, 3) := by decide +kernel
theorem dX12_countOf_31 : decode cX12_countOf 31 = .ok (.ireturn, 1) := by decide +kernel
theorem dX12_breathFor_0 : decode cX12_breathFor 0 = .ok (.iload_n 2, 1) := by decide +kernel
theorem dX12_breathFor_1 : decode cX12_breathFor 1 = .ok (.ifCond .ge 7, 3) := by decide +kernel
theorem dX12_breathFor_4 : decode cX12_breathFor 4 = .ok (.iload_n 1, 1) := by decide +kernel
theorem dX12_breathFor_5 : decode cX12_breathFor 5 = .ok (.goto 15, 3) := by decide +kernel
theorem dX12_breathFor_8 : decode cX12_breathFor 8 = .ok (.iload_n 1, 1) := by decide +kernel
theorem dX12_breathFor_9 : decode cX12_breathFor 9 = .ok (.iconst 1, 1) := by decide +kernel
theorem dX12_breathFor_10 : decode cX12_breathFor 10 = .ok (.aload_n 0, 1) := by decide +kernel
theorem dX12_breathFor_11 : decode cX12_breathFor 11 = .ok (.getfield 73, 3) := by decide +kernel
theorem dX12_breathFor_14 : decode cX12_breathFor 14 = .ok (.iload_n 2, 1) := by decide +kernel
theorem dX12_breathFor_15 : decode cX12_breathFor 15 = .ok (.iaload, 1) := by decide +kernel
theorem dX12_breathFor_16 : decode cX12_breathFor 16 = .ok (.iconst 3, 1) := by decide +kernel
theorem dX12_breathFor_17 : decode cX12_breathFor 17 = .ok (.idiv, 1) := by decide +kernel
theorem dX12_breathFor_18 : decode cX12_breathFor 18 = .ok (.iadd, 1) := by decide +kernel
theorem dX12_breathFor_19 : decode cX12_breathFor 19 = .ok (.imul, 1) := by decide +kernel
theorem dX12_breathFor_20 : decode cX12_breathFor 20 = .ok (.ireturn, 1) := by decide +kernel
theorem dX12_canClimb_0 : decode cX12_canClimb 0 = .ok (.aload_n 0, 1) := by decide +kernel
theorem dX12_canClimb_1 : decode cX12_canClimb 1 = .ok (.iload_n 1, 1) := by decide +kernel
theorem dX12_canClimb_2 : decode cX12_canClimb 2 = .ok (.invokevirtual 382, 3) := by decide +kernel
theorem dX12_canClimb_5 : decode cX12_canClimb 5 = .ok (.ifCond .eq 43, 3) := by decide +kernel
theorem dX12_canClimb_8 : decode cX12_canClimb 8 = .ok (.iload_n 2, 1) := by decide +kernel
theorem dX12_canClimb_9 : decode cX12_canClimb 9 = .ok (.iconst 1, 1) := by decide +kernel
theorem dX12_canClimb_10 : decode cX12_canClimb 10 = .ok (.aload_n 0, 1) := by decide +kernel
theorem dX12_canClimb_11 : decode cX12_canClimb 11 = .ok (.getfield 82, 3) := by decide +kernel
theorem dX12_canClimb_14 : decode cX12_canClimb 14 = .ok (.invokestatic 368, 3) := by decide +kernel
theorem dX12_canClimb_17 : decode cX12_canClimb 17 = .ok (.ifCond .eq 31, 3) := by decide +kernel
theorem dX12_canClimb_20 : decode cX12_canClimb 20 = .ok (.iload 4, 2) := by decide +kernel
theorem dX12_canClimb_22 : decode cX12_canClimb 22 = .ok (.iconst 0, 1) := by decide +kernel
theorem dX12_canClimb_23 : decode cX12_canClimb 23 = .ok (.iconst 1, 1) := by decide +kernel
theorem dX12_canClimb_24 : decode cX12_canClimb 24 = .ok (.invokestatic 368, 3) := by decide +kernel
theorem dX12_canClimb_27 : decode cX12_canClimb 27 = .ok (.ifCond .eq 21, 3) := by decide +kernel
theorem dX12_canClimb_30 : decode cX12_canClimb 30 = .ok (.iload_n 3, 1) := by decide +kernel
theorem dX12_canClimb_31 : decode cX12_canClimb 31 = .ok (.iconst (-1), 1) := by decide +kernel
theorem dX12_canClimb_32 : decode cX12_canClimb 32 = .ok (.if_icmp .eq 11, 3) := by decide +kernel
theorem dX12_canClimb_35 : decode cX12_canClimb 35 = .ok (.aload_n 0, 1) := by decide +kernel
theorem dX12_canClimb_36 : decode cX12_canClimb 36 = .ok (.iload_n 3, 1) := by decide +kernel
theorem dX12_canClimb_37 : decode cX12_canClimb 37 = .ok (.invokevirtual 382, 3) := by decide +kernel
theorem dX12_canClimb_40 : decode cX12_canClimb 40 = .ok (.ifCond .eq 8, 3) := by decide +kernel
theorem dX12_canClimb_43 : decode cX12_canClimb 43 = .ok (.iload_n 3, 1) := by decide +kernel
theorem dX12_canClimb_44 : decode cX12_canClimb 44 = .ok (.iload_n 1, 1) := by decide +kernel
theorem dX12_canClimb_45 : decode cX12_canClimb 45 = .ok (.if_icmp .ne 5, 3) := by decide +kernel
theorem dX12_canClimb_48 : decode cX12_canClimb 48 = .ok (.iconst 0, 1) := by decide +kernel
theorem dX12_canClimb_49 : decode cX12_canClimb 49 = .ok (.ireturn, 1) := by decide +kernel
theorem dX12_canClimb_50 : decode cX12_canClimb 50 = .ok (.aload_n 0, 1) := by decide +kernel
theorem dX12_canClimb_51 : decode cX12_canClimb 51 = .ok (.iload_n 2, 1) := by decide +kernel
theorem dX12_canClimb_52 : decode cX12_canClimb 52 = .ok (.iload_n 3, 1) := by decide +kernel
theorem dX12_canClimb_53 : decode cX12_canClimb 53 = .ok (.invokevirtual 385, 3) := by decide +kernel
theorem dX12_canClimb_56 : decode cX12_canClimb 56 = .ok (.aload_n 0, 1) := by decide +kernel
theorem dX12_canClimb_57 : decode cX12_canClimb 57 = .ok (.getfield 88, 3) := by decide +kernel
theorem dX12_canClimb_60 : decode cX12_canClimb 60 = .ok (.iload_n 1, 1) := by decide +kernel
theorem dX12_canClimb_61 : decode cX12_canClimb 61 = .ok (.iaload, 1) := by decide +kernel
theorem dX12_canClimb_62 : decode cX12_canClimb 62 = .ok (.if_icmp .gt 7, 3) := by decide +kernel
theorem dX12_canClimb_65 : decode cX12_canClimb 65 = .ok (.iconst 1, 1) := by decide +kernel
theorem dX12_canClimb_66 : decode cX12_canClimb 66 = .ok (.goto 4, 3) := by decide +kernel
theorem dX12_canClimb_69 : decode cX12_canClimb 69 = .ok (.iconst 0, 1) := by decide +kernel
theorem dX12_canClimb_70 : decode cX12_canClimb 70 = .ok (.ireturn, 1) := by decide +kernel
theorem dX12_goClimb_0 : decode cX12_goClimb 0 = .ok (.aload_n 0, 1) := by decide +kernel
theorem dX12_goClimb_1 : decode cX12_goClimb 1 = .ok (.getfield 88, 3) := by decide +kernel
theorem dX12_goClimb_4 : decode cX12_goClimb 4 = .ok (.bipush 8, 2) := by decide +kernel
theorem dX12_goClimb_6 : decode cX12_goClimb 6 = .ok (.iload_n 1, 1) := by decide +kernel
theorem dX12_goClimb_7 : decode cX12_goClimb 7 = .ok (.iadd, 1) := by decide +kernel
theorem dX12_goClimb_8 : decode cX12_goClimb 8 = .ok (.aload_n 0, 1) := by decide +kernel
theorem dX12_goClimb_9 : decode cX12_goClimb 9 = .ok (.getfield 88, 3) := by decide +kernel
theorem dX12_goClimb_12 : decode cX12_goClimb 12 = .ok (.bipush 8, 2) := by decide +kernel
theorem dX12_goClimb_14 : decode cX12_goClimb 14 = .ok (.iload_n 1, 1) := by decide +kernel
theorem dX12_goClimb_15 : decode cX12_goClimb 15 = .ok (.iadd, 1) := by decide +kernel
theorem dX12_goClimb_16 : decode cX12_goClimb 16 = .ok (.iaload, 1) := by decide +kernel
theorem dX12_goClimb_17 : decode cX12_goClimb 17 = .ok (.iload 4, 2) := by decide +kernel
theorem dX12_goClimb_19 : decode cX12_goClimb 19 = .ok (.iadd, 1) := by decide +kernel
theorem dX12_goClimb_20 : decode cX12_goClimb 20 = .ok (.sipush 9999, 3) := by decide +kernel
theorem dX12_goClimb_23 : decode cX12_goClimb 23 = .ok (.invokestatic 379, 3) := by decide +kernel
theorem dX12_goClimb_26 : decode cX12_goClimb 26 = .ok (.iastore, 1) := by decide +kernel
theorem dX12_goClimb_27 : decode cX12_goClimb 27 = .ok (.aload_n 0, 1) := by decide +kernel
theorem dX12_goClimb_28 : decode cX12_goClimb 28 = .ok (.getfield 88, 3) := by decide +kernel
theorem dX12_goClimb_31 : decode cX12_goClimb 31 = .ok (.iload_n 1, 1) := by decide +kernel
theorem dX12_goClimb_32 : decode cX12_goClimb 32 = .ok (.dup2, 1) := by decide +kernel
theorem dX12_goClimb_33 : decode cX12_goClimb 33 = .ok (.iaload, 1) := by decide +kernel
theorem dX12_goClimb_34 : decode cX12_goClimb 34 = .ok (.aload_n 0, 1) := by decide +kernel
theorem dX12_goClimb_35 : decode cX12_goClimb 35 = .ok (.iload_n 2, 1) := by decide +kernel
theorem dX12_goClimb_36 : decode cX12_goClimb 36 = .ok (.iload_n 3, 1) := by decide +kernel
theorem dX12_goClimb_37 : decode cX12_goClimb 37 = .ok (.invokevirtual 385, 3) := by decide +kernel
theorem dX12_goClimb_40 : decode cX12_goClimb 40 = .ok (.isub, 1) := by decide +kernel
theorem dX12_goClimb_41 : decode cX12_goClimb 41 = .ok (.iastore, 1) := by decide +kernel
theorem dX12_goClimb_42 : decode cX12_goClimb 42 = .ok (.aload_n 0, 1) := by decide +kernel
theorem dX12_goClimb_43 : decode cX12_goClimb 43 = .ok (.getfield 88, 3) := by decide +kernel
theorem dX12_goClimb_46 : decode cX12_goClimb 46 = .ok (.bipush 24, 2) := by decide +kernel
theorem dX12_goClimb_48 : decode cX12_goClimb 48 = .ok (.dup2, 1) := by decide +kernel
theorem dX12_goClimb_49 : decode cX12_goClimb 49 = .ok (.iaload, 1) := by decide +kernel
theorem dX12_goClimb_50 : decode cX12_goClimb 50 = .ok (.iload_n 2, 1) := by decide +kernel
theorem dX12_goClimb_51 : decode cX12_goClimb 51 = .ok (.iadd, 1) := by decide +kernel
theorem dX12_goClimb_52 : decode cX12_goClimb 52 = .ok (.iastore, 1) := by decide +kernel
theorem dX12_goClimb_53 : decode cX12_goClimb 53 = .ok (.return_, 1) := by decide +kernel
theorem dX12_allHeavy_0 : decode cX12_allHeavy 0 = .ok (.iconst 0, 1) := by decide +kernel
theorem dX12_allHeavy_1 : decode cX12_allHeavy 1 = .ok (.istore_n 1, 1) := by decide +kernel
theorem dX12_allHeavy_2 : decode cX12_allHeavy 2 = .ok (.iconst 0, 1) := by decide +kernel
theorem dX12_allHeavy_3 : decode cX12_allHeavy 3 = .ok (.istore_n 2, 1) := by decide +kernel
theorem dX12_allHeavy_4 : decode cX12_allHeavy 4 = .ok (.iload_n 2, 1) := by decide +kernel
theorem dX12_allHeavy_5 : decode cX12_allHeavy 5 = .ok (.aload_n 0, 1) := by decide +kernel
theorem dX12_allHeavy_6 : decode cX12_allHeavy 6 = .ok (.getfield 350, 3) := by decide +kernel
theorem dX12_allHeavy_9 : decode cX12_allHeavy 9 = .ok (.if_icmp .ge 18, 3) := by decide +kernel
theorem dX12_allHeavy_12 : decode cX12_allHeavy 12 = .ok (.iload_n 1, 1) := by decide +kernel
theorem dX12_allHeavy_13 : decode cX12_allHeavy 13 = .ok (.aload_n 0, 1) := by decide +kernel
theorem dX12_allHeavy_14 : decode cX12_allHeavy 14 = .ok (.getfield 73, 3) := by decide +kernel
theorem dX12_allHeavy_17 : decode cX12_allHeavy 17 = .ok (.iload_n 2, 1) := by decide +kernel
theorem dX12_allHeavy_18 : decode cX12_allHeavy 18 = .ok (.iaload, 1) := by decide +kernel
theorem dX12_allHeavy_19 : decode cX12_allHeavy 19 = .ok (.iadd, 1) := by decide +kernel
theorem dX12_allHeavy_20 : decode cX12_allHeavy 20 = .ok (.istore_n 1, 1) := by decide +kernel
theorem dX12_allHeavy_21 : decode cX12_allHeavy 21 = .ok (.iinc 2 1, 3) := by decide +kernel
theorem dX12_allHeavy_24 : decode cX12_allHeavy 24 = .ok (.goto (-20), 3) := by decide +kernel
theorem dX12_allHeavy_27 : decode cX12_allHeavy 27 = .ok (.iload_n 1, 1) := by decide +kernel
theorem dX12_allHeavy_28 : decode cX12_allHeavy 28 = .ok (.ireturn, 1) := by decide +kernel
theorem dX12_pullHere_0 : decode cX12_pullHere 0 = .ok (.aload_n 0, 1) := by decide +kernel
theorem dX12_pullHere_1 : decode cX12_pullHere 1 = .ok (.iconst 1, 1) := by decide +kernel
theorem dX12_pullHere_2 : decode cX12_pullHere 2 = .ok (.aload_n 0, 1) := by decide +kernel
theorem dX12_pullHere_3 : decode cX12_pullHere 3 = .ok (.getfield 82, 3) := by decide +kernel
theorem dX12_pullHere_6 : decode cX12_pullHere 6 = .ok (.aload_n 0, 1) := by decide +kernel
theorem dX12_pullHere_7 : decode cX12_pullHere 7 = .ok (.invokevirtual 388, 3) := by decide +kernel
theorem dX12_pullHere_10 : decode cX12_pullHere 10 = .ok (.iconst 0, 1) := by decide +kernel
theorem dX12_pullHere_11 : decode cX12_pullHere 11 = .ok (.aload_n 0, 1) := by decide +kernel
theorem dX12_pullHere_12 : decode cX12_pullHere 12 = .ok (.getfield 88, 3) := by decide +kernel
theorem dX12_pullHere_15 : decode cX12_pullHere 15 = .ok (.bipush 24, 2) := by decide +kernel
theorem dX12_pullHere_17 : decode cX12_pullHere 17 = .ok (.iaload, 1) := by decide +kernel
theorem dX12_pullHere_18 : decode cX12_pullHere 18 = .ok (.bipush 10, 2) := by decide +kernel
theorem dX12_pullHere_20 : decode cX12_pullHere 20 = .ok (.idiv, 1) := by decide +kernel
theorem dX12_pullHere_21 : decode cX12_pullHere 21 = .ok (.invokevirtual 375, 3) := by decide +kernel
theorem dX12_pullHere_24 : decode cX12_pullHere 24 = .ok (.ireturn, 1) := by decide +kernel
theorem dX12_goWeek_0 : decode cX12_goWeek 0 = .ok (.aload_n 0, 1) := by decide +kernel
theorem dX12_goWeek_1 : decode cX12_goWeek 1 = .ok (.getfield 88, 3) := by decide +kernel
theorem dX12_goWeek_4 : decode cX12_goWeek 4 = .ok (.bipush 25, 2) := by decide +kernel
theorem dX12_goWeek_6 : decode cX12_goWeek 6 = .ok (.aload_n 0, 1) := by decide +kernel
theorem dX12_goWeek_7 : decode cX12_goWeek 7 = .ok (.getfield 88, 3) := by decide +kernel
theorem dX12_goWeek_10 : decode cX12_goWeek 10 = .ok (.bipush 25, 2) := by decide +kernel
theorem dX12_goWeek_12 : decode cX12_goWeek 12 = .ok (.iaload, 1) := by decide +kernel
theorem dX12_goWeek_13 : decode cX12_goWeek 13 = .ok (.aload_n 0, 1) := by decide +kernel
theorem dX12_goWeek_14 : decode cX12_goWeek 14 = .ok (.invokevirtual 391, 3) := by decide +kernel
theorem dX12_goWeek_17 : decode cX12_goWeek 17 = .ok (.iadd, 1) := by decide +kernel
theorem dX12_goWeek_18 : decode cX12_goWeek 18 = .ok (.aload_n 0, 1) := by decide +kernel
theorem dX12_goWeek_19 : decode cX12_goWeek 19 = .ok (.getfield 82, 3) := by decide +kernel
theorem dX12_goWeek_22 : decode cX12_goWeek 22 = .ok (.invokestatic 379, 3) := by decide +kernel
theorem dX12_goWeek_25 : decode cX12_goWeek 25 = .ok (.iastore, 1) := by decide +kernel
theorem dX12_goWeek_26 : decode cX12_goWeek 26 = .ok (.aload_n 0, 1) := by decide +kernel
theorem dX12_goWeek_27 : decode cX12_goWeek 27 = .ok (.getfield 88, 3) := by decide +kernel
theorem dX12_goWeek_30 : decode cX12_goWeek 30 = .ok (.bipush 24, 2) := by decide +kernel
theorem dX12_goWeek_32 : decode cX12_goWeek 32 = .ok (.iconst 0, 1) := by decide +kernel
theorem dX12_goWeek_33 : decode cX12_goWeek 33 = .ok (.iastore, 1) := by decide +kernel
theorem dX12_goWeek_34 : decode cX12_goWeek 34 = .ok (.aload_n 0, 1) := by decide +kernel
theorem dX12_goWeek_35 : decode cX12_goWeek 35 = .ok (.getfield 88, 3) := by decide +kernel
theorem dX12_goWeek_38 : decode cX12_goWeek 38 = .ok (.bipush 26, 2) := by decide +kernel
theorem dX12_goWeek_40 : decode cX12_goWeek 40 = .ok (.dup2, 1) := by decide +kernel
theorem dX12_goWeek_41 : decode cX12_goWeek 41 = .ok (.iaload, 1) := by decide +kernel
theorem dX12_goWeek_42 : decode cX12_goWeek 42 = .ok (.iconst 1, 1) := by decide +kernel
theorem dX12_goWeek_43 : decode cX12_goWeek 43 = .ok (.iadd, 1) := by decide +kernel
theorem dX12_goWeek_44 : decode cX12_goWeek 44 = .ok (.iastore, 1) := by decide +kernel
theorem dX12_goWeek_45 : decode cX12_goWeek 45 = .ok (.iconst 0, 1) := by decide +kernel
theorem dX12_goWeek_46 : decode cX12_goWeek 46 = .ok (.istore_n 1, 1) := by decide +kernel
theorem dX12_goWeek_47 : decode cX12_goWeek 47 = .ok (.iload_n 1, 1) := by decide +kernel
theorem dX12_goWeek_48 : decode cX12_goWeek 48 = .ok (.aload_n 0, 1) := by decide +kernel
theorem dX12_goWeek_49 : decode cX12_goWeek 49 = .ok (.getfield 350, 3) := by decide +kernel
theorem dX12_goWeek_52 : decode cX12_goWeek 52 = .ok (.if_icmp .ge 123, 3) := by decide +kernel
theorem dX12_goWeek_55 : decode cX12_goWeek 55 = .ok (.aload_n 0, 1) := by decide +kernel
theorem dX12_goWeek_56 : decode cX12_goWeek 56 = .ok (.getfield 88, 3) := by decide +kernel
theorem dX12_goWeek_59 : decode cX12_goWeek 59 = .ok (.iload_n 1, 1) := by decide +kernel
theorem dX12_goWeek_60 : decode cX12_goWeek 60 = .ok (.aload_n 0, 1) := by decide +kernel
theorem dX12_goWeek_61 : decode cX12_goWeek 61 = .ok (.getfield 70, 3) := by decide +kernel
theorem dX12_goWeek_64 : decode cX12_goWeek 64 = .ok (.iload_n 1, 1) := by decide +kernel
theorem dX12_goWeek_65 : decode cX12_goWeek 65 = .ok (.iaload, 1) := by decide +kernel
theorem dX12_goWeek_66 : decode cX12_goWeek 66 = .ok (.iastore, 1) := by decide +kernel
theorem dX12_goWeek_67 : decode cX12_goWeek 67 = .ok (.aload_n 0, 1) := by decide +kernel
theorem dX12_goWeek_68 : decode cX12_goWeek 68 = .ok (.getfield 88, 3) := by decide +kernel
theorem dX12_goWeek_71 : decode cX12_goWeek 71 = .ok (.bipush 26, 2) := by decide +kernel
theorem dX12_goWeek_73 : decode cX12_goWeek 73 = .ok (.iaload, 1) := by decide +kernel
theorem dX12_goWeek_74 : decode cX12_goWeek 74 = .ok (.iconst 4, 1) := by decide +kernel
theorem dX12_goWeek_75 : decode cX12_goWeek 75 = .ok (.irem, 1) := by decide +kernel
theorem dX12_goWeek_76 : decode cX12_goWeek 76 = .ok (.ifCond .le 6, 3) := by decide +kernel
theorem dX12_goWeek_79 : decode cX12_goWeek 79 = .ok (.goto 90, 3) := by decide +kernel
theorem dX12_goWeek_82 : decode cX12_goWeek 82 = .ok (.aload_n 0, 1) := by decide +kernel
theorem dX12_goWeek_83 : decode cX12_goWeek 83 = .ok (.getfield 88, 3) := by decide +kernel
theorem dX12_goWeek_86 : decode cX12_goWeek 86 = .ok (.bipush 16, 2) := by decide +kernel
theorem dX12_goWeek_88 : decode cX12_goWeek 88 = .ok (.iload_n 1, 1) := by decide +kernel
theorem dX12_goWeek_89 : decode cX12_goWeek 89 = .ok (.iadd, 1) := by decide +kernel
theorem dX12_goWeek_90 : decode cX12_goWeek 90 = .ok (.dup2, 1) := by decide +kernel
theorem dX12_goWeek_91 : decode cX12_goWeek 91 = .ok (.iaload, 1) := by decide +kernel
theorem dX12_goWeek_92 : decode cX12_goWeek 92 = .ok (.aload_n 0, 1) := by decide +kernel
theorem dX12_goWeek_93 : decode cX12_goWeek 93 = .ok (.getfield 76, 3) := by decide +kernel
theorem dX12_goWeek_96 : decode cX12_goWeek 96 = .ok (.iload_n 1, 1) := by decide +kernel
theorem dX12_goWeek_97 : decode cX12_goWeek 97 = .ok (.iaload, 1) := by decide +kernel
theorem dX12_goWeek_98 : decode cX12_goWeek 98 = .ok (.iadd, 1) := by decide +kernel
theorem dX12_goWeek_99 : decode cX12_goWeek 99 = .ok (.iastore, 1) := by decide +kernel
theorem dX12_goWeek_100 : decode cX12_goWeek 100 = .ok (.aload_n 0, 1) := by decide +kernel
theorem dX12_goWeek_101 : decode cX12_goWeek 101 = .ok (.getfield 88, 3) := by decide +kernel
theorem dX12_goWeek_104 : decode cX12_goWeek 104 = .ok (.bipush 8, 2) := by decide +kernel
theorem dX12_goWeek_106 : decode cX12_goWeek 106 = .ok (.iload_n 1, 1) := by decide +kernel
theorem dX12_goWeek_107 : decode cX12_goWeek 107 = .ok (.iadd, 1) := by decide +kernel
theorem dX12_goWeek_108 : decode cX12_goWeek 108 = .ok (.iaload, 1) := by decide +kernel
theorem dX12_goWeek_109 : decode cX12_goWeek 109 = .ok (.aload_n 0, 1) := by decide +kernel
theorem dX12_goWeek_110 : decode cX12_goWeek 110 = .ok (.getfield 88, 3) := by decide +kernel
theorem dX12_goWeek_113 : decode cX12_goWeek 113 = .ok (.bipush 16, 2) := by decide +kernel
theorem dX12_goWeek_115 : decode cX12_goWeek 115 = .ok (.iload_n 1, 1) := by decide +kernel
theorem dX12_goWeek_116 : decode cX12_goWeek 116 = .ok (.iadd, 1) := by decide +kernel
theorem dX12_goWeek_117 : decode cX12_goWeek 117 = .ok (.iaload, 1) := by decide +kernel
theorem dX12_goWeek_118 : decode cX12_goWeek 118 = .ok (.if_icmp .ge 15, 3) := by decide +kernel
theorem dX12_goWeek_121 : decode cX12_goWeek 121 = .ok (.aload_n 0, 1) := by decide +kernel
theorem dX12_goWeek_122 : decode cX12_goWeek 122 = .ok (.getfield 88, 3) := by decide +kernel
theorem dX12_goWeek_125 : decode cX12_goWeek 125 = .ok (.bipush 8, 2) := by decide +kernel
theorem dX12_goWeek_127 : decode cX12_goWeek 127 = .ok (.iload_n 1, 1) := by decide +kernel
theorem dX12_goWeek_128 : decode cX12_goWeek 128 = .ok (.iadd, 1) := by decide +kernel
theorem dX12_goWeek_129 : decode cX12_goWeek 129 = .ok (.iaload, 1) := by decide +kernel
theorem dX12_goWeek_130 : decode cX12_goWeek 130 = .ok (.goto 12, 3) := by decide +kernel
theorem dX12_goWeek_133 : decode cX12_goWeek 133 = .ok (.aload_n 0, 1) := by decide +kernel
theorem dX12_goWeek_134 : decode cX12_goWeek 134 = .ok (.getfield 88, 3) := by decide +kernel
theorem dX12_goWeek_137 : decode cX12_goWeek 137 = .ok (.bipush 16, 2) := by decide +kernel
theorem dX12_goWeek_139 : decode cX12_goWeek 139 = .ok (.iload_n 1, 1) := by decide +kernel
theorem dX12_goWeek_140 : decode cX12_goWeek 140 = .ok (.iadd, 1) := by decide +kernel
theorem dX12_goWeek_141 : decode cX12_goWeek 141 = .ok (.iaload, 1) := by decide +kernel
theorem dX12_goWeek_142 : decode cX12_goWeek 142 = .ok (.istore_n 2, 1) := by decide +kernel
theorem dX12_goWeek_143 : decode cX12_goWeek 143 = .ok (.aload_n 0, 1) := by decide +kernel
theorem dX12_goWeek_144 : decode cX12_goWeek 144 = .ok (.getfield 88, 3) := by decide +kernel
theorem dX12_goWeek_147 : decode cX12_goWeek 147 = .ok (.bipush 8, 2) := by decide +kernel
theorem dX12_goWeek_149 : decode cX12_goWeek 149 = .ok (.iload_n 1, 1) := by decide +kernel
theorem dX12_goWeek_150 : decode cX12_goWeek 150 = .ok (.iadd, 1) := by decide +kernel
theorem dX12_goWeek_151 : decode cX12_goWeek 151 = .ok (.dup2, 1) := by decide +kernel
theorem dX12_goWeek_152 : decode cX12_goWeek 152 = .ok (.iaload, 1) := by decide +kernel
theorem dX12_goWeek_153 : decode cX12_goWeek 153 = .ok (.iload_n 2, 1) := by decide +kernel
theorem dX12_goWeek_154 : decode cX12_goWeek 154 = .ok (.isub, 1) := by decide +kernel
theorem dX12_goWeek_155 : decode cX12_goWeek 155 = .ok (.iastore, 1) := by decide +kernel
theorem dX12_goWeek_156 : decode cX12_goWeek 156 = .ok (.aload_n 0, 1) := by decide +kernel
theorem dX12_goWeek_157 : decode cX12_goWeek 157 = .ok (.getfield 88, 3) := by decide +kernel
theorem dX12_goWeek_160 : decode cX12_goWeek 160 = .ok (.bipush 16, 2) := by decide +kernel
theorem dX12_goWeek_162 : decode cX12_goWeek 162 = .ok (.iload_n 1, 1) := by decide +kernel
theorem dX12_goWeek_163 : decode cX12_goWeek 163 = .ok (.iadd, 1) := by decide +kernel
theorem dX12_goWeek_164 : decode cX12_goWeek 164 = .ok (.dup2, 1) := by decide +kernel
theorem dX12_goWeek_165 : decode cX12_goWeek 165 = .ok (.iaload, 1) := by decide +kernel
theorem dX12_goWeek_166 : decode cX12_goWeek 166 = .ok (.iload_n 2, 1) := by decide +kernel
theorem dX12_goWeek_167 : decode cX12_goWeek 167 = .ok (.isub, 1) := by decide +kernel
