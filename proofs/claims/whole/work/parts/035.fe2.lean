theorem fe_92_18 : am_fe 92 18 = some (15, some .int, .ldc_w 266) := by decide +kernel
theorem fe_92_21 : am_fe 92 21 = some (15, some .int, .iand) := by decide +kernel
theorem fe_92_22 : am_fe 92 22 = some (15, some .int, .iadd) := by decide +kernel
theorem fe_92_23 : am_fe 92 23 = some (15, some .int, .istore_n 0) := by decide +kernel
theorem fe_92_24 : am_fe 92 24 = some (15, some .int, .iload_n 0) := by decide +kernel
theorem fe_92_25 : am_fe 92 25 = some (15, some .int, .iload_n 0) := by decide +kernel
theorem fe_92_26 : am_fe 92 26 = some (15, some .int, .iconst 4) := by decide +kernel
theorem fe_92_27 : am_fe 92 27 = some (15, some .int, .iushr) := by decide +kernel
theorem fe_92_28 : am_fe 92 28 = some (15, some .int, .iadd) := by decide +kernel
theorem fe_92_29 : am_fe 92 29 = some (15, some .int, .ldc_w 267) := by decide +kernel
theorem fe_92_32 : am_fe 92 32 = some (15, some .int, .iand) := by decide +kernel
theorem fe_92_33 : am_fe 92 33 = some (15, some .int, .istore_n 0) := by decide +kernel
theorem fe_92_34 : am_fe 92 34 = some (15, some .int, .iload_n 0) := by decide +kernel
theorem fe_92_35 : am_fe 92 35 = some (15, some .int, .iload_n 0) := by decide +kernel
theorem fe_92_36 : am_fe 92 36 = some (15, some .int, .bipush 8) := by decide +kernel
theorem fe_92_38 : am_fe 92 38 = some (15, some .int, .iushr) := by decide +kernel
theorem fe_92_39 : am_fe 92 39 = some (15, some .int, .iadd) := by decide +kernel
theorem fe_92_40 : am_fe 92 40 = some (15, some .int, .istore_n 0) := by decide +kernel
theorem fe_92_41 : am_fe 92 41 = some (15, some .int, .iload_n 0) := by decide +kernel
theorem fe_92_42 : am_fe 92 42 = some (15, some .int, .iload_n 0) := by decide +kernel
theorem fe_92_43 : am_fe 92 43 = some (15, some .int, .bipush 16) := by decide +kernel
theorem fe_92_45 : am_fe 92 45 = some (15, some .int, .iushr) := by decide +kernel
theorem fe_92_46 : am_fe 92 46 = some (15, some .int, .iadd) := by decide +kernel
theorem fe_92_47 : am_fe 92 47 = some (15, some .int, .istore_n 0) := by decide +kernel
theorem fe_92_48 : am_fe 92 48 = some (15, some .int, .iload_n 0) := by decide +kernel
theorem fe_92_49 : am_fe 92 49 = some (15, some .int, .bipush 63) := by decide +kernel
theorem fe_92_51 : am_fe 92 51 = some (15, some .int, .iand) := by decide +kernel
theorem fe_92_52 : am_fe 92 52 = some (15, some .int, .ireturn) := by decide +kernel
theorem fe_93_0 : am_fe 93 0 = some (7, some .boolean, .aload_n 0) := by decide +kernel
theorem fe_93_1 : am_fe 93 1 = some (7, some .boolean, .getfield 31) := by decide +kernel
theorem fe_93_4 : am_fe 93 4 = some (7, some .boolean, .getfield 128) := by decide +kernel
theorem fe_93_7 : am_fe 93 7 = some (7, some .boolean, .iload_n 1) := by decide +kernel
theorem fe_93_8 : am_fe 93 8 = some (7, some .boolean, .iaload) := by decide +kernel
theorem fe_93_9 : am_fe 93 9 = some (7, some .boolean, .aload_n 0) := by decide +kernel
theorem fe_93_10 : am_fe 93 10 = some (7, some .boolean, .getfield 31) := by decide +kernel
theorem fe_93_13 : am_fe 93 13 = some (7, some .boolean, .getfield 128) := by decide +kernel
theorem fe_93_16 : am_fe 93 16 = some (7, some .boolean, .iload_n 2) := by decide +kernel
theorem fe_93_17 : am_fe 93 17 = some (7, some .boolean, .iaload) := by decide +kernel
theorem fe_93_18 : am_fe 93 18 = some (7, some .boolean, .iadd) := by decide +kernel
theorem fe_93_19 : am_fe 93 19 = some (7, some .boolean, .bipush 8) := by decide +kernel
theorem fe_93_21 : am_fe 93 21 = some (7, some .boolean, .if_icmp .le 5) := by decide +kernel
theorem fe_93_24 : am_fe 93 24 = some (7, some .boolean, .iconst 0) := by decide +kernel
theorem fe_93_25 : am_fe 93 25 = some (7, some .boolean, .ireturn) := by decide +kernel
theorem fe_93_26 : am_fe 93 26 = some (7, some .boolean, .aload_n 0) := by decide +kernel
theorem fe_93_27 : am_fe 93 27 = some (7, some .boolean, .getfield 34) := by decide +kernel
theorem fe_93_30 : am_fe 93 30 = some (7, some .boolean, .ifnonnull 28) := by decide +kernel
theorem fe_93_33 : am_fe 93 33 = some (7, some .boolean, .aload_n 0) := by decide +kernel
theorem fe_93_34 : am_fe 93 34 = some (7, some .boolean, .getfield 31) := by decide +kernel
theorem fe_93_37 : am_fe 93 37 = some (7, some .boolean, .iload_n 1) := by decide +kernel
theorem fe_93_38 : am_fe 93 38 = some (7, some .boolean, .invokevirtual 156) := by decide +kernel
theorem fe_93_41 : am_fe 93 41 = some (7, some .boolean, .aload_n 0) := by decide +kernel
theorem fe_93_42 : am_fe 93 42 = some (7, some .boolean, .getfield 31) := by decide +kernel
theorem fe_93_45 : am_fe 93 45 = some (7, some .boolean, .iload_n 2) := by decide +kernel
theorem fe_93_46 : am_fe 93 46 = some (7, some .boolean, .invokevirtual 159) := by decide +kernel
theorem fe_93_49 : am_fe 93 49 = some (7, some .boolean, .if_icmp .ne 7) := by decide +kernel
theorem fe_93_52 : am_fe 93 52 = some (7, some .boolean, .iconst 1) := by decide +kernel
theorem fe_93_53 : am_fe 93 53 = some (7, some .boolean, .goto 4) := by decide +kernel
theorem fe_93_56 : am_fe 93 56 = some (7, some .boolean, .iconst 0) := by decide +kernel
theorem fe_93_57 : am_fe 93 57 = some (7, some .boolean, .ireturn) := by decide +kernel
theorem fe_93_58 : am_fe 93 58 = some (7, some .boolean, .aload_n 0) := by decide +kernel
theorem fe_93_59 : am_fe 93 59 = some (7, some .boolean, .getfield 20) := by decide +kernel
theorem fe_93_62 : am_fe 93 62 = some (7, some .boolean, .iconst 0) := by decide +kernel
theorem fe_93_63 : am_fe 93 63 = some (7, some .boolean, .aload_n 0) := by decide +kernel
theorem fe_93_64 : am_fe 93 64 = some (7, some .boolean, .getfield 31) := by decide +kernel
theorem fe_93_67 : am_fe 93 67 = some (7, some .boolean, .getfield 128) := by decide +kernel
theorem fe_93_70 : am_fe 93 70 = some (7, some .boolean, .iload_n 1) := by decide +kernel
theorem fe_93_71 : am_fe 93 71 = some (7, some .boolean, .iaload) := by decide +kernel
theorem fe_93_72 : am_fe 93 72 = some (7, some .boolean, .i2l) := by decide +kernel
theorem fe_93_73 : am_fe 93 73 = some (7, some .boolean, .lastore) := by decide +kernel
theorem fe_93_74 : am_fe 93 74 = some (7, some .boolean, .aload_n 0) := by decide +kernel
theorem fe_93_75 : am_fe 93 75 = some (7, some .boolean, .getfield 20) := by decide +kernel
theorem fe_93_78 : am_fe 93 78 = some (7, some .boolean, .iconst 1) := by decide +kernel
theorem fe_93_79 : am_fe 93 79 = some (7, some .boolean, .aload_n 0) := by decide +kernel
theorem fe_93_80 : am_fe 93 80 = some (7, some .boolean, .getfield 31) := by decide +kernel
theorem fe_93_83 : am_fe 93 83 = some (7, some .boolean, .getfield 128) := by decide +kernel
theorem fe_93_86 : am_fe 93 86 = some (7, some .boolean, .iload_n 2) := by decide +kernel
theorem fe_93_87 : am_fe 93 87 = some (7, some .boolean, .iaload) := by decide +kernel
theorem fe_93_88 : am_fe 93 88 = some (7, some .boolean, .i2l) := by decide +kernel
theorem fe_93_89 : am_fe 93 89 = some (7, some .boolean, .lastore) := by decide +kernel
theorem fe_93_90 : am_fe 93 90 = some (7, some .boolean, .aload_n 0) := by decide +kernel
theorem fe_93_91 : am_fe 93 91 = some (7, some .boolean, .getfield 20) := by decide +kernel
theorem fe_93_94 : am_fe 93 94 = some (7, some .boolean, .iconst 2) := by decide +kernel
theorem fe_93_95 : am_fe 93 95 = some (7, some .boolean, .aload_n 0) := by decide +kernel
theorem fe_93_96 : am_fe 93 96 = some (7, some .boolean, .getfield 31) := by decide +kernel
theorem fe_93_99 : am_fe 93 99 = some (7, some .boolean, .iload_n 1) := by decide +kernel
theorem fe_93_100 : am_fe 93 100 = some (7, some .boolean, .invokevirtual 156) := by decide +kernel
theorem fe_93_103 : am_fe 93 103 = some (7, some .boolean, .i2l) := by decide +kernel
theorem fe_93_104 : am_fe 93 104 = some (7, some .boolean, .lastore) := by decide +kernel
theorem fe_93_105 : am_fe 93 105 = some (7, some .boolean, .aload_n 0) := by decide +kernel
theorem fe_93_106 : am_fe 93 106 = some (7, some .boolean, .getfield 20) := by decide +kernel
theorem fe_93_109 : am_fe 93 109 = some (7, some .boolean, .iconst 3) := by decide +kernel
theorem fe_93_110 : am_fe 93 110 = some (7, some .boolean, .aload_n 0) := by decide +kernel
theorem fe_93_111 : am_fe 93 111 = some (7, some .boolean, .getfield 31) := by decide +kernel
theorem fe_93_114 : am_fe 93 114 = some (7, some .boolean, .iload_n 2) := by decide +kernel
theorem fe_93_115 : am_fe 93 115 = some (7, some .boolean, .invokevirtual 159) := by decide +kernel
theorem fe_93_118 : am_fe 93 118 = some (7, some .boolean, .i2l) := by decide +kernel
theorem fe_93_119 : am_fe 93 119 = some (7, some .boolean, .lastore) := by decide +kernel
theorem fe_93_120 : am_fe 93 120 = some (7, some .boolean, .aload_n 0) := by decide +kernel
theorem fe_93_121 : am_fe 93 121 = some (7, some .boolean, .getfield 20) := by decide +kernel
theorem fe_93_124 : am_fe 93 124 = some (7, some .boolean, .iconst 4) := by decide +kernel
theorem fe_93_125 : am_fe 93 125 = some (7, some .boolean, .aload_n 0) := by decide +kernel
theorem fe_93_126 : am_fe 93 126 = some (7, some .boolean, .getfield 31) := by decide +kernel
theorem fe_93_129 : am_fe 93 129 = some (7, some .boolean, .getfield 162) := by decide +kernel
theorem fe_93_132 : am_fe 93 132 = some (7, some .boolean, .iload_n 1) := by decide +kernel
theorem fe_93_133 : am_fe 93 133 = some (7, some .boolean, .iaload) := by decide +kernel
theorem fe_93_134 : am_fe 93 134 = some (7, some .boolean, .aload_n 0) := by decide +kernel
theorem fe_93_135 : am_fe 93 135 = some (7, some .boolean, .getfield 31) := by decide +kernel
theorem fe_93_138 : am_fe 93 138 = some (7, some .boolean, .getfield 162) := by decide +kernel
theorem fe_93_141 : am_fe 93 141 = some (7, some .boolean, .iload_n 2) := by decide +kernel
theorem fe_93_142 : am_fe 93 142 = some (7, some .boolean, .iaload) := by decide +kernel
theorem fe_93_143 : am_fe 93 143 = some (7, some .boolean, .iand) := by decide +kernel
theorem fe_93_144 : am_fe 93 144 = some (7, some .boolean, .invokestatic 144) := by decide +kernel
theorem fe_93_147 : am_fe 93 147 = some (7, some .boolean, .i2l) := by decide +kernel
theorem fe_93_148 : am_fe 93 148 = some (7, some .boolean, .lastore) := by decide +kernel
theorem fe_93_149 : am_fe 93 149 = some (7, some .boolean, .aload_n 0) := by decide +kernel
theorem fe_93_150 : am_fe 93 150 = some (7, some .boolean, .getfield 20) := by decide +kernel
theorem fe_93_153 : am_fe 93 153 = some (7, some .boolean, .iconst 5) := by decide +kernel
theorem fe_93_154 : am_fe 93 154 = some (7, some .boolean, .aload_n 0) := by decide +kernel
theorem fe_93_155 : am_fe 93 155 = some (7, some .boolean, .getfield 31) := by decide +kernel
theorem fe_93_158 : am_fe 93 158 = some (7, some .boolean, .getfield 80) := by decide +kernel
theorem fe_93_161 : am_fe 93 161 = some (7, some .boolean, .iload_n 1) := by decide +kernel
theorem fe_93_162 : am_fe 93 162 = some (7, some .boolean, .iaload) := by decide +kernel
theorem fe_93_163 : am_fe 93 163 = some (7, some .boolean, .i2l) := by decide +kernel
theorem fe_93_164 : am_fe 93 164 = some (7, some .boolean, .lastore) := by decide +kernel
theorem fe_93_165 : am_fe 93 165 = some (7, some .boolean, .aload_n 0) := by decide +kernel
theorem fe_93_166 : am_fe 93 166 = some (7, some .boolean, .getfield 20) := by decide +kernel
theorem fe_93_169 : am_fe 93 169 = some (7, some .boolean, .bipush 6) := by decide +kernel
theorem fe_93_171 : am_fe 93 171 = some (7, some .boolean, .aload_n 0) := by decide +kernel
theorem fe_93_172 : am_fe 93 172 = some (7, some .boolean, .getfield 31) := by decide +kernel
theorem fe_93_175 : am_fe 93 175 = some (7, some .boolean, .getfield 71) := by decide +kernel
theorem fe_93_178 : am_fe 93 178 = some (7, some .boolean, .i2l) := by decide +kernel
theorem fe_93_179 : am_fe 93 179 = some (7, some .boolean, .lastore) := by decide +kernel
theorem fe_93_180 : am_fe 93 180 = some (7, some .boolean, .aload_n 0) := by decide +kernel
theorem fe_93_181 : am_fe 93 181 = some (7, some .boolean, .getfield 20) := by decide +kernel
theorem fe_93_184 : am_fe 93 184 = some (7, some .boolean, .bipush 7) := by decide +kernel
theorem fe_93_186 : am_fe 93 186 = some (7, some .boolean, .iload_n 1) := by decide +kernel
theorem fe_93_187 : am_fe 93 187 = some (7, some .boolean, .i2l) := by decide +kernel
theorem fe_93_188 : am_fe 93 188 = some (7, some .boolean, .lastore) := by decide +kernel
theorem fe_93_189 : am_fe 93 189 = some (7, some .boolean, .aload_n 0) := by decide +kernel
theorem fe_93_190 : am_fe 93 190 = some (7, some .boolean, .getfield 20) := by decide +kernel
theorem fe_93_193 : am_fe 93 193 = some (7, some .boolean, .bipush 8) := by decide +kernel
theorem fe_93_195 : am_fe 93 195 = some (7, some .boolean, .iload_n 2) := by decide +kernel
theorem fe_93_196 : am_fe 93 196 = some (7, some .boolean, .i2l) := by decide +kernel
theorem fe_93_197 : am_fe 93 197 = some (7, some .boolean, .lastore) := by decide +kernel
theorem fe_93_198 : am_fe 93 198 = some (7, some .boolean, .aload_n 0) := by decide +kernel
theorem fe_93_199 : am_fe 93 199 = some (7, some .boolean, .getfield 20) := by decide +kernel
theorem fe_93_202 : am_fe 93 202 = some (7, some .boolean, .bipush 9) := by decide +kernel
theorem fe_93_204 : am_fe 93 204 = some (7, some .boolean, .iload_n 3) := by decide +kernel
theorem fe_93_205 : am_fe 93 205 = some (7, some .boolean, .i2l) := by decide +kernel
theorem fe_93_206 : am_fe 93 206 = some (7, some .boolean, .lastore) := by decide +kernel
theorem fe_93_207 : am_fe 93 207 = some (7, some .boolean, .aload_n 0) := by decide +kernel
theorem fe_93_208 : am_fe 93 208 = some (7, some .boolean, .getfield 20) := by decide +kernel
theorem fe_93_211 : am_fe 93 211 = some (7, some .boolean, .bipush 10) := by decide +kernel
theorem fe_93_213 : am_fe 93 213 = some (7, some .boolean, .aload_n 0) := by decide +kernel
theorem fe_93_214 : am_fe 93 214 = some (7, some .boolean, .getfield 31) := by decide +kernel
theorem fe_93_217 : am_fe 93 217 = some (7, some .boolean, .getfield 112) := by decide +kernel
theorem fe_93_220 : am_fe 93 220 = some (7, some .boolean, .iload_n 1) := by decide +kernel
theorem fe_93_221 : am_fe 93 221 = some (7, some .boolean, .iaload) := by decide +kernel
theorem fe_93_222 : am_fe 93 222 = some (7, some .boolean, .i2l) := by decide +kernel
theorem fe_93_223 : am_fe 93 223 = some (7, some .boolean, .lastore) := by decide +kernel
theorem fe_93_224 : am_fe 93 224 = some (7, some .boolean, .aload_n 0) := by decide +kernel
theorem fe_93_225 : am_fe 93 225 = some (7, some .boolean, .getfield 34) := by decide +kernel
theorem fe_93_228 : am_fe 93 228 = some (7, some .boolean, .aload_n 0) := by decide +kernel
theorem fe_93_229 : am_fe 93 229 = some (7, some .boolean, .getfield 20) := by decide +kernel
theorem fe_93_232 : am_fe 93 232 = some (7, some .boolean, .aload_n 0) := by decide +kernel
theorem fe_93_233 : am_fe 93 233 = some (7, some .boolean, .getfield 24) := by decide +kernel
theorem fe_93_236 : am_fe 93 236 = some (7, some .boolean, .invokevirtual 165) := by decide +kernel
theorem fe_93_239 : am_fe 93 239 = some (7, some .boolean, .ireturn) := by decide +kernel
theorem fe_94_0 : am_fe 94 0 = some (9, some .int, .aload_n 0) := by decide +kernel
theorem fe_94_1 : am_fe 94 1 = some (9, some .int, .getfield 25) := by decide +kernel
theorem fe_94_4 : am_fe 94 4 = some (9, some .int, .iload_n 1) := by decide +kernel
theorem fe_94_5 : am_fe 94 5 = some (9, some .int, .iaload) := by decide +kernel
theorem fe_94_6 : am_fe 94 6 = some (9, some .int, .bipush 10) := by decide +kernel
theorem fe_94_8 : am_fe 94 8 = some (9, some .int, .irem) := by decide +kernel
theorem fe_94_9 : am_fe 94 9 = some (9, some .int, .ireturn) := by decide +kernel
theorem fe_95_0 : am_fe 95 0 = some (9, some .int, .aload_n 0) := by decide +kernel
theorem fe_95_1 : am_fe 95 1 = some (9, some .int, .getfield 28) := by decide +kernel
theorem fe_95_4 : am_fe 95 4 = some (9, some .int, .iload_n 1) := by decide +kernel
theorem fe_95_5 : am_fe 95 5 = some (9, some .int, .iaload) := by decide +kernel
theorem fe_95_6 : am_fe 95 6 = some (9, some .int, .iconst 1) := by decide +kernel
theorem fe_95_7 : am_fe 95 7 = some (9, some .int, .isub) := by decide +kernel
theorem fe_95_8 : am_fe 95 8 = some (9, some .int, .istore_n 2) := by decide +kernel
theorem fe_95_9 : am_fe 95 9 = some (9, some .int, .iload_n 2) := by decide +kernel
theorem fe_95_10 : am_fe 95 10 = some (9, some .int, .ifCond .ge 7) := by decide +kernel
theorem fe_95_13 : am_fe 95 13 = some (9, some .int, .iconst 0) := by decide +kernel
theorem fe_95_14 : am_fe 95 14 = some (9, some .int, .goto 15) := by decide +kernel
theorem fe_95_17 : am_fe 95 17 = some (9, some .int, .aload_n 0) := by decide +kernel
theorem fe_95_18 : am_fe 95 18 = some (9, some .int, .getfield 25) := by decide +kernel
theorem fe_95_21 : am_fe 95 21 = some (9, some .int, .iload_n 1) := by decide +kernel
theorem fe_95_22 : am_fe 95 22 = some (9, some .int, .iaload) := by decide +kernel
theorem fe_95_23 : am_fe 95 23 = some (9, some .int, .getstatic 68) := by decide +kernel
theorem fe_95_26 : am_fe 95 26 = some (9, some .int, .iload_n 2) := by decide +kernel
theorem fe_95_27 : am_fe 95 27 = some (9, some .int, .iaload) := by decide +kernel
theorem fe_95_28 : am_fe 95 28 = some (9, some .int, .idiv) := by decide +kernel
theorem fe_95_29 : am_fe 95 29 = some (9, some .int, .ireturn) := by decide +kernel
theorem fe_96_0 : am_fe 96 0 = some (1, some .boolean, .iconst 0) := by decide +kernel
theorem fe_96_1 : am_fe 96 1 = some (1, some .boolean, .istore_n 3) := by decide +kernel
theorem fe_96_2 : am_fe 96 2 = some (1, some .boolean, .iconst 0) := by decide +kernel
theorem fe_96_3 : am_fe 96 3 = some (1, some .boolean, .istore 4) := by decide +kernel
theorem fe_96_5 : am_fe 96 5 = some (1, some .boolean, .iload 4) := by decide +kernel
theorem fe_96_7 : am_fe 96 7 = some (1, some .boolean, .aload_n 0) := by decide +kernel
theorem fe_96_8 : am_fe 96 8 = some (1, some .boolean, .getfield 7) := by decide +kernel
theorem fe_96_11 : am_fe 96 11 = some (1, some .boolean, .arraylength) := by decide +kernel
theorem fe_96_12 : am_fe 96 12 = some (1, some .boolean, .if_icmp .ge 125) := by decide +kernel
theorem fe_96_15 : am_fe 96 15 = some (1, some .boolean, .aload_n 0) := by decide +kernel
theorem fe_96_16 : am_fe 96 16 = some (1, some .boolean, .getfield 7) := by decide +kernel
theorem fe_96_19 : am_fe 96 19 = some (1, some .boolean, .iload 4) := by decide +kernel
theorem fe_96_21 : am_fe 96 21 = some (1, some .boolean, .iaload) := by decide +kernel
theorem fe_96_22 : am_fe 96 22 = some (1, some .boolean, .istore 5) := by decide +kernel
theorem fe_96_24 : am_fe 96 24 = some (1, some .boolean, .iload 5) := by decide +kernel
theorem fe_96_26 : am_fe 96 26 = some (1, some .boolean, .bipush (-12)) := by decide +kernel
theorem fe_96_28 : am_fe 96 28 = some (1, some .boolean, .if_icmp .le 46) := by decide +kernel
theorem fe_96_31 : am_fe 96 31 = some (1, some .boolean, .iload_n 3) := by decide +kernel
theorem fe_96_32 : am_fe 96 32 = some (1, some .boolean, .aload_n 2) := by decide +kernel
theorem fe_96_33 : am_fe 96 33 = some (1, some .boolean, .arraylength) := by decide +kernel
theorem fe_96_34 : am_fe 96 34 = some (1, some .boolean, .if_icmp .ge 12) := by decide +kernel
theorem fe_96_37 : am_fe 96 37 = some (1, some .boolean, .iconst (-1)) := by decide +kernel
theorem fe_96_38 : am_fe 96 38 = some (1, some .boolean, .iload 5) := by decide +kernel
theorem fe_96_40 : am_fe 96 40 = some (1, some .boolean, .isub) := by decide +kernel
theorem fe_96_41 : am_fe 96 41 = some (1, some .boolean, .aload_n 1) := by decide +kernel
theorem fe_96_42 : am_fe 96 42 = some (1, some .boolean, .arraylength) := by decide +kernel
theorem fe_96_43 : am_fe 96 43 = some (1, some .boolean, .if_icmp .lt 5) := by decide +kernel
theorem fe_96_46 : am_fe 96 46 = some (1, some .boolean, .iconst 0) := by decide +kernel
theorem fe_96_47 : am_fe 96 47 = some (1, some .boolean, .ireturn) := by decide +kernel
theorem fe_96_48 : am_fe 96 48 = some (1, some .boolean, .aload_n 2) := by decide +kernel
theorem fe_96_49 : am_fe 96 49 = some (1, some .boolean, .iload_n 3) := by decide +kernel
theorem fe_96_50 : am_fe 96 50 = some (1, some .boolean, .iload 5) := by decide +kernel
theorem fe_96_52 : am_fe 96 52 = some (1, some .boolean, .ifCond .lt 9) := by decide +kernel
theorem fe_96_55 : am_fe 96 55 = some (1, some .boolean, .iload 5) := by decide +kernel
theorem fe_96_57 : am_fe 96 57 = some (1, some .boolean, .i2l) := by decide +kernel
theorem fe_96_58 : am_fe 96 58 = some (1, some .boolean, .goto 9) := by decide +kernel
theorem fe_96_61 : am_fe 96 61 = some (1, some .boolean, .aload_n 1) := by decide +kernel
theorem fe_96_62 : am_fe 96 62 = some (1, some .boolean, .iconst (-1)) := by decide +kernel
theorem fe_96_63 : am_fe 96 63 = some (1, some .boolean, .iload 5) := by decide +kernel
theorem fe_96_65 : am_fe 96 65 = some (1, some .boolean, .isub) := by decide +kernel
theorem fe_96_66 : am_fe 96 66 = some (1, some .boolean, .laload) := by decide +kernel
theorem fe_96_67 : am_fe 96 67 = some (1, some .boolean, .lastore) := by decide +kernel
theorem fe_96_68 : am_fe 96 68 = some (1, some .boolean, .iinc 3 1) := by decide +kernel
theorem fe_96_71 : am_fe 96 71 = some (1, some .boolean, .goto 60) := by decide +kernel
theorem fe_96_74 : am_fe 96 74 = some (1, some .boolean, .iload 5) := by decide +kernel
theorem fe_96_76 : am_fe 96 76 = some (1, some .boolean, .bipush (-24)) := by decide +kernel
theorem fe_96_78 : am_fe 96 78 = some (1, some .boolean, .if_icmp .ne 25) := by decide +kernel
theorem fe_96_81 : am_fe 96 81 = some (1, some .boolean, .iload_n 3) := by decide +kernel
theorem fe_96_82 : am_fe 96 82 = some (1, some .boolean, .iconst 1) := by decide +kernel
theorem fe_96_83 : am_fe 96 83 = some (1, some .boolean, .if_icmp .ge 5) := by decide +kernel
theorem fe_96_86 : am_fe 96 86 = some (1, some .boolean, .iconst 0) := by decide +kernel
theorem fe_96_87 : am_fe 96 87 = some (1, some .boolean, .ireturn) := by decide +kernel
theorem fe_96_88 : am_fe 96 88 = some (1, some .boolean, .aload_n 2) := by decide +kernel
theorem fe_96_89 : am_fe 96 89 = some (1, some .boolean, .iload_n 3) := by decide +kernel
theorem fe_96_90 : am_fe 96 90 = some (1, some .boolean, .iconst 1) := by decide +kernel
theorem fe_96_91 : am_fe 96 91 = some (1, some .boolean, .isub) := by decide +kernel
theorem fe_96_92 : am_fe 96 92 = some (1, some .boolean, .lconst 1) := by decide +kernel
theorem fe_96_93 : am_fe 96 93 = some (1, some .boolean, .aload_n 2) := by decide +kernel
theorem fe_96_94 : am_fe 96 94 = some (1, some .boolean, .iload_n 3) := by decide +kernel
theorem fe_96_95 : am_fe 96 95 = some (1, some .boolean, .iconst 1) := by decide +kernel
theorem fe_96_96 : am_fe 96 96 = some (1, some .boolean, .isub) := by decide +kernel
theorem fe_96_97 : am_fe 96 97 = some (1, some .boolean, .laload) := by decide +kernel
theorem fe_96_98 : am_fe 96 98 = some (1, some .boolean, .lsub) := by decide +kernel
theorem fe_96_99 : am_fe 96 99 = some (1, some .boolean, .lastore) := by decide +kernel
theorem fe_96_100 : am_fe 96 100 = some (1, some .boolean, .goto 31) := by decide +kernel
theorem fe_96_103 : am_fe 96 103 = some (1, some .boolean, .iload_n 3) := by decide +kernel
theorem fe_96_104 : am_fe 96 104 = some (1, some .boolean, .iconst 2) := by decide +kernel
theorem fe_96_105 : am_fe 96 105 = some (1, some .boolean, .if_icmp .ge 5) := by decide +kernel
theorem fe_96_108 : am_fe 96 108 = some (1, some .boolean, .iconst 0) := by decide +kernel
theorem fe_96_109 : am_fe 96 109 = some (1, some .boolean, .ireturn) := by decide +kernel
theorem fe_96_110 : am_fe 96 110 = some (1, some .boolean, .iinc 3 (-1)) := by decide +kernel
theorem fe_96_113 : am_fe 96 113 = some (1, some .boolean, .aload_n 2) := by decide +kernel
theorem fe_96_114 : am_fe 96 114 = some (1, some .boolean, .iload_n 3) := by decide +kernel
theorem fe_96_115 : am_fe 96 115 = some (1, some .boolean, .iconst 1) := by decide +kernel
theorem fe_96_116 : am_fe 96 116 = some (1, some .boolean, .isub) := by decide +kernel
theorem fe_96_117 : am_fe 96 117 = some (1, some .boolean, .iload 5) := by decide +kernel
theorem fe_96_119 : am_fe 96 119 = some (1, some .boolean, .aload_n 2) := by decide +kernel
theorem fe_96_120 : am_fe 96 120 = some (1, some .boolean, .iload_n 3) := by decide +kernel
theorem fe_96_121 : am_fe 96 121 = some (1, some .boolean, .iconst 1) := by decide +kernel
theorem fe_96_122 : am_fe 96 122 = some (1, some .boolean, .isub) := by decide +kernel
theorem fe_96_123 : am_fe 96 123 = some (1, some .boolean, .laload) := by decide +kernel
theorem fe_96_124 : am_fe 96 124 = some (1, some .boolean, .aload_n 2) := by decide +kernel
theorem fe_96_125 : am_fe 96 125 = some (1, some .boolean, .iload_n 3) := by decide +kernel
theorem fe_96_126 : am_fe 96 126 = some (1, some .boolean, .laload) := by decide +kernel
theorem fe_96_127 : am_fe 96 127 = some (1, some .boolean, .invokestatic 13) := by decide +kernel
theorem fe_96_130 : am_fe 96 130 = some (1, some .boolean, .lastore) := by decide +kernel
theorem fe_96_131 : am_fe 96 131 = some (1, some .boolean, .iinc 4 1) := by decide +kernel
theorem fe_96_134 : am_fe 96 134 = some (1, some .boolean, .goto (-129)) := by decide +kernel
theorem fe_96_137 : am_fe 96 137 = some (1, some .boolean, .iload_n 3) := by decide +kernel
theorem fe_96_138 : am_fe 96 138 = some (1, some .boolean, .iconst 1) := by decide +kernel
theorem fe_96_139 : am_fe 96 139 = some (1, some .boolean, .if_icmp .ne 15) := by decide +kernel
theorem fe_96_142 : am_fe 96 142 = some (1, some .boolean, .aload_n 2) := by decide +kernel
theorem fe_96_143 : am_fe 96 143 = some (1, some .boolean, .iconst 0) := by decide +kernel
theorem fe_96_144 : am_fe 96 144 = some (1, some .boolean, .laload) := by decide +kernel
theorem fe_96_145 : am_fe 96 145 = some (1, some .boolean, .lconst 0) := by decide +kernel
theorem fe_96_146 : am_fe 96 146 = some (1, some .boolean, .lcmp) := by decide +kernel
theorem fe_96_147 : am_fe 96 147 = some (1, some .boolean, .ifCond .eq 7) := by decide +kernel
theorem fe_96_150 : am_fe 96 150 = some (1, some .boolean, .iconst 1) := by decide +kernel
theorem fe_96_151 : am_fe 96 151 = some (1, some .boolean, .goto 4) := by decide +kernel
theorem fe_96_154 : am_fe 96 154 = some (1, some .boolean, .iconst 0) := by decide +kernel
theorem fe_96_155 : am_fe 96 155 = some (1, some .boolean, .ireturn) := by decide +kernel
theorem fe_97_0 : am_fe 97 0 = some (1, some .long, .iload_n 0) := by decide +kernel
theorem fe_97_1 : am_fe 97 1 = some (1, some .long, .tableswitch 163 (-22) (-12) #[159, 147, 135, 123, 111, 99, 85, 71, 67, 63, 59]) := by decide +kernel
theorem fe_97_60 : am_fe 97 60 = some (1, some .long, .lload_n 1) := by decide +kernel
theorem fe_97_61 : am_fe 97 61 = some (1, some .long, .lload_n 3) := by decide +kernel
theorem fe_97_62 : am_fe 97 62 = some (1, some .long, .ladd) := by decide +kernel
theorem fe_97_63 : am_fe 97 63 = some (1, some .long, .lreturn) := by decide +kernel
theorem fe_97_64 : am_fe 97 64 = some (1, some .long, .lload_n 1) := by decide +kernel
theorem fe_97_65 : am_fe 97 65 = some (1, some .long, .lload_n 3) := by decide +kernel
theorem fe_97_66 : am_fe 97 66 = some (1, some .long, .lsub) := by decide +kernel
theorem fe_97_67 : am_fe 97 67 = some (1, some .long, .lreturn) := by decide +kernel
theorem fe_97_68 : am_fe 97 68 = some (1, some .long, .lload_n 1) := by decide +kernel
theorem fe_97_69 : am_fe 97 69 = some (1, some .long, .lload_n 3) := by decide +kernel
theorem fe_97_70 : am_fe 97 70 = some (1, some .long, .lmul) := by decide +kernel
theorem fe_97_71 : am_fe 97 71 = some (1, some .long, .lreturn) := by decide +kernel
theorem fe_97_72 : am_fe 97 72 = some (1, some .long, .lload_n 3) := by decide +kernel
theorem fe_97_73 : am_fe 97 73 = some (1, some .long, .lconst 0) := by decide +kernel
theorem fe_97_74 : am_fe 97 74 = some (1, some .long, .lcmp) := by decide +kernel
theorem fe_97_75 : am_fe 97 75 = some (1, some .long, .ifCond .ne 7) := by decide +kernel
theorem fe_97_78 : am_fe 97 78 = some (1, some .long, .lconst 0) := by decide +kernel
theorem fe_97_79 : am_fe 97 79 = some (1, some .long, .goto 6) := by decide +kernel
theorem fe_97_82 : am_fe 97 82 = some (1, some .long, .lload_n 1) := by decide +kernel
theorem fe_97_83 : am_fe 97 83 = some (1, some .long, .lload_n 3) := by decide +kernel
theorem fe_97_84 : am_fe 97 84 = some (1, some .long, .ldiv) := by decide +kernel
theorem fe_97_85 : am_fe 97 85 = some (1, some .long, .lreturn) := by decide +kernel
theorem fe_97_86 : am_fe 97 86 = some (1, some .long, .lload_n 3) := by decide +kernel
theorem fe_97_87 : am_fe 97 87 = some (1, some .long, .lconst 0) := by decide +kernel
theorem fe_97_88 : am_fe 97 88 = some (1, some .long, .lcmp) := by decide +kernel
theorem fe_97_89 : am_fe 97 89 = some (1, some .long, .ifCond .ne 7) := by decide +kernel
theorem fe_97_92 : am_fe 97 92 = some (1, some .long, .lconst 0) := by decide +kernel
theorem fe_97_93 : am_fe 97 93 = some (1, some .long, .goto 6) := by decide +kernel
theorem fe_97_96 : am_fe 97 96 = some (1, some .long, .lload_n 1) := by decide +kernel
theorem fe_97_97 : am_fe 97 97 = some (1, some .long, .lload_n 3) := by decide +kernel
theorem fe_97_98 : am_fe 97 98 = some (1, some .long, .lrem) := by decide +kernel
theorem fe_97_99 : am_fe 97 99 = some (1, some .long, .lreturn) := by decide +kernel
theorem fe_97_100 : am_fe 97 100 = some (1, some .long, .lload_n 1) := by decide +kernel
theorem fe_97_101 : am_fe 97 101 = some (1, some .long, .lload_n 3) := by decide +kernel
theorem fe_97_102 : am_fe 97 102 = some (1, some .long, .lcmp) := by decide +kernel
theorem fe_97_103 : am_fe 97 103 = some (1, some .long, .ifCond .ge 7) := by decide +kernel
theorem fe_97_106 : am_fe 97 106 = some (1, some .long, .lconst 1) := by decide +kernel
theorem fe_97_107 : am_fe 97 107 = some (1, some .long, .goto 4) := by decide +kernel
theorem fe_97_110 : am_fe 97 110 = some (1, some .long, .lconst 0) := by decide +kernel
theorem fe_97_111 : am_fe 97 111 = some (1, some .long, .lreturn) := by decide +kernel
theorem fe_97_112 : am_fe 97 112 = some (1, some .long, .lload_n 1) := by decide +kernel
theorem fe_97_113 : am_fe 97 113 = some (1, some .long, .lload_n 3) := by decide +kernel
theorem fe_97_114 : am_fe 97 114 = some (1, some .long, .lcmp) := by decide +kernel
theorem fe_97_115 : am_fe 97 115 = some (1, some .long, .ifCond .gt 7) := by decide +kernel
theorem fe_97_118 : am_fe 97 118 = some (1, some .long, .lconst 1) := by decide +kernel
theorem fe_97_119 : am_fe 97 119 = some (1, some .long, .goto 4) := by decide +kernel
theorem fe_97_122 : am_fe 97 122 = some (1, some .long, .lconst 0) := by decide +kernel
theorem fe_97_123 : am_fe 97 123 = some (1, some .long, .lreturn) := by decide +kernel
theorem fe_97_124 : am_fe 97 124 = some (1, some .long, .lload_n 1) := by decide +kernel
theorem fe_97_125 : am_fe 97 125 = some (1, some .long, .lload_n 3) := by decide +kernel
theorem fe_97_126 : am_fe 97 126 = some (1, some .long, .lcmp) := by decide +kernel
theorem fe_97_127 : am_fe 97 127 = some (1, some .long, .ifCond .ne 7) := by decide +kernel
theorem fe_97_130 : am_fe 97 130 = some (1, some .long, .lconst 1) := by decide +kernel
theorem fe_97_131 : am_fe 97 131 = some (1, some .long, .goto 4) := by decide +kernel
theorem fe_97_134 : am_fe 97 134 = some (1, some .long, .lconst 0) := by decide +kernel
theorem fe_97_135 : am_fe 97 135 = some (1, some .long, .lreturn) := by decide +kernel
theorem fe_97_136 : am_fe 97 136 = some (1, some .long, .lload_n 1) := by decide +kernel
theorem fe_97_137 : am_fe 97 137 = some (1, some .long, .lload_n 3) := by decide +kernel
theorem fe_97_138 : am_fe 97 138 = some (1, some .long, .lcmp) := by decide +kernel
theorem fe_97_139 : am_fe 97 139 = some (1, some .long, .ifCond .lt 7) := by decide +kernel
theorem fe_97_142 : am_fe 97 142 = some (1, some .long, .lconst 1) := by decide +kernel
theorem fe_97_143 : am_fe 97 143 = some (1, some .long, .goto 4) := by decide +kernel
theorem fe_97_146 : am_fe 97 146 = some (1, some .long, .lconst 0) := by decide +kernel
theorem fe_97_147 : am_fe 97 147 = some (1, some .long, .lreturn) := by decide +kernel
theorem fe_97_148 : am_fe 97 148 = some (1, some .long, .lload_n 1) := by decide +kernel
theorem fe_97_149 : am_fe 97 149 = some (1, some .long, .lload_n 3) := by decide +kernel
theorem fe_97_150 : am_fe 97 150 = some (1, some .long, .lcmp) := by decide +kernel
theorem fe_97_151 : am_fe 97 151 = some (1, some .long, .ifCond .le 7) := by decide +kernel
theorem fe_97_154 : am_fe 97 154 = some (1, some .long, .lconst 1) := by decide +kernel
theorem fe_97_155 : am_fe 97 155 = some (1, some .long, .goto 4) := by decide +kernel
theorem fe_97_158 : am_fe 97 158 = some (1, some .long, .lconst 0) := by decide +kernel
theorem fe_97_159 : am_fe 97 159 = some (1, some .long, .lreturn) := by decide +kernel
theorem fe_97_160 : am_fe 97 160 = some (1, some .long, .lload_n 1) := by decide +kernel
theorem fe_97_161 : am_fe 97 161 = some (1, some .long, .lload_n 3) := by decide +kernel
theorem fe_97_162 : am_fe 97 162 = some (1, some .long, .land) := by decide +kernel
theorem fe_97_163 : am_fe 97 163 = some (1, some .long, .lreturn) := by decide +kernel
theorem fe_97_164 : am_fe 97 164 = some (1, some .long, .lload_n 1) := by decide +kernel
theorem fe_97_165 : am_fe 97 165 = some (1, some .long, .lload_n 3) := by decide +kernel
theorem fe_97_166 : am_fe 97 166 = some (1, some .long, .lor) := by decide +kernel
theorem fe_97_167 : am_fe 97 167 = some (1, some .long, .lreturn) := by decide +kernel
theorem fe_98_0 : am_fe 98 0 = some (9, none, .aload_n 0) := by decide +kernel
theorem fe_98_1 : am_fe 98 1 = some (9, none, .getfield 25) := by decide +kernel
theorem fe_98_4 : am_fe 98 4 = some (9, none, .iload_n 1) := by decide +kernel
theorem fe_98_5 : am_fe 98 5 = some (9, none, .aload_n 0) := by decide +kernel
theorem fe_98_6 : am_fe 98 6 = some (9, none, .getfield 25) := by decide +kernel
theorem fe_98_9 : am_fe 98 9 = some (9, none, .iload_n 1) := by decide +kernel
theorem fe_98_10 : am_fe 98 10 = some (9, none, .iaload) := by decide +kernel
theorem fe_98_11 : am_fe 98 11 = some (9, none, .getstatic 68) := by decide +kernel
theorem fe_98_14 : am_fe 98 14 = some (9, none, .aload_n 0) := by decide +kernel
theorem fe_98_15 : am_fe 98 15 = some (9, none, .getfield 28) := by decide +kernel
theorem fe_98_18 : am_fe 98 18 = some (9, none, .iload_n 2) := by decide +kernel
theorem fe_98_19 : am_fe 98 19 = some (9, none, .iaload) := by decide +kernel
theorem fe_98_20 : am_fe 98 20 = some (9, none, .iaload) := by decide +kernel
theorem fe_98_21 : am_fe 98 21 = some (9, none, .imul) := by decide +kernel
theorem fe_98_22 : am_fe 98 22 = some (9, none, .aload_n 0) := by decide +kernel
theorem fe_98_23 : am_fe 98 23 = some (9, none, .getfield 25) := by decide +kernel
theorem fe_98_26 : am_fe 98 26 = some (9, none, .iload_n 2) := by decide +kernel
theorem fe_98_27 : am_fe 98 27 = some (9, none, .iaload) := by decide +kernel
theorem fe_98_28 : am_fe 98 28 = some (9, none, .iadd) := by decide +kernel
theorem fe_98_29 : am_fe 98 29 = some (9, none, .iastore) := by decide +kernel
theorem fe_98_30 : am_fe 98 30 = some (9, none, .aload_n 0) := by decide +kernel
theorem fe_98_31 : am_fe 98 31 = some (9, none, .getfield 28) := by decide +kernel
theorem fe_98_34 : am_fe 98 34 = some (9, none, .iload_n 1) := by decide +kernel
theorem fe_98_35 : am_fe 98 35 = some (9, none, .dup2) := by decide +kernel
theorem fe_98_36 : am_fe 98 36 = some (9, none, .iaload) := by decide +kernel
theorem fe_98_37 : am_fe 98 37 = some (9, none, .aload_n 0) := by decide +kernel
theorem fe_98_38 : am_fe 98 38 = some (9, none, .getfield 28) := by decide +kernel
theorem fe_98_41 : am_fe 98 41 = some (9, none, .iload_n 2) := by decide +kernel
theorem fe_98_42 : am_fe 98 42 = some (9, none, .iaload) := by decide +kernel
theorem fe_98_43 : am_fe 98 43 = some (9, none, .iadd) := by decide +kernel
theorem fe_98_44 : am_fe 98 44 = some (9, none, .iastore) := by decide +kernel
theorem fe_98_45 : am_fe 98 45 = some (9, none, .aload_n 0) := by decide +kernel
theorem fe_98_46 : am_fe 98 46 = some (9, none, .getfield 31) := by decide +kernel
theorem fe_98_49 : am_fe 98 49 = some (9, none, .iload_n 1) := by decide +kernel
theorem fe_98_50 : am_fe 98 50 = some (9, none, .dup2) := by decide +kernel
theorem fe_98_51 : am_fe 98 51 = some (9, none, .iaload) := by decide +kernel
theorem fe_98_52 : am_fe 98 52 = some (9, none, .aload_n 0) := by decide +kernel
theorem fe_98_53 : am_fe 98 53 = some (9, none, .getfield 31) := by decide +kernel
theorem fe_98_56 : am_fe 98 56 = some (9, none, .iload_n 2) := by decide +kernel
theorem fe_98_57 : am_fe 98 57 = some (9, none, .iaload) := by decide +kernel
theorem fe_98_58 : am_fe 98 58 = some (9, none, .ior) := by decide +kernel
theorem fe_98_59 : am_fe 98 59 = some (9, none, .iastore) := by decide +kernel
theorem fe_98_60 : am_fe 98 60 = some (9, none, .aload_n 0) := by decide +kernel
theorem fe_98_61 : am_fe 98 61 = some (9, none, .iload_n 2) := by decide +kernel
theorem fe_98_62 : am_fe 98 62 = some (9, none, .iconst 3) := by decide +kernel
theorem fe_98_63 : am_fe 98 63 = some (9, none, .iload_n 1) := by decide +kernel
theorem fe_98_64 : am_fe 98 64 = some (9, none, .invokevirtual 71) := by decide +kernel
theorem fe_98_67 : am_fe 98 67 = some (9, none, .return_) := by decide +kernel
theorem fe_99_0 : am_fe 99 0 = some (7, none, .iconst 0) := by decide +kernel
theorem fe_99_1 : am_fe 99 1 = some (7, none, .istore_n 1) := by decide +kernel
theorem fe_99_2 : am_fe 99 2 = some (7, none, .iload_n 1) := by decide +kernel
theorem fe_99_3 : am_fe 99 3 = some (7, none, .aload_n 0) := by decide +kernel
theorem fe_99_4 : am_fe 99 4 = some (7, none, .getfield 31) := by decide +kernel
theorem fe_99_7 : am_fe 99 7 = some (7, none, .getfield 88) := by decide +kernel
theorem fe_99_10 : am_fe 99 10 = some (7, none, .if_icmp .ge 76) := by decide +kernel
theorem fe_99_13 : am_fe 99 13 = some (7, none, .aload_n 0) := by decide +kernel
theorem fe_99_14 : am_fe 99 14 = some (7, none, .getfield 31) := by decide +kernel
theorem fe_99_17 : am_fe 99 17 = some (7, none, .getfield 80) := by decide +kernel
theorem fe_99_20 : am_fe 99 20 = some (7, none, .iload_n 1) := by decide +kernel
theorem fe_99_21 : am_fe 99 21 = some (7, none, .iaload) := by decide +kernel
theorem fe_99_22 : am_fe 99 22 = some (7, none, .istore_n 2) := by decide +kernel
theorem fe_99_23 : am_fe 99 23 = some (7, none, .iload_n 2) := by decide +kernel
theorem fe_99_24 : am_fe 99 24 = some (7, none, .ifCond .lt 56) := by decide +kernel
theorem fe_99_27 : am_fe 99 27 = some (7, none, .aload_n 0) := by decide +kernel
theorem fe_99_28 : am_fe 99 28 = some (7, none, .getfield 31) := by decide +kernel
theorem fe_99_31 : am_fe 99 31 = some (7, none, .getfield 169) := by decide +kernel
theorem fe_99_34 : am_fe 99 34 = some (7, none, .iload_n 2) := by decide +kernel
theorem fe_99_35 : am_fe 99 35 = some (7, none, .iaload) := by decide +kernel
theorem fe_99_36 : am_fe 99 36 = some (7, none, .ifCond .le 44) := by decide +kernel
theorem fe_99_39 : am_fe 99 39 = some (7, none, .aload_n 0) := by decide +kernel
theorem fe_99_40 : am_fe 99 40 = some (7, none, .getfield 31) := by decide +kernel
theorem fe_99_43 : am_fe 99 43 = some (7, none, .getfield 128) := by decide +kernel
theorem fe_99_46 : am_fe 99 46 = some (7, none, .iload_n 1) := by decide +kernel
theorem fe_99_47 : am_fe 99 47 = some (7, none, .iaload) := by decide +kernel
theorem fe_99_48 : am_fe 99 48 = some (7, none, .aload_n 0) := by decide +kernel
theorem fe_99_49 : am_fe 99 49 = some (7, none, .getfield 31) := by decide +kernel
theorem fe_99_52 : am_fe 99 52 = some (7, none, .getfield 169) := by decide +kernel
theorem fe_99_55 : am_fe 99 55 = some (7, none, .iload_n 2) := by decide +kernel
theorem fe_99_56 : am_fe 99 56 = some (7, none, .iaload) := by decide +kernel
theorem fe_99_57 : am_fe 99 57 = some (7, none, .if_icmp .lt 23) := by decide +kernel
theorem fe_99_60 : am_fe 99 60 = some (7, none, .aload_n 0) := by decide +kernel
theorem fe_99_61 : am_fe 99 61 = some (7, none, .getfield 31) := by decide +kernel
theorem fe_99_64 : am_fe 99 64 = some (7, none, .iload_n 1) := by decide +kernel
theorem fe_99_65 : am_fe 99 65 = some (7, none, .iconst 2) := by decide +kernel
theorem fe_99_66 : am_fe 99 66 = some (7, none, .iload_n 2) := by decide +kernel
theorem fe_99_67 : am_fe 99 67 = some (7, none, .invokevirtual 118) := by decide +kernel
theorem fe_99_70 : am_fe 99 70 = some (7, none, .aload_n 0) := by decide +kernel
theorem fe_99_71 : am_fe 99 71 = some (7, none, .dup) := by decide +kernel
theorem fe_99_72 : am_fe 99 72 = some (7, none, .getfield 42) := by decide +kernel
theorem fe_99_75 : am_fe 99 75 = some (7, none, .iconst 1) := by decide +kernel
theorem fe_99_76 : am_fe 99 76 = some (7, none, .iadd) := by decide +kernel
theorem fe_99_77 : am_fe 99 77 = some (7, none, .putfield 42) := by decide +kernel
theorem fe_99_80 : am_fe 99 80 = some (7, none, .iinc 1 1) := by decide +kernel
theorem fe_99_83 : am_fe 99 83 = some (7, none, .goto (-81)) := by decide +kernel
theorem fe_99_86 : am_fe 99 86 = some (7, none, .return_) := by decide +kernel
theorem fe_100_0 : am_fe 100 0 = some (7, none, .aload_n 0) := by decide +kernel
theorem fe_100_1 : am_fe 100 1 = some (7, none, .getfield 31) := by decide +kernel
theorem fe_100_4 : am_fe 100 4 = some (7, none, .aload_n 0) := by decide +kernel
theorem fe_100_5 : am_fe 100 5 = some (7, none, .getfield 31) := by decide +kernel
theorem fe_100_8 : am_fe 100 8 = some (7, none, .getfield 71) := by decide +kernel
theorem fe_100_11 : am_fe 100 11 = some (7, none, .iload_n 1) := by decide +kernel
theorem fe_100_12 : am_fe 100 12 = some (7, none, .iadd) := by decide +kernel
theorem fe_100_13 : am_fe 100 13 = some (7, none, .sipush 999) := by decide +kernel
theorem fe_100_16 : am_fe 100 16 = some (7, none, .invokestatic 74) := by decide +kernel
theorem fe_100_19 : am_fe 100 19 = some (7, none, .putfield 71) := by decide +kernel
theorem fe_100_22 : am_fe 100 22 = some (7, none, .return_) := by decide +kernel
theorem fe_101_0 : am_fe 101 0 = some (11, some .int, .aload_n 0) := by decide +kernel
theorem fe_101_1 : am_fe 101 1 = some (11, some .int, .iload_n 1) := by decide +kernel
theorem fe_101_2 : am_fe 101 2 = some (11, some .int, .invokevirtual 124) := by decide +kernel
theorem fe_101_5 : am_fe 101 5 = some (11, some .int, .ifCond .eq 25) := by decide +kernel
theorem fe_101_8 : am_fe 101 8 = some (11, some .int, .iload_n 2) := by decide +kernel
theorem fe_101_9 : am_fe 101 9 = some (11, some .int, .invokestatic 198) := by decide +kernel
theorem fe_101_12 : am_fe 101 12 = some (11, some .int, .ifCond .eq 18) := by decide +kernel
theorem fe_101_15 : am_fe 101 15 = some (11, some .int, .aload_n 0) := by decide +kernel
theorem fe_101_16 : am_fe 101 16 = some (11, some .int, .getfield 43) := by decide +kernel
theorem fe_101_19 : am_fe 101 19 = some (11, some .int, .getfield 94) := by decide +kernel
theorem fe_101_22 : am_fe 101 22 = some (11, some .int, .getfield 113) := by decide +kernel
theorem fe_101_25 : am_fe 101 25 = some (11, some .int, .bipush 12) := by decide +kernel
theorem fe_101_27 : am_fe 101 27 = some (11, some .int, .if_icmp .lt 5) := by decide +kernel
theorem fe_101_30 : am_fe 101 30 = some (11, some .int, .iconst (-1)) := by decide +kernel
theorem fe_101_31 : am_fe 101 31 = some (11, some .int, .ireturn) := by decide +kernel
theorem fe_101_32 : am_fe 101 32 = some (11, some .int, .aload_n 0) := by decide +kernel
theorem fe_101_33 : am_fe 101 33 = some (11, some .int, .getfield 43) := by decide +kernel
theorem fe_101_36 : am_fe 101 36 = some (11, some .int, .getfield 104) := by decide +kernel
theorem fe_101_39 : am_fe 101 39 = some (11, some .int, .aload_n 0) := by decide +kernel
theorem fe_101_40 : am_fe 101 40 = some (11, some .int, .getfield 43) := by decide +kernel
theorem fe_101_43 : am_fe 101 43 = some (11, some .int, .getfield 94) := by decide +kernel
theorem fe_101_46 : am_fe 101 46 = some (11, some .int, .invokevirtual 176) := by decide +kernel
theorem fe_101_49 : am_fe 101 49 = some (11, some .int, .aload_n 0) := by decide +kernel
theorem fe_101_50 : am_fe 101 50 = some (11, some .int, .getfield 43) := by decide +kernel
theorem fe_101_53 : am_fe 101 53 = some (11, some .int, .getfield 94) := by decide +kernel
theorem fe_101_56 : am_fe 101 56 = some (11, some .int, .iload_n 1) := by decide +kernel
theorem fe_101_57 : am_fe 101 57 = some (11, some .int, .iload_n 2) := by decide +kernel
theorem fe_101_58 : am_fe 101 58 = some (11, some .int, .invokevirtual 201) := by decide +kernel
theorem fe_101_61 : am_fe 101 61 = some (11, some .int, .ireturn) := by decide +kernel
theorem fe_102_0 : am_fe 102 0 = some (11, some .int, .iconst 0) := by decide +kernel
theorem fe_102_1 : am_fe 102 1 = some (11, some .int, .istore_n 1) := by decide +kernel
theorem fe_102_2 : am_fe 102 2 = some (11, some .int, .iload_n 0) := by decide +kernel
theorem fe_102_3 : am_fe 102 3 = some (11, some .int, .istore_n 2) := by decide +kernel
theorem fe_102_4 : am_fe 102 4 = some (11, some .int, .iload_n 2) := by decide +kernel
theorem fe_102_5 : am_fe 102 5 = some (11, some .int, .ifCond .le 38) := by decide +kernel
theorem fe_102_8 : am_fe 102 8 = some (11, some .int, .iload_n 1) := by decide +kernel
theorem fe_102_9 : am_fe 102 9 = some (11, some .int, .bipush 8) := by decide +kernel
theorem fe_102_11 : am_fe 102 11 = some (11, some .int, .if_icmp .gt 32) := by decide +kernel
theorem fe_102_14 : am_fe 102 14 = some (11, some .int, .iload_n 2) := by decide +kernel
theorem fe_102_15 : am_fe 102 15 = some (11, some .int, .bipush 10) := by decide +kernel
theorem fe_102_17 : am_fe 102 17 = some (11, some .int, .irem) := by decide +kernel
theorem fe_102_18 : am_fe 102 18 = some (11, some .int, .istore_n 3) := by decide +kernel
theorem fe_102_19 : am_fe 102 19 = some (11, some .int, .iload_n 3) := by decide +kernel
theorem fe_102_20 : am_fe 102 20 = some (11, some .int, .iconst 1) := by decide +kernel
theorem fe_102_21 : am_fe 102 21 = some (11, some .int, .if_icmp .lt 9) := by decide +kernel
theorem fe_102_24 : am_fe 102 24 = some (11, some .int, .iload_n 3) := by decide +kernel
theorem fe_102_25 : am_fe 102 25 = some (11, some .int, .bipush 6) := by decide +kernel
theorem fe_102_27 : am_fe 102 27 = some (11, some .int, .if_icmp .le 5) := by decide +kernel
theorem fe_102_30 : am_fe 102 30 = some (11, some .int, .iconst 0) := by decide +kernel
theorem fe_102_31 : am_fe 102 31 = some (11, some .int, .ireturn) := by decide +kernel
theorem fe_102_32 : am_fe 102 32 = some (11, some .int, .iload_n 2) := by decide +kernel
theorem fe_102_33 : am_fe 102 33 = some (11, some .int, .bipush 10) := by decide +kernel
theorem fe_102_35 : am_fe 102 35 = some (11, some .int, .idiv) := by decide +kernel
theorem fe_102_36 : am_fe 102 36 = some (11, some .int, .istore_n 2) := by decide +kernel
theorem fe_102_37 : am_fe 102 37 = some (11, some .int, .iinc 1 1) := by decide +kernel
theorem fe_102_40 : am_fe 102 40 = some (11, some .int, .goto (-36)) := by decide +kernel
theorem fe_102_43 : am_fe 102 43 = some (11, some .int, .iload_n 1) := by decide +kernel
theorem fe_102_44 : am_fe 102 44 = some (11, some .int, .bipush 8) := by decide +kernel
theorem fe_102_46 : am_fe 102 46 = some (11, some .int, .if_icmp .le 7) := by decide +kernel
theorem fe_102_49 : am_fe 102 49 = some (11, some .int, .iconst 0) := by decide +kernel
theorem fe_102_50 : am_fe 102 50 = some (11, some .int, .goto 4) := by decide +kernel
theorem fe_102_53 : am_fe 102 53 = some (11, some .int, .iload_n 1) := by decide +kernel
theorem fe_102_54 : am_fe 102 54 = some (11, some .int, .ireturn) := by decide +kernel
theorem fe_103_0 : am_fe 103 0 = some (11, some .int, .aload_n 0) := by decide +kernel
theorem fe_103_1 : am_fe 103 1 = some (11, some .int, .getfield 43) := by decide +kernel
theorem fe_103_4 : am_fe 103 4 = some (11, some .int, .getfield 94) := by decide +kernel
theorem fe_103_7 : am_fe 103 7 = some (11, some .int, .astore_n 2) := by decide +kernel
theorem fe_103_8 : am_fe 103 8 = some (11, some .int, .aload_n 0) := by decide +kernel
theorem fe_103_9 : am_fe 103 9 = some (11, some .int, .iload_n 1) := by decide +kernel
theorem fe_103_10 : am_fe 103 10 = some (11, some .int, .invokevirtual 148) := by decide +kernel
theorem fe_103_13 : am_fe 103 13 = some (11, some .int, .ifCond .eq 31) := by decide +kernel
theorem fe_103_16 : am_fe 103 16 = some (11, some .int, .aload_n 2) := by decide +kernel
theorem fe_103_17 : am_fe 103 17 = some (11, some .int, .getfield 151) := by decide +kernel
theorem fe_103_20 : am_fe 103 20 = some (11, some .int, .iload_n 1) := by decide +kernel
theorem fe_103_21 : am_fe 103 21 = some (11, some .int, .iaload) := by decide +kernel
theorem fe_103_22 : am_fe 103 22 = some (11, some .int, .ifCond .lt 22) := by decide +kernel
theorem fe_103_25 : am_fe 103 25 = some (11, some .int, .aload_n 2) := by decide +kernel
theorem fe_103_26 : am_fe 103 26 = some (11, some .int, .getfield 205) := by decide +kernel
theorem fe_103_29 : am_fe 103 29 = some (11, some .int, .iload_n 1) := by decide +kernel
theorem fe_103_30 : am_fe 103 30 = some (11, some .int, .iaload) := by decide +kernel
theorem fe_103_31 : am_fe 103 31 = some (11, some .int, .iconst 2) := by decide +kernel
theorem fe_103_32 : am_fe 103 32 = some (11, some .int, .if_icmp .lt 12) := by decide +kernel
theorem fe_103_35 : am_fe 103 35 = some (11, some .int, .aload_n 2) := by decide +kernel
theorem fe_103_36 : am_fe 103 36 = some (11, some .int, .getfield 113) := by decide +kernel
theorem fe_103_39 : am_fe 103 39 = some (11, some .int, .bipush 12) := by decide +kernel
theorem fe_103_41 : am_fe 103 41 = some (11, some .int, .if_icmp .lt 5) := by decide +kernel
theorem fe_103_44 : am_fe 103 44 = some (11, some .int, .iconst (-1)) := by decide +kernel
theorem fe_103_45 : am_fe 103 45 = some (11, some .int, .ireturn) := by decide +kernel
theorem fe_103_46 : am_fe 103 46 = some (11, some .int, .aload_n 0) := by decide +kernel
theorem fe_103_47 : am_fe 103 47 = some (11, some .int, .getfield 43) := by decide +kernel
theorem fe_103_50 : am_fe 103 50 = some (11, some .int, .getfield 104) := by decide +kernel
theorem fe_103_53 : am_fe 103 53 = some (11, some .int, .aload_n 2) := by decide +kernel
theorem fe_103_54 : am_fe 103 54 = some (11, some .int, .invokevirtual 176) := by decide +kernel
theorem fe_103_57 : am_fe 103 57 = some (11, some .int, .aload_n 2) := by decide +kernel
theorem fe_103_58 : am_fe 103 58 = some (11, some .int, .getfield 205) := by decide +kernel
theorem fe_103_61 : am_fe 103 61 = some (11, some .int, .iload_n 1) := by decide +kernel
theorem fe_103_62 : am_fe 103 62 = some (11, some .int, .iaload) := by decide +kernel
theorem fe_103_63 : am_fe 103 63 = some (11, some .int, .aload_n 2) := by decide +kernel
theorem fe_103_64 : am_fe 103 64 = some (11, some .int, .getfield 205) := by decide +kernel
theorem fe_103_67 : am_fe 103 67 = some (11, some .int, .iload_n 1) := by decide +kernel
theorem fe_103_68 : am_fe 103 68 = some (11, some .int, .iaload) := by decide +kernel
theorem fe_103_69 : am_fe 103 69 = some (11, some .int, .iconst 2) := by decide +kernel
theorem fe_103_70 : am_fe 103 70 = some (11, some .int, .idiv) := by decide +kernel
theorem fe_103_71 : am_fe 103 71 = some (11, some .int, .isub) := by decide +kernel
theorem fe_103_72 : am_fe 103 72 = some (11, some .int, .istore_n 3) := by decide +kernel
theorem fe_103_73 : am_fe 103 73 = some (11, some .int, .aload_n 2) := by decide +kernel
theorem fe_103_74 : am_fe 103 74 = some (11, some .int, .getfield 154) := by decide +kernel
theorem fe_103_77 : am_fe 103 77 = some (11, some .int, .iload_n 1) := by decide +kernel
theorem fe_103_78 : am_fe 103 78 = some (11, some .int, .iaload) := by decide +kernel
theorem fe_103_79 : am_fe 103 79 = some (11, some .int, .istore 4) := by decide +kernel
theorem fe_103_81 : am_fe 103 81 = some (11, some .int, .aload_n 2) := by decide +kernel
theorem fe_103_82 : am_fe 103 82 = some (11, some .int, .aload_n 2) := by decide +kernel
theorem fe_103_83 : am_fe 103 83 = some (11, some .int, .getfield 151) := by decide +kernel
theorem fe_103_86 : am_fe 103 86 = some (11, some .int, .iload_n 1) := by decide +kernel
theorem fe_103_87 : am_fe 103 87 = some (11, some .int, .iaload) := by decide +kernel
theorem fe_103_88 : am_fe 103 88 = some (11, some .int, .iload 4) := by decide +kernel
theorem fe_103_90 : am_fe 103 90 = some (11, some .int, .getstatic 208) := by decide +kernel
theorem fe_103_93 : am_fe 103 93 = some (11, some .int, .iload_n 3) := by decide +kernel
theorem fe_103_94 : am_fe 103 94 = some (11, some .int, .iaload) := by decide +kernel
theorem fe_103_95 : am_fe 103 95 = some (11, some .int, .irem) := by decide +kernel
theorem fe_103_96 : am_fe 103 96 = some (11, some .int, .invokevirtual 201) := by decide +kernel
theorem fe_103_99 : am_fe 103 99 = some (11, some .int, .istore 5) := by decide +kernel
theorem fe_103_101 : am_fe 103 101 = some (11, some .int, .iload 5) := by decide +kernel
theorem fe_103_103 : am_fe 103 103 = some (11, some .int, .ifCond .ge 5) := by decide +kernel
theorem fe_103_106 : am_fe 103 106 = some (11, some .int, .iconst (-1)) := by decide +kernel
theorem fe_103_107 : am_fe 103 107 = some (11, some .int, .ireturn) := by decide +kernel
theorem fe_103_108 : am_fe 103 108 = some (11, some .int, .aload_n 2) := by decide +kernel
theorem fe_103_109 : am_fe 103 109 = some (11, some .int, .getfield 157) := by decide +kernel
theorem fe_103_112 : am_fe 103 112 = some (11, some .int, .iload 5) := by decide +kernel
theorem fe_103_114 : am_fe 103 114 = some (11, some .int, .aload_n 2) := by decide +kernel
theorem fe_103_115 : am_fe 103 115 = some (11, some .int, .getfield 157) := by decide +kernel
theorem fe_103_118 : am_fe 103 118 = some (11, some .int, .iload_n 1) := by decide +kernel
theorem fe_103_119 : am_fe 103 119 = some (11, some .int, .iaload) := by decide +kernel
theorem fe_103_120 : am_fe 103 120 = some (11, some .int, .iastore) := by decide +kernel
theorem fe_103_121 : am_fe 103 121 = some (11, some .int, .aload_n 2) := by decide +kernel
theorem fe_103_122 : am_fe 103 122 = some (11, some .int, .iload_n 1) := by decide +kernel
theorem fe_103_123 : am_fe 103 123 = some (11, some .int, .iload 4) := by decide +kernel
theorem fe_103_125 : am_fe 103 125 = some (11, some .int, .getstatic 208) := by decide +kernel
theorem fe_103_128 : am_fe 103 128 = some (11, some .int, .iload_n 3) := by decide +kernel
theorem fe_103_129 : am_fe 103 129 = some (11, some .int, .iaload) := by decide +kernel
theorem fe_103_130 : am_fe 103 130 = some (11, some .int, .idiv) := by decide +kernel
theorem fe_103_131 : am_fe 103 131 = some (11, some .int, .invokevirtual 211) := by decide +kernel
theorem fe_103_134 : am_fe 103 134 = some (11, some .int, .iload 5) := by decide +kernel
theorem fe_103_136 : am_fe 103 136 = some (11, some .int, .ireturn) := by decide +kernel
theorem fe_104_0 : am_fe 104 0 = some (11, some .boolean, .iload_n 2) := by decide +kernel
theorem fe_104_1 : am_fe 104 1 = some (11, some .boolean, .ifCond .eq 7) := by decide +kernel
theorem fe_104_4 : am_fe 104 4 = some (11, some .boolean, .iconst 1) := by decide +kernel
theorem fe_104_5 : am_fe 104 5 = some (11, some .boolean, .goto 4) := by decide +kernel
theorem fe_104_8 : am_fe 104 8 = some (11, some .boolean, .iconst 2) := by decide +kernel
theorem fe_104_9 : am_fe 104 9 = some (11, some .boolean, .istore_n 3) := by decide +kernel
theorem fe_104_10 : am_fe 104 10 = some (11, some .boolean, .aload_n 0) := by decide +kernel
theorem fe_104_11 : am_fe 104 11 = some (11, some .boolean, .iload_n 1) := by decide +kernel
theorem fe_104_12 : am_fe 104 12 = some (11, some .boolean, .invokevirtual 124) := by decide +kernel
theorem fe_104_15 : am_fe 104 15 = some (11, some .boolean, .ifCond .eq 20) := by decide +kernel
theorem fe_104_18 : am_fe 104 18 = some (11, some .boolean, .aload_n 0) := by decide +kernel
theorem fe_104_19 : am_fe 104 19 = some (11, some .boolean, .iload_n 1) := by decide +kernel
theorem fe_104_20 : am_fe 104 20 = some (11, some .boolean, .invokevirtual 139) := by decide +kernel
theorem fe_104_23 : am_fe 104 23 = some (11, some .boolean, .ifCond .eq 12) := by decide +kernel
theorem fe_104_26 : am_fe 104 26 = some (11, some .boolean, .aload_n 0) := by decide +kernel
theorem fe_104_27 : am_fe 104 27 = some (11, some .boolean, .iload_n 1) := by decide +kernel
theorem fe_104_28 : am_fe 104 28 = some (11, some .boolean, .invokevirtual 139) := by decide +kernel
theorem fe_104_31 : am_fe 104 31 = some (11, some .boolean, .iload_n 3) := by decide +kernel
theorem fe_104_32 : am_fe 104 32 = some (11, some .boolean, .if_icmp .ne 5) := by decide +kernel
theorem fe_104_35 : am_fe 104 35 = some (11, some .boolean, .iconst 0) := by decide +kernel
theorem fe_104_36 : am_fe 104 36 = some (11, some .boolean, .ireturn) := by decide +kernel
theorem fe_104_37 : am_fe 104 37 = some (11, some .boolean, .aload_n 0) := by decide +kernel
theorem fe_104_38 : am_fe 104 38 = some (11, some .boolean, .getfield 43) := by decide +kernel
theorem fe_104_41 : am_fe 104 41 = some (11, some .boolean, .getfield 104) := by decide +kernel
theorem fe_104_44 : am_fe 104 44 = some (11, some .boolean, .aload_n 0) := by decide +kernel
theorem fe_104_45 : am_fe 104 45 = some (11, some .boolean, .getfield 43) := by decide +kernel
theorem fe_104_48 : am_fe 104 48 = some (11, some .boolean, .getfield 94) := by decide +kernel
theorem fe_104_51 : am_fe 104 51 = some (11, some .boolean, .invokevirtual 176) := by decide +kernel
theorem fe_104_54 : am_fe 104 54 = some (11, some .boolean, .aload_n 0) := by decide +kernel
theorem fe_104_55 : am_fe 104 55 = some (11, some .boolean, .getfield 43) := by decide +kernel
theorem fe_104_58 : am_fe 104 58 = some (11, some .boolean, .getfield 94) := by decide +kernel
theorem fe_104_61 : am_fe 104 61 = some (11, some .boolean, .dup) := by decide +kernel
theorem fe_104_62 : am_fe 104 62 = some (11, some .boolean, .getfield 215) := by decide +kernel
theorem fe_104_65 : am_fe 104 65 = some (11, some .boolean, .iconst 1) := by decide +kernel
theorem fe_104_66 : am_fe 104 66 = some (11, some .boolean, .aload_n 0) := by decide +kernel
theorem fe_104_67 : am_fe 104 67 = some (11, some .boolean, .getfield 43) := by decide +kernel
theorem fe_104_70 : am_fe 104 70 = some (11, some .boolean, .getfield 83) := by decide +kernel
theorem fe_104_73 : am_fe 104 73 = some (11, some .boolean, .getfield 218) := by decide +kernel
theorem fe_104_76 : am_fe 104 76 = some (11, some .boolean, .iload_n 1) := by decide +kernel
theorem fe_104_77 : am_fe 104 77 = some (11, some .boolean, .iaload) := by decide +kernel
theorem fe_104_78 : am_fe 104 78 = some (11, some .boolean, .ishl) := by decide +kernel
theorem fe_104_79 : am_fe 104 79 = some (11, some .boolean, .ixor) := by decide +kernel
theorem fe_104_80 : am_fe 104 80 = some (11, some .boolean, .putfield 215) := by decide +kernel
theorem fe_104_83 : am_fe 104 83 = some (11, some .boolean, .iconst 1) := by decide +kernel
theorem fe_104_84 : am_fe 104 84 = some (11, some .boolean, .ireturn) := by decide +kernel
theorem fe_105_0 : am_fe 105 0 = some (11, some .int, .aload_n 0) := by decide +kernel
theorem fe_105_1 : am_fe 105 1 = some (11, some .int, .iload_n 1) := by decide +kernel
theorem fe_105_2 : am_fe 105 2 = some (11, some .int, .invokevirtual 124) := by decide +kernel
theorem fe_105_5 : am_fe 105 5 = some (11, some .int, .ifCond .eq 13) := by decide +kernel
theorem fe_105_8 : am_fe 105 8 = some (11, some .int, .iload_n 2) := by decide +kernel
theorem fe_105_9 : am_fe 105 9 = some (11, some .int, .ifCond .lt 9) := by decide +kernel
theorem fe_105_12 : am_fe 105 12 = some (11, some .int, .iload_n 2) := by decide +kernel
theorem fe_105_13 : am_fe 105 13 = some (11, some .int, .bipush 8) := by decide +kernel
theorem fe_105_15 : am_fe 105 15 = some (11, some .int, .if_icmp .le 5) := by decide +kernel
theorem fe_105_18 : am_fe 105 18 = some (11, some .int, .iconst (-1)) := by decide +kernel
theorem fe_105_19 : am_fe 105 19 = some (11, some .int, .ireturn) := by decide +kernel
theorem fe_105_20 : am_fe 105 20 = some (11, some .int, .aload_n 0) := by decide +kernel
theorem fe_105_21 : am_fe 105 21 = some (11, some .int, .getfield 43) := by decide +kernel
theorem fe_105_24 : am_fe 105 24 = some (11, some .int, .getfield 94) := by decide +kernel
theorem fe_105_27 : am_fe 105 27 = some (11, some .int, .getfield 142) := by decide +kernel
theorem fe_105_30 : am_fe 105 30 = some (11, some .int, .iload_n 1) := by decide +kernel
theorem fe_105_31 : am_fe 105 31 = some (11, some .int, .iaload) := by decide +kernel
theorem fe_105_32 : am_fe 105 32 = some (11, some .int, .istore_n 3) := by decide +kernel
theorem fe_105_33 : am_fe 105 33 = some (11, some .int, .iload_n 3) := by decide +kernel
theorem fe_105_34 : am_fe 105 34 = some (11, some .int, .iload_n 2) := by decide +kernel
theorem fe_105_35 : am_fe 105 35 = some (11, some .int, .if_icmp .eq 21) := by decide +kernel
theorem fe_105_38 : am_fe 105 38 = some (11, some .int, .iload_n 3) := by decide +kernel
theorem fe_105_39 : am_fe 105 39 = some (11, some .int, .ifCond .ne 19) := by decide +kernel
theorem fe_105_42 : am_fe 105 42 = some (11, some .int, .aload_n 0) := by decide +kernel
theorem fe_105_43 : am_fe 105 43 = some (11, some .int, .getfield 43) := by decide +kernel
theorem fe_105_46 : am_fe 105 46 = some (11, some .int, .getfield 94) := by decide +kernel
theorem fe_105_49 : am_fe 105 49 = some (11, some .int, .invokevirtual 221) := by decide +kernel
theorem fe_105_52 : am_fe 105 52 = some (11, some .int, .iconst 5) := by decide +kernel
theorem fe_105_53 : am_fe 105 53 = some (11, some .int, .if_icmp .lt 5) := by decide +kernel
theorem fe_105_56 : am_fe 105 56 = some (11, some .int, .iconst (-1)) := by decide +kernel
theorem fe_105_57 : am_fe 105 57 = some (11, some .int, .ireturn) := by decide +kernel
theorem fe_105_58 : am_fe 105 58 = some (11, some .int, .aload_n 0) := by decide +kernel
theorem fe_105_59 : am_fe 105 59 = some (11, some .int, .getfield 43) := by decide +kernel
theorem fe_105_62 : am_fe 105 62 = some (11, some .int, .getfield 104) := by decide +kernel
theorem fe_105_65 : am_fe 105 65 = some (11, some .int, .aload_n 0) := by decide +kernel
theorem fe_105_66 : am_fe 105 66 = some (11, some .int, .getfield 43) := by decide +kernel
theorem fe_105_69 : am_fe 105 69 = some (11, some .int, .getfield 94) := by decide +kernel
theorem fe_105_72 : am_fe 105 72 = some (11, some .int, .invokevirtual 176) := by decide +kernel
theorem fe_105_75 : am_fe 105 75 = some (11, some .int, .aload_n 0) := by decide +kernel
theorem fe_105_76 : am_fe 105 76 = some (11, some .int, .getfield 43) := by decide +kernel
theorem fe_105_79 : am_fe 105 79 = some (11, some .int, .getfield 94) := by decide +kernel
theorem fe_105_82 : am_fe 105 82 = some (11, some .int, .getfield 142) := by decide +kernel
theorem fe_105_85 : am_fe 105 85 = some (11, some .int, .iload_n 1) := by decide +kernel
theorem fe_105_86 : am_fe 105 86 = some (11, some .int, .iload_n 2) := by decide +kernel
theorem fe_105_87 : am_fe 105 87 = some (11, some .int, .iastore) := by decide +kernel
theorem fe_105_88 : am_fe 105 88 = some (11, some .int, .iload_n 3) := by decide +kernel
theorem fe_105_89 : am_fe 105 89 = some (11, some .int, .ireturn) := by decide +kernel
theorem fe_106_0 : am_fe 106 0 = some (11, some .int, .aload_n 0) := by decide +kernel
theorem fe_106_1 : am_fe 106 1 = some (11, some .int, .getfield 43) := by decide +kernel
theorem fe_106_4 : am_fe 106 4 = some (11, some .int, .getfield 104) := by decide +kernel
theorem fe_106_7 : am_fe 106 7 = some (11, some .int, .getfield 225) := by decide +kernel
theorem fe_106_10 : am_fe 106 10 = some (11, some .int, .ifCond .ne 6) := by decide +kernel
theorem fe_106_13 : am_fe 106 13 = some (11, some .int, .bipush (-2)) := by decide +kernel
theorem fe_106_15 : am_fe 106 15 = some (11, some .int, .ireturn) := by decide +kernel
theorem fe_106_16 : am_fe 106 16 = some (11, some .int, .aload_n 0) := by decide +kernel
theorem fe_106_17 : am_fe 106 17 = some (11, some .int, .getfield 43) := by decide +kernel
theorem fe_106_20 : am_fe 106 20 = some (11, some .int, .getfield 104) := by decide +kernel
theorem fe_106_23 : am_fe 106 23 = some (11, some .int, .aload_n 0) := by decide +kernel
theorem fe_106_24 : am_fe 106 24 = some (11, some .int, .getfield 43) := by decide +kernel
theorem fe_106_27 : am_fe 106 27 = some (11, some .int, .getfield 94) := by decide +kernel
theorem fe_106_30 : am_fe 106 30 = some (11, some .int, .invokevirtual 228) := by decide +kernel
theorem fe_106_33 : am_fe 106 33 = some (11, some .int, .aload_n 0) := by decide +kernel
theorem fe_106_34 : am_fe 106 34 = some (11, some .int, .getfield 43) := by decide +kernel
theorem fe_106_37 : am_fe 106 37 = some (11, some .int, .getfield 104) := by decide +kernel
theorem fe_106_40 : am_fe 106 40 = some (11, some .int, .getfield 225) := by decide +kernel
theorem fe_106_43 : am_fe 106 43 = some (11, some .int, .ireturn) := by decide +kernel
theorem fe_107_0 : am_fe 107 0 = some (4, none, .aload_n 0) := by decide +kernel
theorem fe_107_1 : am_fe 107 1 = some (4, none, .getfield 21) := by decide +kernel
theorem fe_107_4 : am_fe 107 4 = some (4, none, .ifCond .ne 4) := by decide +kernel
theorem fe_107_7 : am_fe 107 7 = some (4, none, .return_) := by decide +kernel
theorem fe_107_8 : am_fe 107 8 = some (4, none, .aload_n 0) := by decide +kernel
theorem fe_107_9 : am_fe 107 9 = some (4, none, .dup) := by decide +kernel
theorem fe_107_10 : am_fe 107 10 = some (4, none, .getfield 21) := by decide +kernel
theorem fe_107_13 : am_fe 107 13 = some (4, none, .iconst 1) := by decide +kernel
theorem fe_107_14 : am_fe 107 14 = some (4, none, .isub) := by decide +kernel
theorem fe_107_15 : am_fe 107 15 = some (4, none, .putfield 21) := by decide +kernel
theorem fe_107_18 : am_fe 107 18 = some (4, none, .aload_n 0) := by decide +kernel
theorem fe_107_19 : am_fe 107 19 = some (4, none, .getfield 11) := by decide +kernel
theorem fe_107_22 : am_fe 107 22 = some (4, none, .aload_n 0) := by decide +kernel
theorem fe_107_23 : am_fe 107 23 = some (4, none, .getfield 17) := by decide +kernel
theorem fe_107_26 : am_fe 107 26 = some (4, none, .aload_n 0) := by decide +kernel
theorem fe_107_27 : am_fe 107 27 = some (4, none, .getfield 21) := by decide +kernel
theorem fe_107_30 : am_fe 107 30 = some (4, none, .iadd) := by decide +kernel
theorem fe_107_31 : am_fe 107 31 = some (4, none, .bipush 20) := by decide +kernel
theorem fe_107_33 : am_fe 107 33 = some (4, none, .irem) := by decide +kernel
theorem fe_107_34 : am_fe 107 34 = some (4, none, .aaload) := by decide +kernel
theorem fe_107_35 : am_fe 107 35 = some (4, none, .astore_n 2) := by decide +kernel
theorem fe_107_36 : am_fe 107 36 = some (4, none, .aload_n 2) := by decide +kernel
theorem fe_107_37 : am_fe 107 37 = some (4, none, .ifnull 8) := by decide +kernel
theorem fe_107_40 : am_fe 107 40 = some (4, none, .aload_n 1) := by decide +kernel
theorem fe_107_41 : am_fe 107 41 = some (4, none, .aload_n 2) := by decide +kernel
theorem fe_107_42 : am_fe 107 42 = some (4, none, .invokevirtual 25) := by decide +kernel
theorem fe_107_45 : am_fe 107 45 = some (4, none, .return_) := by decide +kernel
theorem fe_108_0 : am_fe 108 0 = some (11, some .int, .aload_n 0) := by decide +kernel
theorem fe_108_1 : am_fe 108 1 = some (11, some .int, .iload_n 1) := by decide +kernel
theorem fe_108_2 : am_fe 108 2 = some (11, some .int, .invokevirtual 148) := by decide +kernel
theorem fe_108_5 : am_fe 108 5 = some (11, some .int, .ifCond .eq 22) := by decide +kernel
theorem fe_108_8 : am_fe 108 8 = some (11, some .int, .iload_n 2) := by decide +kernel
theorem fe_108_9 : am_fe 108 9 = some (11, some .int, .ifCond .lt 18) := by decide +kernel
theorem fe_108_12 : am_fe 108 12 = some (11, some .int, .iload_n 2) := by decide +kernel
theorem fe_108_13 : am_fe 108 13 = some (11, some .int, .bipush 60) := by decide +kernel
theorem fe_108_15 : am_fe 108 15 = some (11, some .int, .if_icmp .gt 12) := by decide +kernel
theorem fe_108_18 : am_fe 108 18 = some (11, some .int, .iload_n 3) := by decide +kernel
theorem fe_108_19 : am_fe 108 19 = some (11, some .int, .ifCond .lt 8) := by decide +kernel
theorem fe_108_22 : am_fe 108 22 = some (11, some .int, .iload_n 3) := by decide +kernel
theorem fe_108_23 : am_fe 108 23 = some (11, some .int, .iconst 2) := by decide +kernel
theorem fe_108_24 : am_fe 108 24 = some (11, some .int, .if_icmp .le 6) := by decide +kernel
theorem fe_108_27 : am_fe 108 27 = some (11, some .int, .bipush (-2)) := by decide +kernel
theorem fe_108_29 : am_fe 108 29 = some (11, some .int, .ireturn) := by decide +kernel
theorem fe_108_30 : am_fe 108 30 = some (11, some .int, .aload_n 0) := by decide +kernel
theorem fe_108_31 : am_fe 108 31 = some (11, some .int, .getfield 54) := by decide +kernel
theorem fe_108_34 : am_fe 108 34 = some (11, some .int, .aload_n 0) := by decide +kernel
theorem fe_108_35 : am_fe 108 35 = some (11, some .int, .getfield 43) := by decide +kernel
theorem fe_108_38 : am_fe 108 38 = some (11, some .int, .aload_n 0) := by decide +kernel
theorem fe_108_39 : am_fe 108 39 = some (11, some .int, .invokevirtual 179) := by decide +kernel
theorem fe_108_42 : am_fe 108 42 = some (11, some .int, .invokevirtual 231) := by decide +kernel
theorem fe_108_45 : am_fe 108 45 = some (11, some .int, .aload_n 0) := by decide +kernel
theorem fe_108_46 : am_fe 108 46 = some (11, some .int, .getfield 54) := by decide +kernel
theorem fe_108_49 : am_fe 108 49 = some (11, some .int, .iload_n 1) := by decide +kernel
theorem fe_108_50 : am_fe 108 50 = some (11, some .int, .iload_n 2) := by decide +kernel
theorem fe_108_51 : am_fe 108 51 = some (11, some .int, .invokevirtual 235) := by decide +kernel
theorem fe_108_54 : am_fe 108 54 = some (11, some .int, .aload_n 0) := by decide +kernel
theorem fe_108_55 : am_fe 108 55 = some (11, some .int, .getfield 54) := by decide +kernel
theorem fe_108_58 : am_fe 108 58 = some (11, some .int, .getfield 238) := by decide +kernel
theorem fe_108_61 : am_fe 108 61 = some (11, some .int, .astore 4) := by decide +kernel
theorem fe_108_63 : am_fe 108 63 = some (11, some .int, .iload_n 3) := by decide +kernel
theorem fe_108_64 : am_fe 108 64 = some (11, some .int, .ifCond .ne 11) := by decide +kernel
theorem fe_108_67 : am_fe 108 67 = some (11, some .int, .aload 4) := by decide +kernel
theorem fe_108_69 : am_fe 108 69 = some (11, some .int, .getfield 151) := by decide +kernel
theorem fe_108_72 : am_fe 108 72 = some (11, some .int, .iload_n 1) := by decide +kernel
theorem fe_108_73 : am_fe 108 73 = some (11, some .int, .iaload) := by decide +kernel
theorem fe_108_74 : am_fe 108 74 = some (11, some .int, .ireturn) := by decide +kernel
theorem fe_108_75 : am_fe 108 75 = some (11, some .int, .iload_n 3) := by decide +kernel
theorem fe_108_76 : am_fe 108 76 = some (11, some .int, .iconst 1) := by decide +kernel
theorem fe_108_77 : am_fe 108 77 = some (11, some .int, .if_icmp .ne 13) := by decide +kernel
theorem fe_108_80 : am_fe 108 80 = some (11, some .int, .aload 4) := by decide +kernel
theorem fe_108_82 : am_fe 108 82 = some (11, some .int, .getfield 154) := by decide +kernel
theorem fe_108_85 : am_fe 108 85 = some (11, some .int, .iload_n 1) := by decide +kernel
theorem fe_108_86 : am_fe 108 86 = some (11, some .int, .iaload) := by decide +kernel
theorem fe_108_87 : am_fe 108 87 = some (11, some .int, .goto 10) := by decide +kernel
theorem fe_108_90 : am_fe 108 90 = some (11, some .int, .aload 4) := by decide +kernel
theorem fe_108_92 : am_fe 108 92 = some (11, some .int, .getfield 160) := by decide +kernel
theorem fe_108_95 : am_fe 108 95 = some (11, some .int, .iload_n 1) := by decide +kernel
theorem fe_108_96 : am_fe 108 96 = some (11, some .int, .iaload) := by decide +kernel
theorem fe_108_97 : am_fe 108 97 = some (11, some .int, .ireturn) := by decide +kernel
theorem fe_109_0 : am_fe 109 0 = some (7, none, .aload_n 0) := by decide +kernel
theorem fe_109_1 : am_fe 109 1 = some (7, none, .getfield 12) := by decide +kernel
theorem fe_109_4 : am_fe 109 4 = some (7, none, .aload_n 1) := by decide +kernel
theorem fe_109_5 : am_fe 109 5 = some (7, none, .getfield 48) := by decide +kernel
theorem fe_109_8 : am_fe 109 8 = some (7, none, .invokevirtual 51) := by decide +kernel
theorem fe_109_11 : am_fe 109 11 = some (7, none, .aload_n 0) := by decide +kernel
theorem fe_109_12 : am_fe 109 12 = some (7, none, .aload_n 1) := by decide +kernel
theorem fe_109_13 : am_fe 109 13 = some (7, none, .getfield 55) := by decide +kernel
theorem fe_109_16 : am_fe 109 16 = some (7, none, .aload_n 0) := by decide +kernel
theorem fe_109_17 : am_fe 109 17 = some (7, none, .getfield 12) := by decide +kernel
theorem fe_109_20 : am_fe 109 20 = some (7, none, .aload_n 2) := by decide +kernel
theorem fe_109_21 : am_fe 109 21 = some (7, none, .invokevirtual 56) := by decide +kernel
theorem fe_109_24 : am_fe 109 24 = some (7, none, .return_) := by decide +kernel
theorem fe_110_0 : am_fe 110 0 = some (7, none, .iconst 0) := by decide +kernel
theorem fe_110_1 : am_fe 110 1 = some (7, none, .istore_n 3) := by decide +kernel
theorem fe_110_2 : am_fe 110 2 = some (7, none, .iload_n 3) := by decide +kernel
theorem fe_110_3 : am_fe 110 3 = some (7, none, .iload_n 2) := by decide +kernel
theorem fe_110_4 : am_fe 110 4 = some (7, none, .if_icmp .ge 25) := by decide +kernel
theorem fe_110_7 : am_fe 110 7 = some (7, none, .aload_n 0) := by decide +kernel
theorem fe_110_8 : am_fe 110 8 = some (7, none, .getfield 31) := by decide +kernel
theorem fe_110_11 : am_fe 110 11 = some (7, none, .getfield 80) := by decide +kernel
theorem fe_110_14 : am_fe 110 14 = some (7, none, .iload_n 1) := by decide +kernel
theorem fe_110_15 : am_fe 110 15 = some (7, none, .iaload) := by decide +kernel
theorem fe_110_16 : am_fe 110 16 = some (7, none, .ifCond .lt 13) := by decide +kernel
theorem fe_110_19 : am_fe 110 19 = some (7, none, .aload_n 0) := by decide +kernel
theorem fe_110_20 : am_fe 110 20 = some (7, none, .invokevirtual 68) := by decide +kernel
theorem fe_110_23 : am_fe 110 23 = some (7, none, .iinc 3 1) := by decide +kernel
theorem fe_110_26 : am_fe 110 26 = some (7, none, .goto (-24)) := by decide +kernel
theorem fe_110_29 : am_fe 110 29 = some (7, none, .return_) := by decide +kernel
theorem fe_111_0 : am_fe 111 0 = some (11, some .int, .aload_n 0) := by decide +kernel
theorem fe_111_1 : am_fe 111 1 = some (11, some .int, .invokevirtual 169) := by decide +kernel
theorem fe_111_4 : am_fe 111 4 = some (11, some .int, .ifCond .eq 16) := by decide +kernel
theorem fe_111_7 : am_fe 111 7 = some (11, some .int, .iload_n 1) := by decide +kernel
theorem fe_111_8 : am_fe 111 8 = some (11, some .int, .ifCond .lt 12) := by decide +kernel
theorem fe_111_11 : am_fe 111 11 = some (11, some .int, .iload_n 2) := by decide +kernel
theorem fe_111_12 : am_fe 111 12 = some (11, some .int, .ifCond .lt 8) := by decide +kernel
theorem fe_111_15 : am_fe 111 15 = some (11, some .int, .iload_n 2) := by decide +kernel
theorem fe_111_16 : am_fe 111 16 = some (11, some .int, .iconst 2) := by decide +kernel
theorem fe_111_17 : am_fe 111 17 = some (11, some .int, .if_icmp .le 5) := by decide +kernel
theorem fe_111_20 : am_fe 111 20 = some (11, some .int, .iconst (-1)) := by decide +kernel
theorem fe_111_21 : am_fe 111 21 = some (11, some .int, .ireturn) := by decide +kernel
theorem fe_111_22 : am_fe 111 22 = some (11, some .int, .iload_n 1) := by decide +kernel
theorem fe_111_23 : am_fe 111 23 = some (11, some .int, .aload_n 0) := by decide +kernel
theorem fe_111_24 : am_fe 111 24 = some (11, some .int, .getfield 43) := by decide +kernel
theorem fe_111_27 : am_fe 111 27 = some (11, some .int, .getfield 94) := by decide +kernel
theorem fe_111_30 : am_fe 111 30 = some (11, some .int, .getfield 113) := by decide +kernel
theorem fe_111_33 : am_fe 111 33 = some (11, some .int, .if_icmp .lt 6) := by decide +kernel
theorem fe_111_36 : am_fe 111 36 = some (11, some .int, .bipush (-2)) := by decide +kernel
theorem fe_111_38 : am_fe 111 38 = some (11, some .int, .ireturn) := by decide +kernel
theorem fe_111_39 : am_fe 111 39 = some (11, some .int, .aload_n 0) := by decide +kernel
theorem fe_111_40 : am_fe 111 40 = some (11, some .int, .getfield 54) := by decide +kernel
theorem fe_111_43 : am_fe 111 43 = some (11, some .int, .aload_n 0) := by decide +kernel
theorem fe_111_44 : am_fe 111 44 = some (11, some .int, .getfield 43) := by decide +kernel
theorem fe_111_47 : am_fe 111 47 = some (11, some .int, .aload_n 0) := by decide +kernel
theorem fe_111_48 : am_fe 111 48 = some (11, some .int, .invokevirtual 179) := by decide +kernel
theorem fe_111_51 : am_fe 111 51 = some (11, some .int, .invokevirtual 231) := by decide +kernel
theorem fe_111_54 : am_fe 111 54 = some (11, some .int, .aload_n 0) := by decide +kernel
theorem fe_111_55 : am_fe 111 55 = some (11, some .int, .getfield 54) := by decide +kernel
theorem fe_111_58 : am_fe 111 58 = some (11, some .int, .iload_n 1) := by decide +kernel
theorem fe_111_59 : am_fe 111 59 = some (11, some .int, .invokevirtual 239) := by decide +kernel
theorem fe_111_62 : am_fe 111 62 = some (11, some .int, .istore_n 3) := by decide +kernel
theorem fe_111_63 : am_fe 111 63 = some (11, some .int, .iload_n 3) := by decide +kernel
theorem fe_111_64 : am_fe 111 64 = some (11, some .int, .ifCond .ge 6) := by decide +kernel
theorem fe_111_67 : am_fe 111 67 = some (11, some .int, .bipush (-2)) := by decide +kernel
theorem fe_111_69 : am_fe 111 69 = some (11, some .int, .ireturn) := by decide +kernel
theorem fe_111_70 : am_fe 111 70 = some (11, some .int, .iload_n 2) := by decide +kernel
theorem fe_111_71 : am_fe 111 71 = some (11, some .int, .ifCond .ne 5) := by decide +kernel
theorem fe_111_74 : am_fe 111 74 = some (11, some .int, .iload_n 3) := by decide +kernel
theorem fe_111_75 : am_fe 111 75 = some (11, some .int, .ireturn) := by decide +kernel
theorem fe_111_76 : am_fe 111 76 = some (11, some .int, .iload_n 2) := by decide +kernel
theorem fe_111_77 : am_fe 111 77 = some (11, some .int, .iconst 1) := by decide +kernel
theorem fe_111_78 : am_fe 111 78 = some (11, some .int, .if_icmp .ne 18) := by decide +kernel
theorem fe_111_81 : am_fe 111 81 = some (11, some .int, .aload_n 0) := by decide +kernel
theorem fe_111_82 : am_fe 111 82 = some (11, some .int, .getfield 54) := by decide +kernel
theorem fe_111_85 : am_fe 111 85 = some (11, some .int, .getfield 238) := by decide +kernel
theorem fe_111_88 : am_fe 111 88 = some (11, some .int, .getfield 166) := by decide +kernel
theorem fe_111_91 : am_fe 111 91 = some (11, some .int, .iload_n 3) := by decide +kernel
theorem fe_111_92 : am_fe 111 92 = some (11, some .int, .iaload) := by decide +kernel
theorem fe_111_93 : am_fe 111 93 = some (11, some .int, .goto 15) := by decide +kernel
theorem fe_111_96 : am_fe 111 96 = some (11, some .int, .aload_n 0) := by decide +kernel
theorem fe_111_97 : am_fe 111 97 = some (11, some .int, .getfield 54) := by decide +kernel
theorem fe_111_100 : am_fe 111 100 = some (11, some .int, .getfield 238) := by decide +kernel
theorem fe_111_103 : am_fe 111 103 = some (11, some .int, .getfield 154) := by decide +kernel
theorem fe_111_106 : am_fe 111 106 = some (11, some .int, .iload_n 3) := by decide +kernel
theorem fe_111_107 : am_fe 111 107 = some (11, some .int, .iaload) := by decide +kernel
theorem fe_111_108 : am_fe 111 108 = some (11, some .int, .ireturn) := by decide +kernel
theorem fe_112_0 : am_fe 112 0 = some (7, some .int, .iload_n 1) := by decide +kernel
theorem fe_112_1 : am_fe 112 1 = some (7, some .int, .istore_n 2) := by decide +kernel
theorem fe_112_2 : am_fe 112 2 = some (7, some .int, .iconst 0) := by decide +kernel
theorem fe_112_3 : am_fe 112 3 = some (7, some .int, .istore_n 3) := by decide +kernel
theorem fe_112_4 : am_fe 112 4 = some (7, some .int, .iload_n 3) := by decide +kernel
theorem fe_112_5 : am_fe 112 5 = some (7, some .int, .bipush 60) := by decide +kernel
theorem fe_112_7 : am_fe 112 7 = some (7, some .int, .if_icmp .ge 85) := by decide +kernel
theorem fe_112_10 : am_fe 112 10 = some (7, some .int, .aload_n 0) := by decide +kernel
theorem fe_112_11 : am_fe 112 11 = some (7, some .int, .getfield 31) := by decide +kernel
theorem fe_112_14 : am_fe 112 14 = some (7, some .int, .invokevirtual 84) := by decide +kernel
theorem fe_112_17 : am_fe 112 17 = some (7, some .int, .istore 4) := by decide +kernel
theorem fe_112_19 : am_fe 112 19 = some (7, some .int, .iload 4) := by decide +kernel
theorem fe_112_21 : am_fe 112 21 = some (7, some .int, .ifCond .ne 5) := by decide +kernel
theorem fe_112_24 : am_fe 112 24 = some (7, some .int, .iconst (-1)) := by decide +kernel
theorem fe_112_25 : am_fe 112 25 = some (7, some .int, .ireturn) := by decide +kernel
theorem fe_112_26 : am_fe 112 26 = some (7, some .int, .aload_n 0) := by decide +kernel
theorem fe_112_27 : am_fe 112 27 = some (7, some .int, .invokevirtual 68) := by decide +kernel
theorem fe_112_30 : am_fe 112 30 = some (7, some .int, .iconst 0) := by decide +kernel
theorem fe_112_31 : am_fe 112 31 = some (7, some .int, .istore 5) := by decide +kernel
theorem fe_112_33 : am_fe 112 33 = some (7, some .int, .iload 5) := by decide +kernel
theorem fe_112_35 : am_fe 112 35 = some (7, some .int, .aload_n 0) := by decide +kernel
theorem fe_112_36 : am_fe 112 36 = some (7, some .int, .getfield 31) := by decide +kernel
theorem fe_112_39 : am_fe 112 39 = some (7, some .int, .getfield 88) := by decide +kernel
theorem fe_112_42 : am_fe 112 42 = some (7, some .int, .if_icmp .ge 44) := by decide +kernel
theorem fe_112_45 : am_fe 112 45 = some (7, some .int, .iload 4) := by decide +kernel
theorem fe_112_47 : am_fe 112 47 = some (7, some .int, .iload 5) := by decide +kernel
theorem fe_112_49 : am_fe 112 49 = some (7, some .int, .ishr) := by decide +kernel
theorem fe_112_50 : am_fe 112 50 = some (7, some .int, .iconst 1) := by decide +kernel
theorem fe_112_51 : am_fe 112 51 = some (7, some .int, .iand) := by decide +kernel
theorem fe_112_52 : am_fe 112 52 = some (7, some .int, .iconst 1) := by decide +kernel
theorem fe_112_53 : am_fe 112 53 = some (7, some .int, .if_icmp .ne 27) := by decide +kernel
theorem fe_112_56 : am_fe 112 56 = some (7, some .int, .aload_n 0) := by decide +kernel
theorem fe_112_57 : am_fe 112 57 = some (7, some .int, .getfield 31) := by decide +kernel
theorem fe_112_60 : am_fe 112 60 = some (7, some .int, .getfield 91) := by decide +kernel
theorem fe_112_63 : am_fe 112 63 = some (7, some .int, .iload 5) := by decide +kernel
theorem fe_112_65 : am_fe 112 65 = some (7, some .int, .iaload) := by decide +kernel
theorem fe_112_66 : am_fe 112 66 = some (7, some .int, .iconst 1) := by decide +kernel
theorem fe_112_67 : am_fe 112 67 = some (7, some .int, .if_icmp .ne 13) := by decide +kernel
theorem fe_112_70 : am_fe 112 70 = some (7, some .int, .iload_n 2) := by decide +kernel
theorem fe_112_71 : am_fe 112 71 = some (7, some .int, .ifCond .ne 6) := by decide +kernel
theorem fe_112_74 : am_fe 112 74 = some (7, some .int, .iload 5) := by decide +kernel
theorem fe_112_76 : am_fe 112 76 = some (7, some .int, .ireturn) := by decide +kernel
theorem fe_112_77 : am_fe 112 77 = some (7, some .int, .iinc 2 (-1)) := by decide +kernel
theorem fe_112_80 : am_fe 112 80 = some (7, some .int, .iinc 5 1) := by decide +kernel
theorem fe_112_83 : am_fe 112 83 = some (7, some .int, .goto (-50)) := by decide +kernel
theorem fe_112_86 : am_fe 112 86 = some (7, some .int, .iinc 3 1) := by decide +kernel
theorem fe_112_89 : am_fe 112 89 = some (7, some .int, .goto (-85)) := by decide +kernel
theorem fe_112_92 : am_fe 112 92 = some (7, some .int, .iconst (-1)) := by decide +kernel
theorem fe_112_93 : am_fe 112 93 = some (7, some .int, .ireturn) := by decide +kernel
theorem fe_113_0 : am_fe 113 0 = some (9, some .int, .iconst 0) := by decide +kernel
theorem fe_113_1 : am_fe 113 1 = some (9, some .int, .istore_n 1) := by decide +kernel
theorem fe_113_2 : am_fe 113 2 = some (9, some .int, .iconst 0) := by decide +kernel
theorem fe_113_3 : am_fe 113 3 = some (9, some .int, .istore_n 2) := by decide +kernel
theorem fe_113_4 : am_fe 113 4 = some (9, some .int, .iload_n 2) := by decide +kernel
theorem fe_113_5 : am_fe 113 5 = some (9, some .int, .aload_n 0) := by decide +kernel
theorem fe_113_6 : am_fe 113 6 = some (9, some .int, .getfield 15) := by decide +kernel
theorem fe_113_9 : am_fe 113 9 = some (9, some .int, .if_icmp .ge 24) := by decide +kernel
theorem fe_113_12 : am_fe 113 12 = some (9, some .int, .aload_n 0) := by decide +kernel
theorem fe_113_13 : am_fe 113 13 = some (9, some .int, .getfield 21) := by decide +kernel
theorem fe_113_16 : am_fe 113 16 = some (9, some .int, .iload_n 2) := by decide +kernel
theorem fe_113_17 : am_fe 113 17 = some (9, some .int, .iaload) := by decide +kernel
theorem fe_113_18 : am_fe 113 18 = some (9, some .int, .ifCond .lt 9) := by decide +kernel
theorem fe_113_21 : am_fe 113 21 = some (9, some .int, .iload_n 1) := by decide +kernel
theorem fe_113_22 : am_fe 113 22 = some (9, some .int, .iconst 1) := by decide +kernel
theorem fe_113_23 : am_fe 113 23 = some (9, some .int, .iload_n 2) := by decide +kernel
theorem fe_113_24 : am_fe 113 24 = some (9, some .int, .ishl) := by decide +kernel
theorem fe_113_25 : am_fe 113 25 = some (9, some .int, .ior) := by decide +kernel
theorem fe_113_26 : am_fe 113 26 = some (9, some .int, .istore_n 1) := by decide +kernel
theorem fe_113_27 : am_fe 113 27 = some (9, some .int, .iinc 2 1) := by decide +kernel
theorem fe_113_30 : am_fe 113 30 = some (9, some .int, .goto (-26)) := by decide +kernel
theorem fe_113_33 : am_fe 113 33 = some (9, some .int, .iload_n 1) := by decide +kernel
theorem fe_113_34 : am_fe 113 34 = some (9, some .int, .ireturn) := by decide +kernel
theorem fe_114_0 : am_fe 114 0 = some (11, some .int, .aload_n 0) := by decide +kernel
theorem fe_114_1 : am_fe 114 1 = some (11, some .int, .invokevirtual 169) := by decide +kernel
theorem fe_114_4 : am_fe 114 4 = some (11, some .int, .ifCond .eq 29) := by decide +kernel
theorem fe_114_7 : am_fe 114 7 = some (11, some .int, .iload_n 2) := by decide +kernel
theorem fe_114_8 : am_fe 114 8 = some (11, some .int, .ifCond .lt 25) := by decide +kernel
theorem fe_114_11 : am_fe 114 11 = some (11, some .int, .iload_n 2) := by decide +kernel
theorem fe_114_12 : am_fe 114 12 = some (11, some .int, .iconst 1) := by decide +kernel
theorem fe_114_13 : am_fe 114 13 = some (11, some .int, .if_icmp .gt 20) := by decide +kernel
theorem fe_114_16 : am_fe 114 16 = some (11, some .int, .iload_n 1) := by decide +kernel
theorem fe_114_17 : am_fe 114 17 = some (11, some .int, .aload_n 0) := by decide +kernel
theorem fe_114_18 : am_fe 114 18 = some (11, some .int, .getfield 43) := by decide +kernel
theorem fe_114_21 : am_fe 114 21 = some (11, some .int, .getfield 94) := by decide +kernel
theorem fe_114_24 : am_fe 114 24 = some (11, some .int, .invokevirtual 242) := by decide +kernel
theorem fe_114_27 : am_fe 114 27 = some (11, some .int, .iconst (-1)) := by decide +kernel
theorem fe_114_28 : am_fe 114 28 = some (11, some .int, .ixor) := by decide +kernel
theorem fe_114_29 : am_fe 114 29 = some (11, some .int, .iand) := by decide +kernel
theorem fe_114_30 : am_fe 114 30 = some (11, some .int, .ifCond .eq 5) := by decide +kernel
theorem fe_114_33 : am_fe 114 33 = some (11, some .int, .iconst (-1)) := by decide +kernel
theorem fe_114_34 : am_fe 114 34 = some (11, some .int, .ireturn) := by decide +kernel
theorem fe_114_35 : am_fe 114 35 = some (11, some .int, .aload_n 0) := by decide +kernel
theorem fe_114_36 : am_fe 114 36 = some (11, some .int, .getfield 61) := by decide +kernel
theorem fe_114_39 : am_fe 114 39 = some (11, some .int, .aload_n 0) := by decide +kernel
theorem fe_114_40 : am_fe 114 40 = some (11, some .int, .getfield 54) := by decide +kernel
theorem fe_114_43 : am_fe 114 43 = some (11, some .int, .aload_n 0) := by decide +kernel
theorem fe_114_44 : am_fe 114 44 = some (11, some .int, .getfield 43) := by decide +kernel
theorem fe_114_47 : am_fe 114 47 = some (11, some .int, .aload_n 0) := by decide +kernel
theorem fe_114_48 : am_fe 114 48 = some (11, some .int, .invokevirtual 179) := by decide +kernel
theorem fe_114_51 : am_fe 114 51 = some (11, some .int, .iload_n 1) := by decide +kernel
theorem fe_114_52 : am_fe 114 52 = some (11, some .int, .invokevirtual 245) := by decide +kernel
theorem fe_114_55 : am_fe 114 55 = some (11, some .int, .istore_n 3) := by decide +kernel
theorem fe_114_56 : am_fe 114 56 = some (11, some .int, .iload_n 3) := by decide +kernel
theorem fe_114_57 : am_fe 114 57 = some (11, some .int, .ifCond .ge 6) := by decide +kernel
theorem fe_114_60 : am_fe 114 60 = some (11, some .int, .bipush (-2)) := by decide +kernel
theorem fe_114_62 : am_fe 114 62 = some (11, some .int, .ireturn) := by decide +kernel
theorem fe_114_63 : am_fe 114 63 = some (11, some .int, .iload_n 2) := by decide +kernel
theorem fe_114_64 : am_fe 114 64 = some (11, some .int, .ifCond .ne 10) := by decide +kernel
theorem fe_114_67 : am_fe 114 67 = some (11, some .int, .iload_n 3) := by decide +kernel
theorem fe_114_68 : am_fe 114 68 = some (11, some .int, .invokestatic 249) := by decide +kernel
theorem fe_114_71 : am_fe 114 71 = some (11, some .int, .goto 4) := by decide +kernel
theorem fe_114_74 : am_fe 114 74 = some (11, some .int, .iload_n 3) := by decide +kernel
theorem fe_114_75 : am_fe 114 75 = some (11, some .int, .ireturn) := by decide +kernel
theorem fe_115_0 : am_fe 115 0 = some (2, some .int, .iconst 0) := by decide +kernel
theorem fe_115_1 : am_fe 115 1 = some (2, some .int, .istore 5) := by decide +kernel
theorem fe_115_3 : am_fe 115 3 = some (2, some .int, .iconst 0) := by decide +kernel
theorem fe_115_4 : am_fe 115 4 = some (2, some .int, .istore 6) := by decide +kernel
theorem fe_115_6 : am_fe 115 6 = some (2, some .int, .iload 6) := by decide +kernel
theorem fe_115_8 : am_fe 115 8 = some (2, some .int, .aload_n 2) := by decide +kernel
theorem fe_115_9 : am_fe 115 9 = some (2, some .int, .getfield 19) := by decide +kernel
theorem fe_115_12 : am_fe 115 12 = some (2, some .int, .getfield 25) := by decide +kernel
theorem fe_115_15 : am_fe 115 15 = some (2, some .int, .if_icmp .ge 35) := by decide +kernel
theorem fe_115_18 : am_fe 115 18 = some (2, some .int, .iload 5) := by decide +kernel
theorem fe_115_20 : am_fe 115 20 = some (2, some .int, .aload_n 2) := by decide +kernel
theorem fe_115_21 : am_fe 115 21 = some (2, some .int, .getfield 30) := by decide +kernel
theorem fe_115_24 : am_fe 115 24 = some (2, some .int, .getfield 34) := by decide +kernel
theorem fe_115_27 : am_fe 115 27 = some (2, some .int, .iload 6) := by decide +kernel
theorem fe_115_29 : am_fe 115 29 = some (2, some .int, .iaload) := by decide +kernel
theorem fe_115_30 : am_fe 115 30 = some (2, some .int, .ifCond .ne 10) := by decide +kernel
theorem fe_115_33 : am_fe 115 33 = some (2, some .int, .iconst 1) := by decide +kernel
theorem fe_115_34 : am_fe 115 34 = some (2, some .int, .iload 6) := by decide +kernel
theorem fe_115_36 : am_fe 115 36 = some (2, some .int, .ishl) := by decide +kernel
theorem fe_115_37 : am_fe 115 37 = some (2, some .int, .goto 4) := by decide +kernel
theorem fe_115_40 : am_fe 115 40 = some (2, some .int, .iconst 0) := by decide +kernel
theorem fe_115_41 : am_fe 115 41 = some (2, some .int, .ior) := by decide +kernel
theorem fe_115_42 : am_fe 115 42 = some (2, some .int, .istore 5) := by decide +kernel
theorem fe_115_44 : am_fe 115 44 = some (2, some .int, .iinc 6 1) := by decide +kernel
theorem fe_115_47 : am_fe 115 47 = some (2, some .int, .goto (-41)) := by decide +kernel
theorem fe_115_50 : am_fe 115 50 = some (2, some .int, .iconst 0) := by decide +kernel
theorem fe_115_51 : am_fe 115 51 = some (2, some .int, .istore 6) := by decide +kernel
theorem fe_115_53 : am_fe 115 53 = some (2, some .int, .iload 6) := by decide +kernel
theorem fe_115_55 : am_fe 115 55 = some (2, some .int, .iconst 3) := by decide +kernel
theorem fe_115_56 : am_fe 115 56 = some (2, some .int, .if_icmp .gt 104) := by decide +kernel
theorem fe_115_59 : am_fe 115 59 = some (2, some .int, .iconst 1) := by decide +kernel
theorem fe_115_60 : am_fe 115 60 = some (2, some .int, .iload 6) := by decide +kernel
theorem fe_115_62 : am_fe 115 62 = some (2, some .int, .ishl) := by decide +kernel
theorem fe_115_63 : am_fe 115 63 = some (2, some .int, .iconst 1) := by decide +kernel
theorem fe_115_64 : am_fe 115 64 = some (2, some .int, .isub) := by decide +kernel
theorem fe_115_65 : am_fe 115 65 = some (2, some .int, .istore 7) := by decide +kernel
theorem fe_115_67 : am_fe 115 67 = some (2, some .int, .iconst 0) := by decide +kernel
theorem fe_115_68 : am_fe 115 68 = some (2, some .int, .istore 8) := by decide +kernel
theorem fe_115_70 : am_fe 115 70 = some (2, some .int, .iload 8) := by decide +kernel
theorem fe_115_72 : am_fe 115 72 = some (2, some .int, .sipush 560) := by decide +kernel
theorem fe_115_75 : am_fe 115 75 = some (2, some .int, .if_icmp .ge 79) := by decide +kernel
theorem fe_115_78 : am_fe 115 78 = some (2, some .int, .iload 7) := by decide +kernel
theorem fe_115_80 : am_fe 115 80 = some (2, some .int, .aload_n 2) := by decide +kernel
theorem fe_115_81 : am_fe 115 81 = some (2, some .int, .getfield 19) := by decide +kernel
theorem fe_115_84 : am_fe 115 84 = some (2, some .int, .getfield 25) := by decide +kernel
theorem fe_115_87 : am_fe 115 87 = some (2, some .int, .ishr) := by decide +kernel
theorem fe_115_88 : am_fe 115 88 = some (2, some .int, .ifCond .ne 66) := by decide +kernel
theorem fe_115_91 : am_fe 115 91 = some (2, some .int, .iload 7) := by decide +kernel
theorem fe_115_93 : am_fe 115 93 = some (2, some .int, .iload 5) := by decide +kernel
theorem fe_115_95 : am_fe 115 95 = some (2, some .int, .iconst (-1)) := by decide +kernel
theorem fe_115_96 : am_fe 115 96 = some (2, some .int, .ixor) := by decide +kernel
theorem fe_115_97 : am_fe 115 97 = some (2, some .int, .iand) := by decide +kernel
theorem fe_115_98 : am_fe 115 98 = some (2, some .int, .ifCond .ne 43) := by decide +kernel
theorem fe_115_101 : am_fe 115 101 = some (2, some .int, .aload_n 0) := by decide +kernel
theorem fe_115_102 : am_fe 115 102 = some (2, some .int, .iload 7) := by decide +kernel
theorem fe_115_104 : am_fe 115 104 = some (2, some .int, .iload 6) := by decide +kernel
theorem fe_115_106 : am_fe 115 106 = some (2, some .int, .invokevirtual 39) := by decide +kernel
theorem fe_115_109 : am_fe 115 109 = some (2, some .int, .ifCond .ne 32) := by decide +kernel
theorem fe_115_112 : am_fe 115 112 = some (2, some .int, .aload_n 1) := by decide +kernel
theorem fe_115_113 : am_fe 115 113 = some (2, some .int, .aload_n 2) := by decide +kernel
theorem fe_115_114 : am_fe 115 114 = some (2, some .int, .aload_n 3) := by decide +kernel
theorem fe_115_115 : am_fe 115 115 = some (2, some .int, .invokevirtual 43) := by decide +kernel
theorem fe_115_118 : am_fe 115 118 = some (2, some .int, .aload_n 0) := by decide +kernel
theorem fe_115_119 : am_fe 115 119 = some (2, some .int, .aload_n 1) := by decide +kernel
theorem fe_115_120 : am_fe 115 120 = some (2, some .int, .iload 7) := by decide +kernel
theorem fe_115_122 : am_fe 115 122 = some (2, some .int, .iload 4) := by decide +kernel
theorem fe_115_124 : am_fe 115 124 = some (2, some .int, .invokevirtual 49) := by decide +kernel
theorem fe_115_127 : am_fe 115 127 = some (2, some .int, .ifCond .eq 6) := by decide +kernel
theorem fe_115_130 : am_fe 115 130 = some (2, some .int, .iload 7) := by decide +kernel
theorem fe_115_132 : am_fe 115 132 = some (2, some .int, .ireturn) := by decide +kernel
theorem fe_115_133 : am_fe 115 133 = some (2, some .int, .aload_n 0) := by decide +kernel
theorem fe_115_134 : am_fe 115 134 = some (2, some .int, .iload 7) := by decide +kernel
theorem fe_115_136 : am_fe 115 136 = some (2, some .int, .iload 6) := by decide +kernel
theorem fe_115_138 : am_fe 115 138 = some (2, some .int, .invokevirtual 53) := by decide +kernel
theorem fe_115_141 : am_fe 115 141 = some (2, some .int, .iload 7) := by decide +kernel
theorem fe_115_143 : am_fe 115 143 = some (2, some .int, .invokestatic 57) := by decide +kernel
theorem fe_115_146 : am_fe 115 146 = some (2, some .int, .istore 7) := by decide +kernel
theorem fe_115_148 : am_fe 115 148 = some (2, some .int, .iinc 8 1) := by decide +kernel
theorem fe_115_151 : am_fe 115 151 = some (2, some .int, .goto (-81)) := by decide +kernel
theorem fe_115_154 : am_fe 115 154 = some (2, some .int, .iinc 6 1) := by decide +kernel
theorem fe_115_157 : am_fe 115 157 = some (2, some .int, .goto (-104)) := by decide +kernel
theorem fe_115_160 : am_fe 115 160 = some (2, some .int, .iconst (-1)) := by decide +kernel
theorem fe_115_161 : am_fe 115 161 = some (2, some .int, .ireturn) := by decide +kernel
theorem fe_116_0 : am_fe 116 0 = some (2, some .boolean, .iload_n 1) := by decide +kernel
theorem fe_116_1 : am_fe 116 1 = some (2, some .boolean, .istore_n 3) := by decide +kernel
theorem fe_116_2 : am_fe 116 2 = some (2, some .boolean, .iconst 0) := by decide +kernel
theorem fe_116_3 : am_fe 116 3 = some (2, some .boolean, .istore 4) := by decide +kernel
theorem fe_116_5 : am_fe 116 5 = some (2, some .boolean, .iload 4) := by decide +kernel
theorem fe_116_7 : am_fe 116 7 = some (2, some .boolean, .iconst 3) := by decide +kernel
theorem fe_116_8 : am_fe 116 8 = some (2, some .boolean, .if_icmp .ge 69) := by decide +kernel
theorem fe_116_11 : am_fe 116 11 = some (2, some .boolean, .iload_n 3) := by decide +kernel
theorem fe_116_12 : am_fe 116 12 = some (2, some .boolean, .ifCond .eq 65) := by decide +kernel
theorem fe_116_15 : am_fe 116 15 = some (2, some .boolean, .iload_n 3) := by decide +kernel
theorem fe_116_16 : am_fe 116 16 = some (2, some .boolean, .invokestatic 62) := by decide +kernel
theorem fe_116_19 : am_fe 116 19 = some (2, some .boolean, .istore 5) := by decide +kernel
theorem fe_116_21 : am_fe 116 21 = some (2, some .boolean, .iload_n 3) := by decide +kernel
theorem fe_116_22 : am_fe 116 22 = some (2, some .boolean, .iload_n 3) := by decide +kernel
theorem fe_116_23 : am_fe 116 23 = some (2, some .boolean, .iconst 1) := by decide +kernel
theorem fe_116_24 : am_fe 116 24 = some (2, some .boolean, .isub) := by decide +kernel
theorem fe_116_25 : am_fe 116 25 = some (2, some .boolean, .iand) := by decide +kernel
theorem fe_116_26 : am_fe 116 26 = some (2, some .boolean, .istore_n 3) := by decide +kernel
theorem fe_116_27 : am_fe 116 27 = some (2, some .boolean, .iload_n 1) := by decide +kernel
theorem fe_116_28 : am_fe 116 28 = some (2, some .boolean, .iconst 1) := by decide +kernel
theorem fe_116_29 : am_fe 116 29 = some (2, some .boolean, .iload 5) := by decide +kernel
theorem fe_116_31 : am_fe 116 31 = some (2, some .boolean, .ishl) := by decide +kernel
theorem fe_116_32 : am_fe 116 32 = some (2, some .boolean, .iconst (-1)) := by decide +kernel
theorem fe_116_33 : am_fe 116 33 = some (2, some .boolean, .ixor) := by decide +kernel
theorem fe_116_34 : am_fe 116 34 = some (2, some .boolean, .iand) := by decide +kernel
theorem fe_116_35 : am_fe 116 35 = some (2, some .boolean, .istore 6) := by decide +kernel
theorem fe_116_37 : am_fe 116 37 = some (2, some .boolean, .aload_n 0) := by decide +kernel
theorem fe_116_38 : am_fe 116 38 = some (2, some .boolean, .aload_n 0) := by decide +kernel
theorem fe_116_39 : am_fe 116 39 = some (2, some .boolean, .getfield 11) := by decide +kernel
theorem fe_116_42 : am_fe 116 42 = some (2, some .boolean, .iload 6) := by decide +kernel
theorem fe_116_44 : am_fe 116 44 = some (2, some .boolean, .invokestatic 67) := by decide +kernel
theorem fe_116_47 : am_fe 116 47 = some (2, some .boolean, .iaload) := by decide +kernel
theorem fe_116_48 : am_fe 116 48 = some (2, some .boolean, .putfield 15) := by decide +kernel
theorem fe_116_51 : am_fe 116 51 = some (2, some .boolean, .aload_n 0) := by decide +kernel
theorem fe_116_52 : am_fe 116 52 = some (2, some .boolean, .getfield 15) := by decide +kernel
theorem fe_116_55 : am_fe 116 55 = some (2, some .boolean, .iload 5) := by decide +kernel
theorem fe_116_57 : am_fe 116 57 = some (2, some .boolean, .ishr) := by decide +kernel
theorem fe_116_58 : am_fe 116 58 = some (2, some .boolean, .iconst 1) := by decide +kernel
theorem fe_116_59 : am_fe 116 59 = some (2, some .boolean, .iand) := by decide +kernel
theorem fe_116_60 : am_fe 116 60 = some (2, some .boolean, .ifCond .ne 11) := by decide +kernel
theorem fe_116_63 : am_fe 116 63 = some (2, some .boolean, .aload_n 0) := by decide +kernel
theorem fe_116_64 : am_fe 116 64 = some (2, some .boolean, .iload_n 1) := by decide +kernel
theorem fe_116_65 : am_fe 116 65 = some (2, some .boolean, .iload_n 2) := by decide +kernel
theorem fe_116_66 : am_fe 116 66 = some (2, some .boolean, .invokevirtual 53) := by decide +kernel
theorem fe_116_69 : am_fe 116 69 = some (2, some .boolean, .iconst 1) := by decide +kernel
theorem fe_116_70 : am_fe 116 70 = some (2, some .boolean, .ireturn) := by decide +kernel
theorem fe_116_71 : am_fe 116 71 = some (2, some .boolean, .iinc 4 1) := by decide +kernel
theorem fe_116_74 : am_fe 116 74 = some (2, some .boolean, .goto (-69)) := by decide +kernel
theorem fe_116_77 : am_fe 116 77 = some (2, some .boolean, .iconst 0) := by decide +kernel
theorem fe_116_78 : am_fe 116 78 = some (2, some .boolean, .ireturn) := by decide +kernel
theorem fe_117_0 : am_fe 117 0 = some (15, some .int, .iload_n 0) := by decide +kernel
theorem fe_117_1 : am_fe 117 1 = some (15, some .int, .iconst (-1)) := by decide +kernel
theorem fe_117_2 : am_fe 117 2 = some (15, some .int, .ixor) := by decide +kernel
theorem fe_117_3 : am_fe 117 3 = some (15, some .int, .iload_n 0) := by decide +kernel
theorem fe_117_4 : am_fe 117 4 = some (15, some .int, .iconst 1) := by decide +kernel
theorem fe_117_5 : am_fe 117 5 = some (15, some .int, .isub) := by decide +kernel
theorem fe_117_6 : am_fe 117 6 = some (15, some .int, .iand) := by decide +kernel
theorem fe_117_7 : am_fe 117 7 = some (15, some .int, .istore_n 0) := by decide +kernel
theorem fe_117_8 : am_fe 117 8 = some (15, some .int, .iload_n 0) := by decide +kernel
theorem fe_117_9 : am_fe 117 9 = some (15, some .int, .ifCond .gt 8) := by decide +kernel
theorem fe_117_12 : am_fe 117 12 = some (15, some .int, .iload_n 0) := by decide +kernel
theorem fe_117_13 : am_fe 117 13 = some (15, some .int, .bipush 32) := by decide +kernel
theorem fe_117_15 : am_fe 117 15 = some (15, some .int, .iand) := by decide +kernel
theorem fe_117_16 : am_fe 117 16 = some (15, some .int, .ireturn) := by decide +kernel
theorem fe_117_17 : am_fe 117 17 = some (15, some .int, .iconst 1) := by decide +kernel
theorem fe_117_18 : am_fe 117 18 = some (15, some .int, .istore_n 1) := by decide +kernel
theorem fe_117_19 : am_fe 117 19 = some (15, some .int, .iload_n 0) := by decide +kernel
theorem fe_117_20 : am_fe 117 20 = some (15, some .int, .ldc_w 264) := by decide +kernel
theorem fe_117_23 : am_fe 117 23 = some (15, some .int, .if_icmp .le 11) := by decide +kernel
theorem fe_117_26 : am_fe 117 26 = some (15, some .int, .iinc 1 16) := by decide +kernel
theorem fe_117_29 : am_fe 117 29 = some (15, some .int, .iload_n 0) := by decide +kernel
theorem fe_117_30 : am_fe 117 30 = some (15, some .int, .bipush 16) := by decide +kernel
theorem fe_117_32 : am_fe 117 32 = some (15, some .int, .iushr) := by decide +kernel
theorem fe_117_33 : am_fe 117 33 = some (15, some .int, .istore_n 0) := by decide +kernel
theorem fe_117_34 : am_fe 117 34 = some (15, some .int, .iload_n 0) := by decide +kernel
theorem fe_117_35 : am_fe 117 35 = some (15, some .int, .sipush 256) := by decide +kernel
theorem fe_117_38 : am_fe 117 38 = some (15, some .int, .if_icmp .le 11) := by decide +kernel
theorem fe_117_41 : am_fe 117 41 = some (15, some .int, .iinc 1 8) := by decide +kernel
theorem fe_117_44 : am_fe 117 44 = some (15, some .int, .iload_n 0) := by decide +kernel
theorem fe_117_45 : am_fe 117 45 = some (15, some .int, .bipush 8) := by decide +kernel
theorem fe_117_47 : am_fe 117 47 = some (15, some .int, .iushr) := by decide +kernel
theorem fe_117_48 : am_fe 117 48 = some (15, some .int, .istore_n 0) := by decide +kernel
theorem fe_117_49 : am_fe 117 49 = some (15, some .int, .iload_n 0) := by decide +kernel
theorem fe_117_50 : am_fe 117 50 = some (15, some .int, .bipush 16) := by decide +kernel
theorem fe_117_52 : am_fe 117 52 = some (15, some .int, .if_icmp .le 10) := by decide +kernel
theorem fe_117_55 : am_fe 117 55 = some (15, some .int, .iinc 1 4) := by decide +kernel
theorem fe_117_58 : am_fe 117 58 = some (15, some .int, .iload_n 0) := by decide +kernel
theorem fe_117_59 : am_fe 117 59 = some (15, some .int, .iconst 4) := by decide +kernel
theorem fe_117_60 : am_fe 117 60 = some (15, some .int, .iushr) := by decide +kernel
theorem fe_117_61 : am_fe 117 61 = some (15, some .int, .istore_n 0) := by decide +kernel
theorem fe_117_62 : am_fe 117 62 = some (15, some .int, .iload_n 0) := by decide +kernel
theorem fe_117_63 : am_fe 117 63 = some (15, some .int, .iconst 4) := by decide +kernel
theorem fe_117_64 : am_fe 117 64 = some (15, some .int, .if_icmp .le 10) := by decide +kernel
theorem fe_117_67 : am_fe 117 67 = some (15, some .int, .iinc 1 2) := by decide +kernel
theorem fe_117_70 : am_fe 117 70 = some (15, some .int, .iload_n 0) := by decide +kernel
theorem fe_117_71 : am_fe 117 71 = some (15, some .int, .iconst 2) := by decide +kernel
theorem fe_117_72 : am_fe 117 72 = some (15, some .int, .iushr) := by decide +kernel
theorem fe_117_73 : am_fe 117 73 = some (15, some .int, .istore_n 0) := by decide +kernel
theorem fe_117_74 : am_fe 117 74 = some (15, some .int, .iload_n 1) := by decide +kernel
theorem fe_117_75 : am_fe 117 75 = some (15, some .int, .iload_n 0) := by decide +kernel
theorem fe_117_76 : am_fe 117 76 = some (15, some .int, .iconst 1) := by decide +kernel
theorem fe_117_77 : am_fe 117 77 = some (15, some .int, .iushr) := by decide +kernel
theorem fe_117_78 : am_fe 117 78 = some (15, some .int, .iadd) := by decide +kernel
theorem fe_117_79 : am_fe 117 79 = some (15, some .int, .ireturn) := by decide +kernel
theorem fe_118_0 : am_fe 118 0 = some (2, some .int, .iload_n 0) := by decide +kernel
theorem fe_118_1 : am_fe 118 1 = some (2, some .int, .ifCond .ne 7) := by decide +kernel
theorem fe_118_4 : am_fe 118 4 = some (2, some .int, .sipush 288) := by decide +kernel
theorem fe_118_7 : am_fe 118 7 = some (2, some .int, .ireturn) := by decide +kernel
theorem fe_118_8 : am_fe 118 8 = some (2, some .int, .iload_n 0) := by decide +kernel
theorem fe_118_9 : am_fe 118 9 = some (2, some .int, .invokestatic 62) := by decide +kernel
theorem fe_118_12 : am_fe 118 12 = some (2, some .int, .istore_n 1) := by decide +kernel
theorem fe_118_13 : am_fe 118 13 = some (2, some .int, .iload_n 0) := by decide +kernel
theorem fe_118_14 : am_fe 118 14 = some (2, some .int, .iload_n 0) := by decide +kernel
theorem fe_118_15 : am_fe 118 15 = some (2, some .int, .iconst 1) := by decide +kernel
theorem fe_118_16 : am_fe 118 16 = some (2, some .int, .isub) := by decide +kernel
theorem fe_118_17 : am_fe 118 17 = some (2, some .int, .iand) := by decide +kernel
theorem fe_118_18 : am_fe 118 18 = some (2, some .int, .istore_n 2) := by decide +kernel
theorem fe_118_19 : am_fe 118 19 = some (2, some .int, .iload_n 2) := by decide +kernel
theorem fe_118_20 : am_fe 118 20 = some (2, some .int, .ifCond .ne 8) := by decide +kernel
theorem fe_118_23 : am_fe 118 23 = some (2, some .int, .bipush 16) := by decide +kernel
theorem fe_118_25 : am_fe 118 25 = some (2, some .int, .goto 7) := by decide +kernel
theorem fe_118_28 : am_fe 118 28 = some (2, some .int, .iload_n 2) := by decide +kernel
theorem fe_118_29 : am_fe 118 29 = some (2, some .int, .invokestatic 62) := by decide +kernel
theorem fe_118_32 : am_fe 118 32 = some (2, some .int, .istore_n 3) := by decide +kernel
theorem fe_118_33 : am_fe 118 33 = some (2, some .int, .iload_n 3) := by decide +kernel
theorem fe_118_34 : am_fe 118 34 = some (2, some .int, .bipush 16) := by decide +kernel
theorem fe_118_36 : am_fe 118 36 = some (2, some .int, .invokestatic 70) := by decide +kernel
theorem fe_118_39 : am_fe 118 39 = some (2, some .int, .bipush 17) := by decide +kernel
theorem fe_118_41 : am_fe 118 41 = some (2, some .int, .imul) := by decide +kernel
theorem fe_118_42 : am_fe 118 42 = some (2, some .int, .iload_n 1) := by decide +kernel
theorem fe_118_43 : am_fe 118 43 = some (2, some .int, .bipush 16) := by decide +kernel
theorem fe_118_45 : am_fe 118 45 = some (2, some .int, .invokestatic 70) := by decide +kernel
theorem fe_118_48 : am_fe 118 48 = some (2, some .int, .iadd) := by decide +kernel
theorem fe_118_49 : am_fe 118 49 = some (2, some .int, .ireturn) := by decide +kernel
theorem fe_119_0 : am_fe 119 0 = some (2, none, .iload_n 2) := by decide +kernel
theorem fe_119_1 : am_fe 119 1 = some (2, none, .iconst 3) := by decide +kernel
theorem fe_119_2 : am_fe 119 2 = some (2, none, .if_icmp .ge 16) := by decide +kernel
theorem fe_119_5 : am_fe 119 5 = some (2, none, .aload_n 0) := by decide +kernel
theorem fe_119_6 : am_fe 119 6 = some (2, none, .getfield 11) := by decide +kernel
theorem fe_119_9 : am_fe 119 9 = some (2, none, .iload_n 1) := by decide +kernel
theorem fe_119_10 : am_fe 119 10 = some (2, none, .invokestatic 67) := by decide +kernel
theorem fe_119_13 : am_fe 119 13 = some (2, none, .aload_n 0) := by decide +kernel
theorem fe_119_14 : am_fe 119 14 = some (2, none, .getfield 15) := by decide +kernel
theorem fe_119_17 : am_fe 119 17 = some (2, none, .iastore) := by decide +kernel
theorem fe_119_18 : am_fe 119 18 = some (2, none, .return_) := by decide +kernel
theorem fe_120_0 : am_fe 120 0 = some (2, some .boolean, .aload_n 1) := by decide +kernel
theorem fe_120_1 : am_fe 120 1 = some (2, some .boolean, .getfield 76) := by decide +kernel
theorem fe_120_4 : am_fe 120 4 = some (2, some .boolean, .astore 4) := by decide +kernel
theorem fe_120_6 : am_fe 120 6 = some (2, some .boolean, .iconst 0) := by decide +kernel
theorem fe_120_7 : am_fe 120 7 = some (2, some .boolean, .istore 5) := by decide +kernel
theorem fe_120_9 : am_fe 120 9 = some (2, some .boolean, .iload 5) := by decide +kernel
theorem fe_120_11 : am_fe 120 11 = some (2, some .boolean, .bipush 16) := by decide +kernel
theorem fe_120_13 : am_fe 120 13 = some (2, some .boolean, .if_icmp .ge 28) := by decide +kernel
theorem fe_120_16 : am_fe 120 16 = some (2, some .boolean, .iload_n 2) := by decide +kernel
theorem fe_120_17 : am_fe 120 17 = some (2, some .boolean, .iload 5) := by decide +kernel
theorem fe_120_19 : am_fe 120 19 = some (2, some .boolean, .ishr) := by decide +kernel
theorem fe_120_20 : am_fe 120 20 = some (2, some .boolean, .iconst 1) := by decide +kernel
theorem fe_120_21 : am_fe 120 21 = some (2, some .boolean, .iand) := by decide +kernel
theorem fe_120_22 : am_fe 120 22 = some (2, some .boolean, .iconst 1) := by decide +kernel
theorem fe_120_23 : am_fe 120 23 = some (2, some .boolean, .if_icmp .ne 12) := by decide +kernel
theorem fe_120_26 : am_fe 120 26 = some (2, some .boolean, .aload 4) := by decide +kernel
theorem fe_120_28 : am_fe 120 28 = some (2, some .boolean, .getfield 34) := by decide +kernel
theorem fe_120_31 : am_fe 120 31 = some (2, some .boolean, .iload 5) := by decide +kernel
theorem fe_120_33 : am_fe 120 33 = some (2, some .boolean, .iconst 1) := by decide +kernel
theorem fe_120_34 : am_fe 120 34 = some (2, some .boolean, .iastore) := by decide +kernel
theorem fe_120_35 : am_fe 120 35 = some (2, some .boolean, .iinc 5 1) := by decide +kernel
theorem fe_120_38 : am_fe 120 38 = some (2, some .boolean, .goto (-29)) := by decide +kernel
theorem fe_120_41 : am_fe 120 41 = some (2, some .boolean, .aload_n 0) := by decide +kernel
theorem fe_120_42 : am_fe 120 42 = some (2, some .boolean, .iconst 0) := by decide +kernel
theorem fe_120_43 : am_fe 120 43 = some (2, some .boolean, .putfield 15) := by decide +kernel
theorem fe_120_46 : am_fe 120 46 = some (2, some .boolean, .iconst 0) := by decide +kernel
theorem fe_120_47 : am_fe 120 47 = some (2, some .boolean, .istore 5) := by decide +kernel
theorem fe_120_49 : am_fe 120 49 = some (2, some .boolean, .iload 5) := by decide +kernel
theorem fe_120_51 : am_fe 120 51 = some (2, some .boolean, .bipush 60) := by decide +kernel
theorem fe_120_53 : am_fe 120 53 = some (2, some .boolean, .if_icmp .ge 37) := by decide +kernel
theorem fe_120_56 : am_fe 120 56 = some (2, some .boolean, .aload 4) := by decide +kernel
theorem fe_120_58 : am_fe 120 58 = some (2, some .boolean, .iload_n 3) := by decide +kernel
theorem fe_120_59 : am_fe 120 59 = some (2, some .boolean, .invokestatic 77) := by decide +kernel
theorem fe_120_62 : am_fe 120 62 = some (2, some .boolean, .ifCond .eq 28) := by decide +kernel
theorem fe_120_65 : am_fe 120 65 = some (2, some .boolean, .aload_n 1) := by decide +kernel
theorem fe_120_66 : am_fe 120 66 = some (2, some .boolean, .invokevirtual 81) := by decide +kernel
theorem fe_120_69 : am_fe 120 69 = some (2, some .boolean, .aload_n 0) := by decide +kernel
theorem fe_120_70 : am_fe 120 70 = some (2, some .boolean, .dup) := by decide +kernel
theorem fe_120_71 : am_fe 120 71 = some (2, some .boolean, .getfield 15) := by decide +kernel
theorem fe_120_74 : am_fe 120 74 = some (2, some .boolean, .aload 4) := by decide +kernel
theorem fe_120_76 : am_fe 120 76 = some (2, some .boolean, .iconst 1) := by decide +kernel
theorem fe_120_77 : am_fe 120 77 = some (2, some .boolean, .invokevirtual 84) := by decide +kernel
theorem fe_120_80 : am_fe 120 80 = some (2, some .boolean, .ior) := by decide +kernel
theorem fe_120_81 : am_fe 120 81 = some (2, some .boolean, .putfield 15) := by decide +kernel
theorem fe_120_84 : am_fe 120 84 = some (2, some .boolean, .iinc 5 1) := by decide +kernel
theorem fe_120_87 : am_fe 120 87 = some (2, some .boolean, .goto (-38)) := by decide +kernel
theorem fe_120_90 : am_fe 120 90 = some (2, some .boolean, .iconst 0) := by decide +kernel
theorem fe_120_91 : am_fe 120 91 = some (2, some .boolean, .istore 5) := by decide +kernel
theorem fe_120_93 : am_fe 120 93 = some (2, some .boolean, .iload 5) := by decide +kernel
theorem fe_120_95 : am_fe 120 95 = some (2, some .boolean, .aload 4) := by decide +kernel
theorem fe_120_97 : am_fe 120 97 = some (2, some .boolean, .getfield 87) := by decide +kernel
theorem fe_120_100 : am_fe 120 100 = some (2, some .boolean, .if_icmp .ge 32) := by decide +kernel
theorem fe_120_103 : am_fe 120 103 = some (2, some .boolean, .iload_n 3) := by decide +kernel
theorem fe_120_104 : am_fe 120 104 = some (2, some .boolean, .iload 5) := by decide +kernel
theorem fe_120_106 : am_fe 120 106 = some (2, some .boolean, .ishr) := by decide +kernel
theorem fe_120_107 : am_fe 120 107 = some (2, some .boolean, .iconst 1) := by decide +kernel
theorem fe_120_108 : am_fe 120 108 = some (2, some .boolean, .iand) := by decide +kernel
theorem fe_120_109 : am_fe 120 109 = some (2, some .boolean, .iconst 1) := by decide +kernel
theorem fe_120_110 : am_fe 120 110 = some (2, some .boolean, .if_icmp .ne 16) := by decide +kernel
theorem fe_120_113 : am_fe 120 113 = some (2, some .boolean, .aload 4) := by decide +kernel
theorem fe_120_115 : am_fe 120 115 = some (2, some .boolean, .iload 5) := by decide +kernel
theorem fe_120_117 : am_fe 120 117 = some (2, some .boolean, .invokevirtual 90) := by decide +kernel
theorem fe_120_120 : am_fe 120 120 = some (2, some .boolean, .iconst 2) := by decide +kernel
theorem fe_120_121 : am_fe 120 121 = some (2, some .boolean, .if_icmp .eq 5) := by decide +kernel
theorem fe_120_124 : am_fe 120 124 = some (2, some .boolean, .iconst 0) := by decide +kernel
theorem fe_120_125 : am_fe 120 125 = some (2, some .boolean, .ireturn) := by decide +kernel
theorem fe_120_126 : am_fe 120 126 = some (2, some .boolean, .iinc 5 1) := by decide +kernel
theorem fe_120_129 : am_fe 120 129 = some (2, some .boolean, .goto (-36)) := by decide +kernel
theorem fe_120_132 : am_fe 120 132 = some (2, some .boolean, .iconst 1) := by decide +kernel
theorem fe_120_133 : am_fe 120 133 = some (2, some .boolean, .ireturn) := by decide +kernel
theorem fe_121_0 : am_fe 121 0 = some (2, some .boolean, .iconst 0) := by decide +kernel
theorem fe_121_1 : am_fe 121 1 = some (2, some .boolean, .istore_n 2) := by decide +kernel
theorem fe_121_2 : am_fe 121 2 = some (2, some .boolean, .iconst 0) := by decide +kernel
theorem fe_121_3 : am_fe 121 3 = some (2, some .boolean, .istore_n 3) := by decide +kernel
theorem fe_121_4 : am_fe 121 4 = some (2, some .boolean, .iload_n 3) := by decide +kernel
theorem fe_121_5 : am_fe 121 5 = some (2, some .boolean, .aload_n 0) := by decide +kernel
theorem fe_121_6 : am_fe 121 6 = some (2, some .boolean, .getfield 87) := by decide +kernel
theorem fe_121_9 : am_fe 121 9 = some (2, some .boolean, .if_icmp .ge 46) := by decide +kernel
theorem fe_121_12 : am_fe 121 12 = some (2, some .boolean, .iload_n 1) := by decide +kernel
theorem fe_121_13 : am_fe 121 13 = some (2, some .boolean, .iload_n 3) := by decide +kernel
theorem fe_121_14 : am_fe 121 14 = some (2, some .boolean, .ishr) := by decide +kernel
theorem fe_121_15 : am_fe 121 15 = some (2, some .boolean, .iconst 1) := by decide +kernel
theorem fe_121_16 : am_fe 121 16 = some (2, some .boolean, .iand) := by decide +kernel
theorem fe_121_17 : am_fe 121 17 = some (2, some .boolean, .iconst 1) := by decide +kernel
theorem fe_121_18 : am_fe 121 18 = some (2, some .boolean, .if_icmp .ne 31) := by decide +kernel
theorem fe_121_21 : am_fe 121 21 = some (2, some .boolean, .aload_n 0) := by decide +kernel
theorem fe_121_22 : am_fe 121 22 = some (2, some .boolean, .iload_n 3) := by decide +kernel
theorem fe_121_23 : am_fe 121 23 = some (2, some .boolean, .invokevirtual 90) := by decide +kernel
theorem fe_121_26 : am_fe 121 26 = some (2, some .boolean, .istore 4) := by decide +kernel
theorem fe_121_28 : am_fe 121 28 = some (2, some .boolean, .iload 4) := by decide +kernel
theorem fe_121_30 : am_fe 121 30 = some (2, some .boolean, .iconst 1) := by decide +kernel
theorem fe_121_31 : am_fe 121 31 = some (2, some .boolean, .if_icmp .ne 5) := by decide +kernel
theorem fe_121_34 : am_fe 121 34 = some (2, some .boolean, .iconst 0) := by decide +kernel
theorem fe_121_35 : am_fe 121 35 = some (2, some .boolean, .ireturn) := by decide +kernel
theorem fe_121_36 : am_fe 121 36 = some (2, some .boolean, .iload_n 2) := by decide +kernel
theorem fe_121_37 : am_fe 121 37 = some (2, some .boolean, .iload 4) := by decide +kernel
theorem fe_121_39 : am_fe 121 39 = some (2, some .boolean, .ifCond .ne 7) := by decide +kernel
theorem fe_121_42 : am_fe 121 42 = some (2, some .boolean, .iconst 1) := by decide +kernel
theorem fe_121_43 : am_fe 121 43 = some (2, some .boolean, .goto 4) := by decide +kernel
theorem fe_121_46 : am_fe 121 46 = some (2, some .boolean, .iconst 0) := by decide +kernel
theorem fe_121_47 : am_fe 121 47 = some (2, some .boolean, .ior) := by decide +kernel
theorem fe_121_48 : am_fe 121 48 = some (2, some .boolean, .istore_n 2) := by decide +kernel
theorem fe_121_49 : am_fe 121 49 = some (2, some .boolean, .iinc 3 1) := by decide +kernel
theorem fe_121_52 : am_fe 121 52 = some (2, some .boolean, .goto (-48)) := by decide +kernel
theorem fe_121_55 : am_fe 121 55 = some (2, some .boolean, .iload_n 2) := by decide +kernel
theorem fe_121_56 : am_fe 121 56 = some (2, some .boolean, .ireturn) := by decide +kernel
theorem fe_122_0 : am_fe 122 0 = some (9, some .int, .iload_n 1) := by decide +kernel
theorem fe_122_1 : am_fe 122 1 = some (9, some .int, .istore_n 2) := by decide +kernel
theorem fe_122_2 : am_fe 122 2 = some (9, some .int, .iconst 0) := by decide +kernel
theorem fe_122_3 : am_fe 122 3 = some (9, some .int, .istore_n 3) := by decide +kernel
theorem fe_122_4 : am_fe 122 4 = some (9, some .int, .iload_n 3) := by decide +kernel
theorem fe_122_5 : am_fe 122 5 = some (9, some .int, .bipush 13) := by decide +kernel
theorem fe_122_7 : am_fe 122 7 = some (9, some .int, .if_icmp .ge 35) := by decide +kernel
theorem fe_122_10 : am_fe 122 10 = some (9, some .int, .aload_n 0) := by decide +kernel
theorem fe_122_11 : am_fe 122 11 = some (9, some .int, .getfield 37) := by decide +kernel
theorem fe_122_14 : am_fe 122 14 = some (9, some .int, .iload_n 2) := by decide +kernel
theorem fe_122_15 : am_fe 122 15 = some (9, some .int, .iaload) := by decide +kernel
theorem fe_122_16 : am_fe 122 16 = some (9, some .int, .iconst 3) := by decide +kernel
theorem fe_122_17 : am_fe 122 17 = some (9, some .int, .if_icmp .ne 25) := by decide +kernel
theorem fe_122_20 : am_fe 122 20 = some (9, some .int, .aload_n 0) := by decide +kernel
theorem fe_122_21 : am_fe 122 21 = some (9, some .int, .getfield 40) := by decide +kernel
theorem fe_122_24 : am_fe 122 24 = some (9, some .int, .iload_n 2) := by decide +kernel
theorem fe_122_25 : am_fe 122 25 = some (9, some .int, .iaload) := by decide +kernel
theorem fe_122_26 : am_fe 122 26 = some (9, some .int, .ifCond .lt 16) := by decide +kernel
theorem fe_122_29 : am_fe 122 29 = some (9, some .int, .aload_n 0) := by decide +kernel
theorem fe_122_30 : am_fe 122 30 = some (9, some .int, .getfield 40) := by decide +kernel
theorem fe_122_33 : am_fe 122 33 = some (9, some .int, .iload_n 2) := by decide +kernel
theorem fe_122_34 : am_fe 122 34 = some (9, some .int, .iaload) := by decide +kernel
theorem fe_122_35 : am_fe 122 35 = some (9, some .int, .istore_n 2) := by decide +kernel
theorem fe_122_36 : am_fe 122 36 = some (9, some .int, .iinc 3 1) := by decide +kernel
theorem fe_122_39 : am_fe 122 39 = some (9, some .int, .goto (-35)) := by decide +kernel
theorem fe_122_42 : am_fe 122 42 = some (9, some .int, .aload_n 0) := by decide +kernel
theorem fe_122_43 : am_fe 122 43 = some (9, some .int, .getfield 37) := by decide +kernel
theorem fe_122_46 : am_fe 122 46 = some (9, some .int, .iload_n 2) := by decide +kernel
theorem fe_122_47 : am_fe 122 47 = some (9, some .int, .iaload) := by decide +kernel
theorem fe_122_48 : am_fe 122 48 = some (9, some .int, .ireturn) := by decide +kernel
theorem fe_123_0 : am_fe 123 0 = some (2, some .int, .iload_n 0) := by decide +kernel
theorem fe_123_1 : am_fe 123 1 = some (2, some .int, .ifCond .ne 6) := by decide +kernel
theorem fe_123_4 : am_fe 123 4 = some (2, some .int, .ldc 61) := by decide +kernel
theorem fe_123_6 : am_fe 123 6 = some (2, some .int, .ireturn) := by decide +kernel
theorem fe_123_7 : am_fe 123 7 = some (2, some .int, .iload_n 0) := by decide +kernel
theorem fe_123_8 : am_fe 123 8 = some (2, some .int, .iload_n 0) := by decide +kernel
theorem fe_123_9 : am_fe 123 9 = some (2, some .int, .ineg) := by decide +kernel
theorem fe_123_10 : am_fe 123 10 = some (2, some .int, .iand) := by decide +kernel
theorem fe_123_11 : am_fe 123 11 = some (2, some .int, .istore_n 1) := by decide +kernel
theorem fe_123_12 : am_fe 123 12 = some (2, some .int, .iload_n 0) := by decide +kernel
theorem fe_123_13 : am_fe 123 13 = some (2, some .int, .iload_n 1) := by decide +kernel
theorem fe_123_14 : am_fe 123 14 = some (2, some .int, .iadd) := by decide +kernel
theorem fe_123_15 : am_fe 123 15 = some (2, some .int, .istore_n 2) := by decide +kernel
theorem fe_123_16 : am_fe 123 16 = some (2, some .int, .iload_n 2) := by decide +kernel
theorem fe_123_17 : am_fe 123 17 = some (2, some .int, .iload_n 0) := by decide +kernel
theorem fe_123_18 : am_fe 123 18 = some (2, some .int, .iload_n 2) := by decide +kernel
theorem fe_123_19 : am_fe 123 19 = some (2, some .int, .ixor) := by decide +kernel
theorem fe_123_20 : am_fe 123 20 = some (2, some .int, .iconst 2) := by decide +kernel
theorem fe_123_21 : am_fe 123 21 = some (2, some .int, .iload_n 1) := by decide +kernel
