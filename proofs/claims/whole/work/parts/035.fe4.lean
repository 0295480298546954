theorem fe_156_4 : am_fe 156 4 = some (12, some .int, .iload_n 1) := by decide +kernel
theorem fe_156_5 : am_fe 156 5 = some (12, some .int, .aload_n 0) := by decide +kernel
theorem fe_156_6 : am_fe 156 6 = some (12, some .int, .getfield 157) := by decide +kernel
theorem fe_156_9 : am_fe 156 9 = some (12, some .int, .if_icmp .le 5) := by decide +kernel
theorem fe_156_12 : am_fe 156 12 = some (12, some .int, .iconst (-1)) := by decide +kernel
theorem fe_156_13 : am_fe 156 13 = some (12, some .int, .ireturn) := by decide +kernel
theorem fe_156_14 : am_fe 156 14 = some (12, some .int, .aload_n 0) := by decide +kernel
theorem fe_156_15 : am_fe 156 15 = some (12, some .int, .iload_n 1) := by decide +kernel
theorem fe_156_16 : am_fe 156 16 = some (12, some .int, .putfield 157) := by decide +kernel
theorem fe_156_19 : am_fe 156 19 = some (12, some .int, .iload_n 1) := by decide +kernel
theorem fe_156_20 : am_fe 156 20 = some (12, some .int, .ireturn) := by decide +kernel
theorem fe_157_0 : am_fe 157 0 = some (12, some .int, .aload_n 0) := by decide +kernel
theorem fe_157_1 : am_fe 157 1 = some (12, some .int, .invokevirtual 339) := by decide +kernel
theorem fe_157_4 : am_fe 157 4 = some (12, some .int, .aload_n 0) := by decide +kernel
theorem fe_157_5 : am_fe 157 5 = some (12, some .int, .getfield 185) := by decide +kernel
theorem fe_157_8 : am_fe 157 8 = some (12, some .int, .ifCond .le 11) := by decide +kernel
theorem fe_157_11 : am_fe 157 11 = some (12, some .int, .bipush (-2)) := by decide +kernel
theorem fe_157_13 : am_fe 157 13 = some (12, some .int, .aload_n 0) := by decide +kernel
theorem fe_157_14 : am_fe 157 14 = some (12, some .int, .getfield 185) := by decide +kernel
theorem fe_157_17 : am_fe 157 17 = some (12, some .int, .isub) := by decide +kernel
theorem fe_157_18 : am_fe 157 18 = some (12, some .int, .ireturn) := by decide +kernel
theorem fe_157_19 : am_fe 157 19 = some (12, some .int, .iconst 0) := by decide +kernel
theorem fe_157_20 : am_fe 157 20 = some (12, some .int, .istore_n 1) := by decide +kernel
theorem fe_157_21 : am_fe 157 21 = some (12, some .int, .iload_n 1) := by decide +kernel
theorem fe_157_22 : am_fe 157 22 = some (12, some .int, .bipush 7) := by decide +kernel
theorem fe_157_24 : am_fe 157 24 = some (12, some .int, .if_icmp .ge 30) := by decide +kernel
theorem fe_157_27 : am_fe 157 27 = some (12, some .int, .aload_n 0) := by decide +kernel
theorem fe_157_28 : am_fe 157 28 = some (12, some .int, .getfield 9) := by decide +kernel
theorem fe_157_31 : am_fe 157 31 = some (12, some .int, .iload_n 1) := by decide +kernel
theorem fe_157_32 : am_fe 157 32 = some (12, some .int, .iload_n 1) := by decide +kernel
theorem fe_157_33 : am_fe 157 33 = some (12, some .int, .iconst 5) := by decide +kernel
theorem fe_157_34 : am_fe 157 34 = some (12, some .int, .if_icmp .ge 12) := by decide +kernel
theorem fe_157_37 : am_fe 157 37 = some (12, some .int, .aload_n 0) := by decide +kernel
theorem fe_157_38 : am_fe 157 38 = some (12, some .int, .getfield 55) := by decide +kernel
theorem fe_157_41 : am_fe 157 41 = some (12, some .int, .iload_n 1) := by decide +kernel
theorem fe_157_42 : am_fe 157 42 = some (12, some .int, .iaload) := by decide +kernel
theorem fe_157_43 : am_fe 157 43 = some (12, some .int, .goto 4) := by decide +kernel
theorem fe_157_46 : am_fe 157 46 = some (12, some .int, .iconst 0) := by decide +kernel
theorem fe_157_47 : am_fe 157 47 = some (12, some .int, .iastore) := by decide +kernel
theorem fe_157_48 : am_fe 157 48 = some (12, some .int, .iinc 1 1) := by decide +kernel
theorem fe_157_51 : am_fe 157 51 = some (12, some .int, .goto (-30)) := by decide +kernel
theorem fe_157_54 : am_fe 157 54 = some (12, some .int, .aload_n 0) := by decide +kernel
theorem fe_157_55 : am_fe 157 55 = some (12, some .int, .getfield 58) := by decide +kernel
theorem fe_157_58 : am_fe 157 58 = some (12, some .int, .aload_n 0) := by decide +kernel
theorem fe_157_59 : am_fe 157 59 = some (12, some .int, .getfield 13) := by decide +kernel
theorem fe_157_62 : am_fe 157 62 = some (12, some .int, .invokestatic 342) := by decide +kernel
theorem fe_157_65 : am_fe 157 65 = some (12, some .int, .aload_n 0) := by decide +kernel
theorem fe_157_66 : am_fe 157 66 = some (12, some .int, .getfield 61) := by decide +kernel
theorem fe_157_69 : am_fe 157 69 = some (12, some .int, .aload_n 0) := by decide +kernel
theorem fe_157_70 : am_fe 157 70 = some (12, some .int, .getfield 16) := by decide +kernel
theorem fe_157_73 : am_fe 157 73 = some (12, some .int, .invokestatic 342) := by decide +kernel
theorem fe_157_76 : am_fe 157 76 = some (12, some .int, .aload_n 0) := by decide +kernel
theorem fe_157_77 : am_fe 157 77 = some (12, some .int, .getfield 64) := by decide +kernel
theorem fe_157_80 : am_fe 157 80 = some (12, some .int, .aload_n 0) := by decide +kernel
theorem fe_157_81 : am_fe 157 81 = some (12, some .int, .getfield 19) := by decide +kernel
theorem fe_157_84 : am_fe 157 84 = some (12, some .int, .invokestatic 342) := by decide +kernel
theorem fe_157_87 : am_fe 157 87 = some (12, some .int, .aload_n 0) := by decide +kernel
theorem fe_157_88 : am_fe 157 88 = some (12, some .int, .getfield 67) := by decide +kernel
theorem fe_157_91 : am_fe 157 91 = some (12, some .int, .aload_n 0) := by decide +kernel
theorem fe_157_92 : am_fe 157 92 = some (12, some .int, .getfield 22) := by decide +kernel
theorem fe_157_95 : am_fe 157 95 = some (12, some .int, .invokestatic 342) := by decide +kernel
theorem fe_157_98 : am_fe 157 98 = some (12, some .int, .aload_n 0) := by decide +kernel
theorem fe_157_99 : am_fe 157 99 = some (12, some .int, .getfield 70) := by decide +kernel
theorem fe_157_102 : am_fe 157 102 = some (12, some .int, .aload_n 0) := by decide +kernel
theorem fe_157_103 : am_fe 157 103 = some (12, some .int, .getfield 28) := by decide +kernel
theorem fe_157_106 : am_fe 157 106 = some (12, some .int, .invokestatic 342) := by decide +kernel
theorem fe_157_109 : am_fe 157 109 = some (12, some .int, .aload_n 0) := by decide +kernel
theorem fe_157_110 : am_fe 157 110 = some (12, some .int, .getfield 73) := by decide +kernel
theorem fe_157_113 : am_fe 157 113 = some (12, some .int, .aload_n 0) := by decide +kernel
theorem fe_157_114 : am_fe 157 114 = some (12, some .int, .getfield 31) := by decide +kernel
theorem fe_157_117 : am_fe 157 117 = some (12, some .int, .invokestatic 342) := by decide +kernel
theorem fe_157_120 : am_fe 157 120 = some (12, some .int, .aload_n 0) := by decide +kernel
theorem fe_157_121 : am_fe 157 121 = some (12, some .int, .getfield 76) := by decide +kernel
theorem fe_157_124 : am_fe 157 124 = some (12, some .int, .aload_n 0) := by decide +kernel
theorem fe_157_125 : am_fe 157 125 = some (12, some .int, .getfield 34) := by decide +kernel
theorem fe_157_128 : am_fe 157 128 = some (12, some .int, .invokestatic 342) := by decide +kernel
theorem fe_157_131 : am_fe 157 131 = some (12, some .int, .aload_n 0) := by decide +kernel
theorem fe_157_132 : am_fe 157 132 = some (12, some .int, .getfield 79) := by decide +kernel
theorem fe_157_135 : am_fe 157 135 = some (12, some .int, .aload_n 0) := by decide +kernel
theorem fe_157_136 : am_fe 157 136 = some (12, some .int, .getfield 37) := by decide +kernel
theorem fe_157_139 : am_fe 157 139 = some (12, some .int, .invokestatic 342) := by decide +kernel
theorem fe_157_142 : am_fe 157 142 = some (12, some .int, .aload_n 0) := by decide +kernel
theorem fe_157_143 : am_fe 157 143 = some (12, some .int, .getfield 82) := by decide +kernel
theorem fe_157_146 : am_fe 157 146 = some (12, some .int, .aload_n 0) := by decide +kernel
theorem fe_157_147 : am_fe 157 147 = some (12, some .int, .getfield 40) := by decide +kernel
theorem fe_157_150 : am_fe 157 150 = some (12, some .int, .invokestatic 342) := by decide +kernel
theorem fe_157_153 : am_fe 157 153 = some (12, some .int, .iconst 0) := by decide +kernel
theorem fe_157_154 : am_fe 157 154 = some (12, some .int, .istore_n 1) := by decide +kernel
theorem fe_157_155 : am_fe 157 155 = some (12, some .int, .iload_n 1) := by decide +kernel
theorem fe_157_156 : am_fe 157 156 = some (12, some .int, .bipush 6) := by decide +kernel
theorem fe_157_158 : am_fe 157 158 = some (12, some .int, .if_icmp .ge 16) := by decide +kernel
theorem fe_157_161 : am_fe 157 161 = some (12, some .int, .aload_n 0) := by decide +kernel
theorem fe_157_162 : am_fe 157 162 = some (12, some .int, .getfield 25) := by decide +kernel
theorem fe_157_165 : am_fe 157 165 = some (12, some .int, .iload_n 1) := by decide +kernel
theorem fe_157_166 : am_fe 157 166 = some (12, some .int, .iconst 0) := by decide +kernel
theorem fe_157_167 : am_fe 157 167 = some (12, some .int, .iastore) := by decide +kernel
theorem fe_157_168 : am_fe 157 168 = some (12, some .int, .iinc 1 1) := by decide +kernel
theorem fe_157_171 : am_fe 157 171 = some (12, some .int, .goto (-16)) := by decide +kernel
theorem fe_157_174 : am_fe 157 174 = some (12, some .int, .iconst 0) := by decide +kernel
theorem fe_157_175 : am_fe 157 175 = some (12, some .int, .istore_n 1) := by decide +kernel
theorem fe_157_176 : am_fe 157 176 = some (12, some .int, .iload_n 1) := by decide +kernel
theorem fe_157_177 : am_fe 157 177 = some (12, some .int, .bipush 13) := by decide +kernel
theorem fe_157_179 : am_fe 157 179 = some (12, some .int, .if_icmp .ge 37) := by decide +kernel
theorem fe_157_182 : am_fe 157 182 = some (12, some .int, .aload_n 0) := by decide +kernel
theorem fe_157_183 : am_fe 157 183 = some (12, some .int, .getfield 43) := by decide +kernel
theorem fe_157_186 : am_fe 157 186 = some (12, some .int, .iload_n 1) := by decide +kernel
theorem fe_157_187 : am_fe 157 187 = some (12, some .int, .iconst 0) := by decide +kernel
theorem fe_157_188 : am_fe 157 188 = some (12, some .int, .iastore) := by decide +kernel
theorem fe_157_189 : am_fe 157 189 = some (12, some .int, .aload_n 0) := by decide +kernel
theorem fe_157_190 : am_fe 157 190 = some (12, some .int, .getfield 46) := by decide +kernel
theorem fe_157_193 : am_fe 157 193 = some (12, some .int, .iload_n 1) := by decide +kernel
theorem fe_157_194 : am_fe 157 194 = some (12, some .int, .iconst 0) := by decide +kernel
theorem fe_157_195 : am_fe 157 195 = some (12, some .int, .iastore) := by decide +kernel
theorem fe_157_196 : am_fe 157 196 = some (12, some .int, .aload_n 0) := by decide +kernel
theorem fe_157_197 : am_fe 157 197 = some (12, some .int, .getfield 49) := by decide +kernel
theorem fe_157_200 : am_fe 157 200 = some (12, some .int, .iload_n 1) := by decide +kernel
theorem fe_157_201 : am_fe 157 201 = some (12, some .int, .iconst (-1)) := by decide +kernel
theorem fe_157_202 : am_fe 157 202 = some (12, some .int, .iastore) := by decide +kernel
theorem fe_157_203 : am_fe 157 203 = some (12, some .int, .aload_n 0) := by decide +kernel
theorem fe_157_204 : am_fe 157 204 = some (12, some .int, .getfield 52) := by decide +kernel
theorem fe_157_207 : am_fe 157 207 = some (12, some .int, .iload_n 1) := by decide +kernel
theorem fe_157_208 : am_fe 157 208 = some (12, some .int, .iconst (-1)) := by decide +kernel
theorem fe_157_209 : am_fe 157 209 = some (12, some .int, .iastore) := by decide +kernel
theorem fe_157_210 : am_fe 157 210 = some (12, some .int, .iinc 1 1) := by decide +kernel
theorem fe_157_213 : am_fe 157 213 = some (12, some .int, .goto (-37)) := by decide +kernel
theorem fe_157_216 : am_fe 157 216 = some (12, some .int, .aload_n 0) := by decide +kernel
theorem fe_157_217 : am_fe 157 217 = some (12, some .int, .iconst 0) := by decide +kernel
theorem fe_157_218 : am_fe 157 218 = some (12, some .int, .putfield 346) := by decide +kernel
theorem fe_157_221 : am_fe 157 221 = some (12, some .int, .aload_n 0) := by decide +kernel
theorem fe_157_222 : am_fe 157 222 = some (12, some .int, .getfield 9) := by decide +kernel
theorem fe_157_225 : am_fe 157 225 = some (12, some .int, .iconst 4) := by decide +kernel
theorem fe_157_226 : am_fe 157 226 = some (12, some .int, .iaload) := by decide +kernel
theorem fe_157_227 : am_fe 157 227 = some (12, some .int, .ireturn) := by decide +kernel
theorem fe_158_0 : am_fe 158 0 = some (12, none, .aload_n 0) := by decide +kernel
theorem fe_158_1 : am_fe 158 1 = some (12, none, .invokevirtual 330) := by decide +kernel
theorem fe_158_4 : am_fe 158 4 = some (12, none, .iconst 0) := by decide +kernel
theorem fe_158_5 : am_fe 158 5 = some (12, none, .istore_n 1) := by decide +kernel
theorem fe_158_6 : am_fe 158 6 = some (12, none, .iload_n 1) := by decide +kernel
theorem fe_158_7 : am_fe 158 7 = some (12, none, .iconst 5) := by decide +kernel
theorem fe_158_8 : am_fe 158 8 = some (12, none, .if_icmp .ge 16) := by decide +kernel
theorem fe_158_11 : am_fe 158 11 = some (12, none, .aload_n 0) := by decide +kernel
theorem fe_158_12 : am_fe 158 12 = some (12, none, .getfield 55) := by decide +kernel
theorem fe_158_15 : am_fe 158 15 = some (12, none, .iload_n 1) := by decide +kernel
theorem fe_158_16 : am_fe 158 16 = some (12, none, .iconst 0) := by decide +kernel
theorem fe_158_17 : am_fe 158 17 = some (12, none, .iastore) := by decide +kernel
theorem fe_158_18 : am_fe 158 18 = some (12, none, .iinc 1 1) := by decide +kernel
theorem fe_158_21 : am_fe 158 21 = some (12, none, .goto (-15)) := by decide +kernel
theorem fe_158_24 : am_fe 158 24 = some (12, none, .iconst 0) := by decide +kernel
theorem fe_158_25 : am_fe 158 25 = some (12, none, .istore_n 1) := by decide +kernel
theorem fe_158_26 : am_fe 158 26 = some (12, none, .iconst 1) := by decide +kernel
theorem fe_158_27 : am_fe 158 27 = some (12, none, .istore_n 2) := by decide +kernel
theorem fe_158_28 : am_fe 158 28 = some (12, none, .iload_n 2) := by decide +kernel
theorem fe_158_29 : am_fe 158 29 = some (12, none, .ifCond .eq 19) := by decide +kernel
theorem fe_158_32 : am_fe 158 32 = some (12, none, .aload_n 0) := by decide +kernel
theorem fe_158_33 : am_fe 158 33 = some (12, none, .iload_n 1) := by decide +kernel
theorem fe_158_34 : am_fe 158 34 = some (12, none, .invokevirtual 333) := by decide +kernel
theorem fe_158_37 : am_fe 158 37 = some (12, none, .iinc 1 1) := by decide +kernel
theorem fe_158_40 : am_fe 158 40 = some (12, none, .aload_n 0) := by decide +kernel
theorem fe_158_41 : am_fe 158 41 = some (12, none, .invokevirtual 336) := by decide +kernel
theorem fe_158_44 : am_fe 158 44 = some (12, none, .istore_n 2) := by decide +kernel
theorem fe_158_45 : am_fe 158 45 = some (12, none, .goto (-17)) := by decide +kernel
theorem fe_158_48 : am_fe 158 48 = some (12, none, .aload_n 0) := by decide +kernel
theorem fe_158_49 : am_fe 158 49 = some (12, none, .iconst 0) := by decide +kernel
theorem fe_158_50 : am_fe 158 50 = some (12, none, .putfield 157) := by decide +kernel
theorem fe_158_53 : am_fe 158 53 = some (12, none, .return_) := by decide +kernel
theorem fe_159_0 : am_fe 159 0 = some (12, none, .aload_n 0) := by decide +kernel
theorem fe_159_1 : am_fe 159 1 = some (12, none, .iconst 0) := by decide +kernel
theorem fe_159_2 : am_fe 159 2 = some (12, none, .putfield 188) := by decide +kernel
theorem fe_159_5 : am_fe 159 5 = some (12, none, .aload_n 0) := by decide +kernel
theorem fe_159_6 : am_fe 159 6 = some (12, none, .iconst 0) := by decide +kernel
theorem fe_159_7 : am_fe 159 7 = some (12, none, .putfield 185) := by decide +kernel
theorem fe_159_10 : am_fe 159 10 = some (12, none, .aload_n 0) := by decide +kernel
theorem fe_159_11 : am_fe 159 11 = some (12, none, .iconst 0) := by decide +kernel
theorem fe_159_12 : am_fe 159 12 = some (12, none, .putfield 218) := by decide +kernel
theorem fe_159_15 : am_fe 159 15 = some (12, none, .aload_n 0) := by decide +kernel
theorem fe_159_16 : am_fe 159 16 = some (12, none, .iconst 0) := by decide +kernel
theorem fe_159_17 : am_fe 159 17 = some (12, none, .putfield 258) := by decide +kernel
theorem fe_159_20 : am_fe 159 20 = some (12, none, .aload_n 0) := by decide +kernel
theorem fe_159_21 : am_fe 159 21 = some (12, none, .iconst 0) := by decide +kernel
theorem fe_159_22 : am_fe 159 22 = some (12, none, .putfield 221) := by decide +kernel
theorem fe_159_25 : am_fe 159 25 = some (12, none, .return_) := by decide +kernel
theorem fe_160_0 : am_fe 160 0 = some (12, none, .aload_n 0) := by decide +kernel
theorem fe_160_1 : am_fe 160 1 = some (12, none, .invokevirtual 208) := by decide +kernel
theorem fe_160_4 : am_fe 160 4 = some (12, none, .aload_n 0) := by decide +kernel
theorem fe_160_5 : am_fe 160 5 = some (12, none, .getfield 188) := by decide +kernel
theorem fe_160_8 : am_fe 160 8 = some (12, none, .istore_n 2) := by decide +kernel
theorem fe_160_9 : am_fe 160 9 = some (12, none, .iconst 0) := by decide +kernel
theorem fe_160_10 : am_fe 160 10 = some (12, none, .istore_n 3) := by decide +kernel
theorem fe_160_11 : am_fe 160 11 = some (12, none, .iload_n 3) := by decide +kernel
theorem fe_160_12 : am_fe 160 12 = some (12, none, .bipush 8) := by decide +kernel
theorem fe_160_14 : am_fe 160 14 = some (12, none, .if_icmp .ge 20) := by decide +kernel
theorem fe_160_17 : am_fe 160 17 = some (12, none, .aload_n 0) := by decide +kernel
theorem fe_160_18 : am_fe 160 18 = some (12, none, .iload_n 3) := by decide +kernel
theorem fe_160_19 : am_fe 160 19 = some (12, none, .invokestatic 320) := by decide +kernel
theorem fe_160_22 : am_fe 160 22 = some (12, none, .invokevirtual 211) := by decide +kernel
theorem fe_160_25 : am_fe 160 25 = some (12, none, .ifCond .ne 9) := by decide +kernel
theorem fe_160_28 : am_fe 160 28 = some (12, none, .iinc 3 1) := by decide +kernel
theorem fe_160_31 : am_fe 160 31 = some (12, none, .goto (-20)) := by decide +kernel
theorem fe_160_34 : am_fe 160 34 = some (12, none, .iload_n 3) := by decide +kernel
theorem fe_160_35 : am_fe 160 35 = some (12, none, .bipush 8) := by decide +kernel
theorem fe_160_37 : am_fe 160 37 = some (12, none, .if_icmp .ne 10) := by decide +kernel
theorem fe_160_40 : am_fe 160 40 = some (12, none, .aload_n 0) := by decide +kernel
theorem fe_160_41 : am_fe 160 41 = some (12, none, .iconst 0) := by decide +kernel
theorem fe_160_42 : am_fe 160 42 = some (12, none, .iload_n 2) := by decide +kernel
theorem fe_160_43 : am_fe 160 43 = some (12, none, .invokevirtual 224) := by decide +kernel
theorem fe_160_46 : am_fe 160 46 = some (12, none, .return_) := by decide +kernel
theorem fe_160_47 : am_fe 160 47 = some (12, none, .aload_n 0) := by decide +kernel
theorem fe_160_48 : am_fe 160 48 = some (12, none, .iload_n 3) := by decide +kernel
theorem fe_160_49 : am_fe 160 49 = some (12, none, .iload_n 1) := by decide +kernel
theorem fe_160_50 : am_fe 160 50 = some (12, none, .invokevirtual 323) := by decide +kernel
theorem fe_160_53 : am_fe 160 53 = some (12, none, .ifCond .eq 10) := by decide +kernel
theorem fe_160_56 : am_fe 160 56 = some (12, none, .aload_n 0) := by decide +kernel
theorem fe_160_57 : am_fe 160 57 = some (12, none, .iconst 4) := by decide +kernel
theorem fe_160_58 : am_fe 160 58 = some (12, none, .iload_n 2) := by decide +kernel
theorem fe_160_59 : am_fe 160 59 = some (12, none, .invokevirtual 224) := by decide +kernel
theorem fe_160_62 : am_fe 160 62 = some (12, none, .return_) := by decide +kernel
theorem fe_160_63 : am_fe 160 63 = some (12, none, .aload_n 0) := by decide +kernel
theorem fe_160_64 : am_fe 160 64 = some (12, none, .dup) := by decide +kernel
theorem fe_160_65 : am_fe 160 65 = some (12, none, .getfield 188) := by decide +kernel
theorem fe_160_68 : am_fe 160 68 = some (12, none, .iload_n 3) := by decide +kernel
theorem fe_160_69 : am_fe 160 69 = some (12, none, .invokestatic 320) := by decide +kernel
theorem fe_160_72 : am_fe 160 72 = some (12, none, .invokevirtual 199) := by decide +kernel
theorem fe_160_75 : am_fe 160 75 = some (12, none, .iadd) := by decide +kernel
theorem fe_160_76 : am_fe 160 76 = some (12, none, .putfield 188) := by decide +kernel
theorem fe_160_79 : am_fe 160 79 = some (12, none, .aload_n 0) := by decide +kernel
theorem fe_160_80 : am_fe 160 80 = some (12, none, .iload_n 3) := by decide +kernel
theorem fe_160_81 : am_fe 160 81 = some (12, none, .invokevirtual 327) := by decide +kernel
theorem fe_160_84 : am_fe 160 84 = some (12, none, .return_) := by decide +kernel
theorem fe_161_0 : am_fe 161 0 = some (12, none, .aload_n 0) := by decide +kernel
theorem fe_161_1 : am_fe 161 1 = some (12, none, .invokevirtual 191) := by decide +kernel
theorem fe_161_4 : am_fe 161 4 = some (12, none, .bipush 32) := by decide +kernel
theorem fe_161_6 : am_fe 161 6 = some (12, none, .if_icmp .ne 16) := by decide +kernel
theorem fe_161_9 : am_fe 161 9 = some (12, none, .aload_n 0) := by decide +kernel
theorem fe_161_10 : am_fe 161 10 = some (12, none, .dup) := by decide +kernel
theorem fe_161_11 : am_fe 161 11 = some (12, none, .getfield 188) := by decide +kernel
theorem fe_161_14 : am_fe 161 14 = some (12, none, .iconst 1) := by decide +kernel
theorem fe_161_15 : am_fe 161 15 = some (12, none, .iadd) := by decide +kernel
theorem fe_161_16 : am_fe 161 16 = some (12, none, .putfield 188) := by decide +kernel
theorem fe_161_19 : am_fe 161 19 = some (12, none, .goto (-19)) := by decide +kernel
theorem fe_161_22 : am_fe 161 22 = some (12, none, .return_) := by decide +kernel
theorem fe_162_0 : am_fe 162 0 = some (12, some .int, .aload_n 0) := by decide +kernel
theorem fe_162_1 : am_fe 162 1 = some (12, some .int, .getfield 188) := by decide +kernel
theorem fe_162_4 : am_fe 162 4 = some (12, some .int, .aload_n 0) := by decide +kernel
theorem fe_162_5 : am_fe 162 5 = some (12, some .int, .getfield 157) := by decide +kernel
theorem fe_162_8 : am_fe 162 8 = some (12, some .int, .if_icmp .ge 19) := by decide +kernel
theorem fe_162_11 : am_fe 162 11 = some (12, some .int, .aload_n 0) := by decide +kernel
theorem fe_162_12 : am_fe 162 12 = some (12, some .int, .getfield 89) := by decide +kernel
theorem fe_162_15 : am_fe 162 15 = some (12, some .int, .aload_n 0) := by decide +kernel
theorem fe_162_16 : am_fe 162 16 = some (12, some .int, .getfield 188) := by decide +kernel
theorem fe_162_19 : am_fe 162 19 = some (12, some .int, .baload) := by decide +kernel
theorem fe_162_20 : am_fe 162 20 = some (12, some .int, .sipush 255) := by decide +kernel
theorem fe_162_23 : am_fe 162 23 = some (12, some .int, .iand) := by decide +kernel
theorem fe_162_24 : am_fe 162 24 = some (12, some .int, .goto 4) := by decide +kernel
theorem fe_162_27 : am_fe 162 27 = some (12, some .int, .iconst (-1)) := by decide +kernel
theorem fe_162_28 : am_fe 162 28 = some (12, some .int, .ireturn) := by decide +kernel
theorem fe_163_0 : am_fe 163 0 = some (12, some (.object "java/lang/String"), .iload_n 0) := by decide +kernel
theorem fe_163_1 : am_fe 163 1 = some (12, some (.object "java/lang/String"), .tableswitch 71 0 6 #[43, 47, 51, 55, 59, 63, 67]) := by decide +kernel
theorem fe_163_44 : am_fe 163 44 = some (12, some (.object "java/lang/String"), .ldc_w 293) := by decide +kernel
theorem fe_163_47 : am_fe 163 47 = some (12, some (.object "java/lang/String"), .areturn) := by decide +kernel
theorem fe_163_48 : am_fe 163 48 = some (12, some (.object "java/lang/String"), .ldc_w 295) := by decide +kernel
theorem fe_163_51 : am_fe 163 51 = some (12, some (.object "java/lang/String"), .areturn) := by decide +kernel
theorem fe_163_52 : am_fe 163 52 = some (12, some (.object "java/lang/String"), .ldc_w 296) := by decide +kernel
theorem fe_163_55 : am_fe 163 55 = some (12, some (.object "java/lang/String"), .areturn) := by decide +kernel
theorem fe_163_56 : am_fe 163 56 = some (12, some (.object "java/lang/String"), .ldc_w 298) := by decide +kernel
theorem fe_163_59 : am_fe 163 59 = some (12, some (.object "java/lang/String"), .areturn) := by decide +kernel
theorem fe_163_60 : am_fe 163 60 = some (12, some (.object "java/lang/String"), .ldc_w 299) := by decide +kernel
theorem fe_163_63 : am_fe 163 63 = some (12, some (.object "java/lang/String"), .areturn) := by decide +kernel
theorem fe_163_64 : am_fe 163 64 = some (12, some (.object "java/lang/String"), .ldc_w 301) := by decide +kernel
theorem fe_163_67 : am_fe 163 67 = some (12, some (.object "java/lang/String"), .areturn) := by decide +kernel
theorem fe_163_68 : am_fe 163 68 = some (12, some (.object "java/lang/String"), .ldc_w 303) := by decide +kernel
theorem fe_163_71 : am_fe 163 71 = some (12, some (.object "java/lang/String"), .areturn) := by decide +kernel
theorem fe_163_72 : am_fe 163 72 = some (12, some (.object "java/lang/String"), .ldc_w 305) := by decide +kernel
theorem fe_163_75 : am_fe 163 75 = some (12, some (.object "java/lang/String"), .areturn) := by decide +kernel
theorem fe_164_0 : am_fe 164 0 = some (12, some .boolean, .aload_n 0) := by decide +kernel
theorem fe_164_1 : am_fe 164 1 = some (12, some .boolean, .getfield 188) := by decide +kernel
theorem fe_164_4 : am_fe 164 4 = some (12, some .boolean, .istore_n 2) := by decide +kernel
theorem fe_164_5 : am_fe 164 5 = some (12, some .boolean, .iload_n 2) := by decide +kernel
theorem fe_164_6 : am_fe 164 6 = some (12, some .boolean, .aload_n 0) := by decide +kernel
theorem fe_164_7 : am_fe 164 7 = some (12, some .boolean, .getfield 157) := by decide +kernel
theorem fe_164_10 : am_fe 164 10 = some (12, some .boolean, .if_icmp .ge 31) := by decide +kernel
theorem fe_164_13 : am_fe 164 13 = some (12, some .boolean, .aload_n 0) := by decide +kernel
theorem fe_164_14 : am_fe 164 14 = some (12, some .boolean, .getfield 89) := by decide +kernel
theorem fe_164_17 : am_fe 164 17 = some (12, some .boolean, .iload_n 2) := by decide +kernel
theorem fe_164_18 : am_fe 164 18 = some (12, some .boolean, .baload) := by decide +kernel
theorem fe_164_19 : am_fe 164 19 = some (12, some .boolean, .bipush 97) := by decide +kernel
theorem fe_164_21 : am_fe 164 21 = some (12, some .boolean, .if_icmp .lt 20) := by decide +kernel
theorem fe_164_24 : am_fe 164 24 = some (12, some .boolean, .aload_n 0) := by decide +kernel
theorem fe_164_25 : am_fe 164 25 = some (12, some .boolean, .getfield 89) := by decide +kernel
theorem fe_164_28 : am_fe 164 28 = some (12, some .boolean, .iload_n 2) := by decide +kernel
theorem fe_164_29 : am_fe 164 29 = some (12, some .boolean, .baload) := by decide +kernel
theorem fe_164_30 : am_fe 164 30 = some (12, some .boolean, .bipush 122) := by decide +kernel
theorem fe_164_32 : am_fe 164 32 = some (12, some .boolean, .if_icmp .gt 9) := by decide +kernel
theorem fe_164_35 : am_fe 164 35 = some (12, some .boolean, .iinc 2 1) := by decide +kernel
theorem fe_164_38 : am_fe 164 38 = some (12, some .boolean, .goto (-33)) := by decide +kernel
theorem fe_164_41 : am_fe 164 41 = some (12, some .boolean, .iload_n 2) := by decide +kernel
theorem fe_164_42 : am_fe 164 42 = some (12, some .boolean, .aload_n 0) := by decide +kernel
theorem fe_164_43 : am_fe 164 43 = some (12, some .boolean, .getfield 188) := by decide +kernel
theorem fe_164_46 : am_fe 164 46 = some (12, some .boolean, .isub) := by decide +kernel
theorem fe_164_47 : am_fe 164 47 = some (12, some .boolean, .aload_n 1) := by decide +kernel
theorem fe_164_48 : am_fe 164 48 = some (12, some .boolean, .invokevirtual 199) := by decide +kernel
theorem fe_164_51 : am_fe 164 51 = some (12, some .boolean, .if_icmp .ne 7) := by decide +kernel
theorem fe_164_54 : am_fe 164 54 = some (12, some .boolean, .iconst 1) := by decide +kernel
theorem fe_164_55 : am_fe 164 55 = some (12, some .boolean, .goto 4) := by decide +kernel
theorem fe_164_58 : am_fe 164 58 = some (12, some .boolean, .iconst 0) := by decide +kernel
theorem fe_164_59 : am_fe 164 59 = some (12, some .boolean, .istore_n 3) := by decide +kernel
theorem fe_164_60 : am_fe 164 60 = some (12, some .boolean, .iconst 0) := by decide +kernel
theorem fe_164_61 : am_fe 164 61 = some (12, some .boolean, .istore 4) := by decide +kernel
theorem fe_164_63 : am_fe 164 63 = some (12, some .boolean, .iload 4) := by decide +kernel
theorem fe_164_65 : am_fe 164 65 = some (12, some .boolean, .aload_n 1) := by decide +kernel
theorem fe_164_66 : am_fe 164 66 = some (12, some .boolean, .invokevirtual 199) := by decide +kernel
theorem fe_164_69 : am_fe 164 69 = some (12, some .boolean, .if_icmp .ge 40) := by decide +kernel
theorem fe_164_72 : am_fe 164 72 = some (12, some .boolean, .iload_n 3) := by decide +kernel
theorem fe_164_73 : am_fe 164 73 = some (12, some .boolean, .ifCond .eq 36) := by decide +kernel
theorem fe_164_76 : am_fe 164 76 = some (12, some .boolean, .aload_n 0) := by decide +kernel
theorem fe_164_77 : am_fe 164 77 = some (12, some .boolean, .getfield 89) := by decide +kernel
theorem fe_164_80 : am_fe 164 80 = some (12, some .boolean, .aload_n 0) := by decide +kernel
theorem fe_164_81 : am_fe 164 81 = some (12, some .boolean, .getfield 188) := by decide +kernel
theorem fe_164_84 : am_fe 164 84 = some (12, some .boolean, .iload 4) := by decide +kernel
theorem fe_164_86 : am_fe 164 86 = some (12, some .boolean, .iadd) := by decide +kernel
theorem fe_164_87 : am_fe 164 87 = some (12, some .boolean, .baload) := by decide +kernel
theorem fe_164_88 : am_fe 164 88 = some (12, some .boolean, .aload_n 1) := by decide +kernel
theorem fe_164_89 : am_fe 164 89 = some (12, some .boolean, .iload 4) := by decide +kernel
theorem fe_164_91 : am_fe 164 91 = some (12, some .boolean, .invokevirtual 204) := by decide +kernel
theorem fe_164_94 : am_fe 164 94 = some (12, some .boolean, .if_icmp .ne 7) := by decide +kernel
theorem fe_164_97 : am_fe 164 97 = some (12, some .boolean, .iconst 1) := by decide +kernel
theorem fe_164_98 : am_fe 164 98 = some (12, some .boolean, .goto 4) := by decide +kernel
theorem fe_164_101 : am_fe 164 101 = some (12, some .boolean, .iconst 0) := by decide +kernel
theorem fe_164_102 : am_fe 164 102 = some (12, some .boolean, .istore_n 3) := by decide +kernel
theorem fe_164_103 : am_fe 164 103 = some (12, some .boolean, .iinc 4 1) := by decide +kernel
theorem fe_164_106 : am_fe 164 106 = some (12, some .boolean, .goto (-43)) := by decide +kernel
theorem fe_164_109 : am_fe 164 109 = some (12, some .boolean, .iload_n 3) := by decide +kernel
theorem fe_164_110 : am_fe 164 110 = some (12, some .boolean, .ireturn) := by decide +kernel
theorem fe_165_0 : am_fe 165 0 = some (12, none, .aload_n 0) := by decide +kernel
theorem fe_165_1 : am_fe 165 1 = some (12, none, .aload_n 0) := by decide +kernel
theorem fe_165_2 : am_fe 165 2 = some (12, none, .getfield 185) := by decide +kernel
theorem fe_165_5 : am_fe 165 5 = some (12, none, .ifCond .ne 14) := by decide +kernel
theorem fe_165_8 : am_fe 165 8 = some (12, none, .iconst 1) := by decide +kernel
theorem fe_165_9 : am_fe 165 9 = some (12, none, .bipush 8) := by decide +kernel
theorem fe_165_11 : am_fe 165 11 = some (12, none, .iload_n 2) := by decide +kernel
theorem fe_165_12 : am_fe 165 12 = some (12, none, .imul) := by decide +kernel
theorem fe_165_13 : am_fe 165 13 = some (12, none, .iadd) := by decide +kernel
theorem fe_165_14 : am_fe 165 14 = some (12, none, .iload_n 1) := by decide +kernel
theorem fe_165_15 : am_fe 165 15 = some (12, none, .iadd) := by decide +kernel
theorem fe_165_16 : am_fe 165 16 = some (12, none, .goto 7) := by decide +kernel
theorem fe_165_19 : am_fe 165 19 = some (12, none, .aload_n 0) := by decide +kernel
theorem fe_165_20 : am_fe 165 20 = some (12, none, .getfield 185) := by decide +kernel
theorem fe_165_23 : am_fe 165 23 = some (12, none, .putfield 185) := by decide +kernel
theorem fe_165_26 : am_fe 165 26 = some (12, none, .return_) := by decide +kernel
theorem fe_166_0 : am_fe 166 0 = some (12, some .boolean, .iload_n 2) := by decide +kernel
theorem fe_166_1 : am_fe 166 1 = some (12, some .boolean, .bipush 40) := by decide +kernel
theorem fe_166_3 : am_fe 166 3 = some (12, some .boolean, .if_icmp .eq 24) := by decide +kernel
theorem fe_166_6 : am_fe 166 6 = some (12, some .boolean, .iload_n 1) := by decide +kernel
theorem fe_166_7 : am_fe 166 7 = some (12, some .boolean, .ifCond .ne 7) := by decide +kernel
theorem fe_166_10 : am_fe 166 10 = some (12, some .boolean, .iconst 1) := by decide +kernel
theorem fe_166_11 : am_fe 166 11 = some (12, some .boolean, .goto 4) := by decide +kernel
theorem fe_166_14 : am_fe 166 14 = some (12, some .boolean, .iconst 0) := by decide +kernel
theorem fe_166_15 : am_fe 166 15 = some (12, some .boolean, .iload_n 2) := by decide +kernel
theorem fe_166_16 : am_fe 166 16 = some (12, some .boolean, .ifCond .ne 7) := by decide +kernel
theorem fe_166_19 : am_fe 166 19 = some (12, some .boolean, .iconst 1) := by decide +kernel
theorem fe_166_20 : am_fe 166 20 = some (12, some .boolean, .goto 4) := by decide +kernel
theorem fe_166_23 : am_fe 166 23 = some (12, some .boolean, .iconst 0) := by decide +kernel
theorem fe_166_24 : am_fe 166 24 = some (12, some .boolean, .if_icmp .eq 5) := by decide +kernel
theorem fe_166_27 : am_fe 166 27 = some (12, some .boolean, .iconst 1) := by decide +kernel
theorem fe_166_28 : am_fe 166 28 = some (12, some .boolean, .ireturn) := by decide +kernel
theorem fe_166_29 : am_fe 166 29 = some (12, some .boolean, .iload_n 1) := by decide +kernel
theorem fe_166_30 : am_fe 166 30 = some (12, some .boolean, .tableswitch 96 4 7 #[30, 47, 63, 79]) := by decide +kernel
theorem fe_166_60 : am_fe 166 60 = some (12, some .boolean, .aload_n 0) := by decide +kernel
theorem fe_166_61 : am_fe 166 61 = some (12, some .boolean, .getfield 55) := by decide +kernel
theorem fe_166_64 : am_fe 166 64 = some (12, some .boolean, .iconst 1) := by decide +kernel
theorem fe_166_65 : am_fe 166 65 = some (12, some .boolean, .iaload) := by decide +kernel
theorem fe_166_66 : am_fe 166 66 = some (12, some .boolean, .bipush 6) := by decide +kernel
theorem fe_166_68 : am_fe 166 68 = some (12, some .boolean, .if_icmp .ne 7) := by decide +kernel
theorem fe_166_71 : am_fe 166 71 = some (12, some .boolean, .iconst 1) := by decide +kernel
theorem fe_166_72 : am_fe 166 72 = some (12, some .boolean, .goto 4) := by decide +kernel
theorem fe_166_75 : am_fe 166 75 = some (12, some .boolean, .iconst 0) := by decide +kernel
theorem fe_166_76 : am_fe 166 76 = some (12, some .boolean, .ireturn) := by decide +kernel
theorem fe_166_77 : am_fe 166 77 = some (12, some .boolean, .aload_n 0) := by decide +kernel
theorem fe_166_78 : am_fe 166 78 = some (12, some .boolean, .getfield 55) := by decide +kernel
theorem fe_166_81 : am_fe 166 81 = some (12, some .boolean, .iconst 2) := by decide +kernel
theorem fe_166_82 : am_fe 166 82 = some (12, some .boolean, .iaload) := by decide +kernel
theorem fe_166_83 : am_fe 166 83 = some (12, some .boolean, .iconst 4) := by decide +kernel
theorem fe_166_84 : am_fe 166 84 = some (12, some .boolean, .if_icmp .ne 7) := by decide +kernel
theorem fe_166_87 : am_fe 166 87 = some (12, some .boolean, .iconst 1) := by decide +kernel
theorem fe_166_88 : am_fe 166 88 = some (12, some .boolean, .goto 4) := by decide +kernel
theorem fe_166_91 : am_fe 166 91 = some (12, some .boolean, .iconst 0) := by decide +kernel
theorem fe_166_92 : am_fe 166 92 = some (12, some .boolean, .ireturn) := by decide +kernel
theorem fe_166_93 : am_fe 166 93 = some (12, some .boolean, .aload_n 0) := by decide +kernel
theorem fe_166_94 : am_fe 166 94 = some (12, some .boolean, .getfield 55) := by decide +kernel
theorem fe_166_97 : am_fe 166 97 = some (12, some .boolean, .iconst 3) := by decide +kernel
theorem fe_166_98 : am_fe 166 98 = some (12, some .boolean, .iaload) := by decide +kernel
theorem fe_166_99 : am_fe 166 99 = some (12, some .boolean, .iconst 5) := by decide +kernel
theorem fe_166_100 : am_fe 166 100 = some (12, some .boolean, .if_icmp .ne 7) := by decide +kernel
theorem fe_166_103 : am_fe 166 103 = some (12, some .boolean, .iconst 1) := by decide +kernel
theorem fe_166_104 : am_fe 166 104 = some (12, some .boolean, .goto 4) := by decide +kernel
theorem fe_166_107 : am_fe 166 107 = some (12, some .boolean, .iconst 0) := by decide +kernel
theorem fe_166_108 : am_fe 166 108 = some (12, some .boolean, .ireturn) := by decide +kernel
theorem fe_166_109 : am_fe 166 109 = some (12, some .boolean, .aload_n 0) := by decide +kernel
theorem fe_166_110 : am_fe 166 110 = some (12, some .boolean, .getfield 55) := by decide +kernel
theorem fe_166_113 : am_fe 166 113 = some (12, some .boolean, .iconst 4) := by decide +kernel
theorem fe_166_114 : am_fe 166 114 = some (12, some .boolean, .iaload) := by decide +kernel
theorem fe_166_115 : am_fe 166 115 = some (12, some .boolean, .bipush 10) := by decide +kernel
theorem fe_166_117 : am_fe 166 117 = some (12, some .boolean, .if_icmp .ne 7) := by decide +kernel
theorem fe_166_120 : am_fe 166 120 = some (12, some .boolean, .iconst 1) := by decide +kernel
theorem fe_166_121 : am_fe 166 121 = some (12, some .boolean, .goto 4) := by decide +kernel
theorem fe_166_124 : am_fe 166 124 = some (12, some .boolean, .iconst 0) := by decide +kernel
theorem fe_166_125 : am_fe 166 125 = some (12, some .boolean, .ireturn) := by decide +kernel
theorem fe_166_126 : am_fe 166 126 = some (12, some .boolean, .iconst 0) := by decide +kernel
theorem fe_166_127 : am_fe 166 127 = some (12, some .boolean, .ireturn) := by decide +kernel
theorem fe_167_0 : am_fe 167 0 = some (12, none, .iload_n 1) := by decide +kernel
theorem fe_167_1 : am_fe 167 1 = some (12, none, .tableswitch 238 0 6 #[43, 50, 57, 79, 109, 155, 190]) := by decide +kernel
theorem fe_167_44 : am_fe 167 44 = some (12, none, .aload_n 0) := by decide +kernel
theorem fe_167_45 : am_fe 167 45 = some (12, none, .invokevirtual 307) := by decide +kernel
theorem fe_167_48 : am_fe 167 48 = some (12, none, .goto 230) := by decide +kernel
theorem fe_167_51 : am_fe 167 51 = some (12, none, .aload_n 0) := by decide +kernel
theorem fe_167_52 : am_fe 167 52 = some (12, none, .invokevirtual 310) := by decide +kernel
theorem fe_167_55 : am_fe 167 55 = some (12, none, .goto 223) := by decide +kernel
theorem fe_167_58 : am_fe 167 58 = some (12, none, .aload_n 0) := by decide +kernel
theorem fe_167_59 : am_fe 167 59 = some (12, none, .invokevirtual 286) := by decide +kernel
theorem fe_167_62 : am_fe 167 62 = some (12, none, .istore_n 2) := by decide +kernel
theorem fe_167_63 : am_fe 167 63 = some (12, none, .aload_n 0) := by decide +kernel
theorem fe_167_64 : am_fe 167 64 = some (12, none, .getfield 185) := by decide +kernel
theorem fe_167_67 : am_fe 167 67 = some (12, none, .ifCond .ne 211) := by decide +kernel
theorem fe_167_70 : am_fe 167 70 = some (12, none, .aload_n 0) := by decide +kernel
theorem fe_167_71 : am_fe 167 71 = some (12, none, .getfield 58) := by decide +kernel
theorem fe_167_74 : am_fe 167 74 = some (12, none, .iload_n 2) := by decide +kernel
theorem fe_167_75 : am_fe 167 75 = some (12, none, .iconst (-1)) := by decide +kernel
theorem fe_167_76 : am_fe 167 76 = some (12, none, .iastore) := by decide +kernel
theorem fe_167_77 : am_fe 167 77 = some (12, none, .goto 201) := by decide +kernel
theorem fe_167_80 : am_fe 167 80 = some (12, none, .aload_n 0) := by decide +kernel
theorem fe_167_81 : am_fe 167 81 = some (12, none, .invokevirtual 286) := by decide +kernel
theorem fe_167_84 : am_fe 167 84 = some (12, none, .istore_n 2) := by decide +kernel
theorem fe_167_85 : am_fe 167 85 = some (12, none, .aload_n 0) := by decide +kernel
theorem fe_167_86 : am_fe 167 86 = some (12, none, .iconst 1) := by decide +kernel
theorem fe_167_87 : am_fe 167 87 = some (12, none, .bipush 9) := by decide +kernel
theorem fe_167_89 : am_fe 167 89 = some (12, none, .invokevirtual 282) := by decide +kernel
theorem fe_167_92 : am_fe 167 92 = some (12, none, .istore_n 3) := by decide +kernel
theorem fe_167_93 : am_fe 167 93 = some (12, none, .aload_n 0) := by decide +kernel
theorem fe_167_94 : am_fe 167 94 = some (12, none, .getfield 185) := by decide +kernel
theorem fe_167_97 : am_fe 167 97 = some (12, none, .ifCond .ne 181) := by decide +kernel
theorem fe_167_100 : am_fe 167 100 = some (12, none, .aload_n 0) := by decide +kernel
theorem fe_167_101 : am_fe 167 101 = some (12, none, .getfield 61) := by decide +kernel
theorem fe_167_104 : am_fe 167 104 = some (12, none, .iload_n 2) := by decide +kernel
theorem fe_167_105 : am_fe 167 105 = some (12, none, .iload_n 3) := by decide +kernel
theorem fe_167_106 : am_fe 167 106 = some (12, none, .iastore) := by decide +kernel
theorem fe_167_107 : am_fe 167 107 = some (12, none, .goto 171) := by decide +kernel
theorem fe_167_110 : am_fe 167 110 = some (12, none, .aload_n 0) := by decide +kernel
theorem fe_167_111 : am_fe 167 111 = some (12, none, .getfield 55) := by decide +kernel
theorem fe_167_114 : am_fe 167 114 = some (12, none, .iconst 1) := by decide +kernel
theorem fe_167_115 : am_fe 167 115 = some (12, none, .iaload) := by decide +kernel
theorem fe_167_116 : am_fe 167 116 = some (12, none, .istore_n 2) := by decide +kernel
theorem fe_167_117 : am_fe 167 117 = some (12, none, .aload_n 0) := by decide +kernel
theorem fe_167_118 : am_fe 167 118 = some (12, none, .getfield 64) := by decide +kernel
theorem fe_167_121 : am_fe 167 121 = some (12, none, .iload_n 2) := by decide +kernel
theorem fe_167_122 : am_fe 167 122 = some (12, none, .aload_n 0) := by decide +kernel
theorem fe_167_123 : am_fe 167 123 = some (12, none, .aload_n 0) := by decide +kernel
theorem fe_167_124 : am_fe 167 124 = some (12, none, .getfield 64) := by decide +kernel
theorem fe_167_127 : am_fe 167 127 = some (12, none, .iload_n 2) := by decide +kernel
theorem fe_167_128 : am_fe 167 128 = some (12, none, .invokevirtual 313) := by decide +kernel
theorem fe_167_131 : am_fe 167 131 = some (12, none, .iastore) := by decide +kernel
theorem fe_167_132 : am_fe 167 132 = some (12, none, .aload_n 0) := by decide +kernel
theorem fe_167_133 : am_fe 167 133 = some (12, none, .getfield 67) := by decide +kernel
theorem fe_167_136 : am_fe 167 136 = some (12, none, .iload_n 2) := by decide +kernel
theorem fe_167_137 : am_fe 167 137 = some (12, none, .aload_n 0) := by decide +kernel
theorem fe_167_138 : am_fe 167 138 = some (12, none, .iconst 1) := by decide +kernel
theorem fe_167_139 : am_fe 167 139 = some (12, none, .invokevirtual 317) := by decide +kernel
theorem fe_167_142 : am_fe 167 142 = some (12, none, .iastore) := by decide +kernel
theorem fe_167_143 : am_fe 167 143 = some (12, none, .aload_n 0) := by decide +kernel
theorem fe_167_144 : am_fe 167 144 = some (12, none, .getfield 55) := by decide +kernel
theorem fe_167_147 : am_fe 167 147 = some (12, none, .iconst 1) := by decide +kernel
theorem fe_167_148 : am_fe 167 148 = some (12, none, .dup2) := by decide +kernel
theorem fe_167_149 : am_fe 167 149 = some (12, none, .iaload) := by decide +kernel
theorem fe_167_150 : am_fe 167 150 = some (12, none, .iconst 1) := by decide +kernel
theorem fe_167_151 : am_fe 167 151 = some (12, none, .iadd) := by decide +kernel
theorem fe_167_152 : am_fe 167 152 = some (12, none, .iastore) := by decide +kernel
theorem fe_167_153 : am_fe 167 153 = some (12, none, .goto 125) := by decide +kernel
theorem fe_167_156 : am_fe 167 156 = some (12, none, .aload_n 0) := by decide +kernel
theorem fe_167_157 : am_fe 167 157 = some (12, none, .getfield 55) := by decide +kernel
theorem fe_167_160 : am_fe 167 160 = some (12, none, .iconst 2) := by decide +kernel
theorem fe_167_161 : am_fe 167 161 = some (12, none, .iaload) := by decide +kernel
theorem fe_167_162 : am_fe 167 162 = some (12, none, .istore_n 2) := by decide +kernel
theorem fe_167_163 : am_fe 167 163 = some (12, none, .aload_n 0) := by decide +kernel
theorem fe_167_164 : am_fe 167 164 = some (12, none, .getfield 70) := by decide +kernel
theorem fe_167_167 : am_fe 167 167 = some (12, none, .iload_n 2) := by decide +kernel
theorem fe_167_168 : am_fe 167 168 = some (12, none, .aload_n 0) := by decide +kernel
theorem fe_167_169 : am_fe 167 169 = some (12, none, .aload_n 0) := by decide +kernel
theorem fe_167_170 : am_fe 167 170 = some (12, none, .getfield 70) := by decide +kernel
theorem fe_167_173 : am_fe 167 173 = some (12, none, .iload_n 2) := by decide +kernel
theorem fe_167_174 : am_fe 167 174 = some (12, none, .invokevirtual 313) := by decide +kernel
theorem fe_167_177 : am_fe 167 177 = some (12, none, .iastore) := by decide +kernel
theorem fe_167_178 : am_fe 167 178 = some (12, none, .aload_n 0) := by decide +kernel
theorem fe_167_179 : am_fe 167 179 = some (12, none, .getfield 55) := by decide +kernel
theorem fe_167_182 : am_fe 167 182 = some (12, none, .iconst 2) := by decide +kernel
theorem fe_167_183 : am_fe 167 183 = some (12, none, .dup2) := by decide +kernel
theorem fe_167_184 : am_fe 167 184 = some (12, none, .iaload) := by decide +kernel
theorem fe_167_185 : am_fe 167 185 = some (12, none, .iconst 1) := by decide +kernel
theorem fe_167_186 : am_fe 167 186 = some (12, none, .iadd) := by decide +kernel
theorem fe_167_187 : am_fe 167 187 = some (12, none, .iastore) := by decide +kernel
theorem fe_167_188 : am_fe 167 188 = some (12, none, .goto 90) := by decide +kernel
theorem fe_167_191 : am_fe 167 191 = some (12, none, .aload_n 0) := by decide +kernel
theorem fe_167_192 : am_fe 167 192 = some (12, none, .getfield 55) := by decide +kernel
theorem fe_167_195 : am_fe 167 195 = some (12, none, .iconst 3) := by decide +kernel
theorem fe_167_196 : am_fe 167 196 = some (12, none, .iaload) := by decide +kernel
theorem fe_167_197 : am_fe 167 197 = some (12, none, .istore_n 2) := by decide +kernel
theorem fe_167_198 : am_fe 167 198 = some (12, none, .aload_n 0) := by decide +kernel
theorem fe_167_199 : am_fe 167 199 = some (12, none, .getfield 73) := by decide +kernel
theorem fe_167_202 : am_fe 167 202 = some (12, none, .iload_n 2) := by decide +kernel
theorem fe_167_203 : am_fe 167 203 = some (12, none, .aload_n 0) := by decide +kernel
theorem fe_167_204 : am_fe 167 204 = some (12, none, .aload_n 0) := by decide +kernel
theorem fe_167_205 : am_fe 167 205 = some (12, none, .getfield 73) := by decide +kernel
theorem fe_167_208 : am_fe 167 208 = some (12, none, .iload_n 2) := by decide +kernel
theorem fe_167_209 : am_fe 167 209 = some (12, none, .invokevirtual 313) := by decide +kernel
theorem fe_167_212 : am_fe 167 212 = some (12, none, .iastore) := by decide +kernel
theorem fe_167_213 : am_fe 167 213 = some (12, none, .aload_n 0) := by decide +kernel
theorem fe_167_214 : am_fe 167 214 = some (12, none, .getfield 76) := by decide +kernel
theorem fe_167_217 : am_fe 167 217 = some (12, none, .iload_n 2) := by decide +kernel
theorem fe_167_218 : am_fe 167 218 = some (12, none, .aload_n 0) := by decide +kernel
theorem fe_167_219 : am_fe 167 219 = some (12, none, .iconst 1) := by decide +kernel
theorem fe_167_220 : am_fe 167 220 = some (12, none, .bipush 8) := by decide +kernel
theorem fe_167_222 : am_fe 167 222 = some (12, none, .invokevirtual 282) := by decide +kernel
theorem fe_167_225 : am_fe 167 225 = some (12, none, .iastore) := by decide +kernel
theorem fe_167_226 : am_fe 167 226 = some (12, none, .aload_n 0) := by decide +kernel
theorem fe_167_227 : am_fe 167 227 = some (12, none, .getfield 55) := by decide +kernel
theorem fe_167_230 : am_fe 167 230 = some (12, none, .iconst 3) := by decide +kernel
theorem fe_167_231 : am_fe 167 231 = some (12, none, .dup2) := by decide +kernel
theorem fe_167_232 : am_fe 167 232 = some (12, none, .iaload) := by decide +kernel
theorem fe_167_233 : am_fe 167 233 = some (12, none, .iconst 1) := by decide +kernel
theorem fe_167_234 : am_fe 167 234 = some (12, none, .iadd) := by decide +kernel
theorem fe_167_235 : am_fe 167 235 = some (12, none, .iastore) := by decide +kernel
theorem fe_167_236 : am_fe 167 236 = some (12, none, .goto 42) := by decide +kernel
theorem fe_167_239 : am_fe 167 239 = some (12, none, .aload_n 0) := by decide +kernel
theorem fe_167_240 : am_fe 167 240 = some (12, none, .getfield 55) := by decide +kernel
theorem fe_167_243 : am_fe 167 243 = some (12, none, .iconst 4) := by decide +kernel
theorem fe_167_244 : am_fe 167 244 = some (12, none, .iaload) := by decide +kernel
theorem fe_167_245 : am_fe 167 245 = some (12, none, .istore_n 2) := by decide +kernel
theorem fe_167_246 : am_fe 167 246 = some (12, none, .aload_n 0) := by decide +kernel
theorem fe_167_247 : am_fe 167 247 = some (12, none, .getfield 79) := by decide +kernel
theorem fe_167_250 : am_fe 167 250 = some (12, none, .iload_n 2) := by decide +kernel
theorem fe_167_251 : am_fe 167 251 = some (12, none, .aload_n 0) := by decide +kernel
theorem fe_167_252 : am_fe 167 252 = some (12, none, .invokevirtual 286) := by decide +kernel
theorem fe_167_255 : am_fe 167 255 = some (12, none, .iastore) := by decide +kernel
theorem fe_167_256 : am_fe 167 256 = some (12, none, .aload_n 0) := by decide +kernel
theorem fe_167_257 : am_fe 167 257 = some (12, none, .getfield 82) := by decide +kernel
theorem fe_167_260 : am_fe 167 260 = some (12, none, .iload_n 2) := by decide +kernel
theorem fe_167_261 : am_fe 167 261 = some (12, none, .aload_n 0) := by decide +kernel
theorem fe_167_262 : am_fe 167 262 = some (12, none, .bipush 8) := by decide +kernel
theorem fe_167_264 : am_fe 167 264 = some (12, none, .invokevirtual 317) := by decide +kernel
theorem fe_167_267 : am_fe 167 267 = some (12, none, .iastore) := by decide +kernel
theorem fe_167_268 : am_fe 167 268 = some (12, none, .aload_n 0) := by decide +kernel
theorem fe_167_269 : am_fe 167 269 = some (12, none, .getfield 55) := by decide +kernel
theorem fe_167_272 : am_fe 167 272 = some (12, none, .iconst 4) := by decide +kernel
theorem fe_167_273 : am_fe 167 273 = some (12, none, .dup2) := by decide +kernel
theorem fe_167_274 : am_fe 167 274 = some (12, none, .iaload) := by decide +kernel
theorem fe_167_275 : am_fe 167 275 = some (12, none, .iconst 1) := by decide +kernel
theorem fe_167_276 : am_fe 167 276 = some (12, none, .iadd) := by decide +kernel
theorem fe_167_277 : am_fe 167 277 = some (12, none, .iastore) := by decide +kernel
theorem fe_167_278 : am_fe 167 278 = some (12, none, .return_) := by decide +kernel
theorem fe_168_0 : am_fe 168 0 = some (12, none, .aload_n 0) := by decide +kernel
theorem fe_168_1 : am_fe 168 1 = some (12, none, .iconst 2) := by decide +kernel
theorem fe_168_2 : am_fe 168 2 = some (12, none, .bipush 16) := by decide +kernel
theorem fe_168_4 : am_fe 168 4 = some (12, none, .invokevirtual 282) := by decide +kernel
theorem fe_168_7 : am_fe 168 7 = some (12, none, .istore_n 1) := by decide +kernel
theorem fe_168_8 : am_fe 168 8 = some (12, none, .aload_n 0) := by decide +kernel
theorem fe_168_9 : am_fe 168 9 = some (12, none, .getfield 55) := by decide +kernel
theorem fe_168_12 : am_fe 168 12 = some (12, none, .iconst 0) := by decide +kernel
theorem fe_168_13 : am_fe 168 13 = some (12, none, .aload_n 0) := by decide +kernel
theorem fe_168_14 : am_fe 168 14 = some (12, none, .getfield 185) := by decide +kernel
theorem fe_168_17 : am_fe 168 17 = some (12, none, .ifCond .ne 7) := by decide +kernel
theorem fe_168_20 : am_fe 168 20 = some (12, none, .iload_n 1) := by decide +kernel
theorem fe_168_21 : am_fe 168 21 = some (12, none, .goto 4) := by decide +kernel
theorem fe_168_24 : am_fe 168 24 = some (12, none, .iconst 0) := by decide +kernel
theorem fe_168_25 : am_fe 168 25 = some (12, none, .iastore) := by decide +kernel
theorem fe_168_26 : am_fe 168 26 = some (12, none, .iconst 0) := by decide +kernel
theorem fe_168_27 : am_fe 168 27 = some (12, none, .istore_n 2) := by decide +kernel
theorem fe_168_28 : am_fe 168 28 = some (12, none, .iload_n 2) := by decide +kernel
theorem fe_168_29 : am_fe 168 29 = some (12, none, .aload_n 0) := by decide +kernel
theorem fe_168_30 : am_fe 168 30 = some (12, none, .getfield 55) := by decide +kernel
theorem fe_168_33 : am_fe 168 33 = some (12, none, .iconst 0) := by decide +kernel
theorem fe_168_34 : am_fe 168 34 = some (12, none, .iaload) := by decide +kernel
theorem fe_168_35 : am_fe 168 35 = some (12, none, .if_icmp .ge 36) := by decide +kernel
theorem fe_168_38 : am_fe 168 38 = some (12, none, .aload_n 0) := by decide +kernel
theorem fe_168_39 : am_fe 168 39 = some (12, none, .getfield 58) := by decide +kernel
theorem fe_168_42 : am_fe 168 42 = some (12, none, .iload_n 2) := by decide +kernel
theorem fe_168_43 : am_fe 168 43 = some (12, none, .iload_n 2) := by decide +kernel
theorem fe_168_44 : am_fe 168 44 = some (12, none, .iconst 1) := by decide +kernel
theorem fe_168_45 : am_fe 168 45 = some (12, none, .iadd) := by decide +kernel
theorem fe_168_46 : am_fe 168 46 = some (12, none, .iload_n 1) := by decide +kernel
theorem fe_168_47 : am_fe 168 47 = some (12, none, .if_icmp .ge 9) := by decide +kernel
theorem fe_168_50 : am_fe 168 50 = some (12, none, .iload_n 2) := by decide +kernel
theorem fe_168_51 : am_fe 168 51 = some (12, none, .iconst 1) := by decide +kernel
theorem fe_168_52 : am_fe 168 52 = some (12, none, .iadd) := by decide +kernel
theorem fe_168_53 : am_fe 168 53 = some (12, none, .goto 4) := by decide +kernel
theorem fe_168_56 : am_fe 168 56 = some (12, none, .iconst (-1)) := by decide +kernel
theorem fe_168_57 : am_fe 168 57 = some (12, none, .iastore) := by decide +kernel
theorem fe_168_58 : am_fe 168 58 = some (12, none, .aload_n 0) := by decide +kernel
theorem fe_168_59 : am_fe 168 59 = some (12, none, .getfield 61) := by decide +kernel
theorem fe_168_62 : am_fe 168 62 = some (12, none, .iload_n 2) := by decide +kernel
theorem fe_168_63 : am_fe 168 63 = some (12, none, .iconst 0) := by decide +kernel
theorem fe_168_64 : am_fe 168 64 = some (12, none, .iastore) := by decide +kernel
theorem fe_168_65 : am_fe 168 65 = some (12, none, .iinc 2 1) := by decide +kernel
theorem fe_168_68 : am_fe 168 68 = some (12, none, .goto (-40)) := by decide +kernel
theorem fe_168_71 : am_fe 168 71 = some (12, none, .return_) := by decide +kernel
theorem fe_169_0 : am_fe 169 0 = some (12, some .int, .aload_n 0) := by decide +kernel
theorem fe_169_1 : am_fe 169 1 = some (12, some .int, .invokevirtual 208) := by decide +kernel
theorem fe_169_4 : am_fe 169 4 = some (12, some .int, .aload_n 0) := by decide +kernel
theorem fe_169_5 : am_fe 169 5 = some (12, some .int, .getfield 188) := by decide +kernel
theorem fe_169_8 : am_fe 169 8 = some (12, some .int, .istore_n 3) := by decide +kernel
theorem fe_169_9 : am_fe 169 9 = some (12, some .int, .aload_n 0) := by decide +kernel
theorem fe_169_10 : am_fe 169 10 = some (12, some .int, .getfield 185) := by decide +kernel
theorem fe_169_13 : am_fe 169 13 = some (12, some .int, .ifCond .ne 12) := by decide +kernel
theorem fe_169_16 : am_fe 169 16 = some (12, some .int, .aload_n 0) := by decide +kernel
theorem fe_169_17 : am_fe 169 17 = some (12, some .int, .ldc 232) := by decide +kernel
theorem fe_169_19 : am_fe 169 19 = some (12, some .int, .invokevirtual 233) := by decide +kernel
theorem fe_169_22 : am_fe 169 22 = some (12, some .int, .goto 4) := by decide +kernel
theorem fe_169_25 : am_fe 169 25 = some (12, some .int, .iconst 0) := by decide +kernel
theorem fe_169_26 : am_fe 169 26 = some (12, some .int, .istore 4) := by decide +kernel
theorem fe_169_28 : am_fe 169 28 = some (12, some .int, .aload_n 0) := by decide +kernel
theorem fe_169_29 : am_fe 169 29 = some (12, some .int, .getfield 185) := by decide +kernel
theorem fe_169_32 : am_fe 169 32 = some (12, some .int, .ifCond .ne 22) := by decide +kernel
theorem fe_169_35 : am_fe 169 35 = some (12, some .int, .iload 4) := by decide +kernel
theorem fe_169_37 : am_fe 169 37 = some (12, some .int, .i2l) := by decide +kernel
theorem fe_169_38 : am_fe 169 38 = some (12, some .int, .iload_n 1) := by decide +kernel
theorem fe_169_39 : am_fe 169 39 = some (12, some .int, .i2l) := by decide +kernel
theorem fe_169_40 : am_fe 169 40 = some (12, some .int, .iload_n 2) := by decide +kernel
theorem fe_169_41 : am_fe 169 41 = some (12, some .int, .i2l) := by decide +kernel
theorem fe_169_42 : am_fe 169 42 = some (12, some .int, .invokestatic 143) := by decide +kernel
theorem fe_169_45 : am_fe 169 45 = some (12, some .int, .ifCond .ne 9) := by decide +kernel
theorem fe_169_48 : am_fe 169 48 = some (12, some .int, .aload_n 0) := by decide +kernel
theorem fe_169_49 : am_fe 169 49 = some (12, some .int, .iconst 1) := by decide +kernel
theorem fe_169_50 : am_fe 169 50 = some (12, some .int, .iload_n 3) := by decide +kernel
theorem fe_169_51 : am_fe 169 51 = some (12, some .int, .invokevirtual 224) := by decide +kernel
theorem fe_169_54 : am_fe 169 54 = some (12, some .int, .iload 4) := by decide +kernel
theorem fe_169_56 : am_fe 169 56 = some (12, some .int, .ireturn) := by decide +kernel
theorem fe_170_0 : am_fe 170 0 = some (12, some .int, .aload_n 0) := by decide +kernel
theorem fe_170_1 : am_fe 170 1 = some (12, some .int, .invokevirtual 228) := by decide +kernel
theorem fe_170_4 : am_fe 170 4 = some (12, some .int, .ifCond .ne 14) := by decide +kernel
theorem fe_170_7 : am_fe 170 7 = some (12, some .int, .aload_n 0) := by decide +kernel
theorem fe_170_8 : am_fe 170 8 = some (12, some .int, .iconst 0) := by decide +kernel
theorem fe_170_9 : am_fe 170 9 = some (12, some .int, .aload_n 0) := by decide +kernel
theorem fe_170_10 : am_fe 170 10 = some (12, some .int, .getfield 188) := by decide +kernel
theorem fe_170_13 : am_fe 170 13 = some (12, some .int, .invokevirtual 224) := by decide +kernel
theorem fe_170_16 : am_fe 170 16 = some (12, some .int, .iconst 0) := by decide +kernel
theorem fe_170_17 : am_fe 170 17 = some (12, some .int, .ireturn) := by decide +kernel
theorem fe_170_18 : am_fe 170 18 = some (12, some .int, .aload_n 0) := by decide +kernel
theorem fe_170_19 : am_fe 170 19 = some (12, some .int, .getfield 188) := by decide +kernel
theorem fe_170_22 : am_fe 170 22 = some (12, some .int, .istore_n 2) := by decide +kernel
theorem fe_170_23 : am_fe 170 23 = some (12, some .int, .iconst 0) := by decide +kernel
theorem fe_170_24 : am_fe 170 24 = some (12, some .int, .istore_n 3) := by decide +kernel
theorem fe_170_25 : am_fe 170 25 = some (12, some .int, .aload_n 0) := by decide +kernel
theorem fe_170_26 : am_fe 170 26 = some (12, some .int, .invokevirtual 228) := by decide +kernel
theorem fe_170_29 : am_fe 170 29 = some (12, some .int, .ifCond .eq 43) := by decide +kernel
theorem fe_170_32 : am_fe 170 32 = some (12, some .int, .aload_n 0) := by decide +kernel
theorem fe_170_33 : am_fe 170 33 = some (12, some .int, .getfield 188) := by decide +kernel
theorem fe_170_36 : am_fe 170 36 = some (12, some .int, .iload_n 2) := by decide +kernel
theorem fe_170_37 : am_fe 170 37 = some (12, some .int, .isub) := by decide +kernel
theorem fe_170_38 : am_fe 170 38 = some (12, some .int, .iconst 5) := by decide +kernel
theorem fe_170_39 : am_fe 170 39 = some (12, some .int, .if_icmp .ge 18) := by decide +kernel
theorem fe_170_42 : am_fe 170 42 = some (12, some .int, .bipush 10) := by decide +kernel
theorem fe_170_44 : am_fe 170 44 = some (12, some .int, .iload_n 3) := by decide +kernel
theorem fe_170_45 : am_fe 170 45 = some (12, some .int, .imul) := by decide +kernel
theorem fe_170_46 : am_fe 170 46 = some (12, some .int, .aload_n 0) := by decide +kernel
theorem fe_170_47 : am_fe 170 47 = some (12, some .int, .invokevirtual 191) := by decide +kernel
theorem fe_170_50 : am_fe 170 50 = some (12, some .int, .iadd) := by decide +kernel
theorem fe_170_51 : am_fe 170 51 = some (12, some .int, .bipush 48) := by decide +kernel
theorem fe_170_53 : am_fe 170 53 = some (12, some .int, .isub) := by decide +kernel
theorem fe_170_54 : am_fe 170 54 = some (12, some .int, .goto 4) := by decide +kernel
theorem fe_170_57 : am_fe 170 57 = some (12, some .int, .iload_n 3) := by decide +kernel
theorem fe_170_58 : am_fe 170 58 = some (12, some .int, .istore_n 3) := by decide +kernel
theorem fe_170_59 : am_fe 170 59 = some (12, some .int, .aload_n 0) := by decide +kernel
theorem fe_170_60 : am_fe 170 60 = some (12, some .int, .dup) := by decide +kernel
theorem fe_170_61 : am_fe 170 61 = some (12, some .int, .getfield 188) := by decide +kernel
theorem fe_170_64 : am_fe 170 64 = some (12, some .int, .iconst 1) := by decide +kernel
theorem fe_170_65 : am_fe 170 65 = some (12, some .int, .iadd) := by decide +kernel
theorem fe_170_66 : am_fe 170 66 = some (12, some .int, .putfield 188) := by decide +kernel
theorem fe_170_69 : am_fe 170 69 = some (12, some .int, .goto (-44)) := by decide +kernel
theorem fe_170_72 : am_fe 170 72 = some (12, some .int, .aload_n 0) := by decide +kernel
theorem fe_170_73 : am_fe 170 73 = some (12, some .int, .getfield 188) := by decide +kernel
theorem fe_170_76 : am_fe 170 76 = some (12, some .int, .iload_n 2) := by decide +kernel
theorem fe_170_77 : am_fe 170 77 = some (12, some .int, .isub) := by decide +kernel
theorem fe_170_78 : am_fe 170 78 = some (12, some .int, .iconst 5) := by decide +kernel
theorem fe_170_79 : am_fe 170 79 = some (12, some .int, .if_icmp .gt 8) := by decide +kernel
theorem fe_170_82 : am_fe 170 82 = some (12, some .int, .iload_n 3) := by decide +kernel
theorem fe_170_83 : am_fe 170 83 = some (12, some .int, .iload_n 1) := by decide +kernel
theorem fe_170_84 : am_fe 170 84 = some (12, some .int, .if_icmp .le 9) := by decide +kernel
theorem fe_170_87 : am_fe 170 87 = some (12, some .int, .aload_n 0) := by decide +kernel
theorem fe_170_88 : am_fe 170 88 = some (12, some .int, .iconst 1) := by decide +kernel
theorem fe_170_89 : am_fe 170 89 = some (12, some .int, .iload_n 2) := by decide +kernel
theorem fe_170_90 : am_fe 170 90 = some (12, some .int, .invokevirtual 224) := by decide +kernel
theorem fe_170_93 : am_fe 170 93 = some (12, some .int, .iload_n 3) := by decide +kernel
theorem fe_170_94 : am_fe 170 94 = some (12, some .int, .ireturn) := by decide +kernel
theorem fe_171_0 : am_fe 171 0 = some (12, some .boolean, .aload_n 0) := by decide +kernel
theorem fe_171_1 : am_fe 171 1 = some (12, some .boolean, .invokevirtual 191) := by decide +kernel
theorem fe_171_4 : am_fe 171 4 = some (12, some .boolean, .i2l) := by decide +kernel
theorem fe_171_5 : am_fe 171 5 = some (12, some .boolean, .ldc2_w 195) := by decide +kernel
theorem fe_171_8 : am_fe 171 8 = some (12, some .boolean, .ldc2_w 197) := by decide +kernel
theorem fe_171_11 : am_fe 171 11 = some (12, some .boolean, .invokestatic 143) := by decide +kernel
theorem fe_171_14 : am_fe 171 14 = some (12, some .boolean, .ireturn) := by decide +kernel
theorem fe_172_0 : am_fe 172 0 = some (12, some .boolean, .lload_n 0) := by decide +kernel
theorem fe_172_1 : am_fe 172 1 = some (12, some .boolean, .lload_n 2) := by decide +kernel
theorem fe_172_2 : am_fe 172 2 = some (12, some .boolean, .lcmp) := by decide +kernel
theorem fe_172_3 : am_fe 172 3 = some (12, some .boolean, .ifCond .lt 14) := by decide +kernel
theorem fe_172_6 : am_fe 172 6 = some (12, some .boolean, .lload_n 0) := by decide +kernel
theorem fe_172_7 : am_fe 172 7 = some (12, some .boolean, .lload 4) := by decide +kernel
theorem fe_172_9 : am_fe 172 9 = some (12, some .boolean, .lcmp) := by decide +kernel
theorem fe_172_10 : am_fe 172 10 = some (12, some .boolean, .ifCond .gt 7) := by decide +kernel
theorem fe_172_13 : am_fe 172 13 = some (12, some .boolean, .iconst 1) := by decide +kernel
theorem fe_172_14 : am_fe 172 14 = some (12, some .boolean, .goto 4) := by decide +kernel
theorem fe_172_17 : am_fe 172 17 = some (12, some .boolean, .iconst 0) := by decide +kernel
theorem fe_172_18 : am_fe 172 18 = some (12, some .boolean, .ireturn) := by decide +kernel
theorem fe_173_0 : am_fe 173 0 = some (12, none, .aload_n 0) := by decide +kernel
theorem fe_173_1 : am_fe 173 1 = some (12, none, .invokevirtual 286) := by decide +kernel
theorem fe_173_4 : am_fe 173 4 = some (12, none, .istore_n 1) := by decide +kernel
theorem fe_173_5 : am_fe 173 5 = some (12, none, .aload_n 0) := by decide +kernel
theorem fe_173_6 : am_fe 173 6 = some (12, none, .invokevirtual 208) := by decide +kernel
theorem fe_173_9 : am_fe 173 9 = some (12, none, .aload_n 0) := by decide +kernel
theorem fe_173_10 : am_fe 173 10 = some (12, none, .getfield 188) := by decide +kernel
theorem fe_173_13 : am_fe 173 13 = some (12, none, .istore_n 2) := by decide +kernel
theorem fe_173_14 : am_fe 173 14 = some (12, none, .aload_n 0) := by decide +kernel
theorem fe_173_15 : am_fe 173 15 = some (12, none, .invokevirtual 286) := by decide +kernel
theorem fe_173_18 : am_fe 173 18 = some (12, none, .istore_n 3) := by decide +kernel
theorem fe_173_19 : am_fe 173 19 = some (12, none, .aload_n 0) := by decide +kernel
theorem fe_173_20 : am_fe 173 20 = some (12, none, .getfield 185) := by decide +kernel
theorem fe_173_23 : am_fe 173 23 = some (12, none, .ifCond .ne 14) := by decide +kernel
theorem fe_173_26 : am_fe 173 26 = some (12, none, .iload_n 3) := by decide +kernel
theorem fe_173_27 : am_fe 173 27 = some (12, none, .iload_n 1) := by decide +kernel
theorem fe_173_28 : am_fe 173 28 = some (12, none, .if_icmp .ne 9) := by decide +kernel
theorem fe_173_31 : am_fe 173 31 = some (12, none, .aload_n 0) := by decide +kernel
theorem fe_173_32 : am_fe 173 32 = some (12, none, .iconst 1) := by decide +kernel
theorem fe_173_33 : am_fe 173 33 = some (12, none, .iload_n 2) := by decide +kernel
theorem fe_173_34 : am_fe 173 34 = some (12, none, .invokevirtual 224) := by decide +kernel
theorem fe_173_37 : am_fe 173 37 = some (12, none, .aload_n 0) := by decide +kernel
theorem fe_173_38 : am_fe 173 38 = some (12, none, .getfield 185) := by decide +kernel
theorem fe_173_41 : am_fe 173 41 = some (12, none, .ifCond .ne 10) := by decide +kernel
theorem fe_173_44 : am_fe 173 44 = some (12, none, .aload_n 0) := by decide +kernel
theorem fe_173_45 : am_fe 173 45 = some (12, none, .getfield 58) := by decide +kernel
theorem fe_173_48 : am_fe 173 48 = some (12, none, .iload_n 1) := by decide +kernel
theorem fe_173_49 : am_fe 173 49 = some (12, none, .iload_n 3) := by decide +kernel
theorem fe_173_50 : am_fe 173 50 = some (12, none, .iastore) := by decide +kernel
theorem fe_173_51 : am_fe 173 51 = some (12, none, .return_) := by decide +kernel
theorem fe_174_0 : am_fe 174 0 = some (12, some .int, .aload_n 0) := by decide +kernel
theorem fe_174_1 : am_fe 174 1 = some (12, some .int, .iconst 0) := by decide +kernel
theorem fe_174_2 : am_fe 174 2 = some (12, some .int, .aload_n 0) := by decide +kernel
theorem fe_174_3 : am_fe 174 3 = some (12, some .int, .getfield 55) := by decide +kernel
theorem fe_174_6 : am_fe 174 6 = some (12, some .int, .iconst 0) := by decide +kernel
theorem fe_174_7 : am_fe 174 7 = some (12, some .int, .iaload) := by decide +kernel
theorem fe_174_8 : am_fe 174 8 = some (12, some .int, .iconst 1) := by decide +kernel
theorem fe_174_9 : am_fe 174 9 = some (12, some .int, .isub) := by decide +kernel
theorem fe_174_10 : am_fe 174 10 = some (12, some .int, .invokevirtual 282) := by decide +kernel
theorem fe_174_13 : am_fe 174 13 = some (12, some .int, .ireturn) := by decide +kernel
theorem fe_175_0 : am_fe 175 0 = some (12, some .int, .aload_n 0) := by decide +kernel
theorem fe_175_1 : am_fe 175 1 = some (12, some .int, .invokevirtual 208) := by decide +kernel
theorem fe_175_4 : am_fe 175 4 = some (12, some .int, .aload_n 0) := by decide +kernel
theorem fe_175_5 : am_fe 175 5 = some (12, some .int, .getfield 188) := by decide +kernel
theorem fe_175_8 : am_fe 175 8 = some (12, some .int, .istore_n 3) := by decide +kernel
theorem fe_175_9 : am_fe 175 9 = some (12, some .int, .aload_n 0) := by decide +kernel
theorem fe_175_10 : am_fe 175 10 = some (12, some .int, .invokevirtual 286) := by decide +kernel
theorem fe_175_13 : am_fe 175 13 = some (12, some .int, .istore 4) := by decide +kernel
theorem fe_175_15 : am_fe 175 15 = some (12, some .int, .aload_n 0) := by decide +kernel
theorem fe_175_16 : am_fe 175 16 = some (12, some .int, .getfield 185) := by decide +kernel
theorem fe_175_19 : am_fe 175 19 = some (12, some .int, .ifCond .ne 20) := by decide +kernel
theorem fe_175_22 : am_fe 175 22 = some (12, some .int, .aload_n 1) := by decide +kernel
theorem fe_175_23 : am_fe 175 23 = some (12, some .int, .iload_n 2) := by decide +kernel
theorem fe_175_24 : am_fe 175 24 = some (12, some .int, .iload 4) := by decide +kernel
theorem fe_175_26 : am_fe 175 26 = some (12, some .int, .invokestatic 147) := by decide +kernel
theorem fe_175_29 : am_fe 175 29 = some (12, some .int, .iconst (-1)) := by decide +kernel
theorem fe_175_30 : am_fe 175 30 = some (12, some .int, .if_icmp .eq 9) := by decide +kernel
theorem fe_175_33 : am_fe 175 33 = some (12, some .int, .aload_n 0) := by decide +kernel
theorem fe_175_34 : am_fe 175 34 = some (12, some .int, .iconst 1) := by decide +kernel
theorem fe_175_35 : am_fe 175 35 = some (12, some .int, .iload_n 3) := by decide +kernel
theorem fe_175_36 : am_fe 175 36 = some (12, some .int, .invokevirtual 224) := by decide +kernel
theorem fe_175_39 : am_fe 175 39 = some (12, some .int, .iload 4) := by decide +kernel
theorem fe_175_41 : am_fe 175 41 = some (12, some .int, .ireturn) := by decide +kernel
theorem fe_176_0 : am_fe 176 0 = some (12, some .int, .iconst 0) := by decide +kernel
theorem fe_176_1 : am_fe 176 1 = some (12, some .int, .istore_n 3) := by decide +kernel
theorem fe_176_2 : am_fe 176 2 = some (12, some .int, .iload_n 3) := by decide +kernel
theorem fe_176_3 : am_fe 176 3 = some (12, some .int, .iload_n 1) := by decide +kernel
theorem fe_176_4 : am_fe 176 4 = some (12, some .int, .if_icmp .ge 18) := by decide +kernel
theorem fe_176_7 : am_fe 176 7 = some (12, some .int, .aload_n 0) := by decide +kernel
theorem fe_176_8 : am_fe 176 8 = some (12, some .int, .iload_n 3) := by decide +kernel
theorem fe_176_9 : am_fe 176 9 = some (12, some .int, .iaload) := by decide +kernel
theorem fe_176_10 : am_fe 176 10 = some (12, some .int, .iload_n 2) := by decide +kernel
theorem fe_176_11 : am_fe 176 11 = some (12, some .int, .if_icmp .ne 5) := by decide +kernel
theorem fe_176_14 : am_fe 176 14 = some (12, some .int, .iload_n 3) := by decide +kernel
theorem fe_176_15 : am_fe 176 15 = some (12, some .int, .ireturn) := by decide +kernel
theorem fe_176_16 : am_fe 176 16 = some (12, some .int, .iinc 3 1) := by decide +kernel
theorem fe_176_19 : am_fe 176 19 = some (12, some .int, .goto (-17)) := by decide +kernel
theorem fe_176_22 : am_fe 176 22 = some (12, some .int, .iconst (-1)) := by decide +kernel
theorem fe_176_23 : am_fe 176 23 = some (12, some .int, .ireturn) := by decide +kernel
theorem fe_177_0 : am_fe 177 0 = some (12, some .int, .aload_n 0) := by decide +kernel
theorem fe_177_1 : am_fe 177 1 = some (12, some .int, .invokevirtual 208) := by decide +kernel
theorem fe_177_4 : am_fe 177 4 = some (12, some .int, .iconst 0) := by decide +kernel
theorem fe_177_5 : am_fe 177 5 = some (12, some .int, .istore_n 2) := by decide +kernel
theorem fe_177_6 : am_fe 177 6 = some (12, some .int, .iconst 0) := by decide +kernel
theorem fe_177_7 : am_fe 177 7 = some (12, some .int, .istore_n 3) := by decide +kernel
theorem fe_177_8 : am_fe 177 8 = some (12, some .int, .aload_n 0) := by decide +kernel
theorem fe_177_9 : am_fe 177 9 = some (12, some .int, .getfield 185) := by decide +kernel
theorem fe_177_12 : am_fe 177 12 = some (12, some .int, .ifCond .ne 29) := by decide +kernel
theorem fe_177_15 : am_fe 177 15 = some (12, some .int, .aload_n 0) := by decide +kernel
theorem fe_177_16 : am_fe 177 16 = some (12, some .int, .invokevirtual 191) := by decide +kernel
theorem fe_177_19 : am_fe 177 19 = some (12, some .int, .i2l) := by decide +kernel
theorem fe_177_20 : am_fe 177 20 = some (12, some .int, .ldc2_w 289) := by decide +kernel
theorem fe_177_23 : am_fe 177 23 = some (12, some .int, .ldc2_w 291) := by decide +kernel
theorem fe_177_26 : am_fe 177 26 = some (12, some .int, .invokestatic 143) := by decide +kernel
theorem fe_177_29 : am_fe 177 29 = some (12, some .int, .ifCond .ne 12) := by decide +kernel
theorem fe_177_32 : am_fe 177 32 = some (12, some .int, .aload_n 0) := by decide +kernel
theorem fe_177_33 : am_fe 177 33 = some (12, some .int, .iconst 0) := by decide +kernel
theorem fe_177_34 : am_fe 177 34 = some (12, some .int, .aload_n 0) := by decide +kernel
theorem fe_177_35 : am_fe 177 35 = some (12, some .int, .getfield 188) := by decide +kernel
theorem fe_177_38 : am_fe 177 38 = some (12, some .int, .invokevirtual 224) := by decide +kernel
theorem fe_177_41 : am_fe 177 41 = some (12, some .int, .aload_n 0) := by decide +kernel
theorem fe_177_42 : am_fe 177 42 = some (12, some .int, .getfield 185) := by decide +kernel
theorem fe_177_45 : am_fe 177 45 = some (12, some .int, .ifCond .ne 77) := by decide +kernel
theorem fe_177_48 : am_fe 177 48 = some (12, some .int, .aload_n 0) := by decide +kernel
theorem fe_177_49 : am_fe 177 49 = some (12, some .int, .invokevirtual 191) := by decide +kernel
theorem fe_177_52 : am_fe 177 52 = some (12, some .int, .i2l) := by decide +kernel
theorem fe_177_53 : am_fe 177 53 = some (12, some .int, .ldc2_w 289) := by decide +kernel
theorem fe_177_56 : am_fe 177 56 = some (12, some .int, .ldc2_w 291) := by decide +kernel
theorem fe_177_59 : am_fe 177 59 = some (12, some .int, .invokestatic 143) := by decide +kernel
theorem fe_177_62 : am_fe 177 62 = some (12, some .int, .ifCond .eq 60) := by decide +kernel
theorem fe_177_65 : am_fe 177 65 = some (12, some .int, .aload_n 0) := by decide +kernel
theorem fe_177_66 : am_fe 177 66 = some (12, some .int, .invokevirtual 191) := by decide +kernel
theorem fe_177_69 : am_fe 177 69 = some (12, some .int, .bipush 102) := by decide +kernel
theorem fe_177_71 : am_fe 177 71 = some (12, some .int, .if_icmp .gt 8) := by decide +kernel
theorem fe_177_74 : am_fe 177 74 = some (12, some .int, .iload_n 3) := by decide +kernel
theorem fe_177_75 : am_fe 177 75 = some (12, some .int, .iload_n 1) := by decide +kernel
theorem fe_177_76 : am_fe 177 76 = some (12, some .int, .if_icmp .ne 15) := by decide +kernel
theorem fe_177_79 : am_fe 177 79 = some (12, some .int, .aload_n 0) := by decide +kernel
theorem fe_177_80 : am_fe 177 80 = some (12, some .int, .iconst 0) := by decide +kernel
theorem fe_177_81 : am_fe 177 81 = some (12, some .int, .aload_n 0) := by decide +kernel
theorem fe_177_82 : am_fe 177 82 = some (12, some .int, .getfield 188) := by decide +kernel
theorem fe_177_85 : am_fe 177 85 = some (12, some .int, .invokevirtual 224) := by decide +kernel
theorem fe_177_88 : am_fe 177 88 = some (12, some .int, .goto (-47)) := by decide +kernel
theorem fe_177_91 : am_fe 177 91 = some (12, some .int, .bipush 10) := by decide +kernel
theorem fe_177_93 : am_fe 177 93 = some (12, some .int, .iload_n 2) := by decide +kernel
theorem fe_177_94 : am_fe 177 94 = some (12, some .int, .imul) := by decide +kernel
theorem fe_177_95 : am_fe 177 95 = some (12, some .int, .aload_n 0) := by decide +kernel
theorem fe_177_96 : am_fe 177 96 = some (12, some .int, .invokevirtual 191) := by decide +kernel
theorem fe_177_99 : am_fe 177 99 = some (12, some .int, .iadd) := by decide +kernel
theorem fe_177_100 : am_fe 177 100 = some (12, some .int, .bipush 97) := by decide +kernel
theorem fe_177_102 : am_fe 177 102 = some (12, some .int, .isub) := by decide +kernel
theorem fe_177_103 : am_fe 177 103 = some (12, some .int, .iconst 1) := by decide +kernel
theorem fe_177_104 : am_fe 177 104 = some (12, some .int, .iadd) := by decide +kernel
theorem fe_177_105 : am_fe 177 105 = some (12, some .int, .istore_n 2) := by decide +kernel
theorem fe_177_106 : am_fe 177 106 = some (12, some .int, .iinc 3 1) := by decide +kernel
theorem fe_177_109 : am_fe 177 109 = some (12, some .int, .aload_n 0) := by decide +kernel
theorem fe_177_110 : am_fe 177 110 = some (12, some .int, .dup) := by decide +kernel
theorem fe_177_111 : am_fe 177 111 = some (12, some .int, .getfield 188) := by decide +kernel
theorem fe_177_114 : am_fe 177 114 = some (12, some .int, .iconst 1) := by decide +kernel
theorem fe_177_115 : am_fe 177 115 = some (12, some .int, .iadd) := by decide +kernel
theorem fe_177_116 : am_fe 177 116 = some (12, some .int, .putfield 188) := by decide +kernel
theorem fe_177_119 : am_fe 177 119 = some (12, some .int, .goto (-78)) := by decide +kernel
theorem fe_177_122 : am_fe 177 122 = some (12, some .int, .iload_n 2) := by decide +kernel
theorem fe_177_123 : am_fe 177 123 = some (12, some .int, .ireturn) := by decide +kernel
theorem fe_178_0 : am_fe 178 0 = some (12, some .boolean, .aload_n 0) := by decide +kernel
theorem fe_178_1 : am_fe 178 1 = some (12, some .boolean, .invokevirtual 208) := by decide +kernel
theorem fe_178_4 : am_fe 178 4 = some (12, some .boolean, .aload_n 0) := by decide +kernel
theorem fe_178_5 : am_fe 178 5 = some (12, some .boolean, .getfield 185) := by decide +kernel
theorem fe_178_8 : am_fe 178 8 = some (12, some .boolean, .ifCond .ne 32) := by decide +kernel
theorem fe_178_11 : am_fe 178 11 = some (12, some .boolean, .aload_n 0) := by decide +kernel
theorem fe_178_12 : am_fe 178 12 = some (12, some .boolean, .getfield 188) := by decide +kernel
theorem fe_178_15 : am_fe 178 15 = some (12, some .boolean, .aload_n 0) := by decide +kernel
theorem fe_178_16 : am_fe 178 16 = some (12, some .boolean, .getfield 157) := by decide +kernel
theorem fe_178_19 : am_fe 178 19 = some (12, some .boolean, .if_icmp .ge 21) := by decide +kernel
theorem fe_178_22 : am_fe 178 22 = some (12, some .boolean, .aload_n 0) := by decide +kernel
theorem fe_178_23 : am_fe 178 23 = some (12, some .boolean, .invokevirtual 191) := by decide +kernel
theorem fe_178_26 : am_fe 178 26 = some (12, some .boolean, .bipush 59) := by decide +kernel
theorem fe_178_28 : am_fe 178 28 = some (12, some .boolean, .if_icmp .eq 12) := by decide +kernel
theorem fe_178_31 : am_fe 178 31 = some (12, some .boolean, .aload_n 0) := by decide +kernel
theorem fe_178_32 : am_fe 178 32 = some (12, some .boolean, .iconst 0) := by decide +kernel
theorem fe_178_33 : am_fe 178 33 = some (12, some .boolean, .aload_n 0) := by decide +kernel
theorem fe_178_34 : am_fe 178 34 = some (12, some .boolean, .getfield 188) := by decide +kernel
theorem fe_178_37 : am_fe 178 37 = some (12, some .boolean, .invokevirtual 224) := by decide +kernel
theorem fe_178_40 : am_fe 178 40 = some (12, some .boolean, .aload_n 0) := by decide +kernel
theorem fe_178_41 : am_fe 178 41 = some (12, some .boolean, .getfield 185) := by decide +kernel
theorem fe_178_44 : am_fe 178 44 = some (12, some .boolean, .ifCond .ne 18) := by decide +kernel
theorem fe_178_47 : am_fe 178 47 = some (12, some .boolean, .aload_n 0) := by decide +kernel
theorem fe_178_48 : am_fe 178 48 = some (12, some .boolean, .getfield 188) := by decide +kernel
theorem fe_178_51 : am_fe 178 51 = some (12, some .boolean, .aload_n 0) := by decide +kernel
theorem fe_178_52 : am_fe 178 52 = some (12, some .boolean, .getfield 157) := by decide +kernel
theorem fe_178_55 : am_fe 178 55 = some (12, some .boolean, .if_icmp .ge 7) := by decide +kernel
theorem fe_178_58 : am_fe 178 58 = some (12, some .boolean, .iconst 1) := by decide +kernel
theorem fe_178_59 : am_fe 178 59 = some (12, some .boolean, .goto 4) := by decide +kernel
theorem fe_178_62 : am_fe 178 62 = some (12, some .boolean, .iconst 0) := by decide +kernel
theorem fe_178_63 : am_fe 178 63 = some (12, some .boolean, .istore_n 1) := by decide +kernel
theorem fe_178_64 : am_fe 178 64 = some (12, some .boolean, .aload_n 0) := by decide +kernel
theorem fe_178_65 : am_fe 178 65 = some (12, some .boolean, .dup) := by decide +kernel
theorem fe_178_66 : am_fe 178 66 = some (12, some .boolean, .getfield 188) := by decide +kernel
theorem fe_178_69 : am_fe 178 69 = some (12, some .boolean, .iconst 1) := by decide +kernel
theorem fe_178_70 : am_fe 178 70 = some (12, some .boolean, .iadd) := by decide +kernel
theorem fe_178_71 : am_fe 178 71 = some (12, some .boolean, .putfield 188) := by decide +kernel
theorem fe_178_74 : am_fe 178 74 = some (12, some .boolean, .iload_n 1) := by decide +kernel
theorem fe_178_75 : am_fe 178 75 = some (12, some .boolean, .ireturn) := by decide +kernel
theorem fe_179_0 : am_fe 179 0 = some (12, none, .iconst 0) := by decide +kernel
theorem fe_179_1 : am_fe 179 1 = some (12, none, .istore_n 2) := by decide +kernel
theorem fe_179_2 : am_fe 179 2 = some (12, none, .iload_n 2) := by decide +kernel
theorem fe_179_3 : am_fe 179 3 = some (12, none, .aload_n 0) := by decide +kernel
theorem fe_179_4 : am_fe 179 4 = some (12, none, .arraylength) := by decide +kernel
theorem fe_179_5 : am_fe 179 5 = some (12, none, .if_icmp .ge 15) := by decide +kernel
theorem fe_179_8 : am_fe 179 8 = some (12, none, .aload_n 1) := by decide +kernel
theorem fe_179_9 : am_fe 179 9 = some (12, none, .iload_n 2) := by decide +kernel
theorem fe_179_10 : am_fe 179 10 = some (12, none, .aload_n 0) := by decide +kernel
theorem fe_179_11 : am_fe 179 11 = some (12, none, .iload_n 2) := by decide +kernel
theorem fe_179_12 : am_fe 179 12 = some (12, none, .iaload) := by decide +kernel
theorem fe_179_13 : am_fe 179 13 = some (12, none, .iastore) := by decide +kernel
theorem fe_179_14 : am_fe 179 14 = some (12, none, .iinc 2 1) := by decide +kernel
theorem fe_179_17 : am_fe 179 17 = some (12, none, .goto (-15)) := by decide +kernel
theorem fe_179_20 : am_fe 179 20 = some (12, none, .return_) := by decide +kernel
theorem fe_180_0 : am_fe 180 0 = some (12, some .int, .aload_n 0) := by decide +kernel
theorem fe_180_1 : am_fe 180 1 = some (12, some .int, .getfield 354) := by decide +kernel
theorem fe_180_4 : am_fe 180 4 = some (12, some .int, .bipush 6) := by decide +kernel
theorem fe_180_6 : am_fe 180 6 = some (12, some .int, .if_icmp .ne 5) := by decide +kernel
theorem fe_180_9 : am_fe 180 9 = some (12, some .int, .iconst (-1)) := by decide +kernel
theorem fe_180_10 : am_fe 180 10 = some (12, some .int, .ireturn) := by decide +kernel
theorem fe_180_11 : am_fe 180 11 = some (12, some .int, .aload_n 0) := by decide +kernel
theorem fe_180_12 : am_fe 180 12 = some (12, some .int, .aload_n 0) := by decide +kernel
theorem fe_180_13 : am_fe 180 13 = some (12, some .int, .getfield 354) := by decide +kernel
theorem fe_180_16 : am_fe 180 16 = some (12, some .int, .putfield 215) := by decide +kernel
theorem fe_180_19 : am_fe 180 19 = some (12, some .int, .aload_n 0) := by decide +kernel
theorem fe_180_20 : am_fe 180 20 = some (12, some .int, .invokevirtual 330) := by decide +kernel
theorem fe_180_23 : am_fe 180 23 = some (12, some .int, .iconst 0) := by decide +kernel
theorem fe_180_24 : am_fe 180 24 = some (12, some .int, .istore_n 1) := by decide +kernel
theorem fe_180_25 : am_fe 180 25 = some (12, some .int, .iconst 1) := by decide +kernel
theorem fe_180_26 : am_fe 180 26 = some (12, some .int, .istore_n 2) := by decide +kernel
theorem fe_180_27 : am_fe 180 27 = some (12, some .int, .iload_n 2) := by decide +kernel
theorem fe_180_28 : am_fe 180 28 = some (12, some .int, .ifCond .eq 19) := by decide +kernel
theorem fe_180_31 : am_fe 180 31 = some (12, some .int, .aload_n 0) := by decide +kernel
theorem fe_180_32 : am_fe 180 32 = some (12, some .int, .iload_n 1) := by decide +kernel
theorem fe_180_33 : am_fe 180 33 = some (12, some .int, .invokevirtual 357) := by decide +kernel
theorem fe_180_36 : am_fe 180 36 = some (12, some .int, .iinc 1 1) := by decide +kernel
theorem fe_180_39 : am_fe 180 39 = some (12, some .int, .aload_n 0) := by decide +kernel
theorem fe_180_40 : am_fe 180 40 = some (12, some .int, .invokevirtual 336) := by decide +kernel
theorem fe_180_43 : am_fe 180 43 = some (12, some .int, .istore_n 2) := by decide +kernel
theorem fe_180_44 : am_fe 180 44 = some (12, some .int, .goto (-17)) := by decide +kernel
theorem fe_180_47 : am_fe 180 47 = some (12, some .int, .aload_n 0) := by decide +kernel
theorem fe_180_48 : am_fe 180 48 = some (12, some .int, .iconst 0) := by decide +kernel
theorem fe_180_49 : am_fe 180 49 = some (12, some .int, .putfield 157) := by decide +kernel
theorem fe_180_52 : am_fe 180 52 = some (12, some .int, .aload_n 0) := by decide +kernel
theorem fe_180_53 : am_fe 180 53 = some (12, some .int, .getfield 99) := by decide +kernel
theorem fe_180_56 : am_fe 180 56 = some (12, some .int, .aload_n 0) := by decide +kernel
theorem fe_180_57 : am_fe 180 57 = some (12, some .int, .getfield 215) := by decide +kernel
theorem fe_180_60 : am_fe 180 60 = some (12, some .int, .iload_n 1) := by decide +kernel
theorem fe_180_61 : am_fe 180 61 = some (12, some .int, .iastore) := by decide +kernel
theorem fe_180_62 : am_fe 180 62 = some (12, some .int, .aload_n 0) := by decide +kernel
theorem fe_180_63 : am_fe 180 63 = some (12, some .int, .dup) := by decide +kernel
theorem fe_180_64 : am_fe 180 64 = some (12, some .int, .getfield 354) := by decide +kernel
theorem fe_180_67 : am_fe 180 67 = some (12, some .int, .aload_n 0) := by decide +kernel
theorem fe_180_68 : am_fe 180 68 = some (12, some .int, .getfield 185) := by decide +kernel
theorem fe_180_71 : am_fe 180 71 = some (12, some .int, .ifCond .ne 7) := by decide +kernel
theorem fe_180_74 : am_fe 180 74 = some (12, some .int, .iconst 1) := by decide +kernel
theorem fe_180_75 : am_fe 180 75 = some (12, some .int, .goto 4) := by decide +kernel
theorem fe_180_78 : am_fe 180 78 = some (12, some .int, .iconst 0) := by decide +kernel
theorem fe_180_79 : am_fe 180 79 = some (12, some .int, .iadd) := by decide +kernel
theorem fe_180_80 : am_fe 180 80 = some (12, some .int, .putfield 354) := by decide +kernel
theorem fe_180_83 : am_fe 180 83 = some (12, some .int, .aload_n 0) := by decide +kernel
theorem fe_180_84 : am_fe 180 84 = some (12, some .int, .getfield 185) := by decide +kernel
theorem fe_180_87 : am_fe 180 87 = some (12, some .int, .ifCond .le 13) := by decide +kernel
theorem fe_180_90 : am_fe 180 90 = some (12, some .int, .bipush (-2)) := by decide +kernel
theorem fe_180_92 : am_fe 180 92 = some (12, some .int, .aload_n 0) := by decide +kernel
theorem fe_180_93 : am_fe 180 93 = some (12, some .int, .getfield 185) := by decide +kernel
theorem fe_180_96 : am_fe 180 96 = some (12, some .int, .isub) := by decide +kernel
theorem fe_180_97 : am_fe 180 97 = some (12, some .int, .goto 9) := by decide +kernel
theorem fe_180_100 : am_fe 180 100 = some (12, some .int, .aload_n 0) := by decide +kernel
theorem fe_180_101 : am_fe 180 101 = some (12, some .int, .getfield 354) := by decide +kernel
theorem fe_180_104 : am_fe 180 104 = some (12, some .int, .iconst 1) := by decide +kernel
theorem fe_180_105 : am_fe 180 105 = some (12, some .int, .isub) := by decide +kernel
theorem fe_180_106 : am_fe 180 106 = some (12, some .int, .ireturn) := by decide +kernel
theorem fe_181_0 : am_fe 181 0 = some (12, none, .aload_n 0) := by decide +kernel
theorem fe_181_1 : am_fe 181 1 = some (12, none, .invokevirtual 208) := by decide +kernel
theorem fe_181_4 : am_fe 181 4 = some (12, none, .aload_n 0) := by decide +kernel
theorem fe_181_5 : am_fe 181 5 = some (12, none, .getfield 188) := by decide +kernel
theorem fe_181_8 : am_fe 181 8 = some (12, none, .istore_n 2) := by decide +kernel
theorem fe_181_9 : am_fe 181 9 = some (12, none, .aload_n 0) := by decide +kernel
theorem fe_181_10 : am_fe 181 10 = some (12, none, .ldc_w 349) := by decide +kernel
theorem fe_181_13 : am_fe 181 13 = some (12, none, .invokevirtual 211) := by decide +kernel
theorem fe_181_16 : am_fe 181 16 = some (12, none, .ifCond .ne 10) := by decide +kernel
theorem fe_181_19 : am_fe 181 19 = some (12, none, .aload_n 0) := by decide +kernel
theorem fe_181_20 : am_fe 181 20 = some (12, none, .iconst 0) := by decide +kernel
theorem fe_181_21 : am_fe 181 21 = some (12, none, .iload_n 2) := by decide +kernel
theorem fe_181_22 : am_fe 181 22 = some (12, none, .invokevirtual 224) := by decide +kernel
theorem fe_181_25 : am_fe 181 25 = some (12, none, .return_) := by decide +kernel
theorem fe_181_26 : am_fe 181 26 = some (12, none, .iload_n 1) := by decide +kernel
theorem fe_181_27 : am_fe 181 27 = some (12, none, .bipush 12) := by decide +kernel
theorem fe_181_29 : am_fe 181 29 = some (12, none, .if_icmp .ne 10) := by decide +kernel
theorem fe_181_32 : am_fe 181 32 = some (12, none, .aload_n 0) := by decide +kernel
theorem fe_181_33 : am_fe 181 33 = some (12, none, .iconst 4) := by decide +kernel
theorem fe_181_34 : am_fe 181 34 = some (12, none, .iload_n 2) := by decide +kernel
theorem fe_181_35 : am_fe 181 35 = some (12, none, .invokevirtual 224) := by decide +kernel
theorem fe_181_38 : am_fe 181 38 = some (12, none, .return_) := by decide +kernel
theorem fe_181_39 : am_fe 181 39 = some (12, none, .aload_n 0) := by decide +kernel
theorem fe_181_40 : am_fe 181 40 = some (12, none, .dup) := by decide +kernel
theorem fe_181_41 : am_fe 181 41 = some (12, none, .getfield 188) := by decide +kernel
theorem fe_181_44 : am_fe 181 44 = some (12, none, .iconst 4) := by decide +kernel
theorem fe_181_45 : am_fe 181 45 = some (12, none, .iadd) := by decide +kernel
theorem fe_181_46 : am_fe 181 46 = some (12, none, .putfield 188) := by decide +kernel
theorem fe_181_49 : am_fe 181 49 = some (12, none, .bipush 12) := by decide +kernel
theorem fe_181_51 : am_fe 181 51 = some (12, none, .aload_n 0) := by decide +kernel
theorem fe_181_52 : am_fe 181 52 = some (12, none, .getfield 215) := by decide +kernel
theorem fe_181_55 : am_fe 181 55 = some (12, none, .imul) := by decide +kernel
theorem fe_181_56 : am_fe 181 56 = some (12, none, .iload_n 1) := by decide +kernel
theorem fe_181_57 : am_fe 181 57 = some (12, none, .iadd) := by decide +kernel
theorem fe_181_58 : am_fe 181 58 = some (12, none, .istore_n 3) := by decide +kernel
theorem fe_181_59 : am_fe 181 59 = some (12, none, .aload_n 0) := by decide +kernel
theorem fe_181_60 : am_fe 181 60 = some (12, none, .getfield 102) := by decide +kernel
theorem fe_181_63 : am_fe 181 63 = some (12, none, .iload_n 3) := by decide +kernel
theorem fe_181_64 : am_fe 181 64 = some (12, none, .aload_n 0) := by decide +kernel
theorem fe_181_65 : am_fe 181 65 = some (12, none, .getfield 218) := by decide +kernel
theorem fe_181_68 : am_fe 181 68 = some (12, none, .iastore) := by decide +kernel
theorem fe_181_69 : am_fe 181 69 = some (12, none, .aload_n 0) := by decide +kernel
theorem fe_181_70 : am_fe 181 70 = some (12, none, .invokevirtual 351) := by decide +kernel
theorem fe_181_73 : am_fe 181 73 = some (12, none, .aload_n 0) := by decide +kernel
theorem fe_181_74 : am_fe 181 74 = some (12, none, .getfield 105) := by decide +kernel
theorem fe_181_77 : am_fe 181 77 = some (12, none, .iload_n 3) := by decide +kernel
theorem fe_181_78 : am_fe 181 78 = some (12, none, .aload_n 0) := by decide +kernel
theorem fe_181_79 : am_fe 181 79 = some (12, none, .getfield 218) := by decide +kernel
theorem fe_181_82 : am_fe 181 82 = some (12, none, .iastore) := by decide +kernel
theorem fe_181_83 : am_fe 181 83 = some (12, none, .return_) := by decide +kernel
theorem fe_182_0 : am_fe 182 0 = some (12, none, .aload_n 0) := by decide +kernel
theorem fe_182_1 : am_fe 182 1 = some (12, none, .iconst 0) := by decide +kernel
theorem fe_182_2 : am_fe 182 2 = some (12, none, .putfield 255) := by decide +kernel
theorem fe_182_5 : am_fe 182 5 = some (12, none, .iconst 1) := by decide +kernel
theorem fe_182_6 : am_fe 182 6 = some (12, none, .istore_n 1) := by decide +kernel
theorem fe_182_7 : am_fe 182 7 = some (12, none, .iconst 1) := by decide +kernel
theorem fe_182_8 : am_fe 182 8 = some (12, none, .istore_n 2) := by decide +kernel
theorem fe_182_9 : am_fe 182 9 = some (12, none, .iload_n 2) := by decide +kernel
theorem fe_182_10 : am_fe 182 10 = some (12, none, .ifCond .eq 192) := by decide +kernel
theorem fe_182_13 : am_fe 182 13 = some (12, none, .aload_n 0) := by decide +kernel
theorem fe_182_14 : am_fe 182 14 = some (12, none, .getfield 185) := by decide +kernel
theorem fe_182_17 : am_fe 182 17 = some (12, none, .ifCond .ne 185) := by decide +kernel
theorem fe_182_20 : am_fe 182 20 = some (12, none, .iload_n 1) := by decide +kernel
theorem fe_182_21 : am_fe 182 21 = some (12, none, .ifCond .eq 19) := by decide +kernel
theorem fe_182_24 : am_fe 182 24 = some (12, none, .aload_n 0) := by decide +kernel
theorem fe_182_25 : am_fe 182 25 = some (12, none, .invokevirtual 272) := by decide +kernel
theorem fe_182_28 : am_fe 182 28 = some (12, none, .ifCond .ne 7) := by decide +kernel
theorem fe_182_31 : am_fe 182 31 = some (12, none, .iconst 1) := by decide +kernel
theorem fe_182_32 : am_fe 182 32 = some (12, none, .goto 4) := by decide +kernel
theorem fe_182_35 : am_fe 182 35 = some (12, none, .iconst 0) := by decide +kernel
theorem fe_182_36 : am_fe 182 36 = some (12, none, .istore_n 1) := by decide +kernel
theorem fe_182_37 : am_fe 182 37 = some (12, none, .goto (-28)) := by decide +kernel
theorem fe_182_40 : am_fe 182 40 = some (12, none, .aload_n 0) := by decide +kernel
theorem fe_182_41 : am_fe 182 41 = some (12, none, .bipush 9) := by decide +kernel
theorem fe_182_43 : am_fe 182 43 = some (12, none, .invokevirtual 275) := by decide +kernel
theorem fe_182_46 : am_fe 182 46 = some (12, none, .aload_n 0) := by decide +kernel
theorem fe_182_47 : am_fe 182 47 = some (12, none, .invokevirtual 208) := by decide +kernel
theorem fe_182_50 : am_fe 182 50 = some (12, none, .aload_n 0) := by decide +kernel
theorem fe_182_51 : am_fe 182 51 = some (12, none, .ldc_w 278) := by decide +kernel
theorem fe_182_54 : am_fe 182 54 = some (12, none, .invokevirtual 211) := by decide +kernel
theorem fe_182_57 : am_fe 182 57 = some (12, none, .istore_n 3) := by decide +kernel
theorem fe_182_58 : am_fe 182 58 = some (12, none, .aload_n 0) := by decide +kernel
theorem fe_182_59 : am_fe 182 59 = some (12, none, .ldc_w 280) := by decide +kernel
theorem fe_182_62 : am_fe 182 62 = some (12, none, .invokevirtual 211) := by decide +kernel
theorem fe_182_65 : am_fe 182 65 = some (12, none, .istore 4) := by decide +kernel
theorem fe_182_67 : am_fe 182 67 = some (12, none, .aload_n 0) := by decide +kernel
theorem fe_182_68 : am_fe 182 68 = some (12, none, .bipush 10) := by decide +kernel
theorem fe_182_70 : am_fe 182 70 = some (12, none, .invokevirtual 275) := by decide +kernel
theorem fe_182_73 : am_fe 182 73 = some (12, none, .iload_n 3) := by decide +kernel
theorem fe_182_74 : am_fe 182 74 = some (12, none, .ifCond .ne 8) := by decide +kernel
theorem fe_182_77 : am_fe 182 77 = some (12, none, .iload 4) := by decide +kernel
theorem fe_182_79 : am_fe 182 79 = some (12, none, .ifCond .eq 52) := by decide +kernel
theorem fe_182_82 : am_fe 182 82 = some (12, none, .iload 4) := by decide +kernel
theorem fe_182_84 : am_fe 182 84 = some (12, none, .ifCond .eq 9) := by decide +kernel
theorem fe_182_87 : am_fe 182 87 = some (12, none, .aload_n 0) := by decide +kernel
theorem fe_182_88 : am_fe 182 88 = some (12, none, .bipush 11) := by decide +kernel
theorem fe_182_90 : am_fe 182 90 = some (12, none, .invokevirtual 275) := by decide +kernel
theorem fe_182_93 : am_fe 182 93 = some (12, none, .aload_n 0) := by decide +kernel
theorem fe_182_94 : am_fe 182 94 = some (12, none, .iload_n 3) := by decide +kernel
theorem fe_182_95 : am_fe 182 95 = some (12, none, .ifCond .eq 8) := by decide +kernel
theorem fe_182_98 : am_fe 182 98 = some (12, none, .bipush 10) := by decide +kernel
theorem fe_182_100 : am_fe 182 100 = some (12, none, .goto 5) := by decide +kernel
theorem fe_182_103 : am_fe 182 103 = some (12, none, .bipush 11) := by decide +kernel
theorem fe_182_105 : am_fe 182 105 = some (12, none, .invokevirtual 266) := by decide +kernel
theorem fe_182_108 : am_fe 182 108 = some (12, none, .aload_n 0) := by decide +kernel
theorem fe_182_109 : am_fe 182 109 = some (12, none, .dup) := by decide +kernel
theorem fe_182_110 : am_fe 182 110 = some (12, none, .getfield 188) := by decide +kernel
theorem fe_182_113 : am_fe 182 113 = some (12, none, .iload_n 3) := by decide +kernel
theorem fe_182_114 : am_fe 182 114 = some (12, none, .ifCond .eq 7) := by decide +kernel
theorem fe_182_117 : am_fe 182 117 = some (12, none, .iconst 3) := by decide +kernel
theorem fe_182_118 : am_fe 182 118 = some (12, none, .goto 4) := by decide +kernel
theorem fe_182_121 : am_fe 182 121 = some (12, none, .iconst 2) := by decide +kernel
theorem fe_182_122 : am_fe 182 122 = some (12, none, .iadd) := by decide +kernel
theorem fe_182_123 : am_fe 182 123 = some (12, none, .putfield 188) := by decide +kernel
theorem fe_182_126 : am_fe 182 126 = some (12, none, .iconst 1) := by decide +kernel
theorem fe_182_127 : am_fe 182 127 = some (12, none, .istore_n 1) := by decide +kernel
theorem fe_182_128 : am_fe 182 128 = some (12, none, .goto 71) := by decide +kernel
theorem fe_182_131 : am_fe 182 131 = some (12, none, .aload_n 0) := by decide +kernel
theorem fe_182_132 : am_fe 182 132 = some (12, none, .bipush 11) := by decide +kernel
theorem fe_182_134 : am_fe 182 134 = some (12, none, .invokevirtual 275) := by decide +kernel
theorem fe_182_137 : am_fe 182 137 = some (12, none, .aload_n 0) := by decide +kernel
theorem fe_182_138 : am_fe 182 138 = some (12, none, .invokevirtual 261) := by decide +kernel
theorem fe_182_141 : am_fe 182 141 = some (12, none, .bipush 12) := by decide +kernel
theorem fe_182_143 : am_fe 182 143 = some (12, none, .if_icmp .ne 54) := by decide +kernel
theorem fe_182_146 : am_fe 182 146 = some (12, none, .aload_n 0) := by decide +kernel
theorem fe_182_147 : am_fe 182 147 = some (12, none, .invokevirtual 191) := by decide +kernel
theorem fe_182_150 : am_fe 182 150 = some (12, none, .bipush 93) := by decide +kernel
theorem fe_182_152 : am_fe 182 152 = some (12, none, .if_icmp .eq 12) := by decide +kernel
theorem fe_182_155 : am_fe 182 155 = some (12, none, .aload_n 0) := by decide +kernel
theorem fe_182_156 : am_fe 182 156 = some (12, none, .iconst 0) := by decide +kernel
theorem fe_182_157 : am_fe 182 157 = some (12, none, .aload_n 0) := by decide +kernel
theorem fe_182_158 : am_fe 182 158 = some (12, none, .getfield 188) := by decide +kernel
theorem fe_182_161 : am_fe 182 161 = some (12, none, .invokevirtual 224) := by decide +kernel
theorem fe_182_164 : am_fe 182 164 = some (12, none, .aload_n 0) := by decide +kernel
theorem fe_182_165 : am_fe 182 165 = some (12, none, .dup) := by decide +kernel
theorem fe_182_166 : am_fe 182 166 = some (12, none, .getfield 188) := by decide +kernel
theorem fe_182_169 : am_fe 182 169 = some (12, none, .iconst 1) := by decide +kernel
theorem fe_182_170 : am_fe 182 170 = some (12, none, .iadd) := by decide +kernel
theorem fe_182_171 : am_fe 182 171 = some (12, none, .putfield 188) := by decide +kernel
theorem fe_182_174 : am_fe 182 174 = some (12, none, .aload_n 0) := by decide +kernel
theorem fe_182_175 : am_fe 182 175 = some (12, none, .dup) := by decide +kernel
theorem fe_182_176 : am_fe 182 176 = some (12, none, .getfield 255) := by decide +kernel
theorem fe_182_179 : am_fe 182 179 = some (12, none, .iconst 1) := by decide +kernel
theorem fe_182_180 : am_fe 182 180 = some (12, none, .isub) := by decide +kernel
theorem fe_182_181 : am_fe 182 181 = some (12, none, .putfield 255) := by decide +kernel
theorem fe_182_184 : am_fe 182 184 = some (12, none, .aload_n 0) := by decide +kernel
theorem fe_182_185 : am_fe 182 185 = some (12, none, .dup) := by decide +kernel
theorem fe_182_186 : am_fe 182 186 = some (12, none, .getfield 258) := by decide +kernel
theorem fe_182_189 : am_fe 182 189 = some (12, none, .iconst 1) := by decide +kernel
theorem fe_182_190 : am_fe 182 190 = some (12, none, .isub) := by decide +kernel
theorem fe_182_191 : am_fe 182 191 = some (12, none, .putfield 258) := by decide +kernel
theorem fe_182_194 : am_fe 182 194 = some (12, none, .goto 5) := by decide +kernel
theorem fe_182_197 : am_fe 182 197 = some (12, none, .iconst 0) := by decide +kernel
theorem fe_182_198 : am_fe 182 198 = some (12, none, .istore_n 2) := by decide +kernel
theorem fe_182_199 : am_fe 182 199 = some (12, none, .goto (-190)) := by decide +kernel
theorem fe_182_202 : am_fe 182 202 = some (12, none, .return_) := by decide +kernel
theorem fe_183_0 : am_fe 183 0 = some (12, some .boolean, .aload_n 0) := by decide +kernel
theorem fe_183_1 : am_fe 183 1 = some (12, some .boolean, .invokevirtual 208) := by decide +kernel
theorem fe_183_4 : am_fe 183 4 = some (12, some .boolean, .aload_n 0) := by decide +kernel
theorem fe_183_5 : am_fe 183 5 = some (12, some .boolean, .ldc_w 264) := by decide +kernel
theorem fe_183_8 : am_fe 183 8 = some (12, some .boolean, .invokevirtual 211) := by decide +kernel
theorem fe_183_11 : am_fe 183 11 = some (12, some .boolean, .ifCond .eq 21) := by decide +kernel
theorem fe_183_14 : am_fe 183 14 = some (12, some .boolean, .aload_n 0) := by decide +kernel
theorem fe_183_15 : am_fe 183 15 = some (12, some .boolean, .bipush 9) := by decide +kernel
theorem fe_183_17 : am_fe 183 17 = some (12, some .boolean, .invokevirtual 266) := by decide +kernel
theorem fe_183_20 : am_fe 183 20 = some (12, some .boolean, .aload_n 0) := by decide +kernel
theorem fe_183_21 : am_fe 183 21 = some (12, some .boolean, .dup) := by decide +kernel
theorem fe_183_22 : am_fe 183 22 = some (12, some .boolean, .getfield 188) := by decide +kernel
theorem fe_183_25 : am_fe 183 25 = some (12, some .boolean, .iconst 3) := by decide +kernel
theorem fe_183_26 : am_fe 183 26 = some (12, some .boolean, .iadd) := by decide +kernel
theorem fe_183_27 : am_fe 183 27 = some (12, some .boolean, .putfield 188) := by decide +kernel
theorem fe_183_30 : am_fe 183 30 = some (12, some .boolean, .iconst 0) := by decide +kernel
theorem fe_183_31 : am_fe 183 31 = some (12, some .boolean, .ireturn) := by decide +kernel
theorem fe_183_32 : am_fe 183 32 = some (12, some .boolean, .aload_n 0) := by decide +kernel
theorem fe_183_33 : am_fe 183 33 = some (12, some .boolean, .invokevirtual 191) := by decide +kernel
theorem fe_183_36 : am_fe 183 36 = some (12, some .boolean, .bipush 91) := by decide +kernel
theorem fe_183_38 : am_fe 183 38 = some (12, some .boolean, .if_icmp .ne 21) := by decide +kernel
theorem fe_183_41 : am_fe 183 41 = some (12, some .boolean, .aload_n 0) := by decide +kernel
theorem fe_183_42 : am_fe 183 42 = some (12, some .boolean, .bipush 12) := by decide +kernel
theorem fe_183_44 : am_fe 183 44 = some (12, some .boolean, .invokevirtual 266) := by decide +kernel
theorem fe_183_47 : am_fe 183 47 = some (12, some .boolean, .aload_n 0) := by decide +kernel
theorem fe_183_48 : am_fe 183 48 = some (12, some .boolean, .dup) := by decide +kernel
theorem fe_183_49 : am_fe 183 49 = some (12, some .boolean, .getfield 188) := by decide +kernel
theorem fe_183_52 : am_fe 183 52 = some (12, some .boolean, .iconst 1) := by decide +kernel
theorem fe_183_53 : am_fe 183 53 = some (12, some .boolean, .iadd) := by decide +kernel
theorem fe_183_54 : am_fe 183 54 = some (12, some .boolean, .putfield 188) := by decide +kernel
theorem fe_183_57 : am_fe 183 57 = some (12, some .boolean, .iconst 0) := by decide +kernel
theorem fe_183_58 : am_fe 183 58 = some (12, some .boolean, .ireturn) := by decide +kernel
theorem fe_183_59 : am_fe 183 59 = some (12, some .boolean, .aload_n 0) := by decide +kernel
theorem fe_183_60 : am_fe 183 60 = some (12, some .boolean, .invokevirtual 269) := by decide +kernel
theorem fe_183_63 : am_fe 183 63 = some (12, some .boolean, .iconst 1) := by decide +kernel
theorem fe_183_64 : am_fe 183 64 = some (12, some .boolean, .ireturn) := by decide +kernel
theorem fe_184_0 : am_fe 184 0 = some (12, none, .iload_n 1) := by decide +kernel
theorem fe_184_1 : am_fe 184 1 = some (12, none, .bipush 9) := by decide +kernel
theorem fe_184_3 : am_fe 184 3 = some (12, none, .if_icmp .eq 9) := by decide +kernel
theorem fe_184_6 : am_fe 184 6 = some (12, none, .iload_n 1) := by decide +kernel
theorem fe_184_7 : am_fe 184 7 = some (12, none, .bipush 12) := by decide +kernel
theorem fe_184_9 : am_fe 184 9 = some (12, none, .if_icmp .ne 31) := by decide +kernel
theorem fe_184_12 : am_fe 184 12 = some (12, none, .aload_n 0) := by decide +kernel
theorem fe_184_13 : am_fe 184 13 = some (12, none, .getfield 258) := by decide +kernel
theorem fe_184_16 : am_fe 184 16 = some (12, none, .bipush 10) := by decide +kernel
theorem fe_184_18 : am_fe 184 18 = some (12, none, .if_icmp .ne 12) := by decide +kernel
theorem fe_184_21 : am_fe 184 21 = some (12, none, .aload_n 0) := by decide +kernel
theorem fe_184_22 : am_fe 184 22 = some (12, none, .iconst 2) := by decide +kernel
theorem fe_184_23 : am_fe 184 23 = some (12, none, .aload_n 0) := by decide +kernel
theorem fe_184_24 : am_fe 184 24 = some (12, none, .getfield 188) := by decide +kernel
theorem fe_184_27 : am_fe 184 27 = some (12, none, .invokevirtual 224) := by decide +kernel
theorem fe_184_30 : am_fe 184 30 = some (12, none, .aload_n 0) := by decide +kernel
theorem fe_184_31 : am_fe 184 31 = some (12, none, .dup) := by decide +kernel
theorem fe_184_32 : am_fe 184 32 = some (12, none, .getfield 258) := by decide +kernel
theorem fe_184_35 : am_fe 184 35 = some (12, none, .iconst 1) := by decide +kernel
theorem fe_184_36 : am_fe 184 36 = some (12, none, .iadd) := by decide +kernel
theorem fe_184_37 : am_fe 184 37 = some (12, none, .putfield 258) := by decide +kernel
theorem fe_184_40 : am_fe 184 40 = some (12, none, .aload_n 0) := by decide +kernel
theorem fe_184_41 : am_fe 184 41 = some (12, none, .getfield 108) := by decide +kernel
theorem fe_184_44 : am_fe 184 44 = some (12, none, .aload_n 0) := by decide +kernel
theorem fe_184_45 : am_fe 184 45 = some (12, none, .getfield 255) := by decide +kernel
theorem fe_184_48 : am_fe 184 48 = some (12, none, .iload_n 1) := by decide +kernel
theorem fe_184_49 : am_fe 184 49 = some (12, none, .iastore) := by decide +kernel
theorem fe_184_50 : am_fe 184 50 = some (12, none, .aload_n 0) := by decide +kernel
theorem fe_184_51 : am_fe 184 51 = some (12, none, .dup) := by decide +kernel
theorem fe_184_52 : am_fe 184 52 = some (12, none, .getfield 255) := by decide +kernel
theorem fe_184_55 : am_fe 184 55 = some (12, none, .iconst 1) := by decide +kernel
theorem fe_184_56 : am_fe 184 56 = some (12, none, .iadd) := by decide +kernel
theorem fe_184_57 : am_fe 184 57 = some (12, none, .putfield 255) := by decide +kernel
theorem fe_184_60 : am_fe 184 60 = some (12, none, .return_) := by decide +kernel
theorem fe_185_0 : am_fe 185 0 = some (12, none, .aload_n 0) := by decide +kernel
theorem fe_185_1 : am_fe 185 1 = some (12, none, .invokevirtual 252) := by decide +kernel
theorem fe_185_4 : am_fe 185 4 = some (12, none, .aload_n 0) := by decide +kernel
theorem fe_185_5 : am_fe 185 5 = some (12, none, .invokevirtual 191) := by decide +kernel
theorem fe_185_8 : am_fe 185 8 = some (12, none, .istore_n 1) := by decide +kernel
theorem fe_185_9 : am_fe 185 9 = some (12, none, .iload_n 1) := by decide +kernel
theorem fe_185_10 : am_fe 185 10 = some (12, none, .bipush 60) := by decide +kernel
theorem fe_185_12 : am_fe 185 12 = some (12, none, .if_icmp .eq 25) := by decide +kernel
theorem fe_185_15 : am_fe 185 15 = some (12, none, .iload_n 1) := by decide +kernel
theorem fe_185_16 : am_fe 185 16 = some (12, none, .bipush 61) := by decide +kernel
theorem fe_185_18 : am_fe 185 18 = some (12, none, .if_icmp .eq 19) := by decide +kernel
theorem fe_185_21 : am_fe 185 21 = some (12, none, .iload_n 1) := by decide +kernel
theorem fe_185_22 : am_fe 185 22 = some (12, none, .bipush 62) := by decide +kernel
theorem fe_185_24 : am_fe 185 24 = some (12, none, .if_icmp .eq 13) := by decide +kernel
theorem fe_185_27 : am_fe 185 27 = some (12, none, .aload_n 0) := by decide +kernel
theorem fe_185_28 : am_fe 185 28 = some (12, none, .iconst 0) := by decide +kernel
theorem fe_185_29 : am_fe 185 29 = some (12, none, .aload_n 0) := by decide +kernel
theorem fe_185_30 : am_fe 185 30 = some (12, none, .getfield 188) := by decide +kernel
theorem fe_185_33 : am_fe 185 33 = some (12, none, .invokevirtual 224) := by decide +kernel
theorem fe_185_36 : am_fe 185 36 = some (12, none, .return_) := by decide +kernel
theorem fe_185_37 : am_fe 185 37 = some (12, none, .aload_n 0) := by decide +kernel
theorem fe_185_38 : am_fe 185 38 = some (12, none, .aload_n 0) := by decide +kernel
theorem fe_185_39 : am_fe 185 39 = some (12, none, .getfield 188) := by decide +kernel
theorem fe_185_42 : am_fe 185 42 = some (12, none, .invokevirtual 236) := by decide +kernel
theorem fe_185_45 : am_fe 185 45 = some (12, none, .aload_n 0) := by decide +kernel
theorem fe_185_46 : am_fe 185 46 = some (12, none, .dup) := by decide +kernel
theorem fe_185_47 : am_fe 185 47 = some (12, none, .getfield 188) := by decide +kernel
theorem fe_185_50 : am_fe 185 50 = some (12, none, .iconst 1) := by decide +kernel
theorem fe_185_51 : am_fe 185 51 = some (12, none, .iadd) := by decide +kernel
theorem fe_185_52 : am_fe 185 52 = some (12, none, .putfield 188) := by decide +kernel
theorem fe_185_55 : am_fe 185 55 = some (12, none, .iload_n 1) := by decide +kernel
theorem fe_185_56 : am_fe 185 56 = some (12, none, .bipush 61) := by decide +kernel
theorem fe_185_58 : am_fe 185 58 = some (12, none, .if_icmp .eq 16) := by decide +kernel
theorem fe_185_61 : am_fe 185 61 = some (12, none, .aload_n 0) := by decide +kernel
theorem fe_185_62 : am_fe 185 62 = some (12, none, .invokevirtual 191) := by decide +kernel
theorem fe_185_65 : am_fe 185 65 = some (12, none, .bipush 61) := by decide +kernel
theorem fe_185_67 : am_fe 185 67 = some (12, none, .if_icmp .ne 7) := by decide +kernel
theorem fe_185_70 : am_fe 185 70 = some (12, none, .iconst 1) := by decide +kernel
theorem fe_185_71 : am_fe 185 71 = some (12, none, .goto 4) := by decide +kernel
theorem fe_185_74 : am_fe 185 74 = some (12, none, .iconst 0) := by decide +kernel
theorem fe_185_75 : am_fe 185 75 = some (12, none, .istore_n 2) := by decide +kernel
theorem fe_185_76 : am_fe 185 76 = some (12, none, .aload_n 0) := by decide +kernel
theorem fe_185_77 : am_fe 185 77 = some (12, none, .dup) := by decide +kernel
theorem fe_185_78 : am_fe 185 78 = some (12, none, .getfield 188) := by decide +kernel
theorem fe_185_81 : am_fe 185 81 = some (12, none, .iload_n 2) := by decide +kernel
theorem fe_185_82 : am_fe 185 82 = some (12, none, .ifCond .eq 7) := by decide +kernel
theorem fe_185_85 : am_fe 185 85 = some (12, none, .iconst 1) := by decide +kernel
theorem fe_185_86 : am_fe 185 86 = some (12, none, .goto 4) := by decide +kernel
theorem fe_185_89 : am_fe 185 89 = some (12, none, .iconst 0) := by decide +kernel
theorem fe_185_90 : am_fe 185 90 = some (12, none, .iadd) := by decide +kernel
theorem fe_185_91 : am_fe 185 91 = some (12, none, .putfield 188) := by decide +kernel
theorem fe_185_94 : am_fe 185 94 = some (12, none, .aload_n 0) := by decide +kernel
theorem fe_185_95 : am_fe 185 95 = some (12, none, .invokevirtual 252) := by decide +kernel
theorem fe_185_98 : am_fe 185 98 = some (12, none, .aload_n 0) := by decide +kernel
theorem fe_185_99 : am_fe 185 99 = some (12, none, .iload_n 1) := by decide +kernel
theorem fe_185_100 : am_fe 185 100 = some (12, none, .bipush 61) := by decide +kernel
theorem fe_185_102 : am_fe 185 102 = some (12, none, .if_icmp .ne 8) := by decide +kernel
theorem fe_185_105 : am_fe 185 105 = some (12, none, .bipush 6) := by decide +kernel
theorem fe_185_107 : am_fe 185 107 = some (12, none, .goto 32) := by decide +kernel
theorem fe_185_110 : am_fe 185 110 = some (12, none, .iload_n 1) := by decide +kernel
theorem fe_185_111 : am_fe 185 111 = some (12, none, .bipush 60) := by decide +kernel
theorem fe_185_113 : am_fe 185 113 = some (12, none, .if_icmp .ne 15) := by decide +kernel
theorem fe_185_116 : am_fe 185 116 = some (12, none, .iload_n 2) := by decide +kernel
theorem fe_185_117 : am_fe 185 117 = some (12, none, .ifCond .eq 7) := by decide +kernel
theorem fe_185_120 : am_fe 185 120 = some (12, none, .iconst 5) := by decide +kernel
theorem fe_185_121 : am_fe 185 121 = some (12, none, .goto 18) := by decide +kernel
theorem fe_185_124 : am_fe 185 124 = some (12, none, .iconst 4) := by decide +kernel
theorem fe_185_125 : am_fe 185 125 = some (12, none, .goto 14) := by decide +kernel
theorem fe_185_128 : am_fe 185 128 = some (12, none, .iload_n 2) := by decide +kernel
theorem fe_185_129 : am_fe 185 129 = some (12, none, .ifCond .eq 8) := by decide +kernel
theorem fe_185_132 : am_fe 185 132 = some (12, none, .bipush 7) := by decide +kernel
theorem fe_185_134 : am_fe 185 134 = some (12, none, .goto 5) := by decide +kernel
theorem fe_185_137 : am_fe 185 137 = some (12, none, .bipush 8) := by decide +kernel
theorem fe_185_139 : am_fe 185 139 = some (12, none, .iconst 0) := by decide +kernel
theorem fe_185_140 : am_fe 185 140 = some (12, none, .invokevirtual 239) := by decide +kernel
theorem fe_185_143 : am_fe 185 143 = some (12, none, .return_) := by decide +kernel
theorem fe_186_0 : am_fe 186 0 = some (12, none, .aload_n 0) := by decide +kernel
theorem fe_186_1 : am_fe 186 1 = some (12, none, .invokevirtual 249) := by decide +kernel
theorem fe_186_4 : am_fe 186 4 = some (12, none, .aload_n 0) := by decide +kernel
theorem fe_186_5 : am_fe 186 5 = some (12, none, .getfield 185) := by decide +kernel
theorem fe_186_8 : am_fe 186 8 = some (12, none, .ifCond .ne 59) := by decide +kernel
theorem fe_186_11 : am_fe 186 11 = some (12, none, .aload_n 0) := by decide +kernel
theorem fe_186_12 : am_fe 186 12 = some (12, none, .invokevirtual 191) := by decide +kernel
theorem fe_186_15 : am_fe 186 15 = some (12, none, .bipush 43) := by decide +kernel
theorem fe_186_17 : am_fe 186 17 = some (12, none, .if_icmp .eq 12) := by decide +kernel
theorem fe_186_20 : am_fe 186 20 = some (12, none, .aload_n 0) := by decide +kernel
theorem fe_186_21 : am_fe 186 21 = some (12, none, .invokevirtual 191) := by decide +kernel
theorem fe_186_24 : am_fe 186 24 = some (12, none, .bipush 45) := by decide +kernel
theorem fe_186_26 : am_fe 186 26 = some (12, none, .if_icmp .ne 41) := by decide +kernel
theorem fe_186_29 : am_fe 186 29 = some (12, none, .aload_n 0) := by decide +kernel
theorem fe_186_30 : am_fe 186 30 = some (12, none, .invokevirtual 191) := by decide +kernel
theorem fe_186_33 : am_fe 186 33 = some (12, none, .bipush 43) := by decide +kernel
theorem fe_186_35 : am_fe 186 35 = some (12, none, .if_icmp .ne 7) := by decide +kernel
theorem fe_186_38 : am_fe 186 38 = some (12, none, .iconst 2) := by decide +kernel
theorem fe_186_39 : am_fe 186 39 = some (12, none, .goto 4) := by decide +kernel
theorem fe_186_42 : am_fe 186 42 = some (12, none, .iconst 3) := by decide +kernel
theorem fe_186_43 : am_fe 186 43 = some (12, none, .istore_n 1) := by decide +kernel
theorem fe_186_44 : am_fe 186 44 = some (12, none, .aload_n 0) := by decide +kernel
theorem fe_186_45 : am_fe 186 45 = some (12, none, .dup) := by decide +kernel
theorem fe_186_46 : am_fe 186 46 = some (12, none, .getfield 188) := by decide +kernel
theorem fe_186_49 : am_fe 186 49 = some (12, none, .iconst 1) := by decide +kernel
theorem fe_186_50 : am_fe 186 50 = some (12, none, .iadd) := by decide +kernel
theorem fe_186_51 : am_fe 186 51 = some (12, none, .putfield 188) := by decide +kernel
theorem fe_186_54 : am_fe 186 54 = some (12, none, .aload_n 0) := by decide +kernel
theorem fe_186_55 : am_fe 186 55 = some (12, none, .invokevirtual 249) := by decide +kernel
theorem fe_186_58 : am_fe 186 58 = some (12, none, .aload_n 0) := by decide +kernel
theorem fe_186_59 : am_fe 186 59 = some (12, none, .iload_n 1) := by decide +kernel
theorem fe_186_60 : am_fe 186 60 = some (12, none, .iconst 0) := by decide +kernel
theorem fe_186_61 : am_fe 186 61 = some (12, none, .invokevirtual 239) := by decide +kernel
theorem fe_186_64 : am_fe 186 64 = some (12, none, .goto (-60)) := by decide +kernel
theorem fe_186_67 : am_fe 186 67 = some (12, none, .return_) := by decide +kernel
theorem fe_187_0 : am_fe 187 0 = some (12, none, .aload_n 0) := by decide +kernel
theorem fe_187_1 : am_fe 187 1 = some (12, none, .invokevirtual 246) := by decide +kernel
theorem fe_187_4 : am_fe 187 4 = some (12, none, .aload_n 0) := by decide +kernel
theorem fe_187_5 : am_fe 187 5 = some (12, none, .invokevirtual 208) := by decide +kernel
theorem fe_187_8 : am_fe 187 8 = some (12, none, .aload_n 0) := by decide +kernel
theorem fe_187_9 : am_fe 187 9 = some (12, none, .getfield 185) := by decide +kernel
theorem fe_187_12 : am_fe 187 12 = some (12, none, .ifCond .ne 88) := by decide +kernel
theorem fe_187_15 : am_fe 187 15 = some (12, none, .aload_n 0) := by decide +kernel
theorem fe_187_16 : am_fe 187 16 = some (12, none, .invokevirtual 191) := by decide +kernel
theorem fe_187_19 : am_fe 187 19 = some (12, none, .bipush 42) := by decide +kernel
theorem fe_187_21 : am_fe 187 21 = some (12, none, .if_icmp .eq 21) := by decide +kernel
theorem fe_187_24 : am_fe 187 24 = some (12, none, .aload_n 0) := by decide +kernel
theorem fe_187_25 : am_fe 187 25 = some (12, none, .invokevirtual 191) := by decide +kernel
theorem fe_187_28 : am_fe 187 28 = some (12, none, .bipush 47) := by decide +kernel
theorem fe_187_30 : am_fe 187 30 = some (12, none, .if_icmp .eq 12) := by decide +kernel
theorem fe_187_33 : am_fe 187 33 = some (12, none, .aload_n 0) := by decide +kernel
theorem fe_187_34 : am_fe 187 34 = some (12, none, .invokevirtual 191) := by decide +kernel
theorem fe_187_37 : am_fe 187 37 = some (12, none, .bipush 37) := by decide +kernel
theorem fe_187_39 : am_fe 187 39 = some (12, none, .if_icmp .ne 61) := by decide +kernel
theorem fe_187_42 : am_fe 187 42 = some (12, none, .aload_n 0) := by decide +kernel
theorem fe_187_43 : am_fe 187 43 = some (12, none, .invokevirtual 191) := by decide +kernel
theorem fe_187_46 : am_fe 187 46 = some (12, none, .bipush 42) := by decide +kernel
theorem fe_187_48 : am_fe 187 48 = some (12, none, .if_icmp .ne 8) := by decide +kernel
theorem fe_187_51 : am_fe 187 51 = some (12, none, .bipush 13) := by decide +kernel
theorem fe_187_53 : am_fe 187 53 = some (12, none, .goto 19) := by decide +kernel
theorem fe_187_56 : am_fe 187 56 = some (12, none, .aload_n 0) := by decide +kernel
theorem fe_187_57 : am_fe 187 57 = some (12, none, .invokevirtual 191) := by decide +kernel
theorem fe_187_60 : am_fe 187 60 = some (12, none, .bipush 47) := by decide +kernel
theorem fe_187_62 : am_fe 187 62 = some (12, none, .if_icmp .ne 8) := by decide +kernel
theorem fe_187_65 : am_fe 187 65 = some (12, none, .bipush 14) := by decide +kernel
theorem fe_187_67 : am_fe 187 67 = some (12, none, .goto 5) := by decide +kernel
theorem fe_187_70 : am_fe 187 70 = some (12, none, .bipush 15) := by decide +kernel
theorem fe_187_72 : am_fe 187 72 = some (12, none, .istore_n 1) := by decide +kernel
theorem fe_187_73 : am_fe 187 73 = some (12, none, .aload_n 0) := by decide +kernel
theorem fe_187_74 : am_fe 187 74 = some (12, none, .dup) := by decide +kernel
theorem fe_187_75 : am_fe 187 75 = some (12, none, .getfield 188) := by decide +kernel
theorem fe_187_78 : am_fe 187 78 = some (12, none, .iconst 1) := by decide +kernel
theorem fe_187_79 : am_fe 187 79 = some (12, none, .iadd) := by decide +kernel
theorem fe_187_80 : am_fe 187 80 = some (12, none, .putfield 188) := by decide +kernel
theorem fe_187_83 : am_fe 187 83 = some (12, none, .aload_n 0) := by decide +kernel
theorem fe_187_84 : am_fe 187 84 = some (12, none, .invokevirtual 246) := by decide +kernel
theorem fe_187_87 : am_fe 187 87 = some (12, none, .aload_n 0) := by decide +kernel
theorem fe_187_88 : am_fe 187 88 = some (12, none, .iload_n 1) := by decide +kernel
theorem fe_187_89 : am_fe 187 89 = some (12, none, .iconst 0) := by decide +kernel
theorem fe_187_90 : am_fe 187 90 = some (12, none, .invokevirtual 239) := by decide +kernel
theorem fe_187_93 : am_fe 187 93 = some (12, none, .aload_n 0) := by decide +kernel
theorem fe_187_94 : am_fe 187 94 = some (12, none, .invokevirtual 208) := by decide +kernel
theorem fe_187_97 : am_fe 187 97 = some (12, none, .goto (-89)) := by decide +kernel
theorem fe_187_100 : am_fe 187 100 = some (12, none, .return_) := by decide +kernel
theorem fe_188_0 : am_fe 188 0 = some (12, none, .aload_n 0) := by decide +kernel
theorem fe_188_1 : am_fe 188 1 = some (12, none, .invokevirtual 208) := by decide +kernel
theorem fe_188_4 : am_fe 188 4 = some (12, none, .aload_n 0) := by decide +kernel
theorem fe_188_5 : am_fe 188 5 = some (12, none, .getfield 188) := by decide +kernel
theorem fe_188_8 : am_fe 188 8 = some (12, none, .istore_n 1) := by decide +kernel
theorem fe_188_9 : am_fe 188 9 = some (12, none, .aload_n 0) := by decide +kernel
theorem fe_188_10 : am_fe 188 10 = some (12, none, .invokevirtual 228) := by decide +kernel
theorem fe_188_13 : am_fe 188 13 = some (12, none, .ifCond .eq 22) := by decide +kernel
theorem fe_188_16 : am_fe 188 16 = some (12, none, .aload_n 0) := by decide +kernel
theorem fe_188_17 : am_fe 188 17 = some (12, none, .ldc 232) := by decide +kernel
theorem fe_188_19 : am_fe 188 19 = some (12, none, .invokevirtual 233) := by decide +kernel
theorem fe_188_22 : am_fe 188 22 = some (12, none, .istore_n 2) := by decide +kernel
theorem fe_188_23 : am_fe 188 23 = some (12, none, .aload_n 0) := by decide +kernel
theorem fe_188_24 : am_fe 188 24 = some (12, none, .iload_n 1) := by decide +kernel
theorem fe_188_25 : am_fe 188 25 = some (12, none, .invokevirtual 236) := by decide +kernel
theorem fe_188_28 : am_fe 188 28 = some (12, none, .aload_n 0) := by decide +kernel
theorem fe_188_29 : am_fe 188 29 = some (12, none, .iconst 0) := by decide +kernel
theorem fe_188_30 : am_fe 188 30 = some (12, none, .iload_n 2) := by decide +kernel
theorem fe_188_31 : am_fe 188 31 = some (12, none, .invokevirtual 239) := by decide +kernel
theorem fe_188_34 : am_fe 188 34 = some (12, none, .return_) := by decide +kernel
theorem fe_188_35 : am_fe 188 35 = some (12, none, .iconst 0) := by decide +kernel
theorem fe_188_36 : am_fe 188 36 = some (12, none, .istore_n 2) := by decide +kernel
theorem fe_188_37 : am_fe 188 37 = some (12, none, .iload_n 2) := by decide +kernel
theorem fe_188_38 : am_fe 188 38 = some (12, none, .aload_n 0) := by decide +kernel
theorem fe_188_39 : am_fe 188 39 = some (12, none, .getfield 85) := by decide +kernel
theorem fe_188_42 : am_fe 188 42 = some (12, none, .if_icmp .ge 20) := by decide +kernel
theorem fe_188_45 : am_fe 188 45 = some (12, none, .aload_n 0) := by decide +kernel
theorem fe_188_46 : am_fe 188 46 = some (12, none, .iload_n 2) := by decide +kernel
theorem fe_188_47 : am_fe 188 47 = some (12, none, .invokestatic 242) := by decide +kernel
theorem fe_188_50 : am_fe 188 50 = some (12, none, .invokevirtual 211) := by decide +kernel
theorem fe_188_53 : am_fe 188 53 = some (12, none, .ifCond .ne 9) := by decide +kernel
theorem fe_188_56 : am_fe 188 56 = some (12, none, .iinc 2 1) := by decide +kernel
theorem fe_188_59 : am_fe 188 59 = some (12, none, .goto (-22)) := by decide +kernel
theorem fe_188_62 : am_fe 188 62 = some (12, none, .iload_n 2) := by decide +kernel
theorem fe_188_63 : am_fe 188 63 = some (12, none, .aload_n 0) := by decide +kernel
theorem fe_188_64 : am_fe 188 64 = some (12, none, .getfield 85) := by decide +kernel
theorem fe_188_67 : am_fe 188 67 = some (12, none, .if_icmp .ne 10) := by decide +kernel
theorem fe_188_70 : am_fe 188 70 = some (12, none, .aload_n 0) := by decide +kernel
theorem fe_188_71 : am_fe 188 71 = some (12, none, .iconst 0) := by decide +kernel
theorem fe_188_72 : am_fe 188 72 = some (12, none, .iload_n 1) := by decide +kernel
theorem fe_188_73 : am_fe 188 73 = some (12, none, .invokevirtual 224) := by decide +kernel
theorem fe_188_76 : am_fe 188 76 = some (12, none, .return_) := by decide +kernel
theorem fe_188_77 : am_fe 188 77 = some (12, none, .aload_n 0) := by decide +kernel
theorem fe_188_78 : am_fe 188 78 = some (12, none, .iload_n 1) := by decide +kernel
theorem fe_188_79 : am_fe 188 79 = some (12, none, .invokevirtual 236) := by decide +kernel
theorem fe_188_82 : am_fe 188 82 = some (12, none, .aload_n 0) := by decide +kernel
theorem fe_188_83 : am_fe 188 83 = some (12, none, .dup) := by decide +kernel
theorem fe_188_84 : am_fe 188 84 = some (12, none, .getfield 188) := by decide +kernel
theorem fe_188_87 : am_fe 188 87 = some (12, none, .iload_n 2) := by decide +kernel
