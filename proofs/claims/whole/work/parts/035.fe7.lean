theorem fe_258_59 : am_fe 258 59 = some (12, some .int, .iload 4) := by decide +kernel
theorem fe_258_61 : am_fe 258 61 = some (12, some .int, .irem) := by decide +kernel
theorem fe_258_62 : am_fe 258 62 = some (12, some .int, .istore 6) := by decide +kernel
theorem fe_258_64 : am_fe 258 64 = some (12, some .int, .iload 4) := by decide +kernel
theorem fe_258_66 : am_fe 258 66 = some (12, some .int, .istore 5) := by decide +kernel
theorem fe_258_68 : am_fe 258 68 = some (12, some .int, .iload 6) := by decide +kernel
theorem fe_258_70 : am_fe 258 70 = some (12, some .int, .istore 4) := by decide +kernel
theorem fe_258_72 : am_fe 258 72 = some (12, some .int, .goto (-20)) := by decide +kernel
theorem fe_258_75 : am_fe 258 75 = some (12, some .int, .iload_n 2) := by decide +kernel
theorem fe_258_76 : am_fe 258 76 = some (12, some .int, .ifCond .ne 15) := by decide +kernel
theorem fe_258_79 : am_fe 258 79 = some (12, some .int, .aload_n 0) := by decide +kernel
theorem fe_258_80 : am_fe 258 80 = some (12, some .int, .getfield 25) := by decide +kernel
theorem fe_258_83 : am_fe 258 83 = some (12, some .int, .iload_n 1) := by decide +kernel
theorem fe_258_84 : am_fe 258 84 = some (12, some .int, .iaload) := by decide +kernel
theorem fe_258_85 : am_fe 258 85 = some (12, some .int, .iload 5) := by decide +kernel
theorem fe_258_87 : am_fe 258 87 = some (12, some .int, .idiv) := by decide +kernel
theorem fe_258_88 : am_fe 258 88 = some (12, some .int, .goto 7) := by decide +kernel
theorem fe_258_91 : am_fe 258 91 = some (12, some .int, .iload_n 3) := by decide +kernel
theorem fe_258_92 : am_fe 258 92 = some (12, some .int, .iload 5) := by decide +kernel
theorem fe_258_94 : am_fe 258 94 = some (12, some .int, .idiv) := by decide +kernel
theorem fe_258_95 : am_fe 258 95 = some (12, some .int, .ireturn) := by decide +kernel
theorem fe_259_0 : am_fe 259 0 = some (12, some .int, .iconst 0) := by decide +kernel
theorem fe_259_1 : am_fe 259 1 = some (12, some .int, .istore_n 1) := by decide +kernel
theorem fe_259_2 : am_fe 259 2 = some (12, some .int, .iconst 0) := by decide +kernel
theorem fe_259_3 : am_fe 259 3 = some (12, some .int, .istore_n 2) := by decide +kernel
theorem fe_259_4 : am_fe 259 4 = some (12, some .int, .iload_n 2) := by decide +kernel
theorem fe_259_5 : am_fe 259 5 = some (12, some .int, .aload_n 0) := by decide +kernel
theorem fe_259_6 : am_fe 259 6 = some (12, some .int, .getfield 9) := by decide +kernel
theorem fe_259_9 : am_fe 259 9 = some (12, some .int, .iconst 1) := by decide +kernel
theorem fe_259_10 : am_fe 259 10 = some (12, some .int, .iaload) := by decide +kernel
theorem fe_259_11 : am_fe 259 11 = some (12, some .int, .if_icmp .ge 18) := by decide +kernel
theorem fe_259_14 : am_fe 259 14 = some (12, some .int, .iload_n 1) := by decide +kernel
theorem fe_259_15 : am_fe 259 15 = some (12, some .int, .aload_n 0) := by decide +kernel
theorem fe_259_16 : am_fe 259 16 = some (12, some .int, .getfield 25) := by decide +kernel
theorem fe_259_19 : am_fe 259 19 = some (12, some .int, .iload_n 2) := by decide +kernel
theorem fe_259_20 : am_fe 259 20 = some (12, some .int, .iaload) := by decide +kernel
theorem fe_259_21 : am_fe 259 21 = some (12, some .int, .iadd) := by decide +kernel
theorem fe_259_22 : am_fe 259 22 = some (12, some .int, .istore_n 1) := by decide +kernel
theorem fe_259_23 : am_fe 259 23 = some (12, some .int, .iinc 2 1) := by decide +kernel
theorem fe_259_26 : am_fe 259 26 = some (12, some .int, .goto (-22)) := by decide +kernel
theorem fe_259_29 : am_fe 259 29 = some (12, some .int, .iload_n 1) := by decide +kernel
theorem fe_259_30 : am_fe 259 30 = some (12, some .int, .ireturn) := by decide +kernel
theorem fe_260_0 : am_fe 260 0 = some (12, some .int, .iload_n 1) := by decide +kernel
theorem fe_260_1 : am_fe 260 1 = some (12, some .int, .ifCond .ge 5) := by decide +kernel
theorem fe_260_4 : am_fe 260 4 = some (12, some .int, .iconst (-1)) := by decide +kernel
theorem fe_260_5 : am_fe 260 5 = some (12, some .int, .ireturn) := by decide +kernel
theorem fe_260_6 : am_fe 260 6 = some (12, some .int, .aload_n 0) := by decide +kernel
theorem fe_260_7 : am_fe 260 7 = some (12, some .int, .getfield 9) := by decide +kernel
theorem fe_260_10 : am_fe 260 10 = some (12, some .int, .bipush 7) := by decide +kernel
theorem fe_260_12 : am_fe 260 12 = some (12, some .int, .iaload) := by decide +kernel
theorem fe_260_13 : am_fe 260 13 = some (12, some .int, .istore_n 2) := by decide +kernel
theorem fe_260_14 : am_fe 260 14 = some (12, some .int, .aload_n 0) := by decide +kernel
theorem fe_260_15 : am_fe 260 15 = some (12, some .int, .getfield 9) := by decide +kernel
theorem fe_260_18 : am_fe 260 18 = some (12, some .int, .bipush 7) := by decide +kernel
theorem fe_260_20 : am_fe 260 20 = some (12, some .int, .iload_n 1) := by decide +kernel
theorem fe_260_21 : am_fe 260 21 = some (12, some .int, .iastore) := by decide +kernel
theorem fe_260_22 : am_fe 260 22 = some (12, some .int, .iload_n 2) := by decide +kernel
theorem fe_260_23 : am_fe 260 23 = some (12, some .int, .ireturn) := by decide +kernel
theorem fe_261_0 : am_fe 261 0 = some (12, some .int, .aload_n 0) := by decide +kernel
theorem fe_261_1 : am_fe 261 1 = some (12, some .int, .invokevirtual 457) := by decide +kernel
theorem fe_261_4 : am_fe 261 4 = some (12, some .int, .ifCond .eq 39) := by decide +kernel
theorem fe_261_7 : am_fe 261 7 = some (12, some .int, .iload_n 1) := by decide +kernel
theorem fe_261_8 : am_fe 261 8 = some (12, some .int, .i2l) := by decide +kernel
theorem fe_261_9 : am_fe 261 9 = some (12, some .int, .lconst 1) := by decide +kernel
theorem fe_261_10 : am_fe 261 10 = some (12, some .int, .ldc2_w 533) := by decide +kernel
theorem fe_261_13 : am_fe 261 13 = some (12, some .int, .invokestatic 143) := by decide +kernel
theorem fe_261_16 : am_fe 261 16 = some (12, some .int, .ifCond .eq 27) := by decide +kernel
theorem fe_261_19 : am_fe 261 19 = some (12, some .int, .iload_n 2) := by decide +kernel
theorem fe_261_20 : am_fe 261 20 = some (12, some .int, .i2l) := by decide +kernel
theorem fe_261_21 : am_fe 261 21 = some (12, some .int, .lconst 1) := by decide +kernel
theorem fe_261_22 : am_fe 261 22 = some (12, some .int, .ldc2_w 484) := by decide +kernel
theorem fe_261_25 : am_fe 261 25 = some (12, some .int, .invokestatic 143) := by decide +kernel
theorem fe_261_28 : am_fe 261 28 = some (12, some .int, .ifCond .eq 15) := by decide +kernel
theorem fe_261_31 : am_fe 261 31 = some (12, some .int, .iload_n 3) := by decide +kernel
theorem fe_261_32 : am_fe 261 32 = some (12, some .int, .i2l) := by decide +kernel
theorem fe_261_33 : am_fe 261 33 = some (12, some .int, .lconst 0) := by decide +kernel
theorem fe_261_34 : am_fe 261 34 = some (12, some .int, .ldc2_w 486) := by decide +kernel
theorem fe_261_37 : am_fe 261 37 = some (12, some .int, .invokestatic 143) := by decide +kernel
theorem fe_261_40 : am_fe 261 40 = some (12, some .int, .ifCond .ne 5) := by decide +kernel
theorem fe_261_43 : am_fe 261 43 = some (12, some .int, .iconst (-1)) := by decide +kernel
theorem fe_261_44 : am_fe 261 44 = some (12, some .int, .ireturn) := by decide +kernel
theorem fe_261_45 : am_fe 261 45 = some (12, some .int, .aload_n 0) := by decide +kernel
theorem fe_261_46 : am_fe 261 46 = some (12, some .int, .getfield 9) := by decide +kernel
theorem fe_261_49 : am_fe 261 49 = some (12, some .int, .bipush 7) := by decide +kernel
theorem fe_261_51 : am_fe 261 51 = some (12, some .int, .iaload) := by decide +kernel
theorem fe_261_52 : am_fe 261 52 = some (12, some .int, .istore 4) := by decide +kernel
theorem fe_261_54 : am_fe 261 54 = some (12, some .int, .iload 4) := by decide +kernel
theorem fe_261_56 : am_fe 261 56 = some (12, some .int, .istore 5) := by decide +kernel
theorem fe_261_58 : am_fe 261 58 = some (12, some .int, .iconst 0) := by decide +kernel
theorem fe_261_59 : am_fe 261 59 = some (12, some .int, .istore 6) := by decide +kernel
theorem fe_261_61 : am_fe 261 61 = some (12, some .int, .aload_n 0) := by decide +kernel
theorem fe_261_62 : am_fe 261 62 = some (12, some .int, .invokevirtual 488) := by decide +kernel
theorem fe_261_65 : am_fe 261 65 = some (12, some .int, .iconst 0) := by decide +kernel
theorem fe_261_66 : am_fe 261 66 = some (12, some .int, .istore 7) := by decide +kernel
theorem fe_261_68 : am_fe 261 68 = some (12, some .int, .iload 7) := by decide +kernel
theorem fe_261_70 : am_fe 261 70 = some (12, some .int, .iload_n 1) := by decide +kernel
theorem fe_261_71 : am_fe 261 71 = some (12, some .int, .if_icmp .ge 118) := by decide +kernel
theorem fe_261_74 : am_fe 261 74 = some (12, some .int, .aload_n 0) := by decide +kernel
theorem fe_261_75 : am_fe 261 75 = some (12, some .int, .getfield 9) := by decide +kernel
theorem fe_261_78 : am_fe 261 78 = some (12, some .int, .bipush 7) := by decide +kernel
theorem fe_261_80 : am_fe 261 80 = some (12, some .int, .iload 5) := by decide +kernel
theorem fe_261_82 : am_fe 261 82 = some (12, some .int, .iastore) := by decide +kernel
theorem fe_261_83 : am_fe 261 83 = some (12, some .int, .iload 6) := by decide +kernel
theorem fe_261_85 : am_fe 261 85 = some (12, some .int, .aload_n 0) := by decide +kernel
theorem fe_261_86 : am_fe 261 86 = some (12, some .int, .iload_n 3) := by decide +kernel
theorem fe_261_87 : am_fe 261 87 = some (12, some .int, .iconst 1) := by decide +kernel
theorem fe_261_88 : am_fe 261 88 = some (12, some .int, .iadd) := by decide +kernel
theorem fe_261_89 : am_fe 261 89 = some (12, some .int, .invokevirtual 535) := by decide +kernel
theorem fe_261_92 : am_fe 261 92 = some (12, some .int, .isub) := by decide +kernel
theorem fe_261_93 : am_fe 261 93 = some (12, some .int, .istore 6) := by decide +kernel
theorem fe_261_95 : am_fe 261 95 = some (12, some .int, .iconst 0) := by decide +kernel
theorem fe_261_96 : am_fe 261 96 = some (12, some .int, .istore 8) := by decide +kernel
theorem fe_261_98 : am_fe 261 98 = some (12, some .int, .iload 8) := by decide +kernel
theorem fe_261_100 : am_fe 261 100 = some (12, some .int, .iload_n 2) := by decide +kernel
theorem fe_261_101 : am_fe 261 101 = some (12, some .int, .if_icmp .ge 57) := by decide +kernel
theorem fe_261_104 : am_fe 261 104 = some (12, some .int, .aload_n 0) := by decide +kernel
theorem fe_261_105 : am_fe 261 105 = some (12, some .int, .aload_n 0) := by decide +kernel
theorem fe_261_106 : am_fe 261 106 = some (12, some .int, .getfield 9) := by decide +kernel
theorem fe_261_109 : am_fe 261 109 = some (12, some .int, .iconst 0) := by decide +kernel
theorem fe_261_110 : am_fe 261 110 = some (12, some .int, .iaload) := by decide +kernel
theorem fe_261_111 : am_fe 261 111 = some (12, some .int, .invokevirtual 538) := by decide +kernel
theorem fe_261_114 : am_fe 261 114 = some (12, some .int, .istore 9) := by decide +kernel
theorem fe_261_116 : am_fe 261 116 = some (12, some .int, .aload_n 0) := by decide +kernel
theorem fe_261_117 : am_fe 261 117 = some (12, some .int, .bipush 6) := by decide +kernel
theorem fe_261_119 : am_fe 261 119 = some (12, some .int, .invokevirtual 538) := by decide +kernel
theorem fe_261_122 : am_fe 261 122 = some (12, some .int, .istore 10) := by decide +kernel
theorem fe_261_124 : am_fe 261 124 = some (12, some .int, .aload_n 0) := by decide +kernel
theorem fe_261_125 : am_fe 261 125 = some (12, some .int, .getfield 9) := by decide +kernel
theorem fe_261_128 : am_fe 261 128 = some (12, some .int, .iconst 4) := by decide +kernel
theorem fe_261_129 : am_fe 261 129 = some (12, some .int, .iaload) := by decide +kernel
theorem fe_261_130 : am_fe 261 130 = some (12, some .int, .bipush 12) := by decide +kernel
theorem fe_261_132 : am_fe 261 132 = some (12, some .int, .if_icmp .ge 15) := by decide +kernel
theorem fe_261_135 : am_fe 261 135 = some (12, some .int, .aload_n 0) := by decide +kernel
theorem fe_261_136 : am_fe 261 136 = some (12, some .int, .iload 9) := by decide +kernel
theorem fe_261_138 : am_fe 261 138 = some (12, some .int, .iload 10) := by decide +kernel
theorem fe_261_140 : am_fe 261 140 = some (12, some .int, .iconst 1) := by decide +kernel
theorem fe_261_141 : am_fe 261 141 = some (12, some .int, .iadd) := by decide +kernel
theorem fe_261_142 : am_fe 261 142 = some (12, some .int, .iconst 0) := by decide +kernel
theorem fe_261_143 : am_fe 261 143 = some (12, some .int, .invokevirtual 469) := by decide +kernel
theorem fe_261_146 : am_fe 261 146 = some (12, some .int, .pop) := by decide +kernel
theorem fe_261_147 : am_fe 261 147 = some (12, some .int, .aload_n 0) := by decide +kernel
theorem fe_261_148 : am_fe 261 148 = some (12, some .int, .invokevirtual 463) := by decide +kernel
theorem fe_261_151 : am_fe 261 151 = some (12, some .int, .pop) := by decide +kernel
theorem fe_261_152 : am_fe 261 152 = some (12, some .int, .iinc 8 1) := by decide +kernel
theorem fe_261_155 : am_fe 261 155 = some (12, some .int, .goto (-57)) := by decide +kernel
theorem fe_261_158 : am_fe 261 158 = some (12, some .int, .iload 6) := by decide +kernel
theorem fe_261_160 : am_fe 261 160 = some (12, some .int, .aload_n 0) := by decide +kernel
theorem fe_261_161 : am_fe 261 161 = some (12, some .int, .iload_n 3) := by decide +kernel
theorem fe_261_162 : am_fe 261 162 = some (12, some .int, .iconst 1) := by decide +kernel
theorem fe_261_163 : am_fe 261 163 = some (12, some .int, .iadd) := by decide +kernel
theorem fe_261_164 : am_fe 261 164 = some (12, some .int, .invokevirtual 535) := by decide +kernel
theorem fe_261_167 : am_fe 261 167 = some (12, some .int, .iadd) := by decide +kernel
theorem fe_261_168 : am_fe 261 168 = some (12, some .int, .istore 6) := by decide +kernel
theorem fe_261_170 : am_fe 261 170 = some (12, some .int, .aload_n 0) := by decide +kernel
theorem fe_261_171 : am_fe 261 171 = some (12, some .int, .getfield 9) := by decide +kernel
theorem fe_261_174 : am_fe 261 174 = some (12, some .int, .bipush 7) := by decide +kernel
theorem fe_261_176 : am_fe 261 176 = some (12, some .int, .iaload) := by decide +kernel
theorem fe_261_177 : am_fe 261 177 = some (12, some .int, .istore 5) := by decide +kernel
theorem fe_261_179 : am_fe 261 179 = some (12, some .int, .aload_n 0) := by decide +kernel
theorem fe_261_180 : am_fe 261 180 = some (12, some .int, .invokevirtual 494) := by decide +kernel
theorem fe_261_183 : am_fe 261 183 = some (12, some .int, .iinc 7 1) := by decide +kernel
theorem fe_261_186 : am_fe 261 186 = some (12, some .int, .goto (-118)) := by decide +kernel
theorem fe_261_189 : am_fe 261 189 = some (12, some .int, .aload_n 0) := by decide +kernel
theorem fe_261_190 : am_fe 261 190 = some (12, some .int, .getfield 9) := by decide +kernel
theorem fe_261_193 : am_fe 261 193 = some (12, some .int, .bipush 7) := by decide +kernel
theorem fe_261_195 : am_fe 261 195 = some (12, some .int, .iload 4) := by decide +kernel
theorem fe_261_197 : am_fe 261 197 = some (12, some .int, .iastore) := by decide +kernel
theorem fe_261_198 : am_fe 261 198 = some (12, some .int, .iload 6) := by decide +kernel
theorem fe_261_200 : am_fe 261 200 = some (12, some .int, .ireturn) := by decide +kernel
theorem fe_262_0 : am_fe 262 0 = some (12, some .int, .iconst 0) := by decide +kernel
theorem fe_262_1 : am_fe 262 1 = some (12, some .int, .istore_n 2) := by decide +kernel
theorem fe_262_2 : am_fe 262 2 = some (12, some .int, .iconst 0) := by decide +kernel
theorem fe_262_3 : am_fe 262 3 = some (12, some .int, .istore_n 3) := by decide +kernel
theorem fe_262_4 : am_fe 262 4 = some (12, some .int, .iload_n 3) := by decide +kernel
theorem fe_262_5 : am_fe 262 5 = some (12, some .int, .aload_n 0) := by decide +kernel
theorem fe_262_6 : am_fe 262 6 = some (12, some .int, .getfield 9) := by decide +kernel
theorem fe_262_9 : am_fe 262 9 = some (12, some .int, .iconst 4) := by decide +kernel
theorem fe_262_10 : am_fe 262 10 = some (12, some .int, .iaload) := by decide +kernel
theorem fe_262_11 : am_fe 262 11 = some (12, some .int, .if_icmp .ge 27) := by decide +kernel
theorem fe_262_14 : am_fe 262 14 = some (12, some .int, .iload_n 2) := by decide +kernel
theorem fe_262_15 : am_fe 262 15 = some (12, some .int, .aload_n 0) := by decide +kernel
theorem fe_262_16 : am_fe 262 16 = some (12, some .int, .getfield 46) := by decide +kernel
theorem fe_262_19 : am_fe 262 19 = some (12, some .int, .iload_n 3) := by decide +kernel
theorem fe_262_20 : am_fe 262 20 = some (12, some .int, .iaload) := by decide +kernel
theorem fe_262_21 : am_fe 262 21 = some (12, some .int, .iload_n 1) := by decide +kernel
theorem fe_262_22 : am_fe 262 22 = some (12, some .int, .if_icmp .ne 7) := by decide +kernel
theorem fe_262_25 : am_fe 262 25 = some (12, some .int, .iconst 1) := by decide +kernel
theorem fe_262_26 : am_fe 262 26 = some (12, some .int, .goto 4) := by decide +kernel
theorem fe_262_29 : am_fe 262 29 = some (12, some .int, .iconst 0) := by decide +kernel
theorem fe_262_30 : am_fe 262 30 = some (12, some .int, .iadd) := by decide +kernel
theorem fe_262_31 : am_fe 262 31 = some (12, some .int, .istore_n 2) := by decide +kernel
theorem fe_262_32 : am_fe 262 32 = some (12, some .int, .iinc 3 1) := by decide +kernel
theorem fe_262_35 : am_fe 262 35 = some (12, some .int, .goto (-31)) := by decide +kernel
theorem fe_262_38 : am_fe 262 38 = some (12, some .int, .iload_n 2) := by decide +kernel
theorem fe_262_39 : am_fe 262 39 = some (12, some .int, .ireturn) := by decide +kernel
theorem fe_263_0 : am_fe 263 0 = some (12, some .int, .aload_n 0) := by decide +kernel
theorem fe_263_1 : am_fe 263 1 = some (12, some .int, .getfield 9) := by decide +kernel
theorem fe_263_4 : am_fe 263 4 = some (12, some .int, .bipush 7) := by decide +kernel
theorem fe_263_6 : am_fe 263 6 = some (12, some .int, .aload_n 0) := by decide +kernel
theorem fe_263_7 : am_fe 263 7 = some (12, some .int, .getfield 9) := by decide +kernel
theorem fe_263_10 : am_fe 263 10 = some (12, some .int, .bipush 7) := by decide +kernel
theorem fe_263_12 : am_fe 263 12 = some (12, some .int, .iaload) := by decide +kernel
theorem fe_263_13 : am_fe 263 13 = some (12, some .int, .i2l) := by decide +kernel
theorem fe_263_14 : am_fe 263 14 = some (12, some .int, .ldc2_w 526) := by decide +kernel
theorem fe_263_17 : am_fe 263 17 = some (12, some .int, .lmul) := by decide +kernel
theorem fe_263_18 : am_fe 263 18 = some (12, some .int, .ldc2_w 528) := by decide +kernel
theorem fe_263_21 : am_fe 263 21 = some (12, some .int, .ladd) := by decide +kernel
theorem fe_263_22 : am_fe 263 22 = some (12, some .int, .ldc2_w 530) := by decide +kernel
theorem fe_263_25 : am_fe 263 25 = some (12, some .int, .lrem) := by decide +kernel
theorem fe_263_26 : am_fe 263 26 = some (12, some .int, .l2i) := by decide +kernel
theorem fe_263_27 : am_fe 263 27 = some (12, some .int, .iastore) := by decide +kernel
theorem fe_263_28 : am_fe 263 28 = some (12, some .int, .aload_n 0) := by decide +kernel
theorem fe_263_29 : am_fe 263 29 = some (12, some .int, .getfield 9) := by decide +kernel
theorem fe_263_32 : am_fe 263 32 = some (12, some .int, .bipush 7) := by decide +kernel
theorem fe_263_34 : am_fe 263 34 = some (12, some .int, .iaload) := by decide +kernel
theorem fe_263_35 : am_fe 263 35 = some (12, some .int, .ldc_w 532) := by decide +kernel
theorem fe_263_38 : am_fe 263 38 = some (12, some .int, .idiv) := by decide +kernel
theorem fe_263_39 : am_fe 263 39 = some (12, some .int, .iload_n 1) := by decide +kernel
theorem fe_263_40 : am_fe 263 40 = some (12, some .int, .irem) := by decide +kernel
theorem fe_263_41 : am_fe 263 41 = some (12, some .int, .ireturn) := by decide +kernel
theorem fe_264_0 : am_fe 264 0 = some (12, some .int, .iload_n 1) := by decide +kernel
theorem fe_264_1 : am_fe 264 1 = some (12, some .int, .tableswitch 151 0 12 #[67, 74, 81, 88, 95, 102, 107, 115, 123, 128, 133, 138, 146]) := by decide +kernel
theorem fe_264_68 : am_fe 264 68 = some (12, some .int, .aload_n 0) := by decide +kernel
theorem fe_264_69 : am_fe 264 69 = some (12, some .int, .getfield 9) := by decide +kernel
theorem fe_264_72 : am_fe 264 72 = some (12, some .int, .iconst 0) := by decide +kernel
theorem fe_264_73 : am_fe 264 73 = some (12, some .int, .iaload) := by decide +kernel
theorem fe_264_74 : am_fe 264 74 = some (12, some .int, .ireturn) := by decide +kernel
theorem fe_264_75 : am_fe 264 75 = some (12, some .int, .aload_n 0) := by decide +kernel
theorem fe_264_76 : am_fe 264 76 = some (12, some .int, .getfield 9) := by decide +kernel
theorem fe_264_79 : am_fe 264 79 = some (12, some .int, .iconst 1) := by decide +kernel
theorem fe_264_80 : am_fe 264 80 = some (12, some .int, .iaload) := by decide +kernel
theorem fe_264_81 : am_fe 264 81 = some (12, some .int, .ireturn) := by decide +kernel
theorem fe_264_82 : am_fe 264 82 = some (12, some .int, .aload_n 0) := by decide +kernel
theorem fe_264_83 : am_fe 264 83 = some (12, some .int, .getfield 9) := by decide +kernel
theorem fe_264_86 : am_fe 264 86 = some (12, some .int, .iconst 2) := by decide +kernel
theorem fe_264_87 : am_fe 264 87 = some (12, some .int, .iaload) := by decide +kernel
theorem fe_264_88 : am_fe 264 88 = some (12, some .int, .ireturn) := by decide +kernel
theorem fe_264_89 : am_fe 264 89 = some (12, some .int, .aload_n 0) := by decide +kernel
theorem fe_264_90 : am_fe 264 90 = some (12, some .int, .getfield 9) := by decide +kernel
theorem fe_264_93 : am_fe 264 93 = some (12, some .int, .iconst 3) := by decide +kernel
theorem fe_264_94 : am_fe 264 94 = some (12, some .int, .iaload) := by decide +kernel
theorem fe_264_95 : am_fe 264 95 = some (12, some .int, .ireturn) := by decide +kernel
theorem fe_264_96 : am_fe 264 96 = some (12, some .int, .aload_n 0) := by decide +kernel
theorem fe_264_97 : am_fe 264 97 = some (12, some .int, .getfield 9) := by decide +kernel
theorem fe_264_100 : am_fe 264 100 = some (12, some .int, .iconst 4) := by decide +kernel
theorem fe_264_101 : am_fe 264 101 = some (12, some .int, .iaload) := by decide +kernel
theorem fe_264_102 : am_fe 264 102 = some (12, some .int, .ireturn) := by decide +kernel
theorem fe_264_103 : am_fe 264 103 = some (12, some .int, .aload_n 0) := by decide +kernel
theorem fe_264_104 : am_fe 264 104 = some (12, some .int, .getfield 354) := by decide +kernel
theorem fe_264_107 : am_fe 264 107 = some (12, some .int, .ireturn) := by decide +kernel
theorem fe_264_108 : am_fe 264 108 = some (12, some .int, .aload_n 0) := by decide +kernel
theorem fe_264_109 : am_fe 264 109 = some (12, some .int, .getfield 9) := by decide +kernel
theorem fe_264_112 : am_fe 264 112 = some (12, some .int, .bipush 8) := by decide +kernel
theorem fe_264_114 : am_fe 264 114 = some (12, some .int, .iaload) := by decide +kernel
theorem fe_264_115 : am_fe 264 115 = some (12, some .int, .ireturn) := by decide +kernel
theorem fe_264_116 : am_fe 264 116 = some (12, some .int, .aload_n 0) := by decide +kernel
theorem fe_264_117 : am_fe 264 117 = some (12, some .int, .getfield 9) := by decide +kernel
theorem fe_264_120 : am_fe 264 120 = some (12, some .int, .bipush 6) := by decide +kernel
theorem fe_264_122 : am_fe 264 122 = some (12, some .int, .iaload) := by decide +kernel
theorem fe_264_123 : am_fe 264 123 = some (12, some .int, .ireturn) := by decide +kernel
theorem fe_264_124 : am_fe 264 124 = some (12, some .int, .aload_n 0) := by decide +kernel
theorem fe_264_125 : am_fe 264 125 = some (12, some .int, .invokevirtual 427) := by decide +kernel
theorem fe_264_128 : am_fe 264 128 = some (12, some .int, .ireturn) := by decide +kernel
theorem fe_264_129 : am_fe 264 129 = some (12, some .int, .aload_n 0) := by decide +kernel
theorem fe_264_130 : am_fe 264 130 = some (12, some .int, .invokevirtual 523) := by decide +kernel
theorem fe_264_133 : am_fe 264 133 = some (12, some .int, .ireturn) := by decide +kernel
theorem fe_264_134 : am_fe 264 134 = some (12, some .int, .aload_n 0) := by decide +kernel
theorem fe_264_135 : am_fe 264 135 = some (12, some .int, .getfield 346) := by decide +kernel
theorem fe_264_138 : am_fe 264 138 = some (12, some .int, .ireturn) := by decide +kernel
theorem fe_264_139 : am_fe 264 139 = some (12, some .int, .aload_n 0) := by decide +kernel
theorem fe_264_140 : am_fe 264 140 = some (12, some .int, .getfield 9) := by decide +kernel
theorem fe_264_143 : am_fe 264 143 = some (12, some .int, .bipush 7) := by decide +kernel
theorem fe_264_145 : am_fe 264 145 = some (12, some .int, .iaload) := by decide +kernel
theorem fe_264_146 : am_fe 264 146 = some (12, some .int, .ireturn) := by decide +kernel
theorem fe_264_147 : am_fe 264 147 = some (12, some .int, .aload_n 0) := by decide +kernel
theorem fe_264_148 : am_fe 264 148 = some (12, some .int, .getfield 157) := by decide +kernel
theorem fe_264_151 : am_fe 264 151 = some (12, some .int, .ireturn) := by decide +kernel
theorem fe_264_152 : am_fe 264 152 = some (12, some .int, .iconst (-1)) := by decide +kernel
theorem fe_264_153 : am_fe 264 153 = some (12, some .int, .ireturn) := by decide +kernel
theorem fe_265_0 : am_fe 265 0 = some (12, some .int, .iload_n 1) := by decide +kernel
theorem fe_265_1 : am_fe 265 1 = some (12, some .int, .i2l) := by decide +kernel
theorem fe_265_2 : am_fe 265 2 = some (12, some .int, .lconst 0) := by decide +kernel
theorem fe_265_3 : am_fe 265 3 = some (12, some .int, .ldc2_w 550) := by decide +kernel
theorem fe_265_6 : am_fe 265 6 = some (12, some .int, .invokestatic 143) := by decide +kernel
theorem fe_265_9 : am_fe 265 9 = some (12, some .int, .ifCond .ne 5) := by decide +kernel
theorem fe_265_12 : am_fe 265 12 = some (12, some .int, .iconst (-1)) := by decide +kernel
theorem fe_265_13 : am_fe 265 13 = some (12, some .int, .ireturn) := by decide +kernel
theorem fe_265_14 : am_fe 265 14 = some (12, some .int, .aload_n 0) := by decide +kernel
theorem fe_265_15 : am_fe 265 15 = some (12, some .int, .getfield 136) := by decide +kernel
theorem fe_265_18 : am_fe 265 18 = some (12, some .int, .iload_n 1) := by decide +kernel
theorem fe_265_19 : am_fe 265 19 = some (12, some .int, .iconst 1) := by decide +kernel
theorem fe_265_20 : am_fe 265 20 = some (12, some .int, .bastore) := by decide +kernel
theorem fe_265_21 : am_fe 265 21 = some (12, some .int, .aload_n 0) := by decide +kernel
theorem fe_265_22 : am_fe 265 22 = some (12, some .int, .iload_n 1) := by decide +kernel
theorem fe_265_23 : am_fe 265 23 = some (12, some .int, .iconst 0) := by decide +kernel
theorem fe_265_24 : am_fe 265 24 = some (12, some .int, .invokevirtual 481) := by decide +kernel
theorem fe_265_27 : am_fe 265 27 = some (12, some .int, .aload_n 0) := by decide +kernel
theorem fe_265_28 : am_fe 265 28 = some (12, some .int, .getfield 9) := by decide +kernel
theorem fe_265_31 : am_fe 265 31 = some (12, some .int, .bipush 6) := by decide +kernel
theorem fe_265_33 : am_fe 265 33 = some (12, some .int, .iaload) := by decide +kernel
theorem fe_265_34 : am_fe 265 34 = some (12, some .int, .ireturn) := by decide +kernel
theorem fe_266_0 : am_fe 266 0 = some (12, some .int, .iload_n 1) := by decide +kernel
theorem fe_266_1 : am_fe 266 1 = some (12, some .int, .i2l) := by decide +kernel
theorem fe_266_2 : am_fe 266 2 = some (12, some .int, .lconst 0) := by decide +kernel
theorem fe_266_3 : am_fe 266 3 = some (12, some .int, .ldc2_w 550) := by decide +kernel
theorem fe_266_6 : am_fe 266 6 = some (12, some .int, .invokestatic 143) := by decide +kernel
theorem fe_266_9 : am_fe 266 9 = some (12, some .int, .ifCond .eq 12) := by decide +kernel
theorem fe_266_12 : am_fe 266 12 = some (12, some .int, .aload_n 0) := by decide +kernel
theorem fe_266_13 : am_fe 266 13 = some (12, some .int, .getfield 136) := by decide +kernel
theorem fe_266_16 : am_fe 266 16 = some (12, some .int, .iload_n 1) := by decide +kernel
theorem fe_266_17 : am_fe 266 17 = some (12, some .int, .baload) := by decide +kernel
theorem fe_266_18 : am_fe 266 18 = some (12, some .int, .ifCond .ne 5) := by decide +kernel
theorem fe_266_21 : am_fe 266 21 = some (12, some .int, .iconst (-1)) := by decide +kernel
theorem fe_266_22 : am_fe 266 22 = some (12, some .int, .ireturn) := by decide +kernel
theorem fe_266_23 : am_fe 266 23 = some (12, some .int, .aload_n 0) := by decide +kernel
theorem fe_266_24 : am_fe 266 24 = some (12, some .int, .iload_n 1) := by decide +kernel
theorem fe_266_25 : am_fe 266 25 = some (12, some .int, .iconst 1) := by decide +kernel
theorem fe_266_26 : am_fe 266 26 = some (12, some .int, .invokevirtual 481) := by decide +kernel
theorem fe_266_29 : am_fe 266 29 = some (12, some .int, .aload_n 0) := by decide +kernel
theorem fe_266_30 : am_fe 266 30 = some (12, some .int, .getfield 9) := by decide +kernel
theorem fe_266_33 : am_fe 266 33 = some (12, some .int, .bipush 6) := by decide +kernel
theorem fe_266_35 : am_fe 266 35 = some (12, some .int, .iaload) := by decide +kernel
theorem fe_266_36 : am_fe 266 36 = some (12, some .int, .ireturn) := by decide +kernel
theorem fe_267_0 : am_fe 267 0 = some (18, some .boolean, .new 7) := by decide +kernel
theorem fe_267_3 : am_fe 267 3 = some (18, some .boolean, .dup) := by decide +kernel
theorem fe_267_4 : am_fe 267 4 = some (18, some .boolean, .invokespecial 9) := by decide +kernel
theorem fe_267_7 : am_fe 267 7 = some (18, some .boolean, .astore_n 1) := by decide +kernel
theorem fe_267_8 : am_fe 267 8 = some (18, some .boolean, .new 10) := by decide +kernel
theorem fe_267_11 : am_fe 267 11 = some (18, some .boolean, .dup) := by decide +kernel
theorem fe_267_12 : am_fe 267 12 = some (18, some .boolean, .invokespecial 12) := by decide +kernel
theorem fe_267_15 : am_fe 267 15 = some (18, some .boolean, .astore_n 2) := by decide +kernel
theorem fe_267_16 : am_fe 267 16 = some (18, some .boolean, .iconst 0) := by decide +kernel
theorem fe_267_17 : am_fe 267 17 = some (18, some .boolean, .istore_n 3) := by decide +kernel
theorem fe_267_18 : am_fe 267 18 = some (18, some .boolean, .iload_n 3) := by decide +kernel
theorem fe_267_19 : am_fe 267 19 = some (18, some .boolean, .aload_n 0) := by decide +kernel
theorem fe_267_20 : am_fe 267 20 = some (18, some .boolean, .arraylength) := by decide +kernel
theorem fe_267_21 : am_fe 267 21 = some (18, some .boolean, .bipush 6) := by decide +kernel
theorem fe_267_23 : am_fe 267 23 = some (18, some .boolean, .isub) := by decide +kernel
theorem fe_267_24 : am_fe 267 24 = some (18, some .boolean, .if_icmp .gt 975) := by decide +kernel
theorem fe_267_27 : am_fe 267 27 = some (18, some .boolean, .aload_n 0) := by decide +kernel
theorem fe_267_28 : am_fe 267 28 = some (18, some .boolean, .iload_n 3) := by decide +kernel
theorem fe_267_29 : am_fe 267 29 = some (18, some .boolean, .iaload) := by decide +kernel
theorem fe_267_30 : am_fe 267 30 = some (18, some .boolean, .bipush 31) := by decide +kernel
theorem fe_267_32 : am_fe 267 32 = some (18, some .boolean, .iand) := by decide +kernel
theorem fe_267_33 : am_fe 267 33 = some (18, some .boolean, .tableswitch 960 0 26 #[123, 186, 209, 222, 235, 258, 291, 324, 337, 370, 393, 442, 475, 488, 531, 564, 597, 650, 683, 726, 759, 792, 825, 848, 891, 914, 937]) := by decide +kernel
theorem fe_267_156 : am_fe 267 156 = some (18, some .boolean, .aload_n 1) := by decide +kernel
theorem fe_267_157 : am_fe 267 157 = some (18, some .boolean, .aload_n 0) := by decide +kernel
theorem fe_267_158 : am_fe 267 158 = some (18, some .boolean, .iload_n 3) := by decide +kernel
theorem fe_267_159 : am_fe 267 159 = some (18, some .boolean, .iconst 1) := by decide +kernel
theorem fe_267_160 : am_fe 267 160 = some (18, some .boolean, .iadd) := by decide +kernel
theorem fe_267_161 : am_fe 267 161 = some (18, some .boolean, .iaload) := by decide +kernel
theorem fe_267_162 : am_fe 267 162 = some (18, some .boolean, .aload_n 0) := by decide +kernel
theorem fe_267_163 : am_fe 267 163 = some (18, some .boolean, .iload_n 3) := by decide +kernel
theorem fe_267_164 : am_fe 267 164 = some (18, some .boolean, .iconst 2) := by decide +kernel
theorem fe_267_165 : am_fe 267 165 = some (18, some .boolean, .iadd) := by decide +kernel
theorem fe_267_166 : am_fe 267 166 = some (18, some .boolean, .iaload) := by decide +kernel
theorem fe_267_167 : am_fe 267 167 = some (18, some .boolean, .aload_n 0) := by decide +kernel
theorem fe_267_168 : am_fe 267 168 = some (18, some .boolean, .iload_n 3) := by decide +kernel
theorem fe_267_169 : am_fe 267 169 = some (18, some .boolean, .iconst 3) := by decide +kernel
theorem fe_267_170 : am_fe 267 170 = some (18, some .boolean, .iadd) := by decide +kernel
theorem fe_267_171 : am_fe 267 171 = some (18, some .boolean, .iaload) := by decide +kernel
theorem fe_267_172 : am_fe 267 172 = some (18, some .boolean, .aload_n 0) := by decide +kernel
theorem fe_267_173 : am_fe 267 173 = some (18, some .boolean, .iload_n 3) := by decide +kernel
theorem fe_267_174 : am_fe 267 174 = some (18, some .boolean, .iconst 4) := by decide +kernel
theorem fe_267_175 : am_fe 267 175 = some (18, some .boolean, .iadd) := by decide +kernel
theorem fe_267_176 : am_fe 267 176 = some (18, some .boolean, .iaload) := by decide +kernel
theorem fe_267_177 : am_fe 267 177 = some (18, some .boolean, .aload_n 0) := by decide +kernel
theorem fe_267_178 : am_fe 267 178 = some (18, some .boolean, .iload_n 3) := by decide +kernel
theorem fe_267_179 : am_fe 267 179 = some (18, some .boolean, .iconst 5) := by decide +kernel
theorem fe_267_180 : am_fe 267 180 = some (18, some .boolean, .iadd) := by decide +kernel
theorem fe_267_181 : am_fe 267 181 = some (18, some .boolean, .iaload) := by decide +kernel
theorem fe_267_182 : am_fe 267 182 = some (18, some .boolean, .invokevirtual 13) := by decide +kernel
theorem fe_267_185 : am_fe 267 185 = some (18, some .boolean, .aload_n 2) := by decide +kernel
theorem fe_267_186 : am_fe 267 186 = some (18, some .boolean, .aload_n 0) := by decide +kernel
theorem fe_267_187 : am_fe 267 187 = some (18, some .boolean, .iload_n 3) := by decide +kernel
theorem fe_267_188 : am_fe 267 188 = some (18, some .boolean, .iconst 1) := by decide +kernel
theorem fe_267_189 : am_fe 267 189 = some (18, some .boolean, .iadd) := by decide +kernel
theorem fe_267_190 : am_fe 267 190 = some (18, some .boolean, .iaload) := by decide +kernel
theorem fe_267_191 : am_fe 267 191 = some (18, some .boolean, .aload_n 0) := by decide +kernel
theorem fe_267_192 : am_fe 267 192 = some (18, some .boolean, .iload_n 3) := by decide +kernel
theorem fe_267_193 : am_fe 267 193 = some (18, some .boolean, .iconst 2) := by decide +kernel
theorem fe_267_194 : am_fe 267 194 = some (18, some .boolean, .iadd) := by decide +kernel
theorem fe_267_195 : am_fe 267 195 = some (18, some .boolean, .iaload) := by decide +kernel
theorem fe_267_196 : am_fe 267 196 = some (18, some .boolean, .aload_n 0) := by decide +kernel
theorem fe_267_197 : am_fe 267 197 = some (18, some .boolean, .iload_n 3) := by decide +kernel
theorem fe_267_198 : am_fe 267 198 = some (18, some .boolean, .iconst 3) := by decide +kernel
theorem fe_267_199 : am_fe 267 199 = some (18, some .boolean, .iadd) := by decide +kernel
theorem fe_267_200 : am_fe 267 200 = some (18, some .boolean, .iaload) := by decide +kernel
theorem fe_267_201 : am_fe 267 201 = some (18, some .boolean, .aload_n 0) := by decide +kernel
theorem fe_267_202 : am_fe 267 202 = some (18, some .boolean, .iload_n 3) := by decide +kernel
theorem fe_267_203 : am_fe 267 203 = some (18, some .boolean, .iconst 4) := by decide +kernel
theorem fe_267_204 : am_fe 267 204 = some (18, some .boolean, .iadd) := by decide +kernel
theorem fe_267_205 : am_fe 267 205 = some (18, some .boolean, .iaload) := by decide +kernel
theorem fe_267_206 : am_fe 267 206 = some (18, some .boolean, .aload_n 0) := by decide +kernel
theorem fe_267_207 : am_fe 267 207 = some (18, some .boolean, .iload_n 3) := by decide +kernel
theorem fe_267_208 : am_fe 267 208 = some (18, some .boolean, .iconst 5) := by decide +kernel
theorem fe_267_209 : am_fe 267 209 = some (18, some .boolean, .iadd) := by decide +kernel
theorem fe_267_210 : am_fe 267 210 = some (18, some .boolean, .iaload) := by decide +kernel
theorem fe_267_211 : am_fe 267 211 = some (18, some .boolean, .invokevirtual 17) := by decide +kernel
theorem fe_267_214 : am_fe 267 214 = some (18, some .boolean, .if_icmp .eq 779) := by decide +kernel
theorem fe_267_217 : am_fe 267 217 = some (18, some .boolean, .iconst 0) := by decide +kernel
theorem fe_267_218 : am_fe 267 218 = some (18, some .boolean, .ireturn) := by decide +kernel
theorem fe_267_219 : am_fe 267 219 = some (18, some .boolean, .aload_n 1) := by decide +kernel
theorem fe_267_220 : am_fe 267 220 = some (18, some .boolean, .aload_n 0) := by decide +kernel
theorem fe_267_221 : am_fe 267 221 = some (18, some .boolean, .iload_n 3) := by decide +kernel
theorem fe_267_222 : am_fe 267 222 = some (18, some .boolean, .iconst 1) := by decide +kernel
theorem fe_267_223 : am_fe 267 223 = some (18, some .boolean, .iadd) := by decide +kernel
theorem fe_267_224 : am_fe 267 224 = some (18, some .boolean, .iaload) := by decide +kernel
theorem fe_267_225 : am_fe 267 225 = some (18, some .boolean, .invokevirtual 18) := by decide +kernel
theorem fe_267_228 : am_fe 267 228 = some (18, some .boolean, .aload_n 2) := by decide +kernel
theorem fe_267_229 : am_fe 267 229 = some (18, some .boolean, .aload_n 0) := by decide +kernel
theorem fe_267_230 : am_fe 267 230 = some (18, some .boolean, .iload_n 3) := by decide +kernel
theorem fe_267_231 : am_fe 267 231 = some (18, some .boolean, .iconst 1) := by decide +kernel
theorem fe_267_232 : am_fe 267 232 = some (18, some .boolean, .iadd) := by decide +kernel
theorem fe_267_233 : am_fe 267 233 = some (18, some .boolean, .iaload) := by decide +kernel
theorem fe_267_234 : am_fe 267 234 = some (18, some .boolean, .invokevirtual 22) := by decide +kernel
theorem fe_267_237 : am_fe 267 237 = some (18, some .boolean, .if_icmp .eq 756) := by decide +kernel
theorem fe_267_240 : am_fe 267 240 = some (18, some .boolean, .iconst 0) := by decide +kernel
theorem fe_267_241 : am_fe 267 241 = some (18, some .boolean, .ireturn) := by decide +kernel
theorem fe_267_242 : am_fe 267 242 = some (18, some .boolean, .aload_n 1) := by decide +kernel
theorem fe_267_243 : am_fe 267 243 = some (18, some .boolean, .invokevirtual 23) := by decide +kernel
theorem fe_267_246 : am_fe 267 246 = some (18, some .boolean, .aload_n 2) := by decide +kernel
theorem fe_267_247 : am_fe 267 247 = some (18, some .boolean, .invokevirtual 27) := by decide +kernel
theorem fe_267_250 : am_fe 267 250 = some (18, some .boolean, .if_icmp .eq 743) := by decide +kernel
theorem fe_267_253 : am_fe 267 253 = some (18, some .boolean, .iconst 0) := by decide +kernel
theorem fe_267_254 : am_fe 267 254 = some (18, some .boolean, .ireturn) := by decide +kernel
theorem fe_267_255 : am_fe 267 255 = some (18, some .boolean, .aload_n 1) := by decide +kernel
theorem fe_267_256 : am_fe 267 256 = some (18, some .boolean, .invokevirtual 28) := by decide +kernel
theorem fe_267_259 : am_fe 267 259 = some (18, some .boolean, .aload_n 2) := by decide +kernel
theorem fe_267_260 : am_fe 267 260 = some (18, some .boolean, .invokevirtual 31) := by decide +kernel
theorem fe_267_263 : am_fe 267 263 = some (18, some .boolean, .if_icmp .eq 730) := by decide +kernel
theorem fe_267_266 : am_fe 267 266 = some (18, some .boolean, .iconst 0) := by decide +kernel
theorem fe_267_267 : am_fe 267 267 = some (18, some .boolean, .ireturn) := by decide +kernel
theorem fe_267_268 : am_fe 267 268 = some (18, some .boolean, .aload_n 1) := by decide +kernel
theorem fe_267_269 : am_fe 267 269 = some (18, some .boolean, .aload_n 0) := by decide +kernel
theorem fe_267_270 : am_fe 267 270 = some (18, some .boolean, .iload_n 3) := by decide +kernel
theorem fe_267_271 : am_fe 267 271 = some (18, some .boolean, .iconst 1) := by decide +kernel
theorem fe_267_272 : am_fe 267 272 = some (18, some .boolean, .iadd) := by decide +kernel
theorem fe_267_273 : am_fe 267 273 = some (18, some .boolean, .iaload) := by decide +kernel
theorem fe_267_274 : am_fe 267 274 = some (18, some .boolean, .invokevirtual 32) := by decide +kernel
theorem fe_267_277 : am_fe 267 277 = some (18, some .boolean, .aload_n 2) := by decide +kernel
theorem fe_267_278 : am_fe 267 278 = some (18, some .boolean, .aload_n 0) := by decide +kernel
theorem fe_267_279 : am_fe 267 279 = some (18, some .boolean, .iload_n 3) := by decide +kernel
theorem fe_267_280 : am_fe 267 280 = some (18, some .boolean, .iconst 1) := by decide +kernel
theorem fe_267_281 : am_fe 267 281 = some (18, some .boolean, .iadd) := by decide +kernel
theorem fe_267_282 : am_fe 267 282 = some (18, some .boolean, .iaload) := by decide +kernel
theorem fe_267_283 : am_fe 267 283 = some (18, some .boolean, .invokevirtual 35) := by decide +kernel
theorem fe_267_286 : am_fe 267 286 = some (18, some .boolean, .if_icmp .eq 707) := by decide +kernel
theorem fe_267_289 : am_fe 267 289 = some (18, some .boolean, .iconst 0) := by decide +kernel
theorem fe_267_290 : am_fe 267 290 = some (18, some .boolean, .ireturn) := by decide +kernel
theorem fe_267_291 : am_fe 267 291 = some (18, some .boolean, .aload_n 1) := by decide +kernel
theorem fe_267_292 : am_fe 267 292 = some (18, some .boolean, .aload_n 0) := by decide +kernel
theorem fe_267_293 : am_fe 267 293 = some (18, some .boolean, .iload_n 3) := by decide +kernel
theorem fe_267_294 : am_fe 267 294 = some (18, some .boolean, .iconst 1) := by decide +kernel
theorem fe_267_295 : am_fe 267 295 = some (18, some .boolean, .iadd) := by decide +kernel
theorem fe_267_296 : am_fe 267 296 = some (18, some .boolean, .iaload) := by decide +kernel
theorem fe_267_297 : am_fe 267 297 = some (18, some .boolean, .aload_n 0) := by decide +kernel
theorem fe_267_298 : am_fe 267 298 = some (18, some .boolean, .iload_n 3) := by decide +kernel
theorem fe_267_299 : am_fe 267 299 = some (18, some .boolean, .iconst 2) := by decide +kernel
theorem fe_267_300 : am_fe 267 300 = some (18, some .boolean, .iadd) := by decide +kernel
theorem fe_267_301 : am_fe 267 301 = some (18, some .boolean, .iaload) := by decide +kernel
theorem fe_267_302 : am_fe 267 302 = some (18, some .boolean, .invokevirtual 36) := by decide +kernel
theorem fe_267_305 : am_fe 267 305 = some (18, some .boolean, .aload_n 2) := by decide +kernel
theorem fe_267_306 : am_fe 267 306 = some (18, some .boolean, .aload_n 0) := by decide +kernel
theorem fe_267_307 : am_fe 267 307 = some (18, some .boolean, .iload_n 3) := by decide +kernel
theorem fe_267_308 : am_fe 267 308 = some (18, some .boolean, .iconst 1) := by decide +kernel
theorem fe_267_309 : am_fe 267 309 = some (18, some .boolean, .iadd) := by decide +kernel
theorem fe_267_310 : am_fe 267 310 = some (18, some .boolean, .iaload) := by decide +kernel
theorem fe_267_311 : am_fe 267 311 = some (18, some .boolean, .aload_n 0) := by decide +kernel
theorem fe_267_312 : am_fe 267 312 = some (18, some .boolean, .iload_n 3) := by decide +kernel
theorem fe_267_313 : am_fe 267 313 = some (18, some .boolean, .iconst 2) := by decide +kernel
theorem fe_267_314 : am_fe 267 314 = some (18, some .boolean, .iadd) := by decide +kernel
theorem fe_267_315 : am_fe 267 315 = some (18, some .boolean, .iaload) := by decide +kernel
theorem fe_267_316 : am_fe 267 316 = some (18, some .boolean, .invokevirtual 40) := by decide +kernel
theorem fe_267_319 : am_fe 267 319 = some (18, some .boolean, .if_icmp .eq 674) := by decide +kernel
theorem fe_267_322 : am_fe 267 322 = some (18, some .boolean, .iconst 0) := by decide +kernel
theorem fe_267_323 : am_fe 267 323 = some (18, some .boolean, .ireturn) := by decide +kernel
theorem fe_267_324 : am_fe 267 324 = some (18, some .boolean, .aload_n 1) := by decide +kernel
theorem fe_267_325 : am_fe 267 325 = some (18, some .boolean, .aload_n 0) := by decide +kernel
theorem fe_267_326 : am_fe 267 326 = some (18, some .boolean, .iload_n 3) := by decide +kernel
theorem fe_267_327 : am_fe 267 327 = some (18, some .boolean, .iconst 1) := by decide +kernel
theorem fe_267_328 : am_fe 267 328 = some (18, some .boolean, .iadd) := by decide +kernel
theorem fe_267_329 : am_fe 267 329 = some (18, some .boolean, .iaload) := by decide +kernel
theorem fe_267_330 : am_fe 267 330 = some (18, some .boolean, .aload_n 0) := by decide +kernel
theorem fe_267_331 : am_fe 267 331 = some (18, some .boolean, .iload_n 3) := by decide +kernel
theorem fe_267_332 : am_fe 267 332 = some (18, some .boolean, .iconst 2) := by decide +kernel
theorem fe_267_333 : am_fe 267 333 = some (18, some .boolean, .iadd) := by decide +kernel
theorem fe_267_334 : am_fe 267 334 = some (18, some .boolean, .iaload) := by decide +kernel
theorem fe_267_335 : am_fe 267 335 = some (18, some .boolean, .invokevirtual 41) := by decide +kernel
theorem fe_267_338 : am_fe 267 338 = some (18, some .boolean, .aload_n 2) := by decide +kernel
theorem fe_267_339 : am_fe 267 339 = some (18, some .boolean, .aload_n 0) := by decide +kernel
theorem fe_267_340 : am_fe 267 340 = some (18, some .boolean, .iload_n 3) := by decide +kernel
theorem fe_267_341 : am_fe 267 341 = some (18, some .boolean, .iconst 1) := by decide +kernel
theorem fe_267_342 : am_fe 267 342 = some (18, some .boolean, .iadd) := by decide +kernel
theorem fe_267_343 : am_fe 267 343 = some (18, some .boolean, .iaload) := by decide +kernel
theorem fe_267_344 : am_fe 267 344 = some (18, some .boolean, .aload_n 0) := by decide +kernel
theorem fe_267_345 : am_fe 267 345 = some (18, some .boolean, .iload_n 3) := by decide +kernel
theorem fe_267_346 : am_fe 267 346 = some (18, some .boolean, .iconst 2) := by decide +kernel
theorem fe_267_347 : am_fe 267 347 = some (18, some .boolean, .iadd) := by decide +kernel
theorem fe_267_348 : am_fe 267 348 = some (18, some .boolean, .iaload) := by decide +kernel
theorem fe_267_349 : am_fe 267 349 = some (18, some .boolean, .invokevirtual 44) := by decide +kernel
theorem fe_267_352 : am_fe 267 352 = some (18, some .boolean, .if_icmp .eq 641) := by decide +kernel
theorem fe_267_355 : am_fe 267 355 = some (18, some .boolean, .iconst 0) := by decide +kernel
theorem fe_267_356 : am_fe 267 356 = some (18, some .boolean, .ireturn) := by decide +kernel
theorem fe_267_357 : am_fe 267 357 = some (18, some .boolean, .aload_n 1) := by decide +kernel
theorem fe_267_358 : am_fe 267 358 = some (18, some .boolean, .invokevirtual 45) := by decide +kernel
theorem fe_267_361 : am_fe 267 361 = some (18, some .boolean, .aload_n 2) := by decide +kernel
theorem fe_267_362 : am_fe 267 362 = some (18, some .boolean, .invokevirtual 48) := by decide +kernel
theorem fe_267_365 : am_fe 267 365 = some (18, some .boolean, .if_icmp .eq 628) := by decide +kernel
theorem fe_267_368 : am_fe 267 368 = some (18, some .boolean, .iconst 0) := by decide +kernel
theorem fe_267_369 : am_fe 267 369 = some (18, some .boolean, .ireturn) := by decide +kernel
theorem fe_267_370 : am_fe 267 370 = some (18, some .boolean, .aload_n 1) := by decide +kernel
theorem fe_267_371 : am_fe 267 371 = some (18, some .boolean, .aload_n 0) := by decide +kernel
theorem fe_267_372 : am_fe 267 372 = some (18, some .boolean, .iload_n 3) := by decide +kernel
theorem fe_267_373 : am_fe 267 373 = some (18, some .boolean, .iconst 1) := by decide +kernel
theorem fe_267_374 : am_fe 267 374 = some (18, some .boolean, .iadd) := by decide +kernel
theorem fe_267_375 : am_fe 267 375 = some (18, some .boolean, .iaload) := by decide +kernel
theorem fe_267_376 : am_fe 267 376 = some (18, some .boolean, .aload_n 0) := by decide +kernel
theorem fe_267_377 : am_fe 267 377 = some (18, some .boolean, .iload_n 3) := by decide +kernel
theorem fe_267_378 : am_fe 267 378 = some (18, some .boolean, .iconst 2) := by decide +kernel
theorem fe_267_379 : am_fe 267 379 = some (18, some .boolean, .iadd) := by decide +kernel
theorem fe_267_380 : am_fe 267 380 = some (18, some .boolean, .iaload) := by decide +kernel
theorem fe_267_381 : am_fe 267 381 = some (18, some .boolean, .invokevirtual 49) := by decide +kernel
theorem fe_267_384 : am_fe 267 384 = some (18, some .boolean, .aload_n 2) := by decide +kernel
theorem fe_267_385 : am_fe 267 385 = some (18, some .boolean, .aload_n 0) := by decide +kernel
theorem fe_267_386 : am_fe 267 386 = some (18, some .boolean, .iload_n 3) := by decide +kernel
theorem fe_267_387 : am_fe 267 387 = some (18, some .boolean, .iconst 1) := by decide +kernel
theorem fe_267_388 : am_fe 267 388 = some (18, some .boolean, .iadd) := by decide +kernel
theorem fe_267_389 : am_fe 267 389 = some (18, some .boolean, .iaload) := by decide +kernel
theorem fe_267_390 : am_fe 267 390 = some (18, some .boolean, .aload_n 0) := by decide +kernel
theorem fe_267_391 : am_fe 267 391 = some (18, some .boolean, .iload_n 3) := by decide +kernel
theorem fe_267_392 : am_fe 267 392 = some (18, some .boolean, .iconst 2) := by decide +kernel
theorem fe_267_393 : am_fe 267 393 = some (18, some .boolean, .iadd) := by decide +kernel
theorem fe_267_394 : am_fe 267 394 = some (18, some .boolean, .iaload) := by decide +kernel
theorem fe_267_395 : am_fe 267 395 = some (18, some .boolean, .invokevirtual 52) := by decide +kernel
theorem fe_267_398 : am_fe 267 398 = some (18, some .boolean, .if_icmp .eq 595) := by decide +kernel
theorem fe_267_401 : am_fe 267 401 = some (18, some .boolean, .iconst 0) := by decide +kernel
theorem fe_267_402 : am_fe 267 402 = some (18, some .boolean, .ireturn) := by decide +kernel
theorem fe_267_403 : am_fe 267 403 = some (18, some .boolean, .aload_n 1) := by decide +kernel
theorem fe_267_404 : am_fe 267 404 = some (18, some .boolean, .aload_n 0) := by decide +kernel
theorem fe_267_405 : am_fe 267 405 = some (18, some .boolean, .iload_n 3) := by decide +kernel
theorem fe_267_406 : am_fe 267 406 = some (18, some .boolean, .iconst 1) := by decide +kernel
theorem fe_267_407 : am_fe 267 407 = some (18, some .boolean, .iadd) := by decide +kernel
theorem fe_267_408 : am_fe 267 408 = some (18, some .boolean, .iaload) := by decide +kernel
theorem fe_267_409 : am_fe 267 409 = some (18, some .boolean, .invokevirtual 53) := by decide +kernel
theorem fe_267_412 : am_fe 267 412 = some (18, some .boolean, .aload_n 2) := by decide +kernel
theorem fe_267_413 : am_fe 267 413 = some (18, some .boolean, .aload_n 0) := by decide +kernel
theorem fe_267_414 : am_fe 267 414 = some (18, some .boolean, .iload_n 3) := by decide +kernel
theorem fe_267_415 : am_fe 267 415 = some (18, some .boolean, .iconst 1) := by decide +kernel
theorem fe_267_416 : am_fe 267 416 = some (18, some .boolean, .iadd) := by decide +kernel
theorem fe_267_417 : am_fe 267 417 = some (18, some .boolean, .iaload) := by decide +kernel
theorem fe_267_418 : am_fe 267 418 = some (18, some .boolean, .invokevirtual 56) := by decide +kernel
theorem fe_267_421 : am_fe 267 421 = some (18, some .boolean, .if_icmp .eq 572) := by decide +kernel
theorem fe_267_424 : am_fe 267 424 = some (18, some .boolean, .iconst 0) := by decide +kernel
theorem fe_267_425 : am_fe 267 425 = some (18, some .boolean, .ireturn) := by decide +kernel
theorem fe_267_426 : am_fe 267 426 = some (18, some .boolean, .aload_n 1) := by decide +kernel
theorem fe_267_427 : am_fe 267 427 = some (18, some .boolean, .aload_n 0) := by decide +kernel
theorem fe_267_428 : am_fe 267 428 = some (18, some .boolean, .iload_n 3) := by decide +kernel
theorem fe_267_429 : am_fe 267 429 = some (18, some .boolean, .iconst 1) := by decide +kernel
theorem fe_267_430 : am_fe 267 430 = some (18, some .boolean, .iadd) := by decide +kernel
theorem fe_267_431 : am_fe 267 431 = some (18, some .boolean, .iaload) := by decide +kernel
theorem fe_267_432 : am_fe 267 432 = some (18, some .boolean, .aload_n 0) := by decide +kernel
theorem fe_267_433 : am_fe 267 433 = some (18, some .boolean, .iload_n 3) := by decide +kernel
theorem fe_267_434 : am_fe 267 434 = some (18, some .boolean, .iconst 2) := by decide +kernel
theorem fe_267_435 : am_fe 267 435 = some (18, some .boolean, .iadd) := by decide +kernel
theorem fe_267_436 : am_fe 267 436 = some (18, some .boolean, .iaload) := by decide +kernel
theorem fe_267_437 : am_fe 267 437 = some (18, some .boolean, .ifCond .eq 7) := by decide +kernel
theorem fe_267_440 : am_fe 267 440 = some (18, some .boolean, .iconst 1) := by decide +kernel
theorem fe_267_441 : am_fe 267 441 = some (18, some .boolean, .goto 4) := by decide +kernel
theorem fe_267_444 : am_fe 267 444 = some (18, some .boolean, .iconst 0) := by decide +kernel
theorem fe_267_445 : am_fe 267 445 = some (18, some .boolean, .invokevirtual 57) := by decide +kernel
theorem fe_267_448 : am_fe 267 448 = some (18, some .boolean, .aload_n 2) := by decide +kernel
theorem fe_267_449 : am_fe 267 449 = some (18, some .boolean, .aload_n 0) := by decide +kernel
theorem fe_267_450 : am_fe 267 450 = some (18, some .boolean, .iload_n 3) := by decide +kernel
theorem fe_267_451 : am_fe 267 451 = some (18, some .boolean, .iconst 1) := by decide +kernel
theorem fe_267_452 : am_fe 267 452 = some (18, some .boolean, .iadd) := by decide +kernel
theorem fe_267_453 : am_fe 267 453 = some (18, some .boolean, .iaload) := by decide +kernel
theorem fe_267_454 : am_fe 267 454 = some (18, some .boolean, .aload_n 0) := by decide +kernel
theorem fe_267_455 : am_fe 267 455 = some (18, some .boolean, .iload_n 3) := by decide +kernel
theorem fe_267_456 : am_fe 267 456 = some (18, some .boolean, .iconst 2) := by decide +kernel
theorem fe_267_457 : am_fe 267 457 = some (18, some .boolean, .iadd) := by decide +kernel
theorem fe_267_458 : am_fe 267 458 = some (18, some .boolean, .iaload) := by decide +kernel
theorem fe_267_459 : am_fe 267 459 = some (18, some .boolean, .ifCond .eq 7) := by decide +kernel
theorem fe_267_462 : am_fe 267 462 = some (18, some .boolean, .iconst 1) := by decide +kernel
theorem fe_267_463 : am_fe 267 463 = some (18, some .boolean, .goto 4) := by decide +kernel
theorem fe_267_466 : am_fe 267 466 = some (18, some .boolean, .iconst 0) := by decide +kernel
theorem fe_267_467 : am_fe 267 467 = some (18, some .boolean, .invokevirtual 61) := by decide +kernel
theorem fe_267_470 : am_fe 267 470 = some (18, some .boolean, .if_icmp .eq 523) := by decide +kernel
theorem fe_267_473 : am_fe 267 473 = some (18, some .boolean, .iconst 0) := by decide +kernel
theorem fe_267_474 : am_fe 267 474 = some (18, some .boolean, .ireturn) := by decide +kernel
theorem fe_267_475 : am_fe 267 475 = some (18, some .boolean, .aload_n 1) := by decide +kernel
theorem fe_267_476 : am_fe 267 476 = some (18, some .boolean, .aload_n 0) := by decide +kernel
theorem fe_267_477 : am_fe 267 477 = some (18, some .boolean, .iload_n 3) := by decide +kernel
theorem fe_267_478 : am_fe 267 478 = some (18, some .boolean, .iconst 1) := by decide +kernel
theorem fe_267_479 : am_fe 267 479 = some (18, some .boolean, .iadd) := by decide +kernel
theorem fe_267_480 : am_fe 267 480 = some (18, some .boolean, .iaload) := by decide +kernel
theorem fe_267_481 : am_fe 267 481 = some (18, some .boolean, .aload_n 0) := by decide +kernel
theorem fe_267_482 : am_fe 267 482 = some (18, some .boolean, .iload_n 3) := by decide +kernel
theorem fe_267_483 : am_fe 267 483 = some (18, some .boolean, .iconst 2) := by decide +kernel
theorem fe_267_484 : am_fe 267 484 = some (18, some .boolean, .iadd) := by decide +kernel
theorem fe_267_485 : am_fe 267 485 = some (18, some .boolean, .iaload) := by decide +kernel
theorem fe_267_486 : am_fe 267 486 = some (18, some .boolean, .invokevirtual 62) := by decide +kernel
theorem fe_267_489 : am_fe 267 489 = some (18, some .boolean, .aload_n 2) := by decide +kernel
theorem fe_267_490 : am_fe 267 490 = some (18, some .boolean, .aload_n 0) := by decide +kernel
theorem fe_267_491 : am_fe 267 491 = some (18, some .boolean, .iload_n 3) := by decide +kernel
theorem fe_267_492 : am_fe 267 492 = some (18, some .boolean, .iconst 1) := by decide +kernel
theorem fe_267_493 : am_fe 267 493 = some (18, some .boolean, .iadd) := by decide +kernel
theorem fe_267_494 : am_fe 267 494 = some (18, some .boolean, .iaload) := by decide +kernel
theorem fe_267_495 : am_fe 267 495 = some (18, some .boolean, .aload_n 0) := by decide +kernel
theorem fe_267_496 : am_fe 267 496 = some (18, some .boolean, .iload_n 3) := by decide +kernel
theorem fe_267_497 : am_fe 267 497 = some (18, some .boolean, .iconst 2) := by decide +kernel
theorem fe_267_498 : am_fe 267 498 = some (18, some .boolean, .iadd) := by decide +kernel
theorem fe_267_499 : am_fe 267 499 = some (18, some .boolean, .iaload) := by decide +kernel
theorem fe_267_500 : am_fe 267 500 = some (18, some .boolean, .invokevirtual 65) := by decide +kernel
theorem fe_267_503 : am_fe 267 503 = some (18, some .boolean, .if_icmp .eq 490) := by decide +kernel
theorem fe_267_506 : am_fe 267 506 = some (18, some .boolean, .iconst 0) := by decide +kernel
theorem fe_267_507 : am_fe 267 507 = some (18, some .boolean, .ireturn) := by decide +kernel
theorem fe_267_508 : am_fe 267 508 = some (18, some .boolean, .aload_n 1) := by decide +kernel
theorem fe_267_509 : am_fe 267 509 = some (18, some .boolean, .invokevirtual 66) := by decide +kernel
theorem fe_267_512 : am_fe 267 512 = some (18, some .boolean, .aload_n 2) := by decide +kernel
theorem fe_267_513 : am_fe 267 513 = some (18, some .boolean, .invokevirtual 69) := by decide +kernel
theorem fe_267_516 : am_fe 267 516 = some (18, some .boolean, .if_icmp .eq 477) := by decide +kernel
theorem fe_267_519 : am_fe 267 519 = some (18, some .boolean, .iconst 0) := by decide +kernel
theorem fe_267_520 : am_fe 267 520 = some (18, some .boolean, .ireturn) := by decide +kernel
theorem fe_267_521 : am_fe 267 521 = some (18, some .boolean, .aload_n 1) := by decide +kernel
theorem fe_267_522 : am_fe 267 522 = some (18, some .boolean, .aload_n 0) := by decide +kernel
theorem fe_267_523 : am_fe 267 523 = some (18, some .boolean, .iload_n 3) := by decide +kernel
theorem fe_267_524 : am_fe 267 524 = some (18, some .boolean, .iconst 1) := by decide +kernel
theorem fe_267_525 : am_fe 267 525 = some (18, some .boolean, .iadd) := by decide +kernel
theorem fe_267_526 : am_fe 267 526 = some (18, some .boolean, .iaload) := by decide +kernel
theorem fe_267_527 : am_fe 267 527 = some (18, some .boolean, .aload_n 0) := by decide +kernel
theorem fe_267_528 : am_fe 267 528 = some (18, some .boolean, .iload_n 3) := by decide +kernel
theorem fe_267_529 : am_fe 267 529 = some (18, some .boolean, .iconst 2) := by decide +kernel
theorem fe_267_530 : am_fe 267 530 = some (18, some .boolean, .iadd) := by decide +kernel
theorem fe_267_531 : am_fe 267 531 = some (18, some .boolean, .iaload) := by decide +kernel
theorem fe_267_532 : am_fe 267 532 = some (18, some .boolean, .aload_n 0) := by decide +kernel
theorem fe_267_533 : am_fe 267 533 = some (18, some .boolean, .iload_n 3) := by decide +kernel
theorem fe_267_534 : am_fe 267 534 = some (18, some .boolean, .iconst 3) := by decide +kernel
theorem fe_267_535 : am_fe 267 535 = some (18, some .boolean, .iadd) := by decide +kernel
theorem fe_267_536 : am_fe 267 536 = some (18, some .boolean, .iaload) := by decide +kernel
theorem fe_267_537 : am_fe 267 537 = some (18, some .boolean, .invokevirtual 70) := by decide +kernel
theorem fe_267_540 : am_fe 267 540 = some (18, some .boolean, .aload_n 2) := by decide +kernel
theorem fe_267_541 : am_fe 267 541 = some (18, some .boolean, .aload_n 0) := by decide +kernel
theorem fe_267_542 : am_fe 267 542 = some (18, some .boolean, .iload_n 3) := by decide +kernel
theorem fe_267_543 : am_fe 267 543 = some (18, some .boolean, .iconst 1) := by decide +kernel
theorem fe_267_544 : am_fe 267 544 = some (18, some .boolean, .iadd) := by decide +kernel
theorem fe_267_545 : am_fe 267 545 = some (18, some .boolean, .iaload) := by decide +kernel
theorem fe_267_546 : am_fe 267 546 = some (18, some .boolean, .aload_n 0) := by decide +kernel
theorem fe_267_547 : am_fe 267 547 = some (18, some .boolean, .iload_n 3) := by decide +kernel
theorem fe_267_548 : am_fe 267 548 = some (18, some .boolean, .iconst 2) := by decide +kernel
theorem fe_267_549 : am_fe 267 549 = some (18, some .boolean, .iadd) := by decide +kernel
theorem fe_267_550 : am_fe 267 550 = some (18, some .boolean, .iaload) := by decide +kernel
theorem fe_267_551 : am_fe 267 551 = some (18, some .boolean, .aload_n 0) := by decide +kernel
theorem fe_267_552 : am_fe 267 552 = some (18, some .boolean, .iload_n 3) := by decide +kernel
theorem fe_267_553 : am_fe 267 553 = some (18, some .boolean, .iconst 3) := by decide +kernel
theorem fe_267_554 : am_fe 267 554 = some (18, some .boolean, .iadd) := by decide +kernel
theorem fe_267_555 : am_fe 267 555 = some (18, some .boolean, .iaload) := by decide +kernel
theorem fe_267_556 : am_fe 267 556 = some (18, some .boolean, .invokevirtual 74) := by decide +kernel
theorem fe_267_559 : am_fe 267 559 = some (18, some .boolean, .if_icmp .eq 434) := by decide +kernel
theorem fe_267_562 : am_fe 267 562 = some (18, some .boolean, .iconst 0) := by decide +kernel
theorem fe_267_563 : am_fe 267 563 = some (18, some .boolean, .ireturn) := by decide +kernel
theorem fe_267_564 : am_fe 267 564 = some (18, some .boolean, .aload_n 1) := by decide +kernel
theorem fe_267_565 : am_fe 267 565 = some (18, some .boolean, .aload_n 0) := by decide +kernel
theorem fe_267_566 : am_fe 267 566 = some (18, some .boolean, .iload_n 3) := by decide +kernel
theorem fe_267_567 : am_fe 267 567 = some (18, some .boolean, .iconst 1) := by decide +kernel
theorem fe_267_568 : am_fe 267 568 = some (18, some .boolean, .iadd) := by decide +kernel
theorem fe_267_569 : am_fe 267 569 = some (18, some .boolean, .iaload) := by decide +kernel
theorem fe_267_570 : am_fe 267 570 = some (18, some .boolean, .aload_n 0) := by decide +kernel
theorem fe_267_571 : am_fe 267 571 = some (18, some .boolean, .iload_n 3) := by decide +kernel
theorem fe_267_572 : am_fe 267 572 = some (18, some .boolean, .iconst 2) := by decide +kernel
theorem fe_267_573 : am_fe 267 573 = some (18, some .boolean, .iadd) := by decide +kernel
theorem fe_267_574 : am_fe 267 574 = some (18, some .boolean, .iaload) := by decide +kernel
theorem fe_267_575 : am_fe 267 575 = some (18, some .boolean, .invokevirtual 75) := by decide +kernel
theorem fe_267_578 : am_fe 267 578 = some (18, some .boolean, .aload_n 2) := by decide +kernel
theorem fe_267_579 : am_fe 267 579 = some (18, some .boolean, .aload_n 0) := by decide +kernel
theorem fe_267_580 : am_fe 267 580 = some (18, some .boolean, .iload_n 3) := by decide +kernel
theorem fe_267_581 : am_fe 267 581 = some (18, some .boolean, .iconst 1) := by decide +kernel
theorem fe_267_582 : am_fe 267 582 = some (18, some .boolean, .iadd) := by decide +kernel
theorem fe_267_583 : am_fe 267 583 = some (18, some .boolean, .iaload) := by decide +kernel
theorem fe_267_584 : am_fe 267 584 = some (18, some .boolean, .aload_n 0) := by decide +kernel
theorem fe_267_585 : am_fe 267 585 = some (18, some .boolean, .iload_n 3) := by decide +kernel
theorem fe_267_586 : am_fe 267 586 = some (18, some .boolean, .iconst 2) := by decide +kernel
theorem fe_267_587 : am_fe 267 587 = some (18, some .boolean, .iadd) := by decide +kernel
theorem fe_267_588 : am_fe 267 588 = some (18, some .boolean, .iaload) := by decide +kernel
theorem fe_267_589 : am_fe 267 589 = some (18, some .boolean, .invokevirtual 78) := by decide +kernel
theorem fe_267_592 : am_fe 267 592 = some (18, some .boolean, .if_icmp .eq 401) := by decide +kernel
theorem fe_267_595 : am_fe 267 595 = some (18, some .boolean, .iconst 0) := by decide +kernel
theorem fe_267_596 : am_fe 267 596 = some (18, some .boolean, .ireturn) := by decide +kernel
theorem fe_267_597 : am_fe 267 597 = some (18, some .boolean, .aload_n 1) := by decide +kernel
theorem fe_267_598 : am_fe 267 598 = some (18, some .boolean, .aload_n 0) := by decide +kernel
theorem fe_267_599 : am_fe 267 599 = some (18, some .boolean, .iload_n 3) := by decide +kernel
theorem fe_267_600 : am_fe 267 600 = some (18, some .boolean, .iconst 1) := by decide +kernel
theorem fe_267_601 : am_fe 267 601 = some (18, some .boolean, .iadd) := by decide +kernel
theorem fe_267_602 : am_fe 267 602 = some (18, some .boolean, .iaload) := by decide +kernel
theorem fe_267_603 : am_fe 267 603 = some (18, some .boolean, .aload_n 0) := by decide +kernel
theorem fe_267_604 : am_fe 267 604 = some (18, some .boolean, .iload_n 3) := by decide +kernel
theorem fe_267_605 : am_fe 267 605 = some (18, some .boolean, .iconst 2) := by decide +kernel
theorem fe_267_606 : am_fe 267 606 = some (18, some .boolean, .iadd) := by decide +kernel
theorem fe_267_607 : am_fe 267 607 = some (18, some .boolean, .iaload) := by decide +kernel
theorem fe_267_608 : am_fe 267 608 = some (18, some .boolean, .invokevirtual 79) := by decide +kernel
theorem fe_267_611 : am_fe 267 611 = some (18, some .boolean, .aload_n 2) := by decide +kernel
theorem fe_267_612 : am_fe 267 612 = some (18, some .boolean, .aload_n 0) := by decide +kernel
theorem fe_267_613 : am_fe 267 613 = some (18, some .boolean, .iload_n 3) := by decide +kernel
theorem fe_267_614 : am_fe 267 614 = some (18, some .boolean, .iconst 1) := by decide +kernel
theorem fe_267_615 : am_fe 267 615 = some (18, some .boolean, .iadd) := by decide +kernel
theorem fe_267_616 : am_fe 267 616 = some (18, some .boolean, .iaload) := by decide +kernel
theorem fe_267_617 : am_fe 267 617 = some (18, some .boolean, .aload_n 0) := by decide +kernel
theorem fe_267_618 : am_fe 267 618 = some (18, some .boolean, .iload_n 3) := by decide +kernel
theorem fe_267_619 : am_fe 267 619 = some (18, some .boolean, .iconst 2) := by decide +kernel
theorem fe_267_620 : am_fe 267 620 = some (18, some .boolean, .iadd) := by decide +kernel
theorem fe_267_621 : am_fe 267 621 = some (18, some .boolean, .iaload) := by decide +kernel
theorem fe_267_622 : am_fe 267 622 = some (18, some .boolean, .invokevirtual 82) := by decide +kernel
theorem fe_267_625 : am_fe 267 625 = some (18, some .boolean, .if_icmp .eq 368) := by decide +kernel
theorem fe_267_628 : am_fe 267 628 = some (18, some .boolean, .iconst 0) := by decide +kernel
theorem fe_267_629 : am_fe 267 629 = some (18, some .boolean, .ireturn) := by decide +kernel
theorem fe_267_630 : am_fe 267 630 = some (18, some .boolean, .aload_n 1) := by decide +kernel
theorem fe_267_631 : am_fe 267 631 = some (18, some .boolean, .aload_n 0) := by decide +kernel
theorem fe_267_632 : am_fe 267 632 = some (18, some .boolean, .iload_n 3) := by decide +kernel
theorem fe_267_633 : am_fe 267 633 = some (18, some .boolean, .iconst 1) := by decide +kernel
theorem fe_267_634 : am_fe 267 634 = some (18, some .boolean, .iadd) := by decide +kernel
theorem fe_267_635 : am_fe 267 635 = some (18, some .boolean, .iaload) := by decide +kernel
theorem fe_267_636 : am_fe 267 636 = some (18, some .boolean, .aload_n 0) := by decide +kernel
theorem fe_267_637 : am_fe 267 637 = some (18, some .boolean, .iload_n 3) := by decide +kernel
theorem fe_267_638 : am_fe 267 638 = some (18, some .boolean, .iconst 2) := by decide +kernel
theorem fe_267_639 : am_fe 267 639 = some (18, some .boolean, .iadd) := by decide +kernel
theorem fe_267_640 : am_fe 267 640 = some (18, some .boolean, .iaload) := by decide +kernel
theorem fe_267_641 : am_fe 267 641 = some (18, some .boolean, .aload_n 0) := by decide +kernel
theorem fe_267_642 : am_fe 267 642 = some (18, some .boolean, .iload_n 3) := by decide +kernel
theorem fe_267_643 : am_fe 267 643 = some (18, some .boolean, .iconst 3) := by decide +kernel
theorem fe_267_644 : am_fe 267 644 = some (18, some .boolean, .iadd) := by decide +kernel
theorem fe_267_645 : am_fe 267 645 = some (18, some .boolean, .iaload) := by decide +kernel
theorem fe_267_646 : am_fe 267 646 = some (18, some .boolean, .aload_n 0) := by decide +kernel
theorem fe_267_647 : am_fe 267 647 = some (18, some .boolean, .iload_n 3) := by decide +kernel
theorem fe_267_648 : am_fe 267 648 = some (18, some .boolean, .iconst 4) := by decide +kernel
theorem fe_267_649 : am_fe 267 649 = some (18, some .boolean, .iadd) := by decide +kernel
theorem fe_267_650 : am_fe 267 650 = some (18, some .boolean, .iaload) := by decide +kernel
theorem fe_267_651 : am_fe 267 651 = some (18, some .boolean, .invokevirtual 83) := by decide +kernel
theorem fe_267_654 : am_fe 267 654 = some (18, some .boolean, .aload_n 2) := by decide +kernel
theorem fe_267_655 : am_fe 267 655 = some (18, some .boolean, .aload_n 0) := by decide +kernel
theorem fe_267_656 : am_fe 267 656 = some (18, some .boolean, .iload_n 3) := by decide +kernel
theorem fe_267_657 : am_fe 267 657 = some (18, some .boolean, .iconst 1) := by decide +kernel
theorem fe_267_658 : am_fe 267 658 = some (18, some .boolean, .iadd) := by decide +kernel
theorem fe_267_659 : am_fe 267 659 = some (18, some .boolean, .iaload) := by decide +kernel
theorem fe_267_660 : am_fe 267 660 = some (18, some .boolean, .aload_n 0) := by decide +kernel
theorem fe_267_661 : am_fe 267 661 = some (18, some .boolean, .iload_n 3) := by decide +kernel
theorem fe_267_662 : am_fe 267 662 = some (18, some .boolean, .iconst 2) := by decide +kernel
theorem fe_267_663 : am_fe 267 663 = some (18, some .boolean, .iadd) := by decide +kernel
theorem fe_267_664 : am_fe 267 664 = some (18, some .boolean, .iaload) := by decide +kernel
theorem fe_267_665 : am_fe 267 665 = some (18, some .boolean, .aload_n 0) := by decide +kernel
theorem fe_267_666 : am_fe 267 666 = some (18, some .boolean, .iload_n 3) := by decide +kernel
theorem fe_267_667 : am_fe 267 667 = some (18, some .boolean, .iconst 3) := by decide +kernel
theorem fe_267_668 : am_fe 267 668 = some (18, some .boolean, .iadd) := by decide +kernel
theorem fe_267_669 : am_fe 267 669 = some (18, some .boolean, .iaload) := by decide +kernel
theorem fe_267_670 : am_fe 267 670 = some (18, some .boolean, .aload_n 0) := by decide +kernel
theorem fe_267_671 : am_fe 267 671 = some (18, some .boolean, .iload_n 3) := by decide +kernel
theorem fe_267_672 : am_fe 267 672 = some (18, some .boolean, .iconst 4) := by decide +kernel
theorem fe_267_673 : am_fe 267 673 = some (18, some .boolean, .iadd) := by decide +kernel
theorem fe_267_674 : am_fe 267 674 = some (18, some .boolean, .iaload) := by decide +kernel
theorem fe_267_675 : am_fe 267 675 = some (18, some .boolean, .invokevirtual 87) := by decide +kernel
theorem fe_267_678 : am_fe 267 678 = some (18, some .boolean, .if_icmp .eq 315) := by decide +kernel
theorem fe_267_681 : am_fe 267 681 = some (18, some .boolean, .iconst 0) := by decide +kernel
theorem fe_267_682 : am_fe 267 682 = some (18, some .boolean, .ireturn) := by decide +kernel
theorem fe_267_683 : am_fe 267 683 = some (18, some .boolean, .aload_n 1) := by decide +kernel
theorem fe_267_684 : am_fe 267 684 = some (18, some .boolean, .aload_n 0) := by decide +kernel
theorem fe_267_685 : am_fe 267 685 = some (18, some .boolean, .iload_n 3) := by decide +kernel
theorem fe_267_686 : am_fe 267 686 = some (18, some .boolean, .iconst 1) := by decide +kernel
theorem fe_267_687 : am_fe 267 687 = some (18, some .boolean, .iadd) := by decide +kernel
theorem fe_267_688 : am_fe 267 688 = some (18, some .boolean, .iaload) := by decide +kernel
theorem fe_267_689 : am_fe 267 689 = some (18, some .boolean, .aload_n 0) := by decide +kernel
theorem fe_267_690 : am_fe 267 690 = some (18, some .boolean, .iload_n 3) := by decide +kernel
theorem fe_267_691 : am_fe 267 691 = some (18, some .boolean, .iconst 2) := by decide +kernel
theorem fe_267_692 : am_fe 267 692 = some (18, some .boolean, .iadd) := by decide +kernel
theorem fe_267_693 : am_fe 267 693 = some (18, some .boolean, .iaload) := by decide +kernel
theorem fe_267_694 : am_fe 267 694 = some (18, some .boolean, .invokevirtual 88) := by decide +kernel
theorem fe_267_697 : am_fe 267 697 = some (18, some .boolean, .aload_n 2) := by decide +kernel
theorem fe_267_698 : am_fe 267 698 = some (18, some .boolean, .aload_n 0) := by decide +kernel
theorem fe_267_699 : am_fe 267 699 = some (18, some .boolean, .iload_n 3) := by decide +kernel
theorem fe_267_700 : am_fe 267 700 = some (18, some .boolean, .iconst 1) := by decide +kernel
theorem fe_267_701 : am_fe 267 701 = some (18, some .boolean, .iadd) := by decide +kernel
theorem fe_267_702 : am_fe 267 702 = some (18, some .boolean, .iaload) := by decide +kernel
theorem fe_267_703 : am_fe 267 703 = some (18, some .boolean, .aload_n 0) := by decide +kernel
theorem fe_267_704 : am_fe 267 704 = some (18, some .boolean, .iload_n 3) := by decide +kernel
theorem fe_267_705 : am_fe 267 705 = some (18, some .boolean, .iconst 2) := by decide +kernel
theorem fe_267_706 : am_fe 267 706 = some (18, some .boolean, .iadd) := by decide +kernel
theorem fe_267_707 : am_fe 267 707 = some (18, some .boolean, .iaload) := by decide +kernel
theorem fe_267_708 : am_fe 267 708 = some (18, some .boolean, .invokevirtual 91) := by decide +kernel
theorem fe_267_711 : am_fe 267 711 = some (18, some .boolean, .if_icmp .eq 282) := by decide +kernel
theorem fe_267_714 : am_fe 267 714 = some (18, some .boolean, .iconst 0) := by decide +kernel
theorem fe_267_715 : am_fe 267 715 = some (18, some .boolean, .ireturn) := by decide +kernel
theorem fe_267_716 : am_fe 267 716 = some (18, some .boolean, .aload_n 1) := by decide +kernel
theorem fe_267_717 : am_fe 267 717 = some (18, some .boolean, .aload_n 0) := by decide +kernel
theorem fe_267_718 : am_fe 267 718 = some (18, some .boolean, .iload_n 3) := by decide +kernel
theorem fe_267_719 : am_fe 267 719 = some (18, some .boolean, .iconst 1) := by decide +kernel
theorem fe_267_720 : am_fe 267 720 = some (18, some .boolean, .iadd) := by decide +kernel
theorem fe_267_721 : am_fe 267 721 = some (18, some .boolean, .iaload) := by decide +kernel
theorem fe_267_722 : am_fe 267 722 = some (18, some .boolean, .aload_n 0) := by decide +kernel
theorem fe_267_723 : am_fe 267 723 = some (18, some .boolean, .iload_n 3) := by decide +kernel
theorem fe_267_724 : am_fe 267 724 = some (18, some .boolean, .iconst 2) := by decide +kernel
theorem fe_267_725 : am_fe 267 725 = some (18, some .boolean, .iadd) := by decide +kernel
theorem fe_267_726 : am_fe 267 726 = some (18, some .boolean, .iaload) := by decide +kernel
theorem fe_267_727 : am_fe 267 727 = some (18, some .boolean, .aload_n 0) := by decide +kernel
theorem fe_267_728 : am_fe 267 728 = some (18, some .boolean, .iload_n 3) := by decide +kernel
theorem fe_267_729 : am_fe 267 729 = some (18, some .boolean, .iconst 3) := by decide +kernel
theorem fe_267_730 : am_fe 267 730 = some (18, some .boolean, .iadd) := by decide +kernel
theorem fe_267_731 : am_fe 267 731 = some (18, some .boolean, .iaload) := by decide +kernel
theorem fe_267_732 : am_fe 267 732 = some (18, some .boolean, .invokevirtual 92) := by decide +kernel
theorem fe_267_735 : am_fe 267 735 = some (18, some .boolean, .aload_n 2) := by decide +kernel
theorem fe_267_736 : am_fe 267 736 = some (18, some .boolean, .aload_n 0) := by decide +kernel
theorem fe_267_737 : am_fe 267 737 = some (18, some .boolean, .iload_n 3) := by decide +kernel
theorem fe_267_738 : am_fe 267 738 = some (18, some .boolean, .iconst 1) := by decide +kernel
theorem fe_267_739 : am_fe 267 739 = some (18, some .boolean, .iadd) := by decide +kernel
theorem fe_267_740 : am_fe 267 740 = some (18, some .boolean, .iaload) := by decide +kernel
theorem fe_267_741 : am_fe 267 741 = some (18, some .boolean, .aload_n 0) := by decide +kernel
theorem fe_267_742 : am_fe 267 742 = some (18, some .boolean, .iload_n 3) := by decide +kernel
theorem fe_267_743 : am_fe 267 743 = some (18, some .boolean, .iconst 2) := by decide +kernel
theorem fe_267_744 : am_fe 267 744 = some (18, some .boolean, .iadd) := by decide +kernel
theorem fe_267_745 : am_fe 267 745 = some (18, some .boolean, .iaload) := by decide +kernel
theorem fe_267_746 : am_fe 267 746 = some (18, some .boolean, .aload_n 0) := by decide +kernel
theorem fe_267_747 : am_fe 267 747 = some (18, some .boolean, .iload_n 3) := by decide +kernel
theorem fe_267_748 : am_fe 267 748 = some (18, some .boolean, .iconst 3) := by decide +kernel
theorem fe_267_749 : am_fe 267 749 = some (18, some .boolean, .iadd) := by decide +kernel
theorem fe_267_750 : am_fe 267 750 = some (18, some .boolean, .iaload) := by decide +kernel
theorem fe_267_751 : am_fe 267 751 = some (18, some .boolean, .invokevirtual 95) := by decide +kernel
theorem fe_267_754 : am_fe 267 754 = some (18, some .boolean, .if_icmp .eq 239) := by decide +kernel
theorem fe_267_757 : am_fe 267 757 = some (18, some .boolean, .iconst 0) := by decide +kernel
theorem fe_267_758 : am_fe 267 758 = some (18, some .boolean, .ireturn) := by decide +kernel
theorem fe_267_759 : am_fe 267 759 = some (18, some .boolean, .aload_n 1) := by decide +kernel
theorem fe_267_760 : am_fe 267 760 = some (18, some .boolean, .aload_n 0) := by decide +kernel
theorem fe_267_761 : am_fe 267 761 = some (18, some .boolean, .iload_n 3) := by decide +kernel
theorem fe_267_762 : am_fe 267 762 = some (18, some .boolean, .iconst 1) := by decide +kernel
theorem fe_267_763 : am_fe 267 763 = some (18, some .boolean, .iadd) := by decide +kernel
theorem fe_267_764 : am_fe 267 764 = some (18, some .boolean, .iaload) := by decide +kernel
theorem fe_267_765 : am_fe 267 765 = some (18, some .boolean, .aload_n 0) := by decide +kernel
theorem fe_267_766 : am_fe 267 766 = some (18, some .boolean, .iload_n 3) := by decide +kernel
theorem fe_267_767 : am_fe 267 767 = some (18, some .boolean, .iconst 2) := by decide +kernel
theorem fe_267_768 : am_fe 267 768 = some (18, some .boolean, .iadd) := by decide +kernel
theorem fe_267_769 : am_fe 267 769 = some (18, some .boolean, .iaload) := by decide +kernel
theorem fe_267_770 : am_fe 267 770 = some (18, some .boolean, .invokevirtual 96) := by decide +kernel
theorem fe_267_773 : am_fe 267 773 = some (18, some .boolean, .aload_n 2) := by decide +kernel
theorem fe_267_774 : am_fe 267 774 = some (18, some .boolean, .aload_n 0) := by decide +kernel
theorem fe_267_775 : am_fe 267 775 = some (18, some .boolean, .iload_n 3) := by decide +kernel
theorem fe_267_776 : am_fe 267 776 = some (18, some .boolean, .iconst 1) := by decide +kernel
theorem fe_267_777 : am_fe 267 777 = some (18, some .boolean, .iadd) := by decide +kernel
theorem fe_267_778 : am_fe 267 778 = some (18, some .boolean, .iaload) := by decide +kernel
theorem fe_267_779 : am_fe 267 779 = some (18, some .boolean, .aload_n 0) := by decide +kernel
theorem fe_267_780 : am_fe 267 780 = some (18, some .boolean, .iload_n 3) := by decide +kernel
theorem fe_267_781 : am_fe 267 781 = some (18, some .boolean, .iconst 2) := by decide +kernel
theorem fe_267_782 : am_fe 267 782 = some (18, some .boolean, .iadd) := by decide +kernel
theorem fe_267_783 : am_fe 267 783 = some (18, some .boolean, .iaload) := by decide +kernel
theorem fe_267_784 : am_fe 267 784 = some (18, some .boolean, .invokevirtual 99) := by decide +kernel
theorem fe_267_787 : am_fe 267 787 = some (18, some .boolean, .if_icmp .eq 206) := by decide +kernel
theorem fe_267_790 : am_fe 267 790 = some (18, some .boolean, .iconst 0) := by decide +kernel
theorem fe_267_791 : am_fe 267 791 = some (18, some .boolean, .ireturn) := by decide +kernel
theorem fe_267_792 : am_fe 267 792 = some (18, some .boolean, .aload_n 1) := by decide +kernel
theorem fe_267_793 : am_fe 267 793 = some (18, some .boolean, .aload_n 0) := by decide +kernel
theorem fe_267_794 : am_fe 267 794 = some (18, some .boolean, .iload_n 3) := by decide +kernel
theorem fe_267_795 : am_fe 267 795 = some (18, some .boolean, .iconst 1) := by decide +kernel
theorem fe_267_796 : am_fe 267 796 = some (18, some .boolean, .iadd) := by decide +kernel
theorem fe_267_797 : am_fe 267 797 = some (18, some .boolean, .iaload) := by decide +kernel
theorem fe_267_798 : am_fe 267 798 = some (18, some .boolean, .aload_n 0) := by decide +kernel
theorem fe_267_799 : am_fe 267 799 = some (18, some .boolean, .iload_n 3) := by decide +kernel
theorem fe_267_800 : am_fe 267 800 = some (18, some .boolean, .iconst 2) := by decide +kernel
theorem fe_267_801 : am_fe 267 801 = some (18, some .boolean, .iadd) := by decide +kernel
theorem fe_267_802 : am_fe 267 802 = some (18, some .boolean, .iaload) := by decide +kernel
theorem fe_267_803 : am_fe 267 803 = some (18, some .boolean, .invokevirtual 100) := by decide +kernel
theorem fe_267_806 : am_fe 267 806 = some (18, some .boolean, .aload_n 2) := by decide +kernel
theorem fe_267_807 : am_fe 267 807 = some (18, some .boolean, .aload_n 0) := by decide +kernel
theorem fe_267_808 : am_fe 267 808 = some (18, some .boolean, .iload_n 3) := by decide +kernel
theorem fe_267_809 : am_fe 267 809 = some (18, some .boolean, .iconst 1) := by decide +kernel
theorem fe_267_810 : am_fe 267 810 = some (18, some .boolean, .iadd) := by decide +kernel
theorem fe_267_811 : am_fe 267 811 = some (18, some .boolean, .iaload) := by decide +kernel
theorem fe_267_812 : am_fe 267 812 = some (18, some .boolean, .aload_n 0) := by decide +kernel
theorem fe_267_813 : am_fe 267 813 = some (18, some .boolean, .iload_n 3) := by decide +kernel
theorem fe_267_814 : am_fe 267 814 = some (18, some .boolean, .iconst 2) := by decide +kernel
theorem fe_267_815 : am_fe 267 815 = some (18, some .boolean, .iadd) := by decide +kernel
theorem fe_267_816 : am_fe 267 816 = some (18, some .boolean, .iaload) := by decide +kernel
theorem fe_267_817 : am_fe 267 817 = some (18, some .boolean, .invokevirtual 103) := by decide +kernel
theorem fe_267_820 : am_fe 267 820 = some (18, some .boolean, .if_icmp .eq 173) := by decide +kernel
theorem fe_267_823 : am_fe 267 823 = some (18, some .boolean, .iconst 0) := by decide +kernel
theorem fe_267_824 : am_fe 267 824 = some (18, some .boolean, .ireturn) := by decide +kernel
theorem fe_267_825 : am_fe 267 825 = some (18, some .boolean, .aload_n 1) := by decide +kernel
theorem fe_267_826 : am_fe 267 826 = some (18, some .boolean, .aload_n 0) := by decide +kernel
theorem fe_267_827 : am_fe 267 827 = some (18, some .boolean, .iload_n 3) := by decide +kernel
theorem fe_267_828 : am_fe 267 828 = some (18, some .boolean, .iconst 1) := by decide +kernel
theorem fe_267_829 : am_fe 267 829 = some (18, some .boolean, .iadd) := by decide +kernel
theorem fe_267_830 : am_fe 267 830 = some (18, some .boolean, .iaload) := by decide +kernel
theorem fe_267_831 : am_fe 267 831 = some (18, some .boolean, .aload_n 0) := by decide +kernel
theorem fe_267_832 : am_fe 267 832 = some (18, some .boolean, .iload_n 3) := by decide +kernel
theorem fe_267_833 : am_fe 267 833 = some (18, some .boolean, .iconst 2) := by decide +kernel
theorem fe_267_834 : am_fe 267 834 = some (18, some .boolean, .iadd) := by decide +kernel
theorem fe_267_835 : am_fe 267 835 = some (18, some .boolean, .iaload) := by decide +kernel
theorem fe_267_836 : am_fe 267 836 = some (18, some .boolean, .invokevirtual 104) := by decide +kernel
theorem fe_267_839 : am_fe 267 839 = some (18, some .boolean, .aload_n 2) := by decide +kernel
theorem fe_267_840 : am_fe 267 840 = some (18, some .boolean, .aload_n 0) := by decide +kernel
theorem fe_267_841 : am_fe 267 841 = some (18, some .boolean, .iload_n 3) := by decide +kernel
theorem fe_267_842 : am_fe 267 842 = some (18, some .boolean, .iconst 1) := by decide +kernel
theorem fe_267_843 : am_fe 267 843 = some (18, some .boolean, .iadd) := by decide +kernel
theorem fe_267_844 : am_fe 267 844 = some (18, some .boolean, .iaload) := by decide +kernel
theorem fe_267_845 : am_fe 267 845 = some (18, some .boolean, .aload_n 0) := by decide +kernel
theorem fe_267_846 : am_fe 267 846 = some (18, some .boolean, .iload_n 3) := by decide +kernel
theorem fe_267_847 : am_fe 267 847 = some (18, some .boolean, .iconst 2) := by decide +kernel
theorem fe_267_848 : am_fe 267 848 = some (18, some .boolean, .iadd) := by decide +kernel
theorem fe_267_849 : am_fe 267 849 = some (18, some .boolean, .iaload) := by decide +kernel
theorem fe_267_850 : am_fe 267 850 = some (18, some .boolean, .invokevirtual 107) := by decide +kernel
theorem fe_267_853 : am_fe 267 853 = some (18, some .boolean, .if_icmp .eq 140) := by decide +kernel
theorem fe_267_856 : am_fe 267 856 = some (18, some .boolean, .iconst 0) := by decide +kernel
theorem fe_267_857 : am_fe 267 857 = some (18, some .boolean, .ireturn) := by decide +kernel
theorem fe_267_858 : am_fe 267 858 = some (18, some .boolean, .aload_n 1) := by decide +kernel
theorem fe_267_859 : am_fe 267 859 = some (18, some .boolean, .aload_n 0) := by decide +kernel
theorem fe_267_860 : am_fe 267 860 = some (18, some .boolean, .iload_n 3) := by decide +kernel
theorem fe_267_861 : am_fe 267 861 = some (18, some .boolean, .iconst 1) := by decide +kernel
theorem fe_267_862 : am_fe 267 862 = some (18, some .boolean, .iadd) := by decide +kernel
theorem fe_267_863 : am_fe 267 863 = some (18, some .boolean, .iaload) := by decide +kernel
theorem fe_267_864 : am_fe 267 864 = some (18, some .boolean, .invokevirtual 108) := by decide +kernel
theorem fe_267_867 : am_fe 267 867 = some (18, some .boolean, .aload_n 2) := by decide +kernel
theorem fe_267_868 : am_fe 267 868 = some (18, some .boolean, .aload_n 0) := by decide +kernel
theorem fe_267_869 : am_fe 267 869 = some (18, some .boolean, .iload_n 3) := by decide +kernel
theorem fe_267_870 : am_fe 267 870 = some (18, some .boolean, .iconst 1) := by decide +kernel
theorem fe_267_871 : am_fe 267 871 = some (18, some .boolean, .iadd) := by decide +kernel
theorem fe_267_872 : am_fe 267 872 = some (18, some .boolean, .iaload) := by decide +kernel
theorem fe_267_873 : am_fe 267 873 = some (18, some .boolean, .invokevirtual 111) := by decide +kernel
theorem fe_267_876 : am_fe 267 876 = some (18, some .boolean, .if_icmp .eq 117) := by decide +kernel
theorem fe_267_879 : am_fe 267 879 = some (18, some .boolean, .iconst 0) := by decide +kernel
theorem fe_267_880 : am_fe 267 880 = some (18, some .boolean, .ireturn) := by decide +kernel
theorem fe_267_881 : am_fe 267 881 = some (18, some .boolean, .aload_n 1) := by decide +kernel
theorem fe_267_882 : am_fe 267 882 = some (18, some .boolean, .aload_n 0) := by decide +kernel
theorem fe_267_883 : am_fe 267 883 = some (18, some .boolean, .iload_n 3) := by decide +kernel
theorem fe_267_884 : am_fe 267 884 = some (18, some .boolean, .iconst 1) := by decide +kernel
theorem fe_267_885 : am_fe 267 885 = some (18, some .boolean, .iadd) := by decide +kernel
theorem fe_267_886 : am_fe 267 886 = some (18, some .boolean, .iaload) := by decide +kernel
theorem fe_267_887 : am_fe 267 887 = some (18, some .boolean, .aload_n 0) := by decide +kernel
theorem fe_267_888 : am_fe 267 888 = some (18, some .boolean, .iload_n 3) := by decide +kernel
theorem fe_267_889 : am_fe 267 889 = some (18, some .boolean, .iconst 2) := by decide +kernel
theorem fe_267_890 : am_fe 267 890 = some (18, some .boolean, .iadd) := by decide +kernel
theorem fe_267_891 : am_fe 267 891 = some (18, some .boolean, .iaload) := by decide +kernel
theorem fe_267_892 : am_fe 267 892 = some (18, some .boolean, .aload_n 0) := by decide +kernel
theorem fe_267_893 : am_fe 267 893 = some (18, some .boolean, .iload_n 3) := by decide +kernel
theorem fe_267_894 : am_fe 267 894 = some (18, some .boolean, .iconst 3) := by decide +kernel
theorem fe_267_895 : am_fe 267 895 = some (18, some .boolean, .iadd) := by decide +kernel
theorem fe_267_896 : am_fe 267 896 = some (18, some .boolean, .iaload) := by decide +kernel
theorem fe_267_897 : am_fe 267 897 = some (18, some .boolean, .invokevirtual 112) := by decide +kernel
theorem fe_267_900 : am_fe 267 900 = some (18, some .boolean, .aload_n 2) := by decide +kernel
theorem fe_267_901 : am_fe 267 901 = some (18, some .boolean, .aload_n 0) := by decide +kernel
theorem fe_267_902 : am_fe 267 902 = some (18, some .boolean, .iload_n 3) := by decide +kernel
theorem fe_267_903 : am_fe 267 903 = some (18, some .boolean, .iconst 1) := by decide +kernel
theorem fe_267_904 : am_fe 267 904 = some (18, some .boolean, .iadd) := by decide +kernel
theorem fe_267_905 : am_fe 267 905 = some (18, some .boolean, .iaload) := by decide +kernel
theorem fe_267_906 : am_fe 267 906 = some (18, some .boolean, .aload_n 0) := by decide +kernel
theorem fe_267_907 : am_fe 267 907 = some (18, some .boolean, .iload_n 3) := by decide +kernel
theorem fe_267_908 : am_fe 267 908 = some (18, some .boolean, .iconst 2) := by decide +kernel
theorem fe_267_909 : am_fe 267 909 = some (18, some .boolean, .iadd) := by decide +kernel
theorem fe_267_910 : am_fe 267 910 = some (18, some .boolean, .iaload) := by decide +kernel
theorem fe_267_911 : am_fe 267 911 = some (18, some .boolean, .aload_n 0) := by decide +kernel
theorem fe_267_912 : am_fe 267 912 = some (18, some .boolean, .iload_n 3) := by decide +kernel
theorem fe_267_913 : am_fe 267 913 = some (18, some .boolean, .iconst 3) := by decide +kernel
theorem fe_267_914 : am_fe 267 914 = some (18, some .boolean, .iadd) := by decide +kernel
theorem fe_267_915 : am_fe 267 915 = some (18, some .boolean, .iaload) := by decide +kernel
theorem fe_267_916 : am_fe 267 916 = some (18, some .boolean, .invokevirtual 115) := by decide +kernel
theorem fe_267_919 : am_fe 267 919 = some (18, some .boolean, .if_icmp .eq 74) := by decide +kernel
theorem fe_267_922 : am_fe 267 922 = some (18, some .boolean, .iconst 0) := by decide +kernel
theorem fe_267_923 : am_fe 267 923 = some (18, some .boolean, .ireturn) := by decide +kernel
theorem fe_267_924 : am_fe 267 924 = some (18, some .boolean, .aload_n 1) := by decide +kernel
theorem fe_267_925 : am_fe 267 925 = some (18, some .boolean, .aload_n 0) := by decide +kernel
theorem fe_267_926 : am_fe 267 926 = some (18, some .boolean, .iload_n 3) := by decide +kernel
theorem fe_267_927 : am_fe 267 927 = some (18, some .boolean, .iconst 1) := by decide +kernel
theorem fe_267_928 : am_fe 267 928 = some (18, some .boolean, .iadd) := by decide +kernel
theorem fe_267_929 : am_fe 267 929 = some (18, some .boolean, .iaload) := by decide +kernel
theorem fe_267_930 : am_fe 267 930 = some (18, some .boolean, .invokevirtual 116) := by decide +kernel
theorem fe_267_933 : am_fe 267 933 = some (18, some .boolean, .aload_n 2) := by decide +kernel
theorem fe_267_934 : am_fe 267 934 = some (18, some .boolean, .aload_n 0) := by decide +kernel
theorem fe_267_935 : am_fe 267 935 = some (18, some .boolean, .iload_n 3) := by decide +kernel
theorem fe_267_936 : am_fe 267 936 = some (18, some .boolean, .iconst 1) := by decide +kernel
theorem fe_267_937 : am_fe 267 937 = some (18, some .boolean, .iadd) := by decide +kernel
theorem fe_267_938 : am_fe 267 938 = some (18, some .boolean, .iaload) := by decide +kernel
theorem fe_267_939 : am_fe 267 939 = some (18, some .boolean, .invokevirtual 119) := by decide +kernel
theorem fe_267_942 : am_fe 267 942 = some (18, some .boolean, .if_icmp .eq 51) := by decide +kernel
theorem fe_267_945 : am_fe 267 945 = some (18, some .boolean, .iconst 0) := by decide +kernel
theorem fe_267_946 : am_fe 267 946 = some (18, some .boolean, .ireturn) := by decide +kernel
theorem fe_267_947 : am_fe 267 947 = some (18, some .boolean, .aload_n 1) := by decide +kernel
theorem fe_267_948 : am_fe 267 948 = some (18, some .boolean, .aload_n 0) := by decide +kernel
theorem fe_267_949 : am_fe 267 949 = some (18, some .boolean, .iload_n 3) := by decide +kernel
theorem fe_267_950 : am_fe 267 950 = some (18, some .boolean, .iconst 1) := by decide +kernel
theorem fe_267_951 : am_fe 267 951 = some (18, some .boolean, .iadd) := by decide +kernel
theorem fe_267_952 : am_fe 267 952 = some (18, some .boolean, .iaload) := by decide +kernel
theorem fe_267_953 : am_fe 267 953 = some (18, some .boolean, .invokevirtual 120) := by decide +kernel
theorem fe_267_956 : am_fe 267 956 = some (18, some .boolean, .aload_n 2) := by decide +kernel
theorem fe_267_957 : am_fe 267 957 = some (18, some .boolean, .aload_n 0) := by decide +kernel
theorem fe_267_958 : am_fe 267 958 = some (18, some .boolean, .iload_n 3) := by decide +kernel
theorem fe_267_959 : am_fe 267 959 = some (18, some .boolean, .iconst 1) := by decide +kernel
theorem fe_267_960 : am_fe 267 960 = some (18, some .boolean, .iadd) := by decide +kernel
theorem fe_267_961 : am_fe 267 961 = some (18, some .boolean, .iaload) := by decide +kernel
theorem fe_267_962 : am_fe 267 962 = some (18, some .boolean, .invokevirtual 123) := by decide +kernel
theorem fe_267_965 : am_fe 267 965 = some (18, some .boolean, .if_icmp .eq 28) := by decide +kernel
theorem fe_267_968 : am_fe 267 968 = some (18, some .boolean, .iconst 0) := by decide +kernel
theorem fe_267_969 : am_fe 267 969 = some (18, some .boolean, .ireturn) := by decide +kernel
theorem fe_267_970 : am_fe 267 970 = some (18, some .boolean, .aload_n 1) := by decide +kernel
theorem fe_267_971 : am_fe 267 971 = some (18, some .boolean, .aload_n 0) := by decide +kernel
theorem fe_267_972 : am_fe 267 972 = some (18, some .boolean, .iload_n 3) := by decide +kernel
theorem fe_267_973 : am_fe 267 973 = some (18, some .boolean, .iconst 1) := by decide +kernel
theorem fe_267_974 : am_fe 267 974 = some (18, some .boolean, .iadd) := by decide +kernel
theorem fe_267_975 : am_fe 267 975 = some (18, some .boolean, .iaload) := by decide +kernel
theorem fe_267_976 : am_fe 267 976 = some (18, some .boolean, .invokevirtual 124) := by decide +kernel
theorem fe_267_979 : am_fe 267 979 = some (18, some .boolean, .aload_n 2) := by decide +kernel
theorem fe_267_980 : am_fe 267 980 = some (18, some .boolean, .aload_n 0) := by decide +kernel
theorem fe_267_981 : am_fe 267 981 = some (18, some .boolean, .iload_n 3) := by decide +kernel
theorem fe_267_982 : am_fe 267 982 = some (18, some .boolean, .iconst 1) := by decide +kernel
theorem fe_267_983 : am_fe 267 983 = some (18, some .boolean, .iadd) := by decide +kernel
theorem fe_267_984 : am_fe 267 984 = some (18, some .boolean, .iaload) := by decide +kernel
theorem fe_267_985 : am_fe 267 985 = some (18, some .boolean, .invokevirtual 127) := by decide +kernel
theorem fe_267_988 : am_fe 267 988 = some (18, some .boolean, .if_icmp .eq 5) := by decide +kernel
theorem fe_267_991 : am_fe 267 991 = some (18, some .boolean, .iconst 0) := by decide +kernel
theorem fe_267_992 : am_fe 267 992 = some (18, some .boolean, .ireturn) := by decide +kernel
theorem fe_267_993 : am_fe 267 993 = some (18, some .boolean, .iinc 3 6) := by decide +kernel
theorem fe_267_996 : am_fe 267 996 = some (18, some .boolean, .goto (-978)) := by decide +kernel
theorem fe_267_999 : am_fe 267 999 = some (18, some .boolean, .iconst 1) := by decide +kernel
theorem fe_267_1000 : am_fe 267 1000 = some (18, some .boolean, .ireturn) := by decide +kernel
