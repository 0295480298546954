theorem fe_188_88 : am_fe 188 88 = some (12, none, .invokestatic 242) := by decide +kernel
theorem fe_188_91 : am_fe 188 91 = some (12, none, .invokevirtual 199) := by decide +kernel
theorem fe_188_94 : am_fe 188 94 = some (12, none, .iadd) := by decide +kernel
theorem fe_188_95 : am_fe 188 95 = some (12, none, .putfield 188) := by decide +kernel
theorem fe_188_98 : am_fe 188 98 = some (12, none, .aload_n 0) := by decide +kernel
theorem fe_188_99 : am_fe 188 99 = some (12, none, .iconst 1) := by decide +kernel
theorem fe_188_100 : am_fe 188 100 = some (12, none, .iload_n 2) := by decide +kernel
theorem fe_188_101 : am_fe 188 101 = some (12, none, .invokevirtual 239) := by decide +kernel
theorem fe_188_104 : am_fe 188 104 = some (12, none, .return_) := by decide +kernel
theorem fe_189_0 : am_fe 189 0 = some (12, none, .aload_n 0) := by decide +kernel
theorem fe_189_1 : am_fe 189 1 = some (12, none, .getfield 221) := by decide +kernel
theorem fe_189_4 : am_fe 189 4 = some (12, none, .bipush 60) := by decide +kernel
theorem fe_189_6 : am_fe 189 6 = some (12, none, .if_icmp .ne 9) := by decide +kernel
theorem fe_189_9 : am_fe 189 9 = some (12, none, .aload_n 0) := by decide +kernel
theorem fe_189_10 : am_fe 189 10 = some (12, none, .iconst 3) := by decide +kernel
theorem fe_189_11 : am_fe 189 11 = some (12, none, .iload_n 1) := by decide +kernel
theorem fe_189_12 : am_fe 189 12 = some (12, none, .invokevirtual 224) := by decide +kernel
theorem fe_189_15 : am_fe 189 15 = some (12, none, .aload_n 0) := by decide +kernel
theorem fe_189_16 : am_fe 189 16 = some (12, none, .dup) := by decide +kernel
theorem fe_189_17 : am_fe 189 17 = some (12, none, .getfield 221) := by decide +kernel
theorem fe_189_20 : am_fe 189 20 = some (12, none, .iconst 1) := by decide +kernel
theorem fe_189_21 : am_fe 189 21 = some (12, none, .iadd) := by decide +kernel
theorem fe_189_22 : am_fe 189 22 = some (12, none, .putfield 221) := by decide +kernel
theorem fe_189_25 : am_fe 189 25 = some (12, none, .return_) := by decide +kernel
theorem fe_190_0 : am_fe 190 0 = some (12, none, .aload_n 0) := by decide +kernel
theorem fe_190_1 : am_fe 190 1 = some (12, none, .getfield 185) := by decide +kernel
theorem fe_190_4 : am_fe 190 4 = some (12, none, .ifCond .ne 51) := by decide +kernel
theorem fe_190_7 : am_fe 190 7 = some (12, none, .aload_n 0) := by decide +kernel
theorem fe_190_8 : am_fe 190 8 = some (12, none, .getfield 93) := by decide +kernel
theorem fe_190_11 : am_fe 190 11 = some (12, none, .sipush 300) := by decide +kernel
theorem fe_190_14 : am_fe 190 14 = some (12, none, .aload_n 0) := by decide +kernel
theorem fe_190_15 : am_fe 190 15 = some (12, none, .getfield 215) := by decide +kernel
theorem fe_190_18 : am_fe 190 18 = some (12, none, .imul) := by decide +kernel
theorem fe_190_19 : am_fe 190 19 = some (12, none, .aload_n 0) := by decide +kernel
theorem fe_190_20 : am_fe 190 20 = some (12, none, .getfield 218) := by decide +kernel
theorem fe_190_23 : am_fe 190 23 = some (12, none, .iadd) := by decide +kernel
theorem fe_190_24 : am_fe 190 24 = some (12, none, .iload_n 1) := by decide +kernel
theorem fe_190_25 : am_fe 190 25 = some (12, none, .iastore) := by decide +kernel
theorem fe_190_26 : am_fe 190 26 = some (12, none, .aload_n 0) := by decide +kernel
theorem fe_190_27 : am_fe 190 27 = some (12, none, .getfield 96) := by decide +kernel
theorem fe_190_30 : am_fe 190 30 = some (12, none, .sipush 300) := by decide +kernel
theorem fe_190_33 : am_fe 190 33 = some (12, none, .aload_n 0) := by decide +kernel
theorem fe_190_34 : am_fe 190 34 = some (12, none, .getfield 215) := by decide +kernel
theorem fe_190_37 : am_fe 190 37 = some (12, none, .imul) := by decide +kernel
theorem fe_190_38 : am_fe 190 38 = some (12, none, .aload_n 0) := by decide +kernel
theorem fe_190_39 : am_fe 190 39 = some (12, none, .getfield 218) := by decide +kernel
theorem fe_190_42 : am_fe 190 42 = some (12, none, .iadd) := by decide +kernel
theorem fe_190_43 : am_fe 190 43 = some (12, none, .iload_n 2) := by decide +kernel
theorem fe_190_44 : am_fe 190 44 = some (12, none, .iastore) := by decide +kernel
theorem fe_190_45 : am_fe 190 45 = some (12, none, .aload_n 0) := by decide +kernel
theorem fe_190_46 : am_fe 190 46 = some (12, none, .dup) := by decide +kernel
theorem fe_190_47 : am_fe 190 47 = some (12, none, .getfield 218) := by decide +kernel
theorem fe_190_50 : am_fe 190 50 = some (12, none, .iconst 1) := by decide +kernel
theorem fe_190_51 : am_fe 190 51 = some (12, none, .iadd) := by decide +kernel
theorem fe_190_52 : am_fe 190 52 = some (12, none, .putfield 218) := by decide +kernel
theorem fe_190_55 : am_fe 190 55 = some (12, none, .return_) := by decide +kernel
theorem fe_191_0 : am_fe 191 0 = some (12, some (.object "java/lang/String"), .iload_n 0) := by decide +kernel
theorem fe_191_1 : am_fe 191 1 = some (12, some (.object "java/lang/String"), .tableswitch 85 0 9 #[55, 58, 61, 64, 67, 70, 73, 76, 79, 82]) := by decide +kernel
theorem fe_191_56 : am_fe 191 56 = some (12, some (.object "java/lang/String"), .ldc 164) := by decide +kernel
theorem fe_191_58 : am_fe 191 58 = some (12, some (.object "java/lang/String"), .areturn) := by decide +kernel
theorem fe_191_59 : am_fe 191 59 = some (12, some (.object "java/lang/String"), .ldc 166) := by decide +kernel
theorem fe_191_61 : am_fe 191 61 = some (12, some (.object "java/lang/String"), .areturn) := by decide +kernel
theorem fe_191_62 : am_fe 191 62 = some (12, some (.object "java/lang/String"), .ldc 168) := by decide +kernel
theorem fe_191_64 : am_fe 191 64 = some (12, some (.object "java/lang/String"), .areturn) := by decide +kernel
theorem fe_191_65 : am_fe 191 65 = some (12, some (.object "java/lang/String"), .ldc 170) := by decide +kernel
theorem fe_191_67 : am_fe 191 67 = some (12, some (.object "java/lang/String"), .areturn) := by decide +kernel
theorem fe_191_68 : am_fe 191 68 = some (12, some (.object "java/lang/String"), .ldc 172) := by decide +kernel
theorem fe_191_70 : am_fe 191 70 = some (12, some (.object "java/lang/String"), .areturn) := by decide +kernel
theorem fe_191_71 : am_fe 191 71 = some (12, some (.object "java/lang/String"), .ldc 174) := by decide +kernel
theorem fe_191_73 : am_fe 191 73 = some (12, some (.object "java/lang/String"), .areturn) := by decide +kernel
theorem fe_191_74 : am_fe 191 74 = some (12, some (.object "java/lang/String"), .ldc 176) := by decide +kernel
theorem fe_191_76 : am_fe 191 76 = some (12, some (.object "java/lang/String"), .areturn) := by decide +kernel
theorem fe_191_77 : am_fe 191 77 = some (12, some (.object "java/lang/String"), .ldc 178) := by decide +kernel
theorem fe_191_79 : am_fe 191 79 = some (12, some (.object "java/lang/String"), .areturn) := by decide +kernel
theorem fe_191_80 : am_fe 191 80 = some (12, some (.object "java/lang/String"), .ldc 180) := by decide +kernel
theorem fe_191_82 : am_fe 191 82 = some (12, some (.object "java/lang/String"), .areturn) := by decide +kernel
theorem fe_191_83 : am_fe 191 83 = some (12, some (.object "java/lang/String"), .ldc 182) := by decide +kernel
theorem fe_191_85 : am_fe 191 85 = some (12, some (.object "java/lang/String"), .areturn) := by decide +kernel
theorem fe_191_86 : am_fe 191 86 = some (12, some (.object "java/lang/String"), .ldc 184) := by decide +kernel
theorem fe_191_88 : am_fe 191 88 = some (12, some (.object "java/lang/String"), .areturn) := by decide +kernel
theorem fe_192_0 : am_fe 192 0 = some (12, none, .aload_n 0) := by decide +kernel
theorem fe_192_1 : am_fe 192 1 = some (12, none, .invokevirtual 261) := by decide +kernel
theorem fe_192_4 : am_fe 192 4 = some (12, none, .iload_n 1) := by decide +kernel
theorem fe_192_5 : am_fe 192 5 = some (12, none, .if_icmp .ne 49) := by decide +kernel
theorem fe_192_8 : am_fe 192 8 = some (12, none, .aload_n 0) := by decide +kernel
theorem fe_192_9 : am_fe 192 9 = some (12, none, .getfield 185) := by decide +kernel
theorem fe_192_12 : am_fe 192 12 = some (12, none, .ifCond .ne 42) := by decide +kernel
theorem fe_192_15 : am_fe 192 15 = some (12, none, .aload_n 0) := by decide +kernel
theorem fe_192_16 : am_fe 192 16 = some (12, none, .iload_n 1) := by decide +kernel
theorem fe_192_17 : am_fe 192 17 = some (12, none, .iconst 0) := by decide +kernel
theorem fe_192_18 : am_fe 192 18 = some (12, none, .invokevirtual 239) := by decide +kernel
theorem fe_192_21 : am_fe 192 21 = some (12, none, .aload_n 0) := by decide +kernel
theorem fe_192_22 : am_fe 192 22 = some (12, none, .dup) := by decide +kernel
theorem fe_192_23 : am_fe 192 23 = some (12, none, .getfield 255) := by decide +kernel
theorem fe_192_26 : am_fe 192 26 = some (12, none, .iconst 1) := by decide +kernel
theorem fe_192_27 : am_fe 192 27 = some (12, none, .isub) := by decide +kernel
theorem fe_192_28 : am_fe 192 28 = some (12, none, .putfield 255) := by decide +kernel
theorem fe_192_31 : am_fe 192 31 = some (12, none, .aload_n 0) := by decide +kernel
theorem fe_192_32 : am_fe 192 32 = some (12, none, .dup) := by decide +kernel
theorem fe_192_33 : am_fe 192 33 = some (12, none, .getfield 258) := by decide +kernel
theorem fe_192_36 : am_fe 192 36 = some (12, none, .iload_n 1) := by decide +kernel
theorem fe_192_37 : am_fe 192 37 = some (12, none, .bipush 9) := by decide +kernel
theorem fe_192_39 : am_fe 192 39 = some (12, none, .if_icmp .ne 7) := by decide +kernel
theorem fe_192_42 : am_fe 192 42 = some (12, none, .iconst 1) := by decide +kernel
theorem fe_192_43 : am_fe 192 43 = some (12, none, .goto 4) := by decide +kernel
theorem fe_192_46 : am_fe 192 46 = some (12, none, .iconst 0) := by decide +kernel
theorem fe_192_47 : am_fe 192 47 = some (12, none, .isub) := by decide +kernel
theorem fe_192_48 : am_fe 192 48 = some (12, none, .putfield 258) := by decide +kernel
theorem fe_192_51 : am_fe 192 51 = some (12, none, .goto (-51)) := by decide +kernel
theorem fe_192_54 : am_fe 192 54 = some (12, none, .return_) := by decide +kernel
theorem fe_193_0 : am_fe 193 0 = some (12, some .int, .aload_n 0) := by decide +kernel
theorem fe_193_1 : am_fe 193 1 = some (12, some .int, .getfield 255) := by decide +kernel
theorem fe_193_4 : am_fe 193 4 = some (12, some .int, .ifCond .ne 7) := by decide +kernel
theorem fe_193_7 : am_fe 193 7 = some (12, some .int, .iconst (-1)) := by decide +kernel
theorem fe_193_8 : am_fe 193 8 = some (12, some .int, .goto 14) := by decide +kernel
theorem fe_193_11 : am_fe 193 11 = some (12, some .int, .aload_n 0) := by decide +kernel
theorem fe_193_12 : am_fe 193 12 = some (12, some .int, .getfield 108) := by decide +kernel
theorem fe_193_15 : am_fe 193 15 = some (12, some .int, .aload_n 0) := by decide +kernel
theorem fe_193_16 : am_fe 193 16 = some (12, some .int, .getfield 255) := by decide +kernel
theorem fe_193_19 : am_fe 193 19 = some (12, some .int, .iconst 1) := by decide +kernel
theorem fe_193_20 : am_fe 193 20 = some (12, some .int, .isub) := by decide +kernel
theorem fe_193_21 : am_fe 193 21 = some (12, some .int, .iaload) := by decide +kernel
theorem fe_193_22 : am_fe 193 22 = some (12, some .int, .ireturn) := by decide +kernel
theorem fe_194_0 : am_fe 194 0 = some (12, some .int, .iload_n 1) := by decide +kernel
theorem fe_194_1 : am_fe 194 1 = some (12, some .int, .i2l) := by decide +kernel
theorem fe_194_2 : am_fe 194 2 = some (12, some .int, .ldc2_w 360) := by decide +kernel
theorem fe_194_5 : am_fe 194 5 = some (12, some .int, .aload_n 0) := by decide +kernel
theorem fe_194_6 : am_fe 194 6 = some (12, some .int, .getfield 354) := by decide +kernel
theorem fe_194_9 : am_fe 194 9 = some (12, some .int, .iconst 1) := by decide +kernel
theorem fe_194_10 : am_fe 194 10 = some (12, some .int, .isub) := by decide +kernel
theorem fe_194_11 : am_fe 194 11 = some (12, some .int, .i2l) := by decide +kernel
theorem fe_194_12 : am_fe 194 12 = some (12, some .int, .invokestatic 143) := by decide +kernel
theorem fe_194_15 : am_fe 194 15 = some (12, some .int, .ifCond .ne 6) := by decide +kernel
theorem fe_194_18 : am_fe 194 18 = some (12, some .int, .bipush (-2)) := by decide +kernel
theorem fe_194_20 : am_fe 194 20 = some (12, some .int, .ireturn) := by decide +kernel
theorem fe_194_21 : am_fe 194 21 = some (12, some .int, .aload_n 0) := by decide +kernel
theorem fe_194_22 : am_fe 194 22 = some (12, some .int, .getfield 9) := by decide +kernel
theorem fe_194_25 : am_fe 194 25 = some (12, some .int, .bipush 8) := by decide +kernel
theorem fe_194_27 : am_fe 194 27 = some (12, some .int, .iaload) := by decide +kernel
theorem fe_194_28 : am_fe 194 28 = some (12, some .int, .istore_n 2) := by decide +kernel
theorem fe_194_29 : am_fe 194 29 = some (12, some .int, .aload_n 0) := by decide +kernel
theorem fe_194_30 : am_fe 194 30 = some (12, some .int, .getfield 9) := by decide +kernel
theorem fe_194_33 : am_fe 194 33 = some (12, some .int, .bipush 8) := by decide +kernel
theorem fe_194_35 : am_fe 194 35 = some (12, some .int, .iload_n 1) := by decide +kernel
theorem fe_194_36 : am_fe 194 36 = some (12, some .int, .iastore) := by decide +kernel
theorem fe_194_37 : am_fe 194 37 = some (12, some .int, .iload_n 2) := by decide +kernel
theorem fe_194_38 : am_fe 194 38 = some (12, some .int, .ireturn) := by decide +kernel
theorem fe_195_0 : am_fe 195 0 = some (12, some .int, .aload_n 0) := by decide +kernel
theorem fe_195_1 : am_fe 195 1 = some (12, some .int, .iload_n 1) := by decide +kernel
theorem fe_195_2 : am_fe 195 2 = some (12, some .int, .invokevirtual 378) := by decide +kernel
theorem fe_195_5 : am_fe 195 5 = some (12, some .int, .ifCond .ne 6) := by decide +kernel
theorem fe_195_8 : am_fe 195 8 = some (12, some .int, .bipush (-2)) := by decide +kernel
theorem fe_195_10 : am_fe 195 10 = some (12, some .int, .ireturn) := by decide +kernel
theorem fe_195_11 : am_fe 195 11 = some (12, some .int, .iload_n 2) := by decide +kernel
theorem fe_195_12 : am_fe 195 12 = some (12, some .int, .tableswitch 144 0 5 #[40, 47, 54, 78, 114, 138]) := by decide +kernel
theorem fe_195_52 : am_fe 195 52 = some (12, some .int, .aload_n 0) := by decide +kernel
theorem fe_195_53 : am_fe 195 53 = some (12, some .int, .getfield 13) := by decide +kernel
theorem fe_195_56 : am_fe 195 56 = some (12, some .int, .iload_n 1) := by decide +kernel
theorem fe_195_57 : am_fe 195 57 = some (12, some .int, .iaload) := by decide +kernel
theorem fe_195_58 : am_fe 195 58 = some (12, some .int, .ireturn) := by decide +kernel
theorem fe_195_59 : am_fe 195 59 = some (12, some .int, .aload_n 0) := by decide +kernel
theorem fe_195_60 : am_fe 195 60 = some (12, some .int, .getfield 16) := by decide +kernel
theorem fe_195_63 : am_fe 195 63 = some (12, some .int, .iload_n 1) := by decide +kernel
theorem fe_195_64 : am_fe 195 64 = some (12, some .int, .iaload) := by decide +kernel
theorem fe_195_65 : am_fe 195 65 = some (12, some .int, .ireturn) := by decide +kernel
theorem fe_195_66 : am_fe 195 66 = some (12, some .int, .aload_n 0) := by decide +kernel
theorem fe_195_67 : am_fe 195 67 = some (12, some .int, .iload_n 1) := by decide +kernel
theorem fe_195_68 : am_fe 195 68 = some (12, some .int, .invokevirtual 381) := by decide +kernel
theorem fe_195_71 : am_fe 195 71 = some (12, some .int, .iconst (-1)) := by decide +kernel
theorem fe_195_72 : am_fe 195 72 = some (12, some .int, .if_icmp .ne 7) := by decide +kernel
theorem fe_195_75 : am_fe 195 75 = some (12, some .int, .iconst 0) := by decide +kernel
theorem fe_195_76 : am_fe 195 76 = some (12, some .int, .goto 13) := by decide +kernel
theorem fe_195_79 : am_fe 195 79 = some (12, some .int, .aload_n 0) := by decide +kernel
theorem fe_195_80 : am_fe 195 80 = some (12, some .int, .getfield 22) := by decide +kernel
theorem fe_195_83 : am_fe 195 83 = some (12, some .int, .aload_n 0) := by decide +kernel
theorem fe_195_84 : am_fe 195 84 = some (12, some .int, .iload_n 1) := by decide +kernel
theorem fe_195_85 : am_fe 195 85 = some (12, some .int, .invokevirtual 381) := by decide +kernel
theorem fe_195_88 : am_fe 195 88 = some (12, some .int, .iaload) := by decide +kernel
theorem fe_195_89 : am_fe 195 89 = some (12, some .int, .ireturn) := by decide +kernel
theorem fe_195_90 : am_fe 195 90 = some (12, some .int, .aload_n 0) := by decide +kernel
theorem fe_195_91 : am_fe 195 91 = some (12, some .int, .iload_n 1) := by decide +kernel
theorem fe_195_92 : am_fe 195 92 = some (12, some .int, .invokevirtual 384) := by decide +kernel
theorem fe_195_95 : am_fe 195 95 = some (12, some .int, .iconst (-1)) := by decide +kernel
theorem fe_195_96 : am_fe 195 96 = some (12, some .int, .if_icmp .ne 7) := by decide +kernel
theorem fe_195_99 : am_fe 195 99 = some (12, some .int, .iconst 0) := by decide +kernel
theorem fe_195_100 : am_fe 195 100 = some (12, some .int, .goto 25) := by decide +kernel
theorem fe_195_103 : am_fe 195 103 = some (12, some .int, .aload_n 0) := by decide +kernel
theorem fe_195_104 : am_fe 195 104 = some (12, some .int, .getfield 9) := by decide +kernel
theorem fe_195_107 : am_fe 195 107 = some (12, some .int, .iconst 5) := by decide +kernel
theorem fe_195_108 : am_fe 195 108 = some (12, some .int, .iaload) := by decide +kernel
theorem fe_195_109 : am_fe 195 109 = some (12, some .int, .aload_n 0) := by decide +kernel
theorem fe_195_110 : am_fe 195 110 = some (12, some .int, .iload_n 1) := by decide +kernel
theorem fe_195_111 : am_fe 195 111 = some (12, some .int, .invokevirtual 384) := by decide +kernel
theorem fe_195_114 : am_fe 195 114 = some (12, some .int, .invokestatic 387) := by decide +kernel
theorem fe_195_117 : am_fe 195 117 = some (12, some .int, .ifCond .eq 7) := by decide +kernel
theorem fe_195_120 : am_fe 195 120 = some (12, some .int, .iconst 2) := by decide +kernel
theorem fe_195_121 : am_fe 195 121 = some (12, some .int, .goto 4) := by decide +kernel
theorem fe_195_124 : am_fe 195 124 = some (12, some .int, .iconst 1) := by decide +kernel
theorem fe_195_125 : am_fe 195 125 = some (12, some .int, .ireturn) := by decide +kernel
theorem fe_195_126 : am_fe 195 126 = some (12, some .int, .aload_n 0) := by decide +kernel
theorem fe_195_127 : am_fe 195 127 = some (12, some .int, .iload_n 1) := by decide +kernel
theorem fe_195_128 : am_fe 195 128 = some (12, some .int, .invokevirtual 390) := by decide +kernel
theorem fe_195_131 : am_fe 195 131 = some (12, some .int, .iconst (-1)) := by decide +kernel
theorem fe_195_132 : am_fe 195 132 = some (12, some .int, .if_icmp .ne 7) := by decide +kernel
theorem fe_195_135 : am_fe 195 135 = some (12, some .int, .iconst 0) := by decide +kernel
theorem fe_195_136 : am_fe 195 136 = some (12, some .int, .goto 13) := by decide +kernel
theorem fe_195_139 : am_fe 195 139 = some (12, some .int, .aload_n 0) := by decide +kernel
theorem fe_195_140 : am_fe 195 140 = some (12, some .int, .getfield 34) := by decide +kernel
theorem fe_195_143 : am_fe 195 143 = some (12, some .int, .aload_n 0) := by decide +kernel
theorem fe_195_144 : am_fe 195 144 = some (12, some .int, .iload_n 1) := by decide +kernel
theorem fe_195_145 : am_fe 195 145 = some (12, some .int, .invokevirtual 390) := by decide +kernel
theorem fe_195_148 : am_fe 195 148 = some (12, some .int, .iaload) := by decide +kernel
theorem fe_195_149 : am_fe 195 149 = some (12, some .int, .ireturn) := by decide +kernel
theorem fe_195_150 : am_fe 195 150 = some (12, some .int, .aload_n 0) := by decide +kernel
theorem fe_195_151 : am_fe 195 151 = some (12, some .int, .iload_n 1) := by decide +kernel
theorem fe_195_152 : am_fe 195 152 = some (12, some .int, .invokevirtual 393) := by decide +kernel
theorem fe_195_155 : am_fe 195 155 = some (12, some .int, .ireturn) := by decide +kernel
theorem fe_195_156 : am_fe 195 156 = some (12, some .int, .bipush (-2)) := by decide +kernel
theorem fe_195_158 : am_fe 195 158 = some (12, some .int, .ireturn) := by decide +kernel
theorem fe_196_0 : am_fe 196 0 = some (12, some .boolean, .iload_n 1) := by decide +kernel
theorem fe_196_1 : am_fe 196 1 = some (12, some .boolean, .i2l) := by decide +kernel
theorem fe_196_2 : am_fe 196 2 = some (12, some .boolean, .lconst 0) := by decide +kernel
theorem fe_196_3 : am_fe 196 3 = some (12, some .boolean, .aload_n 0) := by decide +kernel
theorem fe_196_4 : am_fe 196 4 = some (12, some .boolean, .getfield 9) := by decide +kernel
theorem fe_196_7 : am_fe 196 7 = some (12, some .boolean, .iconst 0) := by decide +kernel
theorem fe_196_8 : am_fe 196 8 = some (12, some .boolean, .iaload) := by decide +kernel
theorem fe_196_9 : am_fe 196 9 = some (12, some .boolean, .iconst 1) := by decide +kernel
theorem fe_196_10 : am_fe 196 10 = some (12, some .boolean, .isub) := by decide +kernel
theorem fe_196_11 : am_fe 196 11 = some (12, some .boolean, .i2l) := by decide +kernel
theorem fe_196_12 : am_fe 196 12 = some (12, some .boolean, .invokestatic 143) := by decide +kernel
theorem fe_196_15 : am_fe 196 15 = some (12, some .boolean, .ireturn) := by decide +kernel
theorem fe_197_0 : am_fe 197 0 = some (12, some .int, .aload_n 0) := by decide +kernel
theorem fe_197_1 : am_fe 197 1 = some (12, some .int, .getfield 19) := by decide +kernel
theorem fe_197_4 : am_fe 197 4 = some (12, some .int, .aload_n 0) := by decide +kernel
theorem fe_197_5 : am_fe 197 5 = some (12, some .int, .getfield 9) := by decide +kernel
theorem fe_197_8 : am_fe 197 8 = some (12, some .int, .iconst 1) := by decide +kernel
theorem fe_197_9 : am_fe 197 9 = some (12, some .int, .iaload) := by decide +kernel
theorem fe_197_10 : am_fe 197 10 = some (12, some .int, .iload_n 1) := by decide +kernel
theorem fe_197_11 : am_fe 197 11 = some (12, some .int, .invokestatic 147) := by decide +kernel
theorem fe_197_14 : am_fe 197 14 = some (12, some .int, .ireturn) := by decide +kernel
theorem fe_198_0 : am_fe 198 0 = some (12, some .int, .aload_n 0) := by decide +kernel
theorem fe_198_1 : am_fe 198 1 = some (12, some .int, .getfield 28) := by decide +kernel
theorem fe_198_4 : am_fe 198 4 = some (12, some .int, .aload_n 0) := by decide +kernel
theorem fe_198_5 : am_fe 198 5 = some (12, some .int, .getfield 9) := by decide +kernel
theorem fe_198_8 : am_fe 198 8 = some (12, some .int, .iconst 2) := by decide +kernel
theorem fe_198_9 : am_fe 198 9 = some (12, some .int, .iaload) := by decide +kernel
theorem fe_198_10 : am_fe 198 10 = some (12, some .int, .iload_n 1) := by decide +kernel
theorem fe_198_11 : am_fe 198 11 = some (12, some .int, .invokestatic 147) := by decide +kernel
theorem fe_198_14 : am_fe 198 14 = some (12, some .int, .ireturn) := by decide +kernel
theorem fe_199_0 : am_fe 199 0 = some (12, some .boolean, .iload_n 0) := by decide +kernel
theorem fe_199_1 : am_fe 199 1 = some (12, some .boolean, .iload_n 1) := by decide +kernel
theorem fe_199_2 : am_fe 199 2 = some (12, some .boolean, .ishr) := by decide +kernel
theorem fe_199_3 : am_fe 199 3 = some (12, some .boolean, .iconst 1) := by decide +kernel
theorem fe_199_4 : am_fe 199 4 = some (12, some .boolean, .iand) := by decide +kernel
theorem fe_199_5 : am_fe 199 5 = some (12, some .boolean, .iconst 1) := by decide +kernel
theorem fe_199_6 : am_fe 199 6 = some (12, some .boolean, .if_icmp .ne 7) := by decide +kernel
theorem fe_199_9 : am_fe 199 9 = some (12, some .boolean, .iconst 1) := by decide +kernel
theorem fe_199_10 : am_fe 199 10 = some (12, some .boolean, .goto 4) := by decide +kernel
theorem fe_199_13 : am_fe 199 13 = some (12, some .boolean, .iconst 0) := by decide +kernel
theorem fe_199_14 : am_fe 199 14 = some (12, some .boolean, .ireturn) := by decide +kernel
theorem fe_200_0 : am_fe 200 0 = some (12, some .int, .aload_n 0) := by decide +kernel
theorem fe_200_1 : am_fe 200 1 = some (12, some .int, .getfield 31) := by decide +kernel
theorem fe_200_4 : am_fe 200 4 = some (12, some .int, .aload_n 0) := by decide +kernel
theorem fe_200_5 : am_fe 200 5 = some (12, some .int, .getfield 9) := by decide +kernel
theorem fe_200_8 : am_fe 200 8 = some (12, some .int, .iconst 3) := by decide +kernel
theorem fe_200_9 : am_fe 200 9 = some (12, some .int, .iaload) := by decide +kernel
theorem fe_200_10 : am_fe 200 10 = some (12, some .int, .iload_n 1) := by decide +kernel
theorem fe_200_11 : am_fe 200 11 = some (12, some .int, .invokestatic 147) := by decide +kernel
theorem fe_200_14 : am_fe 200 14 = some (12, some .int, .ireturn) := by decide +kernel
theorem fe_201_0 : am_fe 201 0 = some (12, some .int, .iconst 0) := by decide +kernel
theorem fe_201_1 : am_fe 201 1 = some (12, some .int, .istore_n 2) := by decide +kernel
theorem fe_201_2 : am_fe 201 2 = some (12, some .int, .iconst 0) := by decide +kernel
theorem fe_201_3 : am_fe 201 3 = some (12, some .int, .istore_n 3) := by decide +kernel
theorem fe_201_4 : am_fe 201 4 = some (12, some .int, .iload_n 3) := by decide +kernel
theorem fe_201_5 : am_fe 201 5 = some (12, some .int, .aload_n 0) := by decide +kernel
theorem fe_201_6 : am_fe 201 6 = some (12, some .int, .getfield 9) := by decide +kernel
theorem fe_201_9 : am_fe 201 9 = some (12, some .int, .iconst 4) := by decide +kernel
theorem fe_201_10 : am_fe 201 10 = some (12, some .int, .iaload) := by decide +kernel
theorem fe_201_11 : am_fe 201 11 = some (12, some .int, .if_icmp .ge 37) := by decide +kernel
theorem fe_201_14 : am_fe 201 14 = some (12, some .int, .iload_n 2) := by decide +kernel
theorem fe_201_15 : am_fe 201 15 = some (12, some .int, .aload_n 0) := by decide +kernel
theorem fe_201_16 : am_fe 201 16 = some (12, some .int, .iload_n 3) := by decide +kernel
theorem fe_201_17 : am_fe 201 17 = some (12, some .int, .invokevirtual 374) := by decide +kernel
theorem fe_201_20 : am_fe 201 20 = some (12, some .int, .ifCond .eq 19) := by decide +kernel
theorem fe_201_23 : am_fe 201 23 = some (12, some .int, .aload_n 0) := by decide +kernel
theorem fe_201_24 : am_fe 201 24 = some (12, some .int, .getfield 37) := by decide +kernel
theorem fe_201_27 : am_fe 201 27 = some (12, some .int, .iload_n 3) := by decide +kernel
theorem fe_201_28 : am_fe 201 28 = some (12, some .int, .iaload) := by decide +kernel
theorem fe_201_29 : am_fe 201 29 = some (12, some .int, .iload_n 1) := by decide +kernel
theorem fe_201_30 : am_fe 201 30 = some (12, some .int, .if_icmp .ne 9) := by decide +kernel
theorem fe_201_33 : am_fe 201 33 = some (12, some .int, .iconst 1) := by decide +kernel
theorem fe_201_34 : am_fe 201 34 = some (12, some .int, .iload_n 3) := by decide +kernel
theorem fe_201_35 : am_fe 201 35 = some (12, some .int, .ishl) := by decide +kernel
theorem fe_201_36 : am_fe 201 36 = some (12, some .int, .goto 4) := by decide +kernel
theorem fe_201_39 : am_fe 201 39 = some (12, some .int, .iconst 0) := by decide +kernel
theorem fe_201_40 : am_fe 201 40 = some (12, some .int, .ior) := by decide +kernel
theorem fe_201_41 : am_fe 201 41 = some (12, some .int, .istore_n 2) := by decide +kernel
theorem fe_201_42 : am_fe 201 42 = some (12, some .int, .iinc 3 1) := by decide +kernel
theorem fe_201_45 : am_fe 201 45 = some (12, some .int, .goto (-41)) := by decide +kernel
theorem fe_201_48 : am_fe 201 48 = some (12, some .int, .iload_n 2) := by decide +kernel
theorem fe_201_49 : am_fe 201 49 = some (12, some .int, .ireturn) := by decide +kernel
theorem fe_202_0 : am_fe 202 0 = some (12, some .boolean, .aload_n 0) := by decide +kernel
theorem fe_202_1 : am_fe 202 1 = some (12, some .boolean, .getfield 46) := by decide +kernel
theorem fe_202_4 : am_fe 202 4 = some (12, some .boolean, .iload_n 1) := by decide +kernel
theorem fe_202_5 : am_fe 202 5 = some (12, some .boolean, .iaload) := by decide +kernel
theorem fe_202_6 : am_fe 202 6 = some (12, some .boolean, .ifCond .ne 7) := by decide +kernel
theorem fe_202_9 : am_fe 202 9 = some (12, some .boolean, .iconst 1) := by decide +kernel
theorem fe_202_10 : am_fe 202 10 = some (12, some .boolean, .goto 4) := by decide +kernel
theorem fe_202_13 : am_fe 202 13 = some (12, some .boolean, .iconst 0) := by decide +kernel
theorem fe_202_14 : am_fe 202 14 = some (12, some .boolean, .ireturn) := by decide +kernel
theorem fe_203_0 : am_fe 203 0 = some (12, some .int, .aload_n 0) := by decide +kernel
theorem fe_203_1 : am_fe 203 1 = some (12, some .int, .iload_n 1) := by decide +kernel
theorem fe_203_2 : am_fe 203 2 = some (12, some .int, .invokevirtual 396) := by decide +kernel
theorem fe_203_5 : am_fe 203 5 = some (12, some .int, .ifCond .ne 6) := by decide +kernel
theorem fe_203_8 : am_fe 203 8 = some (12, some .int, .bipush (-2)) := by decide +kernel
theorem fe_203_10 : am_fe 203 10 = some (12, some .int, .ireturn) := by decide +kernel
theorem fe_203_11 : am_fe 203 11 = some (12, some .int, .iload_n 2) := by decide +kernel
theorem fe_203_12 : am_fe 203 12 = some (12, some .int, .tableswitch 106 0 5 #[40, 59, 66, 85, 92, 99]) := by decide +kernel
theorem fe_203_52 : am_fe 203 52 = some (12, some .int, .aload_n 0) := by decide +kernel
theorem fe_203_53 : am_fe 203 53 = some (12, some .int, .iload_n 1) := by decide +kernel
theorem fe_203_54 : am_fe 203 54 = some (12, some .int, .invokevirtual 374) := by decide +kernel
theorem fe_203_57 : am_fe 203 57 = some (12, some .int, .ifCond .eq 12) := by decide +kernel
theorem fe_203_60 : am_fe 203 60 = some (12, some .int, .aload_n 0) := by decide +kernel
theorem fe_203_61 : am_fe 203 61 = some (12, some .int, .getfield 37) := by decide +kernel
theorem fe_203_64 : am_fe 203 64 = some (12, some .int, .iload_n 1) := by decide +kernel
theorem fe_203_65 : am_fe 203 65 = some (12, some .int, .iaload) := by decide +kernel
theorem fe_203_66 : am_fe 203 66 = some (12, some .int, .goto 4) := by decide +kernel
theorem fe_203_69 : am_fe 203 69 = some (12, some .int, .iconst (-1)) := by decide +kernel
theorem fe_203_70 : am_fe 203 70 = some (12, some .int, .ireturn) := by decide +kernel
theorem fe_203_71 : am_fe 203 71 = some (12, some .int, .aload_n 0) := by decide +kernel
theorem fe_203_72 : am_fe 203 72 = some (12, some .int, .getfield 40) := by decide +kernel
theorem fe_203_75 : am_fe 203 75 = some (12, some .int, .iload_n 1) := by decide +kernel
theorem fe_203_76 : am_fe 203 76 = some (12, some .int, .iaload) := by decide +kernel
theorem fe_203_77 : am_fe 203 77 = some (12, some .int, .ireturn) := by decide +kernel
theorem fe_203_78 : am_fe 203 78 = some (12, some .int, .aload_n 0) := by decide +kernel
theorem fe_203_79 : am_fe 203 79 = some (12, some .int, .iload_n 1) := by decide +kernel
theorem fe_203_80 : am_fe 203 80 = some (12, some .int, .invokevirtual 374) := by decide +kernel
theorem fe_203_83 : am_fe 203 83 = some (12, some .int, .ifCond .eq 12) := by decide +kernel
theorem fe_203_86 : am_fe 203 86 = some (12, some .int, .aload_n 0) := by decide +kernel
theorem fe_203_87 : am_fe 203 87 = some (12, some .int, .getfield 43) := by decide +kernel
theorem fe_203_90 : am_fe 203 90 = some (12, some .int, .iload_n 1) := by decide +kernel
theorem fe_203_91 : am_fe 203 91 = some (12, some .int, .iaload) := by decide +kernel
theorem fe_203_92 : am_fe 203 92 = some (12, some .int, .goto 4) := by decide +kernel
theorem fe_203_95 : am_fe 203 95 = some (12, some .int, .iconst 0) := by decide +kernel
theorem fe_203_96 : am_fe 203 96 = some (12, some .int, .ireturn) := by decide +kernel
theorem fe_203_97 : am_fe 203 97 = some (12, some .int, .aload_n 0) := by decide +kernel
theorem fe_203_98 : am_fe 203 98 = some (12, some .int, .getfield 46) := by decide +kernel
theorem fe_203_101 : am_fe 203 101 = some (12, some .int, .iload_n 1) := by decide +kernel
theorem fe_203_102 : am_fe 203 102 = some (12, some .int, .iaload) := by decide +kernel
theorem fe_203_103 : am_fe 203 103 = some (12, some .int, .ireturn) := by decide +kernel
theorem fe_203_104 : am_fe 203 104 = some (12, some .int, .aload_n 0) := by decide +kernel
theorem fe_203_105 : am_fe 203 105 = some (12, some .int, .getfield 49) := by decide +kernel
theorem fe_203_108 : am_fe 203 108 = some (12, some .int, .iload_n 1) := by decide +kernel
theorem fe_203_109 : am_fe 203 109 = some (12, some .int, .iaload) := by decide +kernel
theorem fe_203_110 : am_fe 203 110 = some (12, some .int, .ireturn) := by decide +kernel
theorem fe_203_111 : am_fe 203 111 = some (12, some .int, .aload_n 0) := by decide +kernel
theorem fe_203_112 : am_fe 203 112 = some (12, some .int, .getfield 52) := by decide +kernel
theorem fe_203_115 : am_fe 203 115 = some (12, some .int, .iload_n 1) := by decide +kernel
theorem fe_203_116 : am_fe 203 116 = some (12, some .int, .iaload) := by decide +kernel
theorem fe_203_117 : am_fe 203 117 = some (12, some .int, .ireturn) := by decide +kernel
theorem fe_203_118 : am_fe 203 118 = some (12, some .int, .bipush (-2)) := by decide +kernel
theorem fe_203_120 : am_fe 203 120 = some (12, some .int, .ireturn) := by decide +kernel
theorem fe_204_0 : am_fe 204 0 = some (12, some .boolean, .iload_n 1) := by decide +kernel
theorem fe_204_1 : am_fe 204 1 = some (12, some .boolean, .i2l) := by decide +kernel
theorem fe_204_2 : am_fe 204 2 = some (12, some .boolean, .lconst 0) := by decide +kernel
theorem fe_204_3 : am_fe 204 3 = some (12, some .boolean, .aload_n 0) := by decide +kernel
theorem fe_204_4 : am_fe 204 4 = some (12, some .boolean, .getfield 9) := by decide +kernel
theorem fe_204_7 : am_fe 204 7 = some (12, some .boolean, .iconst 4) := by decide +kernel
theorem fe_204_8 : am_fe 204 8 = some (12, some .boolean, .iaload) := by decide +kernel
theorem fe_204_9 : am_fe 204 9 = some (12, some .boolean, .iconst 1) := by decide +kernel
theorem fe_204_10 : am_fe 204 10 = some (12, some .boolean, .isub) := by decide +kernel
theorem fe_204_11 : am_fe 204 11 = some (12, some .boolean, .i2l) := by decide +kernel
theorem fe_204_12 : am_fe 204 12 = some (12, some .boolean, .invokestatic 143) := by decide +kernel
theorem fe_204_15 : am_fe 204 15 = some (12, some .boolean, .ireturn) := by decide +kernel
theorem fe_205_0 : am_fe 205 0 = some (12, some .int, .aload_n 0) := by decide +kernel
theorem fe_205_1 : am_fe 205 1 = some (12, some .int, .getfield 346) := by decide +kernel
theorem fe_205_4 : am_fe 205 4 = some (12, some .int, .ifCond .ne 6) := by decide +kernel
theorem fe_205_7 : am_fe 205 7 = some (12, some .int, .bipush (-2)) := by decide +kernel
theorem fe_205_9 : am_fe 205 9 = some (12, some .int, .ireturn) := by decide +kernel
theorem fe_205_10 : am_fe 205 10 = some (12, some .int, .aload_n 0) := by decide +kernel
theorem fe_205_11 : am_fe 205 11 = some (12, some .int, .dup) := by decide +kernel
theorem fe_205_12 : am_fe 205 12 = some (12, some .int, .getfield 346) := by decide +kernel
theorem fe_205_15 : am_fe 205 15 = some (12, some .int, .iconst 1) := by decide +kernel
theorem fe_205_16 : am_fe 205 16 = some (12, some .int, .isub) := by decide +kernel
theorem fe_205_17 : am_fe 205 17 = some (12, some .int, .putfield 346) := by decide +kernel
theorem fe_205_20 : am_fe 205 20 = some (12, some .int, .aload_n 0) := by decide +kernel
theorem fe_205_21 : am_fe 205 21 = some (12, some .int, .aload_n 0) := by decide +kernel
theorem fe_205_22 : am_fe 205 22 = some (12, some .int, .getfield 346) := by decide +kernel
theorem fe_205_25 : am_fe 205 25 = some (12, some .int, .iconst 1) := by decide +kernel
theorem fe_205_26 : am_fe 205 26 = some (12, some .int, .invokevirtual 453) := by decide +kernel
theorem fe_205_29 : am_fe 205 29 = some (12, some .int, .aload_n 0) := by decide +kernel
theorem fe_205_30 : am_fe 205 30 = some (12, some .int, .getfield 346) := by decide +kernel
theorem fe_205_33 : am_fe 205 33 = some (12, some .int, .ireturn) := by decide +kernel
theorem fe_206_0 : am_fe 206 0 = some (12, none, .aload_n 0) := by decide +kernel
theorem fe_206_1 : am_fe 206 1 = some (12, none, .bipush 114) := by decide +kernel
theorem fe_206_3 : am_fe 206 3 = some (12, none, .iload_n 1) := by decide +kernel
theorem fe_206_4 : am_fe 206 4 = some (12, none, .imul) := by decide +kernel
theorem fe_206_5 : am_fe 206 5 = some (12, none, .putfield 443) := by decide +kernel
theorem fe_206_8 : am_fe 206 8 = some (12, none, .aload_n 0) := by decide +kernel
theorem fe_206_9 : am_fe 206 9 = some (12, none, .iload_n 2) := by decide +kernel
theorem fe_206_10 : am_fe 206 10 = some (12, none, .putfield 439) := by decide +kernel
theorem fe_206_13 : am_fe 206 13 = some (12, none, .aload_n 0) := by decide +kernel
theorem fe_206_14 : am_fe 206 14 = some (12, none, .getfield 9) := by decide +kernel
theorem fe_206_17 : am_fe 206 17 = some (12, none, .iconst 4) := by decide +kernel
theorem fe_206_18 : am_fe 206 18 = some (12, none, .aload_n 0) := by decide +kernel
theorem fe_206_19 : am_fe 206 19 = some (12, none, .aload_n 0) := by decide +kernel
theorem fe_206_20 : am_fe 206 20 = some (12, none, .getfield 9) := by decide +kernel
theorem fe_206_23 : am_fe 206 23 = some (12, none, .iconst 4) := by decide +kernel
theorem fe_206_24 : am_fe 206 24 = some (12, none, .iaload) := by decide +kernel
theorem fe_206_25 : am_fe 206 25 = some (12, none, .invokevirtual 446) := by decide +kernel
theorem fe_206_28 : am_fe 206 28 = some (12, none, .iastore) := by decide +kernel
theorem fe_206_29 : am_fe 206 29 = some (12, none, .aload_n 0) := by decide +kernel
theorem fe_206_30 : am_fe 206 30 = some (12, none, .getfield 9) := by decide +kernel
theorem fe_206_33 : am_fe 206 33 = some (12, none, .iconst 3) := by decide +kernel
theorem fe_206_34 : am_fe 206 34 = some (12, none, .aload_n 0) := by decide +kernel
theorem fe_206_35 : am_fe 206 35 = some (12, none, .aload_n 0) := by decide +kernel
theorem fe_206_36 : am_fe 206 36 = some (12, none, .getfield 9) := by decide +kernel
theorem fe_206_39 : am_fe 206 39 = some (12, none, .iconst 3) := by decide +kernel
theorem fe_206_40 : am_fe 206 40 = some (12, none, .iaload) := by decide +kernel
theorem fe_206_41 : am_fe 206 41 = some (12, none, .invokevirtual 446) := by decide +kernel
theorem fe_206_44 : am_fe 206 44 = some (12, none, .iastore) := by decide +kernel
theorem fe_206_45 : am_fe 206 45 = some (12, none, .aload_n 0) := by decide +kernel
theorem fe_206_46 : am_fe 206 46 = some (12, none, .getfield 9) := by decide +kernel
theorem fe_206_49 : am_fe 206 49 = some (12, none, .iconst 5) := by decide +kernel
theorem fe_206_50 : am_fe 206 50 = some (12, none, .aload_n 0) := by decide +kernel
theorem fe_206_51 : am_fe 206 51 = some (12, none, .aload_n 0) := by decide +kernel
theorem fe_206_52 : am_fe 206 52 = some (12, none, .getfield 9) := by decide +kernel
theorem fe_206_55 : am_fe 206 55 = some (12, none, .iconst 5) := by decide +kernel
theorem fe_206_56 : am_fe 206 56 = some (12, none, .iaload) := by decide +kernel
theorem fe_206_57 : am_fe 206 57 = some (12, none, .invokevirtual 446) := by decide +kernel
theorem fe_206_60 : am_fe 206 60 = some (12, none, .iastore) := by decide +kernel
theorem fe_206_61 : am_fe 206 61 = some (12, none, .aload_n 0) := by decide +kernel
theorem fe_206_62 : am_fe 206 62 = some (12, none, .getfield 9) := by decide +kernel
theorem fe_206_65 : am_fe 206 65 = some (12, none, .bipush 6) := by decide +kernel
theorem fe_206_67 : am_fe 206 67 = some (12, none, .aload_n 0) := by decide +kernel
theorem fe_206_68 : am_fe 206 68 = some (12, none, .aload_n 0) := by decide +kernel
theorem fe_206_69 : am_fe 206 69 = some (12, none, .getfield 9) := by decide +kernel
theorem fe_206_72 : am_fe 206 72 = some (12, none, .bipush 6) := by decide +kernel
theorem fe_206_74 : am_fe 206 74 = some (12, none, .iaload) := by decide +kernel
theorem fe_206_75 : am_fe 206 75 = some (12, none, .invokevirtual 446) := by decide +kernel
theorem fe_206_78 : am_fe 206 78 = some (12, none, .iastore) := by decide +kernel
theorem fe_206_79 : am_fe 206 79 = some (12, none, .aload_n 0) := by decide +kernel
theorem fe_206_80 : am_fe 206 80 = some (12, none, .aload_n 0) := by decide +kernel
theorem fe_206_81 : am_fe 206 81 = some (12, none, .getfield 25) := by decide +kernel
theorem fe_206_84 : am_fe 206 84 = some (12, none, .invokevirtual 449) := by decide +kernel
theorem fe_206_87 : am_fe 206 87 = some (12, none, .aload_n 0) := by decide +kernel
theorem fe_206_88 : am_fe 206 88 = some (12, none, .aload_n 0) := by decide +kernel
theorem fe_206_89 : am_fe 206 89 = some (12, none, .getfield 31) := by decide +kernel
theorem fe_206_92 : am_fe 206 92 = some (12, none, .invokevirtual 449) := by decide +kernel
theorem fe_206_95 : am_fe 206 95 = some (12, none, .aload_n 0) := by decide +kernel
theorem fe_206_96 : am_fe 206 96 = some (12, none, .aload_n 0) := by decide +kernel
theorem fe_206_97 : am_fe 206 97 = some (12, none, .getfield 34) := by decide +kernel
theorem fe_206_100 : am_fe 206 100 = some (12, none, .invokevirtual 449) := by decide +kernel
theorem fe_206_103 : am_fe 206 103 = some (12, none, .aload_n 0) := by decide +kernel
theorem fe_206_104 : am_fe 206 104 = some (12, none, .aload_n 0) := by decide +kernel
theorem fe_206_105 : am_fe 206 105 = some (12, none, .getfield 37) := by decide +kernel
theorem fe_206_108 : am_fe 206 108 = some (12, none, .invokevirtual 449) := by decide +kernel
theorem fe_206_111 : am_fe 206 111 = some (12, none, .aload_n 0) := by decide +kernel
theorem fe_206_112 : am_fe 206 112 = some (12, none, .aload_n 0) := by decide +kernel
theorem fe_206_113 : am_fe 206 113 = some (12, none, .getfield 40) := by decide +kernel
theorem fe_206_116 : am_fe 206 116 = some (12, none, .invokevirtual 449) := by decide +kernel
theorem fe_206_119 : am_fe 206 119 = some (12, none, .aload_n 0) := by decide +kernel
theorem fe_206_120 : am_fe 206 120 = some (12, none, .aload_n 0) := by decide +kernel
theorem fe_206_121 : am_fe 206 121 = some (12, none, .getfield 43) := by decide +kernel
theorem fe_206_124 : am_fe 206 124 = some (12, none, .invokevirtual 449) := by decide +kernel
theorem fe_206_127 : am_fe 206 127 = some (12, none, .aload_n 0) := by decide +kernel
theorem fe_206_128 : am_fe 206 128 = some (12, none, .aload_n 0) := by decide +kernel
theorem fe_206_129 : am_fe 206 129 = some (12, none, .getfield 46) := by decide +kernel
theorem fe_206_132 : am_fe 206 132 = some (12, none, .invokevirtual 449) := by decide +kernel
theorem fe_206_135 : am_fe 206 135 = some (12, none, .aload_n 0) := by decide +kernel
theorem fe_206_136 : am_fe 206 136 = some (12, none, .aload_n 0) := by decide +kernel
theorem fe_206_137 : am_fe 206 137 = some (12, none, .getfield 49) := by decide +kernel
theorem fe_206_140 : am_fe 206 140 = some (12, none, .invokevirtual 449) := by decide +kernel
theorem fe_206_143 : am_fe 206 143 = some (12, none, .aload_n 0) := by decide +kernel
theorem fe_206_144 : am_fe 206 144 = some (12, none, .aload_n 0) := by decide +kernel
theorem fe_206_145 : am_fe 206 145 = some (12, none, .getfield 52) := by decide +kernel
theorem fe_206_148 : am_fe 206 148 = some (12, none, .invokevirtual 449) := by decide +kernel
theorem fe_206_151 : am_fe 206 151 = some (12, none, .return_) := by decide +kernel
theorem fe_207_0 : am_fe 207 0 = some (12, some .int, .aload_n 0) := by decide +kernel
theorem fe_207_1 : am_fe 207 1 = some (12, some .int, .getfield 439) := by decide +kernel
theorem fe_207_4 : am_fe 207 4 = some (12, some .int, .ifCond .eq 15) := by decide +kernel
theorem fe_207_7 : am_fe 207 7 = some (12, some .int, .aload_n 0) := by decide +kernel
theorem fe_207_8 : am_fe 207 8 = some (12, some .int, .getfield 118) := by decide +kernel
theorem fe_207_11 : am_fe 207 11 = some (12, some .int, .aload_n 0) := by decide +kernel
theorem fe_207_12 : am_fe 207 12 = some (12, some .int, .getfield 443) := by decide +kernel
theorem fe_207_15 : am_fe 207 15 = some (12, some .int, .iaload) := by decide +kernel
theorem fe_207_16 : am_fe 207 16 = some (12, some .int, .goto 4) := by decide +kernel
theorem fe_207_19 : am_fe 207 19 = some (12, some .int, .iload_n 1) := by decide +kernel
theorem fe_207_20 : am_fe 207 20 = some (12, some .int, .istore_n 2) := by decide +kernel
theorem fe_207_21 : am_fe 207 21 = some (12, some .int, .aload_n 0) := by decide +kernel
theorem fe_207_22 : am_fe 207 22 = some (12, some .int, .getfield 118) := by decide +kernel
theorem fe_207_25 : am_fe 207 25 = some (12, some .int, .aload_n 0) := by decide +kernel
theorem fe_207_26 : am_fe 207 26 = some (12, some .int, .getfield 443) := by decide +kernel
theorem fe_207_29 : am_fe 207 29 = some (12, some .int, .iload_n 2) := by decide +kernel
theorem fe_207_30 : am_fe 207 30 = some (12, some .int, .iastore) := by decide +kernel
theorem fe_207_31 : am_fe 207 31 = some (12, some .int, .aload_n 0) := by decide +kernel
theorem fe_207_32 : am_fe 207 32 = some (12, some .int, .dup) := by decide +kernel
theorem fe_207_33 : am_fe 207 33 = some (12, some .int, .getfield 443) := by decide +kernel
theorem fe_207_36 : am_fe 207 36 = some (12, some .int, .iconst 1) := by decide +kernel
theorem fe_207_37 : am_fe 207 37 = some (12, some .int, .iadd) := by decide +kernel
theorem fe_207_38 : am_fe 207 38 = some (12, some .int, .putfield 443) := by decide +kernel
theorem fe_207_41 : am_fe 207 41 = some (12, some .int, .iload_n 2) := by decide +kernel
theorem fe_207_42 : am_fe 207 42 = some (12, some .int, .ireturn) := by decide +kernel
theorem fe_208_0 : am_fe 208 0 = some (12, none, .iconst 0) := by decide +kernel
theorem fe_208_1 : am_fe 208 1 = some (12, none, .istore_n 2) := by decide +kernel
theorem fe_208_2 : am_fe 208 2 = some (12, none, .iload_n 2) := by decide +kernel
theorem fe_208_3 : am_fe 208 3 = some (12, none, .aload_n 1) := by decide +kernel
theorem fe_208_4 : am_fe 208 4 = some (12, none, .arraylength) := by decide +kernel
theorem fe_208_5 : am_fe 208 5 = some (12, none, .if_icmp .ge 19) := by decide +kernel
theorem fe_208_8 : am_fe 208 8 = some (12, none, .aload_n 1) := by decide +kernel
theorem fe_208_9 : am_fe 208 9 = some (12, none, .iload_n 2) := by decide +kernel
theorem fe_208_10 : am_fe 208 10 = some (12, none, .aload_n 0) := by decide +kernel
theorem fe_208_11 : am_fe 208 11 = some (12, none, .aload_n 1) := by decide +kernel
theorem fe_208_12 : am_fe 208 12 = some (12, none, .iload_n 2) := by decide +kernel
theorem fe_208_13 : am_fe 208 13 = some (12, none, .iaload) := by decide +kernel
theorem fe_208_14 : am_fe 208 14 = some (12, none, .invokevirtual 446) := by decide +kernel
theorem fe_208_17 : am_fe 208 17 = some (12, none, .iastore) := by decide +kernel
theorem fe_208_18 : am_fe 208 18 = some (12, none, .iinc 2 1) := by decide +kernel
theorem fe_208_21 : am_fe 208 21 = some (12, none, .goto (-19)) := by decide +kernel
theorem fe_208_24 : am_fe 208 24 = some (12, none, .return_) := by decide +kernel
theorem fe_209_0 : am_fe 209 0 = some (12, some .int, .aload_n 0) := by decide +kernel
theorem fe_209_1 : am_fe 209 1 = some (12, some .int, .invokevirtual 457) := by decide +kernel
theorem fe_209_4 : am_fe 209 4 = some (12, some .int, .ifCond .eq 16) := by decide +kernel
theorem fe_209_7 : am_fe 209 7 = some (12, some .int, .aload_n 0) := by decide +kernel
theorem fe_209_8 : am_fe 209 8 = some (12, some .int, .getfield 9) := by decide +kernel
theorem fe_209_11 : am_fe 209 11 = some (12, some .int, .bipush 6) := by decide +kernel
theorem fe_209_13 : am_fe 209 13 = some (12, some .int, .iaload) := by decide +kernel
theorem fe_209_14 : am_fe 209 14 = some (12, some .int, .sipush 999) := by decide +kernel
theorem fe_209_17 : am_fe 209 17 = some (12, some .int, .if_icmp .ne 5) := by decide +kernel
theorem fe_209_20 : am_fe 209 20 = some (12, some .int, .iconst (-1)) := by decide +kernel
theorem fe_209_21 : am_fe 209 21 = some (12, some .int, .ireturn) := by decide +kernel
theorem fe_209_22 : am_fe 209 22 = some (12, some .int, .aload_n 0) := by decide +kernel
theorem fe_209_23 : am_fe 209 23 = some (12, some .int, .invokevirtual 460) := by decide +kernel
theorem fe_209_26 : am_fe 209 26 = some (12, some .int, .aload_n 0) := by decide +kernel
theorem fe_209_27 : am_fe 209 27 = some (12, some .int, .invokevirtual 463) := by decide +kernel
theorem fe_209_30 : am_fe 209 30 = some (12, some .int, .ireturn) := by decide +kernel
theorem fe_210_0 : am_fe 210 0 = some (12, some .boolean, .aload_n 0) := by decide +kernel
theorem fe_210_1 : am_fe 210 1 = some (12, some .boolean, .getfield 9) := by decide +kernel
theorem fe_210_4 : am_fe 210 4 = some (12, some .boolean, .iconst 0) := by decide +kernel
theorem fe_210_5 : am_fe 210 5 = some (12, some .boolean, .iaload) := by decide +kernel
theorem fe_210_6 : am_fe 210 6 = some (12, some .boolean, .ifCond .le 7) := by decide +kernel
theorem fe_210_9 : am_fe 210 9 = some (12, some .boolean, .iconst 1) := by decide +kernel
theorem fe_210_10 : am_fe 210 10 = some (12, some .boolean, .goto 4) := by decide +kernel
theorem fe_210_13 : am_fe 210 13 = some (12, some .boolean, .iconst 0) := by decide +kernel
theorem fe_210_14 : am_fe 210 14 = some (12, some .boolean, .ireturn) := by decide +kernel
theorem fe_211_0 : am_fe 211 0 = some (12, none, .aload_n 0) := by decide +kernel
theorem fe_211_1 : am_fe 211 1 = some (12, none, .getfield 346) := by decide +kernel
theorem fe_211_4 : am_fe 211 4 = some (12, none, .bipush 20) := by decide +kernel
theorem fe_211_6 : am_fe 211 6 = some (12, none, .if_icmp .ne 44) := by decide +kernel
theorem fe_211_9 : am_fe 211 9 = some (12, none, .bipush 114) := by decide +kernel
theorem fe_211_11 : am_fe 211 11 = some (12, none, .istore_n 1) := by decide +kernel
theorem fe_211_12 : am_fe 211 12 = some (12, none, .iload_n 1) := by decide +kernel
theorem fe_211_13 : am_fe 211 13 = some (12, none, .sipush 2280) := by decide +kernel
theorem fe_211_16 : am_fe 211 16 = some (12, none, .if_icmp .ge 24) := by decide +kernel
theorem fe_211_19 : am_fe 211 19 = some (12, none, .aload_n 0) := by decide +kernel
theorem fe_211_20 : am_fe 211 20 = some (12, none, .getfield 118) := by decide +kernel
theorem fe_211_23 : am_fe 211 23 = some (12, none, .iload_n 1) := by decide +kernel
theorem fe_211_24 : am_fe 211 24 = some (12, none, .bipush 114) := by decide +kernel
theorem fe_211_26 : am_fe 211 26 = some (12, none, .isub) := by decide +kernel
theorem fe_211_27 : am_fe 211 27 = some (12, none, .aload_n 0) := by decide +kernel
theorem fe_211_28 : am_fe 211 28 = some (12, none, .getfield 118) := by decide +kernel
theorem fe_211_31 : am_fe 211 31 = some (12, none, .iload_n 1) := by decide +kernel
theorem fe_211_32 : am_fe 211 32 = some (12, none, .iaload) := by decide +kernel
theorem fe_211_33 : am_fe 211 33 = some (12, none, .iastore) := by decide +kernel
theorem fe_211_34 : am_fe 211 34 = some (12, none, .iinc 1 1) := by decide +kernel
theorem fe_211_37 : am_fe 211 37 = some (12, none, .goto (-25)) := by decide +kernel
theorem fe_211_40 : am_fe 211 40 = some (12, none, .aload_n 0) := by decide +kernel
theorem fe_211_41 : am_fe 211 41 = some (12, none, .dup) := by decide +kernel
theorem fe_211_42 : am_fe 211 42 = some (12, none, .getfield 346) := by decide +kernel
theorem fe_211_45 : am_fe 211 45 = some (12, none, .iconst 1) := by decide +kernel
theorem fe_211_46 : am_fe 211 46 = some (12, none, .isub) := by decide +kernel
theorem fe_211_47 : am_fe 211 47 = some (12, none, .putfield 346) := by decide +kernel
theorem fe_211_50 : am_fe 211 50 = some (12, none, .aload_n 0) := by decide +kernel
theorem fe_211_51 : am_fe 211 51 = some (12, none, .aload_n 0) := by decide +kernel
theorem fe_211_52 : am_fe 211 52 = some (12, none, .getfield 346) := by decide +kernel
theorem fe_211_55 : am_fe 211 55 = some (12, none, .iconst 0) := by decide +kernel
theorem fe_211_56 : am_fe 211 56 = some (12, none, .invokevirtual 453) := by decide +kernel
theorem fe_211_59 : am_fe 211 59 = some (12, none, .aload_n 0) := by decide +kernel
theorem fe_211_60 : am_fe 211 60 = some (12, none, .dup) := by decide +kernel
theorem fe_211_61 : am_fe 211 61 = some (12, none, .getfield 346) := by decide +kernel
theorem fe_211_64 : am_fe 211 64 = some (12, none, .iconst 1) := by decide +kernel
theorem fe_211_65 : am_fe 211 65 = some (12, none, .iadd) := by decide +kernel
theorem fe_211_66 : am_fe 211 66 = some (12, none, .putfield 346) := by decide +kernel
theorem fe_211_69 : am_fe 211 69 = some (12, none, .return_) := by decide +kernel
theorem fe_212_0 : am_fe 212 0 = some (12, some .int, .aload_n 0) := by decide +kernel
theorem fe_212_1 : am_fe 212 1 = some (12, some .int, .invokevirtual 427) := by decide +kernel
theorem fe_212_4 : am_fe 212 4 = some (12, some .int, .istore_n 1) := by decide +kernel
theorem fe_212_5 : am_fe 212 5 = some (12, some .int, .iconst 0) := by decide +kernel
theorem fe_212_6 : am_fe 212 6 = some (12, some .int, .istore_n 2) := by decide +kernel
theorem fe_212_7 : am_fe 212 7 = some (12, some .int, .iload_n 2) := by decide +kernel
theorem fe_212_8 : am_fe 212 8 = some (12, some .int, .aload_n 0) := by decide +kernel
theorem fe_212_9 : am_fe 212 9 = some (12, some .int, .getfield 9) := by decide +kernel
theorem fe_212_12 : am_fe 212 12 = some (12, some .int, .iconst 4) := by decide +kernel
theorem fe_212_13 : am_fe 212 13 = some (12, some .int, .iaload) := by decide +kernel
theorem fe_212_14 : am_fe 212 14 = some (12, some .int, .if_icmp .ge 22) := by decide +kernel
theorem fe_212_17 : am_fe 212 17 = some (12, some .int, .aload_n 0) := by decide +kernel
theorem fe_212_18 : am_fe 212 18 = some (12, some .int, .iload_n 2) := by decide +kernel
theorem fe_212_19 : am_fe 212 19 = some (12, some .int, .invokevirtual 374) := by decide +kernel
theorem fe_212_22 : am_fe 212 22 = some (12, some .int, .ifCond .eq 8) := by decide +kernel
theorem fe_212_25 : am_fe 212 25 = some (12, some .int, .aload_n 0) := by decide +kernel
theorem fe_212_26 : am_fe 212 26 = some (12, some .int, .iload_n 2) := by decide +kernel
theorem fe_212_27 : am_fe 212 27 = some (12, some .int, .invokevirtual 430) := by decide +kernel
theorem fe_212_30 : am_fe 212 30 = some (12, some .int, .iinc 2 1) := by decide +kernel
theorem fe_212_33 : am_fe 212 33 = some (12, some .int, .goto (-26)) := by decide +kernel
theorem fe_212_36 : am_fe 212 36 = some (12, some .int, .iconst 0) := by decide +kernel
theorem fe_212_37 : am_fe 212 37 = some (12, some .int, .istore_n 2) := by decide +kernel
theorem fe_212_38 : am_fe 212 38 = some (12, some .int, .iload_n 2) := by decide +kernel
theorem fe_212_39 : am_fe 212 39 = some (12, some .int, .aload_n 0) := by decide +kernel
theorem fe_212_40 : am_fe 212 40 = some (12, some .int, .getfield 9) := by decide +kernel
theorem fe_212_43 : am_fe 212 43 = some (12, some .int, .iconst 0) := by decide +kernel
theorem fe_212_44 : am_fe 212 44 = some (12, some .int, .iaload) := by decide +kernel
theorem fe_212_45 : am_fe 212 45 = some (12, some .int, .if_icmp .ge 24) := by decide +kernel
theorem fe_212_48 : am_fe 212 48 = some (12, some .int, .iconst 1) := by decide +kernel
theorem fe_212_49 : am_fe 212 49 = some (12, some .int, .istore_n 3) := by decide +kernel
theorem fe_212_50 : am_fe 212 50 = some (12, some .int, .iload_n 3) := by decide +kernel
theorem fe_212_51 : am_fe 212 51 = some (12, some .int, .ifCond .eq 12) := by decide +kernel
theorem fe_212_54 : am_fe 212 54 = some (12, some .int, .aload_n 0) := by decide +kernel
theorem fe_212_55 : am_fe 212 55 = some (12, some .int, .iload_n 2) := by decide +kernel
theorem fe_212_56 : am_fe 212 56 = some (12, some .int, .invokevirtual 433) := by decide +kernel
theorem fe_212_59 : am_fe 212 59 = some (12, some .int, .istore_n 3) := by decide +kernel
theorem fe_212_60 : am_fe 212 60 = some (12, some .int, .goto (-10)) := by decide +kernel
theorem fe_212_63 : am_fe 212 63 = some (12, some .int, .iinc 2 1) := by decide +kernel
theorem fe_212_66 : am_fe 212 66 = some (12, some .int, .goto (-28)) := by decide +kernel
theorem fe_212_69 : am_fe 212 69 = some (12, some .int, .aload_n 0) := by decide +kernel
theorem fe_212_70 : am_fe 212 70 = some (12, some .int, .invokevirtual 436) := by decide +kernel
theorem fe_212_73 : am_fe 212 73 = some (12, some .int, .aload_n 0) := by decide +kernel
theorem fe_212_74 : am_fe 212 74 = some (12, some .int, .getfield 9) := by decide +kernel
theorem fe_212_77 : am_fe 212 77 = some (12, some .int, .bipush 6) := by decide +kernel
theorem fe_212_79 : am_fe 212 79 = some (12, some .int, .dup2) := by decide +kernel
theorem fe_212_80 : am_fe 212 80 = some (12, some .int, .iaload) := by decide +kernel
theorem fe_212_81 : am_fe 212 81 = some (12, some .int, .iconst 1) := by decide +kernel
theorem fe_212_82 : am_fe 212 82 = some (12, some .int, .iadd) := by decide +kernel
theorem fe_212_83 : am_fe 212 83 = some (12, some .int, .iastore) := by decide +kernel
theorem fe_212_84 : am_fe 212 84 = some (12, some .int, .iload_n 1) := by decide +kernel
theorem fe_212_85 : am_fe 212 85 = some (12, some .int, .aload_n 0) := by decide +kernel
theorem fe_212_86 : am_fe 212 86 = some (12, some .int, .invokevirtual 427) := by decide +kernel
theorem fe_212_89 : am_fe 212 89 = some (12, some .int, .iconst (-1)) := by decide +kernel
theorem fe_212_90 : am_fe 212 90 = some (12, some .int, .ixor) := by decide +kernel
theorem fe_212_91 : am_fe 212 91 = some (12, some .int, .iand) := by decide +kernel
theorem fe_212_92 : am_fe 212 92 = some (12, some .int, .invokestatic 415) := by decide +kernel
theorem fe_212_95 : am_fe 212 95 = some (12, some .int, .ireturn) := by decide +kernel
theorem fe_213_0 : am_fe 213 0 = some (12, some .int, .iconst 0) := by decide +kernel
theorem fe_213_1 : am_fe 213 1 = some (12, some .int, .istore_n 1) := by decide +kernel
theorem fe_213_2 : am_fe 213 2 = some (12, some .int, .iconst 0) := by decide +kernel
theorem fe_213_3 : am_fe 213 3 = some (12, some .int, .istore_n 2) := by decide +kernel
theorem fe_213_4 : am_fe 213 4 = some (12, some .int, .iload_n 2) := by decide +kernel
theorem fe_213_5 : am_fe 213 5 = some (12, some .int, .aload_n 0) := by decide +kernel
theorem fe_213_6 : am_fe 213 6 = some (12, some .int, .getfield 9) := by decide +kernel
theorem fe_213_9 : am_fe 213 9 = some (12, some .int, .iconst 4) := by decide +kernel
theorem fe_213_10 : am_fe 213 10 = some (12, some .int, .iaload) := by decide +kernel
theorem fe_213_11 : am_fe 213 11 = some (12, some .int, .if_icmp .ge 27) := by decide +kernel
theorem fe_213_14 : am_fe 213 14 = some (12, some .int, .iload_n 1) := by decide +kernel
theorem fe_213_15 : am_fe 213 15 = some (12, some .int, .aload_n 0) := by decide +kernel
theorem fe_213_16 : am_fe 213 16 = some (12, some .int, .iload_n 2) := by decide +kernel
theorem fe_213_17 : am_fe 213 17 = some (12, some .int, .invokevirtual 374) := by decide +kernel
theorem fe_213_20 : am_fe 213 20 = some (12, some .int, .ifCond .eq 9) := by decide +kernel
theorem fe_213_23 : am_fe 213 23 = some (12, some .int, .iconst 1) := by decide +kernel
theorem fe_213_24 : am_fe 213 24 = some (12, some .int, .iload_n 2) := by decide +kernel
theorem fe_213_25 : am_fe 213 25 = some (12, some .int, .ishl) := by decide +kernel
theorem fe_213_26 : am_fe 213 26 = some (12, some .int, .goto 4) := by decide +kernel
theorem fe_213_29 : am_fe 213 29 = some (12, some .int, .iconst 0) := by decide +kernel
theorem fe_213_30 : am_fe 213 30 = some (12, some .int, .ior) := by decide +kernel
theorem fe_213_31 : am_fe 213 31 = some (12, some .int, .istore_n 1) := by decide +kernel
theorem fe_213_32 : am_fe 213 32 = some (12, some .int, .iinc 2 1) := by decide +kernel
theorem fe_213_35 : am_fe 213 35 = some (12, some .int, .goto (-31)) := by decide +kernel
theorem fe_213_38 : am_fe 213 38 = some (12, some .int, .iload_n 1) := by decide +kernel
theorem fe_213_39 : am_fe 213 39 = some (12, some .int, .ireturn) := by decide +kernel
theorem fe_214_0 : am_fe 214 0 = some (12, none, .aload_n 0) := by decide +kernel
theorem fe_214_1 : am_fe 214 1 = some (12, none, .aload_n 0) := by decide +kernel
theorem fe_214_2 : am_fe 214 2 = some (12, none, .getfield 37) := by decide +kernel
theorem fe_214_5 : am_fe 214 5 = some (12, none, .iload_n 1) := by decide +kernel
theorem fe_214_6 : am_fe 214 6 = some (12, none, .iaload) := by decide +kernel
theorem fe_214_7 : am_fe 214 7 = some (12, none, .invokevirtual 399) := by decide +kernel
theorem fe_214_10 : am_fe 214 10 = some (12, none, .ifCond .eq 4) := by decide +kernel
theorem fe_214_13 : am_fe 214 13 = some (12, none, .return_) := by decide +kernel
theorem fe_214_14 : am_fe 214 14 = some (12, none, .aload_n 0) := by decide +kernel
theorem fe_214_15 : am_fe 214 15 = some (12, none, .getfield 43) := by decide +kernel
theorem fe_214_18 : am_fe 214 18 = some (12, none, .iload_n 1) := by decide +kernel
theorem fe_214_19 : am_fe 214 19 = some (12, none, .iaload) := by decide +kernel
theorem fe_214_20 : am_fe 214 20 = some (12, none, .ifCond .le 14) := by decide +kernel
theorem fe_214_23 : am_fe 214 23 = some (12, none, .aload_n 0) := by decide +kernel
theorem fe_214_24 : am_fe 214 24 = some (12, none, .getfield 43) := by decide +kernel
theorem fe_214_27 : am_fe 214 27 = some (12, none, .iload_n 1) := by decide +kernel
theorem fe_214_28 : am_fe 214 28 = some (12, none, .dup2) := by decide +kernel
theorem fe_214_29 : am_fe 214 29 = some (12, none, .iaload) := by decide +kernel
theorem fe_214_30 : am_fe 214 30 = some (12, none, .iconst 1) := by decide +kernel
theorem fe_214_31 : am_fe 214 31 = some (12, none, .isub) := by decide +kernel
theorem fe_214_32 : am_fe 214 32 = some (12, none, .iastore) := by decide +kernel
theorem fe_214_33 : am_fe 214 33 = some (12, none, .return_) := by decide +kernel
theorem fe_214_34 : am_fe 214 34 = some (12, none, .aload_n 0) := by decide +kernel
theorem fe_214_35 : am_fe 214 35 = some (12, none, .getfield 13) := by decide +kernel
theorem fe_214_38 : am_fe 214 38 = some (12, none, .aload_n 0) := by decide +kernel
theorem fe_214_39 : am_fe 214 39 = some (12, none, .getfield 37) := by decide +kernel
theorem fe_214_42 : am_fe 214 42 = some (12, none, .iload_n 1) := by decide +kernel
theorem fe_214_43 : am_fe 214 43 = some (12, none, .iaload) := by decide +kernel
theorem fe_214_44 : am_fe 214 44 = some (12, none, .iaload) := by decide +kernel
theorem fe_214_45 : am_fe 214 45 = some (12, none, .istore_n 2) := by decide +kernel
theorem fe_214_46 : am_fe 214 46 = some (12, none, .iload_n 2) := by decide +kernel
theorem fe_214_47 : am_fe 214 47 = some (12, none, .iconst (-1)) := by decide +kernel
theorem fe_214_48 : am_fe 214 48 = some (12, none, .if_icmp .ne 11) := by decide +kernel
theorem fe_214_51 : am_fe 214 51 = some (12, none, .aload_n 0) := by decide +kernel
theorem fe_214_52 : am_fe 214 52 = some (12, none, .iload_n 1) := by decide +kernel
theorem fe_214_53 : am_fe 214 53 = some (12, none, .iconst 1) := by decide +kernel
theorem fe_214_54 : am_fe 214 54 = some (12, none, .iconst (-1)) := by decide +kernel
theorem fe_214_55 : am_fe 214 55 = some (12, none, .invokevirtual 402) := by decide +kernel
theorem fe_214_58 : am_fe 214 58 = some (12, none, .return_) := by decide +kernel
theorem fe_214_59 : am_fe 214 59 = some (12, none, .aload_n 0) := by decide +kernel
theorem fe_214_60 : am_fe 214 60 = some (12, none, .getfield 37) := by decide +kernel
theorem fe_214_63 : am_fe 214 63 = some (12, none, .iload_n 1) := by decide +kernel
theorem fe_214_64 : am_fe 214 64 = some (12, none, .iload_n 2) := by decide +kernel
theorem fe_214_65 : am_fe 214 65 = some (12, none, .iastore) := by decide +kernel
theorem fe_214_66 : am_fe 214 66 = some (12, none, .aload_n 0) := by decide +kernel
theorem fe_214_67 : am_fe 214 67 = some (12, none, .getfield 43) := by decide +kernel
theorem fe_214_70 : am_fe 214 70 = some (12, none, .iload_n 1) := by decide +kernel
theorem fe_214_71 : am_fe 214 71 = some (12, none, .aload_n 0) := by decide +kernel
theorem fe_214_72 : am_fe 214 72 = some (12, none, .getfield 16) := by decide +kernel
theorem fe_214_75 : am_fe 214 75 = some (12, none, .iload_n 2) := by decide +kernel
theorem fe_214_76 : am_fe 214 76 = some (12, none, .iaload) := by decide +kernel
theorem fe_214_77 : am_fe 214 77 = some (12, none, .iastore) := by decide +kernel
theorem fe_214_78 : am_fe 214 78 = some (12, none, .aload_n 0) := by decide +kernel
theorem fe_214_79 : am_fe 214 79 = some (12, none, .iload_n 2) := by decide +kernel
theorem fe_214_80 : am_fe 214 80 = some (12, none, .invokevirtual 381) := by decide +kernel
theorem fe_214_83 : am_fe 214 83 = some (12, none, .istore_n 3) := by decide +kernel
theorem fe_214_84 : am_fe 214 84 = some (12, none, .iload_n 3) := by decide +kernel
theorem fe_214_85 : am_fe 214 85 = some (12, none, .iconst (-1)) := by decide +kernel
theorem fe_214_86 : am_fe 214 86 = some (12, none, .if_icmp .eq 48) := by decide +kernel
theorem fe_214_89 : am_fe 214 89 = some (12, none, .aload_n 0) := by decide +kernel
theorem fe_214_90 : am_fe 214 90 = some (12, none, .getfield 25) := by decide +kernel
theorem fe_214_93 : am_fe 214 93 = some (12, none, .iload_n 3) := by decide +kernel
theorem fe_214_94 : am_fe 214 94 = some (12, none, .dup2) := by decide +kernel
theorem fe_214_95 : am_fe 214 95 = some (12, none, .iaload) := by decide +kernel
theorem fe_214_96 : am_fe 214 96 = some (12, none, .aload_n 0) := by decide +kernel
theorem fe_214_97 : am_fe 214 97 = some (12, none, .getfield 40) := by decide +kernel
theorem fe_214_100 : am_fe 214 100 = some (12, none, .iload_n 1) := by decide +kernel
theorem fe_214_101 : am_fe 214 101 = some (12, none, .iaload) := by decide +kernel
theorem fe_214_102 : am_fe 214 102 = some (12, none, .invokestatic 151) := by decide +kernel
theorem fe_214_105 : am_fe 214 105 = some (12, none, .bipush 8) := by decide +kernel
theorem fe_214_107 : am_fe 214 107 = some (12, none, .if_icmp .ge 7) := by decide +kernel
theorem fe_214_110 : am_fe 214 110 = some (12, none, .iconst 1) := by decide +kernel
theorem fe_214_111 : am_fe 214 111 = some (12, none, .goto 4) := by decide +kernel
theorem fe_214_114 : am_fe 214 114 = some (12, none, .iconst 0) := by decide +kernel
theorem fe_214_115 : am_fe 214 115 = some (12, none, .iadd) := by decide +kernel
theorem fe_214_116 : am_fe 214 116 = some (12, none, .iastore) := by decide +kernel
theorem fe_214_117 : am_fe 214 117 = some (12, none, .aload_n 0) := by decide +kernel
theorem fe_214_118 : am_fe 214 118 = some (12, none, .getfield 40) := by decide +kernel
theorem fe_214_121 : am_fe 214 121 = some (12, none, .iload_n 1) := by decide +kernel
theorem fe_214_122 : am_fe 214 122 = some (12, none, .aload_n 0) := by decide +kernel
theorem fe_214_123 : am_fe 214 123 = some (12, none, .iload_n 3) := by decide +kernel
theorem fe_214_124 : am_fe 214 124 = some (12, none, .aload_n 0) := by decide +kernel
theorem fe_214_125 : am_fe 214 125 = some (12, none, .getfield 40) := by decide +kernel
theorem fe_214_128 : am_fe 214 128 = some (12, none, .iload_n 1) := by decide +kernel
theorem fe_214_129 : am_fe 214 129 = some (12, none, .iaload) := by decide +kernel
theorem fe_214_130 : am_fe 214 130 = some (12, none, .invokevirtual 406) := by decide +kernel
theorem fe_214_133 : am_fe 214 133 = some (12, none, .iastore) := by decide +kernel
theorem fe_214_134 : am_fe 214 134 = some (12, none, .return_) := by decide +kernel
theorem fe_215_0 : am_fe 215 0 = some (12, some .boolean, .aload_n 0) := by decide +kernel
theorem fe_215_1 : am_fe 215 1 = some (12, some .boolean, .iload_n 1) := by decide +kernel
theorem fe_215_2 : am_fe 215 2 = some (12, some .boolean, .invokevirtual 384) := by decide +kernel
theorem fe_215_5 : am_fe 215 5 = some (12, some .boolean, .istore_n 2) := by decide +kernel
theorem fe_215_6 : am_fe 215 6 = some (12, some .boolean, .iload_n 2) := by decide +kernel
theorem fe_215_7 : am_fe 215 7 = some (12, some .boolean, .iconst (-1)) := by decide +kernel
theorem fe_215_8 : am_fe 215 8 = some (12, some .boolean, .if_icmp .eq 20) := by decide +kernel
theorem fe_215_11 : am_fe 215 11 = some (12, some .boolean, .aload_n 0) := by decide +kernel
theorem fe_215_12 : am_fe 215 12 = some (12, some .boolean, .getfield 9) := by decide +kernel
theorem fe_215_15 : am_fe 215 15 = some (12, some .boolean, .iconst 5) := by decide +kernel
theorem fe_215_16 : am_fe 215 16 = some (12, some .boolean, .iaload) := by decide +kernel
theorem fe_215_17 : am_fe 215 17 = some (12, some .boolean, .iload_n 2) := by decide +kernel
theorem fe_215_18 : am_fe 215 18 = some (12, some .boolean, .invokestatic 387) := by decide +kernel
theorem fe_215_21 : am_fe 215 21 = some (12, some .boolean, .ifCond .eq 7) := by decide +kernel
theorem fe_215_24 : am_fe 215 24 = some (12, some .boolean, .iconst 1) := by decide +kernel
theorem fe_215_25 : am_fe 215 25 = some (12, some .boolean, .goto 4) := by decide +kernel
theorem fe_215_28 : am_fe 215 28 = some (12, some .boolean, .iconst 0) := by decide +kernel
theorem fe_215_29 : am_fe 215 29 = some (12, some .boolean, .ireturn) := by decide +kernel
theorem fe_216_0 : am_fe 216 0 = some (12, none, .aload_n 0) := by decide +kernel
theorem fe_216_1 : am_fe 216 1 = some (12, none, .getfield 46) := by decide +kernel
theorem fe_216_4 : am_fe 216 4 = some (12, none, .iload_n 1) := by decide +kernel
theorem fe_216_5 : am_fe 216 5 = some (12, none, .iload_n 2) := by decide +kernel
theorem fe_216_6 : am_fe 216 6 = some (12, none, .iastore) := by decide +kernel
theorem fe_216_7 : am_fe 216 7 = some (12, none, .aload_n 0) := by decide +kernel
theorem fe_216_8 : am_fe 216 8 = some (12, none, .getfield 49) := by decide +kernel
theorem fe_216_11 : am_fe 216 11 = some (12, none, .iload_n 1) := by decide +kernel
theorem fe_216_12 : am_fe 216 12 = some (12, none, .iload_n 3) := by decide +kernel
theorem fe_216_13 : am_fe 216 13 = some (12, none, .iastore) := by decide +kernel
theorem fe_216_14 : am_fe 216 14 = some (12, none, .aload_n 0) := by decide +kernel
theorem fe_216_15 : am_fe 216 15 = some (12, none, .getfield 52) := by decide +kernel
theorem fe_216_18 : am_fe 216 18 = some (12, none, .iload_n 1) := by decide +kernel
theorem fe_216_19 : am_fe 216 19 = some (12, none, .aload_n 0) := by decide +kernel
theorem fe_216_20 : am_fe 216 20 = some (12, none, .getfield 9) := by decide +kernel
theorem fe_216_23 : am_fe 216 23 = some (12, none, .bipush 6) := by decide +kernel
theorem fe_216_25 : am_fe 216 25 = some (12, none, .iaload) := by decide +kernel
theorem fe_216_26 : am_fe 216 26 = some (12, none, .iastore) := by decide +kernel
theorem fe_216_27 : am_fe 216 27 = some (12, none, .return_) := by decide +kernel
theorem fe_217_0 : am_fe 217 0 = some (12, some .int, .iconst 0) := by decide +kernel
theorem fe_217_1 : am_fe 217 1 = some (12, some .int, .istore_n 1) := by decide +kernel
theorem fe_217_2 : am_fe 217 2 = some (12, some .int, .iload_n 0) := by decide +kernel
theorem fe_217_3 : am_fe 217 3 = some (12, some .int, .istore_n 2) := by decide +kernel
theorem fe_217_4 : am_fe 217 4 = some (12, some .int, .iload_n 2) := by decide +kernel
theorem fe_217_5 : am_fe 217 5 = some (12, some .int, .ifCond .le 14) := by decide +kernel
theorem fe_217_8 : am_fe 217 8 = some (12, some .int, .iload_n 2) := by decide +kernel
theorem fe_217_9 : am_fe 217 9 = some (12, some .int, .bipush 10) := by decide +kernel
theorem fe_217_11 : am_fe 217 11 = some (12, some .int, .idiv) := by decide +kernel
theorem fe_217_12 : am_fe 217 12 = some (12, some .int, .istore_n 2) := by decide +kernel
theorem fe_217_13 : am_fe 217 13 = some (12, some .int, .iinc 1 1) := by decide +kernel
theorem fe_217_16 : am_fe 217 16 = some (12, some .int, .goto (-12)) := by decide +kernel
theorem fe_217_19 : am_fe 217 19 = some (12, some .int, .iload_n 1) := by decide +kernel
theorem fe_217_20 : am_fe 217 20 = some (12, some .int, .ireturn) := by decide +kernel
theorem fe_218_0 : am_fe 218 0 = some (12, some .int, .iload_n 2) := by decide +kernel
theorem fe_218_1 : am_fe 218 1 = some (12, some .int, .invokestatic 151) := by decide +kernel
theorem fe_218_4 : am_fe 218 4 = some (12, some .int, .bipush 8) := by decide +kernel
theorem fe_218_6 : am_fe 218 6 = some (12, some .int, .if_icmp .ge 17) := by decide +kernel
theorem fe_218_9 : am_fe 218 9 = some (12, some .int, .bipush 10) := by decide +kernel
theorem fe_218_11 : am_fe 218 11 = some (12, some .int, .iload_n 2) := by decide +kernel
theorem fe_218_12 : am_fe 218 12 = some (12, some .int, .imul) := by decide +kernel
theorem fe_218_13 : am_fe 218 13 = some (12, some .int, .aload_n 0) := by decide +kernel
theorem fe_218_14 : am_fe 218 14 = some (12, some .int, .getfield 22) := by decide +kernel
theorem fe_218_17 : am_fe 218 17 = some (12, some .int, .iload_n 1) := by decide +kernel
theorem fe_218_18 : am_fe 218 18 = some (12, some .int, .iaload) := by decide +kernel
theorem fe_218_19 : am_fe 218 19 = some (12, some .int, .iadd) := by decide +kernel
theorem fe_218_20 : am_fe 218 20 = some (12, some .int, .goto 4) := by decide +kernel
theorem fe_218_23 : am_fe 218 23 = some (12, some .int, .iload_n 2) := by decide +kernel
theorem fe_218_24 : am_fe 218 24 = some (12, some .int, .ireturn) := by decide +kernel
theorem fe_219_0 : am_fe 219 0 = some (12, some .boolean, .aload_n 0) := by decide +kernel
theorem fe_219_1 : am_fe 219 1 = some (12, some .boolean, .iload_n 1) := by decide +kernel
theorem fe_219_2 : am_fe 219 2 = some (12, some .boolean, .invokevirtual 393) := by decide +kernel
theorem fe_219_5 : am_fe 219 5 = some (12, some .boolean, .istore_n 2) := by decide +kernel
theorem fe_219_6 : am_fe 219 6 = some (12, some .boolean, .iconst 0) := by decide +kernel
theorem fe_219_7 : am_fe 219 7 = some (12, some .boolean, .istore_n 3) := by decide +kernel
theorem fe_219_8 : am_fe 219 8 = some (12, some .boolean, .iload_n 3) := by decide +kernel
theorem fe_219_9 : am_fe 219 9 = some (12, some .boolean, .aload_n 0) := by decide +kernel
theorem fe_219_10 : am_fe 219 10 = some (12, some .boolean, .getfield 9) := by decide +kernel
theorem fe_219_13 : am_fe 219 13 = some (12, some .boolean, .iconst 4) := by decide +kernel
theorem fe_219_14 : am_fe 219 14 = some (12, some .boolean, .iaload) := by decide +kernel
theorem fe_219_15 : am_fe 219 15 = some (12, some .boolean, .if_icmp .ge 102) := by decide +kernel
theorem fe_219_18 : am_fe 219 18 = some (12, some .boolean, .iload_n 3) := by decide +kernel
theorem fe_219_19 : am_fe 219 19 = some (12, some .boolean, .iconst 1) := by decide +kernel
theorem fe_219_20 : am_fe 219 20 = some (12, some .boolean, .iadd) := by decide +kernel
theorem fe_219_21 : am_fe 219 21 = some (12, some .boolean, .istore 4) := by decide +kernel
theorem fe_219_23 : am_fe 219 23 = some (12, some .boolean, .iload 4) := by decide +kernel
theorem fe_219_25 : am_fe 219 25 = some (12, some .boolean, .aload_n 0) := by decide +kernel
theorem fe_219_26 : am_fe 219 26 = some (12, some .boolean, .getfield 9) := by decide +kernel
theorem fe_219_29 : am_fe 219 29 = some (12, some .boolean, .iconst 4) := by decide +kernel
theorem fe_219_30 : am_fe 219 30 = some (12, some .boolean, .iaload) := by decide +kernel
theorem fe_219_31 : am_fe 219 31 = some (12, some .boolean, .if_icmp .ge 80) := by decide +kernel
theorem fe_219_34 : am_fe 219 34 = some (12, some .boolean, .iload_n 2) := by decide +kernel
theorem fe_219_35 : am_fe 219 35 = some (12, some .boolean, .iload_n 3) := by decide +kernel
theorem fe_219_36 : am_fe 219 36 = some (12, some .boolean, .invokestatic 387) := by decide +kernel
theorem fe_219_39 : am_fe 219 39 = some (12, some .boolean, .ifCond .eq 66) := by decide +kernel
theorem fe_219_42 : am_fe 219 42 = some (12, some .boolean, .iload_n 2) := by decide +kernel
theorem fe_219_43 : am_fe 219 43 = some (12, some .boolean, .iload 4) := by decide +kernel
theorem fe_219_45 : am_fe 219 45 = some (12, some .boolean, .invokestatic 387) := by decide +kernel
theorem fe_219_48 : am_fe 219 48 = some (12, some .boolean, .ifCond .eq 57) := by decide +kernel
theorem fe_219_51 : am_fe 219 51 = some (12, some .boolean, .aload_n 0) := by decide +kernel
theorem fe_219_52 : am_fe 219 52 = some (12, some .boolean, .iload_n 3) := by decide +kernel
theorem fe_219_53 : am_fe 219 53 = some (12, some .boolean, .iload 4) := by decide +kernel
theorem fe_219_55 : am_fe 219 55 = some (12, some .boolean, .invokevirtual 421) := by decide +kernel
theorem fe_219_58 : am_fe 219 58 = some (12, some .boolean, .ifCond .eq 47) := by decide +kernel
theorem fe_219_61 : am_fe 219 61 = some (12, some .boolean, .aload_n 0) := by decide +kernel
theorem fe_219_62 : am_fe 219 62 = some (12, some .boolean, .getfield 40) := by decide +kernel
theorem fe_219_65 : am_fe 219 65 = some (12, some .boolean, .iload_n 3) := by decide +kernel
theorem fe_219_66 : am_fe 219 66 = some (12, some .boolean, .aload_n 0) := by decide +kernel
theorem fe_219_67 : am_fe 219 67 = some (12, some .boolean, .getfield 40) := by decide +kernel
theorem fe_219_70 : am_fe 219 70 = some (12, some .boolean, .iload_n 3) := by decide +kernel
theorem fe_219_71 : am_fe 219 71 = some (12, some .boolean, .iaload) := by decide +kernel
theorem fe_219_72 : am_fe 219 72 = some (12, some .boolean, .aload_n 0) := by decide +kernel
theorem fe_219_73 : am_fe 219 73 = some (12, some .boolean, .getfield 40) := by decide +kernel
theorem fe_219_76 : am_fe 219 76 = some (12, some .boolean, .iload 4) := by decide +kernel
theorem fe_219_78 : am_fe 219 78 = some (12, some .boolean, .iaload) := by decide +kernel
theorem fe_219_79 : am_fe 219 79 = some (12, some .boolean, .invokestatic 151) := by decide +kernel
theorem fe_219_82 : am_fe 219 82 = some (12, some .boolean, .invokestatic 424) := by decide +kernel
theorem fe_219_85 : am_fe 219 85 = some (12, some .boolean, .imul) := by decide +kernel
theorem fe_219_86 : am_fe 219 86 = some (12, some .boolean, .aload_n 0) := by decide +kernel
theorem fe_219_87 : am_fe 219 87 = some (12, some .boolean, .getfield 40) := by decide +kernel
theorem fe_219_90 : am_fe 219 90 = some (12, some .boolean, .iload 4) := by decide +kernel
theorem fe_219_92 : am_fe 219 92 = some (12, some .boolean, .iaload) := by decide +kernel
theorem fe_219_93 : am_fe 219 93 = some (12, some .boolean, .iadd) := by decide +kernel
theorem fe_219_94 : am_fe 219 94 = some (12, some .boolean, .iastore) := by decide +kernel
theorem fe_219_95 : am_fe 219 95 = some (12, some .boolean, .aload_n 0) := by decide +kernel
theorem fe_219_96 : am_fe 219 96 = some (12, some .boolean, .iload 4) := by decide +kernel
theorem fe_219_98 : am_fe 219 98 = some (12, some .boolean, .iconst 3) := by decide +kernel
theorem fe_219_99 : am_fe 219 99 = some (12, some .boolean, .iload_n 3) := by decide +kernel
theorem fe_219_100 : am_fe 219 100 = some (12, some .boolean, .invokevirtual 402) := by decide +kernel
theorem fe_219_103 : am_fe 219 103 = some (12, some .boolean, .iconst 1) := by decide +kernel
theorem fe_219_104 : am_fe 219 104 = some (12, some .boolean, .ireturn) := by decide +kernel
theorem fe_219_105 : am_fe 219 105 = some (12, some .boolean, .iinc 4 1) := by decide +kernel
theorem fe_219_108 : am_fe 219 108 = some (12, some .boolean, .goto (-85)) := by decide +kernel
theorem fe_219_111 : am_fe 219 111 = some (12, some .boolean, .iinc 3 1) := by decide +kernel
theorem fe_219_114 : am_fe 219 114 = some (12, some .boolean, .goto (-106)) := by decide +kernel
theorem fe_219_117 : am_fe 219 117 = some (12, some .boolean, .iconst 0) := by decide +kernel
theorem fe_219_118 : am_fe 219 118 = some (12, some .boolean, .ireturn) := by decide +kernel
theorem fe_220_0 : am_fe 220 0 = some (12, some .boolean, .aload_n 0) := by decide +kernel
theorem fe_220_1 : am_fe 220 1 = some (12, some .boolean, .getfield 40) := by decide +kernel
theorem fe_220_4 : am_fe 220 4 = some (12, some .boolean, .iload_n 1) := by decide +kernel
theorem fe_220_5 : am_fe 220 5 = some (12, some .boolean, .iaload) := by decide +kernel
theorem fe_220_6 : am_fe 220 6 = some (12, some .boolean, .invokestatic 151) := by decide +kernel
theorem fe_220_9 : am_fe 220 9 = some (12, some .boolean, .aload_n 0) := by decide +kernel
theorem fe_220_10 : am_fe 220 10 = some (12, some .boolean, .getfield 40) := by decide +kernel
theorem fe_220_13 : am_fe 220 13 = some (12, some .boolean, .iload_n 2) := by decide +kernel
theorem fe_220_14 : am_fe 220 14 = some (12, some .boolean, .iaload) := by decide +kernel
theorem fe_220_15 : am_fe 220 15 = some (12, some .boolean, .invokestatic 151) := by decide +kernel
theorem fe_220_18 : am_fe 220 18 = some (12, some .boolean, .iadd) := by decide +kernel
theorem fe_220_19 : am_fe 220 19 = some (12, some .boolean, .bipush 8) := by decide +kernel
theorem fe_220_21 : am_fe 220 21 = some (12, some .boolean, .if_icmp .le 5) := by decide +kernel
theorem fe_220_24 : am_fe 220 24 = some (12, some .boolean, .iconst 0) := by decide +kernel
theorem fe_220_25 : am_fe 220 25 = some (12, some .boolean, .ireturn) := by decide +kernel
theorem fe_220_26 : am_fe 220 26 = some (12, some .boolean, .aload_n 0) := by decide +kernel
theorem fe_220_27 : am_fe 220 27 = some (12, some .boolean, .getfield 9) := by decide +kernel
theorem fe_220_30 : am_fe 220 30 = some (12, some .boolean, .bipush 8) := by decide +kernel
theorem fe_220_32 : am_fe 220 32 = some (12, some .boolean, .iaload) := by decide +kernel
theorem fe_220_33 : am_fe 220 33 = some (12, some .boolean, .iconst (-1)) := by decide +kernel
theorem fe_220_34 : am_fe 220 34 = some (12, some .boolean, .if_icmp .ne 30) := by decide +kernel
theorem fe_220_37 : am_fe 220 37 = some (12, some .boolean, .aload_n 0) := by decide +kernel
theorem fe_220_38 : am_fe 220 38 = some (12, some .boolean, .getfield 40) := by decide +kernel
theorem fe_220_41 : am_fe 220 41 = some (12, some .boolean, .iload_n 1) := by decide +kernel
theorem fe_220_42 : am_fe 220 42 = some (12, some .boolean, .iaload) := by decide +kernel
theorem fe_220_43 : am_fe 220 43 = some (12, some .boolean, .bipush 10) := by decide +kernel
theorem fe_220_45 : am_fe 220 45 = some (12, some .boolean, .irem) := by decide +kernel
theorem fe_220_46 : am_fe 220 46 = some (12, some .boolean, .aload_n 0) := by decide +kernel
theorem fe_220_47 : am_fe 220 47 = some (12, some .boolean, .getfield 40) := by decide +kernel
theorem fe_220_50 : am_fe 220 50 = some (12, some .boolean, .iload_n 2) := by decide +kernel
theorem fe_220_51 : am_fe 220 51 = some (12, some .boolean, .iaload) := by decide +kernel
theorem fe_220_52 : am_fe 220 52 = some (12, some .boolean, .invokestatic 409) := by decide +kernel
theorem fe_220_55 : am_fe 220 55 = some (12, some .boolean, .if_icmp .ne 7) := by decide +kernel
theorem fe_220_58 : am_fe 220 58 = some (12, some .boolean, .iconst 1) := by decide +kernel
theorem fe_220_59 : am_fe 220 59 = some (12, some .boolean, .goto 4) := by decide +kernel
theorem fe_220_62 : am_fe 220 62 = some (12, some .boolean, .iconst 0) := by decide +kernel
theorem fe_220_63 : am_fe 220 63 = some (12, some .boolean, .ireturn) := by decide +kernel
theorem fe_220_64 : am_fe 220 64 = some (12, some .boolean, .aload_n 0) := by decide +kernel
theorem fe_220_65 : am_fe 220 65 = some (12, some .boolean, .getfield 111) := by decide +kernel
theorem fe_220_68 : am_fe 220 68 = some (12, some .boolean, .iconst 0) := by decide +kernel
theorem fe_220_69 : am_fe 220 69 = some (12, some .boolean, .aload_n 0) := by decide +kernel
theorem fe_220_70 : am_fe 220 70 = some (12, some .boolean, .getfield 40) := by decide +kernel
theorem fe_220_73 : am_fe 220 73 = some (12, some .boolean, .iload_n 1) := by decide +kernel
theorem fe_220_74 : am_fe 220 74 = some (12, some .boolean, .iaload) := by decide +kernel
theorem fe_220_75 : am_fe 220 75 = some (12, some .boolean, .invokestatic 151) := by decide +kernel
theorem fe_220_78 : am_fe 220 78 = some (12, some .boolean, .i2l) := by decide +kernel
theorem fe_220_79 : am_fe 220 79 = some (12, some .boolean, .lastore) := by decide +kernel
theorem fe_220_80 : am_fe 220 80 = some (12, some .boolean, .aload_n 0) := by decide +kernel
theorem fe_220_81 : am_fe 220 81 = some (12, some .boolean, .getfield 111) := by decide +kernel
theorem fe_220_84 : am_fe 220 84 = some (12, some .boolean, .iconst 1) := by decide +kernel
theorem fe_220_85 : am_fe 220 85 = some (12, some .boolean, .aload_n 0) := by decide +kernel
theorem fe_220_86 : am_fe 220 86 = some (12, some .boolean, .getfield 40) := by decide +kernel
theorem fe_220_89 : am_fe 220 89 = some (12, some .boolean, .iload_n 2) := by decide +kernel
theorem fe_220_90 : am_fe 220 90 = some (12, some .boolean, .iaload) := by decide +kernel
theorem fe_220_91 : am_fe 220 91 = some (12, some .boolean, .invokestatic 151) := by decide +kernel
theorem fe_220_94 : am_fe 220 94 = some (12, some .boolean, .i2l) := by decide +kernel
theorem fe_220_95 : am_fe 220 95 = some (12, some .boolean, .lastore) := by decide +kernel
theorem fe_220_96 : am_fe 220 96 = some (12, some .boolean, .aload_n 0) := by decide +kernel
theorem fe_220_97 : am_fe 220 97 = some (12, some .boolean, .getfield 111) := by decide +kernel
theorem fe_220_100 : am_fe 220 100 = some (12, some .boolean, .iconst 2) := by decide +kernel
theorem fe_220_101 : am_fe 220 101 = some (12, some .boolean, .aload_n 0) := by decide +kernel
theorem fe_220_102 : am_fe 220 102 = some (12, some .boolean, .getfield 40) := by decide +kernel
theorem fe_220_105 : am_fe 220 105 = some (12, some .boolean, .iload_n 1) := by decide +kernel
theorem fe_220_106 : am_fe 220 106 = some (12, some .boolean, .iaload) := by decide +kernel
theorem fe_220_107 : am_fe 220 107 = some (12, some .boolean, .bipush 10) := by decide +kernel
theorem fe_220_109 : am_fe 220 109 = some (12, some .boolean, .irem) := by decide +kernel
theorem fe_220_110 : am_fe 220 110 = some (12, some .boolean, .i2l) := by decide +kernel
theorem fe_220_111 : am_fe 220 111 = some (12, some .boolean, .lastore) := by decide +kernel
theorem fe_220_112 : am_fe 220 112 = some (12, some .boolean, .aload_n 0) := by decide +kernel
theorem fe_220_113 : am_fe 220 113 = some (12, some .boolean, .getfield 111) := by decide +kernel
theorem fe_220_116 : am_fe 220 116 = some (12, some .boolean, .iconst 3) := by decide +kernel
theorem fe_220_117 : am_fe 220 117 = some (12, some .boolean, .aload_n 0) := by decide +kernel
theorem fe_220_118 : am_fe 220 118 = some (12, some .boolean, .getfield 40) := by decide +kernel
theorem fe_220_121 : am_fe 220 121 = some (12, some .boolean, .iload_n 2) := by decide +kernel
theorem fe_220_122 : am_fe 220 122 = some (12, some .boolean, .iaload) := by decide +kernel
theorem fe_220_123 : am_fe 220 123 = some (12, some .boolean, .invokestatic 409) := by decide +kernel
theorem fe_220_126 : am_fe 220 126 = some (12, some .boolean, .i2l) := by decide +kernel
theorem fe_220_127 : am_fe 220 127 = some (12, some .boolean, .lastore) := by decide +kernel
theorem fe_220_128 : am_fe 220 128 = some (12, some .boolean, .aload_n 0) := by decide +kernel
theorem fe_220_129 : am_fe 220 129 = some (12, some .boolean, .getfield 111) := by decide +kernel
theorem fe_220_132 : am_fe 220 132 = some (12, some .boolean, .iconst 4) := by decide +kernel
theorem fe_220_133 : am_fe 220 133 = some (12, some .boolean, .aload_n 0) := by decide +kernel
theorem fe_220_134 : am_fe 220 134 = some (12, some .boolean, .getfield 40) := by decide +kernel
theorem fe_220_137 : am_fe 220 137 = some (12, some .boolean, .iload_n 1) := by decide +kernel
theorem fe_220_138 : am_fe 220 138 = some (12, some .boolean, .iaload) := by decide +kernel
theorem fe_220_139 : am_fe 220 139 = some (12, some .boolean, .invokestatic 412) := by decide +kernel
theorem fe_220_142 : am_fe 220 142 = some (12, some .boolean, .aload_n 0) := by decide +kernel
theorem fe_220_143 : am_fe 220 143 = some (12, some .boolean, .getfield 40) := by decide +kernel
theorem fe_220_146 : am_fe 220 146 = some (12, some .boolean, .iload_n 2) := by decide +kernel
theorem fe_220_147 : am_fe 220 147 = some (12, some .boolean, .iaload) := by decide +kernel
theorem fe_220_148 : am_fe 220 148 = some (12, some .boolean, .invokestatic 412) := by decide +kernel
theorem fe_220_151 : am_fe 220 151 = some (12, some .boolean, .iand) := by decide +kernel
theorem fe_220_152 : am_fe 220 152 = some (12, some .boolean, .invokestatic 415) := by decide +kernel
theorem fe_220_155 : am_fe 220 155 = some (12, some .boolean, .i2l) := by decide +kernel
theorem fe_220_156 : am_fe 220 156 = some (12, some .boolean, .lastore) := by decide +kernel
theorem fe_220_157 : am_fe 220 157 = some (12, some .boolean, .aload_n 0) := by decide +kernel
theorem fe_220_158 : am_fe 220 158 = some (12, some .boolean, .getfield 111) := by decide +kernel
theorem fe_220_161 : am_fe 220 161 = some (12, some .boolean, .iconst 5) := by decide +kernel
theorem fe_220_162 : am_fe 220 162 = some (12, some .boolean, .aload_n 0) := by decide +kernel
theorem fe_220_163 : am_fe 220 163 = some (12, some .boolean, .getfield 37) := by decide +kernel
theorem fe_220_166 : am_fe 220 166 = some (12, some .boolean, .iload_n 1) := by decide +kernel
theorem fe_220_167 : am_fe 220 167 = some (12, some .boolean, .iaload) := by decide +kernel
theorem fe_220_168 : am_fe 220 168 = some (12, some .boolean, .i2l) := by decide +kernel
theorem fe_220_169 : am_fe 220 169 = some (12, some .boolean, .lastore) := by decide +kernel
theorem fe_220_170 : am_fe 220 170 = some (12, some .boolean, .aload_n 0) := by decide +kernel
theorem fe_220_171 : am_fe 220 171 = some (12, some .boolean, .getfield 111) := by decide +kernel
theorem fe_220_174 : am_fe 220 174 = some (12, some .boolean, .bipush 6) := by decide +kernel
theorem fe_220_176 : am_fe 220 176 = some (12, some .boolean, .aload_n 0) := by decide +kernel
theorem fe_220_177 : am_fe 220 177 = some (12, some .boolean, .getfield 9) := by decide +kernel
theorem fe_220_180 : am_fe 220 180 = some (12, some .boolean, .bipush 6) := by decide +kernel
theorem fe_220_182 : am_fe 220 182 = some (12, some .boolean, .iaload) := by decide +kernel
theorem fe_220_183 : am_fe 220 183 = some (12, some .boolean, .i2l) := by decide +kernel
theorem fe_220_184 : am_fe 220 184 = some (12, some .boolean, .lastore) := by decide +kernel
theorem fe_220_185 : am_fe 220 185 = some (12, some .boolean, .aload_n 0) := by decide +kernel
theorem fe_220_186 : am_fe 220 186 = some (12, some .boolean, .getfield 111) := by decide +kernel
theorem fe_220_189 : am_fe 220 189 = some (12, some .boolean, .bipush 7) := by decide +kernel
theorem fe_220_191 : am_fe 220 191 = some (12, some .boolean, .iload_n 1) := by decide +kernel
theorem fe_220_192 : am_fe 220 192 = some (12, some .boolean, .i2l) := by decide +kernel
theorem fe_220_193 : am_fe 220 193 = some (12, some .boolean, .lastore) := by decide +kernel
theorem fe_220_194 : am_fe 220 194 = some (12, some .boolean, .aload_n 0) := by decide +kernel
theorem fe_220_195 : am_fe 220 195 = some (12, some .boolean, .getfield 111) := by decide +kernel
theorem fe_220_198 : am_fe 220 198 = some (12, some .boolean, .bipush 8) := by decide +kernel
theorem fe_220_200 : am_fe 220 200 = some (12, some .boolean, .iload_n 2) := by decide +kernel
theorem fe_220_201 : am_fe 220 201 = some (12, some .boolean, .i2l) := by decide +kernel
theorem fe_220_202 : am_fe 220 202 = some (12, some .boolean, .lastore) := by decide +kernel
theorem fe_220_203 : am_fe 220 203 = some (12, some .boolean, .aload_n 0) := by decide +kernel
theorem fe_220_204 : am_fe 220 204 = some (12, some .boolean, .getfield 111) := by decide +kernel
theorem fe_220_207 : am_fe 220 207 = some (12, some .boolean, .bipush 9) := by decide +kernel
theorem fe_220_209 : am_fe 220 209 = some (12, some .boolean, .aload_n 0) := by decide +kernel
theorem fe_220_210 : am_fe 220 210 = some (12, some .boolean, .aload_n 0) := by decide +kernel
theorem fe_220_211 : am_fe 220 211 = some (12, some .boolean, .getfield 37) := by decide +kernel
theorem fe_220_214 : am_fe 220 214 = some (12, some .boolean, .iload_n 1) := by decide +kernel
theorem fe_220_215 : am_fe 220 215 = some (12, some .boolean, .iaload) := by decide +kernel
theorem fe_220_216 : am_fe 220 216 = some (12, some .boolean, .invokevirtual 393) := by decide +kernel
theorem fe_220_219 : am_fe 220 219 = some (12, some .boolean, .invokestatic 415) := by decide +kernel
theorem fe_220_222 : am_fe 220 222 = some (12, some .boolean, .i2l) := by decide +kernel
theorem fe_220_223 : am_fe 220 223 = some (12, some .boolean, .lastore) := by decide +kernel
theorem fe_220_224 : am_fe 220 224 = some (12, some .boolean, .aload_n 0) := by decide +kernel
theorem fe_220_225 : am_fe 220 225 = some (12, some .boolean, .getfield 111) := by decide +kernel
theorem fe_220_228 : am_fe 220 228 = some (12, some .boolean, .bipush 10) := by decide +kernel
theorem fe_220_230 : am_fe 220 230 = some (12, some .boolean, .aload_n 0) := by decide +kernel
theorem fe_220_231 : am_fe 220 231 = some (12, some .boolean, .getfield 43) := by decide +kernel
theorem fe_220_234 : am_fe 220 234 = some (12, some .boolean, .iload_n 1) := by decide +kernel
theorem fe_220_235 : am_fe 220 235 = some (12, some .boolean, .iaload) := by decide +kernel
theorem fe_220_236 : am_fe 220 236 = some (12, some .boolean, .i2l) := by decide +kernel
theorem fe_220_237 : am_fe 220 237 = some (12, some .boolean, .lastore) := by decide +kernel
theorem fe_220_238 : am_fe 220 238 = some (12, some .boolean, .aload_n 0) := by decide +kernel
theorem fe_220_239 : am_fe 220 239 = some (12, some .boolean, .invokevirtual 418) := by decide +kernel
theorem fe_220_242 : am_fe 220 242 = some (12, some .boolean, .ireturn) := by decide +kernel
theorem fe_221_0 : am_fe 221 0 = some (12, some .int, .iload_n 0) := by decide +kernel
theorem fe_221_1 : am_fe 221 1 = some (12, some .int, .istore_n 1) := by decide +kernel
theorem fe_221_2 : am_fe 221 2 = some (12, some .int, .iload_n 1) := by decide +kernel
theorem fe_221_3 : am_fe 221 3 = some (12, some .int, .bipush 9) := by decide +kernel
theorem fe_221_5 : am_fe 221 5 = some (12, some .int, .if_icmp .le 11) := by decide +kernel
theorem fe_221_8 : am_fe 221 8 = some (12, some .int, .iload_n 1) := by decide +kernel
theorem fe_221_9 : am_fe 221 9 = some (12, some .int, .bipush 10) := by decide +kernel
theorem fe_221_11 : am_fe 221 11 = some (12, some .int, .idiv) := by decide +kernel
theorem fe_221_12 : am_fe 221 12 = some (12, some .int, .istore_n 1) := by decide +kernel
theorem fe_221_13 : am_fe 221 13 = some (12, some .int, .goto (-11)) := by decide +kernel
theorem fe_221_16 : am_fe 221 16 = some (12, some .int, .iload_n 1) := by decide +kernel
theorem fe_221_17 : am_fe 221 17 = some (12, some .int, .ireturn) := by decide +kernel
theorem fe_222_0 : am_fe 222 0 = some (12, some .int, .iconst 0) := by decide +kernel
theorem fe_222_1 : am_fe 222 1 = some (12, some .int, .istore_n 1) := by decide +kernel
theorem fe_222_2 : am_fe 222 2 = some (12, some .int, .iload_n 0) := by decide +kernel
theorem fe_222_3 : am_fe 222 3 = some (12, some .int, .istore_n 2) := by decide +kernel
theorem fe_222_4 : am_fe 222 4 = some (12, some .int, .iload_n 2) := by decide +kernel
theorem fe_222_5 : am_fe 222 5 = some (12, some .int, .ifCond .le 20) := by decide +kernel
theorem fe_222_8 : am_fe 222 8 = some (12, some .int, .iload_n 1) := by decide +kernel
theorem fe_222_9 : am_fe 222 9 = some (12, some .int, .iconst 1) := by decide +kernel
theorem fe_222_10 : am_fe 222 10 = some (12, some .int, .iload_n 2) := by decide +kernel
theorem fe_222_11 : am_fe 222 11 = some (12, some .int, .bipush 10) := by decide +kernel
theorem fe_222_13 : am_fe 222 13 = some (12, some .int, .irem) := by decide +kernel
theorem fe_222_14 : am_fe 222 14 = some (12, some .int, .ishl) := by decide +kernel
theorem fe_222_15 : am_fe 222 15 = some (12, some .int, .ior) := by decide +kernel
theorem fe_222_16 : am_fe 222 16 = some (12, some .int, .istore_n 1) := by decide +kernel
theorem fe_222_17 : am_fe 222 17 = some (12, some .int, .iload_n 2) := by decide +kernel
theorem fe_222_18 : am_fe 222 18 = some (12, some .int, .bipush 10) := by decide +kernel
theorem fe_222_20 : am_fe 222 20 = some (12, some .int, .idiv) := by decide +kernel
theorem fe_222_21 : am_fe 222 21 = some (12, some .int, .istore_n 2) := by decide +kernel
theorem fe_222_22 : am_fe 222 22 = some (12, some .int, .goto (-18)) := by decide +kernel
theorem fe_222_25 : am_fe 222 25 = some (12, some .int, .iload_n 1) := by decide +kernel
theorem fe_222_26 : am_fe 222 26 = some (12, some .int, .ireturn) := by decide +kernel
theorem fe_223_0 : am_fe 223 0 = some (12, some .int, .iconst 0) := by decide +kernel
theorem fe_223_1 : am_fe 223 1 = some (12, some .int, .istore_n 1) := by decide +kernel
theorem fe_223_2 : am_fe 223 2 = some (12, some .int, .iconst 0) := by decide +kernel
theorem fe_223_3 : am_fe 223 3 = some (12, some .int, .istore_n 2) := by decide +kernel
theorem fe_223_4 : am_fe 223 4 = some (12, some .int, .iload_n 2) := by decide +kernel
theorem fe_223_5 : am_fe 223 5 = some (12, some .int, .bipush 16) := by decide +kernel
theorem fe_223_7 : am_fe 223 7 = some (12, some .int, .if_icmp .ge 17) := by decide +kernel
theorem fe_223_10 : am_fe 223 10 = some (12, some .int, .iload_n 1) := by decide +kernel
theorem fe_223_11 : am_fe 223 11 = some (12, some .int, .iload_n 0) := by decide +kernel
theorem fe_223_12 : am_fe 223 12 = some (12, some .int, .iload_n 2) := by decide +kernel
theorem fe_223_13 : am_fe 223 13 = some (12, some .int, .ishr) := by decide +kernel
theorem fe_223_14 : am_fe 223 14 = some (12, some .int, .iconst 1) := by decide +kernel
theorem fe_223_15 : am_fe 223 15 = some (12, some .int, .iand) := by decide +kernel
theorem fe_223_16 : am_fe 223 16 = some (12, some .int, .iadd) := by decide +kernel
theorem fe_223_17 : am_fe 223 17 = some (12, some .int, .istore_n 1) := by decide +kernel
theorem fe_223_18 : am_fe 223 18 = some (12, some .int, .iinc 2 1) := by decide +kernel
theorem fe_223_21 : am_fe 223 21 = some (12, some .int, .goto (-17)) := by decide +kernel
theorem fe_223_24 : am_fe 223 24 = some (12, some .int, .iload_n 1) := by decide +kernel
theorem fe_223_25 : am_fe 223 25 = some (12, some .int, .ireturn) := by decide +kernel
theorem fe_224_0 : am_fe 224 0 = some (12, some .boolean, .aload_n 0) := by decide +kernel
theorem fe_224_1 : am_fe 224 1 = some (12, some .boolean, .getfield 9) := by decide +kernel
theorem fe_224_4 : am_fe 224 4 = some (12, some .boolean, .bipush 8) := by decide +kernel
theorem fe_224_6 : am_fe 224 6 = some (12, some .boolean, .iaload) := by decide +kernel
theorem fe_224_7 : am_fe 224 7 = some (12, some .boolean, .istore_n 1) := by decide +kernel
theorem fe_224_8 : am_fe 224 8 = some (12, some .boolean, .bipush 12) := by decide +kernel
theorem fe_224_10 : am_fe 224 10 = some (12, some .boolean, .iload_n 1) := by decide +kernel
theorem fe_224_11 : am_fe 224 11 = some (12, some .boolean, .imul) := by decide +kernel
theorem fe_224_12 : am_fe 224 12 = some (12, some .boolean, .istore_n 2) := by decide +kernel
theorem fe_224_13 : am_fe 224 13 = some (12, some .boolean, .iload_n 2) := by decide +kernel
theorem fe_224_14 : am_fe 224 14 = some (12, some .boolean, .bipush 12) := by decide +kernel
theorem fe_224_16 : am_fe 224 16 = some (12, some .boolean, .iload_n 1) := by decide +kernel
theorem fe_224_17 : am_fe 224 17 = some (12, some .boolean, .imul) := by decide +kernel
theorem fe_224_18 : am_fe 224 18 = some (12, some .boolean, .aload_n 0) := by decide +kernel
theorem fe_224_19 : am_fe 224 19 = some (12, some .boolean, .getfield 99) := by decide +kernel
theorem fe_224_22 : am_fe 224 22 = some (12, some .boolean, .iload_n 1) := by decide +kernel
theorem fe_224_23 : am_fe 224 23 = some (12, some .boolean, .iaload) := by decide +kernel
theorem fe_224_24 : am_fe 224 24 = some (12, some .boolean, .iadd) := by decide +kernel
theorem fe_224_25 : am_fe 224 25 = some (12, some .boolean, .if_icmp .ge 33) := by decide +kernel
theorem fe_224_28 : am_fe 224 28 = some (12, some .boolean, .aload_n 0) := by decide +kernel
theorem fe_224_29 : am_fe 224 29 = some (12, some .boolean, .iload_n 1) := by decide +kernel
theorem fe_224_30 : am_fe 224 30 = some (12, some .boolean, .aload_n 0) := by decide +kernel
theorem fe_224_31 : am_fe 224 31 = some (12, some .boolean, .getfield 102) := by decide +kernel
theorem fe_224_34 : am_fe 224 34 = some (12, some .boolean, .iload_n 2) := by decide +kernel
theorem fe_224_35 : am_fe 224 35 = some (12, some .boolean, .iaload) := by decide +kernel
theorem fe_224_36 : am_fe 224 36 = some (12, some .boolean, .aload_n 0) := by decide +kernel
theorem fe_224_37 : am_fe 224 37 = some (12, some .boolean, .getfield 105) := by decide +kernel
theorem fe_224_40 : am_fe 224 40 = some (12, some .boolean, .iload_n 2) := by decide +kernel
theorem fe_224_41 : am_fe 224 41 = some (12, some .boolean, .iaload) := by decide +kernel
theorem fe_224_42 : am_fe 224 42 = some (12, some .boolean, .invokevirtual 362) := by decide +kernel
theorem fe_224_45 : am_fe 224 45 = some (12, some .boolean, .lconst 1) := by decide +kernel
theorem fe_224_46 : am_fe 224 46 = some (12, some .boolean, .lcmp) := by decide +kernel
theorem fe_224_47 : am_fe 224 47 = some (12, some .boolean, .ifCond .ne 5) := by decide +kernel
theorem fe_224_50 : am_fe 224 50 = some (12, some .boolean, .iconst 1) := by decide +kernel
theorem fe_224_51 : am_fe 224 51 = some (12, some .boolean, .ireturn) := by decide +kernel
theorem fe_224_52 : am_fe 224 52 = some (12, some .boolean, .iinc 2 1) := by decide +kernel
theorem fe_224_55 : am_fe 224 55 = some (12, some .boolean, .goto (-42)) := by decide +kernel
theorem fe_224_58 : am_fe 224 58 = some (12, some .boolean, .iconst 0) := by decide +kernel
theorem fe_224_59 : am_fe 224 59 = some (12, some .boolean, .ireturn) := by decide +kernel
theorem fe_225_0 : am_fe 225 0 = some (12, some .long, .iconst 0) := by decide +kernel
theorem fe_225_1 : am_fe 225 1 = some (12, some .long, .istore 4) := by decide +kernel
theorem fe_225_3 : am_fe 225 3 = some (12, some .long, .iload_n 2) := by decide +kernel
theorem fe_225_4 : am_fe 225 4 = some (12, some .long, .istore 5) := by decide +kernel
theorem fe_225_6 : am_fe 225 6 = some (12, some .long, .iload 5) := by decide +kernel
theorem fe_225_8 : am_fe 225 8 = some (12, some .long, .iload_n 3) := by decide +kernel
theorem fe_225_9 : am_fe 225 9 = some (12, some .long, .if_icmp .ge 144) := by decide +kernel
theorem fe_225_12 : am_fe 225 12 = some (12, some .long, .aload_n 0) := by decide +kernel
theorem fe_225_13 : am_fe 225 13 = some (12, some .long, .getfield 93) := by decide +kernel
theorem fe_225_16 : am_fe 225 16 = some (12, some .long, .sipush 300) := by decide +kernel
theorem fe_225_19 : am_fe 225 19 = some (12, some .long, .iload_n 1) := by decide +kernel
theorem fe_225_20 : am_fe 225 20 = some (12, some .long, .imul) := by decide +kernel
theorem fe_225_21 : am_fe 225 21 = some (12, some .long, .iload 5) := by decide +kernel
theorem fe_225_23 : am_fe 225 23 = some (12, some .long, .iadd) := by decide +kernel
theorem fe_225_24 : am_fe 225 24 = some (12, some .long, .iaload) := by decide +kernel
theorem fe_225_25 : am_fe 225 25 = some (12, some .long, .istore 6) := by decide +kernel
theorem fe_225_27 : am_fe 225 27 = some (12, some .long, .aload_n 0) := by decide +kernel
theorem fe_225_28 : am_fe 225 28 = some (12, some .long, .getfield 96) := by decide +kernel
theorem fe_225_31 : am_fe 225 31 = some (12, some .long, .sipush 300) := by decide +kernel
theorem fe_225_34 : am_fe 225 34 = some (12, some .long, .iload_n 1) := by decide +kernel
theorem fe_225_35 : am_fe 225 35 = some (12, some .long, .imul) := by decide +kernel
theorem fe_225_36 : am_fe 225 36 = some (12, some .long, .iload 5) := by decide +kernel
theorem fe_225_38 : am_fe 225 38 = some (12, some .long, .iadd) := by decide +kernel
theorem fe_225_39 : am_fe 225 39 = some (12, some .long, .iaload) := by decide +kernel
theorem fe_225_40 : am_fe 225 40 = some (12, some .long, .istore 7) := by decide +kernel
theorem fe_225_42 : am_fe 225 42 = some (12, some .long, .iload 6) := by decide +kernel
theorem fe_225_44 : am_fe 225 44 = some (12, some .long, .ifCond .eq 9) := by decide +kernel
theorem fe_225_47 : am_fe 225 47 = some (12, some .long, .iload 6) := by decide +kernel
theorem fe_225_49 : am_fe 225 49 = some (12, some .long, .iconst 1) := by decide +kernel
theorem fe_225_50 : am_fe 225 50 = some (12, some .long, .if_icmp .ne 34) := by decide +kernel
theorem fe_225_53 : am_fe 225 53 = some (12, some .long, .aload_n 0) := by decide +kernel
theorem fe_225_54 : am_fe 225 54 = some (12, some .long, .getfield 115) := by decide +kernel
theorem fe_225_57 : am_fe 225 57 = some (12, some .long, .iload 4) := by decide +kernel
theorem fe_225_59 : am_fe 225 59 = some (12, some .long, .iload 6) := by decide +kernel
theorem fe_225_61 : am_fe 225 61 = some (12, some .long, .ifCond .ne 9) := by decide +kernel
theorem fe_225_64 : am_fe 225 64 = some (12, some .long, .iload 7) := by decide +kernel
theorem fe_225_66 : am_fe 225 66 = some (12, some .long, .i2l) := by decide +kernel
theorem fe_225_67 : am_fe 225 67 = some (12, some .long, .goto 10) := by decide +kernel
theorem fe_225_70 : am_fe 225 70 = some (12, some .long, .aload_n 0) := by decide +kernel
theorem fe_225_71 : am_fe 225 71 = some (12, some .long, .getfield 111) := by decide +kernel
theorem fe_225_74 : am_fe 225 74 = some (12, some .long, .iload 7) := by decide +kernel
theorem fe_225_76 : am_fe 225 76 = some (12, some .long, .laload) := by decide +kernel
theorem fe_225_77 : am_fe 225 77 = some (12, some .long, .lastore) := by decide +kernel
theorem fe_225_78 : am_fe 225 78 = some (12, some .long, .iinc 4 1) := by decide +kernel
theorem fe_225_81 : am_fe 225 81 = some (12, some .long, .goto 66) := by decide +kernel
theorem fe_225_84 : am_fe 225 84 = some (12, some .long, .iload 6) := by decide +kernel
theorem fe_225_86 : am_fe 225 86 = some (12, some .long, .bipush 9) := by decide +kernel
theorem fe_225_88 : am_fe 225 88 = some (12, some .long, .if_icmp .ne 26) := by decide +kernel
theorem fe_225_91 : am_fe 225 91 = some (12, some .long, .aload_n 0) := by decide +kernel
theorem fe_225_92 : am_fe 225 92 = some (12, some .long, .getfield 115) := by decide +kernel
theorem fe_225_95 : am_fe 225 95 = some (12, some .long, .iload 4) := by decide +kernel
theorem fe_225_97 : am_fe 225 97 = some (12, some .long, .iconst 1) := by decide +kernel
theorem fe_225_98 : am_fe 225 98 = some (12, some .long, .isub) := by decide +kernel
theorem fe_225_99 : am_fe 225 99 = some (12, some .long, .lconst 1) := by decide +kernel
theorem fe_225_100 : am_fe 225 100 = some (12, some .long, .aload_n 0) := by decide +kernel
theorem fe_225_101 : am_fe 225 101 = some (12, some .long, .getfield 115) := by decide +kernel
theorem fe_225_104 : am_fe 225 104 = some (12, some .long, .iload 4) := by decide +kernel
theorem fe_225_106 : am_fe 225 106 = some (12, some .long, .iconst 1) := by decide +kernel
theorem fe_225_107 : am_fe 225 107 = some (12, some .long, .isub) := by decide +kernel
theorem fe_225_108 : am_fe 225 108 = some (12, some .long, .laload) := by decide +kernel
theorem fe_225_109 : am_fe 225 109 = some (12, some .long, .lsub) := by decide +kernel
theorem fe_225_110 : am_fe 225 110 = some (12, some .long, .lastore) := by decide +kernel
theorem fe_225_111 : am_fe 225 111 = some (12, some .long, .goto 36) := by decide +kernel
theorem fe_225_114 : am_fe 225 114 = some (12, some .long, .iinc 4 (-1)) := by decide +kernel
theorem fe_225_117 : am_fe 225 117 = some (12, some .long, .aload_n 0) := by decide +kernel
theorem fe_225_118 : am_fe 225 118 = some (12, some .long, .getfield 115) := by decide +kernel
theorem fe_225_121 : am_fe 225 121 = some (12, some .long, .iload 4) := by decide +kernel
theorem fe_225_123 : am_fe 225 123 = some (12, some .long, .iconst 1) := by decide +kernel
theorem fe_225_124 : am_fe 225 124 = some (12, some .long, .isub) := by decide +kernel
theorem fe_225_125 : am_fe 225 125 = some (12, some .long, .iload 6) := by decide +kernel
theorem fe_225_127 : am_fe 225 127 = some (12, some .long, .aload_n 0) := by decide +kernel
theorem fe_225_128 : am_fe 225 128 = some (12, some .long, .getfield 115) := by decide +kernel
theorem fe_225_131 : am_fe 225 131 = some (12, some .long, .iload 4) := by decide +kernel
theorem fe_225_133 : am_fe 225 133 = some (12, some .long, .iconst 1) := by decide +kernel
theorem fe_225_134 : am_fe 225 134 = some (12, some .long, .isub) := by decide +kernel
theorem fe_225_135 : am_fe 225 135 = some (12, some .long, .laload) := by decide +kernel
theorem fe_225_136 : am_fe 225 136 = some (12, some .long, .aload_n 0) := by decide +kernel
theorem fe_225_137 : am_fe 225 137 = some (12, some .long, .getfield 115) := by decide +kernel
theorem fe_225_140 : am_fe 225 140 = some (12, some .long, .iload 4) := by decide +kernel
theorem fe_225_142 : am_fe 225 142 = some (12, some .long, .laload) := by decide +kernel
theorem fe_225_143 : am_fe 225 143 = some (12, some .long, .invokestatic 370) := by decide +kernel
theorem fe_225_146 : am_fe 225 146 = some (12, some .long, .lastore) := by decide +kernel
theorem fe_225_147 : am_fe 225 147 = some (12, some .long, .iinc 5 1) := by decide +kernel
theorem fe_225_150 : am_fe 225 150 = some (12, some .long, .goto (-144)) := by decide +kernel
theorem fe_225_153 : am_fe 225 153 = some (12, some .long, .aload_n 0) := by decide +kernel
theorem fe_225_154 : am_fe 225 154 = some (12, some .long, .getfield 115) := by decide +kernel
theorem fe_225_157 : am_fe 225 157 = some (12, some .long, .iconst 0) := by decide +kernel
theorem fe_225_158 : am_fe 225 158 = some (12, some .long, .laload) := by decide +kernel
theorem fe_225_159 : am_fe 225 159 = some (12, some .long, .lreturn) := by decide +kernel
theorem fe_226_0 : am_fe 226 0 = some (12, some .long, .iload_n 0) := by decide +kernel
theorem fe_226_1 : am_fe 226 1 = some (12, some .long, .tableswitch 190 2 15 #[71, 75, 111, 126, 141, 156, 171, 190, 186, 190, 190, 79, 83, 97]) := by decide +kernel
theorem fe_226_72 : am_fe 226 72 = some (12, some .long, .lload_n 1) := by decide +kernel
theorem fe_226_73 : am_fe 226 73 = some (12, some .long, .lload_n 3) := by decide +kernel
theorem fe_226_74 : am_fe 226 74 = some (12, some .long, .ladd) := by decide +kernel
theorem fe_226_75 : am_fe 226 75 = some (12, some .long, .lreturn) := by decide +kernel
theorem fe_226_76 : am_fe 226 76 = some (12, some .long, .lload_n 1) := by decide +kernel
theorem fe_226_77 : am_fe 226 77 = some (12, some .long, .lload_n 3) := by decide +kernel
theorem fe_226_78 : am_fe 226 78 = some (12, some .long, .lsub) := by decide +kernel
theorem fe_226_79 : am_fe 226 79 = some (12, some .long, .lreturn) := by decide +kernel
theorem fe_226_80 : am_fe 226 80 = some (12, some .long, .lload_n 1) := by decide +kernel
theorem fe_226_81 : am_fe 226 81 = some (12, some .long, .lload_n 3) := by decide +kernel
theorem fe_226_82 : am_fe 226 82 = some (12, some .long, .lmul) := by decide +kernel
theorem fe_226_83 : am_fe 226 83 = some (12, some .long, .lreturn) := by decide +kernel
theorem fe_226_84 : am_fe 226 84 = some (12, some .long, .lload_n 3) := by decide +kernel
theorem fe_226_85 : am_fe 226 85 = some (12, some .long, .lconst 0) := by decide +kernel
theorem fe_226_86 : am_fe 226 86 = some (12, some .long, .lcmp) := by decide +kernel
theorem fe_226_87 : am_fe 226 87 = some (12, some .long, .ifCond .ne 7) := by decide +kernel
theorem fe_226_90 : am_fe 226 90 = some (12, some .long, .lconst 0) := by decide +kernel
theorem fe_226_91 : am_fe 226 91 = some (12, some .long, .goto 6) := by decide +kernel
theorem fe_226_94 : am_fe 226 94 = some (12, some .long, .lload_n 1) := by decide +kernel
theorem fe_226_95 : am_fe 226 95 = some (12, some .long, .lload_n 3) := by decide +kernel
theorem fe_226_96 : am_fe 226 96 = some (12, some .long, .ldiv) := by decide +kernel
theorem fe_226_97 : am_fe 226 97 = some (12, some .long, .lreturn) := by decide +kernel
theorem fe_226_98 : am_fe 226 98 = some (12, some .long, .lload_n 3) := by decide +kernel
theorem fe_226_99 : am_fe 226 99 = some (12, some .long, .lconst 0) := by decide +kernel
theorem fe_226_100 : am_fe 226 100 = some (12, some .long, .lcmp) := by decide +kernel
theorem fe_226_101 : am_fe 226 101 = some (12, some .long, .ifCond .ne 7) := by decide +kernel
theorem fe_226_104 : am_fe 226 104 = some (12, some .long, .lconst 0) := by decide +kernel
theorem fe_226_105 : am_fe 226 105 = some (12, some .long, .goto 6) := by decide +kernel
theorem fe_226_108 : am_fe 226 108 = some (12, some .long, .lload_n 1) := by decide +kernel
theorem fe_226_109 : am_fe 226 109 = some (12, some .long, .lload_n 3) := by decide +kernel
theorem fe_226_110 : am_fe 226 110 = some (12, some .long, .lrem) := by decide +kernel
theorem fe_226_111 : am_fe 226 111 = some (12, some .long, .lreturn) := by decide +kernel
theorem fe_226_112 : am_fe 226 112 = some (12, some .long, .lload_n 1) := by decide +kernel
theorem fe_226_113 : am_fe 226 113 = some (12, some .long, .lload_n 3) := by decide +kernel
theorem fe_226_114 : am_fe 226 114 = some (12, some .long, .lcmp) := by decide +kernel
theorem fe_226_115 : am_fe 226 115 = some (12, some .long, .ifCond .ge 7) := by decide +kernel
theorem fe_226_118 : am_fe 226 118 = some (12, some .long, .iconst 1) := by decide +kernel
theorem fe_226_119 : am_fe 226 119 = some (12, some .long, .goto 4) := by decide +kernel
theorem fe_226_122 : am_fe 226 122 = some (12, some .long, .iconst 0) := by decide +kernel
theorem fe_226_123 : am_fe 226 123 = some (12, some .long, .invokestatic 366) := by decide +kernel
theorem fe_226_126 : am_fe 226 126 = some (12, some .long, .lreturn) := by decide +kernel
theorem fe_226_127 : am_fe 226 127 = some (12, some .long, .lload_n 1) := by decide +kernel
theorem fe_226_128 : am_fe 226 128 = some (12, some .long, .lload_n 3) := by decide +kernel
theorem fe_226_129 : am_fe 226 129 = some (12, some .long, .lcmp) := by decide +kernel
theorem fe_226_130 : am_fe 226 130 = some (12, some .long, .ifCond .gt 7) := by decide +kernel
theorem fe_226_133 : am_fe 226 133 = some (12, some .long, .iconst 1) := by decide +kernel
theorem fe_226_134 : am_fe 226 134 = some (12, some .long, .goto 4) := by decide +kernel
theorem fe_226_137 : am_fe 226 137 = some (12, some .long, .iconst 0) := by decide +kernel
theorem fe_226_138 : am_fe 226 138 = some (12, some .long, .invokestatic 366) := by decide +kernel
theorem fe_226_141 : am_fe 226 141 = some (12, some .long, .lreturn) := by decide +kernel
theorem fe_226_142 : am_fe 226 142 = some (12, some .long, .lload_n 1) := by decide +kernel
theorem fe_226_143 : am_fe 226 143 = some (12, some .long, .lload_n 3) := by decide +kernel
theorem fe_226_144 : am_fe 226 144 = some (12, some .long, .lcmp) := by decide +kernel
theorem fe_226_145 : am_fe 226 145 = some (12, some .long, .ifCond .ne 7) := by decide +kernel
theorem fe_226_148 : am_fe 226 148 = some (12, some .long, .iconst 1) := by decide +kernel
theorem fe_226_149 : am_fe 226 149 = some (12, some .long, .goto 4) := by decide +kernel
theorem fe_226_152 : am_fe 226 152 = some (12, some .long, .iconst 0) := by decide +kernel
theorem fe_226_153 : am_fe 226 153 = some (12, some .long, .invokestatic 366) := by decide +kernel
theorem fe_226_156 : am_fe 226 156 = some (12, some .long, .lreturn) := by decide +kernel
theorem fe_226_157 : am_fe 226 157 = some (12, some .long, .lload_n 1) := by decide +kernel
theorem fe_226_158 : am_fe 226 158 = some (12, some .long, .lload_n 3) := by decide +kernel
theorem fe_226_159 : am_fe 226 159 = some (12, some .long, .lcmp) := by decide +kernel
theorem fe_226_160 : am_fe 226 160 = some (12, some .long, .ifCond .lt 7) := by decide +kernel
theorem fe_226_163 : am_fe 226 163 = some (12, some .long, .iconst 1) := by decide +kernel
theorem fe_226_164 : am_fe 226 164 = some (12, some .long, .goto 4) := by decide +kernel
theorem fe_226_167 : am_fe 226 167 = some (12, some .long, .iconst 0) := by decide +kernel
theorem fe_226_168 : am_fe 226 168 = some (12, some .long, .invokestatic 366) := by decide +kernel
theorem fe_226_171 : am_fe 226 171 = some (12, some .long, .lreturn) := by decide +kernel
theorem fe_226_172 : am_fe 226 172 = some (12, some .long, .lload_n 1) := by decide +kernel
theorem fe_226_173 : am_fe 226 173 = some (12, some .long, .lload_n 3) := by decide +kernel
theorem fe_226_174 : am_fe 226 174 = some (12, some .long, .lcmp) := by decide +kernel
theorem fe_226_175 : am_fe 226 175 = some (12, some .long, .ifCond .le 7) := by decide +kernel
theorem fe_226_178 : am_fe 226 178 = some (12, some .long, .iconst 1) := by decide +kernel
theorem fe_226_179 : am_fe 226 179 = some (12, some .long, .goto 4) := by decide +kernel
theorem fe_226_182 : am_fe 226 182 = some (12, some .long, .iconst 0) := by decide +kernel
theorem fe_226_183 : am_fe 226 183 = some (12, some .long, .invokestatic 366) := by decide +kernel
theorem fe_226_186 : am_fe 226 186 = some (12, some .long, .lreturn) := by decide +kernel
theorem fe_226_187 : am_fe 226 187 = some (12, some .long, .lload_n 1) := by decide +kernel
theorem fe_226_188 : am_fe 226 188 = some (12, some .long, .lload_n 3) := by decide +kernel
theorem fe_226_189 : am_fe 226 189 = some (12, some .long, .land) := by decide +kernel
theorem fe_226_190 : am_fe 226 190 = some (12, some .long, .lreturn) := by decide +kernel
theorem fe_226_191 : am_fe 226 191 = some (12, some .long, .lload_n 1) := by decide +kernel
theorem fe_226_192 : am_fe 226 192 = some (12, some .long, .lload_n 3) := by decide +kernel
theorem fe_226_193 : am_fe 226 193 = some (12, some .long, .lor) := by decide +kernel
theorem fe_226_194 : am_fe 226 194 = some (12, some .long, .lreturn) := by decide +kernel
theorem fe_227_0 : am_fe 227 0 = some (12, some .long, .iload_n 0) := by decide +kernel
theorem fe_227_1 : am_fe 227 1 = some (12, some .long, .ifCond .eq 7) := by decide +kernel
theorem fe_227_4 : am_fe 227 4 = some (12, some .long, .lconst 1) := by decide +kernel
theorem fe_227_5 : am_fe 227 5 = some (12, some .long, .goto 4) := by decide +kernel
theorem fe_227_8 : am_fe 227 8 = some (12, some .long, .lconst 0) := by decide +kernel
theorem fe_227_9 : am_fe 227 9 = some (12, some .long, .lreturn) := by decide +kernel
theorem fe_228_0 : am_fe 228 0 = some (12, some .int, .iconst 1) := by decide +kernel
theorem fe_228_1 : am_fe 228 1 = some (12, some .int, .istore_n 1) := by decide +kernel
theorem fe_228_2 : am_fe 228 2 = some (12, some .int, .iconst 0) := by decide +kernel
theorem fe_228_3 : am_fe 228 3 = some (12, some .int, .istore_n 2) := by decide +kernel
theorem fe_228_4 : am_fe 228 4 = some (12, some .int, .iload_n 2) := by decide +kernel
theorem fe_228_5 : am_fe 228 5 = some (12, some .int, .iload_n 0) := by decide +kernel
theorem fe_228_6 : am_fe 228 6 = some (12, some .int, .if_icmp .ge 14) := by decide +kernel
theorem fe_228_9 : am_fe 228 9 = some (12, some .int, .iload_n 1) := by decide +kernel
theorem fe_228_10 : am_fe 228 10 = some (12, some .int, .bipush 10) := by decide +kernel
theorem fe_228_12 : am_fe 228 12 = some (12, some .int, .imul) := by decide +kernel
theorem fe_228_13 : am_fe 228 13 = some (12, some .int, .istore_n 1) := by decide +kernel
theorem fe_228_14 : am_fe 228 14 = some (12, some .int, .iinc 2 1) := by decide +kernel
theorem fe_228_17 : am_fe 228 17 = some (12, some .int, .goto (-13)) := by decide +kernel
theorem fe_228_20 : am_fe 228 20 = some (12, some .int, .iload_n 1) := by decide +kernel
theorem fe_228_21 : am_fe 228 21 = some (12, some .int, .ireturn) := by decide +kernel
theorem fe_229_0 : am_fe 229 0 = some (12, none, .iconst 0) := by decide +kernel
theorem fe_229_1 : am_fe 229 1 = some (12, none, .istore_n 1) := by decide +kernel
theorem fe_229_2 : am_fe 229 2 = some (12, none, .iload_n 1) := by decide +kernel
theorem fe_229_3 : am_fe 229 3 = some (12, none, .aload_n 0) := by decide +kernel
theorem fe_229_4 : am_fe 229 4 = some (12, none, .getfield 9) := by decide +kernel
theorem fe_229_7 : am_fe 229 7 = some (12, none, .iconst 4) := by decide +kernel
theorem fe_229_8 : am_fe 229 8 = some (12, none, .iaload) := by decide +kernel
theorem fe_229_9 : am_fe 229 9 = some (12, none, .if_icmp .ge 67) := by decide +kernel
theorem fe_229_12 : am_fe 229 12 = some (12, none, .aload_n 0) := by decide +kernel
theorem fe_229_13 : am_fe 229 13 = some (12, none, .iload_n 1) := by decide +kernel
theorem fe_229_14 : am_fe 229 14 = some (12, none, .invokevirtual 374) := by decide +kernel
theorem fe_229_17 : am_fe 229 17 = some (12, none, .ifCond .eq 16) := by decide +kernel
theorem fe_229_20 : am_fe 229 20 = some (12, none, .aload_n 0) := by decide +kernel
theorem fe_229_21 : am_fe 229 21 = some (12, none, .aload_n 0) := by decide +kernel
theorem fe_229_22 : am_fe 229 22 = some (12, none, .getfield 37) := by decide +kernel
theorem fe_229_25 : am_fe 229 25 = some (12, none, .iload_n 1) := by decide +kernel
theorem fe_229_26 : am_fe 229 26 = some (12, none, .iaload) := by decide +kernel
theorem fe_229_27 : am_fe 229 27 = some (12, none, .invokevirtual 390) := by decide +kernel
theorem fe_229_30 : am_fe 229 30 = some (12, none, .goto 4) := by decide +kernel
theorem fe_229_33 : am_fe 229 33 = some (12, none, .iconst (-1)) := by decide +kernel
theorem fe_229_34 : am_fe 229 34 = some (12, none, .istore_n 2) := by decide +kernel
theorem fe_229_35 : am_fe 229 35 = some (12, none, .iload_n 2) := by decide +kernel
theorem fe_229_36 : am_fe 229 36 = some (12, none, .iconst (-1)) := by decide +kernel
theorem fe_229_37 : am_fe 229 37 = some (12, none, .if_icmp .eq 33) := by decide +kernel
theorem fe_229_40 : am_fe 229 40 = some (12, none, .aload_n 0) := by decide +kernel
theorem fe_229_41 : am_fe 229 41 = some (12, none, .getfield 40) := by decide +kernel
theorem fe_229_44 : am_fe 229 44 = some (12, none, .iload_n 1) := by decide +kernel
theorem fe_229_45 : am_fe 229 45 = some (12, none, .iaload) := by decide +kernel
theorem fe_229_46 : am_fe 229 46 = some (12, none, .invokestatic 151) := by decide +kernel
theorem fe_229_49 : am_fe 229 49 = some (12, none, .aload_n 0) := by decide +kernel
theorem fe_229_50 : am_fe 229 50 = some (12, none, .getfield 34) := by decide +kernel
theorem fe_229_53 : am_fe 229 53 = some (12, none, .iload_n 2) := by decide +kernel
theorem fe_229_54 : am_fe 229 54 = some (12, none, .iaload) := by decide +kernel
theorem fe_229_55 : am_fe 229 55 = some (12, none, .if_icmp .lt 15) := by decide +kernel
theorem fe_229_58 : am_fe 229 58 = some (12, none, .aload_n 0) := by decide +kernel
theorem fe_229_59 : am_fe 229 59 = some (12, none, .iload_n 1) := by decide +kernel
theorem fe_229_60 : am_fe 229 60 = some (12, none, .iconst 2) := by decide +kernel
theorem fe_229_61 : am_fe 229 61 = some (12, none, .aload_n 0) := by decide +kernel
theorem fe_229_62 : am_fe 229 62 = some (12, none, .getfield 37) := by decide +kernel
theorem fe_229_65 : am_fe 229 65 = some (12, none, .iload_n 1) := by decide +kernel
theorem fe_229_66 : am_fe 229 66 = some (12, none, .iaload) := by decide +kernel
theorem fe_229_67 : am_fe 229 67 = some (12, none, .invokevirtual 402) := by decide +kernel
theorem fe_229_70 : am_fe 229 70 = some (12, none, .iinc 1 1) := by decide +kernel
theorem fe_229_73 : am_fe 229 73 = some (12, none, .goto (-71)) := by decide +kernel
theorem fe_229_76 : am_fe 229 76 = some (12, none, .return_) := by decide +kernel
theorem fe_230_0 : am_fe 230 0 = some (12, some .int, .aload_n 0) := by decide +kernel
theorem fe_230_1 : am_fe 230 1 = some (12, some .int, .iload_n 1) := by decide +kernel
theorem fe_230_2 : am_fe 230 2 = some (12, some .int, .invokevirtual 378) := by decide +kernel
theorem fe_230_5 : am_fe 230 5 = some (12, some .int, .ifCond .eq 21) := by decide +kernel
theorem fe_230_8 : am_fe 230 8 = some (12, some .int, .iload_n 2) := by decide +kernel
theorem fe_230_9 : am_fe 230 9 = some (12, some .int, .invokestatic 466) := by decide +kernel
theorem fe_230_12 : am_fe 230 12 = some (12, some .int, .ifCond .eq 14) := by decide +kernel
theorem fe_230_15 : am_fe 230 15 = some (12, some .int, .aload_n 0) := by decide +kernel
theorem fe_230_16 : am_fe 230 16 = some (12, some .int, .getfield 9) := by decide +kernel
theorem fe_230_19 : am_fe 230 19 = some (12, some .int, .iconst 4) := by decide +kernel
theorem fe_230_20 : am_fe 230 20 = some (12, some .int, .iaload) := by decide +kernel
theorem fe_230_21 : am_fe 230 21 = some (12, some .int, .bipush 12) := by decide +kernel
theorem fe_230_23 : am_fe 230 23 = some (12, some .int, .if_icmp .ne 5) := by decide +kernel
theorem fe_230_26 : am_fe 230 26 = some (12, some .int, .iconst (-1)) := by decide +kernel
theorem fe_230_27 : am_fe 230 27 = some (12, some .int, .ireturn) := by decide +kernel
theorem fe_230_28 : am_fe 230 28 = some (12, some .int, .aload_n 0) := by decide +kernel
theorem fe_230_29 : am_fe 230 29 = some (12, some .int, .invokevirtual 460) := by decide +kernel
theorem fe_230_32 : am_fe 230 32 = some (12, some .int, .aload_n 0) := by decide +kernel
theorem fe_230_33 : am_fe 230 33 = some (12, some .int, .iload_n 1) := by decide +kernel
theorem fe_230_34 : am_fe 230 34 = some (12, some .int, .iload_n 2) := by decide +kernel
theorem fe_230_35 : am_fe 230 35 = some (12, some .int, .iconst 0) := by decide +kernel
theorem fe_230_36 : am_fe 230 36 = some (12, some .int, .invokevirtual 469) := by decide +kernel
theorem fe_230_39 : am_fe 230 39 = some (12, some .int, .ireturn) := by decide +kernel
theorem fe_231_0 : am_fe 231 0 = some (12, some .boolean, .iload_n 0) := by decide +kernel
theorem fe_231_1 : am_fe 231 1 = some (12, some .boolean, .iconst 1) := by decide +kernel
theorem fe_231_2 : am_fe 231 2 = some (12, some .boolean, .if_icmp .lt 12) := by decide +kernel
theorem fe_231_5 : am_fe 231 5 = some (12, some .boolean, .iload_n 0) := by decide +kernel
theorem fe_231_6 : am_fe 231 6 = some (12, some .boolean, .invokestatic 151) := by decide +kernel
theorem fe_231_9 : am_fe 231 9 = some (12, some .boolean, .bipush 8) := by decide +kernel
