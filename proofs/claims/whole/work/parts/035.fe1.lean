theorem fe_52_13 : am_fe 52 13 = some (8, some .boolean, .getfield 19) := by decide +kernel
theorem fe_52_16 : am_fe 52 16 = some (8, some .boolean, .iconst 1) := by decide +kernel
theorem fe_52_17 : am_fe 52 17 = some (8, some .boolean, .iadd) := by decide +kernel
theorem fe_52_18 : am_fe 52 18 = some (8, some .boolean, .putfield 19) := by decide +kernel
theorem fe_52_21 : am_fe 52 21 = some (8, some .boolean, .iconst 1) := by decide +kernel
theorem fe_52_22 : am_fe 52 22 = some (8, some .boolean, .ireturn) := by decide +kernel
theorem fe_52_23 : am_fe 52 23 = some (8, some .boolean, .iload_n 1) := by decide +kernel
theorem fe_52_24 : am_fe 52 24 = some (8, some .boolean, .iconst (-1)) := by decide +kernel
theorem fe_52_25 : am_fe 52 25 = some (8, some .boolean, .if_icmp .eq 19) := by decide +kernel
theorem fe_52_28 : am_fe 52 28 = some (8, some .boolean, .aload_n 0) := by decide +kernel
theorem fe_52_29 : am_fe 52 29 = some (8, some .boolean, .aload_n 0) := by decide +kernel
theorem fe_52_30 : am_fe 52 30 = some (8, some .boolean, .getfield 19) := by decide +kernel
theorem fe_52_33 : am_fe 52 33 = some (8, some .boolean, .iconst 0) := by decide +kernel
theorem fe_52_34 : am_fe 52 34 = some (8, some .boolean, .invokevirtual 32) := by decide +kernel
theorem fe_52_37 : am_fe 52 37 = some (8, some .boolean, .ifCond .eq 7) := by decide +kernel
theorem fe_52_40 : am_fe 52 40 = some (8, some .boolean, .iconst 1) := by decide +kernel
theorem fe_52_41 : am_fe 52 41 = some (8, some .boolean, .goto 4) := by decide +kernel
theorem fe_52_44 : am_fe 52 44 = some (8, some .boolean, .iconst 0) := by decide +kernel
theorem fe_52_45 : am_fe 52 45 = some (8, some .boolean, .ireturn) := by decide +kernel
theorem fe_53_0 : am_fe 53 0 = some (0, none, .aload_n 0) := by decide +kernel
theorem fe_53_1 : am_fe 53 1 = some (0, none, .aload_n 1) := by decide +kernel
theorem fe_53_2 : am_fe 53 2 = some (0, none, .getfield 9) := by decide +kernel
theorem fe_53_5 : am_fe 53 5 = some (0, none, .putfield 9) := by decide +kernel
theorem fe_53_8 : am_fe 53 8 = some (0, none, .aload_n 0) := by decide +kernel
theorem fe_53_9 : am_fe 53 9 = some (0, none, .aload_n 1) := by decide +kernel
theorem fe_53_10 : am_fe 53 10 = some (0, none, .getfield 15) := by decide +kernel
theorem fe_53_13 : am_fe 53 13 = some (0, none, .putfield 15) := by decide +kernel
theorem fe_53_16 : am_fe 53 16 = some (0, none, .aload_n 0) := by decide +kernel
theorem fe_53_17 : am_fe 53 17 = some (0, none, .aload_n 1) := by decide +kernel
theorem fe_53_18 : am_fe 53 18 = some (0, none, .getfield 18) := by decide +kernel
theorem fe_53_21 : am_fe 53 21 = some (0, none, .putfield 18) := by decide +kernel
theorem fe_53_24 : am_fe 53 24 = some (0, none, .aload_n 1) := by decide +kernel
theorem fe_53_25 : am_fe 53 25 = some (0, none, .getfield 21) := by decide +kernel
theorem fe_53_28 : am_fe 53 28 = some (0, none, .iconst 0) := by decide +kernel
theorem fe_53_29 : am_fe 53 29 = some (0, none, .aload_n 0) := by decide +kernel
theorem fe_53_30 : am_fe 53 30 = some (0, none, .getfield 21) := by decide +kernel
theorem fe_53_33 : am_fe 53 33 = some (0, none, .iconst 0) := by decide +kernel
theorem fe_53_34 : am_fe 53 34 = some (0, none, .bipush 16) := by decide +kernel
theorem fe_53_36 : am_fe 53 36 = some (0, none, .invokestatic 37) := by decide +kernel
theorem fe_53_39 : am_fe 53 39 = some (0, none, .aload_n 1) := by decide +kernel
theorem fe_53_40 : am_fe 53 40 = some (0, none, .getfield 25) := by decide +kernel
theorem fe_53_43 : am_fe 53 43 = some (0, none, .iconst 0) := by decide +kernel
theorem fe_53_44 : am_fe 53 44 = some (0, none, .aload_n 0) := by decide +kernel
theorem fe_53_45 : am_fe 53 45 = some (0, none, .getfield 25) := by decide +kernel
theorem fe_53_48 : am_fe 53 48 = some (0, none, .iconst 0) := by decide +kernel
theorem fe_53_49 : am_fe 53 49 = some (0, none, .bipush 16) := by decide +kernel
theorem fe_53_51 : am_fe 53 51 = some (0, none, .invokestatic 37) := by decide +kernel
theorem fe_53_54 : am_fe 53 54 = some (0, none, .aload_n 1) := by decide +kernel
theorem fe_53_55 : am_fe 53 55 = some (0, none, .getfield 28) := by decide +kernel
theorem fe_53_58 : am_fe 53 58 = some (0, none, .iconst 0) := by decide +kernel
theorem fe_53_59 : am_fe 53 59 = some (0, none, .aload_n 0) := by decide +kernel
theorem fe_53_60 : am_fe 53 60 = some (0, none, .getfield 28) := by decide +kernel
theorem fe_53_63 : am_fe 53 63 = some (0, none, .iconst 0) := by decide +kernel
theorem fe_53_64 : am_fe 53 64 = some (0, none, .bipush 16) := by decide +kernel
theorem fe_53_66 : am_fe 53 66 = some (0, none, .invokestatic 37) := by decide +kernel
theorem fe_53_69 : am_fe 53 69 = some (0, none, .aload_n 1) := by decide +kernel
theorem fe_53_70 : am_fe 53 70 = some (0, none, .getfield 31) := by decide +kernel
theorem fe_53_73 : am_fe 53 73 = some (0, none, .iconst 0) := by decide +kernel
theorem fe_53_74 : am_fe 53 74 = some (0, none, .aload_n 0) := by decide +kernel
theorem fe_53_75 : am_fe 53 75 = some (0, none, .getfield 31) := by decide +kernel
theorem fe_53_78 : am_fe 53 78 = some (0, none, .iconst 0) := by decide +kernel
theorem fe_53_79 : am_fe 53 79 = some (0, none, .bipush 16) := by decide +kernel
theorem fe_53_81 : am_fe 53 81 = some (0, none, .invokestatic 37) := by decide +kernel
theorem fe_53_84 : am_fe 53 84 = some (0, none, .aload_n 1) := by decide +kernel
theorem fe_53_85 : am_fe 53 85 = some (0, none, .getfield 34) := by decide +kernel
theorem fe_53_88 : am_fe 53 88 = some (0, none, .iconst 0) := by decide +kernel
theorem fe_53_89 : am_fe 53 89 = some (0, none, .aload_n 0) := by decide +kernel
theorem fe_53_90 : am_fe 53 90 = some (0, none, .getfield 34) := by decide +kernel
theorem fe_53_93 : am_fe 53 93 = some (0, none, .iconst 0) := by decide +kernel
theorem fe_53_94 : am_fe 53 94 = some (0, none, .bipush 6) := by decide +kernel
theorem fe_53_96 : am_fe 53 96 = some (0, none, .invokestatic 37) := by decide +kernel
theorem fe_53_99 : am_fe 53 99 = some (0, none, .return_) := by decide +kernel
theorem fe_54_0 : am_fe 54 0 = some (9, none, .aload_n 0) := by decide +kernel
theorem fe_54_1 : am_fe 54 1 = some (9, none, .aload_n 1) := by decide +kernel
theorem fe_54_2 : am_fe 54 2 = some (9, none, .getfield 9) := by decide +kernel
theorem fe_54_5 : am_fe 54 5 = some (9, none, .putfield 9) := by decide +kernel
theorem fe_54_8 : am_fe 54 8 = some (9, none, .aload_n 0) := by decide +kernel
theorem fe_54_9 : am_fe 54 9 = some (9, none, .aload_n 1) := by decide +kernel
theorem fe_54_10 : am_fe 54 10 = some (9, none, .getfield 15) := by decide +kernel
theorem fe_54_13 : am_fe 54 13 = some (9, none, .putfield 15) := by decide +kernel
theorem fe_54_16 : am_fe 54 16 = some (9, none, .aload_n 0) := by decide +kernel
theorem fe_54_17 : am_fe 54 17 = some (9, none, .aload_n 1) := by decide +kernel
theorem fe_54_18 : am_fe 54 18 = some (9, none, .getfield 18) := by decide +kernel
theorem fe_54_21 : am_fe 54 21 = some (9, none, .putfield 18) := by decide +kernel
theorem fe_54_24 : am_fe 54 24 = some (9, none, .aload_n 1) := by decide +kernel
theorem fe_54_25 : am_fe 54 25 = some (9, none, .getfield 21) := by decide +kernel
theorem fe_54_28 : am_fe 54 28 = some (9, none, .iconst 0) := by decide +kernel
theorem fe_54_29 : am_fe 54 29 = some (9, none, .aload_n 0) := by decide +kernel
theorem fe_54_30 : am_fe 54 30 = some (9, none, .getfield 21) := by decide +kernel
theorem fe_54_33 : am_fe 54 33 = some (9, none, .iconst 0) := by decide +kernel
theorem fe_54_34 : am_fe 54 34 = some (9, none, .bipush 13) := by decide +kernel
theorem fe_54_36 : am_fe 54 36 = some (9, none, .invokestatic 58) := by decide +kernel
theorem fe_54_39 : am_fe 54 39 = some (9, none, .aload_n 1) := by decide +kernel
theorem fe_54_40 : am_fe 54 40 = some (9, none, .getfield 25) := by decide +kernel
theorem fe_54_43 : am_fe 54 43 = some (9, none, .iconst 0) := by decide +kernel
theorem fe_54_44 : am_fe 54 44 = some (9, none, .aload_n 0) := by decide +kernel
theorem fe_54_45 : am_fe 54 45 = some (9, none, .getfield 25) := by decide +kernel
theorem fe_54_48 : am_fe 54 48 = some (9, none, .iconst 0) := by decide +kernel
theorem fe_54_49 : am_fe 54 49 = some (9, none, .bipush 13) := by decide +kernel
theorem fe_54_51 : am_fe 54 51 = some (9, none, .invokestatic 58) := by decide +kernel
theorem fe_54_54 : am_fe 54 54 = some (9, none, .aload_n 1) := by decide +kernel
theorem fe_54_55 : am_fe 54 55 = some (9, none, .getfield 28) := by decide +kernel
theorem fe_54_58 : am_fe 54 58 = some (9, none, .iconst 0) := by decide +kernel
theorem fe_54_59 : am_fe 54 59 = some (9, none, .aload_n 0) := by decide +kernel
theorem fe_54_60 : am_fe 54 60 = some (9, none, .getfield 28) := by decide +kernel
theorem fe_54_63 : am_fe 54 63 = some (9, none, .iconst 0) := by decide +kernel
theorem fe_54_64 : am_fe 54 64 = some (9, none, .bipush 13) := by decide +kernel
theorem fe_54_66 : am_fe 54 66 = some (9, none, .invokestatic 58) := by decide +kernel
theorem fe_54_69 : am_fe 54 69 = some (9, none, .aload_n 1) := by decide +kernel
theorem fe_54_70 : am_fe 54 70 = some (9, none, .getfield 31) := by decide +kernel
theorem fe_54_73 : am_fe 54 73 = some (9, none, .iconst 0) := by decide +kernel
theorem fe_54_74 : am_fe 54 74 = some (9, none, .aload_n 0) := by decide +kernel
theorem fe_54_75 : am_fe 54 75 = some (9, none, .getfield 31) := by decide +kernel
theorem fe_54_78 : am_fe 54 78 = some (9, none, .iconst 0) := by decide +kernel
theorem fe_54_79 : am_fe 54 79 = some (9, none, .bipush 13) := by decide +kernel
theorem fe_54_81 : am_fe 54 81 = some (9, none, .invokestatic 58) := by decide +kernel
theorem fe_54_84 : am_fe 54 84 = some (9, none, .aload_n 1) := by decide +kernel
theorem fe_54_85 : am_fe 54 85 = some (9, none, .getfield 34) := by decide +kernel
theorem fe_54_88 : am_fe 54 88 = some (9, none, .iconst 0) := by decide +kernel
theorem fe_54_89 : am_fe 54 89 = some (9, none, .aload_n 0) := by decide +kernel
theorem fe_54_90 : am_fe 54 90 = some (9, none, .getfield 34) := by decide +kernel
theorem fe_54_93 : am_fe 54 93 = some (9, none, .iconst 0) := by decide +kernel
theorem fe_54_94 : am_fe 54 94 = some (9, none, .bipush 13) := by decide +kernel
theorem fe_54_96 : am_fe 54 96 = some (9, none, .invokestatic 58) := by decide +kernel
theorem fe_54_99 : am_fe 54 99 = some (9, none, .aload_n 1) := by decide +kernel
theorem fe_54_100 : am_fe 54 100 = some (9, none, .getfield 37) := by decide +kernel
theorem fe_54_103 : am_fe 54 103 = some (9, none, .iconst 0) := by decide +kernel
theorem fe_54_104 : am_fe 54 104 = some (9, none, .aload_n 0) := by decide +kernel
theorem fe_54_105 : am_fe 54 105 = some (9, none, .getfield 37) := by decide +kernel
theorem fe_54_108 : am_fe 54 108 = some (9, none, .iconst 0) := by decide +kernel
theorem fe_54_109 : am_fe 54 109 = some (9, none, .bipush 13) := by decide +kernel
theorem fe_54_111 : am_fe 54 111 = some (9, none, .invokestatic 58) := by decide +kernel
theorem fe_54_114 : am_fe 54 114 = some (9, none, .aload_n 1) := by decide +kernel
theorem fe_54_115 : am_fe 54 115 = some (9, none, .getfield 40) := by decide +kernel
theorem fe_54_118 : am_fe 54 118 = some (9, none, .iconst 0) := by decide +kernel
theorem fe_54_119 : am_fe 54 119 = some (9, none, .aload_n 0) := by decide +kernel
theorem fe_54_120 : am_fe 54 120 = some (9, none, .getfield 40) := by decide +kernel
theorem fe_54_123 : am_fe 54 123 = some (9, none, .iconst 0) := by decide +kernel
theorem fe_54_124 : am_fe 54 124 = some (9, none, .bipush 13) := by decide +kernel
theorem fe_54_126 : am_fe 54 126 = some (9, none, .invokestatic 58) := by decide +kernel
theorem fe_54_129 : am_fe 54 129 = some (9, none, .aload_n 1) := by decide +kernel
theorem fe_54_130 : am_fe 54 130 = some (9, none, .getfield 43) := by decide +kernel
theorem fe_54_133 : am_fe 54 133 = some (9, none, .iconst 0) := by decide +kernel
theorem fe_54_134 : am_fe 54 134 = some (9, none, .aload_n 0) := by decide +kernel
theorem fe_54_135 : am_fe 54 135 = some (9, none, .getfield 43) := by decide +kernel
theorem fe_54_138 : am_fe 54 138 = some (9, none, .iconst 0) := by decide +kernel
theorem fe_54_139 : am_fe 54 139 = some (9, none, .bipush 13) := by decide +kernel
theorem fe_54_141 : am_fe 54 141 = some (9, none, .invokestatic 58) := by decide +kernel
theorem fe_54_144 : am_fe 54 144 = some (9, none, .aload_n 1) := by decide +kernel
theorem fe_54_145 : am_fe 54 145 = some (9, none, .getfield 46) := by decide +kernel
theorem fe_54_148 : am_fe 54 148 = some (9, none, .iconst 0) := by decide +kernel
theorem fe_54_149 : am_fe 54 149 = some (9, none, .aload_n 0) := by decide +kernel
theorem fe_54_150 : am_fe 54 150 = some (9, none, .getfield 46) := by decide +kernel
theorem fe_54_153 : am_fe 54 153 = some (9, none, .iconst 0) := by decide +kernel
theorem fe_54_154 : am_fe 54 154 = some (9, none, .bipush 16) := by decide +kernel
theorem fe_54_156 : am_fe 54 156 = some (9, none, .invokestatic 58) := by decide +kernel
theorem fe_54_159 : am_fe 54 159 = some (9, none, .aload_n 1) := by decide +kernel
theorem fe_54_160 : am_fe 54 160 = some (9, none, .getfield 49) := by decide +kernel
theorem fe_54_163 : am_fe 54 163 = some (9, none, .iconst 0) := by decide +kernel
theorem fe_54_164 : am_fe 54 164 = some (9, none, .aload_n 0) := by decide +kernel
theorem fe_54_165 : am_fe 54 165 = some (9, none, .getfield 49) := by decide +kernel
theorem fe_54_168 : am_fe 54 168 = some (9, none, .iconst 0) := by decide +kernel
theorem fe_54_169 : am_fe 54 169 = some (9, none, .bipush 6) := by decide +kernel
theorem fe_54_171 : am_fe 54 171 = some (9, none, .invokestatic 58) := by decide +kernel
theorem fe_54_174 : am_fe 54 174 = some (9, none, .return_) := by decide +kernel
theorem fe_55_0 : am_fe 55 0 = some (4, none, .aload_n 0) := by decide +kernel
theorem fe_55_1 : am_fe 55 1 = some (4, none, .iconst 0) := by decide +kernel
theorem fe_55_2 : am_fe 55 2 = some (4, none, .putfield 17) := by decide +kernel
theorem fe_55_5 : am_fe 55 5 = some (4, none, .aload_n 0) := by decide +kernel
theorem fe_55_6 : am_fe 55 6 = some (4, none, .iconst 0) := by decide +kernel
theorem fe_55_7 : am_fe 55 7 = some (4, none, .putfield 21) := by decide +kernel
theorem fe_55_10 : am_fe 55 10 = some (4, none, .return_) := by decide +kernel
theorem fe_56_0 : am_fe 56 0 = some (11, some .int, .aload_n 0) := by decide +kernel
theorem fe_56_1 : am_fe 56 1 = some (11, some .int, .getfield 36) := by decide +kernel
theorem fe_56_4 : am_fe 56 4 = some (11, some .int, .bipush 6) := by decide +kernel
theorem fe_56_6 : am_fe 56 6 = some (11, some .int, .if_icmp .lt 5) := by decide +kernel
theorem fe_56_9 : am_fe 56 9 = some (11, some .int, .iconst (-1)) := by decide +kernel
theorem fe_56_10 : am_fe 56 10 = some (11, some .int, .ireturn) := by decide +kernel
theorem fe_56_11 : am_fe 56 11 = some (11, some .int, .aload_n 0) := by decide +kernel
theorem fe_56_12 : am_fe 56 12 = some (11, some .int, .getfield 26) := by decide +kernel
theorem fe_56_15 : am_fe 56 15 = some (11, some .int, .aload_n 0) := by decide +kernel
theorem fe_56_16 : am_fe 56 16 = some (11, some .int, .getfield 12) := by decide +kernel
theorem fe_56_19 : am_fe 56 19 = some (11, some .int, .invokevirtual 116) := by decide +kernel
theorem fe_56_22 : am_fe 56 22 = some (11, some .int, .istore_n 1) := by decide +kernel
theorem fe_56_23 : am_fe 56 23 = some (11, some .int, .aload_n 0) := by decide +kernel
theorem fe_56_24 : am_fe 56 24 = some (11, some .int, .getfield 12) := by decide +kernel
theorem fe_56_27 : am_fe 56 27 = some (11, some .int, .iconst 0) := by decide +kernel
theorem fe_56_28 : am_fe 56 28 = some (11, some .int, .putfield 72) := by decide +kernel
theorem fe_56_31 : am_fe 56 31 = some (11, some .int, .iload_n 1) := by decide +kernel
theorem fe_56_32 : am_fe 56 32 = some (11, some .int, .ifCond .eq 8) := by decide +kernel
theorem fe_56_35 : am_fe 56 35 = some (11, some .int, .bipush (-2)) := by decide +kernel
theorem fe_56_37 : am_fe 56 37 = some (11, some .int, .iload_n 1) := by decide +kernel
theorem fe_56_38 : am_fe 56 38 = some (11, some .int, .isub) := by decide +kernel
theorem fe_56_39 : am_fe 56 39 = some (11, some .int, .ireturn) := by decide +kernel
theorem fe_56_40 : am_fe 56 40 = some (11, some .int, .aload_n 0) := by decide +kernel
theorem fe_56_41 : am_fe 56 41 = some (11, some .int, .getfield 32) := by decide +kernel
theorem fe_56_44 : am_fe 56 44 = some (11, some .int, .aload_n 0) := by decide +kernel
theorem fe_56_45 : am_fe 56 45 = some (11, some .int, .getfield 36) := by decide +kernel
theorem fe_56_48 : am_fe 56 48 = some (11, some .int, .aload_n 0) := by decide +kernel
theorem fe_56_49 : am_fe 56 49 = some (11, some .int, .getfield 26) := by decide +kernel
theorem fe_56_52 : am_fe 56 52 = some (11, some .int, .invokevirtual 117) := by decide +kernel
theorem fe_56_55 : am_fe 56 55 = some (11, some .int, .aastore) := by decide +kernel
theorem fe_56_56 : am_fe 56 56 = some (11, some .int, .aload_n 0) := by decide +kernel
theorem fe_56_57 : am_fe 56 57 = some (11, some .int, .dup) := by decide +kernel
theorem fe_56_58 : am_fe 56 58 = some (11, some .int, .getfield 36) := by decide +kernel
theorem fe_56_61 : am_fe 56 61 = some (11, some .int, .iconst 1) := by decide +kernel
theorem fe_56_62 : am_fe 56 62 = some (11, some .int, .iadd) := by decide +kernel
theorem fe_56_63 : am_fe 56 63 = some (11, some .int, .putfield 36) := by decide +kernel
theorem fe_56_66 : am_fe 56 66 = some (11, some .int, .aload_n 0) := by decide +kernel
theorem fe_56_67 : am_fe 56 67 = some (11, some .int, .getfield 36) := by decide +kernel
theorem fe_56_70 : am_fe 56 70 = some (11, some .int, .iconst 1) := by decide +kernel
theorem fe_56_71 : am_fe 56 71 = some (11, some .int, .isub) := by decide +kernel
theorem fe_56_72 : am_fe 56 72 = some (11, some .int, .ireturn) := by decide +kernel
theorem fe_57_0 : am_fe 57 0 = some (6, some .int, .aload_n 1) := by decide +kernel
theorem fe_57_1 : am_fe 57 1 = some (6, some .int, .invokevirtual 33) := by decide +kernel
theorem fe_57_4 : am_fe 57 4 = some (6, some .int, .aload_n 0) := by decide +kernel
theorem fe_57_5 : am_fe 57 5 = some (6, some .int, .iconst 0) := by decide +kernel
theorem fe_57_6 : am_fe 57 6 = some (6, some .int, .putfield 15) := by decide +kernel
theorem fe_57_9 : am_fe 57 9 = some (6, some .int, .aload_n 0) := by decide +kernel
theorem fe_57_10 : am_fe 57 10 = some (6, some .int, .iconst 0) := by decide +kernel
theorem fe_57_11 : am_fe 57 11 = some (6, some .int, .putfield 19) := by decide +kernel
theorem fe_57_14 : am_fe 57 14 = some (6, some .int, .iconst 0) := by decide +kernel
theorem fe_57_15 : am_fe 57 15 = some (6, some .int, .istore_n 2) := by decide +kernel
theorem fe_57_16 : am_fe 57 16 = some (6, some .int, .iload_n 2) := by decide +kernel
theorem fe_57_17 : am_fe 57 17 = some (6, some .int, .bipush 12) := by decide +kernel
theorem fe_57_19 : am_fe 57 19 = some (6, some .int, .if_icmp .gt 73) := by decide +kernel
theorem fe_57_22 : am_fe 57 22 = some (6, some .int, .aload_n 1) := by decide +kernel
theorem fe_57_23 : am_fe 57 23 = some (6, some .int, .ldc 38) := by decide +kernel
theorem fe_57_25 : am_fe 57 25 = some (6, some .int, .invokevirtual 40) := by decide +kernel
theorem fe_57_28 : am_fe 57 28 = some (6, some .int, .iconst (-1)) := by decide +kernel
theorem fe_57_29 : am_fe 57 29 = some (6, some .int, .if_icmp .ne 6) := by decide +kernel
theorem fe_57_32 : am_fe 57 32 = some (6, some .int, .goto 60) := by decide +kernel
theorem fe_57_35 : am_fe 57 35 = some (6, some .int, .iload_n 2) := by decide +kernel
theorem fe_57_36 : am_fe 57 36 = some (6, some .int, .bipush 12) := by decide +kernel
theorem fe_57_38 : am_fe 57 38 = some (6, some .int, .if_icmp .ne 16) := by decide +kernel
theorem fe_57_41 : am_fe 57 41 = some (6, some .int, .aload_n 1) := by decide +kernel
theorem fe_57_42 : am_fe 57 42 = some (6, some .int, .aload_n 1) := by decide +kernel
theorem fe_57_43 : am_fe 57 43 = some (6, some .int, .getfield 44) := by decide +kernel
theorem fe_57_46 : am_fe 57 46 = some (6, some .int, .iconst 4) := by decide +kernel
theorem fe_57_47 : am_fe 57 47 = some (6, some .int, .invokevirtual 47) := by decide +kernel
theorem fe_57_50 : am_fe 57 50 = some (6, some .int, .pop) := by decide +kernel
theorem fe_57_51 : am_fe 57 51 = some (6, some .int, .goto 41) := by decide +kernel
theorem fe_57_54 : am_fe 57 54 = some (6, some .int, .aload_n 0) := by decide +kernel
theorem fe_57_55 : am_fe 57 55 = some (6, some .int, .aload_n 1) := by decide +kernel
theorem fe_57_56 : am_fe 57 56 = some (6, some .int, .iconst 0) := by decide +kernel
theorem fe_57_57 : am_fe 57 57 = some (6, some .int, .invokevirtual 51) := by decide +kernel
theorem fe_57_60 : am_fe 57 60 = some (6, some .int, .ifCond .ne 6) := by decide +kernel
theorem fe_57_63 : am_fe 57 63 = some (6, some .int, .goto 29) := by decide +kernel
theorem fe_57_66 : am_fe 57 66 = some (6, some .int, .iload_n 2) := by decide +kernel
theorem fe_57_67 : am_fe 57 67 = some (6, some .int, .ifCond .le 9) := by decide +kernel
theorem fe_57_70 : am_fe 57 70 = some (6, some .int, .aload_n 0) := by decide +kernel
theorem fe_57_71 : am_fe 57 71 = some (6, some .int, .bipush (-23)) := by decide +kernel
theorem fe_57_73 : am_fe 57 73 = some (6, some .int, .invokevirtual 55) := by decide +kernel
theorem fe_57_76 : am_fe 57 76 = some (6, some .int, .aload_n 1) := by decide +kernel
theorem fe_57_77 : am_fe 57 77 = some (6, some .int, .invokevirtual 59) := by decide +kernel
theorem fe_57_80 : am_fe 57 80 = some (6, some .int, .ifCond .ne 6) := by decide +kernel
theorem fe_57_83 : am_fe 57 83 = some (6, some .int, .goto 9) := by decide +kernel
theorem fe_57_86 : am_fe 57 86 = some (6, some .int, .iinc 2 1) := by decide +kernel
theorem fe_57_89 : am_fe 57 89 = some (6, some .int, .goto (-73)) := by decide +kernel
theorem fe_57_92 : am_fe 57 92 = some (6, some .int, .aload_n 1) := by decide +kernel
theorem fe_57_93 : am_fe 57 93 = some (6, some .int, .getfield 63) := by decide +kernel
theorem fe_57_96 : am_fe 57 96 = some (6, some .int, .ireturn) := by decide +kernel
theorem fe_58_0 : am_fe 58 0 = some (6, some .boolean, .iconst 0) := by decide +kernel
theorem fe_58_1 : am_fe 58 1 = some (6, some .boolean, .istore_n 3) := by decide +kernel
theorem fe_58_2 : am_fe 58 2 = some (6, some .boolean, .iconst 0) := by decide +kernel
theorem fe_58_3 : am_fe 58 3 = some (6, some .boolean, .istore 4) := by decide +kernel
theorem fe_58_5 : am_fe 58 5 = some (6, some .boolean, .iconst 0) := by decide +kernel
theorem fe_58_6 : am_fe 58 6 = some (6, some .boolean, .istore 5) := by decide +kernel
theorem fe_58_8 : am_fe 58 8 = some (6, some .boolean, .iload 5) := by decide +kernel
theorem fe_58_10 : am_fe 58 10 = some (6, some .boolean, .bipush 60) := by decide +kernel
theorem fe_58_12 : am_fe 58 12 = some (6, some .boolean, .if_icmp .gt 67) := by decide +kernel
theorem fe_58_15 : am_fe 58 15 = some (6, some .boolean, .aload_n 0) := by decide +kernel
theorem fe_58_16 : am_fe 58 16 = some (6, some .boolean, .aload_n 1) := by decide +kernel
theorem fe_58_17 : am_fe 58 17 = some (6, some .boolean, .iload_n 2) := by decide +kernel
theorem fe_58_18 : am_fe 58 18 = some (6, some .boolean, .invokevirtual 66) := by decide +kernel
theorem fe_58_21 : am_fe 58 21 = some (6, some .boolean, .ifCond .ne 5) := by decide +kernel
theorem fe_58_24 : am_fe 58 24 = some (6, some .boolean, .iconst 0) := by decide +kernel
theorem fe_58_25 : am_fe 58 25 = some (6, some .boolean, .ireturn) := by decide +kernel
theorem fe_58_26 : am_fe 58 26 = some (6, some .boolean, .iload_n 3) := by decide +kernel
theorem fe_58_27 : am_fe 58 27 = some (6, some .boolean, .ifCond .eq 9) := by decide +kernel
theorem fe_58_30 : am_fe 58 30 = some (6, some .boolean, .aload_n 0) := by decide +kernel
theorem fe_58_31 : am_fe 58 31 = some (6, some .boolean, .bipush (-22)) := by decide +kernel
theorem fe_58_33 : am_fe 58 33 = some (6, some .boolean, .invokevirtual 55) := by decide +kernel
theorem fe_58_36 : am_fe 58 36 = some (6, some .boolean, .aload_n 1) := by decide +kernel
theorem fe_58_37 : am_fe 58 37 = some (6, some .boolean, .ldc 69) := by decide +kernel
theorem fe_58_39 : am_fe 58 39 = some (6, some .boolean, .invokevirtual 71) := by decide +kernel
theorem fe_58_42 : am_fe 58 42 = some (6, some .boolean, .istore_n 3) := by decide +kernel
theorem fe_58_43 : am_fe 58 43 = some (6, some .boolean, .iload_n 3) := by decide +kernel
theorem fe_58_44 : am_fe 58 44 = some (6, some .boolean, .ifCond .ne 29) := by decide +kernel
theorem fe_58_47 : am_fe 58 47 = some (6, some .boolean, .iload 4) := by decide +kernel
theorem fe_58_49 : am_fe 58 49 = some (6, some .boolean, .ifCond .eq 9) := by decide +kernel
theorem fe_58_52 : am_fe 58 52 = some (6, some .boolean, .aload_n 0) := by decide +kernel
theorem fe_58_53 : am_fe 58 53 = some (6, some .boolean, .bipush (-23)) := by decide +kernel
theorem fe_58_55 : am_fe 58 55 = some (6, some .boolean, .invokevirtual 55) := by decide +kernel
theorem fe_58_58 : am_fe 58 58 = some (6, some .boolean, .aload_n 1) := by decide +kernel
theorem fe_58_59 : am_fe 58 59 = some (6, some .boolean, .ldc 75) := by decide +kernel
theorem fe_58_61 : am_fe 58 61 = some (6, some .boolean, .invokevirtual 71) := by decide +kernel
theorem fe_58_64 : am_fe 58 64 = some (6, some .boolean, .istore 4) := by decide +kernel
theorem fe_58_66 : am_fe 58 66 = some (6, some .boolean, .iload 4) := by decide +kernel
theorem fe_58_68 : am_fe 58 68 = some (6, some .boolean, .ifCond .ne 5) := by decide +kernel
theorem fe_58_71 : am_fe 58 71 = some (6, some .boolean, .iconst 1) := by decide +kernel
theorem fe_58_72 : am_fe 58 72 = some (6, some .boolean, .ireturn) := by decide +kernel
theorem fe_58_73 : am_fe 58 73 = some (6, some .boolean, .iinc 5 1) := by decide +kernel
theorem fe_58_76 : am_fe 58 76 = some (6, some .boolean, .goto (-68)) := by decide +kernel
theorem fe_58_79 : am_fe 58 79 = some (6, some .boolean, .aload_n 1) := by decide +kernel
theorem fe_58_80 : am_fe 58 80 = some (6, some .boolean, .aload_n 1) := by decide +kernel
theorem fe_58_81 : am_fe 58 81 = some (6, some .boolean, .getfield 77) := by decide +kernel
theorem fe_58_84 : am_fe 58 84 = some (6, some .boolean, .iconst 3) := by decide +kernel
theorem fe_58_85 : am_fe 58 85 = some (6, some .boolean, .invokevirtual 47) := by decide +kernel
theorem fe_58_88 : am_fe 58 88 = some (6, some .boolean, .ireturn) := by decide +kernel
theorem fe_59_0 : am_fe 59 0 = some (6, some .boolean, .aload_n 1) := by decide +kernel
theorem fe_59_1 : am_fe 59 1 = some (6, some .boolean, .invokevirtual 80) := by decide +kernel
theorem fe_59_4 : am_fe 59 4 = some (6, some .boolean, .bipush 91) := by decide +kernel
theorem fe_59_6 : am_fe 59 6 = some (6, some .boolean, .if_icmp .ne 10) := by decide +kernel
theorem fe_59_9 : am_fe 59 9 = some (6, some .boolean, .aload_n 0) := by decide +kernel
theorem fe_59_10 : am_fe 59 10 = some (6, some .boolean, .aload_n 1) := by decide +kernel
theorem fe_59_11 : am_fe 59 11 = some (6, some .boolean, .iload_n 2) := by decide +kernel
theorem fe_59_12 : am_fe 59 12 = some (6, some .boolean, .invokevirtual 84) := by decide +kernel
theorem fe_59_15 : am_fe 59 15 = some (6, some .boolean, .ireturn) := by decide +kernel
theorem fe_59_16 : am_fe 59 16 = some (6, some .boolean, .aload_n 1) := by decide +kernel
theorem fe_59_17 : am_fe 59 17 = some (6, some .boolean, .ldc 87) := by decide +kernel
theorem fe_59_19 : am_fe 59 19 = some (6, some .boolean, .invokevirtual 71) := by decide +kernel
theorem fe_59_22 : am_fe 59 22 = some (6, some .boolean, .ifCond .eq 40) := by decide +kernel
theorem fe_59_25 : am_fe 59 25 = some (6, some .boolean, .iload_n 2) := by decide +kernel
theorem fe_59_26 : am_fe 59 26 = some (6, some .boolean, .bipush 10) := by decide +kernel
theorem fe_59_28 : am_fe 59 28 = some (6, some .boolean, .if_icmp .lt 13) := by decide +kernel
theorem fe_59_31 : am_fe 59 31 = some (6, some .boolean, .aload_n 1) := by decide +kernel
theorem fe_59_32 : am_fe 59 32 = some (6, some .boolean, .aload_n 1) := by decide +kernel
theorem fe_59_33 : am_fe 59 33 = some (6, some .boolean, .getfield 44) := by decide +kernel
theorem fe_59_36 : am_fe 59 36 = some (6, some .boolean, .iconst 2) := by decide +kernel
theorem fe_59_37 : am_fe 59 37 = some (6, some .boolean, .invokevirtual 47) := by decide +kernel
theorem fe_59_40 : am_fe 59 40 = some (6, some .boolean, .ireturn) := by decide +kernel
theorem fe_59_41 : am_fe 59 41 = some (6, some .boolean, .aload_n 0) := by decide +kernel
theorem fe_59_42 : am_fe 59 42 = some (6, some .boolean, .aload_n 1) := by decide +kernel
theorem fe_59_43 : am_fe 59 43 = some (6, some .boolean, .iload_n 2) := by decide +kernel
theorem fe_59_44 : am_fe 59 44 = some (6, some .boolean, .iconst 1) := by decide +kernel
theorem fe_59_45 : am_fe 59 45 = some (6, some .boolean, .iadd) := by decide +kernel
theorem fe_59_46 : am_fe 59 46 = some (6, some .boolean, .invokevirtual 66) := by decide +kernel
theorem fe_59_49 : am_fe 59 49 = some (6, some .boolean, .ifCond .ne 5) := by decide +kernel
theorem fe_59_52 : am_fe 59 52 = some (6, some .boolean, .iconst 0) := by decide +kernel
theorem fe_59_53 : am_fe 59 53 = some (6, some .boolean, .ireturn) := by decide +kernel
theorem fe_59_54 : am_fe 59 54 = some (6, some .boolean, .aload_n 0) := by decide +kernel
theorem fe_59_55 : am_fe 59 55 = some (6, some .boolean, .bipush (-24)) := by decide +kernel
theorem fe_59_57 : am_fe 59 57 = some (6, some .boolean, .invokevirtual 55) := by decide +kernel
theorem fe_59_60 : am_fe 59 60 = some (6, some .boolean, .iconst 1) := by decide +kernel
theorem fe_59_61 : am_fe 59 61 = some (6, some .boolean, .ireturn) := by decide +kernel
theorem fe_59_62 : am_fe 59 62 = some (6, some .boolean, .aload_n 0) := by decide +kernel
theorem fe_59_63 : am_fe 59 63 = some (6, some .boolean, .aload_n 1) := by decide +kernel
theorem fe_59_64 : am_fe 59 64 = some (6, some .boolean, .invokevirtual 89) := by decide +kernel
theorem fe_59_67 : am_fe 59 67 = some (6, some .boolean, .ifCond .ne 5) := by decide +kernel
theorem fe_59_70 : am_fe 59 70 = some (6, some .boolean, .iconst 0) := by decide +kernel
theorem fe_59_71 : am_fe 59 71 = some (6, some .boolean, .ireturn) := by decide +kernel
theorem fe_59_72 : am_fe 59 72 = some (6, some .boolean, .aload_n 0) := by decide +kernel
theorem fe_59_73 : am_fe 59 73 = some (6, some .boolean, .aload_n 1) := by decide +kernel
theorem fe_59_74 : am_fe 59 74 = some (6, some .boolean, .invokevirtual 93) := by decide +kernel
theorem fe_59_77 : am_fe 59 77 = some (6, some .boolean, .istore_n 3) := by decide +kernel
theorem fe_59_78 : am_fe 59 78 = some (6, some .boolean, .iload_n 3) := by decide +kernel
theorem fe_59_79 : am_fe 59 79 = some (6, some .boolean, .iconst (-1)) := by decide +kernel
theorem fe_59_80 : am_fe 59 80 = some (6, some .boolean, .if_icmp .eq 11) := by decide +kernel
theorem fe_59_83 : am_fe 59 83 = some (6, some .boolean, .aload_n 0) := by decide +kernel
theorem fe_59_84 : am_fe 59 84 = some (6, some .boolean, .aload_n 1) := by decide +kernel
theorem fe_59_85 : am_fe 59 85 = some (6, some .boolean, .invokevirtual 89) := by decide +kernel
theorem fe_59_88 : am_fe 59 88 = some (6, some .boolean, .ifCond .ne 5) := by decide +kernel
theorem fe_59_91 : am_fe 59 91 = some (6, some .boolean, .iconst 0) := by decide +kernel
theorem fe_59_92 : am_fe 59 92 = some (6, some .boolean, .ireturn) := by decide +kernel
theorem fe_59_93 : am_fe 59 93 = some (6, some .boolean, .aload_n 0) := by decide +kernel
theorem fe_59_94 : am_fe 59 94 = some (6, some .boolean, .iload_n 3) := by decide +kernel
theorem fe_59_95 : am_fe 59 95 = some (6, some .boolean, .invokevirtual 55) := by decide +kernel
theorem fe_59_98 : am_fe 59 98 = some (6, some .boolean, .iconst 1) := by decide +kernel
theorem fe_59_99 : am_fe 59 99 = some (6, some .boolean, .ireturn) := by decide +kernel
theorem fe_60_0 : am_fe 60 0 = some (6, some .boolean, .iload_n 2) := by decide +kernel
theorem fe_60_1 : am_fe 60 1 = some (6, some .boolean, .bipush 10) := by decide +kernel
theorem fe_60_3 : am_fe 60 3 = some (6, some .boolean, .if_icmp .lt 13) := by decide +kernel
theorem fe_60_6 : am_fe 60 6 = some (6, some .boolean, .aload_n 1) := by decide +kernel
theorem fe_60_7 : am_fe 60 7 = some (6, some .boolean, .aload_n 1) := by decide +kernel
theorem fe_60_8 : am_fe 60 8 = some (6, some .boolean, .getfield 77) := by decide +kernel
theorem fe_60_11 : am_fe 60 11 = some (6, some .boolean, .iconst 2) := by decide +kernel
theorem fe_60_12 : am_fe 60 12 = some (6, some .boolean, .invokevirtual 47) := by decide +kernel
theorem fe_60_15 : am_fe 60 15 = some (6, some .boolean, .ireturn) := by decide +kernel
theorem fe_60_16 : am_fe 60 16 = some (6, some .boolean, .aload_n 1) := by decide +kernel
theorem fe_60_17 : am_fe 60 17 = some (6, some .boolean, .dup) := by decide +kernel
theorem fe_60_18 : am_fe 60 18 = some (6, some .boolean, .getfield 77) := by decide +kernel
theorem fe_60_21 : am_fe 60 21 = some (6, some .boolean, .iconst 1) := by decide +kernel
theorem fe_60_22 : am_fe 60 22 = some (6, some .boolean, .iadd) := by decide +kernel
theorem fe_60_23 : am_fe 60 23 = some (6, some .boolean, .putfield 77) := by decide +kernel
theorem fe_60_26 : am_fe 60 26 = some (6, some .boolean, .aload_n 0) := by decide +kernel
theorem fe_60_27 : am_fe 60 27 = some (6, some .boolean, .aload_n 1) := by decide +kernel
theorem fe_60_28 : am_fe 60 28 = some (6, some .boolean, .iload_n 2) := by decide +kernel
theorem fe_60_29 : am_fe 60 29 = some (6, some .boolean, .iconst 1) := by decide +kernel
theorem fe_60_30 : am_fe 60 30 = some (6, some .boolean, .iadd) := by decide +kernel
theorem fe_60_31 : am_fe 60 31 = some (6, some .boolean, .invokevirtual 51) := by decide +kernel
theorem fe_60_34 : am_fe 60 34 = some (6, some .boolean, .ifCond .ne 5) := by decide +kernel
theorem fe_60_37 : am_fe 60 37 = some (6, some .boolean, .iconst 0) := by decide +kernel
theorem fe_60_38 : am_fe 60 38 = some (6, some .boolean, .ireturn) := by decide +kernel
theorem fe_60_39 : am_fe 60 39 = some (6, some .boolean, .aload_n 1) := by decide +kernel
theorem fe_60_40 : am_fe 60 40 = some (6, some .boolean, .invokevirtual 80) := by decide +kernel
theorem fe_60_43 : am_fe 60 43 = some (6, some .boolean, .bipush 93) := by decide +kernel
theorem fe_60_45 : am_fe 60 45 = some (6, some .boolean, .if_icmp .eq 13) := by decide +kernel
theorem fe_60_48 : am_fe 60 48 = some (6, some .boolean, .aload_n 1) := by decide +kernel
theorem fe_60_49 : am_fe 60 49 = some (6, some .boolean, .aload_n 1) := by decide +kernel
theorem fe_60_50 : am_fe 60 50 = some (6, some .boolean, .getfield 77) := by decide +kernel
theorem fe_60_53 : am_fe 60 53 = some (6, some .boolean, .iconst 0) := by decide +kernel
theorem fe_60_54 : am_fe 60 54 = some (6, some .boolean, .invokevirtual 47) := by decide +kernel
theorem fe_60_57 : am_fe 60 57 = some (6, some .boolean, .ireturn) := by decide +kernel
theorem fe_60_58 : am_fe 60 58 = some (6, some .boolean, .aload_n 1) := by decide +kernel
theorem fe_60_59 : am_fe 60 59 = some (6, some .boolean, .dup) := by decide +kernel
theorem fe_60_60 : am_fe 60 60 = some (6, some .boolean, .getfield 77) := by decide +kernel
theorem fe_60_63 : am_fe 60 63 = some (6, some .boolean, .iconst 1) := by decide +kernel
theorem fe_60_64 : am_fe 60 64 = some (6, some .boolean, .iadd) := by decide +kernel
theorem fe_60_65 : am_fe 60 65 = some (6, some .boolean, .putfield 77) := by decide +kernel
theorem fe_60_68 : am_fe 60 68 = some (6, some .boolean, .iconst 1) := by decide +kernel
theorem fe_60_69 : am_fe 60 69 = some (6, some .boolean, .ireturn) := by decide +kernel
theorem fe_61_0 : am_fe 61 0 = some (8, some .boolean, .aload_n 0) := by decide +kernel
theorem fe_61_1 : am_fe 61 1 = some (8, some .boolean, .invokevirtual 28) := by decide +kernel
theorem fe_61_4 : am_fe 61 4 = some (8, some .boolean, .pop) := by decide +kernel
theorem fe_61_5 : am_fe 61 5 = some (8, some .boolean, .aload_n 0) := by decide +kernel
theorem fe_61_6 : am_fe 61 6 = some (8, some .boolean, .aload_n 1) := by decide +kernel
theorem fe_61_7 : am_fe 61 7 = some (8, some .boolean, .iconst 0) := by decide +kernel
theorem fe_61_8 : am_fe 61 8 = some (8, some .boolean, .aload_n 1) := by decide +kernel
theorem fe_61_9 : am_fe 61 9 = some (8, some .boolean, .invokevirtual 43) := by decide +kernel
theorem fe_61_12 : am_fe 61 12 = some (8, some .boolean, .invokevirtual 51) := by decide +kernel
theorem fe_61_15 : am_fe 61 15 = some (8, some .boolean, .ifCond .ne 5) := by decide +kernel
theorem fe_61_18 : am_fe 61 18 = some (8, some .boolean, .iconst 0) := by decide +kernel
theorem fe_61_19 : am_fe 61 19 = some (8, some .boolean, .ireturn) := by decide +kernel
theorem fe_61_20 : am_fe 61 20 = some (8, some .boolean, .aload_n 0) := by decide +kernel
theorem fe_61_21 : am_fe 61 21 = some (8, some .boolean, .aload_n 0) := by decide +kernel
theorem fe_61_22 : am_fe 61 22 = some (8, some .boolean, .getfield 19) := by decide +kernel
theorem fe_61_25 : am_fe 61 25 = some (8, some .boolean, .putfield 22) := by decide +kernel
theorem fe_61_28 : am_fe 61 28 = some (8, some .boolean, .aload_n 0) := by decide +kernel
theorem fe_61_29 : am_fe 61 29 = some (8, some .boolean, .dup) := by decide +kernel
theorem fe_61_30 : am_fe 61 30 = some (8, some .boolean, .getfield 19) := by decide +kernel
theorem fe_61_33 : am_fe 61 33 = some (8, some .boolean, .aload_n 1) := by decide +kernel
theorem fe_61_34 : am_fe 61 34 = some (8, some .boolean, .invokevirtual 43) := by decide +kernel
theorem fe_61_37 : am_fe 61 37 = some (8, some .boolean, .iadd) := by decide +kernel
theorem fe_61_38 : am_fe 61 38 = some (8, some .boolean, .putfield 19) := by decide +kernel
theorem fe_61_41 : am_fe 61 41 = some (8, some .boolean, .iconst 1) := by decide +kernel
theorem fe_61_42 : am_fe 61 42 = some (8, some .boolean, .ireturn) := by decide +kernel
theorem fe_62_0 : am_fe 62 0 = some (6, none, .aload_n 0) := by decide +kernel
theorem fe_62_1 : am_fe 62 1 = some (6, none, .getfield 15) := by decide +kernel
theorem fe_62_4 : am_fe 62 4 = some (6, none, .aload_n 0) := by decide +kernel
theorem fe_62_5 : am_fe 62 5 = some (6, none, .getfield 9) := by decide +kernel
theorem fe_62_8 : am_fe 62 8 = some (6, none, .arraylength) := by decide +kernel
theorem fe_62_9 : am_fe 62 9 = some (6, none, .if_icmp .ge 23) := by decide +kernel
theorem fe_62_12 : am_fe 62 12 = some (6, none, .aload_n 0) := by decide +kernel
theorem fe_62_13 : am_fe 62 13 = some (6, none, .getfield 9) := by decide +kernel
theorem fe_62_16 : am_fe 62 16 = some (6, none, .aload_n 0) := by decide +kernel
theorem fe_62_17 : am_fe 62 17 = some (6, none, .getfield 15) := by decide +kernel
theorem fe_62_20 : am_fe 62 20 = some (6, none, .iload_n 1) := by decide +kernel
theorem fe_62_21 : am_fe 62 21 = some (6, none, .iastore) := by decide +kernel
theorem fe_62_22 : am_fe 62 22 = some (6, none, .aload_n 0) := by decide +kernel
theorem fe_62_23 : am_fe 62 23 = some (6, none, .dup) := by decide +kernel
theorem fe_62_24 : am_fe 62 24 = some (6, none, .getfield 15) := by decide +kernel
theorem fe_62_27 : am_fe 62 27 = some (6, none, .iconst 1) := by decide +kernel
theorem fe_62_28 : am_fe 62 28 = some (6, none, .iadd) := by decide +kernel
theorem fe_62_29 : am_fe 62 29 = some (6, none, .putfield 15) := by decide +kernel
theorem fe_62_32 : am_fe 62 32 = some (6, none, .return_) := by decide +kernel
theorem fe_63_0 : am_fe 63 0 = some (6, some .boolean, .iconst 0) := by decide +kernel
theorem fe_63_1 : am_fe 63 1 = some (6, some .boolean, .istore_n 2) := by decide +kernel
theorem fe_63_2 : am_fe 63 2 = some (6, some .boolean, .iconst 0) := by decide +kernel
theorem fe_63_3 : am_fe 63 3 = some (6, some .boolean, .istore_n 3) := by decide +kernel
theorem fe_63_4 : am_fe 63 4 = some (6, some .boolean, .iconst 0) := by decide +kernel
theorem fe_63_5 : am_fe 63 5 = some (6, some .boolean, .istore 4) := by decide +kernel
theorem fe_63_7 : am_fe 63 7 = some (6, some .boolean, .iload 4) := by decide +kernel
theorem fe_63_9 : am_fe 63 9 = some (6, some .boolean, .bipush 60) := by decide +kernel
theorem fe_63_11 : am_fe 63 11 = some (6, some .boolean, .if_icmp .gt 73) := by decide +kernel
theorem fe_63_14 : am_fe 63 14 = some (6, some .boolean, .aload_n 0) := by decide +kernel
theorem fe_63_15 : am_fe 63 15 = some (6, some .boolean, .aload_n 1) := by decide +kernel
theorem fe_63_16 : am_fe 63 16 = some (6, some .boolean, .invokevirtual 104) := by decide +kernel
theorem fe_63_19 : am_fe 63 19 = some (6, some .boolean, .ifCond .ne 5) := by decide +kernel
theorem fe_63_22 : am_fe 63 22 = some (6, some .boolean, .iconst 0) := by decide +kernel
theorem fe_63_23 : am_fe 63 23 = some (6, some .boolean, .ireturn) := by decide +kernel
theorem fe_63_24 : am_fe 63 24 = some (6, some .boolean, .iload_n 3) := by decide +kernel
theorem fe_63_25 : am_fe 63 25 = some (6, some .boolean, .ifCond .eq 8) := by decide +kernel
theorem fe_63_28 : am_fe 63 28 = some (6, some .boolean, .aload_n 0) := by decide +kernel
theorem fe_63_29 : am_fe 63 29 = some (6, some .boolean, .iload_n 3) := by decide +kernel
theorem fe_63_30 : am_fe 63 30 = some (6, some .boolean, .invokevirtual 55) := by decide +kernel
theorem fe_63_33 : am_fe 63 33 = some (6, some .boolean, .aload_n 1) := by decide +kernel
theorem fe_63_34 : am_fe 63 34 = some (6, some .boolean, .invokevirtual 80) := by decide +kernel
theorem fe_63_37 : am_fe 63 37 = some (6, some .boolean, .invokestatic 107) := by decide +kernel
theorem fe_63_40 : am_fe 63 40 = some (6, some .boolean, .istore_n 3) := by decide +kernel
theorem fe_63_41 : am_fe 63 41 = some (6, some .boolean, .iload_n 3) := by decide +kernel
theorem fe_63_42 : am_fe 63 42 = some (6, some .boolean, .ifCond .ne 26) := by decide +kernel
theorem fe_63_45 : am_fe 63 45 = some (6, some .boolean, .iload_n 2) := by decide +kernel
theorem fe_63_46 : am_fe 63 46 = some (6, some .boolean, .ifCond .eq 8) := by decide +kernel
theorem fe_63_49 : am_fe 63 49 = some (6, some .boolean, .aload_n 0) := by decide +kernel
theorem fe_63_50 : am_fe 63 50 = some (6, some .boolean, .iload_n 2) := by decide +kernel
theorem fe_63_51 : am_fe 63 51 = some (6, some .boolean, .invokevirtual 55) := by decide +kernel
theorem fe_63_54 : am_fe 63 54 = some (6, some .boolean, .aload_n 1) := by decide +kernel
theorem fe_63_55 : am_fe 63 55 = some (6, some .boolean, .invokevirtual 80) := by decide +kernel
theorem fe_63_58 : am_fe 63 58 = some (6, some .boolean, .invokestatic 111) := by decide +kernel
theorem fe_63_61 : am_fe 63 61 = some (6, some .boolean, .istore_n 2) := by decide +kernel
theorem fe_63_62 : am_fe 63 62 = some (6, some .boolean, .iload_n 2) := by decide +kernel
theorem fe_63_63 : am_fe 63 63 = some (6, some .boolean, .ifCond .ne 5) := by decide +kernel
theorem fe_63_66 : am_fe 63 66 = some (6, some .boolean, .iconst 1) := by decide +kernel
theorem fe_63_67 : am_fe 63 67 = some (6, some .boolean, .ireturn) := by decide +kernel
theorem fe_63_68 : am_fe 63 68 = some (6, some .boolean, .aload_n 1) := by decide +kernel
theorem fe_63_69 : am_fe 63 69 = some (6, some .boolean, .dup) := by decide +kernel
theorem fe_63_70 : am_fe 63 70 = some (6, some .boolean, .getfield 77) := by decide +kernel
theorem fe_63_73 : am_fe 63 73 = some (6, some .boolean, .iconst 1) := by decide +kernel
theorem fe_63_74 : am_fe 63 74 = some (6, some .boolean, .iadd) := by decide +kernel
theorem fe_63_75 : am_fe 63 75 = some (6, some .boolean, .putfield 77) := by decide +kernel
theorem fe_63_78 : am_fe 63 78 = some (6, some .boolean, .iinc 4 1) := by decide +kernel
theorem fe_63_81 : am_fe 63 81 = some (6, some .boolean, .goto (-74)) := by decide +kernel
theorem fe_63_84 : am_fe 63 84 = some (6, some .boolean, .aload_n 1) := by decide +kernel
theorem fe_63_85 : am_fe 63 85 = some (6, some .boolean, .aload_n 1) := by decide +kernel
theorem fe_63_86 : am_fe 63 86 = some (6, some .boolean, .getfield 77) := by decide +kernel
theorem fe_63_89 : am_fe 63 89 = some (6, some .boolean, .iconst 3) := by decide +kernel
theorem fe_63_90 : am_fe 63 90 = some (6, some .boolean, .invokevirtual 47) := by decide +kernel
theorem fe_63_93 : am_fe 63 93 = some (6, some .boolean, .ireturn) := by decide +kernel
theorem fe_64_0 : am_fe 64 0 = some (6, some .boolean, .aload_n 1) := by decide +kernel
theorem fe_64_1 : am_fe 64 1 = some (6, some .boolean, .invokevirtual 80) := by decide +kernel
theorem fe_64_4 : am_fe 64 4 = some (6, some .boolean, .istore_n 2) := by decide +kernel
theorem fe_64_5 : am_fe 64 5 = some (6, some .boolean, .iload_n 2) := by decide +kernel
theorem fe_64_6 : am_fe 64 6 = some (6, some .boolean, .bipush 48) := by decide +kernel
theorem fe_64_8 : am_fe 64 8 = some (6, some .boolean, .if_icmp .lt 21) := by decide +kernel
theorem fe_64_11 : am_fe 64 11 = some (6, some .boolean, .iload_n 2) := by decide +kernel
theorem fe_64_12 : am_fe 64 12 = some (6, some .boolean, .bipush 57) := by decide +kernel
theorem fe_64_14 : am_fe 64 14 = some (6, some .boolean, .if_icmp .gt 15) := by decide +kernel
theorem fe_64_17 : am_fe 64 17 = some (6, some .boolean, .aload_n 1) := by decide +kernel
theorem fe_64_18 : am_fe 64 18 = some (6, some .boolean, .invokevirtual 114) := by decide +kernel
theorem fe_64_21 : am_fe 64 21 = some (6, some .boolean, .istore_n 3) := by decide +kernel
theorem fe_64_22 : am_fe 64 22 = some (6, some .boolean, .iload_n 3) := by decide +kernel
theorem fe_64_23 : am_fe 64 23 = some (6, some .boolean, .iconst (-1)) := by decide +kernel
theorem fe_64_24 : am_fe 64 24 = some (6, some .boolean, .if_icmp .ne 26) := by decide +kernel
theorem fe_64_27 : am_fe 64 27 = some (6, some .boolean, .iconst 0) := by decide +kernel
theorem fe_64_28 : am_fe 64 28 = some (6, some .boolean, .ireturn) := by decide +kernel
theorem fe_64_29 : am_fe 64 29 = some (6, some .boolean, .aload_n 1) := by decide +kernel
theorem fe_64_30 : am_fe 64 30 = some (6, some .boolean, .ldc 117) := by decide +kernel
theorem fe_64_32 : am_fe 64 32 = some (6, some .boolean, .invokevirtual 40) := by decide +kernel
theorem fe_64_35 : am_fe 64 35 = some (6, some .boolean, .istore 4) := by decide +kernel
theorem fe_64_37 : am_fe 64 37 = some (6, some .boolean, .iload 4) := by decide +kernel
theorem fe_64_39 : am_fe 64 39 = some (6, some .boolean, .iconst (-1)) := by decide +kernel
theorem fe_64_40 : am_fe 64 40 = some (6, some .boolean, .if_icmp .ne 5) := by decide +kernel
theorem fe_64_43 : am_fe 64 43 = some (6, some .boolean, .iconst 0) := by decide +kernel
theorem fe_64_44 : am_fe 64 44 = some (6, some .boolean, .ireturn) := by decide +kernel
theorem fe_64_45 : am_fe 64 45 = some (6, some .boolean, .iconst (-1)) := by decide +kernel
theorem fe_64_46 : am_fe 64 46 = some (6, some .boolean, .iload 4) := by decide +kernel
theorem fe_64_48 : am_fe 64 48 = some (6, some .boolean, .isub) := by decide +kernel
theorem fe_64_49 : am_fe 64 49 = some (6, some .boolean, .istore_n 3) := by decide +kernel
theorem fe_64_50 : am_fe 64 50 = some (6, some .boolean, .aload_n 0) := by decide +kernel
theorem fe_64_51 : am_fe 64 51 = some (6, some .boolean, .aload_n 1) := by decide +kernel
theorem fe_64_52 : am_fe 64 52 = some (6, some .boolean, .aload_n 1) := by decide +kernel
theorem fe_64_53 : am_fe 64 53 = some (6, some .boolean, .getfield 44) := by decide +kernel
theorem fe_64_56 : am_fe 64 56 = some (6, some .boolean, .invokevirtual 97) := by decide +kernel
theorem fe_64_59 : am_fe 64 59 = some (6, some .boolean, .ifCond .ne 5) := by decide +kernel
theorem fe_64_62 : am_fe 64 62 = some (6, some .boolean, .iconst 0) := by decide +kernel
theorem fe_64_63 : am_fe 64 63 = some (6, some .boolean, .ireturn) := by decide +kernel
theorem fe_64_64 : am_fe 64 64 = some (6, some .boolean, .aload_n 0) := by decide +kernel
theorem fe_64_65 : am_fe 64 65 = some (6, some .boolean, .iload_n 3) := by decide +kernel
theorem fe_64_66 : am_fe 64 66 = some (6, some .boolean, .invokevirtual 55) := by decide +kernel
theorem fe_64_69 : am_fe 64 69 = some (6, some .boolean, .iconst 1) := by decide +kernel
theorem fe_64_70 : am_fe 64 70 = some (6, some .boolean, .ireturn) := by decide +kernel
theorem fe_65_0 : am_fe 65 0 = some (6, some .boolean, .aload_n 0) := by decide +kernel
theorem fe_65_1 : am_fe 65 1 = some (6, some .boolean, .getfield 19) := by decide +kernel
theorem fe_65_4 : am_fe 65 4 = some (6, some .boolean, .bipush 60) := by decide +kernel
theorem fe_65_6 : am_fe 65 6 = some (6, some .boolean, .if_icmp .lt 10) := by decide +kernel
theorem fe_65_9 : am_fe 65 9 = some (6, some .boolean, .aload_n 1) := by decide +kernel
theorem fe_65_10 : am_fe 65 10 = some (6, some .boolean, .iload_n 2) := by decide +kernel
theorem fe_65_11 : am_fe 65 11 = some (6, some .boolean, .iconst 3) := by decide +kernel
theorem fe_65_12 : am_fe 65 12 = some (6, some .boolean, .invokevirtual 47) := by decide +kernel
theorem fe_65_15 : am_fe 65 15 = some (6, some .boolean, .ireturn) := by decide +kernel
theorem fe_65_16 : am_fe 65 16 = some (6, some .boolean, .aload_n 0) := by decide +kernel
theorem fe_65_17 : am_fe 65 17 = some (6, some .boolean, .dup) := by decide +kernel
theorem fe_65_18 : am_fe 65 18 = some (6, some .boolean, .getfield 19) := by decide +kernel
theorem fe_65_21 : am_fe 65 21 = some (6, some .boolean, .iconst 1) := by decide +kernel
theorem fe_65_22 : am_fe 65 22 = some (6, some .boolean, .iadd) := by decide +kernel
theorem fe_65_23 : am_fe 65 23 = some (6, some .boolean, .putfield 19) := by decide +kernel
theorem fe_65_26 : am_fe 65 26 = some (6, some .boolean, .iconst 1) := by decide +kernel
theorem fe_65_27 : am_fe 65 27 = some (6, some .boolean, .ireturn) := by decide +kernel
theorem fe_66_0 : am_fe 66 0 = some (6, some .int, .iload_n 0) := by decide +kernel
theorem fe_66_1 : am_fe 66 1 = some (6, some .int, .lookupswitch 44 #[(37, 41), (42, 35), (47, 38)]) := by decide +kernel
theorem fe_66_36 : am_fe 66 36 = some (6, some .int, .bipush (-14)) := by decide +kernel
theorem fe_66_38 : am_fe 66 38 = some (6, some .int, .ireturn) := by decide +kernel
theorem fe_66_39 : am_fe 66 39 = some (6, some .int, .bipush (-15)) := by decide +kernel
theorem fe_66_41 : am_fe 66 41 = some (6, some .int, .ireturn) := by decide +kernel
theorem fe_66_42 : am_fe 66 42 = some (6, some .int, .bipush (-16)) := by decide +kernel
theorem fe_66_44 : am_fe 66 44 = some (6, some .int, .ireturn) := by decide +kernel
theorem fe_66_45 : am_fe 66 45 = some (6, some .int, .iconst 0) := by decide +kernel
theorem fe_66_46 : am_fe 66 46 = some (6, some .int, .ireturn) := by decide +kernel
theorem fe_67_0 : am_fe 67 0 = some (6, some .int, .iload_n 0) := by decide +kernel
theorem fe_67_1 : am_fe 67 1 = some (6, some .int, .lookupswitch 33 #[(43, 27), (45, 30)]) := by decide +kernel
theorem fe_67_28 : am_fe 67 28 = some (6, some .int, .bipush (-12)) := by decide +kernel
theorem fe_67_30 : am_fe 67 30 = some (6, some .int, .ireturn) := by decide +kernel
theorem fe_67_31 : am_fe 67 31 = some (6, some .int, .bipush (-13)) := by decide +kernel
theorem fe_67_33 : am_fe 67 33 = some (6, some .int, .ireturn) := by decide +kernel
theorem fe_67_34 : am_fe 67 34 = some (6, some .int, .iconst 0) := by decide +kernel
theorem fe_67_35 : am_fe 67 35 = some (6, some .int, .ireturn) := by decide +kernel
theorem fe_68_0 : am_fe 68 0 = some (6, some .int, .aload_n 1) := by decide +kernel
theorem fe_68_1 : am_fe 68 1 = some (6, some .int, .invokevirtual 80) := by decide +kernel
theorem fe_68_4 : am_fe 68 4 = some (6, some .int, .istore_n 2) := by decide +kernel
theorem fe_68_5 : am_fe 68 5 = some (6, some .int, .aload_n 1) := by decide +kernel
theorem fe_68_6 : am_fe 68 6 = some (6, some .int, .getfield 77) := by decide +kernel
theorem fe_68_9 : am_fe 68 9 = some (6, some .int, .istore_n 3) := by decide +kernel
theorem fe_68_10 : am_fe 68 10 = some (6, some .int, .iload_n 2) := by decide +kernel
theorem fe_68_11 : am_fe 68 11 = some (6, some .int, .bipush 60) := by decide +kernel
theorem fe_68_13 : am_fe 68 13 = some (6, some .int, .if_icmp .eq 24) := by decide +kernel
theorem fe_68_16 : am_fe 68 16 = some (6, some .int, .iload_n 2) := by decide +kernel
theorem fe_68_17 : am_fe 68 17 = some (6, some .int, .bipush 61) := by decide +kernel
theorem fe_68_19 : am_fe 68 19 = some (6, some .int, .if_icmp .eq 18) := by decide +kernel
theorem fe_68_22 : am_fe 68 22 = some (6, some .int, .iload_n 2) := by decide +kernel
theorem fe_68_23 : am_fe 68 23 = some (6, some .int, .bipush 62) := by decide +kernel
theorem fe_68_25 : am_fe 68 25 = some (6, some .int, .if_icmp .eq 12) := by decide +kernel
theorem fe_68_28 : am_fe 68 28 = some (6, some .int, .aload_n 1) := by decide +kernel
theorem fe_68_29 : am_fe 68 29 = some (6, some .int, .iload_n 3) := by decide +kernel
theorem fe_68_30 : am_fe 68 30 = some (6, some .int, .iconst 0) := by decide +kernel
theorem fe_68_31 : am_fe 68 31 = some (6, some .int, .invokevirtual 47) := by decide +kernel
theorem fe_68_34 : am_fe 68 34 = some (6, some .int, .pop) := by decide +kernel
theorem fe_68_35 : am_fe 68 35 = some (6, some .int, .iconst (-1)) := by decide +kernel
theorem fe_68_36 : am_fe 68 36 = some (6, some .int, .ireturn) := by decide +kernel
theorem fe_68_37 : am_fe 68 37 = some (6, some .int, .aload_n 0) := by decide +kernel
theorem fe_68_38 : am_fe 68 38 = some (6, some .int, .aload_n 1) := by decide +kernel
theorem fe_68_39 : am_fe 68 39 = some (6, some .int, .iload_n 3) := by decide +kernel
theorem fe_68_40 : am_fe 68 40 = some (6, some .int, .invokevirtual 97) := by decide +kernel
theorem fe_68_43 : am_fe 68 43 = some (6, some .int, .ifCond .ne 5) := by decide +kernel
theorem fe_68_46 : am_fe 68 46 = some (6, some .int, .iconst (-1)) := by decide +kernel
theorem fe_68_47 : am_fe 68 47 = some (6, some .int, .ireturn) := by decide +kernel
theorem fe_68_48 : am_fe 68 48 = some (6, some .int, .aload_n 1) := by decide +kernel
theorem fe_68_49 : am_fe 68 49 = some (6, some .int, .dup) := by decide +kernel
theorem fe_68_50 : am_fe 68 50 = some (6, some .int, .getfield 77) := by decide +kernel
theorem fe_68_53 : am_fe 68 53 = some (6, some .int, .iconst 1) := by decide +kernel
theorem fe_68_54 : am_fe 68 54 = some (6, some .int, .iadd) := by decide +kernel
theorem fe_68_55 : am_fe 68 55 = some (6, some .int, .putfield 77) := by decide +kernel
theorem fe_68_58 : am_fe 68 58 = some (6, some .int, .iload_n 2) := by decide +kernel
theorem fe_68_59 : am_fe 68 59 = some (6, some .int, .bipush 61) := by decide +kernel
theorem fe_68_61 : am_fe 68 61 = some (6, some .int, .if_icmp .ne 6) := by decide +kernel
theorem fe_68_64 : am_fe 68 64 = some (6, some .int, .bipush (-19)) := by decide +kernel
theorem fe_68_66 : am_fe 68 66 = some (6, some .int, .ireturn) := by decide +kernel
theorem fe_68_67 : am_fe 68 67 = some (6, some .int, .aload_n 1) := by decide +kernel
theorem fe_68_68 : am_fe 68 68 = some (6, some .int, .getfield 77) := by decide +kernel
theorem fe_68_71 : am_fe 68 71 = some (6, some .int, .aload_n 1) := by decide +kernel
theorem fe_68_72 : am_fe 68 72 = some (6, some .int, .getfield 100) := by decide +kernel
theorem fe_68_75 : am_fe 68 75 = some (6, some .int, .if_icmp .ge 21) := by decide +kernel
theorem fe_68_78 : am_fe 68 78 = some (6, some .int, .aload_n 1) := by decide +kernel
theorem fe_68_79 : am_fe 68 79 = some (6, some .int, .getfield 101) := by decide +kernel
theorem fe_68_82 : am_fe 68 82 = some (6, some .int, .aload_n 1) := by decide +kernel
theorem fe_68_83 : am_fe 68 83 = some (6, some .int, .getfield 77) := by decide +kernel
theorem fe_68_86 : am_fe 68 86 = some (6, some .int, .iaload) := by decide +kernel
theorem fe_68_87 : am_fe 68 87 = some (6, some .int, .bipush 61) := by decide +kernel
theorem fe_68_89 : am_fe 68 89 = some (6, some .int, .if_icmp .ne 7) := by decide +kernel
theorem fe_68_92 : am_fe 68 92 = some (6, some .int, .iconst 1) := by decide +kernel
theorem fe_68_93 : am_fe 68 93 = some (6, some .int, .goto 4) := by decide +kernel
theorem fe_68_96 : am_fe 68 96 = some (6, some .int, .iconst 0) := by decide +kernel
theorem fe_68_97 : am_fe 68 97 = some (6, some .int, .istore 4) := by decide +kernel
theorem fe_68_99 : am_fe 68 99 = some (6, some .int, .iload 4) := by decide +kernel
theorem fe_68_101 : am_fe 68 101 = some (6, some .int, .ifCond .eq 13) := by decide +kernel
theorem fe_68_104 : am_fe 68 104 = some (6, some .int, .aload_n 1) := by decide +kernel
theorem fe_68_105 : am_fe 68 105 = some (6, some .int, .dup) := by decide +kernel
theorem fe_68_106 : am_fe 68 106 = some (6, some .int, .getfield 77) := by decide +kernel
theorem fe_68_109 : am_fe 68 109 = some (6, some .int, .iconst 1) := by decide +kernel
theorem fe_68_110 : am_fe 68 110 = some (6, some .int, .iadd) := by decide +kernel
theorem fe_68_111 : am_fe 68 111 = some (6, some .int, .putfield 77) := by decide +kernel
theorem fe_68_114 : am_fe 68 114 = some (6, some .int, .iload_n 2) := by decide +kernel
theorem fe_68_115 : am_fe 68 115 = some (6, some .int, .bipush 60) := by decide +kernel
theorem fe_68_117 : am_fe 68 117 = some (6, some .int, .if_icmp .ne 16) := by decide +kernel
theorem fe_68_120 : am_fe 68 120 = some (6, some .int, .iload 4) := by decide +kernel
theorem fe_68_122 : am_fe 68 122 = some (6, some .int, .ifCond .eq 8) := by decide +kernel
theorem fe_68_125 : am_fe 68 125 = some (6, some .int, .bipush (-18)) := by decide +kernel
theorem fe_68_127 : am_fe 68 127 = some (6, some .int, .goto 5) := by decide +kernel
theorem fe_68_130 : am_fe 68 130 = some (6, some .int, .bipush (-17)) := by decide +kernel
theorem fe_68_132 : am_fe 68 132 = some (6, some .int, .ireturn) := by decide +kernel
theorem fe_68_133 : am_fe 68 133 = some (6, some .int, .iload 4) := by decide +kernel
theorem fe_68_135 : am_fe 68 135 = some (6, some .int, .ifCond .eq 8) := by decide +kernel
theorem fe_68_138 : am_fe 68 138 = some (6, some .int, .bipush (-20)) := by decide +kernel
theorem fe_68_140 : am_fe 68 140 = some (6, some .int, .goto 5) := by decide +kernel
theorem fe_68_143 : am_fe 68 143 = some (6, some .int, .bipush (-21)) := by decide +kernel
theorem fe_68_145 : am_fe 68 145 = some (6, some .int, .ireturn) := by decide +kernel
theorem fe_69_0 : am_fe 69 0 = some (6, some (.object "PaperRiver$Law"), .new 22) := by decide +kernel
theorem fe_69_3 : am_fe 69 3 = some (6, some (.object "PaperRiver$Law"), .dup) := by decide +kernel
theorem fe_69_4 : am_fe 69 4 = some (6, some (.object "PaperRiver$Law"), .aload_n 0) := by decide +kernel
theorem fe_69_5 : am_fe 69 5 = some (6, some (.object "PaperRiver$Law"), .getfield 9) := by decide +kernel
theorem fe_69_8 : am_fe 69 8 = some (6, some (.object "PaperRiver$Law"), .aload_n 0) := by decide +kernel
theorem fe_69_9 : am_fe 69 9 = some (6, some (.object "PaperRiver$Law"), .getfield 15) := by decide +kernel
theorem fe_69_12 : am_fe 69 12 = some (6, some (.object "PaperRiver$Law"), .invokestatic 24) := by decide +kernel
theorem fe_69_15 : am_fe 69 15 = some (6, some (.object "PaperRiver$Law"), .invokespecial 30) := by decide +kernel
theorem fe_69_18 : am_fe 69 18 = some (6, some (.object "PaperRiver$Law"), .areturn) := by decide +kernel
theorem fe_70_0 : am_fe 70 0 = some (17, some (.array .int), .iload_n 1) := by decide +kernel
theorem fe_70_1 : am_fe 70 1 = some (17, some (.array .int), .aload_n 0) := by decide +kernel
theorem fe_70_2 : am_fe 70 2 = some (17, some (.array .int), .arraylength) := by decide +kernel
theorem fe_70_3 : am_fe 70 3 = some (17, some (.array .int), .if_icmp .ne 11) := by decide +kernel
theorem fe_70_6 : am_fe 70 6 = some (17, some (.array .int), .aload_n 0) := by decide +kernel
theorem fe_70_7 : am_fe 70 7 = some (17, some (.array .int), .invokevirtual 316) := by decide +kernel
theorem fe_70_13 : am_fe 70 13 = some (17, some (.array .int), .areturn) := by decide +kernel
theorem fe_70_14 : am_fe 70 14 = some (17, some (.array .int), .iload_n 1) := by decide +kernel
theorem fe_70_15 : am_fe 70 15 = some (17, some (.array .int), .newarray .int) := by decide +kernel
theorem fe_70_17 : am_fe 70 17 = some (17, some (.array .int), .astore_n 2) := by decide +kernel
theorem fe_70_18 : am_fe 70 18 = some (17, some (.array .int), .aload_n 0) := by decide +kernel
theorem fe_70_19 : am_fe 70 19 = some (17, some (.array .int), .iconst 0) := by decide +kernel
theorem fe_70_20 : am_fe 70 20 = some (17, some (.array .int), .aload_n 2) := by decide +kernel
theorem fe_70_21 : am_fe 70 21 = some (17, some (.array .int), .iconst 0) := by decide +kernel
theorem fe_70_22 : am_fe 70 22 = some (17, some (.array .int), .aload_n 0) := by decide +kernel
theorem fe_70_23 : am_fe 70 23 = some (17, some (.array .int), .arraylength) := by decide +kernel
theorem fe_70_24 : am_fe 70 24 = some (17, some (.array .int), .iload_n 1) := by decide +kernel
theorem fe_70_25 : am_fe 70 25 = some (17, some (.array .int), .invokestatic 304) := by decide +kernel
theorem fe_70_28 : am_fe 70 28 = some (17, some (.array .int), .invokestatic 150) := by decide +kernel
theorem fe_70_31 : am_fe 70 31 = some (17, some (.array .int), .aload_n 2) := by decide +kernel
theorem fe_70_32 : am_fe 70 32 = some (17, some (.array .int), .areturn) := by decide +kernel
theorem fe_71_0 : am_fe 71 0 = some (16, some .int, .iload_n 0) := by decide +kernel
theorem fe_71_1 : am_fe 71 1 = some (16, some .int, .iload_n 1) := by decide +kernel
theorem fe_71_2 : am_fe 71 2 = some (16, some .int, .if_icmp .gt 7) := by decide +kernel
theorem fe_71_5 : am_fe 71 5 = some (16, some .int, .iload_n 0) := by decide +kernel
theorem fe_71_6 : am_fe 71 6 = some (16, some .int, .goto 4) := by decide +kernel
theorem fe_71_9 : am_fe 71 9 = some (16, some .int, .iload_n 1) := by decide +kernel
theorem fe_71_10 : am_fe 71 10 = some (16, some .int, .ireturn) := by decide +kernel
theorem fe_72_0 : am_fe 72 0 = some (1, none, .aload_n 0) := by decide +kernel
theorem fe_72_1 : am_fe 72 1 = some (1, none, .invokespecial 1) := by decide +kernel
theorem fe_72_4 : am_fe 72 4 = some (1, none, .aload_n 0) := by decide +kernel
theorem fe_72_5 : am_fe 72 5 = some (1, none, .aload_n 1) := by decide +kernel
theorem fe_72_6 : am_fe 72 6 = some (1, none, .putfield 7) := by decide +kernel
theorem fe_72_9 : am_fe 72 9 = some (1, none, .return_) := by decide +kernel
theorem fe_73_0 : am_fe 73 0 = some (11, some .int, .iload_n 1) := by decide +kernel
theorem fe_73_1 : am_fe 73 1 = some (11, some .int, .iconst (-1)) := by decide +kernel
theorem fe_73_2 : am_fe 73 2 = some (11, some .int, .if_icmp .lt 11) := by decide +kernel
theorem fe_73_5 : am_fe 73 5 = some (11, some .int, .iload_n 1) := by decide +kernel
theorem fe_73_6 : am_fe 73 6 = some (11, some .int, .aload_n 0) := by decide +kernel
theorem fe_73_7 : am_fe 73 7 = some (11, some .int, .getfield 36) := by decide +kernel
theorem fe_73_10 : am_fe 73 10 = some (11, some .int, .if_icmp .lt 6) := by decide +kernel
theorem fe_73_13 : am_fe 73 13 = some (11, some .int, .bipush (-2)) := by decide +kernel
theorem fe_73_15 : am_fe 73 15 = some (11, some .int, .ireturn) := by decide +kernel
theorem fe_73_16 : am_fe 73 16 = some (11, some .int, .aload_n 0) := by decide +kernel
theorem fe_73_17 : am_fe 73 17 = some (11, some .int, .getfield 43) := by decide +kernel
theorem fe_73_20 : am_fe 73 20 = some (11, some .int, .getfield 121) := by decide +kernel
theorem fe_73_23 : am_fe 73 23 = some (11, some .int, .istore_n 2) := by decide +kernel
theorem fe_73_24 : am_fe 73 24 = some (11, some .int, .aload_n 0) := by decide +kernel
theorem fe_73_25 : am_fe 73 25 = some (11, some .int, .getfield 43) := by decide +kernel
theorem fe_73_28 : am_fe 73 28 = some (11, some .int, .iload_n 1) := by decide +kernel
theorem fe_73_29 : am_fe 73 29 = some (11, some .int, .putfield 121) := by decide +kernel
theorem fe_73_32 : am_fe 73 32 = some (11, some .int, .iload_n 2) := by decide +kernel
theorem fe_73_33 : am_fe 73 33 = some (11, some .int, .ireturn) := by decide +kernel
theorem fe_74_0 : am_fe 74 0 = some (11, some .int, .aload_n 0) := by decide +kernel
theorem fe_74_1 : am_fe 74 1 = some (11, some .int, .iload_n 1) := by decide +kernel
theorem fe_74_2 : am_fe 74 2 = some (11, some .int, .invokevirtual 124) := by decide +kernel
theorem fe_74_5 : am_fe 74 5 = some (11, some .int, .ifCond .ne 6) := by decide +kernel
theorem fe_74_8 : am_fe 74 8 = some (11, some .int, .bipush (-2)) := by decide +kernel
theorem fe_74_10 : am_fe 74 10 = some (11, some .int, .ireturn) := by decide +kernel
theorem fe_74_11 : am_fe 74 11 = some (11, some .int, .iload_n 2) := by decide +kernel
theorem fe_74_12 : am_fe 74 12 = some (11, some .int, .tableswitch 109 0 5 #[40, 53, 66, 78, 84, 97]) := by decide +kernel
theorem fe_74_52 : am_fe 74 52 = some (11, some .int, .aload_n 0) := by decide +kernel
theorem fe_74_53 : am_fe 74 53 = some (11, some .int, .getfield 43) := by decide +kernel
theorem fe_74_56 : am_fe 74 56 = some (11, some .int, .getfield 83) := by decide +kernel
theorem fe_74_59 : am_fe 74 59 = some (11, some .int, .getfield 128) := by decide +kernel
theorem fe_74_62 : am_fe 74 62 = some (11, some .int, .iload_n 1) := by decide +kernel
theorem fe_74_63 : am_fe 74 63 = some (11, some .int, .iaload) := by decide +kernel
theorem fe_74_64 : am_fe 74 64 = some (11, some .int, .ireturn) := by decide +kernel
theorem fe_74_65 : am_fe 74 65 = some (11, some .int, .aload_n 0) := by decide +kernel
theorem fe_74_66 : am_fe 74 66 = some (11, some .int, .getfield 43) := by decide +kernel
theorem fe_74_69 : am_fe 74 69 = some (11, some .int, .getfield 83) := by decide +kernel
theorem fe_74_72 : am_fe 74 72 = some (11, some .int, .getfield 132) := by decide +kernel
theorem fe_74_75 : am_fe 74 75 = some (11, some .int, .iload_n 1) := by decide +kernel
theorem fe_74_76 : am_fe 74 76 = some (11, some .int, .iaload) := by decide +kernel
theorem fe_74_77 : am_fe 74 77 = some (11, some .int, .ireturn) := by decide +kernel
theorem fe_74_78 : am_fe 74 78 = some (11, some .int, .aload_n 0) := by decide +kernel
theorem fe_74_79 : am_fe 74 79 = some (11, some .int, .getfield 43) := by decide +kernel
theorem fe_74_82 : am_fe 74 82 = some (11, some .int, .getfield 83) := by decide +kernel
theorem fe_74_85 : am_fe 74 85 = some (11, some .int, .iload_n 1) := by decide +kernel
theorem fe_74_86 : am_fe 74 86 = some (11, some .int, .invokevirtual 135) := by decide +kernel
theorem fe_74_89 : am_fe 74 89 = some (11, some .int, .ireturn) := by decide +kernel
theorem fe_74_90 : am_fe 74 90 = some (11, some .int, .aload_n 0) := by decide +kernel
theorem fe_74_91 : am_fe 74 91 = some (11, some .int, .iload_n 1) := by decide +kernel
theorem fe_74_92 : am_fe 74 92 = some (11, some .int, .invokevirtual 139) := by decide +kernel
theorem fe_74_95 : am_fe 74 95 = some (11, some .int, .ireturn) := by decide +kernel
theorem fe_74_96 : am_fe 74 96 = some (11, some .int, .aload_n 0) := by decide +kernel
theorem fe_74_97 : am_fe 74 97 = some (11, some .int, .getfield 43) := by decide +kernel
theorem fe_74_100 : am_fe 74 100 = some (11, some .int, .getfield 94) := by decide +kernel
theorem fe_74_103 : am_fe 74 103 = some (11, some .int, .getfield 142) := by decide +kernel
theorem fe_74_106 : am_fe 74 106 = some (11, some .int, .iload_n 1) := by decide +kernel
theorem fe_74_107 : am_fe 74 107 = some (11, some .int, .iaload) := by decide +kernel
theorem fe_74_108 : am_fe 74 108 = some (11, some .int, .ireturn) := by decide +kernel
theorem fe_74_109 : am_fe 74 109 = some (11, some .int, .aload_n 0) := by decide +kernel
theorem fe_74_110 : am_fe 74 110 = some (11, some .int, .getfield 43) := by decide +kernel
theorem fe_74_113 : am_fe 74 113 = some (11, some .int, .getfield 94) := by decide +kernel
theorem fe_74_116 : am_fe 74 116 = some (11, some .int, .iload_n 1) := by decide +kernel
theorem fe_74_117 : am_fe 74 117 = some (11, some .int, .invokevirtual 145) := by decide +kernel
theorem fe_74_120 : am_fe 74 120 = some (11, some .int, .ireturn) := by decide +kernel
theorem fe_74_121 : am_fe 74 121 = some (11, some .int, .bipush (-2)) := by decide +kernel
theorem fe_74_123 : am_fe 74 123 = some (11, some .int, .ireturn) := by decide +kernel
theorem fe_75_0 : am_fe 75 0 = some (11, some .boolean, .iload_n 1) := by decide +kernel
theorem fe_75_1 : am_fe 75 1 = some (11, some .boolean, .ifCond .lt 21) := by decide +kernel
theorem fe_75_4 : am_fe 75 4 = some (11, some .boolean, .iload_n 1) := by decide +kernel
theorem fe_75_5 : am_fe 75 5 = some (11, some .boolean, .aload_n 0) := by decide +kernel
theorem fe_75_6 : am_fe 75 6 = some (11, some .boolean, .getfield 43) := by decide +kernel
theorem fe_75_9 : am_fe 75 9 = some (11, some .boolean, .getfield 83) := by decide +kernel
theorem fe_75_12 : am_fe 75 12 = some (11, some .boolean, .getfield 257) := by decide +kernel
theorem fe_75_15 : am_fe 75 15 = some (11, some .boolean, .if_icmp .ge 7) := by decide +kernel
theorem fe_75_18 : am_fe 75 18 = some (11, some .boolean, .iconst 1) := by decide +kernel
theorem fe_75_19 : am_fe 75 19 = some (11, some .boolean, .goto 4) := by decide +kernel
theorem fe_75_22 : am_fe 75 22 = some (11, some .boolean, .iconst 0) := by decide +kernel
theorem fe_75_23 : am_fe 75 23 = some (11, some .boolean, .ireturn) := by decide +kernel
theorem fe_76_0 : am_fe 76 0 = some (0, some .int, .aload_n 0) := by decide +kernel
theorem fe_76_1 : am_fe 76 1 = some (0, some .int, .getfield 28) := by decide +kernel
theorem fe_76_4 : am_fe 76 4 = some (0, some .int, .iload_n 1) := by decide +kernel
theorem fe_76_5 : am_fe 76 5 = some (0, some .int, .iaload) := by decide +kernel
theorem fe_76_6 : am_fe 76 6 = some (0, some .int, .istore_n 2) := by decide +kernel
theorem fe_76_7 : am_fe 76 7 = some (0, some .int, .iload_n 2) := by decide +kernel
theorem fe_76_8 : am_fe 76 8 = some (0, some .int, .ifCond .ge 7) := by decide +kernel
theorem fe_76_11 : am_fe 76 11 = some (0, some .int, .iconst 0) := by decide +kernel
theorem fe_76_12 : am_fe 76 12 = some (0, some .int, .goto 9) := by decide +kernel
theorem fe_76_15 : am_fe 76 15 = some (0, some .int, .aload_n 0) := by decide +kernel
theorem fe_76_16 : am_fe 76 16 = some (0, some .int, .getfield 34) := by decide +kernel
theorem fe_76_19 : am_fe 76 19 = some (0, some .int, .iload_n 2) := by decide +kernel
theorem fe_76_20 : am_fe 76 20 = some (0, some .int, .iaload) := by decide +kernel
theorem fe_76_21 : am_fe 76 21 = some (0, some .int, .ireturn) := by decide +kernel
theorem fe_77_0 : am_fe 77 0 = some (11, some .int, .aload_n 0) := by decide +kernel
theorem fe_77_1 : am_fe 77 1 = some (11, some .int, .getfield 43) := by decide +kernel
theorem fe_77_4 : am_fe 77 4 = some (11, some .int, .getfield 83) := by decide +kernel
theorem fe_77_7 : am_fe 77 7 = some (11, some .int, .getfield 218) := by decide +kernel
theorem fe_77_10 : am_fe 77 10 = some (11, some .int, .iload_n 1) := by decide +kernel
theorem fe_77_11 : am_fe 77 11 = some (11, some .int, .iaload) := by decide +kernel
theorem fe_77_12 : am_fe 77 12 = some (11, some .int, .istore_n 2) := by decide +kernel
theorem fe_77_13 : am_fe 77 13 = some (11, some .int, .iload_n 2) := by decide +kernel
theorem fe_77_14 : am_fe 77 14 = some (11, some .int, .ifCond .ge 5) := by decide +kernel
theorem fe_77_17 : am_fe 77 17 = some (11, some .int, .iconst 0) := by decide +kernel
theorem fe_77_18 : am_fe 77 18 = some (11, some .int, .ireturn) := by decide +kernel
theorem fe_77_19 : am_fe 77 19 = some (11, some .int, .iconst 1) := by decide +kernel
theorem fe_77_20 : am_fe 77 20 = some (11, some .int, .aload_n 0) := by decide +kernel
theorem fe_77_21 : am_fe 77 21 = some (11, some .int, .getfield 43) := by decide +kernel
theorem fe_77_24 : am_fe 77 24 = some (11, some .int, .getfield 94) := by decide +kernel
theorem fe_77_27 : am_fe 77 27 = some (11, some .int, .getfield 215) := by decide +kernel
theorem fe_77_30 : am_fe 77 30 = some (11, some .int, .iload_n 2) := by decide +kernel
theorem fe_77_31 : am_fe 77 31 = some (11, some .int, .ishr) := by decide +kernel
theorem fe_77_32 : am_fe 77 32 = some (11, some .int, .iconst 1) := by decide +kernel
theorem fe_77_33 : am_fe 77 33 = some (11, some .int, .iand) := by decide +kernel
theorem fe_77_34 : am_fe 77 34 = some (11, some .int, .iadd) := by decide +kernel
theorem fe_77_35 : am_fe 77 35 = some (11, some .int, .ireturn) := by decide +kernel
theorem fe_78_0 : am_fe 78 0 = some (9, some .int, .iconst 0) := by decide +kernel
theorem fe_78_1 : am_fe 78 1 = some (9, some .int, .istore_n 2) := by decide +kernel
theorem fe_78_2 : am_fe 78 2 = some (9, some .int, .iconst 0) := by decide +kernel
theorem fe_78_3 : am_fe 78 3 = some (9, some .int, .istore_n 3) := by decide +kernel
theorem fe_78_4 : am_fe 78 4 = some (9, some .int, .iload_n 3) := by decide +kernel
theorem fe_78_5 : am_fe 78 5 = some (9, some .int, .aload_n 0) := by decide +kernel
theorem fe_78_6 : am_fe 78 6 = some (9, some .int, .getfield 15) := by decide +kernel
theorem fe_78_9 : am_fe 78 9 = some (9, some .int, .if_icmp .ge 25) := by decide +kernel
theorem fe_78_12 : am_fe 78 12 = some (9, some .int, .aload_n 0) := by decide +kernel
theorem fe_78_13 : am_fe 78 13 = some (9, some .int, .getfield 21) := by decide +kernel
theorem fe_78_16 : am_fe 78 16 = some (9, some .int, .iload_n 3) := by decide +kernel
theorem fe_78_17 : am_fe 78 17 = some (9, some .int, .iaload) := by decide +kernel
theorem fe_78_18 : am_fe 78 18 = some (9, some .int, .iload_n 1) := by decide +kernel
theorem fe_78_19 : am_fe 78 19 = some (9, some .int, .if_icmp .ne 9) := by decide +kernel
theorem fe_78_22 : am_fe 78 22 = some (9, some .int, .iload_n 2) := by decide +kernel
theorem fe_78_23 : am_fe 78 23 = some (9, some .int, .iconst 1) := by decide +kernel
theorem fe_78_24 : am_fe 78 24 = some (9, some .int, .iload_n 3) := by decide +kernel
theorem fe_78_25 : am_fe 78 25 = some (9, some .int, .ishl) := by decide +kernel
theorem fe_78_26 : am_fe 78 26 = some (9, some .int, .ior) := by decide +kernel
theorem fe_78_27 : am_fe 78 27 = some (9, some .int, .istore_n 2) := by decide +kernel
theorem fe_78_28 : am_fe 78 28 = some (9, some .int, .iinc 3 1) := by decide +kernel
theorem fe_78_31 : am_fe 78 31 = some (9, some .int, .goto (-27)) := by decide +kernel
theorem fe_78_34 : am_fe 78 34 = some (9, some .int, .iload_n 2) := by decide +kernel
theorem fe_78_35 : am_fe 78 35 = some (9, some .int, .ireturn) := by decide +kernel
theorem fe_79_0 : am_fe 79 0 = some (11, some .int, .aload_n 0) := by decide +kernel
theorem fe_79_1 : am_fe 79 1 = some (11, some .int, .iload_n 1) := by decide +kernel
theorem fe_79_2 : am_fe 79 2 = some (11, some .int, .invokevirtual 148) := by decide +kernel
theorem fe_79_5 : am_fe 79 5 = some (11, some .int, .ifCond .ne 6) := by decide +kernel
theorem fe_79_8 : am_fe 79 8 = some (11, some .int, .bipush (-2)) := by decide +kernel
theorem fe_79_10 : am_fe 79 10 = some (11, some .int, .ireturn) := by decide +kernel
theorem fe_79_11 : am_fe 79 11 = some (11, some .int, .aload_n 0) := by decide +kernel
theorem fe_79_12 : am_fe 79 12 = some (11, some .int, .getfield 43) := by decide +kernel
theorem fe_79_15 : am_fe 79 15 = some (11, some .int, .getfield 94) := by decide +kernel
theorem fe_79_18 : am_fe 79 18 = some (11, some .int, .astore_n 3) := by decide +kernel
theorem fe_79_19 : am_fe 79 19 = some (11, some .int, .iload_n 2) := by decide +kernel
theorem fe_79_20 : am_fe 79 20 = some (11, some .int, .tableswitch 82 0 5 #[40, 47, 54, 61, 68, 75]) := by decide +kernel
theorem fe_79_60 : am_fe 79 60 = some (11, some .int, .aload_n 3) := by decide +kernel
theorem fe_79_61 : am_fe 79 61 = some (11, some .int, .getfield 151) := by decide +kernel
theorem fe_79_64 : am_fe 79 64 = some (11, some .int, .iload_n 1) := by decide +kernel
theorem fe_79_65 : am_fe 79 65 = some (11, some .int, .iaload) := by decide +kernel
theorem fe_79_66 : am_fe 79 66 = some (11, some .int, .ireturn) := by decide +kernel
theorem fe_79_67 : am_fe 79 67 = some (11, some .int, .aload_n 3) := by decide +kernel
theorem fe_79_68 : am_fe 79 68 = some (11, some .int, .getfield 154) := by decide +kernel
theorem fe_79_71 : am_fe 79 71 = some (11, some .int, .iload_n 1) := by decide +kernel
theorem fe_79_72 : am_fe 79 72 = some (11, some .int, .iaload) := by decide +kernel
theorem fe_79_73 : am_fe 79 73 = some (11, some .int, .ireturn) := by decide +kernel
theorem fe_79_74 : am_fe 79 74 = some (11, some .int, .aload_n 3) := by decide +kernel
theorem fe_79_75 : am_fe 79 75 = some (11, some .int, .getfield 157) := by decide +kernel
theorem fe_79_78 : am_fe 79 78 = some (11, some .int, .iload_n 1) := by decide +kernel
theorem fe_79_79 : am_fe 79 79 = some (11, some .int, .iaload) := by decide +kernel
theorem fe_79_80 : am_fe 79 80 = some (11, some .int, .ireturn) := by decide +kernel
theorem fe_79_81 : am_fe 79 81 = some (11, some .int, .aload_n 3) := by decide +kernel
theorem fe_79_82 : am_fe 79 82 = some (11, some .int, .getfield 160) := by decide +kernel
theorem fe_79_85 : am_fe 79 85 = some (11, some .int, .iload_n 1) := by decide +kernel
theorem fe_79_86 : am_fe 79 86 = some (11, some .int, .iaload) := by decide +kernel
theorem fe_79_87 : am_fe 79 87 = some (11, some .int, .ireturn) := by decide +kernel
theorem fe_79_88 : am_fe 79 88 = some (11, some .int, .aload_n 3) := by decide +kernel
theorem fe_79_89 : am_fe 79 89 = some (11, some .int, .getfield 163) := by decide +kernel
theorem fe_79_92 : am_fe 79 92 = some (11, some .int, .iload_n 1) := by decide +kernel
theorem fe_79_93 : am_fe 79 93 = some (11, some .int, .iaload) := by decide +kernel
theorem fe_79_94 : am_fe 79 94 = some (11, some .int, .ireturn) := by decide +kernel
theorem fe_79_95 : am_fe 79 95 = some (11, some .int, .aload_n 3) := by decide +kernel
theorem fe_79_96 : am_fe 79 96 = some (11, some .int, .getfield 166) := by decide +kernel
theorem fe_79_99 : am_fe 79 99 = some (11, some .int, .iload_n 1) := by decide +kernel
theorem fe_79_100 : am_fe 79 100 = some (11, some .int, .iaload) := by decide +kernel
theorem fe_79_101 : am_fe 79 101 = some (11, some .int, .ireturn) := by decide +kernel
theorem fe_79_102 : am_fe 79 102 = some (11, some .int, .bipush (-2)) := by decide +kernel
theorem fe_79_104 : am_fe 79 104 = some (11, some .int, .ireturn) := by decide +kernel
theorem fe_80_0 : am_fe 80 0 = some (11, some .boolean, .iload_n 1) := by decide +kernel
theorem fe_80_1 : am_fe 80 1 = some (11, some .boolean, .ifCond .lt 21) := by decide +kernel
theorem fe_80_4 : am_fe 80 4 = some (11, some .boolean, .iload_n 1) := by decide +kernel
theorem fe_80_5 : am_fe 80 5 = some (11, some .boolean, .aload_n 0) := by decide +kernel
theorem fe_80_6 : am_fe 80 6 = some (11, some .boolean, .getfield 43) := by decide +kernel
theorem fe_80_9 : am_fe 80 9 = some (11, some .boolean, .getfield 94) := by decide +kernel
theorem fe_80_12 : am_fe 80 12 = some (11, some .boolean, .getfield 113) := by decide +kernel
theorem fe_80_15 : am_fe 80 15 = some (11, some .boolean, .if_icmp .ge 7) := by decide +kernel
theorem fe_80_18 : am_fe 80 18 = some (11, some .boolean, .iconst 1) := by decide +kernel
theorem fe_80_19 : am_fe 80 19 = some (11, some .boolean, .goto 4) := by decide +kernel
theorem fe_80_22 : am_fe 80 22 = some (11, some .boolean, .iconst 0) := by decide +kernel
theorem fe_80_23 : am_fe 80 23 = some (11, some .boolean, .ireturn) := by decide +kernel
theorem fe_81_0 : am_fe 81 0 = some (11, some .int, .aload_n 0) := by decide +kernel
theorem fe_81_1 : am_fe 81 1 = some (11, some .int, .invokevirtual 169) := by decide +kernel
theorem fe_81_4 : am_fe 81 4 = some (11, some .int, .ifCond .eq 19) := by decide +kernel
theorem fe_81_7 : am_fe 81 7 = some (11, some .int, .aload_n 0) := by decide +kernel
theorem fe_81_8 : am_fe 81 8 = some (11, some .int, .getfield 43) := by decide +kernel
theorem fe_81_11 : am_fe 81 11 = some (11, some .int, .getfield 94) := by decide +kernel
theorem fe_81_14 : am_fe 81 14 = some (11, some .int, .getfield 173) := by decide +kernel
theorem fe_81_17 : am_fe 81 17 = some (11, some .int, .sipush 999) := by decide +kernel
theorem fe_81_20 : am_fe 81 20 = some (11, some .int, .if_icmp .lt 5) := by decide +kernel
theorem fe_81_23 : am_fe 81 23 = some (11, some .int, .iconst (-1)) := by decide +kernel
theorem fe_81_24 : am_fe 81 24 = some (11, some .int, .ireturn) := by decide +kernel
theorem fe_81_25 : am_fe 81 25 = some (11, some .int, .aload_n 0) := by decide +kernel
theorem fe_81_26 : am_fe 81 26 = some (11, some .int, .getfield 43) := by decide +kernel
theorem fe_81_29 : am_fe 81 29 = some (11, some .int, .getfield 104) := by decide +kernel
theorem fe_81_32 : am_fe 81 32 = some (11, some .int, .aload_n 0) := by decide +kernel
theorem fe_81_33 : am_fe 81 33 = some (11, some .int, .getfield 43) := by decide +kernel
theorem fe_81_36 : am_fe 81 36 = some (11, some .int, .getfield 94) := by decide +kernel
theorem fe_81_39 : am_fe 81 39 = some (11, some .int, .invokevirtual 176) := by decide +kernel
theorem fe_81_42 : am_fe 81 42 = some (11, some .int, .aload_n 0) := by decide +kernel
theorem fe_81_43 : am_fe 81 43 = some (11, some .int, .getfield 54) := by decide +kernel
theorem fe_81_46 : am_fe 81 46 = some (11, some .int, .aload_n 0) := by decide +kernel
theorem fe_81_47 : am_fe 81 47 = some (11, some .int, .getfield 43) := by decide +kernel
theorem fe_81_50 : am_fe 81 50 = some (11, some .int, .getfield 83) := by decide +kernel
theorem fe_81_53 : am_fe 81 53 = some (11, some .int, .aload_n 0) := by decide +kernel
theorem fe_81_54 : am_fe 81 54 = some (11, some .int, .getfield 43) := by decide +kernel
theorem fe_81_57 : am_fe 81 57 = some (11, some .int, .getfield 94) := by decide +kernel
theorem fe_81_60 : am_fe 81 60 = some (11, some .int, .aload_n 0) := by decide +kernel
theorem fe_81_61 : am_fe 81 61 = some (11, some .int, .invokevirtual 179) := by decide +kernel
theorem fe_81_64 : am_fe 81 64 = some (11, some .int, .invokevirtual 182) := by decide +kernel
theorem fe_81_67 : am_fe 81 67 = some (11, some .int, .aload_n 0) := by decide +kernel
theorem fe_81_68 : am_fe 81 68 = some (11, some .int, .getfield 54) := by decide +kernel
theorem fe_81_71 : am_fe 81 71 = some (11, some .int, .invokevirtual 186) := by decide +kernel
theorem fe_81_74 : am_fe 81 74 = some (11, some .int, .aload_n 0) := by decide +kernel
theorem fe_81_75 : am_fe 81 75 = some (11, some .int, .getfield 54) := by decide +kernel
theorem fe_81_78 : am_fe 81 78 = some (11, some .int, .getfield 189) := by decide +kernel
theorem fe_81_81 : am_fe 81 81 = some (11, some .int, .aload_n 0) := by decide +kernel
theorem fe_81_82 : am_fe 81 82 = some (11, some .int, .getfield 54) := by decide +kernel
theorem fe_81_85 : am_fe 81 85 = some (11, some .int, .getfield 192) := by decide +kernel
theorem fe_81_88 : am_fe 81 88 = some (11, some .int, .iadd) := by decide +kernel
theorem fe_81_89 : am_fe 81 89 = some (11, some .int, .aload_n 0) := by decide +kernel
theorem fe_81_90 : am_fe 81 90 = some (11, some .int, .getfield 54) := by decide +kernel
theorem fe_81_93 : am_fe 81 93 = some (11, some .int, .getfield 195) := by decide +kernel
theorem fe_81_96 : am_fe 81 96 = some (11, some .int, .iadd) := by decide +kernel
theorem fe_81_97 : am_fe 81 97 = some (11, some .int, .ireturn) := by decide +kernel
theorem fe_82_0 : am_fe 82 0 = some (11, some .boolean, .aload_n 0) := by decide +kernel
theorem fe_82_1 : am_fe 82 1 = some (11, some .boolean, .getfield 43) := by decide +kernel
theorem fe_82_4 : am_fe 82 4 = some (11, some .boolean, .getfield 83) := by decide +kernel
theorem fe_82_7 : am_fe 82 7 = some (11, some .boolean, .getfield 257) := by decide +kernel
theorem fe_82_10 : am_fe 82 10 = some (11, some .boolean, .ifCond .le 7) := by decide +kernel
theorem fe_82_13 : am_fe 82 13 = some (11, some .boolean, .iconst 1) := by decide +kernel
theorem fe_82_14 : am_fe 82 14 = some (11, some .boolean, .goto 4) := by decide +kernel
theorem fe_82_17 : am_fe 82 17 = some (11, some .boolean, .iconst 0) := by decide +kernel
theorem fe_82_18 : am_fe 82 18 = some (11, some .boolean, .ireturn) := by decide +kernel
theorem fe_83_0 : am_fe 83 0 = some (4, none, .aload_n 0) := by decide +kernel
theorem fe_83_1 : am_fe 83 1 = some (4, none, .getfield 21) := by decide +kernel
theorem fe_83_4 : am_fe 83 4 = some (4, none, .bipush 20) := by decide +kernel
theorem fe_83_6 : am_fe 83 6 = some (4, none, .if_icmp .ne 26) := by decide +kernel
theorem fe_83_9 : am_fe 83 9 = some (4, none, .aload_n 0) := by decide +kernel
theorem fe_83_10 : am_fe 83 10 = some (4, none, .aload_n 0) := by decide +kernel
theorem fe_83_11 : am_fe 83 11 = some (4, none, .getfield 17) := by decide +kernel
theorem fe_83_14 : am_fe 83 14 = some (4, none, .iconst 1) := by decide +kernel
theorem fe_83_15 : am_fe 83 15 = some (4, none, .iadd) := by decide +kernel
theorem fe_83_16 : am_fe 83 16 = some (4, none, .bipush 20) := by decide +kernel
theorem fe_83_18 : am_fe 83 18 = some (4, none, .irem) := by decide +kernel
theorem fe_83_19 : am_fe 83 19 = some (4, none, .putfield 17) := by decide +kernel
theorem fe_83_22 : am_fe 83 22 = some (4, none, .aload_n 0) := by decide +kernel
theorem fe_83_23 : am_fe 83 23 = some (4, none, .dup) := by decide +kernel
theorem fe_83_24 : am_fe 83 24 = some (4, none, .getfield 21) := by decide +kernel
theorem fe_83_27 : am_fe 83 27 = some (4, none, .iconst 1) := by decide +kernel
theorem fe_83_28 : am_fe 83 28 = some (4, none, .isub) := by decide +kernel
theorem fe_83_29 : am_fe 83 29 = some (4, none, .putfield 21) := by decide +kernel
theorem fe_83_32 : am_fe 83 32 = some (4, none, .aload_n 0) := by decide +kernel
theorem fe_83_33 : am_fe 83 33 = some (4, none, .getfield 17) := by decide +kernel
theorem fe_83_36 : am_fe 83 36 = some (4, none, .aload_n 0) := by decide +kernel
theorem fe_83_37 : am_fe 83 37 = some (4, none, .getfield 21) := by decide +kernel
theorem fe_83_40 : am_fe 83 40 = some (4, none, .iadd) := by decide +kernel
theorem fe_83_41 : am_fe 83 41 = some (4, none, .bipush 20) := by decide +kernel
theorem fe_83_43 : am_fe 83 43 = some (4, none, .irem) := by decide +kernel
theorem fe_83_44 : am_fe 83 44 = some (4, none, .istore_n 2) := by decide +kernel
theorem fe_83_45 : am_fe 83 45 = some (4, none, .aload_n 0) := by decide +kernel
theorem fe_83_46 : am_fe 83 46 = some (4, none, .getfield 11) := by decide +kernel
theorem fe_83_49 : am_fe 83 49 = some (4, none, .iload_n 2) := by decide +kernel
theorem fe_83_50 : am_fe 83 50 = some (4, none, .aaload) := by decide +kernel
theorem fe_83_51 : am_fe 83 51 = some (4, none, .ifnonnull 16) := by decide +kernel
theorem fe_83_54 : am_fe 83 54 = some (4, none, .aload_n 0) := by decide +kernel
theorem fe_83_55 : am_fe 83 55 = some (4, none, .getfield 11) := by decide +kernel
theorem fe_83_58 : am_fe 83 58 = some (4, none, .iload_n 2) := by decide +kernel
theorem fe_83_59 : am_fe 83 59 = some (4, none, .new 9) := by decide +kernel
theorem fe_83_62 : am_fe 83 62 = some (4, none, .dup) := by decide +kernel
theorem fe_83_63 : am_fe 83 63 = some (4, none, .invokespecial 24) := by decide +kernel
theorem fe_83_66 : am_fe 83 66 = some (4, none, .aastore) := by decide +kernel
theorem fe_83_67 : am_fe 83 67 = some (4, none, .aload_n 0) := by decide +kernel
theorem fe_83_68 : am_fe 83 68 = some (4, none, .getfield 11) := by decide +kernel
theorem fe_83_71 : am_fe 83 71 = some (4, none, .iload_n 2) := by decide +kernel
theorem fe_83_72 : am_fe 83 72 = some (4, none, .aaload) := by decide +kernel
theorem fe_83_73 : am_fe 83 73 = some (4, none, .aload_n 1) := by decide +kernel
theorem fe_83_74 : am_fe 83 74 = some (4, none, .invokevirtual 25) := by decide +kernel
theorem fe_83_77 : am_fe 83 77 = some (4, none, .aload_n 0) := by decide +kernel
theorem fe_83_78 : am_fe 83 78 = some (4, none, .dup) := by decide +kernel
theorem fe_83_79 : am_fe 83 79 = some (4, none, .getfield 21) := by decide +kernel
theorem fe_83_82 : am_fe 83 82 = some (4, none, .iconst 1) := by decide +kernel
theorem fe_83_83 : am_fe 83 83 = some (4, none, .iadd) := by decide +kernel
theorem fe_83_84 : am_fe 83 84 = some (4, none, .putfield 21) := by decide +kernel
theorem fe_83_87 : am_fe 83 87 = some (4, none, .return_) := by decide +kernel
theorem fe_84_0 : am_fe 84 0 = some (11, some (.object "PaperRiver$Law"), .aload_n 0) := by decide +kernel
theorem fe_84_1 : am_fe 84 1 = some (11, some (.object "PaperRiver$Law"), .getfield 43) := by decide +kernel
theorem fe_84_4 : am_fe 84 4 = some (11, some (.object "PaperRiver$Law"), .getfield 121) := by decide +kernel
theorem fe_84_7 : am_fe 84 7 = some (11, some (.object "PaperRiver$Law"), .ifCond .lt 17) := by decide +kernel
theorem fe_84_10 : am_fe 84 10 = some (11, some (.object "PaperRiver$Law"), .aload_n 0) := by decide +kernel
theorem fe_84_11 : am_fe 84 11 = some (11, some (.object "PaperRiver$Law"), .getfield 43) := by decide +kernel
theorem fe_84_14 : am_fe 84 14 = some (11, some (.object "PaperRiver$Law"), .getfield 121) := by decide +kernel
theorem fe_84_17 : am_fe 84 17 = some (11, some (.object "PaperRiver$Law"), .aload_n 0) := by decide +kernel
theorem fe_84_18 : am_fe 84 18 = some (11, some (.object "PaperRiver$Law"), .getfield 36) := by decide +kernel
theorem fe_84_21 : am_fe 84 21 = some (11, some (.object "PaperRiver$Law"), .if_icmp .lt 7) := by decide +kernel
theorem fe_84_24 : am_fe 84 24 = some (11, some (.object "PaperRiver$Law"), .aconst_null) := by decide +kernel
theorem fe_84_25 : am_fe 84 25 = some (11, some (.object "PaperRiver$Law"), .goto 15) := by decide +kernel
theorem fe_84_28 : am_fe 84 28 = some (11, some (.object "PaperRiver$Law"), .aload_n 0) := by decide +kernel
theorem fe_84_29 : am_fe 84 29 = some (11, some (.object "PaperRiver$Law"), .getfield 32) := by decide +kernel
theorem fe_84_32 : am_fe 84 32 = some (11, some (.object "PaperRiver$Law"), .aload_n 0) := by decide +kernel
theorem fe_84_33 : am_fe 84 33 = some (11, some (.object "PaperRiver$Law"), .getfield 43) := by decide +kernel
theorem fe_84_36 : am_fe 84 36 = some (11, some (.object "PaperRiver$Law"), .getfield 121) := by decide +kernel
theorem fe_84_39 : am_fe 84 39 = some (11, some (.object "PaperRiver$Law"), .aaload) := by decide +kernel
theorem fe_84_40 : am_fe 84 40 = some (11, some (.object "PaperRiver$Law"), .areturn) := by decide +kernel
theorem fe_85_0 : am_fe 85 0 = some (7, none, .aload_n 0) := by decide +kernel
theorem fe_85_1 : am_fe 85 1 = some (7, none, .aload_n 1) := by decide +kernel
theorem fe_85_2 : am_fe 85 2 = some (7, none, .putfield 27) := by decide +kernel
theorem fe_85_5 : am_fe 85 5 = some (7, none, .aload_n 0) := by decide +kernel
theorem fe_85_6 : am_fe 85 6 = some (7, none, .aload_n 2) := by decide +kernel
theorem fe_85_7 : am_fe 85 7 = some (7, none, .putfield 31) := by decide +kernel
theorem fe_85_10 : am_fe 85 10 = some (7, none, .aload_n 0) := by decide +kernel
theorem fe_85_11 : am_fe 85 11 = some (7, none, .aload_n 3) := by decide +kernel
theorem fe_85_12 : am_fe 85 12 = some (7, none, .putfield 34) := by decide +kernel
theorem fe_85_15 : am_fe 85 15 = some (7, none, .aload_n 0) := by decide +kernel
theorem fe_85_16 : am_fe 85 16 = some (7, none, .iconst 0) := by decide +kernel
theorem fe_85_17 : am_fe 85 17 = some (7, none, .putfield 38) := by decide +kernel
theorem fe_85_20 : am_fe 85 20 = some (7, none, .aload_n 0) := by decide +kernel
theorem fe_85_21 : am_fe 85 21 = some (7, none, .iconst 0) := by decide +kernel
theorem fe_85_22 : am_fe 85 22 = some (7, none, .putfield 42) := by decide +kernel
theorem fe_85_25 : am_fe 85 25 = some (7, none, .aload_n 0) := by decide +kernel
theorem fe_85_26 : am_fe 85 26 = some (7, none, .iconst 0) := by decide +kernel
theorem fe_85_27 : am_fe 85 27 = some (7, none, .putfield 45) := by decide +kernel
theorem fe_85_30 : am_fe 85 30 = some (7, none, .return_) := by decide +kernel
theorem fe_86_0 : am_fe 86 0 = some (7, none, .aload_n 0) := by decide +kernel
theorem fe_86_1 : am_fe 86 1 = some (7, none, .getfield 27) := by decide +kernel
theorem fe_86_4 : am_fe 86 4 = some (7, none, .ifnonnull 4) := by decide +kernel
theorem fe_86_7 : am_fe 86 7 = some (7, none, .return_) := by decide +kernel
theorem fe_86_8 : am_fe 86 8 = some (7, none, .iconst 0) := by decide +kernel
theorem fe_86_9 : am_fe 86 9 = some (7, none, .istore_n 1) := by decide +kernel
theorem fe_86_10 : am_fe 86 10 = some (7, none, .iload_n 1) := by decide +kernel
theorem fe_86_11 : am_fe 86 11 = some (7, none, .aload_n 0) := by decide +kernel
theorem fe_86_12 : am_fe 86 12 = some (7, none, .getfield 31) := by decide +kernel
theorem fe_86_15 : am_fe 86 15 = some (7, none, .getfield 88) := by decide +kernel
theorem fe_86_18 : am_fe 86 18 = some (7, none, .if_icmp .ge 26) := by decide +kernel
theorem fe_86_21 : am_fe 86 21 = some (7, none, .aload_n 0) := by decide +kernel
theorem fe_86_22 : am_fe 86 22 = some (7, none, .getfield 31) := by decide +kernel
theorem fe_86_25 : am_fe 86 25 = some (7, none, .getfield 80) := by decide +kernel
theorem fe_86_28 : am_fe 86 28 = some (7, none, .iload_n 1) := by decide +kernel
theorem fe_86_29 : am_fe 86 29 = some (7, none, .iaload) := by decide +kernel
theorem fe_86_30 : am_fe 86 30 = some (7, none, .ifCond .lt 8) := by decide +kernel
theorem fe_86_33 : am_fe 86 33 = some (7, none, .aload_n 0) := by decide +kernel
theorem fe_86_34 : am_fe 86 34 = some (7, none, .iload_n 1) := by decide +kernel
theorem fe_86_35 : am_fe 86 35 = some (7, none, .invokevirtual 94) := by decide +kernel
theorem fe_86_38 : am_fe 86 38 = some (7, none, .iinc 1 1) := by decide +kernel
theorem fe_86_41 : am_fe 86 41 = some (7, none, .goto (-31)) := by decide +kernel
theorem fe_86_44 : am_fe 86 44 = some (7, none, .aload_n 0) := by decide +kernel
theorem fe_86_45 : am_fe 86 45 = some (7, none, .getfield 31) := by decide +kernel
theorem fe_86_48 : am_fe 86 48 = some (7, none, .iconst 2) := by decide +kernel
theorem fe_86_49 : am_fe 86 49 = some (7, none, .invokevirtual 60) := by decide +kernel
theorem fe_86_52 : am_fe 86 52 = some (7, none, .istore_n 1) := by decide +kernel
theorem fe_86_53 : am_fe 86 53 = some (7, none, .iconst 0) := by decide +kernel
theorem fe_86_54 : am_fe 86 54 = some (7, none, .istore_n 2) := by decide +kernel
theorem fe_86_55 : am_fe 86 55 = some (7, none, .iload_n 2) := by decide +kernel
theorem fe_86_56 : am_fe 86 56 = some (7, none, .bipush 16) := by decide +kernel
theorem fe_86_58 : am_fe 86 58 = some (7, none, .if_icmp .ge 56) := by decide +kernel
theorem fe_86_61 : am_fe 86 61 = some (7, none, .iload_n 1) := by decide +kernel
theorem fe_86_62 : am_fe 86 62 = some (7, none, .iload_n 2) := by decide +kernel
theorem fe_86_63 : am_fe 86 63 = some (7, none, .ishr) := by decide +kernel
theorem fe_86_64 : am_fe 86 64 = some (7, none, .ifCond .eq 50) := by decide +kernel
theorem fe_86_67 : am_fe 86 67 = some (7, none, .iload_n 1) := by decide +kernel
theorem fe_86_68 : am_fe 86 68 = some (7, none, .iload_n 2) := by decide +kernel
theorem fe_86_69 : am_fe 86 69 = some (7, none, .ishr) := by decide +kernel
theorem fe_86_70 : am_fe 86 70 = some (7, none, .iconst 1) := by decide +kernel
theorem fe_86_71 : am_fe 86 71 = some (7, none, .iand) := by decide +kernel
theorem fe_86_72 : am_fe 86 72 = some (7, none, .iconst 1) := by decide +kernel
theorem fe_86_73 : am_fe 86 73 = some (7, none, .if_icmp .ne 7) := by decide +kernel
theorem fe_86_76 : am_fe 86 76 = some (7, none, .iconst 1) := by decide +kernel
theorem fe_86_77 : am_fe 86 77 = some (7, none, .goto 4) := by decide +kernel
theorem fe_86_80 : am_fe 86 80 = some (7, none, .iconst 0) := by decide +kernel
theorem fe_86_81 : am_fe 86 81 = some (7, none, .istore_n 3) := by decide +kernel
theorem fe_86_82 : am_fe 86 82 = some (7, none, .iconst 0) := by decide +kernel
theorem fe_86_83 : am_fe 86 83 = some (7, none, .istore 4) := by decide +kernel
theorem fe_86_85 : am_fe 86 85 = some (7, none, .iload 4) := by decide +kernel
theorem fe_86_87 : am_fe 86 87 = some (7, none, .bipush 13) := by decide +kernel
theorem fe_86_89 : am_fe 86 89 = some (7, none, .if_icmp .ge 19) := by decide +kernel
theorem fe_86_92 : am_fe 86 92 = some (7, none, .iload_n 3) := by decide +kernel
theorem fe_86_93 : am_fe 86 93 = some (7, none, .ifCond .eq 15) := by decide +kernel
theorem fe_86_96 : am_fe 86 96 = some (7, none, .aload_n 0) := by decide +kernel
theorem fe_86_97 : am_fe 86 97 = some (7, none, .iload_n 2) := by decide +kernel
theorem fe_86_98 : am_fe 86 98 = some (7, none, .invokevirtual 97) := by decide +kernel
theorem fe_86_101 : am_fe 86 101 = some (7, none, .istore_n 3) := by decide +kernel
theorem fe_86_102 : am_fe 86 102 = some (7, none, .iinc 4 1) := by decide +kernel
theorem fe_86_105 : am_fe 86 105 = some (7, none, .goto (-20)) := by decide +kernel
theorem fe_86_108 : am_fe 86 108 = some (7, none, .iinc 2 1) := by decide +kernel
theorem fe_86_111 : am_fe 86 111 = some (7, none, .goto (-56)) := by decide +kernel
theorem fe_86_114 : am_fe 86 114 = some (7, none, .aload_n 0) := by decide +kernel
theorem fe_86_115 : am_fe 86 115 = some (7, none, .invokevirtual 101) := by decide +kernel
theorem fe_86_118 : am_fe 86 118 = some (7, none, .aload_n 0) := by decide +kernel
theorem fe_86_119 : am_fe 86 119 = some (7, none, .iconst 1) := by decide +kernel
theorem fe_86_120 : am_fe 86 120 = some (7, none, .invokevirtual 64) := by decide +kernel
theorem fe_86_123 : am_fe 86 123 = some (7, none, .return_) := by decide +kernel
theorem fe_87_0 : am_fe 87 0 = some (7, none, .aload_n 0) := by decide +kernel
theorem fe_87_1 : am_fe 87 1 = some (7, none, .getfield 31) := by decide +kernel
theorem fe_87_4 : am_fe 87 4 = some (7, none, .getfield 80) := by decide +kernel
theorem fe_87_7 : am_fe 87 7 = some (7, none, .iload_n 1) := by decide +kernel
theorem fe_87_8 : am_fe 87 8 = some (7, none, .iaload) := by decide +kernel
theorem fe_87_9 : am_fe 87 9 = some (7, none, .istore_n 2) := by decide +kernel
theorem fe_87_10 : am_fe 87 10 = some (7, none, .aload_n 0) := by decide +kernel
theorem fe_87_11 : am_fe 87 11 = some (7, none, .getfield 27) := by decide +kernel
theorem fe_87_14 : am_fe 87 14 = some (7, none, .getfield 104) := by decide +kernel
theorem fe_87_17 : am_fe 87 17 = some (7, none, .iload_n 2) := by decide +kernel
theorem fe_87_18 : am_fe 87 18 = some (7, none, .iaload) := by decide +kernel
theorem fe_87_19 : am_fe 87 19 = some (7, none, .istore_n 3) := by decide +kernel
theorem fe_87_20 : am_fe 87 20 = some (7, none, .iload_n 3) := by decide +kernel
theorem fe_87_21 : am_fe 87 21 = some (7, none, .ifCond .lt 19) := by decide +kernel
theorem fe_87_24 : am_fe 87 24 = some (7, none, .aload_n 0) := by decide +kernel
theorem fe_87_25 : am_fe 87 25 = some (7, none, .getfield 31) := by decide +kernel
theorem fe_87_28 : am_fe 87 28 = some (7, none, .getfield 109) := by decide +kernel
theorem fe_87_31 : am_fe 87 31 = some (7, none, .iload_n 3) := by decide +kernel
theorem fe_87_32 : am_fe 87 32 = some (7, none, .ishr) := by decide +kernel
theorem fe_87_33 : am_fe 87 33 = some (7, none, .iconst 1) := by decide +kernel
theorem fe_87_34 : am_fe 87 34 = some (7, none, .iand) := by decide +kernel
theorem fe_87_35 : am_fe 87 35 = some (7, none, .iconst 1) := by decide +kernel
theorem fe_87_36 : am_fe 87 36 = some (7, none, .if_icmp .ne 4) := by decide +kernel
theorem fe_87_39 : am_fe 87 39 = some (7, none, .return_) := by decide +kernel
theorem fe_87_40 : am_fe 87 40 = some (7, none, .aload_n 0) := by decide +kernel
theorem fe_87_41 : am_fe 87 41 = some (7, none, .getfield 31) := by decide +kernel
theorem fe_87_44 : am_fe 87 44 = some (7, none, .getfield 112) := by decide +kernel
theorem fe_87_47 : am_fe 87 47 = some (7, none, .iload_n 1) := by decide +kernel
theorem fe_87_48 : am_fe 87 48 = some (7, none, .iaload) := by decide +kernel
theorem fe_87_49 : am_fe 87 49 = some (7, none, .ifCond .le 17) := by decide +kernel
theorem fe_87_52 : am_fe 87 52 = some (7, none, .aload_n 0) := by decide +kernel
theorem fe_87_53 : am_fe 87 53 = some (7, none, .getfield 31) := by decide +kernel
theorem fe_87_56 : am_fe 87 56 = some (7, none, .getfield 112) := by decide +kernel
theorem fe_87_59 : am_fe 87 59 = some (7, none, .iload_n 1) := by decide +kernel
theorem fe_87_60 : am_fe 87 60 = some (7, none, .dup2) := by decide +kernel
theorem fe_87_61 : am_fe 87 61 = some (7, none, .iaload) := by decide +kernel
theorem fe_87_62 : am_fe 87 62 = some (7, none, .iconst 1) := by decide +kernel
theorem fe_87_63 : am_fe 87 63 = some (7, none, .isub) := by decide +kernel
theorem fe_87_64 : am_fe 87 64 = some (7, none, .iastore) := by decide +kernel
theorem fe_87_65 : am_fe 87 65 = some (7, none, .return_) := by decide +kernel
theorem fe_87_66 : am_fe 87 66 = some (7, none, .aload_n 0) := by decide +kernel
theorem fe_87_67 : am_fe 87 67 = some (7, none, .getfield 27) := by decide +kernel
theorem fe_87_70 : am_fe 87 70 = some (7, none, .getfield 115) := by decide +kernel
theorem fe_87_73 : am_fe 87 73 = some (7, none, .iload_n 2) := by decide +kernel
theorem fe_87_74 : am_fe 87 74 = some (7, none, .iaload) := by decide +kernel
theorem fe_87_75 : am_fe 87 75 = some (7, none, .istore 4) := by decide +kernel
theorem fe_87_77 : am_fe 87 77 = some (7, none, .iload 4) := by decide +kernel
theorem fe_87_79 : am_fe 87 79 = some (7, none, .ifCond .ge 24) := by decide +kernel
theorem fe_87_82 : am_fe 87 82 = some (7, none, .aload_n 0) := by decide +kernel
theorem fe_87_83 : am_fe 87 83 = some (7, none, .getfield 31) := by decide +kernel
theorem fe_87_86 : am_fe 87 86 = some (7, none, .iload_n 1) := by decide +kernel
theorem fe_87_87 : am_fe 87 87 = some (7, none, .iconst 1) := by decide +kernel
theorem fe_87_88 : am_fe 87 88 = some (7, none, .iconst (-1)) := by decide +kernel
theorem fe_87_89 : am_fe 87 89 = some (7, none, .invokevirtual 118) := by decide +kernel
theorem fe_87_92 : am_fe 87 92 = some (7, none, .aload_n 0) := by decide +kernel
theorem fe_87_93 : am_fe 87 93 = some (7, none, .dup) := by decide +kernel
theorem fe_87_94 : am_fe 87 94 = some (7, none, .getfield 38) := by decide +kernel
theorem fe_87_97 : am_fe 87 97 = some (7, none, .iconst 1) := by decide +kernel
theorem fe_87_98 : am_fe 87 98 = some (7, none, .iadd) := by decide +kernel
theorem fe_87_99 : am_fe 87 99 = some (7, none, .putfield 38) := by decide +kernel
theorem fe_87_102 : am_fe 87 102 = some (7, none, .return_) := by decide +kernel
theorem fe_87_103 : am_fe 87 103 = some (7, none, .aload_n 0) := by decide +kernel
theorem fe_87_104 : am_fe 87 104 = some (7, none, .getfield 31) := by decide +kernel
theorem fe_87_107 : am_fe 87 107 = some (7, none, .getfield 80) := by decide +kernel
theorem fe_87_110 : am_fe 87 110 = some (7, none, .iload_n 1) := by decide +kernel
theorem fe_87_111 : am_fe 87 111 = some (7, none, .iload 4) := by decide +kernel
theorem fe_87_113 : am_fe 87 113 = some (7, none, .iastore) := by decide +kernel
theorem fe_87_114 : am_fe 87 114 = some (7, none, .aload_n 0) := by decide +kernel
theorem fe_87_115 : am_fe 87 115 = some (7, none, .getfield 31) := by decide +kernel
theorem fe_87_118 : am_fe 87 118 = some (7, none, .getfield 112) := by decide +kernel
theorem fe_87_121 : am_fe 87 121 = some (7, none, .iload_n 1) := by decide +kernel
theorem fe_87_122 : am_fe 87 122 = some (7, none, .aload_n 0) := by decide +kernel
theorem fe_87_123 : am_fe 87 123 = some (7, none, .getfield 27) := by decide +kernel
theorem fe_87_126 : am_fe 87 126 = some (7, none, .getfield 122) := by decide +kernel
theorem fe_87_129 : am_fe 87 129 = some (7, none, .iload 4) := by decide +kernel
theorem fe_87_131 : am_fe 87 131 = some (7, none, .iaload) := by decide +kernel
theorem fe_87_132 : am_fe 87 132 = some (7, none, .iastore) := by decide +kernel
theorem fe_87_133 : am_fe 87 133 = some (7, none, .aload_n 0) := by decide +kernel
theorem fe_87_134 : am_fe 87 134 = some (7, none, .getfield 27) := by decide +kernel
theorem fe_87_137 : am_fe 87 137 = some (7, none, .getfield 125) := by decide +kernel
theorem fe_87_140 : am_fe 87 140 = some (7, none, .iload 4) := by decide +kernel
theorem fe_87_142 : am_fe 87 142 = some (7, none, .iaload) := by decide +kernel
theorem fe_87_143 : am_fe 87 143 = some (7, none, .istore 5) := by decide +kernel
theorem fe_87_145 : am_fe 87 145 = some (7, none, .iload 5) := by decide +kernel
theorem fe_87_147 : am_fe 87 147 = some (7, none, .ifCond .lt 49) := by decide +kernel
theorem fe_87_150 : am_fe 87 150 = some (7, none, .aload_n 0) := by decide +kernel
theorem fe_87_151 : am_fe 87 151 = some (7, none, .getfield 31) := by decide +kernel
theorem fe_87_154 : am_fe 87 154 = some (7, none, .getfield 128) := by decide +kernel
theorem fe_87_157 : am_fe 87 157 = some (7, none, .iload_n 1) := by decide +kernel
theorem fe_87_158 : am_fe 87 158 = some (7, none, .iaload) := by decide +kernel
theorem fe_87_159 : am_fe 87 159 = some (7, none, .bipush 8) := by decide +kernel
theorem fe_87_161 : am_fe 87 161 = some (7, none, .if_icmp .ge 35) := by decide +kernel
theorem fe_87_164 : am_fe 87 164 = some (7, none, .aload_n 0) := by decide +kernel
theorem fe_87_165 : am_fe 87 165 = some (7, none, .getfield 31) := by decide +kernel
theorem fe_87_168 : am_fe 87 168 = some (7, none, .iload_n 1) := by decide +kernel
theorem fe_87_169 : am_fe 87 169 = some (7, none, .aload_n 0) := by decide +kernel
theorem fe_87_170 : am_fe 87 170 = some (7, none, .getfield 27) := by decide +kernel
theorem fe_87_173 : am_fe 87 173 = some (7, none, .getfield 131) := by decide +kernel
theorem fe_87_176 : am_fe 87 176 = some (7, none, .iload 5) := by decide +kernel
theorem fe_87_178 : am_fe 87 178 = some (7, none, .iaload) := by decide +kernel
theorem fe_87_179 : am_fe 87 179 = some (7, none, .invokevirtual 134) := by decide +kernel
theorem fe_87_182 : am_fe 87 182 = some (7, none, .aload_n 0) := by decide +kernel
theorem fe_87_183 : am_fe 87 183 = some (7, none, .getfield 31) := by decide +kernel
theorem fe_87_186 : am_fe 87 186 = some (7, none, .getfield 138) := by decide +kernel
theorem fe_87_189 : am_fe 87 189 = some (7, none, .iload 5) := by decide +kernel
theorem fe_87_191 : am_fe 87 191 = some (7, none, .dup2) := by decide +kernel
theorem fe_87_192 : am_fe 87 192 = some (7, none, .iaload) := by decide +kernel
theorem fe_87_193 : am_fe 87 193 = some (7, none, .iconst 1) := by decide +kernel
theorem fe_87_194 : am_fe 87 194 = some (7, none, .iadd) := by decide +kernel
theorem fe_87_195 : am_fe 87 195 = some (7, none, .iastore) := by decide +kernel
theorem fe_87_196 : am_fe 87 196 = some (7, none, .return_) := by decide +kernel
theorem fe_88_0 : am_fe 88 0 = some (9, none, .aload_n 0) := by decide +kernel
theorem fe_88_1 : am_fe 88 1 = some (9, none, .getfield 21) := by decide +kernel
theorem fe_88_4 : am_fe 88 4 = some (9, none, .iload_n 1) := by decide +kernel
theorem fe_88_5 : am_fe 88 5 = some (9, none, .iconst (-1)) := by decide +kernel
theorem fe_88_6 : am_fe 88 6 = some (9, none, .iastore) := by decide +kernel
theorem fe_88_7 : am_fe 88 7 = some (9, none, .aload_n 0) := by decide +kernel
theorem fe_88_8 : am_fe 88 8 = some (9, none, .getfield 34) := by decide +kernel
theorem fe_88_11 : am_fe 88 11 = some (9, none, .iload_n 1) := by decide +kernel
theorem fe_88_12 : am_fe 88 12 = some (9, none, .iconst 0) := by decide +kernel
theorem fe_88_13 : am_fe 88 13 = some (9, none, .iastore) := by decide +kernel
theorem fe_88_14 : am_fe 88 14 = some (9, none, .aload_n 0) := by decide +kernel
theorem fe_88_15 : am_fe 88 15 = some (9, none, .getfield 37) := by decide +kernel
theorem fe_88_18 : am_fe 88 18 = some (9, none, .iload_n 1) := by decide +kernel
theorem fe_88_19 : am_fe 88 19 = some (9, none, .iload_n 2) := by decide +kernel
theorem fe_88_20 : am_fe 88 20 = some (9, none, .iastore) := by decide +kernel
theorem fe_88_21 : am_fe 88 21 = some (9, none, .aload_n 0) := by decide +kernel
theorem fe_88_22 : am_fe 88 22 = some (9, none, .getfield 40) := by decide +kernel
theorem fe_88_25 : am_fe 88 25 = some (9, none, .iload_n 1) := by decide +kernel
theorem fe_88_26 : am_fe 88 26 = some (9, none, .iload_n 3) := by decide +kernel
theorem fe_88_27 : am_fe 88 27 = some (9, none, .iastore) := by decide +kernel
theorem fe_88_28 : am_fe 88 28 = some (9, none, .aload_n 0) := by decide +kernel
theorem fe_88_29 : am_fe 88 29 = some (9, none, .getfield 43) := by decide +kernel
theorem fe_88_32 : am_fe 88 32 = some (9, none, .iload_n 1) := by decide +kernel
theorem fe_88_33 : am_fe 88 33 = some (9, none, .aload_n 0) := by decide +kernel
theorem fe_88_34 : am_fe 88 34 = some (9, none, .getfield 9) := by decide +kernel
theorem fe_88_37 : am_fe 88 37 = some (9, none, .iastore) := by decide +kernel
theorem fe_88_38 : am_fe 88 38 = some (9, none, .return_) := by decide +kernel
theorem fe_89_0 : am_fe 89 0 = some (9, none, .aload_n 0) := by decide +kernel
theorem fe_89_1 : am_fe 89 1 = some (9, none, .getfield 25) := by decide +kernel
theorem fe_89_4 : am_fe 89 4 = some (9, none, .iload_n 1) := by decide +kernel
theorem fe_89_5 : am_fe 89 5 = some (9, none, .aload_n 0) := by decide +kernel
theorem fe_89_6 : am_fe 89 6 = some (9, none, .getfield 25) := by decide +kernel
theorem fe_89_9 : am_fe 89 9 = some (9, none, .iload_n 1) := by decide +kernel
theorem fe_89_10 : am_fe 89 10 = some (9, none, .iaload) := by decide +kernel
theorem fe_89_11 : am_fe 89 11 = some (9, none, .bipush 10) := by decide +kernel
theorem fe_89_13 : am_fe 89 13 = some (9, none, .imul) := by decide +kernel
theorem fe_89_14 : am_fe 89 14 = some (9, none, .iload_n 2) := by decide +kernel
theorem fe_89_15 : am_fe 89 15 = some (9, none, .iadd) := by decide +kernel
theorem fe_89_16 : am_fe 89 16 = some (9, none, .iastore) := by decide +kernel
theorem fe_89_17 : am_fe 89 17 = some (9, none, .aload_n 0) := by decide +kernel
theorem fe_89_18 : am_fe 89 18 = some (9, none, .getfield 31) := by decide +kernel
theorem fe_89_21 : am_fe 89 21 = some (9, none, .iload_n 1) := by decide +kernel
theorem fe_89_22 : am_fe 89 22 = some (9, none, .dup2) := by decide +kernel
theorem fe_89_23 : am_fe 89 23 = some (9, none, .iaload) := by decide +kernel
theorem fe_89_24 : am_fe 89 24 = some (9, none, .iconst 1) := by decide +kernel
theorem fe_89_25 : am_fe 89 25 = some (9, none, .iload_n 2) := by decide +kernel
theorem fe_89_26 : am_fe 89 26 = some (9, none, .ishl) := by decide +kernel
theorem fe_89_27 : am_fe 89 27 = some (9, none, .ior) := by decide +kernel
theorem fe_89_28 : am_fe 89 28 = some (9, none, .iastore) := by decide +kernel
theorem fe_89_29 : am_fe 89 29 = some (9, none, .aload_n 0) := by decide +kernel
theorem fe_89_30 : am_fe 89 30 = some (9, none, .getfield 28) := by decide +kernel
theorem fe_89_33 : am_fe 89 33 = some (9, none, .iload_n 1) := by decide +kernel
theorem fe_89_34 : am_fe 89 34 = some (9, none, .dup2) := by decide +kernel
theorem fe_89_35 : am_fe 89 35 = some (9, none, .iaload) := by decide +kernel
theorem fe_89_36 : am_fe 89 36 = some (9, none, .iconst 1) := by decide +kernel
theorem fe_89_37 : am_fe 89 37 = some (9, none, .iadd) := by decide +kernel
theorem fe_89_38 : am_fe 89 38 = some (9, none, .iastore) := by decide +kernel
theorem fe_89_39 : am_fe 89 39 = some (9, none, .return_) := by decide +kernel
theorem fe_90_0 : am_fe 90 0 = some (9, some .int, .iconst 0) := by decide +kernel
theorem fe_90_1 : am_fe 90 1 = some (9, some .int, .istore_n 2) := by decide +kernel
theorem fe_90_2 : am_fe 90 2 = some (9, some .int, .iconst 0) := by decide +kernel
theorem fe_90_3 : am_fe 90 3 = some (9, some .int, .istore_n 3) := by decide +kernel
theorem fe_90_4 : am_fe 90 4 = some (9, some .int, .iconst 0) := by decide +kernel
theorem fe_90_5 : am_fe 90 5 = some (9, some .int, .istore 4) := by decide +kernel
theorem fe_90_7 : am_fe 90 7 = some (9, some .int, .iload 4) := by decide +kernel
theorem fe_90_9 : am_fe 90 9 = some (9, some .int, .aload_n 0) := by decide +kernel
theorem fe_90_10 : am_fe 90 10 = some (9, some .int, .getfield 15) := by decide +kernel
theorem fe_90_13 : am_fe 90 13 = some (9, some .int, .if_icmp .ge 42) := by decide +kernel
theorem fe_90_16 : am_fe 90 16 = some (9, some .int, .aload_n 0) := by decide +kernel
theorem fe_90_17 : am_fe 90 17 = some (9, some .int, .getfield 21) := by decide +kernel
theorem fe_90_20 : am_fe 90 20 = some (9, some .int, .iload 4) := by decide +kernel
theorem fe_90_22 : am_fe 90 22 = some (9, some .int, .iaload) := by decide +kernel
theorem fe_90_23 : am_fe 90 23 = some (9, some .int, .ifCond .lt 26) := by decide +kernel
theorem fe_90_26 : am_fe 90 26 = some (9, some .int, .iconst 1) := by decide +kernel
theorem fe_90_27 : am_fe 90 27 = some (9, some .int, .aload_n 0) := by decide +kernel
theorem fe_90_28 : am_fe 90 28 = some (9, some .int, .getfield 21) := by decide +kernel
theorem fe_90_31 : am_fe 90 31 = some (9, some .int, .iload 4) := by decide +kernel
theorem fe_90_33 : am_fe 90 33 = some (9, some .int, .iaload) := by decide +kernel
theorem fe_90_34 : am_fe 90 34 = some (9, some .int, .ishl) := by decide +kernel
theorem fe_90_35 : am_fe 90 35 = some (9, some .int, .istore 5) := by decide +kernel
theorem fe_90_37 : am_fe 90 37 = some (9, some .int, .iload_n 3) := by decide +kernel
theorem fe_90_38 : am_fe 90 38 = some (9, some .int, .iload_n 2) := by decide +kernel
theorem fe_90_39 : am_fe 90 39 = some (9, some .int, .iload 5) := by decide +kernel
theorem fe_90_41 : am_fe 90 41 = some (9, some .int, .iand) := by decide +kernel
theorem fe_90_42 : am_fe 90 42 = some (9, some .int, .ior) := by decide +kernel
theorem fe_90_43 : am_fe 90 43 = some (9, some .int, .istore_n 3) := by decide +kernel
theorem fe_90_44 : am_fe 90 44 = some (9, some .int, .iload_n 2) := by decide +kernel
theorem fe_90_45 : am_fe 90 45 = some (9, some .int, .iload 5) := by decide +kernel
theorem fe_90_47 : am_fe 90 47 = some (9, some .int, .ior) := by decide +kernel
theorem fe_90_48 : am_fe 90 48 = some (9, some .int, .istore_n 2) := by decide +kernel
theorem fe_90_49 : am_fe 90 49 = some (9, some .int, .iinc 4 1) := by decide +kernel
theorem fe_90_52 : am_fe 90 52 = some (9, some .int, .goto (-45)) := by decide +kernel
theorem fe_90_55 : am_fe 90 55 = some (9, some .int, .iload_n 1) := by decide +kernel
theorem fe_90_56 : am_fe 90 56 = some (9, some .int, .iconst 1) := by decide +kernel
theorem fe_90_57 : am_fe 90 57 = some (9, some .int, .if_icmp .ne 7) := by decide +kernel
theorem fe_90_60 : am_fe 90 60 = some (9, some .int, .iload_n 2) := by decide +kernel
theorem fe_90_61 : am_fe 90 61 = some (9, some .int, .goto 4) := by decide +kernel
theorem fe_90_64 : am_fe 90 64 = some (9, some .int, .iload_n 3) := by decide +kernel
theorem fe_90_65 : am_fe 90 65 = some (9, some .int, .ireturn) := by decide +kernel
theorem fe_91_0 : am_fe 91 0 = some (7, some .boolean, .aload_n 0) := by decide +kernel
theorem fe_91_1 : am_fe 91 1 = some (7, some .boolean, .getfield 31) := by decide +kernel
theorem fe_91_4 : am_fe 91 4 = some (7, some .boolean, .iload_n 1) := by decide +kernel
theorem fe_91_5 : am_fe 91 5 = some (7, some .boolean, .invokevirtual 141) := by decide +kernel
theorem fe_91_8 : am_fe 91 8 = some (7, some .boolean, .invokestatic 144) := by decide +kernel
theorem fe_91_11 : am_fe 91 11 = some (7, some .boolean, .istore_n 2) := by decide +kernel
theorem fe_91_12 : am_fe 91 12 = some (7, some .boolean, .iconst 0) := by decide +kernel
theorem fe_91_13 : am_fe 91 13 = some (7, some .boolean, .istore_n 3) := by decide +kernel
theorem fe_91_14 : am_fe 91 14 = some (7, some .boolean, .iload_n 3) := by decide +kernel
theorem fe_91_15 : am_fe 91 15 = some (7, some .boolean, .aload_n 0) := by decide +kernel
theorem fe_91_16 : am_fe 91 16 = some (7, some .boolean, .getfield 31) := by decide +kernel
theorem fe_91_19 : am_fe 91 19 = some (7, some .boolean, .getfield 88) := by decide +kernel
theorem fe_91_22 : am_fe 91 22 = some (7, some .boolean, .if_icmp .ge 95) := by decide +kernel
theorem fe_91_25 : am_fe 91 25 = some (7, some .boolean, .aload_n 0) := by decide +kernel
theorem fe_91_26 : am_fe 91 26 = some (7, some .boolean, .getfield 31) := by decide +kernel
theorem fe_91_29 : am_fe 91 29 = some (7, some .boolean, .getfield 80) := by decide +kernel
theorem fe_91_32 : am_fe 91 32 = some (7, some .boolean, .iload_n 3) := by decide +kernel
theorem fe_91_33 : am_fe 91 33 = some (7, some .boolean, .iaload) := by decide +kernel
theorem fe_91_34 : am_fe 91 34 = some (7, some .boolean, .iload_n 1) := by decide +kernel
theorem fe_91_35 : am_fe 91 35 = some (7, some .boolean, .if_icmp .eq 6) := by decide +kernel
theorem fe_91_38 : am_fe 91 38 = some (7, some .boolean, .goto 73) := by decide +kernel
theorem fe_91_41 : am_fe 91 41 = some (7, some .boolean, .iload_n 3) := by decide +kernel
theorem fe_91_42 : am_fe 91 42 = some (7, some .boolean, .iconst 1) := by decide +kernel
theorem fe_91_43 : am_fe 91 43 = some (7, some .boolean, .iadd) := by decide +kernel
theorem fe_91_44 : am_fe 91 44 = some (7, some .boolean, .istore 4) := by decide +kernel
theorem fe_91_46 : am_fe 91 46 = some (7, some .boolean, .iload 4) := by decide +kernel
theorem fe_91_48 : am_fe 91 48 = some (7, some .boolean, .aload_n 0) := by decide +kernel
theorem fe_91_49 : am_fe 91 49 = some (7, some .boolean, .getfield 31) := by decide +kernel
theorem fe_91_52 : am_fe 91 52 = some (7, some .boolean, .getfield 88) := by decide +kernel
theorem fe_91_55 : am_fe 91 55 = some (7, some .boolean, .if_icmp .ge 56) := by decide +kernel
theorem fe_91_58 : am_fe 91 58 = some (7, some .boolean, .aload_n 0) := by decide +kernel
theorem fe_91_59 : am_fe 91 59 = some (7, some .boolean, .getfield 31) := by decide +kernel
theorem fe_91_62 : am_fe 91 62 = some (7, some .boolean, .getfield 80) := by decide +kernel
theorem fe_91_65 : am_fe 91 65 = some (7, some .boolean, .iload 4) := by decide +kernel
theorem fe_91_67 : am_fe 91 67 = some (7, some .boolean, .iaload) := by decide +kernel
theorem fe_91_68 : am_fe 91 68 = some (7, some .boolean, .iload_n 1) := by decide +kernel
theorem fe_91_69 : am_fe 91 69 = some (7, some .boolean, .if_icmp .ne 36) := by decide +kernel
theorem fe_91_72 : am_fe 91 72 = some (7, some .boolean, .aload_n 0) := by decide +kernel
theorem fe_91_73 : am_fe 91 73 = some (7, some .boolean, .iload_n 3) := by decide +kernel
theorem fe_91_74 : am_fe 91 74 = some (7, some .boolean, .iload 4) := by decide +kernel
theorem fe_91_76 : am_fe 91 76 = some (7, some .boolean, .iload_n 2) := by decide +kernel
theorem fe_91_77 : am_fe 91 77 = some (7, some .boolean, .invokevirtual 149) := by decide +kernel
theorem fe_91_80 : am_fe 91 80 = some (7, some .boolean, .ifCond .eq 25) := by decide +kernel
theorem fe_91_83 : am_fe 91 83 = some (7, some .boolean, .aload_n 0) := by decide +kernel
theorem fe_91_84 : am_fe 91 84 = some (7, some .boolean, .getfield 31) := by decide +kernel
theorem fe_91_87 : am_fe 91 87 = some (7, some .boolean, .iload_n 3) := by decide +kernel
theorem fe_91_88 : am_fe 91 88 = some (7, some .boolean, .iload 4) := by decide +kernel
theorem fe_91_90 : am_fe 91 90 = some (7, some .boolean, .invokevirtual 153) := by decide +kernel
theorem fe_91_93 : am_fe 91 93 = some (7, some .boolean, .aload_n 0) := by decide +kernel
theorem fe_91_94 : am_fe 91 94 = some (7, some .boolean, .dup) := by decide +kernel
theorem fe_91_95 : am_fe 91 95 = some (7, some .boolean, .getfield 45) := by decide +kernel
theorem fe_91_98 : am_fe 91 98 = some (7, some .boolean, .iconst 1) := by decide +kernel
theorem fe_91_99 : am_fe 91 99 = some (7, some .boolean, .iadd) := by decide +kernel
theorem fe_91_100 : am_fe 91 100 = some (7, some .boolean, .putfield 45) := by decide +kernel
theorem fe_91_103 : am_fe 91 103 = some (7, some .boolean, .iconst 1) := by decide +kernel
theorem fe_91_104 : am_fe 91 104 = some (7, some .boolean, .ireturn) := by decide +kernel
theorem fe_91_105 : am_fe 91 105 = some (7, some .boolean, .iinc 4 1) := by decide +kernel
theorem fe_91_108 : am_fe 91 108 = some (7, some .boolean, .goto (-62)) := by decide +kernel
theorem fe_91_111 : am_fe 91 111 = some (7, some .boolean, .iinc 3 1) := by decide +kernel
theorem fe_91_114 : am_fe 91 114 = some (7, some .boolean, .goto (-100)) := by decide +kernel
theorem fe_91_117 : am_fe 91 117 = some (7, some .boolean, .iconst 0) := by decide +kernel
theorem fe_91_118 : am_fe 91 118 = some (7, some .boolean, .ireturn) := by decide +kernel
theorem fe_92_0 : am_fe 92 0 = some (15, some .int, .iload_n 0) := by decide +kernel
theorem fe_92_1 : am_fe 92 1 = some (15, some .int, .iload_n 0) := by decide +kernel
theorem fe_92_2 : am_fe 92 2 = some (15, some .int, .iconst 1) := by decide +kernel
theorem fe_92_3 : am_fe 92 3 = some (15, some .int, .iushr) := by decide +kernel
theorem fe_92_4 : am_fe 92 4 = some (15, some .int, .ldc_w 265) := by decide +kernel
theorem fe_92_7 : am_fe 92 7 = some (15, some .int, .iand) := by decide +kernel
theorem fe_92_8 : am_fe 92 8 = some (15, some .int, .isub) := by decide +kernel
theorem fe_92_9 : am_fe 92 9 = some (15, some .int, .istore_n 0) := by decide +kernel
theorem fe_92_10 : am_fe 92 10 = some (15, some .int, .iload_n 0) := by decide +kernel
theorem fe_92_11 : am_fe 92 11 = some (15, some .int, .ldc_w 266) := by decide +kernel
theorem fe_92_14 : am_fe 92 14 = some (15, some .int, .iand) := by decide +kernel
theorem fe_92_15 : am_fe 92 15 = some (15, some .int, .iload_n 0) := by decide +kernel
theorem fe_92_16 : am_fe 92 16 = some (15, some .int, .iconst 2) := by decide +kernel
theorem fe_92_17 : am_fe 92 17 = some (15, some .int, .iushr) := by decide +kernel
