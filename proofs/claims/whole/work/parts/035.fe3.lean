theorem fe_123_22 : am_fe 123 22 = some (2, some .int, .invokestatic 62) := by decide +kernel
theorem fe_123_25 : am_fe 123 25 = some (2, some .int, .iadd) := by decide +kernel
theorem fe_123_26 : am_fe 123 26 = some (2, some .int, .ishr) := by decide +kernel
theorem fe_123_27 : am_fe 123 27 = some (2, some .int, .ior) := by decide +kernel
theorem fe_123_28 : am_fe 123 28 = some (2, some .int, .ireturn) := by decide +kernel
theorem fe_124_0 : am_fe 124 0 = some (11, some .int, .aload_n 0) := by decide +kernel
theorem fe_124_1 : am_fe 124 1 = some (11, some .int, .iload_n 2) := by decide +kernel
theorem fe_124_2 : am_fe 124 2 = some (11, some .int, .invokevirtual 124) := by decide +kernel
theorem fe_124_5 : am_fe 124 5 = some (11, some .int, .ifCond .eq 28) := by decide +kernel
theorem fe_124_8 : am_fe 124 8 = some (11, some .int, .iload_n 1) := by decide +kernel
theorem fe_124_9 : am_fe 124 9 = some (11, some .int, .invokestatic 198) := by decide +kernel
theorem fe_124_12 : am_fe 124 12 = some (11, some .int, .ifCond .eq 21) := by decide +kernel
theorem fe_124_15 : am_fe 124 15 = some (11, some .int, .iload_n 3) := by decide +kernel
theorem fe_124_16 : am_fe 124 16 = some (11, some .int, .invokestatic 254) := by decide +kernel
theorem fe_124_19 : am_fe 124 19 = some (11, some .int, .ifCond .eq 14) := by decide +kernel
theorem fe_124_22 : am_fe 124 22 = some (11, some .int, .iload 4) := by decide +kernel
theorem fe_124_24 : am_fe 124 24 = some (11, some .int, .ifCond .lt 9) := by decide +kernel
theorem fe_124_27 : am_fe 124 27 = some (11, some .int, .iload 4) := by decide +kernel
theorem fe_124_29 : am_fe 124 29 = some (11, some .int, .iconst 1) := by decide +kernel
theorem fe_124_30 : am_fe 124 30 = some (11, some .int, .if_icmp .le 5) := by decide +kernel
theorem fe_124_33 : am_fe 124 33 = some (11, some .int, .iconst (-1)) := by decide +kernel
theorem fe_124_34 : am_fe 124 34 = some (11, some .int, .ireturn) := by decide +kernel
theorem fe_124_35 : am_fe 124 35 = some (11, some .int, .bipush (-2)) := by decide +kernel
theorem fe_124_37 : am_fe 124 37 = some (11, some .int, .istore 5) := by decide +kernel
theorem fe_124_39 : am_fe 124 39 = some (11, some .int, .iconst 0) := by decide +kernel
theorem fe_124_40 : am_fe 124 40 = some (11, some .int, .istore 6) := by decide +kernel
theorem fe_124_42 : am_fe 124 42 = some (11, some .int, .iconst 0) := by decide +kernel
theorem fe_124_43 : am_fe 124 43 = some (11, some .int, .istore 7) := by decide +kernel
theorem fe_124_45 : am_fe 124 45 = some (11, some .int, .iload 7) := by decide +kernel
theorem fe_124_47 : am_fe 124 47 = some (11, some .int, .aload_n 0) := by decide +kernel
theorem fe_124_48 : am_fe 124 48 = some (11, some .int, .getfield 43) := by decide +kernel
theorem fe_124_51 : am_fe 124 51 = some (11, some .int, .getfield 83) := by decide +kernel
theorem fe_124_54 : am_fe 124 54 = some (11, some .int, .getfield 257) := by decide +kernel
theorem fe_124_57 : am_fe 124 57 = some (11, some .int, .if_icmp .ge 91) := by decide +kernel
theorem fe_124_60 : am_fe 124 60 = some (11, some .int, .aload_n 0) := by decide +kernel
theorem fe_124_61 : am_fe 124 61 = some (11, some .int, .getfield 54) := by decide +kernel
theorem fe_124_64 : am_fe 124 64 = some (11, some .int, .aload_n 0) := by decide +kernel
theorem fe_124_65 : am_fe 124 65 = some (11, some .int, .getfield 43) := by decide +kernel
theorem fe_124_68 : am_fe 124 68 = some (11, some .int, .aload_n 0) := by decide +kernel
theorem fe_124_69 : am_fe 124 69 = some (11, some .int, .invokevirtual 179) := by decide +kernel
theorem fe_124_72 : am_fe 124 72 = some (11, some .int, .invokevirtual 231) := by decide +kernel
theorem fe_124_75 : am_fe 124 75 = some (11, some .int, .aload_n 0) := by decide +kernel
theorem fe_124_76 : am_fe 124 76 = some (11, some .int, .getfield 54) := by decide +kernel
theorem fe_124_79 : am_fe 124 79 = some (11, some .int, .getfield 238) := by decide +kernel
theorem fe_124_82 : am_fe 124 82 = some (11, some .int, .iload 7) := by decide +kernel
theorem fe_124_84 : am_fe 124 84 = some (11, some .int, .iload_n 1) := by decide +kernel
theorem fe_124_85 : am_fe 124 85 = some (11, some .int, .invokevirtual 201) := by decide +kernel
theorem fe_124_88 : am_fe 124 88 = some (11, some .int, .istore 8) := by decide +kernel
theorem fe_124_90 : am_fe 124 90 = some (11, some .int, .iload 8) := by decide +kernel
theorem fe_124_92 : am_fe 124 92 = some (11, some .int, .ifCond .ge 6) := by decide +kernel
theorem fe_124_95 : am_fe 124 95 = some (11, some .int, .goto 47) := by decide +kernel
theorem fe_124_98 : am_fe 124 98 = some (11, some .int, .aload_n 0) := by decide +kernel
theorem fe_124_99 : am_fe 124 99 = some (11, some .int, .getfield 54) := by decide +kernel
theorem fe_124_102 : am_fe 124 102 = some (11, some .int, .iload 8) := by decide +kernel
theorem fe_124_104 : am_fe 124 104 = some (11, some .int, .iload_n 3) := by decide +kernel
theorem fe_124_105 : am_fe 124 105 = some (11, some .int, .invokevirtual 235) := by decide +kernel
theorem fe_124_108 : am_fe 124 108 = some (11, some .int, .aload_n 0) := by decide +kernel
theorem fe_124_109 : am_fe 124 109 = some (11, some .int, .getfield 54) := by decide +kernel
theorem fe_124_112 : am_fe 124 112 = some (11, some .int, .getfield 238) := by decide +kernel
theorem fe_124_115 : am_fe 124 115 = some (11, some .int, .getfield 151) := by decide +kernel
theorem fe_124_118 : am_fe 124 118 = some (11, some .int, .iload 8) := by decide +kernel
theorem fe_124_120 : am_fe 124 120 = some (11, some .int, .iaload) := by decide +kernel
theorem fe_124_121 : am_fe 124 121 = some (11, some .int, .iload_n 2) := by decide +kernel
theorem fe_124_122 : am_fe 124 122 = some (11, some .int, .if_icmp .ne 20) := by decide +kernel
theorem fe_124_125 : am_fe 124 125 = some (11, some .int, .iload 6) := by decide +kernel
theorem fe_124_127 : am_fe 124 127 = some (11, some .int, .ifCond .ne 8) := by decide +kernel
theorem fe_124_130 : am_fe 124 130 = some (11, some .int, .iload 7) := by decide +kernel
theorem fe_124_132 : am_fe 124 132 = some (11, some .int, .goto 5) := by decide +kernel
theorem fe_124_135 : am_fe 124 135 = some (11, some .int, .iload 5) := by decide +kernel
theorem fe_124_137 : am_fe 124 137 = some (11, some .int, .istore 5) := by decide +kernel
theorem fe_124_139 : am_fe 124 139 = some (11, some .int, .iinc 6 1) := by decide +kernel
theorem fe_124_142 : am_fe 124 142 = some (11, some .int, .iinc 7 1) := by decide +kernel
theorem fe_124_145 : am_fe 124 145 = some (11, some .int, .goto (-100)) := by decide +kernel
theorem fe_124_148 : am_fe 124 148 = some (11, some .int, .iload 4) := by decide +kernel
theorem fe_124_150 : am_fe 124 150 = some (11, some .int, .ifCond .ne 8) := by decide +kernel
theorem fe_124_153 : am_fe 124 153 = some (11, some .int, .iload 6) := by decide +kernel
theorem fe_124_155 : am_fe 124 155 = some (11, some .int, .goto 5) := by decide +kernel
theorem fe_124_158 : am_fe 124 158 = some (11, some .int, .iload 5) := by decide +kernel
theorem fe_124_160 : am_fe 124 160 = some (11, some .int, .ireturn) := by decide +kernel
theorem fe_125_0 : am_fe 125 0 = some (11, some .boolean, .iload_n 0) := by decide +kernel
theorem fe_125_1 : am_fe 125 1 = some (11, some .boolean, .iconst 1) := by decide +kernel
theorem fe_125_2 : am_fe 125 2 = some (11, some .boolean, .if_icmp .lt 13) := by decide +kernel
theorem fe_125_5 : am_fe 125 5 = some (11, some .boolean, .iload_n 0) := by decide +kernel
theorem fe_125_6 : am_fe 125 6 = some (11, some .boolean, .bipush 60) := by decide +kernel
theorem fe_125_8 : am_fe 125 8 = some (11, some .boolean, .if_icmp .gt 7) := by decide +kernel
theorem fe_125_11 : am_fe 125 11 = some (11, some .boolean, .iconst 1) := by decide +kernel
theorem fe_125_12 : am_fe 125 12 = some (11, some .boolean, .goto 4) := by decide +kernel
theorem fe_125_15 : am_fe 125 15 = some (11, some .boolean, .iconst 0) := by decide +kernel
theorem fe_125_16 : am_fe 125 16 = some (11, some .boolean, .ireturn) := by decide +kernel
theorem fe_126_0 : am_fe 126 0 = some (11, some .int, .aload_n 0) := by decide +kernel
theorem fe_126_1 : am_fe 126 1 = some (11, some .int, .invokevirtual 169) := by decide +kernel
theorem fe_126_4 : am_fe 126 4 = some (11, some .int, .ifCond .eq 13) := by decide +kernel
theorem fe_126_7 : am_fe 126 7 = some (11, some .int, .iload_n 2) := by decide +kernel
theorem fe_126_8 : am_fe 126 8 = some (11, some .int, .ifCond .lt 9) := by decide +kernel
theorem fe_126_11 : am_fe 126 11 = some (11, some .int, .iload_n 2) := by decide +kernel
theorem fe_126_12 : am_fe 126 12 = some (11, some .int, .bipush 12) := by decide +kernel
theorem fe_126_14 : am_fe 126 14 = some (11, some .int, .if_icmp .le 5) := by decide +kernel
theorem fe_126_17 : am_fe 126 17 = some (11, some .int, .iconst (-1)) := by decide +kernel
theorem fe_126_18 : am_fe 126 18 = some (11, some .int, .ireturn) := by decide +kernel
theorem fe_126_19 : am_fe 126 19 = some (11, some .int, .iconst 1) := by decide +kernel
theorem fe_126_20 : am_fe 126 20 = some (11, some .int, .aload_n 0) := by decide +kernel
theorem fe_126_21 : am_fe 126 21 = some (11, some .int, .getfield 43) := by decide +kernel
theorem fe_126_24 : am_fe 126 24 = some (11, some .int, .getfield 94) := by decide +kernel
theorem fe_126_27 : am_fe 126 27 = some (11, some .int, .getfield 113) := by decide +kernel
theorem fe_126_30 : am_fe 126 30 = some (11, some .int, .ishl) := by decide +kernel
theorem fe_126_31 : am_fe 126 31 = some (11, some .int, .iconst 1) := by decide +kernel
theorem fe_126_32 : am_fe 126 32 = some (11, some .int, .isub) := by decide +kernel
theorem fe_126_33 : am_fe 126 33 = some (11, some .int, .istore_n 3) := by decide +kernel
theorem fe_126_34 : am_fe 126 34 = some (11, some .int, .iload_n 1) := by decide +kernel
theorem fe_126_35 : am_fe 126 35 = some (11, some .int, .iload_n 3) := by decide +kernel
theorem fe_126_36 : am_fe 126 36 = some (11, some .int, .iconst (-1)) := by decide +kernel
theorem fe_126_37 : am_fe 126 37 = some (11, some .int, .ixor) := by decide +kernel
theorem fe_126_38 : am_fe 126 38 = some (11, some .int, .iand) := by decide +kernel
theorem fe_126_39 : am_fe 126 39 = some (11, some .int, .ifCond .ne 12) := by decide +kernel
theorem fe_126_42 : am_fe 126 42 = some (11, some .int, .iload_n 1) := by decide +kernel
theorem fe_126_43 : am_fe 126 43 = some (11, some .int, .invokestatic 249) := by decide +kernel
theorem fe_126_46 : am_fe 126 46 = some (11, some .int, .bipush 8) := by decide +kernel
theorem fe_126_48 : am_fe 126 48 = some (11, some .int, .if_icmp .le 5) := by decide +kernel
theorem fe_126_51 : am_fe 126 51 = some (11, some .int, .iconst (-1)) := by decide +kernel
theorem fe_126_52 : am_fe 126 52 = some (11, some .int, .ireturn) := by decide +kernel
theorem fe_126_53 : am_fe 126 53 = some (11, some .int, .aload_n 0) := by decide +kernel
theorem fe_126_54 : am_fe 126 54 = some (11, some .int, .getfield 68) := by decide +kernel
theorem fe_126_57 : am_fe 126 57 = some (11, some .int, .aload_n 0) := by decide +kernel
theorem fe_126_58 : am_fe 126 58 = some (11, some .int, .getfield 43) := by decide +kernel
theorem fe_126_61 : am_fe 126 61 = some (11, some .int, .getfield 94) := by decide +kernel
theorem fe_126_64 : am_fe 126 64 = some (11, some .int, .iload_n 1) := by decide +kernel
theorem fe_126_65 : am_fe 126 65 = some (11, some .int, .invokevirtual 260) := by decide +kernel
theorem fe_126_68 : am_fe 126 68 = some (11, some .int, .iload_n 2) := by decide +kernel
theorem fe_126_69 : am_fe 126 69 = some (11, some .int, .ifCond .ne 11) := by decide +kernel
theorem fe_126_72 : am_fe 126 72 = some (11, some .int, .aload_n 0) := by decide +kernel
theorem fe_126_73 : am_fe 126 73 = some (11, some .int, .getfield 68) := by decide +kernel
theorem fe_126_76 : am_fe 126 76 = some (11, some .int, .invokevirtual 264) := by decide +kernel
theorem fe_126_79 : am_fe 126 79 = some (11, some .int, .ireturn) := by decide +kernel
theorem fe_126_80 : am_fe 126 80 = some (11, some .int, .aload_n 0) := by decide +kernel
theorem fe_126_81 : am_fe 126 81 = some (11, some .int, .getfield 68) := by decide +kernel
theorem fe_126_84 : am_fe 126 84 = some (11, some .int, .iload_n 2) := by decide +kernel
theorem fe_126_85 : am_fe 126 85 = some (11, some .int, .iconst 1) := by decide +kernel
theorem fe_126_86 : am_fe 126 86 = some (11, some .int, .isub) := by decide +kernel
theorem fe_126_87 : am_fe 126 87 = some (11, some .int, .invokevirtual 267) := by decide +kernel
theorem fe_126_90 : am_fe 126 90 = some (11, some .int, .istore 4) := by decide +kernel
theorem fe_126_92 : am_fe 126 92 = some (11, some .int, .iload 4) := by decide +kernel
theorem fe_126_94 : am_fe 126 94 = some (11, some .int, .ifCond .ge 8) := by decide +kernel
theorem fe_126_97 : am_fe 126 97 = some (11, some .int, .bipush (-2)) := by decide +kernel
theorem fe_126_99 : am_fe 126 99 = some (11, some .int, .goto 5) := by decide +kernel
theorem fe_126_102 : am_fe 126 102 = some (11, some .int, .iload 4) := by decide +kernel
theorem fe_126_104 : am_fe 126 104 = some (11, some .int, .ireturn) := by decide +kernel
theorem fe_127_0 : am_fe 127 0 = some (3, none, .aload_n 0) := by decide +kernel
theorem fe_127_1 : am_fe 127 1 = some (3, none, .iconst 0) := by decide +kernel
theorem fe_127_2 : am_fe 127 2 = some (3, none, .putfield 24) := by decide +kernel
theorem fe_127_5 : am_fe 127 5 = some (3, none, .iconst 0) := by decide +kernel
theorem fe_127_6 : am_fe 127 6 = some (3, none, .istore_n 3) := by decide +kernel
theorem fe_127_7 : am_fe 127 7 = some (3, none, .iload_n 3) := by decide +kernel
theorem fe_127_8 : am_fe 127 8 = some (3, none, .aload_n 1) := by decide +kernel
theorem fe_127_9 : am_fe 127 9 = some (3, none, .getfield 28) := by decide +kernel
theorem fe_127_12 : am_fe 127 12 = some (3, none, .if_icmp .ge 75) := by decide +kernel
theorem fe_127_15 : am_fe 127 15 = some (3, none, .iload_n 2) := by decide +kernel
theorem fe_127_16 : am_fe 127 16 = some (3, none, .iload_n 3) := by decide +kernel
theorem fe_127_17 : am_fe 127 17 = some (3, none, .ishr) := by decide +kernel
theorem fe_127_18 : am_fe 127 18 = some (3, none, .iconst 1) := by decide +kernel
theorem fe_127_19 : am_fe 127 19 = some (3, none, .iand) := by decide +kernel
theorem fe_127_20 : am_fe 127 20 = some (3, none, .iconst 1) := by decide +kernel
theorem fe_127_21 : am_fe 127 21 = some (3, none, .if_icmp .ne 60) := by decide +kernel
theorem fe_127_24 : am_fe 127 24 = some (3, none, .aload_n 0) := by decide +kernel
theorem fe_127_25 : am_fe 127 25 = some (3, none, .getfield 24) := by decide +kernel
theorem fe_127_28 : am_fe 127 28 = some (3, none, .bipush 8) := by decide +kernel
theorem fe_127_30 : am_fe 127 30 = some (3, none, .if_icmp .ge 51) := by decide +kernel
theorem fe_127_33 : am_fe 127 33 = some (3, none, .aload_n 0) := by decide +kernel
theorem fe_127_34 : am_fe 127 34 = some (3, none, .getfield 9) := by decide +kernel
theorem fe_127_37 : am_fe 127 37 = some (3, none, .aload_n 0) := by decide +kernel
theorem fe_127_38 : am_fe 127 38 = some (3, none, .getfield 24) := by decide +kernel
theorem fe_127_41 : am_fe 127 41 = some (3, none, .iload_n 3) := by decide +kernel
theorem fe_127_42 : am_fe 127 42 = some (3, none, .iastore) := by decide +kernel
theorem fe_127_43 : am_fe 127 43 = some (3, none, .aload_n 0) := by decide +kernel
theorem fe_127_44 : am_fe 127 44 = some (3, none, .getfield 15) := by decide +kernel
theorem fe_127_47 : am_fe 127 47 = some (3, none, .aload_n 0) := by decide +kernel
theorem fe_127_48 : am_fe 127 48 = some (3, none, .getfield 24) := by decide +kernel
theorem fe_127_51 : am_fe 127 51 = some (3, none, .aload_n 1) := by decide +kernel
theorem fe_127_52 : am_fe 127 52 = some (3, none, .iload_n 3) := by decide +kernel
theorem fe_127_53 : am_fe 127 53 = some (3, none, .invokevirtual 33) := by decide +kernel
theorem fe_127_56 : am_fe 127 56 = some (3, none, .iastore) := by decide +kernel
theorem fe_127_57 : am_fe 127 57 = some (3, none, .aload_n 0) := by decide +kernel
theorem fe_127_58 : am_fe 127 58 = some (3, none, .getfield 18) := by decide +kernel
theorem fe_127_61 : am_fe 127 61 = some (3, none, .aload_n 0) := by decide +kernel
theorem fe_127_62 : am_fe 127 62 = some (3, none, .getfield 24) := by decide +kernel
theorem fe_127_65 : am_fe 127 65 = some (3, none, .aload_n 1) := by decide +kernel
theorem fe_127_66 : am_fe 127 66 = some (3, none, .iload_n 3) := by decide +kernel
theorem fe_127_67 : am_fe 127 67 = some (3, none, .invokevirtual 37) := by decide +kernel
theorem fe_127_70 : am_fe 127 70 = some (3, none, .iastore) := by decide +kernel
theorem fe_127_71 : am_fe 127 71 = some (3, none, .aload_n 0) := by decide +kernel
theorem fe_127_72 : am_fe 127 72 = some (3, none, .dup) := by decide +kernel
theorem fe_127_73 : am_fe 127 73 = some (3, none, .getfield 24) := by decide +kernel
theorem fe_127_76 : am_fe 127 76 = some (3, none, .iconst 1) := by decide +kernel
theorem fe_127_77 : am_fe 127 77 = some (3, none, .iadd) := by decide +kernel
theorem fe_127_78 : am_fe 127 78 = some (3, none, .putfield 24) := by decide +kernel
theorem fe_127_81 : am_fe 127 81 = some (3, none, .iinc 3 1) := by decide +kernel
theorem fe_127_84 : am_fe 127 84 = some (3, none, .goto (-77)) := by decide +kernel
theorem fe_127_87 : am_fe 127 87 = some (3, none, .iconst 1) := by decide +kernel
theorem fe_127_88 : am_fe 127 88 = some (3, none, .aload_n 0) := by decide +kernel
theorem fe_127_89 : am_fe 127 89 = some (3, none, .getfield 24) := by decide +kernel
theorem fe_127_92 : am_fe 127 92 = some (3, none, .ishl) := by decide +kernel
theorem fe_127_93 : am_fe 127 93 = some (3, none, .iconst 1) := by decide +kernel
theorem fe_127_94 : am_fe 127 94 = some (3, none, .isub) := by decide +kernel
theorem fe_127_95 : am_fe 127 95 = some (3, none, .istore_n 3) := by decide +kernel
theorem fe_127_96 : am_fe 127 96 = some (3, none, .iload_n 3) := by decide +kernel
theorem fe_127_97 : am_fe 127 97 = some (3, none, .istore 4) := by decide +kernel
theorem fe_127_99 : am_fe 127 99 = some (3, none, .iload 4) := by decide +kernel
theorem fe_127_101 : am_fe 127 101 = some (3, none, .ifCond .le 69) := by decide +kernel
theorem fe_127_104 : am_fe 127 104 = some (3, none, .iconst 0) := by decide +kernel
theorem fe_127_105 : am_fe 127 105 = some (3, none, .istore 5) := by decide +kernel
theorem fe_127_107 : am_fe 127 107 = some (3, none, .iload 5) := by decide +kernel
theorem fe_127_109 : am_fe 127 109 = some (3, none, .aload_n 0) := by decide +kernel
theorem fe_127_110 : am_fe 127 110 = some (3, none, .getfield 24) := by decide +kernel
theorem fe_127_113 : am_fe 127 113 = some (3, none, .if_icmp .ge 51) := by decide +kernel
theorem fe_127_116 : am_fe 127 116 = some (3, none, .iload 4) := by decide +kernel
theorem fe_127_118 : am_fe 127 118 = some (3, none, .iload 5) := by decide +kernel
theorem fe_127_120 : am_fe 127 120 = some (3, none, .ishr) := by decide +kernel
theorem fe_127_121 : am_fe 127 121 = some (3, none, .iconst 1) := by decide +kernel
theorem fe_127_122 : am_fe 127 122 = some (3, none, .iand) := by decide +kernel
theorem fe_127_123 : am_fe 127 123 = some (3, none, .iconst 1) := by decide +kernel
theorem fe_127_124 : am_fe 127 124 = some (3, none, .if_icmp .ne 34) := by decide +kernel
theorem fe_127_127 : am_fe 127 127 = some (3, none, .aload_n 0) := by decide +kernel
theorem fe_127_128 : am_fe 127 128 = some (3, none, .getfield 21) := by decide +kernel
theorem fe_127_131 : am_fe 127 131 = some (3, none, .iload 4) := by decide +kernel
theorem fe_127_133 : am_fe 127 133 = some (3, none, .bipush 8) := by decide +kernel
theorem fe_127_135 : am_fe 127 135 = some (3, none, .imul) := by decide +kernel
theorem fe_127_136 : am_fe 127 136 = some (3, none, .iload 5) := by decide +kernel
theorem fe_127_138 : am_fe 127 138 = some (3, none, .iadd) := by decide +kernel
theorem fe_127_139 : am_fe 127 139 = some (3, none, .iload 4) := by decide +kernel
theorem fe_127_141 : am_fe 127 141 = some (3, none, .iload_n 3) := by decide +kernel
theorem fe_127_142 : am_fe 127 142 = some (3, none, .if_icmp .ne 7) := by decide +kernel
theorem fe_127_145 : am_fe 127 145 = some (3, none, .iconst 1) := by decide +kernel
theorem fe_127_146 : am_fe 127 146 = some (3, none, .goto 11) := by decide +kernel
theorem fe_127_149 : am_fe 127 149 = some (3, none, .aload_n 0) := by decide +kernel
theorem fe_127_150 : am_fe 127 150 = some (3, none, .iload 4) := by decide +kernel
theorem fe_127_152 : am_fe 127 152 = some (3, none, .iload 5) := by decide +kernel
theorem fe_127_154 : am_fe 127 154 = some (3, none, .invokevirtual 40) := by decide +kernel
theorem fe_127_157 : am_fe 127 157 = some (3, none, .iastore) := by decide +kernel
theorem fe_127_158 : am_fe 127 158 = some (3, none, .iinc 5 1) := by decide +kernel
theorem fe_127_161 : am_fe 127 161 = some (3, none, .goto (-54)) := by decide +kernel
theorem fe_127_164 : am_fe 127 164 = some (3, none, .iinc 4 (-1)) := by decide +kernel
theorem fe_127_167 : am_fe 127 167 = some (3, none, .goto (-68)) := by decide +kernel
theorem fe_127_170 : am_fe 127 170 = some (3, none, .return_) := by decide +kernel
theorem fe_128_0 : am_fe 128 0 = some (3, some .int, .iconst 0) := by decide +kernel
theorem fe_128_1 : am_fe 128 1 = some (3, some .int, .istore_n 3) := by decide +kernel
theorem fe_128_2 : am_fe 128 2 = some (3, some .int, .iconst 0) := by decide +kernel
theorem fe_128_3 : am_fe 128 3 = some (3, some .int, .istore 4) := by decide +kernel
theorem fe_128_5 : am_fe 128 5 = some (3, some .int, .iload 4) := by decide +kernel
theorem fe_128_7 : am_fe 128 7 = some (3, some .int, .aload_n 0) := by decide +kernel
theorem fe_128_8 : am_fe 128 8 = some (3, some .int, .getfield 24) := by decide +kernel
theorem fe_128_11 : am_fe 128 11 = some (3, some .int, .if_icmp .ge 40) := by decide +kernel
theorem fe_128_14 : am_fe 128 14 = some (3, some .int, .aload_n 0) := by decide +kernel
theorem fe_128_15 : am_fe 128 15 = some (3, some .int, .iload_n 1) := by decide +kernel
theorem fe_128_16 : am_fe 128 16 = some (3, some .int, .iload_n 2) := by decide +kernel
theorem fe_128_17 : am_fe 128 17 = some (3, some .int, .iload 4) := by decide +kernel
theorem fe_128_19 : am_fe 128 19 = some (3, some .int, .invokevirtual 44) := by decide +kernel
theorem fe_128_22 : am_fe 128 22 = some (3, some .int, .ifCond .eq 23) := by decide +kernel
theorem fe_128_25 : am_fe 128 25 = some (3, some .int, .iload_n 3) := by decide +kernel
theorem fe_128_26 : am_fe 128 26 = some (3, some .int, .aload_n 0) := by decide +kernel
theorem fe_128_27 : am_fe 128 27 = some (3, some .int, .getfield 21) := by decide +kernel
theorem fe_128_30 : am_fe 128 30 = some (3, some .int, .iload_n 1) := by decide +kernel
theorem fe_128_31 : am_fe 128 31 = some (3, some .int, .iconst 1) := by decide +kernel
theorem fe_128_32 : am_fe 128 32 = some (3, some .int, .iload 4) := by decide +kernel
theorem fe_128_34 : am_fe 128 34 = some (3, some .int, .ishl) := by decide +kernel
theorem fe_128_35 : am_fe 128 35 = some (3, some .int, .ior) := by decide +kernel
theorem fe_128_36 : am_fe 128 36 = some (3, some .int, .bipush 8) := by decide +kernel
theorem fe_128_38 : am_fe 128 38 = some (3, some .int, .imul) := by decide +kernel
theorem fe_128_39 : am_fe 128 39 = some (3, some .int, .iload 4) := by decide +kernel
theorem fe_128_41 : am_fe 128 41 = some (3, some .int, .iadd) := by decide +kernel
theorem fe_128_42 : am_fe 128 42 = some (3, some .int, .iaload) := by decide +kernel
theorem fe_128_43 : am_fe 128 43 = some (3, some .int, .iadd) := by decide +kernel
theorem fe_128_44 : am_fe 128 44 = some (3, some .int, .istore_n 3) := by decide +kernel
theorem fe_128_45 : am_fe 128 45 = some (3, some .int, .iinc 4 1) := by decide +kernel
theorem fe_128_48 : am_fe 128 48 = some (3, some .int, .goto (-43)) := by decide +kernel
theorem fe_128_51 : am_fe 128 51 = some (3, some .int, .iload_n 3) := by decide +kernel
theorem fe_128_52 : am_fe 128 52 = some (3, some .int, .ireturn) := by decide +kernel
theorem fe_129_0 : am_fe 129 0 = some (3, some .boolean, .iload_n 1) := by decide +kernel
theorem fe_129_1 : am_fe 129 1 = some (3, some .boolean, .iload_n 3) := by decide +kernel
theorem fe_129_2 : am_fe 129 2 = some (3, some .boolean, .ishr) := by decide +kernel
theorem fe_129_3 : am_fe 129 3 = some (3, some .boolean, .iconst 1) := by decide +kernel
theorem fe_129_4 : am_fe 129 4 = some (3, some .boolean, .iand) := by decide +kernel
theorem fe_129_5 : am_fe 129 5 = some (3, some .boolean, .ifCond .ne 26) := by decide +kernel
theorem fe_129_8 : am_fe 129 8 = some (3, some .boolean, .iload_n 2) := by decide +kernel
theorem fe_129_9 : am_fe 129 9 = some (3, some .boolean, .ifCond .lt 18) := by decide +kernel
theorem fe_129_12 : am_fe 129 12 = some (3, some .boolean, .aload_n 0) := by decide +kernel
theorem fe_129_13 : am_fe 129 13 = some (3, some .boolean, .getfield 18) := by decide +kernel
theorem fe_129_16 : am_fe 129 16 = some (3, some .boolean, .iload_n 2) := by decide +kernel
theorem fe_129_17 : am_fe 129 17 = some (3, some .boolean, .iaload) := by decide +kernel
theorem fe_129_18 : am_fe 129 18 = some (3, some .boolean, .aload_n 0) := by decide +kernel
theorem fe_129_19 : am_fe 129 19 = some (3, some .boolean, .getfield 15) := by decide +kernel
theorem fe_129_22 : am_fe 129 22 = some (3, some .boolean, .iload_n 3) := by decide +kernel
theorem fe_129_23 : am_fe 129 23 = some (3, some .boolean, .iaload) := by decide +kernel
theorem fe_129_24 : am_fe 129 24 = some (3, some .boolean, .if_icmp .ne 7) := by decide +kernel
theorem fe_129_27 : am_fe 129 27 = some (3, some .boolean, .iconst 1) := by decide +kernel
theorem fe_129_28 : am_fe 129 28 = some (3, some .boolean, .goto 4) := by decide +kernel
theorem fe_129_31 : am_fe 129 31 = some (3, some .boolean, .iconst 0) := by decide +kernel
theorem fe_129_32 : am_fe 129 32 = some (3, some .boolean, .ireturn) := by decide +kernel
theorem fe_130_0 : am_fe 130 0 = some (3, some .int, .aload_n 0) := by decide +kernel
theorem fe_130_1 : am_fe 130 1 = some (3, some .int, .getfield 24) := by decide +kernel
theorem fe_130_4 : am_fe 130 4 = some (3, some .int, .ifCond .ne 7) := by decide +kernel
theorem fe_130_7 : am_fe 130 7 = some (3, some .int, .iconst 1) := by decide +kernel
theorem fe_130_8 : am_fe 130 8 = some (3, some .int, .goto 9) := by decide +kernel
theorem fe_130_11 : am_fe 130 11 = some (3, some .int, .aload_n 0) := by decide +kernel
theorem fe_130_12 : am_fe 130 12 = some (3, some .int, .iconst 0) := by decide +kernel
theorem fe_130_13 : am_fe 130 13 = some (3, some .int, .iconst (-1)) := by decide +kernel
theorem fe_130_14 : am_fe 130 14 = some (3, some .int, .invokevirtual 40) := by decide +kernel
theorem fe_130_17 : am_fe 130 17 = some (3, some .int, .ireturn) := by decide +kernel
theorem fe_131_0 : am_fe 131 0 = some (3, some .int, .iload_n 1) := by decide +kernel
theorem fe_131_1 : am_fe 131 1 = some (3, some .int, .aload_n 0) := by decide +kernel
theorem fe_131_2 : am_fe 131 2 = some (3, some .int, .getfield 24) := by decide +kernel
theorem fe_131_5 : am_fe 131 5 = some (3, some .int, .if_icmp .lt 5) := by decide +kernel
theorem fe_131_8 : am_fe 131 8 = some (3, some .int, .iconst (-1)) := by decide +kernel
theorem fe_131_9 : am_fe 131 9 = some (3, some .int, .ireturn) := by decide +kernel
theorem fe_131_10 : am_fe 131 10 = some (3, some .int, .iconst 0) := by decide +kernel
theorem fe_131_11 : am_fe 131 11 = some (3, some .int, .istore_n 2) := by decide +kernel
theorem fe_131_12 : am_fe 131 12 = some (3, some .int, .iconst (-1)) := by decide +kernel
theorem fe_131_13 : am_fe 131 13 = some (3, some .int, .istore_n 3) := by decide +kernel
theorem fe_131_14 : am_fe 131 14 = some (3, some .int, .iconst 0) := by decide +kernel
theorem fe_131_15 : am_fe 131 15 = some (3, some .int, .istore 4) := by decide +kernel
theorem fe_131_17 : am_fe 131 17 = some (3, some .int, .iload 4) := by decide +kernel
theorem fe_131_19 : am_fe 131 19 = some (3, some .int, .iload_n 1) := by decide +kernel
theorem fe_131_20 : am_fe 131 20 = some (3, some .int, .if_icmp .gt 28) := by decide +kernel
theorem fe_131_23 : am_fe 131 23 = some (3, some .int, .aload_n 0) := by decide +kernel
theorem fe_131_24 : am_fe 131 24 = some (3, some .int, .iload_n 2) := by decide +kernel
theorem fe_131_25 : am_fe 131 25 = some (3, some .int, .iload_n 3) := by decide +kernel
theorem fe_131_26 : am_fe 131 26 = some (3, some .int, .invokevirtual 48) := by decide +kernel
theorem fe_131_29 : am_fe 131 29 = some (3, some .int, .istore_n 3) := by decide +kernel
theorem fe_131_30 : am_fe 131 30 = some (3, some .int, .iload_n 3) := by decide +kernel
theorem fe_131_31 : am_fe 131 31 = some (3, some .int, .ifCond .ge 5) := by decide +kernel
theorem fe_131_34 : am_fe 131 34 = some (3, some .int, .iconst (-1)) := by decide +kernel
theorem fe_131_35 : am_fe 131 35 = some (3, some .int, .ireturn) := by decide +kernel
theorem fe_131_36 : am_fe 131 36 = some (3, some .int, .iload_n 2) := by decide +kernel
theorem fe_131_37 : am_fe 131 37 = some (3, some .int, .iconst 1) := by decide +kernel
theorem fe_131_38 : am_fe 131 38 = some (3, some .int, .iload_n 3) := by decide +kernel
theorem fe_131_39 : am_fe 131 39 = some (3, some .int, .ishl) := by decide +kernel
theorem fe_131_40 : am_fe 131 40 = some (3, some .int, .ior) := by decide +kernel
theorem fe_131_41 : am_fe 131 41 = some (3, some .int, .istore_n 2) := by decide +kernel
theorem fe_131_42 : am_fe 131 42 = some (3, some .int, .iinc 4 1) := by decide +kernel
theorem fe_131_45 : am_fe 131 45 = some (3, some .int, .goto (-28)) := by decide +kernel
theorem fe_131_48 : am_fe 131 48 = some (3, some .int, .iload_n 3) := by decide +kernel
theorem fe_131_49 : am_fe 131 49 = some (3, some .int, .ifCond .ge 7) := by decide +kernel
theorem fe_131_52 : am_fe 131 52 = some (3, some .int, .iconst (-1)) := by decide +kernel
theorem fe_131_53 : am_fe 131 53 = some (3, some .int, .goto 9) := by decide +kernel
theorem fe_131_56 : am_fe 131 56 = some (3, some .int, .aload_n 0) := by decide +kernel
theorem fe_131_57 : am_fe 131 57 = some (3, some .int, .getfield 9) := by decide +kernel
theorem fe_131_60 : am_fe 131 60 = some (3, some .int, .iload_n 3) := by decide +kernel
theorem fe_131_61 : am_fe 131 61 = some (3, some .int, .iaload) := by decide +kernel
theorem fe_131_62 : am_fe 131 62 = some (3, some .int, .ireturn) := by decide +kernel
theorem fe_132_0 : am_fe 132 0 = some (3, some .int, .iconst 0) := by decide +kernel
theorem fe_132_1 : am_fe 132 1 = some (3, some .int, .istore_n 3) := by decide +kernel
theorem fe_132_2 : am_fe 132 2 = some (3, some .int, .iload_n 3) := by decide +kernel
theorem fe_132_3 : am_fe 132 3 = some (3, some .int, .aload_n 0) := by decide +kernel
theorem fe_132_4 : am_fe 132 4 = some (3, some .int, .getfield 24) := by decide +kernel
theorem fe_132_7 : am_fe 132 7 = some (3, some .int, .if_icmp .ge 39) := by decide +kernel
theorem fe_132_10 : am_fe 132 10 = some (3, some .int, .aload_n 0) := by decide +kernel
theorem fe_132_11 : am_fe 132 11 = some (3, some .int, .iload_n 1) := by decide +kernel
theorem fe_132_12 : am_fe 132 12 = some (3, some .int, .iload_n 2) := by decide +kernel
theorem fe_132_13 : am_fe 132 13 = some (3, some .int, .iload_n 3) := by decide +kernel
theorem fe_132_14 : am_fe 132 14 = some (3, some .int, .invokevirtual 44) := by decide +kernel
theorem fe_132_17 : am_fe 132 17 = some (3, some .int, .ifCond .eq 23) := by decide +kernel
theorem fe_132_20 : am_fe 132 20 = some (3, some .int, .aload_n 0) := by decide +kernel
theorem fe_132_21 : am_fe 132 21 = some (3, some .int, .getfield 21) := by decide +kernel
theorem fe_132_24 : am_fe 132 24 = some (3, some .int, .iload_n 1) := by decide +kernel
theorem fe_132_25 : am_fe 132 25 = some (3, some .int, .iconst 1) := by decide +kernel
theorem fe_132_26 : am_fe 132 26 = some (3, some .int, .iload_n 3) := by decide +kernel
theorem fe_132_27 : am_fe 132 27 = some (3, some .int, .ishl) := by decide +kernel
theorem fe_132_28 : am_fe 132 28 = some (3, some .int, .ior) := by decide +kernel
theorem fe_132_29 : am_fe 132 29 = some (3, some .int, .bipush 8) := by decide +kernel
theorem fe_132_31 : am_fe 132 31 = some (3, some .int, .imul) := by decide +kernel
theorem fe_132_32 : am_fe 132 32 = some (3, some .int, .iload_n 3) := by decide +kernel
theorem fe_132_33 : am_fe 132 33 = some (3, some .int, .iadd) := by decide +kernel
theorem fe_132_34 : am_fe 132 34 = some (3, some .int, .iaload) := by decide +kernel
theorem fe_132_35 : am_fe 132 35 = some (3, some .int, .ifCond .le 5) := by decide +kernel
theorem fe_132_38 : am_fe 132 38 = some (3, some .int, .iload_n 3) := by decide +kernel
theorem fe_132_39 : am_fe 132 39 = some (3, some .int, .ireturn) := by decide +kernel
theorem fe_132_40 : am_fe 132 40 = some (3, some .int, .iinc 3 1) := by decide +kernel
theorem fe_132_43 : am_fe 132 43 = some (3, some .int, .goto (-41)) := by decide +kernel
theorem fe_132_46 : am_fe 132 46 = some (3, some .int, .iconst (-1)) := by decide +kernel
theorem fe_132_47 : am_fe 132 47 = some (3, some .int, .ireturn) := by decide +kernel
theorem fe_133_0 : am_fe 133 0 = some (11, some .int, .aload_n 0) := by decide +kernel
theorem fe_133_1 : am_fe 133 1 = some (11, some .int, .iload_n 2) := by decide +kernel
theorem fe_133_2 : am_fe 133 2 = some (11, some .int, .invokevirtual 124) := by decide +kernel
theorem fe_133_5 : am_fe 133 5 = some (11, some .int, .ifCond .eq 19) := by decide +kernel
theorem fe_133_8 : am_fe 133 8 = some (11, some .int, .iload_n 1) := by decide +kernel
theorem fe_133_9 : am_fe 133 9 = some (11, some .int, .invokestatic 198) := by decide +kernel
theorem fe_133_12 : am_fe 133 12 = some (11, some .int, .ifCond .eq 12) := by decide +kernel
theorem fe_133_15 : am_fe 133 15 = some (11, some .int, .iload_n 3) := by decide +kernel
theorem fe_133_16 : am_fe 133 16 = some (11, some .int, .ifCond .lt 8) := by decide +kernel
theorem fe_133_19 : am_fe 133 19 = some (11, some .int, .iload_n 3) := by decide +kernel
theorem fe_133_20 : am_fe 133 20 = some (11, some .int, .iconst 2) := by decide +kernel
theorem fe_133_21 : am_fe 133 21 = some (11, some .int, .if_icmp .le 5) := by decide +kernel
theorem fe_133_24 : am_fe 133 24 = some (11, some .int, .iconst (-1)) := by decide +kernel
theorem fe_133_25 : am_fe 133 25 = some (11, some .int, .ireturn) := by decide +kernel
theorem fe_133_26 : am_fe 133 26 = some (11, some .int, .iconst 0) := by decide +kernel
theorem fe_133_27 : am_fe 133 27 = some (11, some .int, .istore 4) := by decide +kernel
theorem fe_133_29 : am_fe 133 29 = some (11, some .int, .bipush (-2)) := by decide +kernel
theorem fe_133_31 : am_fe 133 31 = some (11, some .int, .istore 5) := by decide +kernel
theorem fe_133_33 : am_fe 133 33 = some (11, some .int, .bipush (-2)) := by decide +kernel
theorem fe_133_35 : am_fe 133 35 = some (11, some .int, .istore 6) := by decide +kernel
theorem fe_133_37 : am_fe 133 37 = some (11, some .int, .iconst 0) := by decide +kernel
theorem fe_133_38 : am_fe 133 38 = some (11, some .int, .istore 7) := by decide +kernel
theorem fe_133_40 : am_fe 133 40 = some (11, some .int, .iload 7) := by decide +kernel
theorem fe_133_42 : am_fe 133 42 = some (11, some .int, .aload_n 0) := by decide +kernel
theorem fe_133_43 : am_fe 133 43 = some (11, some .int, .getfield 43) := by decide +kernel
theorem fe_133_46 : am_fe 133 46 = some (11, some .int, .getfield 83) := by decide +kernel
theorem fe_133_49 : am_fe 133 49 = some (11, some .int, .getfield 257) := by decide +kernel
theorem fe_133_52 : am_fe 133 52 = some (11, some .int, .if_icmp .ge 61) := by decide +kernel
theorem fe_133_55 : am_fe 133 55 = some (11, some .int, .aload_n 0) := by decide +kernel
theorem fe_133_56 : am_fe 133 56 = some (11, some .int, .iload 7) := by decide +kernel
theorem fe_133_58 : am_fe 133 58 = some (11, some .int, .iload_n 2) := by decide +kernel
theorem fe_133_59 : am_fe 133 59 = some (11, some .int, .iload_n 1) := by decide +kernel
theorem fe_133_60 : am_fe 133 60 = some (11, some .int, .invokevirtual 270) := by decide +kernel
theorem fe_133_63 : am_fe 133 63 = some (11, some .int, .istore 8) := by decide +kernel
theorem fe_133_65 : am_fe 133 65 = some (11, some .int, .iload 4) := by decide +kernel
theorem fe_133_67 : am_fe 133 67 = some (11, some .int, .iload 8) := by decide +kernel
theorem fe_133_69 : am_fe 133 69 = some (11, some .int, .invokestatic 249) := by decide +kernel
theorem fe_133_72 : am_fe 133 72 = some (11, some .int, .iadd) := by decide +kernel
theorem fe_133_73 : am_fe 133 73 = some (11, some .int, .istore 4) := by decide +kernel
theorem fe_133_75 : am_fe 133 75 = some (11, some .int, .iload 8) := by decide +kernel
theorem fe_133_77 : am_fe 133 77 = some (11, some .int, .invokestatic 274) := by decide +kernel
theorem fe_133_80 : am_fe 133 80 = some (11, some .int, .istore 9) := by decide +kernel
theorem fe_133_82 : am_fe 133 82 = some (11, some .int, .iload 8) := by decide +kernel
theorem fe_133_84 : am_fe 133 84 = some (11, some .int, .ifCond .eq 23) := by decide +kernel
theorem fe_133_87 : am_fe 133 87 = some (11, some .int, .iload 6) := by decide +kernel
theorem fe_133_89 : am_fe 133 89 = some (11, some .int, .ifCond .lt 10) := by decide +kernel
theorem fe_133_92 : am_fe 133 92 = some (11, some .int, .iload 9) := by decide +kernel
theorem fe_133_94 : am_fe 133 94 = some (11, some .int, .iload 6) := by decide +kernel
theorem fe_133_96 : am_fe 133 96 = some (11, some .int, .if_icmp .ge 11) := by decide +kernel
theorem fe_133_99 : am_fe 133 99 = some (11, some .int, .iload 9) := by decide +kernel
theorem fe_133_101 : am_fe 133 101 = some (11, some .int, .istore 6) := by decide +kernel
theorem fe_133_103 : am_fe 133 103 = some (11, some .int, .iload 7) := by decide +kernel
theorem fe_133_105 : am_fe 133 105 = some (11, some .int, .istore 5) := by decide +kernel
theorem fe_133_107 : am_fe 133 107 = some (11, some .int, .iinc 7 1) := by decide +kernel
theorem fe_133_110 : am_fe 133 110 = some (11, some .int, .goto (-70)) := by decide +kernel
theorem fe_133_113 : am_fe 133 113 = some (11, some .int, .iload_n 3) := by decide +kernel
theorem fe_133_114 : am_fe 133 114 = some (11, some .int, .ifCond .ne 6) := by decide +kernel
theorem fe_133_117 : am_fe 133 117 = some (11, some .int, .iload 4) := by decide +kernel
theorem fe_133_119 : am_fe 133 119 = some (11, some .int, .ireturn) := by decide +kernel
theorem fe_133_120 : am_fe 133 120 = some (11, some .int, .iload_n 3) := by decide +kernel
theorem fe_133_121 : am_fe 133 121 = some (11, some .int, .iconst 1) := by decide +kernel
theorem fe_133_122 : am_fe 133 122 = some (11, some .int, .if_icmp .ne 8) := by decide +kernel
theorem fe_133_125 : am_fe 133 125 = some (11, some .int, .iload 5) := by decide +kernel
theorem fe_133_127 : am_fe 133 127 = some (11, some .int, .goto 5) := by decide +kernel
theorem fe_133_130 : am_fe 133 130 = some (11, some .int, .iload 6) := by decide +kernel
theorem fe_133_132 : am_fe 133 132 = some (11, some .int, .ireturn) := by decide +kernel
theorem fe_134_0 : am_fe 134 0 = some (11, some .int, .iload_n 3) := by decide +kernel
theorem fe_134_1 : am_fe 134 1 = some (11, some .int, .invokestatic 198) := by decide +kernel
theorem fe_134_4 : am_fe 134 4 = some (11, some .int, .istore 4) := by decide +kernel
theorem fe_134_6 : am_fe 134 6 = some (11, some .int, .iload_n 1) := by decide +kernel
theorem fe_134_7 : am_fe 134 7 = some (11, some .int, .istore 5) := by decide +kernel
theorem fe_134_9 : am_fe 134 9 = some (11, some .int, .iconst 0) := by decide +kernel
theorem fe_134_10 : am_fe 134 10 = some (11, some .int, .istore 6) := by decide +kernel
theorem fe_134_12 : am_fe 134 12 = some (11, some .int, .iconst 0) := by decide +kernel
theorem fe_134_13 : am_fe 134 13 = some (11, some .int, .istore 7) := by decide +kernel
theorem fe_134_15 : am_fe 134 15 = some (11, some .int, .iconst 0) := by decide +kernel
theorem fe_134_16 : am_fe 134 16 = some (11, some .int, .istore 8) := by decide +kernel
theorem fe_134_18 : am_fe 134 18 = some (11, some .int, .iconst 0) := by decide +kernel
theorem fe_134_19 : am_fe 134 19 = some (11, some .int, .istore 9) := by decide +kernel
theorem fe_134_21 : am_fe 134 21 = some (11, some .int, .iconst 0) := by decide +kernel
theorem fe_134_22 : am_fe 134 22 = some (11, some .int, .istore 10) := by decide +kernel
theorem fe_134_24 : am_fe 134 24 = some (11, some .int, .iload 10) := by decide +kernel
theorem fe_134_26 : am_fe 134 26 = some (11, some .int, .bipush 20) := by decide +kernel
theorem fe_134_28 : am_fe 134 28 = some (11, some .int, .if_icmp .gt 163) := by decide +kernel
theorem fe_134_31 : am_fe 134 31 = some (11, some .int, .iload 5) := by decide +kernel
theorem fe_134_33 : am_fe 134 33 = some (11, some .int, .ifCond .lt 158) := by decide +kernel
theorem fe_134_36 : am_fe 134 36 = some (11, some .int, .iload 5) := by decide +kernel
theorem fe_134_38 : am_fe 134 38 = some (11, some .int, .iload_n 2) := by decide +kernel
theorem fe_134_39 : am_fe 134 39 = some (11, some .int, .if_icmp .ne 25) := by decide +kernel
theorem fe_134_42 : am_fe 134 42 = some (11, some .int, .iload_n 3) := by decide +kernel
theorem fe_134_43 : am_fe 134 43 = some (11, some .int, .getstatic 208) := by decide +kernel
theorem fe_134_46 : am_fe 134 46 = some (11, some .int, .iload 8) := by decide +kernel
theorem fe_134_48 : am_fe 134 48 = some (11, some .int, .iaload) := by decide +kernel
theorem fe_134_49 : am_fe 134 49 = some (11, some .int, .irem) := by decide +kernel
theorem fe_134_50 : am_fe 134 50 = some (11, some .int, .iload 7) := by decide +kernel
theorem fe_134_52 : am_fe 134 52 = some (11, some .int, .if_icmp .ne 12) := by decide +kernel
theorem fe_134_55 : am_fe 134 55 = some (11, some .int, .iload 9) := by decide +kernel
theorem fe_134_57 : am_fe 134 57 = some (11, some .int, .iconst 1) := by decide +kernel
theorem fe_134_58 : am_fe 134 58 = some (11, some .int, .iload 10) := by decide +kernel
theorem fe_134_60 : am_fe 134 60 = some (11, some .int, .ishl) := by decide +kernel
theorem fe_134_61 : am_fe 134 61 = some (11, some .int, .ior) := by decide +kernel
theorem fe_134_62 : am_fe 134 62 = some (11, some .int, .istore 9) := by decide +kernel
theorem fe_134_64 : am_fe 134 64 = some (11, some .int, .aload_n 0) := by decide +kernel
theorem fe_134_65 : am_fe 134 65 = some (11, some .int, .iload 5) := by decide +kernel
theorem fe_134_67 : am_fe 134 67 = some (11, some .int, .invokevirtual 139) := by decide +kernel
theorem fe_134_70 : am_fe 134 70 = some (11, some .int, .iconst 2) := by decide +kernel
theorem fe_134_71 : am_fe 134 71 = some (11, some .int, .if_icmp .ne 6) := by decide +kernel
theorem fe_134_74 : am_fe 134 74 = some (11, some .int, .goto 111) := by decide +kernel
theorem fe_134_77 : am_fe 134 77 = some (11, some .int, .iload 6) := by decide +kernel
theorem fe_134_79 : am_fe 134 79 = some (11, some .int, .ifCond .le 9) := by decide +kernel
theorem fe_134_82 : am_fe 134 82 = some (11, some .int, .iinc 6 (-1)) := by decide +kernel
theorem fe_134_85 : am_fe 134 85 = some (11, some .int, .goto 100) := by decide +kernel
theorem fe_134_88 : am_fe 134 88 = some (11, some .int, .aload_n 0) := by decide +kernel
theorem fe_134_89 : am_fe 134 89 = some (11, some .int, .getfield 43) := by decide +kernel
theorem fe_134_92 : am_fe 134 92 = some (11, some .int, .getfield 83) := by decide +kernel
theorem fe_134_95 : am_fe 134 95 = some (11, some .int, .getfield 128) := by decide +kernel
theorem fe_134_98 : am_fe 134 98 = some (11, some .int, .iload 5) := by decide +kernel
theorem fe_134_100 : am_fe 134 100 = some (11, some .int, .iaload) := by decide +kernel
theorem fe_134_101 : am_fe 134 101 = some (11, some .int, .istore 5) := by decide +kernel
theorem fe_134_103 : am_fe 134 103 = some (11, some .int, .iload 5) := by decide +kernel
theorem fe_134_105 : am_fe 134 105 = some (11, some .int, .ifCond .ge 7) := by decide +kernel
theorem fe_134_108 : am_fe 134 108 = some (11, some .int, .iconst 0) := by decide +kernel
theorem fe_134_109 : am_fe 134 109 = some (11, some .int, .goto 16) := by decide +kernel
theorem fe_134_112 : am_fe 134 112 = some (11, some .int, .aload_n 0) := by decide +kernel
theorem fe_134_113 : am_fe 134 113 = some (11, some .int, .getfield 43) := by decide +kernel
theorem fe_134_116 : am_fe 134 116 = some (11, some .int, .getfield 83) := by decide +kernel
theorem fe_134_119 : am_fe 134 119 = some (11, some .int, .getfield 132) := by decide +kernel
theorem fe_134_122 : am_fe 134 122 = some (11, some .int, .iload 5) := by decide +kernel
theorem fe_134_124 : am_fe 134 124 = some (11, some .int, .iaload) := by decide +kernel
theorem fe_134_125 : am_fe 134 125 = some (11, some .int, .istore 6) := by decide +kernel
theorem fe_134_127 : am_fe 134 127 = some (11, some .int, .iload 5) := by decide +kernel
theorem fe_134_129 : am_fe 134 129 = some (11, some .int, .ifCond .ge 7) := by decide +kernel
theorem fe_134_132 : am_fe 134 132 = some (11, some .int, .iconst 0) := by decide +kernel
theorem fe_134_133 : am_fe 134 133 = some (11, some .int, .goto 15) := by decide +kernel
theorem fe_134_136 : am_fe 134 136 = some (11, some .int, .aload_n 0) := by decide +kernel
theorem fe_134_137 : am_fe 134 137 = some (11, some .int, .getfield 43) := by decide +kernel
theorem fe_134_140 : am_fe 134 140 = some (11, some .int, .getfield 83) := by decide +kernel
theorem fe_134_143 : am_fe 134 143 = some (11, some .int, .iload 5) := by decide +kernel
theorem fe_134_145 : am_fe 134 145 = some (11, some .int, .invokevirtual 135) := by decide +kernel
theorem fe_134_148 : am_fe 134 148 = some (11, some .int, .istore 11) := by decide +kernel
theorem fe_134_150 : am_fe 134 150 = some (11, some .int, .iload 11) := by decide +kernel
theorem fe_134_152 : am_fe 134 152 = some (11, some .int, .ifCond .le 33) := by decide +kernel
theorem fe_134_155 : am_fe 134 155 = some (11, some .int, .iload 4) := by decide +kernel
theorem fe_134_157 : am_fe 134 157 = some (11, some .int, .bipush 8) := by decide +kernel
theorem fe_134_159 : am_fe 134 159 = some (11, some .int, .if_icmp .ge 26) := by decide +kernel
theorem fe_134_162 : am_fe 134 162 = some (11, some .int, .iload 7) := by decide +kernel
theorem fe_134_164 : am_fe 134 164 = some (11, some .int, .bipush 10) := by decide +kernel
theorem fe_134_166 : am_fe 134 166 = some (11, some .int, .imul) := by decide +kernel
theorem fe_134_167 : am_fe 134 167 = some (11, some .int, .iload 11) := by decide +kernel
theorem fe_134_169 : am_fe 134 169 = some (11, some .int, .iadd) := by decide +kernel
theorem fe_134_170 : am_fe 134 170 = some (11, some .int, .istore 7) := by decide +kernel
theorem fe_134_172 : am_fe 134 172 = some (11, some .int, .iinc 8 1) := by decide +kernel
theorem fe_134_175 : am_fe 134 175 = some (11, some .int, .iload 8) := by decide +kernel
theorem fe_134_177 : am_fe 134 177 = some (11, some .int, .iload 4) := by decide +kernel
theorem fe_134_179 : am_fe 134 179 = some (11, some .int, .if_icmp .lt 6) := by decide +kernel
theorem fe_134_182 : am_fe 134 182 = some (11, some .int, .goto 9) := by decide +kernel
theorem fe_134_185 : am_fe 134 185 = some (11, some .int, .iinc 10 1) := by decide +kernel
theorem fe_134_188 : am_fe 134 188 = some (11, some .int, .goto (-164)) := by decide +kernel
theorem fe_134_191 : am_fe 134 191 = some (11, some .int, .iload 9) := by decide +kernel
theorem fe_134_193 : am_fe 134 193 = some (11, some .int, .ireturn) := by decide +kernel
theorem fe_135_0 : am_fe 135 0 = some (11, some .int, .aload_n 0) := by decide +kernel
theorem fe_135_1 : am_fe 135 1 = some (11, some .int, .invokevirtual 169) := by decide +kernel
theorem fe_135_4 : am_fe 135 4 = some (11, some .int, .ifCond .eq 19) := by decide +kernel
theorem fe_135_7 : am_fe 135 7 = some (11, some .int, .iload_n 1) := by decide +kernel
theorem fe_135_8 : am_fe 135 8 = some (11, some .int, .invokestatic 254) := by decide +kernel
theorem fe_135_11 : am_fe 135 11 = some (11, some .int, .ifCond .eq 12) := by decide +kernel
theorem fe_135_14 : am_fe 135 14 = some (11, some .int, .iload_n 2) := by decide +kernel
theorem fe_135_15 : am_fe 135 15 = some (11, some .int, .ifCond .lt 8) := by decide +kernel
theorem fe_135_18 : am_fe 135 18 = some (11, some .int, .iload_n 2) := by decide +kernel
theorem fe_135_19 : am_fe 135 19 = some (11, some .int, .iconst 1) := by decide +kernel
theorem fe_135_20 : am_fe 135 20 = some (11, some .int, .if_icmp .le 5) := by decide +kernel
theorem fe_135_23 : am_fe 135 23 = some (11, some .int, .iconst (-1)) := by decide +kernel
theorem fe_135_24 : am_fe 135 24 = some (11, some .int, .ireturn) := by decide +kernel
theorem fe_135_25 : am_fe 135 25 = some (11, some .int, .iconst 1) := by decide +kernel
theorem fe_135_26 : am_fe 135 26 = some (11, some .int, .aload_n 0) := by decide +kernel
theorem fe_135_27 : am_fe 135 27 = some (11, some .int, .getfield 43) := by decide +kernel
theorem fe_135_30 : am_fe 135 30 = some (11, some .int, .getfield 83) := by decide +kernel
theorem fe_135_33 : am_fe 135 33 = some (11, some .int, .getfield 277) := by decide +kernel
theorem fe_135_36 : am_fe 135 36 = some (11, some .int, .ishl) := by decide +kernel
theorem fe_135_37 : am_fe 135 37 = some (11, some .int, .iconst 1) := by decide +kernel
theorem fe_135_38 : am_fe 135 38 = some (11, some .int, .isub) := by decide +kernel
theorem fe_135_39 : am_fe 135 39 = some (11, some .int, .istore_n 3) := by decide +kernel
theorem fe_135_40 : am_fe 135 40 = some (11, some .int, .iconst 0) := by decide +kernel
theorem fe_135_41 : am_fe 135 41 = some (11, some .int, .istore 4) := by decide +kernel
theorem fe_135_43 : am_fe 135 43 = some (11, some .int, .iconst (-1)) := by decide +kernel
theorem fe_135_44 : am_fe 135 44 = some (11, some .int, .istore 5) := by decide +kernel
theorem fe_135_46 : am_fe 135 46 = some (11, some .int, .iconst 0) := by decide +kernel
theorem fe_135_47 : am_fe 135 47 = some (11, some .int, .istore 6) := by decide +kernel
theorem fe_135_49 : am_fe 135 49 = some (11, some .int, .iload 6) := by decide +kernel
theorem fe_135_51 : am_fe 135 51 = some (11, some .int, .iload_n 3) := by decide +kernel
theorem fe_135_52 : am_fe 135 52 = some (11, some .int, .if_icmp .gt 76) := by decide +kernel
theorem fe_135_55 : am_fe 135 55 = some (11, some .int, .aload_n 0) := by decide +kernel
theorem fe_135_56 : am_fe 135 56 = some (11, some .int, .getfield 54) := by decide +kernel
theorem fe_135_59 : am_fe 135 59 = some (11, some .int, .aload_n 0) := by decide +kernel
theorem fe_135_60 : am_fe 135 60 = some (11, some .int, .getfield 43) := by decide +kernel
theorem fe_135_63 : am_fe 135 63 = some (11, some .int, .aload_n 0) := by decide +kernel
theorem fe_135_64 : am_fe 135 64 = some (11, some .int, .invokevirtual 179) := by decide +kernel
theorem fe_135_67 : am_fe 135 67 = some (11, some .int, .invokevirtual 231) := by decide +kernel
theorem fe_135_70 : am_fe 135 70 = some (11, some .int, .aload_n 0) := by decide +kernel
theorem fe_135_71 : am_fe 135 71 = some (11, some .int, .getfield 54) := by decide +kernel
theorem fe_135_74 : am_fe 135 74 = some (11, some .int, .getfield 238) := by decide +kernel
theorem fe_135_77 : am_fe 135 77 = some (11, some .int, .iload_n 3) := by decide +kernel
theorem fe_135_78 : am_fe 135 78 = some (11, some .int, .iload 6) := by decide +kernel
theorem fe_135_80 : am_fe 135 80 = some (11, some .int, .iconst (-1)) := by decide +kernel
theorem fe_135_81 : am_fe 135 81 = some (11, some .int, .ixor) := by decide +kernel
theorem fe_135_82 : am_fe 135 82 = some (11, some .int, .iand) := by decide +kernel
theorem fe_135_83 : am_fe 135 83 = some (11, some .int, .putfield 215) := by decide +kernel
theorem fe_135_86 : am_fe 135 86 = some (11, some .int, .aload_n 0) := by decide +kernel
theorem fe_135_87 : am_fe 135 87 = some (11, some .int, .getfield 54) := by decide +kernel
theorem fe_135_90 : am_fe 135 90 = some (11, some .int, .iload_n 1) := by decide +kernel
theorem fe_135_91 : am_fe 135 91 = some (11, some .int, .invokevirtual 280) := by decide +kernel
theorem fe_135_94 : am_fe 135 94 = some (11, some .int, .aload_n 0) := by decide +kernel
theorem fe_135_95 : am_fe 135 95 = some (11, some .int, .getfield 54) := by decide +kernel
theorem fe_135_98 : am_fe 135 98 = some (11, some .int, .getfield 238) := by decide +kernel
theorem fe_135_101 : am_fe 135 101 = some (11, some .int, .iconst 1) := by decide +kernel
theorem fe_135_102 : am_fe 135 102 = some (11, some .int, .invokevirtual 283) := by decide +kernel
theorem fe_135_105 : am_fe 135 105 = some (11, some .int, .istore 7) := by decide +kernel
theorem fe_135_107 : am_fe 135 107 = some (11, some .int, .iload 7) := by decide +kernel
theorem fe_135_109 : am_fe 135 109 = some (11, some .int, .iload 5) := by decide +kernel
theorem fe_135_111 : am_fe 135 111 = some (11, some .int, .if_icmp .le 11) := by decide +kernel
theorem fe_135_114 : am_fe 135 114 = some (11, some .int, .iload 7) := by decide +kernel
theorem fe_135_116 : am_fe 135 116 = some (11, some .int, .istore 5) := by decide +kernel
theorem fe_135_118 : am_fe 135 118 = some (11, some .int, .iload 6) := by decide +kernel
theorem fe_135_120 : am_fe 135 120 = some (11, some .int, .istore 4) := by decide +kernel
theorem fe_135_122 : am_fe 135 122 = some (11, some .int, .iinc 6 1) := by decide +kernel
theorem fe_135_125 : am_fe 135 125 = some (11, some .int, .goto (-76)) := by decide +kernel
theorem fe_135_128 : am_fe 135 128 = some (11, some .int, .iload_n 2) := by decide +kernel
theorem fe_135_129 : am_fe 135 129 = some (11, some .int, .ifCond .ne 8) := by decide +kernel
theorem fe_135_132 : am_fe 135 132 = some (11, some .int, .iload 4) := by decide +kernel
theorem fe_135_134 : am_fe 135 134 = some (11, some .int, .goto 5) := by decide +kernel
theorem fe_135_137 : am_fe 135 137 = some (11, some .int, .iload 5) := by decide +kernel
theorem fe_135_139 : am_fe 135 139 = some (11, some .int, .ireturn) := by decide +kernel
theorem fe_136_0 : am_fe 136 0 = some (7, none, .iconst 0) := by decide +kernel
theorem fe_136_1 : am_fe 136 1 = some (7, none, .istore_n 2) := by decide +kernel
theorem fe_136_2 : am_fe 136 2 = some (7, none, .iload_n 2) := by decide +kernel
theorem fe_136_3 : am_fe 136 3 = some (7, none, .iload_n 1) := by decide +kernel
theorem fe_136_4 : am_fe 136 4 = some (7, none, .if_icmp .ge 32) := by decide +kernel
theorem fe_136_7 : am_fe 136 7 = some (7, none, .aload_n 0) := by decide +kernel
theorem fe_136_8 : am_fe 136 8 = some (7, none, .getfield 31) := by decide +kernel
theorem fe_136_11 : am_fe 136 11 = some (7, none, .iconst 1) := by decide +kernel
theorem fe_136_12 : am_fe 136 12 = some (7, none, .invokevirtual 60) := by decide +kernel
theorem fe_136_15 : am_fe 136 15 = some (7, none, .ifCond .ne 11) := by decide +kernel
theorem fe_136_18 : am_fe 136 18 = some (7, none, .aload_n 0) := by decide +kernel
theorem fe_136_19 : am_fe 136 19 = some (7, none, .iload_n 1) := by decide +kernel
theorem fe_136_20 : am_fe 136 20 = some (7, none, .iload_n 2) := by decide +kernel
theorem fe_136_21 : am_fe 136 21 = some (7, none, .isub) := by decide +kernel
theorem fe_136_22 : am_fe 136 22 = some (7, none, .invokevirtual 64) := by decide +kernel
theorem fe_136_25 : am_fe 136 25 = some (7, none, .return_) := by decide +kernel
theorem fe_136_26 : am_fe 136 26 = some (7, none, .aload_n 0) := by decide +kernel
theorem fe_136_27 : am_fe 136 27 = some (7, none, .invokevirtual 68) := by decide +kernel
theorem fe_136_30 : am_fe 136 30 = some (7, none, .iinc 2 1) := by decide +kernel
theorem fe_136_33 : am_fe 136 33 = some (7, none, .goto (-31)) := by decide +kernel
theorem fe_136_36 : am_fe 136 36 = some (7, none, .return_) := by decide +kernel
theorem fe_137_0 : am_fe 137 0 = some (9, some .int, .iconst 0) := by decide +kernel
theorem fe_137_1 : am_fe 137 1 = some (9, some .int, .istore_n 2) := by decide +kernel
theorem fe_137_2 : am_fe 137 2 = some (9, some .int, .iconst 0) := by decide +kernel
theorem fe_137_3 : am_fe 137 3 = some (9, some .int, .istore_n 3) := by decide +kernel
theorem fe_137_4 : am_fe 137 4 = some (9, some .int, .iload_n 3) := by decide +kernel
theorem fe_137_5 : am_fe 137 5 = some (9, some .int, .aload_n 0) := by decide +kernel
theorem fe_137_6 : am_fe 137 6 = some (9, some .int, .getfield 15) := by decide +kernel
theorem fe_137_9 : am_fe 137 9 = some (9, some .int, .if_icmp .ge 22) := by decide +kernel
theorem fe_137_12 : am_fe 137 12 = some (9, some .int, .aload_n 0) := by decide +kernel
theorem fe_137_13 : am_fe 137 13 = some (9, some .int, .getfield 37) := by decide +kernel
theorem fe_137_16 : am_fe 137 16 = some (9, some .int, .iload_n 3) := by decide +kernel
theorem fe_137_17 : am_fe 137 17 = some (9, some .int, .iaload) := by decide +kernel
theorem fe_137_18 : am_fe 137 18 = some (9, some .int, .iload_n 1) := by decide +kernel
theorem fe_137_19 : am_fe 137 19 = some (9, some .int, .if_icmp .ne 6) := by decide +kernel
theorem fe_137_22 : am_fe 137 22 = some (9, some .int, .iinc 2 1) := by decide +kernel
theorem fe_137_25 : am_fe 137 25 = some (9, some .int, .iinc 3 1) := by decide +kernel
theorem fe_137_28 : am_fe 137 28 = some (9, some .int, .goto (-24)) := by decide +kernel
theorem fe_137_31 : am_fe 137 31 = some (9, some .int, .iload_n 2) := by decide +kernel
theorem fe_137_32 : am_fe 137 32 = some (9, some .int, .ireturn) := by decide +kernel
theorem fe_138_0 : am_fe 138 0 = some (11, some .int, .aload_n 0) := by decide +kernel
theorem fe_138_1 : am_fe 138 1 = some (11, some .int, .iload_n 1) := by decide +kernel
theorem fe_138_2 : am_fe 138 2 = some (11, some .int, .invokevirtual 124) := by decide +kernel
theorem fe_138_5 : am_fe 138 5 = some (11, some .int, .ifCond .eq 12) := by decide +kernel
theorem fe_138_8 : am_fe 138 8 = some (11, some .int, .iload_n 2) := by decide +kernel
theorem fe_138_9 : am_fe 138 9 = some (11, some .int, .ifCond .lt 8) := by decide +kernel
theorem fe_138_12 : am_fe 138 12 = some (11, some .int, .iload_n 2) := by decide +kernel
theorem fe_138_13 : am_fe 138 13 = some (11, some .int, .iconst 1) := by decide +kernel
theorem fe_138_14 : am_fe 138 14 = some (11, some .int, .if_icmp .le 5) := by decide +kernel
theorem fe_138_17 : am_fe 138 17 = some (11, some .int, .iconst (-1)) := by decide +kernel
theorem fe_138_18 : am_fe 138 18 = some (11, some .int, .ireturn) := by decide +kernel
theorem fe_138_19 : am_fe 138 19 = some (11, some .int, .aload_n 0) := by decide +kernel
theorem fe_138_20 : am_fe 138 20 = some (11, some .int, .getfield 43) := by decide +kernel
theorem fe_138_23 : am_fe 138 23 = some (11, some .int, .getfield 83) := by decide +kernel
theorem fe_138_26 : am_fe 138 26 = some (11, some .int, .iload_n 1) := by decide +kernel
theorem fe_138_27 : am_fe 138 27 = some (11, some .int, .invokevirtual 286) := by decide +kernel
theorem fe_138_30 : am_fe 138 30 = some (11, some .int, .istore_n 3) := by decide +kernel
theorem fe_138_31 : am_fe 138 31 = some (11, some .int, .iload_n 2) := by decide +kernel
theorem fe_138_32 : am_fe 138 32 = some (11, some .int, .ifCond .ne 8) := by decide +kernel
theorem fe_138_35 : am_fe 138 35 = some (11, some .int, .iload_n 3) := by decide +kernel
theorem fe_138_36 : am_fe 138 36 = some (11, some .int, .invokestatic 249) := by decide +kernel
theorem fe_138_39 : am_fe 138 39 = some (11, some .int, .ireturn) := by decide +kernel
theorem fe_138_40 : am_fe 138 40 = some (11, some .int, .iconst 0) := by decide +kernel
theorem fe_138_41 : am_fe 138 41 = some (11, some .int, .istore 4) := by decide +kernel
theorem fe_138_43 : am_fe 138 43 = some (11, some .int, .iload_n 1) := by decide +kernel
theorem fe_138_44 : am_fe 138 44 = some (11, some .int, .istore 5) := by decide +kernel
theorem fe_138_46 : am_fe 138 46 = some (11, some .int, .iload 4) := by decide +kernel
theorem fe_138_48 : am_fe 138 48 = some (11, some .int, .bipush 16) := by decide +kernel
theorem fe_138_50 : am_fe 138 50 = some (11, some .int, .if_icmp .ge 38) := by decide +kernel
theorem fe_138_53 : am_fe 138 53 = some (11, some .int, .iload 5) := by decide +kernel
theorem fe_138_55 : am_fe 138 55 = some (11, some .int, .ifCond .lt 33) := by decide +kernel
theorem fe_138_58 : am_fe 138 58 = some (11, some .int, .iload_n 3) := by decide +kernel
theorem fe_138_59 : am_fe 138 59 = some (11, some .int, .iload 5) := by decide +kernel
theorem fe_138_61 : am_fe 138 61 = some (11, some .int, .ishr) := by decide +kernel
theorem fe_138_62 : am_fe 138 62 = some (11, some .int, .iconst 1) := by decide +kernel
theorem fe_138_63 : am_fe 138 63 = some (11, some .int, .iand) := by decide +kernel
theorem fe_138_64 : am_fe 138 64 = some (11, some .int, .ifCond .ne 24) := by decide +kernel
theorem fe_138_67 : am_fe 138 67 = some (11, some .int, .aload_n 0) := by decide +kernel
theorem fe_138_68 : am_fe 138 68 = some (11, some .int, .getfield 43) := by decide +kernel
theorem fe_138_71 : am_fe 138 71 = some (11, some .int, .getfield 83) := by decide +kernel
theorem fe_138_74 : am_fe 138 74 = some (11, some .int, .getfield 128) := by decide +kernel
theorem fe_138_77 : am_fe 138 77 = some (11, some .int, .iload 5) := by decide +kernel
theorem fe_138_79 : am_fe 138 79 = some (11, some .int, .iaload) := by decide +kernel
theorem fe_138_80 : am_fe 138 80 = some (11, some .int, .istore 5) := by decide +kernel
theorem fe_138_82 : am_fe 138 82 = some (11, some .int, .iinc 4 1) := by decide +kernel
theorem fe_138_85 : am_fe 138 85 = some (11, some .int, .goto (-39)) := by decide +kernel
theorem fe_138_88 : am_fe 138 88 = some (11, some .int, .iload 4) := by decide +kernel
theorem fe_138_90 : am_fe 138 90 = some (11, some .int, .ireturn) := by decide +kernel
theorem fe_139_0 : am_fe 139 0 = some (0, some .int, .iload_n 1) := by decide +kernel
theorem fe_139_1 : am_fe 139 1 = some (0, some .int, .istore_n 2) := by decide +kernel
theorem fe_139_2 : am_fe 139 2 = some (0, some .int, .iconst 0) := by decide +kernel
theorem fe_139_3 : am_fe 139 3 = some (0, some .int, .istore_n 3) := by decide +kernel
theorem fe_139_4 : am_fe 139 4 = some (0, some .int, .iload_n 3) := by decide +kernel
theorem fe_139_5 : am_fe 139 5 = some (0, some .int, .aload_n 0) := by decide +kernel
theorem fe_139_6 : am_fe 139 6 = some (0, some .int, .getfield 9) := by decide +kernel
theorem fe_139_9 : am_fe 139 9 = some (0, some .int, .if_icmp .ge 20) := by decide +kernel
theorem fe_139_12 : am_fe 139 12 = some (0, some .int, .iload_n 2) := by decide +kernel
theorem fe_139_13 : am_fe 139 13 = some (0, some .int, .ifCond .lt 16) := by decide +kernel
theorem fe_139_16 : am_fe 139 16 = some (0, some .int, .aload_n 0) := by decide +kernel
theorem fe_139_17 : am_fe 139 17 = some (0, some .int, .getfield 21) := by decide +kernel
theorem fe_139_20 : am_fe 139 20 = some (0, some .int, .iload_n 2) := by decide +kernel
theorem fe_139_21 : am_fe 139 21 = some (0, some .int, .iaload) := by decide +kernel
theorem fe_139_22 : am_fe 139 22 = some (0, some .int, .istore_n 2) := by decide +kernel
theorem fe_139_23 : am_fe 139 23 = some (0, some .int, .iinc 3 1) := by decide +kernel
theorem fe_139_26 : am_fe 139 26 = some (0, some .int, .goto (-22)) := by decide +kernel
theorem fe_139_29 : am_fe 139 29 = some (0, some .int, .iconst 0) := by decide +kernel
theorem fe_139_30 : am_fe 139 30 = some (0, some .int, .istore_n 3) := by decide +kernel
theorem fe_139_31 : am_fe 139 31 = some (0, some .int, .iconst 0) := by decide +kernel
theorem fe_139_32 : am_fe 139 32 = some (0, some .int, .istore 4) := by decide +kernel
theorem fe_139_34 : am_fe 139 34 = some (0, some .int, .iload 4) := by decide +kernel
theorem fe_139_36 : am_fe 139 36 = some (0, some .int, .aload_n 0) := by decide +kernel
theorem fe_139_37 : am_fe 139 37 = some (0, some .int, .getfield 9) := by decide +kernel
theorem fe_139_40 : am_fe 139 40 = some (0, some .int, .if_icmp .ge 26) := by decide +kernel
theorem fe_139_43 : am_fe 139 43 = some (0, some .int, .iload_n 2) := by decide +kernel
theorem fe_139_44 : am_fe 139 44 = some (0, some .int, .ifCond .lt 22) := by decide +kernel
theorem fe_139_47 : am_fe 139 47 = some (0, some .int, .iload_n 3) := by decide +kernel
theorem fe_139_48 : am_fe 139 48 = some (0, some .int, .iconst 1) := by decide +kernel
theorem fe_139_49 : am_fe 139 49 = some (0, some .int, .iload_n 2) := by decide +kernel
theorem fe_139_50 : am_fe 139 50 = some (0, some .int, .ishl) := by decide +kernel
theorem fe_139_51 : am_fe 139 51 = some (0, some .int, .ior) := by decide +kernel
theorem fe_139_52 : am_fe 139 52 = some (0, some .int, .istore_n 3) := by decide +kernel
theorem fe_139_53 : am_fe 139 53 = some (0, some .int, .aload_n 0) := by decide +kernel
theorem fe_139_54 : am_fe 139 54 = some (0, some .int, .getfield 21) := by decide +kernel
theorem fe_139_57 : am_fe 139 57 = some (0, some .int, .iload_n 2) := by decide +kernel
theorem fe_139_58 : am_fe 139 58 = some (0, some .int, .iaload) := by decide +kernel
theorem fe_139_59 : am_fe 139 59 = some (0, some .int, .istore_n 2) := by decide +kernel
theorem fe_139_60 : am_fe 139 60 = some (0, some .int, .iinc 4 1) := by decide +kernel
theorem fe_139_63 : am_fe 139 63 = some (0, some .int, .goto (-29)) := by decide +kernel
theorem fe_139_66 : am_fe 139 66 = some (0, some .int, .iload_n 3) := by decide +kernel
theorem fe_139_67 : am_fe 139 67 = some (0, some .int, .ireturn) := by decide +kernel
theorem fe_140_0 : am_fe 140 0 = some (11, some .int, .iload_n 1) := by decide +kernel
theorem fe_140_1 : am_fe 140 1 = some (11, some .int, .ifCond .lt 26) := by decide +kernel
theorem fe_140_4 : am_fe 140 4 = some (11, some .int, .iload_n 1) := by decide +kernel
theorem fe_140_5 : am_fe 140 5 = some (11, some .int, .aload_n 0) := by decide +kernel
theorem fe_140_6 : am_fe 140 6 = some (11, some .int, .getfield 43) := by decide +kernel
theorem fe_140_9 : am_fe 140 9 = some (11, some .int, .getfield 83) := by decide +kernel
theorem fe_140_12 : am_fe 140 12 = some (11, some .int, .getfield 289) := by decide +kernel
theorem fe_140_15 : am_fe 140 15 = some (11, some .int, .if_icmp .ge 12) := by decide +kernel
theorem fe_140_18 : am_fe 140 18 = some (11, some .int, .iload_n 2) := by decide +kernel
theorem fe_140_19 : am_fe 140 19 = some (11, some .int, .ifCond .lt 8) := by decide +kernel
theorem fe_140_22 : am_fe 140 22 = some (11, some .int, .iload_n 2) := by decide +kernel
theorem fe_140_23 : am_fe 140 23 = some (11, some .int, .iconst 1) := by decide +kernel
theorem fe_140_24 : am_fe 140 24 = some (11, some .int, .if_icmp .le 5) := by decide +kernel
theorem fe_140_27 : am_fe 140 27 = some (11, some .int, .iconst (-1)) := by decide +kernel
theorem fe_140_28 : am_fe 140 28 = some (11, some .int, .ireturn) := by decide +kernel
theorem fe_140_29 : am_fe 140 29 = some (11, some .int, .aload_n 0) := by decide +kernel
theorem fe_140_30 : am_fe 140 30 = some (11, some .int, .getfield 43) := by decide +kernel
theorem fe_140_33 : am_fe 140 33 = some (11, some .int, .getfield 94) := by decide +kernel
theorem fe_140_36 : am_fe 140 36 = some (11, some .int, .invokevirtual 292) := by decide +kernel
theorem fe_140_39 : am_fe 140 39 = some (11, some .int, .istore_n 3) := by decide +kernel
theorem fe_140_40 : am_fe 140 40 = some (11, some .int, .aload_n 0) := by decide +kernel
theorem fe_140_41 : am_fe 140 41 = some (11, some .int, .getfield 43) := by decide +kernel
theorem fe_140_44 : am_fe 140 44 = some (11, some .int, .getfield 94) := by decide +kernel
theorem fe_140_47 : am_fe 140 47 = some (11, some .int, .getfield 295) := by decide +kernel
theorem fe_140_50 : am_fe 140 50 = some (11, some .int, .iload_n 1) := by decide +kernel
theorem fe_140_51 : am_fe 140 51 = some (11, some .int, .iaload) := by decide +kernel
theorem fe_140_52 : am_fe 140 52 = some (11, some .int, .istore 4) := by decide +kernel
theorem fe_140_54 : am_fe 140 54 = some (11, some .int, .iload_n 3) := by decide +kernel
theorem fe_140_55 : am_fe 140 55 = some (11, some .int, .ifCond .ne 5) := by decide +kernel
theorem fe_140_58 : am_fe 140 58 = some (11, some .int, .iload_n 2) := by decide +kernel
theorem fe_140_59 : am_fe 140 59 = some (11, some .int, .ireturn) := by decide +kernel
theorem fe_140_60 : am_fe 140 60 = some (11, some .int, .iload_n 3) := by decide +kernel
theorem fe_140_61 : am_fe 140 61 = some (11, some .int, .iload 4) := by decide +kernel
theorem fe_140_63 : am_fe 140 63 = some (11, some .int, .invokestatic 298) := by decide +kernel
theorem fe_140_66 : am_fe 140 66 = some (11, some .int, .istore 5) := by decide +kernel
theorem fe_140_68 : am_fe 140 68 = some (11, some .int, .iload 5) := by decide +kernel
theorem fe_140_70 : am_fe 140 70 = some (11, some .int, .ifCond .ne 5) := by decide +kernel
theorem fe_140_73 : am_fe 140 73 = some (11, some .int, .iload_n 2) := by decide +kernel
theorem fe_140_74 : am_fe 140 74 = some (11, some .int, .ireturn) := by decide +kernel
theorem fe_140_75 : am_fe 140 75 = some (11, some .int, .iload_n 2) := by decide +kernel
theorem fe_140_76 : am_fe 140 76 = some (11, some .int, .ifCond .ne 8) := by decide +kernel
theorem fe_140_79 : am_fe 140 79 = some (11, some .int, .iload 4) := by decide +kernel
theorem fe_140_81 : am_fe 140 81 = some (11, some .int, .goto 4) := by decide +kernel
theorem fe_140_84 : am_fe 140 84 = some (11, some .int, .iload_n 3) := by decide +kernel
theorem fe_140_85 : am_fe 140 85 = some (11, some .int, .iload 5) := by decide +kernel
theorem fe_140_87 : am_fe 140 87 = some (11, some .int, .idiv) := by decide +kernel
theorem fe_140_88 : am_fe 140 88 = some (11, some .int, .ireturn) := by decide +kernel
theorem fe_141_0 : am_fe 141 0 = some (9, some .int, .iconst 0) := by decide +kernel
theorem fe_141_1 : am_fe 141 1 = some (9, some .int, .istore_n 1) := by decide +kernel
theorem fe_141_2 : am_fe 141 2 = some (9, some .int, .iconst 0) := by decide +kernel
theorem fe_141_3 : am_fe 141 3 = some (9, some .int, .istore_n 2) := by decide +kernel
theorem fe_141_4 : am_fe 141 4 = some (9, some .int, .iload_n 2) := by decide +kernel
theorem fe_141_5 : am_fe 141 5 = some (9, some .int, .bipush 6) := by decide +kernel
theorem fe_141_7 : am_fe 141 7 = some (9, some .int, .if_icmp .ge 18) := by decide +kernel
theorem fe_141_10 : am_fe 141 10 = some (9, some .int, .iload_n 1) := by decide +kernel
theorem fe_141_11 : am_fe 141 11 = some (9, some .int, .aload_n 0) := by decide +kernel
theorem fe_141_12 : am_fe 141 12 = some (9, some .int, .getfield 49) := by decide +kernel
theorem fe_141_15 : am_fe 141 15 = some (9, some .int, .iload_n 2) := by decide +kernel
theorem fe_141_16 : am_fe 141 16 = some (9, some .int, .iaload) := by decide +kernel
theorem fe_141_17 : am_fe 141 17 = some (9, some .int, .iadd) := by decide +kernel
theorem fe_141_18 : am_fe 141 18 = some (9, some .int, .istore_n 1) := by decide +kernel
theorem fe_141_19 : am_fe 141 19 = some (9, some .int, .iinc 2 1) := by decide +kernel
theorem fe_141_22 : am_fe 141 22 = some (9, some .int, .goto (-18)) := by decide +kernel
theorem fe_141_25 : am_fe 141 25 = some (9, some .int, .iload_n 1) := by decide +kernel
theorem fe_141_26 : am_fe 141 26 = some (9, some .int, .ireturn) := by decide +kernel
theorem fe_142_0 : am_fe 142 0 = some (11, some .int, .iload_n 0) := by decide +kernel
theorem fe_142_1 : am_fe 142 1 = some (11, some .int, .istore_n 2) := by decide +kernel
theorem fe_142_2 : am_fe 142 2 = some (11, some .int, .iload_n 1) := by decide +kernel
theorem fe_142_3 : am_fe 142 3 = some (11, some .int, .istore_n 3) := by decide +kernel
theorem fe_142_4 : am_fe 142 4 = some (11, some .int, .iconst 0) := by decide +kernel
theorem fe_142_5 : am_fe 142 5 = some (11, some .int, .istore 4) := by decide +kernel
theorem fe_142_7 : am_fe 142 7 = some (11, some .int, .iload 4) := by decide +kernel
theorem fe_142_9 : am_fe 142 9 = some (11, some .int, .bipush 64) := by decide +kernel
theorem fe_142_11 : am_fe 142 11 = some (11, some .int, .if_icmp .ge 23) := by decide +kernel
theorem fe_142_14 : am_fe 142 14 = some (11, some .int, .iload_n 3) := by decide +kernel
theorem fe_142_15 : am_fe 142 15 = some (11, some .int, .ifCond .le 19) := by decide +kernel
theorem fe_142_18 : am_fe 142 18 = some (11, some .int, .iload_n 2) := by decide +kernel
theorem fe_142_19 : am_fe 142 19 = some (11, some .int, .iload_n 3) := by decide +kernel
theorem fe_142_20 : am_fe 142 20 = some (11, some .int, .irem) := by decide +kernel
theorem fe_142_21 : am_fe 142 21 = some (11, some .int, .istore 5) := by decide +kernel
theorem fe_142_23 : am_fe 142 23 = some (11, some .int, .iload_n 3) := by decide +kernel
theorem fe_142_24 : am_fe 142 24 = some (11, some .int, .istore_n 2) := by decide +kernel
theorem fe_142_25 : am_fe 142 25 = some (11, some .int, .iload 5) := by decide +kernel
theorem fe_142_27 : am_fe 142 27 = some (11, some .int, .istore_n 3) := by decide +kernel
theorem fe_142_28 : am_fe 142 28 = some (11, some .int, .iinc 4 1) := by decide +kernel
theorem fe_142_31 : am_fe 142 31 = some (11, some .int, .goto (-24)) := by decide +kernel
theorem fe_142_34 : am_fe 142 34 = some (11, some .int, .iload_n 2) := by decide +kernel
theorem fe_142_35 : am_fe 142 35 = some (11, some .int, .ireturn) := by decide +kernel
theorem fe_143_0 : am_fe 143 0 = some (11, some .int, .iload_n 1) := by decide +kernel
theorem fe_143_1 : am_fe 143 1 = some (11, some .int, .ifCond .ge 5) := by decide +kernel
theorem fe_143_4 : am_fe 143 4 = some (11, some .int, .iconst (-1)) := by decide +kernel
theorem fe_143_5 : am_fe 143 5 = some (11, some .int, .ireturn) := by decide +kernel
theorem fe_143_6 : am_fe 143 6 = some (11, some .int, .aload_n 0) := by decide +kernel
theorem fe_143_7 : am_fe 143 7 = some (11, some .int, .getfield 43) := by decide +kernel
theorem fe_143_10 : am_fe 143 10 = some (11, some .int, .getfield 301) := by decide +kernel
theorem fe_143_13 : am_fe 143 13 = some (11, some .int, .istore_n 2) := by decide +kernel
theorem fe_143_14 : am_fe 143 14 = some (11, some .int, .aload_n 0) := by decide +kernel
theorem fe_143_15 : am_fe 143 15 = some (11, some .int, .getfield 43) := by decide +kernel
theorem fe_143_18 : am_fe 143 18 = some (11, some .int, .iload_n 1) := by decide +kernel
theorem fe_143_19 : am_fe 143 19 = some (11, some .int, .putfield 301) := by decide +kernel
theorem fe_143_22 : am_fe 143 22 = some (11, some .int, .iload_n 2) := by decide +kernel
theorem fe_143_23 : am_fe 143 23 = some (11, some .int, .ireturn) := by decide +kernel
theorem fe_144_0 : am_fe 144 0 = some (11, some .int, .aload_n 0) := by decide +kernel
theorem fe_144_1 : am_fe 144 1 = some (11, some .int, .invokevirtual 169) := by decide +kernel
theorem fe_144_4 : am_fe 144 4 = some (11, some .int, .ifCond .eq 30) := by decide +kernel
theorem fe_144_7 : am_fe 144 7 = some (11, some .int, .iload_n 1) := by decide +kernel
theorem fe_144_8 : am_fe 144 8 = some (11, some .int, .iconst 1) := by decide +kernel
theorem fe_144_9 : am_fe 144 9 = some (11, some .int, .if_icmp .lt 25) := by decide +kernel
theorem fe_144_12 : am_fe 144 12 = some (11, some .int, .iload_n 1) := by decide +kernel
theorem fe_144_13 : am_fe 144 13 = some (11, some .int, .bipush 10) := by decide +kernel
theorem fe_144_15 : am_fe 144 15 = some (11, some .int, .if_icmp .gt 19) := by decide +kernel
theorem fe_144_18 : am_fe 144 18 = some (11, some .int, .iload_n 2) := by decide +kernel
theorem fe_144_19 : am_fe 144 19 = some (11, some .int, .invokestatic 254) := by decide +kernel
theorem fe_144_22 : am_fe 144 22 = some (11, some .int, .ifCond .eq 12) := by decide +kernel
theorem fe_144_25 : am_fe 144 25 = some (11, some .int, .iload_n 3) := by decide +kernel
theorem fe_144_26 : am_fe 144 26 = some (11, some .int, .ifCond .lt 8) := by decide +kernel
theorem fe_144_29 : am_fe 144 29 = some (11, some .int, .iload_n 3) := by decide +kernel
theorem fe_144_30 : am_fe 144 30 = some (11, some .int, .iconst 2) := by decide +kernel
theorem fe_144_31 : am_fe 144 31 = some (11, some .int, .if_icmp .le 5) := by decide +kernel
theorem fe_144_34 : am_fe 144 34 = some (11, some .int, .iconst (-1)) := by decide +kernel
theorem fe_144_35 : am_fe 144 35 = some (11, some .int, .ireturn) := by decide +kernel
theorem fe_144_36 : am_fe 144 36 = some (11, some .int, .aload_n 0) := by decide +kernel
theorem fe_144_37 : am_fe 144 37 = some (11, some .int, .getfield 43) := by decide +kernel
theorem fe_144_40 : am_fe 144 40 = some (11, some .int, .getfield 301) := by decide +kernel
theorem fe_144_43 : am_fe 144 43 = some (11, some .int, .istore 4) := by decide +kernel
theorem fe_144_45 : am_fe 144 45 = some (11, some .int, .iconst 0) := by decide +kernel
theorem fe_144_46 : am_fe 144 46 = some (11, some .int, .istore 5) := by decide +kernel
theorem fe_144_48 : am_fe 144 48 = some (11, some .int, .iconst 0) := by decide +kernel
theorem fe_144_49 : am_fe 144 49 = some (11, some .int, .istore 6) := by decide +kernel
theorem fe_144_51 : am_fe 144 51 = some (11, some .int, .iload 6) := by decide +kernel
theorem fe_144_53 : am_fe 144 53 = some (11, some .int, .iload_n 1) := by decide +kernel
theorem fe_144_54 : am_fe 144 54 = some (11, some .int, .if_icmp .ge 79) := by decide +kernel
theorem fe_144_57 : am_fe 144 57 = some (11, some .int, .aload_n 0) := by decide +kernel
theorem fe_144_58 : am_fe 144 58 = some (11, some .int, .getfield 54) := by decide +kernel
theorem fe_144_61 : am_fe 144 61 = some (11, some .int, .aload_n 0) := by decide +kernel
theorem fe_144_62 : am_fe 144 62 = some (11, some .int, .getfield 43) := by decide +kernel
theorem fe_144_65 : am_fe 144 65 = some (11, some .int, .aload_n 0) := by decide +kernel
theorem fe_144_66 : am_fe 144 66 = some (11, some .int, .invokevirtual 179) := by decide +kernel
theorem fe_144_69 : am_fe 144 69 = some (11, some .int, .invokevirtual 231) := by decide +kernel
theorem fe_144_72 : am_fe 144 72 = some (11, some .int, .aload_n 0) := by decide +kernel
theorem fe_144_73 : am_fe 144 73 = some (11, some .int, .iload_n 2) := by decide +kernel
theorem fe_144_74 : am_fe 144 74 = some (11, some .int, .iload 4) := by decide +kernel
theorem fe_144_76 : am_fe 144 76 = some (11, some .int, .invokevirtual 304) := by decide +kernel
theorem fe_144_79 : am_fe 144 79 = some (11, some .int, .istore 4) := by decide +kernel
theorem fe_144_81 : am_fe 144 81 = some (11, some .int, .iload_n 3) := by decide +kernel
theorem fe_144_82 : am_fe 144 82 = some (11, some .int, .ifCond .ne 18) := by decide +kernel
theorem fe_144_85 : am_fe 144 85 = some (11, some .int, .iload 5) := by decide +kernel
theorem fe_144_87 : am_fe 144 87 = some (11, some .int, .aload_n 0) := by decide +kernel
theorem fe_144_88 : am_fe 144 88 = some (11, some .int, .getfield 54) := by decide +kernel
theorem fe_144_91 : am_fe 144 91 = some (11, some .int, .getfield 189) := by decide +kernel
theorem fe_144_94 : am_fe 144 94 = some (11, some .int, .iadd) := by decide +kernel
theorem fe_144_95 : am_fe 144 95 = some (11, some .int, .istore 5) := by decide +kernel
theorem fe_144_97 : am_fe 144 97 = some (11, some .int, .goto 30) := by decide +kernel
theorem fe_144_100 : am_fe 144 100 = some (11, some .int, .iload 5) := by decide +kernel
theorem fe_144_102 : am_fe 144 102 = some (11, some .int, .iload_n 3) := by decide +kernel
theorem fe_144_103 : am_fe 144 103 = some (11, some .int, .iconst 1) := by decide +kernel
theorem fe_144_104 : am_fe 144 104 = some (11, some .int, .if_icmp .ne 13) := by decide +kernel
theorem fe_144_107 : am_fe 144 107 = some (11, some .int, .aload_n 0) := by decide +kernel
theorem fe_144_108 : am_fe 144 108 = some (11, some .int, .getfield 54) := by decide +kernel
theorem fe_144_111 : am_fe 144 111 = some (11, some .int, .getfield 192) := by decide +kernel
theorem fe_144_114 : am_fe 144 114 = some (11, some .int, .goto 10) := by decide +kernel
theorem fe_144_117 : am_fe 144 117 = some (11, some .int, .aload_n 0) := by decide +kernel
theorem fe_144_118 : am_fe 144 118 = some (11, some .int, .getfield 54) := by decide +kernel
theorem fe_144_121 : am_fe 144 121 = some (11, some .int, .getfield 195) := by decide +kernel
theorem fe_144_124 : am_fe 144 124 = some (11, some .int, .iadd) := by decide +kernel
theorem fe_144_125 : am_fe 144 125 = some (11, some .int, .istore 5) := by decide +kernel
theorem fe_144_127 : am_fe 144 127 = some (11, some .int, .iinc 6 1) := by decide +kernel
theorem fe_144_130 : am_fe 144 130 = some (11, some .int, .goto (-79)) := by decide +kernel
theorem fe_144_133 : am_fe 144 133 = some (11, some .int, .iload 5) := by decide +kernel
theorem fe_144_135 : am_fe 144 135 = some (11, some .int, .ireturn) := by decide +kernel
theorem fe_145_0 : am_fe 145 0 = some (11, some .int, .iload_n 2) := by decide +kernel
theorem fe_145_1 : am_fe 145 1 = some (11, some .int, .istore_n 3) := by decide +kernel
theorem fe_145_2 : am_fe 145 2 = some (11, some .int, .iconst 0) := by decide +kernel
theorem fe_145_3 : am_fe 145 3 = some (11, some .int, .istore 4) := by decide +kernel
theorem fe_145_5 : am_fe 145 5 = some (11, some .int, .iload 4) := by decide +kernel
theorem fe_145_7 : am_fe 145 7 = some (11, some .int, .iload_n 1) := by decide +kernel
theorem fe_145_8 : am_fe 145 8 = some (11, some .int, .if_icmp .ge 91) := by decide +kernel
theorem fe_145_11 : am_fe 145 11 = some (11, some .int, .aload_n 0) := by decide +kernel
theorem fe_145_12 : am_fe 145 12 = some (11, some .int, .invokevirtual 169) := by decide +kernel
theorem fe_145_15 : am_fe 145 15 = some (11, some .int, .ifCond .eq 84) := by decide +kernel
theorem fe_145_18 : am_fe 145 18 = some (11, some .int, .iload_n 3) := by decide +kernel
theorem fe_145_19 : am_fe 145 19 = some (11, some .int, .invokestatic 310) := by decide +kernel
theorem fe_145_22 : am_fe 145 22 = some (11, some .int, .istore_n 3) := by decide +kernel
theorem fe_145_23 : am_fe 145 23 = some (11, some .int, .iload_n 3) := by decide +kernel
theorem fe_145_24 : am_fe 145 24 = some (11, some .int, .invokestatic 313) := by decide +kernel
theorem fe_145_27 : am_fe 145 27 = some (11, some .int, .aload_n 0) := by decide +kernel
theorem fe_145_28 : am_fe 145 28 = some (11, some .int, .getfield 43) := by decide +kernel
theorem fe_145_31 : am_fe 145 31 = some (11, some .int, .getfield 83) := by decide +kernel
theorem fe_145_34 : am_fe 145 34 = some (11, some .int, .getfield 257) := by decide +kernel
theorem fe_145_37 : am_fe 145 37 = some (11, some .int, .irem) := by decide +kernel
theorem fe_145_38 : am_fe 145 38 = some (11, some .int, .istore 5) := by decide +kernel
theorem fe_145_40 : am_fe 145 40 = some (11, some .int, .iload_n 3) := by decide +kernel
theorem fe_145_41 : am_fe 145 41 = some (11, some .int, .invokestatic 310) := by decide +kernel
theorem fe_145_44 : am_fe 145 44 = some (11, some .int, .istore_n 3) := by decide +kernel
theorem fe_145_45 : am_fe 145 45 = some (11, some .int, .iconst 1) := by decide +kernel
theorem fe_145_46 : am_fe 145 46 = some (11, some .int, .iload_n 3) := by decide +kernel
theorem fe_145_47 : am_fe 145 47 = some (11, some .int, .invokestatic 313) := by decide +kernel
theorem fe_145_50 : am_fe 145 50 = some (11, some .int, .bipush 6) := by decide +kernel
theorem fe_145_52 : am_fe 145 52 = some (11, some .int, .irem) := by decide +kernel
theorem fe_145_53 : am_fe 145 53 = some (11, some .int, .iadd) := by decide +kernel
theorem fe_145_54 : am_fe 145 54 = some (11, some .int, .istore 6) := by decide +kernel
theorem fe_145_56 : am_fe 145 56 = some (11, some .int, .aload_n 0) := by decide +kernel
theorem fe_145_57 : am_fe 145 57 = some (11, some .int, .getfield 54) := by decide +kernel
theorem fe_145_60 : am_fe 145 60 = some (11, some .int, .getfield 238) := by decide +kernel
theorem fe_145_63 : am_fe 145 63 = some (11, some .int, .getfield 113) := by decide +kernel
theorem fe_145_66 : am_fe 145 66 = some (11, some .int, .bipush 12) := by decide +kernel
theorem fe_145_68 : am_fe 145 68 = some (11, some .int, .if_icmp .ge 18) := by decide +kernel
theorem fe_145_71 : am_fe 145 71 = some (11, some .int, .aload_n 0) := by decide +kernel
theorem fe_145_72 : am_fe 145 72 = some (11, some .int, .getfield 54) := by decide +kernel
theorem fe_145_75 : am_fe 145 75 = some (11, some .int, .getfield 238) := by decide +kernel
theorem fe_145_78 : am_fe 145 78 = some (11, some .int, .iload 5) := by decide +kernel
theorem fe_145_80 : am_fe 145 80 = some (11, some .int, .iload 6) := by decide +kernel
theorem fe_145_82 : am_fe 145 82 = some (11, some .int, .invokevirtual 201) := by decide +kernel
theorem fe_145_85 : am_fe 145 85 = some (11, some .int, .pop) := by decide +kernel
theorem fe_145_86 : am_fe 145 86 = some (11, some .int, .aload_n 0) := by decide +kernel
theorem fe_145_87 : am_fe 145 87 = some (11, some .int, .getfield 54) := by decide +kernel
theorem fe_145_90 : am_fe 145 90 = some (11, some .int, .invokevirtual 186) := by decide +kernel
theorem fe_145_93 : am_fe 145 93 = some (11, some .int, .iinc 4 1) := by decide +kernel
theorem fe_145_96 : am_fe 145 96 = some (11, some .int, .goto (-91)) := by decide +kernel
theorem fe_145_99 : am_fe 145 99 = some (11, some .int, .iload_n 3) := by decide +kernel
theorem fe_145_100 : am_fe 145 100 = some (11, some .int, .ireturn) := by decide +kernel
theorem fe_146_0 : am_fe 146 0 = some (11, some .int, .iload_n 0) := by decide +kernel
theorem fe_146_1 : am_fe 146 1 = some (11, some .int, .i2l) := by decide +kernel
theorem fe_146_2 : am_fe 146 2 = some (11, some .int, .ldc2_w 316) := by decide +kernel
theorem fe_146_5 : am_fe 146 5 = some (11, some .int, .lmul) := by decide +kernel
theorem fe_146_6 : am_fe 146 6 = some (11, some .int, .ldc2_w 318) := by decide +kernel
theorem fe_146_9 : am_fe 146 9 = some (11, some .int, .ladd) := by decide +kernel
theorem fe_146_10 : am_fe 146 10 = some (11, some .int, .ldc2_w 320) := by decide +kernel
theorem fe_146_13 : am_fe 146 13 = some (11, some .int, .lrem) := by decide +kernel
theorem fe_146_14 : am_fe 146 14 = some (11, some .int, .l2i) := by decide +kernel
theorem fe_146_15 : am_fe 146 15 = some (11, some .int, .ireturn) := by decide +kernel
theorem fe_147_0 : am_fe 147 0 = some (11, some .int, .iload_n 0) := by decide +kernel
theorem fe_147_1 : am_fe 147 1 = some (11, some .int, .ldc_w 322) := by decide +kernel
theorem fe_147_4 : am_fe 147 4 = some (11, some .int, .idiv) := by decide +kernel
theorem fe_147_5 : am_fe 147 5 = some (11, some .int, .ireturn) := by decide +kernel
theorem fe_148_0 : am_fe 148 0 = some (11, some .int, .iload_n 1) := by decide +kernel
theorem fe_148_1 : am_fe 148 1 = some (11, some .int, .tableswitch 195 0 12 #[67, 78, 89, 100, 111, 122, 127, 135, 146, 157, 168, 179, 187]) := by decide +kernel
theorem fe_148_68 : am_fe 148 68 = some (11, some .int, .aload_n 0) := by decide +kernel
theorem fe_148_69 : am_fe 148 69 = some (11, some .int, .getfield 43) := by decide +kernel
theorem fe_148_72 : am_fe 148 72 = some (11, some .int, .getfield 83) := by decide +kernel
theorem fe_148_75 : am_fe 148 75 = some (11, some .int, .getfield 257) := by decide +kernel
theorem fe_148_78 : am_fe 148 78 = some (11, some .int, .ireturn) := by decide +kernel
theorem fe_148_79 : am_fe 148 79 = some (11, some .int, .aload_n 0) := by decide +kernel
theorem fe_148_80 : am_fe 148 80 = some (11, some .int, .getfield 43) := by decide +kernel
theorem fe_148_83 : am_fe 148 83 = some (11, some .int, .getfield 83) := by decide +kernel
theorem fe_148_86 : am_fe 148 86 = some (11, some .int, .getfield 289) := by decide +kernel
theorem fe_148_89 : am_fe 148 89 = some (11, some .int, .ireturn) := by decide +kernel
theorem fe_148_90 : am_fe 148 90 = some (11, some .int, .aload_n 0) := by decide +kernel
theorem fe_148_91 : am_fe 148 91 = some (11, some .int, .getfield 43) := by decide +kernel
theorem fe_148_94 : am_fe 148 94 = some (11, some .int, .getfield 83) := by decide +kernel
theorem fe_148_97 : am_fe 148 97 = some (11, some .int, .getfield 277) := by decide +kernel
theorem fe_148_100 : am_fe 148 100 = some (11, some .int, .ireturn) := by decide +kernel
theorem fe_148_101 : am_fe 148 101 = some (11, some .int, .aload_n 0) := by decide +kernel
theorem fe_148_102 : am_fe 148 102 = some (11, some .int, .getfield 43) := by decide +kernel
theorem fe_148_105 : am_fe 148 105 = some (11, some .int, .getfield 94) := by decide +kernel
theorem fe_148_108 : am_fe 148 108 = some (11, some .int, .invokevirtual 221) := by decide +kernel
theorem fe_148_111 : am_fe 148 111 = some (11, some .int, .ireturn) := by decide +kernel
theorem fe_148_112 : am_fe 148 112 = some (11, some .int, .aload_n 0) := by decide +kernel
theorem fe_148_113 : am_fe 148 113 = some (11, some .int, .getfield 43) := by decide +kernel
theorem fe_148_116 : am_fe 148 116 = some (11, some .int, .getfield 94) := by decide +kernel
theorem fe_148_119 : am_fe 148 119 = some (11, some .int, .getfield 113) := by decide +kernel
theorem fe_148_122 : am_fe 148 122 = some (11, some .int, .ireturn) := by decide +kernel
theorem fe_148_123 : am_fe 148 123 = some (11, some .int, .aload_n 0) := by decide +kernel
theorem fe_148_124 : am_fe 148 124 = some (11, some .int, .getfield 36) := by decide +kernel
theorem fe_148_127 : am_fe 148 127 = some (11, some .int, .ireturn) := by decide +kernel
theorem fe_148_128 : am_fe 148 128 = some (11, some .int, .aload_n 0) := by decide +kernel
theorem fe_148_129 : am_fe 148 129 = some (11, some .int, .getfield 43) := by decide +kernel
theorem fe_148_132 : am_fe 148 132 = some (11, some .int, .getfield 121) := by decide +kernel
theorem fe_148_135 : am_fe 148 135 = some (11, some .int, .ireturn) := by decide +kernel
theorem fe_148_136 : am_fe 148 136 = some (11, some .int, .aload_n 0) := by decide +kernel
theorem fe_148_137 : am_fe 148 137 = some (11, some .int, .getfield 43) := by decide +kernel
theorem fe_148_140 : am_fe 148 140 = some (11, some .int, .getfield 94) := by decide +kernel
theorem fe_148_143 : am_fe 148 143 = some (11, some .int, .getfield 173) := by decide +kernel
theorem fe_148_146 : am_fe 148 146 = some (11, some .int, .ireturn) := by decide +kernel
theorem fe_148_147 : am_fe 148 147 = some (11, some .int, .aload_n 0) := by decide +kernel
theorem fe_148_148 : am_fe 148 148 = some (11, some .int, .getfield 43) := by decide +kernel
theorem fe_148_151 : am_fe 148 151 = some (11, some .int, .getfield 94) := by decide +kernel
theorem fe_148_154 : am_fe 148 154 = some (11, some .int, .invokevirtual 242) := by decide +kernel
theorem fe_148_157 : am_fe 148 157 = some (11, some .int, .ireturn) := by decide +kernel
theorem fe_148_158 : am_fe 148 158 = some (11, some .int, .aload_n 0) := by decide +kernel
theorem fe_148_159 : am_fe 148 159 = some (11, some .int, .getfield 43) := by decide +kernel
theorem fe_148_162 : am_fe 148 162 = some (11, some .int, .getfield 94) := by decide +kernel
theorem fe_148_165 : am_fe 148 165 = some (11, some .int, .invokevirtual 292) := by decide +kernel
theorem fe_148_168 : am_fe 148 168 = some (11, some .int, .ireturn) := by decide +kernel
theorem fe_148_169 : am_fe 148 169 = some (11, some .int, .aload_n 0) := by decide +kernel
theorem fe_148_170 : am_fe 148 170 = some (11, some .int, .getfield 43) := by decide +kernel
theorem fe_148_173 : am_fe 148 173 = some (11, some .int, .getfield 104) := by decide +kernel
theorem fe_148_176 : am_fe 148 176 = some (11, some .int, .getfield 225) := by decide +kernel
theorem fe_148_179 : am_fe 148 179 = some (11, some .int, .ireturn) := by decide +kernel
theorem fe_148_180 : am_fe 148 180 = some (11, some .int, .aload_n 0) := by decide +kernel
theorem fe_148_181 : am_fe 148 181 = some (11, some .int, .getfield 43) := by decide +kernel
theorem fe_148_184 : am_fe 148 184 = some (11, some .int, .getfield 301) := by decide +kernel
theorem fe_148_187 : am_fe 148 187 = some (11, some .int, .ireturn) := by decide +kernel
theorem fe_148_188 : am_fe 148 188 = some (11, some .int, .aload_n 0) := by decide +kernel
theorem fe_148_189 : am_fe 148 189 = some (11, some .int, .getfield 12) := by decide +kernel
theorem fe_148_192 : am_fe 148 192 = some (11, some .int, .getfield 72) := by decide +kernel
theorem fe_148_195 : am_fe 148 195 = some (11, some .int, .ireturn) := by decide +kernel
theorem fe_148_196 : am_fe 148 196 = some (11, some .int, .iconst (-1)) := by decide +kernel
theorem fe_148_197 : am_fe 148 197 = some (11, some .int, .ireturn) := by decide +kernel
theorem fe_149_0 : am_fe 149 0 = some (11, some .int, .iload_n 1) := by decide +kernel
theorem fe_149_1 : am_fe 149 1 = some (11, some .int, .ifCond .lt 8) := by decide +kernel
theorem fe_149_4 : am_fe 149 4 = some (11, some .int, .iload_n 1) := by decide +kernel
theorem fe_149_5 : am_fe 149 5 = some (11, some .int, .iconst 4) := by decide +kernel
theorem fe_149_6 : am_fe 149 6 = some (11, some .int, .if_icmp .lt 5) := by decide +kernel
theorem fe_149_9 : am_fe 149 9 = some (11, some .int, .iconst (-1)) := by decide +kernel
theorem fe_149_10 : am_fe 149 10 = some (11, some .int, .ireturn) := by decide +kernel
theorem fe_149_11 : am_fe 149 11 = some (11, some .int, .aload_n 0) := by decide +kernel
theorem fe_149_12 : am_fe 149 12 = some (11, some .int, .getfield 47) := by decide +kernel
theorem fe_149_15 : am_fe 149 15 = some (11, some .int, .iload_n 1) := by decide +kernel
theorem fe_149_16 : am_fe 149 16 = some (11, some .int, .aaload) := by decide +kernel
theorem fe_149_17 : am_fe 149 17 = some (11, some .int, .ifnonnull 16) := by decide +kernel
theorem fe_149_20 : am_fe 149 20 = some (11, some .int, .aload_n 0) := by decide +kernel
theorem fe_149_21 : am_fe 149 21 = some (11, some .int, .getfield 47) := by decide +kernel
theorem fe_149_24 : am_fe 149 24 = some (11, some .int, .iload_n 1) := by decide +kernel
theorem fe_149_25 : am_fe 149 25 = some (11, some .int, .new 40) := by decide +kernel
theorem fe_149_28 : am_fe 149 28 = some (11, some .int, .dup) := by decide +kernel
theorem fe_149_29 : am_fe 149 29 = some (11, some .int, .invokespecial 42) := by decide +kernel
theorem fe_149_32 : am_fe 149 32 = some (11, some .int, .aastore) := by decide +kernel
theorem fe_149_33 : am_fe 149 33 = some (11, some .int, .aload_n 0) := by decide +kernel
theorem fe_149_34 : am_fe 149 34 = some (11, some .int, .getfield 47) := by decide +kernel
theorem fe_149_37 : am_fe 149 37 = some (11, some .int, .iload_n 1) := by decide +kernel
theorem fe_149_38 : am_fe 149 38 = some (11, some .int, .aaload) := by decide +kernel
theorem fe_149_39 : am_fe 149 39 = some (11, some .int, .aload_n 0) := by decide +kernel
theorem fe_149_40 : am_fe 149 40 = some (11, some .int, .getfield 43) := by decide +kernel
theorem fe_149_43 : am_fe 149 43 = some (11, some .int, .invokevirtual 307) := by decide +kernel
theorem fe_149_46 : am_fe 149 46 = some (11, some .int, .aload_n 0) := by decide +kernel
theorem fe_149_47 : am_fe 149 47 = some (11, some .int, .getfield 43) := by decide +kernel
theorem fe_149_50 : am_fe 149 50 = some (11, some .int, .getfield 94) := by decide +kernel
theorem fe_149_53 : am_fe 149 53 = some (11, some .int, .getfield 173) := by decide +kernel
theorem fe_149_56 : am_fe 149 56 = some (11, some .int, .ireturn) := by decide +kernel
theorem fe_150_0 : am_fe 150 0 = some (10, none, .aload_n 0) := by decide +kernel
theorem fe_150_1 : am_fe 150 1 = some (10, none, .getfield 12) := by decide +kernel
theorem fe_150_4 : am_fe 150 4 = some (10, none, .aload_n 1) := by decide +kernel
theorem fe_150_5 : am_fe 150 5 = some (10, none, .getfield 12) := by decide +kernel
theorem fe_150_8 : am_fe 150 8 = some (10, none, .invokevirtual 39) := by decide +kernel
theorem fe_150_11 : am_fe 150 11 = some (10, none, .aload_n 0) := by decide +kernel
theorem fe_150_12 : am_fe 150 12 = some (10, none, .getfield 21) := by decide +kernel
theorem fe_150_15 : am_fe 150 15 = some (10, none, .aload_n 1) := by decide +kernel
theorem fe_150_16 : am_fe 150 16 = some (10, none, .getfield 21) := by decide +kernel
theorem fe_150_19 : am_fe 150 19 = some (10, none, .invokevirtual 43) := by decide +kernel
theorem fe_150_22 : am_fe 150 22 = some (10, none, .aload_n 0) := by decide +kernel
theorem fe_150_23 : am_fe 150 23 = some (10, none, .getfield 28) := by decide +kernel
theorem fe_150_26 : am_fe 150 26 = some (10, none, .aload_n 1) := by decide +kernel
theorem fe_150_27 : am_fe 150 27 = some (10, none, .getfield 28) := by decide +kernel
theorem fe_150_30 : am_fe 150 30 = some (10, none, .invokevirtual 46) := by decide +kernel
theorem fe_150_33 : am_fe 150 33 = some (10, none, .aload_n 0) := by decide +kernel
theorem fe_150_34 : am_fe 150 34 = some (10, none, .aload_n 1) := by decide +kernel
theorem fe_150_35 : am_fe 150 35 = some (10, none, .getfield 32) := by decide +kernel
theorem fe_150_38 : am_fe 150 38 = some (10, none, .putfield 32) := by decide +kernel
theorem fe_150_41 : am_fe 150 41 = some (10, none, .aload_n 0) := by decide +kernel
theorem fe_150_42 : am_fe 150 42 = some (10, none, .aload_n 1) := by decide +kernel
theorem fe_150_43 : am_fe 150 43 = some (10, none, .getfield 36) := by decide +kernel
theorem fe_150_46 : am_fe 150 46 = some (10, none, .putfield 36) := by decide +kernel
theorem fe_150_49 : am_fe 150 49 = some (10, none, .return_) := by decide +kernel
theorem fe_151_0 : am_fe 151 0 = some (4, none, .aload_n 0) := by decide +kernel
theorem fe_151_1 : am_fe 151 1 = some (4, none, .invokevirtual 29) := by decide +kernel
theorem fe_151_4 : am_fe 151 4 = some (4, none, .iconst 0) := by decide +kernel
theorem fe_151_5 : am_fe 151 5 = some (4, none, .istore_n 2) := by decide +kernel
theorem fe_151_6 : am_fe 151 6 = some (4, none, .iload_n 2) := by decide +kernel
theorem fe_151_7 : am_fe 151 7 = some (4, none, .aload_n 1) := by decide +kernel
theorem fe_151_8 : am_fe 151 8 = some (4, none, .getfield 21) := by decide +kernel
theorem fe_151_11 : am_fe 151 11 = some (4, none, .if_icmp .ge 33) := by decide +kernel
theorem fe_151_14 : am_fe 151 14 = some (4, none, .aload_n 1) := by decide +kernel
theorem fe_151_15 : am_fe 151 15 = some (4, none, .getfield 11) := by decide +kernel
theorem fe_151_18 : am_fe 151 18 = some (4, none, .aload_n 1) := by decide +kernel
theorem fe_151_19 : am_fe 151 19 = some (4, none, .getfield 17) := by decide +kernel
theorem fe_151_22 : am_fe 151 22 = some (4, none, .iload_n 2) := by decide +kernel
theorem fe_151_23 : am_fe 151 23 = some (4, none, .iadd) := by decide +kernel
theorem fe_151_24 : am_fe 151 24 = some (4, none, .bipush 20) := by decide +kernel
theorem fe_151_26 : am_fe 151 26 = some (4, none, .irem) := by decide +kernel
theorem fe_151_27 : am_fe 151 27 = some (4, none, .aaload) := by decide +kernel
theorem fe_151_28 : am_fe 151 28 = some (4, none, .astore_n 3) := by decide +kernel
theorem fe_151_29 : am_fe 151 29 = some (4, none, .aload_n 3) := by decide +kernel
theorem fe_151_30 : am_fe 151 30 = some (4, none, .ifnull 8) := by decide +kernel
theorem fe_151_33 : am_fe 151 33 = some (4, none, .aload_n 0) := by decide +kernel
theorem fe_151_34 : am_fe 151 34 = some (4, none, .aload_n 3) := by decide +kernel
theorem fe_151_35 : am_fe 151 35 = some (4, none, .invokevirtual 32) := by decide +kernel
theorem fe_151_38 : am_fe 151 38 = some (4, none, .iinc 2 1) := by decide +kernel
theorem fe_151_41 : am_fe 151 41 = some (4, none, .goto (-35)) := by decide +kernel
theorem fe_151_44 : am_fe 151 44 = some (4, none, .return_) := by decide +kernel
theorem fe_152_0 : am_fe 152 0 = some (11, some .int, .iload_n 1) := by decide +kernel
theorem fe_152_1 : am_fe 152 1 = some (11, some .int, .ifCond .lt 17) := by decide +kernel
theorem fe_152_4 : am_fe 152 4 = some (11, some .int, .iload_n 1) := by decide +kernel
theorem fe_152_5 : am_fe 152 5 = some (11, some .int, .iconst 4) := by decide +kernel
theorem fe_152_6 : am_fe 152 6 = some (11, some .int, .if_icmp .ge 12) := by decide +kernel
theorem fe_152_9 : am_fe 152 9 = some (11, some .int, .aload_n 0) := by decide +kernel
theorem fe_152_10 : am_fe 152 10 = some (11, some .int, .getfield 47) := by decide +kernel
theorem fe_152_13 : am_fe 152 13 = some (11, some .int, .iload_n 1) := by decide +kernel
theorem fe_152_14 : am_fe 152 14 = some (11, some .int, .aaload) := by decide +kernel
theorem fe_152_15 : am_fe 152 15 = some (11, some .int, .ifnonnull 5) := by decide +kernel
theorem fe_152_18 : am_fe 152 18 = some (11, some .int, .iconst (-1)) := by decide +kernel
theorem fe_152_19 : am_fe 152 19 = some (11, some .int, .ireturn) := by decide +kernel
theorem fe_152_20 : am_fe 152 20 = some (11, some .int, .aload_n 0) := by decide +kernel
theorem fe_152_21 : am_fe 152 21 = some (11, some .int, .getfield 43) := by decide +kernel
theorem fe_152_24 : am_fe 152 24 = some (11, some .int, .aload_n 0) := by decide +kernel
theorem fe_152_25 : am_fe 152 25 = some (11, some .int, .getfield 47) := by decide +kernel
theorem fe_152_28 : am_fe 152 28 = some (11, some .int, .iload_n 1) := by decide +kernel
theorem fe_152_29 : am_fe 152 29 = some (11, some .int, .aaload) := by decide +kernel
theorem fe_152_30 : am_fe 152 30 = some (11, some .int, .invokevirtual 307) := by decide +kernel
theorem fe_152_33 : am_fe 152 33 = some (11, some .int, .aload_n 0) := by decide +kernel
theorem fe_152_34 : am_fe 152 34 = some (11, some .int, .getfield 43) := by decide +kernel
theorem fe_152_37 : am_fe 152 37 = some (11, some .int, .getfield 94) := by decide +kernel
theorem fe_152_40 : am_fe 152 40 = some (11, some .int, .getfield 173) := by decide +kernel
theorem fe_152_43 : am_fe 152 43 = some (11, some .int, .ireturn) := by decide +kernel
theorem fe_153_0 : am_fe 153 0 = some (12, none, .aload_n 0) := by decide +kernel
theorem fe_153_1 : am_fe 153 1 = some (12, none, .invokespecial 3) := by decide +kernel
theorem fe_153_4 : am_fe 153 4 = some (12, none, .aload_n 0) := by decide +kernel
theorem fe_153_5 : am_fe 153 5 = some (12, none, .bipush 9) := by decide +kernel
theorem fe_153_7 : am_fe 153 7 = some (12, none, .newarray .int) := by decide +kernel
theorem fe_153_9 : am_fe 153 9 = some (12, none, .dup) := by decide +kernel
theorem fe_153_10 : am_fe 153 10 = some (12, none, .iconst 0) := by decide +kernel
theorem fe_153_11 : am_fe 153 11 = some (12, none, .iconst 0) := by decide +kernel
theorem fe_153_12 : am_fe 153 12 = some (12, none, .iastore) := by decide +kernel
theorem fe_153_13 : am_fe 153 13 = some (12, none, .dup) := by decide +kernel
theorem fe_153_14 : am_fe 153 14 = some (12, none, .iconst 1) := by decide +kernel
theorem fe_153_15 : am_fe 153 15 = some (12, none, .iconst 0) := by decide +kernel
theorem fe_153_16 : am_fe 153 16 = some (12, none, .iastore) := by decide +kernel
theorem fe_153_17 : am_fe 153 17 = some (12, none, .dup) := by decide +kernel
theorem fe_153_18 : am_fe 153 18 = some (12, none, .iconst 2) := by decide +kernel
theorem fe_153_19 : am_fe 153 19 = some (12, none, .iconst 0) := by decide +kernel
theorem fe_153_20 : am_fe 153 20 = some (12, none, .iastore) := by decide +kernel
theorem fe_153_21 : am_fe 153 21 = some (12, none, .dup) := by decide +kernel
theorem fe_153_22 : am_fe 153 22 = some (12, none, .iconst 3) := by decide +kernel
theorem fe_153_23 : am_fe 153 23 = some (12, none, .iconst 0) := by decide +kernel
theorem fe_153_24 : am_fe 153 24 = some (12, none, .iastore) := by decide +kernel
theorem fe_153_25 : am_fe 153 25 = some (12, none, .dup) := by decide +kernel
theorem fe_153_26 : am_fe 153 26 = some (12, none, .iconst 4) := by decide +kernel
theorem fe_153_27 : am_fe 153 27 = some (12, none, .iconst 0) := by decide +kernel
theorem fe_153_28 : am_fe 153 28 = some (12, none, .iastore) := by decide +kernel
theorem fe_153_29 : am_fe 153 29 = some (12, none, .dup) := by decide +kernel
theorem fe_153_30 : am_fe 153 30 = some (12, none, .iconst 5) := by decide +kernel
theorem fe_153_31 : am_fe 153 31 = some (12, none, .iconst 0) := by decide +kernel
theorem fe_153_32 : am_fe 153 32 = some (12, none, .iastore) := by decide +kernel
theorem fe_153_33 : am_fe 153 33 = some (12, none, .dup) := by decide +kernel
theorem fe_153_34 : am_fe 153 34 = some (12, none, .bipush 6) := by decide +kernel
theorem fe_153_36 : am_fe 153 36 = some (12, none, .iconst 0) := by decide +kernel
theorem fe_153_37 : am_fe 153 37 = some (12, none, .iastore) := by decide +kernel
theorem fe_153_38 : am_fe 153 38 = some (12, none, .dup) := by decide +kernel
theorem fe_153_39 : am_fe 153 39 = some (12, none, .bipush 7) := by decide +kernel
theorem fe_153_41 : am_fe 153 41 = some (12, none, .iconst 0) := by decide +kernel
theorem fe_153_42 : am_fe 153 42 = some (12, none, .iastore) := by decide +kernel
theorem fe_153_43 : am_fe 153 43 = some (12, none, .dup) := by decide +kernel
theorem fe_153_44 : am_fe 153 44 = some (12, none, .bipush 8) := by decide +kernel
theorem fe_153_46 : am_fe 153 46 = some (12, none, .iconst (-1)) := by decide +kernel
theorem fe_153_47 : am_fe 153 47 = some (12, none, .iastore) := by decide +kernel
theorem fe_153_48 : am_fe 153 48 = some (12, none, .putfield 9) := by decide +kernel
theorem fe_153_51 : am_fe 153 51 = some (12, none, .aload_n 0) := by decide +kernel
theorem fe_153_52 : am_fe 153 52 = some (12, none, .bipush 16) := by decide +kernel
theorem fe_153_54 : am_fe 153 54 = some (12, none, .newarray .int) := by decide +kernel
theorem fe_153_56 : am_fe 153 56 = some (12, none, .putfield 13) := by decide +kernel
theorem fe_153_59 : am_fe 153 59 = some (12, none, .aload_n 0) := by decide +kernel
theorem fe_153_60 : am_fe 153 60 = some (12, none, .bipush 16) := by decide +kernel
theorem fe_153_62 : am_fe 153 62 = some (12, none, .newarray .int) := by decide +kernel
theorem fe_153_64 : am_fe 153 64 = some (12, none, .putfield 16) := by decide +kernel
theorem fe_153_67 : am_fe 153 67 = some (12, none, .aload_n 0) := by decide +kernel
theorem fe_153_68 : am_fe 153 68 = some (12, none, .bipush 6) := by decide +kernel
theorem fe_153_70 : am_fe 153 70 = some (12, none, .newarray .int) := by decide +kernel
theorem fe_153_72 : am_fe 153 72 = some (12, none, .putfield 19) := by decide +kernel
theorem fe_153_75 : am_fe 153 75 = some (12, none, .aload_n 0) := by decide +kernel
theorem fe_153_76 : am_fe 153 76 = some (12, none, .bipush 6) := by decide +kernel
theorem fe_153_78 : am_fe 153 78 = some (12, none, .newarray .int) := by decide +kernel
theorem fe_153_80 : am_fe 153 80 = some (12, none, .putfield 22) := by decide +kernel
theorem fe_153_83 : am_fe 153 83 = some (12, none, .aload_n 0) := by decide +kernel
theorem fe_153_84 : am_fe 153 84 = some (12, none, .bipush 6) := by decide +kernel
theorem fe_153_86 : am_fe 153 86 = some (12, none, .newarray .int) := by decide +kernel
theorem fe_153_88 : am_fe 153 88 = some (12, none, .putfield 25) := by decide +kernel
theorem fe_153_91 : am_fe 153 91 = some (12, none, .aload_n 0) := by decide +kernel
theorem fe_153_92 : am_fe 153 92 = some (12, none, .iconst 4) := by decide +kernel
theorem fe_153_93 : am_fe 153 93 = some (12, none, .newarray .int) := by decide +kernel
theorem fe_153_95 : am_fe 153 95 = some (12, none, .putfield 28) := by decide +kernel
theorem fe_153_98 : am_fe 153 98 = some (12, none, .aload_n 0) := by decide +kernel
theorem fe_153_99 : am_fe 153 99 = some (12, none, .bipush 13) := by decide +kernel
theorem fe_153_101 : am_fe 153 101 = some (12, none, .newarray .int) := by decide +kernel
theorem fe_153_103 : am_fe 153 103 = some (12, none, .putfield 31) := by decide +kernel
theorem fe_153_106 : am_fe 153 106 = some (12, none, .aload_n 0) := by decide +kernel
theorem fe_153_107 : am_fe 153 107 = some (12, none, .bipush 13) := by decide +kernel
theorem fe_153_109 : am_fe 153 109 = some (12, none, .newarray .int) := by decide +kernel
theorem fe_153_111 : am_fe 153 111 = some (12, none, .putfield 34) := by decide +kernel
theorem fe_153_114 : am_fe 153 114 = some (12, none, .aload_n 0) := by decide +kernel
theorem fe_153_115 : am_fe 153 115 = some (12, none, .bipush 13) := by decide +kernel
theorem fe_153_117 : am_fe 153 117 = some (12, none, .newarray .int) := by decide +kernel
theorem fe_153_119 : am_fe 153 119 = some (12, none, .putfield 37) := by decide +kernel
theorem fe_153_122 : am_fe 153 122 = some (12, none, .aload_n 0) := by decide +kernel
theorem fe_153_123 : am_fe 153 123 = some (12, none, .bipush 13) := by decide +kernel
theorem fe_153_125 : am_fe 153 125 = some (12, none, .newarray .int) := by decide +kernel
theorem fe_153_127 : am_fe 153 127 = some (12, none, .putfield 40) := by decide +kernel
theorem fe_153_130 : am_fe 153 130 = some (12, none, .aload_n 0) := by decide +kernel
theorem fe_153_131 : am_fe 153 131 = some (12, none, .bipush 13) := by decide +kernel
theorem fe_153_133 : am_fe 153 133 = some (12, none, .newarray .int) := by decide +kernel
theorem fe_153_135 : am_fe 153 135 = some (12, none, .putfield 43) := by decide +kernel
theorem fe_153_138 : am_fe 153 138 = some (12, none, .aload_n 0) := by decide +kernel
theorem fe_153_139 : am_fe 153 139 = some (12, none, .bipush 13) := by decide +kernel
theorem fe_153_141 : am_fe 153 141 = some (12, none, .newarray .int) := by decide +kernel
theorem fe_153_143 : am_fe 153 143 = some (12, none, .putfield 46) := by decide +kernel
theorem fe_153_146 : am_fe 153 146 = some (12, none, .aload_n 0) := by decide +kernel
theorem fe_153_147 : am_fe 153 147 = some (12, none, .bipush 13) := by decide +kernel
theorem fe_153_149 : am_fe 153 149 = some (12, none, .newarray .int) := by decide +kernel
theorem fe_153_151 : am_fe 153 151 = some (12, none, .putfield 49) := by decide +kernel
theorem fe_153_154 : am_fe 153 154 = some (12, none, .aload_n 0) := by decide +kernel
theorem fe_153_155 : am_fe 153 155 = some (12, none, .bipush 13) := by decide +kernel
theorem fe_153_157 : am_fe 153 157 = some (12, none, .newarray .int) := by decide +kernel
theorem fe_153_159 : am_fe 153 159 = some (12, none, .putfield 52) := by decide +kernel
theorem fe_153_162 : am_fe 153 162 = some (12, none, .aload_n 0) := by decide +kernel
theorem fe_153_163 : am_fe 153 163 = some (12, none, .iconst 5) := by decide +kernel
theorem fe_153_164 : am_fe 153 164 = some (12, none, .newarray .int) := by decide +kernel
theorem fe_153_166 : am_fe 153 166 = some (12, none, .putfield 55) := by decide +kernel
theorem fe_153_169 : am_fe 153 169 = some (12, none, .aload_n 0) := by decide +kernel
theorem fe_153_170 : am_fe 153 170 = some (12, none, .bipush 16) := by decide +kernel
theorem fe_153_172 : am_fe 153 172 = some (12, none, .newarray .int) := by decide +kernel
theorem fe_153_174 : am_fe 153 174 = some (12, none, .putfield 58) := by decide +kernel
theorem fe_153_177 : am_fe 153 177 = some (12, none, .aload_n 0) := by decide +kernel
theorem fe_153_178 : am_fe 153 178 = some (12, none, .bipush 16) := by decide +kernel
theorem fe_153_180 : am_fe 153 180 = some (12, none, .newarray .int) := by decide +kernel
theorem fe_153_182 : am_fe 153 182 = some (12, none, .putfield 61) := by decide +kernel
theorem fe_153_185 : am_fe 153 185 = some (12, none, .aload_n 0) := by decide +kernel
theorem fe_153_186 : am_fe 153 186 = some (12, none, .bipush 6) := by decide +kernel
theorem fe_153_188 : am_fe 153 188 = some (12, none, .newarray .int) := by decide +kernel
theorem fe_153_190 : am_fe 153 190 = some (12, none, .putfield 64) := by decide +kernel
theorem fe_153_193 : am_fe 153 193 = some (12, none, .aload_n 0) := by decide +kernel
theorem fe_153_194 : am_fe 153 194 = some (12, none, .bipush 6) := by decide +kernel
theorem fe_153_196 : am_fe 153 196 = some (12, none, .newarray .int) := by decide +kernel
theorem fe_153_198 : am_fe 153 198 = some (12, none, .putfield 67) := by decide +kernel
theorem fe_153_201 : am_fe 153 201 = some (12, none, .aload_n 0) := by decide +kernel
theorem fe_153_202 : am_fe 153 202 = some (12, none, .iconst 4) := by decide +kernel
theorem fe_153_203 : am_fe 153 203 = some (12, none, .newarray .int) := by decide +kernel
theorem fe_153_205 : am_fe 153 205 = some (12, none, .putfield 70) := by decide +kernel
theorem fe_153_208 : am_fe 153 208 = some (12, none, .aload_n 0) := by decide +kernel
theorem fe_153_209 : am_fe 153 209 = some (12, none, .bipush 13) := by decide +kernel
theorem fe_153_211 : am_fe 153 211 = some (12, none, .newarray .int) := by decide +kernel
theorem fe_153_213 : am_fe 153 213 = some (12, none, .putfield 73) := by decide +kernel
theorem fe_153_216 : am_fe 153 216 = some (12, none, .aload_n 0) := by decide +kernel
theorem fe_153_217 : am_fe 153 217 = some (12, none, .bipush 13) := by decide +kernel
theorem fe_153_219 : am_fe 153 219 = some (12, none, .newarray .int) := by decide +kernel
theorem fe_153_221 : am_fe 153 221 = some (12, none, .putfield 76) := by decide +kernel
theorem fe_153_224 : am_fe 153 224 = some (12, none, .aload_n 0) := by decide +kernel
theorem fe_153_225 : am_fe 153 225 = some (12, none, .bipush 13) := by decide +kernel
theorem fe_153_227 : am_fe 153 227 = some (12, none, .newarray .int) := by decide +kernel
theorem fe_153_229 : am_fe 153 229 = some (12, none, .putfield 79) := by decide +kernel
theorem fe_153_232 : am_fe 153 232 = some (12, none, .aload_n 0) := by decide +kernel
theorem fe_153_233 : am_fe 153 233 = some (12, none, .bipush 13) := by decide +kernel
theorem fe_153_235 : am_fe 153 235 = some (12, none, .newarray .int) := by decide +kernel
theorem fe_153_237 : am_fe 153 237 = some (12, none, .putfield 82) := by decide +kernel
theorem fe_153_240 : am_fe 153 240 = some (12, none, .aload_n 0) := by decide +kernel
theorem fe_153_241 : am_fe 153 241 = some (12, none, .bipush 11) := by decide +kernel
theorem fe_153_243 : am_fe 153 243 = some (12, none, .putfield 85) := by decide +kernel
theorem fe_153_246 : am_fe 153 246 = some (12, none, .aload_n 0) := by decide +kernel
theorem fe_153_247 : am_fe 153 247 = some (12, none, .sipush 400) := by decide +kernel
theorem fe_153_250 : am_fe 153 250 = some (12, none, .newarray .byte) := by decide +kernel
theorem fe_153_252 : am_fe 153 252 = some (12, none, .putfield 89) := by decide +kernel
theorem fe_153_255 : am_fe 153 255 = some (12, none, .aload_n 0) := by decide +kernel
theorem fe_153_256 : am_fe 153 256 = some (12, none, .sipush 1800) := by decide +kernel
theorem fe_153_259 : am_fe 153 259 = some (12, none, .newarray .int) := by decide +kernel
theorem fe_153_261 : am_fe 153 261 = some (12, none, .putfield 93) := by decide +kernel
theorem fe_153_264 : am_fe 153 264 = some (12, none, .aload_n 0) := by decide +kernel
theorem fe_153_265 : am_fe 153 265 = some (12, none, .sipush 1800) := by decide +kernel
theorem fe_153_268 : am_fe 153 268 = some (12, none, .newarray .int) := by decide +kernel
theorem fe_153_270 : am_fe 153 270 = some (12, none, .putfield 96) := by decide +kernel
theorem fe_153_273 : am_fe 153 273 = some (12, none, .aload_n 0) := by decide +kernel
theorem fe_153_274 : am_fe 153 274 = some (12, none, .bipush 6) := by decide +kernel
theorem fe_153_276 : am_fe 153 276 = some (12, none, .newarray .int) := by decide +kernel
theorem fe_153_278 : am_fe 153 278 = some (12, none, .putfield 99) := by decide +kernel
theorem fe_153_281 : am_fe 153 281 = some (12, none, .aload_n 0) := by decide +kernel
theorem fe_153_282 : am_fe 153 282 = some (12, none, .bipush 72) := by decide +kernel
theorem fe_153_284 : am_fe 153 284 = some (12, none, .newarray .int) := by decide +kernel
theorem fe_153_286 : am_fe 153 286 = some (12, none, .putfield 102) := by decide +kernel
theorem fe_153_289 : am_fe 153 289 = some (12, none, .aload_n 0) := by decide +kernel
theorem fe_153_290 : am_fe 153 290 = some (12, none, .bipush 72) := by decide +kernel
theorem fe_153_292 : am_fe 153 292 = some (12, none, .newarray .int) := by decide +kernel
theorem fe_153_294 : am_fe 153 294 = some (12, none, .putfield 105) := by decide +kernel
theorem fe_153_297 : am_fe 153 297 = some (12, none, .aload_n 0) := by decide +kernel
theorem fe_153_298 : am_fe 153 298 = some (12, none, .sipush 402) := by decide +kernel
theorem fe_153_301 : am_fe 153 301 = some (12, none, .newarray .int) := by decide +kernel
theorem fe_153_303 : am_fe 153 303 = some (12, none, .putfield 108) := by decide +kernel
theorem fe_153_306 : am_fe 153 306 = some (12, none, .aload_n 0) := by decide +kernel
theorem fe_153_307 : am_fe 153 307 = some (12, none, .bipush 11) := by decide +kernel
theorem fe_153_309 : am_fe 153 309 = some (12, none, .newarray .long) := by decide +kernel
theorem fe_153_311 : am_fe 153 311 = some (12, none, .putfield 111) := by decide +kernel
theorem fe_153_314 : am_fe 153 314 = some (12, none, .aload_n 0) := by decide +kernel
theorem fe_153_315 : am_fe 153 315 = some (12, none, .sipush 300) := by decide +kernel
theorem fe_153_318 : am_fe 153 318 = some (12, none, .newarray .long) := by decide +kernel
theorem fe_153_320 : am_fe 153 320 = some (12, none, .putfield 115) := by decide +kernel
theorem fe_153_323 : am_fe 153 323 = some (12, none, .aload_n 0) := by decide +kernel
theorem fe_153_324 : am_fe 153 324 = some (12, none, .sipush 2280) := by decide +kernel
theorem fe_153_327 : am_fe 153 327 = some (12, none, .newarray .int) := by decide +kernel
theorem fe_153_329 : am_fe 153 329 = some (12, none, .putfield 118) := by decide +kernel
theorem fe_153_332 : am_fe 153 332 = some (12, none, .aload_n 0) := by decide +kernel
theorem fe_153_333 : am_fe 153 333 = some (12, none, .iconst 1) := by decide +kernel
theorem fe_153_334 : am_fe 153 334 = some (12, none, .newarray .int) := by decide +kernel
theorem fe_153_336 : am_fe 153 336 = some (12, none, .putfield 121) := by decide +kernel
theorem fe_153_339 : am_fe 153 339 = some (12, none, .aload_n 0) := by decide +kernel
theorem fe_153_340 : am_fe 153 340 = some (12, none, .bipush 9) := by decide +kernel
theorem fe_153_342 : am_fe 153 342 = some (12, none, .newarray .int) := by decide +kernel
theorem fe_153_344 : am_fe 153 344 = some (12, none, .putfield 124) := by decide +kernel
theorem fe_153_347 : am_fe 153 347 = some (12, none, .aload_n 0) := by decide +kernel
theorem fe_153_348 : am_fe 153 348 = some (12, none, .bipush 9) := by decide +kernel
theorem fe_153_350 : am_fe 153 350 = some (12, none, .newarray .int) := by decide +kernel
theorem fe_153_352 : am_fe 153 352 = some (12, none, .putfield 127) := by decide +kernel
theorem fe_153_355 : am_fe 153 355 = some (12, none, .aload_n 0) := by decide +kernel
theorem fe_153_356 : am_fe 153 356 = some (12, none, .bipush 21) := by decide +kernel
theorem fe_153_358 : am_fe 153 358 = some (12, none, .newarray .int) := by decide +kernel
theorem fe_153_360 : am_fe 153 360 = some (12, none, .putfield 130) := by decide +kernel
theorem fe_153_363 : am_fe 153 363 = some (12, none, .aload_n 0) := by decide +kernel
theorem fe_153_364 : am_fe 153 364 = some (12, none, .sipush 12500) := by decide +kernel
theorem fe_153_367 : am_fe 153 367 = some (12, none, .newarray .int) := by decide +kernel
theorem fe_153_369 : am_fe 153 369 = some (12, none, .putfield 133) := by decide +kernel
theorem fe_153_372 : am_fe 153 372 = some (12, none, .aload_n 0) := by decide +kernel
theorem fe_153_373 : am_fe 153 373 = some (12, none, .iconst 4) := by decide +kernel
theorem fe_153_374 : am_fe 153 374 = some (12, none, .newarray .boolean) := by decide +kernel
theorem fe_153_376 : am_fe 153 376 = some (12, none, .putfield 136) := by decide +kernel
theorem fe_153_379 : am_fe 153 379 = some (12, none, .return_) := by decide +kernel
theorem fe_154_0 : am_fe 154 0 = some (12, some .int, .aload_n 0) := by decide +kernel
theorem fe_154_1 : am_fe 154 1 = some (12, some .int, .getfield 157) := by decide +kernel
theorem fe_154_4 : am_fe 154 4 = some (12, some .int, .bipush 20) := by decide +kernel
theorem fe_154_6 : am_fe 154 6 = some (12, some .int, .iadd) := by decide +kernel
theorem fe_154_7 : am_fe 154 7 = some (12, some .int, .sipush 400) := by decide +kernel
theorem fe_154_10 : am_fe 154 10 = some (12, some .int, .if_icmp .le 5) := by decide +kernel
theorem fe_154_13 : am_fe 154 13 = some (12, some .int, .iconst (-1)) := by decide +kernel
theorem fe_154_14 : am_fe 154 14 = some (12, some .int, .ireturn) := by decide +kernel
theorem fe_154_15 : am_fe 154 15 = some (12, some .int, .aload_n 0) := by decide +kernel
theorem fe_154_16 : am_fe 154 16 = some (12, some .int, .iload_n 1) := by decide +kernel
theorem fe_154_17 : am_fe 154 17 = some (12, some .int, .invokevirtual 160) := by decide +kernel
theorem fe_154_20 : am_fe 154 20 = some (12, some .int, .aload_n 0) := by decide +kernel
theorem fe_154_21 : am_fe 154 21 = some (12, some .int, .iload_n 2) := by decide +kernel
theorem fe_154_22 : am_fe 154 22 = some (12, some .int, .invokevirtual 160) := by decide +kernel
theorem fe_154_25 : am_fe 154 25 = some (12, some .int, .aload_n 0) := by decide +kernel
theorem fe_154_26 : am_fe 154 26 = some (12, some .int, .iload_n 3) := by decide +kernel
theorem fe_154_27 : am_fe 154 27 = some (12, some .int, .invokevirtual 160) := by decide +kernel
theorem fe_154_30 : am_fe 154 30 = some (12, some .int, .aload_n 0) := by decide +kernel
theorem fe_154_31 : am_fe 154 31 = some (12, some .int, .iload 4) := by decide +kernel
theorem fe_154_33 : am_fe 154 33 = some (12, some .int, .invokevirtual 160) := by decide +kernel
theorem fe_154_36 : am_fe 154 36 = some (12, some .int, .aload_n 0) := by decide +kernel
theorem fe_154_37 : am_fe 154 37 = some (12, some .int, .iload 5) := by decide +kernel
theorem fe_154_39 : am_fe 154 39 = some (12, some .int, .invokevirtual 160) := by decide +kernel
theorem fe_154_42 : am_fe 154 42 = some (12, some .int, .aload_n 0) := by decide +kernel
theorem fe_154_43 : am_fe 154 43 = some (12, some .int, .getfield 157) := by decide +kernel
theorem fe_154_46 : am_fe 154 46 = some (12, some .int, .ireturn) := by decide +kernel
theorem fe_155_0 : am_fe 155 0 = some (12, none, .bipush 24) := by decide +kernel
theorem fe_155_2 : am_fe 155 2 = some (12, none, .istore_n 2) := by decide +kernel
theorem fe_155_3 : am_fe 155 3 = some (12, none, .iload_n 2) := by decide +kernel
theorem fe_155_4 : am_fe 155 4 = some (12, none, .ifCond .lt 32) := by decide +kernel
theorem fe_155_7 : am_fe 155 7 = some (12, none, .aload_n 0) := by decide +kernel
theorem fe_155_8 : am_fe 155 8 = some (12, none, .getfield 89) := by decide +kernel
theorem fe_155_11 : am_fe 155 11 = some (12, none, .aload_n 0) := by decide +kernel
theorem fe_155_12 : am_fe 155 12 = some (12, none, .getfield 157) := by decide +kernel
theorem fe_155_15 : am_fe 155 15 = some (12, none, .iload_n 1) := by decide +kernel
theorem fe_155_16 : am_fe 155 16 = some (12, none, .iload_n 2) := by decide +kernel
theorem fe_155_17 : am_fe 155 17 = some (12, none, .ishr) := by decide +kernel
theorem fe_155_18 : am_fe 155 18 = some (12, none, .i2b) := by decide +kernel
theorem fe_155_19 : am_fe 155 19 = some (12, none, .bastore) := by decide +kernel
theorem fe_155_20 : am_fe 155 20 = some (12, none, .aload_n 0) := by decide +kernel
theorem fe_155_21 : am_fe 155 21 = some (12, none, .dup) := by decide +kernel
theorem fe_155_22 : am_fe 155 22 = some (12, none, .getfield 157) := by decide +kernel
theorem fe_155_25 : am_fe 155 25 = some (12, none, .iconst 1) := by decide +kernel
theorem fe_155_26 : am_fe 155 26 = some (12, none, .iadd) := by decide +kernel
theorem fe_155_27 : am_fe 155 27 = some (12, none, .putfield 157) := by decide +kernel
theorem fe_155_30 : am_fe 155 30 = some (12, none, .iinc 2 (-8)) := by decide +kernel
theorem fe_155_33 : am_fe 155 33 = some (12, none, .goto (-30)) := by decide +kernel
theorem fe_155_36 : am_fe 155 36 = some (12, none, .return_) := by decide +kernel
theorem fe_156_0 : am_fe 156 0 = some (12, some .int, .iload_n 1) := by decide +kernel
theorem fe_156_1 : am_fe 156 1 = some (12, some .int, .ifCond .lt 11) := by decide +kernel
