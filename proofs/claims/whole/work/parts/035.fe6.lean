theorem fe_231_11 : am_fe 231 11 = some (12, some .boolean, .if_icmp .le 5) := by decide +kernel
theorem fe_231_14 : am_fe 231 14 = some (12, some .boolean, .iconst 0) := by decide +kernel
theorem fe_231_15 : am_fe 231 15 = some (12, some .boolean, .ireturn) := by decide +kernel
theorem fe_231_16 : am_fe 231 16 = some (12, some .boolean, .iload_n 0) := by decide +kernel
theorem fe_231_17 : am_fe 231 17 = some (12, some .boolean, .istore_n 1) := by decide +kernel
theorem fe_231_18 : am_fe 231 18 = some (12, some .boolean, .iload_n 1) := by decide +kernel
theorem fe_231_19 : am_fe 231 19 = some (12, some .boolean, .ifCond .le 28) := by decide +kernel
theorem fe_231_22 : am_fe 231 22 = some (12, some .boolean, .iload_n 1) := by decide +kernel
theorem fe_231_23 : am_fe 231 23 = some (12, some .boolean, .bipush 10) := by decide +kernel
theorem fe_231_25 : am_fe 231 25 = some (12, some .boolean, .irem) := by decide +kernel
theorem fe_231_26 : am_fe 231 26 = some (12, some .boolean, .i2l) := by decide +kernel
theorem fe_231_27 : am_fe 231 27 = some (12, some .boolean, .lconst 1) := by decide +kernel
theorem fe_231_28 : am_fe 231 28 = some (12, some .boolean, .ldc2_w 155) := by decide +kernel
theorem fe_231_31 : am_fe 231 31 = some (12, some .boolean, .invokestatic 143) := by decide +kernel
theorem fe_231_34 : am_fe 231 34 = some (12, some .boolean, .ifCond .ne 5) := by decide +kernel
theorem fe_231_37 : am_fe 231 37 = some (12, some .boolean, .iconst 0) := by decide +kernel
theorem fe_231_38 : am_fe 231 38 = some (12, some .boolean, .ireturn) := by decide +kernel
theorem fe_231_39 : am_fe 231 39 = some (12, some .boolean, .iload_n 1) := by decide +kernel
theorem fe_231_40 : am_fe 231 40 = some (12, some .boolean, .bipush 10) := by decide +kernel
theorem fe_231_42 : am_fe 231 42 = some (12, some .boolean, .idiv) := by decide +kernel
theorem fe_231_43 : am_fe 231 43 = some (12, some .boolean, .istore_n 1) := by decide +kernel
theorem fe_231_44 : am_fe 231 44 = some (12, some .boolean, .goto (-26)) := by decide +kernel
theorem fe_231_47 : am_fe 231 47 = some (12, some .boolean, .iconst 1) := by decide +kernel
theorem fe_231_48 : am_fe 231 48 = some (12, some .boolean, .ireturn) := by decide +kernel
theorem fe_232_0 : am_fe 232 0 = some (12, some .int, .aload_n 0) := by decide +kernel
theorem fe_232_1 : am_fe 232 1 = some (12, some .int, .getfield 9) := by decide +kernel
theorem fe_232_4 : am_fe 232 4 = some (12, some .int, .iconst 4) := by decide +kernel
theorem fe_232_5 : am_fe 232 5 = some (12, some .int, .iaload) := by decide +kernel
theorem fe_232_6 : am_fe 232 6 = some (12, some .int, .istore 4) := by decide +kernel
theorem fe_232_8 : am_fe 232 8 = some (12, some .int, .aload_n 0) := by decide +kernel
theorem fe_232_9 : am_fe 232 9 = some (12, some .int, .getfield 37) := by decide +kernel
theorem fe_232_12 : am_fe 232 12 = some (12, some .int, .iload 4) := by decide +kernel
theorem fe_232_14 : am_fe 232 14 = some (12, some .int, .iload_n 1) := by decide +kernel
theorem fe_232_15 : am_fe 232 15 = some (12, some .int, .iastore) := by decide +kernel
theorem fe_232_16 : am_fe 232 16 = some (12, some .int, .aload_n 0) := by decide +kernel
theorem fe_232_17 : am_fe 232 17 = some (12, some .int, .getfield 40) := by decide +kernel
theorem fe_232_20 : am_fe 232 20 = some (12, some .int, .iload 4) := by decide +kernel
theorem fe_232_22 : am_fe 232 22 = some (12, some .int, .iload_n 2) := by decide +kernel
theorem fe_232_23 : am_fe 232 23 = some (12, some .int, .iastore) := by decide +kernel
theorem fe_232_24 : am_fe 232 24 = some (12, some .int, .aload_n 0) := by decide +kernel
theorem fe_232_25 : am_fe 232 25 = some (12, some .int, .getfield 43) := by decide +kernel
theorem fe_232_28 : am_fe 232 28 = some (12, some .int, .iload 4) := by decide +kernel
theorem fe_232_30 : am_fe 232 30 = some (12, some .int, .iload_n 3) := by decide +kernel
theorem fe_232_31 : am_fe 232 31 = some (12, some .int, .iastore) := by decide +kernel
theorem fe_232_32 : am_fe 232 32 = some (12, some .int, .aload_n 0) := by decide +kernel
theorem fe_232_33 : am_fe 232 33 = some (12, some .int, .getfield 46) := by decide +kernel
theorem fe_232_36 : am_fe 232 36 = some (12, some .int, .iload 4) := by decide +kernel
theorem fe_232_38 : am_fe 232 38 = some (12, some .int, .iconst 0) := by decide +kernel
theorem fe_232_39 : am_fe 232 39 = some (12, some .int, .iastore) := by decide +kernel
theorem fe_232_40 : am_fe 232 40 = some (12, some .int, .aload_n 0) := by decide +kernel
theorem fe_232_41 : am_fe 232 41 = some (12, some .int, .getfield 49) := by decide +kernel
theorem fe_232_44 : am_fe 232 44 = some (12, some .int, .iload 4) := by decide +kernel
theorem fe_232_46 : am_fe 232 46 = some (12, some .int, .iconst (-1)) := by decide +kernel
theorem fe_232_47 : am_fe 232 47 = some (12, some .int, .iastore) := by decide +kernel
theorem fe_232_48 : am_fe 232 48 = some (12, some .int, .aload_n 0) := by decide +kernel
theorem fe_232_49 : am_fe 232 49 = some (12, some .int, .getfield 52) := by decide +kernel
theorem fe_232_52 : am_fe 232 52 = some (12, some .int, .iload 4) := by decide +kernel
theorem fe_232_54 : am_fe 232 54 = some (12, some .int, .iconst (-1)) := by decide +kernel
theorem fe_232_55 : am_fe 232 55 = some (12, some .int, .iastore) := by decide +kernel
theorem fe_232_56 : am_fe 232 56 = some (12, some .int, .aload_n 0) := by decide +kernel
theorem fe_232_57 : am_fe 232 57 = some (12, some .int, .getfield 9) := by decide +kernel
theorem fe_232_60 : am_fe 232 60 = some (12, some .int, .iconst 4) := by decide +kernel
theorem fe_232_61 : am_fe 232 61 = some (12, some .int, .dup2) := by decide +kernel
theorem fe_232_62 : am_fe 232 62 = some (12, some .int, .iaload) := by decide +kernel
theorem fe_232_63 : am_fe 232 63 = some (12, some .int, .iconst 1) := by decide +kernel
theorem fe_232_64 : am_fe 232 64 = some (12, some .int, .iadd) := by decide +kernel
theorem fe_232_65 : am_fe 232 65 = some (12, some .int, .iastore) := by decide +kernel
theorem fe_232_66 : am_fe 232 66 = some (12, some .int, .iload 4) := by decide +kernel
theorem fe_232_68 : am_fe 232 68 = some (12, some .int, .ireturn) := by decide +kernel
theorem fe_233_0 : am_fe 233 0 = some (12, some .int, .aload_n 0) := by decide +kernel
theorem fe_233_1 : am_fe 233 1 = some (12, some .int, .iload_n 1) := by decide +kernel
theorem fe_233_2 : am_fe 233 2 = some (12, some .int, .invokevirtual 396) := by decide +kernel
theorem fe_233_5 : am_fe 233 5 = some (12, some .int, .ifCond .eq 33) := by decide +kernel
theorem fe_233_8 : am_fe 233 8 = some (12, some .int, .aload_n 0) := by decide +kernel
theorem fe_233_9 : am_fe 233 9 = some (12, some .int, .iload_n 1) := by decide +kernel
theorem fe_233_10 : am_fe 233 10 = some (12, some .int, .invokevirtual 374) := by decide +kernel
theorem fe_233_13 : am_fe 233 13 = some (12, some .int, .ifCond .eq 25) := by decide +kernel
theorem fe_233_16 : am_fe 233 16 = some (12, some .int, .aload_n 0) := by decide +kernel
theorem fe_233_17 : am_fe 233 17 = some (12, some .int, .getfield 40) := by decide +kernel
theorem fe_233_20 : am_fe 233 20 = some (12, some .int, .iload_n 1) := by decide +kernel
theorem fe_233_21 : am_fe 233 21 = some (12, some .int, .iaload) := by decide +kernel
theorem fe_233_22 : am_fe 233 22 = some (12, some .int, .bipush 10) := by decide +kernel
theorem fe_233_24 : am_fe 233 24 = some (12, some .int, .if_icmp .lt 14) := by decide +kernel
theorem fe_233_27 : am_fe 233 27 = some (12, some .int, .aload_n 0) := by decide +kernel
theorem fe_233_28 : am_fe 233 28 = some (12, some .int, .getfield 9) := by decide +kernel
theorem fe_233_31 : am_fe 233 31 = some (12, some .int, .iconst 4) := by decide +kernel
theorem fe_233_32 : am_fe 233 32 = some (12, some .int, .iaload) := by decide +kernel
theorem fe_233_33 : am_fe 233 33 = some (12, some .int, .bipush 12) := by decide +kernel
theorem fe_233_35 : am_fe 233 35 = some (12, some .int, .if_icmp .ne 5) := by decide +kernel
theorem fe_233_38 : am_fe 233 38 = some (12, some .int, .iconst (-1)) := by decide +kernel
theorem fe_233_39 : am_fe 233 39 = some (12, some .int, .ireturn) := by decide +kernel
theorem fe_233_40 : am_fe 233 40 = some (12, some .int, .aload_n 0) := by decide +kernel
theorem fe_233_41 : am_fe 233 41 = some (12, some .int, .invokevirtual 460) := by decide +kernel
theorem fe_233_44 : am_fe 233 44 = some (12, some .int, .aload_n 0) := by decide +kernel
theorem fe_233_45 : am_fe 233 45 = some (12, some .int, .getfield 40) := by decide +kernel
theorem fe_233_48 : am_fe 233 48 = some (12, some .int, .iload_n 1) := by decide +kernel
theorem fe_233_49 : am_fe 233 49 = some (12, some .int, .iaload) := by decide +kernel
theorem fe_233_50 : am_fe 233 50 = some (12, some .int, .invokestatic 151) := by decide +kernel
theorem fe_233_53 : am_fe 233 53 = some (12, some .int, .istore_n 2) := by decide +kernel
theorem fe_233_54 : am_fe 233 54 = some (12, some .int, .iload_n 2) := by decide +kernel
theorem fe_233_55 : am_fe 233 55 = some (12, some .int, .iload_n 2) := by decide +kernel
theorem fe_233_56 : am_fe 233 56 = some (12, some .int, .iconst 2) := by decide +kernel
theorem fe_233_57 : am_fe 233 57 = some (12, some .int, .idiv) := by decide +kernel
theorem fe_233_58 : am_fe 233 58 = some (12, some .int, .isub) := by decide +kernel
theorem fe_233_59 : am_fe 233 59 = some (12, some .int, .invokestatic 424) := by decide +kernel
theorem fe_233_62 : am_fe 233 62 = some (12, some .int, .istore_n 3) := by decide +kernel
theorem fe_233_63 : am_fe 233 63 = some (12, some .int, .aload_n 0) := by decide +kernel
theorem fe_233_64 : am_fe 233 64 = some (12, some .int, .getfield 40) := by decide +kernel
theorem fe_233_67 : am_fe 233 67 = some (12, some .int, .iload_n 1) := by decide +kernel
theorem fe_233_68 : am_fe 233 68 = some (12, some .int, .iaload) := by decide +kernel
theorem fe_233_69 : am_fe 233 69 = some (12, some .int, .iload_n 3) := by decide +kernel
theorem fe_233_70 : am_fe 233 70 = some (12, some .int, .irem) := by decide +kernel
theorem fe_233_71 : am_fe 233 71 = some (12, some .int, .istore 4) := by decide +kernel
theorem fe_233_73 : am_fe 233 73 = some (12, some .int, .aload_n 0) := by decide +kernel
theorem fe_233_74 : am_fe 233 74 = some (12, some .int, .getfield 40) := by decide +kernel
theorem fe_233_77 : am_fe 233 77 = some (12, some .int, .iload_n 1) := by decide +kernel
theorem fe_233_78 : am_fe 233 78 = some (12, some .int, .dup2) := by decide +kernel
theorem fe_233_79 : am_fe 233 79 = some (12, some .int, .iaload) := by decide +kernel
theorem fe_233_80 : am_fe 233 80 = some (12, some .int, .iload_n 3) := by decide +kernel
theorem fe_233_81 : am_fe 233 81 = some (12, some .int, .idiv) := by decide +kernel
theorem fe_233_82 : am_fe 233 82 = some (12, some .int, .iastore) := by decide +kernel
theorem fe_233_83 : am_fe 233 83 = some (12, some .int, .aload_n 0) := by decide +kernel
theorem fe_233_84 : am_fe 233 84 = some (12, some .int, .aload_n 0) := by decide +kernel
theorem fe_233_85 : am_fe 233 85 = some (12, some .int, .getfield 37) := by decide +kernel
theorem fe_233_88 : am_fe 233 88 = some (12, some .int, .iload_n 1) := by decide +kernel
theorem fe_233_89 : am_fe 233 89 = some (12, some .int, .iaload) := by decide +kernel
theorem fe_233_90 : am_fe 233 90 = some (12, some .int, .iload 4) := by decide +kernel
theorem fe_233_92 : am_fe 233 92 = some (12, some .int, .aload_n 0) := by decide +kernel
theorem fe_233_93 : am_fe 233 93 = some (12, some .int, .getfield 43) := by decide +kernel
theorem fe_233_96 : am_fe 233 96 = some (12, some .int, .iload_n 1) := by decide +kernel
theorem fe_233_97 : am_fe 233 97 = some (12, some .int, .iaload) := by decide +kernel
theorem fe_233_98 : am_fe 233 98 = some (12, some .int, .invokevirtual 469) := by decide +kernel
theorem fe_233_101 : am_fe 233 101 = some (12, some .int, .ireturn) := by decide +kernel
theorem fe_234_0 : am_fe 234 0 = some (12, some .boolean, .aload_n 0) := by decide +kernel
theorem fe_234_1 : am_fe 234 1 = some (12, some .boolean, .iload_n 1) := by decide +kernel
theorem fe_234_2 : am_fe 234 2 = some (12, some .boolean, .invokevirtual 378) := by decide +kernel
theorem fe_234_5 : am_fe 234 5 = some (12, some .boolean, .ifCond .eq 21) := by decide +kernel
theorem fe_234_8 : am_fe 234 8 = some (12, some .boolean, .aload_n 0) := by decide +kernel
theorem fe_234_9 : am_fe 234 9 = some (12, some .boolean, .iload_n 1) := by decide +kernel
theorem fe_234_10 : am_fe 234 10 = some (12, some .boolean, .invokevirtual 384) := by decide +kernel
theorem fe_234_13 : am_fe 234 13 = some (12, some .boolean, .iconst (-1)) := by decide +kernel
theorem fe_234_14 : am_fe 234 14 = some (12, some .boolean, .if_icmp .eq 12) := by decide +kernel
theorem fe_234_17 : am_fe 234 17 = some (12, some .boolean, .aload_n 0) := by decide +kernel
theorem fe_234_18 : am_fe 234 18 = some (12, some .boolean, .iload_n 1) := by decide +kernel
theorem fe_234_19 : am_fe 234 19 = some (12, some .boolean, .invokevirtual 399) := by decide +kernel
theorem fe_234_22 : am_fe 234 22 = some (12, some .boolean, .iload_n 2) := by decide +kernel
theorem fe_234_23 : am_fe 234 23 = some (12, some .boolean, .if_icmp .eq 5) := by decide +kernel
theorem fe_234_26 : am_fe 234 26 = some (12, some .boolean, .iconst 0) := by decide +kernel
theorem fe_234_27 : am_fe 234 27 = some (12, some .boolean, .ireturn) := by decide +kernel
theorem fe_234_28 : am_fe 234 28 = some (12, some .boolean, .aload_n 0) := by decide +kernel
theorem fe_234_29 : am_fe 234 29 = some (12, some .boolean, .invokevirtual 460) := by decide +kernel
theorem fe_234_32 : am_fe 234 32 = some (12, some .boolean, .aload_n 0) := by decide +kernel
theorem fe_234_33 : am_fe 234 33 = some (12, some .boolean, .getfield 9) := by decide +kernel
theorem fe_234_36 : am_fe 234 36 = some (12, some .boolean, .iconst 5) := by decide +kernel
theorem fe_234_37 : am_fe 234 37 = some (12, some .boolean, .dup2) := by decide +kernel
theorem fe_234_38 : am_fe 234 38 = some (12, some .boolean, .iaload) := by decide +kernel
theorem fe_234_39 : am_fe 234 39 = some (12, some .boolean, .iconst 1) := by decide +kernel
theorem fe_234_40 : am_fe 234 40 = some (12, some .boolean, .aload_n 0) := by decide +kernel
theorem fe_234_41 : am_fe 234 41 = some (12, some .boolean, .iload_n 1) := by decide +kernel
theorem fe_234_42 : am_fe 234 42 = some (12, some .boolean, .invokevirtual 384) := by decide +kernel
theorem fe_234_45 : am_fe 234 45 = some (12, some .boolean, .ishl) := by decide +kernel
theorem fe_234_46 : am_fe 234 46 = some (12, some .boolean, .ixor) := by decide +kernel
theorem fe_234_47 : am_fe 234 47 = some (12, some .boolean, .iastore) := by decide +kernel
theorem fe_234_48 : am_fe 234 48 = some (12, some .boolean, .iconst 1) := by decide +kernel
theorem fe_234_49 : am_fe 234 49 = some (12, some .boolean, .ireturn) := by decide +kernel
theorem fe_235_0 : am_fe 235 0 = some (12, some .int, .aload_n 0) := by decide +kernel
theorem fe_235_1 : am_fe 235 1 = some (12, some .int, .iload_n 1) := by decide +kernel
theorem fe_235_2 : am_fe 235 2 = some (12, some .int, .invokevirtual 378) := by decide +kernel
theorem fe_235_5 : am_fe 235 5 = some (12, some .int, .ifCond .eq 15) := by decide +kernel
theorem fe_235_8 : am_fe 235 8 = some (12, some .int, .iload_n 2) := by decide +kernel
theorem fe_235_9 : am_fe 235 9 = some (12, some .int, .i2l) := by decide +kernel
theorem fe_235_10 : am_fe 235 10 = some (12, some .int, .lconst 0) := by decide +kernel
theorem fe_235_11 : am_fe 235 11 = some (12, some .int, .ldc2_w 473) := by decide +kernel
theorem fe_235_14 : am_fe 235 14 = some (12, some .int, .invokestatic 143) := by decide +kernel
theorem fe_235_17 : am_fe 235 17 = some (12, some .int, .ifCond .ne 5) := by decide +kernel
theorem fe_235_20 : am_fe 235 20 = some (12, some .int, .iconst (-1)) := by decide +kernel
theorem fe_235_21 : am_fe 235 21 = some (12, some .int, .ireturn) := by decide +kernel
theorem fe_235_22 : am_fe 235 22 = some (12, some .int, .aload_n 0) := by decide +kernel
theorem fe_235_23 : am_fe 235 23 = some (12, some .int, .iload_n 1) := by decide +kernel
theorem fe_235_24 : am_fe 235 24 = some (12, some .int, .invokevirtual 390) := by decide +kernel
theorem fe_235_27 : am_fe 235 27 = some (12, some .int, .istore_n 3) := by decide +kernel
theorem fe_235_28 : am_fe 235 28 = some (12, some .int, .iload_n 3) := by decide +kernel
theorem fe_235_29 : am_fe 235 29 = some (12, some .int, .iconst (-1)) := by decide +kernel
theorem fe_235_30 : am_fe 235 30 = some (12, some .int, .if_icmp .ne 7) := by decide +kernel
theorem fe_235_33 : am_fe 235 33 = some (12, some .int, .iconst 0) := by decide +kernel
theorem fe_235_34 : am_fe 235 34 = some (12, some .int, .goto 9) := by decide +kernel
theorem fe_235_37 : am_fe 235 37 = some (12, some .int, .aload_n 0) := by decide +kernel
theorem fe_235_38 : am_fe 235 38 = some (12, some .int, .getfield 34) := by decide +kernel
theorem fe_235_41 : am_fe 235 41 = some (12, some .int, .iload_n 3) := by decide +kernel
theorem fe_235_42 : am_fe 235 42 = some (12, some .int, .iaload) := by decide +kernel
theorem fe_235_43 : am_fe 235 43 = some (12, some .int, .istore 4) := by decide +kernel
theorem fe_235_45 : am_fe 235 45 = some (12, some .int, .iload 4) := by decide +kernel
theorem fe_235_47 : am_fe 235 47 = some (12, some .int, .iload_n 2) := by decide +kernel
theorem fe_235_48 : am_fe 235 48 = some (12, some .int, .if_icmp .eq 18) := by decide +kernel
theorem fe_235_51 : am_fe 235 51 = some (12, some .int, .iload_n 3) := by decide +kernel
theorem fe_235_52 : am_fe 235 52 = some (12, some .int, .iconst (-1)) := by decide +kernel
theorem fe_235_53 : am_fe 235 53 = some (12, some .int, .if_icmp .ne 15) := by decide +kernel
theorem fe_235_56 : am_fe 235 56 = some (12, some .int, .aload_n 0) := by decide +kernel
theorem fe_235_57 : am_fe 235 57 = some (12, some .int, .getfield 9) := by decide +kernel
theorem fe_235_60 : am_fe 235 60 = some (12, some .int, .iconst 3) := by decide +kernel
theorem fe_235_61 : am_fe 235 61 = some (12, some .int, .iaload) := by decide +kernel
theorem fe_235_62 : am_fe 235 62 = some (12, some .int, .iconst 5) := by decide +kernel
theorem fe_235_63 : am_fe 235 63 = some (12, some .int, .if_icmp .ne 5) := by decide +kernel
theorem fe_235_66 : am_fe 235 66 = some (12, some .int, .iconst (-1)) := by decide +kernel
theorem fe_235_67 : am_fe 235 67 = some (12, some .int, .ireturn) := by decide +kernel
theorem fe_235_68 : am_fe 235 68 = some (12, some .int, .aload_n 0) := by decide +kernel
theorem fe_235_69 : am_fe 235 69 = some (12, some .int, .invokevirtual 460) := by decide +kernel
theorem fe_235_72 : am_fe 235 72 = some (12, some .int, .iload_n 2) := by decide +kernel
theorem fe_235_73 : am_fe 235 73 = some (12, some .int, .ifCond .ne 11) := by decide +kernel
theorem fe_235_76 : am_fe 235 76 = some (12, some .int, .aload_n 0) := by decide +kernel
theorem fe_235_77 : am_fe 235 77 = some (12, some .int, .iload_n 3) := by decide +kernel
theorem fe_235_78 : am_fe 235 78 = some (12, some .int, .invokevirtual 475) := by decide +kernel
theorem fe_235_81 : am_fe 235 81 = some (12, some .int, .goto 24) := by decide +kernel
theorem fe_235_84 : am_fe 235 84 = some (12, some .int, .iload_n 3) := by decide +kernel
theorem fe_235_85 : am_fe 235 85 = some (12, some .int, .iconst (-1)) := by decide +kernel
theorem fe_235_86 : am_fe 235 86 = some (12, some .int, .if_icmp .ne 12) := by decide +kernel
theorem fe_235_89 : am_fe 235 89 = some (12, some .int, .aload_n 0) := by decide +kernel
theorem fe_235_90 : am_fe 235 90 = some (12, some .int, .iload_n 1) := by decide +kernel
theorem fe_235_91 : am_fe 235 91 = some (12, some .int, .iload_n 2) := by decide +kernel
theorem fe_235_92 : am_fe 235 92 = some (12, some .int, .invokevirtual 478) := by decide +kernel
theorem fe_235_95 : am_fe 235 95 = some (12, some .int, .goto 10) := by decide +kernel
theorem fe_235_98 : am_fe 235 98 = some (12, some .int, .aload_n 0) := by decide +kernel
theorem fe_235_99 : am_fe 235 99 = some (12, some .int, .getfield 34) := by decide +kernel
theorem fe_235_102 : am_fe 235 102 = some (12, some .int, .iload_n 3) := by decide +kernel
theorem fe_235_103 : am_fe 235 103 = some (12, some .int, .iload_n 2) := by decide +kernel
theorem fe_235_104 : am_fe 235 104 = some (12, some .int, .iastore) := by decide +kernel
theorem fe_235_105 : am_fe 235 105 = some (12, some .int, .iload 4) := by decide +kernel
theorem fe_235_107 : am_fe 235 107 = some (12, some .int, .ireturn) := by decide +kernel
theorem fe_236_0 : am_fe 236 0 = some (12, none, .iload_n 1) := by decide +kernel
theorem fe_236_1 : am_fe 236 1 = some (12, none, .istore_n 2) := by decide +kernel
theorem fe_236_2 : am_fe 236 2 = some (12, none, .iload_n 2) := by decide +kernel
theorem fe_236_3 : am_fe 236 3 = some (12, none, .iconst 1) := by decide +kernel
theorem fe_236_4 : am_fe 236 4 = some (12, none, .iadd) := by decide +kernel
theorem fe_236_5 : am_fe 236 5 = some (12, none, .aload_n 0) := by decide +kernel
theorem fe_236_6 : am_fe 236 6 = some (12, none, .getfield 9) := by decide +kernel
theorem fe_236_9 : am_fe 236 9 = some (12, none, .iconst 3) := by decide +kernel
theorem fe_236_10 : am_fe 236 10 = some (12, none, .iaload) := by decide +kernel
theorem fe_236_11 : am_fe 236 11 = some (12, none, .if_icmp .ge 37) := by decide +kernel
theorem fe_236_14 : am_fe 236 14 = some (12, none, .aload_n 0) := by decide +kernel
theorem fe_236_15 : am_fe 236 15 = some (12, none, .getfield 31) := by decide +kernel
theorem fe_236_18 : am_fe 236 18 = some (12, none, .iload_n 2) := by decide +kernel
theorem fe_236_19 : am_fe 236 19 = some (12, none, .aload_n 0) := by decide +kernel
theorem fe_236_20 : am_fe 236 20 = some (12, none, .getfield 31) := by decide +kernel
theorem fe_236_23 : am_fe 236 23 = some (12, none, .iload_n 2) := by decide +kernel
theorem fe_236_24 : am_fe 236 24 = some (12, none, .iconst 1) := by decide +kernel
theorem fe_236_25 : am_fe 236 25 = some (12, none, .iadd) := by decide +kernel
theorem fe_236_26 : am_fe 236 26 = some (12, none, .iaload) := by decide +kernel
theorem fe_236_27 : am_fe 236 27 = some (12, none, .iastore) := by decide +kernel
theorem fe_236_28 : am_fe 236 28 = some (12, none, .aload_n 0) := by decide +kernel
theorem fe_236_29 : am_fe 236 29 = some (12, none, .getfield 34) := by decide +kernel
theorem fe_236_32 : am_fe 236 32 = some (12, none, .iload_n 2) := by decide +kernel
theorem fe_236_33 : am_fe 236 33 = some (12, none, .aload_n 0) := by decide +kernel
theorem fe_236_34 : am_fe 236 34 = some (12, none, .getfield 34) := by decide +kernel
theorem fe_236_37 : am_fe 236 37 = some (12, none, .iload_n 2) := by decide +kernel
theorem fe_236_38 : am_fe 236 38 = some (12, none, .iconst 1) := by decide +kernel
theorem fe_236_39 : am_fe 236 39 = some (12, none, .iadd) := by decide +kernel
theorem fe_236_40 : am_fe 236 40 = some (12, none, .iaload) := by decide +kernel
theorem fe_236_41 : am_fe 236 41 = some (12, none, .iastore) := by decide +kernel
theorem fe_236_42 : am_fe 236 42 = some (12, none, .iinc 2 1) := by decide +kernel
theorem fe_236_45 : am_fe 236 45 = some (12, none, .goto (-43)) := by decide +kernel
theorem fe_236_48 : am_fe 236 48 = some (12, none, .aload_n 0) := by decide +kernel
theorem fe_236_49 : am_fe 236 49 = some (12, none, .getfield 9) := by decide +kernel
theorem fe_236_52 : am_fe 236 52 = some (12, none, .iconst 3) := by decide +kernel
theorem fe_236_53 : am_fe 236 53 = some (12, none, .dup2) := by decide +kernel
theorem fe_236_54 : am_fe 236 54 = some (12, none, .iaload) := by decide +kernel
theorem fe_236_55 : am_fe 236 55 = some (12, none, .iconst 1) := by decide +kernel
theorem fe_236_56 : am_fe 236 56 = some (12, none, .isub) := by decide +kernel
theorem fe_236_57 : am_fe 236 57 = some (12, none, .iastore) := by decide +kernel
theorem fe_236_58 : am_fe 236 58 = some (12, none, .return_) := by decide +kernel
theorem fe_237_0 : am_fe 237 0 = some (12, none, .aload_n 0) := by decide +kernel
theorem fe_237_1 : am_fe 237 1 = some (12, none, .getfield 31) := by decide +kernel
theorem fe_237_4 : am_fe 237 4 = some (12, none, .aload_n 0) := by decide +kernel
theorem fe_237_5 : am_fe 237 5 = some (12, none, .getfield 9) := by decide +kernel
theorem fe_237_8 : am_fe 237 8 = some (12, none, .iconst 3) := by decide +kernel
theorem fe_237_9 : am_fe 237 9 = some (12, none, .iaload) := by decide +kernel
theorem fe_237_10 : am_fe 237 10 = some (12, none, .iload_n 1) := by decide +kernel
theorem fe_237_11 : am_fe 237 11 = some (12, none, .iastore) := by decide +kernel
theorem fe_237_12 : am_fe 237 12 = some (12, none, .aload_n 0) := by decide +kernel
theorem fe_237_13 : am_fe 237 13 = some (12, none, .getfield 34) := by decide +kernel
theorem fe_237_16 : am_fe 237 16 = some (12, none, .aload_n 0) := by decide +kernel
theorem fe_237_17 : am_fe 237 17 = some (12, none, .getfield 9) := by decide +kernel
theorem fe_237_20 : am_fe 237 20 = some (12, none, .iconst 3) := by decide +kernel
theorem fe_237_21 : am_fe 237 21 = some (12, none, .iaload) := by decide +kernel
theorem fe_237_22 : am_fe 237 22 = some (12, none, .iload_n 2) := by decide +kernel
theorem fe_237_23 : am_fe 237 23 = some (12, none, .iastore) := by decide +kernel
theorem fe_237_24 : am_fe 237 24 = some (12, none, .aload_n 0) := by decide +kernel
theorem fe_237_25 : am_fe 237 25 = some (12, none, .getfield 9) := by decide +kernel
theorem fe_237_28 : am_fe 237 28 = some (12, none, .iconst 3) := by decide +kernel
theorem fe_237_29 : am_fe 237 29 = some (12, none, .dup2) := by decide +kernel
theorem fe_237_30 : am_fe 237 30 = some (12, none, .iaload) := by decide +kernel
theorem fe_237_31 : am_fe 237 31 = some (12, none, .iconst 1) := by decide +kernel
theorem fe_237_32 : am_fe 237 32 = some (12, none, .iadd) := by decide +kernel
theorem fe_237_33 : am_fe 237 33 = some (12, none, .iastore) := by decide +kernel
theorem fe_237_34 : am_fe 237 34 = some (12, none, .return_) := by decide +kernel
theorem fe_238_0 : am_fe 238 0 = some (12, some .int, .aload_n 0) := by decide +kernel
theorem fe_238_1 : am_fe 238 1 = some (12, some .int, .iload_n 1) := by decide +kernel
theorem fe_238_2 : am_fe 238 2 = some (12, some .int, .invokevirtual 396) := by decide +kernel
theorem fe_238_5 : am_fe 238 5 = some (12, some .int, .ifCond .eq 27) := by decide +kernel
theorem fe_238_8 : am_fe 238 8 = some (12, some .int, .iload_n 2) := by decide +kernel
theorem fe_238_9 : am_fe 238 9 = some (12, some .int, .i2l) := by decide +kernel
theorem fe_238_10 : am_fe 238 10 = some (12, some .int, .lconst 0) := by decide +kernel
theorem fe_238_11 : am_fe 238 11 = some (12, some .int, .ldc2_w 484) := by decide +kernel
theorem fe_238_14 : am_fe 238 14 = some (12, some .int, .invokestatic 143) := by decide +kernel
theorem fe_238_17 : am_fe 238 17 = some (12, some .int, .ifCond .eq 15) := by decide +kernel
theorem fe_238_20 : am_fe 238 20 = some (12, some .int, .iload_n 3) := by decide +kernel
theorem fe_238_21 : am_fe 238 21 = some (12, some .int, .i2l) := by decide +kernel
theorem fe_238_22 : am_fe 238 22 = some (12, some .int, .lconst 0) := by decide +kernel
theorem fe_238_23 : am_fe 238 23 = some (12, some .int, .ldc2_w 486) := by decide +kernel
theorem fe_238_26 : am_fe 238 26 = some (12, some .int, .invokestatic 143) := by decide +kernel
theorem fe_238_29 : am_fe 238 29 = some (12, some .int, .ifCond .ne 6) := by decide +kernel
theorem fe_238_32 : am_fe 238 32 = some (12, some .int, .bipush (-2)) := by decide +kernel
theorem fe_238_34 : am_fe 238 34 = some (12, some .int, .ireturn) := by decide +kernel
theorem fe_238_35 : am_fe 238 35 = some (12, some .int, .aload_n 0) := by decide +kernel
theorem fe_238_36 : am_fe 238 36 = some (12, some .int, .invokevirtual 488) := by decide +kernel
theorem fe_238_39 : am_fe 238 39 = some (12, some .int, .aload_n 0) := by decide +kernel
theorem fe_238_40 : am_fe 238 40 = some (12, some .int, .iload_n 2) := by decide +kernel
theorem fe_238_41 : am_fe 238 41 = some (12, some .int, .invokevirtual 491) := by decide +kernel
theorem fe_238_44 : am_fe 238 44 = some (12, some .int, .iload_n 3) := by decide +kernel
theorem fe_238_45 : am_fe 238 45 = some (12, some .int, .ifCond .ne 24) := by decide +kernel
theorem fe_238_48 : am_fe 238 48 = some (12, some .int, .aload_n 0) := by decide +kernel
theorem fe_238_49 : am_fe 238 49 = some (12, some .int, .iload_n 1) := by decide +kernel
theorem fe_238_50 : am_fe 238 50 = some (12, some .int, .invokevirtual 374) := by decide +kernel
theorem fe_238_53 : am_fe 238 53 = some (12, some .int, .ifCond .eq 12) := by decide +kernel
theorem fe_238_56 : am_fe 238 56 = some (12, some .int, .aload_n 0) := by decide +kernel
theorem fe_238_57 : am_fe 238 57 = some (12, some .int, .getfield 37) := by decide +kernel
theorem fe_238_60 : am_fe 238 60 = some (12, some .int, .iload_n 1) := by decide +kernel
theorem fe_238_61 : am_fe 238 61 = some (12, some .int, .iaload) := by decide +kernel
theorem fe_238_62 : am_fe 238 62 = some (12, some .int, .goto 27) := by decide +kernel
theorem fe_238_65 : am_fe 238 65 = some (12, some .int, .iconst (-1)) := by decide +kernel
theorem fe_238_66 : am_fe 238 66 = some (12, some .int, .goto 23) := by decide +kernel
theorem fe_238_69 : am_fe 238 69 = some (12, some .int, .iload_n 3) := by decide +kernel
theorem fe_238_70 : am_fe 238 70 = some (12, some .int, .iconst 1) := by decide +kernel
theorem fe_238_71 : am_fe 238 71 = some (12, some .int, .if_icmp .ne 12) := by decide +kernel
theorem fe_238_74 : am_fe 238 74 = some (12, some .int, .aload_n 0) := by decide +kernel
theorem fe_238_75 : am_fe 238 75 = some (12, some .int, .getfield 40) := by decide +kernel
theorem fe_238_78 : am_fe 238 78 = some (12, some .int, .iload_n 1) := by decide +kernel
theorem fe_238_79 : am_fe 238 79 = some (12, some .int, .iaload) := by decide +kernel
theorem fe_238_80 : am_fe 238 80 = some (12, some .int, .goto 9) := by decide +kernel
theorem fe_238_83 : am_fe 238 83 = some (12, some .int, .aload_n 0) := by decide +kernel
theorem fe_238_84 : am_fe 238 84 = some (12, some .int, .getfield 46) := by decide +kernel
theorem fe_238_87 : am_fe 238 87 = some (12, some .int, .iload_n 1) := by decide +kernel
theorem fe_238_88 : am_fe 238 88 = some (12, some .int, .iaload) := by decide +kernel
theorem fe_238_89 : am_fe 238 89 = some (12, some .int, .istore 4) := by decide +kernel
theorem fe_238_91 : am_fe 238 91 = some (12, some .int, .aload_n 0) := by decide +kernel
theorem fe_238_92 : am_fe 238 92 = some (12, some .int, .invokevirtual 494) := by decide +kernel
theorem fe_238_95 : am_fe 238 95 = some (12, some .int, .iload 4) := by decide +kernel
theorem fe_238_97 : am_fe 238 97 = some (12, some .int, .ireturn) := by decide +kernel
theorem fe_239_0 : am_fe 239 0 = some (12, none, .aload_n 0) := by decide +kernel
theorem fe_239_1 : am_fe 239 1 = some (12, none, .iconst 4) := by decide +kernel
theorem fe_239_2 : am_fe 239 2 = some (12, none, .iconst 0) := by decide +kernel
theorem fe_239_3 : am_fe 239 3 = some (12, none, .invokevirtual 481) := by decide +kernel
theorem fe_239_6 : am_fe 239 6 = some (12, none, .return_) := by decide +kernel
theorem fe_240_0 : am_fe 240 0 = some (12, none, .aload_n 0) := by decide +kernel
theorem fe_240_1 : am_fe 240 1 = some (12, none, .sipush 2500) := by decide +kernel
theorem fe_240_4 : am_fe 240 4 = some (12, none, .iload_n 1) := by decide +kernel
theorem fe_240_5 : am_fe 240 5 = some (12, none, .imul) := by decide +kernel
theorem fe_240_6 : am_fe 240 6 = some (12, none, .putfield 544) := by decide +kernel
theorem fe_240_9 : am_fe 240 9 = some (12, none, .aload_n 0) := by decide +kernel
theorem fe_240_10 : am_fe 240 10 = some (12, none, .iload_n 2) := by decide +kernel
theorem fe_240_11 : am_fe 240 11 = some (12, none, .putfield 541) := by decide +kernel
theorem fe_240_14 : am_fe 240 14 = some (12, none, .aload_n 0) := by decide +kernel
theorem fe_240_15 : am_fe 240 15 = some (12, none, .getfield 121) := by decide +kernel
theorem fe_240_18 : am_fe 240 18 = some (12, none, .iconst 0) := by decide +kernel
theorem fe_240_19 : am_fe 240 19 = some (12, none, .aload_n 0) := by decide +kernel
theorem fe_240_20 : am_fe 240 20 = some (12, none, .getfield 346) := by decide +kernel
theorem fe_240_23 : am_fe 240 23 = some (12, none, .iastore) := by decide +kernel
theorem fe_240_24 : am_fe 240 24 = some (12, none, .aload_n 0) := by decide +kernel
theorem fe_240_25 : am_fe 240 25 = some (12, none, .aload_n 0) := by decide +kernel
theorem fe_240_26 : am_fe 240 26 = some (12, none, .getfield 121) := by decide +kernel
theorem fe_240_29 : am_fe 240 29 = some (12, none, .invokevirtual 547) := by decide +kernel
theorem fe_240_32 : am_fe 240 32 = some (12, none, .aload_n 0) := by decide +kernel
theorem fe_240_33 : am_fe 240 33 = some (12, none, .aload_n 0) := by decide +kernel
theorem fe_240_34 : am_fe 240 34 = some (12, none, .getfield 121) := by decide +kernel
theorem fe_240_37 : am_fe 240 37 = some (12, none, .iconst 0) := by decide +kernel
theorem fe_240_38 : am_fe 240 38 = some (12, none, .iaload) := by decide +kernel
theorem fe_240_39 : am_fe 240 39 = some (12, none, .putfield 346) := by decide +kernel
theorem fe_240_42 : am_fe 240 42 = some (12, none, .aload_n 0) := by decide +kernel
theorem fe_240_43 : am_fe 240 43 = some (12, none, .aload_n 0) := by decide +kernel
theorem fe_240_44 : am_fe 240 44 = some (12, none, .getfield 9) := by decide +kernel
theorem fe_240_47 : am_fe 240 47 = some (12, none, .invokevirtual 547) := by decide +kernel
theorem fe_240_50 : am_fe 240 50 = some (12, none, .aload_n 0) := by decide +kernel
theorem fe_240_51 : am_fe 240 51 = some (12, none, .aload_n 0) := by decide +kernel
theorem fe_240_52 : am_fe 240 52 = some (12, none, .getfield 13) := by decide +kernel
theorem fe_240_55 : am_fe 240 55 = some (12, none, .invokevirtual 547) := by decide +kernel
theorem fe_240_58 : am_fe 240 58 = some (12, none, .aload_n 0) := by decide +kernel
theorem fe_240_59 : am_fe 240 59 = some (12, none, .aload_n 0) := by decide +kernel
theorem fe_240_60 : am_fe 240 60 = some (12, none, .getfield 16) := by decide +kernel
theorem fe_240_63 : am_fe 240 63 = some (12, none, .invokevirtual 547) := by decide +kernel
theorem fe_240_66 : am_fe 240 66 = some (12, none, .aload_n 0) := by decide +kernel
theorem fe_240_67 : am_fe 240 67 = some (12, none, .aload_n 0) := by decide +kernel
theorem fe_240_68 : am_fe 240 68 = some (12, none, .getfield 19) := by decide +kernel
theorem fe_240_71 : am_fe 240 71 = some (12, none, .invokevirtual 547) := by decide +kernel
theorem fe_240_74 : am_fe 240 74 = some (12, none, .aload_n 0) := by decide +kernel
theorem fe_240_75 : am_fe 240 75 = some (12, none, .aload_n 0) := by decide +kernel
theorem fe_240_76 : am_fe 240 76 = some (12, none, .getfield 22) := by decide +kernel
theorem fe_240_79 : am_fe 240 79 = some (12, none, .invokevirtual 547) := by decide +kernel
theorem fe_240_82 : am_fe 240 82 = some (12, none, .aload_n 0) := by decide +kernel
theorem fe_240_83 : am_fe 240 83 = some (12, none, .aload_n 0) := by decide +kernel
theorem fe_240_84 : am_fe 240 84 = some (12, none, .getfield 25) := by decide +kernel
theorem fe_240_87 : am_fe 240 87 = some (12, none, .invokevirtual 547) := by decide +kernel
theorem fe_240_90 : am_fe 240 90 = some (12, none, .aload_n 0) := by decide +kernel
theorem fe_240_91 : am_fe 240 91 = some (12, none, .aload_n 0) := by decide +kernel
theorem fe_240_92 : am_fe 240 92 = some (12, none, .getfield 28) := by decide +kernel
theorem fe_240_95 : am_fe 240 95 = some (12, none, .invokevirtual 547) := by decide +kernel
theorem fe_240_98 : am_fe 240 98 = some (12, none, .aload_n 0) := by decide +kernel
theorem fe_240_99 : am_fe 240 99 = some (12, none, .aload_n 0) := by decide +kernel
theorem fe_240_100 : am_fe 240 100 = some (12, none, .getfield 31) := by decide +kernel
theorem fe_240_103 : am_fe 240 103 = some (12, none, .invokevirtual 547) := by decide +kernel
theorem fe_240_106 : am_fe 240 106 = some (12, none, .aload_n 0) := by decide +kernel
theorem fe_240_107 : am_fe 240 107 = some (12, none, .aload_n 0) := by decide +kernel
theorem fe_240_108 : am_fe 240 108 = some (12, none, .getfield 34) := by decide +kernel
theorem fe_240_111 : am_fe 240 111 = some (12, none, .invokevirtual 547) := by decide +kernel
theorem fe_240_114 : am_fe 240 114 = some (12, none, .aload_n 0) := by decide +kernel
theorem fe_240_115 : am_fe 240 115 = some (12, none, .aload_n 0) := by decide +kernel
theorem fe_240_116 : am_fe 240 116 = some (12, none, .getfield 37) := by decide +kernel
theorem fe_240_119 : am_fe 240 119 = some (12, none, .invokevirtual 547) := by decide +kernel
theorem fe_240_122 : am_fe 240 122 = some (12, none, .aload_n 0) := by decide +kernel
theorem fe_240_123 : am_fe 240 123 = some (12, none, .aload_n 0) := by decide +kernel
theorem fe_240_124 : am_fe 240 124 = some (12, none, .getfield 40) := by decide +kernel
theorem fe_240_127 : am_fe 240 127 = some (12, none, .invokevirtual 547) := by decide +kernel
theorem fe_240_130 : am_fe 240 130 = some (12, none, .aload_n 0) := by decide +kernel
theorem fe_240_131 : am_fe 240 131 = some (12, none, .aload_n 0) := by decide +kernel
theorem fe_240_132 : am_fe 240 132 = some (12, none, .getfield 43) := by decide +kernel
theorem fe_240_135 : am_fe 240 135 = some (12, none, .invokevirtual 547) := by decide +kernel
theorem fe_240_138 : am_fe 240 138 = some (12, none, .aload_n 0) := by decide +kernel
theorem fe_240_139 : am_fe 240 139 = some (12, none, .aload_n 0) := by decide +kernel
theorem fe_240_140 : am_fe 240 140 = some (12, none, .getfield 46) := by decide +kernel
theorem fe_240_143 : am_fe 240 143 = some (12, none, .invokevirtual 547) := by decide +kernel
theorem fe_240_146 : am_fe 240 146 = some (12, none, .aload_n 0) := by decide +kernel
theorem fe_240_147 : am_fe 240 147 = some (12, none, .aload_n 0) := by decide +kernel
theorem fe_240_148 : am_fe 240 148 = some (12, none, .getfield 49) := by decide +kernel
theorem fe_240_151 : am_fe 240 151 = some (12, none, .invokevirtual 547) := by decide +kernel
theorem fe_240_154 : am_fe 240 154 = some (12, none, .aload_n 0) := by decide +kernel
theorem fe_240_155 : am_fe 240 155 = some (12, none, .aload_n 0) := by decide +kernel
theorem fe_240_156 : am_fe 240 156 = some (12, none, .getfield 52) := by decide +kernel
theorem fe_240_159 : am_fe 240 159 = some (12, none, .invokevirtual 547) := by decide +kernel
theorem fe_240_162 : am_fe 240 162 = some (12, none, .iload_n 1) := by decide +kernel
theorem fe_240_163 : am_fe 240 163 = some (12, none, .iconst 4) := by decide +kernel
theorem fe_240_164 : am_fe 240 164 = some (12, none, .if_icmp .ge 11) := by decide +kernel
theorem fe_240_167 : am_fe 240 167 = some (12, none, .aload_n 0) := by decide +kernel
theorem fe_240_168 : am_fe 240 168 = some (12, none, .aload_n 0) := by decide +kernel
theorem fe_240_169 : am_fe 240 169 = some (12, none, .getfield 118) := by decide +kernel
theorem fe_240_172 : am_fe 240 172 = some (12, none, .invokevirtual 547) := by decide +kernel
theorem fe_240_175 : am_fe 240 175 = some (12, none, .return_) := by decide +kernel
theorem fe_241_0 : am_fe 241 0 = some (12, none, .iconst 0) := by decide +kernel
theorem fe_241_1 : am_fe 241 1 = some (12, none, .istore_n 2) := by decide +kernel
theorem fe_241_2 : am_fe 241 2 = some (12, none, .iload_n 2) := by decide +kernel
theorem fe_241_3 : am_fe 241 3 = some (12, none, .aload_n 1) := by decide +kernel
theorem fe_241_4 : am_fe 241 4 = some (12, none, .arraylength) := by decide +kernel
theorem fe_241_5 : am_fe 241 5 = some (12, none, .if_icmp .ge 53) := by decide +kernel
theorem fe_241_8 : am_fe 241 8 = some (12, none, .aload_n 0) := by decide +kernel
theorem fe_241_9 : am_fe 241 9 = some (12, none, .getfield 541) := by decide +kernel
theorem fe_241_12 : am_fe 241 12 = some (12, none, .ifCond .eq 18) := by decide +kernel
theorem fe_241_15 : am_fe 241 15 = some (12, none, .aload_n 1) := by decide +kernel
theorem fe_241_16 : am_fe 241 16 = some (12, none, .iload_n 2) := by decide +kernel
theorem fe_241_17 : am_fe 241 17 = some (12, none, .aload_n 0) := by decide +kernel
theorem fe_241_18 : am_fe 241 18 = some (12, none, .getfield 133) := by decide +kernel
theorem fe_241_21 : am_fe 241 21 = some (12, none, .aload_n 0) := by decide +kernel
theorem fe_241_22 : am_fe 241 22 = some (12, none, .getfield 544) := by decide +kernel
theorem fe_241_25 : am_fe 241 25 = some (12, none, .iaload) := by decide +kernel
theorem fe_241_26 : am_fe 241 26 = some (12, none, .iastore) := by decide +kernel
theorem fe_241_27 : am_fe 241 27 = some (12, none, .goto 15) := by decide +kernel
theorem fe_241_30 : am_fe 241 30 = some (12, none, .aload_n 0) := by decide +kernel
theorem fe_241_31 : am_fe 241 31 = some (12, none, .getfield 133) := by decide +kernel
theorem fe_241_34 : am_fe 241 34 = some (12, none, .aload_n 0) := by decide +kernel
theorem fe_241_35 : am_fe 241 35 = some (12, none, .getfield 544) := by decide +kernel
theorem fe_241_38 : am_fe 241 38 = some (12, none, .aload_n 1) := by decide +kernel
theorem fe_241_39 : am_fe 241 39 = some (12, none, .iload_n 2) := by decide +kernel
theorem fe_241_40 : am_fe 241 40 = some (12, none, .iaload) := by decide +kernel
theorem fe_241_41 : am_fe 241 41 = some (12, none, .iastore) := by decide +kernel
theorem fe_241_42 : am_fe 241 42 = some (12, none, .aload_n 0) := by decide +kernel
theorem fe_241_43 : am_fe 241 43 = some (12, none, .dup) := by decide +kernel
theorem fe_241_44 : am_fe 241 44 = some (12, none, .getfield 544) := by decide +kernel
theorem fe_241_47 : am_fe 241 47 = some (12, none, .iconst 1) := by decide +kernel
theorem fe_241_48 : am_fe 241 48 = some (12, none, .iadd) := by decide +kernel
theorem fe_241_49 : am_fe 241 49 = some (12, none, .putfield 544) := by decide +kernel
theorem fe_241_52 : am_fe 241 52 = some (12, none, .iinc 2 1) := by decide +kernel
theorem fe_241_55 : am_fe 241 55 = some (12, none, .goto (-53)) := by decide +kernel
theorem fe_241_58 : am_fe 241 58 = some (12, none, .return_) := by decide +kernel
theorem fe_242_0 : am_fe 242 0 = some (12, none, .iconst 0) := by decide +kernel
theorem fe_242_1 : am_fe 242 1 = some (12, none, .istore_n 2) := by decide +kernel
theorem fe_242_2 : am_fe 242 2 = some (12, none, .iload_n 2) := by decide +kernel
theorem fe_242_3 : am_fe 242 3 = some (12, none, .iload_n 1) := by decide +kernel
theorem fe_242_4 : am_fe 242 4 = some (12, none, .if_icmp .ge 14) := by decide +kernel
theorem fe_242_7 : am_fe 242 7 = some (12, none, .aload_n 0) := by decide +kernel
theorem fe_242_8 : am_fe 242 8 = some (12, none, .invokevirtual 463) := by decide +kernel
theorem fe_242_11 : am_fe 242 11 = some (12, none, .pop) := by decide +kernel
theorem fe_242_12 : am_fe 242 12 = some (12, none, .iinc 2 1) := by decide +kernel
theorem fe_242_15 : am_fe 242 15 = some (12, none, .goto (-13)) := by decide +kernel
theorem fe_242_18 : am_fe 242 18 = some (12, none, .return_) := by decide +kernel
theorem fe_243_0 : am_fe 243 0 = some (12, none, .aload_n 0) := by decide +kernel
theorem fe_243_1 : am_fe 243 1 = some (12, none, .iconst 4) := by decide +kernel
theorem fe_243_2 : am_fe 243 2 = some (12, none, .iconst 1) := by decide +kernel
theorem fe_243_3 : am_fe 243 3 = some (12, none, .invokevirtual 481) := by decide +kernel
theorem fe_243_6 : am_fe 243 6 = some (12, none, .return_) := by decide +kernel
theorem fe_244_0 : am_fe 244 0 = some (12, some .int, .aload_n 0) := by decide +kernel
theorem fe_244_1 : am_fe 244 1 = some (12, some .int, .invokevirtual 457) := by decide +kernel
theorem fe_244_4 : am_fe 244 4 = some (12, some .int, .ifCond .eq 19) := by decide +kernel
theorem fe_244_7 : am_fe 244 7 = some (12, some .int, .iload_n 1) := by decide +kernel
theorem fe_244_8 : am_fe 244 8 = some (12, some .int, .ifCond .lt 15) := by decide +kernel
theorem fe_244_11 : am_fe 244 11 = some (12, some .int, .iload_n 2) := by decide +kernel
theorem fe_244_12 : am_fe 244 12 = some (12, some .int, .i2l) := by decide +kernel
theorem fe_244_13 : am_fe 244 13 = some (12, some .int, .lconst 0) := by decide +kernel
theorem fe_244_14 : am_fe 244 14 = some (12, some .int, .ldc2_w 486) := by decide +kernel
theorem fe_244_17 : am_fe 244 17 = some (12, some .int, .invokestatic 143) := by decide +kernel
theorem fe_244_20 : am_fe 244 20 = some (12, some .int, .ifCond .ne 5) := by decide +kernel
theorem fe_244_23 : am_fe 244 23 = some (12, some .int, .iconst (-1)) := by decide +kernel
theorem fe_244_24 : am_fe 244 24 = some (12, some .int, .ireturn) := by decide +kernel
theorem fe_244_25 : am_fe 244 25 = some (12, some .int, .aload_n 0) := by decide +kernel
theorem fe_244_26 : am_fe 244 26 = some (12, some .int, .invokevirtual 488) := by decide +kernel
theorem fe_244_29 : am_fe 244 29 = some (12, some .int, .iconst 0) := by decide +kernel
theorem fe_244_30 : am_fe 244 30 = some (12, some .int, .istore_n 3) := by decide +kernel
theorem fe_244_31 : am_fe 244 31 = some (12, some .int, .bipush (-2)) := by decide +kernel
theorem fe_244_33 : am_fe 244 33 = some (12, some .int, .istore 4) := by decide +kernel
theorem fe_244_35 : am_fe 244 35 = some (12, some .int, .iconst 0) := by decide +kernel
theorem fe_244_36 : am_fe 244 36 = some (12, some .int, .istore 5) := by decide +kernel
theorem fe_244_38 : am_fe 244 38 = some (12, some .int, .iload 5) := by decide +kernel
theorem fe_244_40 : am_fe 244 40 = some (12, some .int, .bipush 60) := by decide +kernel
theorem fe_244_42 : am_fe 244 42 = some (12, some .int, .if_icmp .ge 111) := by decide +kernel
theorem fe_244_45 : am_fe 244 45 = some (12, some .int, .aload_n 0) := by decide +kernel
theorem fe_244_46 : am_fe 244 46 = some (12, some .int, .invokevirtual 427) := by decide +kernel
theorem fe_244_49 : am_fe 244 49 = some (12, some .int, .istore 6) := by decide +kernel
theorem fe_244_51 : am_fe 244 51 = some (12, some .int, .aload_n 0) := by decide +kernel
theorem fe_244_52 : am_fe 244 52 = some (12, some .int, .getfield 9) := by decide +kernel
theorem fe_244_55 : am_fe 244 55 = some (12, some .int, .bipush 6) := by decide +kernel
theorem fe_244_57 : am_fe 244 57 = some (12, some .int, .iaload) := by decide +kernel
theorem fe_244_58 : am_fe 244 58 = some (12, some .int, .istore 7) := by decide +kernel
theorem fe_244_60 : am_fe 244 60 = some (12, some .int, .aload_n 0) := by decide +kernel
theorem fe_244_61 : am_fe 244 61 = some (12, some .int, .invokevirtual 463) := by decide +kernel
theorem fe_244_64 : am_fe 244 64 = some (12, some .int, .pop) := by decide +kernel
theorem fe_244_65 : am_fe 244 65 = some (12, some .int, .iconst 0) := by decide +kernel
theorem fe_244_66 : am_fe 244 66 = some (12, some .int, .istore 8) := by decide +kernel
theorem fe_244_68 : am_fe 244 68 = some (12, some .int, .iload 8) := by decide +kernel
theorem fe_244_70 : am_fe 244 70 = some (12, some .int, .aload_n 0) := by decide +kernel
theorem fe_244_71 : am_fe 244 71 = some (12, some .int, .getfield 9) := by decide +kernel
theorem fe_244_74 : am_fe 244 74 = some (12, some .int, .iconst 4) := by decide +kernel
theorem fe_244_75 : am_fe 244 75 = some (12, some .int, .iaload) := by decide +kernel
theorem fe_244_76 : am_fe 244 76 = some (12, some .int, .if_icmp .ge 71) := by decide +kernel
theorem fe_244_79 : am_fe 244 79 = some (12, some .int, .iload 6) := by decide +kernel
theorem fe_244_81 : am_fe 244 81 = some (12, some .int, .iload 8) := by decide +kernel
theorem fe_244_83 : am_fe 244 83 = some (12, some .int, .invokestatic 387) := by decide +kernel
theorem fe_244_86 : am_fe 244 86 = some (12, some .int, .ifCond .eq 55) := by decide +kernel
theorem fe_244_89 : am_fe 244 89 = some (12, some .int, .aload_n 0) := by decide +kernel
theorem fe_244_90 : am_fe 244 90 = some (12, some .int, .getfield 46) := by decide +kernel
theorem fe_244_93 : am_fe 244 93 = some (12, some .int, .iload 8) := by decide +kernel
theorem fe_244_95 : am_fe 244 95 = some (12, some .int, .iaload) := by decide +kernel
theorem fe_244_96 : am_fe 244 96 = some (12, some .int, .iconst 1) := by decide +kernel
theorem fe_244_97 : am_fe 244 97 = some (12, some .int, .if_icmp .ne 44) := by decide +kernel
theorem fe_244_100 : am_fe 244 100 = some (12, some .int, .iload_n 3) := by decide +kernel
theorem fe_244_101 : am_fe 244 101 = some (12, some .int, .iload_n 1) := by decide +kernel
theorem fe_244_102 : am_fe 244 102 = some (12, some .int, .if_icmp .ne 32) := by decide +kernel
theorem fe_244_105 : am_fe 244 105 = some (12, some .int, .iload_n 2) := by decide +kernel
theorem fe_244_106 : am_fe 244 106 = some (12, some .int, .ifCond .ne 8) := by decide +kernel
theorem fe_244_109 : am_fe 244 109 = some (12, some .int, .iload 8) := by decide +kernel
theorem fe_244_111 : am_fe 244 111 = some (12, some .int, .goto 25) := by decide +kernel
theorem fe_244_114 : am_fe 244 114 = some (12, some .int, .iload_n 2) := by decide +kernel
theorem fe_244_115 : am_fe 244 115 = some (12, some .int, .iconst 1) := by decide +kernel
theorem fe_244_116 : am_fe 244 116 = some (12, some .int, .if_icmp .ne 8) := by decide +kernel
theorem fe_244_119 : am_fe 244 119 = some (12, some .int, .iload 7) := by decide +kernel
theorem fe_244_121 : am_fe 244 121 = some (12, some .int, .goto 15) := by decide +kernel
theorem fe_244_124 : am_fe 244 124 = some (12, some .int, .aload_n 0) := by decide +kernel
theorem fe_244_125 : am_fe 244 125 = some (12, some .int, .getfield 40) := by decide +kernel
theorem fe_244_128 : am_fe 244 128 = some (12, some .int, .iload 8) := by decide +kernel
theorem fe_244_130 : am_fe 244 130 = some (12, some .int, .iaload) := by decide +kernel
theorem fe_244_131 : am_fe 244 131 = some (12, some .int, .goto 5) := by decide +kernel
theorem fe_244_134 : am_fe 244 134 = some (12, some .int, .iload 4) := by decide +kernel
theorem fe_244_136 : am_fe 244 136 = some (12, some .int, .istore 4) := by decide +kernel
theorem fe_244_138 : am_fe 244 138 = some (12, some .int, .iinc 3 1) := by decide +kernel
theorem fe_244_141 : am_fe 244 141 = some (12, some .int, .iinc 8 1) := by decide +kernel
theorem fe_244_144 : am_fe 244 144 = some (12, some .int, .goto (-76)) := by decide +kernel
theorem fe_244_147 : am_fe 244 147 = some (12, some .int, .iinc 5 1) := by decide +kernel
theorem fe_244_150 : am_fe 244 150 = some (12, some .int, .goto (-112)) := by decide +kernel
theorem fe_244_153 : am_fe 244 153 = some (12, some .int, .aload_n 0) := by decide +kernel
theorem fe_244_154 : am_fe 244 154 = some (12, some .int, .invokevirtual 494) := by decide +kernel
theorem fe_244_157 : am_fe 244 157 = some (12, some .int, .iload 4) := by decide +kernel
theorem fe_244_159 : am_fe 244 159 = some (12, some .int, .ireturn) := by decide +kernel
theorem fe_245_0 : am_fe 245 0 = some (12, some .int, .aload_n 0) := by decide +kernel
theorem fe_245_1 : am_fe 245 1 = some (12, some .int, .invokevirtual 457) := by decide +kernel
theorem fe_245_4 : am_fe 245 4 = some (12, some .int, .ifCond .eq 28) := by decide +kernel
theorem fe_245_7 : am_fe 245 7 = some (12, some .int, .iload_n 1) := by decide +kernel
theorem fe_245_8 : am_fe 245 8 = some (12, some .int, .ifCond .lt 24) := by decide +kernel
theorem fe_245_11 : am_fe 245 11 = some (12, some .int, .iload_n 1) := by decide +kernel
theorem fe_245_12 : am_fe 245 12 = some (12, some .int, .aload_n 0) := by decide +kernel
theorem fe_245_13 : am_fe 245 13 = some (12, some .int, .invokevirtual 427) := by decide +kernel
theorem fe_245_16 : am_fe 245 16 = some (12, some .int, .iconst (-1)) := by decide +kernel
theorem fe_245_17 : am_fe 245 17 = some (12, some .int, .ixor) := by decide +kernel
theorem fe_245_18 : am_fe 245 18 = some (12, some .int, .iand) := by decide +kernel
theorem fe_245_19 : am_fe 245 19 = some (12, some .int, .ifCond .ne 13) := by decide +kernel
theorem fe_245_22 : am_fe 245 22 = some (12, some .int, .iload_n 2) := by decide +kernel
theorem fe_245_23 : am_fe 245 23 = some (12, some .int, .i2l) := by decide +kernel
theorem fe_245_24 : am_fe 245 24 = some (12, some .int, .lconst 0) := by decide +kernel
theorem fe_245_25 : am_fe 245 25 = some (12, some .int, .lconst 1) := by decide +kernel
theorem fe_245_26 : am_fe 245 26 = some (12, some .int, .invokestatic 143) := by decide +kernel
theorem fe_245_29 : am_fe 245 29 = some (12, some .int, .ifCond .ne 5) := by decide +kernel
theorem fe_245_32 : am_fe 245 32 = some (12, some .int, .iconst (-1)) := by decide +kernel
theorem fe_245_33 : am_fe 245 33 = some (12, some .int, .ireturn) := by decide +kernel
theorem fe_245_34 : am_fe 245 34 = some (12, some .int, .iconst 0) := by decide +kernel
theorem fe_245_35 : am_fe 245 35 = some (12, some .int, .istore_n 3) := by decide +kernel
theorem fe_245_36 : am_fe 245 36 = some (12, some .int, .iconst 0) := by decide +kernel
theorem fe_245_37 : am_fe 245 37 = some (12, some .int, .istore 4) := by decide +kernel
theorem fe_245_39 : am_fe 245 39 = some (12, some .int, .iload 4) := by decide +kernel
theorem fe_245_41 : am_fe 245 41 = some (12, some .int, .aload_n 0) := by decide +kernel
theorem fe_245_42 : am_fe 245 42 = some (12, some .int, .getfield 9) := by decide +kernel
theorem fe_245_45 : am_fe 245 45 = some (12, some .int, .iconst 0) := by decide +kernel
theorem fe_245_46 : am_fe 245 46 = some (12, some .int, .iaload) := by decide +kernel
theorem fe_245_47 : am_fe 245 47 = some (12, some .int, .if_icmp .ge 30) := by decide +kernel
theorem fe_245_50 : am_fe 245 50 = some (12, some .int, .iload_n 3) := by decide +kernel
theorem fe_245_51 : am_fe 245 51 = some (12, some .int, .aload_n 0) := by decide +kernel
theorem fe_245_52 : am_fe 245 52 = some (12, some .int, .iload 4) := by decide +kernel
theorem fe_245_54 : am_fe 245 54 = some (12, some .int, .invokevirtual 390) := by decide +kernel
theorem fe_245_57 : am_fe 245 57 = some (12, some .int, .iconst (-1)) := by decide +kernel
theorem fe_245_58 : am_fe 245 58 = some (12, some .int, .if_icmp .ne 10) := by decide +kernel
theorem fe_245_61 : am_fe 245 61 = some (12, some .int, .iconst 1) := by decide +kernel
theorem fe_245_62 : am_fe 245 62 = some (12, some .int, .iload 4) := by decide +kernel
theorem fe_245_64 : am_fe 245 64 = some (12, some .int, .ishl) := by decide +kernel
theorem fe_245_65 : am_fe 245 65 = some (12, some .int, .goto 4) := by decide +kernel
theorem fe_245_68 : am_fe 245 68 = some (12, some .int, .iconst 0) := by decide +kernel
theorem fe_245_69 : am_fe 245 69 = some (12, some .int, .ior) := by decide +kernel
theorem fe_245_70 : am_fe 245 70 = some (12, some .int, .istore_n 3) := by decide +kernel
theorem fe_245_71 : am_fe 245 71 = some (12, some .int, .iinc 4 1) := by decide +kernel
theorem fe_245_74 : am_fe 245 74 = some (12, some .int, .goto (-35)) := by decide +kernel
theorem fe_245_77 : am_fe 245 77 = some (12, some .int, .aload_n 0) := by decide +kernel
theorem fe_245_78 : am_fe 245 78 = some (12, some .int, .invokevirtual 488) := by decide +kernel
theorem fe_245_81 : am_fe 245 81 = some (12, some .int, .iconst 0) := by decide +kernel
theorem fe_245_82 : am_fe 245 82 = some (12, some .int, .istore 4) := by decide +kernel
theorem fe_245_84 : am_fe 245 84 = some (12, some .int, .iload 4) := by decide +kernel
theorem fe_245_86 : am_fe 245 86 = some (12, some .int, .iconst 4) := by decide +kernel
theorem fe_245_87 : am_fe 245 87 = some (12, some .int, .if_icmp .ge 65) := by decide +kernel
theorem fe_245_90 : am_fe 245 90 = some (12, some .int, .iconst 0) := by decide +kernel
theorem fe_245_91 : am_fe 245 91 = some (12, some .int, .istore 5) := by decide +kernel
theorem fe_245_93 : am_fe 245 93 = some (12, some .int, .iload 5) := by decide +kernel
theorem fe_245_95 : am_fe 245 95 = some (12, some .int, .iload_n 3) := by decide +kernel
theorem fe_245_96 : am_fe 245 96 = some (12, some .int, .if_icmp .gt 50) := by decide +kernel
theorem fe_245_99 : am_fe 245 99 = some (12, some .int, .iload 5) := by decide +kernel
theorem fe_245_101 : am_fe 245 101 = some (12, some .int, .iload_n 3) := by decide +kernel
theorem fe_245_102 : am_fe 245 102 = some (12, some .int, .iconst (-1)) := by decide +kernel
theorem fe_245_103 : am_fe 245 103 = some (12, some .int, .ixor) := by decide +kernel
theorem fe_245_104 : am_fe 245 104 = some (12, some .int, .iand) := by decide +kernel
theorem fe_245_105 : am_fe 245 105 = some (12, some .int, .ifCond .ne 35) := by decide +kernel
theorem fe_245_108 : am_fe 245 108 = some (12, some .int, .iload 5) := by decide +kernel
theorem fe_245_110 : am_fe 245 110 = some (12, some .int, .invokestatic 415) := by decide +kernel
theorem fe_245_113 : am_fe 245 113 = some (12, some .int, .iload 4) := by decide +kernel
theorem fe_245_115 : am_fe 245 115 = some (12, some .int, .if_icmp .ne 25) := by decide +kernel
theorem fe_245_118 : am_fe 245 118 = some (12, some .int, .aload_n 0) := by decide +kernel
theorem fe_245_119 : am_fe 245 119 = some (12, some .int, .iload_n 1) := by decide +kernel
theorem fe_245_120 : am_fe 245 120 = some (12, some .int, .iload 5) := by decide +kernel
theorem fe_245_122 : am_fe 245 122 = some (12, some .int, .invokevirtual 500) := by decide +kernel
theorem fe_245_125 : am_fe 245 125 = some (12, some .int, .ifCond .eq 15) := by decide +kernel
theorem fe_245_128 : am_fe 245 128 = some (12, some .int, .iload_n 2) := by decide +kernel
theorem fe_245_129 : am_fe 245 129 = some (12, some .int, .ifCond .ne 8) := by decide +kernel
theorem fe_245_132 : am_fe 245 132 = some (12, some .int, .iload 4) := by decide +kernel
theorem fe_245_134 : am_fe 245 134 = some (12, some .int, .goto 5) := by decide +kernel
theorem fe_245_137 : am_fe 245 137 = some (12, some .int, .iload 5) := by decide +kernel
theorem fe_245_139 : am_fe 245 139 = some (12, some .int, .ireturn) := by decide +kernel
theorem fe_245_140 : am_fe 245 140 = some (12, some .int, .iinc 5 1) := by decide +kernel
theorem fe_245_143 : am_fe 245 143 = some (12, some .int, .goto (-50)) := by decide +kernel
theorem fe_245_146 : am_fe 245 146 = some (12, some .int, .iinc 4 1) := by decide +kernel
theorem fe_245_149 : am_fe 245 149 = some (12, some .int, .goto (-65)) := by decide +kernel
theorem fe_245_152 : am_fe 245 152 = some (12, some .int, .bipush (-2)) := by decide +kernel
theorem fe_245_154 : am_fe 245 154 = some (12, some .int, .ireturn) := by decide +kernel
theorem fe_246_0 : am_fe 246 0 = some (12, some .boolean, .iconst 0) := by decide +kernel
theorem fe_246_1 : am_fe 246 1 = some (12, some .boolean, .istore_n 3) := by decide +kernel
theorem fe_246_2 : am_fe 246 2 = some (12, some .boolean, .iload_n 3) := by decide +kernel
theorem fe_246_3 : am_fe 246 3 = some (12, some .boolean, .aload_n 0) := by decide +kernel
theorem fe_246_4 : am_fe 246 4 = some (12, some .boolean, .getfield 9) := by decide +kernel
theorem fe_246_7 : am_fe 246 7 = some (12, some .boolean, .iconst 0) := by decide +kernel
theorem fe_246_8 : am_fe 246 8 = some (12, some .boolean, .iaload) := by decide +kernel
theorem fe_246_9 : am_fe 246 9 = some (12, some .boolean, .if_icmp .ge 23) := by decide +kernel
theorem fe_246_12 : am_fe 246 12 = some (12, some .boolean, .iload_n 2) := by decide +kernel
theorem fe_246_13 : am_fe 246 13 = some (12, some .boolean, .iload_n 3) := by decide +kernel
theorem fe_246_14 : am_fe 246 14 = some (12, some .boolean, .invokestatic 387) := by decide +kernel
theorem fe_246_17 : am_fe 246 17 = some (12, some .boolean, .ifCond .eq 9) := by decide +kernel
theorem fe_246_20 : am_fe 246 20 = some (12, some .boolean, .aload_n 0) := by decide +kernel
theorem fe_246_21 : am_fe 246 21 = some (12, some .boolean, .iload_n 3) := by decide +kernel
theorem fe_246_22 : am_fe 246 22 = some (12, some .boolean, .iconst 1) := by decide +kernel
theorem fe_246_23 : am_fe 246 23 = some (12, some .boolean, .invokevirtual 478) := by decide +kernel
theorem fe_246_26 : am_fe 246 26 = some (12, some .boolean, .iinc 3 1) := by decide +kernel
theorem fe_246_29 : am_fe 246 29 = some (12, some .boolean, .goto (-27)) := by decide +kernel
theorem fe_246_32 : am_fe 246 32 = some (12, some .boolean, .aload_n 0) := by decide +kernel
theorem fe_246_33 : am_fe 246 33 = some (12, some .boolean, .bipush 60) := by decide +kernel
theorem fe_246_35 : am_fe 246 35 = some (12, some .boolean, .invokevirtual 491) := by decide +kernel
theorem fe_246_38 : am_fe 246 38 = some (12, some .boolean, .iconst 1) := by decide +kernel
theorem fe_246_39 : am_fe 246 39 = some (12, some .boolean, .istore_n 3) := by decide +kernel
theorem fe_246_40 : am_fe 246 40 = some (12, some .boolean, .iconst 0) := by decide +kernel
theorem fe_246_41 : am_fe 246 41 = some (12, some .boolean, .istore 4) := by decide +kernel
theorem fe_246_43 : am_fe 246 43 = some (12, some .boolean, .iload 4) := by decide +kernel
theorem fe_246_45 : am_fe 246 45 = some (12, some .boolean, .aload_n 0) := by decide +kernel
theorem fe_246_46 : am_fe 246 46 = some (12, some .boolean, .getfield 9) := by decide +kernel
theorem fe_246_49 : am_fe 246 49 = some (12, some .boolean, .iconst 4) := by decide +kernel
theorem fe_246_50 : am_fe 246 50 = some (12, some .boolean, .iaload) := by decide +kernel
theorem fe_246_51 : am_fe 246 51 = some (12, some .boolean, .if_icmp .ge 37) := by decide +kernel
theorem fe_246_54 : am_fe 246 54 = some (12, some .boolean, .iload_n 3) := by decide +kernel
theorem fe_246_55 : am_fe 246 55 = some (12, some .boolean, .ifCond .eq 25) := by decide +kernel
theorem fe_246_58 : am_fe 246 58 = some (12, some .boolean, .iload_n 1) := by decide +kernel
theorem fe_246_59 : am_fe 246 59 = some (12, some .boolean, .iload 4) := by decide +kernel
theorem fe_246_61 : am_fe 246 61 = some (12, some .boolean, .invokestatic 387) := by decide +kernel
theorem fe_246_64 : am_fe 246 64 = some (12, some .boolean, .ifCond .eq 12) := by decide +kernel
theorem fe_246_67 : am_fe 246 67 = some (12, some .boolean, .aload_n 0) := by decide +kernel
theorem fe_246_68 : am_fe 246 68 = some (12, some .boolean, .iload 4) := by decide +kernel
theorem fe_246_70 : am_fe 246 70 = some (12, some .boolean, .invokevirtual 497) := by decide +kernel
theorem fe_246_73 : am_fe 246 73 = some (12, some .boolean, .ifCond .eq 7) := by decide +kernel
theorem fe_246_76 : am_fe 246 76 = some (12, some .boolean, .iconst 1) := by decide +kernel
theorem fe_246_77 : am_fe 246 77 = some (12, some .boolean, .goto 4) := by decide +kernel
theorem fe_246_80 : am_fe 246 80 = some (12, some .boolean, .iconst 0) := by decide +kernel
theorem fe_246_81 : am_fe 246 81 = some (12, some .boolean, .istore_n 3) := by decide +kernel
theorem fe_246_82 : am_fe 246 82 = some (12, some .boolean, .iinc 4 1) := by decide +kernel
theorem fe_246_85 : am_fe 246 85 = some (12, some .boolean, .goto (-42)) := by decide +kernel
theorem fe_246_88 : am_fe 246 88 = some (12, some .boolean, .aload_n 0) := by decide +kernel
theorem fe_246_89 : am_fe 246 89 = some (12, some .boolean, .invokevirtual 494) := by decide +kernel
theorem fe_246_92 : am_fe 246 92 = some (12, some .boolean, .iload_n 3) := by decide +kernel
theorem fe_246_93 : am_fe 246 93 = some (12, some .boolean, .ireturn) := by decide +kernel
theorem fe_247_0 : am_fe 247 0 = some (12, some .boolean, .iload_n 1) := by decide +kernel
theorem fe_247_1 : am_fe 247 1 = some (12, some .boolean, .istore_n 2) := by decide +kernel
theorem fe_247_2 : am_fe 247 2 = some (12, some .boolean, .aload_n 0) := by decide +kernel
theorem fe_247_3 : am_fe 247 3 = some (12, some .boolean, .getfield 46) := by decide +kernel
theorem fe_247_6 : am_fe 247 6 = some (12, some .boolean, .iload_n 2) := by decide +kernel
theorem fe_247_7 : am_fe 247 7 = some (12, some .boolean, .iaload) := by decide +kernel
theorem fe_247_8 : am_fe 247 8 = some (12, some .boolean, .iconst 3) := by decide +kernel
theorem fe_247_9 : am_fe 247 9 = some (12, some .boolean, .if_icmp .ne 13) := by decide +kernel
theorem fe_247_12 : am_fe 247 12 = some (12, some .boolean, .aload_n 0) := by decide +kernel
theorem fe_247_13 : am_fe 247 13 = some (12, some .boolean, .getfield 49) := by decide +kernel
theorem fe_247_16 : am_fe 247 16 = some (12, some .boolean, .iload_n 2) := by decide +kernel
theorem fe_247_17 : am_fe 247 17 = some (12, some .boolean, .iaload) := by decide +kernel
theorem fe_247_18 : am_fe 247 18 = some (12, some .boolean, .istore_n 2) := by decide +kernel
theorem fe_247_19 : am_fe 247 19 = some (12, some .boolean, .goto (-17)) := by decide +kernel
theorem fe_247_22 : am_fe 247 22 = some (12, some .boolean, .aload_n 0) := by decide +kernel
theorem fe_247_23 : am_fe 247 23 = some (12, some .boolean, .getfield 46) := by decide +kernel
theorem fe_247_26 : am_fe 247 26 = some (12, some .boolean, .iload_n 2) := by decide +kernel
theorem fe_247_27 : am_fe 247 27 = some (12, some .boolean, .iaload) := by decide +kernel
theorem fe_247_28 : am_fe 247 28 = some (12, some .boolean, .iconst 2) := by decide +kernel
theorem fe_247_29 : am_fe 247 29 = some (12, some .boolean, .if_icmp .ne 7) := by decide +kernel
theorem fe_247_32 : am_fe 247 32 = some (12, some .boolean, .iconst 1) := by decide +kernel
theorem fe_247_33 : am_fe 247 33 = some (12, some .boolean, .goto 4) := by decide +kernel
theorem fe_247_36 : am_fe 247 36 = some (12, some .boolean, .iconst 0) := by decide +kernel
theorem fe_247_37 : am_fe 247 37 = some (12, some .boolean, .ireturn) := by decide +kernel
theorem fe_248_0 : am_fe 248 0 = some (12, some .int, .iload_n 1) := by decide +kernel
theorem fe_248_1 : am_fe 248 1 = some (12, some .int, .invokestatic 466) := by decide +kernel
theorem fe_248_4 : am_fe 248 4 = some (12, some .int, .ifCond .eq 34) := by decide +kernel
theorem fe_248_7 : am_fe 248 7 = some (12, some .int, .aload_n 0) := by decide +kernel
theorem fe_248_8 : am_fe 248 8 = some (12, some .int, .iload_n 2) := by decide +kernel
theorem fe_248_9 : am_fe 248 9 = some (12, some .int, .invokevirtual 378) := by decide +kernel
theorem fe_248_12 : am_fe 248 12 = some (12, some .int, .ifCond .eq 26) := by decide +kernel
theorem fe_248_15 : am_fe 248 15 = some (12, some .int, .iload_n 3) := by decide +kernel
theorem fe_248_16 : am_fe 248 16 = some (12, some .int, .i2l) := by decide +kernel
theorem fe_248_17 : am_fe 248 17 = some (12, some .int, .lconst 1) := by decide +kernel
theorem fe_248_18 : am_fe 248 18 = some (12, some .int, .ldc2_w 484) := by decide +kernel
theorem fe_248_21 : am_fe 248 21 = some (12, some .int, .invokestatic 143) := by decide +kernel
theorem fe_248_24 : am_fe 248 24 = some (12, some .int, .ifCond .eq 14) := by decide +kernel
theorem fe_248_27 : am_fe 248 27 = some (12, some .int, .iload 4) := by decide +kernel
theorem fe_248_29 : am_fe 248 29 = some (12, some .int, .i2l) := by decide +kernel
theorem fe_248_30 : am_fe 248 30 = some (12, some .int, .lconst 0) := by decide +kernel
theorem fe_248_31 : am_fe 248 31 = some (12, some .int, .lconst 1) := by decide +kernel
theorem fe_248_32 : am_fe 248 32 = some (12, some .int, .invokestatic 143) := by decide +kernel
theorem fe_248_35 : am_fe 248 35 = some (12, some .int, .ifCond .ne 5) := by decide +kernel
theorem fe_248_38 : am_fe 248 38 = some (12, some .int, .iconst (-1)) := by decide +kernel
theorem fe_248_39 : am_fe 248 39 = some (12, some .int, .ireturn) := by decide +kernel
theorem fe_248_40 : am_fe 248 40 = some (12, some .int, .iconst 0) := by decide +kernel
theorem fe_248_41 : am_fe 248 41 = some (12, some .int, .istore 5) := by decide +kernel
theorem fe_248_43 : am_fe 248 43 = some (12, some .int, .bipush (-2)) := by decide +kernel
theorem fe_248_45 : am_fe 248 45 = some (12, some .int, .istore 6) := by decide +kernel
theorem fe_248_47 : am_fe 248 47 = some (12, some .int, .aload_n 0) := by decide +kernel
theorem fe_248_48 : am_fe 248 48 = some (12, some .int, .invokevirtual 488) := by decide +kernel
theorem fe_248_51 : am_fe 248 51 = some (12, some .int, .iconst 0) := by decide +kernel
theorem fe_248_52 : am_fe 248 52 = some (12, some .int, .istore 7) := by decide +kernel
theorem fe_248_54 : am_fe 248 54 = some (12, some .int, .iload 7) := by decide +kernel
theorem fe_248_56 : am_fe 248 56 = some (12, some .int, .aload_n 0) := by decide +kernel
theorem fe_248_57 : am_fe 248 57 = some (12, some .int, .getfield 9) := by decide +kernel
theorem fe_248_60 : am_fe 248 60 = some (12, some .int, .iconst 0) := by decide +kernel
theorem fe_248_61 : am_fe 248 61 = some (12, some .int, .iaload) := by decide +kernel
theorem fe_248_62 : am_fe 248 62 = some (12, some .int, .if_icmp .ge 89) := by decide +kernel
theorem fe_248_65 : am_fe 248 65 = some (12, some .int, .aload_n 0) := by decide +kernel
theorem fe_248_66 : am_fe 248 66 = some (12, some .int, .iload 7) := by decide +kernel
theorem fe_248_68 : am_fe 248 68 = some (12, some .int, .iload_n 1) := by decide +kernel
theorem fe_248_69 : am_fe 248 69 = some (12, some .int, .iconst 0) := by decide +kernel
theorem fe_248_70 : am_fe 248 70 = some (12, some .int, .invokevirtual 469) := by decide +kernel
theorem fe_248_73 : am_fe 248 73 = some (12, some .int, .istore 8) := by decide +kernel
theorem fe_248_75 : am_fe 248 75 = some (12, some .int, .aload_n 0) := by decide +kernel
theorem fe_248_76 : am_fe 248 76 = some (12, some .int, .iload_n 3) := by decide +kernel
theorem fe_248_77 : am_fe 248 77 = some (12, some .int, .invokevirtual 491) := by decide +kernel
theorem fe_248_80 : am_fe 248 80 = some (12, some .int, .aload_n 0) := by decide +kernel
theorem fe_248_81 : am_fe 248 81 = some (12, some .int, .iload 8) := by decide +kernel
theorem fe_248_83 : am_fe 248 83 = some (12, some .int, .invokevirtual 374) := by decide +kernel
theorem fe_248_86 : am_fe 248 86 = some (12, some .int, .ifCond .eq 18) := by decide +kernel
theorem fe_248_89 : am_fe 248 89 = some (12, some .int, .aload_n 0) := by decide +kernel
theorem fe_248_90 : am_fe 248 90 = some (12, some .int, .getfield 37) := by decide +kernel
theorem fe_248_93 : am_fe 248 93 = some (12, some .int, .iload 8) := by decide +kernel
theorem fe_248_95 : am_fe 248 95 = some (12, some .int, .iaload) := by decide +kernel
theorem fe_248_96 : am_fe 248 96 = some (12, some .int, .iload_n 2) := by decide +kernel
theorem fe_248_97 : am_fe 248 97 = some (12, some .int, .if_icmp .ne 7) := by decide +kernel
theorem fe_248_100 : am_fe 248 100 = some (12, some .int, .iconst 1) := by decide +kernel
theorem fe_248_101 : am_fe 248 101 = some (12, some .int, .goto 4) := by decide +kernel
theorem fe_248_104 : am_fe 248 104 = some (12, some .int, .iconst 0) := by decide +kernel
theorem fe_248_105 : am_fe 248 105 = some (12, some .int, .istore 9) := by decide +kernel
theorem fe_248_107 : am_fe 248 107 = some (12, some .int, .aload_n 0) := by decide +kernel
theorem fe_248_108 : am_fe 248 108 = some (12, some .int, .invokevirtual 494) := by decide +kernel
theorem fe_248_111 : am_fe 248 111 = some (12, some .int, .iload 9) := by decide +kernel
theorem fe_248_113 : am_fe 248 113 = some (12, some .int, .ifCond .eq 13) := by decide +kernel
theorem fe_248_116 : am_fe 248 116 = some (12, some .int, .iload 5) := by decide +kernel
theorem fe_248_118 : am_fe 248 118 = some (12, some .int, .ifCond .ne 8) := by decide +kernel
theorem fe_248_121 : am_fe 248 121 = some (12, some .int, .iload 7) := by decide +kernel
theorem fe_248_123 : am_fe 248 123 = some (12, some .int, .goto 5) := by decide +kernel
theorem fe_248_126 : am_fe 248 126 = some (12, some .int, .iload 6) := by decide +kernel
theorem fe_248_128 : am_fe 248 128 = some (12, some .int, .istore 6) := by decide +kernel
theorem fe_248_130 : am_fe 248 130 = some (12, some .int, .iload 5) := by decide +kernel
theorem fe_248_132 : am_fe 248 132 = some (12, some .int, .iload 9) := by decide +kernel
theorem fe_248_134 : am_fe 248 134 = some (12, some .int, .ifCond .eq 7) := by decide +kernel
theorem fe_248_137 : am_fe 248 137 = some (12, some .int, .iconst 1) := by decide +kernel
theorem fe_248_138 : am_fe 248 138 = some (12, some .int, .goto 4) := by decide +kernel
theorem fe_248_141 : am_fe 248 141 = some (12, some .int, .iconst 0) := by decide +kernel
theorem fe_248_142 : am_fe 248 142 = some (12, some .int, .iadd) := by decide +kernel
theorem fe_248_143 : am_fe 248 143 = some (12, some .int, .istore 5) := by decide +kernel
theorem fe_248_145 : am_fe 248 145 = some (12, some .int, .iinc 7 1) := by decide +kernel
theorem fe_248_148 : am_fe 248 148 = some (12, some .int, .goto (-94)) := by decide +kernel
theorem fe_248_151 : am_fe 248 151 = some (12, some .int, .iload 4) := by decide +kernel
theorem fe_248_153 : am_fe 248 153 = some (12, some .int, .ifCond .ne 8) := by decide +kernel
theorem fe_248_156 : am_fe 248 156 = some (12, some .int, .iload 5) := by decide +kernel
theorem fe_248_158 : am_fe 248 158 = some (12, some .int, .goto 5) := by decide +kernel
theorem fe_248_161 : am_fe 248 161 = some (12, some .int, .iload 6) := by decide +kernel
theorem fe_248_163 : am_fe 248 163 = some (12, some .int, .ireturn) := by decide +kernel
theorem fe_249_0 : am_fe 249 0 = some (12, some .int, .aload_n 0) := by decide +kernel
theorem fe_249_1 : am_fe 249 1 = some (12, some .int, .invokevirtual 457) := by decide +kernel
theorem fe_249_4 : am_fe 249 4 = some (12, some .int, .ifCond .eq 44) := by decide +kernel
theorem fe_249_7 : am_fe 249 7 = some (12, some .int, .iload_n 1) := by decide +kernel
theorem fe_249_8 : am_fe 249 8 = some (12, some .int, .i2l) := by decide +kernel
theorem fe_249_9 : am_fe 249 9 = some (12, some .int, .lconst 0) := by decide +kernel
theorem fe_249_10 : am_fe 249 10 = some (12, some .int, .iconst 1) := by decide +kernel
theorem fe_249_11 : am_fe 249 11 = some (12, some .int, .aload_n 0) := by decide +kernel
theorem fe_249_12 : am_fe 249 12 = some (12, some .int, .getfield 9) := by decide +kernel
theorem fe_249_15 : am_fe 249 15 = some (12, some .int, .iconst 4) := by decide +kernel
theorem fe_249_16 : am_fe 249 16 = some (12, some .int, .iaload) := by decide +kernel
theorem fe_249_17 : am_fe 249 17 = some (12, some .int, .ishl) := by decide +kernel
theorem fe_249_18 : am_fe 249 18 = some (12, some .int, .iconst 1) := by decide +kernel
theorem fe_249_19 : am_fe 249 19 = some (12, some .int, .isub) := by decide +kernel
theorem fe_249_20 : am_fe 249 20 = some (12, some .int, .i2l) := by decide +kernel
theorem fe_249_21 : am_fe 249 21 = some (12, some .int, .invokestatic 143) := by decide +kernel
theorem fe_249_24 : am_fe 249 24 = some (12, some .int, .ifCond .eq 24) := by decide +kernel
theorem fe_249_27 : am_fe 249 27 = some (12, some .int, .iload_n 1) := by decide +kernel
theorem fe_249_28 : am_fe 249 28 = some (12, some .int, .invokestatic 415) := by decide +kernel
theorem fe_249_31 : am_fe 249 31 = some (12, some .int, .bipush 8) := by decide +kernel
theorem fe_249_33 : am_fe 249 33 = some (12, some .int, .if_icmp .gt 15) := by decide +kernel
theorem fe_249_36 : am_fe 249 36 = some (12, some .int, .iload_n 2) := by decide +kernel
theorem fe_249_37 : am_fe 249 37 = some (12, some .int, .i2l) := by decide +kernel
theorem fe_249_38 : am_fe 249 38 = some (12, some .int, .lconst 0) := by decide +kernel
theorem fe_249_39 : am_fe 249 39 = some (12, some .int, .ldc2_w 503) := by decide +kernel
theorem fe_249_42 : am_fe 249 42 = some (12, some .int, .invokestatic 143) := by decide +kernel
theorem fe_249_45 : am_fe 249 45 = some (12, some .int, .ifCond .ne 5) := by decide +kernel
theorem fe_249_48 : am_fe 249 48 = some (12, some .int, .iconst (-1)) := by decide +kernel
theorem fe_249_49 : am_fe 249 49 = some (12, some .int, .ireturn) := by decide +kernel
theorem fe_249_50 : am_fe 249 50 = some (12, some .int, .iload_n 1) := by decide +kernel
theorem fe_249_51 : am_fe 249 51 = some (12, some .int, .ifCond .ne 7) := by decide +kernel
theorem fe_249_54 : am_fe 249 54 = some (12, some .int, .iconst 1) := by decide +kernel
theorem fe_249_55 : am_fe 249 55 = some (12, some .int, .goto 8) := by decide +kernel
theorem fe_249_58 : am_fe 249 58 = some (12, some .int, .aload_n 0) := by decide +kernel
theorem fe_249_59 : am_fe 249 59 = some (12, some .int, .iload_n 1) := by decide +kernel
theorem fe_249_60 : am_fe 249 60 = some (12, some .int, .invokevirtual 505) := by decide +kernel
theorem fe_249_63 : am_fe 249 63 = some (12, some .int, .istore_n 3) := by decide +kernel
theorem fe_249_64 : am_fe 249 64 = some (12, some .int, .iload_n 2) := by decide +kernel
theorem fe_249_65 : am_fe 249 65 = some (12, some .int, .ifCond .ne 5) := by decide +kernel
theorem fe_249_68 : am_fe 249 68 = some (12, some .int, .iload_n 3) := by decide +kernel
theorem fe_249_69 : am_fe 249 69 = some (12, some .int, .ireturn) := by decide +kernel
theorem fe_249_70 : am_fe 249 70 = some (12, some .int, .iload_n 3) := by decide +kernel
theorem fe_249_71 : am_fe 249 71 = some (12, some .int, .ifCond .eq 11) := by decide +kernel
theorem fe_249_74 : am_fe 249 74 = some (12, some .int, .iload_n 2) := by decide +kernel
theorem fe_249_75 : am_fe 249 75 = some (12, some .int, .iload_n 1) := by decide +kernel
theorem fe_249_76 : am_fe 249 76 = some (12, some .int, .invokestatic 415) := by decide +kernel
theorem fe_249_79 : am_fe 249 79 = some (12, some .int, .if_icmp .le 8) := by decide +kernel
theorem fe_249_82 : am_fe 249 82 = some (12, some .int, .bipush (-2)) := by decide +kernel
theorem fe_249_84 : am_fe 249 84 = some (12, some .int, .goto 11) := by decide +kernel
theorem fe_249_87 : am_fe 249 87 = some (12, some .int, .aload_n 0) := by decide +kernel
theorem fe_249_88 : am_fe 249 88 = some (12, some .int, .getfield 127) := by decide +kernel
theorem fe_249_91 : am_fe 249 91 = some (12, some .int, .iload_n 2) := by decide +kernel
theorem fe_249_92 : am_fe 249 92 = some (12, some .int, .iconst 1) := by decide +kernel
theorem fe_249_93 : am_fe 249 93 = some (12, some .int, .isub) := by decide +kernel
theorem fe_249_94 : am_fe 249 94 = some (12, some .int, .iaload) := by decide +kernel
theorem fe_249_95 : am_fe 249 95 = some (12, some .int, .ireturn) := by decide +kernel
theorem fe_250_0 : am_fe 250 0 = some (12, some .int, .iload_n 1) := by decide +kernel
theorem fe_250_1 : am_fe 250 1 = some (12, some .int, .invokestatic 415) := by decide +kernel
theorem fe_250_4 : am_fe 250 4 = some (12, some .int, .istore_n 2) := by decide +kernel
theorem fe_250_5 : am_fe 250 5 = some (12, some .int, .iconst 0) := by decide +kernel
theorem fe_250_6 : am_fe 250 6 = some (12, some .int, .istore_n 3) := by decide +kernel
theorem fe_250_7 : am_fe 250 7 = some (12, some .int, .iconst 0) := by decide +kernel
theorem fe_250_8 : am_fe 250 8 = some (12, some .int, .istore 4) := by decide +kernel
theorem fe_250_10 : am_fe 250 10 = some (12, some .int, .iconst 0) := by decide +kernel
theorem fe_250_11 : am_fe 250 11 = some (12, some .int, .istore 5) := by decide +kernel
theorem fe_250_13 : am_fe 250 13 = some (12, some .int, .aload_n 0) := by decide +kernel
theorem fe_250_14 : am_fe 250 14 = some (12, some .int, .getfield 124) := by decide +kernel
theorem fe_250_17 : am_fe 250 17 = some (12, some .int, .iconst 0) := by decide +kernel
theorem fe_250_18 : am_fe 250 18 = some (12, some .int, .iconst (-1)) := by decide +kernel
theorem fe_250_19 : am_fe 250 19 = some (12, some .int, .iastore) := by decide +kernel
theorem fe_250_20 : am_fe 250 20 = some (12, some .int, .iload 5) := by decide +kernel
theorem fe_250_22 : am_fe 250 22 = some (12, some .int, .ifCond .lt 177) := by decide +kernel
theorem fe_250_25 : am_fe 250 25 = some (12, some .int, .aload_n 0) := by decide +kernel
theorem fe_250_26 : am_fe 250 26 = some (12, some .int, .getfield 124) := by decide +kernel
theorem fe_250_29 : am_fe 250 29 = some (12, some .int, .iload 5) := by decide +kernel
theorem fe_250_31 : am_fe 250 31 = some (12, some .int, .dup2) := by decide +kernel
theorem fe_250_32 : am_fe 250 32 = some (12, some .int, .iaload) := by decide +kernel
theorem fe_250_33 : am_fe 250 33 = some (12, some .int, .iconst 1) := by decide +kernel
theorem fe_250_34 : am_fe 250 34 = some (12, some .int, .iadd) := by decide +kernel
theorem fe_250_35 : am_fe 250 35 = some (12, some .int, .iastore) := by decide +kernel
theorem fe_250_36 : am_fe 250 36 = some (12, some .int, .aload_n 0) := by decide +kernel
theorem fe_250_37 : am_fe 250 37 = some (12, some .int, .getfield 124) := by decide +kernel
theorem fe_250_40 : am_fe 250 40 = some (12, some .int, .iload 5) := by decide +kernel
theorem fe_250_42 : am_fe 250 42 = some (12, some .int, .iaload) := by decide +kernel
theorem fe_250_43 : am_fe 250 43 = some (12, some .int, .aload_n 0) := by decide +kernel
theorem fe_250_44 : am_fe 250 44 = some (12, some .int, .getfield 9) := by decide +kernel
theorem fe_250_47 : am_fe 250 47 = some (12, some .int, .iconst 4) := by decide +kernel
theorem fe_250_48 : am_fe 250 48 = some (12, some .int, .iaload) := by decide +kernel
theorem fe_250_49 : am_fe 250 49 = some (12, some .int, .if_icmp .lt 34) := by decide +kernel
theorem fe_250_52 : am_fe 250 52 = some (12, some .int, .iinc 5 (-1)) := by decide +kernel
theorem fe_250_55 : am_fe 250 55 = some (12, some .int, .iload 4) := by decide +kernel
theorem fe_250_57 : am_fe 250 57 = some (12, some .int, .iload 5) := by decide +kernel
theorem fe_250_59 : am_fe 250 59 = some (12, some .int, .ifCond .lt 17) := by decide +kernel
theorem fe_250_62 : am_fe 250 62 = some (12, some .int, .iconst 1) := by decide +kernel
theorem fe_250_63 : am_fe 250 63 = some (12, some .int, .aload_n 0) := by decide +kernel
theorem fe_250_64 : am_fe 250 64 = some (12, some .int, .getfield 124) := by decide +kernel
theorem fe_250_67 : am_fe 250 67 = some (12, some .int, .iload 5) := by decide +kernel
theorem fe_250_69 : am_fe 250 69 = some (12, some .int, .iaload) := by decide +kernel
theorem fe_250_70 : am_fe 250 70 = some (12, some .int, .ishl) := by decide +kernel
theorem fe_250_71 : am_fe 250 71 = some (12, some .int, .iconst (-1)) := by decide +kernel
theorem fe_250_72 : am_fe 250 72 = some (12, some .int, .ixor) := by decide +kernel
theorem fe_250_73 : am_fe 250 73 = some (12, some .int, .goto 4) := by decide +kernel
theorem fe_250_76 : am_fe 250 76 = some (12, some .int, .iconst 0) := by decide +kernel
theorem fe_250_77 : am_fe 250 77 = some (12, some .int, .iand) := by decide +kernel
theorem fe_250_78 : am_fe 250 78 = some (12, some .int, .istore 4) := by decide +kernel
theorem fe_250_80 : am_fe 250 80 = some (12, some .int, .goto (-60)) := by decide +kernel
theorem fe_250_83 : am_fe 250 83 = some (12, some .int, .iload_n 1) := by decide +kernel
theorem fe_250_84 : am_fe 250 84 = some (12, some .int, .iload 4) := by decide +kernel
theorem fe_250_86 : am_fe 250 86 = some (12, some .int, .iconst (-1)) := by decide +kernel
theorem fe_250_87 : am_fe 250 87 = some (12, some .int, .ixor) := by decide +kernel
theorem fe_250_88 : am_fe 250 88 = some (12, some .int, .iand) := by decide +kernel
theorem fe_250_89 : am_fe 250 89 = some (12, some .int, .aload_n 0) := by decide +kernel
theorem fe_250_90 : am_fe 250 90 = some (12, some .int, .getfield 124) := by decide +kernel
theorem fe_250_93 : am_fe 250 93 = some (12, some .int, .iload 5) := by decide +kernel
theorem fe_250_95 : am_fe 250 95 = some (12, some .int, .iaload) := by decide +kernel
theorem fe_250_96 : am_fe 250 96 = some (12, some .int, .invokestatic 387) := by decide +kernel
theorem fe_250_99 : am_fe 250 99 = some (12, some .int, .ifCond .eq (-79)) := by decide +kernel
theorem fe_250_102 : am_fe 250 102 = some (12, some .int, .iload 5) := by decide +kernel
theorem fe_250_104 : am_fe 250 104 = some (12, some .int, .ifCond .eq 38) := by decide +kernel
theorem fe_250_107 : am_fe 250 107 = some (12, some .int, .aload_n 0) := by decide +kernel
theorem fe_250_108 : am_fe 250 108 = some (12, some .int, .getfield 40) := by decide +kernel
theorem fe_250_111 : am_fe 250 111 = some (12, some .int, .aload_n 0) := by decide +kernel
theorem fe_250_112 : am_fe 250 112 = some (12, some .int, .getfield 124) := by decide +kernel
theorem fe_250_115 : am_fe 250 115 = some (12, some .int, .iload 5) := by decide +kernel
theorem fe_250_117 : am_fe 250 117 = some (12, some .int, .iconst 1) := by decide +kernel
theorem fe_250_118 : am_fe 250 118 = some (12, some .int, .isub) := by decide +kernel
theorem fe_250_119 : am_fe 250 119 = some (12, some .int, .iaload) := by decide +kernel
theorem fe_250_120 : am_fe 250 120 = some (12, some .int, .iaload) := by decide +kernel
theorem fe_250_121 : am_fe 250 121 = some (12, some .int, .bipush 10) := by decide +kernel
theorem fe_250_123 : am_fe 250 123 = some (12, some .int, .irem) := by decide +kernel
theorem fe_250_124 : am_fe 250 124 = some (12, some .int, .aload_n 0) := by decide +kernel
theorem fe_250_125 : am_fe 250 125 = some (12, some .int, .getfield 40) := by decide +kernel
theorem fe_250_128 : am_fe 250 128 = some (12, some .int, .aload_n 0) := by decide +kernel
theorem fe_250_129 : am_fe 250 129 = some (12, some .int, .getfield 124) := by decide +kernel
theorem fe_250_132 : am_fe 250 132 = some (12, some .int, .iload 5) := by decide +kernel
theorem fe_250_134 : am_fe 250 134 = some (12, some .int, .iaload) := by decide +kernel
theorem fe_250_135 : am_fe 250 135 = some (12, some .int, .iaload) := by decide +kernel
theorem fe_250_136 : am_fe 250 136 = some (12, some .int, .invokestatic 409) := by decide +kernel
theorem fe_250_139 : am_fe 250 139 = some (12, some .int, .if_icmp .ne (-119)) := by decide +kernel
theorem fe_250_142 : am_fe 250 142 = some (12, some .int, .iload 5) := by decide +kernel
theorem fe_250_144 : am_fe 250 144 = some (12, some .int, .iload_n 2) := by decide +kernel
theorem fe_250_145 : am_fe 250 145 = some (12, some .int, .iconst 1) := by decide +kernel
theorem fe_250_146 : am_fe 250 146 = some (12, some .int, .isub) := by decide +kernel
theorem fe_250_147 : am_fe 250 147 = some (12, some .int, .if_icmp .ne 24) := by decide +kernel
theorem fe_250_150 : am_fe 250 150 = some (12, some .int, .iload_n 3) := by decide +kernel
theorem fe_250_151 : am_fe 250 151 = some (12, some .int, .ifCond .ne 14) := by decide +kernel
theorem fe_250_154 : am_fe 250 154 = some (12, some .int, .aload_n 0) := by decide +kernel
theorem fe_250_155 : am_fe 250 155 = some (12, some .int, .getfield 124) := by decide +kernel
theorem fe_250_158 : am_fe 250 158 = some (12, some .int, .aload_n 0) := by decide +kernel
theorem fe_250_159 : am_fe 250 159 = some (12, some .int, .getfield 127) := by decide +kernel
theorem fe_250_162 : am_fe 250 162 = some (12, some .int, .invokestatic 342) := by decide +kernel
theorem fe_250_165 : am_fe 250 165 = some (12, some .int, .iinc 3 1) := by decide +kernel
theorem fe_250_168 : am_fe 250 168 = some (12, some .int, .goto (-148)) := by decide +kernel
theorem fe_250_171 : am_fe 250 171 = some (12, some .int, .iload 4) := by decide +kernel
theorem fe_250_173 : am_fe 250 173 = some (12, some .int, .iconst 1) := by decide +kernel
theorem fe_250_174 : am_fe 250 174 = some (12, some .int, .aload_n 0) := by decide +kernel
theorem fe_250_175 : am_fe 250 175 = some (12, some .int, .getfield 124) := by decide +kernel
theorem fe_250_178 : am_fe 250 178 = some (12, some .int, .iload 5) := by decide +kernel
theorem fe_250_180 : am_fe 250 180 = some (12, some .int, .iaload) := by decide +kernel
theorem fe_250_181 : am_fe 250 181 = some (12, some .int, .ishl) := by decide +kernel
theorem fe_250_182 : am_fe 250 182 = some (12, some .int, .ior) := by decide +kernel
theorem fe_250_183 : am_fe 250 183 = some (12, some .int, .istore 4) := by decide +kernel
theorem fe_250_185 : am_fe 250 185 = some (12, some .int, .iinc 5 1) := by decide +kernel
theorem fe_250_188 : am_fe 250 188 = some (12, some .int, .aload_n 0) := by decide +kernel
theorem fe_250_189 : am_fe 250 189 = some (12, some .int, .getfield 124) := by decide +kernel
theorem fe_250_192 : am_fe 250 192 = some (12, some .int, .iload 5) := by decide +kernel
theorem fe_250_194 : am_fe 250 194 = some (12, some .int, .iconst (-1)) := by decide +kernel
theorem fe_250_195 : am_fe 250 195 = some (12, some .int, .iastore) := by decide +kernel
theorem fe_250_196 : am_fe 250 196 = some (12, some .int, .goto (-176)) := by decide +kernel
theorem fe_250_199 : am_fe 250 199 = some (12, some .int, .iload_n 3) := by decide +kernel
theorem fe_250_200 : am_fe 250 200 = some (12, some .int, .ireturn) := by decide +kernel
theorem fe_251_0 : am_fe 251 0 = some (12, some .int, .iload_n 1) := by decide +kernel
theorem fe_251_1 : am_fe 251 1 = some (12, some .int, .invokestatic 466) := by decide +kernel
theorem fe_251_4 : am_fe 251 4 = some (12, some .int, .ifCond .eq 23) := by decide +kernel
theorem fe_251_7 : am_fe 251 7 = some (12, some .int, .aload_n 0) := by decide +kernel
theorem fe_251_8 : am_fe 251 8 = some (12, some .int, .iload_n 2) := by decide +kernel
theorem fe_251_9 : am_fe 251 9 = some (12, some .int, .invokevirtual 378) := by decide +kernel
theorem fe_251_12 : am_fe 251 12 = some (12, some .int, .ifCond .eq 15) := by decide +kernel
theorem fe_251_15 : am_fe 251 15 = some (12, some .int, .iload_n 3) := by decide +kernel
theorem fe_251_16 : am_fe 251 16 = some (12, some .int, .i2l) := by decide +kernel
theorem fe_251_17 : am_fe 251 17 = some (12, some .int, .lconst 0) := by decide +kernel
theorem fe_251_18 : am_fe 251 18 = some (12, some .int, .ldc2_w 486) := by decide +kernel
theorem fe_251_21 : am_fe 251 21 = some (12, some .int, .invokestatic 143) := by decide +kernel
theorem fe_251_24 : am_fe 251 24 = some (12, some .int, .ifCond .ne 5) := by decide +kernel
theorem fe_251_27 : am_fe 251 27 = some (12, some .int, .iconst (-1)) := by decide +kernel
theorem fe_251_28 : am_fe 251 28 = some (12, some .int, .ireturn) := by decide +kernel
theorem fe_251_29 : am_fe 251 29 = some (12, some .int, .iconst 0) := by decide +kernel
theorem fe_251_30 : am_fe 251 30 = some (12, some .int, .istore 4) := by decide +kernel
theorem fe_251_32 : am_fe 251 32 = some (12, some .int, .bipush (-2)) := by decide +kernel
theorem fe_251_34 : am_fe 251 34 = some (12, some .int, .istore 5) := by decide +kernel
theorem fe_251_36 : am_fe 251 36 = some (12, some .int, .bipush (-2)) := by decide +kernel
theorem fe_251_38 : am_fe 251 38 = some (12, some .int, .istore 6) := by decide +kernel
theorem fe_251_40 : am_fe 251 40 = some (12, some .int, .iconst 0) := by decide +kernel
theorem fe_251_41 : am_fe 251 41 = some (12, some .int, .istore 7) := by decide +kernel
theorem fe_251_43 : am_fe 251 43 = some (12, some .int, .iload 7) := by decide +kernel
theorem fe_251_45 : am_fe 251 45 = some (12, some .int, .bipush 20) := by decide +kernel
theorem fe_251_47 : am_fe 251 47 = some (12, some .int, .if_icmp .gt 80) := by decide +kernel
theorem fe_251_50 : am_fe 251 50 = some (12, some .int, .iconst 0) := by decide +kernel
theorem fe_251_51 : am_fe 251 51 = some (12, some .int, .istore 8) := by decide +kernel
theorem fe_251_53 : am_fe 251 53 = some (12, some .int, .iload 8) := by decide +kernel
theorem fe_251_55 : am_fe 251 55 = some (12, some .int, .aload_n 0) := by decide +kernel
theorem fe_251_56 : am_fe 251 56 = some (12, some .int, .getfield 9) := by decide +kernel
theorem fe_251_59 : am_fe 251 59 = some (12, some .int, .iconst 0) := by decide +kernel
theorem fe_251_60 : am_fe 251 60 = some (12, some .int, .iaload) := by decide +kernel
theorem fe_251_61 : am_fe 251 61 = some (12, some .int, .if_icmp .ge 60) := by decide +kernel
theorem fe_251_64 : am_fe 251 64 = some (12, some .int, .aload_n 0) := by decide +kernel
theorem fe_251_65 : am_fe 251 65 = some (12, some .int, .iload 8) := by decide +kernel
theorem fe_251_67 : am_fe 251 67 = some (12, some .int, .iload 7) := by decide +kernel
theorem fe_251_69 : am_fe 251 69 = some (12, some .int, .invokevirtual 511) := by decide +kernel
theorem fe_251_72 : am_fe 251 72 = some (12, some .int, .iload_n 2) := by decide +kernel
theorem fe_251_73 : am_fe 251 73 = some (12, some .int, .if_icmp .ne 42) := by decide +kernel
theorem fe_251_76 : am_fe 251 76 = some (12, some .int, .aload_n 0) := by decide +kernel
theorem fe_251_77 : am_fe 251 77 = some (12, some .int, .iload_n 1) := by decide +kernel
theorem fe_251_78 : am_fe 251 78 = some (12, some .int, .invokevirtual 514) := by decide +kernel
theorem fe_251_81 : am_fe 251 81 = some (12, some .int, .ifCond .eq 34) := by decide +kernel
theorem fe_251_84 : am_fe 251 84 = some (12, some .int, .iload 4) := by decide +kernel
theorem fe_251_86 : am_fe 251 86 = some (12, some .int, .ifCond .ne 8) := by decide +kernel
theorem fe_251_89 : am_fe 251 89 = some (12, some .int, .iload 8) := by decide +kernel
theorem fe_251_91 : am_fe 251 91 = some (12, some .int, .goto 5) := by decide +kernel
theorem fe_251_94 : am_fe 251 94 = some (12, some .int, .iload 5) := by decide +kernel
theorem fe_251_96 : am_fe 251 96 = some (12, some .int, .istore 5) := by decide +kernel
theorem fe_251_98 : am_fe 251 98 = some (12, some .int, .iload 4) := by decide +kernel
theorem fe_251_100 : am_fe 251 100 = some (12, some .int, .ifCond .ne 8) := by decide +kernel
theorem fe_251_103 : am_fe 251 103 = some (12, some .int, .iload 7) := by decide +kernel
theorem fe_251_105 : am_fe 251 105 = some (12, some .int, .goto 5) := by decide +kernel
theorem fe_251_108 : am_fe 251 108 = some (12, some .int, .iload 6) := by decide +kernel
theorem fe_251_110 : am_fe 251 110 = some (12, some .int, .istore 6) := by decide +kernel
theorem fe_251_112 : am_fe 251 112 = some (12, some .int, .iinc 4 1) := by decide +kernel
theorem fe_251_115 : am_fe 251 115 = some (12, some .int, .iinc 8 1) := by decide +kernel
theorem fe_251_118 : am_fe 251 118 = some (12, some .int, .goto (-65)) := by decide +kernel
theorem fe_251_121 : am_fe 251 121 = some (12, some .int, .iinc 7 1) := by decide +kernel
theorem fe_251_124 : am_fe 251 124 = some (12, some .int, .goto (-81)) := by decide +kernel
theorem fe_251_127 : am_fe 251 127 = some (12, some .int, .iload_n 3) := by decide +kernel
theorem fe_251_128 : am_fe 251 128 = some (12, some .int, .ifCond .ne 8) := by decide +kernel
theorem fe_251_131 : am_fe 251 131 = some (12, some .int, .iload 4) := by decide +kernel
theorem fe_251_133 : am_fe 251 133 = some (12, some .int, .goto 15) := by decide +kernel
theorem fe_251_136 : am_fe 251 136 = some (12, some .int, .iload_n 3) := by decide +kernel
theorem fe_251_137 : am_fe 251 137 = some (12, some .int, .iconst 1) := by decide +kernel
theorem fe_251_138 : am_fe 251 138 = some (12, some .int, .if_icmp .ne 8) := by decide +kernel
theorem fe_251_141 : am_fe 251 141 = some (12, some .int, .iload 5) := by decide +kernel
theorem fe_251_143 : am_fe 251 143 = some (12, some .int, .goto 5) := by decide +kernel
theorem fe_251_146 : am_fe 251 146 = some (12, some .int, .iload 6) := by decide +kernel
theorem fe_251_148 : am_fe 251 148 = some (12, some .int, .ireturn) := by decide +kernel
theorem fe_252_0 : am_fe 252 0 = some (12, some .int, .iload_n 1) := by decide +kernel
theorem fe_252_1 : am_fe 252 1 = some (12, some .int, .istore_n 3) := by decide +kernel
theorem fe_252_2 : am_fe 252 2 = some (12, some .int, .iconst 0) := by decide +kernel
theorem fe_252_3 : am_fe 252 3 = some (12, some .int, .istore 4) := by decide +kernel
theorem fe_252_5 : am_fe 252 5 = some (12, some .int, .aload_n 0) := by decide +kernel
theorem fe_252_6 : am_fe 252 6 = some (12, some .int, .iconst 0) := by decide +kernel
theorem fe_252_7 : am_fe 252 7 = some (12, some .int, .putfield 508) := by decide +kernel
theorem fe_252_10 : am_fe 252 10 = some (12, some .int, .iconst 0) := by decide +kernel
theorem fe_252_11 : am_fe 252 11 = some (12, some .int, .istore 5) := by decide +kernel
theorem fe_252_13 : am_fe 252 13 = some (12, some .int, .iload 5) := by decide +kernel
theorem fe_252_15 : am_fe 252 15 = some (12, some .int, .iload_n 2) := by decide +kernel
theorem fe_252_16 : am_fe 252 16 = some (12, some .int, .if_icmp .ge 102) := by decide +kernel
theorem fe_252_19 : am_fe 252 19 = some (12, some .int, .iload_n 3) := by decide +kernel
theorem fe_252_20 : am_fe 252 20 = some (12, some .int, .iconst (-1)) := by decide +kernel
theorem fe_252_21 : am_fe 252 21 = some (12, some .int, .if_icmp .eq 11) := by decide +kernel
theorem fe_252_24 : am_fe 252 24 = some (12, some .int, .aload_n 0) := by decide +kernel
theorem fe_252_25 : am_fe 252 25 = some (12, some .int, .iload_n 3) := by decide +kernel
theorem fe_252_26 : am_fe 252 26 = some (12, some .int, .invokevirtual 399) := by decide +kernel
theorem fe_252_29 : am_fe 252 29 = some (12, some .int, .ifCond .eq 5) := by decide +kernel
theorem fe_252_32 : am_fe 252 32 = some (12, some .int, .iload_n 3) := by decide +kernel
theorem fe_252_33 : am_fe 252 33 = some (12, some .int, .ireturn) := by decide +kernel
theorem fe_252_34 : am_fe 252 34 = some (12, some .int, .iload 4) := by decide +kernel
theorem fe_252_36 : am_fe 252 36 = some (12, some .int, .ifCond .le 9) := by decide +kernel
theorem fe_252_39 : am_fe 252 39 = some (12, some .int, .iinc 4 (-1)) := by decide +kernel
theorem fe_252_42 : am_fe 252 42 = some (12, some .int, .goto 70) := by decide +kernel
theorem fe_252_45 : am_fe 252 45 = some (12, some .int, .aload_n 0) := by decide +kernel
theorem fe_252_46 : am_fe 252 46 = some (12, some .int, .getfield 13) := by decide +kernel
theorem fe_252_49 : am_fe 252 49 = some (12, some .int, .iload_n 3) := by decide +kernel
theorem fe_252_50 : am_fe 252 50 = some (12, some .int, .iaload) := by decide +kernel
theorem fe_252_51 : am_fe 252 51 = some (12, some .int, .istore_n 3) := by decide +kernel
theorem fe_252_52 : am_fe 252 52 = some (12, some .int, .iload_n 3) := by decide +kernel
theorem fe_252_53 : am_fe 252 53 = some (12, some .int, .iconst (-1)) := by decide +kernel
theorem fe_252_54 : am_fe 252 54 = some (12, some .int, .if_icmp .ne 7) := by decide +kernel
theorem fe_252_57 : am_fe 252 57 = some (12, some .int, .iconst 0) := by decide +kernel
theorem fe_252_58 : am_fe 252 58 = some (12, some .int, .goto 9) := by decide +kernel
theorem fe_252_61 : am_fe 252 61 = some (12, some .int, .aload_n 0) := by decide +kernel
theorem fe_252_62 : am_fe 252 62 = some (12, some .int, .getfield 16) := by decide +kernel
theorem fe_252_65 : am_fe 252 65 = some (12, some .int, .iload_n 3) := by decide +kernel
theorem fe_252_66 : am_fe 252 66 = some (12, some .int, .iaload) := by decide +kernel
theorem fe_252_67 : am_fe 252 67 = some (12, some .int, .istore 4) := by decide +kernel
theorem fe_252_69 : am_fe 252 69 = some (12, some .int, .iload_n 3) := by decide +kernel
theorem fe_252_70 : am_fe 252 70 = some (12, some .int, .iconst (-1)) := by decide +kernel
theorem fe_252_71 : am_fe 252 71 = some (12, some .int, .if_icmp .eq 41) := by decide +kernel
theorem fe_252_74 : am_fe 252 74 = some (12, some .int, .aload_n 0) := by decide +kernel
theorem fe_252_75 : am_fe 252 75 = some (12, some .int, .iload_n 3) := by decide +kernel
theorem fe_252_76 : am_fe 252 76 = some (12, some .int, .invokevirtual 381) := by decide +kernel
theorem fe_252_79 : am_fe 252 79 = some (12, some .int, .iconst (-1)) := by decide +kernel
theorem fe_252_80 : am_fe 252 80 = some (12, some .int, .if_icmp .eq 32) := by decide +kernel
theorem fe_252_83 : am_fe 252 83 = some (12, some .int, .aload_n 0) := by decide +kernel
theorem fe_252_84 : am_fe 252 84 = some (12, some .int, .getfield 130) := by decide +kernel
theorem fe_252_87 : am_fe 252 87 = some (12, some .int, .aload_n 0) := by decide +kernel
theorem fe_252_88 : am_fe 252 88 = some (12, some .int, .getfield 508) := by decide +kernel
theorem fe_252_91 : am_fe 252 91 = some (12, some .int, .aload_n 0) := by decide +kernel
theorem fe_252_92 : am_fe 252 92 = some (12, some .int, .getfield 22) := by decide +kernel
theorem fe_252_95 : am_fe 252 95 = some (12, some .int, .aload_n 0) := by decide +kernel
theorem fe_252_96 : am_fe 252 96 = some (12, some .int, .iload_n 3) := by decide +kernel
theorem fe_252_97 : am_fe 252 97 = some (12, some .int, .invokevirtual 381) := by decide +kernel
theorem fe_252_100 : am_fe 252 100 = some (12, some .int, .iaload) := by decide +kernel
theorem fe_252_101 : am_fe 252 101 = some (12, some .int, .iastore) := by decide +kernel
theorem fe_252_102 : am_fe 252 102 = some (12, some .int, .aload_n 0) := by decide +kernel
theorem fe_252_103 : am_fe 252 103 = some (12, some .int, .dup) := by decide +kernel
theorem fe_252_104 : am_fe 252 104 = some (12, some .int, .getfield 508) := by decide +kernel
theorem fe_252_107 : am_fe 252 107 = some (12, some .int, .iconst 1) := by decide +kernel
theorem fe_252_108 : am_fe 252 108 = some (12, some .int, .iadd) := by decide +kernel
theorem fe_252_109 : am_fe 252 109 = some (12, some .int, .putfield 508) := by decide +kernel
theorem fe_252_112 : am_fe 252 112 = some (12, some .int, .iinc 5 1) := by decide +kernel
theorem fe_252_115 : am_fe 252 115 = some (12, some .int, .goto (-102)) := by decide +kernel
theorem fe_252_118 : am_fe 252 118 = some (12, some .int, .iload_n 3) := by decide +kernel
theorem fe_252_119 : am_fe 252 119 = some (12, some .int, .ireturn) := by decide +kernel
theorem fe_253_0 : am_fe 253 0 = some (12, some .boolean, .iload_n 1) := by decide +kernel
theorem fe_253_1 : am_fe 253 1 = some (12, some .boolean, .invokestatic 151) := by decide +kernel
theorem fe_253_4 : am_fe 253 4 = some (12, some .boolean, .istore_n 2) := by decide +kernel
theorem fe_253_5 : am_fe 253 5 = some (12, some .boolean, .iconst 1) := by decide +kernel
theorem fe_253_6 : am_fe 253 6 = some (12, some .boolean, .istore_n 3) := by decide +kernel
theorem fe_253_7 : am_fe 253 7 = some (12, some .boolean, .iload_n 3) := by decide +kernel
theorem fe_253_8 : am_fe 253 8 = some (12, some .boolean, .iload_n 2) := by decide +kernel
theorem fe_253_9 : am_fe 253 9 = some (12, some .boolean, .if_icmp .gt 113) := by decide +kernel
theorem fe_253_12 : am_fe 253 12 = some (12, some .boolean, .iload_n 2) := by decide +kernel
theorem fe_253_13 : am_fe 253 13 = some (12, some .boolean, .iload_n 3) := by decide +kernel
theorem fe_253_14 : am_fe 253 14 = some (12, some .boolean, .isub) := by decide +kernel
theorem fe_253_15 : am_fe 253 15 = some (12, some .boolean, .istore 4) := by decide +kernel
theorem fe_253_17 : am_fe 253 17 = some (12, some .boolean, .iload_n 2) := by decide +kernel
theorem fe_253_18 : am_fe 253 18 = some (12, some .boolean, .bipush 8) := by decide +kernel
theorem fe_253_20 : am_fe 253 20 = some (12, some .boolean, .if_icmp .ge 20) := by decide +kernel
theorem fe_253_23 : am_fe 253 23 = some (12, some .boolean, .iload 4) := by decide +kernel
theorem fe_253_25 : am_fe 253 25 = some (12, some .boolean, .aload_n 0) := by decide +kernel
theorem fe_253_26 : am_fe 253 26 = some (12, some .boolean, .getfield 508) := by decide +kernel
theorem fe_253_29 : am_fe 253 29 = some (12, some .boolean, .if_icmp .ne 7) := by decide +kernel
theorem fe_253_32 : am_fe 253 32 = some (12, some .boolean, .iconst 1) := by decide +kernel
theorem fe_253_33 : am_fe 253 33 = some (12, some .boolean, .goto 21) := by decide +kernel
theorem fe_253_36 : am_fe 253 36 = some (12, some .boolean, .iconst 0) := by decide +kernel
theorem fe_253_37 : am_fe 253 37 = some (12, some .boolean, .goto 17) := by decide +kernel
theorem fe_253_40 : am_fe 253 40 = some (12, some .boolean, .iload 4) := by decide +kernel
theorem fe_253_42 : am_fe 253 42 = some (12, some .boolean, .aload_n 0) := by decide +kernel
theorem fe_253_43 : am_fe 253 43 = some (12, some .boolean, .getfield 508) := by decide +kernel
theorem fe_253_46 : am_fe 253 46 = some (12, some .boolean, .if_icmp .gt 7) := by decide +kernel
theorem fe_253_49 : am_fe 253 49 = some (12, some .boolean, .iconst 1) := by decide +kernel
theorem fe_253_50 : am_fe 253 50 = some (12, some .boolean, .goto 4) := by decide +kernel
theorem fe_253_53 : am_fe 253 53 = some (12, some .boolean, .iconst 0) := by decide +kernel
theorem fe_253_54 : am_fe 253 54 = some (12, some .boolean, .istore 5) := by decide +kernel
theorem fe_253_56 : am_fe 253 56 = some (12, some .boolean, .iconst 0) := by decide +kernel
theorem fe_253_57 : am_fe 253 57 = some (12, some .boolean, .istore 6) := by decide +kernel
theorem fe_253_59 : am_fe 253 59 = some (12, some .boolean, .iload 6) := by decide +kernel
theorem fe_253_61 : am_fe 253 61 = some (12, some .boolean, .iload 4) := by decide +kernel
theorem fe_253_63 : am_fe 253 63 = some (12, some .boolean, .if_icmp .ge 46) := by decide +kernel
theorem fe_253_66 : am_fe 253 66 = some (12, some .boolean, .iload 5) := by decide +kernel
theorem fe_253_68 : am_fe 253 68 = some (12, some .boolean, .ifCond .eq 41) := by decide +kernel
theorem fe_253_71 : am_fe 253 71 = some (12, some .boolean, .iload_n 1) := by decide +kernel
theorem fe_253_72 : am_fe 253 72 = some (12, some .boolean, .iload 4) := by decide +kernel
theorem fe_253_74 : am_fe 253 74 = some (12, some .boolean, .iconst 1) := by decide +kernel
theorem fe_253_75 : am_fe 253 75 = some (12, some .boolean, .isub) := by decide +kernel
theorem fe_253_76 : am_fe 253 76 = some (12, some .boolean, .iload 6) := by decide +kernel
theorem fe_253_78 : am_fe 253 78 = some (12, some .boolean, .isub) := by decide +kernel
theorem fe_253_79 : am_fe 253 79 = some (12, some .boolean, .invokestatic 424) := by decide +kernel
theorem fe_253_82 : am_fe 253 82 = some (12, some .boolean, .idiv) := by decide +kernel
theorem fe_253_83 : am_fe 253 83 = some (12, some .boolean, .bipush 10) := by decide +kernel
theorem fe_253_85 : am_fe 253 85 = some (12, some .boolean, .irem) := by decide +kernel
theorem fe_253_86 : am_fe 253 86 = some (12, some .boolean, .aload_n 0) := by decide +kernel
theorem fe_253_87 : am_fe 253 87 = some (12, some .boolean, .getfield 130) := by decide +kernel
theorem fe_253_90 : am_fe 253 90 = some (12, some .boolean, .iload 6) := by decide +kernel
theorem fe_253_92 : am_fe 253 92 = some (12, some .boolean, .iaload) := by decide +kernel
theorem fe_253_93 : am_fe 253 93 = some (12, some .boolean, .if_icmp .ne 7) := by decide +kernel
theorem fe_253_96 : am_fe 253 96 = some (12, some .boolean, .iconst 1) := by decide +kernel
theorem fe_253_97 : am_fe 253 97 = some (12, some .boolean, .goto 4) := by decide +kernel
theorem fe_253_100 : am_fe 253 100 = some (12, some .boolean, .iconst 0) := by decide +kernel
theorem fe_253_101 : am_fe 253 101 = some (12, some .boolean, .istore 5) := by decide +kernel
theorem fe_253_103 : am_fe 253 103 = some (12, some .boolean, .iinc 6 1) := by decide +kernel
theorem fe_253_106 : am_fe 253 106 = some (12, some .boolean, .goto (-47)) := by decide +kernel
theorem fe_253_109 : am_fe 253 109 = some (12, some .boolean, .iload 5) := by decide +kernel
theorem fe_253_111 : am_fe 253 111 = some (12, some .boolean, .ifCond .eq 5) := by decide +kernel
theorem fe_253_114 : am_fe 253 114 = some (12, some .boolean, .iconst 1) := by decide +kernel
theorem fe_253_115 : am_fe 253 115 = some (12, some .boolean, .ireturn) := by decide +kernel
theorem fe_253_116 : am_fe 253 116 = some (12, some .boolean, .iinc 3 1) := by decide +kernel
theorem fe_253_119 : am_fe 253 119 = some (12, some .boolean, .goto (-112)) := by decide +kernel
theorem fe_253_122 : am_fe 253 122 = some (12, some .boolean, .iconst 0) := by decide +kernel
theorem fe_253_123 : am_fe 253 123 = some (12, some .boolean, .ireturn) := by decide +kernel
theorem fe_254_0 : am_fe 254 0 = some (12, some .int, .aload_n 0) := by decide +kernel
theorem fe_254_1 : am_fe 254 1 = some (12, some .int, .invokevirtual 457) := by decide +kernel
theorem fe_254_4 : am_fe 254 4 = some (12, some .int, .ifCond .eq 25) := by decide +kernel
theorem fe_254_7 : am_fe 254 7 = some (12, some .int, .iload_n 1) := by decide +kernel
theorem fe_254_8 : am_fe 254 8 = some (12, some .int, .i2l) := by decide +kernel
theorem fe_254_9 : am_fe 254 9 = some (12, some .int, .lconst 1) := by decide +kernel
theorem fe_254_10 : am_fe 254 10 = some (12, some .int, .ldc2_w 484) := by decide +kernel
theorem fe_254_13 : am_fe 254 13 = some (12, some .int, .invokestatic 143) := by decide +kernel
theorem fe_254_16 : am_fe 254 16 = some (12, some .int, .ifCond .eq 13) := by decide +kernel
theorem fe_254_19 : am_fe 254 19 = some (12, some .int, .iload_n 2) := by decide +kernel
theorem fe_254_20 : am_fe 254 20 = some (12, some .int, .i2l) := by decide +kernel
theorem fe_254_21 : am_fe 254 21 = some (12, some .int, .lconst 0) := by decide +kernel
theorem fe_254_22 : am_fe 254 22 = some (12, some .int, .lconst 1) := by decide +kernel
theorem fe_254_23 : am_fe 254 23 = some (12, some .int, .invokestatic 143) := by decide +kernel
theorem fe_254_26 : am_fe 254 26 = some (12, some .int, .ifCond .ne 5) := by decide +kernel
theorem fe_254_29 : am_fe 254 29 = some (12, some .int, .iconst (-1)) := by decide +kernel
theorem fe_254_30 : am_fe 254 30 = some (12, some .int, .ireturn) := by decide +kernel
theorem fe_254_31 : am_fe 254 31 = some (12, some .int, .iconst (-1)) := by decide +kernel
theorem fe_254_32 : am_fe 254 32 = some (12, some .int, .istore_n 3) := by decide +kernel
theorem fe_254_33 : am_fe 254 33 = some (12, some .int, .iconst (-1)) := by decide +kernel
theorem fe_254_34 : am_fe 254 34 = some (12, some .int, .istore 4) := by decide +kernel
theorem fe_254_36 : am_fe 254 36 = some (12, some .int, .iconst 1) := by decide +kernel
theorem fe_254_37 : am_fe 254 37 = some (12, some .int, .aload_n 0) := by decide +kernel
theorem fe_254_38 : am_fe 254 38 = some (12, some .int, .getfield 9) := by decide +kernel
theorem fe_254_41 : am_fe 254 41 = some (12, some .int, .iconst 2) := by decide +kernel
theorem fe_254_42 : am_fe 254 42 = some (12, some .int, .iaload) := by decide +kernel
theorem fe_254_43 : am_fe 254 43 = some (12, some .int, .ishl) := by decide +kernel
theorem fe_254_44 : am_fe 254 44 = some (12, some .int, .iconst 1) := by decide +kernel
theorem fe_254_45 : am_fe 254 45 = some (12, some .int, .isub) := by decide +kernel
theorem fe_254_46 : am_fe 254 46 = some (12, some .int, .istore 5) := by decide +kernel
theorem fe_254_48 : am_fe 254 48 = some (12, some .int, .aload_n 0) := by decide +kernel
theorem fe_254_49 : am_fe 254 49 = some (12, some .int, .invokevirtual 488) := by decide +kernel
theorem fe_254_52 : am_fe 254 52 = some (12, some .int, .iconst 0) := by decide +kernel
theorem fe_254_53 : am_fe 254 53 = some (12, some .int, .istore 6) := by decide +kernel
theorem fe_254_55 : am_fe 254 55 = some (12, some .int, .iload 6) := by decide +kernel
theorem fe_254_57 : am_fe 254 57 = some (12, some .int, .iload 5) := by decide +kernel
theorem fe_254_59 : am_fe 254 59 = some (12, some .int, .if_icmp .gt 49) := by decide +kernel
theorem fe_254_62 : am_fe 254 62 = some (12, some .int, .aload_n 0) := by decide +kernel
theorem fe_254_63 : am_fe 254 63 = some (12, some .int, .getfield 9) := by decide +kernel
theorem fe_254_66 : am_fe 254 66 = some (12, some .int, .iconst 5) := by decide +kernel
theorem fe_254_67 : am_fe 254 67 = some (12, some .int, .iload 5) := by decide +kernel
theorem fe_254_69 : am_fe 254 69 = some (12, some .int, .iload 6) := by decide +kernel
theorem fe_254_71 : am_fe 254 71 = some (12, some .int, .iconst (-1)) := by decide +kernel
theorem fe_254_72 : am_fe 254 72 = some (12, some .int, .ixor) := by decide +kernel
theorem fe_254_73 : am_fe 254 73 = some (12, some .int, .iand) := by decide +kernel
theorem fe_254_74 : am_fe 254 74 = some (12, some .int, .iastore) := by decide +kernel
theorem fe_254_75 : am_fe 254 75 = some (12, some .int, .aload_n 0) := by decide +kernel
theorem fe_254_76 : am_fe 254 76 = some (12, some .int, .iload_n 1) := by decide +kernel
theorem fe_254_77 : am_fe 254 77 = some (12, some .int, .invokevirtual 491) := by decide +kernel
theorem fe_254_80 : am_fe 254 80 = some (12, some .int, .aload_n 0) := by decide +kernel
theorem fe_254_81 : am_fe 254 81 = some (12, some .int, .invokevirtual 517) := by decide +kernel
theorem fe_254_84 : am_fe 254 84 = some (12, some .int, .iload 4) := by decide +kernel
theorem fe_254_86 : am_fe 254 86 = some (12, some .int, .if_icmp .le 12) := by decide +kernel
theorem fe_254_89 : am_fe 254 89 = some (12, some .int, .aload_n 0) := by decide +kernel
theorem fe_254_90 : am_fe 254 90 = some (12, some .int, .invokevirtual 517) := by decide +kernel
theorem fe_254_93 : am_fe 254 93 = some (12, some .int, .istore 4) := by decide +kernel
theorem fe_254_95 : am_fe 254 95 = some (12, some .int, .iload 6) := by decide +kernel
theorem fe_254_97 : am_fe 254 97 = some (12, some .int, .istore_n 3) := by decide +kernel
theorem fe_254_98 : am_fe 254 98 = some (12, some .int, .aload_n 0) := by decide +kernel
theorem fe_254_99 : am_fe 254 99 = some (12, some .int, .invokevirtual 494) := by decide +kernel
theorem fe_254_102 : am_fe 254 102 = some (12, some .int, .iinc 6 1) := by decide +kernel
theorem fe_254_105 : am_fe 254 105 = some (12, some .int, .goto (-50)) := by decide +kernel
theorem fe_254_108 : am_fe 254 108 = some (12, some .int, .iload_n 2) := by decide +kernel
theorem fe_254_109 : am_fe 254 109 = some (12, some .int, .ifCond .ne 7) := by decide +kernel
theorem fe_254_112 : am_fe 254 112 = some (12, some .int, .iload_n 3) := by decide +kernel
theorem fe_254_113 : am_fe 254 113 = some (12, some .int, .goto 5) := by decide +kernel
theorem fe_254_116 : am_fe 254 116 = some (12, some .int, .iload 4) := by decide +kernel
theorem fe_254_118 : am_fe 254 118 = some (12, some .int, .ireturn) := by decide +kernel
theorem fe_255_0 : am_fe 255 0 = some (12, some .int, .iconst 0) := by decide +kernel
theorem fe_255_1 : am_fe 255 1 = some (12, some .int, .istore_n 1) := by decide +kernel
theorem fe_255_2 : am_fe 255 2 = some (12, some .int, .iconst 0) := by decide +kernel
theorem fe_255_3 : am_fe 255 3 = some (12, some .int, .istore_n 2) := by decide +kernel
theorem fe_255_4 : am_fe 255 4 = some (12, some .int, .iload_n 2) := by decide +kernel
theorem fe_255_5 : am_fe 255 5 = some (12, some .int, .aload_n 0) := by decide +kernel
theorem fe_255_6 : am_fe 255 6 = some (12, some .int, .getfield 9) := by decide +kernel
theorem fe_255_9 : am_fe 255 9 = some (12, some .int, .iconst 4) := by decide +kernel
theorem fe_255_10 : am_fe 255 10 = some (12, some .int, .iaload) := by decide +kernel
theorem fe_255_11 : am_fe 255 11 = some (12, some .int, .if_icmp .ge 27) := by decide +kernel
theorem fe_255_14 : am_fe 255 14 = some (12, some .int, .iload_n 1) := by decide +kernel
theorem fe_255_15 : am_fe 255 15 = some (12, some .int, .aload_n 0) := by decide +kernel
theorem fe_255_16 : am_fe 255 16 = some (12, some .int, .getfield 46) := by decide +kernel
theorem fe_255_19 : am_fe 255 19 = some (12, some .int, .iload_n 2) := by decide +kernel
theorem fe_255_20 : am_fe 255 20 = some (12, some .int, .iaload) := by decide +kernel
theorem fe_255_21 : am_fe 255 21 = some (12, some .int, .iconst 1) := by decide +kernel
theorem fe_255_22 : am_fe 255 22 = some (12, some .int, .if_icmp .ne 7) := by decide +kernel
theorem fe_255_25 : am_fe 255 25 = some (12, some .int, .iconst 1) := by decide +kernel
theorem fe_255_26 : am_fe 255 26 = some (12, some .int, .goto 4) := by decide +kernel
theorem fe_255_29 : am_fe 255 29 = some (12, some .int, .iconst 0) := by decide +kernel
theorem fe_255_30 : am_fe 255 30 = some (12, some .int, .iadd) := by decide +kernel
theorem fe_255_31 : am_fe 255 31 = some (12, some .int, .istore_n 1) := by decide +kernel
theorem fe_255_32 : am_fe 255 32 = some (12, some .int, .iinc 2 1) := by decide +kernel
theorem fe_255_35 : am_fe 255 35 = some (12, some .int, .goto (-31)) := by decide +kernel
theorem fe_255_38 : am_fe 255 38 = some (12, some .int, .iload_n 1) := by decide +kernel
theorem fe_255_39 : am_fe 255 39 = some (12, some .int, .ireturn) := by decide +kernel
theorem fe_256_0 : am_fe 256 0 = some (12, some .int, .aload_n 0) := by decide +kernel
theorem fe_256_1 : am_fe 256 1 = some (12, some .int, .iload_n 1) := by decide +kernel
theorem fe_256_2 : am_fe 256 2 = some (12, some .int, .invokevirtual 378) := by decide +kernel
theorem fe_256_5 : am_fe 256 5 = some (12, some .int, .ifCond .eq 13) := by decide +kernel
theorem fe_256_8 : am_fe 256 8 = some (12, some .int, .iload_n 2) := by decide +kernel
theorem fe_256_9 : am_fe 256 9 = some (12, some .int, .i2l) := by decide +kernel
theorem fe_256_10 : am_fe 256 10 = some (12, some .int, .lconst 0) := by decide +kernel
theorem fe_256_11 : am_fe 256 11 = some (12, some .int, .lconst 1) := by decide +kernel
theorem fe_256_12 : am_fe 256 12 = some (12, some .int, .invokestatic 143) := by decide +kernel
theorem fe_256_15 : am_fe 256 15 = some (12, some .int, .ifCond .ne 5) := by decide +kernel
theorem fe_256_18 : am_fe 256 18 = some (12, some .int, .iconst (-1)) := by decide +kernel
theorem fe_256_19 : am_fe 256 19 = some (12, some .int, .ireturn) := by decide +kernel
theorem fe_256_20 : am_fe 256 20 = some (12, some .int, .iload_n 1) := by decide +kernel
theorem fe_256_21 : am_fe 256 21 = some (12, some .int, .istore_n 3) := by decide +kernel
theorem fe_256_22 : am_fe 256 22 = some (12, some .int, .iconst 0) := by decide +kernel
theorem fe_256_23 : am_fe 256 23 = some (12, some .int, .istore 4) := by decide +kernel
theorem fe_256_25 : am_fe 256 25 = some (12, some .int, .iload_n 3) := by decide +kernel
theorem fe_256_26 : am_fe 256 26 = some (12, some .int, .iconst (-1)) := by decide +kernel
theorem fe_256_27 : am_fe 256 27 = some (12, some .int, .if_icmp .eq 24) := by decide +kernel
theorem fe_256_30 : am_fe 256 30 = some (12, some .int, .aload_n 0) := by decide +kernel
theorem fe_256_31 : am_fe 256 31 = some (12, some .int, .iload_n 3) := by decide +kernel
theorem fe_256_32 : am_fe 256 32 = some (12, some .int, .invokevirtual 520) := by decide +kernel
theorem fe_256_35 : am_fe 256 35 = some (12, some .int, .ifCond .ne 16) := by decide +kernel
theorem fe_256_38 : am_fe 256 38 = some (12, some .int, .aload_n 0) := by decide +kernel
theorem fe_256_39 : am_fe 256 39 = some (12, some .int, .getfield 13) := by decide +kernel
theorem fe_256_42 : am_fe 256 42 = some (12, some .int, .iload_n 3) := by decide +kernel
theorem fe_256_43 : am_fe 256 43 = some (12, some .int, .iaload) := by decide +kernel
theorem fe_256_44 : am_fe 256 44 = some (12, some .int, .istore_n 3) := by decide +kernel
theorem fe_256_45 : am_fe 256 45 = some (12, some .int, .iinc 4 1) := by decide +kernel
theorem fe_256_48 : am_fe 256 48 = some (12, some .int, .goto (-23)) := by decide +kernel
theorem fe_256_51 : am_fe 256 51 = some (12, some .int, .iload_n 2) := by decide +kernel
theorem fe_256_52 : am_fe 256 52 = some (12, some .int, .iconst 1) := by decide +kernel
theorem fe_256_53 : am_fe 256 53 = some (12, some .int, .if_icmp .ne 8) := by decide +kernel
theorem fe_256_56 : am_fe 256 56 = some (12, some .int, .iload 4) := by decide +kernel
theorem fe_256_58 : am_fe 256 58 = some (12, some .int, .goto 17) := by decide +kernel
theorem fe_256_61 : am_fe 256 61 = some (12, some .int, .iload_n 3) := by decide +kernel
theorem fe_256_62 : am_fe 256 62 = some (12, some .int, .iconst (-1)) := by decide +kernel
theorem fe_256_63 : am_fe 256 63 = some (12, some .int, .if_icmp .ne 7) := by decide +kernel
theorem fe_256_66 : am_fe 256 66 = some (12, some .int, .iconst 0) := by decide +kernel
theorem fe_256_67 : am_fe 256 67 = some (12, some .int, .goto 8) := by decide +kernel
theorem fe_256_70 : am_fe 256 70 = some (12, some .int, .aload_n 0) := by decide +kernel
theorem fe_256_71 : am_fe 256 71 = some (12, some .int, .iload_n 3) := by decide +kernel
theorem fe_256_72 : am_fe 256 72 = some (12, some .int, .invokevirtual 520) := by decide +kernel
theorem fe_256_75 : am_fe 256 75 = some (12, some .int, .ireturn) := by decide +kernel
theorem fe_257_0 : am_fe 257 0 = some (12, some .int, .aload_n 0) := by decide +kernel
theorem fe_257_1 : am_fe 257 1 = some (12, some .int, .getfield 13) := by decide +kernel
theorem fe_257_4 : am_fe 257 4 = some (12, some .int, .iload_n 1) := by decide +kernel
theorem fe_257_5 : am_fe 257 5 = some (12, some .int, .iaload) := by decide +kernel
theorem fe_257_6 : am_fe 257 6 = some (12, some .int, .istore_n 2) := by decide +kernel
theorem fe_257_7 : am_fe 257 7 = some (12, some .int, .iconst 1) := by decide +kernel
theorem fe_257_8 : am_fe 257 8 = some (12, some .int, .istore_n 3) := by decide +kernel
theorem fe_257_9 : am_fe 257 9 = some (12, some .int, .iload_n 3) := by decide +kernel
theorem fe_257_10 : am_fe 257 10 = some (12, some .int, .bipush 16) := by decide +kernel
theorem fe_257_12 : am_fe 257 12 = some (12, some .int, .if_icmp .gt 28) := by decide +kernel
theorem fe_257_15 : am_fe 257 15 = some (12, some .int, .iload_n 2) := by decide +kernel
theorem fe_257_16 : am_fe 257 16 = some (12, some .int, .iconst (-1)) := by decide +kernel
theorem fe_257_17 : am_fe 257 17 = some (12, some .int, .if_icmp .eq 23) := by decide +kernel
theorem fe_257_20 : am_fe 257 20 = some (12, some .int, .iload_n 2) := by decide +kernel
theorem fe_257_21 : am_fe 257 21 = some (12, some .int, .iload_n 1) := by decide +kernel
theorem fe_257_22 : am_fe 257 22 = some (12, some .int, .if_icmp .ne 5) := by decide +kernel
theorem fe_257_25 : am_fe 257 25 = some (12, some .int, .iload_n 3) := by decide +kernel
theorem fe_257_26 : am_fe 257 26 = some (12, some .int, .ireturn) := by decide +kernel
theorem fe_257_27 : am_fe 257 27 = some (12, some .int, .aload_n 0) := by decide +kernel
theorem fe_257_28 : am_fe 257 28 = some (12, some .int, .getfield 13) := by decide +kernel
theorem fe_257_31 : am_fe 257 31 = some (12, some .int, .iload_n 2) := by decide +kernel
theorem fe_257_32 : am_fe 257 32 = some (12, some .int, .iaload) := by decide +kernel
theorem fe_257_33 : am_fe 257 33 = some (12, some .int, .istore_n 2) := by decide +kernel
theorem fe_257_34 : am_fe 257 34 = some (12, some .int, .iinc 3 1) := by decide +kernel
theorem fe_257_37 : am_fe 257 37 = some (12, some .int, .goto (-28)) := by decide +kernel
theorem fe_257_40 : am_fe 257 40 = some (12, some .int, .iconst 0) := by decide +kernel
theorem fe_257_41 : am_fe 257 41 = some (12, some .int, .ireturn) := by decide +kernel
theorem fe_258_0 : am_fe 258 0 = some (12, some .int, .iload_n 1) := by decide +kernel
theorem fe_258_1 : am_fe 258 1 = some (12, some .int, .i2l) := by decide +kernel
theorem fe_258_2 : am_fe 258 2 = some (12, some .int, .lconst 0) := by decide +kernel
theorem fe_258_3 : am_fe 258 3 = some (12, some .int, .aload_n 0) := by decide +kernel
theorem fe_258_4 : am_fe 258 4 = some (12, some .int, .getfield 9) := by decide +kernel
theorem fe_258_7 : am_fe 258 7 = some (12, some .int, .iconst 1) := by decide +kernel
theorem fe_258_8 : am_fe 258 8 = some (12, some .int, .iaload) := by decide +kernel
theorem fe_258_9 : am_fe 258 9 = some (12, some .int, .iconst 1) := by decide +kernel
theorem fe_258_10 : am_fe 258 10 = some (12, some .int, .isub) := by decide +kernel
theorem fe_258_11 : am_fe 258 11 = some (12, some .int, .i2l) := by decide +kernel
theorem fe_258_12 : am_fe 258 12 = some (12, some .int, .invokestatic 143) := by decide +kernel
theorem fe_258_15 : am_fe 258 15 = some (12, some .int, .ifCond .eq 13) := by decide +kernel
theorem fe_258_18 : am_fe 258 18 = some (12, some .int, .iload_n 2) := by decide +kernel
theorem fe_258_19 : am_fe 258 19 = some (12, some .int, .i2l) := by decide +kernel
theorem fe_258_20 : am_fe 258 20 = some (12, some .int, .lconst 0) := by decide +kernel
theorem fe_258_21 : am_fe 258 21 = some (12, some .int, .lconst 1) := by decide +kernel
theorem fe_258_22 : am_fe 258 22 = some (12, some .int, .invokestatic 143) := by decide +kernel
theorem fe_258_25 : am_fe 258 25 = some (12, some .int, .ifCond .ne 5) := by decide +kernel
theorem fe_258_28 : am_fe 258 28 = some (12, some .int, .iconst (-1)) := by decide +kernel
theorem fe_258_29 : am_fe 258 29 = some (12, some .int, .ireturn) := by decide +kernel
theorem fe_258_30 : am_fe 258 30 = some (12, some .int, .aload_n 0) := by decide +kernel
theorem fe_258_31 : am_fe 258 31 = some (12, some .int, .invokevirtual 523) := by decide +kernel
theorem fe_258_34 : am_fe 258 34 = some (12, some .int, .istore_n 3) := by decide +kernel
theorem fe_258_35 : am_fe 258 35 = some (12, some .int, .iload_n 3) := by decide +kernel
theorem fe_258_36 : am_fe 258 36 = some (12, some .int, .ifCond .ne 5) := by decide +kernel
theorem fe_258_39 : am_fe 258 39 = some (12, some .int, .iload_n 2) := by decide +kernel
theorem fe_258_40 : am_fe 258 40 = some (12, some .int, .ireturn) := by decide +kernel
theorem fe_258_41 : am_fe 258 41 = some (12, some .int, .aload_n 0) := by decide +kernel
theorem fe_258_42 : am_fe 258 42 = some (12, some .int, .getfield 25) := by decide +kernel
theorem fe_258_45 : am_fe 258 45 = some (12, some .int, .iload_n 1) := by decide +kernel
theorem fe_258_46 : am_fe 258 46 = some (12, some .int, .iaload) := by decide +kernel
theorem fe_258_47 : am_fe 258 47 = some (12, some .int, .istore 4) := by decide +kernel
theorem fe_258_49 : am_fe 258 49 = some (12, some .int, .iload_n 3) := by decide +kernel
theorem fe_258_50 : am_fe 258 50 = some (12, some .int, .istore 5) := by decide +kernel
theorem fe_258_52 : am_fe 258 52 = some (12, some .int, .iload 4) := by decide +kernel
theorem fe_258_54 : am_fe 258 54 = some (12, some .int, .ifCond .eq 21) := by decide +kernel
theorem fe_258_57 : am_fe 258 57 = some (12, some .int, .iload 5) := by decide +kernel
