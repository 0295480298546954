theorem fe_0_0 : am_fe 0 0 = some (11, none, .aload_n 0) := by decide +kernel
theorem fe_0_1 : am_fe 0 1 = some (11, none, .invokespecial 3) := by decide +kernel
theorem fe_0_4 : am_fe 0 4 = some (11, none, .aload_n 0) := by decide +kernel
theorem fe_0_5 : am_fe 0 5 = some (11, none, .new 9) := by decide +kernel
theorem fe_0_8 : am_fe 0 8 = some (11, none, .dup) := by decide +kernel
theorem fe_0_9 : am_fe 0 9 = some (11, none, .invokespecial 11) := by decide +kernel
theorem fe_0_12 : am_fe 0 12 = some (11, none, .putfield 12) := by decide +kernel
theorem fe_0_15 : am_fe 0 15 = some (11, none, .aload_n 0) := by decide +kernel
theorem fe_0_16 : am_fe 0 16 = some (11, none, .new 16) := by decide +kernel
theorem fe_0_19 : am_fe 0 19 = some (11, none, .dup) := by decide +kernel
theorem fe_0_20 : am_fe 0 20 = some (11, none, .invokespecial 18) := by decide +kernel
theorem fe_0_23 : am_fe 0 23 = some (11, none, .putfield 19) := by decide +kernel
theorem fe_0_26 : am_fe 0 26 = some (11, none, .aload_n 0) := by decide +kernel
theorem fe_0_27 : am_fe 0 27 = some (11, none, .new 23) := by decide +kernel
theorem fe_0_30 : am_fe 0 30 = some (11, none, .dup) := by decide +kernel
theorem fe_0_31 : am_fe 0 31 = some (11, none, .invokespecial 25) := by decide +kernel
theorem fe_0_34 : am_fe 0 34 = some (11, none, .putfield 26) := by decide +kernel
theorem fe_0_37 : am_fe 0 37 = some (11, none, .aload_n 0) := by decide +kernel
theorem fe_0_38 : am_fe 0 38 = some (11, none, .bipush 6) := by decide +kernel
theorem fe_0_40 : am_fe 0 40 = some (11, none, .anewarray 30) := by decide +kernel
theorem fe_0_43 : am_fe 0 43 = some (11, none, .putfield 32) := by decide +kernel
theorem fe_0_46 : am_fe 0 46 = some (11, none, .aload_n 0) := by decide +kernel
theorem fe_0_47 : am_fe 0 47 = some (11, none, .iconst 0) := by decide +kernel
theorem fe_0_48 : am_fe 0 48 = some (11, none, .putfield 36) := by decide +kernel
theorem fe_0_51 : am_fe 0 51 = some (11, none, .aload_n 0) := by decide +kernel
theorem fe_0_52 : am_fe 0 52 = some (11, none, .new 40) := by decide +kernel
theorem fe_0_55 : am_fe 0 55 = some (11, none, .dup) := by decide +kernel
theorem fe_0_56 : am_fe 0 56 = some (11, none, .invokespecial 42) := by decide +kernel
theorem fe_0_59 : am_fe 0 59 = some (11, none, .putfield 43) := by decide +kernel
theorem fe_0_62 : am_fe 0 62 = some (11, none, .aload_n 0) := by decide +kernel
theorem fe_0_63 : am_fe 0 63 = some (11, none, .iconst 4) := by decide +kernel
theorem fe_0_64 : am_fe 0 64 = some (11, none, .anewarray 40) := by decide +kernel
theorem fe_0_67 : am_fe 0 67 = some (11, none, .putfield 47) := by decide +kernel
theorem fe_0_70 : am_fe 0 70 = some (11, none, .aload_n 0) := by decide +kernel
theorem fe_0_71 : am_fe 0 71 = some (11, none, .new 51) := by decide +kernel
theorem fe_0_74 : am_fe 0 74 = some (11, none, .dup) := by decide +kernel
theorem fe_0_75 : am_fe 0 75 = some (11, none, .invokespecial 53) := by decide +kernel
theorem fe_0_78 : am_fe 0 78 = some (11, none, .putfield 54) := by decide +kernel
theorem fe_0_81 : am_fe 0 81 = some (11, none, .aload_n 0) := by decide +kernel
theorem fe_0_82 : am_fe 0 82 = some (11, none, .new 58) := by decide +kernel
theorem fe_0_85 : am_fe 0 85 = some (11, none, .dup) := by decide +kernel
theorem fe_0_86 : am_fe 0 86 = some (11, none, .invokespecial 60) := by decide +kernel
theorem fe_0_89 : am_fe 0 89 = some (11, none, .putfield 61) := by decide +kernel
theorem fe_0_92 : am_fe 0 92 = some (11, none, .aload_n 0) := by decide +kernel
theorem fe_0_93 : am_fe 0 93 = some (11, none, .new 65) := by decide +kernel
theorem fe_0_96 : am_fe 0 96 = some (11, none, .dup) := by decide +kernel
theorem fe_0_97 : am_fe 0 97 = some (11, none, .invokespecial 67) := by decide +kernel
theorem fe_0_100 : am_fe 0 100 = some (11, none, .putfield 68) := by decide +kernel
theorem fe_0_103 : am_fe 0 103 = some (11, none, .return_) := by decide +kernel
theorem fe_2_0 : am_fe 2 0 = some (8, none, .aload_n 0) := by decide +kernel
theorem fe_2_1 : am_fe 2 1 = some (8, none, .invokespecial 3) := by decide +kernel
theorem fe_2_4 : am_fe 2 4 = some (8, none, .aload_n 0) := by decide +kernel
theorem fe_2_5 : am_fe 2 5 = some (8, none, .sipush 400) := by decide +kernel
theorem fe_2_8 : am_fe 2 8 = some (8, none, .newarray .int) := by decide +kernel
theorem fe_2_10 : am_fe 2 10 = some (8, none, .putfield 9) := by decide +kernel
theorem fe_2_13 : am_fe 2 13 = some (8, none, .aload_n 0) := by decide +kernel
theorem fe_2_14 : am_fe 2 14 = some (8, none, .iconst 0) := by decide +kernel
theorem fe_2_15 : am_fe 2 15 = some (8, none, .putfield 15) := by decide +kernel
theorem fe_2_18 : am_fe 2 18 = some (8, none, .aload_n 0) := by decide +kernel
theorem fe_2_19 : am_fe 2 19 = some (8, none, .iconst 0) := by decide +kernel
theorem fe_2_20 : am_fe 2 20 = some (8, none, .putfield 19) := by decide +kernel
theorem fe_2_23 : am_fe 2 23 = some (8, none, .aload_n 0) := by decide +kernel
theorem fe_2_24 : am_fe 2 24 = some (8, none, .iconst 0) := by decide +kernel
theorem fe_2_25 : am_fe 2 25 = some (8, none, .putfield 22) := by decide +kernel
theorem fe_2_28 : am_fe 2 28 = some (8, none, .aload_n 0) := by decide +kernel
theorem fe_2_29 : am_fe 2 29 = some (8, none, .iconst 0) := by decide +kernel
theorem fe_2_30 : am_fe 2 30 = some (8, none, .putfield 25) := by decide +kernel
theorem fe_2_33 : am_fe 2 33 = some (8, none, .return_) := by decide +kernel
theorem fe_3_0 : am_fe 3 0 = some (5, none, .aload_n 0) := by decide +kernel
theorem fe_3_1 : am_fe 3 1 = some (5, none, .invokespecial 3) := by decide +kernel
theorem fe_3_4 : am_fe 3 4 = some (5, none, .aload_n 0) := by decide +kernel
theorem fe_3_5 : am_fe 3 5 = some (5, none, .new 9) := by decide +kernel
theorem fe_3_8 : am_fe 3 8 = some (5, none, .dup) := by decide +kernel
theorem fe_3_9 : am_fe 3 9 = some (5, none, .invokespecial 11) := by decide +kernel
theorem fe_3_12 : am_fe 3 12 = some (5, none, .putfield 12) := by decide +kernel
theorem fe_3_15 : am_fe 3 15 = some (5, none, .aload_n 0) := by decide +kernel
theorem fe_3_16 : am_fe 3 16 = some (5, none, .new 18) := by decide +kernel
theorem fe_3_19 : am_fe 3 19 = some (5, none, .dup) := by decide +kernel
theorem fe_3_20 : am_fe 3 20 = some (5, none, .invokespecial 20) := by decide +kernel
theorem fe_3_23 : am_fe 3 23 = some (5, none, .putfield 21) := by decide +kernel
theorem fe_3_26 : am_fe 3 26 = some (5, none, .return_) := by decide +kernel
theorem fe_4_0 : am_fe 4 0 = some (0, none, .aload_n 0) := by decide +kernel
theorem fe_4_1 : am_fe 4 1 = some (0, none, .invokespecial 3) := by decide +kernel
theorem fe_4_4 : am_fe 4 4 = some (0, none, .aload_n 0) := by decide +kernel
theorem fe_4_5 : am_fe 4 5 = some (0, none, .iconst 0) := by decide +kernel
theorem fe_4_6 : am_fe 4 6 = some (0, none, .putfield 9) := by decide +kernel
theorem fe_4_9 : am_fe 4 9 = some (0, none, .aload_n 0) := by decide +kernel
theorem fe_4_10 : am_fe 4 10 = some (0, none, .iconst 0) := by decide +kernel
theorem fe_4_11 : am_fe 4 11 = some (0, none, .putfield 15) := by decide +kernel
theorem fe_4_14 : am_fe 4 14 = some (0, none, .aload_n 0) := by decide +kernel
theorem fe_4_15 : am_fe 4 15 = some (0, none, .iconst 0) := by decide +kernel
theorem fe_4_16 : am_fe 4 16 = some (0, none, .putfield 18) := by decide +kernel
theorem fe_4_19 : am_fe 4 19 = some (0, none, .aload_n 0) := by decide +kernel
theorem fe_4_20 : am_fe 4 20 = some (0, none, .bipush 16) := by decide +kernel
theorem fe_4_22 : am_fe 4 22 = some (0, none, .newarray .int) := by decide +kernel
theorem fe_4_24 : am_fe 4 24 = some (0, none, .putfield 21) := by decide +kernel
theorem fe_4_27 : am_fe 4 27 = some (0, none, .aload_n 0) := by decide +kernel
theorem fe_4_28 : am_fe 4 28 = some (0, none, .bipush 16) := by decide +kernel
theorem fe_4_30 : am_fe 4 30 = some (0, none, .newarray .int) := by decide +kernel
theorem fe_4_32 : am_fe 4 32 = some (0, none, .putfield 25) := by decide +kernel
theorem fe_4_35 : am_fe 4 35 = some (0, none, .aload_n 0) := by decide +kernel
theorem fe_4_36 : am_fe 4 36 = some (0, none, .bipush 16) := by decide +kernel
theorem fe_4_38 : am_fe 4 38 = some (0, none, .newarray .int) := by decide +kernel
theorem fe_4_40 : am_fe 4 40 = some (0, none, .putfield 28) := by decide +kernel
theorem fe_4_43 : am_fe 4 43 = some (0, none, .aload_n 0) := by decide +kernel
theorem fe_4_44 : am_fe 4 44 = some (0, none, .bipush 16) := by decide +kernel
theorem fe_4_46 : am_fe 4 46 = some (0, none, .newarray .int) := by decide +kernel
theorem fe_4_48 : am_fe 4 48 = some (0, none, .putfield 31) := by decide +kernel
theorem fe_4_51 : am_fe 4 51 = some (0, none, .aload_n 0) := by decide +kernel
theorem fe_4_52 : am_fe 4 52 = some (0, none, .bipush 6) := by decide +kernel
theorem fe_4_54 : am_fe 4 54 = some (0, none, .newarray .int) := by decide +kernel
theorem fe_4_56 : am_fe 4 56 = some (0, none, .putfield 34) := by decide +kernel
theorem fe_4_59 : am_fe 4 59 = some (0, none, .return_) := by decide +kernel
theorem fe_5_0 : am_fe 5 0 = some (9, none, .aload_n 0) := by decide +kernel
theorem fe_5_1 : am_fe 5 1 = some (9, none, .invokespecial 3) := by decide +kernel
theorem fe_5_4 : am_fe 5 4 = some (9, none, .aload_n 0) := by decide +kernel
theorem fe_5_5 : am_fe 5 5 = some (9, none, .iconst 0) := by decide +kernel
theorem fe_5_6 : am_fe 5 6 = some (9, none, .putfield 9) := by decide +kernel
theorem fe_5_9 : am_fe 5 9 = some (9, none, .aload_n 0) := by decide +kernel
theorem fe_5_10 : am_fe 5 10 = some (9, none, .iconst 0) := by decide +kernel
theorem fe_5_11 : am_fe 5 11 = some (9, none, .putfield 15) := by decide +kernel
theorem fe_5_14 : am_fe 5 14 = some (9, none, .aload_n 0) := by decide +kernel
theorem fe_5_15 : am_fe 5 15 = some (9, none, .iconst 0) := by decide +kernel
theorem fe_5_16 : am_fe 5 16 = some (9, none, .putfield 18) := by decide +kernel
theorem fe_5_19 : am_fe 5 19 = some (9, none, .aload_n 0) := by decide +kernel
theorem fe_5_20 : am_fe 5 20 = some (9, none, .bipush 13) := by decide +kernel
theorem fe_5_22 : am_fe 5 22 = some (9, none, .newarray .int) := by decide +kernel
theorem fe_5_24 : am_fe 5 24 = some (9, none, .putfield 21) := by decide +kernel
theorem fe_5_27 : am_fe 5 27 = some (9, none, .aload_n 0) := by decide +kernel
theorem fe_5_28 : am_fe 5 28 = some (9, none, .bipush 13) := by decide +kernel
theorem fe_5_30 : am_fe 5 30 = some (9, none, .newarray .int) := by decide +kernel
theorem fe_5_32 : am_fe 5 32 = some (9, none, .putfield 25) := by decide +kernel
theorem fe_5_35 : am_fe 5 35 = some (9, none, .aload_n 0) := by decide +kernel
theorem fe_5_36 : am_fe 5 36 = some (9, none, .bipush 13) := by decide +kernel
theorem fe_5_38 : am_fe 5 38 = some (9, none, .newarray .int) := by decide +kernel
theorem fe_5_40 : am_fe 5 40 = some (9, none, .putfield 28) := by decide +kernel
theorem fe_5_43 : am_fe 5 43 = some (9, none, .aload_n 0) := by decide +kernel
theorem fe_5_44 : am_fe 5 44 = some (9, none, .bipush 13) := by decide +kernel
theorem fe_5_46 : am_fe 5 46 = some (9, none, .newarray .int) := by decide +kernel
theorem fe_5_48 : am_fe 5 48 = some (9, none, .putfield 31) := by decide +kernel
theorem fe_5_51 : am_fe 5 51 = some (9, none, .aload_n 0) := by decide +kernel
theorem fe_5_52 : am_fe 5 52 = some (9, none, .bipush 13) := by decide +kernel
theorem fe_5_54 : am_fe 5 54 = some (9, none, .newarray .int) := by decide +kernel
theorem fe_5_56 : am_fe 5 56 = some (9, none, .putfield 34) := by decide +kernel
theorem fe_5_59 : am_fe 5 59 = some (9, none, .aload_n 0) := by decide +kernel
theorem fe_5_60 : am_fe 5 60 = some (9, none, .bipush 13) := by decide +kernel
theorem fe_5_62 : am_fe 5 62 = some (9, none, .newarray .int) := by decide +kernel
theorem fe_5_64 : am_fe 5 64 = some (9, none, .putfield 37) := by decide +kernel
theorem fe_5_67 : am_fe 5 67 = some (9, none, .aload_n 0) := by decide +kernel
theorem fe_5_68 : am_fe 5 68 = some (9, none, .bipush 13) := by decide +kernel
theorem fe_5_70 : am_fe 5 70 = some (9, none, .newarray .int) := by decide +kernel
theorem fe_5_72 : am_fe 5 72 = some (9, none, .putfield 40) := by decide +kernel
theorem fe_5_75 : am_fe 5 75 = some (9, none, .aload_n 0) := by decide +kernel
theorem fe_5_76 : am_fe 5 76 = some (9, none, .bipush 13) := by decide +kernel
theorem fe_5_78 : am_fe 5 78 = some (9, none, .newarray .int) := by decide +kernel
theorem fe_5_80 : am_fe 5 80 = some (9, none, .putfield 43) := by decide +kernel
theorem fe_5_83 : am_fe 5 83 = some (9, none, .aload_n 0) := by decide +kernel
theorem fe_5_84 : am_fe 5 84 = some (9, none, .bipush 16) := by decide +kernel
theorem fe_5_86 : am_fe 5 86 = some (9, none, .newarray .int) := by decide +kernel
theorem fe_5_88 : am_fe 5 88 = some (9, none, .putfield 46) := by decide +kernel
theorem fe_5_91 : am_fe 5 91 = some (9, none, .aload_n 0) := by decide +kernel
theorem fe_5_92 : am_fe 5 92 = some (9, none, .bipush 6) := by decide +kernel
theorem fe_5_94 : am_fe 5 94 = some (9, none, .newarray .int) := by decide +kernel
theorem fe_5_96 : am_fe 5 96 = some (9, none, .putfield 49) := by decide +kernel
theorem fe_5_99 : am_fe 5 99 = some (9, none, .return_) := by decide +kernel
theorem fe_6_0 : am_fe 6 0 = some (6, none, .aload_n 0) := by decide +kernel
theorem fe_6_1 : am_fe 6 1 = some (6, none, .invokespecial 3) := by decide +kernel
theorem fe_6_4 : am_fe 6 4 = some (6, none, .aload_n 0) := by decide +kernel
theorem fe_6_5 : am_fe 6 5 = some (6, none, .sipush 400) := by decide +kernel
theorem fe_6_8 : am_fe 6 8 = some (6, none, .newarray .int) := by decide +kernel
theorem fe_6_10 : am_fe 6 10 = some (6, none, .putfield 9) := by decide +kernel
theorem fe_6_13 : am_fe 6 13 = some (6, none, .aload_n 0) := by decide +kernel
theorem fe_6_14 : am_fe 6 14 = some (6, none, .iconst 0) := by decide +kernel
theorem fe_6_15 : am_fe 6 15 = some (6, none, .putfield 15) := by decide +kernel
theorem fe_6_18 : am_fe 6 18 = some (6, none, .aload_n 0) := by decide +kernel
theorem fe_6_19 : am_fe 6 19 = some (6, none, .iconst 0) := by decide +kernel
theorem fe_6_20 : am_fe 6 20 = some (6, none, .putfield 19) := by decide +kernel
theorem fe_6_23 : am_fe 6 23 = some (6, none, .return_) := by decide +kernel
theorem fe_7_0 : am_fe 7 0 = some (10, none, .aload_n 0) := by decide +kernel
theorem fe_7_1 : am_fe 7 1 = some (10, none, .invokespecial 3) := by decide +kernel
theorem fe_7_4 : am_fe 7 4 = some (10, none, .aload_n 0) := by decide +kernel
theorem fe_7_5 : am_fe 7 5 = some (10, none, .new 9) := by decide +kernel
theorem fe_7_8 : am_fe 7 8 = some (10, none, .dup) := by decide +kernel
theorem fe_7_9 : am_fe 7 9 = some (10, none, .invokespecial 11) := by decide +kernel
theorem fe_7_12 : am_fe 7 12 = some (10, none, .putfield 12) := by decide +kernel
theorem fe_7_15 : am_fe 7 15 = some (10, none, .aload_n 0) := by decide +kernel
theorem fe_7_16 : am_fe 7 16 = some (10, none, .new 18) := by decide +kernel
theorem fe_7_19 : am_fe 7 19 = some (10, none, .dup) := by decide +kernel
theorem fe_7_20 : am_fe 7 20 = some (10, none, .invokespecial 20) := by decide +kernel
theorem fe_7_23 : am_fe 7 23 = some (10, none, .putfield 21) := by decide +kernel
theorem fe_7_26 : am_fe 7 26 = some (10, none, .aload_n 0) := by decide +kernel
theorem fe_7_27 : am_fe 7 27 = some (10, none, .new 25) := by decide +kernel
theorem fe_7_30 : am_fe 7 30 = some (10, none, .dup) := by decide +kernel
theorem fe_7_31 : am_fe 7 31 = some (10, none, .invokespecial 27) := by decide +kernel
theorem fe_7_34 : am_fe 7 34 = some (10, none, .putfield 28) := by decide +kernel
theorem fe_7_37 : am_fe 7 37 = some (10, none, .aload_n 0) := by decide +kernel
theorem fe_7_38 : am_fe 7 38 = some (10, none, .iconst (-1)) := by decide +kernel
theorem fe_7_39 : am_fe 7 39 = some (10, none, .putfield 32) := by decide +kernel
theorem fe_7_42 : am_fe 7 42 = some (10, none, .aload_n 0) := by decide +kernel
theorem fe_7_43 : am_fe 7 43 = some (10, none, .iconst 0) := by decide +kernel
theorem fe_7_44 : am_fe 7 44 = some (10, none, .putfield 36) := by decide +kernel
theorem fe_7_47 : am_fe 7 47 = some (10, none, .return_) := by decide +kernel
theorem fe_8_0 : am_fe 8 0 = some (4, none, .aload_n 0) := by decide +kernel
theorem fe_8_1 : am_fe 8 1 = some (4, none, .invokespecial 3) := by decide +kernel
theorem fe_8_4 : am_fe 8 4 = some (4, none, .aload_n 0) := by decide +kernel
theorem fe_8_5 : am_fe 8 5 = some (4, none, .bipush 20) := by decide +kernel
theorem fe_8_7 : am_fe 8 7 = some (4, none, .anewarray 9) := by decide +kernel
theorem fe_8_10 : am_fe 8 10 = some (4, none, .putfield 11) := by decide +kernel
theorem fe_8_13 : am_fe 8 13 = some (4, none, .aload_n 0) := by decide +kernel
theorem fe_8_14 : am_fe 8 14 = some (4, none, .iconst 0) := by decide +kernel
theorem fe_8_15 : am_fe 8 15 = some (4, none, .putfield 17) := by decide +kernel
theorem fe_8_18 : am_fe 8 18 = some (4, none, .aload_n 0) := by decide +kernel
theorem fe_8_19 : am_fe 8 19 = some (4, none, .iconst 0) := by decide +kernel
theorem fe_8_20 : am_fe 8 20 = some (4, none, .putfield 21) := by decide +kernel
theorem fe_8_23 : am_fe 8 23 = some (4, none, .return_) := by decide +kernel
theorem fe_9_0 : am_fe 9 0 = some (7, none, .aload_n 0) := by decide +kernel
theorem fe_9_1 : am_fe 9 1 = some (7, none, .invokespecial 3) := by decide +kernel
theorem fe_9_4 : am_fe 9 4 = some (7, none, .aload_n 0) := by decide +kernel
theorem fe_9_5 : am_fe 9 5 = some (7, none, .new 9) := by decide +kernel
theorem fe_9_8 : am_fe 9 8 = some (7, none, .dup) := by decide +kernel
theorem fe_9_9 : am_fe 9 9 = some (7, none, .invokespecial 11) := by decide +kernel
theorem fe_9_12 : am_fe 9 12 = some (7, none, .putfield 12) := by decide +kernel
theorem fe_9_15 : am_fe 9 15 = some (7, none, .aload_n 0) := by decide +kernel
theorem fe_9_16 : am_fe 9 16 = some (7, none, .bipush 11) := by decide +kernel
theorem fe_9_18 : am_fe 9 18 = some (7, none, .newarray .long) := by decide +kernel
theorem fe_9_20 : am_fe 9 20 = some (7, none, .putfield 20) := by decide +kernel
theorem fe_9_23 : am_fe 9 23 = some (7, none, .aload_n 0) := by decide +kernel
theorem fe_9_24 : am_fe 9 24 = some (7, none, .bipush 60) := by decide +kernel
theorem fe_9_26 : am_fe 9 26 = some (7, none, .newarray .long) := by decide +kernel
theorem fe_9_28 : am_fe 9 28 = some (7, none, .putfield 24) := by decide +kernel
theorem fe_9_31 : am_fe 9 31 = some (7, none, .aload_n 0) := by decide +kernel
theorem fe_9_32 : am_fe 9 32 = some (7, none, .aconst_null) := by decide +kernel
theorem fe_9_33 : am_fe 9 33 = some (7, none, .putfield 27) := by decide +kernel
theorem fe_9_36 : am_fe 9 36 = some (7, none, .aload_n 0) := by decide +kernel
theorem fe_9_37 : am_fe 9 37 = some (7, none, .aload_n 0) := by decide +kernel
theorem fe_9_38 : am_fe 9 38 = some (7, none, .getfield 12) := by decide +kernel
theorem fe_9_41 : am_fe 9 41 = some (7, none, .putfield 31) := by decide +kernel
theorem fe_9_44 : am_fe 9 44 = some (7, none, .aload_n 0) := by decide +kernel
theorem fe_9_45 : am_fe 9 45 = some (7, none, .aconst_null) := by decide +kernel
theorem fe_9_46 : am_fe 9 46 = some (7, none, .putfield 34) := by decide +kernel
theorem fe_9_49 : am_fe 9 49 = some (7, none, .aload_n 0) := by decide +kernel
theorem fe_9_50 : am_fe 9 50 = some (7, none, .iconst 0) := by decide +kernel
theorem fe_9_51 : am_fe 9 51 = some (7, none, .putfield 38) := by decide +kernel
theorem fe_9_54 : am_fe 9 54 = some (7, none, .aload_n 0) := by decide +kernel
theorem fe_9_55 : am_fe 9 55 = some (7, none, .iconst 0) := by decide +kernel
theorem fe_9_56 : am_fe 9 56 = some (7, none, .putfield 42) := by decide +kernel
theorem fe_9_59 : am_fe 9 59 = some (7, none, .aload_n 0) := by decide +kernel
theorem fe_9_60 : am_fe 9 60 = some (7, none, .iconst 0) := by decide +kernel
theorem fe_9_61 : am_fe 9 61 = some (7, none, .putfield 45) := by decide +kernel
theorem fe_9_64 : am_fe 9 64 = some (7, none, .return_) := by decide +kernel
theorem fe_10_0 : am_fe 10 0 = some (2, none, .aload_n 0) := by decide +kernel
theorem fe_10_1 : am_fe 10 1 = some (2, none, .invokespecial 3) := by decide +kernel
theorem fe_10_4 : am_fe 10 4 = some (2, none, .aload_n 0) := by decide +kernel
theorem fe_10_5 : am_fe 10 5 = some (2, none, .sipush 289) := by decide +kernel
theorem fe_10_8 : am_fe 10 8 = some (2, none, .newarray .int) := by decide +kernel
theorem fe_10_10 : am_fe 10 10 = some (2, none, .putfield 11) := by decide +kernel
theorem fe_10_13 : am_fe 10 13 = some (2, none, .aload_n 0) := by decide +kernel
theorem fe_10_14 : am_fe 10 14 = some (2, none, .iconst 0) := by decide +kernel
theorem fe_10_15 : am_fe 10 15 = some (2, none, .putfield 15) := by decide +kernel
theorem fe_10_18 : am_fe 10 18 = some (2, none, .return_) := by decide +kernel
theorem fe_11_0 : am_fe 11 0 = some (3, none, .aload_n 0) := by decide +kernel
theorem fe_11_1 : am_fe 11 1 = some (3, none, .invokespecial 3) := by decide +kernel
theorem fe_11_4 : am_fe 11 4 = some (3, none, .aload_n 0) := by decide +kernel
theorem fe_11_5 : am_fe 11 5 = some (3, none, .bipush 8) := by decide +kernel
theorem fe_11_7 : am_fe 11 7 = some (3, none, .newarray .int) := by decide +kernel
theorem fe_11_9 : am_fe 11 9 = some (3, none, .putfield 9) := by decide +kernel
theorem fe_11_12 : am_fe 11 12 = some (3, none, .aload_n 0) := by decide +kernel
theorem fe_11_13 : am_fe 11 13 = some (3, none, .bipush 8) := by decide +kernel
theorem fe_11_15 : am_fe 11 15 = some (3, none, .newarray .int) := by decide +kernel
theorem fe_11_17 : am_fe 11 17 = some (3, none, .putfield 15) := by decide +kernel
theorem fe_11_20 : am_fe 11 20 = some (3, none, .aload_n 0) := by decide +kernel
theorem fe_11_21 : am_fe 11 21 = some (3, none, .bipush 8) := by decide +kernel
theorem fe_11_23 : am_fe 11 23 = some (3, none, .newarray .int) := by decide +kernel
theorem fe_11_25 : am_fe 11 25 = some (3, none, .putfield 18) := by decide +kernel
theorem fe_11_28 : am_fe 11 28 = some (3, none, .aload_n 0) := by decide +kernel
theorem fe_11_29 : am_fe 11 29 = some (3, none, .sipush 2048) := by decide +kernel
theorem fe_11_32 : am_fe 11 32 = some (3, none, .newarray .int) := by decide +kernel
theorem fe_11_34 : am_fe 11 34 = some (3, none, .putfield 21) := by decide +kernel
theorem fe_11_37 : am_fe 11 37 = some (3, none, .aload_n 0) := by decide +kernel
theorem fe_11_38 : am_fe 11 38 = some (3, none, .iconst 0) := by decide +kernel
theorem fe_11_39 : am_fe 11 39 = some (3, none, .putfield 24) := by decide +kernel
theorem fe_11_42 : am_fe 11 42 = some (3, none, .return_) := by decide +kernel
theorem fe_12_0 : am_fe 12 0 = some (11, some .int, .aload_n 0) := by decide +kernel
theorem fe_12_1 : am_fe 12 1 = some (11, some .int, .getfield 12) := by decide +kernel
theorem fe_12_4 : am_fe 12 4 = some (11, some .int, .getfield 72) := by decide +kernel
theorem fe_12_7 : am_fe 12 7 = some (11, some .int, .bipush 20) := by decide +kernel
theorem fe_12_9 : am_fe 12 9 = some (11, some .int, .iadd) := by decide +kernel
theorem fe_12_10 : am_fe 12 10 = some (11, some .int, .sipush 400) := by decide +kernel
theorem fe_12_13 : am_fe 12 13 = some (11, some .int, .if_icmp .le 5) := by decide +kernel
theorem fe_12_16 : am_fe 12 16 = some (11, some .int, .iconst (-1)) := by decide +kernel
theorem fe_12_17 : am_fe 12 17 = some (11, some .int, .ireturn) := by decide +kernel
theorem fe_12_18 : am_fe 12 18 = some (11, some .int, .aload_n 0) := by decide +kernel
theorem fe_12_19 : am_fe 12 19 = some (11, some .int, .getfield 12) := by decide +kernel
theorem fe_12_22 : am_fe 12 22 = some (11, some .int, .iload_n 1) := by decide +kernel
theorem fe_12_23 : am_fe 12 23 = some (11, some .int, .invokevirtual 75) := by decide +kernel
theorem fe_12_26 : am_fe 12 26 = some (11, some .int, .aload_n 0) := by decide +kernel
theorem fe_12_27 : am_fe 12 27 = some (11, some .int, .getfield 12) := by decide +kernel
theorem fe_12_30 : am_fe 12 30 = some (11, some .int, .iload_n 2) := by decide +kernel
theorem fe_12_31 : am_fe 12 31 = some (11, some .int, .invokevirtual 75) := by decide +kernel
theorem fe_12_34 : am_fe 12 34 = some (11, some .int, .aload_n 0) := by decide +kernel
theorem fe_12_35 : am_fe 12 35 = some (11, some .int, .getfield 12) := by decide +kernel
theorem fe_12_38 : am_fe 12 38 = some (11, some .int, .iload_n 3) := by decide +kernel
theorem fe_12_39 : am_fe 12 39 = some (11, some .int, .invokevirtual 75) := by decide +kernel
theorem fe_12_42 : am_fe 12 42 = some (11, some .int, .aload_n 0) := by decide +kernel
theorem fe_12_43 : am_fe 12 43 = some (11, some .int, .getfield 12) := by decide +kernel
theorem fe_12_46 : am_fe 12 46 = some (11, some .int, .iload 4) := by decide +kernel
theorem fe_12_48 : am_fe 12 48 = some (11, some .int, .invokevirtual 75) := by decide +kernel
theorem fe_12_51 : am_fe 12 51 = some (11, some .int, .aload_n 0) := by decide +kernel
theorem fe_12_52 : am_fe 12 52 = some (11, some .int, .getfield 12) := by decide +kernel
theorem fe_12_55 : am_fe 12 55 = some (11, some .int, .iload 5) := by decide +kernel
theorem fe_12_57 : am_fe 12 57 = some (11, some .int, .invokevirtual 75) := by decide +kernel
theorem fe_12_60 : am_fe 12 60 = some (11, some .int, .aload_n 0) := by decide +kernel
theorem fe_12_61 : am_fe 12 61 = some (11, some .int, .getfield 12) := by decide +kernel
theorem fe_12_64 : am_fe 12 64 = some (11, some .int, .getfield 72) := by decide +kernel
theorem fe_12_67 : am_fe 12 67 = some (11, some .int, .ireturn) := by decide +kernel
theorem fe_13_0 : am_fe 13 0 = some (8, none, .bipush 24) := by decide +kernel
theorem fe_13_2 : am_fe 13 2 = some (8, none, .istore_n 2) := by decide +kernel
theorem fe_13_3 : am_fe 13 3 = some (8, none, .iload_n 2) := by decide +kernel
theorem fe_13_4 : am_fe 13 4 = some (8, none, .ifCond .lt 45) := by decide +kernel
theorem fe_13_7 : am_fe 13 7 = some (8, none, .aload_n 0) := by decide +kernel
theorem fe_13_8 : am_fe 13 8 = some (8, none, .getfield 15) := by decide +kernel
theorem fe_13_11 : am_fe 13 11 = some (8, none, .sipush 400) := by decide +kernel
theorem fe_13_14 : am_fe 13 14 = some (8, none, .if_icmp .ge 35) := by decide +kernel
theorem fe_13_17 : am_fe 13 17 = some (8, none, .aload_n 0) := by decide +kernel
theorem fe_13_18 : am_fe 13 18 = some (8, none, .getfield 9) := by decide +kernel
theorem fe_13_21 : am_fe 13 21 = some (8, none, .aload_n 0) := by decide +kernel
theorem fe_13_22 : am_fe 13 22 = some (8, none, .getfield 15) := by decide +kernel
theorem fe_13_25 : am_fe 13 25 = some (8, none, .iload_n 1) := by decide +kernel
theorem fe_13_26 : am_fe 13 26 = some (8, none, .iload_n 2) := by decide +kernel
theorem fe_13_27 : am_fe 13 27 = some (8, none, .iushr) := by decide +kernel
theorem fe_13_28 : am_fe 13 28 = some (8, none, .sipush 255) := by decide +kernel
theorem fe_13_31 : am_fe 13 31 = some (8, none, .iand) := by decide +kernel
theorem fe_13_32 : am_fe 13 32 = some (8, none, .iastore) := by decide +kernel
theorem fe_13_33 : am_fe 13 33 = some (8, none, .aload_n 0) := by decide +kernel
theorem fe_13_34 : am_fe 13 34 = some (8, none, .dup) := by decide +kernel
theorem fe_13_35 : am_fe 13 35 = some (8, none, .getfield 15) := by decide +kernel
theorem fe_13_38 : am_fe 13 38 = some (8, none, .iconst 1) := by decide +kernel
theorem fe_13_39 : am_fe 13 39 = some (8, none, .iadd) := by decide +kernel
theorem fe_13_40 : am_fe 13 40 = some (8, none, .putfield 15) := by decide +kernel
theorem fe_13_43 : am_fe 13 43 = some (8, none, .iinc 2 (-8)) := by decide +kernel
theorem fe_13_46 : am_fe 13 46 = some (8, none, .goto (-43)) := by decide +kernel
theorem fe_13_49 : am_fe 13 49 = some (8, none, .return_) := by decide +kernel
theorem fe_14_0 : am_fe 14 0 = some (11, some .int, .iload_n 1) := by decide +kernel
theorem fe_14_1 : am_fe 14 1 = some (11, some .int, .ifCond .lt 14) := by decide +kernel
theorem fe_14_4 : am_fe 14 4 = some (11, some .int, .iload_n 1) := by decide +kernel
theorem fe_14_5 : am_fe 14 5 = some (11, some .int, .aload_n 0) := by decide +kernel
theorem fe_14_6 : am_fe 14 6 = some (11, some .int, .getfield 12) := by decide +kernel
theorem fe_14_9 : am_fe 14 9 = some (11, some .int, .getfield 72) := by decide +kernel
theorem fe_14_12 : am_fe 14 12 = some (11, some .int, .if_icmp .le 5) := by decide +kernel
theorem fe_14_15 : am_fe 14 15 = some (11, some .int, .iconst (-1)) := by decide +kernel
theorem fe_14_16 : am_fe 14 16 = some (11, some .int, .ireturn) := by decide +kernel
theorem fe_14_17 : am_fe 14 17 = some (11, some .int, .aload_n 0) := by decide +kernel
theorem fe_14_18 : am_fe 14 18 = some (11, some .int, .getfield 12) := by decide +kernel
theorem fe_14_21 : am_fe 14 21 = some (11, some .int, .iload_n 1) := by decide +kernel
theorem fe_14_22 : am_fe 14 22 = some (11, some .int, .putfield 72) := by decide +kernel
theorem fe_14_25 : am_fe 14 25 = some (11, some .int, .iload_n 1) := by decide +kernel
theorem fe_14_26 : am_fe 14 26 = some (11, some .int, .ireturn) := by decide +kernel
theorem fe_15_0 : am_fe 15 0 = some (11, some .int, .aload_n 0) := by decide +kernel
theorem fe_15_1 : am_fe 15 1 = some (11, some .int, .getfield 19) := by decide +kernel
theorem fe_15_4 : am_fe 15 4 = some (11, some .int, .aload_n 0) := by decide +kernel
theorem fe_15_5 : am_fe 15 5 = some (11, some .int, .getfield 12) := by decide +kernel
theorem fe_15_8 : am_fe 15 8 = some (11, some .int, .invokevirtual 79) := by decide +kernel
theorem fe_15_11 : am_fe 15 11 = some (11, some .int, .istore_n 1) := by decide +kernel
theorem fe_15_12 : am_fe 15 12 = some (11, some .int, .aload_n 0) := by decide +kernel
theorem fe_15_13 : am_fe 15 13 = some (11, some .int, .getfield 12) := by decide +kernel
theorem fe_15_16 : am_fe 15 16 = some (11, some .int, .iconst 0) := by decide +kernel
theorem fe_15_17 : am_fe 15 17 = some (11, some .int, .putfield 72) := by decide +kernel
theorem fe_15_20 : am_fe 15 20 = some (11, some .int, .iload_n 1) := by decide +kernel
theorem fe_15_21 : am_fe 15 21 = some (11, some .int, .ifCond .eq 8) := by decide +kernel
theorem fe_15_24 : am_fe 15 24 = some (11, some .int, .bipush (-2)) := by decide +kernel
theorem fe_15_26 : am_fe 15 26 = some (11, some .int, .iload_n 1) := by decide +kernel
theorem fe_15_27 : am_fe 15 27 = some (11, some .int, .isub) := by decide +kernel
theorem fe_15_28 : am_fe 15 28 = some (11, some .int, .ireturn) := by decide +kernel
theorem fe_15_29 : am_fe 15 29 = some (11, some .int, .aload_n 0) := by decide +kernel
theorem fe_15_30 : am_fe 15 30 = some (11, some .int, .getfield 43) := by decide +kernel
theorem fe_15_33 : am_fe 15 33 = some (11, some .int, .getfield 83) := by decide +kernel
theorem fe_15_36 : am_fe 15 36 = some (11, some .int, .aload_n 0) := by decide +kernel
theorem fe_15_37 : am_fe 15 37 = some (11, some .int, .getfield 19) := by decide +kernel
theorem fe_15_40 : am_fe 15 40 = some (11, some .int, .getfield 87) := by decide +kernel
theorem fe_15_43 : am_fe 15 43 = some (11, some .int, .invokevirtual 88) := by decide +kernel
theorem fe_15_46 : am_fe 15 46 = some (11, some .int, .aload_n 0) := by decide +kernel
theorem fe_15_47 : am_fe 15 47 = some (11, some .int, .getfield 43) := by decide +kernel
theorem fe_15_50 : am_fe 15 50 = some (11, some .int, .getfield 94) := by decide +kernel
theorem fe_15_53 : am_fe 15 53 = some (11, some .int, .aload_n 0) := by decide +kernel
theorem fe_15_54 : am_fe 15 54 = some (11, some .int, .getfield 19) := by decide +kernel
theorem fe_15_57 : am_fe 15 57 = some (11, some .int, .getfield 98) := by decide +kernel
theorem fe_15_60 : am_fe 15 60 = some (11, some .int, .invokevirtual 99) := by decide +kernel
theorem fe_15_63 : am_fe 15 63 = some (11, some .int, .aload_n 0) := by decide +kernel
theorem fe_15_64 : am_fe 15 64 = some (11, some .int, .getfield 43) := by decide +kernel
theorem fe_15_67 : am_fe 15 67 = some (11, some .int, .getfield 104) := by decide +kernel
theorem fe_15_70 : am_fe 15 70 = some (11, some .int, .invokevirtual 108) := by decide +kernel
theorem fe_15_73 : am_fe 15 73 = some (11, some .int, .aload_n 0) := by decide +kernel
theorem fe_15_74 : am_fe 15 74 = some (11, some .int, .getfield 43) := by decide +kernel
theorem fe_15_77 : am_fe 15 77 = some (11, some .int, .getfield 94) := by decide +kernel
theorem fe_15_80 : am_fe 15 80 = some (11, some .int, .getfield 113) := by decide +kernel
theorem fe_15_83 : am_fe 15 83 = some (11, some .int, .ireturn) := by decide +kernel
theorem fe_16_0 : am_fe 16 0 = some (5, some .int, .aload_n 1) := by decide +kernel
theorem fe_16_1 : am_fe 16 1 = some (5, some .int, .invokevirtual 25) := by decide +kernel
theorem fe_16_4 : am_fe 16 4 = some (5, some .int, .aload_n 0) := by decide +kernel
theorem fe_16_5 : am_fe 16 5 = some (5, some .int, .getfield 12) := by decide +kernel
theorem fe_16_8 : am_fe 16 8 = some (5, some .int, .iconst 0) := by decide +kernel
theorem fe_16_9 : am_fe 16 9 = some (5, some .int, .invokevirtual 30) := by decide +kernel
theorem fe_16_12 : am_fe 16 12 = some (5, some .int, .aload_n 0) := by decide +kernel
theorem fe_16_13 : am_fe 16 13 = some (5, some .int, .getfield 21) := by decide +kernel
theorem fe_16_16 : am_fe 16 16 = some (5, some .int, .invokevirtual 34) := by decide +kernel
theorem fe_16_19 : am_fe 16 19 = some (5, some .int, .iconst 0) := by decide +kernel
theorem fe_16_20 : am_fe 16 20 = some (5, some .int, .istore_n 2) := by decide +kernel
theorem fe_16_21 : am_fe 16 21 = some (5, some .int, .iload_n 2) := by decide +kernel
theorem fe_16_22 : am_fe 16 22 = some (5, some .int, .bipush 40) := by decide +kernel
theorem fe_16_24 : am_fe 16 24 = some (5, some .int, .if_icmp .gt 28) := by decide +kernel
theorem fe_16_27 : am_fe 16 27 = some (5, some .int, .aload_n 0) := by decide +kernel
theorem fe_16_28 : am_fe 16 28 = some (5, some .int, .aload_n 1) := by decide +kernel
theorem fe_16_29 : am_fe 16 29 = some (5, some .int, .iload_n 2) := by decide +kernel
theorem fe_16_30 : am_fe 16 30 = some (5, some .int, .invokevirtual 36) := by decide +kernel
theorem fe_16_33 : am_fe 16 33 = some (5, some .int, .ifCond .eq 19) := by decide +kernel
theorem fe_16_36 : am_fe 16 36 = some (5, some .int, .aload_n 1) := by decide +kernel
theorem fe_16_37 : am_fe 16 37 = some (5, some .int, .invokevirtual 40) := by decide +kernel
theorem fe_16_40 : am_fe 16 40 = some (5, some .int, .ifCond .ne 6) := by decide +kernel
theorem fe_16_43 : am_fe 16 43 = some (5, some .int, .goto 9) := by decide +kernel
theorem fe_16_46 : am_fe 16 46 = some (5, some .int, .iinc 2 1) := by decide +kernel
theorem fe_16_49 : am_fe 16 49 = some (5, some .int, .goto (-28)) := by decide +kernel
theorem fe_16_52 : am_fe 16 52 = some (5, some .int, .aload_n 1) := by decide +kernel
theorem fe_16_53 : am_fe 16 53 = some (5, some .int, .getfield 44) := by decide +kernel
theorem fe_16_56 : am_fe 16 56 = some (5, some .int, .ireturn) := by decide +kernel
theorem fe_17_0 : am_fe 17 0 = some (8, none, .aload_n 0) := by decide +kernel
theorem fe_17_1 : am_fe 17 1 = some (8, none, .iconst 0) := by decide +kernel
theorem fe_17_2 : am_fe 17 2 = some (8, none, .putfield 19) := by decide +kernel
theorem fe_17_5 : am_fe 17 5 = some (8, none, .aload_n 0) := by decide +kernel
theorem fe_17_6 : am_fe 17 6 = some (8, none, .iconst 0) := by decide +kernel
theorem fe_17_7 : am_fe 17 7 = some (8, none, .putfield 22) := by decide +kernel
theorem fe_17_10 : am_fe 17 10 = some (8, none, .aload_n 0) := by decide +kernel
theorem fe_17_11 : am_fe 17 11 = some (8, none, .iconst 0) := by decide +kernel
theorem fe_17_12 : am_fe 17 12 = some (8, none, .putfield 25) := by decide +kernel
theorem fe_17_15 : am_fe 17 15 = some (8, none, .return_) := by decide +kernel
theorem fe_18_0 : am_fe 18 0 = some (0, none, .aload_n 0) := by decide +kernel
theorem fe_18_1 : am_fe 18 1 = some (0, none, .iload_n 1) := by decide +kernel
theorem fe_18_2 : am_fe 18 2 = some (0, none, .putfield 9) := by decide +kernel
theorem fe_18_5 : am_fe 18 5 = some (0, none, .aload_n 0) := by decide +kernel
theorem fe_18_6 : am_fe 18 6 = some (0, none, .iconst 0) := by decide +kernel
theorem fe_18_7 : am_fe 18 7 = some (0, none, .putfield 15) := by decide +kernel
theorem fe_18_10 : am_fe 18 10 = some (0, none, .aload_n 0) := by decide +kernel
theorem fe_18_11 : am_fe 18 11 = some (0, none, .iconst 0) := by decide +kernel
theorem fe_18_12 : am_fe 18 12 = some (0, none, .putfield 18) := by decide +kernel
theorem fe_18_15 : am_fe 18 15 = some (0, none, .iconst 0) := by decide +kernel
theorem fe_18_16 : am_fe 18 16 = some (0, none, .istore_n 2) := by decide +kernel
theorem fe_18_17 : am_fe 18 17 = some (0, none, .iload_n 2) := by decide +kernel
theorem fe_18_18 : am_fe 18 18 = some (0, none, .bipush 16) := by decide +kernel
theorem fe_18_20 : am_fe 18 20 = some (0, none, .if_icmp .ge 50) := by decide +kernel
theorem fe_18_23 : am_fe 18 23 = some (0, none, .aload_n 0) := by decide +kernel
theorem fe_18_24 : am_fe 18 24 = some (0, none, .getfield 21) := by decide +kernel
theorem fe_18_27 : am_fe 18 27 = some (0, none, .iload_n 2) := by decide +kernel
theorem fe_18_28 : am_fe 18 28 = some (0, none, .iload_n 2) := by decide +kernel
theorem fe_18_29 : am_fe 18 29 = some (0, none, .iconst 1) := by decide +kernel
theorem fe_18_30 : am_fe 18 30 = some (0, none, .iadd) := by decide +kernel
theorem fe_18_31 : am_fe 18 31 = some (0, none, .iload_n 1) := by decide +kernel
theorem fe_18_32 : am_fe 18 32 = some (0, none, .if_icmp .ge 9) := by decide +kernel
theorem fe_18_35 : am_fe 18 35 = some (0, none, .iload_n 2) := by decide +kernel
theorem fe_18_36 : am_fe 18 36 = some (0, none, .iconst 1) := by decide +kernel
theorem fe_18_37 : am_fe 18 37 = some (0, none, .iadd) := by decide +kernel
theorem fe_18_38 : am_fe 18 38 = some (0, none, .goto 4) := by decide +kernel
theorem fe_18_41 : am_fe 18 41 = some (0, none, .iconst (-1)) := by decide +kernel
theorem fe_18_42 : am_fe 18 42 = some (0, none, .iastore) := by decide +kernel
theorem fe_18_43 : am_fe 18 43 = some (0, none, .aload_n 0) := by decide +kernel
theorem fe_18_44 : am_fe 18 44 = some (0, none, .getfield 25) := by decide +kernel
theorem fe_18_47 : am_fe 18 47 = some (0, none, .iload_n 2) := by decide +kernel
theorem fe_18_48 : am_fe 18 48 = some (0, none, .iconst 0) := by decide +kernel
theorem fe_18_49 : am_fe 18 49 = some (0, none, .iastore) := by decide +kernel
theorem fe_18_50 : am_fe 18 50 = some (0, none, .aload_n 0) := by decide +kernel
theorem fe_18_51 : am_fe 18 51 = some (0, none, .getfield 28) := by decide +kernel
theorem fe_18_54 : am_fe 18 54 = some (0, none, .iload_n 2) := by decide +kernel
theorem fe_18_55 : am_fe 18 55 = some (0, none, .iconst (-1)) := by decide +kernel
theorem fe_18_56 : am_fe 18 56 = some (0, none, .iastore) := by decide +kernel
theorem fe_18_57 : am_fe 18 57 = some (0, none, .aload_n 0) := by decide +kernel
theorem fe_18_58 : am_fe 18 58 = some (0, none, .getfield 31) := by decide +kernel
theorem fe_18_61 : am_fe 18 61 = some (0, none, .iload_n 2) := by decide +kernel
theorem fe_18_62 : am_fe 18 62 = some (0, none, .iconst (-1)) := by decide +kernel
theorem fe_18_63 : am_fe 18 63 = some (0, none, .iastore) := by decide +kernel
theorem fe_18_64 : am_fe 18 64 = some (0, none, .iinc 2 1) := by decide +kernel
theorem fe_18_67 : am_fe 18 67 = some (0, none, .goto (-50)) := by decide +kernel
theorem fe_18_70 : am_fe 18 70 = some (0, none, .return_) := by decide +kernel
theorem fe_19_0 : am_fe 19 0 = some (9, none, .aload_n 0) := by decide +kernel
theorem fe_19_1 : am_fe 19 1 = some (9, none, .iconst 0) := by decide +kernel
theorem fe_19_2 : am_fe 19 2 = some (9, none, .putfield 9) := by decide +kernel
theorem fe_19_5 : am_fe 19 5 = some (9, none, .aload_n 0) := by decide +kernel
theorem fe_19_6 : am_fe 19 6 = some (9, none, .iconst 0) := by decide +kernel
theorem fe_19_7 : am_fe 19 7 = some (9, none, .putfield 15) := by decide +kernel
theorem fe_19_10 : am_fe 19 10 = some (9, none, .aload_n 0) := by decide +kernel
theorem fe_19_11 : am_fe 19 11 = some (9, none, .iconst 0) := by decide +kernel
theorem fe_19_12 : am_fe 19 12 = some (9, none, .putfield 18) := by decide +kernel
theorem fe_19_15 : am_fe 19 15 = some (9, none, .aload_n 0) := by decide +kernel
theorem fe_19_16 : am_fe 19 16 = some (9, none, .getfield 46) := by decide +kernel
theorem fe_19_19 : am_fe 19 19 = some (9, none, .iconst 0) := by decide +kernel
theorem fe_19_20 : am_fe 19 20 = some (9, none, .invokestatic 52) := by decide +kernel
theorem fe_19_23 : am_fe 19 23 = some (9, none, .aload_n 0) := by decide +kernel
theorem fe_19_24 : am_fe 19 24 = some (9, none, .getfield 49) := by decide +kernel
theorem fe_19_27 : am_fe 19 27 = some (9, none, .iconst 0) := by decide +kernel
theorem fe_19_28 : am_fe 19 28 = some (9, none, .invokestatic 52) := by decide +kernel
theorem fe_19_31 : am_fe 19 31 = some (9, none, .return_) := by decide +kernel
theorem fe_20_0 : am_fe 20 0 = some (17, none, .iconst 0) := by decide +kernel
theorem fe_20_1 : am_fe 20 1 = some (17, none, .istore_n 2) := by decide +kernel
theorem fe_20_2 : am_fe 20 2 = some (17, none, .aload_n 0) := by decide +kernel
theorem fe_20_3 : am_fe 20 3 = some (17, none, .arraylength) := by decide +kernel
theorem fe_20_4 : am_fe 20 4 = some (17, none, .istore_n 3) := by decide +kernel
theorem fe_20_5 : am_fe 20 5 = some (17, none, .iload_n 2) := by decide +kernel
theorem fe_20_6 : am_fe 20 6 = some (17, none, .iload_n 3) := by decide +kernel
theorem fe_20_7 : am_fe 20 7 = some (17, none, .if_icmp .ge 13) := by decide +kernel
theorem fe_20_10 : am_fe 20 10 = some (17, none, .aload_n 0) := by decide +kernel
theorem fe_20_11 : am_fe 20 11 = some (17, none, .iload_n 2) := by decide +kernel
theorem fe_20_12 : am_fe 20 12 = some (17, none, .iload_n 1) := by decide +kernel
theorem fe_20_13 : am_fe 20 13 = some (17, none, .iastore) := by decide +kernel
theorem fe_20_14 : am_fe 20 14 = some (17, none, .iinc 2 1) := by decide +kernel
theorem fe_20_17 : am_fe 20 17 = some (17, none, .goto (-12)) := by decide +kernel
theorem fe_20_20 : am_fe 20 20 = some (17, none, .return_) := by decide +kernel
theorem fe_21_0 : am_fe 21 0 = some (5, some .boolean, .aload_n 1) := by decide +kernel
theorem fe_21_1 : am_fe 21 1 = some (5, some .boolean, .ldc 48) := by decide +kernel
theorem fe_21_3 : am_fe 21 3 = some (5, some .boolean, .invokevirtual 50) := by decide +kernel
theorem fe_21_6 : am_fe 21 6 = some (5, some .boolean, .istore_n 3) := by decide +kernel
theorem fe_21_7 : am_fe 21 7 = some (5, some .boolean, .iload_n 3) := by decide +kernel
theorem fe_21_8 : am_fe 21 8 = some (5, some .boolean, .iconst (-1)) := by decide +kernel
theorem fe_21_9 : am_fe 21 9 = some (5, some .boolean, .if_icmp .ne 5) := by decide +kernel
theorem fe_21_12 : am_fe 21 12 = some (5, some .boolean, .iconst 0) := by decide +kernel
theorem fe_21_13 : am_fe 21 13 = some (5, some .boolean, .ireturn) := by decide +kernel
theorem fe_21_14 : am_fe 21 14 = some (5, some .boolean, .iload_n 2) := by decide +kernel
theorem fe_21_15 : am_fe 21 15 = some (5, some .boolean, .bipush 40) := by decide +kernel
theorem fe_21_17 : am_fe 21 17 = some (5, some .boolean, .if_icmp .ge 32) := by decide +kernel
theorem fe_21_20 : am_fe 21 20 = some (5, some .boolean, .iload_n 2) := by decide +kernel
theorem fe_21_21 : am_fe 21 21 = some (5, some .boolean, .ifCond .ne 7) := by decide +kernel
theorem fe_21_24 : am_fe 21 24 = some (5, some .boolean, .iconst 1) := by decide +kernel
theorem fe_21_25 : am_fe 21 25 = some (5, some .boolean, .goto 4) := by decide +kernel
theorem fe_21_28 : am_fe 21 28 = some (5, some .boolean, .iconst 0) := by decide +kernel
theorem fe_21_29 : am_fe 21 29 = some (5, some .boolean, .iload_n 3) := by decide +kernel
theorem fe_21_30 : am_fe 21 30 = some (5, some .boolean, .ifCond .ne 7) := by decide +kernel
theorem fe_21_33 : am_fe 21 33 = some (5, some .boolean, .iconst 1) := by decide +kernel
theorem fe_21_34 : am_fe 21 34 = some (5, some .boolean, .goto 4) := by decide +kernel
theorem fe_21_37 : am_fe 21 37 = some (5, some .boolean, .iconst 0) := by decide +kernel
theorem fe_21_38 : am_fe 21 38 = some (5, some .boolean, .if_icmp .ne 11) := by decide +kernel
theorem fe_21_41 : am_fe 21 41 = some (5, some .boolean, .aload_n 0) := by decide +kernel
theorem fe_21_42 : am_fe 21 42 = some (5, some .boolean, .iload_n 3) := by decide +kernel
theorem fe_21_43 : am_fe 21 43 = some (5, some .boolean, .invokevirtual 54) := by decide +kernel
theorem fe_21_46 : am_fe 21 46 = some (5, some .boolean, .ifCond .eq 13) := by decide +kernel
theorem fe_21_49 : am_fe 21 49 = some (5, some .boolean, .aload_n 1) := by decide +kernel
theorem fe_21_50 : am_fe 21 50 = some (5, some .boolean, .aload_n 1) := by decide +kernel
theorem fe_21_51 : am_fe 21 51 = some (5, some .boolean, .getfield 58) := by decide +kernel
theorem fe_21_54 : am_fe 21 54 = some (5, some .boolean, .iconst 4) := by decide +kernel
theorem fe_21_55 : am_fe 21 55 = some (5, some .boolean, .invokevirtual 61) := by decide +kernel
theorem fe_21_58 : am_fe 21 58 = some (5, some .boolean, .ireturn) := by decide +kernel
theorem fe_21_59 : am_fe 21 59 = some (5, some .boolean, .iload_n 3) := by decide +kernel
theorem fe_21_60 : am_fe 21 60 = some (5, some .boolean, .ifCond .ne 11) := by decide +kernel
theorem fe_21_63 : am_fe 21 63 = some (5, some .boolean, .aload_n 0) := by decide +kernel
theorem fe_21_64 : am_fe 21 64 = some (5, some .boolean, .aload_n 1) := by decide +kernel
theorem fe_21_65 : am_fe 21 65 = some (5, some .boolean, .invokevirtual 65) := by decide +kernel
theorem fe_21_68 : am_fe 21 68 = some (5, some .boolean, .goto 9) := by decide +kernel
theorem fe_21_71 : am_fe 21 71 = some (5, some .boolean, .aload_n 0) := by decide +kernel
theorem fe_21_72 : am_fe 21 72 = some (5, some .boolean, .aload_n 1) := by decide +kernel
theorem fe_21_73 : am_fe 21 73 = some (5, some .boolean, .iload_n 3) := by decide +kernel
theorem fe_21_74 : am_fe 21 74 = some (5, some .boolean, .invokevirtual 69) := by decide +kernel
theorem fe_21_77 : am_fe 21 77 = some (5, some .boolean, .ireturn) := by decide +kernel
theorem fe_22_0 : am_fe 22 0 = some (8, some .int, .aload_n 0) := by decide +kernel
theorem fe_22_1 : am_fe 22 1 = some (8, some .int, .invokevirtual 28) := by decide +kernel
theorem fe_22_4 : am_fe 22 4 = some (8, some .int, .pop) := by decide +kernel
theorem fe_22_5 : am_fe 22 5 = some (8, some .int, .aload_n 0) := by decide +kernel
theorem fe_22_6 : am_fe 22 6 = some (8, some .int, .aload_n 0) := by decide +kernel
theorem fe_22_7 : am_fe 22 7 = some (8, some .int, .getfield 19) := by decide +kernel
theorem fe_22_10 : am_fe 22 10 = some (8, some .int, .putfield 22) := by decide +kernel
theorem fe_22_13 : am_fe 22 13 = some (8, some .int, .iconst 0) := by decide +kernel
theorem fe_22_14 : am_fe 22 14 = some (8, some .int, .istore_n 2) := by decide +kernel
theorem fe_22_15 : am_fe 22 15 = some (8, some .int, .iconst 0) := by decide +kernel
theorem fe_22_16 : am_fe 22 16 = some (8, some .int, .istore_n 3) := by decide +kernel
theorem fe_22_17 : am_fe 22 17 = some (8, some .int, .iconst 0) := by decide +kernel
theorem fe_22_18 : am_fe 22 18 = some (8, some .int, .istore 4) := by decide +kernel
theorem fe_22_20 : am_fe 22 20 = some (8, some .int, .iload 4) := by decide +kernel
theorem fe_22_22 : am_fe 22 22 = some (8, some .int, .aload_n 1) := by decide +kernel
theorem fe_22_23 : am_fe 22 23 = some (8, some .int, .invokevirtual 43) := by decide +kernel
theorem fe_22_26 : am_fe 22 26 = some (8, some .int, .if_icmp .gt 63) := by decide +kernel
theorem fe_22_29 : am_fe 22 29 = some (8, some .int, .iload 4) := by decide +kernel
theorem fe_22_31 : am_fe 22 31 = some (8, some .int, .aload_n 1) := by decide +kernel
theorem fe_22_32 : am_fe 22 32 = some (8, some .int, .invokevirtual 43) := by decide +kernel
theorem fe_22_35 : am_fe 22 35 = some (8, some .int, .if_icmp .eq 14) := by decide +kernel
theorem fe_22_38 : am_fe 22 38 = some (8, some .int, .aload_n 1) := by decide +kernel
theorem fe_22_39 : am_fe 22 39 = some (8, some .int, .iload 4) := by decide +kernel
theorem fe_22_41 : am_fe 22 41 = some (8, some .int, .invokevirtual 47) := by decide +kernel
theorem fe_22_44 : am_fe 22 44 = some (8, some .int, .bipush 32) := by decide +kernel
theorem fe_22_46 : am_fe 22 46 = some (8, some .int, .if_icmp .ne 37) := by decide +kernel
theorem fe_22_49 : am_fe 22 49 = some (8, some .int, .aload_n 0) := by decide +kernel
theorem fe_22_50 : am_fe 22 50 = some (8, some .int, .aload_n 1) := by decide +kernel
theorem fe_22_51 : am_fe 22 51 = some (8, some .int, .iload_n 3) := by decide +kernel
theorem fe_22_52 : am_fe 22 52 = some (8, some .int, .iload 4) := by decide +kernel
theorem fe_22_54 : am_fe 22 54 = some (8, some .int, .invokevirtual 51) := by decide +kernel
theorem fe_22_57 : am_fe 22 57 = some (8, some .int, .ifCond .eq 18) := by decide +kernel
theorem fe_22_60 : am_fe 22 60 = some (8, some .int, .aload_n 0) := by decide +kernel
theorem fe_22_61 : am_fe 22 61 = some (8, some .int, .dup) := by decide +kernel
theorem fe_22_62 : am_fe 22 62 = some (8, some .int, .getfield 19) := by decide +kernel
theorem fe_22_65 : am_fe 22 65 = some (8, some .int, .iload 4) := by decide +kernel
theorem fe_22_67 : am_fe 22 67 = some (8, some .int, .iload_n 3) := by decide +kernel
theorem fe_22_68 : am_fe 22 68 = some (8, some .int, .isub) := by decide +kernel
theorem fe_22_69 : am_fe 22 69 = some (8, some .int, .iadd) := by decide +kernel
theorem fe_22_70 : am_fe 22 70 = some (8, some .int, .putfield 19) := by decide +kernel
theorem fe_22_73 : am_fe 22 73 = some (8, some .int, .iload_n 2) := by decide +kernel
theorem fe_22_74 : am_fe 22 74 = some (8, some .int, .ireturn) := by decide +kernel
theorem fe_22_75 : am_fe 22 75 = some (8, some .int, .iinc 2 1) := by decide +kernel
theorem fe_22_78 : am_fe 22 78 = some (8, some .int, .iload 4) := by decide +kernel
theorem fe_22_80 : am_fe 22 80 = some (8, some .int, .iconst 1) := by decide +kernel
theorem fe_22_81 : am_fe 22 81 = some (8, some .int, .iadd) := by decide +kernel
theorem fe_22_82 : am_fe 22 82 = some (8, some .int, .istore_n 3) := by decide +kernel
theorem fe_22_83 : am_fe 22 83 = some (8, some .int, .iinc 4 1) := by decide +kernel
theorem fe_22_86 : am_fe 22 86 = some (8, some .int, .goto (-66)) := by decide +kernel
theorem fe_22_89 : am_fe 22 89 = some (8, some .int, .aload_n 0) := by decide +kernel
theorem fe_22_90 : am_fe 22 90 = some (8, some .int, .aload_n 0) := by decide +kernel
theorem fe_22_91 : am_fe 22 91 = some (8, some .int, .getfield 22) := by decide +kernel
theorem fe_22_94 : am_fe 22 94 = some (8, some .int, .iconst 0) := by decide +kernel
theorem fe_22_95 : am_fe 22 95 = some (8, some .int, .invokevirtual 32) := by decide +kernel
theorem fe_22_98 : am_fe 22 98 = some (8, some .int, .pop) := by decide +kernel
theorem fe_22_99 : am_fe 22 99 = some (8, some .int, .iconst (-1)) := by decide +kernel
theorem fe_22_100 : am_fe 22 100 = some (8, some .int, .ireturn) := by decide +kernel
theorem fe_23_0 : am_fe 23 0 = some (8, some .int, .aload_n 0) := by decide +kernel
theorem fe_23_1 : am_fe 23 1 = some (8, some .int, .getfield 19) := by decide +kernel
theorem fe_23_4 : am_fe 23 4 = some (8, some .int, .aload_n 0) := by decide +kernel
theorem fe_23_5 : am_fe 23 5 = some (8, some .int, .getfield 15) := by decide +kernel
theorem fe_23_8 : am_fe 23 8 = some (8, some .int, .if_icmp .ge 30) := by decide +kernel
theorem fe_23_11 : am_fe 23 11 = some (8, some .int, .aload_n 0) := by decide +kernel
theorem fe_23_12 : am_fe 23 12 = some (8, some .int, .getfield 9) := by decide +kernel
theorem fe_23_15 : am_fe 23 15 = some (8, some .int, .aload_n 0) := by decide +kernel
theorem fe_23_16 : am_fe 23 16 = some (8, some .int, .getfield 19) := by decide +kernel
theorem fe_23_19 : am_fe 23 19 = some (8, some .int, .iaload) := by decide +kernel
theorem fe_23_20 : am_fe 23 20 = some (8, some .int, .bipush 32) := by decide +kernel
theorem fe_23_22 : am_fe 23 22 = some (8, some .int, .if_icmp .ne 16) := by decide +kernel
theorem fe_23_25 : am_fe 23 25 = some (8, some .int, .aload_n 0) := by decide +kernel
theorem fe_23_26 : am_fe 23 26 = some (8, some .int, .dup) := by decide +kernel
theorem fe_23_27 : am_fe 23 27 = some (8, some .int, .getfield 19) := by decide +kernel
theorem fe_23_30 : am_fe 23 30 = some (8, some .int, .iconst 1) := by decide +kernel
theorem fe_23_31 : am_fe 23 31 = some (8, some .int, .iadd) := by decide +kernel
theorem fe_23_32 : am_fe 23 32 = some (8, some .int, .putfield 19) := by decide +kernel
theorem fe_23_35 : am_fe 23 35 = some (8, some .int, .goto (-35)) := by decide +kernel
theorem fe_23_38 : am_fe 23 38 = some (8, some .int, .aload_n 0) := by decide +kernel
theorem fe_23_39 : am_fe 23 39 = some (8, some .int, .getfield 19) := by decide +kernel
theorem fe_23_42 : am_fe 23 42 = some (8, some .int, .aload_n 0) := by decide +kernel
theorem fe_23_43 : am_fe 23 43 = some (8, some .int, .getfield 15) := by decide +kernel
theorem fe_23_46 : am_fe 23 46 = some (8, some .int, .if_icmp .ge 15) := by decide +kernel
theorem fe_23_49 : am_fe 23 49 = some (8, some .int, .aload_n 0) := by decide +kernel
theorem fe_23_50 : am_fe 23 50 = some (8, some .int, .getfield 9) := by decide +kernel
theorem fe_23_53 : am_fe 23 53 = some (8, some .int, .aload_n 0) := by decide +kernel
theorem fe_23_54 : am_fe 23 54 = some (8, some .int, .getfield 19) := by decide +kernel
theorem fe_23_57 : am_fe 23 57 = some (8, some .int, .iaload) := by decide +kernel
theorem fe_23_58 : am_fe 23 58 = some (8, some .int, .goto 4) := by decide +kernel
theorem fe_23_61 : am_fe 23 61 = some (8, some .int, .iconst (-1)) := by decide +kernel
theorem fe_23_62 : am_fe 23 62 = some (8, some .int, .ireturn) := by decide +kernel
theorem fe_24_0 : am_fe 24 0 = some (13, some .int, .aload_n 0) := by decide +kernel
theorem fe_24_1 : am_fe 24 1 = some (13, some .int, .getfield 9) := by decide +kernel
theorem fe_24_4 : am_fe 24 4 = some (13, some .int, .arraylength) := by decide +kernel
theorem fe_24_5 : am_fe 24 5 = some (13, some .int, .aload_n 0) := by decide +kernel
theorem fe_24_6 : am_fe 24 6 = some (13, some .int, .invokevirtual 335) := by decide +kernel
theorem fe_24_9 : am_fe 24 9 = some (13, some .int, .ishr) := by decide +kernel
theorem fe_24_10 : am_fe 24 10 = some (13, some .int, .ireturn) := by decide +kernel
theorem fe_25_0 : am_fe 25 0 = some (13, some .byte, .getstatic 38) := by decide +kernel
theorem fe_25_3 : am_fe 25 3 = some (13, some .byte, .ifCond .eq 10) := by decide +kernel
theorem fe_25_6 : am_fe 25 6 = some (13, some .byte, .aload_n 0) := by decide +kernel
theorem fe_25_7 : am_fe 25 7 = some (13, some .byte, .getfield 15) := by decide +kernel
theorem fe_25_10 : am_fe 25 10 = some (13, some .byte, .goto 4) := by decide +kernel
theorem fe_25_13 : am_fe 25 13 = some (13, some .byte, .iconst 1) := by decide +kernel
theorem fe_25_14 : am_fe 25 14 = some (13, some .byte, .ireturn) := by decide +kernel
theorem fe_26_0 : am_fe 26 0 = some (13, some .char, .aload_n 0) := by decide +kernel
theorem fe_26_1 : am_fe 26 1 = some (13, some .char, .invokevirtual 492) := by decide +kernel
theorem fe_26_4 : am_fe 26 4 = some (13, some .char, .ifCond .eq 12) := by decide +kernel
theorem fe_26_7 : am_fe 26 7 = some (13, some .char, .aload_n 0) := by decide +kernel
theorem fe_26_8 : am_fe 26 8 = some (13, some .char, .getfield 9) := by decide +kernel
theorem fe_26_11 : am_fe 26 11 = some (13, some .char, .iload_n 1) := by decide +kernel
theorem fe_26_12 : am_fe 26 12 = some (13, some .char, .invokestatic 495) := by decide +kernel
theorem fe_26_15 : am_fe 26 15 = some (13, some .char, .ireturn) := by decide +kernel
theorem fe_26_16 : am_fe 26 16 = some (13, some .char, .aload_n 0) := by decide +kernel
theorem fe_26_17 : am_fe 26 17 = some (13, some .char, .getfield 9) := by decide +kernel
theorem fe_26_20 : am_fe 26 20 = some (13, some .char, .iload_n 1) := by decide +kernel
theorem fe_26_21 : am_fe 26 21 = some (13, some .char, .invokestatic 498) := by decide +kernel
theorem fe_26_24 : am_fe 26 24 = some (13, some .char, .ireturn) := by decide +kernel
theorem fe_27_0 : am_fe 27 0 = some (13, some .boolean, .getstatic 38) := by decide +kernel
theorem fe_27_3 : am_fe 27 3 = some (13, some .boolean, .ifCond .eq 14) := by decide +kernel
theorem fe_27_6 : am_fe 27 6 = some (13, some .boolean, .aload_n 0) := by decide +kernel
theorem fe_27_7 : am_fe 27 7 = some (13, some .boolean, .getfield 15) := by decide +kernel
theorem fe_27_10 : am_fe 27 10 = some (13, some .boolean, .ifCond .ne 7) := by decide +kernel
theorem fe_27_13 : am_fe 27 13 = some (13, some .boolean, .iconst 1) := by decide +kernel
theorem fe_27_14 : am_fe 27 14 = some (13, some .boolean, .goto 4) := by decide +kernel
theorem fe_27_17 : am_fe 27 17 = some (13, some .boolean, .iconst 0) := by decide +kernel
theorem fe_27_18 : am_fe 27 18 = some (13, some .boolean, .ireturn) := by decide +kernel
theorem fe_28_0 : am_fe 28 0 = some (14, some .char, .iload_n 1) := by decide +kernel
theorem fe_28_1 : am_fe 28 1 = some (14, some .char, .aload_n 0) := by decide +kernel
theorem fe_28_2 : am_fe 28 2 = some (14, some .char, .arraylength) := by decide +kernel
theorem fe_28_3 : am_fe 28 3 = some (14, some .char, .invokestatic 9) := by decide +kernel
theorem fe_28_6 : am_fe 28 6 = some (14, some .char, .aload_n 0) := by decide +kernel
theorem fe_28_7 : am_fe 28 7 = some (14, some .char, .iload_n 1) := by decide +kernel
theorem fe_28_8 : am_fe 28 8 = some (14, some .char, .baload) := by decide +kernel
theorem fe_28_9 : am_fe 28 9 = some (14, some .char, .sipush 255) := by decide +kernel
theorem fe_28_12 : am_fe 28 12 = some (14, some .char, .iand) := by decide +kernel
theorem fe_28_13 : am_fe 28 13 = some (14, some .char, .i2c) := by decide +kernel
theorem fe_28_14 : am_fe 28 14 = some (14, some .char, .ireturn) := by decide +kernel
theorem fe_29_0 : am_fe 29 0 = some (13, none, .iload_n 0) := by decide +kernel
theorem fe_29_1 : am_fe 29 1 = some (13, none, .iload_n 1) := by decide +kernel
theorem fe_29_2 : am_fe 29 2 = some (13, none, .getstatic 1053) := by decide +kernel
theorem fe_29_5 : am_fe 29 5 = some (13, none, .invokestatic 1059) := by decide +kernel
theorem fe_29_8 : am_fe 29 8 = some (13, none, .pop) := by decide +kernel
theorem fe_29_9 : am_fe 29 9 = some (13, none, .return_) := by decide +kernel
theorem fe_30_0 : am_fe 30 0 = some (21, some .int, .iload_n 0) := by decide +kernel
theorem fe_30_1 : am_fe 30 1 = some (21, some .int, .ifCond .lt 8) := by decide +kernel
theorem fe_30_4 : am_fe 30 4 = some (21, some .int, .iload_n 0) := by decide +kernel
theorem fe_30_5 : am_fe 30 5 = some (21, some .int, .iload_n 1) := by decide +kernel
theorem fe_30_6 : am_fe 30 6 = some (21, some .int, .if_icmp .lt 10) := by decide +kernel
theorem fe_30_9 : am_fe 30 9 = some (21, some .int, .aload_n 2) := by decide +kernel
theorem fe_30_10 : am_fe 30 10 = some (21, some .int, .iload_n 0) := by decide +kernel
theorem fe_30_11 : am_fe 30 11 = some (21, some .int, .iload_n 1) := by decide +kernel
theorem fe_30_12 : am_fe 30 12 = some (21, some .int, .invokestatic 95) := by decide +kernel
theorem fe_30_15 : am_fe 30 15 = some (21, some .int, .athrow) := by decide +kernel
theorem fe_30_16 : am_fe 30 16 = some (21, some .int, .iload_n 0) := by decide +kernel
theorem fe_30_17 : am_fe 30 17 = some (21, some .int, .ireturn) := by decide +kernel
theorem fe_31_0 : am_fe 31 0 = some (19, some .char, .iload_n 1) := by decide +kernel
theorem fe_31_1 : am_fe 31 1 = some (19, some .char, .aload_n 0) := by decide +kernel
theorem fe_31_2 : am_fe 31 2 = some (19, some .char, .invokestatic 67) := by decide +kernel
theorem fe_31_5 : am_fe 31 5 = some (19, some .char, .aload_n 0) := by decide +kernel
theorem fe_31_6 : am_fe 31 6 = some (19, some .char, .iload_n 1) := by decide +kernel
theorem fe_31_7 : am_fe 31 7 = some (19, some .char, .invokestatic 71) := by decide +kernel
theorem fe_31_10 : am_fe 31 10 = some (19, some .char, .ireturn) := by decide +kernel
theorem fe_32_0 : am_fe 32 0 = some (19, none, .iload_n 0) := by decide +kernel
theorem fe_32_1 : am_fe 32 1 = some (19, none, .aload_n 1) := by decide +kernel
theorem fe_32_2 : am_fe 32 2 = some (19, none, .invokestatic 48) := by decide +kernel
theorem fe_32_5 : am_fe 32 5 = some (19, none, .invokestatic 414) := by decide +kernel
theorem fe_32_8 : am_fe 32 8 = some (19, none, .return_) := by decide +kernel
theorem fe_33_0 : am_fe 33 0 = some (19, some .int, .aload_n 0) := by decide +kernel
theorem fe_33_1 : am_fe 33 1 = some (19, some .int, .arraylength) := by decide +kernel
theorem fe_33_2 : am_fe 33 2 = some (19, some .int, .iconst 1) := by decide +kernel
theorem fe_33_3 : am_fe 33 3 = some (19, some .int, .ishr) := by decide +kernel
theorem fe_33_4 : am_fe 33 4 = some (19, some .int, .ireturn) := by decide +kernel
theorem fe_34_0 : am_fe 34 0 = some (19, some .char, .getstatic 44) := by decide +kernel
theorem fe_34_3 : am_fe 34 3 = some (19, some .char, .ifCond .ne 25) := by decide +kernel
theorem fe_34_6 : am_fe 34 6 = some (19, some .char, .iload_n 1) := by decide +kernel
theorem fe_34_7 : am_fe 34 7 = some (19, some .char, .ifCond .lt 11) := by decide +kernel
theorem fe_34_10 : am_fe 34 10 = some (19, some .char, .iload_n 1) := by decide +kernel
theorem fe_34_11 : am_fe 34 11 = some (19, some .char, .aload_n 0) := by decide +kernel
theorem fe_34_12 : am_fe 34 12 = some (19, some .char, .invokestatic 48) := by decide +kernel
theorem fe_34_15 : am_fe 34 15 = some (19, some .char, .if_icmp .lt 13) := by decide +kernel
theorem fe_34_18 : am_fe 34 18 = some (19, some .char, .new 52) := by decide +kernel
theorem fe_34_21 : am_fe 34 21 = some (19, some .char, .dup) := by decide +kernel
theorem fe_34_22 : am_fe 34 22 = some (19, some .char, .ldc 54) := by decide +kernel
theorem fe_34_24 : am_fe 34 24 = some (19, some .char, .invokespecial 56) := by decide +kernel
theorem fe_34_27 : am_fe 34 27 = some (19, some .char, .athrow) := by decide +kernel
theorem fe_34_28 : am_fe 34 28 = some (19, some .char, .iload_n 1) := by decide +kernel
theorem fe_34_29 : am_fe 34 29 = some (19, some .char, .iconst 1) := by decide +kernel
theorem fe_34_30 : am_fe 34 30 = some (19, some .char, .ishl) := by decide +kernel
theorem fe_34_31 : am_fe 34 31 = some (19, some .char, .istore_n 1) := by decide +kernel
theorem fe_34_32 : am_fe 34 32 = some (19, some .char, .aload_n 0) := by decide +kernel
theorem fe_34_33 : am_fe 34 33 = some (19, some .char, .iload_n 1) := by decide +kernel
theorem fe_34_34 : am_fe 34 34 = some (19, some .char, .iinc 1 1) := by decide +kernel
theorem fe_34_37 : am_fe 34 37 = some (19, some .char, .baload) := by decide +kernel
theorem fe_34_38 : am_fe 34 38 = some (19, some .char, .sipush 255) := by decide +kernel
theorem fe_34_41 : am_fe 34 41 = some (19, some .char, .iand) := by decide +kernel
theorem fe_34_42 : am_fe 34 42 = some (19, some .char, .getstatic 59) := by decide +kernel
theorem fe_34_45 : am_fe 34 45 = some (19, some .char, .ishl) := by decide +kernel
theorem fe_34_46 : am_fe 34 46 = some (19, some .char, .aload_n 0) := by decide +kernel
theorem fe_34_47 : am_fe 34 47 = some (19, some .char, .iload_n 1) := by decide +kernel
theorem fe_34_48 : am_fe 34 48 = some (19, some .char, .baload) := by decide +kernel
theorem fe_34_49 : am_fe 34 49 = some (19, some .char, .sipush 255) := by decide +kernel
theorem fe_34_52 : am_fe 34 52 = some (19, some .char, .iand) := by decide +kernel
theorem fe_34_53 : am_fe 34 53 = some (19, some .char, .getstatic 63) := by decide +kernel
theorem fe_34_56 : am_fe 34 56 = some (19, some .char, .ishl) := by decide +kernel
theorem fe_34_57 : am_fe 34 57 = some (19, some .char, .ior) := by decide +kernel
theorem fe_34_58 : am_fe 34 58 = some (19, some .char, .i2c) := by decide +kernel
theorem fe_34_59 : am_fe 34 59 = some (19, some .char, .ireturn) := by decide +kernel
theorem fe_35_0 : am_fe 35 0 = some (8, some .boolean, .aload_n 0) := by decide +kernel
theorem fe_35_1 : am_fe 35 1 = some (8, some .boolean, .getfield 19) := by decide +kernel
theorem fe_35_4 : am_fe 35 4 = some (8, some .boolean, .iload_n 3) := by decide +kernel
theorem fe_35_5 : am_fe 35 5 = some (8, some .boolean, .iadd) := by decide +kernel
theorem fe_35_6 : am_fe 35 6 = some (8, some .boolean, .iload_n 2) := by decide +kernel
theorem fe_35_7 : am_fe 35 7 = some (8, some .boolean, .isub) := by decide +kernel
theorem fe_35_8 : am_fe 35 8 = some (8, some .boolean, .istore 4) := by decide +kernel
theorem fe_35_10 : am_fe 35 10 = some (8, some .boolean, .iload 4) := by decide +kernel
theorem fe_35_12 : am_fe 35 12 = some (8, some .boolean, .aload_n 0) := by decide +kernel
theorem fe_35_13 : am_fe 35 13 = some (8, some .boolean, .getfield 15) := by decide +kernel
theorem fe_35_16 : am_fe 35 16 = some (8, some .boolean, .if_icmp .gt 36) := by decide +kernel
theorem fe_35_19 : am_fe 35 19 = some (8, some .boolean, .iload 4) := by decide +kernel
theorem fe_35_21 : am_fe 35 21 = some (8, some .boolean, .aload_n 0) := by decide +kernel
theorem fe_35_22 : am_fe 35 22 = some (8, some .boolean, .getfield 15) := by decide +kernel
theorem fe_35_25 : am_fe 35 25 = some (8, some .boolean, .if_icmp .ge 29) := by decide +kernel
theorem fe_35_28 : am_fe 35 28 = some (8, some .boolean, .aload_n 0) := by decide +kernel
theorem fe_35_29 : am_fe 35 29 = some (8, some .boolean, .getfield 9) := by decide +kernel
theorem fe_35_32 : am_fe 35 32 = some (8, some .boolean, .iload 4) := by decide +kernel
theorem fe_35_34 : am_fe 35 34 = some (8, some .boolean, .iaload) := by decide +kernel
theorem fe_35_35 : am_fe 35 35 = some (8, some .boolean, .bipush 97) := by decide +kernel
theorem fe_35_37 : am_fe 35 37 = some (8, some .boolean, .if_icmp .lt 17) := by decide +kernel
theorem fe_35_40 : am_fe 35 40 = some (8, some .boolean, .aload_n 0) := by decide +kernel
theorem fe_35_41 : am_fe 35 41 = some (8, some .boolean, .getfield 9) := by decide +kernel
theorem fe_35_44 : am_fe 35 44 = some (8, some .boolean, .iload 4) := by decide +kernel
theorem fe_35_46 : am_fe 35 46 = some (8, some .boolean, .iaload) := by decide +kernel
theorem fe_35_47 : am_fe 35 47 = some (8, some .boolean, .bipush 122) := by decide +kernel
theorem fe_35_49 : am_fe 35 49 = some (8, some .boolean, .if_icmp .gt 5) := by decide +kernel
theorem fe_35_52 : am_fe 35 52 = some (8, some .boolean, .iconst 0) := by decide +kernel
theorem fe_35_53 : am_fe 35 53 = some (8, some .boolean, .ireturn) := by decide +kernel
theorem fe_35_54 : am_fe 35 54 = some (8, some .boolean, .iload_n 2) := by decide +kernel
theorem fe_35_55 : am_fe 35 55 = some (8, some .boolean, .istore 5) := by decide +kernel
theorem fe_35_57 : am_fe 35 57 = some (8, some .boolean, .iload 5) := by decide +kernel
theorem fe_35_59 : am_fe 35 59 = some (8, some .boolean, .iload_n 3) := by decide +kernel
theorem fe_35_60 : am_fe 35 60 = some (8, some .boolean, .if_icmp .ge 34) := by decide +kernel
theorem fe_35_63 : am_fe 35 63 = some (8, some .boolean, .aload_n 1) := by decide +kernel
theorem fe_35_64 : am_fe 35 64 = some (8, some .boolean, .iload 5) := by decide +kernel
theorem fe_35_66 : am_fe 35 66 = some (8, some .boolean, .invokevirtual 47) := by decide +kernel
theorem fe_35_69 : am_fe 35 69 = some (8, some .boolean, .aload_n 0) := by decide +kernel
theorem fe_35_70 : am_fe 35 70 = some (8, some .boolean, .getfield 9) := by decide +kernel
theorem fe_35_73 : am_fe 35 73 = some (8, some .boolean, .aload_n 0) := by decide +kernel
theorem fe_35_74 : am_fe 35 74 = some (8, some .boolean, .getfield 19) := by decide +kernel
theorem fe_35_77 : am_fe 35 77 = some (8, some .boolean, .iload 5) := by decide +kernel
theorem fe_35_79 : am_fe 35 79 = some (8, some .boolean, .iadd) := by decide +kernel
theorem fe_35_80 : am_fe 35 80 = some (8, some .boolean, .iload_n 2) := by decide +kernel
theorem fe_35_81 : am_fe 35 81 = some (8, some .boolean, .isub) := by decide +kernel
theorem fe_35_82 : am_fe 35 82 = some (8, some .boolean, .iaload) := by decide +kernel
theorem fe_35_83 : am_fe 35 83 = some (8, some .boolean, .if_icmp .eq 5) := by decide +kernel
theorem fe_35_86 : am_fe 35 86 = some (8, some .boolean, .iconst 0) := by decide +kernel
theorem fe_35_87 : am_fe 35 87 = some (8, some .boolean, .ireturn) := by decide +kernel
theorem fe_35_88 : am_fe 35 88 = some (8, some .boolean, .iinc 5 1) := by decide +kernel
theorem fe_35_91 : am_fe 35 91 = some (8, some .boolean, .goto (-34)) := by decide +kernel
theorem fe_35_94 : am_fe 35 94 = some (8, some .boolean, .iconst 1) := by decide +kernel
theorem fe_35_95 : am_fe 35 95 = some (8, some .boolean, .ireturn) := by decide +kernel
theorem fe_36_0 : am_fe 36 0 = some (8, some .boolean, .aload_n 0) := by decide +kernel
theorem fe_36_1 : am_fe 36 1 = some (8, some .boolean, .getfield 25) := by decide +kernel
theorem fe_36_4 : am_fe 36 4 = some (8, some .boolean, .ifCond .ne 15) := by decide +kernel
theorem fe_36_7 : am_fe 36 7 = some (8, some .boolean, .aload_n 0) := by decide +kernel
theorem fe_36_8 : am_fe 36 8 = some (8, some .boolean, .iconst 1) := by decide +kernel
theorem fe_36_9 : am_fe 36 9 = some (8, some .boolean, .bipush 8) := by decide +kernel
theorem fe_36_11 : am_fe 36 11 = some (8, some .boolean, .iload_n 1) := by decide +kernel
theorem fe_36_12 : am_fe 36 12 = some (8, some .boolean, .imul) := by decide +kernel
theorem fe_36_13 : am_fe 36 13 = some (8, some .boolean, .iadd) := by decide +kernel
theorem fe_36_14 : am_fe 36 14 = some (8, some .boolean, .iload_n 2) := by decide +kernel
theorem fe_36_15 : am_fe 36 15 = some (8, some .boolean, .iadd) := by decide +kernel
theorem fe_36_16 : am_fe 36 16 = some (8, some .boolean, .putfield 25) := by decide +kernel
theorem fe_36_19 : am_fe 36 19 = some (8, some .boolean, .iconst 0) := by decide +kernel
theorem fe_36_20 : am_fe 36 20 = some (8, some .boolean, .ireturn) := by decide +kernel
theorem fe_37_0 : am_fe 37 0 = some (5, some .boolean, .iload_n 1) := by decide +kernel
theorem fe_37_1 : am_fe 37 1 = some (5, some .boolean, .tableswitch 101 4 7 #[31, 49, 66, 83]) := by decide +kernel
theorem fe_37_32 : am_fe 37 32 = some (5, some .boolean, .aload_n 0) := by decide +kernel
theorem fe_37_33 : am_fe 37 33 = some (5, some .boolean, .getfield 12) := by decide +kernel
theorem fe_37_36 : am_fe 37 36 = some (5, some .boolean, .getfield 120) := by decide +kernel
theorem fe_37_39 : am_fe 37 39 = some (5, some .boolean, .bipush 6) := by decide +kernel
theorem fe_37_41 : am_fe 37 41 = some (5, some .boolean, .if_icmp .lt 7) := by decide +kernel
theorem fe_37_44 : am_fe 37 44 = some (5, some .boolean, .iconst 1) := by decide +kernel
theorem fe_37_45 : am_fe 37 45 = some (5, some .boolean, .goto 4) := by decide +kernel
theorem fe_37_48 : am_fe 37 48 = some (5, some .boolean, .iconst 0) := by decide +kernel
theorem fe_37_49 : am_fe 37 49 = some (5, some .boolean, .ireturn) := by decide +kernel
theorem fe_37_50 : am_fe 37 50 = some (5, some .boolean, .aload_n 0) := by decide +kernel
theorem fe_37_51 : am_fe 37 51 = some (5, some .boolean, .getfield 12) := by decide +kernel
theorem fe_37_54 : am_fe 37 54 = some (5, some .boolean, .getfield 123) := by decide +kernel
theorem fe_37_57 : am_fe 37 57 = some (5, some .boolean, .iconst 4) := by decide +kernel
theorem fe_37_58 : am_fe 37 58 = some (5, some .boolean, .if_icmp .lt 7) := by decide +kernel
theorem fe_37_61 : am_fe 37 61 = some (5, some .boolean, .iconst 1) := by decide +kernel
theorem fe_37_62 : am_fe 37 62 = some (5, some .boolean, .goto 4) := by decide +kernel
theorem fe_37_65 : am_fe 37 65 = some (5, some .boolean, .iconst 0) := by decide +kernel
theorem fe_37_66 : am_fe 37 66 = some (5, some .boolean, .ireturn) := by decide +kernel
theorem fe_37_67 : am_fe 37 67 = some (5, some .boolean, .aload_n 0) := by decide +kernel
theorem fe_37_68 : am_fe 37 68 = some (5, some .boolean, .getfield 21) := by decide +kernel
theorem fe_37_71 : am_fe 37 71 = some (5, some .boolean, .invokevirtual 126) := by decide +kernel
theorem fe_37_74 : am_fe 37 74 = some (5, some .boolean, .iconst 5) := by decide +kernel
theorem fe_37_75 : am_fe 37 75 = some (5, some .boolean, .if_icmp .lt 7) := by decide +kernel
theorem fe_37_78 : am_fe 37 78 = some (5, some .boolean, .iconst 1) := by decide +kernel
theorem fe_37_79 : am_fe 37 79 = some (5, some .boolean, .goto 4) := by decide +kernel
theorem fe_37_82 : am_fe 37 82 = some (5, some .boolean, .iconst 0) := by decide +kernel
theorem fe_37_83 : am_fe 37 83 = some (5, some .boolean, .ireturn) := by decide +kernel
theorem fe_37_84 : am_fe 37 84 = some (5, some .boolean, .aload_n 0) := by decide +kernel
theorem fe_37_85 : am_fe 37 85 = some (5, some .boolean, .getfield 21) := by decide +kernel
theorem fe_37_88 : am_fe 37 88 = some (5, some .boolean, .getfield 130) := by decide +kernel
theorem fe_37_91 : am_fe 37 91 = some (5, some .boolean, .bipush 10) := by decide +kernel
theorem fe_37_93 : am_fe 37 93 = some (5, some .boolean, .if_icmp .lt 7) := by decide +kernel
theorem fe_37_96 : am_fe 37 96 = some (5, some .boolean, .iconst 1) := by decide +kernel
theorem fe_37_97 : am_fe 37 97 = some (5, some .boolean, .goto 4) := by decide +kernel
theorem fe_37_100 : am_fe 37 100 = some (5, some .boolean, .iconst 0) := by decide +kernel
theorem fe_37_101 : am_fe 37 101 = some (5, some .boolean, .ireturn) := by decide +kernel
theorem fe_37_102 : am_fe 37 102 = some (5, some .boolean, .iconst 0) := by decide +kernel
theorem fe_37_103 : am_fe 37 103 = some (5, some .boolean, .ireturn) := by decide +kernel
theorem fe_38_0 : am_fe 38 0 = some (9, some .int, .iconst 0) := by decide +kernel
theorem fe_38_1 : am_fe 38 1 = some (9, some .int, .istore_n 1) := by decide +kernel
theorem fe_38_2 : am_fe 38 2 = some (9, some .int, .iconst 0) := by decide +kernel
theorem fe_38_3 : am_fe 38 3 = some (9, some .int, .istore_n 2) := by decide +kernel
theorem fe_38_4 : am_fe 38 4 = some (9, some .int, .iload_n 2) := by decide +kernel
theorem fe_38_5 : am_fe 38 5 = some (9, some .int, .bipush 16) := by decide +kernel
theorem fe_38_7 : am_fe 38 7 = some (9, some .int, .if_icmp .ge 21) := by decide +kernel
theorem fe_38_10 : am_fe 38 10 = some (9, some .int, .aload_n 0) := by decide +kernel
theorem fe_38_11 : am_fe 38 11 = some (9, some .int, .getfield 46) := by decide +kernel
theorem fe_38_14 : am_fe 38 14 = some (9, some .int, .iload_n 2) := by decide +kernel
theorem fe_38_15 : am_fe 38 15 = some (9, some .int, .iaload) := by decide +kernel
theorem fe_38_16 : am_fe 38 16 = some (9, some .int, .ifCond .le 6) := by decide +kernel
theorem fe_38_19 : am_fe 38 19 = some (9, some .int, .iinc 1 1) := by decide +kernel
theorem fe_38_22 : am_fe 38 22 = some (9, some .int, .iinc 2 1) := by decide +kernel
theorem fe_38_25 : am_fe 38 25 = some (9, some .int, .goto (-21)) := by decide +kernel
theorem fe_38_28 : am_fe 38 28 = some (9, some .int, .iload_n 1) := by decide +kernel
theorem fe_38_29 : am_fe 38 29 = some (9, some .int, .ireturn) := by decide +kernel
theorem fe_39_0 : am_fe 39 0 = some (5, some .boolean, .aload_n 1) := by decide +kernel
theorem fe_39_1 : am_fe 39 1 = some (5, some .boolean, .iconst 2) := by decide +kernel
theorem fe_39_2 : am_fe 39 2 = some (5, some .boolean, .bipush 16) := by decide +kernel
theorem fe_39_4 : am_fe 39 4 = some (5, some .boolean, .invokevirtual 72) := by decide +kernel
theorem fe_39_7 : am_fe 39 7 = some (5, some .boolean, .istore_n 2) := by decide +kernel
theorem fe_39_8 : am_fe 39 8 = some (5, some .boolean, .iload_n 2) := by decide +kernel
theorem fe_39_9 : am_fe 39 9 = some (5, some .boolean, .iconst (-1)) := by decide +kernel
theorem fe_39_10 : am_fe 39 10 = some (5, some .boolean, .if_icmp .ne 5) := by decide +kernel
theorem fe_39_13 : am_fe 39 13 = some (5, some .boolean, .iconst 0) := by decide +kernel
theorem fe_39_14 : am_fe 39 14 = some (5, some .boolean, .ireturn) := by decide +kernel
theorem fe_39_15 : am_fe 39 15 = some (5, some .boolean, .aload_n 0) := by decide +kernel
theorem fe_39_16 : am_fe 39 16 = some (5, some .boolean, .getfield 12) := by decide +kernel
theorem fe_39_19 : am_fe 39 19 = some (5, some .boolean, .iload_n 2) := by decide +kernel
theorem fe_39_20 : am_fe 39 20 = some (5, some .boolean, .invokevirtual 30) := by decide +kernel
theorem fe_39_23 : am_fe 39 23 = some (5, some .boolean, .iconst 1) := by decide +kernel
theorem fe_39_24 : am_fe 39 24 = some (5, some .boolean, .ireturn) := by decide +kernel
theorem fe_40_0 : am_fe 40 0 = some (8, some .int, .aload_n 0) := by decide +kernel
theorem fe_40_1 : am_fe 40 1 = some (8, some .int, .invokevirtual 36) := by decide +kernel
theorem fe_40_4 : am_fe 40 4 = some (8, some .int, .istore_n 3) := by decide +kernel
theorem fe_40_5 : am_fe 40 5 = some (8, some .int, .iload_n 3) := by decide +kernel
theorem fe_40_6 : am_fe 40 6 = some (8, some .int, .iconst (-1)) := by decide +kernel
theorem fe_40_7 : am_fe 40 7 = some (8, some .int, .if_icmp .eq 25) := by decide +kernel
theorem fe_40_10 : am_fe 40 10 = some (8, some .int, .iload_n 3) := by decide +kernel
theorem fe_40_11 : am_fe 40 11 = some (8, some .int, .iload_n 1) := by decide +kernel
theorem fe_40_12 : am_fe 40 12 = some (8, some .int, .if_icmp .lt 8) := by decide +kernel
theorem fe_40_15 : am_fe 40 15 = some (8, some .int, .iload_n 3) := by decide +kernel
theorem fe_40_16 : am_fe 40 16 = some (8, some .int, .iload_n 2) := by decide +kernel
theorem fe_40_17 : am_fe 40 17 = some (8, some .int, .if_icmp .le 15) := by decide +kernel
theorem fe_40_20 : am_fe 40 20 = some (8, some .int, .aload_n 0) := by decide +kernel
theorem fe_40_21 : am_fe 40 21 = some (8, some .int, .aload_n 0) := by decide +kernel
theorem fe_40_22 : am_fe 40 22 = some (8, some .int, .getfield 22) := by decide +kernel
theorem fe_40_25 : am_fe 40 25 = some (8, some .int, .iconst 1) := by decide +kernel
theorem fe_40_26 : am_fe 40 26 = some (8, some .int, .invokevirtual 32) := by decide +kernel
theorem fe_40_29 : am_fe 40 29 = some (8, some .int, .pop) := by decide +kernel
theorem fe_40_30 : am_fe 40 30 = some (8, some .int, .iconst (-1)) := by decide +kernel
theorem fe_40_31 : am_fe 40 31 = some (8, some .int, .ireturn) := by decide +kernel
theorem fe_40_32 : am_fe 40 32 = some (8, some .int, .iload_n 3) := by decide +kernel
theorem fe_40_33 : am_fe 40 33 = some (8, some .int, .ireturn) := by decide +kernel
theorem fe_41_0 : am_fe 41 0 = some (8, some .int, .aload_n 0) := by decide +kernel
theorem fe_41_1 : am_fe 41 1 = some (8, some .int, .invokevirtual 28) := by decide +kernel
theorem fe_41_4 : am_fe 41 4 = some (8, some .int, .pop) := by decide +kernel
theorem fe_41_5 : am_fe 41 5 = some (8, some .int, .aload_n 0) := by decide +kernel
theorem fe_41_6 : am_fe 41 6 = some (8, some .int, .aload_n 0) := by decide +kernel
theorem fe_41_7 : am_fe 41 7 = some (8, some .int, .getfield 19) := by decide +kernel
theorem fe_41_10 : am_fe 41 10 = some (8, some .int, .putfield 22) := by decide +kernel
theorem fe_41_13 : am_fe 41 13 = some (8, some .int, .iconst 0) := by decide +kernel
theorem fe_41_14 : am_fe 41 14 = some (8, some .int, .istore_n 1) := by decide +kernel
theorem fe_41_15 : am_fe 41 15 = some (8, some .int, .iconst 0) := by decide +kernel
theorem fe_41_16 : am_fe 41 16 = some (8, some .int, .istore_n 2) := by decide +kernel
theorem fe_41_17 : am_fe 41 17 = some (8, some .int, .aload_n 0) := by decide +kernel
theorem fe_41_18 : am_fe 41 18 = some (8, some .int, .getfield 19) := by decide +kernel
theorem fe_41_21 : am_fe 41 21 = some (8, some .int, .aload_n 0) := by decide +kernel
theorem fe_41_22 : am_fe 41 22 = some (8, some .int, .getfield 15) := by decide +kernel
theorem fe_41_25 : am_fe 41 25 = some (8, some .int, .if_icmp .ge 74) := by decide +kernel
theorem fe_41_28 : am_fe 41 28 = some (8, some .int, .aload_n 0) := by decide +kernel
theorem fe_41_29 : am_fe 41 29 = some (8, some .int, .getfield 9) := by decide +kernel
theorem fe_41_32 : am_fe 41 32 = some (8, some .int, .aload_n 0) := by decide +kernel
theorem fe_41_33 : am_fe 41 33 = some (8, some .int, .getfield 19) := by decide +kernel
theorem fe_41_36 : am_fe 41 36 = some (8, some .int, .iaload) := by decide +kernel
theorem fe_41_37 : am_fe 41 37 = some (8, some .int, .bipush 48) := by decide +kernel
theorem fe_41_39 : am_fe 41 39 = some (8, some .int, .if_icmp .lt 60) := by decide +kernel
theorem fe_41_42 : am_fe 41 42 = some (8, some .int, .aload_n 0) := by decide +kernel
theorem fe_41_43 : am_fe 41 43 = some (8, some .int, .getfield 9) := by decide +kernel
theorem fe_41_46 : am_fe 41 46 = some (8, some .int, .aload_n 0) := by decide +kernel
theorem fe_41_47 : am_fe 41 47 = some (8, some .int, .getfield 19) := by decide +kernel
theorem fe_41_50 : am_fe 41 50 = some (8, some .int, .iaload) := by decide +kernel
theorem fe_41_51 : am_fe 41 51 = some (8, some .int, .bipush 57) := by decide +kernel
theorem fe_41_53 : am_fe 41 53 = some (8, some .int, .if_icmp .gt 46) := by decide +kernel
theorem fe_41_56 : am_fe 41 56 = some (8, some .int, .iload_n 2) := by decide +kernel
theorem fe_41_57 : am_fe 41 57 = some (8, some .int, .iconst 5) := by decide +kernel
theorem fe_41_58 : am_fe 41 58 = some (8, some .int, .if_icmp .ge 23) := by decide +kernel
theorem fe_41_61 : am_fe 41 61 = some (8, some .int, .iload_n 1) := by decide +kernel
theorem fe_41_62 : am_fe 41 62 = some (8, some .int, .bipush 10) := by decide +kernel
theorem fe_41_64 : am_fe 41 64 = some (8, some .int, .imul) := by decide +kernel
theorem fe_41_65 : am_fe 41 65 = some (8, some .int, .aload_n 0) := by decide +kernel
theorem fe_41_66 : am_fe 41 66 = some (8, some .int, .getfield 9) := by decide +kernel
theorem fe_41_69 : am_fe 41 69 = some (8, some .int, .aload_n 0) := by decide +kernel
theorem fe_41_70 : am_fe 41 70 = some (8, some .int, .getfield 19) := by decide +kernel
theorem fe_41_73 : am_fe 41 73 = some (8, some .int, .iaload) := by decide +kernel
theorem fe_41_74 : am_fe 41 74 = some (8, some .int, .iadd) := by decide +kernel
theorem fe_41_75 : am_fe 41 75 = some (8, some .int, .bipush 48) := by decide +kernel
theorem fe_41_77 : am_fe 41 77 = some (8, some .int, .isub) := by decide +kernel
theorem fe_41_78 : am_fe 41 78 = some (8, some .int, .goto 4) := by decide +kernel
theorem fe_41_81 : am_fe 41 81 = some (8, some .int, .iload_n 1) := by decide +kernel
theorem fe_41_82 : am_fe 41 82 = some (8, some .int, .istore_n 1) := by decide +kernel
theorem fe_41_83 : am_fe 41 83 = some (8, some .int, .iinc 2 1) := by decide +kernel
theorem fe_41_86 : am_fe 41 86 = some (8, some .int, .aload_n 0) := by decide +kernel
theorem fe_41_87 : am_fe 41 87 = some (8, some .int, .dup) := by decide +kernel
theorem fe_41_88 : am_fe 41 88 = some (8, some .int, .getfield 19) := by decide +kernel
theorem fe_41_91 : am_fe 41 91 = some (8, some .int, .iconst 1) := by decide +kernel
theorem fe_41_92 : am_fe 41 92 = some (8, some .int, .iadd) := by decide +kernel
theorem fe_41_93 : am_fe 41 93 = some (8, some .int, .putfield 19) := by decide +kernel
theorem fe_41_96 : am_fe 41 96 = some (8, some .int, .goto (-79)) := by decide +kernel
theorem fe_41_99 : am_fe 41 99 = some (8, some .int, .iload_n 2) := by decide +kernel
theorem fe_41_100 : am_fe 41 100 = some (8, some .int, .ifCond .eq 8) := by decide +kernel
theorem fe_41_103 : am_fe 41 103 = some (8, some .int, .iload_n 2) := by decide +kernel
theorem fe_41_104 : am_fe 41 104 = some (8, some .int, .iconst 5) := by decide +kernel
theorem fe_41_105 : am_fe 41 105 = some (8, some .int, .if_icmp .le 23) := by decide +kernel
theorem fe_41_108 : am_fe 41 108 = some (8, some .int, .aload_n 0) := by decide +kernel
theorem fe_41_109 : am_fe 41 109 = some (8, some .int, .aload_n 0) := by decide +kernel
theorem fe_41_110 : am_fe 41 110 = some (8, some .int, .getfield 22) := by decide +kernel
theorem fe_41_113 : am_fe 41 113 = some (8, some .int, .iload_n 2) := by decide +kernel
theorem fe_41_114 : am_fe 41 114 = some (8, some .int, .ifCond .ne 7) := by decide +kernel
theorem fe_41_117 : am_fe 41 117 = some (8, some .int, .iconst 0) := by decide +kernel
theorem fe_41_118 : am_fe 41 118 = some (8, some .int, .goto 4) := by decide +kernel
theorem fe_41_121 : am_fe 41 121 = some (8, some .int, .iconst 1) := by decide +kernel
theorem fe_41_122 : am_fe 41 122 = some (8, some .int, .invokevirtual 32) := by decide +kernel
theorem fe_41_125 : am_fe 41 125 = some (8, some .int, .pop) := by decide +kernel
theorem fe_41_126 : am_fe 41 126 = some (8, some .int, .iconst (-1)) := by decide +kernel
theorem fe_41_127 : am_fe 41 127 = some (8, some .int, .ireturn) := by decide +kernel
theorem fe_41_128 : am_fe 41 128 = some (8, some .int, .iload_n 1) := by decide +kernel
theorem fe_41_129 : am_fe 41 129 = some (8, some .int, .ireturn) := by decide +kernel
theorem fe_42_0 : am_fe 42 0 = some (5, some .boolean, .aload_n 1) := by decide +kernel
theorem fe_42_1 : am_fe 42 1 = some (5, some .boolean, .iconst 0) := by decide +kernel
theorem fe_42_2 : am_fe 42 2 = some (5, some .boolean, .aload_n 0) := by decide +kernel
theorem fe_42_3 : am_fe 42 3 = some (5, some .boolean, .getfield 12) := by decide +kernel
theorem fe_42_6 : am_fe 42 6 = some (5, some .boolean, .getfield 76) := by decide +kernel
theorem fe_42_9 : am_fe 42 9 = some (5, some .boolean, .iconst 1) := by decide +kernel
theorem fe_42_10 : am_fe 42 10 = some (5, some .boolean, .isub) := by decide +kernel
theorem fe_42_11 : am_fe 42 11 = some (5, some .boolean, .invokevirtual 72) := by decide +kernel
theorem fe_42_14 : am_fe 42 14 = some (5, some .boolean, .istore_n 3) := by decide +kernel
theorem fe_42_15 : am_fe 42 15 = some (5, some .boolean, .iload_n 3) := by decide +kernel
theorem fe_42_16 : am_fe 42 16 = some (5, some .boolean, .iconst (-1)) := by decide +kernel
theorem fe_42_17 : am_fe 42 17 = some (5, some .boolean, .if_icmp .ne 5) := by decide +kernel
theorem fe_42_20 : am_fe 42 20 = some (5, some .boolean, .iconst 0) := by decide +kernel
theorem fe_42_21 : am_fe 42 21 = some (5, some .boolean, .ireturn) := by decide +kernel
theorem fe_42_22 : am_fe 42 22 = some (5, some .boolean, .aload_n 0) := by decide +kernel
theorem fe_42_23 : am_fe 42 23 = some (5, some .boolean, .iload_n 2) := by decide +kernel
theorem fe_42_24 : am_fe 42 24 = some (5, some .boolean, .iload_n 3) := by decide +kernel
theorem fe_42_25 : am_fe 42 25 = some (5, some .boolean, .invokevirtual 79) := by decide +kernel
theorem fe_42_28 : am_fe 42 28 = some (5, some .boolean, .ifCond .eq 13) := by decide +kernel
theorem fe_42_31 : am_fe 42 31 = some (5, some .boolean, .aload_n 1) := by decide +kernel
theorem fe_42_32 : am_fe 42 32 = some (5, some .boolean, .aload_n 1) := by decide +kernel
theorem fe_42_33 : am_fe 42 33 = some (5, some .boolean, .getfield 58) := by decide +kernel
theorem fe_42_36 : am_fe 42 36 = some (5, some .boolean, .iconst 1) := by decide +kernel
theorem fe_42_37 : am_fe 42 37 = some (5, some .boolean, .invokevirtual 61) := by decide +kernel
theorem fe_42_40 : am_fe 42 40 = some (5, some .boolean, .ireturn) := by decide +kernel
theorem fe_42_41 : am_fe 42 41 = some (5, some .boolean, .aload_n 0) := by decide +kernel
theorem fe_42_42 : am_fe 42 42 = some (5, some .boolean, .aload_n 1) := by decide +kernel
theorem fe_42_43 : am_fe 42 43 = some (5, some .boolean, .iload_n 2) := by decide +kernel
theorem fe_42_44 : am_fe 42 44 = some (5, some .boolean, .invokevirtual 82) := by decide +kernel
theorem fe_42_47 : am_fe 42 47 = some (5, some .boolean, .istore 4) := by decide +kernel
theorem fe_42_49 : am_fe 42 49 = some (5, some .boolean, .iload 4) := by decide +kernel
theorem fe_42_51 : am_fe 42 51 = some (5, some .boolean, .iconst (-1)) := by decide +kernel
theorem fe_42_52 : am_fe 42 52 = some (5, some .boolean, .if_icmp .ne 5) := by decide +kernel
theorem fe_42_55 : am_fe 42 55 = some (5, some .boolean, .iconst 0) := by decide +kernel
theorem fe_42_56 : am_fe 42 56 = some (5, some .boolean, .ireturn) := by decide +kernel
theorem fe_42_57 : am_fe 42 57 = some (5, some .boolean, .iload_n 2) := by decide +kernel
theorem fe_42_58 : am_fe 42 58 = some (5, some .boolean, .iconst 1) := by decide +kernel
theorem fe_42_59 : am_fe 42 59 = some (5, some .boolean, .if_icmp .ne 19) := by decide +kernel
theorem fe_42_62 : am_fe 42 62 = some (5, some .boolean, .iload 4) := by decide +kernel
theorem fe_42_64 : am_fe 42 64 = some (5, some .boolean, .iload_n 3) := by decide +kernel
theorem fe_42_65 : am_fe 42 65 = some (5, some .boolean, .if_icmp .ne 13) := by decide +kernel
theorem fe_42_68 : am_fe 42 68 = some (5, some .boolean, .aload_n 1) := by decide +kernel
theorem fe_42_69 : am_fe 42 69 = some (5, some .boolean, .aload_n 1) := by decide +kernel
theorem fe_42_70 : am_fe 42 70 = some (5, some .boolean, .getfield 58) := by decide +kernel
theorem fe_42_73 : am_fe 42 73 = some (5, some .boolean, .iconst 1) := by decide +kernel
theorem fe_42_74 : am_fe 42 74 = some (5, some .boolean, .invokevirtual 61) := by decide +kernel
theorem fe_42_77 : am_fe 42 77 = some (5, some .boolean, .ireturn) := by decide +kernel
theorem fe_42_78 : am_fe 42 78 = some (5, some .boolean, .aload_n 0) := by decide +kernel
theorem fe_42_79 : am_fe 42 79 = some (5, some .boolean, .iload_n 2) := by decide +kernel
theorem fe_42_80 : am_fe 42 80 = some (5, some .boolean, .iload_n 3) := by decide +kernel
theorem fe_42_81 : am_fe 42 81 = some (5, some .boolean, .iload 4) := by decide +kernel
theorem fe_42_83 : am_fe 42 83 = some (5, some .boolean, .invokevirtual 86) := by decide +kernel
theorem fe_42_86 : am_fe 42 86 = some (5, some .boolean, .iconst 1) := by decide +kernel
theorem fe_42_87 : am_fe 42 87 = some (5, some .boolean, .ireturn) := by decide +kernel
theorem fe_43_0 : am_fe 43 0 = some (5, some .boolean, .iload_n 1) := by decide +kernel
theorem fe_43_1 : am_fe 43 1 = some (5, some .boolean, .tableswitch 81 4 6 #[27, 45, 63]) := by decide +kernel
theorem fe_43_28 : am_fe 43 28 = some (5, some .boolean, .aload_n 0) := by decide +kernel
theorem fe_43_29 : am_fe 43 29 = some (5, some .boolean, .getfield 12) := by decide +kernel
theorem fe_43_32 : am_fe 43 32 = some (5, some .boolean, .getfield 114) := by decide +kernel
theorem fe_43_35 : am_fe 43 35 = some (5, some .boolean, .iload_n 2) := by decide +kernel
theorem fe_43_36 : am_fe 43 36 = some (5, some .boolean, .iaload) := by decide +kernel
theorem fe_43_37 : am_fe 43 37 = some (5, some .boolean, .ifCond .lt 7) := by decide +kernel
theorem fe_43_40 : am_fe 43 40 = some (5, some .boolean, .iconst 1) := by decide +kernel
theorem fe_43_41 : am_fe 43 41 = some (5, some .boolean, .goto 4) := by decide +kernel
theorem fe_43_44 : am_fe 43 44 = some (5, some .boolean, .iconst 0) := by decide +kernel
theorem fe_43_45 : am_fe 43 45 = some (5, some .boolean, .ireturn) := by decide +kernel
theorem fe_43_46 : am_fe 43 46 = some (5, some .boolean, .aload_n 0) := by decide +kernel
theorem fe_43_47 : am_fe 43 47 = some (5, some .boolean, .getfield 12) := by decide +kernel
theorem fe_43_50 : am_fe 43 50 = some (5, some .boolean, .getfield 117) := by decide +kernel
theorem fe_43_53 : am_fe 43 53 = some (5, some .boolean, .iload_n 2) := by decide +kernel
theorem fe_43_54 : am_fe 43 54 = some (5, some .boolean, .iaload) := by decide +kernel
theorem fe_43_55 : am_fe 43 55 = some (5, some .boolean, .ifCond .lt 7) := by decide +kernel
theorem fe_43_58 : am_fe 43 58 = some (5, some .boolean, .iconst 1) := by decide +kernel
theorem fe_43_59 : am_fe 43 59 = some (5, some .boolean, .goto 4) := by decide +kernel
theorem fe_43_62 : am_fe 43 62 = some (5, some .boolean, .iconst 0) := by decide +kernel
theorem fe_43_63 : am_fe 43 63 = some (5, some .boolean, .ireturn) := by decide +kernel
theorem fe_43_64 : am_fe 43 64 = some (5, some .boolean, .aload_n 0) := by decide +kernel
theorem fe_43_65 : am_fe 43 65 = some (5, some .boolean, .getfield 21) := by decide +kernel
theorem fe_43_68 : am_fe 43 68 = some (5, some .boolean, .getfield 108) := by decide +kernel
theorem fe_43_71 : am_fe 43 71 = some (5, some .boolean, .iload_n 2) := by decide +kernel
theorem fe_43_72 : am_fe 43 72 = some (5, some .boolean, .iaload) := by decide +kernel
theorem fe_43_73 : am_fe 43 73 = some (5, some .boolean, .ifCond .le 7) := by decide +kernel
theorem fe_43_76 : am_fe 43 76 = some (5, some .boolean, .iconst 1) := by decide +kernel
theorem fe_43_77 : am_fe 43 77 = some (5, some .boolean, .goto 4) := by decide +kernel
theorem fe_43_80 : am_fe 43 80 = some (5, some .boolean, .iconst 0) := by decide +kernel
theorem fe_43_81 : am_fe 43 81 = some (5, some .boolean, .ireturn) := by decide +kernel
theorem fe_43_82 : am_fe 43 82 = some (5, some .boolean, .iconst 0) := by decide +kernel
theorem fe_43_83 : am_fe 43 83 = some (5, some .boolean, .ireturn) := by decide +kernel
theorem fe_44_0 : am_fe 44 0 = some (5, some .int, .iload_n 2) := by decide +kernel
theorem fe_44_1 : am_fe 44 1 = some (5, some .int, .tableswitch 87 1 7 #[43, 87, 58, 66, 87, 72, 80]) := by decide +kernel
theorem fe_44_44 : am_fe 44 44 = some (5, some .int, .aload_n 1) := by decide +kernel
theorem fe_44_45 : am_fe 44 45 = some (5, some .int, .iconst 0) := by decide +kernel
theorem fe_44_46 : am_fe 44 46 = some (5, some .int, .aload_n 0) := by decide +kernel
theorem fe_44_47 : am_fe 44 47 = some (5, some .int, .getfield 12) := by decide +kernel
theorem fe_44_50 : am_fe 44 50 = some (5, some .int, .getfield 76) := by decide +kernel
theorem fe_44_53 : am_fe 44 53 = some (5, some .int, .iconst 1) := by decide +kernel
theorem fe_44_54 : am_fe 44 54 = some (5, some .int, .isub) := by decide +kernel
theorem fe_44_55 : am_fe 44 55 = some (5, some .int, .invokevirtual 72) := by decide +kernel
theorem fe_44_58 : am_fe 44 58 = some (5, some .int, .ireturn) := by decide +kernel
theorem fe_44_59 : am_fe 44 59 = some (5, some .int, .aload_n 1) := by decide +kernel
theorem fe_44_60 : am_fe 44 60 = some (5, some .int, .iconst 1) := by decide +kernel
theorem fe_44_61 : am_fe 44 61 = some (5, some .int, .bipush 9) := by decide +kernel
theorem fe_44_63 : am_fe 44 63 = some (5, some .int, .invokevirtual 72) := by decide +kernel
theorem fe_44_66 : am_fe 44 66 = some (5, some .int, .ireturn) := by decide +kernel
theorem fe_44_67 : am_fe 44 67 = some (5, some .int, .aload_n 1) := by decide +kernel
theorem fe_44_68 : am_fe 44 68 = some (5, some .int, .iconst 1) := by decide +kernel
theorem fe_44_69 : am_fe 44 69 = some (5, some .int, .invokevirtual 90) := by decide +kernel
theorem fe_44_72 : am_fe 44 72 = some (5, some .int, .ireturn) := by decide +kernel
theorem fe_44_73 : am_fe 44 73 = some (5, some .int, .aload_n 1) := by decide +kernel
theorem fe_44_74 : am_fe 44 74 = some (5, some .int, .iconst 1) := by decide +kernel
theorem fe_44_75 : am_fe 44 75 = some (5, some .int, .bipush 8) := by decide +kernel
theorem fe_44_77 : am_fe 44 77 = some (5, some .int, .invokevirtual 72) := by decide +kernel
theorem fe_44_80 : am_fe 44 80 = some (5, some .int, .ireturn) := by decide +kernel
theorem fe_44_81 : am_fe 44 81 = some (5, some .int, .aload_n 1) := by decide +kernel
theorem fe_44_82 : am_fe 44 82 = some (5, some .int, .bipush 8) := by decide +kernel
theorem fe_44_84 : am_fe 44 84 = some (5, some .int, .invokevirtual 90) := by decide +kernel
theorem fe_44_87 : am_fe 44 87 = some (5, some .int, .ireturn) := by decide +kernel
theorem fe_44_88 : am_fe 44 88 = some (5, some .int, .iconst 0) := by decide +kernel
theorem fe_44_89 : am_fe 44 89 = some (5, some .int, .ireturn) := by decide +kernel
theorem fe_45_0 : am_fe 45 0 = some (8, some .int, .aload_n 0) := by decide +kernel
theorem fe_45_1 : am_fe 45 1 = some (8, some .int, .invokevirtual 28) := by decide +kernel
theorem fe_45_4 : am_fe 45 4 = some (8, some .int, .pop) := by decide +kernel
theorem fe_45_5 : am_fe 45 5 = some (8, some .int, .aload_n 0) := by decide +kernel
theorem fe_45_6 : am_fe 45 6 = some (8, some .int, .aload_n 0) := by decide +kernel
theorem fe_45_7 : am_fe 45 7 = some (8, some .int, .getfield 19) := by decide +kernel
theorem fe_45_10 : am_fe 45 10 = some (8, some .int, .invokevirtual 39) := by decide +kernel
theorem fe_45_13 : am_fe 45 13 = some (8, some .int, .ifCond .ne 15) := by decide +kernel
theorem fe_45_16 : am_fe 45 16 = some (8, some .int, .aload_n 0) := by decide +kernel
theorem fe_45_17 : am_fe 45 17 = some (8, some .int, .aload_n 0) := by decide +kernel
theorem fe_45_18 : am_fe 45 18 = some (8, some .int, .getfield 19) := by decide +kernel
theorem fe_45_21 : am_fe 45 21 = some (8, some .int, .iconst 0) := by decide +kernel
theorem fe_45_22 : am_fe 45 22 = some (8, some .int, .invokevirtual 32) := by decide +kernel
theorem fe_45_25 : am_fe 45 25 = some (8, some .int, .pop) := by decide +kernel
theorem fe_45_26 : am_fe 45 26 = some (8, some .int, .iconst (-1)) := by decide +kernel
theorem fe_45_27 : am_fe 45 27 = some (8, some .int, .ireturn) := by decide +kernel
theorem fe_45_28 : am_fe 45 28 = some (8, some .int, .iconst 0) := by decide +kernel
theorem fe_45_29 : am_fe 45 29 = some (8, some .int, .istore_n 2) := by decide +kernel
theorem fe_45_30 : am_fe 45 30 = some (8, some .int, .iconst 0) := by decide +kernel
theorem fe_45_31 : am_fe 45 31 = some (8, some .int, .istore_n 3) := by decide +kernel
theorem fe_45_32 : am_fe 45 32 = some (8, some .int, .iload_n 3) := by decide +kernel
theorem fe_45_33 : am_fe 45 33 = some (8, some .int, .iload_n 1) := by decide +kernel
theorem fe_45_34 : am_fe 45 34 = some (8, some .int, .if_icmp .gt 81) := by decide +kernel
theorem fe_45_37 : am_fe 45 37 = some (8, some .int, .aload_n 0) := by decide +kernel
theorem fe_45_38 : am_fe 45 38 = some (8, some .int, .aload_n 0) := by decide +kernel
theorem fe_45_39 : am_fe 45 39 = some (8, some .int, .getfield 19) := by decide +kernel
theorem fe_45_42 : am_fe 45 42 = some (8, some .int, .invokevirtual 39) := by decide +kernel
theorem fe_45_45 : am_fe 45 45 = some (8, some .int, .ifCond .eq 70) := by decide +kernel
theorem fe_45_48 : am_fe 45 48 = some (8, some .int, .iload_n 3) := by decide +kernel
theorem fe_45_49 : am_fe 45 49 = some (8, some .int, .iload_n 1) := by decide +kernel
theorem fe_45_50 : am_fe 45 50 = some (8, some .int, .if_icmp .eq 17) := by decide +kernel
theorem fe_45_53 : am_fe 45 53 = some (8, some .int, .aload_n 0) := by decide +kernel
theorem fe_45_54 : am_fe 45 54 = some (8, some .int, .getfield 9) := by decide +kernel
theorem fe_45_57 : am_fe 45 57 = some (8, some .int, .aload_n 0) := by decide +kernel
theorem fe_45_58 : am_fe 45 58 = some (8, some .int, .getfield 19) := by decide +kernel
theorem fe_45_61 : am_fe 45 61 = some (8, some .int, .iaload) := by decide +kernel
theorem fe_45_62 : am_fe 45 62 = some (8, some .int, .bipush 103) := by decide +kernel
theorem fe_45_64 : am_fe 45 64 = some (8, some .int, .if_icmp .lt 15) := by decide +kernel
theorem fe_45_67 : am_fe 45 67 = some (8, some .int, .aload_n 0) := by decide +kernel
theorem fe_45_68 : am_fe 45 68 = some (8, some .int, .aload_n 0) := by decide +kernel
theorem fe_45_69 : am_fe 45 69 = some (8, some .int, .getfield 19) := by decide +kernel
theorem fe_45_72 : am_fe 45 72 = some (8, some .int, .iconst 0) := by decide +kernel
theorem fe_45_73 : am_fe 45 73 = some (8, some .int, .invokevirtual 32) := by decide +kernel
theorem fe_45_76 : am_fe 45 76 = some (8, some .int, .pop) := by decide +kernel
theorem fe_45_77 : am_fe 45 77 = some (8, some .int, .iconst (-1)) := by decide +kernel
theorem fe_45_78 : am_fe 45 78 = some (8, some .int, .ireturn) := by decide +kernel
theorem fe_45_79 : am_fe 45 79 = some (8, some .int, .iload_n 2) := by decide +kernel
theorem fe_45_80 : am_fe 45 80 = some (8, some .int, .bipush 10) := by decide +kernel
theorem fe_45_82 : am_fe 45 82 = some (8, some .int, .imul) := by decide +kernel
theorem fe_45_83 : am_fe 45 83 = some (8, some .int, .aload_n 0) := by decide +kernel
theorem fe_45_84 : am_fe 45 84 = some (8, some .int, .getfield 9) := by decide +kernel
theorem fe_45_87 : am_fe 45 87 = some (8, some .int, .aload_n 0) := by decide +kernel
theorem fe_45_88 : am_fe 45 88 = some (8, some .int, .getfield 19) := by decide +kernel
theorem fe_45_91 : am_fe 45 91 = some (8, some .int, .iaload) := by decide +kernel
theorem fe_45_92 : am_fe 45 92 = some (8, some .int, .iadd) := by decide +kernel
theorem fe_45_93 : am_fe 45 93 = some (8, some .int, .bipush 97) := by decide +kernel
theorem fe_45_95 : am_fe 45 95 = some (8, some .int, .isub) := by decide +kernel
theorem fe_45_96 : am_fe 45 96 = some (8, some .int, .iconst 1) := by decide +kernel
theorem fe_45_97 : am_fe 45 97 = some (8, some .int, .iadd) := by decide +kernel
theorem fe_45_98 : am_fe 45 98 = some (8, some .int, .istore_n 2) := by decide +kernel
theorem fe_45_99 : am_fe 45 99 = some (8, some .int, .aload_n 0) := by decide +kernel
theorem fe_45_100 : am_fe 45 100 = some (8, some .int, .dup) := by decide +kernel
theorem fe_45_101 : am_fe 45 101 = some (8, some .int, .getfield 19) := by decide +kernel
theorem fe_45_104 : am_fe 45 104 = some (8, some .int, .iconst 1) := by decide +kernel
theorem fe_45_105 : am_fe 45 105 = some (8, some .int, .iadd) := by decide +kernel
theorem fe_45_106 : am_fe 45 106 = some (8, some .int, .putfield 19) := by decide +kernel
theorem fe_45_109 : am_fe 45 109 = some (8, some .int, .iinc 3 1) := by decide +kernel
theorem fe_45_112 : am_fe 45 112 = some (8, some .int, .goto (-80)) := by decide +kernel
theorem fe_45_115 : am_fe 45 115 = some (8, some .int, .iload_n 2) := by decide +kernel
theorem fe_45_116 : am_fe 45 116 = some (8, some .int, .ireturn) := by decide +kernel
theorem fe_46_0 : am_fe 46 0 = some (8, some .boolean, .iload_n 1) := by decide +kernel
theorem fe_46_1 : am_fe 46 1 = some (8, some .boolean, .aload_n 0) := by decide +kernel
theorem fe_46_2 : am_fe 46 2 = some (8, some .boolean, .getfield 15) := by decide +kernel
theorem fe_46_5 : am_fe 46 5 = some (8, some .boolean, .if_icmp .ge 29) := by decide +kernel
theorem fe_46_8 : am_fe 46 8 = some (8, some .boolean, .aload_n 0) := by decide +kernel
theorem fe_46_9 : am_fe 46 9 = some (8, some .boolean, .getfield 9) := by decide +kernel
theorem fe_46_12 : am_fe 46 12 = some (8, some .boolean, .iload_n 1) := by decide +kernel
theorem fe_46_13 : am_fe 46 13 = some (8, some .boolean, .iaload) := by decide +kernel
theorem fe_46_14 : am_fe 46 14 = some (8, some .boolean, .bipush 97) := by decide +kernel
theorem fe_46_16 : am_fe 46 16 = some (8, some .boolean, .if_icmp .lt 18) := by decide +kernel
theorem fe_46_19 : am_fe 46 19 = some (8, some .boolean, .aload_n 0) := by decide +kernel
theorem fe_46_20 : am_fe 46 20 = some (8, some .boolean, .getfield 9) := by decide +kernel
theorem fe_46_23 : am_fe 46 23 = some (8, some .boolean, .iload_n 1) := by decide +kernel
theorem fe_46_24 : am_fe 46 24 = some (8, some .boolean, .iaload) := by decide +kernel
theorem fe_46_25 : am_fe 46 25 = some (8, some .boolean, .bipush 122) := by decide +kernel
theorem fe_46_27 : am_fe 46 27 = some (8, some .boolean, .if_icmp .gt 7) := by decide +kernel
theorem fe_46_30 : am_fe 46 30 = some (8, some .boolean, .iconst 1) := by decide +kernel
theorem fe_46_31 : am_fe 46 31 = some (8, some .boolean, .goto 4) := by decide +kernel
theorem fe_46_34 : am_fe 46 34 = some (8, some .boolean, .iconst 0) := by decide +kernel
theorem fe_46_35 : am_fe 46 35 = some (8, some .boolean, .ireturn) := by decide +kernel
theorem fe_47_0 : am_fe 47 0 = some (5, none, .iload_n 1) := by decide +kernel
theorem fe_47_1 : am_fe 47 1 = some (5, none, .tableswitch 114 1 6 #[39, 52, 65, 78, 90, 101]) := by decide +kernel
theorem fe_47_40 : am_fe 47 40 = some (5, none, .aload_n 0) := by decide +kernel
theorem fe_47_41 : am_fe 47 41 = some (5, none, .getfield 12) := by decide +kernel
theorem fe_47_44 : am_fe 47 44 = some (5, none, .getfield 94) := by decide +kernel
theorem fe_47_47 : am_fe 47 47 = some (5, none, .iload_n 2) := by decide +kernel
theorem fe_47_48 : am_fe 47 48 = some (5, none, .iload_n 3) := by decide +kernel
theorem fe_47_49 : am_fe 47 49 = some (5, none, .iastore) := by decide +kernel
theorem fe_47_50 : am_fe 47 50 = some (5, none, .goto 75) := by decide +kernel
theorem fe_47_53 : am_fe 47 53 = some (5, none, .aload_n 0) := by decide +kernel
theorem fe_47_54 : am_fe 47 54 = some (5, none, .getfield 12) := by decide +kernel
theorem fe_47_57 : am_fe 47 57 = some (5, none, .getfield 94) := by decide +kernel
theorem fe_47_60 : am_fe 47 60 = some (5, none, .iload_n 2) := by decide +kernel
theorem fe_47_61 : am_fe 47 61 = some (5, none, .iconst (-1)) := by decide +kernel
theorem fe_47_62 : am_fe 47 62 = some (5, none, .iastore) := by decide +kernel
theorem fe_47_63 : am_fe 47 63 = some (5, none, .goto 62) := by decide +kernel
theorem fe_47_66 : am_fe 47 66 = some (5, none, .aload_n 0) := by decide +kernel
theorem fe_47_67 : am_fe 47 67 = some (5, none, .getfield 12) := by decide +kernel
theorem fe_47_70 : am_fe 47 70 = some (5, none, .getfield 98) := by decide +kernel
theorem fe_47_73 : am_fe 47 73 = some (5, none, .iload_n 2) := by decide +kernel
theorem fe_47_74 : am_fe 47 74 = some (5, none, .iload_n 3) := by decide +kernel
theorem fe_47_75 : am_fe 47 75 = some (5, none, .iastore) := by decide +kernel
theorem fe_47_76 : am_fe 47 76 = some (5, none, .goto 49) := by decide +kernel
theorem fe_47_79 : am_fe 47 79 = some (5, none, .aload_n 0) := by decide +kernel
theorem fe_47_80 : am_fe 47 80 = some (5, none, .getfield 12) := by decide +kernel
theorem fe_47_83 : am_fe 47 83 = some (5, none, .iload_n 2) := by decide +kernel
theorem fe_47_84 : am_fe 47 84 = some (5, none, .iload_n 3) := by decide +kernel
theorem fe_47_85 : am_fe 47 85 = some (5, none, .invokevirtual 101) := by decide +kernel
theorem fe_47_88 : am_fe 47 88 = some (5, none, .goto 37) := by decide +kernel
theorem fe_47_91 : am_fe 47 91 = some (5, none, .aload_n 0) := by decide +kernel
theorem fe_47_92 : am_fe 47 92 = some (5, none, .getfield 12) := by decide +kernel
theorem fe_47_95 : am_fe 47 95 = some (5, none, .iload_n 2) := by decide +kernel
theorem fe_47_96 : am_fe 47 96 = some (5, none, .invokevirtual 105) := by decide +kernel
theorem fe_47_99 : am_fe 47 99 = some (5, none, .goto 26) := by decide +kernel
theorem fe_47_102 : am_fe 47 102 = some (5, none, .aload_n 0) := by decide +kernel
theorem fe_47_103 : am_fe 47 103 = some (5, none, .getfield 21) := by decide +kernel
theorem fe_47_106 : am_fe 47 106 = some (5, none, .getfield 108) := by decide +kernel
theorem fe_47_109 : am_fe 47 109 = some (5, none, .iload_n 2) := by decide +kernel
theorem fe_47_110 : am_fe 47 110 = some (5, none, .iload_n 3) := by decide +kernel
theorem fe_47_111 : am_fe 47 111 = some (5, none, .iastore) := by decide +kernel
theorem fe_47_112 : am_fe 47 112 = some (5, none, .goto 13) := by decide +kernel
theorem fe_47_115 : am_fe 47 115 = some (5, none, .aload_n 0) := by decide +kernel
theorem fe_47_116 : am_fe 47 116 = some (5, none, .getfield 21) := by decide +kernel
theorem fe_47_119 : am_fe 47 119 = some (5, none, .iload_n 2) := by decide +kernel
theorem fe_47_120 : am_fe 47 120 = some (5, none, .iload_n 3) := by decide +kernel
theorem fe_47_121 : am_fe 47 121 = some (5, none, .invokevirtual 111) := by decide +kernel
theorem fe_47_124 : am_fe 47 124 = some (5, none, .pop) := by decide +kernel
theorem fe_47_125 : am_fe 47 125 = some (5, none, .return_) := by decide +kernel
theorem fe_48_0 : am_fe 48 0 = some (0, none, .aload_n 0) := by decide +kernel
theorem fe_48_1 : am_fe 48 1 = some (0, none, .getfield 15) := by decide +kernel
theorem fe_48_4 : am_fe 48 4 = some (0, none, .bipush 6) := by decide +kernel
theorem fe_48_6 : am_fe 48 6 = some (0, none, .if_icmp .ge 33) := by decide +kernel
theorem fe_48_9 : am_fe 48 9 = some (0, none, .aload_n 0) := by decide +kernel
theorem fe_48_10 : am_fe 48 10 = some (0, none, .getfield 28) := by decide +kernel
theorem fe_48_13 : am_fe 48 13 = some (0, none, .iload_n 1) := by decide +kernel
theorem fe_48_14 : am_fe 48 14 = some (0, none, .aload_n 0) := by decide +kernel
theorem fe_48_15 : am_fe 48 15 = some (0, none, .getfield 15) := by decide +kernel
theorem fe_48_18 : am_fe 48 18 = some (0, none, .iastore) := by decide +kernel
theorem fe_48_19 : am_fe 48 19 = some (0, none, .aload_n 0) := by decide +kernel
theorem fe_48_20 : am_fe 48 20 = some (0, none, .getfield 34) := by decide +kernel
theorem fe_48_23 : am_fe 48 23 = some (0, none, .aload_n 0) := by decide +kernel
theorem fe_48_24 : am_fe 48 24 = some (0, none, .getfield 15) := by decide +kernel
theorem fe_48_27 : am_fe 48 27 = some (0, none, .iload_n 2) := by decide +kernel
theorem fe_48_28 : am_fe 48 28 = some (0, none, .iastore) := by decide +kernel
theorem fe_48_29 : am_fe 48 29 = some (0, none, .aload_n 0) := by decide +kernel
theorem fe_48_30 : am_fe 48 30 = some (0, none, .dup) := by decide +kernel
theorem fe_48_31 : am_fe 48 31 = some (0, none, .getfield 15) := by decide +kernel
theorem fe_48_34 : am_fe 48 34 = some (0, none, .iconst 1) := by decide +kernel
theorem fe_48_35 : am_fe 48 35 = some (0, none, .iadd) := by decide +kernel
theorem fe_48_36 : am_fe 48 36 = some (0, none, .putfield 15) := by decide +kernel
theorem fe_48_39 : am_fe 48 39 = some (0, none, .return_) := by decide +kernel
theorem fe_49_0 : am_fe 49 0 = some (0, none, .aload_n 0) := by decide +kernel
theorem fe_49_1 : am_fe 49 1 = some (0, none, .getfield 18) := by decide +kernel
theorem fe_49_4 : am_fe 49 4 = some (0, none, .iconst 4) := by decide +kernel
theorem fe_49_5 : am_fe 49 5 = some (0, none, .if_icmp .ge 23) := by decide +kernel
theorem fe_49_8 : am_fe 49 8 = some (0, none, .aload_n 0) := by decide +kernel
theorem fe_49_9 : am_fe 49 9 = some (0, none, .getfield 31) := by decide +kernel
theorem fe_49_12 : am_fe 49 12 = some (0, none, .iload_n 1) := by decide +kernel
theorem fe_49_13 : am_fe 49 13 = some (0, none, .aload_n 0) := by decide +kernel
theorem fe_49_14 : am_fe 49 14 = some (0, none, .getfield 18) := by decide +kernel
theorem fe_49_17 : am_fe 49 17 = some (0, none, .iastore) := by decide +kernel
theorem fe_49_18 : am_fe 49 18 = some (0, none, .aload_n 0) := by decide +kernel
theorem fe_49_19 : am_fe 49 19 = some (0, none, .dup) := by decide +kernel
theorem fe_49_20 : am_fe 49 20 = some (0, none, .getfield 18) := by decide +kernel
theorem fe_49_23 : am_fe 49 23 = some (0, none, .iconst 1) := by decide +kernel
theorem fe_49_24 : am_fe 49 24 = some (0, none, .iadd) := by decide +kernel
theorem fe_49_25 : am_fe 49 25 = some (0, none, .putfield 18) := by decide +kernel
theorem fe_49_28 : am_fe 49 28 = some (0, none, .return_) := by decide +kernel
theorem fe_50_0 : am_fe 50 0 = some (9, some .int, .aload_n 0) := by decide +kernel
theorem fe_50_1 : am_fe 50 1 = some (9, some .int, .getfield 15) := by decide +kernel
theorem fe_50_4 : am_fe 50 4 = some (9, some .int, .istore_n 3) := by decide +kernel
theorem fe_50_5 : am_fe 50 5 = some (9, some .int, .iload_n 3) := by decide +kernel
theorem fe_50_6 : am_fe 50 6 = some (9, some .int, .bipush 13) := by decide +kernel
theorem fe_50_8 : am_fe 50 8 = some (9, some .int, .if_icmp .lt 5) := by decide +kernel
theorem fe_50_11 : am_fe 50 11 = some (9, some .int, .iconst (-1)) := by decide +kernel
theorem fe_50_12 : am_fe 50 12 = some (9, some .int, .ireturn) := by decide +kernel
theorem fe_50_13 : am_fe 50 13 = some (9, some .int, .aload_n 0) := by decide +kernel
theorem fe_50_14 : am_fe 50 14 = some (9, some .int, .dup) := by decide +kernel
theorem fe_50_15 : am_fe 50 15 = some (9, some .int, .getfield 15) := by decide +kernel
theorem fe_50_18 : am_fe 50 18 = some (9, some .int, .iconst 1) := by decide +kernel
theorem fe_50_19 : am_fe 50 19 = some (9, some .int, .iadd) := by decide +kernel
theorem fe_50_20 : am_fe 50 20 = some (9, some .int, .putfield 15) := by decide +kernel
theorem fe_50_23 : am_fe 50 23 = some (9, some .int, .aload_n 0) := by decide +kernel
theorem fe_50_24 : am_fe 50 24 = some (9, some .int, .getfield 21) := by decide +kernel
theorem fe_50_27 : am_fe 50 27 = some (9, some .int, .iload_n 3) := by decide +kernel
theorem fe_50_28 : am_fe 50 28 = some (9, some .int, .iload_n 1) := by decide +kernel
theorem fe_50_29 : am_fe 50 29 = some (9, some .int, .iastore) := by decide +kernel
theorem fe_50_30 : am_fe 50 30 = some (9, some .int, .aload_n 0) := by decide +kernel
theorem fe_50_31 : am_fe 50 31 = some (9, some .int, .getfield 34) := by decide +kernel
theorem fe_50_34 : am_fe 50 34 = some (9, some .int, .iload_n 3) := by decide +kernel
theorem fe_50_35 : am_fe 50 35 = some (9, some .int, .iconst 0) := by decide +kernel
theorem fe_50_36 : am_fe 50 36 = some (9, some .int, .iastore) := by decide +kernel
theorem fe_50_37 : am_fe 50 37 = some (9, some .int, .aload_n 0) := by decide +kernel
theorem fe_50_38 : am_fe 50 38 = some (9, some .int, .getfield 37) := by decide +kernel
theorem fe_50_41 : am_fe 50 41 = some (9, some .int, .iload_n 3) := by decide +kernel
theorem fe_50_42 : am_fe 50 42 = some (9, some .int, .iconst 0) := by decide +kernel
theorem fe_50_43 : am_fe 50 43 = some (9, some .int, .iastore) := by decide +kernel
theorem fe_50_44 : am_fe 50 44 = some (9, some .int, .aload_n 0) := by decide +kernel
theorem fe_50_45 : am_fe 50 45 = some (9, some .int, .getfield 40) := by decide +kernel
theorem fe_50_48 : am_fe 50 48 = some (9, some .int, .iload_n 3) := by decide +kernel
theorem fe_50_49 : am_fe 50 49 = some (9, some .int, .iconst (-1)) := by decide +kernel
theorem fe_50_50 : am_fe 50 50 = some (9, some .int, .iastore) := by decide +kernel
theorem fe_50_51 : am_fe 50 51 = some (9, some .int, .aload_n 0) := by decide +kernel
theorem fe_50_52 : am_fe 50 52 = some (9, some .int, .getfield 43) := by decide +kernel
theorem fe_50_55 : am_fe 50 55 = some (9, some .int, .iload_n 3) := by decide +kernel
theorem fe_50_56 : am_fe 50 56 = some (9, some .int, .iconst (-1)) := by decide +kernel
theorem fe_50_57 : am_fe 50 57 = some (9, some .int, .iastore) := by decide +kernel
theorem fe_50_58 : am_fe 50 58 = some (9, some .int, .aload_n 0) := by decide +kernel
theorem fe_50_59 : am_fe 50 59 = some (9, some .int, .iload_n 3) := by decide +kernel
theorem fe_50_60 : am_fe 50 60 = some (9, some .int, .iload_n 2) := by decide +kernel
theorem fe_50_61 : am_fe 50 61 = some (9, some .int, .invokevirtual 64) := by decide +kernel
theorem fe_50_64 : am_fe 50 64 = some (9, some .int, .iload_n 3) := by decide +kernel
theorem fe_50_65 : am_fe 50 65 = some (9, some .int, .ireturn) := by decide +kernel
theorem fe_51_0 : am_fe 51 0 = some (9, none, .aload_n 0) := by decide +kernel
theorem fe_51_1 : am_fe 51 1 = some (9, none, .getfield 25) := by decide +kernel
theorem fe_51_4 : am_fe 51 4 = some (9, none, .iload_n 1) := by decide +kernel
theorem fe_51_5 : am_fe 51 5 = some (9, none, .iload_n 2) := by decide +kernel
theorem fe_51_6 : am_fe 51 6 = some (9, none, .iastore) := by decide +kernel
theorem fe_51_7 : am_fe 51 7 = some (9, none, .aload_n 0) := by decide +kernel
theorem fe_51_8 : am_fe 51 8 = some (9, none, .getfield 28) := by decide +kernel
theorem fe_51_11 : am_fe 51 11 = some (9, none, .iload_n 1) := by decide +kernel
theorem fe_51_12 : am_fe 51 12 = some (9, none, .iconst 0) := by decide +kernel
theorem fe_51_13 : am_fe 51 13 = some (9, none, .iastore) := by decide +kernel
theorem fe_51_14 : am_fe 51 14 = some (9, none, .aload_n 0) := by decide +kernel
theorem fe_51_15 : am_fe 51 15 = some (9, none, .getfield 31) := by decide +kernel
theorem fe_51_18 : am_fe 51 18 = some (9, none, .iload_n 1) := by decide +kernel
theorem fe_51_19 : am_fe 51 19 = some (9, none, .iconst 0) := by decide +kernel
theorem fe_51_20 : am_fe 51 20 = some (9, none, .iastore) := by decide +kernel
theorem fe_51_21 : am_fe 51 21 = some (9, none, .iload_n 2) := by decide +kernel
theorem fe_51_22 : am_fe 51 22 = some (9, none, .istore_n 3) := by decide +kernel
theorem fe_51_23 : am_fe 51 23 = some (9, none, .iconst 0) := by decide +kernel
theorem fe_51_24 : am_fe 51 24 = some (9, none, .istore 4) := by decide +kernel
theorem fe_51_26 : am_fe 51 26 = some (9, none, .iload 4) := by decide +kernel
theorem fe_51_28 : am_fe 51 28 = some (9, none, .bipush 8) := by decide +kernel
theorem fe_51_30 : am_fe 51 30 = some (9, none, .if_icmp .ge 43) := by decide +kernel
theorem fe_51_33 : am_fe 51 33 = some (9, none, .iload_n 3) := by decide +kernel
theorem fe_51_34 : am_fe 51 34 = some (9, none, .ifCond .le 39) := by decide +kernel
theorem fe_51_37 : am_fe 51 37 = some (9, none, .aload_n 0) := by decide +kernel
theorem fe_51_38 : am_fe 51 38 = some (9, none, .getfield 31) := by decide +kernel
theorem fe_51_41 : am_fe 51 41 = some (9, none, .iload_n 1) := by decide +kernel
theorem fe_51_42 : am_fe 51 42 = some (9, none, .dup2) := by decide +kernel
theorem fe_51_43 : am_fe 51 43 = some (9, none, .iaload) := by decide +kernel
theorem fe_51_44 : am_fe 51 44 = some (9, none, .iconst 1) := by decide +kernel
theorem fe_51_45 : am_fe 51 45 = some (9, none, .iload_n 3) := by decide +kernel
theorem fe_51_46 : am_fe 51 46 = some (9, none, .bipush 10) := by decide +kernel
theorem fe_51_48 : am_fe 51 48 = some (9, none, .irem) := by decide +kernel
theorem fe_51_49 : am_fe 51 49 = some (9, none, .ishl) := by decide +kernel
theorem fe_51_50 : am_fe 51 50 = some (9, none, .ior) := by decide +kernel
theorem fe_51_51 : am_fe 51 51 = some (9, none, .iastore) := by decide +kernel
theorem fe_51_52 : am_fe 51 52 = some (9, none, .aload_n 0) := by decide +kernel
theorem fe_51_53 : am_fe 51 53 = some (9, none, .getfield 28) := by decide +kernel
theorem fe_51_56 : am_fe 51 56 = some (9, none, .iload_n 1) := by decide +kernel
theorem fe_51_57 : am_fe 51 57 = some (9, none, .dup2) := by decide +kernel
theorem fe_51_58 : am_fe 51 58 = some (9, none, .iaload) := by decide +kernel
theorem fe_51_59 : am_fe 51 59 = some (9, none, .iconst 1) := by decide +kernel
theorem fe_51_60 : am_fe 51 60 = some (9, none, .iadd) := by decide +kernel
theorem fe_51_61 : am_fe 51 61 = some (9, none, .iastore) := by decide +kernel
theorem fe_51_62 : am_fe 51 62 = some (9, none, .iload_n 3) := by decide +kernel
theorem fe_51_63 : am_fe 51 63 = some (9, none, .bipush 10) := by decide +kernel
theorem fe_51_65 : am_fe 51 65 = some (9, none, .idiv) := by decide +kernel
theorem fe_51_66 : am_fe 51 66 = some (9, none, .istore_n 3) := by decide +kernel
theorem fe_51_67 : am_fe 51 67 = some (9, none, .iinc 4 1) := by decide +kernel
theorem fe_51_70 : am_fe 51 70 = some (9, none, .goto (-44)) := by decide +kernel
theorem fe_51_73 : am_fe 51 73 = some (9, none, .return_) := by decide +kernel
theorem fe_52_0 : am_fe 52 0 = some (8, some .boolean, .aload_n 0) := by decide +kernel
theorem fe_52_1 : am_fe 52 1 = some (8, some .boolean, .invokevirtual 28) := by decide +kernel
theorem fe_52_4 : am_fe 52 4 = some (8, some .boolean, .istore_n 1) := by decide +kernel
theorem fe_52_5 : am_fe 52 5 = some (8, some .boolean, .iload_n 1) := by decide +kernel
theorem fe_52_6 : am_fe 52 6 = some (8, some .boolean, .bipush 59) := by decide +kernel
theorem fe_52_8 : am_fe 52 8 = some (8, some .boolean, .if_icmp .ne 15) := by decide +kernel
theorem fe_52_11 : am_fe 52 11 = some (8, some .boolean, .aload_n 0) := by decide +kernel
theorem fe_52_12 : am_fe 52 12 = some (8, some .boolean, .dup) := by decide +kernel
