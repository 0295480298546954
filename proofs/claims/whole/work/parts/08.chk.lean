def am_w (k : Nat) (w : Cond) : Bool := decide (lw_tbl[k]? = some w) && goodWord w
theorem am_w_ok {k : Nat} {w : Cond} (h : am_w k w = true) : w ∈ am_T := by
  simp only [am_w, Bool.and_eq_true, decide_eq_true_eq] at h
  exact List.mem_filter.mpr ⟨List.mem_of_getElem? h.1, h.2⟩
theorem am_lk_mem {α : Type} {k : Nat} {x : α} : ∀ {l : List (Nat × α)}, am_lk k l = some x → (k, x) ∈ l
  | [], h => by cases h
  | q :: r, h => by
    unfold am_lk at h
    split at h
    · rename_i e
      cases h
      subst e
      exact List.mem_cons_self
    · exact List.mem_cons_of_mem _ (am_lk_mem h)
theorem am_own {α : Type} {own : Nat} {q : α} {T : List (List α)} (h : q ∈ T.getD own []) : own < T.length := by
  apply Decidable.byContradiction
  intro hn
  rw [List.getD_eq_getElem?_getD, List.getElem?_eq_none (by omega)] at h
  cases h
def am_fc (own : Nat) (q : Nat × Nat × Nat × Nat) : Bool := if q.2.1 = 13 then decide (q.2.2.1 < 2) && am_w q.2.2.2 (.fieldLink (am_cn.getD own "") q.1 "java/lang/String" (am_sfn q.2.2.1).1 (am_sfn q.2.2.1).2) else match am_cl[q.2.1]? with
  | some r => decide (q.2.2.1 < r.2.2) && am_w q.2.2.2 (.fieldLink (am_cn.getD own "") q.1 (r.2.1 q.2.2.1).1 (r.2.1 q.2.2.1).2.1 (r.2.1 q.2.2.1).2.2.1)
  | none => false
theorem am_fc_all : (List.range 22).all (fun own => (am_ftp.getD own []).all (am_fc own)) = true := by decide +kernel
theorem am_ft_eq : am_ft = am_ftp.map (fun l => l.map (fun q => (q.1, q.2.1, q.2.2.1))) := by decide +kernel
theorem am_ft_ok {own i ci k : Nat} (h : am_lk i (am_ft.getD own []) = some (ci, k)) : (ci = 13 ∧ k < 2 ∧ (Cond.fieldLink (am_cn.getD own "") i "java/lang/String" (am_sfn k).1 (am_sfn k).2) ∈ am_T) ∨ (ci ≠ 13 ∧ ∃ r, am_cl[ci]? = some r ∧ k < r.2.2 ∧ (Cond.fieldLink (am_cn.getD own "") i (r.2.1 k).1 (r.2.1 k).2.1 (r.2.1 k).2.2.1) ∈ am_T) := by
  have h1 := am_lk_mem h
  have h2 := am_own h1
  have h3 : own < 22 := h2
  rw [am_ft_eq, List.getD_eq_getElem?_getD, List.getElem?_map] at h1
  cases h4 : am_ftp[own]? with
  | none => rw [h4] at h1; cases h1
  | some l =>
    rw [h4] at h1
    simp only [Option.map_some, Option.getD_some, List.mem_map] at h1
    obtain ⟨q, hq, he⟩ := h1
    have h5 := List.all_eq_true.mp (List.all_eq_true.mp am_fc_all own (List.mem_range.mpr h3)) q (by rw [List.getD_eq_getElem?_getD, h4]; exact hq)
    obtain ⟨a, b, c, d⟩ := q
    cases he
    unfold am_fc at h5
    simp only at h5
    split at h5
    · rename_i e
      simp only [Bool.and_eq_true, decide_eq_true_eq] at h5
      exact Or.inl ⟨e, h5.1, am_w_ok h5.2⟩
    · rename_i e
      split at h5
      · rename_i r hr
        simp only [Bool.and_eq_true, decide_eq_true_eq] at h5
        exact Or.inr ⟨e, r, hr, h5.1, am_w_ok h5.2⟩
      · cases h5
/-- classes: where the words of the fields stand, of its making, of its start -/
def am_cp : List (List Nat × Nat × Nat) := [([207, 209, 211, 213, 215, 217, 219, 221], 175, 111), ([759], 739, 126), ([429, 431], 422, 117), ([445, 447, 449, 451, 453], 435, 118), ([346, 348, 350], 335, 115), ([301, 303], 169, 110), ([315, 317, 319], 307, 113), ([401, 403, 405, 407, 409, 411, 413, 415, 417], 380, 116), ([156, 158, 160, 162, 164], 138, 109), ([270, 272, 274, 276, 278, 280, 282, 284, 286, 288, 290, 292, 294], 225, 112), ([367, 369, 371, 373, 375], 325, 114), ([466, 468, 470, 472, 474, 476, 478, 480, 482, 484], 130, 108), ([1170, 1172, 1174, 1176, 1178, 1180, 1182, 1184, 1186, 1188, 1190, 1192, 1194, 1196, 1198, 1200, 1202, 1204, 1206, 1208, 1210, 1212, 1214, 1216, 1218, 1220, 1222, 1224, 1226, 1228, 1230, 1232, 1234, 1236, 1238, 1240, 1242, 1244, 1246, 1248, 1250, 1252, 1254, 1256, 1258, 1260, 1262, 1264, 1266, 1268, 1270, 1272, 1274, 1276, 1278, 1280, 1282, 1284], 1108, 119)]
def am_cc (ci : Nat) : Bool := match am_cl[ci]?, am_cp[ci]?, am_yl[ci]? with
  | some r, some q, some y => decide (q.1.length = r.2.2) && (List.range r.2.2).all (fun k => am_w (q.1.getD k 0) (u_lay r.1 r.2.1 k) && decide (parseFieldDescriptor (r.2.1 k).2.2.1 = some (y k)) && (List.range r.2.2).all (fun j => decide (k = j) || !decide ((r.2.1 k).2.1 = (r.2.1 j).2.1)) && decide ((r.2.1 k).1 = r.1)) && am_w q.2.1 (.instantiable r.1 r.2.2) && am_w q.2.2 (.initialized r.1) && decide (am_cn.getD ci "" = r.1)
  | _, _, _ => false
theorem am_cc_all : (List.range 13).all am_cc = true := by decide +kernel
theorem am_cl_ok {ci : Nat} {r : vw_C} (h : am_cl[ci]? = some r) : (∀ w ∈ u_ws r.1 r.2.1 r.2.2, w ∈ am_T) ∧ (∀ k, k < r.2.2 → parseFieldDescriptor (r.2.1 k).2.2.1 = some ((am_yl.getD ci (fun _ => .int)) k)) ∧ (∀ a, a < r.2.2 → ∀ b, b < r.2.2 → a ≠ b → (r.2.1 a).2.1 ≠ (r.2.1 b).2.1) ∧ (∀ k, k < r.2.2 → (r.2.1 k).1 = r.1) ∧ (Cond.instantiable r.1 r.2.2) ∈ am_T ∧ (Cond.initialized r.1) ∈ am_T ∧ am_cn.getD ci "" = r.1 := by
  have h1 : ci < 13 := (List.getElem?_eq_some_iff.mp h).1
  have h2 := List.all_eq_true.mp am_cc_all ci (List.mem_range.mpr h1)
  unfold am_cc at h2
  split at h2
  · rename_i r' q y e1 e2 e3
    cases h.symm.trans e1
    simp only [Bool.and_eq_true, decide_eq_true_eq, List.all_eq_true, List.mem_range, Bool.or_eq_true, Bool.not_eq_true', decide_eq_false_iff_not] at h2
    obtain ⟨⟨⟨⟨h3, h4⟩, h5⟩, h6⟩, h7⟩ := h2
    refine ⟨fun w hw => ?_, fun k hk => ?_, fun a ha b hb hab => ?_, fun k hk => (h4 k hk).2, am_w_ok h5, am_w_ok h6, h7⟩
    · unfold u_ws at hw
      obtain ⟨k, hk, rfl⟩ := List.mem_map.mp hw
      exact am_w_ok (h4 k (List.mem_range.mp hk)).1.1.1
    · rw [(h4 k hk).1.1.2, List.getD_eq_getElem?_getD, e3]
      rfl
    · exact ((h4 a ha).1.2 b hb).resolve_left hab
  · cases h2
def am_kp : List (List (Nat × Nat)) := [[], [], [(61, 982)], [], [], [], [], [], [], [], [], [(322, 1082), (316, 1076), (318, 1077), (320, 1078)], [(232, 1361), (532, 1754), (195, 1370), (197, 1371), (289, 1394), (291, 1395), (360, 1477), (155, 1617), (473, 1634), (484, 1647), (486, 1648), (503, 1693), (533, 1742), (526, 1751), (528, 1752), (530, 1753), (550, 1763)], [], [], [(265, 844), (266, 845), (267, 846), (264, 956)], [], [], [], [], [], []]
def am_kc (own : Nat) (q : Nat × Value) : Bool := match q.2 with
  | .int x => am_w ((am_lk q.1 (am_kp.getD own [])).getD 0) (.constant (am_cn.getD own "") q.1 x)
  | .long x => am_w ((am_lk q.1 (am_kp.getD own [])).getD 0) (.constantLong (am_cn.getD own "") q.1 x)
  | .ref p => am_sr.any (fun r => decide (r.1 = am_cn.getD own "") && decide (r.2.1 = q.1) && decide (r.2.2.2 = p) && decide (p < 64))
  | _ => false
theorem am_kc_all : (List.range 22).all (fun own => (am_kt.getD own []).all (am_kc own)) = true := by decide +kernel
theorem am_kt_ok {own i : Nat} {v : Value} (h : am_lk i (am_kt.getD own []) = some v) : am_kc own (i, v) = true := by
  have h1 := am_lk_mem h
  have h3 : own < 22 := am_own h1
  exact List.all_eq_true.mp (List.all_eq_true.mp am_kc_all own (List.mem_range.mpr h3)) (i, v) h1
theorem am_sf_all : (List.range 22).all (fun own => (am_sf.getD own []).all (fun q => decide ((own = 11 ∧ q = (208, .ref 1)) ∨ (own = 9 ∧ q = (68, .ref 1)) ∨ (own = 13 ∧ q = (38, .int 1)) ∨ (own = 13 ∧ q = (1053, .retAddr 0))))) = true := by decide +kernel
theorem am_sf_ok {own i : Nat} {v : Value} (h : am_lk i (am_sf.getD own []) = some v) : (own = 11 ∧ (i, v) = (208, .ref 1)) ∨ (own = 9 ∧ (i, v) = (68, .ref 1)) ∨ (own = 13 ∧ (i, v) = (38, .int 1)) ∨ (own = 13 ∧ (i, v) = (1053, .retAddr 0)) := by
  have h1 := am_lk_mem h
  have h3 : own < 22 := am_own h1
  exact of_decide_eq_true (List.all_eq_true.mp (List.all_eq_true.mp am_sf_all own (List.mem_range.mpr h3)) (i, v) h1)
theorem am_s1 : (Cond.fieldLink "PaperRiver" 208 "PaperRiver" "TENS" "[I") ∈ am_T := am_w_ok (k := 894) (by decide +kernel)
theorem am_s2 : (Cond.fieldLink "java/lang/String" 38 "java/lang/String" "COMPACT_STRINGS" "Z") ∈ am_T := am_w_ok (k := 543) (by decide +kernel)
theorem am_s3 : (Cond.fieldLink "java/lang/String" 1053 "jdk/internal/util/Preconditions" "SIOOBE_FORMATTER" "Ljava/util/function/BiFunction;") ∈ am_T := am_w_ok (k := 559) (by decide +kernel)
def am_ctp : List (List (Nat × Nat)) := [[], [], [], [], [(9, 340)], [(9, 174), (18, 224)], [(22, 738)], [(9, 385)], [], [], [(9, 330), (18, 332), (25, 334)], [(9, 137), (16, 168), (23, 306), (30, 322), (40, 324), (51, 379), (58, 421), (65, 434)], [], [], [], [], [], [], [(7, 129), (10, 1107)], [], [], []]
theorem am_ct_all : (List.range 22).all (fun own => (am_ct.getD own []).all (fun q => am_w ((am_lk q.1 (am_ctp.getD own [])).getD 0) (.classLink (am_cn.getD own "") q.1 (am_cn.getD q.2 "")))) = true := by decide +kernel
theorem am_ct_ok {own i ci : Nat} (h : am_lk i (am_ct.getD own []) = some ci) : (Cond.classLink (am_cn.getD own "") i (am_cn.getD ci "")) ∈ am_T := by
  have h1 := am_lk_mem h
  have h3 : own < 22 := am_own h1
  exact am_w_ok (List.all_eq_true.mp (List.all_eq_true.mp am_ct_all own (List.mem_range.mpr h3)) (i, ci) h1)
theorem am_a_int : (Cond.arrayClass .int) ∈ am_T := am_w_ok (k := 167) (by decide +kernel)
theorem am_a_long : (Cond.arrayClass .long) ∈ am_T := am_w_ok (k := 420) (by decide +kernel)
theorem am_a_byte : (Cond.arrayClass .byte) ∈ am_T := am_w_ok (k := 672) (by decide +kernel)
theorem am_a_boolean : (Cond.arrayClass .boolean) ∈ am_T := am_w_ok (k := 1287) (by decide +kernel)
/-- methods: where the words of the code, of the kind, of the class stand; static; where its choice stands -/
def am_mp : List (Nat × Nat × Nat × Nat × Nat) := [(133, 132, 108, 0, 99999), (136, 135, 0, 0, 99999), (141, 140, 109, 0, 99999), (172, 171, 110, 0, 99999), (178, 177, 111, 0, 99999), (228, 227, 112, 0, 99999), (310, 309, 113, 0, 99999), (328, 327, 114, 0, 99999), (338, 337, 115, 0, 99999), (383, 382, 116, 0, 99999), (425, 424, 117, 0, 99999), (438, 437, 118, 0, 99999), (490, 488, 108, 0, 489), (494, 492, 109, 0, 493), (498, 496, 108, 0, 497), (502, 500, 108, 0, 501), (506, 504, 110, 0, 505), (510, 508, 109, 0, 509), (514, 512, 111, 0, 513), (518, 516, 112, 0, 517), (521, 520, 120, 1, 99999), (525, 524, 110, 0, 0), (530, 528, 109, 0, 529), (534, 532, 109, 0, 533), (538, 536, 121, 0, 537), (542, 540, 121, 0, 541), (548, 546, 121, 0, 547), (552, 550, 121, 0, 551), (555, 554, 122, 1, 99999), (558, 557, 121, 1, 99999), (563, 562, 123, 1, 99999), (566, 565, 124, 1, 99999), (569, 568, 124, 1, 99999), (572, 571, 124, 1, 99999), (576, 575, 124, 1, 99999), (586, 585, 109, 0, 1), (590, 588, 109, 0, 589), (594, 593, 110, 0, 2), (598, 596, 112, 0, 597), (603, 602, 110, 0, 3), (607, 605, 109, 0, 606), (611, 609, 109, 0, 610), (615, 614, 110, 0, 4), (619, 618, 110, 0, 5), (623, 622, 110, 0, 6), (627, 625, 109, 0, 626), (631, 630, 109, 0, 7), (635, 634, 110, 0, 8), (639, 637, 111, 0, 638), (643, 641, 111, 0, 642), (647, 645, 112, 0, 646), (651, 649, 112, 0, 650), (655, 653, 109, 0, 654), (659, 657, 111, 0, 658), (666, 664, 112, 0, 665), (671, 669, 115, 0, 670), (676, 674, 108, 0, 675), (680, 678, 113, 0, 679), (688, 687, 113, 0, 9), (692, 691, 113, 0, 10), (697, 696, 113, 0, 11), (702, 700, 109, 0, 701), (706, 705, 113, 0, 12), (710, 709, 113, 0, 13), (714, 713, 113, 0, 14), (720, 719, 113, 0, 15), (723, 722, 113, 1, 99999), (726, 725, 113, 1, 99999), (730, 729, 113, 0, 16), (737, 735, 113, 0, 736), (742, 741, 120, 1, 99999), (752, 751, 127, 1, 99999), (756, 755, 126, 0, 99999), (765, 763, 108, 0, 764), (769, 767, 108, 0, 768), (773, 772, 108, 0, 17), (777, 775, 111, 0, 776), (781, 780, 108, 0, 18), (785, 783, 112, 0, 784), (789, 787, 108, 0, 788), (793, 792, 108, 0, 19), (797, 795, 108, 0, 796), (801, 800, 108, 0, 20), (805, 803, 115, 0, 804), (811, 810, 108, 0, 21), (815, 813, 116, 0, 814), (819, 817, 116, 0, 818), (823, 822, 116, 0, 22), (827, 825, 112, 0, 826), (831, 829, 112, 0, 830), (835, 833, 112, 0, 834), (839, 838, 116, 0, 23), (843, 842, 128, 1, 99999), (850, 849, 116, 0, 24), (854, 852, 112, 0, 853), (858, 856, 112, 0, 857), (864, 862, 126, 0, 863), (867, 866, 126, 1, 99999), (871, 869, 112, 0, 870), (876, 875, 116, 0, 25), (880, 879, 116, 0, 26), (885, 883, 108, 0, 884), (888, 887, 108, 1, 99999), (893, 891, 108, 0, 892), (899, 897, 108, 0, 898), (903, 901, 108, 0, 902), (908, 906, 108, 0, 907), (912, 910, 115, 0, 911), (916, 914, 108, 0, 915), (920, 918, 116, 0, 919), (926, 924, 116, 0, 925), (931, 929, 108, 0, 930), (935, 933, 116, 0, 934), (939, 937, 112, 0, 938), (943, 941, 108, 0, 942), (948, 946, 117, 0, 947), (952, 951, 117, 0, 27), (955, 954, 128, 1, 99999), (959, 958, 117, 1, 99999), (964, 963, 117, 0, 28), (969, 968, 117, 0, 29), (972, 971, 117, 1, 99999), (976, 974, 112, 0, 975), (981, 980, 117, 1, 99999), (987, 985, 108, 0, 986), (990, 989, 108, 1, 99999), (994, 992, 108, 0, 993), (998, 996, 118, 0, 997), (1004, 1003, 118, 0, 30), (1008, 1007, 118, 0, 31), (1012, 1010, 118, 0, 1011), (1016, 1014, 118, 0, 1015), (1020, 1019, 118, 0, 32), (1024, 1022, 108, 0, 1023), (1028, 1027, 108, 0, 33), (1033, 1031, 108, 0, 1032), (1037, 1035, 116, 0, 1036), (1041, 1039, 112, 0, 1040), (1045, 1043, 108, 0, 1044), (1049, 1047, 111, 0, 1048), (1053, 1051, 108, 0, 1052), (1057, 1055, 112, 0, 1056), (1060, 1059, 108, 1, 99999), (1064, 1062, 108, 0, 1063), (1068, 1066, 108, 0, 1067), (1072, 1071, 108, 0, 34), (1075, 1074, 108, 1, 99999), (1081, 1080, 108, 1, 99999), (1086, 1084, 108, 0, 1085), (1090, 1088, 108, 0, 1089), (1094, 1092, 114, 0, 1093), (1100, 1098, 115, 0, 1099), (1106, 1104, 108, 0, 1105), (1111, 1110, 119, 0, 99999), (1291, 1289, 119, 0, 1290), (1295, 1294, 119, 0, 35), (1299, 1297, 119, 0, 1298), (1303, 1301, 119, 0, 1302), (1307, 1306, 119, 0, 36), (1311, 1310, 119, 0, 37), (1315, 1314, 119, 0, 38), (1319, 1318, 119, 0, 39), (1323, 1322, 119, 0, 40), (1326, 1325, 119, 1, 99999), (1338, 1337, 119, 0, 41), (1344, 1343, 119, 0, 42), (1348, 1347, 119, 0, 43), (1352, 1351, 119, 0, 44), (1356, 1355, 119, 0, 45), (1360, 1359, 119, 0, 46), (1365, 1364, 119, 0, 47), (1369, 1368, 119, 0, 48), (1374, 1373, 119, 1, 99999), (1378, 1377, 119, 0, 49), (1382, 1381, 119, 0, 50), (1386, 1385, 119, 0, 51), (1389, 1388, 119, 1, 99999), (1393, 1392, 119, 0, 52), (1399, 1398, 119, 0, 53), (1402, 1401, 119, 1, 99999), (1406, 1404, 119, 0, 1405), (1410, 1409, 119, 0, 54), (1415, 1414, 119, 0, 55), (1419, 1418, 119, 0, 56), (1424, 1423, 119, 0, 57), (1428, 1427, 119, 0, 58), (1432, 1431, 119, 0, 59), (1436, 1435, 119, 0, 60), (1440, 1439, 119, 0, 61), (1444, 1443, 119, 0, 62), (1448, 1447, 119, 0, 63), (1451, 1450, 119, 1, 99999), (1466, 1465, 119, 0, 64), (1470, 1469, 119, 0, 65), (1476, 1474, 119, 0, 1475), (1481, 1479, 119, 0, 1480), (1485, 1484, 119, 0, 66), (1489, 1488, 119, 0, 67), (1493, 1492, 119, 0, 68), (1496, 1495, 119, 1, 99999), (1500, 1499, 119, 0, 69), (1504, 1503, 119, 0, 70), (1508, 1507, 119, 0, 71), (1512, 1510, 119, 0, 1511), (1516, 1515, 119, 0, 72), (1520, 1518, 119, 0, 1519), (1524, 1523, 119, 0, 73), (1528, 1527, 119, 0, 74), (1532, 1531, 119, 0, 75), (1536, 1534, 119, 0, 1535), (1540, 1539, 119, 0, 76), (1544, 1543, 119, 0, 77), (1548, 1547, 119, 0, 78), (1552, 1551, 119, 0, 79), (1556, 1555, 119, 0, 80), (1560, 1559, 119, 0, 81), (1564, 1563, 119, 0, 82), (1567, 1566, 119, 1, 99999), (1571, 1570, 119, 0, 83), (1575, 1574, 119, 0, 84), (1579, 1578, 119, 0, 85), (1582, 1581, 119, 1, 99999), (1585, 1584, 119, 1, 99999), (1588, 1587, 119, 1, 99999), (1592, 1591, 119, 0, 86), (1596, 1595, 119, 0, 87), (1599, 1598, 119, 1, 99999), (1602, 1601, 119, 1, 99999), (1605, 1604, 119, 1, 99999), (1609, 1608, 119, 0, 88), (1613, 1611, 119, 0, 1612), (1616, 1615, 119, 1, 99999), (1621, 1620, 119, 0, 89), (1625, 1623, 119, 0, 1624), (1629, 1627, 119, 0, 1628), (1633, 1631, 119, 0, 1632), (1638, 1637, 119, 0, 90), (1642, 1641, 119, 0, 91), (1646, 1644, 119, 0, 1645), (1652, 1651, 119, 0, 92), (1656, 1655, 119, 0, 93), (1660, 1659, 119, 0, 94), (1664, 1663, 119, 0, 95), (1668, 1667, 119, 0, 96), (1672, 1670, 119, 0, 1671), (1676, 1674, 119, 0, 1675), (1680, 1679, 119, 0, 97), (1684, 1683, 119, 0, 98), (1688, 1686, 119, 0, 1687), (1692, 1690, 119, 0, 1691), (1697, 1696, 119, 0, 99), (1701, 1699, 119, 0, 1700), (1705, 1704, 119, 0, 100), (1709, 1708, 119, 0, 101), (1713, 1711, 119, 0, 1712), (1717, 1716, 119, 0, 102), (1721, 1719, 119, 0, 1720), (1725, 1724, 119, 0, 103), (1729, 1727, 119, 0, 1728), (1733, 1732, 119, 0, 104), (1737, 1735, 119, 0, 1736), (1741, 1739, 119, 0, 1740), (1746, 1745, 119, 0, 105), (1750, 1749, 119, 0, 106), (1758, 1756, 119, 0, 1757), (1762, 1760, 119, 0, 1761), (1767, 1765, 119, 0, 1766)]
def am_mc (mid : Nat) : Bool := match am_md[mid]?, am_mn[mid]?, am_mp[mid]? with
  | some q, some y, some r => am_w r.2.1 (if r.2.2.2.1 = 1 then .static y else .instanceMethod y) && (decide (mid = 1) || am_w r.2.2.1 (.initialized y.cls)) && (decide (mid = 1) || decide (mid = 71) || Jvm.plainName y.cls) && decide (y.cls = am_cn.getD q.1 "") && decide ((parseMethodDescriptor y.desc).map (fun d => d.parameters.length) = some (if r.2.2.2.1 = 1 then q.2.2.2.2 else q.2.2.2.2 - 1)) && decide (q.2.2.1 ≤ 40) && !decide (y.cls = "java/lang/invoke/MethodHandle") && !decide (y.cls = "java/lang/invoke/VarHandle") && (decide (r.2.2.2.1 = 1) || decide (1 ≤ q.2.2.2.2)) && (decide (r.2.2.2.2 = 99999) || am_w r.2.2.2.2 (.selects y.cls y y)) && (!decide (y.name = "<init>") || decide (q.2.2.2.1 = none))
  | _, _, _ => false
theorem am_mc_0 : (List.range 60).all (fun i => am_mc (0 + i)) = true := by decide +kernel
theorem am_mc_1 : (List.range 60).all (fun i => am_mc (60 + i)) = true := by decide +kernel
theorem am_mc_2 : (List.range 60).all (fun i => am_mc (120 + i)) = true := by decide +kernel
theorem am_mc_3 : (List.range 60).all (fun i => am_mc (180 + i)) = true := by decide +kernel
theorem am_mc_4 : (List.range 27).all (fun i => am_mc (240 + i)) = true := by decide +kernel
theorem am_mc_all {mid : Nat} (h : mid < 267) : am_mc mid = true := by
  rcases Nat.lt_or_ge mid 60 with h0 | h0
  · have q := List.all_eq_true.mp am_mc_0 (mid - 0) (List.mem_range.mpr (by omega))
    rwa [show 0 + (mid - 0) = mid by omega] at q
  rcases Nat.lt_or_ge mid 120 with h1 | h1
  · have q := List.all_eq_true.mp am_mc_1 (mid - 60) (List.mem_range.mpr (by omega))
    rwa [show 60 + (mid - 60) = mid by omega] at q
  rcases Nat.lt_or_ge mid 180 with h2 | h2
  · have q := List.all_eq_true.mp am_mc_2 (mid - 120) (List.mem_range.mpr (by omega))
    rwa [show 120 + (mid - 120) = mid by omega] at q
  rcases Nat.lt_or_ge mid 240 with h3 | h3
  · have q := List.all_eq_true.mp am_mc_3 (mid - 180) (List.mem_range.mpr (by omega))
    rwa [show 180 + (mid - 180) = mid by omega] at q
  rcases Nat.lt_or_ge mid 267 with h4 | h4
  · have q := List.all_eq_true.mp am_mc_4 (mid - 240) (List.mem_range.mpr (by omega))
    rwa [show 240 + (mid - 240) = mid by omega] at q
  · omega
def am_mlp : List (List (Nat × Nat)) := [[(3, 179), (37, 660)], [(1, 757), (13, 865)], [(3, 426), (39, 949), (62, 953), (67, 957), (70, 960), (53, 961), (43, 965), (49, 966), (77, 970), (90, 973), (81, 977), (84, 978), (57, 979)], [(3, 439), (33, 999), (37, 1000), (40, 1001), (44, 1005), (48, 1017)], [(3, 339), (25, 807), (29, 1101), (32, 1102), (24, 0)], [(3, 173), (25, 507), (30, 511), (34, 515), (36, 522), (50, 527), (54, 591), (126, 595), (61, 599), (65, 600), (72, 604), (69, 612), (79, 616), (82, 620), (90, 624), (86, 632), (101, 636), (105, 640), (111, 644), (40, 652), (11, 0), (20, 0)], [(3, 311), (33, 681), (40, 683), (47, 684), (51, 685), (66, 689), (80, 693), (84, 694), (71, 699), (55, 703), (89, 707), (104, 711), (114, 715), (97, 717), (107, 721), (111, 724), (93, 727), (59, 733), (24, 740), (30, 754)], [(3, 384), (94, 820), (118, 824), (134, 828), (60, 832), (97, 836), (141, 840), (144, 841), (149, 847), (156, 851), (159, 855), (165, 861), (153, 868), (101, 873), (64, 877), (74, 881), (51, 921), (56, 922), (68, 927), (84, 936), (11, 0)], [(3, 142), (28, 531), (43, 535), (47, 545), (51, 583), (32, 587), (36, 608), (39, 628)], [(3, 229), (52, 519), (64, 648), (58, 667), (71, 872)], [(3, 329), (39, 1095), (43, 1096), (46, 1097), (11, 0), (20, 0), (27, 0)], [(3, 134), (75, 491), (79, 503), (88, 656), (99, 663), (108, 668), (116, 677), (117, 734), (124, 770), (135, 774), (139, 778), (145, 782), (148, 790), (169, 798), (176, 802), (179, 808), (182, 812), (186, 816), (198, 886), (201, 889), (211, 895), (221, 904), (228, 909), (231, 917), (235, 923), (239, 932), (242, 944), (245, 945), (249, 983), (254, 988), (260, 995), (264, 1009), (267, 1013), (270, 1025), (274, 1029), (280, 1034), (283, 1038), (286, 1046), (292, 1054), (298, 1058), (304, 1069), (310, 1073), (313, 1079), (307, 1091), (11, 0), (18, 0), (25, 0), (42, 0), (53, 0), (60, 0), (67, 0)], [(3, 1112), (160, 1292), (339, 1304), (330, 1308), (333, 1312), (208, 1316), (191, 1320), (320, 1324), (211, 1335), (199, 1339), (204, 1340), (224, 1341), (323, 1345), (327, 1349), (307, 1353), (282, 1357), (233, 1362), (228, 1366), (143, 1372), (310, 1375), (286, 1379), (313, 1383), (147, 1387), (317, 1390), (336, 1396), (342, 1400), (357, 1407), (351, 1412), (272, 1416), (266, 1421), (269, 1425), (252, 1429), (249, 1433), (246, 1437), (236, 1441), (239, 1445), (242, 1449), (275, 1463), (261, 1467), (378, 1482), (381, 1486), (384, 1490), (387, 1494), (390, 1497), (393, 1501), (374, 1505), (396, 1513), (453, 1521), (446, 1525), (449, 1529), (457, 1537), (460, 1541), (463, 1545), (427, 1549), (430, 1553), (399, 1557), (402, 1561), (151, 1565), (406, 1568), (433, 1572), (421, 1576), (409, 1580), (412, 1583), (415, 1586), (418, 1589), (362, 1593), (370, 1597), (366, 1600), (424, 1603), (436, 1606), (466, 1614), (469, 1618), (475, 1635), (478, 1639), (488, 1649), (481, 1653), (547, 1657), (491, 1661), (494, 1665), (500, 1677), (497, 1681), (505, 1694), (511, 1702), (514, 1706), (517, 1714), (520, 1722), (523, 1730), (535, 1743), (538, 1747)], [(335, 539), (492, 549), (495, 553), (1059, 561), (498, 564)], [(9, 556)], [], [], [(304, 750), (150, 753)], [(9, 131), (13, 487), (18, 495), (23, 499), (28, 673), (32, 762), (36, 766), (41, 786), (45, 794), (49, 882), (53, 890), (57, 896), (62, 900), (66, 905), (70, 913), (75, 928), (79, 940), (83, 984), (88, 991), (92, 1021), (96, 1030), (100, 1042), (104, 1050), (108, 1061), (112, 1065), (116, 1083), (120, 1087), (124, 1103), (12, 1109), (17, 1288), (22, 1296), (27, 1300), (31, 1403), (35, 1473), (40, 1478), (44, 1509), (69, 1517), (48, 1533), (52, 1610), (56, 1622), (61, 1626), (65, 1630), (74, 1643), (78, 1669), (82, 1673), (87, 1685), (91, 1689), (95, 1698), (99, 1710), (103, 1718), (107, 1726), (111, 1734), (115, 1738), (119, 1755), (123, 1759), (127, 1764)], [(67, 567), (48, 570), (414, 573), (71, 574)], [], []]
def am_lc (own : Nat) (e : Nat × Nat × Nat) : Bool :=
  if e.2.2 = 9 then am_w ((am_lk e.1 (am_mlp.getD own [])).getD 0) (.methodLink (am_cn.getD own "") e.1 objectInit)
  else if e.2.2 = 10 then am_w ((am_lk e.1 (am_mlp.getD own [])).getD 0) (.methodLink (am_cn.getD own "") e.1 arraycopyName)
  else if e.2.2 = 11 then am_w ((am_lk e.1 (am_mlp.getD own [])).getD 0) (.methodLink (am_cn.getD own "") e.1 Lib.Math.min.name)
  else if e.2.2 = 5 then decide ((am_cn.getD own "", e.1, am_mn.getD e.2.1 ⟨"", "", ""⟩) ∈ am_nl) && decide (e.2.1 < 267) && !decide (e.2.1 = 1) && !decide (e.2.1 = 71) && decide ((am_mn.getD e.2.1 ⟨"", "", ""⟩).name = "<init>") && decide ((am_mp.getD e.2.1 (0, 0, 0, 1, 0)).2.2.2.1 = 0)
  else decide (e.2.1 < 267) && !decide (e.2.1 = 1) && !decide (e.2.1 = 71) && am_w ((am_lk e.1 (am_mlp.getD own [])).getD 0) (.methodLink (am_cn.getD own "") e.1 (am_mn.getD e.2.1 ⟨"", "", ""⟩)) && (if e.2.2 = 0 then decide ((am_mp.getD e.2.1 (0, 0, 0, 1, 0)).2.2.2.1 = 0) && !decide ((am_mp.getD e.2.1 (0, 0, 0, 1, 99999)).2.2.2.2 = 99999) else if e.2.2 = 1 then decide ((am_mp.getD e.2.1 (0, 0, 0, 0, 0)).2.2.2.1 = 1) else if e.2.2 = 2 then decide ((am_mn.getD e.2.1 ⟨"", "", ""⟩).name = "<init>") && decide ((am_mp.getD e.2.1 (0, 0, 0, 1, 0)).2.2.2.1 = 0) else false)
theorem am_lc_1 : (List.range 12).all (fun own => (am_ml.getD own []).all (am_lc own)) = true := by decide +kernel
theorem am_lc_2 : (List.range 10).all (fun own => (am_ml.getD (12 + own) []).all (am_lc (12 + own))) = true := by decide +kernel
theorem am_ml_ok {own i : Nat} {q : Nat × Nat} (h : am_lk i (am_ml.getD own []) = some q) : am_lc own (i, q) = true := by
  have h1 := am_lk_mem h
  have h3 : own < 22 := am_own h1
  rcases Nat.lt_or_ge own 12 with h4 | h4
  · exact List.all_eq_true.mp (List.all_eq_true.mp am_lc_1 own (List.mem_range.mpr h4)) (i, q) h1
  · have h5 := List.all_eq_true.mp am_lc_2 (own - 12) (List.mem_range.mpr (by omega))
    rw [show 12 + (own - 12) = own by omega] at h5
    exact List.all_eq_true.mp h5 (i, q) h1
