/-! the start: both objects made, and the heap read as two states -/
theorem okI_p : ((((am_nn am_r1 = true ∧ am_nn am_r2 = true) ∧ am_hB.2 = (130, 3879)) ∧ am_hI.2 = (172, 23896)) ∧ (∀ i, i < 108 → am_sm (am_hI.1 (64 + i)) = am_tI.getD i (0, 0, []))) ∧ (∀ i, i < 108 → ∀ j, j < (am_tI.getD i (0, 0, [])).2.1 → (am_fn (am_hI.1 (64 + i)) j = (if 64 + i = 131 ∧ j = 8 then -1 else 0) ∧ am_fl (am_hI.1 (64 + i)) j = 0) ∧ am_fq (am_hI.1 (64 + i)) j = none) := by
  have h := am_okI_t
  unfold am_okI at h
  simp only [Bool.and_eq_true, decide_eq_true_eq, List.all_eq_true, List.mem_range] at h
  exact h
theorem okI_sm {i : Nat} (h : i < 108) : am_sm (am_hI.1 (64 + i)) = am_tI.getD i (0, 0, []) := okI_p.1.2 i h
def T0 : xS := (fun p k => if p = 88 ∧ k = 3 then -1 else 0, fun p => am_fn (am_hI.1 p), fun p => am_fl (am_hI.1 p), fun p k => if p = 109 ∧ k = 4 then some 110 else if p = 109 then none else am_fq (am_hI.1 p) k)
def G0 : gS := (fun _ => (0, 0), 0, 23896)
def S0 : mS := (fun k => if k = 35 then 11 else 0, fun k => am_fn (am_hI.1 (130 + k)), fun k => am_fl (am_hI.1 (130 + k)))
theorem aI_64 : am_hI.1 64 = x_ce 64 (T0.1 64) (T0.2.1 64) (T0.2.2.1 64) (T0.2.2.2 64) (x_k0.getD 0 (0, 0)) := am_sm_o (okI_sm (i := 0) (by decide)) (by decide)
theorem aI_65 : am_hI.1 65 = x_ce 65 (T0.1 65) (T0.2.1 65) (T0.2.2.1 65) (T0.2.2.2 65) (x_k0.getD 1 (0, 0)) := am_sm_o (okI_sm (i := 1) (by decide)) (by decide)
theorem aI_66 : am_hI.1 66 = x_ce 66 (T0.1 66) (T0.2.1 66) (T0.2.2.1 66) (T0.2.2.2 66) (x_k0.getD 2 (0, 0)) := am_sm_i (okI_sm (i := 2) (by decide))
theorem aI_67 : am_hI.1 67 = x_ce 67 (T0.1 67) (T0.2.1 67) (T0.2.2.1 67) (T0.2.2.2 67) (x_k0.getD 3 (0, 0)) := am_sm_o (okI_sm (i := 3) (by decide)) (by decide)
theorem aI_68 : am_hI.1 68 = x_ce 68 (T0.1 68) (T0.2.1 68) (T0.2.2.1 68) (T0.2.2.2 68) (x_k0.getD 4 (0, 0)) := am_sm_o (okI_sm (i := 4) (by decide)) (by decide)
theorem aI_69 : am_hI.1 69 = x_ce 69 (T0.1 69) (T0.2.1 69) (T0.2.2.1 69) (T0.2.2.2 69) (x_k0.getD 5 (0, 0)) := am_sm_i (okI_sm (i := 5) (by decide))
theorem aI_70 : am_hI.1 70 = x_ce 70 (T0.1 70) (T0.2.1 70) (T0.2.2.1 70) (T0.2.2.2 70) (x_k0.getD 6 (0, 0)) := am_sm_i (okI_sm (i := 6) (by decide))
theorem aI_71 : am_hI.1 71 = x_ce 71 (T0.1 71) (T0.2.1 71) (T0.2.2.1 71) (T0.2.2.2 71) (x_k0.getD 7 (0, 0)) := am_sm_i (okI_sm (i := 7) (by decide))
theorem aI_72 : am_hI.1 72 = x_ce 72 (T0.1 72) (T0.2.1 72) (T0.2.2.1 72) (T0.2.2.2 72) (x_k0.getD 8 (0, 0)) := am_sm_i (okI_sm (i := 8) (by decide))
theorem aI_73 : am_hI.1 73 = x_ce 73 (T0.1 73) (T0.2.1 73) (T0.2.2.1 73) (T0.2.2.2 73) (x_k0.getD 9 (0, 0)) := am_sm_i (okI_sm (i := 9) (by decide))
theorem aI_74 : am_hI.1 74 = x_ce 74 (T0.1 74) (T0.2.1 74) (T0.2.2.1 74) (T0.2.2.2 74) (x_k0.getD 10 (0, 0)) := am_sm_o (okI_sm (i := 10) (by decide)) (by decide)
theorem aI_75 : am_hI.1 75 = x_ce 75 (T0.1 75) (T0.2.1 75) (T0.2.2.1 75) (T0.2.2.2 75) (x_k0.getD 11 (0, 0)) := am_sm_i (okI_sm (i := 11) (by decide))
theorem aI_76 : am_hI.1 76 = x_ce 76 (T0.1 76) (T0.2.1 76) (T0.2.2.1 76) (T0.2.2.2 76) (x_k0.getD 12 (0, 0)) := am_sm_i (okI_sm (i := 12) (by decide))
theorem aI_77 : am_hI.1 77 = x_ce 77 (T0.1 77) (T0.2.1 77) (T0.2.2.1 77) (T0.2.2.2 77) (x_k0.getD 13 (0, 0)) := am_sm_i (okI_sm (i := 13) (by decide))
theorem aI_78 : am_hI.1 78 = x_ce 78 (T0.1 78) (T0.2.1 78) (T0.2.2.1 78) (T0.2.2.2 78) (x_k0.getD 14 (0, 0)) := am_sm_i (okI_sm (i := 14) (by decide))
theorem aI_79 : am_hI.1 79 = x_ce 79 (T0.1 79) (T0.2.1 79) (T0.2.2.1 79) (T0.2.2.2 79) (x_k0.getD 15 (0, 0)) := am_sm_i (okI_sm (i := 15) (by decide))
theorem aI_80 : am_hI.1 80 = x_ce 80 (T0.1 80) (T0.2.1 80) (T0.2.2.1 80) (T0.2.2.2 80) (x_k0.getD 16 (0, 0)) := am_sm_i (okI_sm (i := 16) (by decide))
theorem aI_81 : am_hI.1 81 = x_ce 81 (T0.1 81) (T0.2.1 81) (T0.2.2.1 81) (T0.2.2.2 81) (x_k0.getD 17 (0, 0)) := am_sm_i (okI_sm (i := 17) (by decide))
theorem aI_82 : am_hI.1 82 = x_ce 82 (T0.1 82) (T0.2.1 82) (T0.2.2.1 82) (T0.2.2.2 82) (x_k0.getD 18 (0, 0)) := am_sm_i (okI_sm (i := 18) (by decide))
theorem aI_83 : am_hI.1 83 = x_ce 83 (T0.1 83) (T0.2.1 83) (T0.2.2.1 83) (T0.2.2.2 83) (x_k0.getD 19 (0, 0)) := am_sm_i (okI_sm (i := 19) (by decide))
theorem aI_84 : am_hI.1 84 = x_ce 84 (T0.1 84) (T0.2.1 84) (T0.2.2.1 84) (T0.2.2.2 84) (x_k0.getD 20 (0, 0)) := am_sm_i (okI_sm (i := 20) (by decide))
theorem aI_85 : am_hI.1 85 = x_ce 85 (T0.1 85) (T0.2.1 85) (T0.2.2.1 85) (T0.2.2.2 85) (x_k0.getD 21 (0, 0)) := am_sm_o (okI_sm (i := 21) (by decide)) (by decide)
theorem aI_86 : am_hI.1 86 = x_ce 86 (T0.1 86) (T0.2.1 86) (T0.2.2.1 86) (T0.2.2.2 86) (x_k0.getD 22 (0, 0)) := am_sm_i (okI_sm (i := 22) (by decide))
theorem aI_87 : am_hI.1 87 = x_ce 87 (T0.1 87) (T0.2.1 87) (T0.2.2.1 87) (T0.2.2.2 87) (x_k0.getD 23 (0, 0)) := am_sm_q (okI_sm (i := 23) (by decide))
theorem aI_88 : am_hI.1 88 = x_ce 88 (T0.1 88) (T0.2.1 88) (T0.2.2.1 88) (T0.2.2.2 88) (x_k0.getD 24 (0, 0)) := am_sm_o (okI_sm (i := 24) (by decide)) (by decide)
theorem aI_89 : am_hI.1 89 = x_ce 89 (T0.1 89) (T0.2.1 89) (T0.2.2.1 89) (T0.2.2.2 89) (x_k0.getD 25 (0, 0)) := am_sm_o (okI_sm (i := 25) (by decide)) (by decide)
theorem aI_90 : am_hI.1 90 = x_ce 90 (T0.1 90) (T0.2.1 90) (T0.2.2.1 90) (T0.2.2.2 90) (x_k0.getD 26 (0, 0)) := am_sm_i (okI_sm (i := 26) (by decide))
theorem aI_91 : am_hI.1 91 = x_ce 91 (T0.1 91) (T0.2.1 91) (T0.2.2.1 91) (T0.2.2.2 91) (x_k0.getD 27 (0, 0)) := am_sm_i (okI_sm (i := 27) (by decide))
theorem aI_92 : am_hI.1 92 = x_ce 92 (T0.1 92) (T0.2.1 92) (T0.2.2.1 92) (T0.2.2.2 92) (x_k0.getD 28 (0, 0)) := am_sm_i (okI_sm (i := 28) (by decide))
theorem aI_93 : am_hI.1 93 = x_ce 93 (T0.1 93) (T0.2.1 93) (T0.2.2.1 93) (T0.2.2.2 93) (x_k0.getD 29 (0, 0)) := am_sm_i (okI_sm (i := 29) (by decide))
theorem aI_94 : am_hI.1 94 = x_ce 94 (T0.1 94) (T0.2.1 94) (T0.2.2.1 94) (T0.2.2.2 94) (x_k0.getD 30 (0, 0)) := am_sm_i (okI_sm (i := 30) (by decide))
theorem aI_95 : am_hI.1 95 = x_ce 95 (T0.1 95) (T0.2.1 95) (T0.2.2.1 95) (T0.2.2.2 95) (x_k0.getD 31 (0, 0)) := am_sm_o (okI_sm (i := 31) (by decide)) (by decide)
theorem aI_96 : am_hI.1 96 = x_ce 96 (T0.1 96) (T0.2.1 96) (T0.2.2.1 96) (T0.2.2.2 96) (x_k0.getD 32 (0, 0)) := am_sm_i (okI_sm (i := 32) (by decide))
theorem aI_97 : am_hI.1 97 = x_ce 97 (T0.1 97) (T0.2.1 97) (T0.2.2.1 97) (T0.2.2.2 97) (x_k0.getD 33 (0, 0)) := am_sm_i (okI_sm (i := 33) (by decide))
theorem aI_98 : am_hI.1 98 = x_ce 98 (T0.1 98) (T0.2.1 98) (T0.2.2.1 98) (T0.2.2.2 98) (x_k0.getD 34 (0, 0)) := am_sm_i (okI_sm (i := 34) (by decide))
theorem aI_99 : am_hI.1 99 = x_ce 99 (T0.1 99) (T0.2.1 99) (T0.2.2.1 99) (T0.2.2.2 99) (x_k0.getD 35 (0, 0)) := am_sm_i (okI_sm (i := 35) (by decide))
theorem aI_100 : am_hI.1 100 = x_ce 100 (T0.1 100) (T0.2.1 100) (T0.2.2.1 100) (T0.2.2.2 100) (x_k0.getD 36 (0, 0)) := am_sm_i (okI_sm (i := 36) (by decide))
theorem aI_101 : am_hI.1 101 = x_ce 101 (T0.1 101) (T0.2.1 101) (T0.2.2.1 101) (T0.2.2.2 101) (x_k0.getD 37 (0, 0)) := am_sm_i (okI_sm (i := 37) (by decide))
theorem aI_102 : am_hI.1 102 = x_ce 102 (T0.1 102) (T0.2.1 102) (T0.2.2.1 102) (T0.2.2.2 102) (x_k0.getD 38 (0, 0)) := am_sm_i (okI_sm (i := 38) (by decide))
theorem aI_103 : am_hI.1 103 = x_ce 103 (T0.1 103) (T0.2.1 103) (T0.2.2.1 103) (T0.2.2.2 103) (x_k0.getD 39 (0, 0)) := am_sm_i (okI_sm (i := 39) (by decide))
theorem aI_104 : am_hI.1 104 = x_ce 104 (T0.1 104) (T0.2.1 104) (T0.2.2.1 104) (T0.2.2.2 104) (x_k0.getD 40 (0, 0)) := am_sm_i (okI_sm (i := 40) (by decide))
theorem aI_105 : am_hI.1 105 = x_ce 105 (T0.1 105) (T0.2.1 105) (T0.2.2.1 105) (T0.2.2.2 105) (x_k0.getD 41 (0, 0)) := am_sm_i (okI_sm (i := 41) (by decide))
theorem aI_106 : am_hI.1 106 = x_ce 106 (T0.1 106) (T0.2.1 106) (T0.2.2.1 106) (T0.2.2.2 106) (x_k0.getD 42 (0, 0)) := am_sm_o (okI_sm (i := 42) (by decide)) (by decide)
theorem aI_107 : am_hI.1 107 = x_ce 107 (T0.1 107) (T0.2.1 107) (T0.2.2.1 107) (T0.2.2.2 107) (x_k0.getD 43 (0, 0)) := am_sm_q (okI_sm (i := 43) (by decide))
theorem aI_108 : am_hI.1 108 = x_ce 108 (T0.1 108) (T0.2.1 108) (T0.2.2.1 108) (T0.2.2.2 108) (x_k0.getD 44 (0, 0)) := am_sm_q (okI_sm (i := 44) (by decide))
theorem aI_109 : am_hI.1 109 = x_ce 109 (T0.1 109) (T0.2.1 109) (T0.2.2.1 109) (T0.2.2.2 109) (x_k0.getD 45 (0, 0)) := am_sm_o (okI_sm (i := 45) (by decide)) (by decide)
theorem aI_110 : am_hI.1 110 = x_ce 110 (T0.1 110) (T0.2.1 110) (T0.2.2.1 110) (T0.2.2.2 110) (x_k0.getD 46 (0, 0)) := am_sm_o (okI_sm (i := 46) (by decide)) (by decide)
theorem aI_111 : am_hI.1 111 = x_ce 111 (T0.1 111) (T0.2.1 111) (T0.2.2.1 111) (T0.2.2.2 111) (x_k0.getD 47 (0, 0)) := am_sm_i (okI_sm (i := 47) (by decide))
theorem aI_112 : am_hI.1 112 = x_ce 112 (T0.1 112) (T0.2.1 112) (T0.2.2.1 112) (T0.2.2.2 112) (x_k0.getD 48 (0, 0)) := am_sm_i (okI_sm (i := 48) (by decide))
theorem aI_113 : am_hI.1 113 = x_ce 113 (T0.1 113) (T0.2.1 113) (T0.2.2.1 113) (T0.2.2.2 113) (x_k0.getD 49 (0, 0)) := am_sm_i (okI_sm (i := 49) (by decide))
theorem aI_114 : am_hI.1 114 = x_ce 114 (T0.1 114) (T0.2.1 114) (T0.2.2.1 114) (T0.2.2.2 114) (x_k0.getD 50 (0, 0)) := am_sm_i (okI_sm (i := 50) (by decide))
theorem aI_115 : am_hI.1 115 = x_ce 115 (T0.1 115) (T0.2.1 115) (T0.2.2.1 115) (T0.2.2.2 115) (x_k0.getD 51 (0, 0)) := am_sm_i (okI_sm (i := 51) (by decide))
theorem aI_116 : am_hI.1 116 = x_ce 116 (T0.1 116) (T0.2.1 116) (T0.2.2.1 116) (T0.2.2.2 116) (x_k0.getD 52 (0, 0)) := am_sm_i (okI_sm (i := 52) (by decide))
theorem aI_117 : am_hI.1 117 = x_ce 117 (T0.1 117) (T0.2.1 117) (T0.2.2.1 117) (T0.2.2.2 117) (x_k0.getD 53 (0, 0)) := am_sm_i (okI_sm (i := 53) (by decide))
theorem aI_118 : am_hI.1 118 = x_ce 118 (T0.1 118) (T0.2.1 118) (T0.2.2.1 118) (T0.2.2.2 118) (x_k0.getD 54 (0, 0)) := am_sm_i (okI_sm (i := 54) (by decide))
theorem aI_119 : am_hI.1 119 = x_ce 119 (T0.1 119) (T0.2.1 119) (T0.2.2.1 119) (T0.2.2.2 119) (x_k0.getD 55 (0, 0)) := am_sm_i (okI_sm (i := 55) (by decide))
theorem aI_120 : am_hI.1 120 = x_ce 120 (T0.1 120) (T0.2.1 120) (T0.2.2.1 120) (T0.2.2.2 120) (x_k0.getD 56 (0, 0)) := am_sm_i (okI_sm (i := 56) (by decide))
theorem aI_121 : am_hI.1 121 = x_ce 121 (T0.1 121) (T0.2.1 121) (T0.2.2.1 121) (T0.2.2.2 121) (x_k0.getD 57 (0, 0)) := am_sm_l (okI_sm (i := 57) (by decide))
theorem aI_122 : am_hI.1 122 = x_ce 122 (T0.1 122) (T0.2.1 122) (T0.2.2.1 122) (T0.2.2.2 122) (x_k0.getD 58 (0, 0)) := am_sm_l (okI_sm (i := 58) (by decide))
theorem aI_123 : am_hI.1 123 = x_ce 123 (T0.1 123) (T0.2.1 123) (T0.2.2.1 123) (T0.2.2.2 123) (x_k0.getD 59 (0, 0)) := am_sm_o (okI_sm (i := 59) (by decide)) (by decide)
theorem aI_124 : am_hI.1 124 = x_ce 124 (T0.1 124) (T0.2.1 124) (T0.2.2.1 124) (T0.2.2.2 124) (x_k0.getD 60 (0, 0)) := am_sm_i (okI_sm (i := 60) (by decide))
theorem aI_125 : am_hI.1 125 = x_ce 125 (T0.1 125) (T0.2.1 125) (T0.2.2.1 125) (T0.2.2.2 125) (x_k0.getD 61 (0, 0)) := am_sm_o (okI_sm (i := 61) (by decide)) (by decide)
theorem aI_126 : am_hI.1 126 = x_ce 126 (T0.1 126) (T0.2.1 126) (T0.2.2.1 126) (T0.2.2.2 126) (x_k0.getD 62 (0, 0)) := am_sm_i (okI_sm (i := 62) (by decide))
theorem aI_127 : am_hI.1 127 = x_ce 127 (T0.1 127) (T0.2.1 127) (T0.2.2.1 127) (T0.2.2.2 127) (x_k0.getD 63 (0, 0)) := am_sm_i (okI_sm (i := 63) (by decide))
theorem aI_128 : am_hI.1 128 = x_ce 128 (T0.1 128) (T0.2.1 128) (T0.2.2.1 128) (T0.2.2.2 128) (x_k0.getD 64 (0, 0)) := am_sm_i (okI_sm (i := 64) (by decide))
theorem aI_129 : am_hI.1 129 = x_ce 129 (T0.1 129) (T0.2.1 129) (T0.2.2.1 129) (T0.2.2.2 129) (x_k0.getD 65 (0, 0)) := am_sm_i (okI_sm (i := 65) (by decide))
theorem aI_130 : am_hI.1 130 = m_ce S0 0 := am_sm_o (okI_sm (i := 66) (by decide)) (by decide)
theorem aI_131 : am_hI.1 131 = m_ce S0 1 := am_sm_i (okI_sm (i := 67) (by decide))
theorem aI_132 : am_hI.1 132 = m_ce S0 2 := am_sm_i (okI_sm (i := 68) (by decide))
theorem aI_133 : am_hI.1 133 = m_ce S0 3 := am_sm_i (okI_sm (i := 69) (by decide))
theorem aI_134 : am_hI.1 134 = m_ce S0 4 := am_sm_i (okI_sm (i := 70) (by decide))
theorem aI_135 : am_hI.1 135 = m_ce S0 5 := am_sm_i (okI_sm (i := 71) (by decide))
theorem aI_136 : am_hI.1 136 = m_ce S0 6 := am_sm_i (okI_sm (i := 72) (by decide))
theorem aI_137 : am_hI.1 137 = m_ce S0 7 := am_sm_i (okI_sm (i := 73) (by decide))
theorem aI_138 : am_hI.1 138 = m_ce S0 8 := am_sm_i (okI_sm (i := 74) (by decide))
theorem aI_139 : am_hI.1 139 = m_ce S0 9 := am_sm_i (okI_sm (i := 75) (by decide))
theorem aI_140 : am_hI.1 140 = m_ce S0 10 := am_sm_i (okI_sm (i := 76) (by decide))
theorem aI_141 : am_hI.1 141 = m_ce S0 11 := am_sm_i (okI_sm (i := 77) (by decide))
theorem aI_142 : am_hI.1 142 = m_ce S0 12 := am_sm_i (okI_sm (i := 78) (by decide))
theorem aI_143 : am_hI.1 143 = m_ce S0 13 := am_sm_i (okI_sm (i := 79) (by decide))
theorem aI_144 : am_hI.1 144 = m_ce S0 14 := am_sm_i (okI_sm (i := 80) (by decide))
theorem aI_145 : am_hI.1 145 = m_ce S0 15 := am_sm_i (okI_sm (i := 81) (by decide))
theorem aI_146 : am_hI.1 146 = m_ce S0 16 := am_sm_i (okI_sm (i := 82) (by decide))
theorem aI_147 : am_hI.1 147 = m_ce S0 17 := am_sm_i (okI_sm (i := 83) (by decide))
theorem aI_148 : am_hI.1 148 = m_ce S0 18 := am_sm_i (okI_sm (i := 84) (by decide))
theorem aI_149 : am_hI.1 149 = m_ce S0 19 := am_sm_i (okI_sm (i := 85) (by decide))
theorem aI_150 : am_hI.1 150 = m_ce S0 20 := am_sm_i (okI_sm (i := 86) (by decide))
theorem aI_151 : am_hI.1 151 = m_ce S0 21 := am_sm_i (okI_sm (i := 87) (by decide))
theorem aI_152 : am_hI.1 152 = m_ce S0 22 := am_sm_i (okI_sm (i := 88) (by decide))
theorem aI_153 : am_hI.1 153 = m_ce S0 23 := am_sm_i (okI_sm (i := 89) (by decide))
theorem aI_154 : am_hI.1 154 = m_ce S0 24 := am_sm_i (okI_sm (i := 90) (by decide))
theorem aI_155 : am_hI.1 155 = m_ce S0 25 := am_sm_i (okI_sm (i := 91) (by decide))
theorem aI_156 : am_hI.1 156 = m_ce S0 26 := am_sm_i (okI_sm (i := 92) (by decide))
theorem aI_157 : am_hI.1 157 = m_ce S0 27 := am_sm_i (okI_sm (i := 93) (by decide))
theorem aI_158 : am_hI.1 158 = m_ce S0 28 := am_sm_i (okI_sm (i := 94) (by decide))
theorem aI_159 : am_hI.1 159 = m_ce S0 29 := am_sm_i (okI_sm (i := 95) (by decide))
theorem aI_160 : am_hI.1 160 = m_ce S0 30 := am_sm_i (okI_sm (i := 96) (by decide))
theorem aI_161 : am_hI.1 161 = m_ce S0 31 := am_sm_i (okI_sm (i := 97) (by decide))
theorem aI_162 : am_hI.1 162 = m_ce S0 32 := am_sm_i (okI_sm (i := 98) (by decide))
theorem aI_163 : am_hI.1 163 = m_ce S0 33 := am_sm_l (okI_sm (i := 99) (by decide))
theorem aI_164 : am_hI.1 164 = m_ce S0 34 := am_sm_l (okI_sm (i := 100) (by decide))
theorem aI_165 : am_hI.1 165 = m_ce S0 35 := am_sm_i (okI_sm (i := 101) (by decide))
theorem aI_166 : am_hI.1 166 = m_ce S0 36 := am_sm_i (okI_sm (i := 102) (by decide))
theorem aI_167 : am_hI.1 167 = m_ce S0 37 := am_sm_i (okI_sm (i := 103) (by decide))
theorem aI_168 : am_hI.1 168 = m_ce S0 38 := am_sm_i (okI_sm (i := 104) (by decide))
theorem aI_169 : am_hI.1 169 = m_ce S0 39 := am_sm_i (okI_sm (i := 105) (by decide))
theorem aI_170 : am_hI.1 170 = m_ce S0 40 := am_sm_i (okI_sm (i := 106) (by decide))
theorem aI_171 : am_hI.1 171 = m_ce S0 41 := am_sm_i (okI_sm (i := 107) (by decide))
theorem aI_c : ∀ i, i < 66 → am_hI.1 (64 + i) = x_ce (64 + i) (T0.1 (64 + i)) (T0.2.1 (64 + i)) (T0.2.2.1 (64 + i)) (T0.2.2.2 (64 + i)) (x_k0.getD i (0, 0)) := by
  intro i hi
  match i, hi with
  | 0, _ => exact aI_64
  | 1, _ => exact aI_65
  | 2, _ => exact aI_66
  | 3, _ => exact aI_67
  | 4, _ => exact aI_68
  | 5, _ => exact aI_69
  | 6, _ => exact aI_70
  | 7, _ => exact aI_71
  | 8, _ => exact aI_72
  | 9, _ => exact aI_73
  | 10, _ => exact aI_74
  | 11, _ => exact aI_75
  | 12, _ => exact aI_76
  | 13, _ => exact aI_77
  | 14, _ => exact aI_78
  | 15, _ => exact aI_79
  | 16, _ => exact aI_80
  | 17, _ => exact aI_81
  | 18, _ => exact aI_82
  | 19, _ => exact aI_83
  | 20, _ => exact aI_84
  | 21, _ => exact aI_85
  | 22, _ => exact aI_86
  | 23, _ => exact aI_87
  | 24, _ => exact aI_88
  | 25, _ => exact aI_89
  | 26, _ => exact aI_90
  | 27, _ => exact aI_91
  | 28, _ => exact aI_92
  | 29, _ => exact aI_93
  | 30, _ => exact aI_94
  | 31, _ => exact aI_95
  | 32, _ => exact aI_96
  | 33, _ => exact aI_97
  | 34, _ => exact aI_98
  | 35, _ => exact aI_99
  | 36, _ => exact aI_100
  | 37, _ => exact aI_101
  | 38, _ => exact aI_102
  | 39, _ => exact aI_103
  | 40, _ => exact aI_104
  | 41, _ => exact aI_105
  | 42, _ => exact aI_106
  | 43, _ => exact aI_107
  | 44, _ => exact aI_108
  | 45, _ => exact aI_109
  | 46, _ => exact aI_110
  | 47, _ => exact aI_111
  | 48, _ => exact aI_112
  | 49, _ => exact aI_113
  | 50, _ => exact aI_114
  | 51, _ => exact aI_115
  | 52, _ => exact aI_116
  | 53, _ => exact aI_117
  | 54, _ => exact aI_118
  | 55, _ => exact aI_119
  | 56, _ => exact aI_120
  | 57, _ => exact aI_121
  | 58, _ => exact aI_122
  | 59, _ => exact aI_123
  | 60, _ => exact aI_124
  | 61, _ => exact aI_125
  | 62, _ => exact aI_126
  | 63, _ => exact aI_127
  | 64, _ => exact aI_128
  | 65, _ => exact aI_129
  | n + 66, h => exact absurd h (by omega)
theorem aI_m : ∀ i, i < 42 → am_hI.1 (130 + i) = m_ce S0 i := by
  intro i hi
  match i, hi with
  | 0, _ => exact aI_130
  | 1, _ => exact aI_131
  | 2, _ => exact aI_132
  | 3, _ => exact aI_133
  | 4, _ => exact aI_134
  | 5, _ => exact aI_135
  | 6, _ => exact aI_136
  | 7, _ => exact aI_137
  | 8, _ => exact aI_138
  | 9, _ => exact aI_139
  | 10, _ => exact aI_140
  | 11, _ => exact aI_141
  | 12, _ => exact aI_142
  | 13, _ => exact aI_143
  | 14, _ => exact aI_144
  | 15, _ => exact aI_145
  | 16, _ => exact aI_146
  | 17, _ => exact aI_147
  | 18, _ => exact aI_148
  | 19, _ => exact aI_149
  | 20, _ => exact aI_150
  | 21, _ => exact aI_151
  | 22, _ => exact aI_152
  | 23, _ => exact aI_153
  | 24, _ => exact aI_154
  | 25, _ => exact aI_155
  | 26, _ => exact aI_156
  | 27, _ => exact aI_157
  | 28, _ => exact aI_158
  | 29, _ => exact aI_159
  | 30, _ => exact aI_160
  | 31, _ => exact aI_161
  | 32, _ => exact aI_162
  | 33, _ => exact aI_163
  | 34, _ => exact aI_164
  | 35, _ => exact aI_165
  | 36, _ => exact aI_166
  | 37, _ => exact aI_167
  | 38, _ => exact aI_168
  | 39, _ => exact aI_169
  | 40, _ => exact aI_170
  | 41, _ => exact aI_171
  | n + 42, h => exact absurd h (by omega)
theorem am_hI_eq : am_hI = xst T0 G0 (hS S0) := by
  refine Prod.ext ?_ okI_p.1.1.2
  funext p
  show am_hI.1 p = if (x_kd G0 p).1 = 0 then hS S0 p else x_ce p (T0.1 p) (T0.2.1 p) (T0.2.2.1 p) (T0.2.2.2 p) (x_kd G0 p)
  by_cases h1 : p < 64
  · have hk : x_kd G0 p = (0, 0) := by
      unfold x_kd
      rw [if_pos (by omega), if_pos h1]
    rw [hk, if_pos rfl]
    exact (if_neg (by omega)).symm
  · by_cases h2 : p < 130
    · obtain ⟨i, rfl⟩ : ∃ i, p = 64 + i := ⟨p - 64, by omega⟩
      have hk : x_kd G0 (64 + i) = x_k0.getD i (0, 0) := by
        unfold x_kd
        rw [if_pos h2, if_neg h1, Nat.add_sub_cancel_left]
      rw [hk]
      by_cases h0 : (x_k0.getD i (0, 0)).1 = 0
      · rw [if_pos h0]
        exact (if_neg (by omega)).symm
      · rw [if_neg h0]
        exact aI_c i (by omega)
    · by_cases h3 : p < 172
      · obtain ⟨i, rfl⟩ : ∃ i, p = 130 + i := ⟨p - 130, by omega⟩
        rw [x_kd_m ⟨by omega, h3⟩, if_pos rfl, aI_m i (by omega)]
        unfold hS
        rw [if_pos ⟨by omega, h3⟩, Nat.add_sub_cancel_left]
      · have hk : x_kd G0 p = (0, 0) := by
          unfold x_kd
          rw [if_neg h2, if_neg h3, if_neg (by show ¬ p < 172 + 0; omega)]
        rw [hk, if_pos rfl]
        exact (if_neg (by omega)).symm
theorem law_start {xs : Nat → Int32} {L9 d : Nat} {Q : Option Value → AmH → Prop} (g : Go (am_X xs L9) (d + 100) 267 18 [.ref 0, .ref 64, .ref 130, .int 0] [] am_hI Q) : Go (am_X xs L9) (d + 100) 267 0 (am_en 267 [.ref 0]) [] am_h0 Q := by
  have h1 := am_nn_ok okI_p.1.1.1.1.1
  have h2 := am_nn_ok okI_p.1.1.1.1.2
  have c1 : Ca (am_X xs L9) 20 0 [.ref 64] am_hA (fun v h' => v = none ∧ h' = am_hB) := ⟨3000, none, am_hB, am_ext (am_X0_ok xs L9) h1, rfl, rfl⟩
  have c2 : Ca (am_X xs L9) 20 153 [.ref 130] am_hC (fun v h' => v = none ∧ h' = am_hI) := ⟨3000, none, am_hI, am_ext (am_X0_ok xs L9) h2, rfl, rfl⟩
  have c1 := ca_deep (e := d + 79) c1
  have c2 := ca_deep (e := d + 79) c2
  rw [show 20 + (d + 79) = d + 99 by omega] at c1 c2
  show Go (am_X xs L9) (d + 100) 267 0 [.ref 0, .float 0, .float 0, .float 0] [] am_h0 Q
  refine r_new (ci := 11) (q := am_cl.getD 11 ("", am_F0, 0)) (fs := [.null, .null, .null, .null, .int 0, .null, .null, .null, .null, .null]) fe_267_0 (by decide +kernel) rfl rfl ?_
  refine r_dup fe_267_3 rfl ?_
  refine r_callI (as := []) (r := [.ref 64]) fe_267_4 lm_18_9 (Or.inl rfl) md_0 rfl rfl (Nat.le_of_ble_eq_true rfl) (Nat.le_of_ble_eq_true rfl) (Nat.le_of_ble_eq_true rfl) ?_
  refine ca_mono c1 ?_
  rintro v h' ⟨rfl, rfl⟩
  refine r_astore_n fe_267_7 (Nat.le_of_ble_eq_true rfl) rfl ?_
  have hB1 : am_hB.2.1 = 130 := by rw [okI_p.1.1.1.2]
  refine r_new (ci := 12) (q := am_cl.getD 12 ("", am_F0, 0)) (fs := [.int 0, .null, .null, .null, .null, .null, .null, .null, .null, .null, .null, .null, .null, .null, .null, .null, .null, .null, .null, .null, .null, .null, .null, .null, .null, .null, .int 0, .int 0, .int 0, .int 0, .int 0, .int 0, .int 0, .int 0, .int 0, .int 0, .null, .null, .null, .null, .null, .null, .null, .null, .null, .null, .null, .int 0, .int 0, .int 0, .null, .null, .null, .int 0, .null, .null, .int 0, .int 0]) fe_267_8 (by decide +kernel) rfl rfl ?_
  rw [hB1]
  refine r_dup fe_267_11 rfl ?_
  refine r_callI (as := []) (r := [.ref 130]) fe_267_12 lm_18_12 (Or.inl rfl) md_153 rfl rfl (Nat.le_of_ble_eq_true rfl) (Nat.le_of_ble_eq_true rfl) (Nat.le_of_ble_eq_true rfl) ?_
  refine ca_mono c2 ?_
  rintro v h' ⟨rfl, rfl⟩
  refine r_astore_n fe_267_15 (Nat.le_of_ble_eq_true rfl) rfl ?_
  refine r_iconst (v := 0) fe_267_16 (by decide) ?_
  refine r_istore_n fe_267_17 (Nat.le_of_ble_eq_true rfl) rfl ?_
  exact g
/-- whole, out of a relation that the pairs of calls keep -/
theorem whole_of {R : Nat → mS → xS × gS → Prop} (h0 : R 0 S0 (T0, G0)) (hs : ∀ xs, SimR xs R) (hb : ∀ (k : Nat) (S : mS) (U : xS × gS), k ≤ 512 → R k S U → 172 + U.2.2.1 ≤ 600064 ∧ U.2.2.2 ≤ 5502250) {p : Program} {e : Env} {s : State} {m : MethodId} {below : List Frame} {meth : Method} {c : Code} (l : Launch) {b L : Nat} {xs : Nat → Int32} (hL : L ≤ 3072) (C0 : lw_At p s m meth c b L xs) : W p l e room_1 s m #[Value.ref b] below meth c s.heap [] 0 0 (lw_Z below #[Value.ref b] s) (entryFrame m ([Value.ref b] : List Value).toArray 4) := by
  have g : Go (am_X xs L) (100 + 100) 267 0 (am_en 267 [.ref 0]) [] am_h0 (fun v h => v = some (.int 1) ∧ h.2.1 ≤ 600064 ∧ h.2.2 ≤ 5502250) := by
    refine law_start ?_
    rw [am_hI_eq]
    exact law_loop hL (hs xs) (fun k S U hk hR => ⟨rfl, (hb k S U hk hR).1, (hb k S U hk hR).2⟩) (L + 1) 0 S0 (T0, G0) (by omega) (by omega) h0
  obtain ⟨n, v, hf, a, rfl, h1, h2⟩ := g
  exact am_start l C0 a h1 h2
