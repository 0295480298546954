/-! the start: both objects made, and the heap read as two states -/
theorem okI_p : ((((am_nn am_r1 = true ∧ am_nn am_r2 = true) ∧ am_hB.2 = (130, 3879)) ∧ am_hI.2 = (172, 23896)) ∧ (∀ i, i < 108 → am_sm (am_hI.1 (64 + i)) = am_tI.getD i (0, 0, []))) ∧ (∀ i, i < 108 → ∀ j, j < (am_tI.getD i (0, 0, [])).2.1 → (am_fn (am_hI.1 (64 + i)) j = (if 64 + i = 131 ∧ j = 8 then -1 else 0) ∧ am_fl (am_hI.1 (64 + i)) j = 0) ∧ am_fq (am_hI.1 (64 + i)) j = none) := by
  have h := am_okI_t
  unfold am_okI at h
  simp only [Bool.and_eq_true, decide_eq_true_eq, List.all_eq_true, List.mem_range] at h
  exact h
theorem okI_sm {i : Nat} (h : i < 108) : am_sm (am_hI.1 (64 + i)) = am_tI.getD i (0, 0, []) := okI_p.1.2 i h
def T0g (g : Nat → va_E) : xS := (fun p k => if p = 88 ∧ k = 3 then -1 else 0, fun p => am_fn (g p), fun p => am_fl (g p), fun p k => if p = 109 ∧ k = 4 then some 110 else if p = 109 then none else am_fq (g p) k)
def G0 : gS := (fun _ => (0, 0), 0, 23896)
def S0g (g : Nat → va_E) : mS := (fun k => if k = 35 then 11 else 0, fun k => am_fn (g (130 + k)), fun k => am_fl (g (130 + k)))
def okG (g : Nat → va_E) : Prop := ∀ i, i < 108 → am_sm (g (64 + i)) = am_tI.getD i (0, 0, [])
def T0 : xS := T0g am_hI.1
def S0 : mS := S0g am_hI.1
theorem okI_g : okG am_hI.1 := fun _ h => okI_sm h
theorem aI_64 {g : Nat → va_E} (hg : okG g) : g 64 = x_ce 64 ((T0g g).1 64) ((T0g g).2.1 64) ((T0g g).2.2.1 64) ((T0g g).2.2.2 64) (x_k0.getD 0 (0, 0)) := am_sm_o (hg 0 (by decide)) (by decide)
theorem aI_65 {g : Nat → va_E} (hg : okG g) : g 65 = x_ce 65 ((T0g g).1 65) ((T0g g).2.1 65) ((T0g g).2.2.1 65) ((T0g g).2.2.2 65) (x_k0.getD 1 (0, 0)) := am_sm_o (hg 1 (by decide)) (by decide)
theorem aI_66 {g : Nat → va_E} (hg : okG g) : g 66 = x_ce 66 ((T0g g).1 66) ((T0g g).2.1 66) ((T0g g).2.2.1 66) ((T0g g).2.2.2 66) (x_k0.getD 2 (0, 0)) := am_sm_i (hg 2 (by decide))
theorem aI_67 {g : Nat → va_E} (hg : okG g) : g 67 = x_ce 67 ((T0g g).1 67) ((T0g g).2.1 67) ((T0g g).2.2.1 67) ((T0g g).2.2.2 67) (x_k0.getD 3 (0, 0)) := am_sm_o (hg 3 (by decide)) (by decide)
theorem aI_68 {g : Nat → va_E} (hg : okG g) : g 68 = x_ce 68 ((T0g g).1 68) ((T0g g).2.1 68) ((T0g g).2.2.1 68) ((T0g g).2.2.2 68) (x_k0.getD 4 (0, 0)) := am_sm_o (hg 4 (by decide)) (by decide)
theorem aI_69 {g : Nat → va_E} (hg : okG g) : g 69 = x_ce 69 ((T0g g).1 69) ((T0g g).2.1 69) ((T0g g).2.2.1 69) ((T0g g).2.2.2 69) (x_k0.getD 5 (0, 0)) := am_sm_i (hg 5 (by decide))
theorem aI_70 {g : Nat → va_E} (hg : okG g) : g 70 = x_ce 70 ((T0g g).1 70) ((T0g g).2.1 70) ((T0g g).2.2.1 70) ((T0g g).2.2.2 70) (x_k0.getD 6 (0, 0)) := am_sm_i (hg 6 (by decide))
theorem aI_71 {g : Nat → va_E} (hg : okG g) : g 71 = x_ce 71 ((T0g g).1 71) ((T0g g).2.1 71) ((T0g g).2.2.1 71) ((T0g g).2.2.2 71) (x_k0.getD 7 (0, 0)) := am_sm_i (hg 7 (by decide))
theorem aI_72 {g : Nat → va_E} (hg : okG g) : g 72 = x_ce 72 ((T0g g).1 72) ((T0g g).2.1 72) ((T0g g).2.2.1 72) ((T0g g).2.2.2 72) (x_k0.getD 8 (0, 0)) := am_sm_i (hg 8 (by decide))
theorem aI_73 {g : Nat → va_E} (hg : okG g) : g 73 = x_ce 73 ((T0g g).1 73) ((T0g g).2.1 73) ((T0g g).2.2.1 73) ((T0g g).2.2.2 73) (x_k0.getD 9 (0, 0)) := am_sm_i (hg 9 (by decide))
theorem aI_74 {g : Nat → va_E} (hg : okG g) : g 74 = x_ce 74 ((T0g g).1 74) ((T0g g).2.1 74) ((T0g g).2.2.1 74) ((T0g g).2.2.2 74) (x_k0.getD 10 (0, 0)) := am_sm_o (hg 10 (by decide)) (by decide)
theorem aI_75 {g : Nat → va_E} (hg : okG g) : g 75 = x_ce 75 ((T0g g).1 75) ((T0g g).2.1 75) ((T0g g).2.2.1 75) ((T0g g).2.2.2 75) (x_k0.getD 11 (0, 0)) := am_sm_i (hg 11 (by decide))
theorem aI_76 {g : Nat → va_E} (hg : okG g) : g 76 = x_ce 76 ((T0g g).1 76) ((T0g g).2.1 76) ((T0g g).2.2.1 76) ((T0g g).2.2.2 76) (x_k0.getD 12 (0, 0)) := am_sm_i (hg 12 (by decide))
theorem aI_77 {g : Nat → va_E} (hg : okG g) : g 77 = x_ce 77 ((T0g g).1 77) ((T0g g).2.1 77) ((T0g g).2.2.1 77) ((T0g g).2.2.2 77) (x_k0.getD 13 (0, 0)) := am_sm_i (hg 13 (by decide))
theorem aI_78 {g : Nat → va_E} (hg : okG g) : g 78 = x_ce 78 ((T0g g).1 78) ((T0g g).2.1 78) ((T0g g).2.2.1 78) ((T0g g).2.2.2 78) (x_k0.getD 14 (0, 0)) := am_sm_i (hg 14 (by decide))
theorem aI_79 {g : Nat → va_E} (hg : okG g) : g 79 = x_ce 79 ((T0g g).1 79) ((T0g g).2.1 79) ((T0g g).2.2.1 79) ((T0g g).2.2.2 79) (x_k0.getD 15 (0, 0)) := am_sm_i (hg 15 (by decide))
theorem aI_80 {g : Nat → va_E} (hg : okG g) : g 80 = x_ce 80 ((T0g g).1 80) ((T0g g).2.1 80) ((T0g g).2.2.1 80) ((T0g g).2.2.2 80) (x_k0.getD 16 (0, 0)) := am_sm_i (hg 16 (by decide))
theorem aI_81 {g : Nat → va_E} (hg : okG g) : g 81 = x_ce 81 ((T0g g).1 81) ((T0g g).2.1 81) ((T0g g).2.2.1 81) ((T0g g).2.2.2 81) (x_k0.getD 17 (0, 0)) := am_sm_i (hg 17 (by decide))
theorem aI_82 {g : Nat → va_E} (hg : okG g) : g 82 = x_ce 82 ((T0g g).1 82) ((T0g g).2.1 82) ((T0g g).2.2.1 82) ((T0g g).2.2.2 82) (x_k0.getD 18 (0, 0)) := am_sm_i (hg 18 (by decide))
theorem aI_83 {g : Nat → va_E} (hg : okG g) : g 83 = x_ce 83 ((T0g g).1 83) ((T0g g).2.1 83) ((T0g g).2.2.1 83) ((T0g g).2.2.2 83) (x_k0.getD 19 (0, 0)) := am_sm_i (hg 19 (by decide))
theorem aI_84 {g : Nat → va_E} (hg : okG g) : g 84 = x_ce 84 ((T0g g).1 84) ((T0g g).2.1 84) ((T0g g).2.2.1 84) ((T0g g).2.2.2 84) (x_k0.getD 20 (0, 0)) := am_sm_i (hg 20 (by decide))
theorem aI_85 {g : Nat → va_E} (hg : okG g) : g 85 = x_ce 85 ((T0g g).1 85) ((T0g g).2.1 85) ((T0g g).2.2.1 85) ((T0g g).2.2.2 85) (x_k0.getD 21 (0, 0)) := am_sm_o (hg 21 (by decide)) (by decide)
theorem aI_86 {g : Nat → va_E} (hg : okG g) : g 86 = x_ce 86 ((T0g g).1 86) ((T0g g).2.1 86) ((T0g g).2.2.1 86) ((T0g g).2.2.2 86) (x_k0.getD 22 (0, 0)) := am_sm_i (hg 22 (by decide))
theorem aI_87 {g : Nat → va_E} (hg : okG g) : g 87 = x_ce 87 ((T0g g).1 87) ((T0g g).2.1 87) ((T0g g).2.2.1 87) ((T0g g).2.2.2 87) (x_k0.getD 23 (0, 0)) := am_sm_q (hg 23 (by decide))
theorem aI_88 {g : Nat → va_E} (hg : okG g) : g 88 = x_ce 88 ((T0g g).1 88) ((T0g g).2.1 88) ((T0g g).2.2.1 88) ((T0g g).2.2.2 88) (x_k0.getD 24 (0, 0)) := am_sm_o (hg 24 (by decide)) (by decide)
theorem aI_89 {g : Nat → va_E} (hg : okG g) : g 89 = x_ce 89 ((T0g g).1 89) ((T0g g).2.1 89) ((T0g g).2.2.1 89) ((T0g g).2.2.2 89) (x_k0.getD 25 (0, 0)) := am_sm_o (hg 25 (by decide)) (by decide)
theorem aI_90 {g : Nat → va_E} (hg : okG g) : g 90 = x_ce 90 ((T0g g).1 90) ((T0g g).2.1 90) ((T0g g).2.2.1 90) ((T0g g).2.2.2 90) (x_k0.getD 26 (0, 0)) := am_sm_i (hg 26 (by decide))
theorem aI_91 {g : Nat → va_E} (hg : okG g) : g 91 = x_ce 91 ((T0g g).1 91) ((T0g g).2.1 91) ((T0g g).2.2.1 91) ((T0g g).2.2.2 91) (x_k0.getD 27 (0, 0)) := am_sm_i (hg 27 (by decide))
theorem aI_92 {g : Nat → va_E} (hg : okG g) : g 92 = x_ce 92 ((T0g g).1 92) ((T0g g).2.1 92) ((T0g g).2.2.1 92) ((T0g g).2.2.2 92) (x_k0.getD 28 (0, 0)) := am_sm_i (hg 28 (by decide))
theorem aI_93 {g : Nat → va_E} (hg : okG g) : g 93 = x_ce 93 ((T0g g).1 93) ((T0g g).2.1 93) ((T0g g).2.2.1 93) ((T0g g).2.2.2 93) (x_k0.getD 29 (0, 0)) := am_sm_i (hg 29 (by decide))
theorem aI_94 {g : Nat → va_E} (hg : okG g) : g 94 = x_ce 94 ((T0g g).1 94) ((T0g g).2.1 94) ((T0g g).2.2.1 94) ((T0g g).2.2.2 94) (x_k0.getD 30 (0, 0)) := am_sm_i (hg 30 (by decide))
theorem aI_95 {g : Nat → va_E} (hg : okG g) : g 95 = x_ce 95 ((T0g g).1 95) ((T0g g).2.1 95) ((T0g g).2.2.1 95) ((T0g g).2.2.2 95) (x_k0.getD 31 (0, 0)) := am_sm_o (hg 31 (by decide)) (by decide)
theorem aI_96 {g : Nat → va_E} (hg : okG g) : g 96 = x_ce 96 ((T0g g).1 96) ((T0g g).2.1 96) ((T0g g).2.2.1 96) ((T0g g).2.2.2 96) (x_k0.getD 32 (0, 0)) := am_sm_i (hg 32 (by decide))
theorem aI_97 {g : Nat → va_E} (hg : okG g) : g 97 = x_ce 97 ((T0g g).1 97) ((T0g g).2.1 97) ((T0g g).2.2.1 97) ((T0g g).2.2.2 97) (x_k0.getD 33 (0, 0)) := am_sm_i (hg 33 (by decide))
theorem aI_98 {g : Nat → va_E} (hg : okG g) : g 98 = x_ce 98 ((T0g g).1 98) ((T0g g).2.1 98) ((T0g g).2.2.1 98) ((T0g g).2.2.2 98) (x_k0.getD 34 (0, 0)) := am_sm_i (hg 34 (by decide))
theorem aI_99 {g : Nat → va_E} (hg : okG g) : g 99 = x_ce 99 ((T0g g).1 99) ((T0g g).2.1 99) ((T0g g).2.2.1 99) ((T0g g).2.2.2 99) (x_k0.getD 35 (0, 0)) := am_sm_i (hg 35 (by decide))
theorem aI_100 {g : Nat → va_E} (hg : okG g) : g 100 = x_ce 100 ((T0g g).1 100) ((T0g g).2.1 100) ((T0g g).2.2.1 100) ((T0g g).2.2.2 100) (x_k0.getD 36 (0, 0)) := am_sm_i (hg 36 (by decide))
theorem aI_101 {g : Nat → va_E} (hg : okG g) : g 101 = x_ce 101 ((T0g g).1 101) ((T0g g).2.1 101) ((T0g g).2.2.1 101) ((T0g g).2.2.2 101) (x_k0.getD 37 (0, 0)) := am_sm_i (hg 37 (by decide))
theorem aI_102 {g : Nat → va_E} (hg : okG g) : g 102 = x_ce 102 ((T0g g).1 102) ((T0g g).2.1 102) ((T0g g).2.2.1 102) ((T0g g).2.2.2 102) (x_k0.getD 38 (0, 0)) := am_sm_i (hg 38 (by decide))
theorem aI_103 {g : Nat → va_E} (hg : okG g) : g 103 = x_ce 103 ((T0g g).1 103) ((T0g g).2.1 103) ((T0g g).2.2.1 103) ((T0g g).2.2.2 103) (x_k0.getD 39 (0, 0)) := am_sm_i (hg 39 (by decide))
theorem aI_104 {g : Nat → va_E} (hg : okG g) : g 104 = x_ce 104 ((T0g g).1 104) ((T0g g).2.1 104) ((T0g g).2.2.1 104) ((T0g g).2.2.2 104) (x_k0.getD 40 (0, 0)) := am_sm_i (hg 40 (by decide))
theorem aI_105 {g : Nat → va_E} (hg : okG g) : g 105 = x_ce 105 ((T0g g).1 105) ((T0g g).2.1 105) ((T0g g).2.2.1 105) ((T0g g).2.2.2 105) (x_k0.getD 41 (0, 0)) := am_sm_i (hg 41 (by decide))
theorem aI_106 {g : Nat → va_E} (hg : okG g) : g 106 = x_ce 106 ((T0g g).1 106) ((T0g g).2.1 106) ((T0g g).2.2.1 106) ((T0g g).2.2.2 106) (x_k0.getD 42 (0, 0)) := am_sm_o (hg 42 (by decide)) (by decide)
theorem aI_107 {g : Nat → va_E} (hg : okG g) : g 107 = x_ce 107 ((T0g g).1 107) ((T0g g).2.1 107) ((T0g g).2.2.1 107) ((T0g g).2.2.2 107) (x_k0.getD 43 (0, 0)) := am_sm_q (hg 43 (by decide))
theorem aI_108 {g : Nat → va_E} (hg : okG g) : g 108 = x_ce 108 ((T0g g).1 108) ((T0g g).2.1 108) ((T0g g).2.2.1 108) ((T0g g).2.2.2 108) (x_k0.getD 44 (0, 0)) := am_sm_q (hg 44 (by decide))
theorem aI_109 {g : Nat → va_E} (hg : okG g) : g 109 = x_ce 109 ((T0g g).1 109) ((T0g g).2.1 109) ((T0g g).2.2.1 109) ((T0g g).2.2.2 109) (x_k0.getD 45 (0, 0)) := am_sm_o (hg 45 (by decide)) (by decide)
theorem aI_110 {g : Nat → va_E} (hg : okG g) : g 110 = x_ce 110 ((T0g g).1 110) ((T0g g).2.1 110) ((T0g g).2.2.1 110) ((T0g g).2.2.2 110) (x_k0.getD 46 (0, 0)) := am_sm_o (hg 46 (by decide)) (by decide)
theorem aI_111 {g : Nat → va_E} (hg : okG g) : g 111 = x_ce 111 ((T0g g).1 111) ((T0g g).2.1 111) ((T0g g).2.2.1 111) ((T0g g).2.2.2 111) (x_k0.getD 47 (0, 0)) := am_sm_i (hg 47 (by decide))
theorem aI_112 {g : Nat → va_E} (hg : okG g) : g 112 = x_ce 112 ((T0g g).1 112) ((T0g g).2.1 112) ((T0g g).2.2.1 112) ((T0g g).2.2.2 112) (x_k0.getD 48 (0, 0)) := am_sm_i (hg 48 (by decide))
theorem aI_113 {g : Nat → va_E} (hg : okG g) : g 113 = x_ce 113 ((T0g g).1 113) ((T0g g).2.1 113) ((T0g g).2.2.1 113) ((T0g g).2.2.2 113) (x_k0.getD 49 (0, 0)) := am_sm_i (hg 49 (by decide))
theorem aI_114 {g : Nat → va_E} (hg : okG g) : g 114 = x_ce 114 ((T0g g).1 114) ((T0g g).2.1 114) ((T0g g).2.2.1 114) ((T0g g).2.2.2 114) (x_k0.getD 50 (0, 0)) := am_sm_i (hg 50 (by decide))
theorem aI_115 {g : Nat → va_E} (hg : okG g) : g 115 = x_ce 115 ((T0g g).1 115) ((T0g g).2.1 115) ((T0g g).2.2.1 115) ((T0g g).2.2.2 115) (x_k0.getD 51 (0, 0)) := am_sm_i (hg 51 (by decide))
theorem aI_116 {g : Nat → va_E} (hg : okG g) : g 116 = x_ce 116 ((T0g g).1 116) ((T0g g).2.1 116) ((T0g g).2.2.1 116) ((T0g g).2.2.2 116) (x_k0.getD 52 (0, 0)) := am_sm_i (hg 52 (by decide))
theorem aI_117 {g : Nat → va_E} (hg : okG g) : g 117 = x_ce 117 ((T0g g).1 117) ((T0g g).2.1 117) ((T0g g).2.2.1 117) ((T0g g).2.2.2 117) (x_k0.getD 53 (0, 0)) := am_sm_i (hg 53 (by decide))
theorem aI_118 {g : Nat → va_E} (hg : okG g) : g 118 = x_ce 118 ((T0g g).1 118) ((T0g g).2.1 118) ((T0g g).2.2.1 118) ((T0g g).2.2.2 118) (x_k0.getD 54 (0, 0)) := am_sm_i (hg 54 (by decide))
theorem aI_119 {g : Nat → va_E} (hg : okG g) : g 119 = x_ce 119 ((T0g g).1 119) ((T0g g).2.1 119) ((T0g g).2.2.1 119) ((T0g g).2.2.2 119) (x_k0.getD 55 (0, 0)) := am_sm_i (hg 55 (by decide))
theorem aI_120 {g : Nat → va_E} (hg : okG g) : g 120 = x_ce 120 ((T0g g).1 120) ((T0g g).2.1 120) ((T0g g).2.2.1 120) ((T0g g).2.2.2 120) (x_k0.getD 56 (0, 0)) := am_sm_i (hg 56 (by decide))
theorem aI_121 {g : Nat → va_E} (hg : okG g) : g 121 = x_ce 121 ((T0g g).1 121) ((T0g g).2.1 121) ((T0g g).2.2.1 121) ((T0g g).2.2.2 121) (x_k0.getD 57 (0, 0)) := am_sm_l (hg 57 (by decide))
theorem aI_122 {g : Nat → va_E} (hg : okG g) : g 122 = x_ce 122 ((T0g g).1 122) ((T0g g).2.1 122) ((T0g g).2.2.1 122) ((T0g g).2.2.2 122) (x_k0.getD 58 (0, 0)) := am_sm_l (hg 58 (by decide))
theorem aI_123 {g : Nat → va_E} (hg : okG g) : g 123 = x_ce 123 ((T0g g).1 123) ((T0g g).2.1 123) ((T0g g).2.2.1 123) ((T0g g).2.2.2 123) (x_k0.getD 59 (0, 0)) := am_sm_o (hg 59 (by decide)) (by decide)
theorem aI_124 {g : Nat → va_E} (hg : okG g) : g 124 = x_ce 124 ((T0g g).1 124) ((T0g g).2.1 124) ((T0g g).2.2.1 124) ((T0g g).2.2.2 124) (x_k0.getD 60 (0, 0)) := am_sm_i (hg 60 (by decide))
theorem aI_125 {g : Nat → va_E} (hg : okG g) : g 125 = x_ce 125 ((T0g g).1 125) ((T0g g).2.1 125) ((T0g g).2.2.1 125) ((T0g g).2.2.2 125) (x_k0.getD 61 (0, 0)) := am_sm_o (hg 61 (by decide)) (by decide)
theorem aI_126 {g : Nat → va_E} (hg : okG g) : g 126 = x_ce 126 ((T0g g).1 126) ((T0g g).2.1 126) ((T0g g).2.2.1 126) ((T0g g).2.2.2 126) (x_k0.getD 62 (0, 0)) := am_sm_i (hg 62 (by decide))
theorem aI_127 {g : Nat → va_E} (hg : okG g) : g 127 = x_ce 127 ((T0g g).1 127) ((T0g g).2.1 127) ((T0g g).2.2.1 127) ((T0g g).2.2.2 127) (x_k0.getD 63 (0, 0)) := am_sm_i (hg 63 (by decide))
theorem aI_128 {g : Nat → va_E} (hg : okG g) : g 128 = x_ce 128 ((T0g g).1 128) ((T0g g).2.1 128) ((T0g g).2.2.1 128) ((T0g g).2.2.2 128) (x_k0.getD 64 (0, 0)) := am_sm_i (hg 64 (by decide))
theorem aI_129 {g : Nat → va_E} (hg : okG g) : g 129 = x_ce 129 ((T0g g).1 129) ((T0g g).2.1 129) ((T0g g).2.2.1 129) ((T0g g).2.2.2 129) (x_k0.getD 65 (0, 0)) := am_sm_i (hg 65 (by decide))
theorem aI_130 {g : Nat → va_E} (hg : okG g) : g 130 = m_ce (S0g g) 0 := am_sm_o (hg 66 (by decide)) (by decide)
theorem aI_131 {g : Nat → va_E} (hg : okG g) : g 131 = m_ce (S0g g) 1 := am_sm_i (hg 67 (by decide))
theorem aI_132 {g : Nat → va_E} (hg : okG g) : g 132 = m_ce (S0g g) 2 := am_sm_i (hg 68 (by decide))
theorem aI_133 {g : Nat → va_E} (hg : okG g) : g 133 = m_ce (S0g g) 3 := am_sm_i (hg 69 (by decide))
theorem aI_134 {g : Nat → va_E} (hg : okG g) : g 134 = m_ce (S0g g) 4 := am_sm_i (hg 70 (by decide))
theorem aI_135 {g : Nat → va_E} (hg : okG g) : g 135 = m_ce (S0g g) 5 := am_sm_i (hg 71 (by decide))
theorem aI_136 {g : Nat → va_E} (hg : okG g) : g 136 = m_ce (S0g g) 6 := am_sm_i (hg 72 (by decide))
theorem aI_137 {g : Nat → va_E} (hg : okG g) : g 137 = m_ce (S0g g) 7 := am_sm_i (hg 73 (by decide))
theorem aI_138 {g : Nat → va_E} (hg : okG g) : g 138 = m_ce (S0g g) 8 := am_sm_i (hg 74 (by decide))
theorem aI_139 {g : Nat → va_E} (hg : okG g) : g 139 = m_ce (S0g g) 9 := am_sm_i (hg 75 (by decide))
theorem aI_140 {g : Nat → va_E} (hg : okG g) : g 140 = m_ce (S0g g) 10 := am_sm_i (hg 76 (by decide))
theorem aI_141 {g : Nat → va_E} (hg : okG g) : g 141 = m_ce (S0g g) 11 := am_sm_i (hg 77 (by decide))
theorem aI_142 {g : Nat → va_E} (hg : okG g) : g 142 = m_ce (S0g g) 12 := am_sm_i (hg 78 (by decide))
theorem aI_143 {g : Nat → va_E} (hg : okG g) : g 143 = m_ce (S0g g) 13 := am_sm_i (hg 79 (by decide))
theorem aI_144 {g : Nat → va_E} (hg : okG g) : g 144 = m_ce (S0g g) 14 := am_sm_i (hg 80 (by decide))
theorem aI_145 {g : Nat → va_E} (hg : okG g) : g 145 = m_ce (S0g g) 15 := am_sm_i (hg 81 (by decide))
theorem aI_146 {g : Nat → va_E} (hg : okG g) : g 146 = m_ce (S0g g) 16 := am_sm_i (hg 82 (by decide))
theorem aI_147 {g : Nat → va_E} (hg : okG g) : g 147 = m_ce (S0g g) 17 := am_sm_i (hg 83 (by decide))
theorem aI_148 {g : Nat → va_E} (hg : okG g) : g 148 = m_ce (S0g g) 18 := am_sm_i (hg 84 (by decide))
theorem aI_149 {g : Nat → va_E} (hg : okG g) : g 149 = m_ce (S0g g) 19 := am_sm_i (hg 85 (by decide))
theorem aI_150 {g : Nat → va_E} (hg : okG g) : g 150 = m_ce (S0g g) 20 := am_sm_i (hg 86 (by decide))
theorem aI_151 {g : Nat → va_E} (hg : okG g) : g 151 = m_ce (S0g g) 21 := am_sm_i (hg 87 (by decide))
theorem aI_152 {g : Nat → va_E} (hg : okG g) : g 152 = m_ce (S0g g) 22 := am_sm_i (hg 88 (by decide))
theorem aI_153 {g : Nat → va_E} (hg : okG g) : g 153 = m_ce (S0g g) 23 := am_sm_i (hg 89 (by decide))
theorem aI_154 {g : Nat → va_E} (hg : okG g) : g 154 = m_ce (S0g g) 24 := am_sm_i (hg 90 (by decide))
theorem aI_155 {g : Nat → va_E} (hg : okG g) : g 155 = m_ce (S0g g) 25 := am_sm_i (hg 91 (by decide))
theorem aI_156 {g : Nat → va_E} (hg : okG g) : g 156 = m_ce (S0g g) 26 := am_sm_i (hg 92 (by decide))
theorem aI_157 {g : Nat → va_E} (hg : okG g) : g 157 = m_ce (S0g g) 27 := am_sm_i (hg 93 (by decide))
theorem aI_158 {g : Nat → va_E} (hg : okG g) : g 158 = m_ce (S0g g) 28 := am_sm_i (hg 94 (by decide))
theorem aI_159 {g : Nat → va_E} (hg : okG g) : g 159 = m_ce (S0g g) 29 := am_sm_i (hg 95 (by decide))
theorem aI_160 {g : Nat → va_E} (hg : okG g) : g 160 = m_ce (S0g g) 30 := am_sm_i (hg 96 (by decide))
theorem aI_161 {g : Nat → va_E} (hg : okG g) : g 161 = m_ce (S0g g) 31 := am_sm_i (hg 97 (by decide))
theorem aI_162 {g : Nat → va_E} (hg : okG g) : g 162 = m_ce (S0g g) 32 := am_sm_i (hg 98 (by decide))
theorem aI_163 {g : Nat → va_E} (hg : okG g) : g 163 = m_ce (S0g g) 33 := am_sm_l (hg 99 (by decide))
theorem aI_164 {g : Nat → va_E} (hg : okG g) : g 164 = m_ce (S0g g) 34 := am_sm_l (hg 100 (by decide))
theorem aI_165 {g : Nat → va_E} (hg : okG g) : g 165 = m_ce (S0g g) 35 := am_sm_i (hg 101 (by decide))
theorem aI_166 {g : Nat → va_E} (hg : okG g) : g 166 = m_ce (S0g g) 36 := am_sm_i (hg 102 (by decide))
theorem aI_167 {g : Nat → va_E} (hg : okG g) : g 167 = m_ce (S0g g) 37 := am_sm_i (hg 103 (by decide))
theorem aI_168 {g : Nat → va_E} (hg : okG g) : g 168 = m_ce (S0g g) 38 := am_sm_i (hg 104 (by decide))
theorem aI_169 {g : Nat → va_E} (hg : okG g) : g 169 = m_ce (S0g g) 39 := am_sm_i (hg 105 (by decide))
theorem aI_170 {g : Nat → va_E} (hg : okG g) : g 170 = m_ce (S0g g) 40 := am_sm_i (hg 106 (by decide))
theorem aI_171 {g : Nat → va_E} (hg : okG g) : g 171 = m_ce (S0g g) 41 := am_sm_i (hg 107 (by decide))
theorem aI_c {g : Nat → va_E} (hg : okG g) : ∀ i, i < 66 → g (64 + i) = x_ce (64 + i) ((T0g g).1 (64 + i)) ((T0g g).2.1 (64 + i)) ((T0g g).2.2.1 (64 + i)) ((T0g g).2.2.2 (64 + i)) (x_k0.getD i (0, 0)) := by
  intro i hi
  match i, hi with
  | 0, _ => exact aI_64 hg
  | 1, _ => exact aI_65 hg
  | 2, _ => exact aI_66 hg
  | 3, _ => exact aI_67 hg
  | 4, _ => exact aI_68 hg
  | 5, _ => exact aI_69 hg
  | 6, _ => exact aI_70 hg
  | 7, _ => exact aI_71 hg
  | 8, _ => exact aI_72 hg
  | 9, _ => exact aI_73 hg
  | 10, _ => exact aI_74 hg
  | 11, _ => exact aI_75 hg
  | 12, _ => exact aI_76 hg
  | 13, _ => exact aI_77 hg
  | 14, _ => exact aI_78 hg
  | 15, _ => exact aI_79 hg
  | 16, _ => exact aI_80 hg
  | 17, _ => exact aI_81 hg
  | 18, _ => exact aI_82 hg
  | 19, _ => exact aI_83 hg
  | 20, _ => exact aI_84 hg
  | 21, _ => exact aI_85 hg
  | 22, _ => exact aI_86 hg
  | 23, _ => exact aI_87 hg
  | 24, _ => exact aI_88 hg
  | 25, _ => exact aI_89 hg
  | 26, _ => exact aI_90 hg
  | 27, _ => exact aI_91 hg
  | 28, _ => exact aI_92 hg
  | 29, _ => exact aI_93 hg
  | 30, _ => exact aI_94 hg
  | 31, _ => exact aI_95 hg
  | 32, _ => exact aI_96 hg
  | 33, _ => exact aI_97 hg
  | 34, _ => exact aI_98 hg
  | 35, _ => exact aI_99 hg
  | 36, _ => exact aI_100 hg
  | 37, _ => exact aI_101 hg
  | 38, _ => exact aI_102 hg
  | 39, _ => exact aI_103 hg
  | 40, _ => exact aI_104 hg
  | 41, _ => exact aI_105 hg
  | 42, _ => exact aI_106 hg
  | 43, _ => exact aI_107 hg
  | 44, _ => exact aI_108 hg
  | 45, _ => exact aI_109 hg
  | 46, _ => exact aI_110 hg
  | 47, _ => exact aI_111 hg
  | 48, _ => exact aI_112 hg
  | 49, _ => exact aI_113 hg
  | 50, _ => exact aI_114 hg
  | 51, _ => exact aI_115 hg
  | 52, _ => exact aI_116 hg
  | 53, _ => exact aI_117 hg
  | 54, _ => exact aI_118 hg
  | 55, _ => exact aI_119 hg
  | 56, _ => exact aI_120 hg
  | 57, _ => exact aI_121 hg
  | 58, _ => exact aI_122 hg
  | 59, _ => exact aI_123 hg
  | 60, _ => exact aI_124 hg
  | 61, _ => exact aI_125 hg
  | 62, _ => exact aI_126 hg
  | 63, _ => exact aI_127 hg
  | 64, _ => exact aI_128 hg
  | 65, _ => exact aI_129 hg
  | n + 66, h => exact absurd h (by omega)
theorem aI_m {g : Nat → va_E} (hg : okG g) : ∀ i, i < 42 → g (130 + i) = m_ce (S0g g) i := by
  intro i hi
  match i, hi with
  | 0, _ => exact aI_130 hg
  | 1, _ => exact aI_131 hg
  | 2, _ => exact aI_132 hg
  | 3, _ => exact aI_133 hg
  | 4, _ => exact aI_134 hg
  | 5, _ => exact aI_135 hg
  | 6, _ => exact aI_136 hg
  | 7, _ => exact aI_137 hg
  | 8, _ => exact aI_138 hg
  | 9, _ => exact aI_139 hg
  | 10, _ => exact aI_140 hg
  | 11, _ => exact aI_141 hg
  | 12, _ => exact aI_142 hg
  | 13, _ => exact aI_143 hg
  | 14, _ => exact aI_144 hg
  | 15, _ => exact aI_145 hg
  | 16, _ => exact aI_146 hg
  | 17, _ => exact aI_147 hg
  | 18, _ => exact aI_148 hg
  | 19, _ => exact aI_149 hg
  | 20, _ => exact aI_150 hg
  | 21, _ => exact aI_151 hg
  | 22, _ => exact aI_152 hg
  | 23, _ => exact aI_153 hg
  | 24, _ => exact aI_154 hg
  | 25, _ => exact aI_155 hg
  | 26, _ => exact aI_156 hg
  | 27, _ => exact aI_157 hg
  | 28, _ => exact aI_158 hg
  | 29, _ => exact aI_159 hg
  | 30, _ => exact aI_160 hg
  | 31, _ => exact aI_161 hg
  | 32, _ => exact aI_162 hg
  | 33, _ => exact aI_163 hg
  | 34, _ => exact aI_164 hg
  | 35, _ => exact aI_165 hg
  | 36, _ => exact aI_166 hg
  | 37, _ => exact aI_167 hg
  | 38, _ => exact aI_168 hg
  | 39, _ => exact aI_169 hg
  | 40, _ => exact aI_170 hg
  | 41, _ => exact aI_171 hg
  | n + 42, h => exact absurd h (by omega)
theorem hI_eqg {g : Nat → va_E} (hg : okG g) (p : Nat) : g p = if (x_kd G0 p).1 = 0 then (if 130 ≤ p ∧ p < 172 then m_ce (S0g g) (p - 130) else g p) else x_ce p ((T0g g).1 p) ((T0g g).2.1 p) ((T0g g).2.2.1 p) ((T0g g).2.2.2 p) (x_kd G0 p) := by
  by_cases h1 : p < 64
  · have hk : x_kd G0 p = (0, 0) := by
      unfold x_kd
      rw [if_pos (by omega), if_pos h1]
    rw [hk, if_pos rfl]
    exact (if_neg (by omega)).symm
  · by_cases h2 : p < 130
    · obtain ⟨i, rfl⟩ : ∃ i, p = 64 + i := ⟨p - 64, by omega⟩
      have hk : x_kd G0 (64 + i) = x_k0.getD i (0, 0) := by
        unfold x_kd
        rw [if_pos h2, if_neg h1, Nat.add_sub_cancel_left]
      rw [hk]
      by_cases h0 : (x_k0.getD i (0, 0)).1 = 0
      · rw [if_pos h0]
        exact (if_neg (by omega)).symm
      · rw [if_neg h0]
        exact aI_c hg i (by omega)
    · by_cases h3 : p < 172
      · obtain ⟨i, rfl⟩ : ∃ i, p = 130 + i := ⟨p - 130, by omega⟩
        rw [x_kd_m ⟨by omega, h3⟩, if_pos rfl, if_pos ⟨by omega, h3⟩, Nat.add_sub_cancel_left]
        exact aI_m hg i (by omega)
      · have hk : x_kd G0 p = (0, 0) := by
          unfold x_kd
          rw [if_neg h2, if_neg h3, if_neg (by show ¬ p < 172 + 0; omega)]
        rw [hk, if_pos rfl]
        exact (if_neg (by omega)).symm
theorem am_hI_eq : am_hI = xst T0 G0 (hS S0) := Prod.ext (funext (fun p => hI_eqg okI_g p)) okI_p.1.1.2
theorem law_start {xs : Nat → Int32} {L9 d : Nat} {Q : Option Value → AmH → Prop} (g : Go (am_X xs L9) (d + 100) 267 18 [.ref 0, .ref 64, .ref 130, .int 0] [] am_hI Q) : Go (am_X xs L9) (d + 100) 267 0 (am_en 267 [.ref 0]) [] am_h0 Q := by
  have h1 := am_nn_ok okI_p.1.1.1.1.1
  have h2 := am_nn_ok okI_p.1.1.1.1.2
  have c1 : Ca (am_X xs L9) 20 0 [.ref 64] am_hA (fun v h' => v = none ∧ h' = am_hB) := ⟨3000, none, am_hB, am_ext (am_X0_ok xs L9) h1, rfl, rfl⟩
  have c2 : Ca (am_X xs L9) 20 153 [.ref 130] am_hC (fun v h' => v = none ∧ h' = am_hI) := ⟨3000, none, am_hI, am_ext (am_X0_ok xs L9) h2, rfl, rfl⟩
  have c1 := ca_deep (e := d + 79) c1
  have c2 := ca_deep (e := d + 79) c2
  rw [show 20 + (d + 79) = d + 99 by omega] at c1 c2
  show Go (am_X xs L9) (d + 100) 267 0 [.ref 0, .float 0, .float 0, .float 0] [] am_h0 Q
  refine r_new (ci := 11) (q := am_cl.getD 11 ("", am_F0, 0)) (fs := [.null, .null, .null, .null, .int 0, .null, .null, .null, .null, .null]) fe_267_0 (by decide +kernel) rfl rfl ?_
  refine r_dup fe_267_3 rfl ?_
  refine r_callI (as := []) (r := [.ref 64]) fe_267_4 lm_18_9 (Or.inl rfl) md_0 rfl rfl (Nat.le_of_ble_eq_true rfl) (Nat.le_of_ble_eq_true rfl) (Nat.le_of_ble_eq_true rfl) ?_
  refine ca_mono c1 ?_
  intro v h' hv
  rw [hv.1, hv.2]
  refine r_astore_n fe_267_7 (Nat.le_of_ble_eq_true rfl) rfl ?_
  have hB1 : am_hB.2.1 = 130 := by rw [okI_p.1.1.1.2]
  refine r_new (ci := 12) (q := am_cl.getD 12 ("", am_F0, 0)) (fs := [.int 0, .null, .null, .null, .null, .null, .null, .null, .null, .null, .null, .null, .null, .null, .null, .null, .null, .null, .null, .null, .null, .null, .null, .null, .null, .null, .int 0, .int 0, .int 0, .int 0, .int 0, .int 0, .int 0, .int 0, .int 0, .int 0, .null, .null, .null, .null, .null, .null, .null, .null, .null, .null, .null, .int 0, .int 0, .int 0, .null, .null, .null, .int 0, .null, .null, .int 0, .int 0]) fe_267_8 (by decide +kernel) rfl rfl ?_
  rw [hB1]
  refine r_dup fe_267_11 rfl ?_
  refine r_callI (as := []) (r := [.ref 130]) fe_267_12 lm_18_12 (Or.inl rfl) md_153 rfl rfl (Nat.le_of_ble_eq_true rfl) (Nat.le_of_ble_eq_true rfl) (Nat.le_of_ble_eq_true rfl) ?_
  refine ca_mono c2 ?_
  intro v h' hv
  rw [hv.1, hv.2]
  refine r_astore_n fe_267_15 (Nat.le_of_ble_eq_true rfl) rfl ?_
  refine r_iconst (v := 0) fe_267_16 (by decide) ?_
  refine r_istore_n fe_267_17 (Nat.le_of_ble_eq_true rfl) rfl ?_
  exact g
/-- whole, out of a relation that the pairs of calls keep -/
theorem whole_of {R : Nat → mS → xS × gS → Prop} (h0 : R 0 S0 (T0, G0)) (hs : ∀ xs, SimR xs R) (hb : ∀ (k : Nat) (S : mS) (U : xS × gS), k ≤ 512 → R k S U → 172 + U.2.2.1 ≤ 600064 ∧ U.2.2.2 ≤ 5502250) {p : Program} {e : Env} {s : State} {m : MethodId} {below : List Frame} {meth : Method} {c : Code} (l : Launch) {b L : Nat} {xs : Nat → Int32} (hL : L ≤ 3072) (C0 : lw_At p s m meth c b L xs) : W p l e room_1 s m #[Value.ref b] below meth c s.heap [] 0 0 (lw_Z below #[Value.ref b] s) (entryFrame m ([Value.ref b] : List Value).toArray 4) := by
  have g : Go (am_X xs L) (100 + 100) 267 0 (am_en 267 [.ref 0]) [] am_h0 (fun v h => v = some (.int 1) ∧ h.2.1 ≤ 600064 ∧ h.2.2 ≤ 5502250) := by
    refine law_start ?_
    rw [am_hI_eq]
    exact law_loop hL (hs xs) (fun k S U hk hR => ⟨rfl, (hb k S U hk hR).1, (hb k S U hk hR).2⟩) (L + 1) 0 S0 (T0, G0) (by omega) (by omega) h0
  obtain ⟨n, v, hf, a, rfl, h1, h2⟩ := g
  exact am_start l C0 a h1 h2
