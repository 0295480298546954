/-! waters in the program: small methods -/
theorem ic_ne_pn {k c : Nat} (hk : k < 2 ^ 31) (hc : c < 2 ^ 31 - 1) : am_ic .ne (zI k) (nI c) = !decide (k = c + 1) := by
  rw [← zI_s]
  show (!decide (zI k = zI (c + 1))) = _
  rw [decide_eq_decide.mpr (zI_inj hk (by omega))]
theorem ic_eq_pn {k c : Nat} (hk : k < 2 ^ 31) (hc : c < 2 ^ 31 - 1) : am_ic .eq (zI k) (nI c) = decide (k = c + 1) := by
  rw [← zI_s]
  show decide (zI k = zI (c + 1)) = _
  rw [decide_eq_decide.mpr (zI_inj hk (by omega))]
theorem nx_u {k j : Nat} (hk : k < 2 ^ 31) (hj : j < 32) : ((nI k).toUInt32 >>> ((nI j).toUInt32 &&& (nI 31).toUInt32)).toInt32 = nI (k >>> j) := by
  have hs : k >>> j ≤ k := by
    rw [Nat.shiftRight_eq_div_pow]
    exact Nat.div_le_self _ _
  have e2 : UInt32.ofNat k >>> (UInt32.ofNat j &&& Int32.toUInt32 31) = UInt32.ofNat (k >>> j) := by
    apply UInt32.toNat_inj.1
    have h1 : (UInt32.ofNat k).toNat = k := Nat.mod_eq_of_lt (by omega)
    have h2 : (UInt32.ofNat (k >>> j)).toNat = k >>> j := Nat.mod_eq_of_lt (by omega)
    rw [UInt32.toNat_shiftRight, nx_cnt ⟨j, hj⟩, h1, h2]
  show (UInt32.ofNat k >>> (UInt32.ofNat j &&& Int32.toUInt32 31)).toInt32 = _
  rw [e2]
  rfl
theorem g92w {a : Nat} (ha : a < 16777216) {T : xS} : Ev (fun n => G92 n (nI a) T) (nI (ctF a.testBit 24 0), T) := by
  refine ev_succ (fun n => G92e0 n ..) ?_
  rw [← bc_ct ha]
  have b1 : (a >>> 1) &&& 1431655765 ≤ a := Nat.le_trans Nat.and_le_left (shr_le a 1)
  simp only [G92b0, L0, L1, L2, L3, L4, L5, L6, L7, L8, L9, L10, L11, L12, L13, L16, L20, L31, L32, L40, L48, L57, L59, L60, L61, L91, L93, L97, L99, L100, L102, L103, L114, L122, L255, L300, L400, L402, L999, L2280, L2500, L99999, L63, L1431655765, L858993459, L252645135]
  rw [nx_u (k := a) (j := 1) (by omega) (by decide), nx_and, nI_subN b1]
  obtain ⟨A, hA⟩ : ∃ A, A = a - ((a >>> 1) &&& 1431655765) := ⟨_, rfl⟩
  rw [← hA]
  have b2 : A < 16777216 := by omega
  have s2 := shr_le A 2
  obtain ⟨B, hB⟩ : ∃ B, B = (A &&& 858993459) + ((A >>> 2) &&& 858993459) := ⟨_, rfl⟩
  have b3 : B < 33554432 := by
    have h1 : A &&& 858993459 ≤ A := Nat.and_le_left
    have h2 : (A >>> 2) &&& 858993459 ≤ A >>> 2 := Nat.and_le_left
    omega
  rw [nx_u (k := A) (j := 2) (by omega) (by decide), nx_and, nx_and, nI_add, ← hB]
  have s4 := shr_le B 4
  obtain ⟨C, hC⟩ : ∃ C, C = (B + (B >>> 4)) &&& 252645135 := ⟨_, rfl⟩
  have b4 : C < 67108864 := by
    have h1 : (B + (B >>> 4)) &&& 252645135 ≤ B + (B >>> 4) := Nat.and_le_left
    omega
  rw [nx_u (k := B) (j := 4) (by omega) (by decide), nI_add, nx_and, ← hC]
  have s8 := shr_le C 8
  obtain ⟨D, hD⟩ : ∃ D, D = C + (C >>> 8) := ⟨_, rfl⟩
  rw [nx_u (k := C) (j := 8) (by omega) (by decide), nI_add, ← hD]
  rw [nx_u (k := D) (j := 16) (by omega) (by decide), nI_add, nx_and]
  subst hD hC hB hA
  exact ev_ret
theorem g92 {a : Nat} (ha : a < 65536) {T : xS} : Ev (fun n => G92 n (nI a) T) (nI (ctF a.testBit 16 0), T) := by
  have := g92w (a := a) (T := T) (by omega)
  rw [ct_wid (m := 16) ha (by decide)] at this
  exact this
theorem g78l {T : xS} {wb c n : Nat} {w : AW} (hw : CW T wb w) (hn : w.1 0 1 ≤ 13) (hp : ∀ s, s < w.1 0 1 → w.1 1 s ≤ 16) (hc : c < 1000) : ∀ (m s x : Nat), s + m = w.1 0 1 → Ev (fun n => G78f wb n 4 (nI c) (nI x) (nI s) T) (nI (bsF (fun s => decide (w.1 1 s = c + 1)) m s x), T) := by
  intro m
  induction m with
  | zero =>
    intro s x hs
    refine ev_succ (fun n => G78e4 wb n ..) ?_
    have : w.1 0 1 ≤ s := by omega
    simp (disch := omega) only [G78b4, hw.2.1, ic_ge, this, decide_eq_true_eq, decide_true, decide_false, Bool.not_eq_true, Bool.not_eq_true', Bool.not_true, Bool.not_false, decide_eq_false_iff_not, Bool.false_eq_true, not_false_eq_true, not_true_eq_false, if_true, if_false, ↓reduceIte, eq_self, Option.bind_some, Bool.true_and, Bool.false_and, Bool.and_true, Bool.and_false]
    exact ev_ret
  | succ m ih =>
    intro s x hs
    refine ev_succ (fun n => G78e4 wb n ..) ?_
    have hr := (hw.2.2.2.1 s (by omega)).1
    have h16 := hp s (by omega)
    have h1 : ¬ w.1 0 1 ≤ s := by omega
    simp (disch := omega) only [G78b4, hw.2.1, L0, L1, L2, L3, L4, L5, L6, L7, L8, L9, L10, L11, L12, L13, L16, L20, L31, L32, L40, L48, L57, L59, L60, L61, L91, L93, L97, L99, L100, L102, L103, L114, L122, L255, L300, L400, L402, L999, L2280, L2500, L99999, L63, L1431655765, L858993459, L252645135, ic_ge, ic_gt, ic_le, ic_lt, ic_eq, ic_ne, if_lt, if_ge, if_gt, if_le, if_eq, if_ne, if_lt_zI, if_ge_zI, ic_ne_m1, ic_eq_m1, ic_nn_m1, ic_ee_m1, if_ne_b2i, if_eq_b2i, b2i_z, decide_eq_true_eq, decide_true, decide_false, Bool.not_eq_true, Bool.not_eq_true', Bool.not_true, Bool.not_false, decide_eq_false_iff_not, Bool.false_eq_true, not_false_eq_true, not_true_eq_false, if_true, if_false, ↓reduceIte, eq_self, Option.bind_some, Bool.true_and, Bool.false_and, Bool.and_true, Bool.and_false, nI_add, nI_subN, nI_clamp, gdF, gdF2, gdP, zI_cl, zI_s, Lm1, h1, hr, ic_ne_pn, nI_shl, nx_or]
    unfold bsF
    by_cases h : w.1 1 s = c + 1
    · simp only [h, decide_eq_true_eq, decide_true, decide_false, Bool.not_eq_true, Bool.not_eq_true', Bool.not_true, Bool.not_false, decide_eq_false_iff_not, Bool.false_eq_true, not_false_eq_true, not_true_eq_false, if_true, if_false, ↓reduceIte, eq_self, Option.bind_some, Bool.true_and, Bool.false_and, Bool.and_true, Bool.and_false]
      exact ih (s + 1) _ (by omega)
    · simp only [h, decide_eq_true_eq, decide_true, decide_false, Bool.not_eq_true, Bool.not_eq_true', Bool.not_true, Bool.not_false, decide_eq_false_iff_not, Bool.false_eq_true, not_false_eq_true, not_true_eq_false, if_true, if_false, ↓reduceIte, eq_self, Option.bind_some, Bool.true_and, Bool.false_and, Bool.and_true, Bool.and_false]
      exact ih (s + 1) _ (by omega)
theorem g78 {T : xS} {wb c : Nat} {w : AW} (hw : CW T wb w) (hn : w.1 0 1 ≤ 13) (hp : ∀ s, s < w.1 0 1 → w.1 1 s ≤ 16) (hc : c < 1000) : Ev (fun n => G78 wb n (nI c) T) (nI (bsN (fun s => decide (w.1 1 s = c + 1)) (w.1 0 1)), T) := by
  refine ev_succ (fun n => G78e0 wb n ..) ?_
  simp only [G78b0, L0]
  exact g78l (n := 0) hw hn hp hc _ 0 0 (by omega)
theorem FrW_T {wb : Nat} {T T' : xS} (h : FrW wb T T') {q : Nat} (hq : q < wb ∨ wb + 10 < q) : T'.1 q = T.1 q ∧ T'.2.1 q = T.2.1 q := h.1 q hq
theorem g88 {T : xS} {wb s f h : Nat} {w : AW} (hw : CW T wb w) (hs : s < w.1 0 1) (hn : w.1 0 1 ≤ 13) : Ep (fun n => G88 wb n (nI s) (nI f) (zI h) T) (fun z => CW z.2 wb (leaveA w s f h) ∧ FrW wb T z.2 ∧ z.2.1 = T.1) := by
  refine ep_succ (fun n => G88e0 wb n ..) ?_
  simp (disch := omega) only [G88b0, L0, L1, L2, L3, L4, L5, L6, L7, L8, L9, L10, L11, L12, L13, L16, L20, L31, L32, L40, L48, L57, L59, L60, L61, L91, L93, L97, L99, L100, L102, L103, L114, L122, L255, L300, L400, L402, L999, L2280, L2500, L99999, L63, L1431655765, L858993459, L252645135, ic_ge, ic_gt, ic_le, ic_lt, ic_eq, ic_ne, if_lt, if_ge, if_gt, if_le, if_eq, if_ne, if_lt_zI, if_ge_zI, ic_ne_m1, ic_eq_m1, ic_nn_m1, ic_ee_m1, if_ne_b2i, if_eq_b2i, b2i_z, decide_eq_true_eq, decide_true, decide_false, Bool.not_eq_true, Bool.not_eq_true', Bool.not_true, Bool.not_false, decide_eq_false_iff_not, Bool.false_eq_true, not_false_eq_true, not_true_eq_false, if_true, if_false, ↓reduceIte, eq_self, Option.bind_some, Bool.true_and, Bool.false_and, Bool.and_true, Bool.and_false, nI_add, nI_subN, nI_clamp, gdF, gdF2, gdP, zI_cl, zI_s, Lm1, x_rA1, x_rA3, x_rAe, x_rAn, x_rAi, x_rI2, x_rIe, x_rIn, x_rIi, x_rL1, x_rL2, x_rL4, x_rLe, x_rLi, x_rLn, x_rQ1, x_rQ2, x_rQ3, x_rQe, x_rQi, x_rQn, x_rR1, x_rR3, x_rRe, x_rRn]
  refine ep_ret ⟨?_, ?_, rfl⟩
  · obtain ⟨h0, h1, h2, h3, h4, h5⟩ := hw
    refine ⟨?_, ?_, h2, ?_, ?_, ?_⟩
    · rw [leaveA_r (by omega)]; exact h0
    · rw [leaveA_r (by omega)]; exact h1
    · intro s' hs'
      rw [leaveA_r (by omega)] at hs'
      obtain ⟨r1, r2, r3, r4, r5, r6, r7, r8⟩ := h3 s' hs'
      by_cases e : s' = s
      · subst e
        rw [leaveA_1, leaveA_r (r := 2) (by omega), leaveA_3, leaveA_4, leaveA_5, leaveA_6, zI_s]
        simp (disch := omega) only [x_rA1, x_rA3, x_rAe, x_rAn, x_rAi, x_rI2, x_rIe, x_rIn, x_rIi, x_rL1, x_rL2, x_rL4, x_rLe, x_rLi, x_rLn, x_rQ1, x_rQ2, x_rQ3, x_rQe, x_rQi, x_rQn, x_rR1, x_rR3, x_rRe, x_rRn]
        exact ⟨trivial, r2, r3, r4, trivial, trivial, trivial, h0⟩
      · rw [leaveA_o e, leaveA_o e, leaveA_o e, leaveA_o e, leaveA_o e, leaveA_o e]
        simp (disch := omega) only [x_rA1, x_rA3, x_rAe, x_rAn, x_rAi, x_rI2, x_rIe, x_rIn, x_rIi, x_rL1, x_rL2, x_rL4, x_rLe, x_rLi, x_rLn, x_rQ1, x_rQ2, x_rQ3, x_rQe, x_rQi, x_rQn, x_rR1, x_rR3, x_rRe, x_rRn]
        exact ⟨r1, r2, r3, r4, r5, r6, r7, r8⟩
    · intro i hi
      rw [leaveA_r (by omega)]
      simp (disch := omega) only [x_rA1, x_rA3, x_rAe, x_rAn, x_rAi, x_rI2, x_rIe, x_rIn, x_rIi, x_rL1, x_rL2, x_rL4, x_rLe, x_rLi, x_rLn, x_rQ1, x_rQ2, x_rQ3, x_rQe, x_rQi, x_rQn, x_rR1, x_rR3, x_rRe, x_rRn]
      exact h4 i hi
    · intro k hk
      rw [leaveA_r (by omega)]
      simp (disch := omega) only [x_rA1, x_rA3, x_rAe, x_rAn, x_rAi, x_rI2, x_rIe, x_rIn, x_rIi, x_rL1, x_rL2, x_rL4, x_rLe, x_rLi, x_rLn, x_rQ1, x_rQ2, x_rQ3, x_rQe, x_rQi, x_rQn, x_rR1, x_rR3, x_rRe, x_rRn]
      exact h5 k hk
  · exact ⟨fun q hq => ⟨rfl, by simp (disch := omega) only [x_rA1, x_rA3, x_rAe, x_rAn, x_rAi, x_rI2, x_rIe, x_rIn, x_rIi, x_rL1, x_rL2, x_rL4, x_rLe, x_rLi, x_rLn, x_rQ1, x_rQ2, x_rQ3, x_rQe, x_rQi, x_rQn, x_rR1, x_rR3, x_rRe, x_rRn]⟩, rfl⟩
theorem g89 {T : xS} {wb s l : Nat} {w : AW} (hw : CW T wb w) (hs : s < w.1 0 1) (hn : w.1 0 1 ≤ 13) (ht : 1 ≤ w.1 2 s) (hl : l < 10) : Ep (fun n => G89 wb n (nI s) (nI l) T) (fun z => CW z.2 wb (aS w 2 s (w.1 2 s * 10 + l)) ∧ FrW wb T z.2 ∧ z.2.1 = T.1) := by
  refine ep_succ (fun n => G89e0 wb n ..) ?_
  obtain ⟨h0, h1, h2, h3, h4, h5⟩ := hw
  obtain ⟨r1, r2, r3, r4, r5, r6, r7, r8⟩ := h3 s hs
  simp (disch := omega) only [G89b0, L0, L1, L2, L3, L4, L5, L6, L7, L8, L9, L10, L11, L12, L13, L16, L20, L31, L32, L40, L48, L57, L59, L60, L61, L91, L93, L97, L99, L100, L102, L103, L114, L122, L255, L300, L400, L402, L999, L2280, L2500, L99999, L63, L1431655765, L858993459, L252645135, ic_ge, ic_gt, ic_le, ic_lt, ic_eq, ic_ne, if_lt, if_ge, if_gt, if_le, if_eq, if_ne, if_lt_zI, if_ge_zI, ic_ne_m1, ic_eq_m1, ic_nn_m1, ic_ee_m1, if_ne_b2i, if_eq_b2i, b2i_z, decide_eq_true_eq, decide_true, decide_false, Bool.not_eq_true, Bool.not_eq_true', Bool.not_true, Bool.not_false, decide_eq_false_iff_not, Bool.false_eq_true, not_false_eq_true, not_true_eq_false, if_true, if_false, ↓reduceIte, eq_self, Option.bind_some, Bool.true_and, Bool.false_and, Bool.and_true, Bool.and_false, nI_add, nI_subN, nI_clamp, gdF, gdF2, gdP, zI_cl, zI_s, Lm1, x_rA1, x_rA3, x_rAe, x_rAn, x_rAi, x_rI2, x_rIe, x_rIn, x_rIi, x_rL1, x_rL2, x_rL4, x_rLe, x_rLi, x_rLn, x_rQ1, x_rQ2, x_rQ3, x_rQe, x_rQi, x_rQn, x_rR1, x_rR3, x_rRe, x_rRn, r2, r3, r4, nI_mul]
  refine ep_ret ⟨?_, ?_, rfl⟩
  · refine ⟨h0, h1, h2, ?_, ?_, ?_⟩
    · intro s' hs'
      have hs' : s' < w.1 0 1 := hs'
      obtain ⟨q1, q2, q3, q4, q5, q6, q7, q8⟩ := h3 s' hs'
      by_cases e : s' = s
      · subst e
        rw [aS_e, aS_n (by omega), aS_n (by omega), aS_n (by omega), aS_n (by omega), aS_n (by omega), lenN_app ht hl, letN_app ht hl]
        simp (disch := omega) only [x_rA1, x_rA3, x_rAe, x_rAn, x_rAi, x_rI2, x_rIe, x_rIn, x_rIi, x_rL1, x_rL2, x_rL4, x_rLe, x_rLi, x_rLn, x_rQ1, x_rQ2, x_rQ3, x_rQe, x_rQi, x_rQn, x_rR1, x_rR3, x_rRe, x_rRn]
        exact ⟨q1, trivial, trivial, rfl, q5, q6, q7, q8⟩
      · simp only [aS_r, e, and_false, if_false]
        simp (disch := omega) only [x_rA1, x_rA3, x_rAe, x_rAn, x_rAi, x_rI2, x_rIe, x_rIn, x_rIi, x_rL1, x_rL2, x_rL4, x_rLe, x_rLi, x_rLn, x_rQ1, x_rQ2, x_rQ3, x_rQe, x_rQi, x_rQn, x_rR1, x_rR3, x_rRe, x_rRn]
        exact ⟨q1, q2, q3, q4, q5, q6, q7, q8⟩
    · intro i hi
      rw [aS_n (by omega)]
      simp (disch := omega) only [x_rA1, x_rA3, x_rAe, x_rAn, x_rAi, x_rI2, x_rIe, x_rIn, x_rIi, x_rL1, x_rL2, x_rL4, x_rLe, x_rLi, x_rLn, x_rQ1, x_rQ2, x_rQ3, x_rQe, x_rQi, x_rQn, x_rR1, x_rR3, x_rRe, x_rRn]
      exact h4 i hi
    · intro k hk
      rw [aS_n (by omega)]
      simp (disch := omega) only [x_rA1, x_rA3, x_rAe, x_rAn, x_rAi, x_rI2, x_rIe, x_rIn, x_rIi, x_rL1, x_rL2, x_rL4, x_rLe, x_rLi, x_rLn, x_rQ1, x_rQ2, x_rQ3, x_rQe, x_rQi, x_rQn, x_rR1, x_rR3, x_rRe, x_rRn]
      exact h5 k hk
  · exact ⟨fun q hq => ⟨rfl, by simp (disch := omega) only [x_rA1, x_rA3, x_rAe, x_rAn, x_rAi, x_rI2, x_rIe, x_rIn, x_rIi, x_rL1, x_rL2, x_rL4, x_rLe, x_rLi, x_rLn, x_rQ1, x_rQ2, x_rQ3, x_rQe, x_rQi, x_rQn, x_rR1, x_rR3, x_rRe, x_rRn]⟩, rfl⟩
theorem g94 {T : xS} {wb s : Nat} {w : AW} (hw : CW T wb w) (hs : s < w.1 0 1) (hn : w.1 0 1 ≤ 13) (ht : w.1 2 s < 2 ^ 31) : Ev (fun n => G94 wb n (nI s) T) (nI (w.1 2 s % 10), T) := by
  refine ev_succ (fun n => G94e0 wb n ..) ?_
  obtain ⟨r1, r2, r3, r4, r5, r6, r7, r8⟩ := hw.2.2.2.1 s hs
  simp (disch := omega) only [G94b0, L0, L1, L2, L3, L4, L5, L6, L7, L8, L9, L10, L11, L12, L13, L16, L20, L31, L32, L40, L48, L57, L59, L60, L61, L91, L93, L97, L99, L100, L102, L103, L114, L122, L255, L300, L400, L402, L999, L2280, L2500, L99999, L63, L1431655765, L858993459, L252645135, ic_ge, ic_gt, ic_le, ic_lt, ic_eq, ic_ne, if_lt, if_ge, if_gt, if_le, if_eq, if_ne, if_lt_zI, if_ge_zI, ic_ne_m1, ic_eq_m1, ic_nn_m1, ic_ee_m1, if_ne_b2i, if_eq_b2i, b2i_z, decide_eq_true_eq, decide_true, decide_false, Bool.not_eq_true, Bool.not_eq_true', Bool.not_true, Bool.not_false, decide_eq_false_iff_not, Bool.false_eq_true, not_false_eq_true, not_true_eq_false, if_true, if_false, ↓reduceIte, eq_self, Option.bind_some, Bool.true_and, Bool.false_and, Bool.and_true, Bool.and_false, nI_add, nI_subN, nI_clamp, gdF, gdF2, gdP, zI_cl, zI_s, Lm1, r2, nI_p10, nI_r10]
  exact ev_ret
theorem nI_divN {a d : Nat} (ha : a < 2 ^ 31) (h0 : 0 < d) (hd : d < 2 ^ 31) : nI a / nI d = nI (a / d) := pk_div ha h0 hd
theorem nI_eq0 {a : Nat} (ha : a < 2 ^ 31) : (nI a = nI 0) = (a = 0) := propext (nI_eqI' ha (by decide))
theorem g95 {T : xS} {wb s : Nat} {w : AW} (hw : CW T wb w) (hs : s < w.1 0 1) (hn : w.1 0 1 ≤ 13) (ht : isTx (w.1 2 s) = true) : Ev (fun n => G95 wb n (nI s) T) (nI (fstN (w.1 2 s)), T) := by
  refine ev_succ (fun n => G95e0 wb n ..) ?_
  obtain ⟨r1, r2, r3, r4, r5, r6, r7, r8⟩ := hw.2.2.2.1 s hs
  have hl := isTx_len ht
  have h8 := isTx_lt ht
  obtain ⟨k, hk⟩ : ∃ k, lenN (w.1 2 s) = k + 1 := ⟨lenN (w.1 2 s) - 1, by omega⟩
  have hp := p10_le (k := k) (by omega)
  have hp0 := p10_pos k
  have hz : ¬ 10 ^ k = 0 := by omega
  simp (disch := omega) only [G95b0, L0, L1, L2, L3, L4, L5, L6, L7, L8, L9, L10, L11, L12, L13, L16, L20, L31, L32, L40, L48, L57, L59, L60, L61, L91, L93, L97, L99, L100, L102, L103, L114, L122, L255, L300, L400, L402, L999, L2280, L2500, L99999, L63, L1431655765, L858993459, L252645135, ic_ge, ic_gt, ic_le, ic_lt, ic_eq, ic_ne, if_lt, if_ge, if_gt, if_le, if_eq, if_ne, if_lt_zI, if_ge_zI, ic_ne_m1, ic_eq_m1, ic_nn_m1, ic_ee_m1, if_ne_b2i, if_eq_b2i, b2i_z, decide_eq_true_eq, decide_true, decide_false, Bool.not_eq_true, Bool.not_eq_true', Bool.not_true, Bool.not_false, decide_eq_false_iff_not, Bool.false_eq_true, not_false_eq_true, not_true_eq_false, if_true, if_false, ↓reduceIte, eq_self, Option.bind_some, Bool.true_and, Bool.false_and, Bool.and_true, Bool.and_false, nI_add, nI_subN, nI_clamp, gdF, gdF2, gdP, zI_cl, zI_s, Lm1, r2, r3, hk, Nat.add_sub_cancel, tens_n, nI_eq0, hz, nI_divN, fstN_div k _ hk]
  exact ev_ret
theorem g98 {T : xS} {wb a j : Nat} {w : AW} (hw : CW T wb w) (hn : w.1 0 1 ≤ 13) (haj : a < j) (hj : j < w.1 0 1) (ht : 1 ≤ w.1 2 a) (h8 : lenN (w.1 2 j) ≤ 8) : Ep (fun n => G98 wb n (nI a) (nI j) T) (fun z => CW z.2 wb (joinA w a j) ∧ FrW wb T z.2 ∧ z.2.1 = T.1) := by
  refine ep_succ (fun n => G98e0 wb n ..) ?_
  have hw' := hw
  obtain ⟨h0, h1, h2, h3, h4, h5⟩ := hw
  obtain ⟨r1, r2, r3, r4, r5, r6, r7, r8⟩ := h3 a (by omega)
  obtain ⟨q1, q2, q3, q4, q5, q6, q7, q8⟩ := h3 j hj
  simp (disch := omega) only [G98b0, L0, L1, L2, L3, L4, L5, L6, L7, L8, L9, L10, L11, L12, L13, L16, L20, L31, L32, L40, L48, L57, L59, L60, L61, L91, L93, L97, L99, L100, L102, L103, L114, L122, L255, L300, L400, L402, L999, L2280, L2500, L99999, L63, L1431655765, L858993459, L252645135, ic_ge, ic_gt, ic_le, ic_lt, ic_eq, ic_ne, if_lt, if_ge, if_gt, if_le, if_eq, if_ne, if_lt_zI, if_ge_zI, ic_ne_m1, ic_eq_m1, ic_nn_m1, ic_ee_m1, if_ne_b2i, if_eq_b2i, b2i_z, decide_eq_true_eq, decide_true, decide_false, Bool.not_eq_true, Bool.not_eq_true', Bool.not_true, Bool.not_false, decide_eq_false_iff_not, Bool.false_eq_true, not_false_eq_true, not_true_eq_false, if_true, if_false, ↓reduceIte, eq_self, Option.bind_some, Bool.true_and, Bool.false_and, Bool.and_true, Bool.and_false, nI_add, nI_subN, nI_clamp, gdF, gdF2, gdP, zI_cl, zI_s, Lm1, x_rA1, x_rA3, x_rAe, x_rAn, x_rAi, x_rI2, x_rIe, x_rIn, x_rIi, x_rL1, x_rL2, x_rL4, x_rLe, x_rLi, x_rLn, x_rQ1, x_rQ2, x_rQ3, x_rQe, x_rQi, x_rQn, x_rR1, x_rR3, x_rRe, x_rRn, r2, r3, r4, q2, q3, q4, nI_mul, tens_n]
  rw [← zI_s a]
  refine ep_bind (g88 (w := aS w 2 a (w.1 2 a * 10 ^ lenN (w.1 2 j) + w.1 2 j)) ?_ hj hn) ?_
  · refine ⟨h0, h1, h2, ?_, ?_, ?_⟩
    · intro s' hs'
      have hs' : s' < w.1 0 1 := hs'
      obtain ⟨p1, p2, p3, p4, p5, p6, p7, p8⟩ := h3 s' hs'
      by_cases e : s' = a
      · subst e
        rw [aS_e, aS_n (by omega), aS_n (by omega), aS_n (by omega), aS_n (by omega), aS_n (by omega), lenN_cat ht _ _ rfl, letN_cat' ht]
        simp (disch := omega) only [x_rA1, x_rA3, x_rAe, x_rAn, x_rAi, x_rI2, x_rIe, x_rIn, x_rIi, x_rL1, x_rL2, x_rL4, x_rLe, x_rLi, x_rLn, x_rQ1, x_rQ2, x_rQ3, x_rQe, x_rQi, x_rQn, x_rR1, x_rR3, x_rRe, x_rRn]
        exact ⟨p1, trivial, trivial, rfl, p5, p6, p7, p8⟩
      · simp only [aS_r, e, and_false, if_false]
        simp (disch := omega) only [x_rA1, x_rA3, x_rAe, x_rAn, x_rAi, x_rI2, x_rIe, x_rIn, x_rIi, x_rL1, x_rL2, x_rL4, x_rLe, x_rLi, x_rLn, x_rQ1, x_rQ2, x_rQ3, x_rQe, x_rQi, x_rQn, x_rR1, x_rR3, x_rRe, x_rRn]
        exact ⟨p1, p2, p3, p4, p5, p6, p7, p8⟩
    · intro i hi
      rw [aS_n (by omega)]
      simp (disch := omega) only [x_rA1, x_rA3, x_rAe, x_rAn, x_rAi, x_rI2, x_rIe, x_rIn, x_rIi, x_rL1, x_rL2, x_rL4, x_rLe, x_rLi, x_rLn, x_rQ1, x_rQ2, x_rQ3, x_rQe, x_rQi, x_rQn, x_rR1, x_rR3, x_rRe, x_rRn]
      exact h4 i hi
    · intro k hk
      rw [aS_n (by omega)]
      simp (disch := omega) only [x_rA1, x_rA3, x_rAe, x_rAn, x_rAi, x_rI2, x_rIe, x_rIn, x_rIi, x_rL1, x_rL2, x_rL4, x_rLe, x_rLi, x_rLn, x_rQ1, x_rQ2, x_rQ3, x_rQe, x_rQi, x_rQn, x_rR1, x_rR3, x_rRe, x_rRn]
      exact h5 k hk
  · rintro ⟨_, T1⟩ ⟨c1, c2, c3⟩
    refine ep_ret ⟨c1, ?_, c3⟩
    refine FrW_tr ?_ c2
    exact ⟨fun q hq => ⟨rfl, by simp (disch := omega) only [x_rA1, x_rA3, x_rAe, x_rAn, x_rAi, x_rI2, x_rIe, x_rIn, x_rIi, x_rL1, x_rL2, x_rL4, x_rLe, x_rLi, x_rLn, x_rQ1, x_rQ2, x_rQ3, x_rQe, x_rQi, x_rQn, x_rR1, x_rR3, x_rRe, x_rRn]⟩, rfl⟩
