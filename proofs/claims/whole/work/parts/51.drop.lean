/-! drop, tear -/
def addA (w : AW) (c t d : Nat) : AW := aS (aS (aS (aS (aS (aS (aS w 1 (w.1 0 1) (c + 1)) 2 (w.1 0 1) t) 3 (w.1 0 1) d) 4 (w.1 0 1) 0) 5 (w.1 0 1) 0) 6 (w.1 0 1) 0) 0 1 (w.1 0 1 + 1)
theorem addA_o {w : AW} {c t d r s : Nat} (hr : 1 ≤ r) (hs : s ≠ w.1 0 1) : (addA w c t d).1 r s = w.1 r s := by
  unfold addA
  rw [aS_n (by omega)]
  simp only [aS_r, hs, and_false, if_false]
theorem addA_r {w : AW} {c t d r i : Nat} (hr : 7 ≤ r) : (addA w c t d).1 r i = w.1 r i := by
  unfold addA
  simp (disch := omega) only [aS_n]
theorem addA_n {w : AW} {c t d : Nat} : (addA w c t d).1 0 1 = w.1 0 1 + 1 := aS_e
theorem addA_d {w : AW} {c t d : Nat} : (addA w c t d).1 0 0 = w.1 0 0 := by
  unfold addA
  simp (disch := omega) only [aS_n, aS_i]
theorem addA_1 {w : AW} {c t d : Nat} : (addA w c t d).1 1 (w.1 0 1) = c + 1 ∧ (addA w c t d).1 2 (w.1 0 1) = t ∧ (addA w c t d).1 3 (w.1 0 1) = d ∧ (addA w c t d).1 4 (w.1 0 1) = 0 ∧ (addA w c t d).1 5 (w.1 0 1) = 0 ∧ (addA w c t d).1 6 (w.1 0 1) = 0 := by
  unfold addA
  simp (disch := omega) only [aS_n, aS_e]
  exact ⟨trivial, trivial, trivial, trivial, trivial, trivial⟩
theorem addA_Ok {b : AB} {w : AW} {c t d : Nat} (ok : OkW b w) (hn : w.1 0 1 ≤ 12) (ht : isTx t = true) (hc : c < b 0 0) (hd : d ≤ 9) : OkW b (addA w c t d) := by
  refine ⟨by rw [addA_n]; omega, fun s hs => ?_, fun i hi => by rw [addA_r (by omega)]; exact ok.2.2.1 i hi, fun i hi h2 => by rw [addA_r (by omega)]; exact ok.2.2.2 i hi h2⟩
  rw [addA_n] at hs
  by_cases e : s = w.1 0 1
  · subst e
    obtain ⟨a1, a2, a3, a4, a5, a6⟩ := addA_1 (w := w) (c := c) (t := t) (d := d)
    unfold OkS
    rw [a1, a2, a3, a4, a5]
    exact ⟨ht, by omega, by omega, by omega, hd, fun h => by omega, fun h => by omega⟩
  · exact OkS_of (ok.2.1 s (by omega)) (fun r h1 _ => addA_o h1 e)
theorem g51l {T : xS} {p s : Nat} (hs : s < 13) : ∀ (m i r : Nat) (T1 : xS) (K : Int32), lenN r ≤ m → i + m = 8 → r < 2 ^ 31 → T1.2.1 (p + 3) s = nI i → T1.2.1 (p + 4) s = K → (∀ q j, ¬ ((q = p + 3 ∨ q = p + 4) ∧ j = s) → T1.2.1 q j = T.2.1 q j) → T1.1 = T.1 → T1.2.2 = T.2.2 → Ep (fun n => G51f p n 26 (nI s) (nI 0) (nI r) (nI i) T1) (fun z => z.2.2.1 (p + 3) s = nI (i + lenN r) ∧ z.2.2.1 (p + 4) s = letN K r ∧ (∀ q j, ¬ ((q = p + 3 ∨ q = p + 4) ∧ j = s) → z.2.2.1 q j = T.2.1 q j) ∧ z.2.1 = T.1 ∧ z.2.2.2 = T.2.2) := by
  intro m
  induction m with
  | zero =>
    intro i r T1 K hr hi hr2 h3 h4 ho h1 h2
    refine ep_succ (fun n => G51e26 p n ..) ?_
    have e : 8 ≤ i := by omega
    have hr0 : r = 0 := lenN_z (by omega)
    subst hr0
    simp (disch := omega) only [G51b26, L0, L1, L2, L3, L4, L5, L6, L7, L8, L9, L10, L11, L12, L13, L16, L20, L31, L32, L40, L48, L57, L59, L60, L61, L91, L93, L97, L99, L100, L102, L103, L114, L122, L255, L300, L400, L402, L999, L2280, L2500, L99999, L63, L1431655765, L858993459, L252645135, ic_ge, ic_gt, ic_le, ic_lt, ic_eq, ic_ne, if_lt, if_ge, if_gt, if_le, if_eq, if_ne, if_lt_zI, if_ge_zI, ic_ne_m1, ic_eq_m1, ic_nn_m1, ic_ee_m1, if_ne_b2i, if_eq_b2i, b2i_z, decide_eq_true_eq, decide_true, decide_false, Bool.not_eq_true, Bool.not_eq_true', Bool.not_true, Bool.not_false, decide_eq_false_iff_not, Bool.false_eq_true, not_false_eq_true, not_true_eq_false, if_true, if_false, ↓reduceIte, eq_self, Option.bind_some, Bool.true_and, Bool.false_and, Bool.and_true, Bool.and_false, nI_add, nI_subN, nI_clamp, gdF, gdF2, gdP, gdP2, zI_cl, zI_s, Lm1, nI_n0, zI_n0, leF, or_false, false_or, or_self, e]
    refine ep_ret ⟨?_, ?_, ho, h1, h2⟩
    · rw [lenN_0]
      exact h3
    · rw [letN_0]
      exact h4
  | succ m ih =>
    intro i r T1 K hr hi hr2 h3 h4 ho h1 h2
    refine ep_succ (fun n => G51e26 p n ..) ?_
    by_cases h0 : r = 0
    · subst h0
      simp (disch := omega) only [G51b26, L0, L1, L2, L3, L4, L5, L6, L7, L8, L9, L10, L11, L12, L13, L16, L20, L31, L32, L40, L48, L57, L59, L60, L61, L91, L93, L97, L99, L100, L102, L103, L114, L122, L255, L300, L400, L402, L999, L2280, L2500, L99999, L63, L1431655765, L858993459, L252645135, ic_ge, ic_gt, ic_le, ic_lt, ic_eq, ic_ne, if_lt, if_ge, if_gt, if_le, if_eq, if_ne, if_lt_zI, if_ge_zI, ic_ne_m1, ic_eq_m1, ic_nn_m1, ic_ee_m1, if_ne_b2i, if_eq_b2i, b2i_z, decide_eq_true_eq, decide_true, decide_false, Bool.not_eq_true, Bool.not_eq_true', Bool.not_true, Bool.not_false, decide_eq_false_iff_not, Bool.false_eq_true, not_false_eq_true, not_true_eq_false, if_true, if_false, ↓reduceIte, eq_self, Option.bind_some, Bool.true_and, Bool.false_and, Bool.and_true, Bool.and_false, nI_add, nI_subN, nI_clamp, gdF, gdF2, gdP, gdP2, zI_cl, zI_s, Lm1, nI_n0, zI_n0, leF, or_false, false_or, or_self]
      refine ep_ret ⟨?_, ?_, ho, h1, h2⟩
      · rw [lenN_0]
        exact h3
      · rw [letN_0]
        exact h4
    · rw [lenN_s h0] at hr
      simp (disch := omega) only [G51b26, L0, L1, L2, L3, L4, L5, L6, L7, L8, L9, L10, L11, L12, L13, L16, L20, L31, L32, L40, L48, L57, L59, L60, L61, L91, L93, L97, L99, L100, L102, L103, L114, L122, L255, L300, L400, L402, L999, L2280, L2500, L99999, L63, L1431655765, L858993459, L252645135, ic_ge, ic_gt, ic_le, ic_lt, ic_eq, ic_ne, if_lt, if_ge, if_gt, if_le, if_eq, if_ne, if_lt_zI, if_ge_zI, ic_ne_m1, ic_eq_m1, ic_nn_m1, ic_ee_m1, if_ne_b2i, if_eq_b2i, b2i_z, decide_eq_true_eq, decide_true, decide_false, Bool.not_eq_true, Bool.not_eq_true', Bool.not_true, Bool.not_false, decide_eq_false_iff_not, Bool.false_eq_true, not_false_eq_true, not_true_eq_false, if_true, if_false, ↓reduceIte, eq_self, Option.bind_some, Bool.true_and, Bool.false_and, Bool.and_true, Bool.and_false, nI_add, nI_subN, nI_clamp, gdF, gdF2, gdP, gdP2, zI_cl, zI_s, Lm1, nI_n0, zI_n0, leF, or_false, false_or, or_self, h0, nI_p10, nI_r10, x_rA1, x_rA3, x_rAe, x_rAn, x_rAi, x_rI2, x_rIe, x_rIn, x_rIi, x_rL1, x_rL2, x_rL4, x_rLe, x_rLi, x_rLn, x_rQ1, x_rQ2, x_rQ3, x_rQe, x_rQi, x_rQn, x_rR1, x_rR3, x_rRe, x_rRn, h3, h4]
      have := ih (i + 1) (r / 10) (x_sA (x_sA T1 (p + 4) s (K ||| (nI 1 <<< (nI (r % 10) &&& nI 31)))) (p + 3) s (nI (i + 1))) (K ||| (nI 1 <<< (nI (r % 10) &&& nI 31))) (by omega) (by omega) (by omega) x_rAe (by rw [x_rAn (by omega), x_rAe]) (fun q j hq => ?_) h1 h2
      · refine ep_mono this ?_
        rintro ⟨_, z⟩ ⟨a, b, c⟩
        refine ⟨?_, ?_, c⟩
        · rw [a, lenN_s h0]
          congr 1
          omega
        · rw [b, letN_s h0]
          rfl
      · by_cases e3 : q = p + 3
        · subst e3
          rw [x_rAi (fun z => hq ⟨Or.inl rfl, z⟩), x_rAn (by omega)]
          exact ho _ j hq
        · rw [x_rAn e3]
          by_cases e4 : q = p + 4
          · subst e4
            rw [x_rAi (fun z => hq ⟨Or.inr rfl, z⟩)]
            exact ho _ j hq
          · rw [x_rAn e4]
            exact ho q j hq
theorem g51 {T : xS} {p s t : Nat} (hs : s < 13) (ht : isTx t = true) : Ep (fun n => G51 p n (nI s) (nI t) T) (fun z => z.2.2.1 (p + 2) s = nI t ∧ z.2.2.1 (p + 3) s = nI (lenN t) ∧ z.2.2.1 (p + 4) s = letN 0 t ∧ (∀ q j, ¬ ((q = p + 2 ∨ q = p + 3 ∨ q = p + 4) ∧ j = s) → z.2.2.1 q j = T.2.1 q j) ∧ z.2.1 = T.1 ∧ z.2.2.2 = T.2.2) := by
  refine ep_succ (fun n => G51e0 p n ..) ?_
  have h8 := isTx_len ht
  have hlt := isTx_lt ht
  simp (disch := omega) only [G51b0, L0, L1, L2, L3, L4, L5, L6, L7, L8, L9, L10, L11, L12, L13, L16, L20, L31, L32, L40, L48, L57, L59, L60, L61, L91, L93, L97, L99, L100, L102, L103, L114, L122, L255, L300, L400, L402, L999, L2280, L2500, L99999, L63, L1431655765, L858993459, L252645135, ic_ge, ic_gt, ic_le, ic_lt, ic_eq, ic_ne, if_lt, if_ge, if_gt, if_le, if_eq, if_ne, if_lt_zI, if_ge_zI, ic_ne_m1, ic_eq_m1, ic_nn_m1, ic_ee_m1, if_ne_b2i, if_eq_b2i, b2i_z, decide_eq_true_eq, decide_true, decide_false, Bool.not_eq_true, Bool.not_eq_true', Bool.not_true, Bool.not_false, decide_eq_false_iff_not, Bool.false_eq_true, not_false_eq_true, not_true_eq_false, if_true, if_false, ↓reduceIte, eq_self, Option.bind_some, Bool.true_and, Bool.false_and, Bool.and_true, Bool.and_false, nI_add, nI_subN, nI_clamp, gdF, gdF2, gdP, gdP2, zI_cl, zI_s, Lm1, nI_n0, zI_n0, leF, or_false, false_or, or_self]
  refine ep_mono (g51l (T := x_sA (x_sA (x_sA T (p + 2) s (nI t)) (p + 3) s (nI 0)) (p + 4) s (nI 0)) hs 8 0 t _ (nI 0) h8.2.1 (by omega) (by omega) (by rw [x_rAn (by omega), x_rAe]) x_rAe (fun _ _ _ => rfl) rfl rfl) ?_
  rintro ⟨_, z⟩ ⟨a, b, c, d, e⟩
  have c : ∀ q j, ¬ ((q = p + 3 ∨ q = p + 4) ∧ j = s) → z.2.1 q j = (x_sA (x_sA (x_sA T (p + 2) s (nI t)) (p + 3) s (nI 0)) (p + 4) s (nI 0)).2.1 q j := c
  refine ⟨?_, ?_, b, fun q j hq => ?_, d, e⟩
  · rw [c (p + 2) s (by omega), x_rAn (by omega), x_rAn (by omega), x_rAe]
  · rw [a, Nat.zero_add]
  · rw [c q j (fun z => hq ⟨by omega, z.2⟩)]
    by_cases e4 : q = p + 4
    · subst e4
      rw [x_rAi (fun z => hq ⟨by omega, z⟩), x_rAn (by omega), x_rAn (by omega)]
    · rw [x_rAn e4]
      by_cases e3 : q = p + 3
      · subst e3
        rw [x_rAi (fun z => hq ⟨by omega, z⟩), x_rAn (by omega)]
      · rw [x_rAn e3]
        by_cases e2 : q = p + 2
        · subst e2
          rw [x_rAi (fun z => hq ⟨by omega, z⟩)]
        · rw [x_rAn e2]
theorem g50 {T : xS} {p c t : Nat} {w : AW} (hw : CW T p w) (hn : w.1 0 1 < 13) (ht : isTx t = true) : Ep (fun n => G50 p n (nI c) (nI t) T) (fun z => z.1 = nI (w.1 0 1) ∧ CW z.2 p (addA w c t 0) ∧ FrW p T z.2) := by
  refine ep_succ (fun n => G50e0 p n ..) ?_
  obtain ⟨h0, h1, h2, h3, h4, h5⟩ := hw
  simp (disch := omega) only [G50b0, L0, L1, L2, L3, L4, L5, L6, L7, L8, L9, L10, L11, L12, L13, L16, L20, L31, L32, L40, L48, L57, L59, L60, L61, L91, L93, L97, L99, L100, L102, L103, L114, L122, L255, L300, L400, L402, L999, L2280, L2500, L99999, L63, L1431655765, L858993459, L252645135, ic_ge, ic_gt, ic_le, ic_lt, ic_eq, ic_ne, if_lt, if_ge, if_gt, if_le, if_eq, if_ne, if_lt_zI, if_ge_zI, ic_ne_m1, ic_eq_m1, ic_nn_m1, ic_ee_m1, if_ne_b2i, if_eq_b2i, b2i_z, decide_eq_true_eq, decide_true, decide_false, Bool.not_eq_true, Bool.not_eq_true', Bool.not_true, Bool.not_false, decide_eq_false_iff_not, Bool.false_eq_true, not_false_eq_true, not_true_eq_false, if_true, if_false, ↓reduceIte, eq_self, Option.bind_some, Bool.true_and, Bool.false_and, Bool.and_true, Bool.and_false, nI_add, nI_subN, nI_clamp, gdF, gdF2, gdP, gdP2, zI_cl, zI_s, Lm1, nI_n0, zI_n0, leF, or_false, false_or, or_self, h1, hn]
  refine ep_bind (g51 hn ht) ?_
  rintro ⟨_, T1⟩ ⟨a1, a2, a3, a4, a5, a6⟩
  have a5 : T1.1 = (x_sI T p 1 (nI (w.1 0 1 + 1))).1 := a5
  have a6 : T1.2.2 = T.2.2 := a6
  refine ep_ret ⟨rfl, ⟨?_, ?_, ?_, fun s hs => ?_, fun i hi => ?_, fun k hk => ?_⟩, ⟨fun q hq => ⟨?_, ?_⟩, a6⟩⟩
  · rw [addA_d, a5, x_rIi (by decide)]
    exact h0
  · rw [addA_n, a5, x_rIe]
  · rw [a5, x_rIi (by decide)]
    exact h2
  · rw [addA_n] at hs
    by_cases e : s = w.1 0 1
    · subst e
      obtain ⟨b1, b2, b3, b4, b5, b6⟩ := addA_1 (w := w) (c := c) (t := t) (d := 0)
      rw [b1, b2, b3, b4, b5, b6]
      refine ⟨?_, a1, a2, a3, ?_, ?_, ?_, ?_⟩
      · rw [a4 (p + 1) _ (by omega)]
        simp (disch := omega) only [x_rA1, x_rA3, x_rAe, x_rAn, x_rAi, x_rI2, x_rIe, x_rIn, x_rIi, x_rL1, x_rL2, x_rL4, x_rLe, x_rLi, x_rLn, x_rQ1, x_rQ2, x_rQ3, x_rQe, x_rQi, x_rQn, x_rR1, x_rR3, x_rRe, x_rRn, zI_s]
      · rw [a4 (p + 5) _ (by omega)]
        simp (disch := omega) only [x_rA1, x_rA3, x_rAe, x_rAn, x_rAi, x_rI2, x_rIe, x_rIn, x_rIi, x_rL1, x_rL2, x_rL4, x_rLe, x_rLi, x_rLn, x_rQ1, x_rQ2, x_rQ3, x_rQe, x_rQi, x_rQn, x_rR1, x_rR3, x_rRe, x_rRn]
      · rw [a4 (p + 6) _ (by omega)]
        simp (disch := omega) only [x_rA1, x_rA3, x_rAe, x_rAn, x_rAi, x_rI2, x_rIe, x_rIn, x_rIi, x_rL1, x_rL2, x_rL4, x_rLe, x_rLi, x_rLn, x_rQ1, x_rQ2, x_rQ3, x_rQe, x_rQi, x_rQn, x_rR1, x_rR3, x_rRe, x_rRn]
      · rw [a4 (p + 7) _ (by omega)]
        simp (disch := omega) only [x_rA1, x_rA3, x_rAe, x_rAn, x_rAi, x_rI2, x_rIe, x_rIn, x_rIi, x_rL1, x_rL2, x_rL4, x_rLe, x_rLi, x_rLn, x_rQ1, x_rQ2, x_rQ3, x_rQe, x_rQi, x_rQn, x_rR1, x_rR3, x_rRe, x_rRn]
      · rw [a4 (p + 8) _ (by omega)]
        simp (disch := omega) only [x_rA1, x_rA3, x_rAe, x_rAn, x_rAi, x_rI2, x_rIe, x_rIn, x_rIi, x_rL1, x_rL2, x_rL4, x_rLe, x_rLi, x_rLn, x_rQ1, x_rQ2, x_rQ3, x_rQe, x_rQi, x_rQn, x_rR1, x_rR3, x_rRe, x_rRn]
    · obtain ⟨r1, r2, r3, r4, r5, r6, r7, r8⟩ := h3 s (by omega)
      rw [addA_o (by omega) e, addA_o (by omega) e, addA_o (by omega) e, addA_o (by omega) e, addA_o (by omega) e, addA_o (by omega) e]
      rw [a4 (p + 1) s (by omega), a4 (p + 2) s (by omega), a4 (p + 3) s (by omega), a4 (p + 4) s (by omega), a4 (p + 5) s (by omega), a4 (p + 6) s (by omega), a4 (p + 7) s (by omega), a4 (p + 8) s (by omega)]
      simp (disch := omega) only [x_rA1, x_rA3, x_rAe, x_rAn, x_rAi, x_rI2, x_rIe, x_rIn, x_rIi, x_rL1, x_rL2, x_rL4, x_rLe, x_rLi, x_rLn, x_rQ1, x_rQ2, x_rQ3, x_rQe, x_rQi, x_rQn, x_rR1, x_rR3, x_rRe, x_rRn]
      exact ⟨r1, r2, r3, r4, r5, r6, r7, r8⟩
  · rw [addA_r (by omega), a4 (p + 9) i (by omega)]
    simp (disch := omega) only [x_rA1, x_rA3, x_rAe, x_rAn, x_rAi, x_rI2, x_rIe, x_rIn, x_rIi, x_rL1, x_rL2, x_rL4, x_rLe, x_rLi, x_rLn, x_rQ1, x_rQ2, x_rQ3, x_rQe, x_rQi, x_rQn, x_rR1, x_rR3, x_rRe, x_rRn]
    exact h4 i hi
  · rw [addA_r (by omega), a4 (p + 10) k (by omega)]
    simp (disch := omega) only [x_rA1, x_rA3, x_rAe, x_rAn, x_rAi, x_rI2, x_rIe, x_rIn, x_rIi, x_rL1, x_rL2, x_rL4, x_rLe, x_rLi, x_rLn, x_rQ1, x_rQ2, x_rQ3, x_rQe, x_rQi, x_rQn, x_rR1, x_rR3, x_rRe, x_rRn]
    exact h5 k hk
  · rw [a5, x_rIn (by omega)]
  · funext j
    rw [a4 q j (by omega)]
    simp (disch := omega) only [x_rA1, x_rA3, x_rAe, x_rAn, x_rAi, x_rI2, x_rIe, x_rIn, x_rIi, x_rL1, x_rL2, x_rL4, x_rLe, x_rLi, x_rLn, x_rQ1, x_rQ2, x_rQ3, x_rQe, x_rQi, x_rQn, x_rR1, x_rR3, x_rRe, x_rRn]
theorem f232 {S : mS} {c t d : Nat} {w : AW} (hw : MW S.2.1 w) (hn : w.1 0 1 < 13) : Ep (fun n => F232 n (nI c) (nI t) (nI d) S) (fun z => z.1 = nI (w.1 0 1) ∧ MW z.2.2.1 (addA w c t d) ∧ z.2.1 = S.1 ∧ (∀ k i, ¬ ((10 ≤ k ∧ k ≤ 15) ∨ (k = 1 ∧ i = 4)) → z.2.2.1 k i = S.2.1 k i)) := by
  refine ep_succ (fun n => F232e0 n ..) ?_
  obtain ⟨h0, h1, h2, h3, h4, h5⟩ := hw
  simp (disch := omega) only [F232b0, L0, L1, L2, L3, L4, L5, L6, L7, L8, L9, L10, L11, L12, L13, L16, L20, L31, L32, L40, L48, L57, L59, L60, L61, L91, L93, L97, L99, L100, L102, L103, L114, L122, L255, L300, L400, L402, L999, L2280, L2500, L99999, L63, L1431655765, L858993459, L252645135, ic_ge, ic_gt, ic_le, ic_lt, ic_eq, ic_ne, if_lt, if_ge, if_gt, if_le, if_eq, if_ne, if_lt_zI, if_ge_zI, ic_ne_m1, ic_eq_m1, ic_nn_m1, ic_ee_m1, if_ne_b2i, if_eq_b2i, b2i_z, decide_eq_true_eq, decide_true, decide_false, Bool.not_eq_true, Bool.not_eq_true', Bool.not_true, Bool.not_false, decide_eq_false_iff_not, Bool.false_eq_true, not_false_eq_true, not_true_eq_false, if_true, if_false, ↓reduceIte, eq_self, Option.bind_some, Bool.true_and, Bool.false_and, Bool.and_true, Bool.and_false, nI_add, nI_subN, nI_clamp, gdF, gdF2, gdP, gdP2, zI_cl, zI_s, Lm1, nI_n0, zI_n0, leF, or_false, false_or, or_self, h0, m_rA1, m_rA3, m_rAe, m_rAn, m_rAi, m_rI2, m_rIe, m_rIn, m_rL1, m_rL2, m_rLe, m_rLi, m_rLn]
  refine ep_ret ⟨rfl, ⟨?_, ?_, ?_, fun s hs => ?_, fun k hk => ?_, ?_⟩, rfl, fun k i hk => ?_⟩
  · rw [addA_n]
    simp (disch := omega) only [m_rA1, m_rA3, m_rAe, m_rAn, m_rAi, m_rI2, m_rIe, m_rIn, m_rL1, m_rL2, m_rLe, m_rLi, m_rLn]
  · rw [addA_d]
    simp (disch := omega) only [m_rA1, m_rA3, m_rAe, m_rAn, m_rAi, m_rI2, m_rIe, m_rIn, m_rL1, m_rL2, m_rLe, m_rLi, m_rLn]
    exact h1
  · simp (disch := omega) only [m_rA1, m_rA3, m_rAe, m_rAn, m_rAi, m_rI2, m_rIe, m_rIn, m_rL1, m_rL2, m_rLe, m_rLi, m_rLn]
    exact h2
  · rw [addA_n] at hs
    by_cases e : s = w.1 0 1
    · subst e
      obtain ⟨b1, b2, b3, b4, b5, b6⟩ := addA_1 (w := w) (c := c) (t := t) (d := d)
      rw [b1, b2, b3, b4, b5, b6]
      simp (disch := omega) only [m_rA1, m_rA3, m_rAe, m_rAn, m_rAi, m_rI2, m_rIe, m_rIn, m_rL1, m_rL2, m_rLe, m_rLi, m_rLn, Nat.add_sub_cancel]
      exact ⟨fun _ => ⟨trivial, trivial⟩, trivial, trivial, trivial, trivial⟩
    · obtain ⟨r1, r2, r3, r4, r5⟩ := h3 s (by omega)
      rw [addA_o (by omega) e, addA_o (by omega) e, addA_o (by omega) e, addA_o (by omega) e, addA_o (by omega) e, addA_o (by omega) e]
      simp (disch := omega) only [m_rA1, m_rA3, m_rAe, m_rAn, m_rAi, m_rI2, m_rIe, m_rIn, m_rL1, m_rL2, m_rLe, m_rLi, m_rLn]
      exact ⟨r1, r2, r3, r4, r5⟩
  · rw [addA_r (by omega)]
    simp (disch := omega) only [m_rA1, m_rA3, m_rAe, m_rAn, m_rAi, m_rI2, m_rIe, m_rIn, m_rL1, m_rL2, m_rLe, m_rLi, m_rLn]
    exact h4 k hk
  · exact MN_fr h5 (by simp (disch := omega) only [m_rA1, m_rA3, m_rAe, m_rAn, m_rAi, m_rI2, m_rIe, m_rIn, m_rL1, m_rL2, m_rLe, m_rLi, m_rLn]) (fun i => by simp (disch := omega) only [m_rA1, m_rA3, m_rAe, m_rAn, m_rAi, m_rI2, m_rIe, m_rIn, m_rL1, m_rL2, m_rLe, m_rLi, m_rLn]) (fun i => by simp (disch := omega) only [m_rA1, m_rA3, m_rAe, m_rAn, m_rAi, m_rI2, m_rIe, m_rIn, m_rL1, m_rL2, m_rLe, m_rLi, m_rLn]) (fun i => addA_r (by omega))
  · by_cases e : k = 1
    · subst e
      simp (disch := omega) only [m_rA1, m_rA3, m_rAe, m_rAn, m_rAi, m_rI2, m_rIe, m_rIn, m_rL1, m_rL2, m_rLe, m_rLi, m_rLn]
    · simp (disch := omega) only [m_rA1, m_rA3, m_rAe, m_rAn, m_rAi, m_rI2, m_rIe, m_rIn, m_rL1, m_rL2, m_rLe, m_rLi, m_rLn]
theorem sm_drop {k : Nat} {a e : Int32} (A : AA) (ok : OkA k A) : ∃ r A', OkA (k + 1) A' ∧ CallX k (fun n => G101 n a e) A r A' ∧ CallM (fun n => F230 n a e) A r A' := by
  have ok1 := OkA_s ok
  have hb := OkA_b ok
  have kw := OkA_w ok
  have hD := ok.2.2.2.1.2.2.1 A.2.2.1.2.1 (Or.inl rfl)
  have hn := hD.2.1
  have no1 : ∀ T G, RC A T G → Ev (fun n => G75 n a T) (b2i false, T) → RG k G → Ep (fun n => G101 n a e (T, G)) (fun z => z.1 = zI 0 ∧ RC A z.2.1 z.2.2 ∧ RG (k + 1) z.2.2) := by
    intro T G hc h1 hG
    refine ep_succ (fun n => G101e0 n ..) ?_
    simp only [G101b0]
    refine ep_bv h1 ?_
    simp only [if_eq_b2i, decide_eq_true_eq, decide_true, decide_false, Bool.not_eq_true, Bool.not_eq_true', Bool.not_true, Bool.not_false, decide_eq_false_iff_not, Bool.false_eq_true, not_false_eq_true, not_true_eq_false, if_true, if_false, ↓reduceIte, eq_self, Option.bind_some, Bool.true_and, Bool.false_and, Bool.and_true, Bool.and_false]
    exact ep_ret ⟨rfl, hc, RG_s hG⟩
  have no2 : ∀ S, Ev (fun n => F196 n a S) (b2i false, S) → Ev (fun n => F230 n a e S) (zI 0, S) := by
    intro S h1
    refine ev_succ (fun n => F230e0 n ..) ?_
    simp only [F230b0]
    refine ev_bind h1 ?_
    simp only [if_eq_b2i, decide_eq_true_eq, decide_true, decide_false, Bool.not_eq_true, Bool.not_eq_true', Bool.not_true, Bool.not_false, decide_eq_false_iff_not, Bool.false_eq_true, not_false_eq_true, not_true_eq_false, if_true, if_false, ↓reduceIte, eq_self, Option.bind_some, Bool.true_and, Bool.false_and, Bool.and_true, Bool.and_false]
    exact ev_ret
  rcases i32_cases a with ⟨c, hx, rfl⟩ | hx
  · by_cases hc : c < A.2.2.1.1 0 0
    · have nt1 : ∀ T G, RC A T G → Ev (fun n => G102 n e T) (nI 0, T) → RG k G → Ep (fun n => G101 n (nI c) e (T, G)) (fun z => z.1 = zI 0 ∧ RC A z.2.1 z.2.2 ∧ RG (k + 1) z.2.2) := by
        intro T G hR h1 hG
        refine ep_succ (fun n => G101e0 n ..) ?_
        simp only [G101b0]
        refine ep_bv (g75n ok hR hx) ?_
        simp only [hc, if_eq_b2i, decide_eq_true_eq, decide_true, decide_false, Bool.not_eq_true, Bool.not_eq_true', Bool.not_true, Bool.not_false, decide_eq_false_iff_not, Bool.false_eq_true, not_false_eq_true, not_true_eq_false, if_true, if_false, ↓reduceIte, eq_self, Option.bind_some, Bool.true_and, Bool.false_and, Bool.and_true, Bool.and_false]
        refine ep_bv h1 ?_
        simp (disch := omega) only [L0, L1, L2, L3, L4, L5, L6, L7, L8, L9, L10, L11, L12, L13, L16, L20, L31, L32, L40, L48, L57, L59, L60, L61, L91, L93, L97, L99, L100, L102, L103, L114, L122, L255, L300, L400, L402, L999, L2280, L2500, L99999, L63, L1431655765, L858993459, L252645135, ic_ge, ic_gt, ic_le, ic_lt, ic_eq, ic_ne, if_lt, if_ge, if_gt, if_le, if_eq, if_ne, if_lt_zI, if_ge_zI, ic_ne_m1, ic_eq_m1, ic_nn_m1, ic_ee_m1, if_ne_b2i, if_eq_b2i, b2i_z, decide_eq_true_eq, decide_true, decide_false, Bool.not_eq_true, Bool.not_eq_true', Bool.not_true, Bool.not_false, decide_eq_false_iff_not, Bool.false_eq_true, not_false_eq_true, not_true_eq_false, if_true, if_false, ↓reduceIte, eq_self, Option.bind_some, Bool.true_and, Bool.false_and, Bool.and_true, Bool.and_false, nI_add, nI_subN, nI_clamp, gdF, gdF2, gdP, gdP2, zI_cl, zI_s, Lm1, nI_n0, zI_n0, leF, or_false, false_or, or_self]
        exact ep_ret ⟨rfl, hR, RG_s hG⟩
      have nt2 : ∀ S, RM A S → Ev (fun n => F231 n e S) (b2i false, S) → Ev (fun n => F230 n (nI c) e S) (zI 0, S) := by
        intro S hm h1
        refine ev_succ (fun n => F230e0 n ..) ?_
        simp only [F230b0]
        refine ev_bind (f196n ok hm hx) ?_
        simp only [hc, if_eq_b2i, decide_eq_true_eq, decide_true, decide_false, Bool.not_eq_true, Bool.not_eq_true', Bool.not_true, Bool.not_false, decide_eq_false_iff_not, Bool.false_eq_true, not_false_eq_true, not_true_eq_false, if_true, if_false, ↓reduceIte, eq_self, Option.bind_some, Bool.true_and, Bool.false_and, Bool.and_true, Bool.and_false]
        refine ev_bind h1 ?_
        simp only [if_eq_b2i, decide_eq_true_eq, decide_true, decide_false, Bool.not_eq_true, Bool.not_eq_true', Bool.not_true, Bool.not_false, decide_eq_false_iff_not, Bool.false_eq_true, not_false_eq_true, not_true_eq_false, if_true, if_false, ↓reduceIte, eq_self, Option.bind_some, Bool.true_and, Bool.false_and, Bool.and_true, Bool.and_false]
        exact ev_ret
      rcases i32_cases e with ⟨t, ht, rfl⟩ | ht
      · by_cases hT : isTx t = true
        · have hl := isTx_len hT
          by_cases h12 : A.2.2.1.2.1.1 0 1 < 12
          · refine ⟨nI (A.2.2.1.2.1.1 0 1), wA (kA A) (addA A.2.2.1.2.1 c t 0), OkA_wk ok ⟨addA_Ok kw (by omega) hT hc (by omega), by rw [addA_n]; omega, by rw [addA_d]; have := hD.2.2.1; omega, fun i hi => by rw [addA_r (by omega), addA_d]; exact hD.2.2.2.1 i hi, ?_⟩, ?_, ?_⟩
            · rw [ctF_eq (P := fun x => !decide ((addA A.2.2.1.2.1 c t 0).1 7 x = 0)) (Q := fun x => !decide (A.2.2.1.2.1.1 7 x = 0)) _ _ (fun i _ _ => by rw [addA_r (by omega)])]
              exact hD.2.2.2.2
            · intro T G hR hG
              have h1 : T.1 95 1 = nI (A.2.2.1.2.1.1 0 1) := (CD_w hR).2.1
              refine ep_succ (fun n => G101e0 n ..) ?_
              simp only [G101b0]
              refine ep_bv (g75n ok hR hx) ?_
              simp only [hc, if_eq_b2i, decide_eq_true_eq, decide_true, decide_false, Bool.not_eq_true, Bool.not_eq_true', Bool.not_true, Bool.not_false, decide_eq_false_iff_not, Bool.false_eq_true, not_false_eq_true, not_true_eq_false, if_true, if_false, ↓reduceIte, eq_self, Option.bind_some, Bool.true_and, Bool.false_and, Bool.and_true, Bool.and_false]
              refine ep_bv (g102 ht T) ?_
              rw [if_pos hT]
              have hz : ¬ lenN t = 0 := by omega
              simp (disch := omega) only [L0, L1, L2, L3, L4, L5, L6, L7, L8, L9, L10, L11, L12, L13, L16, L20, L31, L32, L40, L48, L57, L59, L60, L61, L91, L93, L97, L99, L100, L102, L103, L114, L122, L255, L300, L400, L402, L999, L2280, L2500, L99999, L63, L1431655765, L858993459, L252645135, ic_ge, ic_gt, ic_le, ic_lt, ic_eq, ic_ne, if_lt, if_ge, if_gt, if_le, if_eq, if_ne, if_lt_zI, if_ge_zI, ic_ne_m1, ic_eq_m1, ic_nn_m1, ic_ee_m1, if_ne_b2i, if_eq_b2i, b2i_z, decide_eq_true_eq, decide_true, decide_false, Bool.not_eq_true, Bool.not_eq_true', Bool.not_true, Bool.not_false, decide_eq_false_iff_not, Bool.false_eq_true, not_false_eq_true, not_true_eq_false, if_true, if_false, ↓reduceIte, eq_self, Option.bind_some, Bool.true_and, Bool.false_and, Bool.and_true, Bool.and_false, nI_add, nI_subN, nI_clamp, gdF, gdF2, gdP, gdP2, zI_cl, zI_s, Lm1, nI_n0, zI_n0, leF, or_false, false_or, or_self, hz, h1, h12]
              refine ep_bind (keepX ok hR) ?_
              rintro ⟨_, T1, G1⟩ ⟨hc1, hg1, hg2⟩
              have hc1 : RC (kA A) T1 G1 := hc1
              refine ep_bind (g50 (w := A.2.2.1.2.1) (CD_w (A := kA A) hc1) (by omega) hT) ?_
              rintro ⟨z1, T2⟩ ⟨e1, e2, e3⟩
              refine ep_ret ⟨e1, RC_w hc1 e2 (fun q a b => e3.1 q (by omega)) (fun q _ => by rw [e3.2]), ?_, ?_⟩
              · have hg1 : G1.2.1 ≤ G.2.1 + 11 := hg1
                have := hG.1
                show G1.2.1 ≤ _
                omega
              · have hg2 : G1.2.2 ≤ G.2.2 + 139 := hg2
                have := hG.2
                show G1.2.2 ≤ _
                omega
            · intro S hm
              have h1 : S.2.1 1 4 = nI (A.2.2.1.2.1.1 0 1) := (MD_w hm).1
              have h12' : ¬ A.2.2.1.2.1.1 0 1 = 12 := by omega
              refine ep_succ (fun n => F230e0 n ..) ?_
              simp only [F230b0]
              refine ep_bv (f196n ok hm hx) ?_
              simp only [hc, if_eq_b2i, decide_eq_true_eq, decide_true, decide_false, Bool.not_eq_true, Bool.not_eq_true', Bool.not_true, Bool.not_false, decide_eq_false_iff_not, Bool.false_eq_true, not_false_eq_true, not_true_eq_false, if_true, if_false, ↓reduceIte, eq_self, Option.bind_some, Bool.true_and, Bool.false_and, Bool.and_true, Bool.and_false]
              refine ep_bv (f231 ht S) ?_
              simp (disch := omega) only [hT, if_eq_b2i, L0, L1, L2, L3, L4, L5, L6, L7, L8, L9, L10, L11, L12, L13, L16, L20, L31, L32, L40, L48, L57, L59, L60, L61, L91, L93, L97, L99, L100, L102, L103, L114, L122, L255, L300, L400, L402, L999, L2280, L2500, L99999, L63, L1431655765, L858993459, L252645135, ic_ge, ic_gt, ic_le, ic_lt, ic_eq, ic_ne, if_lt, if_ge, if_gt, if_le, if_eq, if_ne, if_lt_zI, if_ge_zI, ic_ne_m1, ic_eq_m1, ic_nn_m1, ic_ee_m1, if_ne_b2i, if_eq_b2i, b2i_z, decide_eq_true_eq, decide_true, decide_false, Bool.not_eq_true, Bool.not_eq_true', Bool.not_true, Bool.not_false, decide_eq_false_iff_not, Bool.false_eq_true, not_false_eq_true, not_true_eq_false, if_true, if_false, ↓reduceIte, eq_self, Option.bind_some, Bool.true_and, Bool.false_and, Bool.and_true, Bool.and_false, nI_add, nI_subN, nI_clamp, gdF, gdF2, gdP, gdP2, zI_cl, zI_s, Lm1, nI_n0, zI_n0, leF, or_false, false_or, or_self, h1, h12']
              refine ep_bind (keepM ok hm) ?_
              rintro ⟨_, S1⟩ hm1
              have hm1 : RM (kA A) S1 := hm1
              refine ep_bind (f232 (w := A.2.2.1.2.1) (d := 0) (MD_w (A := kA A) hm1) (by omega)) ?_
              rintro ⟨z1, S2⟩ ⟨e1, e2, e3, e4⟩
              have e3 : S2.1 = S1.1 := e3
              refine ep_ret ⟨e1, RM_w (OkA_k ok) hm1 e2 ⟨by rw [e3], by rw [e3], by rw [e3], by rw [e3]⟩ (fun k i hk => e4 k i (by omega))⟩
          · have h12e : A.2.2.1.2.1.1 0 1 = 12 := by omega
            refine ⟨zI 0, A, ok1, fun T G hR hG => ?_, callM_id (fun S hm => ?_)⟩
            · have h1 : T.1 95 1 = nI (A.2.2.1.2.1.1 0 1) := (CD_w hR).2.1
              refine ep_succ (fun n => G101e0 n ..) ?_
              simp only [G101b0]
              refine ep_bv (g75n ok hR hx) ?_
              simp only [hc, if_eq_b2i, decide_eq_true_eq, decide_true, decide_false, Bool.not_eq_true, Bool.not_eq_true', Bool.not_true, Bool.not_false, decide_eq_false_iff_not, Bool.false_eq_true, not_false_eq_true, not_true_eq_false, if_true, if_false, ↓reduceIte, eq_self, Option.bind_some, Bool.true_and, Bool.false_and, Bool.and_true, Bool.and_false]
              refine ep_bv (g102 ht T) ?_
              rw [if_pos hT]
              have hz : ¬ lenN t = 0 := by omega
              simp (disch := omega) only [L0, L1, L2, L3, L4, L5, L6, L7, L8, L9, L10, L11, L12, L13, L16, L20, L31, L32, L40, L48, L57, L59, L60, L61, L91, L93, L97, L99, L100, L102, L103, L114, L122, L255, L300, L400, L402, L999, L2280, L2500, L99999, L63, L1431655765, L858993459, L252645135, ic_ge, ic_gt, ic_le, ic_lt, ic_eq, ic_ne, if_lt, if_ge, if_gt, if_le, if_eq, if_ne, if_lt_zI, if_ge_zI, ic_ne_m1, ic_eq_m1, ic_nn_m1, ic_ee_m1, if_ne_b2i, if_eq_b2i, b2i_z, decide_eq_true_eq, decide_true, decide_false, Bool.not_eq_true, Bool.not_eq_true', Bool.not_true, Bool.not_false, decide_eq_false_iff_not, Bool.false_eq_true, not_false_eq_true, not_true_eq_false, if_true, if_false, ↓reduceIte, eq_self, Option.bind_some, Bool.true_and, Bool.false_and, Bool.and_true, Bool.and_false, nI_add, nI_subN, nI_clamp, gdF, gdF2, gdP, gdP2, zI_cl, zI_s, Lm1, nI_n0, zI_n0, leF, or_false, false_or, or_self, hz, h1, h12]
              exact ep_ret ⟨rfl, hR, RG_s hG⟩
            · have h1 : S.2.1 1 4 = nI (A.2.2.1.2.1.1 0 1) := (MD_w hm).1
              refine ev_succ (fun n => F230e0 n ..) ?_
              simp only [F230b0]
              refine ev_bind (f196n ok hm hx) ?_
              simp only [hc, if_eq_b2i, decide_eq_true_eq, decide_true, decide_false, Bool.not_eq_true, Bool.not_eq_true', Bool.not_true, Bool.not_false, decide_eq_false_iff_not, Bool.false_eq_true, not_false_eq_true, not_true_eq_false, if_true, if_false, ↓reduceIte, eq_self, Option.bind_some, Bool.true_and, Bool.false_and, Bool.and_true, Bool.and_false]
              refine ev_bind (f231 ht S) ?_
              simp (disch := omega) only [hT, if_eq_b2i, L0, L1, L2, L3, L4, L5, L6, L7, L8, L9, L10, L11, L12, L13, L16, L20, L31, L32, L40, L48, L57, L59, L60, L61, L91, L93, L97, L99, L100, L102, L103, L114, L122, L255, L300, L400, L402, L999, L2280, L2500, L99999, L63, L1431655765, L858993459, L252645135, ic_ge, ic_gt, ic_le, ic_lt, ic_eq, ic_ne, if_lt, if_ge, if_gt, if_le, if_eq, if_ne, if_lt_zI, if_ge_zI, ic_ne_m1, ic_eq_m1, ic_nn_m1, ic_ee_m1, if_ne_b2i, if_eq_b2i, b2i_z, decide_eq_true_eq, decide_true, decide_false, Bool.not_eq_true, Bool.not_eq_true', Bool.not_true, Bool.not_false, decide_eq_false_iff_not, Bool.false_eq_true, not_false_eq_true, not_true_eq_false, if_true, if_false, ↓reduceIte, eq_self, Option.bind_some, Bool.true_and, Bool.false_and, Bool.and_true, Bool.and_false, nI_add, nI_subN, nI_clamp, gdF, gdF2, gdP, gdP2, zI_cl, zI_s, Lm1, nI_n0, zI_n0, leF, or_false, false_or, or_self, h1, h12e]
              exact ev_ret
        · refine ⟨zI 0, A, ok1, fun T G hR hG => nt1 T G hR ?_ hG, callM_id (fun S hm => nt2 S hm ?_)⟩
          · have := g102 ht T
            rw [if_neg hT] at this
            exact this
          · have := f231 ht S
            rw [Bool.eq_false_iff.mpr hT] at this
            exact this
      · exact ⟨zI 0, A, ok1, fun T G hR hG => nt1 T G hR (g102n ht T) hG, callM_id (fun S hm => nt2 S hm (f231n ht S))⟩
    · refine ⟨zI 0, A, ok1, fun T G hR hG => no1 T G hR ?_ hG, callM_id (fun S hm => no2 S ?_)⟩
      · have := g75n ok hR hx
        rw [decide_eq_false hc] at this
        exact this
      · have := f196n ok hm hx
        rw [decide_eq_false hc] at this
        exact this
  · exact ⟨zI 0, A, ok1, fun T G hR hG => no1 T G hR (g75m hx) hG, callM_id (fun S hm => no2 S (f196m hx))⟩
