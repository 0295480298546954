/-! letters and words in the program; what is behind a clause -/
theorem sTx_30 (p : Nat) : (sTx p).length < 2 ^ 30 := by
  have : am_tx.all (fun b => decide (b.length < 2 ^ 30)) = true := by decide +kernel
  unfold sTx
  by_cases hh : (p - 2) / 2 < am_tx.length
  · rw [List.getD_eq_getElem?_getD, List.getElem?_eq_getElem hh]
    exact of_decide_eq_true (List.all_eq_true.mp this _ (List.getElem_mem hh))
  · rw [List.getD_eq_getElem?_getD, List.getElem?_eq_none (by omega)]
    decide
section Tq
variable {T T0 : xS} {f : Nat → Nat} {L i m e : Nat}
theorem g46 (hH : TH T0 f L) {q : Nat} (hq : q < 2 ^ 31) (h : TP T T0 L i m e) : Ev (fun n => G46 n (nI q) T) (b2i (smB f L q), T) := by
  have hL := hH.2.1
  have h1 := h.1
  refine ev_succ (fun n => G46e0 n ..) ?_
  unfold smB
  by_cases hl : L ≤ q
  · rw [decide_eq_false (show ¬ q < L by omega)]
    simp (disch := omega) only [G46b0, L0, L1, L2, L3, L4, L5, L6, L7, L8, L9, L10, L11, L12, L13, L16, L20, L31, L32, L40, L48, L57, L59, L60, L61, L91, L93, L97, L99, L100, L102, L103, L114, L122, L255, L300, L400, L402, L999, L2280, L2500, L99999, L63, L1431655765, L858993459, L252645135, ic_ge, ic_gt, ic_le, ic_lt, ic_eq, ic_ne, if_lt, if_ge, if_gt, if_le, if_eq, if_ne, if_lt_zI, if_ge_zI, ic_ne_m1, ic_eq_m1, ic_nn_m1, ic_ee_m1, if_ne_b2i, if_eq_b2i, b2i_z, decide_eq_true_eq, decide_true, decide_false, Bool.not_eq_true, Bool.not_eq_true', Bool.not_true, Bool.not_false, decide_eq_false_iff_not, Bool.false_eq_true, not_false_eq_true, not_true_eq_false, if_true, if_false, ↓reduceIte, eq_self, Option.bind_some, Bool.true_and, Bool.false_and, Bool.and_true, Bool.and_false, nI_add, nI_subN, nI_clamp, gdF, gdF2, gdP, gdP2, zI_cl, zI_s, Lm1, nI_n0, zI_n0, leF, or_false, false_or, or_self, h1, hl]
    exact ev_ret
  · have r := TP_r hH h (show q < L by omega)
    have hb := hH.2.2 q (by omega)
    rw [decide_eq_true (show q < L by omega)]
    by_cases h97 : f q < 97
    · rw [decide_eq_false (show ¬ 97 ≤ f q by omega)]
      simp (disch := omega) only [G46b0, L0, L1, L2, L3, L4, L5, L6, L7, L8, L9, L10, L11, L12, L13, L16, L20, L31, L32, L40, L48, L57, L59, L60, L61, L91, L93, L97, L99, L100, L102, L103, L114, L122, L255, L300, L400, L402, L999, L2280, L2500, L99999, L63, L1431655765, L858993459, L252645135, ic_ge, ic_gt, ic_le, ic_lt, ic_eq, ic_ne, if_lt, if_ge, if_gt, if_le, if_eq, if_ne, if_lt_zI, if_ge_zI, ic_ne_m1, ic_eq_m1, ic_nn_m1, ic_ee_m1, if_ne_b2i, if_eq_b2i, b2i_z, decide_eq_true_eq, decide_true, decide_false, Bool.not_eq_true, Bool.not_eq_true', Bool.not_true, Bool.not_false, decide_eq_false_iff_not, Bool.false_eq_true, not_false_eq_true, not_true_eq_false, if_true, if_false, ↓reduceIte, eq_self, Option.bind_some, Bool.true_and, Bool.false_and, Bool.and_true, Bool.and_false, nI_add, nI_subN, nI_clamp, gdF, gdF2, gdP, gdP2, zI_cl, zI_s, Lm1, nI_n0, zI_n0, leF, or_false, false_or, or_self, h1, hl, r, h97]
      exact ev_ret
    · rw [decide_eq_true (show 97 ≤ f q by omega)]
      by_cases h122 : 122 < f q
      · rw [decide_eq_false (show ¬ f q ≤ 122 by omega)]
        simp (disch := omega) only [G46b0, L0, L1, L2, L3, L4, L5, L6, L7, L8, L9, L10, L11, L12, L13, L16, L20, L31, L32, L40, L48, L57, L59, L60, L61, L91, L93, L97, L99, L100, L102, L103, L114, L122, L255, L300, L400, L402, L999, L2280, L2500, L99999, L63, L1431655765, L858993459, L252645135, ic_ge, ic_gt, ic_le, ic_lt, ic_eq, ic_ne, if_lt, if_ge, if_gt, if_le, if_eq, if_ne, if_lt_zI, if_ge_zI, ic_ne_m1, ic_eq_m1, ic_nn_m1, ic_ee_m1, if_ne_b2i, if_eq_b2i, b2i_z, decide_eq_true_eq, decide_true, decide_false, Bool.not_eq_true, Bool.not_eq_true', Bool.not_true, Bool.not_false, decide_eq_false_iff_not, Bool.false_eq_true, not_false_eq_true, not_true_eq_false, if_true, if_false, ↓reduceIte, eq_self, Option.bind_some, Bool.true_and, Bool.false_and, Bool.and_true, Bool.and_false, nI_add, nI_subN, nI_clamp, gdF, gdF2, gdP, gdP2, zI_cl, zI_s, Lm1, nI_n0, zI_n0, leF, or_false, false_or, or_self, h1, hl, r, h97, h122]
        exact ev_ret
      · rw [decide_eq_true (show f q ≤ 122 by omega)]
        simp (disch := omega) only [G46b0, L0, L1, L2, L3, L4, L5, L6, L7, L8, L9, L10, L11, L12, L13, L16, L20, L31, L32, L40, L48, L57, L59, L60, L61, L91, L93, L97, L99, L100, L102, L103, L114, L122, L255, L300, L400, L402, L999, L2280, L2500, L99999, L63, L1431655765, L858993459, L252645135, ic_ge, ic_gt, ic_le, ic_lt, ic_eq, ic_ne, if_lt, if_ge, if_gt, if_le, if_eq, if_ne, if_lt_zI, if_ge_zI, ic_ne_m1, ic_eq_m1, ic_nn_m1, ic_ee_m1, if_ne_b2i, if_eq_b2i, b2i_z, decide_eq_true_eq, decide_true, decide_false, Bool.not_eq_true, Bool.not_eq_true', Bool.not_true, Bool.not_false, decide_eq_false_iff_not, Bool.false_eq_true, not_false_eq_true, not_true_eq_false, if_true, if_false, ↓reduceIte, eq_self, Option.bind_some, Bool.true_and, Bool.false_and, Bool.and_true, Bool.and_false, nI_add, nI_subN, nI_clamp, gdF, gdF2, gdP, gdP2, zI_cl, zI_s, Lm1, nI_n0, zI_n0, leF, or_false, false_or, or_self, h1, hl, r, h97, h122]
        exact ev_ret
theorem g45l (hH : TH T0 f L) {most : Nat} (h8 : most ≤ 8) : ∀ (k q n v : Nat) (T : xS), n + k = most + 1 → q ≤ L → v < 10 ^ n → TP T T0 L q m 0 → Ep (fun N => G45f N 32 (nI most) (nI v) (nI n) T) (fun z => z.1 = (if (lsF f L most k q n v).1 = 0 then nI (lsF f L most k q n v).2.1 else zI 0) ∧ TP z.2 T0 L (lsF f L most k q n v).2.2 m (lsF f L most k q n v).1) := by
  have hL := hH.2.1
  intro k
  induction k with
  | zero =>
    intro q n v T hn hq hv h
    have e1 : most < n := by omega
    refine ep_succ (fun N => G45e32 N ..) ?_
    simp (disch := omega) only [G45b32, L0, L1, L2, L3, L4, L5, L6, L7, L8, L9, L10, L11, L12, L13, L16, L20, L31, L32, L40, L48, L57, L59, L60, L61, L91, L93, L97, L99, L100, L102, L103, L114, L122, L255, L300, L400, L402, L999, L2280, L2500, L99999, L63, L1431655765, L858993459, L252645135, ic_ge, ic_gt, ic_le, ic_lt, ic_eq, ic_ne, if_lt, if_ge, if_gt, if_le, if_eq, if_ne, if_lt_zI, if_ge_zI, ic_ne_m1, ic_eq_m1, ic_nn_m1, ic_ee_m1, if_ne_b2i, if_eq_b2i, b2i_z, decide_eq_true_eq, decide_true, decide_false, Bool.not_eq_true, Bool.not_eq_true', Bool.not_true, Bool.not_false, decide_eq_false_iff_not, Bool.false_eq_true, not_false_eq_true, not_true_eq_false, if_true, if_false, ↓reduceIte, eq_self, Option.bind_some, Bool.true_and, Bool.false_and, Bool.and_true, Bool.and_false, nI_add, nI_subN, nI_clamp, gdF, gdF2, gdP, gdP2, zI_cl, zI_s, Lm1, nI_n0, zI_n0, leF, or_false, false_or, or_self, e1]
    exact ep_ret ⟨rfl, h⟩
  | succ k ih =>
    intro q n v T hn hq hv h
    have e1 : ¬ most < n := by omega
    have h2 := h.2.1
    have gs := g46 hH (q := q) (by omega) h
    refine ep_succ (fun N => G45e32 N ..) ?_
    unfold lsF
    simp (disch := omega) only [G45b32, L0, L1, L2, L3, L4, L5, L6, L7, L8, L9, L10, L11, L12, L13, L16, L20, L31, L32, L40, L48, L57, L59, L60, L61, L91, L93, L97, L99, L100, L102, L103, L114, L122, L255, L300, L400, L402, L999, L2280, L2500, L99999, L63, L1431655765, L858993459, L252645135, ic_ge, ic_gt, ic_le, ic_lt, ic_eq, ic_ne, if_lt, if_ge, if_gt, if_le, if_eq, if_ne, if_lt_zI, if_ge_zI, ic_ne_m1, ic_eq_m1, ic_nn_m1, ic_ee_m1, if_ne_b2i, if_eq_b2i, b2i_z, decide_eq_true_eq, decide_true, decide_false, Bool.not_eq_true, Bool.not_eq_true', Bool.not_true, Bool.not_false, decide_eq_false_iff_not, Bool.false_eq_true, not_false_eq_true, not_true_eq_false, if_true, if_false, ↓reduceIte, eq_self, Option.bind_some, Bool.true_and, Bool.false_and, Bool.and_true, Bool.and_false, nI_add, nI_subN, nI_clamp, gdF, gdF2, gdP, gdP2, zI_cl, zI_s, Lm1, nI_n0, zI_n0, leF, or_false, false_or, or_self, e1, h2]
    refine ep_bv gs ?_
    by_cases hs : smB f L q = true
    · have hs' := hs
      unfold smB at hs'
      simp only [Bool.and_eq_true, decide_eq_true_eq] at hs'
      have r := TP_r hH h hs'.1.1
      have w0 : Ep (fun N => (G36 N (nI q) (nI 0) T).bind (fun z => some (zI 0, z.2))) (fun z => z.1 = zI 0 ∧ TP z.2 T0 L q m (1 + 8 * q)) := by
        refine ep_bind (g36 h) ?_
        rintro ⟨z, T1⟩ ⟨_, a⟩
        exact ep_ret ⟨rfl, a⟩
      have w2 : Ep (fun N => (G36 N (nI q) (nI 0) T).bind (fun z => some (zI 0, z.2))) (fun z => z.1 = (if 1 + 8 * q = 0 then nI 0 else zI 0) ∧ TP z.2 T0 L q m (1 + 8 * q)) := ep_mono w0 (fun z hz => ⟨by rw [if_neg (show ¬ 1 + 8 * q = 0 by omega)]; exact hz.1, hz.2⟩)
      rw [if_pos hs]
      by_cases hm : n = most
      · rw [if_pos (Or.inl hm)]
        simp (disch := omega) only [L0, L1, L2, L3, L4, L5, L6, L7, L8, L9, L10, L11, L12, L13, L16, L20, L31, L32, L40, L48, L57, L59, L60, L61, L91, L93, L97, L99, L100, L102, L103, L114, L122, L255, L300, L400, L402, L999, L2280, L2500, L99999, L63, L1431655765, L858993459, L252645135, ic_ge, ic_gt, ic_le, ic_lt, ic_eq, ic_ne, if_lt, if_ge, if_gt, if_le, if_eq, if_ne, if_lt_zI, if_ge_zI, ic_ne_m1, ic_eq_m1, ic_nn_m1, ic_ee_m1, if_ne_b2i, if_eq_b2i, b2i_z, decide_eq_true_eq, decide_true, decide_false, Bool.not_eq_true, Bool.not_eq_true', Bool.not_true, Bool.not_false, decide_eq_false_iff_not, Bool.false_eq_true, not_false_eq_true, not_true_eq_false, if_true, if_false, ↓reduceIte, eq_self, Option.bind_some, Bool.true_and, Bool.false_and, Bool.and_true, Bool.and_false, nI_add, nI_subN, nI_clamp, gdF, gdF2, gdP, gdP2, zI_cl, zI_s, Lm1, nI_n0, zI_n0, leF, or_false, false_or, or_self, hs, hm, h2]
        exact w2
      · by_cases h102 : 102 < f q
        · have h103 : ¬ f q < 103 := by omega
          rw [if_pos (Or.inr h102)]
          simp (disch := omega) only [L0, L1, L2, L3, L4, L5, L6, L7, L8, L9, L10, L11, L12, L13, L16, L20, L31, L32, L40, L48, L57, L59, L60, L61, L91, L93, L97, L99, L100, L102, L103, L114, L122, L255, L300, L400, L402, L999, L2280, L2500, L99999, L63, L1431655765, L858993459, L252645135, ic_ge, ic_gt, ic_le, ic_lt, ic_eq, ic_ne, if_lt, if_ge, if_gt, if_le, if_eq, if_ne, if_lt_zI, if_ge_zI, ic_ne_m1, ic_eq_m1, ic_nn_m1, ic_ee_m1, if_ne_b2i, if_eq_b2i, b2i_z, decide_eq_true_eq, decide_true, decide_false, Bool.not_eq_true, Bool.not_eq_true', Bool.not_true, Bool.not_false, decide_eq_false_iff_not, Bool.false_eq_true, not_false_eq_true, not_true_eq_false, if_true, if_false, ↓reduceIte, eq_self, Option.bind_some, Bool.true_and, Bool.false_and, Bool.and_true, Bool.and_false, nI_add, nI_subN, nI_clamp, gdF, gdF2, gdP, gdP2, zI_cl, zI_s, Lm1, nI_n0, zI_n0, leF, or_false, false_or, or_self, hs, hm, h2, r, h103]
          exact w2
        · have h103 : f q < 103 := by omega
          rw [if_neg (show ¬ (n = most ∨ 102 < f q) by omega)]
          have hp : (10 : Nat) ^ n ≤ 10 ^ 8 := Nat.pow_le_pow_right (by decide) (by omega)
          have hp8 : (10 : Nat) ^ 8 = 100000000 := by decide
          have ev : v * 10 + f q - 97 + 1 = v * 10 + (f q - 96) := by omega
          simp (disch := omega) only [L0, L1, L2, L3, L4, L5, L6, L7, L8, L9, L10, L11, L12, L13, L16, L20, L31, L32, L40, L48, L57, L59, L60, L61, L91, L93, L97, L99, L100, L102, L103, L114, L122, L255, L300, L400, L402, L999, L2280, L2500, L99999, L63, L1431655765, L858993459, L252645135, ic_ge, ic_gt, ic_le, ic_lt, ic_eq, ic_ne, if_lt, if_ge, if_gt, if_le, if_eq, if_ne, if_lt_zI, if_ge_zI, ic_ne_m1, ic_eq_m1, ic_nn_m1, ic_ee_m1, if_ne_b2i, if_eq_b2i, b2i_z, decide_eq_true_eq, decide_true, decide_false, Bool.not_eq_true, Bool.not_eq_true', Bool.not_true, Bool.not_false, decide_eq_false_iff_not, Bool.false_eq_true, not_false_eq_true, not_true_eq_false, if_true, if_false, ↓reduceIte, eq_self, Option.bind_some, Bool.true_and, Bool.false_and, Bool.and_true, Bool.and_false, nI_add, nI_subN, nI_clamp, gdF, gdF2, gdP, gdP2, zI_cl, zI_s, Lm1, nI_n0, zI_n0, leF, or_false, false_or, or_self, hs, hm, h2, r, h103, nI_mul, ev]
          refine ih (q + 1) (n + 1) _ _ (by omega) (by omega) ?_ (TP_2 h)
          rw [Nat.pow_succ]
          omega
    · rw [if_neg hs]
      have hs' := Bool.eq_false_iff.mpr hs
      simp (disch := omega) only [L0, L1, L2, L3, L4, L5, L6, L7, L8, L9, L10, L11, L12, L13, L16, L20, L31, L32, L40, L48, L57, L59, L60, L61, L91, L93, L97, L99, L100, L102, L103, L114, L122, L255, L300, L400, L402, L999, L2280, L2500, L99999, L63, L1431655765, L858993459, L252645135, ic_ge, ic_gt, ic_le, ic_lt, ic_eq, ic_ne, if_lt, if_ge, if_gt, if_le, if_eq, if_ne, if_lt_zI, if_ge_zI, ic_ne_m1, ic_eq_m1, ic_nn_m1, ic_ee_m1, if_ne_b2i, if_eq_b2i, b2i_z, decide_eq_true_eq, decide_true, decide_false, Bool.not_eq_true, Bool.not_eq_true', Bool.not_true, Bool.not_false, decide_eq_false_iff_not, Bool.false_eq_true, not_false_eq_true, not_true_eq_false, if_true, if_false, ↓reduceIte, eq_self, Option.bind_some, Bool.true_and, Bool.false_and, Bool.and_true, Bool.and_false, nI_add, nI_subN, nI_clamp, gdF, gdF2, gdP, gdP2, zI_cl, zI_s, Lm1, nI_n0, zI_n0, leF, or_false, false_or, or_self, hs']
      exact ep_ret ⟨rfl, h⟩
theorem g45 (hH : TH T0 f L) {most : Nat} (h8 : most ≤ 8) (hi : i ≤ L) (h : TP T T0 L i m 0) : Ep (fun n => G45 n (nI most) T) (fun z => z.1 = (if (leF2 f L i most).1 = 0 then nI (leF2 f L i most).2.1 else zI 0) ∧ TP z.2 T0 L (leF2 f L i most).2.2 m (leF2 f L i most).1) := by
  have hL := hH.2.1
  have hb := bk_b (f := f) hi
  refine ep_succ (fun n => G45e0 n ..) ?_
  simp only [G45b0]
  refine ep_bind (g23 hH hi h) ?_
  rintro ⟨z1, T1⟩ ⟨_, a⟩
  have a : TP T1 T0 L (bk f L i) m 0 := a
  have a2 := a.2.1
  simp only [a2]
  refine ep_bv (g46 hH (by omega) a) ?_
  unfold leF2
  by_cases hs : smB f L (bk f L i) = true
  · rw [if_pos hs]
    simp (disch := omega) only [L0, L1, L2, L3, L4, L5, L6, L7, L8, L9, L10, L11, L12, L13, L16, L20, L31, L32, L40, L48, L57, L59, L60, L61, L91, L93, L97, L99, L100, L102, L103, L114, L122, L255, L300, L400, L402, L999, L2280, L2500, L99999, L63, L1431655765, L858993459, L252645135, ic_ge, ic_gt, ic_le, ic_lt, ic_eq, ic_ne, if_lt, if_ge, if_gt, if_le, if_eq, if_ne, if_lt_zI, if_ge_zI, ic_ne_m1, ic_eq_m1, ic_nn_m1, ic_ee_m1, if_ne_b2i, if_eq_b2i, b2i_z, decide_eq_true_eq, decide_true, decide_false, Bool.not_eq_true, Bool.not_eq_true', Bool.not_true, Bool.not_false, decide_eq_false_iff_not, Bool.false_eq_true, not_false_eq_true, not_true_eq_false, if_true, if_false, ↓reduceIte, eq_self, Option.bind_some, Bool.true_and, Bool.false_and, Bool.and_true, Bool.and_false, nI_add, nI_subN, nI_clamp, gdF, gdF2, gdP, gdP2, zI_cl, zI_s, Lm1, nI_n0, zI_n0, leF, or_false, false_or, or_self, hs]
    exact g45l hH h8 (most + 1) (bk f L i) 0 0 T1 (by omega) hb.2.1 (by decide) a
  · rw [if_neg hs]
    have hs' := Bool.eq_false_iff.mpr hs
    simp (disch := omega) only [L0, L1, L2, L3, L4, L5, L6, L7, L8, L9, L10, L11, L12, L13, L16, L20, L31, L32, L40, L48, L57, L59, L60, L61, L91, L93, L97, L99, L100, L102, L103, L114, L122, L255, L300, L400, L402, L999, L2280, L2500, L99999, L63, L1431655765, L858993459, L252645135, ic_ge, ic_gt, ic_le, ic_lt, ic_eq, ic_ne, if_lt, if_ge, if_gt, if_le, if_eq, if_ne, if_lt_zI, if_ge_zI, ic_ne_m1, ic_eq_m1, ic_nn_m1, ic_ee_m1, if_ne_b2i, if_eq_b2i, b2i_z, decide_eq_true_eq, decide_true, decide_false, Bool.not_eq_true, Bool.not_eq_true', Bool.not_true, Bool.not_false, decide_eq_false_iff_not, Bool.false_eq_true, not_false_eq_true, not_true_eq_false, if_true, if_false, ↓reduceIte, eq_self, Option.bind_some, Bool.true_and, Bool.false_and, Bool.and_true, Bool.and_false, nI_add, nI_subN, nI_clamp, gdF, gdF2, gdP, gdP2, zI_cl, zI_s, Lm1, nI_n0, zI_n0, leF, or_false, false_or, or_self, hs', a2]
    refine ep_bind (g36 a) ?_
    rintro ⟨z, T2⟩ ⟨_, b⟩
    exact ep_ret ⟨by rw [if_neg (show ¬ 1 + 8 * bk f L i = 0 by omega)], b⟩
/-- the letters of a text from a on are the word's -/
def WcB (p a : Nat) (w : List Nat) : Bool := sB p && decide (a + w.length ≤ (sTx p).length) && alF (fun k => decide (sCh p (a + k) = nI (w.getD k 0)) && decide (w.getD k 0 < 256) && !decide (w.getD k 0 = 32)) w.length 0
theorem Wc_is {p a : Nat} {w : List Nat} (h : WcB p a w = true) : sB p = true ∧ a + w.length ≤ (sTx p).length ∧ ∀ k, k < w.length → sCh p (a + k) = nI (w.getD k 0) ∧ w.getD k 0 < 256 ∧ w.getD k 0 ≠ 32 := by
  unfold WcB at h
  rw [Bool.and_eq_true, Bool.and_eq_true, al_is] at h
  refine ⟨h.1.1, of_decide_eq_true h.1.2, fun k hk => ?_⟩
  have := h.2 k (Nat.zero_le _) (by omega)
  rw [Bool.and_eq_true, Bool.and_eq_true] at this
  exact ⟨of_decide_eq_true this.1.1, of_decide_eq_true this.1.2, by simpa using this.2⟩
theorem g35l (hH : TH T0 f L) {p a : Nat} {w : List Nat} (hw : WcB p a w = true) (hfit : i + w.length ≤ L) (h : TP T T0 L i m e) : ∀ (r k : Nat), k + r = w.length → Ev (fun n => G35f n 57 p (nI a) (nI (a + w.length)) (nI (a + k)) T) (b2i (alF (fun k => decide (f (i + k) = w.getD k 0)) r k), T) := by
  have hL := hH.2.1
  have h2 := h.2.1
  have hlen := sTx_30 p
  obtain ⟨w1, w2, w3⟩ := Wc_is hw
  intro r
  induction r with
  | zero =>
    intro k hk
    have e1 : a + w.length ≤ a + k := by omega
    refine ev_succ (fun n => G35e57 n ..) ?_
    simp (disch := omega) only [G35b57, L0, L1, L2, L3, L4, L5, L6, L7, L8, L9, L10, L11, L12, L13, L16, L20, L31, L32, L40, L48, L57, L59, L60, L61, L91, L93, L97, L99, L100, L102, L103, L114, L122, L255, L300, L400, L402, L999, L2280, L2500, L99999, L63, L1431655765, L858993459, L252645135, ic_ge, ic_gt, ic_le, ic_lt, ic_eq, ic_ne, if_lt, if_ge, if_gt, if_le, if_eq, if_ne, if_lt_zI, if_ge_zI, ic_ne_m1, ic_eq_m1, ic_nn_m1, ic_ee_m1, if_ne_b2i, if_eq_b2i, b2i_z, decide_eq_true_eq, decide_true, decide_false, Bool.not_eq_true, Bool.not_eq_true', Bool.not_true, Bool.not_false, decide_eq_false_iff_not, Bool.false_eq_true, not_false_eq_true, not_true_eq_false, if_true, if_false, ↓reduceIte, eq_self, Option.bind_some, Bool.true_and, Bool.false_and, Bool.and_true, Bool.and_false, nI_add, nI_subN, nI_clamp, gdF, gdF2, gdP, gdP2, zI_cl, zI_s, Lm1, nI_n0, zI_n0, leF, or_false, false_or, or_self, e1]
    exact ev_ret
  | succ r ih =>
    intro k hk
    have e1 : ¬ a + w.length ≤ a + k := by omega
    obtain ⟨c1, c2, c3⟩ := w3 k (by omega)
    have rr := TP_r hH h (show i + k < L by omega)
    have hb := hH.2.2 (i + k) (by omega)
    have e2 : i + (a + k) - a = i + k := by omega
    refine ev_succ (fun n => G35e57 n ..) ?_
    unfold alF
    by_cases he : f (i + k) = w.getD k 0
    · have he' : w.getD k 0 = f (i + k) := he.symm
      simp (disch := omega) only [G35b57, L0, L1, L2, L3, L4, L5, L6, L7, L8, L9, L10, L11, L12, L13, L16, L20, L31, L32, L40, L48, L57, L59, L60, L61, L91, L93, L97, L99, L100, L102, L103, L114, L122, L255, L300, L400, L402, L999, L2280, L2500, L99999, L63, L1431655765, L858993459, L252645135, ic_ge, ic_gt, ic_le, ic_lt, ic_eq, ic_ne, if_lt, if_ge, if_gt, if_le, if_eq, if_ne, if_lt_zI, if_ge_zI, ic_ne_m1, ic_eq_m1, ic_nn_m1, ic_ee_m1, if_ne_b2i, if_eq_b2i, b2i_z, decide_eq_true_eq, decide_true, decide_false, Bool.not_eq_true, Bool.not_eq_true', Bool.not_true, Bool.not_false, decide_eq_false_iff_not, Bool.false_eq_true, not_false_eq_true, not_true_eq_false, if_true, if_false, ↓reduceIte, eq_self, Option.bind_some, Bool.true_and, Bool.false_and, Bool.and_true, Bool.and_false, nI_add, nI_subN, nI_clamp, gdF, gdF2, gdP, gdP2, zI_cl, zI_s, Lm1, nI_n0, zI_n0, leF, or_false, false_or, or_self, e1, w1, c1, h2, e2, rr, he]
      have := ih (k + 1) (by omega)
      exact this
    · have he' : ¬ w.getD k 0 = f (i + k) := fun z => he z.symm
      simp (disch := omega) only [G35b57, L0, L1, L2, L3, L4, L5, L6, L7, L8, L9, L10, L11, L12, L13, L16, L20, L31, L32, L40, L48, L57, L59, L60, L61, L91, L93, L97, L99, L100, L102, L103, L114, L122, L255, L300, L400, L402, L999, L2280, L2500, L99999, L63, L1431655765, L858993459, L252645135, ic_ge, ic_gt, ic_le, ic_lt, ic_eq, ic_ne, if_lt, if_ge, if_gt, if_le, if_eq, if_ne, if_lt_zI, if_ge_zI, ic_ne_m1, ic_eq_m1, ic_nn_m1, ic_ee_m1, if_ne_b2i, if_eq_b2i, b2i_z, decide_eq_true_eq, decide_true, decide_false, Bool.not_eq_true, Bool.not_eq_true', Bool.not_true, Bool.not_false, decide_eq_false_iff_not, Bool.false_eq_true, not_false_eq_true, not_true_eq_false, if_true, if_false, ↓reduceIte, eq_self, Option.bind_some, Bool.true_and, Bool.false_and, Bool.and_true, Bool.and_false, nI_add, nI_subN, nI_clamp, gdF, gdF2, gdP, gdP2, zI_cl, zI_s, Lm1, nI_n0, zI_n0, leF, or_false, false_or, or_self, e1, w1, c1, h2, e2, rr, he, he']
      exact ev_ret
theorem g35 (hH : TH T0 f L) {p a : Nat} {w : List Nat} (hw : WcB p a w = true) (hi : i ≤ L) (h : TP T T0 L i m e) : Ev (fun n => G35 n p (nI a) (nI (a + w.length)) T) (b2i (wmB f L i w), T) := by
  have hL := hH.2.1
  have h1 := h.1
  have h2 := h.2.1
  have hlen := sTx_30 p
  obtain ⟨w1, w2, w3⟩ := Wc_is hw
  have e2 : i + (a + w.length) - a = i + w.length := by omega
  refine ev_succ (fun n => G35e0 n ..) ?_
  unfold wmB
  by_cases hgt : L < i + w.length
  · rw [decide_eq_false (show ¬ i + w.length ≤ L by omega)]
    simp (disch := omega) only [G35b0, L0, L1, L2, L3, L4, L5, L6, L7, L8, L9, L10, L11, L12, L13, L16, L20, L31, L32, L40, L48, L57, L59, L60, L61, L91, L93, L97, L99, L100, L102, L103, L114, L122, L255, L300, L400, L402, L999, L2280, L2500, L99999, L63, L1431655765, L858993459, L252645135, ic_ge, ic_gt, ic_le, ic_lt, ic_eq, ic_ne, if_lt, if_ge, if_gt, if_le, if_eq, if_ne, if_lt_zI, if_ge_zI, ic_ne_m1, ic_eq_m1, ic_nn_m1, ic_ee_m1, if_ne_b2i, if_eq_b2i, b2i_z, decide_eq_true_eq, decide_true, decide_false, Bool.not_eq_true, Bool.not_eq_true', Bool.not_true, Bool.not_false, decide_eq_false_iff_not, Bool.false_eq_true, not_false_eq_true, not_true_eq_false, if_true, if_false, ↓reduceIte, eq_self, Option.bind_some, Bool.true_and, Bool.false_and, Bool.and_true, Bool.and_false, nI_add, nI_subN, nI_clamp, gdF, gdF2, gdP, gdP2, zI_cl, zI_s, Lm1, nI_n0, zI_n0, leF, or_false, false_or, or_self, h1, h2, e2, hgt]
    exact ev_ret
  · rw [decide_eq_true (show i + w.length ≤ L by omega), Bool.true_and]
    have go := g35l hH hw (by omega) h w.length 0 (Nat.zero_add _)
    rw [Nat.add_zero] at go
    by_cases hs : smB f L (i + w.length) = true
    · have hs' := hs
      unfold smB at hs'
      simp only [Bool.and_eq_true, decide_eq_true_eq] at hs'
      have rr := TP_r hH h hs'.1.1
      have hge : ¬ L ≤ i + w.length := by omega
      have n97 : ¬ f (i + w.length) < 97 := by omega
      have n122 : ¬ 122 < f (i + w.length) := by omega
      rw [hs, Bool.not_true, Bool.false_and]
      simp (disch := omega) only [G35b0, L0, L1, L2, L3, L4, L5, L6, L7, L8, L9, L10, L11, L12, L13, L16, L20, L31, L32, L40, L48, L57, L59, L60, L61, L91, L93, L97, L99, L100, L102, L103, L114, L122, L255, L300, L400, L402, L999, L2280, L2500, L99999, L63, L1431655765, L858993459, L252645135, ic_ge, ic_gt, ic_le, ic_lt, ic_eq, ic_ne, if_lt, if_ge, if_gt, if_le, if_eq, if_ne, if_lt_zI, if_ge_zI, ic_ne_m1, ic_eq_m1, ic_nn_m1, ic_ee_m1, if_ne_b2i, if_eq_b2i, b2i_z, decide_eq_true_eq, decide_true, decide_false, Bool.not_eq_true, Bool.not_eq_true', Bool.not_true, Bool.not_false, decide_eq_false_iff_not, Bool.false_eq_true, not_false_eq_true, not_true_eq_false, if_true, if_false, ↓reduceIte, eq_self, Option.bind_some, Bool.true_and, Bool.false_and, Bool.and_true, Bool.and_false, nI_add, nI_subN, nI_clamp, gdF, gdF2, gdP, gdP2, zI_cl, zI_s, Lm1, nI_n0, zI_n0, leF, or_false, false_or, or_self, h1, h2, e2, hgt, hge, rr, n97, n122]
      exact ev_ret
    · rw [Bool.eq_false_iff.mpr hs, Bool.not_false, Bool.true_and]
      by_cases hge : L ≤ i + w.length
      · simp (disch := omega) only [G35b0, L0, L1, L2, L3, L4, L5, L6, L7, L8, L9, L10, L11, L12, L13, L16, L20, L31, L32, L40, L48, L57, L59, L60, L61, L91, L93, L97, L99, L100, L102, L103, L114, L122, L255, L300, L400, L402, L999, L2280, L2500, L99999, L63, L1431655765, L858993459, L252645135, ic_ge, ic_gt, ic_le, ic_lt, ic_eq, ic_ne, if_lt, if_ge, if_gt, if_le, if_eq, if_ne, if_lt_zI, if_ge_zI, ic_ne_m1, ic_eq_m1, ic_nn_m1, ic_ee_m1, if_ne_b2i, if_eq_b2i, b2i_z, decide_eq_true_eq, decide_true, decide_false, Bool.not_eq_true, Bool.not_eq_true', Bool.not_true, Bool.not_false, decide_eq_false_iff_not, Bool.false_eq_true, not_false_eq_true, not_true_eq_false, if_true, if_false, ↓reduceIte, eq_self, Option.bind_some, Bool.true_and, Bool.false_and, Bool.and_true, Bool.and_false, nI_add, nI_subN, nI_clamp, gdF, gdF2, gdP, gdP2, zI_cl, zI_s, Lm1, nI_n0, zI_n0, leF, or_false, false_or, or_self, h1, h2, e2, hgt, hge]
        exact go
      · have rr := TP_r hH h (show i + w.length < L by omega)
        have hb := hH.2.2 (i + w.length) (by omega)
        by_cases n97 : f (i + w.length) < 97
        · simp (disch := omega) only [G35b0, L0, L1, L2, L3, L4, L5, L6, L7, L8, L9, L10, L11, L12, L13, L16, L20, L31, L32, L40, L48, L57, L59, L60, L61, L91, L93, L97, L99, L100, L102, L103, L114, L122, L255, L300, L400, L402, L999, L2280, L2500, L99999, L63, L1431655765, L858993459, L252645135, ic_ge, ic_gt, ic_le, ic_lt, ic_eq, ic_ne, if_lt, if_ge, if_gt, if_le, if_eq, if_ne, if_lt_zI, if_ge_zI, ic_ne_m1, ic_eq_m1, ic_nn_m1, ic_ee_m1, if_ne_b2i, if_eq_b2i, b2i_z, decide_eq_true_eq, decide_true, decide_false, Bool.not_eq_true, Bool.not_eq_true', Bool.not_true, Bool.not_false, decide_eq_false_iff_not, Bool.false_eq_true, not_false_eq_true, not_true_eq_false, if_true, if_false, ↓reduceIte, eq_self, Option.bind_some, Bool.true_and, Bool.false_and, Bool.and_true, Bool.and_false, nI_add, nI_subN, nI_clamp, gdF, gdF2, gdP, gdP2, zI_cl, zI_s, Lm1, nI_n0, zI_n0, leF, or_false, false_or, or_self, h1, h2, e2, hgt, hge, rr, n97]
          exact go
        · have n122 : 122 < f (i + w.length) := by
            refine Nat.lt_of_not_le (fun z => hs ?_)
            unfold smB
            rw [decide_eq_true (show i + w.length < L by omega), decide_eq_true (show 97 ≤ f (i + w.length) by omega), decide_eq_true z]
            rfl
          simp (disch := omega) only [G35b0, L0, L1, L2, L3, L4, L5, L6, L7, L8, L9, L10, L11, L12, L13, L16, L20, L31, L32, L40, L48, L57, L59, L60, L61, L91, L93, L97, L99, L100, L102, L103, L114, L122, L255, L300, L400, L402, L999, L2280, L2500, L99999, L63, L1431655765, L858993459, L252645135, ic_ge, ic_gt, ic_le, ic_lt, ic_eq, ic_ne, if_lt, if_ge, if_gt, if_le, if_eq, if_ne, if_lt_zI, if_ge_zI, ic_ne_m1, ic_eq_m1, ic_nn_m1, ic_ee_m1, if_ne_b2i, if_eq_b2i, b2i_z, decide_eq_true_eq, decide_true, decide_false, Bool.not_eq_true, Bool.not_eq_true', Bool.not_true, Bool.not_false, decide_eq_false_iff_not, Bool.false_eq_true, not_false_eq_true, not_true_eq_false, if_true, if_false, ↓reduceIte, eq_self, Option.bind_some, Bool.true_and, Bool.false_and, Bool.and_true, Bool.and_false, nI_add, nI_subN, nI_clamp, gdF, gdF2, gdP, gdP2, zI_cl, zI_s, Lm1, nI_n0, zI_n0, leF, or_false, false_or, or_self, h1, h2, e2, hgt, hge, rr, n97, n122]
          exact go
/-- the text at p from a on is a list of words -/
def WdB (p : Nat) : Nat → List (List Nat) → Bool
  | a, [] => decide (a = (sTx p).length + 1)
  | a, w :: r => WcB p a w && (decide (a + w.length = (sTx p).length) || decide (sCh p (a + w.length) = 32)) && WdB p (a + w.length + 1) r
theorem g22l (hH : TH T0 f L) {p : Nat} (hp : sB p = true) (hi : i ≤ L) (h : TP T T0 L i m 0) : ∀ (ws : List (List Nat)) (a k : Nat), WdB p a ws = true → a ≤ (sTx p).length + 1 → k + ws.length ≤ 100 → Ep (fun n => G22f n 20 p (nI k) (nI a) (nI a) T) (fun z => match wiF f L i ws k with
  | none => z.1 = zI 0 ∧ TP z.2 T0 L i m (1 + 8 * m)
  | some r => z.1 = nI r.1 ∧ TP z.2 T0 L (i + r.2) m 0) := by
  have hL := hH.2.1
  have h2 := h.2.1
  have h3 := h.2.2.1
  have hlen := sTx_30 p
  intro ws
  induction ws with
  | nil =>
    intro a k hd ha hk
    have ea : a = (sTx p).length + 1 := of_decide_eq_true hd
    have e1 : (sTx p).length < a := by omega
    refine ep_succ (fun n => G22e20 n ..) ?_
    simp (disch := omega) only [G22b20, L0, L1, L2, L3, L4, L5, L6, L7, L8, L9, L10, L11, L12, L13, L16, L20, L31, L32, L40, L48, L57, L59, L60, L61, L91, L93, L97, L99, L100, L102, L103, L114, L122, L255, L300, L400, L402, L999, L2280, L2500, L99999, L63, L1431655765, L858993459, L252645135, ic_ge, ic_gt, ic_le, ic_lt, ic_eq, ic_ne, if_lt, if_ge, if_gt, if_le, if_eq, if_ne, if_lt_zI, if_ge_zI, ic_ne_m1, ic_eq_m1, ic_nn_m1, ic_ee_m1, if_ne_b2i, if_eq_b2i, b2i_z, decide_eq_true_eq, decide_true, decide_false, Bool.not_eq_true, Bool.not_eq_true', Bool.not_true, Bool.not_false, decide_eq_false_iff_not, Bool.false_eq_true, not_false_eq_true, not_true_eq_false, if_true, if_false, ↓reduceIte, eq_self, Option.bind_some, Bool.true_and, Bool.false_and, Bool.and_true, Bool.and_false, nI_add, nI_subN, nI_clamp, gdF, gdF2, gdP, gdP2, zI_cl, zI_s, Lm1, nI_n0, zI_n0, leF, or_false, false_or, or_self, hp, e1, h3]
    refine ep_bind (g36 h) ?_
    rintro ⟨z, T1⟩ ⟨_, b⟩
    exact ep_ret ⟨rfl, b⟩
  | cons w r ih =>
    intro a k hd ha hk
    unfold WdB at hd
    rw [Bool.and_eq_true, Bool.and_eq_true, Bool.or_eq_true] at hd
    obtain ⟨⟨hw, hend⟩, hr⟩ := hd
    obtain ⟨w1, w2, w3⟩ := Wc_is hw
    have hk' : k + (r.length + 1) ≤ 100 := hk
    have gs := g35 hH hw hi h
    have fin : Ep (fun n => (G35 n p (nI a) (nI (a + w.length)) T).bind (fun z9 => if am_if .eq z9.1 = true then G22f n 20 p (nI (k + 1)) (nI (a + w.length + 1)) (nI (a + w.length + 1)) z9.2 else some (nI k, x_sI z9.2 65 2 (z9.2.1 65 2 + nI (a + w.length - a))))) (fun z => match wiF f L i (w :: r) k with
      | none => z.1 = zI 0 ∧ TP z.2 T0 L i m (1 + 8 * m)
      | some r => z.1 = nI r.1 ∧ TP z.2 T0 L (i + r.2) m 0) := by
      refine ep_bv gs ?_
      unfold wiF
      by_cases hm : wmB f L i w = true
      · rw [if_pos hm]
        simp (disch := omega) only [L0, L1, L2, L3, L4, L5, L6, L7, L8, L9, L10, L11, L12, L13, L16, L20, L31, L32, L40, L48, L57, L59, L60, L61, L91, L93, L97, L99, L100, L102, L103, L114, L122, L255, L300, L400, L402, L999, L2280, L2500, L99999, L63, L1431655765, L858993459, L252645135, ic_ge, ic_gt, ic_le, ic_lt, ic_eq, ic_ne, if_lt, if_ge, if_gt, if_le, if_eq, if_ne, if_lt_zI, if_ge_zI, ic_ne_m1, ic_eq_m1, ic_nn_m1, ic_ee_m1, if_ne_b2i, if_eq_b2i, b2i_z, decide_eq_true_eq, decide_true, decide_false, Bool.not_eq_true, Bool.not_eq_true', Bool.not_true, Bool.not_false, decide_eq_false_iff_not, Bool.false_eq_true, not_false_eq_true, not_true_eq_false, if_true, if_false, ↓reduceIte, eq_self, Option.bind_some, Bool.true_and, Bool.false_and, Bool.and_true, Bool.and_false, nI_add, nI_subN, nI_clamp, gdF, gdF2, gdP, gdP2, zI_cl, zI_s, Lm1, nI_n0, zI_n0, leF, or_false, false_or, or_self, hm, h2]
        refine ep_ret ⟨rfl, ?_⟩
        rw [show a + w.length - a = w.length by omega]
        exact TP_2 h
      · rw [if_neg hm]
        have hm' := Bool.eq_false_iff.mpr hm
        simp (disch := omega) only [L0, L1, L2, L3, L4, L5, L6, L7, L8, L9, L10, L11, L12, L13, L16, L20, L31, L32, L40, L48, L57, L59, L60, L61, L91, L93, L97, L99, L100, L102, L103, L114, L122, L255, L300, L400, L402, L999, L2280, L2500, L99999, L63, L1431655765, L858993459, L252645135, ic_ge, ic_gt, ic_le, ic_lt, ic_eq, ic_ne, if_lt, if_ge, if_gt, if_le, if_eq, if_ne, if_lt_zI, if_ge_zI, ic_ne_m1, ic_eq_m1, ic_nn_m1, ic_ee_m1, if_ne_b2i, if_eq_b2i, b2i_z, decide_eq_true_eq, decide_true, decide_false, Bool.not_eq_true, Bool.not_eq_true', Bool.not_true, Bool.not_false, decide_eq_false_iff_not, Bool.false_eq_true, not_false_eq_true, not_true_eq_false, if_true, if_false, ↓reduceIte, eq_self, Option.bind_some, Bool.true_and, Bool.false_and, Bool.and_true, Bool.and_false, nI_add, nI_subN, nI_clamp, gdF, gdF2, gdP, gdP2, zI_cl, zI_s, Lm1, nI_n0, zI_n0, leF, or_false, false_or, or_self, hm']
        exact ih (a + w.length + 1) (k + 1) hr (by omega) (by omega)
    have walk : ∀ (d c : Nat), c + d = w.length → Ep (fun n => G22f n 20 p (nI k) (nI a) (nI (a + c)) T) (fun z => match wiF f L i (w :: r) k with
      | none => z.1 = zI 0 ∧ TP z.2 T0 L i m (1 + 8 * m)
      | some r => z.1 = nI r.1 ∧ TP z.2 T0 L (i + r.2) m 0) := by
      intro d
      induction d with
      | zero =>
        intro c hc
        have ec : c = w.length := by omega
        subst ec
        have e1 : ¬ (sTx p).length < a + w.length := by omega
        refine ep_succ (fun n => G22e20 n ..) ?_
        by_cases he : a + w.length = (sTx p).length
        · simp (disch := omega) only [G22b20, L0, L1, L2, L3, L4, L5, L6, L7, L8, L9, L10, L11, L12, L13, L16, L20, L31, L32, L40, L48, L57, L59, L60, L61, L91, L93, L97, L99, L100, L102, L103, L114, L122, L255, L300, L400, L402, L999, L2280, L2500, L99999, L63, L1431655765, L858993459, L252645135, ic_ge, ic_gt, ic_le, ic_lt, ic_eq, ic_ne, if_lt, if_ge, if_gt, if_le, if_eq, if_ne, if_lt_zI, if_ge_zI, ic_ne_m1, ic_eq_m1, ic_nn_m1, ic_ee_m1, if_ne_b2i, if_eq_b2i, b2i_z, decide_eq_true_eq, decide_true, decide_false, Bool.not_eq_true, Bool.not_eq_true', Bool.not_true, Bool.not_false, decide_eq_false_iff_not, Bool.false_eq_true, not_false_eq_true, not_true_eq_false, if_true, if_false, ↓reduceIte, eq_self, Option.bind_some, Bool.true_and, Bool.false_and, Bool.and_true, Bool.and_false, nI_add, nI_subN, nI_clamp, gdF, gdF2, gdP, gdP2, zI_cl, zI_s, Lm1, nI_n0, zI_n0, leF, or_false, false_or, or_self, hp, e1, he, Nat.lt_irrefl] at fin ⊢
          exact fin
        · have hc32 : sCh p (a + w.length) = nI 32 := by
            rcases hend with h' | h'
            · exact absurd (of_decide_eq_true h') he
            · exact of_decide_eq_true h'
          simp (disch := omega) only [G22b20, L0, L1, L2, L3, L4, L5, L6, L7, L8, L9, L10, L11, L12, L13, L16, L20, L31, L32, L40, L48, L57, L59, L60, L61, L91, L93, L97, L99, L100, L102, L103, L114, L122, L255, L300, L400, L402, L999, L2280, L2500, L99999, L63, L1431655765, L858993459, L252645135, ic_ge, ic_gt, ic_le, ic_lt, ic_eq, ic_ne, if_lt, if_ge, if_gt, if_le, if_eq, if_ne, if_lt_zI, if_ge_zI, ic_ne_m1, ic_eq_m1, ic_nn_m1, ic_ee_m1, if_ne_b2i, if_eq_b2i, b2i_z, decide_eq_true_eq, decide_true, decide_false, Bool.not_eq_true, Bool.not_eq_true', Bool.not_true, Bool.not_false, decide_eq_false_iff_not, Bool.false_eq_true, not_false_eq_true, not_true_eq_false, if_true, if_false, ↓reduceIte, eq_self, Option.bind_some, Bool.true_and, Bool.false_and, Bool.and_true, Bool.and_false, nI_add, nI_subN, nI_clamp, gdF, gdF2, gdP, gdP2, zI_cl, zI_s, Lm1, nI_n0, zI_n0, leF, or_false, false_or, or_self, hp, e1, he, hc32] at fin ⊢
          exact fin
      | succ d ihd =>
        intro c hc
        obtain ⟨c1, c2, c3⟩ := w3 c (by omega)
        have e1 : ¬ (sTx p).length < a + c := by omega
        have e2 : ¬ a + c = (sTx p).length := by omega
        refine ep_succ (fun n => G22e20 n ..) ?_
        simp (disch := omega) only [G22b20, L0, L1, L2, L3, L4, L5, L6, L7, L8, L9, L10, L11, L12, L13, L16, L20, L31, L32, L40, L48, L57, L59, L60, L61, L91, L93, L97, L99, L100, L102, L103, L114, L122, L255, L300, L400, L402, L999, L2280, L2500, L99999, L63, L1431655765, L858993459, L252645135, ic_ge, ic_gt, ic_le, ic_lt, ic_eq, ic_ne, if_lt, if_ge, if_gt, if_le, if_eq, if_ne, if_lt_zI, if_ge_zI, ic_ne_m1, ic_eq_m1, ic_nn_m1, ic_ee_m1, if_ne_b2i, if_eq_b2i, b2i_z, decide_eq_true_eq, decide_true, decide_false, Bool.not_eq_true, Bool.not_eq_true', Bool.not_true, Bool.not_false, decide_eq_false_iff_not, Bool.false_eq_true, not_false_eq_true, not_true_eq_false, if_true, if_false, ↓reduceIte, eq_self, Option.bind_some, Bool.true_and, Bool.false_and, Bool.and_true, Bool.and_false, nI_add, nI_subN, nI_clamp, gdF, gdF2, gdP, gdP2, zI_cl, zI_s, Lm1, nI_n0, zI_n0, leF, or_false, false_or, or_self, hp, e1, e2, c1, c3]
        exact ihd (c + 1) (by omega)
    have := walk w.length 0 (Nat.zero_add _)
    rw [Nat.add_zero] at this
    exact this
theorem g22 (hH : TH T0 f L) {p : Nat} {ws : List (List Nat)} (hd : WdB p 0 ws = true) (hp : sB p = true) (hn : ws.length ≤ 100) (hi : i ≤ L) (h : TP T T0 L i m 0) : Ep (fun n => G22 n p T) (fun z => match wiF f L (bk f L i) ws 0 with
  | none => z.1 = zI 0 ∧ TP z.2 T0 L (bk f L i) (bk f L i) (1 + 8 * bk f L i)
  | some r => z.1 = nI r.1 ∧ TP z.2 T0 L (bk f L i + r.2) (bk f L i) 0) := by
  have hb := bk_b (f := f) hi
  refine ep_succ (fun n => G22e0 n ..) ?_
  simp only [G22b0]
  refine ep_bind (g23 hH hi h) ?_
  rintro ⟨z1, T1⟩ ⟨_, a⟩
  have a : TP T1 T0 L (bk f L i) m 0 := a
  have a2 := a.2.1
  simp only [a2, L0]
  exact g22l hH hp hb.2.1 (TP_3 a) ws 0 0 hd (by omega) (by omega)
/-- behind a clause: on, the end, or a fault -/
def goF (f : Nat → Nat) (L i : Nat) : Nat := if bk f L i < L then (if f (bk f L i) = 59 then 1 else 2) else 0
theorem g52 (hH : TH T0 f L) (hi : i ≤ L) (h : TP T T0 L i m 0) : Ep (fun n => G52 n T) (fun z => (goF f L i = 1 → z.1 = nI 1 ∧ TP z.2 T0 L (bk f L i + 1) m 0) ∧ (goF f L i = 0 → z.1 = nI 0 ∧ TP z.2 T0 L (bk f L i) m 0) ∧ (goF f L i = 2 → z.1 = nI 0 ∧ TP z.2 T0 L (bk f L i) m (1 + 8 * bk f L i))) := by
  have hL := hH.2.1
  have hb := bk_b (f := f) hi
  refine ep_succ (fun n => G52e0 n ..) ?_
  simp only [G52b0]
  refine ep_bind (g23 hH hi h) ?_
  rintro ⟨z1, T1⟩ ⟨a1, a⟩
  have a1 : z1 = zI (sg f L (bk f L i)) := a1
  have a : TP T1 T0 L (bk f L i) m 0 := a
  have a2 := a.2.1
  subst a1
  unfold goF sg
  by_cases hl : bk f L i < L
  · have h256 := hH.2.2 _ hl
    rw [if_pos hl, if_pos hl, zI_s]
    by_cases h59 : f (bk f L i) = 59
    · rw [if_pos h59]
      simp (disch := omega) only [L0, L1, L2, L3, L4, L5, L6, L7, L8, L9, L10, L11, L12, L13, L16, L20, L31, L32, L40, L48, L57, L59, L60, L61, L91, L93, L97, L99, L100, L102, L103, L114, L122, L255, L300, L400, L402, L999, L2280, L2500, L99999, L63, L1431655765, L858993459, L252645135, ic_ge, ic_gt, ic_le, ic_lt, ic_eq, ic_ne, if_lt, if_ge, if_gt, if_le, if_eq, if_ne, if_lt_zI, if_ge_zI, ic_ne_m1, ic_eq_m1, ic_nn_m1, ic_ee_m1, if_ne_b2i, if_eq_b2i, b2i_z, decide_eq_true_eq, decide_true, decide_false, Bool.not_eq_true, Bool.not_eq_true', Bool.not_true, Bool.not_false, decide_eq_false_iff_not, Bool.false_eq_true, not_false_eq_true, not_true_eq_false, if_true, if_false, ↓reduceIte, eq_self, Option.bind_some, Bool.true_and, Bool.false_and, Bool.and_true, Bool.and_false, nI_add, nI_subN, nI_clamp, gdF, gdF2, gdP, gdP2, zI_cl, zI_s, Lm1, nI_n0, zI_n0, leF, or_false, false_or, or_self, h59, a2]
      exact ep_ret ⟨fun _ => ⟨rfl, TP_2 a⟩, fun z => absurd z (by decide), fun z => absurd z (by decide)⟩
    · rw [if_neg h59]
      simp (disch := omega) only [L0, L1, L2, L3, L4, L5, L6, L7, L8, L9, L10, L11, L12, L13, L16, L20, L31, L32, L40, L48, L57, L59, L60, L61, L91, L93, L97, L99, L100, L102, L103, L114, L122, L255, L300, L400, L402, L999, L2280, L2500, L99999, L63, L1431655765, L858993459, L252645135, ic_ge, ic_gt, ic_le, ic_lt, ic_eq, ic_ne, if_lt, if_ge, if_gt, if_le, if_eq, if_ne, if_lt_zI, if_ge_zI, ic_ne_m1, ic_eq_m1, ic_nn_m1, ic_ee_m1, if_ne_b2i, if_eq_b2i, b2i_z, decide_eq_true_eq, decide_true, decide_false, Bool.not_eq_true, Bool.not_eq_true', Bool.not_true, Bool.not_false, decide_eq_false_iff_not, Bool.false_eq_true, not_false_eq_true, not_true_eq_false, if_true, if_false, ↓reduceIte, eq_self, Option.bind_some, Bool.true_and, Bool.false_and, Bool.and_true, Bool.and_false, nI_add, nI_subN, nI_clamp, gdF, gdF2, gdP, gdP2, zI_cl, zI_s, Lm1, nI_n0, zI_n0, leF, or_false, false_or, or_self, h59, a2]
      refine ep_bind (g36 a) ?_
      rintro ⟨z, T2⟩ ⟨b1, b2⟩
      have b1 : z = nI 0 := b1
      subst b1
      simp (disch := omega) only [L0, L1, L2, L3, L4, L5, L6, L7, L8, L9, L10, L11, L12, L13, L16, L20, L31, L32, L40, L48, L57, L59, L60, L61, L91, L93, L97, L99, L100, L102, L103, L114, L122, L255, L300, L400, L402, L999, L2280, L2500, L99999, L63, L1431655765, L858993459, L252645135, ic_ge, ic_gt, ic_le, ic_lt, ic_eq, ic_ne, if_lt, if_ge, if_gt, if_le, if_eq, if_ne, if_lt_zI, if_ge_zI, ic_ne_m1, ic_eq_m1, ic_nn_m1, ic_ee_m1, if_ne_b2i, if_eq_b2i, b2i_z, decide_eq_true_eq, decide_true, decide_false, Bool.not_eq_true, Bool.not_eq_true', Bool.not_true, Bool.not_false, decide_eq_false_iff_not, Bool.false_eq_true, not_false_eq_true, not_true_eq_false, if_true, if_false, ↓reduceIte, eq_self, Option.bind_some, Bool.true_and, Bool.false_and, Bool.and_true, Bool.and_false, nI_add, nI_subN, nI_clamp, gdF, gdF2, gdP, gdP2, zI_cl, zI_s, Lm1, nI_n0, zI_n0, leF, or_false, false_or, or_self]
      exact ep_ret ⟨fun z => absurd z (by decide), fun z => absurd z (by decide), fun _ => ⟨rfl, b2⟩⟩
  · rw [if_neg hl, if_neg hl]
    have e1 : am_ic .ne (zI 0) 59 = true := by decide
    have e2 : am_ic .eq (zI 0) (-1) = true := by decide
    simp only [e1, e2, decide_eq_true_eq, decide_true, decide_false, Bool.not_eq_true, Bool.not_eq_true', Bool.not_true, Bool.not_false, decide_eq_false_iff_not, Bool.false_eq_true, not_false_eq_true, not_true_eq_false, if_true, if_false, ↓reduceIte, eq_self, Option.bind_some, Bool.true_and, Bool.false_and, Bool.and_true, Bool.and_false]
    exact ep_ret ⟨fun z => absurd z (by decide), fun _ => ⟨rfl, a⟩, fun z => absurd z (by decide)⟩
end Tq
