/-! rivers told: the reference -/
theorem rv_Wr : ∀ k, k < 8 → WrB (14 + 2 * k) (rvW.getD k []) = true := by decide +kernel
theorem wi_d {f : Nat → Nat} {L i k : Nat} (hk : k < 8) : wiF f L i (rvW.drop k) k = if wmB f L i (rvW.getD k []) = true then some (k, (rvW.getD k []).length) else wiF f L i (rvW.drop (k + 1)) (k + 1) := by
  rcases k8 (show k ≤ 7 by omega) with rfl | rfl | rfl | rfl | rfl | rfl | rfl | rfl <;> rfl
section Mf
variable {S00 S : mS} {f : Nat → Nat} {L i e n : Nat} {b : AB} {w : AW}
theorem f163 {k : Nat} (hk : k ≤ 7) : Ev (fun n => F163 n (nI k) S) (14 + 2 * k, S) := by
  refine ev_succ (fun n => F163e0 n ..) ?_
  rcases k8 hk with rfl | rfl | rfl | rfl | rfl | rfl | rfl | rfl
  · have s : ¬ ((nI 0).toInt < 0 ∨ 6 < (nI 0).toInt) := by decide
    simp only [F163b0, L0, L1, L2, L3, L4, L5, L6, L7, L8, L9, L10, L11, L12, L13, L16, L20, L31, L32, L40, L48, L57, L59, L60, L61, L91, L93, L97, L99, L100, L102, L103, L114, L122, L255, L300, L400, L402, L999, L2280, L2500, L99999, L63, L1431655765, L858993459, L252645135, s, if_false, if_true]
    exact ev_ret
  · have s : ¬ ((nI 1).toInt < 0 ∨ 6 < (nI 1).toInt) := by decide
    have s0 : ¬ nI 1 = nI 0 := by decide
    simp only [F163b0, L0, L1, L2, L3, L4, L5, L6, L7, L8, L9, L10, L11, L12, L13, L16, L20, L31, L32, L40, L48, L57, L59, L60, L61, L91, L93, L97, L99, L100, L102, L103, L114, L122, L255, L300, L400, L402, L999, L2280, L2500, L99999, L63, L1431655765, L858993459, L252645135, s, s0, if_false, if_true]
    exact ev_ret
  · have s : ¬ ((nI 2).toInt < 0 ∨ 6 < (nI 2).toInt) := by decide
    have s0 : ¬ nI 2 = nI 0 := by decide
    have s1 : ¬ nI 2 = nI 1 := by decide
    simp only [F163b0, L0, L1, L2, L3, L4, L5, L6, L7, L8, L9, L10, L11, L12, L13, L16, L20, L31, L32, L40, L48, L57, L59, L60, L61, L91, L93, L97, L99, L100, L102, L103, L114, L122, L255, L300, L400, L402, L999, L2280, L2500, L99999, L63, L1431655765, L858993459, L252645135, s, s0, s1, if_false, if_true]
    exact ev_ret
  · have s : ¬ ((nI 3).toInt < 0 ∨ 6 < (nI 3).toInt) := by decide
    have s0 : ¬ nI 3 = nI 0 := by decide
    have s1 : ¬ nI 3 = nI 1 := by decide
    have s2 : ¬ nI 3 = nI 2 := by decide
    simp only [F163b0, L0, L1, L2, L3, L4, L5, L6, L7, L8, L9, L10, L11, L12, L13, L16, L20, L31, L32, L40, L48, L57, L59, L60, L61, L91, L93, L97, L99, L100, L102, L103, L114, L122, L255, L300, L400, L402, L999, L2280, L2500, L99999, L63, L1431655765, L858993459, L252645135, s, s0, s1, s2, if_false, if_true]
    exact ev_ret
  · have s : ¬ ((nI 4).toInt < 0 ∨ 6 < (nI 4).toInt) := by decide
    have s0 : ¬ nI 4 = nI 0 := by decide
    have s1 : ¬ nI 4 = nI 1 := by decide
    have s2 : ¬ nI 4 = nI 2 := by decide
    have s3 : ¬ nI 4 = nI 3 := by decide
    simp only [F163b0, L0, L1, L2, L3, L4, L5, L6, L7, L8, L9, L10, L11, L12, L13, L16, L20, L31, L32, L40, L48, L57, L59, L60, L61, L91, L93, L97, L99, L100, L102, L103, L114, L122, L255, L300, L400, L402, L999, L2280, L2500, L99999, L63, L1431655765, L858993459, L252645135, s, s0, s1, s2, s3, if_false, if_true]
    exact ev_ret
  · have s : ¬ ((nI 5).toInt < 0 ∨ 6 < (nI 5).toInt) := by decide
    have s0 : ¬ nI 5 = nI 0 := by decide
    have s1 : ¬ nI 5 = nI 1 := by decide
    have s2 : ¬ nI 5 = nI 2 := by decide
    have s3 : ¬ nI 5 = nI 3 := by decide
    have s4 : ¬ nI 5 = nI 4 := by decide
    simp only [F163b0, L0, L1, L2, L3, L4, L5, L6, L7, L8, L9, L10, L11, L12, L13, L16, L20, L31, L32, L40, L48, L57, L59, L60, L61, L91, L93, L97, L99, L100, L102, L103, L114, L122, L255, L300, L400, L402, L999, L2280, L2500, L99999, L63, L1431655765, L858993459, L252645135, s, s0, s1, s2, s3, s4, if_false, if_true]
    exact ev_ret
  · have s : ¬ ((nI 6).toInt < 0 ∨ 6 < (nI 6).toInt) := by decide
    have s0 : ¬ nI 6 = nI 0 := by decide
    have s1 : ¬ nI 6 = nI 1 := by decide
    have s2 : ¬ nI 6 = nI 2 := by decide
    have s3 : ¬ nI 6 = nI 3 := by decide
    have s4 : ¬ nI 6 = nI 4 := by decide
    have s5 : ¬ nI 6 = nI 5 := by decide
    simp only [F163b0, L0, L1, L2, L3, L4, L5, L6, L7, L8, L9, L10, L11, L12, L13, L16, L20, L31, L32, L40, L48, L57, L59, L60, L61, L91, L93, L97, L99, L100, L102, L103, L114, L122, L255, L300, L400, L402, L999, L2280, L2500, L99999, L63, L1431655765, L858993459, L252645135, s, s0, s1, s2, s3, s4, s5, if_false, if_true]
    exact ev_ret
  · have s : (nI 7).toInt < 0 ∨ 6 < (nI 7).toInt := by decide
    simp only [F163b0, L0, L1, L2, L3, L4, L5, L6, L7, L8, L9, L10, L11, L12, L13, L16, L20, L31, L32, L40, L48, L57, L59, L60, L61, L91, L93, L97, L99, L100, L102, L103, L114, L122, L255, L300, L400, L402, L999, L2280, L2500, L99999, L63, L1431655765, L858993459, L252645135, s, if_false, if_true]
    exact ev_ret
theorem f166 {k nn : Nat} (hk : k ≤ 7) (hnn : nn ≤ 40) (hv : MV S.2.1 b w) (ok : OkR n b w) : Ev (fun n => F166 n (nI k) (nI nn) S) (b2i (decide (40 ≤ nn ∨ ¬ (nn = 0 ↔ k = 0) ∨ fulB b w k = true)), S) := by
  have b1 := ok.1.2.1
  have b2 := ok.1.2.2.1
  have n10 := ok.2.2.2.1
  have n5 := ok.2.2.2.2.2.1
  have m1 : S.2.1 16 1 = nI (b 0 1) := hv.1.2.1
  have m2 : S.2.1 16 2 = nI (b 0 2) := hv.1.2.2.1
  have m4 : S.2.1 16 4 = nI (w.1 0 1) := hv.2.1
  have m3 : S.2.1 16 3 = nI (netsN w) := by
    obtain ⟨q, a, h1, h2, h3, _⟩ := hv.2.2.2
    have h2 : S.2.1 16 3 = nI q := h2
    rw [h2, h3]
    rfl
  refine ev_succ (fun n => F166e0 n ..) ?_
  by_cases h40 : nn = 40
  · rw [decide_eq_true (Or.inl (by omega))]
    simp (disch := omega) only [F166b0, L0, L1, L2, L3, L4, L5, L6, L7, L8, L9, L10, L11, L12, L13, L16, L20, L31, L32, L40, L48, L57, L59, L60, L61, L91, L93, L97, L99, L100, L102, L103, L114, L122, L255, L300, L400, L402, L999, L2280, L2500, L99999, L63, L1431655765, L858993459, L252645135, ic_ge, ic_gt, ic_le, ic_lt, ic_eq, ic_ne, if_lt, if_ge, if_gt, if_le, if_eq, if_ne, if_lt_zI, if_ge_zI, ic_ne_m1, ic_eq_m1, ic_nn_m1, ic_ee_m1, if_ne_b2i, if_eq_b2i, b2i_z, decide_eq_true_eq, decide_true, decide_false, Bool.not_eq_true, Bool.not_eq_true', Bool.not_true, Bool.not_false, decide_eq_false_iff_not, Bool.false_eq_true, not_false_eq_true, not_true_eq_false, if_true, if_false, ↓reduceIte, eq_self, Option.bind_some, Bool.true_and, Bool.false_and, Bool.and_true, Bool.and_false, nI_add, nI_subN, nI_clamp, gdF, gdF2, gdP, gdP2, zI_cl, zI_s, Lm1, nI_n0, zI_n0, leF, or_false, false_or, or_self, h40]
    exact ev_ret
  · have h40' : ¬ 40 ≤ nn := by omega
    by_cases hk0 : k = 0
    · by_cases hn0 : nn = 0
      · rw [decide_eq_false (show ¬ (40 ≤ nn ∨ ¬ (nn = 0 ↔ k = 0) ∨ fulB b w k = true) from fun z => by
          rcases z with z | z | z
          · exact h40' z
          · exact z ⟨fun _ => hk0, fun _ => hn0⟩
          · rw [hk0] at z
            exact absurd z (show ¬ false = true by decide))]
        subst hk0
        have s : (nI 0).toInt < 4 ∨ 7 < (nI 0).toInt := by decide
        simp (disch := omega) only [F166b0, L0, L1, L2, L3, L4, L5, L6, L7, L8, L9, L10, L11, L12, L13, L16, L20, L31, L32, L40, L48, L57, L59, L60, L61, L91, L93, L97, L99, L100, L102, L103, L114, L122, L255, L300, L400, L402, L999, L2280, L2500, L99999, L63, L1431655765, L858993459, L252645135, ic_ge, ic_gt, ic_le, ic_lt, ic_eq, ic_ne, if_lt, if_ge, if_gt, if_le, if_eq, if_ne, if_lt_zI, if_ge_zI, ic_ne_m1, ic_eq_m1, ic_nn_m1, ic_ee_m1, if_ne_b2i, if_eq_b2i, b2i_z, decide_eq_true_eq, decide_true, decide_false, Bool.not_eq_true, Bool.not_eq_true', Bool.not_true, Bool.not_false, decide_eq_false_iff_not, Bool.false_eq_true, not_false_eq_true, not_true_eq_false, if_true, if_false, ↓reduceIte, eq_self, Option.bind_some, Bool.true_and, Bool.false_and, Bool.and_true, Bool.and_false, nI_add, nI_subN, nI_clamp, gdF, gdF2, gdP, gdP2, zI_cl, zI_s, Lm1, nI_n0, zI_n0, leF, or_false, false_or, or_self, h40, hn0, s]
        exact ev_ret
      · rw [decide_eq_true (show 40 ≤ nn ∨ ¬ (nn = 0 ↔ k = 0) ∨ fulB b w k = true from Or.inr (Or.inl (fun z => hn0 (z.mpr hk0))))]
        simp (disch := omega) only [F166b0, L0, L1, L2, L3, L4, L5, L6, L7, L8, L9, L10, L11, L12, L13, L16, L20, L31, L32, L40, L48, L57, L59, L60, L61, L91, L93, L97, L99, L100, L102, L103, L114, L122, L255, L300, L400, L402, L999, L2280, L2500, L99999, L63, L1431655765, L858993459, L252645135, ic_ge, ic_gt, ic_le, ic_lt, ic_eq, ic_ne, if_lt, if_ge, if_gt, if_le, if_eq, if_ne, if_lt_zI, if_ge_zI, ic_ne_m1, ic_eq_m1, ic_nn_m1, ic_ee_m1, if_ne_b2i, if_eq_b2i, b2i_z, decide_eq_true_eq, decide_true, decide_false, Bool.not_eq_true, Bool.not_eq_true', Bool.not_true, Bool.not_false, decide_eq_false_iff_not, Bool.false_eq_true, not_false_eq_true, not_true_eq_false, if_true, if_false, ↓reduceIte, eq_self, Option.bind_some, Bool.true_and, Bool.false_and, Bool.and_true, Bool.and_false, nI_add, nI_subN, nI_clamp, gdF, gdF2, gdP, gdP2, zI_cl, zI_s, Lm1, nI_n0, zI_n0, leF, or_false, false_or, or_self, h40, hn0, hk0]
        exact ev_ret
    · by_cases hn0 : nn = 0
      · rw [decide_eq_true (show 40 ≤ nn ∨ ¬ (nn = 0 ↔ k = 0) ∨ fulB b w k = true from Or.inr (Or.inl (fun z => hk0 (z.mp hn0))))]
        simp (disch := omega) only [F166b0, L0, L1, L2, L3, L4, L5, L6, L7, L8, L9, L10, L11, L12, L13, L16, L20, L31, L32, L40, L48, L57, L59, L60, L61, L91, L93, L97, L99, L100, L102, L103, L114, L122, L255, L300, L400, L402, L999, L2280, L2500, L99999, L63, L1431655765, L858993459, L252645135, ic_ge, ic_gt, ic_le, ic_lt, ic_eq, ic_ne, if_lt, if_ge, if_gt, if_le, if_eq, if_ne, if_lt_zI, if_ge_zI, ic_ne_m1, ic_eq_m1, ic_nn_m1, ic_ee_m1, if_ne_b2i, if_eq_b2i, b2i_z, decide_eq_true_eq, decide_true, decide_false, Bool.not_eq_true, Bool.not_eq_true', Bool.not_true, Bool.not_false, decide_eq_false_iff_not, Bool.false_eq_true, not_false_eq_true, not_true_eq_false, if_true, if_false, ↓reduceIte, eq_self, Option.bind_some, Bool.true_and, Bool.false_and, Bool.and_true, Bool.and_false, nI_add, nI_subN, nI_clamp, gdF, gdF2, gdP, gdP2, zI_cl, zI_s, Lm1, nI_n0, zI_n0, leF, or_false, false_or, or_self, h40, hn0, hk0]
        exact ev_ret
      · have ed : decide (40 ≤ nn ∨ ¬ (nn = 0 ↔ k = 0) ∨ fulB b w k = true) = fulB b w k := by
          cases hf : fulB b w k with
          | true => exact decide_eq_true (Or.inr (Or.inr rfl))
          | false =>
            refine decide_eq_false (fun z => ?_)
            rcases z with z | z | z
            · exact h40' z
            · exact z ⟨fun q => absurd q hn0, fun q => absurd q hk0⟩
            · exact absurd z (by decide)
        rw [ed]
        simp (disch := omega) only [F166b0, L0, L1, L2, L3, L4, L5, L6, L7, L8, L9, L10, L11, L12, L13, L16, L20, L31, L32, L40, L48, L57, L59, L60, L61, L91, L93, L97, L99, L100, L102, L103, L114, L122, L255, L300, L400, L402, L999, L2280, L2500, L99999, L63, L1431655765, L858993459, L252645135, ic_ge, ic_gt, ic_le, ic_lt, ic_eq, ic_ne, if_lt, if_ge, if_gt, if_le, if_eq, if_ne, if_lt_zI, if_ge_zI, ic_ne_m1, ic_eq_m1, ic_nn_m1, ic_ee_m1, if_ne_b2i, if_eq_b2i, b2i_z, decide_eq_true_eq, decide_true, decide_false, Bool.not_eq_true, Bool.not_eq_true', Bool.not_true, Bool.not_false, decide_eq_false_iff_not, Bool.false_eq_true, not_false_eq_true, not_true_eq_false, if_true, if_false, ↓reduceIte, eq_self, Option.bind_some, Bool.true_and, Bool.false_and, Bool.and_true, Bool.and_false, nI_add, nI_subN, nI_clamp, gdF, gdF2, gdP, gdP2, zI_cl, zI_s, Lm1, nI_n0, zI_n0, leF, or_false, false_or, or_self, h40, hn0, hk0]
        rcases k8 hk with rfl | rfl | rfl | rfl | rfl | rfl | rfl | rfl
        · exact absurd rfl hk0
        · have s : (nI 1).toInt < 4 ∨ 7 < (nI 1).toInt := by decide
          simp only [s, if_true]
          exact ev_ret
        · have s : (nI 2).toInt < 4 ∨ 7 < (nI 2).toInt := by decide
          simp only [s, if_true]
          exact ev_ret
        · have s : (nI 3).toInt < 4 ∨ 7 < (nI 3).toInt := by decide
          simp only [s, if_true]
          exact ev_ret
        · have s : ¬ ((nI 4).toInt < 4 ∨ 7 < (nI 4).toInt) := by decide
          have ef : fulB b w 4 = decide (6 ≤ b 0 1) := if_pos rfl
          rw [ef]
          by_cases hf : b 0 1 = 6
          · have hf' : 6 ≤ b 0 1 := by omega
            rw [decide_eq_true hf']
            simp (disch := omega) only [s, L0, L1, L2, L3, L4, L5, L6, L7, L8, L9, L10, L11, L12, L13, L16, L20, L31, L32, L40, L48, L57, L59, L60, L61, L91, L93, L97, L99, L100, L102, L103, L114, L122, L255, L300, L400, L402, L999, L2280, L2500, L99999, L63, L1431655765, L858993459, L252645135, ic_ge, ic_gt, ic_le, ic_lt, ic_eq, ic_ne, if_lt, if_ge, if_gt, if_le, if_eq, if_ne, if_lt_zI, if_ge_zI, ic_ne_m1, ic_eq_m1, ic_nn_m1, ic_ee_m1, if_ne_b2i, if_eq_b2i, b2i_z, decide_eq_true_eq, decide_true, decide_false, Bool.not_eq_true, Bool.not_eq_true', Bool.not_true, Bool.not_false, decide_eq_false_iff_not, Bool.false_eq_true, not_false_eq_true, not_true_eq_false, if_true, if_false, ↓reduceIte, eq_self, Option.bind_some, Bool.true_and, Bool.false_and, Bool.and_true, Bool.and_false, nI_add, nI_subN, nI_clamp, gdF, gdF2, gdP, gdP2, zI_cl, zI_s, Lm1, nI_n0, zI_n0, leF, or_false, false_or, or_self, m1, hf]
            exact ev_ret
          · have hf' : ¬ 6 ≤ b 0 1 := by omega
            rw [decide_eq_false hf']
            simp (disch := omega) only [s, L0, L1, L2, L3, L4, L5, L6, L7, L8, L9, L10, L11, L12, L13, L16, L20, L31, L32, L40, L48, L57, L59, L60, L61, L91, L93, L97, L99, L100, L102, L103, L114, L122, L255, L300, L400, L402, L999, L2280, L2500, L99999, L63, L1431655765, L858993459, L252645135, ic_ge, ic_gt, ic_le, ic_lt, ic_eq, ic_ne, if_lt, if_ge, if_gt, if_le, if_eq, if_ne, if_lt_zI, if_ge_zI, ic_ne_m1, ic_eq_m1, ic_nn_m1, ic_ee_m1, if_ne_b2i, if_eq_b2i, b2i_z, decide_eq_true_eq, decide_true, decide_false, Bool.not_eq_true, Bool.not_eq_true', Bool.not_true, Bool.not_false, decide_eq_false_iff_not, Bool.false_eq_true, not_false_eq_true, not_true_eq_false, if_true, if_false, ↓reduceIte, eq_self, Option.bind_some, Bool.true_and, Bool.false_and, Bool.and_true, Bool.and_false, nI_add, nI_subN, nI_clamp, gdF, gdF2, gdP, gdP2, zI_cl, zI_s, Lm1, nI_n0, zI_n0, leF, or_false, false_or, or_self, m1, hf]
            exact ev_ret
        · have s : ¬ ((nI 5).toInt < 4 ∨ 7 < (nI 5).toInt) := by decide
          have s4 : ¬ nI 5 = nI 4 := by decide
          have ef : fulB b w 5 = decide (4 ≤ b 0 2) := (if_neg (by decide)).trans (if_pos rfl)
          rw [ef]
          by_cases hf : b 0 2 = 4
          · have hf' : 4 ≤ b 0 2 := by omega
            rw [decide_eq_true hf']
            simp (disch := omega) only [s, s4, L0, L1, L2, L3, L4, L5, L6, L7, L8, L9, L10, L11, L12, L13, L16, L20, L31, L32, L40, L48, L57, L59, L60, L61, L91, L93, L97, L99, L100, L102, L103, L114, L122, L255, L300, L400, L402, L999, L2280, L2500, L99999, L63, L1431655765, L858993459, L252645135, ic_ge, ic_gt, ic_le, ic_lt, ic_eq, ic_ne, if_lt, if_ge, if_gt, if_le, if_eq, if_ne, if_lt_zI, if_ge_zI, ic_ne_m1, ic_eq_m1, ic_nn_m1, ic_ee_m1, if_ne_b2i, if_eq_b2i, b2i_z, decide_eq_true_eq, decide_true, decide_false, Bool.not_eq_true, Bool.not_eq_true', Bool.not_true, Bool.not_false, decide_eq_false_iff_not, Bool.false_eq_true, not_false_eq_true, not_true_eq_false, if_true, if_false, ↓reduceIte, eq_self, Option.bind_some, Bool.true_and, Bool.false_and, Bool.and_true, Bool.and_false, nI_add, nI_subN, nI_clamp, gdF, gdF2, gdP, gdP2, zI_cl, zI_s, Lm1, nI_n0, zI_n0, leF, or_false, false_or, or_self, m2, hf]
            exact ev_ret
          · have hf' : ¬ 4 ≤ b 0 2 := by omega
            rw [decide_eq_false hf']
            simp (disch := omega) only [s, s4, L0, L1, L2, L3, L4, L5, L6, L7, L8, L9, L10, L11, L12, L13, L16, L20, L31, L32, L40, L48, L57, L59, L60, L61, L91, L93, L97, L99, L100, L102, L103, L114, L122, L255, L300, L400, L402, L999, L2280, L2500, L99999, L63, L1431655765, L858993459, L252645135, ic_ge, ic_gt, ic_le, ic_lt, ic_eq, ic_ne, if_lt, if_ge, if_gt, if_le, if_eq, if_ne, if_lt_zI, if_ge_zI, ic_ne_m1, ic_eq_m1, ic_nn_m1, ic_ee_m1, if_ne_b2i, if_eq_b2i, b2i_z, decide_eq_true_eq, decide_true, decide_false, Bool.not_eq_true, Bool.not_eq_true', Bool.not_true, Bool.not_false, decide_eq_false_iff_not, Bool.false_eq_true, not_false_eq_true, not_true_eq_false, if_true, if_false, ↓reduceIte, eq_self, Option.bind_some, Bool.true_and, Bool.false_and, Bool.and_true, Bool.and_false, nI_add, nI_subN, nI_clamp, gdF, gdF2, gdP, gdP2, zI_cl, zI_s, Lm1, nI_n0, zI_n0, leF, or_false, false_or, or_self, m2, hf]
            exact ev_ret
        · have s : ¬ ((nI 6).toInt < 4 ∨ 7 < (nI 6).toInt) := by decide
          have s4 : ¬ nI 6 = nI 4 := by decide
          have s5 : ¬ nI 6 = nI 5 := by decide
          have ef : fulB b w 6 = decide (5 ≤ netsN w) := (if_neg (by decide)).trans ((if_neg (by decide)).trans (if_pos rfl))
          rw [ef]
          by_cases hf : netsN w = 5
          · have hf' : 5 ≤ netsN w := by omega
            rw [decide_eq_true hf']
            simp (disch := omega) only [s, s4, s5, L0, L1, L2, L3, L4, L5, L6, L7, L8, L9, L10, L11, L12, L13, L16, L20, L31, L32, L40, L48, L57, L59, L60, L61, L91, L93, L97, L99, L100, L102, L103, L114, L122, L255, L300, L400, L402, L999, L2280, L2500, L99999, L63, L1431655765, L858993459, L252645135, ic_ge, ic_gt, ic_le, ic_lt, ic_eq, ic_ne, if_lt, if_ge, if_gt, if_le, if_eq, if_ne, if_lt_zI, if_ge_zI, ic_ne_m1, ic_eq_m1, ic_nn_m1, ic_ee_m1, if_ne_b2i, if_eq_b2i, b2i_z, decide_eq_true_eq, decide_true, decide_false, Bool.not_eq_true, Bool.not_eq_true', Bool.not_true, Bool.not_false, decide_eq_false_iff_not, Bool.false_eq_true, not_false_eq_true, not_true_eq_false, if_true, if_false, ↓reduceIte, eq_self, Option.bind_some, Bool.true_and, Bool.false_and, Bool.and_true, Bool.and_false, nI_add, nI_subN, nI_clamp, gdF, gdF2, gdP, gdP2, zI_cl, zI_s, Lm1, nI_n0, zI_n0, leF, or_false, false_or, or_self, m3, hf]
            exact ev_ret
          · have hf' : ¬ 5 ≤ netsN w := by omega
            rw [decide_eq_false hf']
            simp (disch := omega) only [s, s4, s5, L0, L1, L2, L3, L4, L5, L6, L7, L8, L9, L10, L11, L12, L13, L16, L20, L31, L32, L40, L48, L57, L59, L60, L61, L91, L93, L97, L99, L100, L102, L103, L114, L122, L255, L300, L400, L402, L999, L2280, L2500, L99999, L63, L1431655765, L858993459, L252645135, ic_ge, ic_gt, ic_le, ic_lt, ic_eq, ic_ne, if_lt, if_ge, if_gt, if_le, if_eq, if_ne, if_lt_zI, if_ge_zI, ic_ne_m1, ic_eq_m1, ic_nn_m1, ic_ee_m1, if_ne_b2i, if_eq_b2i, b2i_z, decide_eq_true_eq, decide_true, decide_false, Bool.not_eq_true, Bool.not_eq_true', Bool.not_true, Bool.not_false, decide_eq_false_iff_not, Bool.false_eq_true, not_false_eq_true, not_true_eq_false, if_true, if_false, ↓reduceIte, eq_self, Option.bind_some, Bool.true_and, Bool.false_and, Bool.and_true, Bool.and_false, nI_add, nI_subN, nI_clamp, gdF, gdF2, gdP, gdP2, zI_cl, zI_s, Lm1, nI_n0, zI_n0, leF, or_false, false_or, or_self, m3, hf]
            exact ev_ret
        · have s : ¬ ((nI 7).toInt < 4 ∨ 7 < (nI 7).toInt) := by decide
          have s4 : ¬ nI 7 = nI 4 := by decide
          have s5 : ¬ nI 7 = nI 5 := by decide
          have s6 : ¬ nI 7 = nI 6 := by decide
          have ef : fulB b w 7 = decide (10 ≤ w.1 0 1) := (if_neg (by decide)).trans ((if_neg (by decide)).trans ((if_neg (by decide)).trans (if_pos rfl)))
          rw [ef]
          by_cases hf : w.1 0 1 = 10
          · have hf' : 10 ≤ w.1 0 1 := by omega
            rw [decide_eq_true hf']
            simp (disch := omega) only [s, s4, s5, s6, L0, L1, L2, L3, L4, L5, L6, L7, L8, L9, L10, L11, L12, L13, L16, L20, L31, L32, L40, L48, L57, L59, L60, L61, L91, L93, L97, L99, L100, L102, L103, L114, L122, L255, L300, L400, L402, L999, L2280, L2500, L99999, L63, L1431655765, L858993459, L252645135, ic_ge, ic_gt, ic_le, ic_lt, ic_eq, ic_ne, if_lt, if_ge, if_gt, if_le, if_eq, if_ne, if_lt_zI, if_ge_zI, ic_ne_m1, ic_eq_m1, ic_nn_m1, ic_ee_m1, if_ne_b2i, if_eq_b2i, b2i_z, decide_eq_true_eq, decide_true, decide_false, Bool.not_eq_true, Bool.not_eq_true', Bool.not_true, Bool.not_false, decide_eq_false_iff_not, Bool.false_eq_true, not_false_eq_true, not_true_eq_false, if_true, if_false, ↓reduceIte, eq_self, Option.bind_some, Bool.true_and, Bool.false_and, Bool.and_true, Bool.and_false, nI_add, nI_subN, nI_clamp, gdF, gdF2, gdP, gdP2, zI_cl, zI_s, Lm1, nI_n0, zI_n0, leF, or_false, false_or, or_self, m4, hf]
            exact ev_ret
          · have hf' : ¬ 10 ≤ w.1 0 1 := by omega
            rw [decide_eq_false hf']
            simp (disch := omega) only [s, s4, s5, s6, L0, L1, L2, L3, L4, L5, L6, L7, L8, L9, L10, L11, L12, L13, L16, L20, L31, L32, L40, L48, L57, L59, L60, L61, L91, L93, L97, L99, L100, L102, L103, L114, L122, L255, L300, L400, L402, L999, L2280, L2500, L99999, L63, L1431655765, L858993459, L252645135, ic_ge, ic_gt, ic_le, ic_lt, ic_eq, ic_ne, if_lt, if_ge, if_gt, if_le, if_eq, if_ne, if_lt_zI, if_ge_zI, ic_ne_m1, ic_eq_m1, ic_nn_m1, ic_ee_m1, if_ne_b2i, if_eq_b2i, b2i_z, decide_eq_true_eq, decide_true, decide_false, Bool.not_eq_true, Bool.not_eq_true', Bool.not_true, Bool.not_false, decide_eq_false_iff_not, Bool.false_eq_true, not_false_eq_true, not_true_eq_false, if_true, if_false, ↓reduceIte, eq_self, Option.bind_some, Bool.true_and, Bool.false_and, Bool.and_true, Bool.and_false, nI_add, nI_subN, nI_clamp, gdF, gdF2, gdP, gdP2, zI_cl, zI_s, Lm1, nI_n0, zI_n0, leF, or_false, false_or, or_self, m4, hf]
            exact ev_ret
theorem f160l {nn j : Nat} {Q : Unit × mS → Prop} (hH : MH S00 f L) (h : MF S00 S L j 0) (hj : j ≤ L) (hfound : ∀ k, k < 8 → wiF f L j rvW 0 = some (k, (rvW.getD k []).length) → Ep (fun N => (F166 N (nI k) (nI nn) S).bind (fun z23 => if am_if .eq z23.1 = true then (F163 N (nI k) z23.2).bind (fun z26 => if sB z26.1 = true then (F167 N (nI k) (m_sI z26.2 27 ((z23.2.1 27) + nI (sTx z26.1).length))).bind (fun z29 => some ((), z29.2)) else none) else (F165 N (nI 4) (nI j) z23.2).bind (fun z31 => some ((), z31.2)))) Q) (hnone : wiF f L j rvW 0 = none → Ep (fun N => (F165 N (nI 0) (nI j) S).bind (fun z => some ((), z.2))) Q) : ∀ (m k : Nat), k + m = 8 → wiF f L j rvW 0 = wiF f L j (rvW.drop k) k → Ep (fun N => F160f N 11 (nI nn) (nI j) (nI k) S) Q := by
  intro m
  induction m with
  | zero =>
    intro k hk hw
    have ek : k = 8 := by omega
    subst ek
    refine ep_succ (fun N => F160e11 N ..) ?_
    simp (disch := omega) only [F160b11, L0, L1, L2, L3, L4, L5, L6, L7, L8, L9, L10, L11, L12, L13, L16, L20, L31, L32, L40, L48, L57, L59, L60, L61, L91, L93, L97, L99, L100, L102, L103, L114, L122, L255, L300, L400, L402, L999, L2280, L2500, L99999, L63, L1431655765, L858993459, L252645135, ic_ge, ic_gt, ic_le, ic_lt, ic_eq, ic_ne, if_lt, if_ge, if_gt, if_le, if_eq, if_ne, if_lt_zI, if_ge_zI, ic_ne_m1, ic_eq_m1, ic_nn_m1, ic_ee_m1, if_ne_b2i, if_eq_b2i, b2i_z, decide_eq_true_eq, decide_true, decide_false, Bool.not_eq_true, Bool.not_eq_true', Bool.not_true, Bool.not_false, decide_eq_false_iff_not, Bool.false_eq_true, not_false_eq_true, not_true_eq_false, if_true, if_false, ↓reduceIte, eq_self, Option.bind_some, Bool.true_and, Bool.false_and, Bool.and_true, Bool.and_false, nI_add, nI_subN, nI_clamp, gdF, gdF2, gdP, gdP2, zI_cl, zI_s, Lm1, nI_n0, zI_n0, leF, or_false, false_or, or_self, Nat.le_refl]
    exact hnone hw
  | succ m ih =>
    intro k hk hw
    have e1 : ¬ 8 ≤ k := by omega
    have e2 : ¬ k = 8 := by omega
    rw [wi_d (by omega)] at hw
    refine ep_succ (fun N => F160e11 N ..) ?_
    simp (disch := omega) only [F160b11, L0, L1, L2, L3, L4, L5, L6, L7, L8, L9, L10, L11, L12, L13, L16, L20, L31, L32, L40, L48, L57, L59, L60, L61, L91, L93, L97, L99, L100, L102, L103, L114, L122, L255, L300, L400, L402, L999, L2280, L2500, L99999, L63, L1431655765, L858993459, L252645135, ic_ge, ic_gt, ic_le, ic_lt, ic_eq, ic_ne, if_lt, if_ge, if_gt, if_le, if_eq, if_ne, if_lt_zI, if_ge_zI, ic_ne_m1, ic_eq_m1, ic_nn_m1, ic_ee_m1, if_ne_b2i, if_eq_b2i, b2i_z, decide_eq_true_eq, decide_true, decide_false, Bool.not_eq_true, Bool.not_eq_true', Bool.not_true, Bool.not_false, decide_eq_false_iff_not, Bool.false_eq_true, not_false_eq_true, not_true_eq_false, if_true, if_false, ↓reduceIte, eq_self, Option.bind_some, Bool.true_and, Bool.false_and, Bool.and_true, Bool.and_false, nI_add, nI_subN, nI_clamp, gdF, gdF2, gdP, gdP2, zI_cl, zI_s, Lm1, nI_n0, zI_n0, leF, or_false, false_or, or_self, e1, e2]
    refine ep_bv (f163 (by omega)) ?_
    refine ep_bv (f164 (MF_H hH h) (rv_Wr k (by omega)) hj h.1) ?_
    by_cases hm : wmB f L j (rvW.getD k []) = true
    · rw [if_pos hm] at hw
      have e3 : am_if .ne (b2i (wmB f L j (rvW.getD k []))) = true := by rw [hm]; decide
      simp only [e3, if_true]
      exact hfound k (by omega) hw
    · rw [if_neg hm] at hw
      have e3 : am_if .ne (b2i (wmB f L j (rvW.getD k []))) = false := by rw [Bool.eq_false_iff.mpr hm]; decide
      simp only [e3, Bool.false_eq_true, if_false]
      exact ih (k + 1) (by omega) hw
theorem f160 {nn : Nat} (hH : MH S00 f L) (h : MF S00 S L i 0) (hv : MV S.2.1 b w) (ok : OkR nn b w) (hnn : nn ≤ 40) (hi : i ≤ L) : Ep (fun n => F160 n (nI nn) S) (fun z => RmY S00 L (claF f L nn b w i) z.2) := by
  have hL := hH.2.1
  have hb := bk_b (f := f) hi
  obtain ⟨res, hres⟩ : ∃ res, res = claF f L nn b w i := ⟨_, rfl⟩
  rw [← hres]
  unfold claF at hres
  refine ep_succ (fun n => F160e0 n ..) ?_
  simp only [F160b0]
  refine ep_bind (f161 (MF_H hH h) hi h.1) ?_
  rintro ⟨_, S1⟩ a1
  have a1 : MY S1 S L (bk f L i) 0 := a1
  have mf1 := MF_tp h a1
  have a27 : S1.1 27 = nI (bk f L i) := a1.2.1
  have hv1 : MV S1.2.1 b w := by rw [a1.2.2.2.2]; exact hv
  simp only [a27, L0]
  refine f160l hH mf1 hb.2.1 (fun k hk hw => ?_) (fun hw => ?_) 8 0 (by decide) rfl
  · obtain ⟨w1, w2, w3⟩ := wi_b rvW 0 hw
    have w3 : bk f L i + (rvW.getD k []).length ≤ L := w3
    rw [hw] at hres
    have hres : res = if 40 ≤ nn ∨ ¬ (nn = 0 ↔ k = 0) ∨ fulB b w k = true then (5 + 8 * bk f L i, b, w, bk f L i) else parF f L k b w (bk f L i + (rvW.getD k []).length) := hres
    refine ep_bv (f166 (k := k) (by omega) hnn hv1 ok) ?_
    by_cases hc : 40 ≤ nn ∨ ¬ (nn = 0 ↔ k = 0) ∨ fulB b w k = true
    · rw [if_pos hc] at hres
      have e1 : am_if .eq (b2i (decide (40 ≤ nn ∨ ¬ (nn = 0 ↔ k = 0) ∨ fulB b w k = true))) = false := by rw [decide_eq_true hc]; decide
      have hne : res.1 ≠ 0 := by rw [hres]; show 5 + 8 * bk f L i ≠ 0; omega
      simp only [e1, Bool.false_eq_true, if_false]
      refine ep_bind (f165 mf1.1) ?_
      rintro ⟨_, S2⟩ b2
      have b2 : MY S2 S1 L (bk f L i) (1 + 8 * bk f L i + 4) := b2
      refine ep_ret (RmY_f hne hb.2.1 ?_)
      rw [hres]
      show MF S00 S2 L (bk f L i) (5 + 8 * bk f L i)
      rw [show 5 + 8 * bk f L i = 1 + 8 * bk f L i + 4 by omega]
      exact MF_tp mf1 b2
    · rw [if_neg hc] at hres
      have e1 : am_if .eq (b2i (decide (40 ≤ nn ∨ ¬ (nn = 0 ↔ k = 0) ∨ fulB b w k = true))) = true := by rw [decide_eq_false hc]; decide
      have c2 : nn = 0 ↔ k = 0 := Classical.byContradiction (fun z => hc (Or.inr (Or.inl z)))
      have c3 : fulB b w k = false := Bool.eq_false_iff.mpr (fun z => hc (Or.inr (Or.inr z)))
      obtain ⟨x1, x2, x3⟩ := Wr_is (rv_Wr k hk)
      simp only [e1, if_true]
      refine ep_bv (f163 (by omega)) ?_
      simp only [(Wc_is x1).1, if_true, x2, a27, nI_add]
      have b1 : MY (m_sI S1 27 (nI (bk f L i + (rvW.getD k []).length))) S1 L (bk f L i + (rvW.getD k []).length) 0 := MY_7 mf1.1
      have mf2 := MF_tp mf1 b1
      have hv2 : MV (m_sI S1 27 (nI (bk f L i + (rvW.getD k []).length))).2.1 b w := hv1
      have go : Ep (fun n => F167 n (nI k) (m_sI S1 27 (nI (bk f L i + (rvW.getD k []).length)))) (fun z => RmY S00 L res z.2) := by
        rw [hres]
        by_cases k0 : k = 0
        · subst k0
          have n0 : nn = 0 := c2.mpr rfl
          subst n0
          have s : ¬ ((nI 0).toInt < 0 ∨ 6 < (nI 0).toInt) := by decide
          refine ep_succ (fun n => F167e0 n ..) ?_
          simp only [F167b0, s, L0, L1, L2, L3, L4, L5, L6, L7, L8, L9, L10, L11, L12, L13, L16, L20, L31, L32, L40, L48, L57, L59, L60, L61, L91, L93, L97, L99, L100, L102, L103, L114, L122, L255, L300, L400, L402, L999, L2280, L2500, L99999, L63, L1431655765, L858993459, L252645135, if_false, if_true]
          refine ep_bind (f168 hH mf2 hv2 ok w3) ?_
          rintro ⟨_, S3⟩ d
          exact ep_ret d
        · have n0 : nn ≠ 0 := fun z => k0 (c2.mp z)
          have ep : parF f L k b w (bk f L i + (rvW.getD k []).length) = celF f L k b w (bk f L i + (rvW.getD k []).length) := if_neg k0
          rw [ep]
          rcases k8 (show k ≤ 7 by omega) with rfl | rfl | rfl | rfl | rfl | rfl | rfl | rfl
          · exact absurd rfl k0
          · have s : ¬ ((nI 1).toInt < 0 ∨ 6 < (nI 1).toInt) := by decide
            have s0 : ¬ nI 1 = nI 0 := by decide
            refine ep_succ (fun n => F167e0 n ..) ?_
            simp only [F167b0, s, L0, L1, L2, L3, L4, L5, L6, L7, L8, L9, L10, L11, L12, L13, L16, L20, L31, L32, L40, L48, L57, L59, L60, L61, L91, L93, L97, L99, L100, L102, L103, L114, L122, L255, L300, L400, L402, L999, L2280, L2500, L99999, L63, L1431655765, L858993459, L252645135, s0, if_false, if_true]
            refine ep_bind (f173 hH mf2 hv2 ok n0 w3) ?_
            rintro ⟨_, S3⟩ d
            exact ep_ret d
          · exact f167_2 hH mf2 hv2 ok n0 w3
          · exact f167_3 hH mf2 hv2 ok n0 w3
          · refine f167_4 hH mf2 hv2 ok n0 ?_ w3
            have : fulB b w 4 = decide (6 ≤ b 0 1) := if_pos rfl
            rw [this] at c3
            have := of_decide_eq_false c3
            omega
          · refine f167_5 hH mf2 hv2 ok n0 ?_ w3
            have : fulB b w 5 = decide (4 ≤ b 0 2) := (if_neg (by decide)).trans (if_pos rfl)
            rw [this] at c3
            have := of_decide_eq_false c3
            omega
          · refine f167_6 hH mf2 hv2 ok n0 ?_ w3
            have : fulB b w 6 = decide (5 ≤ netsN w) := (if_neg (by decide)).trans ((if_neg (by decide)).trans (if_pos rfl))
            rw [this] at c3
            have := of_decide_eq_false c3
            omega
          · refine f167_7 hH mf2 hv2 ok n0 ?_ w3
            have : fulB b w 7 = decide (10 ≤ w.1 0 1) := (if_neg (by decide)).trans ((if_neg (by decide)).trans ((if_neg (by decide)).trans (if_pos rfl)))
            rw [this] at c3
            have := of_decide_eq_false c3
            omega
      refine ep_bind go ?_
      rintro ⟨_, S3⟩ d
      exact ep_ret d
  · rw [hw] at hres
    have hres : res = (1 + 8 * bk f L i, b, w, bk f L i) := hres
    have hne : res.1 ≠ 0 := by rw [hres]; show 1 + 8 * bk f L i ≠ 0; omega
    refine ep_bind (f165 mf1.1) ?_
    rintro ⟨_, S2⟩ b2
    have b2 : MY S2 S1 L (bk f L i) (1 + 8 * bk f L i) := b2
    refine ep_ret (RmY_f hne hb.2.1 ?_)
    rw [hres]
    exact MF_tp mf1 b2
def RmQ (S00 : mS) (res : RVR) (S' : mS) : Prop := S'.1 26 = nI 0 ∧ S'.1 28 = nI res.1 ∧ (res.1 = 0 → MV S'.2.1 res.2.1 res.2.2) ∧ (∀ q, (q < 16 ∨ 25 < q) → S'.2.1 q = S00.2.1 q) ∧ (∀ q, q ≠ 26 → q ≠ 27 → q ≠ 28 → S'.1 q = S00.1 q) ∧ S'.2.2 = S00.2.2
theorem RmQ_mk {res : RVR} {p : Nat} (h : MF S00 S L p res.1) (hv : res.1 = 0 → MV S.2.1 res.2.1 res.2.2) : RmQ S00 res (m_sI S 26 (nI 0)) := ⟨m_rIe, by rw [m_rIn (by decide)]; exact h.1.2.2.1, hv, h.2.1, fun q a b c => by rw [m_rIn a]; exact h.2.2.1 q b c, h.2.2.2⟩
theorem f158l (hH : MH S00 f L) : ∀ (m n : Nat) (b : AB) (w : AW) (i : Nat) (S : mS), n + m = 41 → n ≤ 40 → i ≤ L → OkR n b w → MF S00 S L i 0 → MV S.2.1 b w → Ep (fun N => F158f N 28 (nI n) (nI 1) S) (fun z => RmQ S00 (rvF f L m n b w i) z.2) := by
  have hL := hH.2.1
  intro m
  induction m with
  | zero =>
    intro n b w i S hn hn0 hi ok h hv
    omega
  | succ m ih =>
    intro n b w i S hn hn0 hi ok h hv
    obtain ⟨c1, c2, c3⟩ := cla_b (f := f) ok hL hi
    obtain ⟨res, hres⟩ : ∃ res, res = rvF f L (m + 1) n b w i := ⟨_, rfl⟩
    rw [← hres]
    unfold rvF at hres
    have e0 : am_if .eq (nI 1) = false := by decide
    have e9 : am_if .eq (nI 0) = true := by decide
    refine ep_succ (fun N => F158e28 N ..) ?_
    simp only [F158b28, e0, Bool.false_eq_true, if_false]
    refine ep_bind (f160 hH h hv ok hn0 hi) ?_
    rintro ⟨_, S1⟩ ⟨p, hp, a3, a4⟩
    have a3 : MF S00 S1 L p (claF f L n b w i).1 := a3
    have stop : ∀ (S2 : mS) (x : Int32) (p' : Nat), MF S00 S2 L p' res.1 → (res.1 = 0 → MV S2.2.1 res.2.1 res.2.2) → Ep (fun N => F158f N 28 x (nI 0) S2) (fun z => RmQ S00 res z.2) := by
      intro S2 x p' h1 h2
      refine ep_succ (fun N => F158e28 N ..) ?_
      simp only [F158b28, e9, if_true, L0]
      exact ep_ret (RmQ_mk h1 h2)
    by_cases h0 : (claF f L n b w i).1 = 0
    · obtain ⟨n40, okn⟩ := c3 h0
      obtain ⟨ep, mv⟩ := a4 h0
      have mv : MV S1.2.1 (claF f L n b w i).2.1 (claF f L n b w i).2.2.1 := mv
      subst ep
      rw [if_neg (fun z => z h0)] at hres
      rw [h0] at a3
      have hbk := bk_b (f := f) c2
      refine ep_bind (f178 (MF_H hH a3) c2 a3.1) ?_
      rintro ⟨z2, S2⟩ ⟨b1, b0, b2⟩
      have hg : goF f L (claF f L n b w i).2.2.2 = 0 ∨ goF f L (claF f L n b w i).2.2.2 = 1 ∨ goF f L (claF f L n b w i).2.2.2 = 2 := by
        unfold goF
        split
        · split
          · exact Or.inr (Or.inl rfl)
          · exact Or.inr (Or.inr rfl)
        · exact Or.inl rfl
      rcases hg with hg | hg | hg
      · obtain ⟨x1, x2⟩ := b0 hg
        have x1 : z2 = nI 0 := x1
        have x2 : MY S2 S1 L (bk f L (claF f L n b w i).2.2.2 + 1) 0 := x2
        subst x1
        rw [if_neg (show ¬ goF f L (claF f L n b w i).2.2.2 = 2 by omega), if_neg (show ¬ goF f L (claF f L n b w i).2.2.2 = 1 by omega)] at hres
        refine stop S2 _ (bk f L (claF f L n b w i).2.2.2 + 1) ?_ (fun _ => ?_)
        · rw [hres]
          exact MF_tp a3 x2
        · rw [hres, x2.2.2.2.2]
          exact mv
      · obtain ⟨x1, x2⟩ := b1 hg
        have x1 : z2 = nI 1 := x1
        have x2 : MY S2 S1 L (bk f L (claF f L n b w i).2.2.2 + 1) 0 := x2
        subst x1
        have hlt : bk f L (claF f L n b w i).2.2.2 < L := by
          unfold goF at hg
          refine Nat.lt_of_not_le (fun z => ?_)
          rw [if_neg (by omega)] at hg
          omega
        rw [if_neg (show ¬ goF f L (claF f L n b w i).2.2.2 = 2 by omega), if_pos hg] at hres
        rw [hres]
        have := ih (n + 1) (claF f L n b w i).2.1 (claF f L n b w i).2.2.1 (bk f L (claF f L n b w i).2.2.2 + 1) S2 (by omega) (by omega) (by omega) okn (MF_tp a3 x2) (by rw [x2.2.2.2.2]; exact mv)
        rw [← nI_add] at this
        exact this
      · obtain ⟨x1, x2⟩ := b2 hg
        have x1 : z2 = nI 0 := x1
        have x2 : MY S2 S1 L (bk f L (claF f L n b w i).2.2.2 + 1) (1 + 8 * bk f L (claF f L n b w i).2.2.2) := x2
        subst x1
        rw [if_pos hg] at hres
        refine stop S2 _ (bk f L (claF f L n b w i).2.2.2 + 1) ?_ (fun z => ?_)
        · rw [hres]
          exact MF_tp a3 x2
        · rw [hres] at z
          have z : 1 + 8 * bk f L (claF f L n b w i).2.2.2 = 0 := z
          omega
    · rw [if_pos h0] at hres
      refine ep_bind (f178n (MF_H hH a3) h0 (by omega) hp a3.1) ?_
      rintro ⟨z2, S2⟩ ⟨x1, x2⟩
      have x1 : z2 = nI 0 := x1
      have x2 : MY S2 S1 L (bk f L p + 1) (claF f L n b w i).1 := x2
      subst x1
      refine stop S2 _ (bk f L p + 1) ?_ (fun z => ?_)
      · rw [hres]
        exact MF_tp a3 x2
      · rw [hres] at z
        exact absurd z h0
end Mf
