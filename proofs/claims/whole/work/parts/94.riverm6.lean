/-! rivers told: the reference takes them over -/
def Cpy (S S' : mS) (a d N : Nat) : Prop := S'.1 = S.1 ∧ S'.2.2 = S.2.2 ∧ (∀ q, q ≠ d → S'.2.1 q = S.2.1 q) ∧ ∀ i, i < N → S'.2.1 d i = S.2.1 a i
theorem f179_147_132 {S : mS} : Ep (fun n => F179_147_132 n S) (fun z => Cpy S z.2 17 2 16) := by
  have go : ∀ (m c : Nat) (S1 : mS), c + m = 16 → S1.1 = S.1 → S1.2.2 = S.2.2 → (∀ q, q ≠ 2 → S1.2.1 q = S.2.1 q) → (∀ i, i < c → S1.2.1 2 i = S.2.1 17 i) → Ep (fun n => F179_147_132f n 2 (nI c) S1) (fun z => Cpy S z.2 17 2 16) := by
    intro m
    induction m with
    | zero =>
      intro c S1 hc h1 h2 h3 h4
      have ec : c = 16 := by omega
      subst ec
      refine ep_succ (fun n => F179_147_132e2 n ..) ?_
      simp (disch := omega) only [F179_147_132b2, L0, L1, L2, L3, L4, L5, L6, L7, L8, L9, L10, L11, L12, L13, L16, L20, L31, L32, L40, L48, L57, L59, L60, L61, L91, L93, L97, L99, L100, L102, L103, L114, L122, L255, L300, L400, L402, L999, L2280, L2500, L99999, L63, L1431655765, L858993459, L252645135, ic_ge, ic_gt, ic_le, ic_lt, ic_eq, ic_ne, if_lt, if_ge, if_gt, if_le, if_eq, if_ne, if_lt_zI, if_ge_zI, ic_ne_m1, ic_eq_m1, ic_nn_m1, ic_ee_m1, if_ne_b2i, if_eq_b2i, b2i_z, decide_eq_true_eq, decide_true, decide_false, Bool.not_eq_true, Bool.not_eq_true', Bool.not_true, Bool.not_false, decide_eq_false_iff_not, Bool.false_eq_true, not_false_eq_true, not_true_eq_false, if_true, if_false, ↓reduceIte, eq_self, Option.bind_some, Bool.true_and, Bool.false_and, Bool.and_true, Bool.and_false, nI_add, nI_subN, nI_clamp, gdF, gdF2, gdP, gdP2, zI_cl, zI_s, Lm1, nI_n0, zI_n0, leF, or_false, false_or, or_self, Nat.le_refl]
      exact ep_ret ⟨h1, h2, h3, h4⟩
    | succ m ih =>
      intro c S1 hc h1 h2 h3 h4
      have e : ¬ 16 ≤ c := by omega
      refine ep_succ (fun n => F179_147_132e2 n ..) ?_
      simp (disch := omega) only [F179_147_132b2, L0, L1, L2, L3, L4, L5, L6, L7, L8, L9, L10, L11, L12, L13, L16, L20, L31, L32, L40, L48, L57, L59, L60, L61, L91, L93, L97, L99, L100, L102, L103, L114, L122, L255, L300, L400, L402, L999, L2280, L2500, L99999, L63, L1431655765, L858993459, L252645135, ic_ge, ic_gt, ic_le, ic_lt, ic_eq, ic_ne, if_lt, if_ge, if_gt, if_le, if_eq, if_ne, if_lt_zI, if_ge_zI, ic_ne_m1, ic_eq_m1, ic_nn_m1, ic_ee_m1, if_ne_b2i, if_eq_b2i, b2i_z, decide_eq_true_eq, decide_true, decide_false, Bool.not_eq_true, Bool.not_eq_true', Bool.not_true, Bool.not_false, decide_eq_false_iff_not, Bool.false_eq_true, not_false_eq_true, not_true_eq_false, if_true, if_false, ↓reduceIte, eq_self, Option.bind_some, Bool.true_and, Bool.false_and, Bool.and_true, Bool.and_false, nI_add, nI_subN, nI_clamp, gdF, gdF2, gdP, gdP2, zI_cl, zI_s, Lm1, nI_n0, zI_n0, leF, or_false, false_or, or_self, e]
      refine ih (c + 1) _ (by omega) h1 h2 (fun q hq => by rw [m_rAn hq]; exact h3 q hq) (fun i hi => ?_)
      by_cases ei : i = c
      · rw [ei, m_rAe, h3 17 (by decide)]
      · rw [m_rAi ei]
        exact h4 i (by omega)
  refine ep_succ (fun n => F179_147_132e0 n ..) ?_
  simp only [F179_147_132b0, L0]
  exact go 16 0 S (by decide) rfl rfl (fun _ _ => rfl) (fun i hi => absurd hi (Nat.not_lt_zero _))
theorem f179_148_133 {S : mS} : Ep (fun n => F179_148_133 n S) (fun z => Cpy S z.2 18 3 16) := by
  have go : ∀ (m c : Nat) (S1 : mS), c + m = 16 → S1.1 = S.1 → S1.2.2 = S.2.2 → (∀ q, q ≠ 3 → S1.2.1 q = S.2.1 q) → (∀ i, i < c → S1.2.1 3 i = S.2.1 18 i) → Ep (fun n => F179_148_133f n 2 (nI c) S1) (fun z => Cpy S z.2 18 3 16) := by
    intro m
    induction m with
    | zero =>
      intro c S1 hc h1 h2 h3 h4
      have ec : c = 16 := by omega
      subst ec
      refine ep_succ (fun n => F179_148_133e2 n ..) ?_
      simp (disch := omega) only [F179_148_133b2, L0, L1, L2, L3, L4, L5, L6, L7, L8, L9, L10, L11, L12, L13, L16, L20, L31, L32, L40, L48, L57, L59, L60, L61, L91, L93, L97, L99, L100, L102, L103, L114, L122, L255, L300, L400, L402, L999, L2280, L2500, L99999, L63, L1431655765, L858993459, L252645135, ic_ge, ic_gt, ic_le, ic_lt, ic_eq, ic_ne, if_lt, if_ge, if_gt, if_le, if_eq, if_ne, if_lt_zI, if_ge_zI, ic_ne_m1, ic_eq_m1, ic_nn_m1, ic_ee_m1, if_ne_b2i, if_eq_b2i, b2i_z, decide_eq_true_eq, decide_true, decide_false, Bool.not_eq_true, Bool.not_eq_true', Bool.not_true, Bool.not_false, decide_eq_false_iff_not, Bool.false_eq_true, not_false_eq_true, not_true_eq_false, if_true, if_false, ↓reduceIte, eq_self, Option.bind_some, Bool.true_and, Bool.false_and, Bool.and_true, Bool.and_false, nI_add, nI_subN, nI_clamp, gdF, gdF2, gdP, gdP2, zI_cl, zI_s, Lm1, nI_n0, zI_n0, leF, or_false, false_or, or_self, Nat.le_refl]
      exact ep_ret ⟨h1, h2, h3, h4⟩
    | succ m ih =>
      intro c S1 hc h1 h2 h3 h4
      have e : ¬ 16 ≤ c := by omega
      refine ep_succ (fun n => F179_148_133e2 n ..) ?_
      simp (disch := omega) only [F179_148_133b2, L0, L1, L2, L3, L4, L5, L6, L7, L8, L9, L10, L11, L12, L13, L16, L20, L31, L32, L40, L48, L57, L59, L60, L61, L91, L93, L97, L99, L100, L102, L103, L114, L122, L255, L300, L400, L402, L999, L2280, L2500, L99999, L63, L1431655765, L858993459, L252645135, ic_ge, ic_gt, ic_le, ic_lt, ic_eq, ic_ne, if_lt, if_ge, if_gt, if_le, if_eq, if_ne, if_lt_zI, if_ge_zI, ic_ne_m1, ic_eq_m1, ic_nn_m1, ic_ee_m1, if_ne_b2i, if_eq_b2i, b2i_z, decide_eq_true_eq, decide_true, decide_false, Bool.not_eq_true, Bool.not_eq_true', Bool.not_true, Bool.not_false, decide_eq_false_iff_not, Bool.false_eq_true, not_false_eq_true, not_true_eq_false, if_true, if_false, ↓reduceIte, eq_self, Option.bind_some, Bool.true_and, Bool.false_and, Bool.and_true, Bool.and_false, nI_add, nI_subN, nI_clamp, gdF, gdF2, gdP, gdP2, zI_cl, zI_s, Lm1, nI_n0, zI_n0, leF, or_false, false_or, or_self, e]
      refine ih (c + 1) _ (by omega) h1 h2 (fun q hq => by rw [m_rAn hq]; exact h3 q hq) (fun i hi => ?_)
      by_cases ei : i = c
      · rw [ei, m_rAe, h3 18 (by decide)]
      · rw [m_rAi ei]
        exact h4 i (by omega)
  refine ep_succ (fun n => F179_148_133e0 n ..) ?_
  simp only [F179_148_133b0, L0]
  exact go 16 0 S (by decide) rfl rfl (fun _ _ => rfl) (fun i hi => absurd hi (Nat.not_lt_zero _))
theorem f179_149_134 {S : mS} : Ep (fun n => F179_149_134 n S) (fun z => Cpy S z.2 19 4 6) := by
  have go : ∀ (m c : Nat) (S1 : mS), c + m = 6 → S1.1 = S.1 → S1.2.2 = S.2.2 → (∀ q, q ≠ 4 → S1.2.1 q = S.2.1 q) → (∀ i, i < c → S1.2.1 4 i = S.2.1 19 i) → Ep (fun n => F179_149_134f n 2 (nI c) S1) (fun z => Cpy S z.2 19 4 6) := by
    intro m
    induction m with
    | zero =>
      intro c S1 hc h1 h2 h3 h4
      have ec : c = 6 := by omega
      subst ec
      refine ep_succ (fun n => F179_149_134e2 n ..) ?_
      simp (disch := omega) only [F179_149_134b2, L0, L1, L2, L3, L4, L5, L6, L7, L8, L9, L10, L11, L12, L13, L16, L20, L31, L32, L40, L48, L57, L59, L60, L61, L91, L93, L97, L99, L100, L102, L103, L114, L122, L255, L300, L400, L402, L999, L2280, L2500, L99999, L63, L1431655765, L858993459, L252645135, ic_ge, ic_gt, ic_le, ic_lt, ic_eq, ic_ne, if_lt, if_ge, if_gt, if_le, if_eq, if_ne, if_lt_zI, if_ge_zI, ic_ne_m1, ic_eq_m1, ic_nn_m1, ic_ee_m1, if_ne_b2i, if_eq_b2i, b2i_z, decide_eq_true_eq, decide_true, decide_false, Bool.not_eq_true, Bool.not_eq_true', Bool.not_true, Bool.not_false, decide_eq_false_iff_not, Bool.false_eq_true, not_false_eq_true, not_true_eq_false, if_true, if_false, ↓reduceIte, eq_self, Option.bind_some, Bool.true_and, Bool.false_and, Bool.and_true, Bool.and_false, nI_add, nI_subN, nI_clamp, gdF, gdF2, gdP, gdP2, zI_cl, zI_s, Lm1, nI_n0, zI_n0, leF, or_false, false_or, or_self, Nat.le_refl]
      exact ep_ret ⟨h1, h2, h3, h4⟩
    | succ m ih =>
      intro c S1 hc h1 h2 h3 h4
      have e : ¬ 6 ≤ c := by omega
      refine ep_succ (fun n => F179_149_134e2 n ..) ?_
      simp (disch := omega) only [F179_149_134b2, L0, L1, L2, L3, L4, L5, L6, L7, L8, L9, L10, L11, L12, L13, L16, L20, L31, L32, L40, L48, L57, L59, L60, L61, L91, L93, L97, L99, L100, L102, L103, L114, L122, L255, L300, L400, L402, L999, L2280, L2500, L99999, L63, L1431655765, L858993459, L252645135, ic_ge, ic_gt, ic_le, ic_lt, ic_eq, ic_ne, if_lt, if_ge, if_gt, if_le, if_eq, if_ne, if_lt_zI, if_ge_zI, ic_ne_m1, ic_eq_m1, ic_nn_m1, ic_ee_m1, if_ne_b2i, if_eq_b2i, b2i_z, decide_eq_true_eq, decide_true, decide_false, Bool.not_eq_true, Bool.not_eq_true', Bool.not_true, Bool.not_false, decide_eq_false_iff_not, Bool.false_eq_true, not_false_eq_true, not_true_eq_false, if_true, if_false, ↓reduceIte, eq_self, Option.bind_some, Bool.true_and, Bool.false_and, Bool.and_true, Bool.and_false, nI_add, nI_subN, nI_clamp, gdF, gdF2, gdP, gdP2, zI_cl, zI_s, Lm1, nI_n0, zI_n0, leF, or_false, false_or, or_self, e]
      refine ih (c + 1) _ (by omega) h1 h2 (fun q hq => by rw [m_rAn hq]; exact h3 q hq) (fun i hi => ?_)
      by_cases ei : i = c
      · rw [ei, m_rAe, h3 19 (by decide)]
      · rw [m_rAi ei]
        exact h4 i (by omega)
  refine ep_succ (fun n => F179_149_134e0 n ..) ?_
  simp only [F179_149_134b0, L0]
  exact go 6 0 S (by decide) rfl rfl (fun _ _ => rfl) (fun i hi => absurd hi (Nat.not_lt_zero _))
theorem f179_150_135 {S : mS} : Ep (fun n => F179_150_135 n S) (fun z => Cpy S z.2 20 5 6) := by
  have go : ∀ (m c : Nat) (S1 : mS), c + m = 6 → S1.1 = S.1 → S1.2.2 = S.2.2 → (∀ q, q ≠ 5 → S1.2.1 q = S.2.1 q) → (∀ i, i < c → S1.2.1 5 i = S.2.1 20 i) → Ep (fun n => F179_150_135f n 2 (nI c) S1) (fun z => Cpy S z.2 20 5 6) := by
    intro m
    induction m with
    | zero =>
      intro c S1 hc h1 h2 h3 h4
      have ec : c = 6 := by omega
      subst ec
      refine ep_succ (fun n => F179_150_135e2 n ..) ?_
      simp (disch := omega) only [F179_150_135b2, L0, L1, L2, L3, L4, L5, L6, L7, L8, L9, L10, L11, L12, L13, L16, L20, L31, L32, L40, L48, L57, L59, L60, L61, L91, L93, L97, L99, L100, L102, L103, L114, L122, L255, L300, L400, L402, L999, L2280, L2500, L99999, L63, L1431655765, L858993459, L252645135, ic_ge, ic_gt, ic_le, ic_lt, ic_eq, ic_ne, if_lt, if_ge, if_gt, if_le, if_eq, if_ne, if_lt_zI, if_ge_zI, ic_ne_m1, ic_eq_m1, ic_nn_m1, ic_ee_m1, if_ne_b2i, if_eq_b2i, b2i_z, decide_eq_true_eq, decide_true, decide_false, Bool.not_eq_true, Bool.not_eq_true', Bool.not_true, Bool.not_false, decide_eq_false_iff_not, Bool.false_eq_true, not_false_eq_true, not_true_eq_false, if_true, if_false, ↓reduceIte, eq_self, Option.bind_some, Bool.true_and, Bool.false_and, Bool.and_true, Bool.and_false, nI_add, nI_subN, nI_clamp, gdF, gdF2, gdP, gdP2, zI_cl, zI_s, Lm1, nI_n0, zI_n0, leF, or_false, false_or, or_self, Nat.le_refl]
      exact ep_ret ⟨h1, h2, h3, h4⟩
    | succ m ih =>
      intro c S1 hc h1 h2 h3 h4
      have e : ¬ 6 ≤ c := by omega
      refine ep_succ (fun n => F179_150_135e2 n ..) ?_
      simp (disch := omega) only [F179_150_135b2, L0, L1, L2, L3, L4, L5, L6, L7, L8, L9, L10, L11, L12, L13, L16, L20, L31, L32, L40, L48, L57, L59, L60, L61, L91, L93, L97, L99, L100, L102, L103, L114, L122, L255, L300, L400, L402, L999, L2280, L2500, L99999, L63, L1431655765, L858993459, L252645135, ic_ge, ic_gt, ic_le, ic_lt, ic_eq, ic_ne, if_lt, if_ge, if_gt, if_le, if_eq, if_ne, if_lt_zI, if_ge_zI, ic_ne_m1, ic_eq_m1, ic_nn_m1, ic_ee_m1, if_ne_b2i, if_eq_b2i, b2i_z, decide_eq_true_eq, decide_true, decide_false, Bool.not_eq_true, Bool.not_eq_true', Bool.not_true, Bool.not_false, decide_eq_false_iff_not, Bool.false_eq_true, not_false_eq_true, not_true_eq_false, if_true, if_false, ↓reduceIte, eq_self, Option.bind_some, Bool.true_and, Bool.false_and, Bool.and_true, Bool.and_false, nI_add, nI_subN, nI_clamp, gdF, gdF2, gdP, gdP2, zI_cl, zI_s, Lm1, nI_n0, zI_n0, leF, or_false, false_or, or_self, e]
      refine ih (c + 1) _ (by omega) h1 h2 (fun q hq => by rw [m_rAn hq]; exact h3 q hq) (fun i hi => ?_)
      by_cases ei : i = c
      · rw [ei, m_rAe, h3 20 (by decide)]
      · rw [m_rAi ei]
        exact h4 i (by omega)
  refine ep_succ (fun n => F179_150_135e0 n ..) ?_
  simp only [F179_150_135b0, L0]
  exact go 6 0 S (by decide) rfl rfl (fun _ _ => rfl) (fun i hi => absurd hi (Nat.not_lt_zero _))
theorem f179_151_137 {S : mS} : Ep (fun n => F179_151_137 n S) (fun z => Cpy S z.2 21 7 4) := by
  have go : ∀ (m c : Nat) (S1 : mS), c + m = 4 → S1.1 = S.1 → S1.2.2 = S.2.2 → (∀ q, q ≠ 7 → S1.2.1 q = S.2.1 q) → (∀ i, i < c → S1.2.1 7 i = S.2.1 21 i) → Ep (fun n => F179_151_137f n 2 (nI c) S1) (fun z => Cpy S z.2 21 7 4) := by
    intro m
    induction m with
    | zero =>
      intro c S1 hc h1 h2 h3 h4
      have ec : c = 4 := by omega
      subst ec
      refine ep_succ (fun n => F179_151_137e2 n ..) ?_
      simp (disch := omega) only [F179_151_137b2, L0, L1, L2, L3, L4, L5, L6, L7, L8, L9, L10, L11, L12, L13, L16, L20, L31, L32, L40, L48, L57, L59, L60, L61, L91, L93, L97, L99, L100, L102, L103, L114, L122, L255, L300, L400, L402, L999, L2280, L2500, L99999, L63, L1431655765, L858993459, L252645135, ic_ge, ic_gt, ic_le, ic_lt, ic_eq, ic_ne, if_lt, if_ge, if_gt, if_le, if_eq, if_ne, if_lt_zI, if_ge_zI, ic_ne_m1, ic_eq_m1, ic_nn_m1, ic_ee_m1, if_ne_b2i, if_eq_b2i, b2i_z, decide_eq_true_eq, decide_true, decide_false, Bool.not_eq_true, Bool.not_eq_true', Bool.not_true, Bool.not_false, decide_eq_false_iff_not, Bool.false_eq_true, not_false_eq_true, not_true_eq_false, if_true, if_false, ↓reduceIte, eq_self, Option.bind_some, Bool.true_and, Bool.false_and, Bool.and_true, Bool.and_false, nI_add, nI_subN, nI_clamp, gdF, gdF2, gdP, gdP2, zI_cl, zI_s, Lm1, nI_n0, zI_n0, leF, or_false, false_or, or_self, Nat.le_refl]
      exact ep_ret ⟨h1, h2, h3, h4⟩
    | succ m ih =>
      intro c S1 hc h1 h2 h3 h4
      have e : ¬ 4 ≤ c := by omega
      refine ep_succ (fun n => F179_151_137e2 n ..) ?_
      simp (disch := omega) only [F179_151_137b2, L0, L1, L2, L3, L4, L5, L6, L7, L8, L9, L10, L11, L12, L13, L16, L20, L31, L32, L40, L48, L57, L59, L60, L61, L91, L93, L97, L99, L100, L102, L103, L114, L122, L255, L300, L400, L402, L999, L2280, L2500, L99999, L63, L1431655765, L858993459, L252645135, ic_ge, ic_gt, ic_le, ic_lt, ic_eq, ic_ne, if_lt, if_ge, if_gt, if_le, if_eq, if_ne, if_lt_zI, if_ge_zI, ic_ne_m1, ic_eq_m1, ic_nn_m1, ic_ee_m1, if_ne_b2i, if_eq_b2i, b2i_z, decide_eq_true_eq, decide_true, decide_false, Bool.not_eq_true, Bool.not_eq_true', Bool.not_true, Bool.not_false, decide_eq_false_iff_not, Bool.false_eq_true, not_false_eq_true, not_true_eq_false, if_true, if_false, ↓reduceIte, eq_self, Option.bind_some, Bool.true_and, Bool.false_and, Bool.and_true, Bool.and_false, nI_add, nI_subN, nI_clamp, gdF, gdF2, gdP, gdP2, zI_cl, zI_s, Lm1, nI_n0, zI_n0, leF, or_false, false_or, or_self, e]
      refine ih (c + 1) _ (by omega) h1 h2 (fun q hq => by rw [m_rAn hq]; exact h3 q hq) (fun i hi => ?_)
      by_cases ei : i = c
      · rw [ei, m_rAe, h3 21 (by decide)]
      · rw [m_rAi ei]
        exact h4 i (by omega)
  refine ep_succ (fun n => F179_151_137e0 n ..) ?_
  simp only [F179_151_137b0, L0]
  exact go 4 0 S (by decide) rfl rfl (fun _ _ => rfl) (fun i hi => absurd hi (Nat.not_lt_zero _))
theorem f179_152_138 {S : mS} : Ep (fun n => F179_152_138 n S) (fun z => Cpy S z.2 22 8 13) := by
  have go : ∀ (m c : Nat) (S1 : mS), c + m = 13 → S1.1 = S.1 → S1.2.2 = S.2.2 → (∀ q, q ≠ 8 → S1.2.1 q = S.2.1 q) → (∀ i, i < c → S1.2.1 8 i = S.2.1 22 i) → Ep (fun n => F179_152_138f n 2 (nI c) S1) (fun z => Cpy S z.2 22 8 13) := by
    intro m
    induction m with
    | zero =>
      intro c S1 hc h1 h2 h3 h4
      have ec : c = 13 := by omega
      subst ec
      refine ep_succ (fun n => F179_152_138e2 n ..) ?_
      simp (disch := omega) only [F179_152_138b2, L0, L1, L2, L3, L4, L5, L6, L7, L8, L9, L10, L11, L12, L13, L16, L20, L31, L32, L40, L48, L57, L59, L60, L61, L91, L93, L97, L99, L100, L102, L103, L114, L122, L255, L300, L400, L402, L999, L2280, L2500, L99999, L63, L1431655765, L858993459, L252645135, ic_ge, ic_gt, ic_le, ic_lt, ic_eq, ic_ne, if_lt, if_ge, if_gt, if_le, if_eq, if_ne, if_lt_zI, if_ge_zI, ic_ne_m1, ic_eq_m1, ic_nn_m1, ic_ee_m1, if_ne_b2i, if_eq_b2i, b2i_z, decide_eq_true_eq, decide_true, decide_false, Bool.not_eq_true, Bool.not_eq_true', Bool.not_true, Bool.not_false, decide_eq_false_iff_not, Bool.false_eq_true, not_false_eq_true, not_true_eq_false, if_true, if_false, ↓reduceIte, eq_self, Option.bind_some, Bool.true_and, Bool.false_and, Bool.and_true, Bool.and_false, nI_add, nI_subN, nI_clamp, gdF, gdF2, gdP, gdP2, zI_cl, zI_s, Lm1, nI_n0, zI_n0, leF, or_false, false_or, or_self, Nat.le_refl]
      exact ep_ret ⟨h1, h2, h3, h4⟩
    | succ m ih =>
      intro c S1 hc h1 h2 h3 h4
      have e : ¬ 13 ≤ c := by omega
      refine ep_succ (fun n => F179_152_138e2 n ..) ?_
      simp (disch := omega) only [F179_152_138b2, L0, L1, L2, L3, L4, L5, L6, L7, L8, L9, L10, L11, L12, L13, L16, L20, L31, L32, L40, L48, L57, L59, L60, L61, L91, L93, L97, L99, L100, L102, L103, L114, L122, L255, L300, L400, L402, L999, L2280, L2500, L99999, L63, L1431655765, L858993459, L252645135, ic_ge, ic_gt, ic_le, ic_lt, ic_eq, ic_ne, if_lt, if_ge, if_gt, if_le, if_eq, if_ne, if_lt_zI, if_ge_zI, ic_ne_m1, ic_eq_m1, ic_nn_m1, ic_ee_m1, if_ne_b2i, if_eq_b2i, b2i_z, decide_eq_true_eq, decide_true, decide_false, Bool.not_eq_true, Bool.not_eq_true', Bool.not_true, Bool.not_false, decide_eq_false_iff_not, Bool.false_eq_true, not_false_eq_true, not_true_eq_false, if_true, if_false, ↓reduceIte, eq_self, Option.bind_some, Bool.true_and, Bool.false_and, Bool.and_true, Bool.and_false, nI_add, nI_subN, nI_clamp, gdF, gdF2, gdP, gdP2, zI_cl, zI_s, Lm1, nI_n0, zI_n0, leF, or_false, false_or, or_self, e]
      refine ih (c + 1) _ (by omega) h1 h2 (fun q hq => by rw [m_rAn hq]; exact h3 q hq) (fun i hi => ?_)
      by_cases ei : i = c
      · rw [ei, m_rAe, h3 22 (by decide)]
      · rw [m_rAi ei]
        exact h4 i (by omega)
  refine ep_succ (fun n => F179_152_138e0 n ..) ?_
  simp only [F179_152_138b0, L0]
  exact go 13 0 S (by decide) rfl rfl (fun _ _ => rfl) (fun i hi => absurd hi (Nat.not_lt_zero _))
theorem f179_153_139 {S : mS} : Ep (fun n => F179_153_139 n S) (fun z => Cpy S z.2 23 9 13) := by
  have go : ∀ (m c : Nat) (S1 : mS), c + m = 13 → S1.1 = S.1 → S1.2.2 = S.2.2 → (∀ q, q ≠ 9 → S1.2.1 q = S.2.1 q) → (∀ i, i < c → S1.2.1 9 i = S.2.1 23 i) → Ep (fun n => F179_153_139f n 2 (nI c) S1) (fun z => Cpy S z.2 23 9 13) := by
    intro m
    induction m with
    | zero =>
      intro c S1 hc h1 h2 h3 h4
      have ec : c = 13 := by omega
      subst ec
      refine ep_succ (fun n => F179_153_139e2 n ..) ?_
      simp (disch := omega) only [F179_153_139b2, L0, L1, L2, L3, L4, L5, L6, L7, L8, L9, L10, L11, L12, L13, L16, L20, L31, L32, L40, L48, L57, L59, L60, L61, L91, L93, L97, L99, L100, L102, L103, L114, L122, L255, L300, L400, L402, L999, L2280, L2500, L99999, L63, L1431655765, L858993459, L252645135, ic_ge, ic_gt, ic_le, ic_lt, ic_eq, ic_ne, if_lt, if_ge, if_gt, if_le, if_eq, if_ne, if_lt_zI, if_ge_zI, ic_ne_m1, ic_eq_m1, ic_nn_m1, ic_ee_m1, if_ne_b2i, if_eq_b2i, b2i_z, decide_eq_true_eq, decide_true, decide_false, Bool.not_eq_true, Bool.not_eq_true', Bool.not_true, Bool.not_false, decide_eq_false_iff_not, Bool.false_eq_true, not_false_eq_true, not_true_eq_false, if_true, if_false, ↓reduceIte, eq_self, Option.bind_some, Bool.true_and, Bool.false_and, Bool.and_true, Bool.and_false, nI_add, nI_subN, nI_clamp, gdF, gdF2, gdP, gdP2, zI_cl, zI_s, Lm1, nI_n0, zI_n0, leF, or_false, false_or, or_self, Nat.le_refl]
      exact ep_ret ⟨h1, h2, h3, h4⟩
    | succ m ih =>
      intro c S1 hc h1 h2 h3 h4
      have e : ¬ 13 ≤ c := by omega
      refine ep_succ (fun n => F179_153_139e2 n ..) ?_
      simp (disch := omega) only [F179_153_139b2, L0, L1, L2, L3, L4, L5, L6, L7, L8, L9, L10, L11, L12, L13, L16, L20, L31, L32, L40, L48, L57, L59, L60, L61, L91, L93, L97, L99, L100, L102, L103, L114, L122, L255, L300, L400, L402, L999, L2280, L2500, L99999, L63, L1431655765, L858993459, L252645135, ic_ge, ic_gt, ic_le, ic_lt, ic_eq, ic_ne, if_lt, if_ge, if_gt, if_le, if_eq, if_ne, if_lt_zI, if_ge_zI, ic_ne_m1, ic_eq_m1, ic_nn_m1, ic_ee_m1, if_ne_b2i, if_eq_b2i, b2i_z, decide_eq_true_eq, decide_true, decide_false, Bool.not_eq_true, Bool.not_eq_true', Bool.not_true, Bool.not_false, decide_eq_false_iff_not, Bool.false_eq_true, not_false_eq_true, not_true_eq_false, if_true, if_false, ↓reduceIte, eq_self, Option.bind_some, Bool.true_and, Bool.false_and, Bool.and_true, Bool.and_false, nI_add, nI_subN, nI_clamp, gdF, gdF2, gdP, gdP2, zI_cl, zI_s, Lm1, nI_n0, zI_n0, leF, or_false, false_or, or_self, e]
      refine ih (c + 1) _ (by omega) h1 h2 (fun q hq => by rw [m_rAn hq]; exact h3 q hq) (fun i hi => ?_)
      by_cases ei : i = c
      · rw [ei, m_rAe, h3 23 (by decide)]
      · rw [m_rAi ei]
        exact h4 i (by omega)
  refine ep_succ (fun n => F179_153_139e0 n ..) ?_
  simp only [F179_153_139b0, L0]
  exact go 13 0 S (by decide) rfl rfl (fun _ _ => rfl) (fun i hi => absurd hi (Nat.not_lt_zero _))
theorem f179_154_140 {S : mS} : Ep (fun n => F179_154_140 n S) (fun z => Cpy S z.2 24 10 13) := by
  have go : ∀ (m c : Nat) (S1 : mS), c + m = 13 → S1.1 = S.1 → S1.2.2 = S.2.2 → (∀ q, q ≠ 10 → S1.2.1 q = S.2.1 q) → (∀ i, i < c → S1.2.1 10 i = S.2.1 24 i) → Ep (fun n => F179_154_140f n 2 (nI c) S1) (fun z => Cpy S z.2 24 10 13) := by
    intro m
    induction m with
    | zero =>
      intro c S1 hc h1 h2 h3 h4
      have ec : c = 13 := by omega
      subst ec
      refine ep_succ (fun n => F179_154_140e2 n ..) ?_
      simp (disch := omega) only [F179_154_140b2, L0, L1, L2, L3, L4, L5, L6, L7, L8, L9, L10, L11, L12, L13, L16, L20, L31, L32, L40, L48, L57, L59, L60, L61, L91, L93, L97, L99, L100, L102, L103, L114, L122, L255, L300, L400, L402, L999, L2280, L2500, L99999, L63, L1431655765, L858993459, L252645135, ic_ge, ic_gt, ic_le, ic_lt, ic_eq, ic_ne, if_lt, if_ge, if_gt, if_le, if_eq, if_ne, if_lt_zI, if_ge_zI, ic_ne_m1, ic_eq_m1, ic_nn_m1, ic_ee_m1, if_ne_b2i, if_eq_b2i, b2i_z, decide_eq_true_eq, decide_true, decide_false, Bool.not_eq_true, Bool.not_eq_true', Bool.not_true, Bool.not_false, decide_eq_false_iff_not, Bool.false_eq_true, not_false_eq_true, not_true_eq_false, if_true, if_false, ↓reduceIte, eq_self, Option.bind_some, Bool.true_and, Bool.false_and, Bool.and_true, Bool.and_false, nI_add, nI_subN, nI_clamp, gdF, gdF2, gdP, gdP2, zI_cl, zI_s, Lm1, nI_n0, zI_n0, leF, or_false, false_or, or_self, Nat.le_refl]
      exact ep_ret ⟨h1, h2, h3, h4⟩
    | succ m ih =>
      intro c S1 hc h1 h2 h3 h4
      have e : ¬ 13 ≤ c := by omega
      refine ep_succ (fun n => F179_154_140e2 n ..) ?_
      simp (disch := omega) only [F179_154_140b2, L0, L1, L2, L3, L4, L5, L6, L7, L8, L9, L10, L11, L12, L13, L16, L20, L31, L32, L40, L48, L57, L59, L60, L61, L91, L93, L97, L99, L100, L102, L103, L114, L122, L255, L300, L400, L402, L999, L2280, L2500, L99999, L63, L1431655765, L858993459, L252645135, ic_ge, ic_gt, ic_le, ic_lt, ic_eq, ic_ne, if_lt, if_ge, if_gt, if_le, if_eq, if_ne, if_lt_zI, if_ge_zI, ic_ne_m1, ic_eq_m1, ic_nn_m1, ic_ee_m1, if_ne_b2i, if_eq_b2i, b2i_z, decide_eq_true_eq, decide_true, decide_false, Bool.not_eq_true, Bool.not_eq_true', Bool.not_true, Bool.not_false, decide_eq_false_iff_not, Bool.false_eq_true, not_false_eq_true, not_true_eq_false, if_true, if_false, ↓reduceIte, eq_self, Option.bind_some, Bool.true_and, Bool.false_and, Bool.and_true, Bool.and_false, nI_add, nI_subN, nI_clamp, gdF, gdF2, gdP, gdP2, zI_cl, zI_s, Lm1, nI_n0, zI_n0, leF, or_false, false_or, or_self, e]
      refine ih (c + 1) _ (by omega) h1 h2 (fun q hq => by rw [m_rAn hq]; exact h3 q hq) (fun i hi => ?_)
      by_cases ei : i = c
      · rw [ei, m_rAe, h3 24 (by decide)]
      · rw [m_rAi ei]
        exact h4 i (by omega)
  refine ep_succ (fun n => F179_154_140e0 n ..) ?_
  simp only [F179_154_140b0, L0]
  exact go 13 0 S (by decide) rfl rfl (fun _ _ => rfl) (fun i hi => absurd hi (Nat.not_lt_zero _))
theorem f179_155_141 {S : mS} : Ep (fun n => F179_155_141 n S) (fun z => Cpy S z.2 25 11 13) := by
  have go : ∀ (m c : Nat) (S1 : mS), c + m = 13 → S1.1 = S.1 → S1.2.2 = S.2.2 → (∀ q, q ≠ 11 → S1.2.1 q = S.2.1 q) → (∀ i, i < c → S1.2.1 11 i = S.2.1 25 i) → Ep (fun n => F179_155_141f n 2 (nI c) S1) (fun z => Cpy S z.2 25 11 13) := by
    intro m
    induction m with
    | zero =>
      intro c S1 hc h1 h2 h3 h4
      have ec : c = 13 := by omega
      subst ec
      refine ep_succ (fun n => F179_155_141e2 n ..) ?_
      simp (disch := omega) only [F179_155_141b2, L0, L1, L2, L3, L4, L5, L6, L7, L8, L9, L10, L11, L12, L13, L16, L20, L31, L32, L40, L48, L57, L59, L60, L61, L91, L93, L97, L99, L100, L102, L103, L114, L122, L255, L300, L400, L402, L999, L2280, L2500, L99999, L63, L1431655765, L858993459, L252645135, ic_ge, ic_gt, ic_le, ic_lt, ic_eq, ic_ne, if_lt, if_ge, if_gt, if_le, if_eq, if_ne, if_lt_zI, if_ge_zI, ic_ne_m1, ic_eq_m1, ic_nn_m1, ic_ee_m1, if_ne_b2i, if_eq_b2i, b2i_z, decide_eq_true_eq, decide_true, decide_false, Bool.not_eq_true, Bool.not_eq_true', Bool.not_true, Bool.not_false, decide_eq_false_iff_not, Bool.false_eq_true, not_false_eq_true, not_true_eq_false, if_true, if_false, ↓reduceIte, eq_self, Option.bind_some, Bool.true_and, Bool.false_and, Bool.and_true, Bool.and_false, nI_add, nI_subN, nI_clamp, gdF, gdF2, gdP, gdP2, zI_cl, zI_s, Lm1, nI_n0, zI_n0, leF, or_false, false_or, or_self, Nat.le_refl]
      exact ep_ret ⟨h1, h2, h3, h4⟩
    | succ m ih =>
      intro c S1 hc h1 h2 h3 h4
      have e : ¬ 13 ≤ c := by omega
      refine ep_succ (fun n => F179_155_141e2 n ..) ?_
      simp (disch := omega) only [F179_155_141b2, L0, L1, L2, L3, L4, L5, L6, L7, L8, L9, L10, L11, L12, L13, L16, L20, L31, L32, L40, L48, L57, L59, L60, L61, L91, L93, L97, L99, L100, L102, L103, L114, L122, L255, L300, L400, L402, L999, L2280, L2500, L99999, L63, L1431655765, L858993459, L252645135, ic_ge, ic_gt, ic_le, ic_lt, ic_eq, ic_ne, if_lt, if_ge, if_gt, if_le, if_eq, if_ne, if_lt_zI, if_ge_zI, ic_ne_m1, ic_eq_m1, ic_nn_m1, ic_ee_m1, if_ne_b2i, if_eq_b2i, b2i_z, decide_eq_true_eq, decide_true, decide_false, Bool.not_eq_true, Bool.not_eq_true', Bool.not_true, Bool.not_false, decide_eq_false_iff_not, Bool.false_eq_true, not_false_eq_true, not_true_eq_false, if_true, if_false, ↓reduceIte, eq_self, Option.bind_some, Bool.true_and, Bool.false_and, Bool.and_true, Bool.and_false, nI_add, nI_subN, nI_clamp, gdF, gdF2, gdP, gdP2, zI_cl, zI_s, Lm1, nI_n0, zI_n0, leF, or_false, false_or, or_self, e]
      refine ih (c + 1) _ (by omega) h1 h2 (fun q hq => by rw [m_rAn hq]; exact h3 q hq) (fun i hi => ?_)
      by_cases ei : i = c
      · rw [ei, m_rAe, h3 25 (by decide)]
      · rw [m_rAi ei]
        exact h4 i (by omega)
  refine ep_succ (fun n => F179_155_141e0 n ..) ?_
  simp only [F179_155_141b0, L0]
  exact go 13 0 S (by decide) rfl rfl (fun _ _ => rfl) (fun i hi => absurd hi (Nat.not_lt_zero _))
theorem f158 {S : mS} {f : Nat → Nat} {L : Nat} (hH : MH S f L) (hl : S.1 26 = nI L) : Ep (fun n => F158 n S) (fun z => z.2.1 26 = nI 0 ∧ z.2.1 28 = nI (rvF f L 41 0 (stB 0) w0A 0).1 ∧ ((rvF f L 41 0 (stB 0) w0A 0).1 = 0 → MV z.2.2.1 (rvF f L 41 0 (stB 0) w0A 0).2.1 (rvF f L 41 0 (stB 0) w0A 0).2.2) ∧ (∀ q, (q < 16 ∨ 25 < q) → z.2.2.1 q = S.2.1 q) ∧ (∀ q, (q = 30 ∨ q = 35 ∨ q = 47) → z.2.1 q = S.1 q) ∧ z.2.2.2 = S.2.2) := by
  refine ep_succ (fun n => F158e0 n ..) ?_
  simp only [F158b0]
  have g9 : Ep (fun n => F159 n S) (fun z => MY z.2 z.2 L 0 0 ∧ (∀ q, (q = 30 ∨ q = 35 ∨ q = 47) → z.2.1 q = S.1 q) ∧ z.2.2 = S.2) := by
    refine ep_succ (fun n => F159e0 n ..) ?_
    simp only [F159b0, L0]
    refine ep_ret ⟨⟨?_, ?_, ?_, fun _ _ _ => rfl, rfl⟩, fun q hq => ?_, rfl⟩
    · rw [m_rIn (by decide), m_rIn (by decide), m_rIn (by decide), m_rIn (by decide), m_rIn (by decide)]
      exact hl
    · rw [m_rIn (by decide), m_rIn (by decide), m_rIn (by decide), m_rIn (by decide), m_rIe]
    · rw [m_rIn (by decide), m_rIn (by decide), m_rIn (by decide), m_rIe]
    · rw [m_rIn (by omega), m_rIn (by omega), m_rIn (by omega), m_rIn (by omega), m_rIn (by omega)]
  refine ep_bind g9 ?_
  rintro ⟨_, S1⟩ ⟨a1, a2, a3⟩
  have a1 : MY S1 S1 L 0 0 := a1
  have a2 : ∀ q, (q = 30 ∨ q = 35 ∨ q = 47) → S1.1 q = S.1 q := a2
  have a3 : S1.2 = S.2 := a3
  have hH1 : MH S1 f L := ⟨fun j hj => by rw [a3]; exact hH.1 j hj, hH.2⟩
  simp only [L0]
  have go : ∀ (m c : Nat) (S2 : mS), c + m = 5 → MF S1 S2 L 0 0 → (∀ j, j < c → S2.2.1 16 j = nI 0) → Ep (fun n => F158f n 6 (nI c) (nI 0) S2) (fun z => RmQ S1 (rvF f L 41 0 (stB 0) w0A 0) z.2) := by
    intro m
    induction m with
    | zero =>
      intro c S2 hc h1 h2
      have ec : c = 5 := by omega
      subst ec
      refine ep_succ (fun n => F158e6 n ..) ?_
      simp (disch := omega) only [F158b6, L0, L1, L2, L3, L4, L5, L6, L7, L8, L9, L10, L11, L12, L13, L16, L20, L31, L32, L40, L48, L57, L59, L60, L61, L91, L93, L97, L99, L100, L102, L103, L114, L122, L255, L300, L400, L402, L999, L2280, L2500, L99999, L63, L1431655765, L858993459, L252645135, ic_ge, ic_gt, ic_le, ic_lt, ic_eq, ic_ne, if_lt, if_ge, if_gt, if_le, if_eq, if_ne, if_lt_zI, if_ge_zI, ic_ne_m1, ic_eq_m1, ic_nn_m1, ic_ee_m1, if_ne_b2i, if_eq_b2i, b2i_z, decide_eq_true_eq, decide_true, decide_false, Bool.not_eq_true, Bool.not_eq_true', Bool.not_true, Bool.not_false, decide_eq_false_iff_not, Bool.false_eq_true, not_false_eq_true, not_true_eq_false, if_true, if_false, ↓reduceIte, eq_self, Option.bind_some, Bool.true_and, Bool.false_and, Bool.and_true, Bool.and_false, nI_add, nI_subN, nI_clamp, gdF, gdF2, gdP, gdP2, zI_cl, zI_s, Lm1, nI_n0, zI_n0, leF, or_false, false_or, or_self, Nat.le_refl]
      exact f158l hH1 41 0 (stB 0) w0A 0 S2 (by decide) (by decide) (Nat.zero_le _) OkR_0 h1 (MV_0 h2)
    | succ m ih =>
      intro c S2 hc h1 h2
      have e : ¬ 5 ≤ c := by omega
      refine ep_succ (fun n => F158e6 n ..) ?_
      simp (disch := omega) only [F158b6, L0, L1, L2, L3, L4, L5, L6, L7, L8, L9, L10, L11, L12, L13, L16, L20, L31, L32, L40, L48, L57, L59, L60, L61, L91, L93, L97, L99, L100, L102, L103, L114, L122, L255, L300, L400, L402, L999, L2280, L2500, L99999, L63, L1431655765, L858993459, L252645135, ic_ge, ic_gt, ic_le, ic_lt, ic_eq, ic_ne, if_lt, if_ge, if_gt, if_le, if_eq, if_ne, if_lt_zI, if_ge_zI, ic_ne_m1, ic_eq_m1, ic_nn_m1, ic_ee_m1, if_ne_b2i, if_eq_b2i, b2i_z, decide_eq_true_eq, decide_true, decide_false, Bool.not_eq_true, Bool.not_eq_true', Bool.not_true, Bool.not_false, decide_eq_false_iff_not, Bool.false_eq_true, not_false_eq_true, not_true_eq_false, if_true, if_false, ↓reduceIte, eq_self, Option.bind_some, Bool.true_and, Bool.false_and, Bool.and_true, Bool.and_false, nI_add, nI_subN, nI_clamp, gdF, gdF2, gdP, gdP2, zI_cl, zI_s, Lm1, nI_n0, zI_n0, leF, or_false, false_or, or_self, e]
      refine ih (c + 1) _ (by omega) (MF_sA h1 (by omega)) (fun j hj => ?_)
      by_cases ej : j = c
      · rw [ej, m_rAe]
      · rw [m_rAi ej]
        exact h2 j (by omega)
  refine ep_mono (go 5 0 S1 (by decide) ⟨a1, fun _ _ => rfl, fun _ _ _ => rfl, rfl⟩ (fun j hj => absurd hj (Nat.not_lt_zero _))) ?_
  rintro ⟨_, S3⟩ ⟨b1, b2, b3, b4, b5, b6⟩
  refine ⟨b1, b2, b3, fun q hq => ?_, fun q hq => ?_, ?_⟩
  · have := b4 q hq
    rw [this, a3]
  · have := b5 q (by omega) (by omega) (by omega)
    exact this.trans (a2 q hq)
  · exact b6.trans (by rw [a3])
theorem f157 {A : AA} {k : Nat} (ok : OkA k A) : CallM (fun n => F157 n) A (rivR A) (rivA A) := by
  intro S hS
  obtain ⟨e1, e2⟩ := rv_a ok
  have hL := ok.1
  have hH : MH S A.1.2 A.1.1 := ⟨hS.1.2, ok.1, ok.2.1⟩
  refine ep_succ (fun n => F157e0 n ..) ?_
  simp only [F157b0]
  refine ep_bind (f158 hH hS.1.1) ?_
  rintro ⟨_, S1⟩ ⟨a1, a2, a3, a4, a5, a6⟩
  have a1 : S1.1 26 = nI 0 := a1
  have a2 : S1.1 28 = nI (rvA A).1 := a2
  have a3 : (rvA A).1 = 0 → MV S1.2.1 (rvA A).2.1 (rvA A).2.2 := a3
  have a4 : ∀ q, (q < 16 ∨ 25 < q) → S1.2.1 q = S.2.1 q := a4
  have a5 : ∀ q, (q = 30 ∨ q = 35 ∨ q = 47) → S1.1 q = S.1 q := a5
  have hS0 := hS
  obtain ⟨_, ⟨r1, r2, r3⟩, ⟨d1, d2, d3, d4, d5, d6⟩, im⟩ := hS
  by_cases h0 : (rvA A).1 = 0
  · have mv := a3 h0
    obtain ⟨n, hn, okr⟩ := e2 h0
    have eA : rivA A = ((0, A.1.2), A.2.1, ((rvA A).2.1, (rvA A).2.2, [], A.2.2.1.2.2.2), A.2.2.2) := if_pos h0
    have eR : rivR A = nI ((rvA A).2.2.1 0 1) := if_pos h0
    rw [h0] at a2
    have c0 : am_if .le (S1.1 28) = true := by rw [a2]; decide
    rw [eA, eR]
    simp only [c0, if_true, L0]
    have st1 : ∀ (m c : Nat) (S2 : mS), c + m = 7 → S2.1 = S1.1 → S2.2.2 = S1.2.2 → (∀ q, q ≠ 1 → S2.2.1 q = S1.2.1 q) → (∀ j, j < c → S2.2.1 1 j = if j < 5 then S1.2.1 16 j else nI 0) → (∀ j, 7 ≤ j → S2.2.1 1 j = S1.2.1 1 j) → (∀ S3, S3.1 = S1.1 → S3.2.2 = S1.2.2 → (∀ q, q ≠ 1 → S3.2.1 q = S1.2.1 q) → (∀ j, j < 7 → S3.2.1 1 j = if j < 5 then S1.2.1 16 j else nI 0) → (∀ j, 7 ≤ j → S3.2.1 1 j = S1.2.1 1 j) → Ep (fun n => F157f n 21 (nI 7) S3) (fun z => z.1 = nI ((rvA A).2.2.1 0 1) ∧ RM ((0, A.1.2), A.2.1, ((rvA A).2.1, (rvA A).2.2, [], A.2.2.1.2.2.2), A.2.2.2) z.2)) → Ep (fun n => F157f n 21 (nI c) S2) (fun z => z.1 = nI ((rvA A).2.2.1 0 1) ∧ RM ((0, A.1.2), A.2.1, ((rvA A).2.1, (rvA A).2.2, [], A.2.2.1.2.2.2), A.2.2.2) z.2) := by
      intro m
      induction m with
      | zero =>
        intro c S2 hc h1 h2 h3 h4 h5 K
        have ec : c = 7 := by omega
        subst ec
        exact K S2 h1 h2 h3 h4 h5
      | succ m ih =>
        intro c S2 hc h1 h2 h3 h4 h5 K
        have e7 : ¬ 7 ≤ c := by omega
        have fin : ∀ v, v = (if c < 5 then S1.2.1 16 c else nI 0) → Ep (fun n => F157f n 21 (nI (c + 1)) (m_sA S2 1 c v)) (fun z => z.1 = nI ((rvA A).2.2.1 0 1) ∧ RM ((0, A.1.2), A.2.1, ((rvA A).2.1, (rvA A).2.2, [], A.2.2.1.2.2.2), A.2.2.2) z.2) := by
          intro v hv
          refine ih (c + 1) _ (by omega) h1 h2 (fun q hq => by rw [m_rAn hq]; exact h3 q hq) (fun j hj => ?_) (fun j hj => ?_) K
          · by_cases ej : j = c
            · rw [ej, m_rAe, hv]
            · rw [m_rAi ej]
              exact h4 j (by omega)
          · rw [m_rAi (by omega)]
            exact h5 j hj
        refine ep_succ (fun n => F157e21 n ..) ?_
        by_cases h5c : 5 ≤ c
        · simp (disch := omega) only [F157b21, L0, L1, L2, L3, L4, L5, L6, L7, L8, L9, L10, L11, L12, L13, L16, L20, L31, L32, L40, L48, L57, L59, L60, L61, L91, L93, L97, L99, L100, L102, L103, L114, L122, L255, L300, L400, L402, L999, L2280, L2500, L99999, L63, L1431655765, L858993459, L252645135, ic_ge, ic_gt, ic_le, ic_lt, ic_eq, ic_ne, if_lt, if_ge, if_gt, if_le, if_eq, if_ne, if_lt_zI, if_ge_zI, ic_ne_m1, ic_eq_m1, ic_nn_m1, ic_ee_m1, if_ne_b2i, if_eq_b2i, b2i_z, decide_eq_true_eq, decide_true, decide_false, Bool.not_eq_true, Bool.not_eq_true', Bool.not_true, Bool.not_false, decide_eq_false_iff_not, Bool.false_eq_true, not_false_eq_true, not_true_eq_false, if_true, if_false, ↓reduceIte, eq_self, Option.bind_some, Bool.true_and, Bool.false_and, Bool.and_true, Bool.and_false, nI_add, nI_subN, nI_clamp, gdF, gdF2, gdP, gdP2, zI_cl, zI_s, Lm1, nI_n0, zI_n0, leF, or_false, false_or, or_self, e7, h5c]
          exact fin (nI 0) (if_neg (by omega)).symm
        · have r16 : S2.2.1 16 c = S1.2.1 16 c := by rw [h3 16 (by decide)]
          simp (disch := omega) only [F157b21, L0, L1, L2, L3, L4, L5, L6, L7, L8, L9, L10, L11, L12, L13, L16, L20, L31, L32, L40, L48, L57, L59, L60, L61, L91, L93, L97, L99, L100, L102, L103, L114, L122, L255, L300, L400, L402, L999, L2280, L2500, L99999, L63, L1431655765, L858993459, L252645135, ic_ge, ic_gt, ic_le, ic_lt, ic_eq, ic_ne, if_lt, if_ge, if_gt, if_le, if_eq, if_ne, if_lt_zI, if_ge_zI, ic_ne_m1, ic_eq_m1, ic_nn_m1, ic_ee_m1, if_ne_b2i, if_eq_b2i, b2i_z, decide_eq_true_eq, decide_true, decide_false, Bool.not_eq_true, Bool.not_eq_true', Bool.not_true, Bool.not_false, decide_eq_false_iff_not, Bool.false_eq_true, not_false_eq_true, not_true_eq_false, if_true, if_false, ↓reduceIte, eq_self, Option.bind_some, Bool.true_and, Bool.false_and, Bool.and_true, Bool.and_false, nI_add, nI_subN, nI_clamp, gdF, gdF2, gdP, gdP2, zI_cl, zI_s, Lm1, nI_n0, zI_n0, leF, or_false, false_or, or_self, e7, h5c, r16]
          exact fin _ (if_pos (by omega)).symm
    refine st1 7 0 S1 (by decide) rfl rfl (fun _ _ => rfl) (fun j hj => absurd hj (Nat.not_lt_zero _)) (fun _ _ => rfl) (fun S3 h1 h2 h3 h4 h5 => ?_)
    refine ep_succ (fun n => F157e21 n ..) ?_
    simp (disch := omega) only [F157b21, L0, L1, L2, L3, L4, L5, L6, L7, L8, L9, L10, L11, L12, L13, L16, L20, L31, L32, L40, L48, L57, L59, L60, L61, L91, L93, L97, L99, L100, L102, L103, L114, L122, L255, L300, L400, L402, L999, L2280, L2500, L99999, L63, L1431655765, L858993459, L252645135, ic_ge, ic_gt, ic_le, ic_lt, ic_eq, ic_ne, if_lt, if_ge, if_gt, if_le, if_eq, if_ne, if_lt_zI, if_ge_zI, ic_ne_m1, ic_eq_m1, ic_nn_m1, ic_ee_m1, if_ne_b2i, if_eq_b2i, b2i_z, decide_eq_true_eq, decide_true, decide_false, Bool.not_eq_true, Bool.not_eq_true', Bool.not_true, Bool.not_false, decide_eq_false_iff_not, Bool.false_eq_true, not_false_eq_true, not_true_eq_false, if_true, if_false, ↓reduceIte, eq_self, Option.bind_some, Bool.true_and, Bool.false_and, Bool.and_true, Bool.and_false, nI_add, nI_subN, nI_clamp, gdF, gdF2, gdP, gdP2, zI_cl, zI_s, Lm1, nI_n0, zI_n0, leF, or_false, false_or, or_self, Nat.le_refl]
    refine ep_bind f179_147_132 ?_
    rintro ⟨_, T1⟩ p1
    have p1 : Cpy S3 T1 17 2 16 := p1
    refine ep_bind f179_148_133 ?_
    rintro ⟨_, T2⟩ p2
    have p2 : Cpy T1 T2 18 3 16 := p2
    refine ep_bind f179_149_134 ?_
    rintro ⟨_, T3⟩ p3
    have p3 : Cpy T2 T3 19 4 6 := p3
    refine ep_bind f179_150_135 ?_
    rintro ⟨_, T4⟩ p4
    have p4 : Cpy T3 T4 20 5 6 := p4
    refine ep_bind f179_151_137 ?_
    rintro ⟨_, T5⟩ p5
    have p5 : Cpy T4 T5 21 7 4 := p5
    refine ep_bind f179_152_138 ?_
    rintro ⟨_, T6⟩ p6
    have p6 : Cpy T5 T6 22 8 13 := p6
    refine ep_bind f179_153_139 ?_
    rintro ⟨_, T7⟩ p7
    have p7 : Cpy T6 T7 23 9 13 := p7
    refine ep_bind f179_154_140 ?_
    rintro ⟨_, T8⟩ p8
    have p8 : Cpy T7 T8 24 10 13 := p8
    refine ep_bind f179_155_141 ?_
    rintro ⟨_, T9⟩ p9
    have p9 : Cpy T8 T9 25 11 13 := p9
    have i9 : ∀ q, T9.1 q = S1.1 q := fun q => by rw [p9.1, p8.1, p7.1, p6.1, p5.1, p4.1, p3.1, p2.1, p1.1, h1]
    have k1 : ∀ j, T9.2.1 1 j = S3.2.1 1 j := fun j => by rw [p9.2.2.1 1 (by decide), p8.2.2.1 1 (by decide), p7.2.2.1 1 (by decide), p6.2.2.1 1 (by decide), p5.2.2.1 1 (by decide), p4.2.2.1 1 (by decide), p3.2.2.1 1 (by decide), p2.2.2.1 1 (by decide), p1.2.2.1 1 (by decide)]
    have k16 : ∀ q, 16 ≤ q → T9.2.1 q = S1.2.1 q := fun q hq => by rw [p9.2.2.1 q (by omega), p8.2.2.1 q (by omega), p7.2.2.1 q (by omega), p6.2.2.1 q (by omega), p5.2.2.1 q (by omega), p4.2.2.1 q (by omega), p3.2.2.1 q (by omega), p2.2.2.1 q (by omega), p1.2.2.1 q (by omega), h3 q (by omega)]
    simp only [L0]
    have st2 : ∀ (m c : Nat) (T : mS), c + m = 6 → T.1 = T9.1 → T.2.2 = T9.2.2 → (∀ q, q ≠ 6 → T.2.1 q = T9.2.1 q) → (∀ j, j < c → T.2.1 6 j = nI 0) → (∀ T', T'.1 = T9.1 → T'.2.2 = T9.2.2 → (∀ q, q ≠ 6 → T'.2.1 q = T9.2.1 q) → (∀ j, j < 6 → T'.2.1 6 j = nI 0) → Ep (fun n => F157f n 176 (nI 0) T') (fun z => z.1 = nI ((rvA A).2.2.1 0 1) ∧ RM ((0, A.1.2), A.2.1, ((rvA A).2.1, (rvA A).2.2, [], A.2.2.1.2.2.2), A.2.2.2) z.2)) → Ep (fun n => F157f n 155 (nI c) T) (fun z => z.1 = nI ((rvA A).2.2.1 0 1) ∧ RM ((0, A.1.2), A.2.1, ((rvA A).2.1, (rvA A).2.2, [], A.2.2.1.2.2.2), A.2.2.2) z.2) := by
      intro m
      induction m with
      | zero =>
        intro c T hc h1 h2 h3 h4 K
        have ec : c = 6 := by omega
        subst ec
        refine ep_succ (fun n => F157e155 n ..) ?_
        simp (disch := omega) only [F157b155, L0, L1, L2, L3, L4, L5, L6, L7, L8, L9, L10, L11, L12, L13, L16, L20, L31, L32, L40, L48, L57, L59, L60, L61, L91, L93, L97, L99, L100, L102, L103, L114, L122, L255, L300, L400, L402, L999, L2280, L2500, L99999, L63, L1431655765, L858993459, L252645135, ic_ge, ic_gt, ic_le, ic_lt, ic_eq, ic_ne, if_lt, if_ge, if_gt, if_le, if_eq, if_ne, if_lt_zI, if_ge_zI, ic_ne_m1, ic_eq_m1, ic_nn_m1, ic_ee_m1, if_ne_b2i, if_eq_b2i, b2i_z, decide_eq_true_eq, decide_true, decide_false, Bool.not_eq_true, Bool.not_eq_true', Bool.not_true, Bool.not_false, decide_eq_false_iff_not, Bool.false_eq_true, not_false_eq_true, not_true_eq_false, if_true, if_false, ↓reduceIte, eq_self, Option.bind_some, Bool.true_and, Bool.false_and, Bool.and_true, Bool.and_false, nI_add, nI_subN, nI_clamp, gdF, gdF2, gdP, gdP2, zI_cl, zI_s, Lm1, nI_n0, zI_n0, leF, or_false, false_or, or_self, Nat.le_refl]
        exact K T h1 h2 h3 h4
      | succ m ih =>
        intro c T hc h1 h2 h3 h4 K
        have e6 : ¬ 6 ≤ c := by omega
        refine ep_succ (fun n => F157e155 n ..) ?_
        simp (disch := omega) only [F157b155, L0, L1, L2, L3, L4, L5, L6, L7, L8, L9, L10, L11, L12, L13, L16, L20, L31, L32, L40, L48, L57, L59, L60, L61, L91, L93, L97, L99, L100, L102, L103, L114, L122, L255, L300, L400, L402, L999, L2280, L2500, L99999, L63, L1431655765, L858993459, L252645135, ic_ge, ic_gt, ic_le, ic_lt, ic_eq, ic_ne, if_lt, if_ge, if_gt, if_le, if_eq, if_ne, if_lt_zI, if_ge_zI, ic_ne_m1, ic_eq_m1, ic_nn_m1, ic_ee_m1, if_ne_b2i, if_eq_b2i, b2i_z, decide_eq_true_eq, decide_true, decide_false, Bool.not_eq_true, Bool.not_eq_true', Bool.not_true, Bool.not_false, decide_eq_false_iff_not, Bool.false_eq_true, not_false_eq_true, not_true_eq_false, if_true, if_false, ↓reduceIte, eq_self, Option.bind_some, Bool.true_and, Bool.false_and, Bool.and_true, Bool.and_false, nI_add, nI_subN, nI_clamp, gdF, gdF2, gdP, gdP2, zI_cl, zI_s, Lm1, nI_n0, zI_n0, leF, or_false, false_or, or_self, e6]
        refine ih (c + 1) _ (by omega) h1 h2 (fun q hq => by rw [m_rAn hq]; exact h3 q hq) (fun j hj => ?_) K
        by_cases ej : j = c
        · rw [ej, m_rAe]
        · rw [m_rAi ej]
          exact h4 j (by omega)
    refine st2 6 0 T9 (by decide) rfl rfl (fun _ _ => rfl) (fun j hj => absurd hj (Nat.not_lt_zero _)) (fun U u1 u2 u3 u4 => ?_)
    have st3 : ∀ (m c : Nat) (T : mS), c + m = 13 → T.1 = U.1 → T.2.2 = U.2.2 → (∀ q, q ≠ 12 → q ≠ 13 → q ≠ 14 → q ≠ 15 → T.2.1 q = U.2.1 q) → (∀ j, j < c → T.2.1 12 j = nI 0 ∧ T.2.1 13 j = nI 0 ∧ T.2.1 14 j = zI 0 ∧ T.2.1 15 j = zI 0) → (∀ T', T'.1 = U.1 → T'.2.2 = U.2.2 → (∀ q, q ≠ 12 → q ≠ 13 → q ≠ 14 → q ≠ 15 → T'.2.1 q = U.2.1 q) → (∀ j, j < 13 → T'.2.1 12 j = nI 0 ∧ T'.2.1 13 j = nI 0 ∧ T'.2.1 14 j = zI 0 ∧ T'.2.1 15 j = zI 0) → ((m_sI T' 47 (nI 0)).2.1 1 4 = nI ((rvA A).2.2.1 0 1) ∧ RM ((0, A.1.2), A.2.1, ((rvA A).2.1, (rvA A).2.2, [], A.2.2.1.2.2.2), A.2.2.2) (m_sI T' 47 (nI 0)))) → Ep (fun n => F157f n 176 (nI c) T) (fun z => z.1 = nI ((rvA A).2.2.1 0 1) ∧ RM ((0, A.1.2), A.2.1, ((rvA A).2.1, (rvA A).2.2, [], A.2.2.1.2.2.2), A.2.2.2) z.2) := by
      intro m
      induction m with
      | zero =>
        intro c T hc h1 h2 h3 h4 K
        have ec : c = 13 := by omega
        subst ec
        refine ep_succ (fun n => F157e176 n ..) ?_
        simp (disch := omega) only [F157b176, L0, L1, L2, L3, L4, L5, L6, L7, L8, L9, L10, L11, L12, L13, L16, L20, L31, L32, L40, L48, L57, L59, L60, L61, L91, L93, L97, L99, L100, L102, L103, L114, L122, L255, L300, L400, L402, L999, L2280, L2500, L99999, L63, L1431655765, L858993459, L252645135, ic_ge, ic_gt, ic_le, ic_lt, ic_eq, ic_ne, if_lt, if_ge, if_gt, if_le, if_eq, if_ne, if_lt_zI, if_ge_zI, ic_ne_m1, ic_eq_m1, ic_nn_m1, ic_ee_m1, if_ne_b2i, if_eq_b2i, b2i_z, decide_eq_true_eq, decide_true, decide_false, Bool.not_eq_true, Bool.not_eq_true', Bool.not_true, Bool.not_false, decide_eq_false_iff_not, Bool.false_eq_true, not_false_eq_true, not_true_eq_false, if_true, if_false, ↓reduceIte, eq_self, Option.bind_some, Bool.true_and, Bool.false_and, Bool.and_true, Bool.and_false, nI_add, nI_subN, nI_clamp, gdF, gdF2, gdP, gdP2, zI_cl, zI_s, Lm1, nI_n0, zI_n0, leF, or_false, false_or, or_self, Nat.le_refl]
        exact ep_ret (K T h1 h2 h3 h4)
      | succ m ih =>
        intro c T hc h1 h2 h3 h4 K
        have e13 : ¬ 13 ≤ c := by omega
        refine ep_succ (fun n => F157e176 n ..) ?_
        simp (disch := omega) only [F157b176, L0, L1, L2, L3, L4, L5, L6, L7, L8, L9, L10, L11, L12, L13, L16, L20, L31, L32, L40, L48, L57, L59, L60, L61, L91, L93, L97, L99, L100, L102, L103, L114, L122, L255, L300, L400, L402, L999, L2280, L2500, L99999, L63, L1431655765, L858993459, L252645135, ic_ge, ic_gt, ic_le, ic_lt, ic_eq, ic_ne, if_lt, if_ge, if_gt, if_le, if_eq, if_ne, if_lt_zI, if_ge_zI, ic_ne_m1, ic_eq_m1, ic_nn_m1, ic_ee_m1, if_ne_b2i, if_eq_b2i, b2i_z, decide_eq_true_eq, decide_true, decide_false, Bool.not_eq_true, Bool.not_eq_true', Bool.not_true, Bool.not_false, decide_eq_false_iff_not, Bool.false_eq_true, not_false_eq_true, not_true_eq_false, if_true, if_false, ↓reduceIte, eq_self, Option.bind_some, Bool.true_and, Bool.false_and, Bool.and_true, Bool.and_false, nI_add, nI_subN, nI_clamp, gdF, gdF2, gdP, gdP2, zI_cl, zI_s, Lm1, nI_n0, zI_n0, leF, or_false, false_or, or_self, e13]
        refine ih (c + 1) _ (by omega) h1 h2 (fun q q1 q2 q3 q4 => by rw [m_rAn q4, m_rAn q3, m_rAn q2, m_rAn q1]; exact h3 q q1 q2 q3 q4) (fun j hj => ?_) K
        by_cases ej : j = c
        · subst ej
          refine ⟨?_, ?_, ?_, ?_⟩
          · rw [m_rAn (by decide), m_rAn (by decide), m_rAn (by decide), m_rAe]
          · rw [m_rAn (by decide), m_rAn (by decide), m_rAe]
          · rw [m_rAn (by decide), m_rAe]
          · rw [m_rAe]
        · obtain ⟨x1, x2, x3, x4⟩ := h4 j (by omega)
          refine ⟨?_, ?_, ?_, ?_⟩
          · rw [m_rAn (by decide), m_rAn (by decide), m_rAn (by decide), m_rAi ej]
            exact x1
          · rw [m_rAn (by decide), m_rAn (by decide), m_rAi ej, m_rAn (by decide)]
            exact x2
          · rw [m_rAn (by decide), m_rAi ej, m_rAn (by decide), m_rAn (by decide)]
            exact x3
          · rw [m_rAi ej, m_rAn (by decide), m_rAn (by decide), m_rAn (by decide)]
            exact x4
    refine st3 13 0 U (by decide) rfl rfl (fun _ _ _ _ _ => rfl) (fun j hj => absurd hj (Nat.not_lt_zero _)) (fun V v1 v2 v3 v4 => ?_)
    obtain ⟨w1, w2, w3, w4⟩ := mv
    obtain ⟨hbo, okw, d0, n10, sh, n5, p0, fr, _, _⟩ := okr
    have iV : ∀ q, V.1 q = S1.1 q := fun q => by rw [v1, u1]; exact i9 q
    have r1V : ∀ j, V.2.1 1 j = S3.2.1 1 j := fun j => by rw [v3 1 (by decide) (by decide) (by decide) (by decide), u3 1 (by decide)]; exact k1 j
    have rlo : ∀ q, 16 ≤ q → V.2.1 q = S1.2.1 q := fun q hq => by
      rw [v3 q (by omega) (by omega) (by omega) (by omega), u3 q (by omega)]
      exact k16 q hq
    have rN1 : ∀ j, j < 5 → V.2.1 1 j = rN S1.2.1 1 j := fun j hj => by
      rw [r1V, h4 j (by omega), if_pos hj]
      rfl
    have row2 : ∀ j, j < 16 → V.2.1 2 j = S1.2.1 17 j := fun j hj => by
      rw [v3 2 (by decide) (by decide) (by decide) (by decide), u3 2 (by decide), p9.2.2.1 2 (by decide), p8.2.2.1 2 (by decide), p7.2.2.1 2 (by decide), p6.2.2.1 2 (by decide), p5.2.2.1 2 (by decide), p4.2.2.1 2 (by decide), p3.2.2.1 2 (by decide), p2.2.2.1 2 (by decide), p1.2.2.2 j hj, h3 17 (by decide)]
    have row3 : ∀ j, j < 16 → V.2.1 3 j = S1.2.1 18 j := fun j hj => by
      rw [v3 3 (by decide) (by decide) (by decide) (by decide), u3 3 (by decide), p9.2.2.1 3 (by decide), p8.2.2.1 3 (by decide), p7.2.2.1 3 (by decide), p6.2.2.1 3 (by decide), p5.2.2.1 3 (by decide), p4.2.2.1 3 (by decide), p3.2.2.1 3 (by decide), p2.2.2.2 j hj, p1.2.2.1 18 (by decide), h3 18 (by decide)]
    have row4 : ∀ j, j < 6 → V.2.1 4 j = S1.2.1 19 j := fun j hj => by
      rw [v3 4 (by decide) (by decide) (by decide) (by decide), u3 4 (by decide), p9.2.2.1 4 (by decide), p8.2.2.1 4 (by decide), p7.2.2.1 4 (by decide), p6.2.2.1 4 (by decide), p5.2.2.1 4 (by decide), p4.2.2.1 4 (by decide), p3.2.2.2 j hj, p2.2.2.1 19 (by decide), p1.2.2.1 19 (by decide), h3 19 (by decide)]
    have row5 : ∀ j, j < 6 → V.2.1 5 j = S1.2.1 20 j := fun j hj => by
      rw [v3 5 (by decide) (by decide) (by decide) (by decide), u3 5 (by decide), p9.2.2.1 5 (by decide), p8.2.2.1 5 (by decide), p7.2.2.1 5 (by decide), p6.2.2.1 5 (by decide), p5.2.2.1 5 (by decide), p4.2.2.2 j hj, p3.2.2.1 20 (by decide), p2.2.2.1 20 (by decide), p1.2.2.1 20 (by decide), h3 20 (by decide)]
    have row7 : ∀ j, j < 4 → V.2.1 7 j = S1.2.1 21 j := fun j hj => by
      rw [v3 7 (by decide) (by decide) (by decide) (by decide), u3 7 (by decide), p9.2.2.1 7 (by decide), p8.2.2.1 7 (by decide), p7.2.2.1 7 (by decide), p6.2.2.1 7 (by decide), p5.2.2.2 j hj, p4.2.2.1 21 (by decide), p3.2.2.1 21 (by decide), p2.2.2.1 21 (by decide), p1.2.2.1 21 (by decide), h3 21 (by decide)]
    have row8 : ∀ j, j < 13 → V.2.1 8 j = S1.2.1 22 j := fun j hj => by
      rw [v3 8 (by decide) (by decide) (by decide) (by decide), u3 8 (by decide), p9.2.2.1 8 (by decide), p8.2.2.1 8 (by decide), p7.2.2.1 8 (by decide), p6.2.2.2 j hj, p5.2.2.1 22 (by decide), p4.2.2.1 22 (by decide), p3.2.2.1 22 (by decide), p2.2.2.1 22 (by decide), p1.2.2.1 22 (by decide), h3 22 (by decide)]
    have row9 : ∀ j, j < 13 → V.2.1 9 j = S1.2.1 23 j := fun j hj => by
      rw [v3 9 (by decide) (by decide) (by decide) (by decide), u3 9 (by decide), p9.2.2.1 9 (by decide), p8.2.2.1 9 (by decide), p7.2.2.2 j hj, p6.2.2.1 23 (by decide), p5.2.2.1 23 (by decide), p4.2.2.1 23 (by decide), p3.2.2.1 23 (by decide), p2.2.2.1 23 (by decide), p1.2.2.1 23 (by decide), h3 23 (by decide)]
    have row10 : ∀ j, j < 13 → V.2.1 10 j = S1.2.1 24 j := fun j hj => by
      rw [v3 10 (by decide) (by decide) (by decide) (by decide), u3 10 (by decide), p9.2.2.1 10 (by decide), p8.2.2.2 j hj, p7.2.2.1 24 (by decide), p6.2.2.1 24 (by decide), p5.2.2.1 24 (by decide), p4.2.2.1 24 (by decide), p3.2.2.1 24 (by decide), p2.2.2.1 24 (by decide), p1.2.2.1 24 (by decide), h3 24 (by decide)]
    have row11 : ∀ j, j < 13 → V.2.1 11 j = S1.2.1 25 j := fun j hj => by
      rw [v3 11 (by decide) (by decide) (by decide) (by decide), u3 11 (by decide), p9.2.2.2 j hj, p8.2.2.1 25 (by decide), p7.2.2.1 25 (by decide), p6.2.2.1 25 (by decide), p5.2.2.1 25 (by decide), p4.2.2.1 25 (by decide), p3.2.2.1 25 (by decide), p2.2.2.1 25 (by decide), p1.2.2.1 25 (by decide), h3 25 (by decide)]
    refine ⟨?_, ⟨?_, fun i hi => absurd hi (Nat.not_lt_zero _)⟩, ⟨?_, ?_, fun r hr => ?_⟩, ⟨?_, ⟨?_, ?_, ?_, fun s hs => ?_, fun j hj => ?_, ?_⟩, ?_, fun j v hj => ?_, ?_, ?_⟩, ?_⟩
    · show V.2.1 1 4 = _
      rw [rN1 4 (by decide)]
      exact w2
    · show (m_sI V 47 (nI 0)).1 26 = nI 0
      rw [m_rIn (by decide), iV]
      exact a1
    · show (m_sI V 47 (nI 0)).1 30 = _
      rw [m_rIn (by decide), iV, a5 30 (by omega)]
      exact r1
    · show (m_sI V 47 (nI 0)).1 35 = _
      rw [m_rIn (by decide), iV, a5 35 (by omega)]
      exact r2
    · exact LMr_of (r3 r hr) (fun q j q1 q2 => by
        show V.2.1 q j = S.2.1 q j
        rw [rlo q (by omega), a4 q (by omega)])
    · refine MB_r w1 hbo (fun q j hq => ?_)
      show V.2.1 q j = rN S1.2.1 q j
      rcases hq with ⟨rfl, hj⟩ | ⟨q1, q2, hj⟩ | ⟨q1, q2, hj⟩ | ⟨rfl, hj⟩
      · exact rN1 j (by omega)
      · have : q = 2 ∨ q = 3 := by omega
        rcases this with rfl | rfl
        · exact row2 j hj
        · exact row3 j hj
      · have : q = 4 ∨ q = 5 := by omega
        rcases this with rfl | rfl
        · exact row4 j hj
        · exact row5 j hj
      · exact row7 j hj
    · show V.2.1 1 4 = _
      rw [rN1 4 (by decide)]
      exact w2
    · show V.2.1 1 6 = nI ((rvA A).2.2.1 0 0)
      rw [r1V, h4 6 (by decide), if_neg (by decide), d0]
    · show V.2.1 1 5 = (rvA A).2.2.2
      rw [r1V, h4 5 (by decide), if_neg (by decide), sh]
    · have hs : s < (rvA A).2.2.1 0 1 := hs
      obtain ⟨f3, f4, f5, f6, f1⟩ := fr s hs
      obtain ⟨x1, x2⟩ := w3 s hs
      obtain ⟨y1, y2, y3, y4⟩ := v4 s (by omega)
      refine ⟨fun _ => ⟨?_, ?_⟩, ?_, ?_, ?_, ?_⟩
      · show V.2.1 10 s = nI ((rvA A).2.2.1 1 s - 1)
        rw [row10 s (by omega)]
        exact x1
      · show V.2.1 12 s = nI ((rvA A).2.2.1 3 s)
        rw [y1, f3]
      · show V.2.1 11 s = nI ((rvA A).2.2.1 2 s)
        rw [row11 s (by omega)]
        exact x2
      · show V.2.1 13 s = nI ((rvA A).2.2.1 4 s)
        rw [y2, f4]
      · show V.2.1 14 s = zI ((rvA A).2.2.1 5 s)
        rw [y3, f5]
      · show V.2.1 15 s = zI ((rvA A).2.2.1 6 s)
        rw [y4, f6]
    · show V.2.1 6 j = nI ((rvA A).2.2.1 8 j)
      rw [v3 6 (by decide) (by decide) (by decide) (by decide), u4 j hj, p0 j hj]
    · exact MN_r w4 (rN1 3 (by decide)) (fun j hj => row8 j hj) (fun j hj => row9 j hj)
    · show (m_sI V 47 (nI 0)).1 47 = nI 0
      exact m_rIe
    · exact absurd hj (by simp)
    · show V.2.1 1 8 = _
      rw [r1V, h5 8 (by decide), a4 1 (by omega)]
      exact d5
    · show V.2.1 1 7 = _
      rw [r1V, h5 7 (by decide), a4 1 (by omega)]
      exact d6
    · exact IM_r (A := A) ok im (fun j _ => by
        show V.2.1 40 j = S.2.1 40 j
        rw [rlo 40 (by decide), a4 40 (by omega)]) (fun j _ => by
        show V.2.1 41 j = S.2.1 41 j
        rw [rlo 41 (by decide), a4 41 (by omega)])
  · have eA : rivA A = ((0, A.1.2), A.2) := if_neg h0
    have eR : rivR A = (-2) - nI (rvA A).1 := if_neg h0
    have c0 : am_if .le (S1.1 28) = false := by
      rw [a2, if_le (by omega)]
      exact decide_eq_false (by omega)
    rw [eA, eR]
    simp only [c0, Bool.false_eq_true, if_false]
    simp only [a2]
    refine ep_ret ⟨rfl, RM_keep ok hS0 rfl rfl ⟨rfl, rfl, rfl⟩ ⟨a1, fun i hi => absurd hi (Nat.not_lt_zero _)⟩ ?_ ?_ ⟨a5 30 (by omega), a5 35 (by omega), a5 47 (by omega)⟩ (fun q j hq => ?_)⟩
    · show S1.2.1 1 8 = _
      rw [a4 1 (by omega)]
      exact d5
    · show S1.2.1 1 7 = _
      rw [a4 1 (by omega)]
      exact d6
    · show S1.2.1 q j = S.2.1 q j
      rw [a4 q (by omega)]
theorem sm_river {k : Nat} (A : AA) (ok : OkA k A) : ∃ r A', OkA (k + 1) A' ∧ CallT (fun n => G15 n) A r A' ∧ CallM (fun n => F157 n) A r A' := by
  refine ⟨rivR A, rivA A, ?_, g15 ok, f157 ok⟩
  by_cases h0 : (rvA A).1 = 0
  · obtain ⟨n, hn, okr⟩ := (rv_a ok).2 h0
    exact rv_ok ok hn h0 okr
  · exact rv_ok' ok h0
