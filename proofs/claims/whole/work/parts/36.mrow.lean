/-! the reference: searches, beds, waters -/
def fdx (f : Nat → Nat) (x : Nat) : Nat → Nat → Nat
  | 0, _ => 0
  | m + 1, j => if f j = x then j + 1 else fdx f x m (j + 1)
theorem fdx_0 {f : Nat → Nat} {x : Nat} : ∀ m j, fdx f x m j = 0 → ∀ k, j ≤ k → k < j + m → f k ≠ x
  | 0, j, _, k, h1, h2 => by omega
  | m + 1, j, h, k, h1, h2 => by
    unfold fdx at h
    by_cases e : f j = x
    · rw [if_pos e] at h
      omega
    · rw [if_neg e] at h
      by_cases ek : k = j
      · rw [ek]
        exact e
      · exact fdx_0 m (j + 1) h k (by omega) (by omega)
theorem fdx_s {f : Nat → Nat} {x k : Nat} : ∀ m j, fdx f x m j = k + 1 → j ≤ k ∧ k < j + m ∧ f k = x
  | 0, j, h => by unfold fdx at h; omega
  | m + 1, j, h => by
    unfold fdx at h
    by_cases e : f j = x
    · rw [if_pos e] at h
      have : j = k := by omega
      subst this
      exact ⟨Nat.le_refl _, by omega, e⟩
    · rw [if_neg e] at h
      have := fdx_s m (j + 1) h
      exact ⟨by omega, by omega, this.2.2⟩
theorem fdx_le {f : Nat → Nat} {x m j : Nat} : fdx f x m j ≤ j + m := by
  cases h : fdx f x m j with
  | zero => omega
  | succ k =>
    have := fdx_s m j h
    omega
theorem f176_134l {S : mS} {f : Nat → Nat} {N c : Nat} (hN : N ≤ 6) (hc : c < 1000000) (hf : ∀ k, k < N → f k < 1000000 ∧ S.2.1 4 k = nI (f k)) : ∀ m j, j + m = N → Ev (fun n => F176_134f n 2 (nI N) (nI c) (nI j) S) (zI (fdx f c m j), S) := by
  intro m
  induction m with
  | zero =>
    intro j hj
    refine ev_succ (fun n => F176_134e2 n ..) ?_
    have e : N ≤ j := by omega
    simp (disch := omega) only [F176_134b2, L0, L1, L2, L3, L4, L5, L6, L7, L8, L9, L10, L11, L12, L13, L16, L20, L31, L32, L40, L48, L57, L59, L60, L61, L91, L93, L97, L99, L100, L102, L103, L114, L122, L255, L300, L400, L402, L999, L2280, L2500, L99999, L63, L1431655765, L858993459, L252645135, ic_ge, ic_gt, ic_le, ic_lt, ic_eq, ic_ne, if_lt, if_ge, if_gt, if_le, if_eq, if_ne, if_lt_zI, if_ge_zI, ic_ne_m1, ic_eq_m1, ic_nn_m1, ic_ee_m1, if_ne_b2i, if_eq_b2i, b2i_z, decide_eq_true_eq, decide_true, decide_false, Bool.not_eq_true, Bool.not_eq_true', Bool.not_true, Bool.not_false, decide_eq_false_iff_not, Bool.false_eq_true, not_false_eq_true, not_true_eq_false, if_true, if_false, ↓reduceIte, eq_self, Option.bind_some, Bool.true_and, Bool.false_and, Bool.and_true, Bool.and_false, nI_add, nI_subN, nI_clamp, gdF, gdF2, gdP, zI_cl, zI_s, Lm1, e]
    exact ev_ret
  | succ m ih =>
    intro j hj
    refine ev_succ (fun n => F176_134e2 n ..) ?_
    have e : ¬ N ≤ j := by omega
    obtain ⟨h1, h2⟩ := hf j (by omega)
    simp (disch := omega) only [F176_134b2, L0, L1, L2, L3, L4, L5, L6, L7, L8, L9, L10, L11, L12, L13, L16, L20, L31, L32, L40, L48, L57, L59, L60, L61, L91, L93, L97, L99, L100, L102, L103, L114, L122, L255, L300, L400, L402, L999, L2280, L2500, L99999, L63, L1431655765, L858993459, L252645135, ic_ge, ic_gt, ic_le, ic_lt, ic_eq, ic_ne, if_lt, if_ge, if_gt, if_le, if_eq, if_ne, if_lt_zI, if_ge_zI, ic_ne_m1, ic_eq_m1, ic_nn_m1, ic_ee_m1, if_ne_b2i, if_eq_b2i, b2i_z, decide_eq_true_eq, decide_true, decide_false, Bool.not_eq_true, Bool.not_eq_true', Bool.not_true, Bool.not_false, decide_eq_false_iff_not, Bool.false_eq_true, not_false_eq_true, not_true_eq_false, if_true, if_false, ↓reduceIte, eq_self, Option.bind_some, Bool.true_and, Bool.false_and, Bool.and_true, Bool.and_false, nI_add, nI_subN, nI_clamp, gdF, gdF2, gdP, zI_cl, zI_s, Lm1, e, h2]
    unfold fdx
    by_cases he : f j = c
    · simp only [he, decide_eq_true_eq, decide_true, decide_false, Bool.not_eq_true, Bool.not_eq_true', Bool.not_true, Bool.not_false, decide_eq_false_iff_not, Bool.false_eq_true, not_false_eq_true, not_true_eq_false, if_true, if_false, ↓reduceIte, eq_self, Option.bind_some, Bool.true_and, Bool.false_and, Bool.and_true, Bool.and_false]
      rw [zI_s]
      exact ev_ret
    · simp only [he, decide_eq_true_eq, decide_true, decide_false, Bool.not_eq_true, Bool.not_eq_true', Bool.not_true, Bool.not_false, decide_eq_false_iff_not, Bool.false_eq_true, not_false_eq_true, not_true_eq_false, if_true, if_false, ↓reduceIte, eq_self, Option.bind_some, Bool.true_and, Bool.false_and, Bool.and_true, Bool.and_false]
      exact ih (j + 1) (by omega)
theorem f176_134 {S : mS} {f : Nat → Nat} {N c : Nat} (hN : N ≤ 6) (hc : c < 1000000) (hf : ∀ k, k < N → f k < 1000000 ∧ S.2.1 4 k = nI (f k)) : Ev (fun n => F176_134 n (nI N) (nI c) S) (zI (fdx f c N 0), S) := by
  refine ev_succ (fun n => F176_134e0 n ..) ?_
  simp only [F176_134b0, L0]
  exact f176_134l hN hc hf N 0 (by omega)
theorem f176_137l {S : mS} {f : Nat → Nat} {N c : Nat} (hN : N ≤ 4) (hc : c < 1000000) (hf : ∀ k, k < N → f k < 1000000 ∧ S.2.1 7 k = nI (f k)) : ∀ m j, j + m = N → Ev (fun n => F176_137f n 2 (nI N) (nI c) (nI j) S) (zI (fdx f c m j), S) := by
  intro m
  induction m with
  | zero =>
    intro j hj
    refine ev_succ (fun n => F176_137e2 n ..) ?_
    have e : N ≤ j := by omega
    simp (disch := omega) only [F176_137b2, L0, L1, L2, L3, L4, L5, L6, L7, L8, L9, L10, L11, L12, L13, L16, L20, L31, L32, L40, L48, L57, L59, L60, L61, L91, L93, L97, L99, L100, L102, L103, L114, L122, L255, L300, L400, L402, L999, L2280, L2500, L99999, L63, L1431655765, L858993459, L252645135, ic_ge, ic_gt, ic_le, ic_lt, ic_eq, ic_ne, if_lt, if_ge, if_gt, if_le, if_eq, if_ne, if_lt_zI, if_ge_zI, ic_ne_m1, ic_eq_m1, ic_nn_m1, ic_ee_m1, if_ne_b2i, if_eq_b2i, b2i_z, decide_eq_true_eq, decide_true, decide_false, Bool.not_eq_true, Bool.not_eq_true', Bool.not_true, Bool.not_false, decide_eq_false_iff_not, Bool.false_eq_true, not_false_eq_true, not_true_eq_false, if_true, if_false, ↓reduceIte, eq_self, Option.bind_some, Bool.true_and, Bool.false_and, Bool.and_true, Bool.and_false, nI_add, nI_subN, nI_clamp, gdF, gdF2, gdP, zI_cl, zI_s, Lm1, e]
    exact ev_ret
  | succ m ih =>
    intro j hj
    refine ev_succ (fun n => F176_137e2 n ..) ?_
    have e : ¬ N ≤ j := by omega
    obtain ⟨h1, h2⟩ := hf j (by omega)
    simp (disch := omega) only [F176_137b2, L0, L1, L2, L3, L4, L5, L6, L7, L8, L9, L10, L11, L12, L13, L16, L20, L31, L32, L40, L48, L57, L59, L60, L61, L91, L93, L97, L99, L100, L102, L103, L114, L122, L255, L300, L400, L402, L999, L2280, L2500, L99999, L63, L1431655765, L858993459, L252645135, ic_ge, ic_gt, ic_le, ic_lt, ic_eq, ic_ne, if_lt, if_ge, if_gt, if_le, if_eq, if_ne, if_lt_zI, if_ge_zI, ic_ne_m1, ic_eq_m1, ic_nn_m1, ic_ee_m1, if_ne_b2i, if_eq_b2i, b2i_z, decide_eq_true_eq, decide_true, decide_false, Bool.not_eq_true, Bool.not_eq_true', Bool.not_true, Bool.not_false, decide_eq_false_iff_not, Bool.false_eq_true, not_false_eq_true, not_true_eq_false, if_true, if_false, ↓reduceIte, eq_self, Option.bind_some, Bool.true_and, Bool.false_and, Bool.and_true, Bool.and_false, nI_add, nI_subN, nI_clamp, gdF, gdF2, gdP, zI_cl, zI_s, Lm1, e, h2]
    unfold fdx
    by_cases he : f j = c
    · simp only [he, decide_eq_true_eq, decide_true, decide_false, Bool.not_eq_true, Bool.not_eq_true', Bool.not_true, Bool.not_false, decide_eq_false_iff_not, Bool.false_eq_true, not_false_eq_true, not_true_eq_false, if_true, if_false, ↓reduceIte, eq_self, Option.bind_some, Bool.true_and, Bool.false_and, Bool.and_true, Bool.and_false]
      rw [zI_s]
      exact ev_ret
    · simp only [he, decide_eq_true_eq, decide_true, decide_false, Bool.not_eq_true, Bool.not_eq_true', Bool.not_true, Bool.not_false, decide_eq_false_iff_not, Bool.false_eq_true, not_false_eq_true, not_true_eq_false, if_true, if_false, ↓reduceIte, eq_self, Option.bind_some, Bool.true_and, Bool.false_and, Bool.and_true, Bool.and_false]
      exact ih (j + 1) (by omega)
theorem f176_137 {S : mS} {f : Nat → Nat} {N c : Nat} (hN : N ≤ 4) (hc : c < 1000000) (hf : ∀ k, k < N → f k < 1000000 ∧ S.2.1 7 k = nI (f k)) : Ev (fun n => F176_137 n (nI N) (nI c) S) (zI (fdx f c N 0), S) := by
  refine ev_succ (fun n => F176_137e0 n ..) ?_
  simp only [F176_137b0, L0]
  exact f176_137l hN hc hf N 0 (by omega)
theorem f176_138l {S : mS} {f : Nat → Nat} {N c : Nat} (hN : N ≤ 13) (hc : c < 1000000) (hf : ∀ k, k < N → f k < 1000000 ∧ S.2.1 8 k = nI (f k)) : ∀ m j, j + m = N → Ev (fun n => F176_138f n 2 (nI N) (nI c) (nI j) S) (zI (fdx f c m j), S) := by
  intro m
  induction m with
  | zero =>
    intro j hj
    refine ev_succ (fun n => F176_138e2 n ..) ?_
    have e : N ≤ j := by omega
    simp (disch := omega) only [F176_138b2, L0, L1, L2, L3, L4, L5, L6, L7, L8, L9, L10, L11, L12, L13, L16, L20, L31, L32, L40, L48, L57, L59, L60, L61, L91, L93, L97, L99, L100, L102, L103, L114, L122, L255, L300, L400, L402, L999, L2280, L2500, L99999, L63, L1431655765, L858993459, L252645135, ic_ge, ic_gt, ic_le, ic_lt, ic_eq, ic_ne, if_lt, if_ge, if_gt, if_le, if_eq, if_ne, if_lt_zI, if_ge_zI, ic_ne_m1, ic_eq_m1, ic_nn_m1, ic_ee_m1, if_ne_b2i, if_eq_b2i, b2i_z, decide_eq_true_eq, decide_true, decide_false, Bool.not_eq_true, Bool.not_eq_true', Bool.not_true, Bool.not_false, decide_eq_false_iff_not, Bool.false_eq_true, not_false_eq_true, not_true_eq_false, if_true, if_false, ↓reduceIte, eq_self, Option.bind_some, Bool.true_and, Bool.false_and, Bool.and_true, Bool.and_false, nI_add, nI_subN, nI_clamp, gdF, gdF2, gdP, zI_cl, zI_s, Lm1, e]
    exact ev_ret
  | succ m ih =>
    intro j hj
    refine ev_succ (fun n => F176_138e2 n ..) ?_
    have e : ¬ N ≤ j := by omega
    obtain ⟨h1, h2⟩ := hf j (by omega)
    simp (disch := omega) only [F176_138b2, L0, L1, L2, L3, L4, L5, L6, L7, L8, L9, L10, L11, L12, L13, L16, L20, L31, L32, L40, L48, L57, L59, L60, L61, L91, L93, L97, L99, L100, L102, L103, L114, L122, L255, L300, L400, L402, L999, L2280, L2500, L99999, L63, L1431655765, L858993459, L252645135, ic_ge, ic_gt, ic_le, ic_lt, ic_eq, ic_ne, if_lt, if_ge, if_gt, if_le, if_eq, if_ne, if_lt_zI, if_ge_zI, ic_ne_m1, ic_eq_m1, ic_nn_m1, ic_ee_m1, if_ne_b2i, if_eq_b2i, b2i_z, decide_eq_true_eq, decide_true, decide_false, Bool.not_eq_true, Bool.not_eq_true', Bool.not_true, Bool.not_false, decide_eq_false_iff_not, Bool.false_eq_true, not_false_eq_true, not_true_eq_false, if_true, if_false, ↓reduceIte, eq_self, Option.bind_some, Bool.true_and, Bool.false_and, Bool.and_true, Bool.and_false, nI_add, nI_subN, nI_clamp, gdF, gdF2, gdP, zI_cl, zI_s, Lm1, e, h2]
    unfold fdx
    by_cases he : f j = c
    · simp only [he, decide_eq_true_eq, decide_true, decide_false, Bool.not_eq_true, Bool.not_eq_true', Bool.not_true, Bool.not_false, decide_eq_false_iff_not, Bool.false_eq_true, not_false_eq_true, not_true_eq_false, if_true, if_false, ↓reduceIte, eq_self, Option.bind_some, Bool.true_and, Bool.false_and, Bool.and_true, Bool.and_false]
      rw [zI_s]
      exact ev_ret
    · simp only [he, decide_eq_true_eq, decide_true, decide_false, Bool.not_eq_true, Bool.not_eq_true', Bool.not_true, Bool.not_false, decide_eq_false_iff_not, Bool.false_eq_true, not_false_eq_true, not_true_eq_false, if_true, if_false, ↓reduceIte, eq_self, Option.bind_some, Bool.true_and, Bool.false_and, Bool.and_true, Bool.and_false]
      exact ih (j + 1) (by omega)
theorem f176_138 {S : mS} {f : Nat → Nat} {N c : Nat} (hN : N ≤ 13) (hc : c < 1000000) (hf : ∀ k, k < N → f k < 1000000 ∧ S.2.1 8 k = nI (f k)) : Ev (fun n => F176_138 n (nI N) (nI c) S) (zI (fdx f c N 0), S) := by
  refine ev_succ (fun n => F176_138e0 n ..) ?_
  simp only [F176_138b0, L0]
  exact f176_138l hN hc hf N 0 (by omega)
theorem f176_149l {S : mS} {f : Nat → Nat} {N c : Nat} (hN : N ≤ 6) (hc : c < 1000000) (hf : ∀ k, k < N → f k < 1000000 ∧ S.2.1 19 k = nI (f k)) : ∀ m j, j + m = N → Ev (fun n => F176_149f n 2 (nI N) (nI c) (nI j) S) (zI (fdx f c m j), S) := by
  intro m
  induction m with
  | zero =>
    intro j hj
    refine ev_succ (fun n => F176_149e2 n ..) ?_
    have e : N ≤ j := by omega
    simp (disch := omega) only [F176_149b2, L0, L1, L2, L3, L4, L5, L6, L7, L8, L9, L10, L11, L12, L13, L16, L20, L31, L32, L40, L48, L57, L59, L60, L61, L91, L93, L97, L99, L100, L102, L103, L114, L122, L255, L300, L400, L402, L999, L2280, L2500, L99999, L63, L1431655765, L858993459, L252645135, ic_ge, ic_gt, ic_le, ic_lt, ic_eq, ic_ne, if_lt, if_ge, if_gt, if_le, if_eq, if_ne, if_lt_zI, if_ge_zI, ic_ne_m1, ic_eq_m1, ic_nn_m1, ic_ee_m1, if_ne_b2i, if_eq_b2i, b2i_z, decide_eq_true_eq, decide_true, decide_false, Bool.not_eq_true, Bool.not_eq_true', Bool.not_true, Bool.not_false, decide_eq_false_iff_not, Bool.false_eq_true, not_false_eq_true, not_true_eq_false, if_true, if_false, ↓reduceIte, eq_self, Option.bind_some, Bool.true_and, Bool.false_and, Bool.and_true, Bool.and_false, nI_add, nI_subN, nI_clamp, gdF, gdF2, gdP, zI_cl, zI_s, Lm1, e]
    exact ev_ret
  | succ m ih =>
    intro j hj
    refine ev_succ (fun n => F176_149e2 n ..) ?_
    have e : ¬ N ≤ j := by omega
    obtain ⟨h1, h2⟩ := hf j (by omega)
    simp (disch := omega) only [F176_149b2, L0, L1, L2, L3, L4, L5, L6, L7, L8, L9, L10, L11, L12, L13, L16, L20, L31, L32, L40, L48, L57, L59, L60, L61, L91, L93, L97, L99, L100, L102, L103, L114, L122, L255, L300, L400, L402, L999, L2280, L2500, L99999, L63, L1431655765, L858993459, L252645135, ic_ge, ic_gt, ic_le, ic_lt, ic_eq, ic_ne, if_lt, if_ge, if_gt, if_le, if_eq, if_ne, if_lt_zI, if_ge_zI, ic_ne_m1, ic_eq_m1, ic_nn_m1, ic_ee_m1, if_ne_b2i, if_eq_b2i, b2i_z, decide_eq_true_eq, decide_true, decide_false, Bool.not_eq_true, Bool.not_eq_true', Bool.not_true, Bool.not_false, decide_eq_false_iff_not, Bool.false_eq_true, not_false_eq_true, not_true_eq_false, if_true, if_false, ↓reduceIte, eq_self, Option.bind_some, Bool.true_and, Bool.false_and, Bool.and_true, Bool.and_false, nI_add, nI_subN, nI_clamp, gdF, gdF2, gdP, zI_cl, zI_s, Lm1, e, h2]
    unfold fdx
    by_cases he : f j = c
    · simp only [he, decide_eq_true_eq, decide_true, decide_false, Bool.not_eq_true, Bool.not_eq_true', Bool.not_true, Bool.not_false, decide_eq_false_iff_not, Bool.false_eq_true, not_false_eq_true, not_true_eq_false, if_true, if_false, ↓reduceIte, eq_self, Option.bind_some, Bool.true_and, Bool.false_and, Bool.and_true, Bool.and_false]
      rw [zI_s]
      exact ev_ret
    · simp only [he, decide_eq_true_eq, decide_true, decide_false, Bool.not_eq_true, Bool.not_eq_true', Bool.not_true, Bool.not_false, decide_eq_false_iff_not, Bool.false_eq_true, not_false_eq_true, not_true_eq_false, if_true, if_false, ↓reduceIte, eq_self, Option.bind_some, Bool.true_and, Bool.false_and, Bool.and_true, Bool.and_false]
      exact ih (j + 1) (by omega)
theorem f176_149 {S : mS} {f : Nat → Nat} {N c : Nat} (hN : N ≤ 6) (hc : c < 1000000) (hf : ∀ k, k < N → f k < 1000000 ∧ S.2.1 19 k = nI (f k)) : Ev (fun n => F176_149 n (nI N) (nI c) S) (zI (fdx f c N 0), S) := by
  refine ev_succ (fun n => F176_149e0 n ..) ?_
  simp only [F176_149b0, L0]
  exact f176_149l hN hc hf N 0 (by omega)
theorem f176_151l {S : mS} {f : Nat → Nat} {N c : Nat} (hN : N ≤ 4) (hc : c < 1000000) (hf : ∀ k, k < N → f k < 1000000 ∧ S.2.1 21 k = nI (f k)) : ∀ m j, j + m = N → Ev (fun n => F176_151f n 2 (nI N) (nI c) (nI j) S) (zI (fdx f c m j), S) := by
  intro m
  induction m with
  | zero =>
    intro j hj
    refine ev_succ (fun n => F176_151e2 n ..) ?_
    have e : N ≤ j := by omega
    simp (disch := omega) only [F176_151b2, L0, L1, L2, L3, L4, L5, L6, L7, L8, L9, L10, L11, L12, L13, L16, L20, L31, L32, L40, L48, L57, L59, L60, L61, L91, L93, L97, L99, L100, L102, L103, L114, L122, L255, L300, L400, L402, L999, L2280, L2500, L99999, L63, L1431655765, L858993459, L252645135, ic_ge, ic_gt, ic_le, ic_lt, ic_eq, ic_ne, if_lt, if_ge, if_gt, if_le, if_eq, if_ne, if_lt_zI, if_ge_zI, ic_ne_m1, ic_eq_m1, ic_nn_m1, ic_ee_m1, if_ne_b2i, if_eq_b2i, b2i_z, decide_eq_true_eq, decide_true, decide_false, Bool.not_eq_true, Bool.not_eq_true', Bool.not_true, Bool.not_false, decide_eq_false_iff_not, Bool.false_eq_true, not_false_eq_true, not_true_eq_false, if_true, if_false, ↓reduceIte, eq_self, Option.bind_some, Bool.true_and, Bool.false_and, Bool.and_true, Bool.and_false, nI_add, nI_subN, nI_clamp, gdF, gdF2, gdP, zI_cl, zI_s, Lm1, e]
    exact ev_ret
  | succ m ih =>
    intro j hj
    refine ev_succ (fun n => F176_151e2 n ..) ?_
    have e : ¬ N ≤ j := by omega
    obtain ⟨h1, h2⟩ := hf j (by omega)
    simp (disch := omega) only [F176_151b2, L0, L1, L2, L3, L4, L5, L6, L7, L8, L9, L10, L11, L12, L13, L16, L20, L31, L32, L40, L48, L57, L59, L60, L61, L91, L93, L97, L99, L100, L102, L103, L114, L122, L255, L300, L400, L402, L999, L2280, L2500, L99999, L63, L1431655765, L858993459, L252645135, ic_ge, ic_gt, ic_le, ic_lt, ic_eq, ic_ne, if_lt, if_ge, if_gt, if_le, if_eq, if_ne, if_lt_zI, if_ge_zI, ic_ne_m1, ic_eq_m1, ic_nn_m1, ic_ee_m1, if_ne_b2i, if_eq_b2i, b2i_z, decide_eq_true_eq, decide_true, decide_false, Bool.not_eq_true, Bool.not_eq_true', Bool.not_true, Bool.not_false, decide_eq_false_iff_not, Bool.false_eq_true, not_false_eq_true, not_true_eq_false, if_true, if_false, ↓reduceIte, eq_self, Option.bind_some, Bool.true_and, Bool.false_and, Bool.and_true, Bool.and_false, nI_add, nI_subN, nI_clamp, gdF, gdF2, gdP, zI_cl, zI_s, Lm1, e, h2]
    unfold fdx
    by_cases he : f j = c
    · simp only [he, decide_eq_true_eq, decide_true, decide_false, Bool.not_eq_true, Bool.not_eq_true', Bool.not_true, Bool.not_false, decide_eq_false_iff_not, Bool.false_eq_true, not_false_eq_true, not_true_eq_false, if_true, if_false, ↓reduceIte, eq_self, Option.bind_some, Bool.true_and, Bool.false_and, Bool.and_true, Bool.and_false]
      rw [zI_s]
      exact ev_ret
    · simp only [he, decide_eq_true_eq, decide_true, decide_false, Bool.not_eq_true, Bool.not_eq_true', Bool.not_true, Bool.not_false, decide_eq_false_iff_not, Bool.false_eq_true, not_false_eq_true, not_true_eq_false, if_true, if_false, ↓reduceIte, eq_self, Option.bind_some, Bool.true_and, Bool.false_and, Bool.and_true, Bool.and_false]
      exact ih (j + 1) (by omega)
theorem f176_151 {S : mS} {f : Nat → Nat} {N c : Nat} (hN : N ≤ 4) (hc : c < 1000000) (hf : ∀ k, k < N → f k < 1000000 ∧ S.2.1 21 k = nI (f k)) : Ev (fun n => F176_151 n (nI N) (nI c) S) (zI (fdx f c N 0), S) := by
  refine ev_succ (fun n => F176_151e0 n ..) ?_
  simp only [F176_151b0, L0]
  exact f176_151l hN hc hf N 0 (by omega)
theorem f176_152l {S : mS} {f : Nat → Nat} {N c : Nat} (hN : N ≤ 13) (hc : c < 1000000) (hf : ∀ k, k < N → f k < 1000000 ∧ S.2.1 22 k = nI (f k)) : ∀ m j, j + m = N → Ev (fun n => F176_152f n 2 (nI N) (nI c) (nI j) S) (zI (fdx f c m j), S) := by
  intro m
  induction m with
  | zero =>
    intro j hj
    refine ev_succ (fun n => F176_152e2 n ..) ?_
    have e : N ≤ j := by omega
    simp (disch := omega) only [F176_152b2, L0, L1, L2, L3, L4, L5, L6, L7, L8, L9, L10, L11, L12, L13, L16, L20, L31, L32, L40, L48, L57, L59, L60, L61, L91, L93, L97, L99, L100, L102, L103, L114, L122, L255, L300, L400, L402, L999, L2280, L2500, L99999, L63, L1431655765, L858993459, L252645135, ic_ge, ic_gt, ic_le, ic_lt, ic_eq, ic_ne, if_lt, if_ge, if_gt, if_le, if_eq, if_ne, if_lt_zI, if_ge_zI, ic_ne_m1, ic_eq_m1, ic_nn_m1, ic_ee_m1, if_ne_b2i, if_eq_b2i, b2i_z, decide_eq_true_eq, decide_true, decide_false, Bool.not_eq_true, Bool.not_eq_true', Bool.not_true, Bool.not_false, decide_eq_false_iff_not, Bool.false_eq_true, not_false_eq_true, not_true_eq_false, if_true, if_false, ↓reduceIte, eq_self, Option.bind_some, Bool.true_and, Bool.false_and, Bool.and_true, Bool.and_false, nI_add, nI_subN, nI_clamp, gdF, gdF2, gdP, zI_cl, zI_s, Lm1, e]
    exact ev_ret
  | succ m ih =>
    intro j hj
    refine ev_succ (fun n => F176_152e2 n ..) ?_
    have e : ¬ N ≤ j := by omega
    obtain ⟨h1, h2⟩ := hf j (by omega)
    simp (disch := omega) only [F176_152b2, L0, L1, L2, L3, L4, L5, L6, L7, L8, L9, L10, L11, L12, L13, L16, L20, L31, L32, L40, L48, L57, L59, L60, L61, L91, L93, L97, L99, L100, L102, L103, L114, L122, L255, L300, L400, L402, L999, L2280, L2500, L99999, L63, L1431655765, L858993459, L252645135, ic_ge, ic_gt, ic_le, ic_lt, ic_eq, ic_ne, if_lt, if_ge, if_gt, if_le, if_eq, if_ne, if_lt_zI, if_ge_zI, ic_ne_m1, ic_eq_m1, ic_nn_m1, ic_ee_m1, if_ne_b2i, if_eq_b2i, b2i_z, decide_eq_true_eq, decide_true, decide_false, Bool.not_eq_true, Bool.not_eq_true', Bool.not_true, Bool.not_false, decide_eq_false_iff_not, Bool.false_eq_true, not_false_eq_true, not_true_eq_false, if_true, if_false, ↓reduceIte, eq_self, Option.bind_some, Bool.true_and, Bool.false_and, Bool.and_true, Bool.and_false, nI_add, nI_subN, nI_clamp, gdF, gdF2, gdP, zI_cl, zI_s, Lm1, e, h2]
    unfold fdx
    by_cases he : f j = c
    · simp only [he, decide_eq_true_eq, decide_true, decide_false, Bool.not_eq_true, Bool.not_eq_true', Bool.not_true, Bool.not_false, decide_eq_false_iff_not, Bool.false_eq_true, not_false_eq_true, not_true_eq_false, if_true, if_false, ↓reduceIte, eq_self, Option.bind_some, Bool.true_and, Bool.false_and, Bool.and_true, Bool.and_false]
      rw [zI_s]
      exact ev_ret
    · simp only [he, decide_eq_true_eq, decide_true, decide_false, Bool.not_eq_true, Bool.not_eq_true', Bool.not_true, Bool.not_false, decide_eq_false_iff_not, Bool.false_eq_true, not_false_eq_true, not_true_eq_false, if_true, if_false, ↓reduceIte, eq_self, Option.bind_some, Bool.true_and, Bool.false_and, Bool.and_true, Bool.and_false]
      exact ih (j + 1) (by omega)
theorem f176_152 {S : mS} {f : Nat → Nat} {N c : Nat} (hN : N ≤ 13) (hc : c < 1000000) (hf : ∀ k, k < N → f k < 1000000 ∧ S.2.1 22 k = nI (f k)) : Ev (fun n => F176_152 n (nI N) (nI c) S) (zI (fdx f c N 0), S) := by
  refine ev_succ (fun n => F176_152e0 n ..) ?_
  simp only [F176_152b0, L0]
  exact f176_152l hN hc hf N 0 (by omega)
/-- a bed in the reference's rows -/
def MB (r : Nat → Nat → Int32) (b : AB) : Prop := r 1 0 = nI (b 0 0) ∧ r 1 1 = nI (b 0 1) ∧ r 1 2 = nI (b 0 2) ∧ (∀ i, i < b 0 0 → r 2 i = zI (b 1 i) ∧ r 3 i = nI (b 2 i)) ∧ (∀ k, k < b 0 1 → r 5 k = nI (b 5 k)) ∧ (∃ ma : Nat → Nat, (∀ k, k < b 0 1 → ma k < b 0 0 ∧ r 4 k = nI (ma k) ∧ b 3 (ma k) = k + 1) ∧ (∀ i, i < b 0 0 → b 3 i ≠ 0 → ma (b 3 i - 1) = i)) ∧ (∃ da : Nat → Nat, (∀ k, k < b 0 2 → da k < b 0 0 ∧ r 7 k = nI (da k) ∧ b 4 (da k) = k + 1) ∧ (∀ i, i < b 0 0 → b 4 i ≠ 0 → da (b 4 i - 1) = i))
/-- the nets in the reference's rows -/
def MN (r : Nat → Nat → Int32) (w : AW) : Prop := ∃ (q : Nat) (a : Nat → Nat), q ≤ 13 ∧ r 1 3 = nI q ∧ q = ctF (fun c => !decide (w.1 7 c = 0)) 16 0 ∧ (∀ k, k < q → a k < 16 ∧ r 8 k = nI (a k) ∧ r 9 k = nI (w.1 7 (a k)) ∧ w.1 7 (a k) ≠ 0) ∧ (∀ c, c < 16 → w.1 7 c ≠ 0 → ∃ k, k < q ∧ a k = c) ∧ (∀ j k, j < q → k < q → a j = a k → j = k)
/-- a water in the reference's rows -/
def MW (r : Nat → Nat → Int32) (w : AW) : Prop := r 1 4 = nI (w.1 0 1) ∧ r 1 6 = nI (w.1 0 0) ∧ r 1 5 = w.2 ∧ (∀ s, s < w.1 0 1 → (w.1 1 s ≠ 0 → r 10 s = nI (w.1 1 s - 1) ∧ r 12 s = nI (w.1 3 s)) ∧ r 11 s = nI (w.1 2 s) ∧ r 13 s = nI (w.1 4 s) ∧ r 14 s = zI (w.1 5 s) ∧ r 15 s = zI (w.1 6 s)) ∧ (∀ k, k < 6 → r 6 k = nI (w.1 8 k)) ∧ MN r w
/-- the law in force in the reference -/
def LM (S : mS) (l : LW) : Prop := match l with
  | none => S.2.1 1 8 = zI 0
  | some f => (∃ r, r < 6 ∧ S.2.1 1 8 = nI r) ∧ ∀ (S' : mS) (x : Nat → Int64), (∀ k i, 27 ≤ k → k ≤ 31 → S'.2.1 k i = S.2.1 k i) → S'.2.1 1 8 = S.2.1 1 8 → (∀ k, k < 11 → S'.2.2 33 k = x k) → ∃ y, Ev (fun n => F224 n S') (b2i (f x), (S'.1, S'.2.1, y))
/-- what a day may change of the reference -/
def FrM (S S' : mS) : Prop := S'.1 = S.1 ∧ ∀ k i, ¬ (k = 6 ∨ (10 ≤ k ∧ k ≤ 15) ∨ (k = 1 ∧ i = 6)) → S'.2.1 k i = S.2.1 k i
theorem FrM_rf {S : mS} : FrM S S := ⟨rfl, fun _ _ _ => rfl⟩
theorem FrM_tr {S1 S2 S3 : mS} (h : FrM S1 S2) (h' : FrM S2 S3) : FrM S1 S3 := ⟨h'.1.trans h.1, fun k i hk => (h'.2 k i hk).trans (h.2 k i hk)⟩
theorem FrM_A {S : mS} {k j : Nat} {x : Int32} (h : k = 6 ∨ (10 ≤ k ∧ k ≤ 15) ∨ (k = 1 ∧ j = 6)) : FrM S (m_sA S k j x) := by
  refine ⟨rfl, fun k' i hk => ?_⟩
  by_cases e : k' = k
  · subst e
    exact m_rAi (by omega)
  · rw [m_rAn e]
theorem FrM_L {S : mS} {k j : Nat} {y : Int64} : FrM S (m_sL S k j y) := ⟨rfl, fun _ _ _ => rfl⟩
theorem MB_fr {S S' : mS} {b : AB} (h : MB S.2.1 b) (f : FrM S S') : MB S'.2.1 b := by
  obtain ⟨h0, h1, h2, h3, h4, ⟨ma, m1, m2⟩, ⟨da, d1, d2⟩⟩ := h
  refine ⟨?_, ?_, ?_, ?_, ?_, ⟨ma, ?_, m2⟩, ⟨da, ?_, d2⟩⟩
  · rw [f.2 1 0 (by omega)]; exact h0
  · rw [f.2 1 1 (by omega)]; exact h1
  · rw [f.2 1 2 (by omega)]; exact h2
  · intro i hi
    rw [f.2 2 i (by omega), f.2 3 i (by omega)]; exact h3 i hi
  · intro k hk
    rw [f.2 5 k (by omega)]; exact h4 k hk
  · intro k hk
    rw [f.2 4 k (by omega)]; exact m1 k hk
  · intro k hk
    rw [f.2 7 k (by omega)]; exact d1 k hk
theorem LM_fr {S S' : mS} {l : LW} (h : LM S l) (h8 : S'.2.1 1 8 = S.2.1 1 8) (hr : ∀ k i, 27 ≤ k → k ≤ 31 → S'.2.1 k i = S.2.1 k i) : LM S' l := by
  cases l with
  | none =>
    show S'.2.1 1 8 = zI 0
    rw [h8]
    exact h
  | some f =>
    refine ⟨?_, fun S2 x e1 e2 e3 => h.2 S2 x (fun k i a c => ?_) ?_ e3⟩
    · rw [h8]
      exact h.1
    · rw [e1 k i a c, hr k i a c]
    · rw [e2, h8]
theorem MN_fr {r r' : Nat → Nat → Int32} {w w' : AW} (h : MN r w) (h3 : r' 1 3 = r 1 3) (h8 : ∀ i, r' 8 i = r 8 i) (h9 : ∀ i, r' 9 i = r 9 i) (h7 : ∀ i, w'.1 7 i = w.1 7 i) : MN r' w' := by
  obtain ⟨q, a, a1, a2, a3, a4, a5, a6⟩ := h
  refine ⟨q, a, a1, by rw [h3]; exact a2, ?_, ?_, ?_, a6⟩
  · rw [a3]
    exact ctF_eq _ _ (fun i _ _ => by rw [h7])
  · intro k hk
    rw [h8, h9, h7]
    exact a4 k hk
  · intro c hc
    rw [h7]
    exact a5 c hc
theorem mill_in {r : Nat → Nat → Int32} {b : AB} {ma : Nat → Nat} {N c : Nat} {g : Nat → Nat} (h1 : ∀ k, k < N → g (ma k) = k + 1) (h2 : g c ≠ 0 → ma (g c - 1) = c) (hN : g c ≤ N) : fdx ma c N 0 = g c := by
  cases h : fdx ma c N 0 with
  | zero =>
    by_cases e : g c = 0
    · omega
    · exact absurd (h2 e) (fdx_0 N 0 h (g c - 1) (by omega) (by omega))
  | succ k =>
    have := fdx_s N 0 h
    have h3 := h1 k (by omega)
    rw [this.2.2] at h3
    omega
theorem f197 {S : mS} {b : AB} {c : Nat} (hB : MB S.2.1 b) (hb : OkB b) (hc : c < b 0 0) : Ev (fun n => F197 n (nI c) S) (zI (b 3 c), S) := by
  refine ev_succ (fun n => F197e0 n ..) ?_
  obtain ⟨h0, h1, h2, h3, h4, ⟨ma, m1, m2⟩, ⟨da, d1, d2⟩⟩ := hB
  have hb1 := hb.1
  have hb2 := hb.2.1
  have hb4 := hb.2.2.2.1 c (by omega)
  simp only [F197b0, h1]
  refine ev_bind (f176_134 (f := ma) (by omega) (by omega) (fun k hk => ⟨by have := (m1 k hk).1; omega, (m1 k hk).2.1⟩)) ?_
  rw [mill_in (r := S.2.1) (b := b) (g := b 3) (fun k hk => (m1 k hk).2.2) (m2 c hc) hb4.2.2.1]
  exact ev_ret
theorem f198 {S : mS} {b : AB} {c : Nat} (hB : MB S.2.1 b) (hb : OkB b) (hc : c < b 0 0) : Ev (fun n => F198 n (nI c) S) (zI (b 4 c), S) := by
  refine ev_succ (fun n => F198e0 n ..) ?_
  obtain ⟨h0, h1, h2, h3, h4, ⟨ma, m1, m2⟩, ⟨da, d1, d2⟩⟩ := hB
  have hb1 := hb.1
  have hb2 := hb.2.2.1
  have hb4 := hb.2.2.2.1 c (by omega)
  simp only [F198b0, h2]
  refine ev_bind (f176_137 (f := da) (by omega) (by omega) (fun k hk => ⟨by have := (d1 k hk).1; omega, (d1 k hk).2.1⟩)) ?_
  rw [mill_in (r := S.2.1) (b := b) (g := b 4) (fun k hk => (d1 k hk).2.2) (d2 c hc) hb4.2.2.2]
  exact ev_ret
/-- where a net is: 0 none; else its number + 1, and its mesh -/
theorem f200 {S : mS} {w : AW} {c : Nat} (hN : MN S.2.1 w) (hc : c < 16) : ∃ k, Ev (fun n => F200 n (nI c) S) (zI k, S) ∧ k ≤ 13 ∧ (k = 0 ↔ w.1 7 c = 0) ∧ (k ≠ 0 → S.2.1 9 (k - 1) = nI (w.1 7 c)) := by
  obtain ⟨q, a, a1, a2, a3, a4, a5, a6⟩ := hN
  refine ⟨fdx a c q 0, ?_, ?_, ?_, ?_⟩
  · refine ev_succ (fun n => F200e0 n ..) ?_
    simp only [F200b0, a2]
    refine ev_bind (f176_138 (f := a) (by omega) (by omega) (fun k hk => ⟨by have := (a4 k hk).1; omega, (a4 k hk).2.1⟩)) ?_
    exact ev_ret
  · have := fdx_le (f := a) (x := c) (m := q) (j := 0)
    omega
  · constructor
    · intro h
      by_cases e : w.1 7 c = 0
      · exact e
      · obtain ⟨k, hk, ek⟩ := a5 c hc e
        exact absurd ek (fdx_0 q 0 h k (by omega) (by omega))
    · intro h
      cases hf : fdx a c q 0 with
      | zero => rfl
      | succ k =>
        have := fdx_s q 0 hf
        have h4 := (a4 k (by omega)).2.2.2
        rw [this.2.2] at h4
        exact absurd h h4
  · intro h
    cases hf : fdx a c q 0 with
    | zero => exact absurd hf h
    | succ k =>
      have := fdx_s q 0 hf
      have h4 := (a4 k (by omega)).2.2.1
      rw [this.2.2] at h4
      exact h4
theorem f202 {S : mS} {b : AB} {w : AW} {s : Nat} (hw : MW S.2.1 w) (ok : OkW b w) (hs : s < w.1 0 1) : Ev (fun n => F202 n (nI s) S) (b2i (!decide (w.1 1 s = 0)), S) := by
  refine ev_succ (fun n => F202e0 n ..) ?_
  have hn := ok.1
  have o := ok.2.1 s hs
  have h13 := (hw.2.2.2.1 s hs).2.2.1
  have h3 := o.2.1
  simp (disch := omega) only [F202b0, L0, L1, L2, L3, L4, L5, L6, L7, L8, L9, L10, L11, L12, L13, L16, L20, L31, L32, L40, L48, L57, L59, L60, L61, L91, L93, L97, L99, L100, L102, L103, L114, L122, L255, L300, L400, L402, L999, L2280, L2500, L99999, L63, L1431655765, L858993459, L252645135, ic_ge, ic_gt, ic_le, ic_lt, ic_eq, ic_ne, if_lt, if_ge, if_gt, if_le, if_eq, if_ne, if_lt_zI, if_ge_zI, ic_ne_m1, ic_eq_m1, ic_nn_m1, ic_ee_m1, if_ne_b2i, if_eq_b2i, b2i_z, decide_eq_true_eq, decide_true, decide_false, Bool.not_eq_true, Bool.not_eq_true', Bool.not_true, Bool.not_false, decide_eq_false_iff_not, Bool.false_eq_true, not_false_eq_true, not_true_eq_false, if_true, if_false, ↓reduceIte, eq_self, Option.bind_some, Bool.true_and, Bool.false_and, Bool.and_true, Bool.and_false, nI_add, nI_subN, nI_clamp, gdF, gdF2, gdP, zI_cl, zI_s, Lm1, h13]
  by_cases h : w.1 4 s = 0
  · have : ¬ w.1 1 s = 0 := fun e => (o.2.2.1.mp e) h
    simp only [h, this, decide_eq_true_eq, decide_true, decide_false, Bool.not_eq_true, Bool.not_eq_true', Bool.not_true, Bool.not_false, decide_eq_false_iff_not, Bool.false_eq_true, not_false_eq_true, not_true_eq_false, if_true, if_false, ↓reduceIte, eq_self, Option.bind_some, Bool.true_and, Bool.false_and, Bool.and_true, Bool.and_false]
    exact ev_ret
  · have : w.1 1 s = 0 := o.2.2.1.mpr h
    simp only [h, this, decide_eq_true_eq, decide_true, decide_false, Bool.not_eq_true, Bool.not_eq_true', Bool.not_true, Bool.not_false, decide_eq_false_iff_not, Bool.false_eq_true, not_false_eq_true, not_true_eq_false, if_true, if_false, ↓reduceIte, eq_self, Option.bind_some, Bool.true_and, Bool.false_and, Bool.and_true, Bool.and_false]
    exact ev_ret
theorem f213l {S : mS} {b : AB} {w : AW} (hw : MW S.2.1 w) (ok : OkW b w) : ∀ (m s x : Nat), s + m = w.1 0 1 → Ev (fun n => F213f n 4 (nI x) (nI s) S) (nI (bsF (fun s => !decide (w.1 1 s = 0)) m s x), S) := by
  have hn := ok.1
  intro m
  induction m with
  | zero =>
    intro s x hs
    refine ev_succ (fun n => F213e4 n ..) ?_
    have e : w.1 0 1 ≤ s := by omega
    simp (disch := omega) only [F213b4, hw.1, L0, L1, L2, L3, L4, L5, L6, L7, L8, L9, L10, L11, L12, L13, L16, L20, L31, L32, L40, L48, L57, L59, L60, L61, L91, L93, L97, L99, L100, L102, L103, L114, L122, L255, L300, L400, L402, L999, L2280, L2500, L99999, L63, L1431655765, L858993459, L252645135, ic_ge, ic_gt, ic_le, ic_lt, ic_eq, ic_ne, if_lt, if_ge, if_gt, if_le, if_eq, if_ne, if_lt_zI, if_ge_zI, ic_ne_m1, ic_eq_m1, ic_nn_m1, ic_ee_m1, if_ne_b2i, if_eq_b2i, b2i_z, decide_eq_true_eq, decide_true, decide_false, Bool.not_eq_true, Bool.not_eq_true', Bool.not_true, Bool.not_false, decide_eq_false_iff_not, Bool.false_eq_true, not_false_eq_true, not_true_eq_false, if_true, if_false, ↓reduceIte, eq_self, Option.bind_some, Bool.true_and, Bool.false_and, Bool.and_true, Bool.and_false, nI_add, nI_subN, nI_clamp, gdF, gdF2, gdP, zI_cl, zI_s, Lm1, e]
    exact ev_ret
  | succ m ih =>
    intro s x hs
    refine ev_succ (fun n => F213e4 n ..) ?_
    have e : ¬ w.1 0 1 ≤ s := by omega
    simp (disch := omega) only [F213b4, hw.1, L0, L1, L2, L3, L4, L5, L6, L7, L8, L9, L10, L11, L12, L13, L16, L20, L31, L32, L40, L48, L57, L59, L60, L61, L91, L93, L97, L99, L100, L102, L103, L114, L122, L255, L300, L400, L402, L999, L2280, L2500, L99999, L63, L1431655765, L858993459, L252645135, ic_ge, ic_gt, ic_le, ic_lt, ic_eq, ic_ne, if_lt, if_ge, if_gt, if_le, if_eq, if_ne, if_lt_zI, if_ge_zI, ic_ne_m1, ic_eq_m1, ic_nn_m1, ic_ee_m1, if_ne_b2i, if_eq_b2i, b2i_z, decide_eq_true_eq, decide_true, decide_false, Bool.not_eq_true, Bool.not_eq_true', Bool.not_true, Bool.not_false, decide_eq_false_iff_not, Bool.false_eq_true, not_false_eq_true, not_true_eq_false, if_true, if_false, ↓reduceIte, eq_self, Option.bind_some, Bool.true_and, Bool.false_and, Bool.and_true, Bool.and_false, nI_add, nI_subN, nI_clamp, gdF, gdF2, gdP, zI_cl, zI_s, Lm1, e, nI_shl, nx_or, Nat.or_zero]
    refine ev_bind (f202 hw ok (by omega)) ?_
    unfold bsF
    simp only [if_eq_b2i]
    by_cases h : w.1 1 s = 0
    · simp only [h, decide_eq_true_eq, decide_true, decide_false, Bool.not_eq_true, Bool.not_eq_true', Bool.not_true, Bool.not_false, decide_eq_false_iff_not, Bool.false_eq_true, not_false_eq_true, not_true_eq_false, if_true, if_false, ↓reduceIte, eq_self, Option.bind_some, Bool.true_and, Bool.false_and, Bool.and_true, Bool.and_false]
      exact ih (s + 1) x (by omega)
    · simp only [h, decide_eq_true_eq, decide_true, decide_false, Bool.not_eq_true, Bool.not_eq_true', Bool.not_true, Bool.not_false, decide_eq_false_iff_not, Bool.false_eq_true, not_false_eq_true, not_true_eq_false, if_true, if_false, ↓reduceIte, eq_self, Option.bind_some, Bool.true_and, Bool.false_and, Bool.and_true, Bool.and_false]
      exact ih (s + 1) _ (by omega)
theorem f213 {S : mS} {b : AB} {w : AW} (hw : MW S.2.1 w) (ok : OkW b w) : Ev (fun n => F213 n S) (nI (bsN (fun s => !decide (w.1 1 s = 0)) (w.1 0 1)), S) := by
  refine ev_succ (fun n => F213e0 n ..) ?_
  simp only [F213b0, L0]
  exact f213l hw ok _ 0 0 (by omega)
theorem f201l {S : mS} {b : AB} {w : AW} {c : Nat} (hb : OkB b) (hw : MW S.2.1 w) (ok : OkW b w) (hc : c < 1000) : ∀ (m s x : Nat), s + m = w.1 0 1 → Ev (fun n => F201f n 4 (nI c) (nI x) (nI s) S) (nI (bsF (fun s => decide (w.1 1 s = c + 1)) m s x), S) := by
  have hn := ok.1
  intro m
  induction m with
  | zero =>
    intro s x hs
    refine ev_succ (fun n => F201e4 n ..) ?_
    have e : w.1 0 1 ≤ s := by omega
    simp (disch := omega) only [F201b4, hw.1, L0, L1, L2, L3, L4, L5, L6, L7, L8, L9, L10, L11, L12, L13, L16, L20, L31, L32, L40, L48, L57, L59, L60, L61, L91, L93, L97, L99, L100, L102, L103, L114, L122, L255, L300, L400, L402, L999, L2280, L2500, L99999, L63, L1431655765, L858993459, L252645135, ic_ge, ic_gt, ic_le, ic_lt, ic_eq, ic_ne, if_lt, if_ge, if_gt, if_le, if_eq, if_ne, if_lt_zI, if_ge_zI, ic_ne_m1, ic_eq_m1, ic_nn_m1, ic_ee_m1, if_ne_b2i, if_eq_b2i, b2i_z, decide_eq_true_eq, decide_true, decide_false, Bool.not_eq_true, Bool.not_eq_true', Bool.not_true, Bool.not_false, decide_eq_false_iff_not, Bool.false_eq_true, not_false_eq_true, not_true_eq_false, if_true, if_false, ↓reduceIte, eq_self, Option.bind_some, Bool.true_and, Bool.false_and, Bool.and_true, Bool.and_false, nI_add, nI_subN, nI_clamp, gdF, gdF2, gdP, zI_cl, zI_s, Lm1, e]
    exact ev_ret
  | succ m ih =>
    intro s x hs
    refine ev_succ (fun n => F201e4 n ..) ?_
    have e : ¬ w.1 0 1 ≤ s := by omega
    have h16 := OkW_16 hb ok s (by omega)
    have h10 := (hw.2.2.2.1 s (by omega)).1
    simp (disch := omega) only [F201b4, hw.1, L0, L1, L2, L3, L4, L5, L6, L7, L8, L9, L10, L11, L12, L13, L16, L20, L31, L32, L40, L48, L57, L59, L60, L61, L91, L93, L97, L99, L100, L102, L103, L114, L122, L255, L300, L400, L402, L999, L2280, L2500, L99999, L63, L1431655765, L858993459, L252645135, ic_ge, ic_gt, ic_le, ic_lt, ic_eq, ic_ne, if_lt, if_ge, if_gt, if_le, if_eq, if_ne, if_lt_zI, if_ge_zI, ic_ne_m1, ic_eq_m1, ic_nn_m1, ic_ee_m1, if_ne_b2i, if_eq_b2i, b2i_z, decide_eq_true_eq, decide_true, decide_false, Bool.not_eq_true, Bool.not_eq_true', Bool.not_true, Bool.not_false, decide_eq_false_iff_not, Bool.false_eq_true, not_false_eq_true, not_true_eq_false, if_true, if_false, ↓reduceIte, eq_self, Option.bind_some, Bool.true_and, Bool.false_and, Bool.and_true, Bool.and_false, nI_add, nI_subN, nI_clamp, gdF, gdF2, gdP, zI_cl, zI_s, Lm1, e, nI_shl, nx_or, Nat.or_zero]
    refine ev_bind (f202 hw ok (by omega)) ?_
    unfold bsF
    by_cases h : w.1 1 s = 0
    · have : ¬ 0 = c + 1 := by omega
      simp only [if_eq_b2i, h, this, decide_eq_true_eq, decide_true, decide_false, Bool.not_eq_true, Bool.not_eq_true', Bool.not_true, Bool.not_false, decide_eq_false_iff_not, Bool.false_eq_true, not_false_eq_true, not_true_eq_false, if_true, if_false, ↓reduceIte, eq_self, Option.bind_some, Bool.true_and, Bool.false_and, Bool.and_true, Bool.and_false]
      exact ih (s + 1) x (by omega)
    · obtain ⟨c0, hc0⟩ : ∃ c0, w.1 1 s = c0 + 1 := ⟨w.1 1 s - 1, by omega⟩
      have h10' : S.2.1 10 s = nI c0 := by
        have := (h10 h).1
        rw [hc0, Nat.add_sub_cancel] at this
        exact this
      have hz : ¬ c0 + 1 = 0 := by omega
      simp (disch := omega) only [if_eq_b2i, hc0, hz, h10', ic_ne, decide_eq_true_eq, decide_true, decide_false, Bool.not_eq_true, Bool.not_eq_true', Bool.not_true, Bool.not_false, decide_eq_false_iff_not, Bool.false_eq_true, not_false_eq_true, not_true_eq_false, if_true, if_false, ↓reduceIte, eq_self, Option.bind_some, Bool.true_and, Bool.false_and, Bool.and_true, Bool.and_false]
      by_cases he : c0 = c
      · subst he
        simp only [decide_eq_true_eq, decide_true, decide_false, Bool.not_eq_true, Bool.not_eq_true', Bool.not_true, Bool.not_false, decide_eq_false_iff_not, Bool.false_eq_true, not_false_eq_true, not_true_eq_false, if_true, if_false, ↓reduceIte, eq_self, Option.bind_some, Bool.true_and, Bool.false_and, Bool.and_true, Bool.and_false]
        exact ih (s + 1) _ (by omega)
      · have he' : ¬ c0 + 1 = c + 1 := by omega
        simp only [he, he', decide_eq_true_eq, decide_true, decide_false, Bool.not_eq_true, Bool.not_eq_true', Bool.not_true, Bool.not_false, decide_eq_false_iff_not, Bool.false_eq_true, not_false_eq_true, not_true_eq_false, if_true, if_false, ↓reduceIte, eq_self, Option.bind_some, Bool.true_and, Bool.false_and, Bool.and_true, Bool.and_false]
        exact ih (s + 1) x (by omega)
theorem f201 {S : mS} {b : AB} {w : AW} {c : Nat} (hb : OkB b) (hw : MW S.2.1 w) (ok : OkW b w) (hc : c < 1000) : Ev (fun n => F201 n (nI c) S) (nI (bsN (fun s => decide (w.1 1 s = c + 1)) (w.1 0 1)), S) := by
  refine ev_succ (fun n => F201e0 n ..) ?_
  simp only [F201b0, L0]
  exact f201l hb hw ok hc _ 0 0 (by omega)
theorem f215 {S : mS} {b : AB} {w : AW} {c : Nat} (hB : MB S.2.1 b) (hb : OkB b) (hw : MW S.2.1 w) (hc : c < b 0 0) : Ev (fun n => F215 n (nI c) S) (b2i (isShA b w c), S) := by
  refine ev_succ (fun n => F215e0 n ..) ?_
  have hb1 := hb.1
  have hb4 := (hb.2.2.2.1 c (by omega)).2.2.2
  have hb3 := hb.2.2.1
  simp only [F215b0, L1, Lm1]
  refine ev_bind (f198 hB hb hc) ?_
  unfold isShA
  simp (disch := omega) only [ic_eq_m1, hw.2.2.1]
  by_cases h : b 4 c = 0
  · simp only [h, decide_eq_true_eq, decide_true, decide_false, Bool.not_eq_true, Bool.not_eq_true', Bool.not_true, Bool.not_false, decide_eq_false_iff_not, Bool.false_eq_true, not_false_eq_true, not_true_eq_false, if_true, if_false, ↓reduceIte, eq_self, Option.bind_some, Bool.true_and, Bool.false_and, Bool.and_true, Bool.and_false]
    exact ev_ret
  · obtain ⟨d, hd⟩ : ∃ d, b 4 c = d + 1 := ⟨b 4 c - 1, by omega⟩
    have hz : ¬ d + 1 = 0 := by omega
    simp only [hd, hz, decide_eq_true_eq, decide_true, decide_false, Bool.not_eq_true, Bool.not_eq_true', Bool.not_true, Bool.not_false, decide_eq_false_iff_not, Bool.false_eq_true, not_false_eq_true, not_true_eq_false, if_true, if_false, ↓reduceIte, eq_self, Option.bind_some, Bool.true_and, Bool.false_and, Bool.and_true, Bool.and_false, zI_s, Nat.add_sub_cancel]
    refine ev_bind (f199 S) ?_
    simp only [if_eq_b2i]
    have e : decide ((w.2 >>> (nI d &&& 31)) &&& 1 = 1) = shutB w.2 d := rfl
    rw [e]
    cases shutB w.2 d <;> exact ev_ret
