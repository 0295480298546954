/-! share -/
theorem g142l {T : xS} : ∀ (k a b j : Nat), b < 2 ^ k → j + 2 * k ≤ 63 → a < 2 ^ 31 → b < 2 ^ 31 → Ev (fun n => G142f n 7 (nI 0) (nI 0) (nI a) (nI b) (nI j) T) (nI (Nat.gcd a b), T) := by
  have L64 : (64 : Int32) = nI 64 := rfl
  have stop : ∀ a j, j ≤ 63 → Ev (fun n => G142f n 7 (nI 0) (nI 0) (nI a) (nI 0) (nI j) T) (nI a, T) := by
    intro a j hj
    refine ev_succ (fun n => G142e7 n ..) ?_
    have e : ¬ 64 ≤ j := by omega
    simp (disch := omega) only [G142b7, L64, L0, L1, L2, L3, L4, L5, L6, L7, L8, L9, L10, L11, L12, L13, L16, L20, L31, L32, L40, L48, L57, L59, L60, L61, L91, L93, L97, L99, L100, L102, L103, L114, L122, L255, L300, L400, L402, L999, L2280, L2500, L99999, L63, L1431655765, L858993459, L252645135, ic_ge, ic_gt, ic_le, ic_lt, ic_eq, ic_ne, if_lt, if_ge, if_gt, if_le, if_eq, if_ne, if_lt_zI, if_ge_zI, ic_ne_m1, ic_eq_m1, ic_nn_m1, ic_ee_m1, if_ne_b2i, if_eq_b2i, b2i_z, decide_eq_true_eq, decide_true, decide_false, Bool.not_eq_true, Bool.not_eq_true', Bool.not_true, Bool.not_false, decide_eq_false_iff_not, Bool.false_eq_true, not_false_eq_true, not_true_eq_false, if_true, if_false, ↓reduceIte, eq_self, Option.bind_some, Bool.true_and, Bool.false_and, Bool.and_true, Bool.and_false, nI_add, nI_subN, nI_clamp, gdF, gdF2, gdP, gdP2, zI_cl, zI_s, Lm1, nI_n0, zI_n0, leF, or_false, false_or, or_self, e]
    exact ev_ret
  have step : ∀ a b j, j ≤ 63 → a < 2 ^ 31 → b < 2 ^ 31 → b ≠ 0 → ∀ r, Ev (fun n => G142f n 7 (nI 0) (nI 0) (nI b) (nI (a % b)) (nI (j + 1)) T) r → Ev (fun n => G142f n 7 (nI 0) (nI 0) (nI a) (nI b) (nI j) T) r := by
    intro a b j hj ha hb h0 r h
    refine ev_succ (fun n => G142e7 n ..) ?_
    have e : ¬ 64 ≤ j := by omega
    have hz : ¬ nI b = nI 0 := by
      intro h
      have := (nI_eqI' (a := b) (b := 0) hb (by decide)).mp h
      omega
    have q := pk_rem ha (Nat.pos_of_ne_zero h0) hb
    simp (disch := omega) only [G142b7, L64, L0, L1, L2, L3, L4, L5, L6, L7, L8, L9, L10, L11, L12, L13, L16, L20, L31, L32, L40, L48, L57, L59, L60, L61, L91, L93, L97, L99, L100, L102, L103, L114, L122, L255, L300, L400, L402, L999, L2280, L2500, L99999, L63, L1431655765, L858993459, L252645135, ic_ge, ic_gt, ic_le, ic_lt, ic_eq, ic_ne, if_lt, if_ge, if_gt, if_le, if_eq, if_ne, if_lt_zI, if_ge_zI, ic_ne_m1, ic_eq_m1, ic_nn_m1, ic_ee_m1, if_ne_b2i, if_eq_b2i, b2i_z, decide_eq_true_eq, decide_true, decide_false, Bool.not_eq_true, Bool.not_eq_true', Bool.not_true, Bool.not_false, decide_eq_false_iff_not, Bool.false_eq_true, not_false_eq_true, not_true_eq_false, if_true, if_false, ↓reduceIte, eq_self, Option.bind_some, Bool.true_and, Bool.false_and, Bool.and_true, Bool.and_false, nI_add, nI_subN, nI_clamp, gdF, gdF2, gdP, gdP2, zI_cl, zI_s, Lm1, nI_n0, zI_n0, leF, or_false, false_or, or_self, e, h0, hz, q]
    exact h
  intro k
  induction k with
  | zero =>
    intro a b j hb hj ha hb'
    have : b = 0 := by omega
    subst this
    rw [Nat.gcd_zero_right]
    exact stop a j (by omega)
  | succ k ih =>
    intro a b j hb hj ha hb'
    by_cases h0 : b = 0
    · subst h0
      rw [Nat.gcd_zero_right]
      exact stop a j (by omega)
    · have g1 : Nat.gcd a b = Nat.gcd b (a % b) := by rw [Nat.gcd_comm a b, Nat.gcd_rec b a, Nat.gcd_comm]
      have hr := Nat.mod_lt a (Nat.pos_of_ne_zero h0)
      refine step a b j (by omega) ha hb' h0 _ ?_
      rw [g1]
      by_cases h1 : a % b = 0
      · rw [h1, Nat.gcd_zero_right]
        exact stop b (j + 1) (by omega)
      · have g2 : Nat.gcd b (a % b) = Nat.gcd (a % b) (b % (a % b)) := by rw [Nat.gcd_comm b, Nat.gcd_rec (a % b) b, Nat.gcd_comm]
        have hr2 := Nat.mod_lt b (Nat.pos_of_ne_zero h1)
        have h2 : b % (a % b) + a % b ≤ b := by
          have h3 := Nat.div_add_mod b (a % b)
          have h4 : 1 ≤ b / (a % b) := Nat.div_pos (by omega) (Nat.pos_of_ne_zero h1)
          have h5 : a % b * 1 ≤ a % b * (b / (a % b)) := Nat.mul_le_mul_left _ h4
          omega
        refine step b (a % b) (j + 1) (by omega) hb' (by omega) h1 _ ?_
        rw [g2]
        exact ih (a % b) (b % (a % b)) (j + 1 + 1) (by rw [Nat.pow_succ] at hb; omega) (by omega) (by omega) (by omega)
theorem g142 {T : xS} {a b : Nat} (ha : a < 2 ^ 31) (hb : b < 2 ^ 31) : Ev (fun n => G142 n (nI a) (nI b) T) (nI (Nat.gcd a b), T) := by
  refine ev_succ (fun n => G142e0 n ..) ?_
  simp only [G142b0, L0]
  exact g142l 31 a b 0 hb (by decide) ha hb
def shrA (w : AW) (m v : Nat) : Nat := if prSum w 6 0 = 0 then v else if v = 0 then w.1 8 m / Nat.gcd (prSum w 6 0) (w.1 8 m) else prSum w 6 0 / Nat.gcd (prSum w 6 0) (w.1 8 m)
theorem f258l {S : mS} {w : AW} {m v s : Nat} (hm : m < 6) (hv : v ≤ 1) (h6 : S.2.1 6 m = nI (w.1 8 m)) (hw8 : w.1 8 m < 2 ^ 31) (hs : s < 2 ^ 31) : ∀ (b a : Nat), a < 2 ^ 31 → b < 2 ^ 31 → 0 < Nat.gcd a b → Nat.gcd a b < 2 ^ 31 → Ev (fun n => F258f n 52 (nI m) (nI v) (nI s) (nI b) (nI a) S) (nI (if v = 0 then w.1 8 m / Nat.gcd a b else s / Nat.gcd a b), S) := by
  intro b
  induction b using Nat.strongRecOn with
  | _ b ih =>
    intro a ha hb h0 hg
    refine ev_succ (fun n => F258e52 n ..) ?_
    by_cases hb0 : b = 0
    · subst hb0
      rw [Nat.gcd_zero_right] at h0 hg ⊢
      have hz : ¬ nI a = nI 0 := by
        intro h
        have := (nI_eqI' (a := a) (b := 0) ha (by decide)).mp h
        omega
      have q1 := pk_div (a := s) (d := a) hs h0 ha
      have q2 := pk_div (a := w.1 8 m) (d := a) hw8 h0 ha
      have hv' : v = 0 ∨ v = 1 := by omega
      rcases hv' with rfl | rfl
      · simp (disch := omega) only [F258b52, L0, L1, L2, L3, L4, L5, L6, L7, L8, L9, L10, L11, L12, L13, L16, L20, L31, L32, L40, L48, L57, L59, L60, L61, L91, L93, L97, L99, L100, L102, L103, L114, L122, L255, L300, L400, L402, L999, L2280, L2500, L99999, L63, L1431655765, L858993459, L252645135, ic_ge, ic_gt, ic_le, ic_lt, ic_eq, ic_ne, if_lt, if_ge, if_gt, if_le, if_eq, if_ne, if_lt_zI, if_ge_zI, ic_ne_m1, ic_eq_m1, ic_nn_m1, ic_ee_m1, if_ne_b2i, if_eq_b2i, b2i_z, decide_eq_true_eq, decide_true, decide_false, Bool.not_eq_true, Bool.not_eq_true', Bool.not_true, Bool.not_false, decide_eq_false_iff_not, Bool.false_eq_true, not_false_eq_true, not_true_eq_false, if_true, if_false, ↓reduceIte, eq_self, Option.bind_some, Bool.true_and, Bool.false_and, Bool.and_true, Bool.and_false, nI_add, nI_subN, nI_clamp, gdF, gdF2, gdP, gdP2, zI_cl, zI_s, Lm1, nI_n0, zI_n0, leF, or_false, false_or, or_self, hz, h6, q1, q2]
        exact ev_ret
      · simp (disch := omega) only [F258b52, L0, L1, L2, L3, L4, L5, L6, L7, L8, L9, L10, L11, L12, L13, L16, L20, L31, L32, L40, L48, L57, L59, L60, L61, L91, L93, L97, L99, L100, L102, L103, L114, L122, L255, L300, L400, L402, L999, L2280, L2500, L99999, L63, L1431655765, L858993459, L252645135, ic_ge, ic_gt, ic_le, ic_lt, ic_eq, ic_ne, if_lt, if_ge, if_gt, if_le, if_eq, if_ne, if_lt_zI, if_ge_zI, ic_ne_m1, ic_eq_m1, ic_nn_m1, ic_ee_m1, if_ne_b2i, if_eq_b2i, b2i_z, decide_eq_true_eq, decide_true, decide_false, Bool.not_eq_true, Bool.not_eq_true', Bool.not_true, Bool.not_false, decide_eq_false_iff_not, Bool.false_eq_true, not_false_eq_true, not_true_eq_false, if_true, if_false, ↓reduceIte, eq_self, Option.bind_some, Bool.true_and, Bool.false_and, Bool.and_true, Bool.and_false, nI_add, nI_subN, nI_clamp, gdF, gdF2, gdP, gdP2, zI_cl, zI_s, Lm1, nI_n0, zI_n0, leF, or_false, false_or, or_self, hz, h6, q1, q2, Nat.one_ne_zero]
        exact ev_ret
    · have hz : ¬ nI b = nI 0 := by
        intro h
        have := (nI_eqI' (a := b) (b := 0) hb (by decide)).mp h
        omega
      have q := pk_rem ha (Nat.pos_of_ne_zero hb0) hb
      have hr := Nat.mod_lt a (Nat.pos_of_ne_zero hb0)
      have g1 : Nat.gcd a b = Nat.gcd b (a % b) := by rw [Nat.gcd_comm a b, Nat.gcd_rec b a, Nat.gcd_comm]
      simp (disch := omega) only [F258b52, L0, L1, L2, L3, L4, L5, L6, L7, L8, L9, L10, L11, L12, L13, L16, L20, L31, L32, L40, L48, L57, L59, L60, L61, L91, L93, L97, L99, L100, L102, L103, L114, L122, L255, L300, L400, L402, L999, L2280, L2500, L99999, L63, L1431655765, L858993459, L252645135, ic_ge, ic_gt, ic_le, ic_lt, ic_eq, ic_ne, if_lt, if_ge, if_gt, if_le, if_eq, if_ne, if_lt_zI, if_ge_zI, ic_ne_m1, ic_eq_m1, ic_nn_m1, ic_ee_m1, if_ne_b2i, if_eq_b2i, b2i_z, decide_eq_true_eq, decide_true, decide_false, Bool.not_eq_true, Bool.not_eq_true', Bool.not_true, Bool.not_false, decide_eq_false_iff_not, Bool.false_eq_true, not_false_eq_true, not_true_eq_false, if_true, if_false, ↓reduceIte, eq_self, Option.bind_some, Bool.true_and, Bool.false_and, Bool.and_true, Bool.and_false, nI_add, nI_subN, nI_clamp, gdF, gdF2, gdP, gdP2, zI_cl, zI_s, Lm1, nI_n0, zI_n0, leF, or_false, false_or, or_self, hz, hb0, q]
      rw [g1] at h0 hg ⊢
      exact ih (a % b) hr b hb (by omega) h0 hg
theorem prSum_le {w : AW} {B : Nat} : ∀ m j, (∀ i, j ≤ i → i < j + m → w.1 8 i ≤ B) → prSum w m j ≤ m * B
  | 0, _, _ => by
    rw [Nat.zero_mul]
    exact Nat.le_refl _
  | m + 1, j, h => by
    have h1 := prSum_le m (j + 1) (fun i a b => h i (by omega) (by omega))
    have h2 := h j (Nat.le_refl _) (by omega)
    show w.1 8 j + prSum w m (j + 1) ≤ _
    rw [Nat.succ_mul]
    omega
theorem sm_share {k : Nat} {a1 a2 : Int32} (hk : k < 512) (A : AA) (ok : OkA k A) : ∃ r A', OkA (k + 1) A' ∧ CallT (fun n => G140 n a1 a2) A r A' ∧ CallM (fun n => F258 n a1 a2) A r A' := by
  have ok1 := OkA_s ok
  have hb := OkA_b ok
  have kw := OkA_w ok
  have hb2 := hb.2.1
  have hday := (ok.2.2.2.1.2.2.1 A.2.2.1.2.1 (Or.inl rfl)).2.2.1
  have h8 := (ok.2.2.2.1.2.2.1 A.2.2.1.2.1 (Or.inl rfl)).2.2.2.1
  have h8' : ∀ i, i < 6 → A.2.2.1.2.1.1 8 i ≤ 6656 := by
    intro i hi
    have := h8 i hi
    omega
  have hsum : prSum A.2.2.1.2.1 6 0 ≤ 6 * 6656 := prSum_le 6 0 (fun i _ hi => h8' i (by omega))
  by_cases hall : (∃ m, m < A.2.2.1.1 0 1 ∧ a1 = nI m) ∧ (∃ j, j ≤ 1 ∧ a2 = nI j)
  · obtain ⟨⟨m, hm, rfl⟩, ⟨v, hv, rfl⟩⟩ := hall
    have hm8 := h8' m (by omega)
    have in1 : inL (nI v).toInt64 0 1 = true := by
      have := inK (a := v) (k := 1) (by omega) (by decide)
      rw [decide_eq_true hv] at this
      exact this
    have hgl : prSum A.2.2.1.2.1 6 0 ≠ 0 → 0 < Nat.gcd (prSum A.2.2.1.2.1 6 0) (A.2.2.1.2.1.1 8 m) ∧ Nat.gcd (prSum A.2.2.1.2.1 6 0) (A.2.2.1.2.1.1 8 m) ≤ prSum A.2.2.1.2.1 6 0 := fun h => ⟨Nat.gcd_pos_of_pos_left _ (Nat.pos_of_ne_zero h), Nat.le_of_dvd (Nat.pos_of_ne_zero h) (Nat.gcd_dvd_left _ _)⟩
    refine ⟨nI (shrA A.2.2.1.2.1 m v), A, ok1, callT_id (fun T G hR => ?_), callM_id (fun S hS => ?_)⟩
    · have hc1 : T.1 89 1 = nI (A.2.2.1.1 0 1) := (CD_b hR).2.1
      have h105 : T.2.1 105 m = nI (A.2.2.1.2.1.1 8 m) := (CD_w hR).2.2.2.2.2 m (by omega)
      have e : ¬ A.2.2.1.1 0 1 ≤ m := by omega
      refine ev_succ (fun n => G140e0 n ..) ?_
      simp (disch := omega) only [G140b0, L0, L1, L2, L3, L4, L5, L6, L7, L8, L9, L10, L11, L12, L13, L16, L20, L31, L32, L40, L48, L57, L59, L60, L61, L91, L93, L97, L99, L100, L102, L103, L114, L122, L255, L300, L400, L402, L999, L2280, L2500, L99999, L63, L1431655765, L858993459, L252645135, ic_ge, ic_gt, ic_le, ic_lt, ic_eq, ic_ne, if_lt, if_ge, if_gt, if_le, if_eq, if_ne, if_lt_zI, if_ge_zI, ic_ne_m1, ic_eq_m1, ic_nn_m1, ic_ee_m1, if_ne_b2i, if_eq_b2i, b2i_z, decide_eq_true_eq, decide_true, decide_false, Bool.not_eq_true, Bool.not_eq_true', Bool.not_true, Bool.not_false, decide_eq_false_iff_not, Bool.false_eq_true, not_false_eq_true, not_true_eq_false, if_true, if_false, ↓reduceIte, eq_self, Option.bind_some, Bool.true_and, Bool.false_and, Bool.and_true, Bool.and_false, nI_add, nI_subN, nI_clamp, gdF, gdF2, gdP, gdP2, zI_cl, zI_s, Lm1, nI_n0, zI_n0, leF, or_false, false_or, or_self, hc1, e, hv]
      refine ev_bind (g141 (CD_w hR)) ?_
      by_cases h0 : prSum A.2.2.1.2.1 6 0 = 0
      · unfold shrA
        simp (disch := omega) only [L0, L1, L2, L3, L4, L5, L6, L7, L8, L9, L10, L11, L12, L13, L16, L20, L31, L32, L40, L48, L57, L59, L60, L61, L91, L93, L97, L99, L100, L102, L103, L114, L122, L255, L300, L400, L402, L999, L2280, L2500, L99999, L63, L1431655765, L858993459, L252645135, ic_ge, ic_gt, ic_le, ic_lt, ic_eq, ic_ne, if_lt, if_ge, if_gt, if_le, if_eq, if_ne, if_lt_zI, if_ge_zI, ic_ne_m1, ic_eq_m1, ic_nn_m1, ic_ee_m1, if_ne_b2i, if_eq_b2i, b2i_z, decide_eq_true_eq, decide_true, decide_false, Bool.not_eq_true, Bool.not_eq_true', Bool.not_true, Bool.not_false, decide_eq_false_iff_not, Bool.false_eq_true, not_false_eq_true, not_true_eq_false, if_true, if_false, ↓reduceIte, eq_self, Option.bind_some, Bool.true_and, Bool.false_and, Bool.and_true, Bool.and_false, nI_add, nI_subN, nI_clamp, gdF, gdF2, gdP, gdP2, zI_cl, zI_s, Lm1, nI_n0, zI_n0, leF, or_false, false_or, or_self, h0]
        exact ev_ret
      · obtain ⟨g0, g1⟩ := hgl h0
        simp (disch := omega) only [L0, L1, L2, L3, L4, L5, L6, L7, L8, L9, L10, L11, L12, L13, L16, L20, L31, L32, L40, L48, L57, L59, L60, L61, L91, L93, L97, L99, L100, L102, L103, L114, L122, L255, L300, L400, L402, L999, L2280, L2500, L99999, L63, L1431655765, L858993459, L252645135, ic_ge, ic_gt, ic_le, ic_lt, ic_eq, ic_ne, if_lt, if_ge, if_gt, if_le, if_eq, if_ne, if_lt_zI, if_ge_zI, ic_ne_m1, ic_eq_m1, ic_nn_m1, ic_ee_m1, if_ne_b2i, if_eq_b2i, b2i_z, decide_eq_true_eq, decide_true, decide_false, Bool.not_eq_true, Bool.not_eq_true', Bool.not_true, Bool.not_false, decide_eq_false_iff_not, Bool.false_eq_true, not_false_eq_true, not_true_eq_false, if_true, if_false, ↓reduceIte, eq_self, Option.bind_some, Bool.true_and, Bool.false_and, Bool.and_true, Bool.and_false, nI_add, nI_subN, nI_clamp, gdF, gdF2, gdP, gdP2, zI_cl, zI_s, Lm1, nI_n0, zI_n0, leF, or_false, false_or, or_self, h0, h105]
        refine ev_bind (g142 (by omega) (by omega)) ?_
        obtain ⟨g, hg⟩ : ∃ g, g = Nat.gcd (prSum A.2.2.1.2.1 6 0) (A.2.2.1.2.1.1 8 m) := ⟨_, rfl⟩
        unfold shrA
        rw [← hg] at g0 g1 ⊢
        have hz : ¬ g = 0 := by omega
        have hz2 : ¬ nI g = nI 0 := by
          intro h
          have := (nI_eqI' (a := g) (b := 0) (by omega) (by decide)).mp h
          omega
        have q1 := pk_div (a := prSum A.2.2.1.2.1 6 0) (d := g) (by omega) g0 (by omega)
        have q2 := pk_div (a := A.2.2.1.2.1.1 8 m) (d := g) (by omega) g0 (by omega)
        have hv' : v = 0 ∨ v = 1 := by omega
        rcases hv' with rfl | rfl
        · simp (disch := omega) only [L0, L1, L2, L3, L4, L5, L6, L7, L8, L9, L10, L11, L12, L13, L16, L20, L31, L32, L40, L48, L57, L59, L60, L61, L91, L93, L97, L99, L100, L102, L103, L114, L122, L255, L300, L400, L402, L999, L2280, L2500, L99999, L63, L1431655765, L858993459, L252645135, ic_ge, ic_gt, ic_le, ic_lt, ic_eq, ic_ne, if_lt, if_ge, if_gt, if_le, if_eq, if_ne, if_lt_zI, if_ge_zI, ic_ne_m1, ic_eq_m1, ic_nn_m1, ic_ee_m1, if_ne_b2i, if_eq_b2i, b2i_z, decide_eq_true_eq, decide_true, decide_false, Bool.not_eq_true, Bool.not_eq_true', Bool.not_true, Bool.not_false, decide_eq_false_iff_not, Bool.false_eq_true, not_false_eq_true, not_true_eq_false, if_true, if_false, ↓reduceIte, eq_self, Option.bind_some, Bool.true_and, Bool.false_and, Bool.and_true, Bool.and_false, nI_add, nI_subN, nI_clamp, gdF, gdF2, gdP, gdP2, zI_cl, zI_s, Lm1, nI_n0, zI_n0, leF, or_false, false_or, or_self, h0, hz, hz2, q1, q2]
          exact ev_ret
        · simp (disch := omega) only [L0, L1, L2, L3, L4, L5, L6, L7, L8, L9, L10, L11, L12, L13, L16, L20, L31, L32, L40, L48, L57, L59, L60, L61, L91, L93, L97, L99, L100, L102, L103, L114, L122, L255, L300, L400, L402, L999, L2280, L2500, L99999, L63, L1431655765, L858993459, L252645135, ic_ge, ic_gt, ic_le, ic_lt, ic_eq, ic_ne, if_lt, if_ge, if_gt, if_le, if_eq, if_ne, if_lt_zI, if_ge_zI, ic_ne_m1, ic_eq_m1, ic_nn_m1, ic_ee_m1, if_ne_b2i, if_eq_b2i, b2i_z, decide_eq_true_eq, decide_true, decide_false, Bool.not_eq_true, Bool.not_eq_true', Bool.not_true, Bool.not_false, decide_eq_false_iff_not, Bool.false_eq_true, not_false_eq_true, not_true_eq_false, if_true, if_false, ↓reduceIte, eq_self, Option.bind_some, Bool.true_and, Bool.false_and, Bool.and_true, Bool.and_false, nI_add, nI_subN, nI_clamp, gdF, gdF2, gdP, gdP2, zI_cl, zI_s, Lm1, nI_n0, zI_n0, leF, or_false, false_or, or_self, h0, hz, hz2, q1, q2, Nat.one_ne_zero]
          exact ev_ret
    · have hc1 : S.2.1 1 1 = nI (A.2.2.1.1 0 1) := (MD_b hS).2.1
      have h6 : S.2.1 6 m = nI (A.2.2.1.2.1.1 8 m) := (MD_w hS).2.2.2.2.1 m (by omega)
      refine ev_succ (fun n => F258e0 n ..) ?_
      simp only [F258b0, L1, hc1, zI_sub]
      refine ev_bind (f172 S) ?_
      rw [inC' (by omega) (by omega), decide_eq_true hm]
      simp only [if_eq_b2i, decide_eq_true_eq, decide_true, decide_false, Bool.not_eq_true, Bool.not_eq_true', Bool.not_true, Bool.not_false, decide_eq_false_iff_not, Bool.false_eq_true, not_false_eq_true, not_true_eq_false, if_true, if_false, ↓reduceIte, eq_self, Option.bind_some, Bool.true_and, Bool.false_and, Bool.and_true, Bool.and_false]
      refine ev_bind (f172 S) ?_
      rw [in1]
      simp only [if_ne_b2i, decide_eq_true_eq, decide_true, decide_false, Bool.not_eq_true, Bool.not_eq_true', Bool.not_true, Bool.not_false, decide_eq_false_iff_not, Bool.false_eq_true, not_false_eq_true, not_true_eq_false, if_true, if_false, ↓reduceIte, eq_self, Option.bind_some, Bool.true_and, Bool.false_and, Bool.and_true, Bool.and_false]
      refine ev_bind (f259 (MD_b hS) hb (MD_w hS) kw) ?_
      by_cases h0 : prSum A.2.2.1.2.1 6 0 = 0
      · unfold shrA
        simp (disch := omega) only [L0, L1, L2, L3, L4, L5, L6, L7, L8, L9, L10, L11, L12, L13, L16, L20, L31, L32, L40, L48, L57, L59, L60, L61, L91, L93, L97, L99, L100, L102, L103, L114, L122, L255, L300, L400, L402, L999, L2280, L2500, L99999, L63, L1431655765, L858993459, L252645135, ic_ge, ic_gt, ic_le, ic_lt, ic_eq, ic_ne, if_lt, if_ge, if_gt, if_le, if_eq, if_ne, if_lt_zI, if_ge_zI, ic_ne_m1, ic_eq_m1, ic_nn_m1, ic_ee_m1, if_ne_b2i, if_eq_b2i, b2i_z, decide_eq_true_eq, decide_true, decide_false, Bool.not_eq_true, Bool.not_eq_true', Bool.not_true, Bool.not_false, decide_eq_false_iff_not, Bool.false_eq_true, not_false_eq_true, not_true_eq_false, if_true, if_false, ↓reduceIte, eq_self, Option.bind_some, Bool.true_and, Bool.false_and, Bool.and_true, Bool.and_false, nI_add, nI_subN, nI_clamp, gdF, gdF2, gdP, gdP2, zI_cl, zI_s, Lm1, nI_n0, zI_n0, leF, or_false, false_or, or_self, h0]
        exact ev_ret
      · obtain ⟨g0, g1⟩ := hgl h0
        simp (disch := omega) only [L0, L1, L2, L3, L4, L5, L6, L7, L8, L9, L10, L11, L12, L13, L16, L20, L31, L32, L40, L48, L57, L59, L60, L61, L91, L93, L97, L99, L100, L102, L103, L114, L122, L255, L300, L400, L402, L999, L2280, L2500, L99999, L63, L1431655765, L858993459, L252645135, ic_ge, ic_gt, ic_le, ic_lt, ic_eq, ic_ne, if_lt, if_ge, if_gt, if_le, if_eq, if_ne, if_lt_zI, if_ge_zI, ic_ne_m1, ic_eq_m1, ic_nn_m1, ic_ee_m1, if_ne_b2i, if_eq_b2i, b2i_z, decide_eq_true_eq, decide_true, decide_false, Bool.not_eq_true, Bool.not_eq_true', Bool.not_true, Bool.not_false, decide_eq_false_iff_not, Bool.false_eq_true, not_false_eq_true, not_true_eq_false, if_true, if_false, ↓reduceIte, eq_self, Option.bind_some, Bool.true_and, Bool.false_and, Bool.and_true, Bool.and_false, nI_add, nI_subN, nI_clamp, gdF, gdF2, gdP, gdP2, zI_cl, zI_s, Lm1, nI_n0, zI_n0, leF, or_false, false_or, or_self, h0, h6]
        unfold shrA
        rw [if_neg h0]
        exact f258l (by omega) hv h6 (by omega) (by omega) _ _ (by omega) (by omega) g0 (by omega)
  · refine ⟨zI 0, A, ok1, callT_id (fun T G hR => ?_), callM_id (fun S hS => ?_)⟩
    · have hc1 : T.1 89 1 = nI (A.2.2.1.1 0 1) := (CD_b hR).2.1
      refine ev_succ (fun n => G140e0 n ..) ?_
      rcases i32_cases a1 with ⟨m, hx1, rfl⟩ | hx1
      · by_cases hm : A.2.2.1.1 0 1 ≤ m
        · simp (disch := omega) only [G140b0, L0, L1, L2, L3, L4, L5, L6, L7, L8, L9, L10, L11, L12, L13, L16, L20, L31, L32, L40, L48, L57, L59, L60, L61, L91, L93, L97, L99, L100, L102, L103, L114, L122, L255, L300, L400, L402, L999, L2280, L2500, L99999, L63, L1431655765, L858993459, L252645135, ic_ge, ic_gt, ic_le, ic_lt, ic_eq, ic_ne, if_lt, if_ge, if_gt, if_le, if_eq, if_ne, if_lt_zI, if_ge_zI, ic_ne_m1, ic_eq_m1, ic_nn_m1, ic_ee_m1, if_ne_b2i, if_eq_b2i, b2i_z, decide_eq_true_eq, decide_true, decide_false, Bool.not_eq_true, Bool.not_eq_true', Bool.not_true, Bool.not_false, decide_eq_false_iff_not, Bool.false_eq_true, not_false_eq_true, not_true_eq_false, if_true, if_false, ↓reduceIte, eq_self, Option.bind_some, Bool.true_and, Bool.false_and, Bool.and_true, Bool.and_false, nI_add, nI_subN, nI_clamp, gdF, gdF2, gdP, gdP2, zI_cl, zI_s, Lm1, nI_n0, zI_n0, leF, or_false, false_or, or_self, hc1, hm]
          exact ev_ret
        · simp (disch := omega) only [G140b0, L0, L1, L2, L3, L4, L5, L6, L7, L8, L9, L10, L11, L12, L13, L16, L20, L31, L32, L40, L48, L57, L59, L60, L61, L91, L93, L97, L99, L100, L102, L103, L114, L122, L255, L300, L400, L402, L999, L2280, L2500, L99999, L63, L1431655765, L858993459, L252645135, ic_ge, ic_gt, ic_le, ic_lt, ic_eq, ic_ne, if_lt, if_ge, if_gt, if_le, if_eq, if_ne, if_lt_zI, if_ge_zI, ic_ne_m1, ic_eq_m1, ic_nn_m1, ic_ee_m1, if_ne_b2i, if_eq_b2i, b2i_z, decide_eq_true_eq, decide_true, decide_false, Bool.not_eq_true, Bool.not_eq_true', Bool.not_true, Bool.not_false, decide_eq_false_iff_not, Bool.false_eq_true, not_false_eq_true, not_true_eq_false, if_true, if_false, ↓reduceIte, eq_self, Option.bind_some, Bool.true_and, Bool.false_and, Bool.and_true, Bool.and_false, nI_add, nI_subN, nI_clamp, gdF, gdF2, gdP, gdP2, zI_cl, zI_s, Lm1, nI_n0, zI_n0, leF, or_false, false_or, or_self, hc1, hm]
          rcases arg_W a2 (v := 1) (by decide) with ⟨j, hj, rfl⟩ | ⟨h4 | ⟨h4, h5⟩, _⟩
          · exact absurd ⟨⟨m, by omega, rfl⟩, ⟨j, hj, rfl⟩⟩ hall
          · simp only [h4, decide_eq_true_eq, decide_true, decide_false, Bool.not_eq_true, Bool.not_eq_true', Bool.not_true, Bool.not_false, decide_eq_false_iff_not, Bool.false_eq_true, not_false_eq_true, not_true_eq_false, if_true, if_false, ↓reduceIte, eq_self, Option.bind_some, Bool.true_and, Bool.false_and, Bool.and_true, Bool.and_false]
            exact ev_ret
          · simp only [h4, h5, decide_eq_true_eq, decide_true, decide_false, Bool.not_eq_true, Bool.not_eq_true', Bool.not_true, Bool.not_false, decide_eq_false_iff_not, Bool.false_eq_true, not_false_eq_true, not_true_eq_false, if_true, if_false, ↓reduceIte, eq_self, Option.bind_some, Bool.true_and, Bool.false_and, Bool.and_true, Bool.and_false]
            exact ev_ret
      · simp only [G140b0, (neg_if hx1).1, decide_eq_true_eq, decide_true, decide_false, Bool.not_eq_true, Bool.not_eq_true', Bool.not_true, Bool.not_false, decide_eq_false_iff_not, Bool.false_eq_true, not_false_eq_true, not_true_eq_false, if_true, if_false, ↓reduceIte, eq_self, Option.bind_some, Bool.true_and, Bool.false_and, Bool.and_true, Bool.and_false]
        exact ev_ret
    · have hc1 : S.2.1 1 1 = nI (A.2.2.1.1 0 1) := (MD_b hS).2.1
      refine ev_succ (fun n => F258e0 n ..) ?_
      simp only [F258b0, L1, hc1, zI_sub]
      refine ev_bind (f172 S) ?_
      rcases i32_cases a1 with ⟨m, hx1, rfl⟩ | hx1
      · rw [inC' hx1 (by omega)]
        by_cases hm : m < A.2.2.1.1 0 1
        · simp only [hm, if_eq_b2i, decide_eq_true_eq, decide_true, decide_false, Bool.not_eq_true, Bool.not_eq_true', Bool.not_true, Bool.not_false, decide_eq_false_iff_not, Bool.false_eq_true, not_false_eq_true, not_true_eq_false, if_true, if_false, ↓reduceIte, eq_self, Option.bind_some, Bool.true_and, Bool.false_and, Bool.and_true, Bool.and_false]
          refine ev_bind (f172 S) ?_
          rcases arg_W a2 (v := 1) (by decide) with ⟨j, hj, rfl⟩ | ⟨_, h5⟩
          · exact absurd ⟨⟨m, by omega, rfl⟩, ⟨j, hj, rfl⟩⟩ hall
          · have h5 : inL a2.toInt64 0 1 = false := h5
            rw [h5]
            simp only [if_ne_b2i, decide_eq_true_eq, decide_true, decide_false, Bool.not_eq_true, Bool.not_eq_true', Bool.not_true, Bool.not_false, decide_eq_false_iff_not, Bool.false_eq_true, not_false_eq_true, not_true_eq_false, if_true, if_false, ↓reduceIte, eq_self, Option.bind_some, Bool.true_and, Bool.false_and, Bool.and_true, Bool.and_false]
            exact ev_ret
        · simp only [hm, if_eq_b2i, decide_eq_true_eq, decide_true, decide_false, Bool.not_eq_true, Bool.not_eq_true', Bool.not_true, Bool.not_false, decide_eq_false_iff_not, Bool.false_eq_true, not_false_eq_true, not_true_eq_false, if_true, if_false, ↓reduceIte, eq_self, Option.bind_some, Bool.true_and, Bool.false_and, Bool.and_true, Bool.and_false]
          exact ev_ret
      · rw [inL_neg hx1]
        simp only [if_eq_b2i, decide_eq_true_eq, decide_true, decide_false, Bool.not_eq_true, Bool.not_eq_true', Bool.not_true, Bool.not_false, decide_eq_false_iff_not, Bool.false_eq_true, not_false_eq_true, not_true_eq_false, if_true, if_false, ↓reduceIte, eq_self, Option.bind_some, Bool.true_and, Bool.false_and, Bool.and_true, Bool.and_false]
        exact ev_ret
