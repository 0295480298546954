/-! seen: the reference -/
def DgM (S : mS) (p : WK) : Prop := S.1 53 = nI p.2.2.2 ∧ ∀ i, i < p.2.2.2 → S.2.1 39 i = nI (p.2.2.1 / 10 ^ (p.2.2.2 - 1 - i) % 10)
theorem DgM_app {S : mS} {z z' wt wt' x q l : Nat} (h : DgM S (z, wt, x, q)) (hl : l < 10) : DgM (m_sI (m_sA S 39 q (nI l)) 53 (nI (q + 1))) (z', wt', x * 10 + l, q + 1) := by
  refine ⟨m_rIe, fun i hi => ?_⟩
  have hi : i < q + 1 := hi
  show (m_sA S 39 q (nI l)).2.1 39 i = nI ((x * 10 + l) / 10 ^ (q + 1 - 1 - i) % 10)
  by_cases e : i = q
  · subst e
    rw [m_rAe, show i + 1 - 1 - i = 0 by omega, Nat.pow_zero, Nat.div_one]
    rw [show (x * 10 + l) % 10 = l by omega]
  · rw [m_rAi e]
    have h2 := h.2 i (show i < q by omega)
    have h2 : S.2.1 39 i = nI (x / 10 ^ (q - 1 - i) % 10) := h2
    rw [h2, show q + 1 - 1 - i = (q - 1 - i) + 1 by omega, Nat.pow_succ, Nat.mul_comm (10 ^ (q - 1 - i)) 10, ← Nat.div_div_eq_div_mul, show (x * 10 + l) / 10 = x by omega]
section F252
variable {k : Nat} {A : AA}
theorem f252l (ok : OkA k A) {d : Nat} (hd : d ≤ 20) : ∀ (m i : Nat) (p : WK) (S : mS), i + m = d → OkP A.2.2.1.1 p → p.2.2.2 ≤ i → RM A S → DgM S p → Ep (fun n => F252f n 13 (nI 0) (nI d) (zI p.1) (nI p.2.1) (nI i) S) (fun z => z.1 = zI (wkI A.2.2.1.1 A.2.2.1.2.1 m p).1 ∧ RM A z.2 ∧ DgM z.2 (wkI A.2.2.1.1 A.2.2.1.2.1 m p)) := by
  have hb := OkA_b ok
  have hb1 := hb.1
  have hb2 := hb.2.1
  intro m
  induction m with
  | zero =>
    intro i p S hi hp hq hS hD
    refine ep_succ (fun n => F252e13 n ..) ?_
    have e : d ≤ i := by omega
    simp (disch := omega) only [F252b13, L0, L1, L2, L3, L4, L5, L6, L7, L8, L9, L10, L11, L12, L13, L16, L20, L31, L32, L40, L48, L57, L59, L60, L61, L91, L93, L97, L99, L100, L102, L103, L114, L122, L255, L300, L400, L402, L999, L2280, L2500, L99999, L63, L1431655765, L858993459, L252645135, ic_ge, ic_gt, ic_le, ic_lt, ic_eq, ic_ne, if_lt, if_ge, if_gt, if_le, if_eq, if_ne, if_lt_zI, if_ge_zI, ic_ne_m1, ic_eq_m1, ic_nn_m1, ic_ee_m1, if_ne_b2i, if_eq_b2i, b2i_z, decide_eq_true_eq, decide_true, decide_false, Bool.not_eq_true, Bool.not_eq_true', Bool.not_true, Bool.not_false, decide_eq_false_iff_not, Bool.false_eq_true, not_false_eq_true, not_true_eq_false, if_true, if_false, ↓reduceIte, eq_self, Option.bind_some, Bool.true_and, Bool.false_and, Bool.and_true, Bool.and_false, nI_add, nI_subN, nI_clamp, gdF, gdF2, gdP, gdP2, zI_cl, zI_s, Lm1, nI_n0, zI_n0, leF, or_false, false_or, or_self, e]
    exact ep_ret ⟨rfl, hS, hD⟩
  | succ m ih =>
    intro i p S hi hp hq hS hD
    refine ep_succ (fun n => F252e13 n ..) ?_
    have e : ¬ d ≤ i := by omega
    by_cases h0 : p.1 = 0
    · rw [wkI_0 h0]
      have hz : zI p.1 = zI 0 := by rw [h0]
      rw [hz]
      simp (disch := omega) only [F252b13, L0, L1, L2, L3, L4, L5, L6, L7, L8, L9, L10, L11, L12, L13, L16, L20, L31, L32, L40, L48, L57, L59, L60, L61, L91, L93, L97, L99, L100, L102, L103, L114, L122, L255, L300, L400, L402, L999, L2280, L2500, L99999, L63, L1431655765, L858993459, L252645135, ic_ge, ic_gt, ic_le, ic_lt, ic_eq, ic_ne, if_lt, if_ge, if_gt, if_le, if_eq, if_ne, if_lt_zI, if_ge_zI, ic_ne_m1, ic_eq_m1, ic_nn_m1, ic_ee_m1, if_ne_b2i, if_eq_b2i, b2i_z, decide_eq_true_eq, decide_true, decide_false, Bool.not_eq_true, Bool.not_eq_true', Bool.not_true, Bool.not_false, decide_eq_false_iff_not, Bool.false_eq_true, not_false_eq_true, not_true_eq_false, if_true, if_false, ↓reduceIte, eq_self, Option.bind_some, Bool.true_and, Bool.false_and, Bool.and_true, Bool.and_false, nI_add, nI_subN, nI_clamp, gdF, gdF2, gdP, gdP2, zI_cl, zI_s, Lm1, nI_n0, zI_n0, leF, or_false, false_or, or_self, e]
      exact ep_ret ⟨rfl, hS, hD⟩
    · obtain ⟨z, wt, X, Q⟩ := p
      have h0 : z ≠ 0 := h0
      obtain ⟨c, rfl⟩ : ∃ c, z = c + 1 := ⟨z - 1, by omega⟩
      have hp1 : c + 1 ≤ A.2.2.1.1 0 0 := hp.1
      have hwt : wt ≤ 9 := hp.2.1
      have hq : Q ≤ i := hq
      have hcn : c < A.2.2.1.1 0 0 := by omega
      have hB := MD_b hS
      have hf := (hb.2.2.2.1 c hcn).1
      have r1 : S.2.1 2 c = zI (A.2.2.1.1 1 c) := (hB.2.2.2.1 c hcn).1
      have hq53 : S.1 53 = nI Q := hD.1
      have nz : ¬ c + 1 = 0 := by omega
      simp (maxSteps := 2000000) (disch := omega) only [F252b13, L0, L1, L2, L3, L4, L5, L6, L7, L8, L9, L10, L11, L12, L13, L16, L20, L31, L32, L40, L48, L57, L59, L60, L61, L91, L93, L97, L99, L100, L102, L103, L114, L122, L255, L300, L400, L402, L999, L2280, L2500, L99999, L63, L1431655765, L858993459, L252645135, ic_ge, ic_gt, ic_le, ic_lt, ic_eq, ic_ne, if_lt, if_ge, if_gt, if_le, if_eq, if_ne, if_lt_zI, if_ge_zI, ic_ne_m1, ic_eq_m1, ic_nn_m1, ic_ee_m1, if_ne_b2i, if_eq_b2i, b2i_z, decide_eq_true_eq, decide_true, decide_false, Bool.not_eq_true, Bool.not_eq_true', Bool.not_true, Bool.not_false, decide_eq_false_iff_not, Bool.false_eq_true, not_false_eq_true, not_true_eq_false, if_true, if_false, ↓reduceIte, eq_self, Option.bind_some, Bool.true_and, Bool.false_and, Bool.and_true, Bool.and_false, nI_add, nI_subN, nI_clamp, gdF, gdF2, gdP, gdP2, zI_cl, zI_s, Lm1, nI_n0, zI_n0, leF, or_false, false_or, or_self, e]
      refine ep_bv (f215 hB hb (MD_w hS) hcn) ?_
      by_cases hsh : isShA A.2.2.1.1 A.2.2.1.2.1 c = true
      · rw [wkI_sh (p := (c + 1, wt, X, Q)) hsh]
        simp only [hsh, if_eq_b2i, decide_eq_true_eq, decide_true, decide_false, Bool.not_eq_true, Bool.not_eq_true', Bool.not_true, Bool.not_false, decide_eq_false_iff_not, Bool.false_eq_true, not_false_eq_true, not_true_eq_false, if_true, if_false, ↓reduceIte, eq_self, Option.bind_some, Bool.true_and, Bool.false_and, Bool.and_true, Bool.and_false]
        exact ep_ret ⟨(zI_s c).symm, hS, hD⟩
      · have ee : wkN A.2.2.1.1 A.2.2.1.2.1 (c + 1, wt, X, Q) = if wt = 0 then (if A.2.2.1.1 1 c = 0 then (0, 0, X, Q) else if A.2.2.1.1 3 (A.2.2.1.1 1 c - 1) = 0 then (A.2.2.1.1 1 c, A.2.2.1.1 2 (A.2.2.1.1 1 c - 1), X, Q) else (A.2.2.1.1 1 c, A.2.2.1.1 2 (A.2.2.1.1 1 c - 1), X * 10 + A.2.2.1.1 5 (A.2.2.1.1 3 (A.2.2.1.1 1 c - 1) - 1), Q + 1)) else (c + 1, wt - 1, X, Q) := by
          unfold wkN
          rw [if_neg (show ¬ ((c + 1, wt, X, Q) : WK).1 = 0 from nz)]
          show (if isShA A.2.2.1.1 A.2.2.1.2.1 c = true then _ else _) = _
          rw [if_neg hsh]
          rfl
        have hp' := wkN_ok (w := A.2.2.1.2.1) hb hp
        have hq' := (wkN_q (b := A.2.2.1.1) (w := A.2.2.1.2.1) (p := (c + 1, wt, X, Q))).2
        have hq' : (wkN A.2.2.1.1 A.2.2.1.2.1 (c + 1, wt, X, Q)).2.2.2 ≤ Q + 1 := hq'
        have go : ∀ S', RM A S' → DgM S' (wkN A.2.2.1.1 A.2.2.1.2.1 (c + 1, wt, X, Q)) → Ep (fun n => F252f n 13 (nI 0) (nI d) (zI (wkN A.2.2.1.1 A.2.2.1.2.1 (c + 1, wt, X, Q)).1) (nI (wkN A.2.2.1.1 A.2.2.1.2.1 (c + 1, wt, X, Q)).2.1) (nI (i + 1)) S') (fun z => z.1 = zI (wkI A.2.2.1.1 A.2.2.1.2.1 (m + 1) (c + 1, wt, X, Q)).1 ∧ RM A z.2 ∧ DgM z.2 (wkI A.2.2.1.1 A.2.2.1.2.1 (m + 1) (c + 1, wt, X, Q))) := fun S' h1 h2 => ih (i + 1) _ S' (by omega) hp' (by omega) h1 h2
        rw [ee] at go
        by_cases hw0 : wt = 0
        · subst hw0
          rw [if_pos rfl] at go
          by_cases hn : A.2.2.1.1 1 c = 0
          · rw [if_pos hn] at go
            simp (disch := omega) only [hsh, if_eq_b2i, L0, L1, L2, L3, L4, L5, L6, L7, L8, L9, L10, L11, L12, L13, L16, L20, L31, L32, L40, L48, L57, L59, L60, L61, L91, L93, L97, L99, L100, L102, L103, L114, L122, L255, L300, L400, L402, L999, L2280, L2500, L99999, L63, L1431655765, L858993459, L252645135, ic_ge, ic_gt, ic_le, ic_lt, ic_eq, ic_ne, if_lt, if_ge, if_gt, if_le, if_eq, if_ne, if_lt_zI, if_ge_zI, ic_ne_m1, ic_eq_m1, ic_nn_m1, ic_ee_m1, if_ne_b2i, if_eq_b2i, b2i_z, decide_eq_true_eq, decide_true, decide_false, Bool.not_eq_true, Bool.not_eq_true', Bool.not_true, Bool.not_false, decide_eq_false_iff_not, Bool.false_eq_true, not_false_eq_true, not_true_eq_false, if_true, if_false, ↓reduceIte, eq_self, Option.bind_some, Bool.true_and, Bool.false_and, Bool.and_true, Bool.and_false, nI_add, nI_subN, nI_clamp, gdF, gdF2, gdP, gdP2, zI_cl, zI_s, Lm1, nI_n0, zI_n0, leF, or_false, false_or, or_self, r1, hn]
            exact go S hS hD
          · rw [if_neg hn] at go
            obtain ⟨c', hc'⟩ : ∃ c', A.2.2.1.1 1 c = c' + 1 := ⟨A.2.2.1.1 1 c - 1, by omega⟩
            have hc'n : c' < A.2.2.1.1 0 0 := by omega
            have r2 : S.2.1 3 c' = nI (A.2.2.1.1 2 c') := (hB.2.2.2.1 c' hc'n).2
            have hmi := hb.2.2.2.1 c' hc'n
            have gm := f197 (S := S) hB hb hc'n
            rw [hc', Nat.add_sub_cancel] at go
            have nz' : ¬ c' + 1 = 0 := by omega
            simp (disch := omega) only [hsh, if_eq_b2i, L0, L1, L2, L3, L4, L5, L6, L7, L8, L9, L10, L11, L12, L13, L16, L20, L31, L32, L40, L48, L57, L59, L60, L61, L91, L93, L97, L99, L100, L102, L103, L114, L122, L255, L300, L400, L402, L999, L2280, L2500, L99999, L63, L1431655765, L858993459, L252645135, ic_ge, ic_gt, ic_le, ic_lt, ic_eq, ic_ne, if_lt, if_ge, if_gt, if_le, if_eq, if_ne, if_lt_zI, if_ge_zI, ic_ne_m1, ic_eq_m1, ic_nn_m1, ic_ee_m1, if_ne_b2i, if_eq_b2i, b2i_z, decide_eq_true_eq, decide_true, decide_false, Bool.not_eq_true, Bool.not_eq_true', Bool.not_true, Bool.not_false, decide_eq_false_iff_not, Bool.false_eq_true, not_false_eq_true, not_true_eq_false, if_true, if_false, ↓reduceIte, eq_self, Option.bind_some, Bool.true_and, Bool.false_and, Bool.and_true, Bool.and_false, nI_add, nI_subN, nI_clamp, gdF, gdF2, gdP, gdP2, zI_cl, zI_s, Lm1, nI_n0, zI_n0, leF, or_false, false_or, or_self, r1, hc', r2]
            refine ep_bv gm ?_
            by_cases hm : A.2.2.1.1 3 c' = 0
            · rw [if_pos hm] at go
              simp (disch := omega) only [hm, L0, L1, L2, L3, L4, L5, L6, L7, L8, L9, L10, L11, L12, L13, L16, L20, L31, L32, L40, L48, L57, L59, L60, L61, L91, L93, L97, L99, L100, L102, L103, L114, L122, L255, L300, L400, L402, L999, L2280, L2500, L99999, L63, L1431655765, L858993459, L252645135, ic_ge, ic_gt, ic_le, ic_lt, ic_eq, ic_ne, if_lt, if_ge, if_gt, if_le, if_eq, if_ne, if_lt_zI, if_ge_zI, ic_ne_m1, ic_eq_m1, ic_nn_m1, ic_ee_m1, if_ne_b2i, if_eq_b2i, b2i_z, decide_eq_true_eq, decide_true, decide_false, Bool.not_eq_true, Bool.not_eq_true', Bool.not_true, Bool.not_false, decide_eq_false_iff_not, Bool.false_eq_true, not_false_eq_true, not_true_eq_false, if_true, if_false, ↓reduceIte, eq_self, Option.bind_some, Bool.true_and, Bool.false_and, Bool.and_true, Bool.and_false, nI_add, nI_subN, nI_clamp, gdF, gdF2, gdP, gdP2, zI_cl, zI_s, Lm1, nI_n0, zI_n0, leF, or_false, false_or, or_self]
              have := go S hS hD
              rw [zI_s] at this
              exact this
            · rw [if_neg hm] at go
              obtain ⟨mm, hmm⟩ : ∃ mm, A.2.2.1.1 3 c' = mm + 1 := ⟨A.2.2.1.1 3 c' - 1, by omega⟩
              have h5 := hb.2.2.2.2 mm (by omega)
              have r5 : S.2.1 5 mm = nI (A.2.2.1.1 5 mm) := hB.2.2.2.2.1 mm (by omega)
              rw [hmm, Nat.add_sub_cancel] at go
              rw [hmm] at gm
              simp (disch := omega) only [hmm, L0, L1, L2, L3, L4, L5, L6, L7, L8, L9, L10, L11, L12, L13, L16, L20, L31, L32, L40, L48, L57, L59, L60, L61, L91, L93, L97, L99, L100, L102, L103, L114, L122, L255, L300, L400, L402, L999, L2280, L2500, L99999, L63, L1431655765, L858993459, L252645135, ic_ge, ic_gt, ic_le, ic_lt, ic_eq, ic_ne, if_lt, if_ge, if_gt, if_le, if_eq, if_ne, if_lt_zI, if_ge_zI, ic_ne_m1, ic_eq_m1, ic_nn_m1, ic_ee_m1, if_ne_b2i, if_eq_b2i, b2i_z, decide_eq_true_eq, decide_true, decide_false, Bool.not_eq_true, Bool.not_eq_true', Bool.not_true, Bool.not_false, decide_eq_false_iff_not, Bool.false_eq_true, not_false_eq_true, not_true_eq_false, if_true, if_false, ↓reduceIte, eq_self, Option.bind_some, Bool.true_and, Bool.false_and, Bool.and_true, Bool.and_false, nI_add, nI_subN, nI_clamp, gdF, gdF2, gdP, gdP2, zI_cl, zI_s, Lm1, nI_n0, zI_n0, leF, or_false, false_or, or_self]
              refine ep_bv gm ?_
              have e53 : (m_sA S 39 Q (nI (A.2.2.1.1 5 mm))).1 53 = nI Q := hq53
              simp (disch := omega) only [L0, L1, L2, L3, L4, L5, L6, L7, L8, L9, L10, L11, L12, L13, L16, L20, L31, L32, L40, L48, L57, L59, L60, L61, L91, L93, L97, L99, L100, L102, L103, L114, L122, L255, L300, L400, L402, L999, L2280, L2500, L99999, L63, L1431655765, L858993459, L252645135, ic_ge, ic_gt, ic_le, ic_lt, ic_eq, ic_ne, if_lt, if_ge, if_gt, if_le, if_eq, if_ne, if_lt_zI, if_ge_zI, ic_ne_m1, ic_eq_m1, ic_nn_m1, ic_ee_m1, if_ne_b2i, if_eq_b2i, b2i_z, decide_eq_true_eq, decide_true, decide_false, Bool.not_eq_true, Bool.not_eq_true', Bool.not_true, Bool.not_false, decide_eq_false_iff_not, Bool.false_eq_true, not_false_eq_true, not_true_eq_false, if_true, if_false, ↓reduceIte, eq_self, Option.bind_some, Bool.true_and, Bool.false_and, Bool.and_true, Bool.and_false, nI_add, nI_subN, nI_clamp, gdF, gdF2, gdP, gdP2, zI_cl, zI_s, Lm1, nI_n0, zI_n0, leF, or_false, false_or, or_self, hq53, r5, e53]
              have := go (m_sI (m_sA S 39 Q (nI (A.2.2.1.1 5 mm))) 53 (nI (Q + 1))) (RM_same ok hS ⟨m_rIn (by decide), m_rIn (by decide), m_rIn (by decide), m_rIn (by decide)⟩ (fun k i hk => by
                show (m_sA S 39 Q (nI (A.2.2.1.1 5 mm))).2.1 k i = _
                rw [m_rAn (by omega)])) (DgM_app hD (by omega))
              rw [zI_s] at this
              exact this
        · rw [if_neg hw0] at go
          simp (disch := omega) only [hsh, if_eq_b2i, L0, L1, L2, L3, L4, L5, L6, L7, L8, L9, L10, L11, L12, L13, L16, L20, L31, L32, L40, L48, L57, L59, L60, L61, L91, L93, L97, L99, L100, L102, L103, L114, L122, L255, L300, L400, L402, L999, L2280, L2500, L99999, L63, L1431655765, L858993459, L252645135, ic_ge, ic_gt, ic_le, ic_lt, ic_eq, ic_ne, if_lt, if_ge, if_gt, if_le, if_eq, if_ne, if_lt_zI, if_ge_zI, ic_ne_m1, ic_eq_m1, ic_nn_m1, ic_ee_m1, if_ne_b2i, if_eq_b2i, b2i_z, decide_eq_true_eq, decide_true, decide_false, Bool.not_eq_true, Bool.not_eq_true', Bool.not_true, Bool.not_false, decide_eq_false_iff_not, Bool.false_eq_true, not_false_eq_true, not_true_eq_false, if_true, if_false, ↓reduceIte, eq_self, Option.bind_some, Bool.true_and, Bool.false_and, Bool.and_true, Bool.and_false, nI_add, nI_subN, nI_clamp, gdF, gdF2, gdP, gdP2, zI_cl, zI_s, Lm1, nI_n0, zI_n0, leF, or_false, false_or, or_self, hw0, m1_sub]
          have := go S hS hD
          rw [zI_s] at this
          exact this
theorem f252 (ok : OkA k A) {d c : Nat} {S : mS} (hd : d ≤ 20) (hc : c < A.2.2.1.1 0 0) (hS : RM A S) : Ep (fun n => F252 n (nI c) (nI d) S) (fun z => z.1 = zI (wkI A.2.2.1.1 A.2.2.1.2.1 d (c + 1, 0, 0, 0)).1 ∧ RM A z.2 ∧ DgM z.2 (wkI A.2.2.1.1 A.2.2.1.2.1 d (c + 1, 0, 0, 0))) := by
  refine ep_succ (fun n => F252e0 n ..) ?_
  simp only [F252b0, L0]
  rw [← zI_s]
  exact f252l ok hd d 0 (c + 1, 0, 0, 0) _ (by omega) (OkP_0 hc) (Nat.zero_le _) (RM_same ok hS ⟨m_rIn (by decide), m_rIn (by decide), m_rIn (by decide), m_rIn (by decide)⟩ (fun k i hk => rfl)) ⟨m_rIe, fun i hi => absurd hi (Nat.not_lt_zero _)⟩
end F252
def alF (P : Nat → Bool) : Nat → Nat → Bool
  | 0, _ => true
  | m + 1, j => P j && alF P m (j + 1)
theorem al_is {P : Nat → Bool} : ∀ (m j : Nat), alF P m j = true ↔ ∀ i, j ≤ i → i < j + m → P i = true
  | 0, j => ⟨fun _ i a b => by omega, fun _ => rfl⟩
  | m + 1, j => by
    show (P j && alF P m (j + 1)) = true ↔ _
    rw [Bool.and_eq_true, al_is m (j + 1)]
    constructor
    · rintro ⟨h1, h2⟩ i a b
      by_cases e : i = j
      · rw [e]
        exact h1
      · exact h2 i (by omega) (by omega)
    · intro h
      exact ⟨h j (Nat.le_refl _) (by omega), fun i a b => h i (by omega) (by omega)⟩
theorem dig_eq {t x : Nat} : ∀ q, (∀ j, j < q → t / 10 ^ j % 10 = x / 10 ^ j % 10) ↔ t % 10 ^ q = x % 10 ^ q
  | 0 => ⟨fun _ => by rw [Nat.pow_zero, Nat.mod_one, Nat.mod_one], fun _ j h => by omega⟩
  | q + 1 => by
    have hp : 0 < 10 ^ q := Nat.pow_pos (by decide)
    have e1 := Nat.mod_pow_succ (x := t) (b := 10) (k := q)
    have e2 := Nat.mod_pow_succ (x := x) (b := 10) (k := q)
    have l1 := Nat.mod_lt t hp
    have l2 := Nat.mod_lt x hp
    rw [e1, e2]
    constructor
    · intro h
      rw [(dig_eq q).mp (fun j hj => h j (by omega)), h q (by omega)]
    · intro h
      have h1 := congrArg (· % 10 ^ q) h
      have h2 := congrArg (· / 10 ^ q) h
      have h1 : (t % 10 ^ q + 10 ^ q * (t / 10 ^ q % 10)) % 10 ^ q = (x % 10 ^ q + 10 ^ q * (x / 10 ^ q % 10)) % 10 ^ q := h1
      have h2 : (t % 10 ^ q + 10 ^ q * (t / 10 ^ q % 10)) / 10 ^ q = (x % 10 ^ q + 10 ^ q * (x / 10 ^ q % 10)) / 10 ^ q := h2
      rw [Nat.add_mul_mod_self_left, Nat.add_mul_mod_self_left, Nat.mod_mod, Nat.mod_mod] at h1
      rw [Nat.add_mul_div_left _ _ hp, Nat.add_mul_div_left _ _ hp, Nat.div_eq_of_lt l1, Nat.div_eq_of_lt l2, Nat.zero_add, Nat.zero_add] at h2
      intro j hj
      by_cases e : j = q
      · rw [e]
        exact h2
      · exact (dig_eq q).mpr h1 j (by omega)
section F253
variable {S : mS} {t : Nat} {p : WK} {r : Int32 × mS}
theorem f253i (ht : t < 2 ^ 31) (hD : DgM S p) {kk h L : Nat} (hh : h ≤ p.2.2.2) (hq : p.2.2.2 ≤ 20) (hh9 : h ≤ 9) (hL : L ≤ 8) (hk : kk ≤ 8) (cont : Ev (fun n => F253f n 7 (nI t) (nI L) (nI (kk + 1)) (nI 0) (nI 0) (nI 0) S) r) : ∀ (m i : Nat), i + m = h → Ev (fun n => F253f n 59 (nI t) (nI L) (nI kk) (nI h) (nI 1) (nI i) S) (if alF (fun j => decide (t / 10 ^ (h - 1 - j) % 10 = p.2.2.1 / 10 ^ (p.2.2.2 - 1 - j) % 10)) m i = true then (nI 1, S) else r) := by
  have c0 : ∀ i, i ≤ 30 → Ev (fun n => F253f n 59 (nI t) (nI L) (nI kk) (nI h) (nI 0) (nI i) S) r := by
    intro i hi
    refine ev_succ (fun n => F253e59 n ..) ?_
    by_cases e : h ≤ i
    · simp (disch := omega) only [F253b59, L0, L1, L2, L3, L4, L5, L6, L7, L8, L9, L10, L11, L12, L13, L16, L20, L31, L32, L40, L48, L57, L59, L60, L61, L91, L93, L97, L99, L100, L102, L103, L114, L122, L255, L300, L400, L402, L999, L2280, L2500, L99999, L63, L1431655765, L858993459, L252645135, ic_ge, ic_gt, ic_le, ic_lt, ic_eq, ic_ne, if_lt, if_ge, if_gt, if_le, if_eq, if_ne, if_lt_zI, if_ge_zI, ic_ne_m1, ic_eq_m1, ic_nn_m1, ic_ee_m1, if_ne_b2i, if_eq_b2i, b2i_z, decide_eq_true_eq, decide_true, decide_false, Bool.not_eq_true, Bool.not_eq_true', Bool.not_true, Bool.not_false, decide_eq_false_iff_not, Bool.false_eq_true, not_false_eq_true, not_true_eq_false, if_true, if_false, ↓reduceIte, eq_self, Option.bind_some, Bool.true_and, Bool.false_and, Bool.and_true, Bool.and_false, nI_add, nI_subN, nI_clamp, gdF, gdF2, gdP, gdP2, zI_cl, zI_s, Lm1, nI_n0, zI_n0, leF, or_false, false_or, or_self, e]
      exact cont
    · simp (disch := omega) only [F253b59, L0, L1, L2, L3, L4, L5, L6, L7, L8, L9, L10, L11, L12, L13, L16, L20, L31, L32, L40, L48, L57, L59, L60, L61, L91, L93, L97, L99, L100, L102, L103, L114, L122, L255, L300, L400, L402, L999, L2280, L2500, L99999, L63, L1431655765, L858993459, L252645135, ic_ge, ic_gt, ic_le, ic_lt, ic_eq, ic_ne, if_lt, if_ge, if_gt, if_le, if_eq, if_ne, if_lt_zI, if_ge_zI, ic_ne_m1, ic_eq_m1, ic_nn_m1, ic_ee_m1, if_ne_b2i, if_eq_b2i, b2i_z, decide_eq_true_eq, decide_true, decide_false, Bool.not_eq_true, Bool.not_eq_true', Bool.not_true, Bool.not_false, decide_eq_false_iff_not, Bool.false_eq_true, not_false_eq_true, not_true_eq_false, if_true, if_false, ↓reduceIte, eq_self, Option.bind_some, Bool.true_and, Bool.false_and, Bool.and_true, Bool.and_false, nI_add, nI_subN, nI_clamp, gdF, gdF2, gdP, gdP2, zI_cl, zI_s, Lm1, nI_n0, zI_n0, leF, or_false, false_or, or_self, e]
      exact cont
  intro m
  induction m with
  | zero =>
    intro i hi
    refine ev_succ (fun n => F253e59 n ..) ?_
    have e : h ≤ i := by omega
    simp (disch := omega) only [F253b59, L0, L1, L2, L3, L4, L5, L6, L7, L8, L9, L10, L11, L12, L13, L16, L20, L31, L32, L40, L48, L57, L59, L60, L61, L91, L93, L97, L99, L100, L102, L103, L114, L122, L255, L300, L400, L402, L999, L2280, L2500, L99999, L63, L1431655765, L858993459, L252645135, ic_ge, ic_gt, ic_le, ic_lt, ic_eq, ic_ne, if_lt, if_ge, if_gt, if_le, if_eq, if_ne, if_lt_zI, if_ge_zI, ic_ne_m1, ic_eq_m1, ic_nn_m1, ic_ee_m1, if_ne_b2i, if_eq_b2i, b2i_z, decide_eq_true_eq, decide_true, decide_false, Bool.not_eq_true, Bool.not_eq_true', Bool.not_true, Bool.not_false, decide_eq_false_iff_not, Bool.false_eq_true, not_false_eq_true, not_true_eq_false, if_true, if_false, ↓reduceIte, eq_self, Option.bind_some, Bool.true_and, Bool.false_and, Bool.and_true, Bool.and_false, nI_add, nI_subN, nI_clamp, gdF, gdF2, gdP, gdP2, zI_cl, zI_s, Lm1, nI_n0, zI_n0, leF, or_false, false_or, or_self, e, Nat.one_ne_zero]
    exact ev_ret
  | succ m ih =>
    intro i hi
    refine ev_succ (fun n => F253e59 n ..) ?_
    have e : ¬ h ≤ i := by omega
    have r39 := hD.2 i (by omega)
    simp (disch := omega) only [F253b59, L0, L1, L2, L3, L4, L5, L6, L7, L8, L9, L10, L11, L12, L13, L16, L20, L31, L32, L40, L48, L57, L59, L60, L61, L91, L93, L97, L99, L100, L102, L103, L114, L122, L255, L300, L400, L402, L999, L2280, L2500, L99999, L63, L1431655765, L858993459, L252645135, ic_ge, ic_gt, ic_le, ic_lt, ic_eq, ic_ne, if_lt, if_ge, if_gt, if_le, if_eq, if_ne, if_lt_zI, if_ge_zI, ic_ne_m1, ic_eq_m1, ic_nn_m1, ic_ee_m1, if_ne_b2i, if_eq_b2i, b2i_z, decide_eq_true_eq, decide_true, decide_false, Bool.not_eq_true, Bool.not_eq_true', Bool.not_true, Bool.not_false, decide_eq_false_iff_not, Bool.false_eq_true, not_false_eq_true, not_true_eq_false, if_true, if_false, ↓reduceIte, eq_self, Option.bind_some, Bool.true_and, Bool.false_and, Bool.and_true, Bool.and_false, nI_add, nI_subN, nI_clamp, gdF, gdF2, gdP, gdP2, zI_cl, zI_s, Lm1, nI_n0, zI_n0, leF, or_false, false_or, or_self, e, Nat.one_ne_zero]
    refine ev_bind (f228 (by omega) S) ?_
    rw [tenF_1]
    have hpw : 10 ^ (h - 1 - i) ≤ 10 ^ 8 := Nat.pow_le_pow_right (by decide) (by omega)
    have hpw0 : 0 < 10 ^ (h - 1 - i) := Nat.pow_pos (by decide)
    have hnz : ¬ nI (10 ^ (h - 1 - i)) = nI 0 := by
      intro h'
      have := (nI_eqI' (a := 10 ^ (h - 1 - i)) (b := 0) (by omega) (by decide)).mp h'
      omega
    have hdiv := pk_div (a := t) (d := 10 ^ (h - 1 - i)) ht hpw0 (by omega)
    have hle : t / 10 ^ (h - 1 - i) ≤ t := Nat.div_le_self _ _
    have hrem : nI (t / 10 ^ (h - 1 - i)) - nI (t / 10 ^ (h - 1 - i)) / nI 10 * nI 10 = nI (t / 10 ^ (h - 1 - i) % 10) := pk_rem (by omega) (by decide) (by decide)
    show Ev _ (if ((decide (t / 10 ^ (h - 1 - i) % 10 = p.2.2.1 / 10 ^ (p.2.2.2 - 1 - i) % 10)) && alF _ m (i + 1)) = true then (nI 1, S) else r)
    simp (disch := omega) only [L0, L1, L2, L3, L4, L5, L6, L7, L8, L9, L10, L11, L12, L13, L16, L20, L31, L32, L40, L48, L57, L59, L60, L61, L91, L93, L97, L99, L100, L102, L103, L114, L122, L255, L300, L400, L402, L999, L2280, L2500, L99999, L63, L1431655765, L858993459, L252645135, ic_ge, ic_gt, ic_le, ic_lt, ic_eq, ic_ne, if_lt, if_ge, if_gt, if_le, if_eq, if_ne, if_lt_zI, if_ge_zI, ic_ne_m1, ic_eq_m1, ic_nn_m1, ic_ee_m1, if_ne_b2i, if_eq_b2i, b2i_z, decide_eq_true_eq, decide_true, decide_false, Bool.not_eq_true, Bool.not_eq_true', Bool.not_true, Bool.not_false, decide_eq_false_iff_not, Bool.false_eq_true, not_false_eq_true, not_true_eq_false, if_true, if_false, ↓reduceIte, eq_self, Option.bind_some, Bool.true_and, Bool.false_and, Bool.and_true, Bool.and_false, nI_add, nI_subN, nI_clamp, gdF, gdF2, gdP, gdP2, zI_cl, zI_s, Lm1, nI_n0, zI_n0, leF, or_false, false_or, or_self, hnz, hdiv, hrem, r39]
    by_cases hx : t / 10 ^ (h - 1 - i) % 10 = p.2.2.1 / 10 ^ (p.2.2.2 - 1 - i) % 10
    · simp only [hx, decide_eq_true_eq, decide_true, decide_false, Bool.not_eq_true, Bool.not_eq_true', Bool.not_true, Bool.not_false, decide_eq_false_iff_not, Bool.false_eq_true, not_false_eq_true, not_true_eq_false, if_true, if_false, ↓reduceIte, eq_self, Option.bind_some, Bool.true_and, Bool.false_and, Bool.and_true, Bool.and_false]
      exact ih (i + 1) (by omega)
    · simp only [hx, decide_eq_true_eq, decide_true, decide_false, Bool.not_eq_true, Bool.not_eq_true', Bool.not_true, Bool.not_false, decide_eq_false_iff_not, Bool.false_eq_true, not_false_eq_true, not_true_eq_false, if_true, if_false, ↓reduceIte, eq_self, Option.bind_some, Bool.true_and, Bool.false_and, Bool.and_true, Bool.and_false]
      exact c0 (i + 1) (by omega)
theorem f253 (ht : isTx t = true) {b : AB} (hp : OkP b p) (hD : DgM S p) (hq : p.2.2.2 ≤ 20) : Ev (fun n => F253 n (nI t) S) (b2i (fitB t p), S) := by
  have hl := isTx_len ht
  have htl := isTx_lt ht
  have hq53 := hD.1
  refine ev_succ (fun n => F253e0 n ..) ?_
  simp only [F253b0]
  refine ev_bind (f217 (by omega) S) ?_
  simp only [L0, L1]
  obtain ⟨L, hL⟩ : ∃ L, L = lenN t := ⟨_, rfl⟩
  unfold fitB
  rw [← hL] at hl ⊢
  have flag0 : ∀ (kk h : Nat) (r : Int32 × mS), h ≤ 30 → Ev (fun n => F253f n 7 (nI t) (nI L) (nI (kk + 1)) (nI 0) (nI 0) (nI 0) S) r → Ev (fun n => F253f n 59 (nI t) (nI L) (nI kk) (nI h) (nI 0) (nI 0) S) r := by
    intro kk h r hh cont
    refine ev_succ (fun n => F253e59 n ..) ?_
    by_cases e : h ≤ 0
    · simp (disch := omega) only [F253b59, L0, L1, L2, L3, L4, L5, L6, L7, L8, L9, L10, L11, L12, L13, L16, L20, L31, L32, L40, L48, L57, L59, L60, L61, L91, L93, L97, L99, L100, L102, L103, L114, L122, L255, L300, L400, L402, L999, L2280, L2500, L99999, L63, L1431655765, L858993459, L252645135, ic_ge, ic_gt, ic_le, ic_lt, ic_eq, ic_ne, if_lt, if_ge, if_gt, if_le, if_eq, if_ne, if_lt_zI, if_ge_zI, ic_ne_m1, ic_eq_m1, ic_nn_m1, ic_ee_m1, if_ne_b2i, if_eq_b2i, b2i_z, decide_eq_true_eq, decide_true, decide_false, Bool.not_eq_true, Bool.not_eq_true', Bool.not_true, Bool.not_false, decide_eq_false_iff_not, Bool.false_eq_true, not_false_eq_true, not_true_eq_false, if_true, if_false, ↓reduceIte, eq_self, Option.bind_some, Bool.true_and, Bool.false_and, Bool.and_true, Bool.and_false, nI_add, nI_subN, nI_clamp, gdF, gdF2, gdP, gdP2, zI_cl, zI_s, Lm1, nI_n0, zI_n0, leF, or_false, false_or, or_self, e]
      exact cont
    · simp (disch := omega) only [F253b59, L0, L1, L2, L3, L4, L5, L6, L7, L8, L9, L10, L11, L12, L13, L16, L20, L31, L32, L40, L48, L57, L59, L60, L61, L91, L93, L97, L99, L100, L102, L103, L114, L122, L255, L300, L400, L402, L999, L2280, L2500, L99999, L63, L1431655765, L858993459, L252645135, ic_ge, ic_gt, ic_le, ic_lt, ic_eq, ic_ne, if_lt, if_ge, if_gt, if_le, if_eq, if_ne, if_lt_zI, if_ge_zI, ic_ne_m1, ic_eq_m1, ic_nn_m1, ic_ee_m1, if_ne_b2i, if_eq_b2i, b2i_z, decide_eq_true_eq, decide_true, decide_false, Bool.not_eq_true, Bool.not_eq_true', Bool.not_true, Bool.not_false, decide_eq_false_iff_not, Bool.false_eq_true, not_false_eq_true, not_true_eq_false, if_true, if_false, ↓reduceIte, eq_self, Option.bind_some, Bool.true_and, Bool.false_and, Bool.and_true, Bool.and_false, nI_add, nI_subN, nI_clamp, gdF, gdF2, gdP, gdP2, zI_cl, zI_s, Lm1, nI_n0, zI_n0, leF, or_false, false_or, or_self, e]
      exact cont
  by_cases h8 : 8 ≤ L
  · rw [decide_eq_true h8, Bool.true_or]
    have : ∀ (m kk : Nat), kk + m = L → 1 ≤ kk → Ev (fun n => F253f n 7 (nI t) (nI L) (nI kk) (nI 0) (nI 0) (nI 0) S) (nI 1, S) := by
      intro m
      induction m with
      | zero =>
        intro kk hk h1
        refine ev_succ (fun n => F253e7 n ..) ?_
        have e1 : ¬ L < kk := by omega
        have e2 : L - kk = 0 := by omega
        have e3 : ¬ p.2.2.2 < 0 := by omega
        simp (disch := omega) only [F253b7, L0, L1, L2, L3, L4, L5, L6, L7, L8, L9, L10, L11, L12, L13, L16, L20, L31, L32, L40, L48, L57, L59, L60, L61, L91, L93, L97, L99, L100, L102, L103, L114, L122, L255, L300, L400, L402, L999, L2280, L2500, L99999, L63, L1431655765, L858993459, L252645135, ic_ge, ic_gt, ic_le, ic_lt, ic_eq, ic_ne, if_lt, if_ge, if_gt, if_le, if_eq, if_ne, if_lt_zI, if_ge_zI, ic_ne_m1, ic_eq_m1, ic_nn_m1, ic_ee_m1, if_ne_b2i, if_eq_b2i, b2i_z, decide_eq_true_eq, decide_true, decide_false, Bool.not_eq_true, Bool.not_eq_true', Bool.not_true, Bool.not_false, decide_eq_false_iff_not, Bool.false_eq_true, not_false_eq_true, not_true_eq_false, if_true, if_false, ↓reduceIte, eq_self, Option.bind_some, Bool.true_and, Bool.false_and, Bool.and_true, Bool.and_false, nI_add, nI_subN, nI_clamp, gdF, gdF2, gdP, gdP2, zI_cl, zI_s, Lm1, nI_n0, zI_n0, leF, or_false, false_or, or_self, e1, h8, hq53, e2, e3]
        refine ev_succ (fun n => F253e59 n ..) ?_
        simp (disch := omega) only [F253b59, L0, L1, L2, L3, L4, L5, L6, L7, L8, L9, L10, L11, L12, L13, L16, L20, L31, L32, L40, L48, L57, L59, L60, L61, L91, L93, L97, L99, L100, L102, L103, L114, L122, L255, L300, L400, L402, L999, L2280, L2500, L99999, L63, L1431655765, L858993459, L252645135, ic_ge, ic_gt, ic_le, ic_lt, ic_eq, ic_ne, if_lt, if_ge, if_gt, if_le, if_eq, if_ne, if_lt_zI, if_ge_zI, ic_ne_m1, ic_eq_m1, ic_nn_m1, ic_ee_m1, if_ne_b2i, if_eq_b2i, b2i_z, decide_eq_true_eq, decide_true, decide_false, Bool.not_eq_true, Bool.not_eq_true', Bool.not_true, Bool.not_false, decide_eq_false_iff_not, Bool.false_eq_true, not_false_eq_true, not_true_eq_false, if_true, if_false, ↓reduceIte, eq_self, Option.bind_some, Bool.true_and, Bool.false_and, Bool.and_true, Bool.and_false, nI_add, nI_subN, nI_clamp, gdF, gdF2, gdP, gdP2, zI_cl, zI_s, Lm1, nI_n0, zI_n0, leF, or_false, false_or, or_self, Nat.one_ne_zero, Nat.le_refl]
        exact ev_ret
      | succ m ih =>
        intro kk hk h1
        have go := ih (kk + 1) (by omega) (by omega)
        refine ev_succ (fun n => F253e7 n ..) ?_
        have e1 : ¬ L < kk := by omega
        by_cases e3 : p.2.2.2 < L - kk
        · simp (disch := omega) only [F253b7, L0, L1, L2, L3, L4, L5, L6, L7, L8, L9, L10, L11, L12, L13, L16, L20, L31, L32, L40, L48, L57, L59, L60, L61, L91, L93, L97, L99, L100, L102, L103, L114, L122, L255, L300, L400, L402, L999, L2280, L2500, L99999, L63, L1431655765, L858993459, L252645135, ic_ge, ic_gt, ic_le, ic_lt, ic_eq, ic_ne, if_lt, if_ge, if_gt, if_le, if_eq, if_ne, if_lt_zI, if_ge_zI, ic_ne_m1, ic_eq_m1, ic_nn_m1, ic_ee_m1, if_ne_b2i, if_eq_b2i, b2i_z, decide_eq_true_eq, decide_true, decide_false, Bool.not_eq_true, Bool.not_eq_true', Bool.not_true, Bool.not_false, decide_eq_false_iff_not, Bool.false_eq_true, not_false_eq_true, not_true_eq_false, if_true, if_false, ↓reduceIte, eq_self, Option.bind_some, Bool.true_and, Bool.false_and, Bool.and_true, Bool.and_false, nI_add, nI_subN, nI_clamp, gdF, gdF2, gdP, gdP2, zI_cl, zI_s, Lm1, nI_n0, zI_n0, leF, or_false, false_or, or_self, e1, h8, hq53, e3]
          exact flag0 kk (L - kk) _ (by omega) go
        · simp (disch := omega) only [F253b7, L0, L1, L2, L3, L4, L5, L6, L7, L8, L9, L10, L11, L12, L13, L16, L20, L31, L32, L40, L48, L57, L59, L60, L61, L91, L93, L97, L99, L100, L102, L103, L114, L122, L255, L300, L400, L402, L999, L2280, L2500, L99999, L63, L1431655765, L858993459, L252645135, ic_ge, ic_gt, ic_le, ic_lt, ic_eq, ic_ne, if_lt, if_ge, if_gt, if_le, if_eq, if_ne, if_lt_zI, if_ge_zI, ic_ne_m1, ic_eq_m1, ic_nn_m1, ic_ee_m1, if_ne_b2i, if_eq_b2i, b2i_z, decide_eq_true_eq, decide_true, decide_false, Bool.not_eq_true, Bool.not_eq_true', Bool.not_true, Bool.not_false, decide_eq_false_iff_not, Bool.false_eq_true, not_false_eq_true, not_true_eq_false, if_true, if_false, ↓reduceIte, eq_self, Option.bind_some, Bool.true_and, Bool.false_and, Bool.and_true, Bool.and_false, nI_add, nI_subN, nI_clamp, gdF, gdF2, gdP, gdP2, zI_cl, zI_s, Lm1, nI_n0, zI_n0, leF, or_false, false_or, or_self, e1, h8, hq53, e3]
          have := f253i (t := t) (kk := kk) (h := L - kk) (L := L) (by omega) hD (by omega) hq (by omega) (by omega) (by omega) go (L - kk) 0 (by omega)
          split at this
          · exact this
          · exact this
    exact this (L - 1) 1 (by omega) (by omega)
  · rw [decide_eq_false h8, Bool.false_or]
    by_cases hqL : p.2.2.2 < L
    · rw [decide_eq_true hqL, Bool.true_and]
      have late : ∀ (m kk : Nat), kk + m = L + 1 → L - p.2.2.2 < kk → Ev (fun n => F253f n 7 (nI t) (nI L) (nI kk) (nI 0) (nI 0) (nI 0) S) (nI 0, S) := by
        intro m
        induction m with
        | zero =>
          intro kk hk h1
          refine ev_succ (fun n => F253e7 n ..) ?_
          have e1 : L < kk := by omega
          simp (disch := omega) only [F253b7, L0, L1, L2, L3, L4, L5, L6, L7, L8, L9, L10, L11, L12, L13, L16, L20, L31, L32, L40, L48, L57, L59, L60, L61, L91, L93, L97, L99, L100, L102, L103, L114, L122, L255, L300, L400, L402, L999, L2280, L2500, L99999, L63, L1431655765, L858993459, L252645135, ic_ge, ic_gt, ic_le, ic_lt, ic_eq, ic_ne, if_lt, if_ge, if_gt, if_le, if_eq, if_ne, if_lt_zI, if_ge_zI, ic_ne_m1, ic_eq_m1, ic_nn_m1, ic_ee_m1, if_ne_b2i, if_eq_b2i, b2i_z, decide_eq_true_eq, decide_true, decide_false, Bool.not_eq_true, Bool.not_eq_true', Bool.not_true, Bool.not_false, decide_eq_false_iff_not, Bool.false_eq_true, not_false_eq_true, not_true_eq_false, if_true, if_false, ↓reduceIte, eq_self, Option.bind_some, Bool.true_and, Bool.false_and, Bool.and_true, Bool.and_false, nI_add, nI_subN, nI_clamp, gdF, gdF2, gdP, gdP2, zI_cl, zI_s, Lm1, nI_n0, zI_n0, leF, or_false, false_or, or_self, e1]
          exact ev_ret
        | succ m ih =>
          intro kk hk h1
          refine ev_succ (fun n => F253e7 n ..) ?_
          have e1 : ¬ L < kk := by omega
          have e3 : ¬ L - kk = p.2.2.2 := by omega
          simp (disch := omega) only [F253b7, L0, L1, L2, L3, L4, L5, L6, L7, L8, L9, L10, L11, L12, L13, L16, L20, L31, L32, L40, L48, L57, L59, L60, L61, L91, L93, L97, L99, L100, L102, L103, L114, L122, L255, L300, L400, L402, L999, L2280, L2500, L99999, L63, L1431655765, L858993459, L252645135, ic_ge, ic_gt, ic_le, ic_lt, ic_eq, ic_ne, if_lt, if_ge, if_gt, if_le, if_eq, if_ne, if_lt_zI, if_ge_zI, ic_ne_m1, ic_eq_m1, ic_nn_m1, ic_ee_m1, if_ne_b2i, if_eq_b2i, b2i_z, decide_eq_true_eq, decide_true, decide_false, Bool.not_eq_true, Bool.not_eq_true', Bool.not_true, Bool.not_false, decide_eq_false_iff_not, Bool.false_eq_true, not_false_eq_true, not_true_eq_false, if_true, if_false, ↓reduceIte, eq_self, Option.bind_some, Bool.true_and, Bool.false_and, Bool.and_true, Bool.and_false, nI_add, nI_subN, nI_clamp, gdF, gdF2, gdP, gdP2, zI_cl, zI_s, Lm1, nI_n0, zI_n0, leF, or_false, false_or, or_self, e1, h8, hq53, e3]
          exact flag0 kk (L - kk) _ (by omega) (ih (kk + 1) (by omega) (by omega))
      have early : ∀ (m kk : Nat), kk + m = L - p.2.2.2 → 1 ≤ kk → Ev (fun n => F253f n 7 (nI t) (nI L) (nI kk) (nI 0) (nI 0) (nI 0) S) (b2i (decide (t % 10 ^ p.2.2.2 = p.2.2.1)), S) := by
        intro m
        induction m with
        | zero =>
          intro kk hk h1
          refine ev_succ (fun n => F253e7 n ..) ?_
          have e1 : ¬ L < kk := by omega
          have e3 : L - kk = p.2.2.2 := by omega
          simp (disch := omega) only [F253b7, L0, L1, L2, L3, L4, L5, L6, L7, L8, L9, L10, L11, L12, L13, L16, L20, L31, L32, L40, L48, L57, L59, L60, L61, L91, L93, L97, L99, L100, L102, L103, L114, L122, L255, L300, L400, L402, L999, L2280, L2500, L99999, L63, L1431655765, L858993459, L252645135, ic_ge, ic_gt, ic_le, ic_lt, ic_eq, ic_ne, if_lt, if_ge, if_gt, if_le, if_eq, if_ne, if_lt_zI, if_ge_zI, ic_ne_m1, ic_eq_m1, ic_nn_m1, ic_ee_m1, if_ne_b2i, if_eq_b2i, b2i_z, decide_eq_true_eq, decide_true, decide_false, Bool.not_eq_true, Bool.not_eq_true', Bool.not_true, Bool.not_false, decide_eq_false_iff_not, Bool.false_eq_true, not_false_eq_true, not_true_eq_false, if_true, if_false, ↓reduceIte, eq_self, Option.bind_some, Bool.true_and, Bool.false_and, Bool.and_true, Bool.and_false, nI_add, nI_subN, nI_clamp, gdF, gdF2, gdP, gdP2, zI_cl, zI_s, Lm1, nI_n0, zI_n0, leF, or_false, false_or, or_self, e1, h8, hq53, e3]
          have := f253i (t := t) (kk := kk) (h := p.2.2.2) (L := L) (by omega) hD (by omega) hq (by omega) (by omega) (by omega) (late (L - kk) (kk + 1) (by omega) (by omega)) p.2.2.2 0 (by omega)
          have hx : p.2.2.1 % 10 ^ p.2.2.2 = p.2.2.1 := Nat.mod_eq_of_lt hp.2.2
          have hiff : alF (fun j => decide (t / 10 ^ (p.2.2.2 - 1 - j) % 10 = p.2.2.1 / 10 ^ (p.2.2.2 - 1 - j) % 10)) p.2.2.2 0 = true ↔ t % 10 ^ p.2.2.2 = p.2.2.1 := by
            rw [al_is]
            have h2 := dig_eq (t := t) (x := p.2.2.1) p.2.2.2
            rw [hx] at h2
            rw [← h2]
            constructor
            · intro h j hj
              have h3 := of_decide_eq_true (h (p.2.2.2 - 1 - j) (Nat.zero_le _) (by omega))
              rw [show p.2.2.2 - 1 - (p.2.2.2 - 1 - j) = j by omega] at h3
              exact h3
            · intro h i _ hi
              exact decide_eq_true (h _ (by omega))
          by_cases hm : t % 10 ^ p.2.2.2 = p.2.2.1
          · rw [if_pos (hiff.mpr hm)] at this
            rw [decide_eq_true hm]
            exact this
          · rw [if_neg (fun h => hm (hiff.mp h))] at this
            rw [decide_eq_false hm]
            exact this
        | succ m ih =>
          intro kk hk h1
          refine ev_succ (fun n => F253e7 n ..) ?_
          have e1 : ¬ L < kk := by omega
          have e3 : ¬ L - kk = p.2.2.2 := by omega
          simp (disch := omega) only [F253b7, L0, L1, L2, L3, L4, L5, L6, L7, L8, L9, L10, L11, L12, L13, L16, L20, L31, L32, L40, L48, L57, L59, L60, L61, L91, L93, L97, L99, L100, L102, L103, L114, L122, L255, L300, L400, L402, L999, L2280, L2500, L99999, L63, L1431655765, L858993459, L252645135, ic_ge, ic_gt, ic_le, ic_lt, ic_eq, ic_ne, if_lt, if_ge, if_gt, if_le, if_eq, if_ne, if_lt_zI, if_ge_zI, ic_ne_m1, ic_eq_m1, ic_nn_m1, ic_ee_m1, if_ne_b2i, if_eq_b2i, b2i_z, decide_eq_true_eq, decide_true, decide_false, Bool.not_eq_true, Bool.not_eq_true', Bool.not_true, Bool.not_false, decide_eq_false_iff_not, Bool.false_eq_true, not_false_eq_true, not_true_eq_false, if_true, if_false, ↓reduceIte, eq_self, Option.bind_some, Bool.true_and, Bool.false_and, Bool.and_true, Bool.and_false, nI_add, nI_subN, nI_clamp, gdF, gdF2, gdP, gdP2, zI_cl, zI_s, Lm1, nI_n0, zI_n0, leF, or_false, false_or, or_self, e1, h8, hq53, e3]
          exact flag0 kk (L - kk) _ (by omega) (ih (kk + 1) (by omega) (by omega))
      exact early (L - p.2.2.2 - 1) 1 (by omega) (by omega)
    · rw [decide_eq_false hqL, Bool.false_and]
      have : ∀ (m kk : Nat), kk + m = L + 1 → 1 ≤ kk → Ev (fun n => F253f n 7 (nI t) (nI L) (nI kk) (nI 0) (nI 0) (nI 0) S) (nI 0, S) := by
        intro m
        induction m with
        | zero =>
          intro kk hk h1
          refine ev_succ (fun n => F253e7 n ..) ?_
          have e1 : L < kk := by omega
          simp (disch := omega) only [F253b7, L0, L1, L2, L3, L4, L5, L6, L7, L8, L9, L10, L11, L12, L13, L16, L20, L31, L32, L40, L48, L57, L59, L60, L61, L91, L93, L97, L99, L100, L102, L103, L114, L122, L255, L300, L400, L402, L999, L2280, L2500, L99999, L63, L1431655765, L858993459, L252645135, ic_ge, ic_gt, ic_le, ic_lt, ic_eq, ic_ne, if_lt, if_ge, if_gt, if_le, if_eq, if_ne, if_lt_zI, if_ge_zI, ic_ne_m1, ic_eq_m1, ic_nn_m1, ic_ee_m1, if_ne_b2i, if_eq_b2i, b2i_z, decide_eq_true_eq, decide_true, decide_false, Bool.not_eq_true, Bool.not_eq_true', Bool.not_true, Bool.not_false, decide_eq_false_iff_not, Bool.false_eq_true, not_false_eq_true, not_true_eq_false, if_true, if_false, ↓reduceIte, eq_self, Option.bind_some, Bool.true_and, Bool.false_and, Bool.and_true, Bool.and_false, nI_add, nI_subN, nI_clamp, gdF, gdF2, gdP, gdP2, zI_cl, zI_s, Lm1, nI_n0, zI_n0, leF, or_false, false_or, or_self, e1]
          exact ev_ret
        | succ m ih =>
          intro kk hk h1
          refine ev_succ (fun n => F253e7 n ..) ?_
          have e1 : ¬ L < kk := by omega
          have e3 : ¬ L - kk = p.2.2.2 := by omega
          simp (disch := omega) only [F253b7, L0, L1, L2, L3, L4, L5, L6, L7, L8, L9, L10, L11, L12, L13, L16, L20, L31, L32, L40, L48, L57, L59, L60, L61, L91, L93, L97, L99, L100, L102, L103, L114, L122, L255, L300, L400, L402, L999, L2280, L2500, L99999, L63, L1431655765, L858993459, L252645135, ic_ge, ic_gt, ic_le, ic_lt, ic_eq, ic_ne, if_lt, if_ge, if_gt, if_le, if_eq, if_ne, if_lt_zI, if_ge_zI, ic_ne_m1, ic_eq_m1, ic_nn_m1, ic_ee_m1, if_ne_b2i, if_eq_b2i, b2i_z, decide_eq_true_eq, decide_true, decide_false, Bool.not_eq_true, Bool.not_eq_true', Bool.not_true, Bool.not_false, decide_eq_false_iff_not, Bool.false_eq_true, not_false_eq_true, not_true_eq_false, if_true, if_false, ↓reduceIte, eq_self, Option.bind_some, Bool.true_and, Bool.false_and, Bool.and_true, Bool.and_false, nI_add, nI_subN, nI_clamp, gdF, gdF2, gdP, gdP2, zI_cl, zI_s, Lm1, nI_n0, zI_n0, leF, or_false, false_or, or_self, e1, h8, hq53, e3]
          exact flag0 kk (L - kk) _ (by omega) (ih (kk + 1) (by omega) (by omega))
      exact this L 1 (by omega) (by omega)
end F253
section F251
variable {k : Nat} {A : AA} {t tc v : Nat}
theorem f251i (ok : OkA k A) (ht : isTx t = true) (htc : tc < A.2.2.1.1 0 0) {d : Nat} (hd : d ≤ 20) {P : Int32 × mS → Prop} : ∀ (m c : Nat) (p : Nat × Option (Nat × Nat)) (S : mS), c + m = A.2.2.1.1 0 0 → p.1 + m < 2000 → RM A S → (∀ S', RM A S' → Ep (fun n => F251f n 43 (nI t) (nI tc) (nI v) (nI (rrF (HW A.2.2.1.1 A.2.2.1.2.1 t tc) d m c p).1) (o1I (rrF (HW A.2.2.1.1 A.2.2.1.2.1 t tc) d m c p).2) (o2I (rrF (HW A.2.2.1.1 A.2.2.1.2.1 t tc) d m c p).2) (nI (d + 1)) (nI 0) S') P) → Ep (fun n => F251f n 53 (nI t) (nI tc) (nI v) (nI p.1) (o1I p.2) (o2I p.2) (nI d) (nI c) S) P := by
  have hb := OkA_b ok
  have hb1 := hb.1
  intro m
  induction m with
  | zero =>
    intro c p S hc hp hS go
    refine ep_succ (fun n => F251e53 n ..) ?_
    have hc0 : S.2.1 1 0 = nI (A.2.2.1.1 0 0) := (MD_b hS).1
    have e : A.2.2.1.1 0 0 ≤ c := by omega
    simp (disch := omega) only [F251b53, L0, L1, L2, L3, L4, L5, L6, L7, L8, L9, L10, L11, L12, L13, L16, L20, L31, L32, L40, L48, L57, L59, L60, L61, L91, L93, L97, L99, L100, L102, L103, L114, L122, L255, L300, L400, L402, L999, L2280, L2500, L99999, L63, L1431655765, L858993459, L252645135, ic_ge, ic_gt, ic_le, ic_lt, ic_eq, ic_ne, if_lt, if_ge, if_gt, if_le, if_eq, if_ne, if_lt_zI, if_ge_zI, ic_ne_m1, ic_eq_m1, ic_nn_m1, ic_ee_m1, if_ne_b2i, if_eq_b2i, b2i_z, decide_eq_true_eq, decide_true, decide_false, Bool.not_eq_true, Bool.not_eq_true', Bool.not_true, Bool.not_false, decide_eq_false_iff_not, Bool.false_eq_true, not_false_eq_true, not_true_eq_false, if_true, if_false, ↓reduceIte, eq_self, Option.bind_some, Bool.true_and, Bool.false_and, Bool.and_true, Bool.and_false, nI_add, nI_subN, nI_clamp, gdF, gdF2, gdP, gdP2, zI_cl, zI_s, Lm1, nI_n0, zI_n0, leF, or_false, false_or, or_self, hc0, e]
    exact go S hS
  | succ m ih =>
    intro c p S hc hp hS go
    refine ep_succ (fun n => F251e53 n ..) ?_
    have hc0 : S.2.1 1 0 = nI (A.2.2.1.1 0 0) := (MD_b hS).1
    have e : ¬ A.2.2.1.1 0 0 ≤ c := by omega
    have hcn : c < A.2.2.1.1 0 0 := by omega
    simp (disch := omega) only [F251b53, L0, L1, L2, L3, L4, L5, L6, L7, L8, L9, L10, L11, L12, L13, L16, L20, L31, L32, L40, L48, L57, L59, L60, L61, L91, L93, L97, L99, L100, L102, L103, L114, L122, L255, L300, L400, L402, L999, L2280, L2500, L99999, L63, L1431655765, L858993459, L252645135, ic_ge, ic_gt, ic_le, ic_lt, ic_eq, ic_ne, if_lt, if_ge, if_gt, if_le, if_eq, if_ne, if_lt_zI, if_ge_zI, ic_ne_m1, ic_eq_m1, ic_nn_m1, ic_ee_m1, if_ne_b2i, if_eq_b2i, b2i_z, decide_eq_true_eq, decide_true, decide_false, Bool.not_eq_true, Bool.not_eq_true', Bool.not_true, Bool.not_false, decide_eq_false_iff_not, Bool.false_eq_true, not_false_eq_true, not_true_eq_false, if_true, if_false, ↓reduceIte, eq_self, Option.bind_some, Bool.true_and, Bool.false_and, Bool.and_true, Bool.and_false, nI_add, nI_subN, nI_clamp, gdF, gdF2, gdP, gdP2, zI_cl, zI_s, Lm1, nI_n0, zI_n0, leF, or_false, false_or, or_self, hc0, e]
    refine ep_bind (f252 ok hd hcn hS) ?_
    rintro ⟨z1, S2⟩ ⟨a1, a2, a3⟩
    have a1 : z1 = zI (wkI A.2.2.1.1 A.2.2.1.2.1 d (c + 1, 0, 0, 0)).1 := a1
    have a2 : RM A S2 := a2
    have a3 : DgM S2 (wkI A.2.2.1.1 A.2.2.1.2.1 d (c + 1, 0, 0, 0)) := a3
    subst a1
    have hpk := wkI_ok (w := A.2.2.1.2.1) hb d (c + 1, 0, 0, 0) (OkP_0 hcn)
    have hqk := (wkI_q (b := A.2.2.1.1) (w := A.2.2.1.2.1) d (c + 1, 0, 0, 0)).2
    have hqk : (wkI A.2.2.1.1 A.2.2.1.2.1 d (c + 1, 0, 0, 0)).2.2.2 ≤ 0 + d := hqk
    have hzk := hpk.1
    have hH : HW A.2.2.1.1 A.2.2.1.2.1 t tc c d = (decide ((wkI A.2.2.1.1 A.2.2.1.2.1 d (c + 1, 0, 0, 0)).1 = tc + 1) && fitB t (wkI A.2.2.1.1 A.2.2.1.2.1 d (c + 1, 0, 0, 0))) := rfl
    have goE : ∀ p', (if HW A.2.2.1.1 A.2.2.1.2.1 t tc c d = true then (p.1 + 1, if p.1 = 0 then some (c, d) else p.2) else p) = p' → p'.1 ≤ p.1 + 1 → Ep (fun n => F251f n 53 (nI t) (nI tc) (nI v) (nI p'.1) (o1I p'.2) (o2I p'.2) (nI d) (nI (c + 1)) S2) P := by
      intro p' hp' hle
      refine ih (c + 1) p' S2 (by omega) (by omega) a2 (fun S' h => ?_)
      have := go S' h
      unfold rrF at this
      rw [hp'] at this
      exact this
    simp (disch := omega) only [ic_ne_pn]
    by_cases hz : (wkI A.2.2.1.1 A.2.2.1.2.1 d (c + 1, 0, 0, 0)).1 = tc + 1
    · rw [decide_eq_true hz, Bool.true_and] at hH
      simp only [hz, decide_eq_true_eq, decide_true, decide_false, Bool.not_eq_true, Bool.not_eq_true', Bool.not_true, Bool.not_false, decide_eq_false_iff_not, Bool.false_eq_true, not_false_eq_true, not_true_eq_false, if_true, if_false, ↓reduceIte, eq_self, Option.bind_some, Bool.true_and, Bool.false_and, Bool.and_true, Bool.and_false]
      refine ep_bv (f253 ht hpk a3 (by omega)) ?_
      by_cases hf : fitB t (wkI A.2.2.1.1 A.2.2.1.2.1 d (c + 1, 0, 0, 0)) = true
      · rw [hf] at hH
        simp only [hf, if_eq_b2i, decide_eq_true_eq, decide_true, decide_false, Bool.not_eq_true, Bool.not_eq_true', Bool.not_true, Bool.not_false, decide_eq_false_iff_not, Bool.false_eq_true, not_false_eq_true, not_true_eq_false, if_true, if_false, ↓reduceIte, eq_self, Option.bind_some, Bool.true_and, Bool.false_and, Bool.and_true, Bool.and_false]
        by_cases h0 : p.1 = 0
        · simp (disch := omega) only [L0, L1, L2, L3, L4, L5, L6, L7, L8, L9, L10, L11, L12, L13, L16, L20, L31, L32, L40, L48, L57, L59, L60, L61, L91, L93, L97, L99, L100, L102, L103, L114, L122, L255, L300, L400, L402, L999, L2280, L2500, L99999, L63, L1431655765, L858993459, L252645135, ic_ge, ic_gt, ic_le, ic_lt, ic_eq, ic_ne, if_lt, if_ge, if_gt, if_le, if_eq, if_ne, if_lt_zI, if_ge_zI, ic_ne_m1, ic_eq_m1, ic_nn_m1, ic_ee_m1, if_ne_b2i, if_eq_b2i, b2i_z, decide_eq_true_eq, decide_true, decide_false, Bool.not_eq_true, Bool.not_eq_true', Bool.not_true, Bool.not_false, decide_eq_false_iff_not, Bool.false_eq_true, not_false_eq_true, not_true_eq_false, if_true, if_false, ↓reduceIte, eq_self, Option.bind_some, Bool.true_and, Bool.false_and, Bool.and_true, Bool.and_false, nI_add, nI_subN, nI_clamp, gdF, gdF2, gdP, gdP2, zI_cl, zI_s, Lm1, nI_n0, zI_n0, leF, or_false, false_or, or_self, h0]
          exact goE (0 + 1, some (c, d)) (by rw [hH, if_pos rfl, if_pos h0, h0]) (by show 0 + 1 ≤ p.1 + 1; omega)
        · simp (disch := omega) only [L0, L1, L2, L3, L4, L5, L6, L7, L8, L9, L10, L11, L12, L13, L16, L20, L31, L32, L40, L48, L57, L59, L60, L61, L91, L93, L97, L99, L100, L102, L103, L114, L122, L255, L300, L400, L402, L999, L2280, L2500, L99999, L63, L1431655765, L858993459, L252645135, ic_ge, ic_gt, ic_le, ic_lt, ic_eq, ic_ne, if_lt, if_ge, if_gt, if_le, if_eq, if_ne, if_lt_zI, if_ge_zI, ic_ne_m1, ic_eq_m1, ic_nn_m1, ic_ee_m1, if_ne_b2i, if_eq_b2i, b2i_z, decide_eq_true_eq, decide_true, decide_false, Bool.not_eq_true, Bool.not_eq_true', Bool.not_true, Bool.not_false, decide_eq_false_iff_not, Bool.false_eq_true, not_false_eq_true, not_true_eq_false, if_true, if_false, ↓reduceIte, eq_self, Option.bind_some, Bool.true_and, Bool.false_and, Bool.and_true, Bool.and_false, nI_add, nI_subN, nI_clamp, gdF, gdF2, gdP, gdP2, zI_cl, zI_s, Lm1, nI_n0, zI_n0, leF, or_false, false_or, or_self, h0]
          exact goE (p.1 + 1, p.2) (by rw [hH, if_pos rfl, if_neg h0]) (Nat.le_refl _)
      · rw [Bool.eq_false_iff.mpr hf] at hH
        simp only [hf, if_eq_b2i, decide_eq_true_eq, decide_true, decide_false, Bool.not_eq_true, Bool.not_eq_true', Bool.not_true, Bool.not_false, decide_eq_false_iff_not, Bool.false_eq_true, not_false_eq_true, not_true_eq_false, if_true, if_false, ↓reduceIte, eq_self, Option.bind_some, Bool.true_and, Bool.false_and, Bool.and_true, Bool.and_false]
        exact goE p (by rw [hH, if_neg (by decide)]) (by omega)
    · rw [decide_eq_false hz, Bool.false_and] at hH
      simp only [hz, decide_eq_true_eq, decide_true, decide_false, Bool.not_eq_true, Bool.not_eq_true', Bool.not_true, Bool.not_false, decide_eq_false_iff_not, Bool.false_eq_true, not_false_eq_true, not_true_eq_false, if_true, if_false, ↓reduceIte, eq_self, Option.bind_some, Bool.true_and, Bool.false_and, Bool.and_true, Bool.and_false]
      exact goE p (by rw [hH, if_neg (by decide)]) (by omega)
theorem f251l (ok : OkA k A) (ht : isTx t = true) (htc : tc < A.2.2.1.1 0 0) (hv : v ≤ 2) : ∀ (m d : Nat) (p : Nat × Option (Nat × Nat)) (S : mS), d + m = 21 → p.1 ≤ 16 * d → RM A S → Ep (fun n => F251f n 43 (nI t) (nI tc) (nI v) (nI p.1) (o1I p.2) (o2I p.2) (nI d) (nI 0) S) (fun z => z.1 = seAns v (rrD (HW A.2.2.1.1 A.2.2.1.2.1 t tc) (A.2.2.1.1 0 0) m d p) ∧ RM A z.2) := by
  have hb := OkA_b ok
  have hb1 := hb.1
  intro m
  induction m with
  | zero =>
    intro d p S hd hp hS
    refine ep_succ (fun n => F251e43 n ..) ?_
    have e : 20 < d := by omega
    have hv' : v = 0 ∨ v = 1 ∨ v = 2 := by omega
    rcases hv' with rfl | rfl | rfl
    · simp (disch := omega) only [F251b43, L0, L1, L2, L3, L4, L5, L6, L7, L8, L9, L10, L11, L12, L13, L16, L20, L31, L32, L40, L48, L57, L59, L60, L61, L91, L93, L97, L99, L100, L102, L103, L114, L122, L255, L300, L400, L402, L999, L2280, L2500, L99999, L63, L1431655765, L858993459, L252645135, ic_ge, ic_gt, ic_le, ic_lt, ic_eq, ic_ne, if_lt, if_ge, if_gt, if_le, if_eq, if_ne, if_lt_zI, if_ge_zI, ic_ne_m1, ic_eq_m1, ic_nn_m1, ic_ee_m1, if_ne_b2i, if_eq_b2i, b2i_z, decide_eq_true_eq, decide_true, decide_false, Bool.not_eq_true, Bool.not_eq_true', Bool.not_true, Bool.not_false, decide_eq_false_iff_not, Bool.false_eq_true, not_false_eq_true, not_true_eq_false, if_true, if_false, ↓reduceIte, eq_self, Option.bind_some, Bool.true_and, Bool.false_and, Bool.and_true, Bool.and_false, nI_add, nI_subN, nI_clamp, gdF, gdF2, gdP, gdP2, zI_cl, zI_s, Lm1, nI_n0, zI_n0, leF, or_false, false_or, or_self, e]
      exact ep_ret ⟨rfl, hS⟩
    · simp (disch := omega) only [F251b43, L0, L1, L2, L3, L4, L5, L6, L7, L8, L9, L10, L11, L12, L13, L16, L20, L31, L32, L40, L48, L57, L59, L60, L61, L91, L93, L97, L99, L100, L102, L103, L114, L122, L255, L300, L400, L402, L999, L2280, L2500, L99999, L63, L1431655765, L858993459, L252645135, ic_ge, ic_gt, ic_le, ic_lt, ic_eq, ic_ne, if_lt, if_ge, if_gt, if_le, if_eq, if_ne, if_lt_zI, if_ge_zI, ic_ne_m1, ic_eq_m1, ic_nn_m1, ic_ee_m1, if_ne_b2i, if_eq_b2i, b2i_z, decide_eq_true_eq, decide_true, decide_false, Bool.not_eq_true, Bool.not_eq_true', Bool.not_true, Bool.not_false, decide_eq_false_iff_not, Bool.false_eq_true, not_false_eq_true, not_true_eq_false, if_true, if_false, ↓reduceIte, eq_self, Option.bind_some, Bool.true_and, Bool.false_and, Bool.and_true, Bool.and_false, nI_add, nI_subN, nI_clamp, gdF, gdF2, gdP, gdP2, zI_cl, zI_s, Lm1, nI_n0, zI_n0, leF, or_false, false_or, or_self, e, Nat.one_ne_zero]
      exact ep_ret ⟨rfl, hS⟩
    · simp (disch := omega) only [F251b43, L0, L1, L2, L3, L4, L5, L6, L7, L8, L9, L10, L11, L12, L13, L16, L20, L31, L32, L40, L48, L57, L59, L60, L61, L91, L93, L97, L99, L100, L102, L103, L114, L122, L255, L300, L400, L402, L999, L2280, L2500, L99999, L63, L1431655765, L858993459, L252645135, ic_ge, ic_gt, ic_le, ic_lt, ic_eq, ic_ne, if_lt, if_ge, if_gt, if_le, if_eq, if_ne, if_lt_zI, if_ge_zI, ic_ne_m1, ic_eq_m1, ic_nn_m1, ic_ee_m1, if_ne_b2i, if_eq_b2i, b2i_z, decide_eq_true_eq, decide_true, decide_false, Bool.not_eq_true, Bool.not_eq_true', Bool.not_true, Bool.not_false, decide_eq_false_iff_not, Bool.false_eq_true, not_false_eq_true, not_true_eq_false, if_true, if_false, ↓reduceIte, eq_self, Option.bind_some, Bool.true_and, Bool.false_and, Bool.and_true, Bool.and_false, nI_add, nI_subN, nI_clamp, gdF, gdF2, gdP, gdP2, zI_cl, zI_s, Lm1, nI_n0, zI_n0, leF, or_false, false_or, or_self, e, show ¬ 2 = 0 by decide, show ¬ 2 = 1 by decide]
      exact ep_ret ⟨rfl, hS⟩
  | succ m ih =>
    intro d p S hd hp hS
    refine ep_succ (fun n => F251e43 n ..) ?_
    have e : ¬ 20 < d := by omega
    simp (disch := omega) only [F251b43, L0, L1, L2, L3, L4, L5, L6, L7, L8, L9, L10, L11, L12, L13, L16, L20, L31, L32, L40, L48, L57, L59, L60, L61, L91, L93, L97, L99, L100, L102, L103, L114, L122, L255, L300, L400, L402, L999, L2280, L2500, L99999, L63, L1431655765, L858993459, L252645135, ic_ge, ic_gt, ic_le, ic_lt, ic_eq, ic_ne, if_lt, if_ge, if_gt, if_le, if_eq, if_ne, if_lt_zI, if_ge_zI, ic_ne_m1, ic_eq_m1, ic_nn_m1, ic_ee_m1, if_ne_b2i, if_eq_b2i, b2i_z, decide_eq_true_eq, decide_true, decide_false, Bool.not_eq_true, Bool.not_eq_true', Bool.not_true, Bool.not_false, decide_eq_false_iff_not, Bool.false_eq_true, not_false_eq_true, not_true_eq_false, if_true, if_false, ↓reduceIte, eq_self, Option.bind_some, Bool.true_and, Bool.false_and, Bool.and_true, Bool.and_false, nI_add, nI_subN, nI_clamp, gdF, gdF2, gdP, gdP2, zI_cl, zI_s, Lm1, nI_n0, zI_n0, leF, or_false, false_or, or_self, e]
    have hc := rrF_c (H := HW A.2.2.1.1 A.2.2.1.2.1 t tc) (d := d) (A.2.2.1.1 0 0) 0 p
    have hl := ctF_le (fun c => HW A.2.2.1.1 A.2.2.1.2.1 t tc c d) (A.2.2.1.1 0 0) 0
    exact f251i ok ht htc (by omega) (A.2.2.1.1 0 0) 0 p S (by omega) (by omega) hS (fun S' h => ih (d + 1) _ S' (by omega) (by omega) h)
end F251
theorem sm_seen {k : Nat} {a1 a2 a3 : Int32} (A : AA) (ok : OkA k A) : ∃ r A', OkA (k + 1) A' ∧ CallT (fun n => G133 n a1 a2 a3) A r A' ∧ CallM (fun n => F251 n a1 a2 a3) A r A' := by
  have ok1 := OkA_s ok
  have hb := OkA_b ok
  have hb1 := hb.1
  by_cases hall : (∃ t, t < 2 ^ 31 ∧ a1 = nI t ∧ isTx t = true) ∧ (∃ c, c < A.2.2.1.1 0 0 ∧ a2 = nI c) ∧ (∃ j, j ≤ 2 ∧ a3 = nI j)
  · obtain ⟨⟨t, ht31, rfl, ht⟩, ⟨tc, htc, rfl⟩, ⟨v, hv, rfl⟩⟩ := hall
    have hl := isTx_len ht
    have in2 : inL (nI v).toInt64 0 2 = true := by
      have := inK (a := v) (k := 2) (by omega) (by decide)
      rw [decide_eq_true hv] at this
      exact this
    have eq := seen_eq (H := HW A.2.2.1.1 A.2.2.1.2.1 t tc) (n := A.2.2.1.1 0 0)
    refine ⟨seAns v (rrD (HW A.2.2.1.1 A.2.2.1.2.1 t tc) (A.2.2.1.1 0 0) 21 0 (0, none)), A, ok1, callT_id (fun T G hR => ?_), fun S hS => ?_⟩
    · refine ev_succ (fun n => G133e0 n ..) ?_
      simp only [G133b0]
      refine ev_bind (g75n ok hR (by omega)) ?_
      simp only [htc, if_eq_b2i, decide_eq_true_eq, decide_true, decide_false, Bool.not_eq_true, Bool.not_eq_true', Bool.not_true, Bool.not_false, decide_eq_false_iff_not, Bool.false_eq_true, not_false_eq_true, not_true_eq_false, if_true, if_false, ↓reduceIte, eq_self, Option.bind_some, Bool.true_and, Bool.false_and, Bool.and_true, Bool.and_false]
      refine ev_bind (g102 ht31 T) ?_
      rw [if_pos ht]
      have hz : ¬ lenN t = 0 := by omega
      simp (disch := omega) only [L0, L1, L2, L3, L4, L5, L6, L7, L8, L9, L10, L11, L12, L13, L16, L20, L31, L32, L40, L48, L57, L59, L60, L61, L91, L93, L97, L99, L100, L102, L103, L114, L122, L255, L300, L400, L402, L999, L2280, L2500, L99999, L63, L1431655765, L858993459, L252645135, ic_ge, ic_gt, ic_le, ic_lt, ic_eq, ic_ne, if_lt, if_ge, if_gt, if_le, if_eq, if_ne, if_lt_zI, if_ge_zI, ic_ne_m1, ic_eq_m1, ic_nn_m1, ic_ee_m1, if_ne_b2i, if_eq_b2i, b2i_z, decide_eq_true_eq, decide_true, decide_false, Bool.not_eq_true, Bool.not_eq_true', Bool.not_true, Bool.not_false, decide_eq_false_iff_not, Bool.false_eq_true, not_false_eq_true, not_true_eq_false, if_true, if_false, ↓reduceIte, eq_self, Option.bind_some, Bool.true_and, Bool.false_and, Bool.and_true, Bool.and_false, nI_add, nI_subN, nI_clamp, gdF, gdF2, gdP, gdP2, zI_cl, zI_s, Lm1, nI_n0, zI_n0, leF, or_false, false_or, or_self, hz, hv]
      have := g133l (CD_b hR) hb (CD_w hR) ht htc hv (A.2.2.1.1 0 0) 0 0 none (by omega) (by omega) (fun p h => by cases h)
      rw [Nat.zero_add, ← eq] at this
      exact this
    · refine ep_succ (fun n => F251e0 n ..) ?_
      simp only [F251b0]
      refine ep_bv (f231 ht31 S) ?_
      simp only [ht, if_eq_b2i, decide_eq_true_eq, decide_true, decide_false, Bool.not_eq_true, Bool.not_eq_true', Bool.not_true, Bool.not_false, decide_eq_false_iff_not, Bool.false_eq_true, not_false_eq_true, not_true_eq_false, if_true, if_false, ↓reduceIte, eq_self, Option.bind_some, Bool.true_and, Bool.false_and, Bool.and_true, Bool.and_false]
      refine ep_bv (f196n ok hS (by omega)) ?_
      simp only [htc, if_eq_b2i, decide_eq_true_eq, decide_true, decide_false, Bool.not_eq_true, Bool.not_eq_true', Bool.not_true, Bool.not_false, decide_eq_false_iff_not, Bool.false_eq_true, not_false_eq_true, not_true_eq_false, if_true, if_false, ↓reduceIte, eq_self, Option.bind_some, Bool.true_and, Bool.false_and, Bool.and_true, Bool.and_false]
      refine ep_bv (f172 S) ?_
      rw [in2]
      simp only [if_ne_b2i, decide_eq_true_eq, decide_true, decide_false, Bool.not_eq_true, Bool.not_eq_true', Bool.not_true, Bool.not_false, decide_eq_false_iff_not, Bool.false_eq_true, not_false_eq_true, not_true_eq_false, if_true, if_false, ↓reduceIte, eq_self, Option.bind_some, Bool.true_and, Bool.false_and, Bool.and_true, Bool.and_false]
      exact f251l ok ht htc hv 21 0 (0, none) S (by decide) (by decide) hS
  · refine ⟨zI 0, A, ok1, callT_id (fun T G hR => ?_), callM_id (fun S hS => ?_)⟩
    · refine ev_succ (fun n => G133e0 n ..) ?_
      simp only [G133b0]
      rcases arg_C ok a2 with ⟨c, hc, rfl⟩ | hC
      · refine ev_bind (g75n ok hR (by omega)) ?_
        simp only [hc, if_eq_b2i, decide_eq_true_eq, decide_true, decide_false, Bool.not_eq_true, Bool.not_eq_true', Bool.not_true, Bool.not_false, decide_eq_false_iff_not, Bool.false_eq_true, not_false_eq_true, not_true_eq_false, if_true, if_false, ↓reduceIte, eq_self, Option.bind_some, Bool.true_and, Bool.false_and, Bool.and_true, Bool.and_false]
        rcases arg_T a1 with ⟨t, ht31, rfl, ht⟩ | hT
        · have hl := isTx_len ht
          refine ev_bind (g102 ht31 T) ?_
          rw [if_pos ht]
          have hz : ¬ lenN t = 0 := by omega
          simp (disch := omega) only [L0, L1, L2, L3, L4, L5, L6, L7, L8, L9, L10, L11, L12, L13, L16, L20, L31, L32, L40, L48, L57, L59, L60, L61, L91, L93, L97, L99, L100, L102, L103, L114, L122, L255, L300, L400, L402, L999, L2280, L2500, L99999, L63, L1431655765, L858993459, L252645135, ic_ge, ic_gt, ic_le, ic_lt, ic_eq, ic_ne, if_lt, if_ge, if_gt, if_le, if_eq, if_ne, if_lt_zI, if_ge_zI, ic_ne_m1, ic_eq_m1, ic_nn_m1, ic_ee_m1, if_ne_b2i, if_eq_b2i, b2i_z, decide_eq_true_eq, decide_true, decide_false, Bool.not_eq_true, Bool.not_eq_true', Bool.not_true, Bool.not_false, decide_eq_false_iff_not, Bool.false_eq_true, not_false_eq_true, not_true_eq_false, if_true, if_false, ↓reduceIte, eq_self, Option.bind_some, Bool.true_and, Bool.false_and, Bool.and_true, Bool.and_false, nI_add, nI_subN, nI_clamp, gdF, gdF2, gdP, gdP2, zI_cl, zI_s, Lm1, nI_n0, zI_n0, leF, or_false, false_or, or_self, hz]
          rcases arg_W a3 (v := 2) (by decide) with ⟨j, hj, rfl⟩ | ⟨h4 | ⟨h4, h5⟩, _⟩
          · exact absurd ⟨⟨t, ht31, rfl, ht⟩, ⟨c, hc, rfl⟩, ⟨j, hj, rfl⟩⟩ hall
          · simp only [h4, decide_eq_true_eq, decide_true, decide_false, Bool.not_eq_true, Bool.not_eq_true', Bool.not_true, Bool.not_false, decide_eq_false_iff_not, Bool.false_eq_true, not_false_eq_true, not_true_eq_false, if_true, if_false, ↓reduceIte, eq_self, Option.bind_some, Bool.true_and, Bool.false_and, Bool.and_true, Bool.and_false]
            exact ev_ret
          · simp only [h4, h5, decide_eq_true_eq, decide_true, decide_false, Bool.not_eq_true, Bool.not_eq_true', Bool.not_true, Bool.not_false, decide_eq_false_iff_not, Bool.false_eq_true, not_false_eq_true, not_true_eq_false, if_true, if_false, ↓reduceIte, eq_self, Option.bind_some, Bool.true_and, Bool.false_and, Bool.and_true, Bool.and_false]
            exact ev_ret
        · refine ev_bind (hT.1 T) ?_
          simp (disch := omega) only [L0, L1, L2, L3, L4, L5, L6, L7, L8, L9, L10, L11, L12, L13, L16, L20, L31, L32, L40, L48, L57, L59, L60, L61, L91, L93, L97, L99, L100, L102, L103, L114, L122, L255, L300, L400, L402, L999, L2280, L2500, L99999, L63, L1431655765, L858993459, L252645135, ic_ge, ic_gt, ic_le, ic_lt, ic_eq, ic_ne, if_lt, if_ge, if_gt, if_le, if_eq, if_ne, if_lt_zI, if_ge_zI, ic_ne_m1, ic_eq_m1, ic_nn_m1, ic_ee_m1, if_ne_b2i, if_eq_b2i, b2i_z, decide_eq_true_eq, decide_true, decide_false, Bool.not_eq_true, Bool.not_eq_true', Bool.not_true, Bool.not_false, decide_eq_false_iff_not, Bool.false_eq_true, not_false_eq_true, not_true_eq_false, if_true, if_false, ↓reduceIte, eq_self, Option.bind_some, Bool.true_and, Bool.false_and, Bool.and_true, Bool.and_false, nI_add, nI_subN, nI_clamp, gdF, gdF2, gdP, gdP2, zI_cl, zI_s, Lm1, nI_n0, zI_n0, leF, or_false, false_or, or_self]
          exact ev_ret
      · refine ev_bind (hC.1 T G hR) ?_
        simp only [if_eq_b2i, decide_eq_true_eq, decide_true, decide_false, Bool.not_eq_true, Bool.not_eq_true', Bool.not_true, Bool.not_false, decide_eq_false_iff_not, Bool.false_eq_true, not_false_eq_true, not_true_eq_false, if_true, if_false, ↓reduceIte, eq_self, Option.bind_some, Bool.true_and, Bool.false_and, Bool.and_true, Bool.and_false]
        exact ev_ret
    · refine ev_succ (fun n => F251e0 n ..) ?_
      simp only [F251b0]
      rcases arg_T a1 with ⟨t, ht31, rfl, ht⟩ | hT
      · refine ev_bind (f231 ht31 S) ?_
        simp only [ht, if_eq_b2i, decide_eq_true_eq, decide_true, decide_false, Bool.not_eq_true, Bool.not_eq_true', Bool.not_true, Bool.not_false, decide_eq_false_iff_not, Bool.false_eq_true, not_false_eq_true, not_true_eq_false, if_true, if_false, ↓reduceIte, eq_self, Option.bind_some, Bool.true_and, Bool.false_and, Bool.and_true, Bool.and_false]
        rcases arg_C ok a2 with ⟨c, hc, rfl⟩ | hC
        · refine ev_bind (f196n ok hS (by omega)) ?_
          simp only [hc, if_eq_b2i, decide_eq_true_eq, decide_true, decide_false, Bool.not_eq_true, Bool.not_eq_true', Bool.not_true, Bool.not_false, decide_eq_false_iff_not, Bool.false_eq_true, not_false_eq_true, not_true_eq_false, if_true, if_false, ↓reduceIte, eq_self, Option.bind_some, Bool.true_and, Bool.false_and, Bool.and_true, Bool.and_false]
          refine ev_bind (f172 S) ?_
          rcases arg_W a3 (v := 2) (by decide) with ⟨j, hj, rfl⟩ | ⟨_, h5⟩
          · exact absurd ⟨⟨t, ht31, rfl, ht⟩, ⟨c, hc, rfl⟩, ⟨j, hj, rfl⟩⟩ hall
          · have h5 : inL a3.toInt64 0 2 = false := h5
            rw [h5]
            simp only [if_ne_b2i, decide_eq_true_eq, decide_true, decide_false, Bool.not_eq_true, Bool.not_eq_true', Bool.not_true, Bool.not_false, decide_eq_false_iff_not, Bool.false_eq_true, not_false_eq_true, not_true_eq_false, if_true, if_false, ↓reduceIte, eq_self, Option.bind_some, Bool.true_and, Bool.false_and, Bool.and_true, Bool.and_false]
            exact ev_ret
        · refine ev_bind (hC.2 S hS) ?_
          simp only [if_eq_b2i, decide_eq_true_eq, decide_true, decide_false, Bool.not_eq_true, Bool.not_eq_true', Bool.not_true, Bool.not_false, decide_eq_false_iff_not, Bool.false_eq_true, not_false_eq_true, not_true_eq_false, if_true, if_false, ↓reduceIte, eq_self, Option.bind_some, Bool.true_and, Bool.false_and, Bool.and_true, Bool.and_false]
          exact ev_ret
      · refine ev_bind (hT.2 S) ?_
        simp only [if_eq_b2i, decide_eq_true_eq, decide_true, decide_false, Bool.not_eq_true, Bool.not_eq_true', Bool.not_true, Bool.not_false, decide_eq_false_iff_not, Bool.false_eq_true, not_false_eq_true, not_true_eq_false, if_true, if_false, ↓reduceIte, eq_self, Option.bind_some, Bool.true_and, Bool.false_and, Bool.and_true, Bool.and_false]
        exact ev_ret
