/-! rivers told: the program's small steps -/
def RvT (T00 T : xS) (L i e : Nat) (b : AB) (w : AW) : Prop := (∃ m, TP T T L i m e) ∧ CB T 68 b ∧ CW T 74 w ∧ (∀ q, (q < 65 ∨ 84 < q) → T.1 q = T00.1 q ∧ T.2.1 q = T00.2.1 q) ∧ T.2.1 66 = T00.2.1 66 ∧ T.2.2 = T00.2.2
def RvZ (T00 : xS) (L : Nat) (res : Nat × AB × AW × Nat) (z : Int32 × xS) : Prop := z.1 = (if res.1 = 0 then nI 1 else nI 0) ∧ RvT T00 z.2 L res.2.2.2 res.1 res.2.1 res.2.2.1
theorem TP_self {T T0 : xS} {L i m e : Nat} (h : TP T T0 L i m e) : TP T T L i m e := ⟨h.1, h.2.1, h.2.2.1, h.2.2.2.1, fun _ _ => rfl, rfl⟩
section Rv
variable {T00 T : xS} {f : Nat → Nat} {L i e n : Nat} {b : AB} {w : AW}
theorem RvT_tp {T' : xS} {i' m' e' : Nat} (h : RvT T00 T L i e b w) (ht : TP T' T L i' m' e') : RvT T00 T' L i' e' b w := by
  obtain ⟨_, h2, h3, h4, h5, h6⟩ := h
  have hq := ht.2.2.2.2.1
  have hr := ht.2.2.2.2.2
  refine ⟨⟨m', TP_self ht⟩, CB_of h2 (hq _ (by decide)) (fun _ _ _ => by rw [hr]), CW_of h3 (hq _ (by decide)) (fun _ _ _ => by rw [hr]), fun q hq' => ?_, by rw [hr]; exact h5, by rw [hr]; exact h6⟩
  rw [hq q (by omega), hr]
  exact h4 q hq'
theorem RvT_mk {T' : xS} {b' : AB} {w' : AW} (h : RvT T00 T L i e b w) (h65 : T'.1 65 = T.1 65) (hb : CB T' 68 b') (hw : CW T' 74 w') (hf : ∀ q, (q < 65 ∨ 84 < q) → T'.1 q = T.1 q ∧ T'.2.1 q = T.2.1 q) (h66 : T'.2.1 66 = T.2.1 66) (h2 : T'.2.2 = T.2.2) : RvT T00 T' L i e b' w' := by
  obtain ⟨⟨m, t1, t2, t3, t4, _, _⟩, _, _, h4, h5, h6⟩ := h
  refine ⟨⟨m, by rw [h65]; exact t1, by rw [h65]; exact t2, by rw [h65]; exact t3, by rw [h65]; exact t4, fun _ _ => rfl, rfl⟩, hb, hw, fun q hq => ?_, h66.trans h5, h2.trans h6⟩
  exact ⟨(hf q hq).1.trans (h4 q hq).1, (hf q hq).2.trans (h4 q hq).2⟩
theorem RvT_TH (hH : TH T00 f L) (h : RvT T00 T L i e b w) : TH T f L := ⟨fun j hj => by rw [h.2.2.2.2.1]; exact hH.1 j hj, hH.2⟩
theorem g37 {k : Nat} (hk : k ≤ 7) (h : RvT T00 T L i e b w) (ok : OkR n b w) : Ev (fun n => G37 n (nI k) T) (b2i (fulB b w k), T) := by
  obtain ⟨hb, okw, _, n10, _, n5, _⟩ := ok
  have m1 : T.1 68 1 = nI (b 0 1) := h.2.1.2.1
  have m2 : T.1 68 2 = nI (b 0 2) := h.2.1.2.2.1
  have m3 : T.1 74 1 = nI (w.1 0 1) := h.2.2.1.2.1
  have b1 := hb.2.1
  have b2 := hb.2.2.1
  have low : ∀ k, ((nI k).toInt < 4 ∨ 7 < (nI k).toInt) → fulB b w k = false → Ev (fun n => G37 n (nI k) T) (b2i (fulB b w k), T) := by
    intro k s hf
    refine ev_succ (fun n => G37e0 n ..) ?_
    rw [hf]
    simp only [G37b0, s, if_true, L0]
    exact ev_ret
  rcases k8 hk with rfl | rfl | rfl | rfl | rfl | rfl | rfl | rfl
  · exact low 0 (by decide) rfl
  · exact low 1 (by decide) rfl
  · exact low 2 (by decide) rfl
  · exact low 3 (by decide) rfl
  · have s : ¬ ((nI 4).toInt < 4 ∨ 7 < (nI 4).toInt) := by decide
    have ef : fulB b w 4 = decide (6 ≤ b 0 1) := rfl
    rw [ef]
    refine ev_succ (fun n => G37e0 n ..) ?_
    by_cases hf : 6 ≤ b 0 1
    · have hf' : ¬ b 0 1 < 6 := by omega
      simp (disch := omega) only [G37b0, s, L0, L1, L2, L3, L4, L5, L6, L7, L8, L9, L10, L11, L12, L13, L16, L20, L31, L32, L40, L48, L57, L59, L60, L61, L91, L93, L97, L99, L100, L102, L103, L114, L122, L255, L300, L400, L402, L999, L2280, L2500, L99999, L63, L1431655765, L858993459, L252645135, ic_ge, ic_gt, ic_le, ic_lt, ic_eq, ic_ne, if_lt, if_ge, if_gt, if_le, if_eq, if_ne, if_lt_zI, if_ge_zI, ic_ne_m1, ic_eq_m1, ic_nn_m1, ic_ee_m1, if_ne_b2i, if_eq_b2i, b2i_z, decide_eq_true_eq, decide_true, decide_false, Bool.not_eq_true, Bool.not_eq_true', Bool.not_true, Bool.not_false, decide_eq_false_iff_not, Bool.false_eq_true, not_false_eq_true, not_true_eq_false, if_true, if_false, ↓reduceIte, eq_self, Option.bind_some, Bool.true_and, Bool.false_and, Bool.and_true, Bool.and_false, nI_add, nI_subN, nI_clamp, gdF, gdF2, gdP, gdP2, zI_cl, zI_s, Lm1, nI_n0, zI_n0, leF, or_false, false_or, or_self, m1, hf, hf']
      exact ev_ret
    · have hf' : b 0 1 < 6 := by omega
      simp (disch := omega) only [G37b0, s, L0, L1, L2, L3, L4, L5, L6, L7, L8, L9, L10, L11, L12, L13, L16, L20, L31, L32, L40, L48, L57, L59, L60, L61, L91, L93, L97, L99, L100, L102, L103, L114, L122, L255, L300, L400, L402, L999, L2280, L2500, L99999, L63, L1431655765, L858993459, L252645135, ic_ge, ic_gt, ic_le, ic_lt, ic_eq, ic_ne, if_lt, if_ge, if_gt, if_le, if_eq, if_ne, if_lt_zI, if_ge_zI, ic_ne_m1, ic_eq_m1, ic_nn_m1, ic_ee_m1, if_ne_b2i, if_eq_b2i, b2i_z, decide_eq_true_eq, decide_true, decide_false, Bool.not_eq_true, Bool.not_eq_true', Bool.not_true, Bool.not_false, decide_eq_false_iff_not, Bool.false_eq_true, not_false_eq_true, not_true_eq_false, if_true, if_false, ↓reduceIte, eq_self, Option.bind_some, Bool.true_and, Bool.false_and, Bool.and_true, Bool.and_false, nI_add, nI_subN, nI_clamp, gdF, gdF2, gdP, gdP2, zI_cl, zI_s, Lm1, nI_n0, zI_n0, leF, or_false, false_or, or_self, m1, hf, hf']
      exact ev_ret
  · have s : ¬ ((nI 5).toInt < 4 ∨ 7 < (nI 5).toInt) := by decide
    have s4 : ¬ nI 5 = nI 4 := by decide
    have ef : fulB b w 5 = decide (4 ≤ b 0 2) := rfl
    rw [ef]
    refine ev_succ (fun n => G37e0 n ..) ?_
    by_cases hf : 4 ≤ b 0 2
    · have hf' : ¬ b 0 2 < 4 := by omega
      simp (disch := omega) only [G37b0, s, L0, L1, L2, L3, L4, L5, L6, L7, L8, L9, L10, L11, L12, L13, L16, L20, L31, L32, L40, L48, L57, L59, L60, L61, L91, L93, L97, L99, L100, L102, L103, L114, L122, L255, L300, L400, L402, L999, L2280, L2500, L99999, L63, L1431655765, L858993459, L252645135, ic_ge, ic_gt, ic_le, ic_lt, ic_eq, ic_ne, if_lt, if_ge, if_gt, if_le, if_eq, if_ne, if_lt_zI, if_ge_zI, ic_ne_m1, ic_eq_m1, ic_nn_m1, ic_ee_m1, if_ne_b2i, if_eq_b2i, b2i_z, decide_eq_true_eq, decide_true, decide_false, Bool.not_eq_true, Bool.not_eq_true', Bool.not_true, Bool.not_false, decide_eq_false_iff_not, Bool.false_eq_true, not_false_eq_true, not_true_eq_false, if_true, if_false, ↓reduceIte, eq_self, Option.bind_some, Bool.true_and, Bool.false_and, Bool.and_true, Bool.and_false, nI_add, nI_subN, nI_clamp, gdF, gdF2, gdP, gdP2, zI_cl, zI_s, Lm1, nI_n0, zI_n0, leF, or_false, false_or, or_self, s4, m2, hf, hf']
      exact ev_ret
    · have hf' : b 0 2 < 4 := by omega
      simp (disch := omega) only [G37b0, s, L0, L1, L2, L3, L4, L5, L6, L7, L8, L9, L10, L11, L12, L13, L16, L20, L31, L32, L40, L48, L57, L59, L60, L61, L91, L93, L97, L99, L100, L102, L103, L114, L122, L255, L300, L400, L402, L999, L2280, L2500, L99999, L63, L1431655765, L858993459, L252645135, ic_ge, ic_gt, ic_le, ic_lt, ic_eq, ic_ne, if_lt, if_ge, if_gt, if_le, if_eq, if_ne, if_lt_zI, if_ge_zI, ic_ne_m1, ic_eq_m1, ic_nn_m1, ic_ee_m1, if_ne_b2i, if_eq_b2i, b2i_z, decide_eq_true_eq, decide_true, decide_false, Bool.not_eq_true, Bool.not_eq_true', Bool.not_true, Bool.not_false, decide_eq_false_iff_not, Bool.false_eq_true, not_false_eq_true, not_true_eq_false, if_true, if_false, ↓reduceIte, eq_self, Option.bind_some, Bool.true_and, Bool.false_and, Bool.and_true, Bool.and_false, nI_add, nI_subN, nI_clamp, gdF, gdF2, gdP, gdP2, zI_cl, zI_s, Lm1, nI_n0, zI_n0, leF, or_false, false_or, or_self, s4, m2, hf, hf']
      exact ev_ret
  · have s : ¬ ((nI 6).toInt < 4 ∨ 7 < (nI 6).toInt) := by decide
    have s4 : ¬ nI 6 = nI 4 := by decide
    have s5 : ¬ nI 6 = nI 5 := by decide
    have ef : fulB b w 6 = decide (5 ≤ netsN w) := (if_neg (by decide)).trans ((if_neg (by decide)).trans (if_pos rfl))
    have hnl : netsN w ≤ 16 := ctF_le _ 16 0
    rw [ef]
    have g8 : Ev (fun n => G38 74 n T) (nI (netsN w), T) := g38 h.2.2.1 (fun i hi => (okw.2.2.1 i hi).1)
    refine ev_succ (fun n => G37e0 n ..) ?_
    simp (disch := omega) only [G37b0, s, L0, L1, L2, L3, L4, L5, L6, L7, L8, L9, L10, L11, L12, L13, L16, L20, L31, L32, L40, L48, L57, L59, L60, L61, L91, L93, L97, L99, L100, L102, L103, L114, L122, L255, L300, L400, L402, L999, L2280, L2500, L99999, L63, L1431655765, L858993459, L252645135, ic_ge, ic_gt, ic_le, ic_lt, ic_eq, ic_ne, if_lt, if_ge, if_gt, if_le, if_eq, if_ne, if_lt_zI, if_ge_zI, ic_ne_m1, ic_eq_m1, ic_nn_m1, ic_ee_m1, if_ne_b2i, if_eq_b2i, b2i_z, decide_eq_true_eq, decide_true, decide_false, Bool.not_eq_true, Bool.not_eq_true', Bool.not_true, Bool.not_false, decide_eq_false_iff_not, Bool.false_eq_true, not_false_eq_true, not_true_eq_false, if_true, if_false, ↓reduceIte, eq_self, Option.bind_some, Bool.true_and, Bool.false_and, Bool.and_true, Bool.and_false, nI_add, nI_subN, nI_clamp, gdF, gdF2, gdP, gdP2, zI_cl, zI_s, Lm1, nI_n0, zI_n0, leF, or_false, false_or, or_self, s4, s5]
    refine ev_bind g8 ?_
    by_cases hf : 5 ≤ netsN w
    · have hf' : ¬ netsN w < 5 := by omega
      simp (disch := omega) only [L0, L1, L2, L3, L4, L5, L6, L7, L8, L9, L10, L11, L12, L13, L16, L20, L31, L32, L40, L48, L57, L59, L60, L61, L91, L93, L97, L99, L100, L102, L103, L114, L122, L255, L300, L400, L402, L999, L2280, L2500, L99999, L63, L1431655765, L858993459, L252645135, ic_ge, ic_gt, ic_le, ic_lt, ic_eq, ic_ne, if_lt, if_ge, if_gt, if_le, if_eq, if_ne, if_lt_zI, if_ge_zI, ic_ne_m1, ic_eq_m1, ic_nn_m1, ic_ee_m1, if_ne_b2i, if_eq_b2i, b2i_z, decide_eq_true_eq, decide_true, decide_false, Bool.not_eq_true, Bool.not_eq_true', Bool.not_true, Bool.not_false, decide_eq_false_iff_not, Bool.false_eq_true, not_false_eq_true, not_true_eq_false, if_true, if_false, ↓reduceIte, eq_self, Option.bind_some, Bool.true_and, Bool.false_and, Bool.and_true, Bool.and_false, nI_add, nI_subN, nI_clamp, gdF, gdF2, gdP, gdP2, zI_cl, zI_s, Lm1, nI_n0, zI_n0, leF, or_false, false_or, or_self, hf, hf']
      exact ev_ret
    · have hf' : netsN w < 5 := by omega
      simp (disch := omega) only [L0, L1, L2, L3, L4, L5, L6, L7, L8, L9, L10, L11, L12, L13, L16, L20, L31, L32, L40, L48, L57, L59, L60, L61, L91, L93, L97, L99, L100, L102, L103, L114, L122, L255, L300, L400, L402, L999, L2280, L2500, L99999, L63, L1431655765, L858993459, L252645135, ic_ge, ic_gt, ic_le, ic_lt, ic_eq, ic_ne, if_lt, if_ge, if_gt, if_le, if_eq, if_ne, if_lt_zI, if_ge_zI, ic_ne_m1, ic_eq_m1, ic_nn_m1, ic_ee_m1, if_ne_b2i, if_eq_b2i, b2i_z, decide_eq_true_eq, decide_true, decide_false, Bool.not_eq_true, Bool.not_eq_true', Bool.not_true, Bool.not_false, decide_eq_false_iff_not, Bool.false_eq_true, not_false_eq_true, not_true_eq_false, if_true, if_false, ↓reduceIte, eq_self, Option.bind_some, Bool.true_and, Bool.false_and, Bool.and_true, Bool.and_false, nI_add, nI_subN, nI_clamp, gdF, gdF2, gdP, gdP2, zI_cl, zI_s, Lm1, nI_n0, zI_n0, leF, or_false, false_or, or_self, hf, hf']
      exact ev_ret
  · have s : ¬ ((nI 7).toInt < 4 ∨ 7 < (nI 7).toInt) := by decide
    have s4 : ¬ nI 7 = nI 4 := by decide
    have s5 : ¬ nI 7 = nI 5 := by decide
    have s6 : ¬ nI 7 = nI 6 := by decide
    have ef : fulB b w 7 = decide (10 ≤ w.1 0 1) := (if_neg (by decide)).trans ((if_neg (by decide)).trans ((if_neg (by decide)).trans (if_pos rfl)))
    rw [ef]
    refine ev_succ (fun n => G37e0 n ..) ?_
    by_cases hf : 10 ≤ w.1 0 1
    · have hf' : ¬ w.1 0 1 < 10 := by omega
      simp (disch := omega) only [G37b0, s, L0, L1, L2, L3, L4, L5, L6, L7, L8, L9, L10, L11, L12, L13, L16, L20, L31, L32, L40, L48, L57, L59, L60, L61, L91, L93, L97, L99, L100, L102, L103, L114, L122, L255, L300, L400, L402, L999, L2280, L2500, L99999, L63, L1431655765, L858993459, L252645135, ic_ge, ic_gt, ic_le, ic_lt, ic_eq, ic_ne, if_lt, if_ge, if_gt, if_le, if_eq, if_ne, if_lt_zI, if_ge_zI, ic_ne_m1, ic_eq_m1, ic_nn_m1, ic_ee_m1, if_ne_b2i, if_eq_b2i, b2i_z, decide_eq_true_eq, decide_true, decide_false, Bool.not_eq_true, Bool.not_eq_true', Bool.not_true, Bool.not_false, decide_eq_false_iff_not, Bool.false_eq_true, not_false_eq_true, not_true_eq_false, if_true, if_false, ↓reduceIte, eq_self, Option.bind_some, Bool.true_and, Bool.false_and, Bool.and_true, Bool.and_false, nI_add, nI_subN, nI_clamp, gdF, gdF2, gdP, gdP2, zI_cl, zI_s, Lm1, nI_n0, zI_n0, leF, or_false, false_or, or_self, s4, s5, s6, m3, hf, hf']
      exact ev_ret
    · have hf' : w.1 0 1 < 10 := by omega
      simp (disch := omega) only [G37b0, s, L0, L1, L2, L3, L4, L5, L6, L7, L8, L9, L10, L11, L12, L13, L16, L20, L31, L32, L40, L48, L57, L59, L60, L61, L91, L93, L97, L99, L100, L102, L103, L114, L122, L255, L300, L400, L402, L999, L2280, L2500, L99999, L63, L1431655765, L858993459, L252645135, ic_ge, ic_gt, ic_le, ic_lt, ic_eq, ic_ne, if_lt, if_ge, if_gt, if_le, if_eq, if_ne, if_lt_zI, if_ge_zI, ic_ne_m1, ic_eq_m1, ic_nn_m1, ic_ee_m1, if_ne_b2i, if_eq_b2i, b2i_z, decide_eq_true_eq, decide_true, decide_false, Bool.not_eq_true, Bool.not_eq_true', Bool.not_true, Bool.not_false, decide_eq_false_iff_not, Bool.false_eq_true, not_false_eq_true, not_true_eq_false, if_true, if_false, ↓reduceIte, eq_self, Option.bind_some, Bool.true_and, Bool.false_and, Bool.and_true, Bool.and_false, nI_add, nI_subN, nI_clamp, gdF, gdF2, gdP, gdP2, zI_cl, zI_s, Lm1, nI_n0, zI_n0, leF, or_false, false_or, or_self, s4, s5, s6, m3, hf, hf']
      exact ev_ret
theorem g43 {k c : Nat} (hk : k ≤ 7) (h : RvT T00 T L i e b w) (ok : OkR n b w) (hc : c < b 0 0) : Ev (fun n => G43 n (nI k) (nI c) T) (b2i (takB b w k c), T) := by
  obtain ⟨hb, okw, _, n10, _, n5, _⟩ := ok
  have hb1 := hb.1
  have hb4 := hb.2.2.2.1 c hc
  have h7 := (okw.2.2.1 c (by omega)).1
  have hb2 := hb.2.1
  have hb3 := hb.2.2.1
  obtain ⟨r1, r2, r3, r4⟩ := h.2.1.2.2.2.1 c hc
  have r3 : T.2.1 71 c = zI (b 3 c) := r3
  have r4 : T.2.1 72 c = zI (b 4 c) := r4
  have r5 : T.2.1 83 c = nI (w.1 7 c) := h.2.2.1.2.2.2.2.1 c (by omega)
  have low : ∀ k, ((nI k).toInt < 4 ∨ 6 < (nI k).toInt) → takB b w k c = false → Ev (fun n => G43 n (nI k) (nI c) T) (b2i (takB b w k c), T) := by
    intro k s hf
    refine ev_succ (fun n => G43e0 n ..) ?_
    rw [hf]
    simp only [G43b0, s, if_true, L0]
    exact ev_ret
  rcases k8 hk with rfl | rfl | rfl | rfl | rfl | rfl | rfl | rfl
  · exact low 0 (by decide) rfl
  · exact low 1 (by decide) rfl
  · exact low 2 (by decide) rfl
  · exact low 3 (by decide) rfl
  · have s : ¬ ((nI 4).toInt < 4 ∨ 6 < (nI 4).toInt) := by decide
    have ef : takB b w 4 c = !decide (b 3 c = 0) := rfl
    rw [ef]
    refine ev_succ (fun n => G43e0 n ..) ?_
    by_cases hf : b 3 c = 0
    · simp (disch := omega) only [G43b0, s, L0, L1, L2, L3, L4, L5, L6, L7, L8, L9, L10, L11, L12, L13, L16, L20, L31, L32, L40, L48, L57, L59, L60, L61, L91, L93, L97, L99, L100, L102, L103, L114, L122, L255, L300, L400, L402, L999, L2280, L2500, L99999, L63, L1431655765, L858993459, L252645135, ic_ge, ic_gt, ic_le, ic_lt, ic_eq, ic_ne, if_lt, if_ge, if_gt, if_le, if_eq, if_ne, if_lt_zI, if_ge_zI, ic_ne_m1, ic_eq_m1, ic_nn_m1, ic_ee_m1, if_ne_b2i, if_eq_b2i, b2i_z, decide_eq_true_eq, decide_true, decide_false, Bool.not_eq_true, Bool.not_eq_true', Bool.not_true, Bool.not_false, decide_eq_false_iff_not, Bool.false_eq_true, not_false_eq_true, not_true_eq_false, if_true, if_false, ↓reduceIte, eq_self, Option.bind_some, Bool.true_and, Bool.false_and, Bool.and_true, Bool.and_false, nI_add, nI_subN, nI_clamp, gdF, gdF2, gdP, gdP2, zI_cl, zI_s, Lm1, nI_n0, zI_n0, leF, or_false, false_or, or_self, r3, hf]
      exact ev_ret
    · simp (disch := omega) only [G43b0, s, L0, L1, L2, L3, L4, L5, L6, L7, L8, L9, L10, L11, L12, L13, L16, L20, L31, L32, L40, L48, L57, L59, L60, L61, L91, L93, L97, L99, L100, L102, L103, L114, L122, L255, L300, L400, L402, L999, L2280, L2500, L99999, L63, L1431655765, L858993459, L252645135, ic_ge, ic_gt, ic_le, ic_lt, ic_eq, ic_ne, if_lt, if_ge, if_gt, if_le, if_eq, if_ne, if_lt_zI, if_ge_zI, ic_ne_m1, ic_eq_m1, ic_nn_m1, ic_ee_m1, if_ne_b2i, if_eq_b2i, b2i_z, decide_eq_true_eq, decide_true, decide_false, Bool.not_eq_true, Bool.not_eq_true', Bool.not_true, Bool.not_false, decide_eq_false_iff_not, Bool.false_eq_true, not_false_eq_true, not_true_eq_false, if_true, if_false, ↓reduceIte, eq_self, Option.bind_some, Bool.true_and, Bool.false_and, Bool.and_true, Bool.and_false, nI_add, nI_subN, nI_clamp, gdF, gdF2, gdP, gdP2, zI_cl, zI_s, Lm1, nI_n0, zI_n0, leF, or_false, false_or, or_self, r3, hf]
      exact ev_ret
  · have s : ¬ ((nI 5).toInt < 4 ∨ 6 < (nI 5).toInt) := by decide
    have s4 : ¬ nI 5 = nI 4 := by decide
    have ef : takB b w 5 c = !decide (b 4 c = 0) := rfl
    rw [ef]
    refine ev_succ (fun n => G43e0 n ..) ?_
    by_cases hf : b 4 c = 0
    · simp (disch := omega) only [G43b0, s, L0, L1, L2, L3, L4, L5, L6, L7, L8, L9, L10, L11, L12, L13, L16, L20, L31, L32, L40, L48, L57, L59, L60, L61, L91, L93, L97, L99, L100, L102, L103, L114, L122, L255, L300, L400, L402, L999, L2280, L2500, L99999, L63, L1431655765, L858993459, L252645135, ic_ge, ic_gt, ic_le, ic_lt, ic_eq, ic_ne, if_lt, if_ge, if_gt, if_le, if_eq, if_ne, if_lt_zI, if_ge_zI, ic_ne_m1, ic_eq_m1, ic_nn_m1, ic_ee_m1, if_ne_b2i, if_eq_b2i, b2i_z, decide_eq_true_eq, decide_true, decide_false, Bool.not_eq_true, Bool.not_eq_true', Bool.not_true, Bool.not_false, decide_eq_false_iff_not, Bool.false_eq_true, not_false_eq_true, not_true_eq_false, if_true, if_false, ↓reduceIte, eq_self, Option.bind_some, Bool.true_and, Bool.false_and, Bool.and_true, Bool.and_false, nI_add, nI_subN, nI_clamp, gdF, gdF2, gdP, gdP2, zI_cl, zI_s, Lm1, nI_n0, zI_n0, leF, or_false, false_or, or_self, s4, r4, hf]
      exact ev_ret
    · simp (disch := omega) only [G43b0, s, L0, L1, L2, L3, L4, L5, L6, L7, L8, L9, L10, L11, L12, L13, L16, L20, L31, L32, L40, L48, L57, L59, L60, L61, L91, L93, L97, L99, L100, L102, L103, L114, L122, L255, L300, L400, L402, L999, L2280, L2500, L99999, L63, L1431655765, L858993459, L252645135, ic_ge, ic_gt, ic_le, ic_lt, ic_eq, ic_ne, if_lt, if_ge, if_gt, if_le, if_eq, if_ne, if_lt_zI, if_ge_zI, ic_ne_m1, ic_eq_m1, ic_nn_m1, ic_ee_m1, if_ne_b2i, if_eq_b2i, b2i_z, decide_eq_true_eq, decide_true, decide_false, Bool.not_eq_true, Bool.not_eq_true', Bool.not_true, Bool.not_false, decide_eq_false_iff_not, Bool.false_eq_true, not_false_eq_true, not_true_eq_false, if_true, if_false, ↓reduceIte, eq_self, Option.bind_some, Bool.true_and, Bool.false_and, Bool.and_true, Bool.and_false, nI_add, nI_subN, nI_clamp, gdF, gdF2, gdP, gdP2, zI_cl, zI_s, Lm1, nI_n0, zI_n0, leF, or_false, false_or, or_self, s4, r4, hf]
      exact ev_ret
  · have s : ¬ ((nI 6).toInt < 4 ∨ 6 < (nI 6).toInt) := by decide
    have s4 : ¬ nI 6 = nI 4 := by decide
    have s5 : ¬ nI 6 = nI 5 := by decide
    have ef : takB b w 6 c = !decide (w.1 7 c = 0) := rfl
    rw [ef]
    refine ev_succ (fun n => G43e0 n ..) ?_
    by_cases hf : w.1 7 c = 0
    · simp (disch := omega) only [G43b0, s, L0, L1, L2, L3, L4, L5, L6, L7, L8, L9, L10, L11, L12, L13, L16, L20, L31, L32, L40, L48, L57, L59, L60, L61, L91, L93, L97, L99, L100, L102, L103, L114, L122, L255, L300, L400, L402, L999, L2280, L2500, L99999, L63, L1431655765, L858993459, L252645135, ic_ge, ic_gt, ic_le, ic_lt, ic_eq, ic_ne, if_lt, if_ge, if_gt, if_le, if_eq, if_ne, if_lt_zI, if_ge_zI, ic_ne_m1, ic_eq_m1, ic_nn_m1, ic_ee_m1, if_ne_b2i, if_eq_b2i, b2i_z, decide_eq_true_eq, decide_true, decide_false, Bool.not_eq_true, Bool.not_eq_true', Bool.not_true, Bool.not_false, decide_eq_false_iff_not, Bool.false_eq_true, not_false_eq_true, not_true_eq_false, if_true, if_false, ↓reduceIte, eq_self, Option.bind_some, Bool.true_and, Bool.false_and, Bool.and_true, Bool.and_false, nI_add, nI_subN, nI_clamp, gdF, gdF2, gdP, gdP2, zI_cl, zI_s, Lm1, nI_n0, zI_n0, leF, or_false, false_or, or_self, s4, s5, r5, hf, Nat.le_refl]
      exact ev_ret
    · have hf' : ¬ w.1 7 c ≤ 0 := by omega
      simp (disch := omega) only [G43b0, s, L0, L1, L2, L3, L4, L5, L6, L7, L8, L9, L10, L11, L12, L13, L16, L20, L31, L32, L40, L48, L57, L59, L60, L61, L91, L93, L97, L99, L100, L102, L103, L114, L122, L255, L300, L400, L402, L999, L2280, L2500, L99999, L63, L1431655765, L858993459, L252645135, ic_ge, ic_gt, ic_le, ic_lt, ic_eq, ic_ne, if_lt, if_ge, if_gt, if_le, if_eq, if_ne, if_lt_zI, if_ge_zI, ic_ne_m1, ic_eq_m1, ic_nn_m1, ic_ee_m1, if_ne_b2i, if_eq_b2i, b2i_z, decide_eq_true_eq, decide_true, decide_false, Bool.not_eq_true, Bool.not_eq_true', Bool.not_true, Bool.not_false, decide_eq_false_iff_not, Bool.false_eq_true, not_false_eq_true, not_true_eq_false, if_true, if_false, ↓reduceIte, eq_self, Option.bind_some, Bool.true_and, Bool.false_and, Bool.and_true, Bool.and_false, nI_add, nI_subN, nI_clamp, gdF, gdF2, gdP, gdP2, zI_cl, zI_s, Lm1, nI_n0, zI_n0, leF, or_false, false_or, or_self, s4, s5, r5, hf, hf']
      exact ev_ret
  · exact low 7 (by decide) rfl
theorem g44 {k m : Nat} (hH : TH T00 f L) (hk1 : 1 ≤ k) (hk : k ≤ 7) (h : RvT T00 T L i 0 b w) (ht : TP T T L i m 0) (hi : i ≤ L) (hb0 : b 0 0 ≠ 0) (hb1 : b 0 0 ≤ 16) : Ep (fun n => G44 n (nI k) T) (fun z => z.1 = (if (secF f L b k i).1 = 0 then nI (secF f L b k i).2.1 else zI 0) ∧ ∃ m', TP z.2 T L (secF f L b k i).2.2 m' (secF f L b k i).1 ∧ (k = 1 → m' = bk f L i)) := by
  have hH' := RvT_TH hH h
  have m0 : T.1 68 0 = nI (b 0 0) := h.2.1.1
  rcases k8 hk with rfl | rfl | rfl | rfl | rfl | rfl | rfl | rfl
  · omega
  · have s : ¬ ((nI 1).toInt < 1 ∨ 7 < (nI 1).toInt) := by decide
    have ef : secF f L b 1 i = amF f L i 0 (b 0 0) := rfl
    rw [ef]
    refine ep_succ (fun n => G44e0 n ..) ?_
    simp (disch := omega) only [G44b0, s, L0, L1, L2, L3, L4, L5, L6, L7, L8, L9, L10, L11, L12, L13, L16, L20, L31, L32, L40, L48, L57, L59, L60, L61, L91, L93, L97, L99, L100, L102, L103, L114, L122, L255, L300, L400, L402, L999, L2280, L2500, L99999, L63, L1431655765, L858993459, L252645135, ic_ge, ic_gt, ic_le, ic_lt, ic_eq, ic_ne, if_lt, if_ge, if_gt, if_le, if_eq, if_ne, if_lt_zI, if_ge_zI, ic_ne_m1, ic_eq_m1, ic_nn_m1, ic_ee_m1, if_ne_b2i, if_eq_b2i, b2i_z, decide_eq_true_eq, decide_true, decide_false, Bool.not_eq_true, Bool.not_eq_true', Bool.not_true, Bool.not_false, decide_eq_false_iff_not, Bool.false_eq_true, not_false_eq_true, not_true_eq_false, if_true, if_false, ↓reduceIte, eq_self, Option.bind_some, Bool.true_and, Bool.false_and, Bool.and_true, Bool.and_false, nI_add, nI_subN, nI_clamp, gdF, gdF2, gdP, gdP2, zI_cl, zI_s, Lm1, nI_n0, zI_n0, leF, or_false, false_or, or_self, m0]
    refine ep_bind (g40 hH' (lo := 0) (by omega) (by omega) hb0 hi ht) ?_
    rintro ⟨z, T1⟩ ⟨a1, a2⟩
    exact ep_ret ⟨a1, _, a2, fun _ => rfl⟩
  · have s : ¬ ((nI 2).toInt < 1 ∨ 7 < (nI 2).toInt) := by decide
    have s1 : ¬ nI 2 = nI 1 := by decide
    have ef : secF f L b 2 i = (0, 0, i) := rfl
    rw [ef]
    refine ep_succ (fun n => G44e0 n ..) ?_
    simp (disch := omega) only [G44b0, s, L0, L1, L2, L3, L4, L5, L6, L7, L8, L9, L10, L11, L12, L13, L16, L20, L31, L32, L40, L48, L57, L59, L60, L61, L91, L93, L97, L99, L100, L102, L103, L114, L122, L255, L300, L400, L402, L999, L2280, L2500, L99999, L63, L1431655765, L858993459, L252645135, ic_ge, ic_gt, ic_le, ic_lt, ic_eq, ic_ne, if_lt, if_ge, if_gt, if_le, if_eq, if_ne, if_lt_zI, if_ge_zI, ic_ne_m1, ic_eq_m1, ic_nn_m1, ic_ee_m1, if_ne_b2i, if_eq_b2i, b2i_z, decide_eq_true_eq, decide_true, decide_false, Bool.not_eq_true, Bool.not_eq_true', Bool.not_true, Bool.not_false, decide_eq_false_iff_not, Bool.false_eq_true, not_false_eq_true, not_true_eq_false, if_true, if_false, ↓reduceIte, eq_self, Option.bind_some, Bool.true_and, Bool.false_and, Bool.and_true, Bool.and_false, nI_add, nI_subN, nI_clamp, gdF, gdF2, gdP, gdP2, zI_cl, zI_s, Lm1, nI_n0, zI_n0, leF, or_false, false_or, or_self, s1]
    exact ep_ret ⟨rfl, m, ht, fun z => absurd z (by decide)⟩
  · have s : ¬ ((nI 3).toInt < 1 ∨ 7 < (nI 3).toInt) := by decide
    have s1 : ¬ nI 3 = nI 1 := by decide
    have s2 : ¬ nI 3 = nI 2 := by decide
    have ef : secF f L b 3 i = amF f L i 1 10 := rfl
    rw [ef]
    refine ep_succ (fun n => G44e0 n ..) ?_
    simp (disch := omega) only [G44b0, s, L0, L1, L2, L3, L4, L5, L6, L7, L8, L9, L10, L11, L12, L13, L16, L20, L31, L32, L40, L48, L57, L59, L60, L61, L91, L93, L97, L99, L100, L102, L103, L114, L122, L255, L300, L400, L402, L999, L2280, L2500, L99999, L63, L1431655765, L858993459, L252645135, ic_ge, ic_gt, ic_le, ic_lt, ic_eq, ic_ne, if_lt, if_ge, if_gt, if_le, if_eq, if_ne, if_lt_zI, if_ge_zI, ic_ne_m1, ic_eq_m1, ic_nn_m1, ic_ee_m1, if_ne_b2i, if_eq_b2i, b2i_z, decide_eq_true_eq, decide_true, decide_false, Bool.not_eq_true, Bool.not_eq_true', Bool.not_true, Bool.not_false, decide_eq_false_iff_not, Bool.false_eq_true, not_false_eq_true, not_true_eq_false, if_true, if_false, ↓reduceIte, eq_self, Option.bind_some, Bool.true_and, Bool.false_and, Bool.and_true, Bool.and_false, nI_add, nI_subN, nI_clamp, gdF, gdF2, gdP, gdP2, zI_cl, zI_s, Lm1, nI_n0, zI_n0, leF, or_false, false_or, or_self, s1, s2]
    refine ep_bind (g40 hH' (lo := 1) (hi := 10) (by decide) (by decide) (by decide) hi ht) ?_
    rintro ⟨z, T1⟩ ⟨a1, a2⟩
    exact ep_ret ⟨a1, _, a2, fun z => absurd z (by decide)⟩
  · have s : ¬ ((nI 4).toInt < 1 ∨ 7 < (nI 4).toInt) := by decide
    have s1 : ¬ nI 4 = nI 1 := by decide
    have s2 : ¬ nI 4 = nI 2 := by decide
    have s3 : ¬ nI 4 = nI 3 := by decide
    have ef : secF f L b 4 i = leF2 f L i 1 := rfl
    rw [ef]
    refine ep_succ (fun n => G44e0 n ..) ?_
    simp (disch := omega) only [G44b0, s, L0, L1, L2, L3, L4, L5, L6, L7, L8, L9, L10, L11, L12, L13, L16, L20, L31, L32, L40, L48, L57, L59, L60, L61, L91, L93, L97, L99, L100, L102, L103, L114, L122, L255, L300, L400, L402, L999, L2280, L2500, L99999, L63, L1431655765, L858993459, L252645135, ic_ge, ic_gt, ic_le, ic_lt, ic_eq, ic_ne, if_lt, if_ge, if_gt, if_le, if_eq, if_ne, if_lt_zI, if_ge_zI, ic_ne_m1, ic_eq_m1, ic_nn_m1, ic_ee_m1, if_ne_b2i, if_eq_b2i, b2i_z, decide_eq_true_eq, decide_true, decide_false, Bool.not_eq_true, Bool.not_eq_true', Bool.not_true, Bool.not_false, decide_eq_false_iff_not, Bool.false_eq_true, not_false_eq_true, not_true_eq_false, if_true, if_false, ↓reduceIte, eq_self, Option.bind_some, Bool.true_and, Bool.false_and, Bool.and_true, Bool.and_false, nI_add, nI_subN, nI_clamp, gdF, gdF2, gdP, gdP2, zI_cl, zI_s, Lm1, nI_n0, zI_n0, leF, or_false, false_or, or_self, s1, s2, s3]
    refine ep_bind (g45 hH' (most := 1) (by decide) hi ht) ?_
    rintro ⟨z, T1⟩ ⟨a1, a2⟩
    exact ep_ret ⟨a1, _, a2, fun z => absurd z (by decide)⟩
  · have s : ¬ ((nI 5).toInt < 1 ∨ 7 < (nI 5).toInt) := by decide
    have s1 : ¬ nI 5 = nI 1 := by decide
    have s2 : ¬ nI 5 = nI 2 := by decide
    have s3 : ¬ nI 5 = nI 3 := by decide
    have s4 : ¬ nI 5 = nI 4 := by decide
    have ef : secF f L b 5 i = (0, 0, i) := rfl
    rw [ef]
    refine ep_succ (fun n => G44e0 n ..) ?_
    simp (disch := omega) only [G44b0, s, L0, L1, L2, L3, L4, L5, L6, L7, L8, L9, L10, L11, L12, L13, L16, L20, L31, L32, L40, L48, L57, L59, L60, L61, L91, L93, L97, L99, L100, L102, L103, L114, L122, L255, L300, L400, L402, L999, L2280, L2500, L99999, L63, L1431655765, L858993459, L252645135, ic_ge, ic_gt, ic_le, ic_lt, ic_eq, ic_ne, if_lt, if_ge, if_gt, if_le, if_eq, if_ne, if_lt_zI, if_ge_zI, ic_ne_m1, ic_eq_m1, ic_nn_m1, ic_ee_m1, if_ne_b2i, if_eq_b2i, b2i_z, decide_eq_true_eq, decide_true, decide_false, Bool.not_eq_true, Bool.not_eq_true', Bool.not_true, Bool.not_false, decide_eq_false_iff_not, Bool.false_eq_true, not_false_eq_true, not_true_eq_false, if_true, if_false, ↓reduceIte, eq_self, Option.bind_some, Bool.true_and, Bool.false_and, Bool.and_true, Bool.and_false, nI_add, nI_subN, nI_clamp, gdF, gdF2, gdP, gdP2, zI_cl, zI_s, Lm1, nI_n0, zI_n0, leF, or_false, false_or, or_self, s1, s2, s3, s4]
    exact ep_ret ⟨rfl, m, ht, fun z => absurd z (by decide)⟩
  · have s : ¬ ((nI 6).toInt < 1 ∨ 7 < (nI 6).toInt) := by decide
    have s1 : ¬ nI 6 = nI 1 := by decide
    have s2 : ¬ nI 6 = nI 2 := by decide
    have s3 : ¬ nI 6 = nI 3 := by decide
    have s4 : ¬ nI 6 = nI 4 := by decide
    have s5 : ¬ nI 6 = nI 5 := by decide
    have ef : secF f L b 6 i = amF f L i 1 9 := rfl
    rw [ef]
    refine ep_succ (fun n => G44e0 n ..) ?_
    simp (disch := omega) only [G44b0, s, L0, L1, L2, L3, L4, L5, L6, L7, L8, L9, L10, L11, L12, L13, L16, L20, L31, L32, L40, L48, L57, L59, L60, L61, L91, L93, L97, L99, L100, L102, L103, L114, L122, L255, L300, L400, L402, L999, L2280, L2500, L99999, L63, L1431655765, L858993459, L252645135, ic_ge, ic_gt, ic_le, ic_lt, ic_eq, ic_ne, if_lt, if_ge, if_gt, if_le, if_eq, if_ne, if_lt_zI, if_ge_zI, ic_ne_m1, ic_eq_m1, ic_nn_m1, ic_ee_m1, if_ne_b2i, if_eq_b2i, b2i_z, decide_eq_true_eq, decide_true, decide_false, Bool.not_eq_true, Bool.not_eq_true', Bool.not_true, Bool.not_false, decide_eq_false_iff_not, Bool.false_eq_true, not_false_eq_true, not_true_eq_false, if_true, if_false, ↓reduceIte, eq_self, Option.bind_some, Bool.true_and, Bool.false_and, Bool.and_true, Bool.and_false, nI_add, nI_subN, nI_clamp, gdF, gdF2, gdP, gdP2, zI_cl, zI_s, Lm1, nI_n0, zI_n0, leF, or_false, false_or, or_self, s1, s2, s3, s4, s5]
    refine ep_bind (g40 hH' (lo := 1) (hi := 9) (by decide) (by decide) (by decide) hi ht) ?_
    rintro ⟨z, T1⟩ ⟨a1, a2⟩
    exact ep_ret ⟨a1, _, a2, fun z => absurd z (by decide)⟩
  · have s : ¬ ((nI 7).toInt < 1 ∨ 7 < (nI 7).toInt) := by decide
    have s1 : ¬ nI 7 = nI 1 := by decide
    have s2 : ¬ nI 7 = nI 2 := by decide
    have s3 : ¬ nI 7 = nI 3 := by decide
    have s4 : ¬ nI 7 = nI 4 := by decide
    have s5 : ¬ nI 7 = nI 5 := by decide
    have s6 : ¬ nI 7 = nI 6 := by decide
    have ef : secF f L b 7 i = leF2 f L i 8 := rfl
    rw [ef]
    refine ep_succ (fun n => G44e0 n ..) ?_
    simp (disch := omega) only [G44b0, s, L0, L1, L2, L3, L4, L5, L6, L7, L8, L9, L10, L11, L12, L13, L16, L20, L31, L32, L40, L48, L57, L59, L60, L61, L91, L93, L97, L99, L100, L102, L103, L114, L122, L255, L300, L400, L402, L999, L2280, L2500, L99999, L63, L1431655765, L858993459, L252645135, ic_ge, ic_gt, ic_le, ic_lt, ic_eq, ic_ne, if_lt, if_ge, if_gt, if_le, if_eq, if_ne, if_lt_zI, if_ge_zI, ic_ne_m1, ic_eq_m1, ic_nn_m1, ic_ee_m1, if_ne_b2i, if_eq_b2i, b2i_z, decide_eq_true_eq, decide_true, decide_false, Bool.not_eq_true, Bool.not_eq_true', Bool.not_true, Bool.not_false, decide_eq_false_iff_not, Bool.false_eq_true, not_false_eq_true, not_true_eq_false, if_true, if_false, ↓reduceIte, eq_self, Option.bind_some, Bool.true_and, Bool.false_and, Bool.and_true, Bool.and_false, nI_add, nI_subN, nI_clamp, gdF, gdF2, gdP, gdP2, zI_cl, zI_s, Lm1, nI_n0, zI_n0, leF, or_false, false_or, or_self, s1, s2, s3, s4, s5, s6]
    refine ep_bind (g45 hH' (most := 8) (by decide) hi ht) ?_
    rintro ⟨z, T1⟩ ⟨a1, a2⟩
    exact ep_ret ⟨a1, _, a2, fun z => absurd z (by decide)⟩
end Rv
section Cb
variable {T : xS} {b : AB} {c v : Nat}
theorem CB_c1 (h : CB T 68 b) : CB (x_sA T 69 c (zI v)) 68 (bS b 1 c v) := by
  obtain ⟨h0, h1, h2, h3, h4⟩ := h
  refine ⟨h0, h1, h2, fun i hi => ?_, fun k hk => ?_⟩
  · obtain ⟨q1, q2, q3, q4⟩ := h3 i hi
    refine ⟨?_, ?_, ?_, ?_⟩
    · by_cases e : i = c
      · rw [e, bS_e]
        exact x_rAe
      · rw [bS_i e]
        exact (x_rAi e).trans q1
    · rw [bS_n (by decide), x_rAn (by decide)]
      exact q2
    · rw [bS_n (by decide), x_rAn (by decide)]
      exact q3
    · rw [bS_n (by decide), x_rAn (by decide)]
      exact q4
  · rw [bS_n (by decide), x_rAn (by decide)]
    exact h4 k hk
theorem CB_c2 (h : CB T 68 b) : CB (x_sA T 70 c (nI v)) 68 (bS b 2 c v) := by
  obtain ⟨h0, h1, h2, h3, h4⟩ := h
  refine ⟨h0, h1, h2, fun i hi => ?_, fun k hk => ?_⟩
  · obtain ⟨q1, q2, q3, q4⟩ := h3 i hi
    refine ⟨?_, ?_, ?_, ?_⟩
    · rw [bS_n (by decide), x_rAn (by decide)]
      exact q1
    · by_cases e : i = c
      · rw [e, bS_e]
        exact x_rAe
      · rw [bS_i e]
        exact (x_rAi e).trans q2
    · rw [bS_n (by decide), x_rAn (by decide)]
      exact q3
    · rw [bS_n (by decide), x_rAn (by decide)]
      exact q4
  · rw [bS_n (by decide), x_rAn (by decide)]
    exact h4 k hk
theorem g48 (h : CB T 68 b) (hc : c < 16) (hm : b 0 1 < 6) : Ep (fun n => G48 68 n (nI c) (nI v) T) (fun z => CB z.2 68 (bS (bS (bS b 3 c (b 0 1 + 1)) 5 (b 0 1) v) 0 1 (b 0 1 + 1)) ∧ (∀ q, q ≠ 68 → z.2.1 q = T.1 q) ∧ (∀ q, q ≠ 71 → q ≠ 73 → z.2.2.1 q = T.2.1 q) ∧ z.2.2.2 = T.2.2) := by
  obtain ⟨h0, h1, h2, h3, h4⟩ := h
  have e1 : ¬ 6 ≤ b 0 1 := by omega
  refine ep_succ (fun n => G48e0 68 n ..) ?_
  simp (disch := omega) only [G48b0, L0, L1, L2, L3, L4, L5, L6, L7, L8, L9, L10, L11, L12, L13, L16, L20, L31, L32, L40, L48, L57, L59, L60, L61, L91, L93, L97, L99, L100, L102, L103, L114, L122, L255, L300, L400, L402, L999, L2280, L2500, L99999, L63, L1431655765, L858993459, L252645135, ic_ge, ic_gt, ic_le, ic_lt, ic_eq, ic_ne, if_lt, if_ge, if_gt, if_le, if_eq, if_ne, if_lt_zI, if_ge_zI, ic_ne_m1, ic_eq_m1, ic_nn_m1, ic_ee_m1, if_ne_b2i, if_eq_b2i, b2i_z, decide_eq_true_eq, decide_true, decide_false, Bool.not_eq_true, Bool.not_eq_true', Bool.not_true, Bool.not_false, decide_eq_false_iff_not, Bool.false_eq_true, not_false_eq_true, not_true_eq_false, if_true, if_false, ↓reduceIte, eq_self, Option.bind_some, Bool.true_and, Bool.false_and, Bool.and_true, Bool.and_false, nI_add, nI_subN, nI_clamp, gdF, gdF2, gdP, gdP2, zI_cl, zI_s, Lm1, nI_n0, zI_n0, leF, or_false, false_or, or_self, h1, e1, x_rA1]
  refine ep_ret ⟨⟨?_, x_rIe, ?_, fun i hi => ?_, fun k hk => ?_⟩, fun q hq => ?_, fun q h71 h73 => ?_, rfl⟩
  · exact (x_rIi (by decide)).trans h0
  · exact (x_rIi (by decide)).trans h2
  · obtain ⟨q1, q2, q3, q4⟩ := h3 i hi
    refine ⟨?_, ?_, ?_, ?_⟩
    · show (x_sA (x_sA T 71 c (nI (b 0 1))) 73 (b 0 1) (nI v)).2.1 69 i = zI (b 1 i)
      simp (disch := omega) only [x_rAn]
      exact q1
    · show (x_sA (x_sA T 71 c (nI (b 0 1))) 73 (b 0 1) (nI v)).2.1 70 i = nI (b 2 i)
      simp (disch := omega) only [x_rAn]
      exact q2
    · show (x_sA (x_sA T 71 c (nI (b 0 1))) 73 (b 0 1) (nI v)).2.1 71 i = zI (bS b 3 c (b 0 1 + 1) 3 i)
      by_cases e : i = c
      · subst e
        rw [bS_e, zI_s]
        simp (disch := omega) only [x_rAn, x_rAe]
      · rw [bS_i e]
        simp (disch := omega) only [x_rAn, x_rAi]
        exact q3
    · show (x_sA (x_sA T 71 c (nI (b 0 1))) 73 (b 0 1) (nI v)).2.1 72 i = zI (b 4 i)
      simp (disch := omega) only [x_rAn]
      exact q4
  · have hk : k < b 0 1 + 1 := hk
    show (x_sA (x_sA T 71 c (nI (b 0 1))) 73 (b 0 1) (nI v)).2.1 73 k = nI (bS (bS b 3 c (b 0 1 + 1)) 5 (b 0 1) v 5 k)
    by_cases e : k = b 0 1
    · rw [e, bS_e, x_rAe]
    · rw [bS_i e, bS_n (by decide)]
      simp (disch := omega) only [x_rAi, x_rAn]
      exact h4 k (by omega)
  · exact x_rIn hq
  · show (x_sA (x_sA T 71 c (nI (b 0 1))) 73 (b 0 1) (nI v)).2.1 q = T.2.1 q
    rw [x_rAn h73, x_rAn h71]
theorem g49 (h : CB T 68 b) (hc : c < 16) (hm : b 0 2 < 4) : Ep (fun n => G49 68 n (nI c) T) (fun z => CB z.2 68 (bS (bS b 4 c (b 0 2 + 1)) 0 2 (b 0 2 + 1)) ∧ (∀ q, q ≠ 68 → z.2.1 q = T.1 q) ∧ (∀ q, q ≠ 72 → z.2.2.1 q = T.2.1 q) ∧ z.2.2.2 = T.2.2) := by
  obtain ⟨h0, h1, h2, h3, h4⟩ := h
  have e1 : ¬ 4 ≤ b 0 2 := by omega
  refine ep_succ (fun n => G49e0 68 n ..) ?_
  simp (disch := omega) only [G49b0, L0, L1, L2, L3, L4, L5, L6, L7, L8, L9, L10, L11, L12, L13, L16, L20, L31, L32, L40, L48, L57, L59, L60, L61, L91, L93, L97, L99, L100, L102, L103, L114, L122, L255, L300, L400, L402, L999, L2280, L2500, L99999, L63, L1431655765, L858993459, L252645135, ic_ge, ic_gt, ic_le, ic_lt, ic_eq, ic_ne, if_lt, if_ge, if_gt, if_le, if_eq, if_ne, if_lt_zI, if_ge_zI, ic_ne_m1, ic_eq_m1, ic_nn_m1, ic_ee_m1, if_ne_b2i, if_eq_b2i, b2i_z, decide_eq_true_eq, decide_true, decide_false, Bool.not_eq_true, Bool.not_eq_true', Bool.not_true, Bool.not_false, decide_eq_false_iff_not, Bool.false_eq_true, not_false_eq_true, not_true_eq_false, if_true, if_false, ↓reduceIte, eq_self, Option.bind_some, Bool.true_and, Bool.false_and, Bool.and_true, Bool.and_false, nI_add, nI_subN, nI_clamp, gdF, gdF2, gdP, gdP2, zI_cl, zI_s, Lm1, nI_n0, zI_n0, leF, or_false, false_or, or_self, h2, e1, x_rA1]
  refine ep_ret ⟨⟨?_, ?_, x_rIe, fun i hi => ?_, fun k hk => ?_⟩, fun q hq => ?_, fun q h72 => ?_, rfl⟩
  · exact (x_rIi (by decide)).trans h0
  · exact (x_rIi (by decide)).trans h1
  · obtain ⟨q1, q2, q3, q4⟩ := h3 i hi
    refine ⟨?_, ?_, ?_, ?_⟩
    · show (x_sA T 72 c (nI (b 0 2))).2.1 69 i = zI (b 1 i)
      rw [x_rAn (by decide)]
      exact q1
    · show (x_sA T 72 c (nI (b 0 2))).2.1 70 i = nI (b 2 i)
      rw [x_rAn (by decide)]
      exact q2
    · show (x_sA T 72 c (nI (b 0 2))).2.1 71 i = zI (b 3 i)
      rw [x_rAn (by decide)]
      exact q3
    · show (x_sA T 72 c (nI (b 0 2))).2.1 72 i = zI (bS b 4 c (b 0 2 + 1) 4 i)
      by_cases e : i = c
      · subst e
        rw [bS_e, zI_s, x_rAe]
      · rw [bS_i e, x_rAi e]
        exact q4
  · show (x_sA T 72 c (nI (b 0 2))).2.1 73 k = nI (b 5 k)
    rw [x_rAn (by decide)]
    exact h4 k hk
  · exact x_rIn hq
  · show (x_sA T 72 c (nI (b 0 2))).2.1 q = T.2.1 q
    rw [x_rAn h72]
end Cb
