/-! fleet: the reference -/
section F247
variable {S : mS} {w : AW} {b : AB}
theorem f247l (hw : MW S.2.1 w) (ok : OkW b w) : ∀ (m s : Nat), s ≤ m → s < w.1 0 1 → Ev (fun n => F247f n 2 (nI 0) (nI s) S) (b2i (decide (ltF w m s = 2)), S) := by
  have h13 := ok.1
  intro m
  induction m with
  | zero =>
    intro s hs hn
    have hk := ok.2.1 s hn
    have f3 := hk.2.1
    have f5 := hk.2.2.2.2.2.1
    have r13 := (hw.2.2.2.1 s hn).2.2.1
    have h3 : ¬ w.1 4 s = 3 := fun e => by
      have := f5 e
      omega
    refine ev_succ (fun n => F247e2 n ..) ?_
    unfold ltF
    by_cases h2 : w.1 4 s = 2
    · simp (disch := omega) only [F247b2, L0, L1, L2, L3, L4, L5, L6, L7, L8, L9, L10, L11, L12, L13, L16, L20, L31, L32, L40, L48, L57, L59, L60, L61, L91, L93, L97, L99, L100, L102, L103, L114, L122, L255, L300, L400, L402, L999, L2280, L2500, L99999, L63, L1431655765, L858993459, L252645135, ic_ge, ic_gt, ic_le, ic_lt, ic_eq, ic_ne, if_lt, if_ge, if_gt, if_le, if_eq, if_ne, if_lt_zI, if_ge_zI, ic_ne_m1, ic_eq_m1, ic_nn_m1, ic_ee_m1, if_ne_b2i, if_eq_b2i, b2i_z, decide_eq_true_eq, decide_true, decide_false, Bool.not_eq_true, Bool.not_eq_true', Bool.not_true, Bool.not_false, decide_eq_false_iff_not, Bool.false_eq_true, not_false_eq_true, not_true_eq_false, if_true, if_false, ↓reduceIte, eq_self, Option.bind_some, Bool.true_and, Bool.false_and, Bool.and_true, Bool.and_false, nI_add, nI_subN, nI_clamp, gdF, gdF2, gdP, gdP2, zI_cl, zI_s, Lm1, nI_n0, zI_n0, leF, or_false, false_or, or_self, r13, h2]
      exact ev_ret
    · simp (disch := omega) only [F247b2, L0, L1, L2, L3, L4, L5, L6, L7, L8, L9, L10, L11, L12, L13, L16, L20, L31, L32, L40, L48, L57, L59, L60, L61, L91, L93, L97, L99, L100, L102, L103, L114, L122, L255, L300, L400, L402, L999, L2280, L2500, L99999, L63, L1431655765, L858993459, L252645135, ic_ge, ic_gt, ic_le, ic_lt, ic_eq, ic_ne, if_lt, if_ge, if_gt, if_le, if_eq, if_ne, if_lt_zI, if_ge_zI, ic_ne_m1, ic_eq_m1, ic_nn_m1, ic_ee_m1, if_ne_b2i, if_eq_b2i, b2i_z, decide_eq_true_eq, decide_true, decide_false, Bool.not_eq_true, Bool.not_eq_true', Bool.not_true, Bool.not_false, decide_eq_false_iff_not, Bool.false_eq_true, not_false_eq_true, not_true_eq_false, if_true, if_false, ↓reduceIte, eq_self, Option.bind_some, Bool.true_and, Bool.false_and, Bool.and_true, Bool.and_false, nI_add, nI_subN, nI_clamp, gdF, gdF2, gdP, gdP2, zI_cl, zI_s, Lm1, nI_n0, zI_n0, leF, or_false, false_or, or_self, r13, h3, h2]
      exact ev_ret
  | succ m ih =>
    intro s hs hn
    have hk := ok.2.1 s hn
    have f3 := hk.2.1
    have f5 := hk.2.2.2.2.2.1
    have r13 := (hw.2.2.2.1 s hn).2.2.1
    have r14 := (hw.2.2.2.1 s hn).2.2.2.1
    refine ev_succ (fun n => F247e2 n ..) ?_
    unfold ltF
    by_cases h3 : w.1 4 s = 3
    · have h5 := f5 h3
      obtain ⟨q, hq⟩ : ∃ q, w.1 5 s = q + 1 := ⟨w.1 5 s - 1, by omega⟩
      rw [if_pos h3, hq, Nat.add_sub_cancel]
      rw [hq, zI_s] at r14
      simp (disch := omega) only [F247b2, L0, L1, L2, L3, L4, L5, L6, L7, L8, L9, L10, L11, L12, L13, L16, L20, L31, L32, L40, L48, L57, L59, L60, L61, L91, L93, L97, L99, L100, L102, L103, L114, L122, L255, L300, L400, L402, L999, L2280, L2500, L99999, L63, L1431655765, L858993459, L252645135, ic_ge, ic_gt, ic_le, ic_lt, ic_eq, ic_ne, if_lt, if_ge, if_gt, if_le, if_eq, if_ne, if_lt_zI, if_ge_zI, ic_ne_m1, ic_eq_m1, ic_nn_m1, ic_ee_m1, if_ne_b2i, if_eq_b2i, b2i_z, decide_eq_true_eq, decide_true, decide_false, Bool.not_eq_true, Bool.not_eq_true', Bool.not_true, Bool.not_false, decide_eq_false_iff_not, Bool.false_eq_true, not_false_eq_true, not_true_eq_false, if_true, if_false, ↓reduceIte, eq_self, Option.bind_some, Bool.true_and, Bool.false_and, Bool.and_true, Bool.and_false, nI_add, nI_subN, nI_clamp, gdF, gdF2, gdP, gdP2, zI_cl, zI_s, Lm1, nI_n0, zI_n0, leF, or_false, false_or, or_self, r13, r14, h3]
      exact ih q (by omega) (by omega)
    · rw [if_neg h3]
      by_cases h2 : w.1 4 s = 2
      · simp (disch := omega) only [F247b2, L0, L1, L2, L3, L4, L5, L6, L7, L8, L9, L10, L11, L12, L13, L16, L20, L31, L32, L40, L48, L57, L59, L60, L61, L91, L93, L97, L99, L100, L102, L103, L114, L122, L255, L300, L400, L402, L999, L2280, L2500, L99999, L63, L1431655765, L858993459, L252645135, ic_ge, ic_gt, ic_le, ic_lt, ic_eq, ic_ne, if_lt, if_ge, if_gt, if_le, if_eq, if_ne, if_lt_zI, if_ge_zI, ic_ne_m1, ic_eq_m1, ic_nn_m1, ic_ee_m1, if_ne_b2i, if_eq_b2i, b2i_z, decide_eq_true_eq, decide_true, decide_false, Bool.not_eq_true, Bool.not_eq_true', Bool.not_true, Bool.not_false, decide_eq_false_iff_not, Bool.false_eq_true, not_false_eq_true, not_true_eq_false, if_true, if_false, ↓reduceIte, eq_self, Option.bind_some, Bool.true_and, Bool.false_and, Bool.and_true, Bool.and_false, nI_add, nI_subN, nI_clamp, gdF, gdF2, gdP, gdP2, zI_cl, zI_s, Lm1, nI_n0, zI_n0, leF, or_false, false_or, or_self, r13, h2]
        exact ev_ret
      · simp (disch := omega) only [F247b2, L0, L1, L2, L3, L4, L5, L6, L7, L8, L9, L10, L11, L12, L13, L16, L20, L31, L32, L40, L48, L57, L59, L60, L61, L91, L93, L97, L99, L100, L102, L103, L114, L122, L255, L300, L400, L402, L999, L2280, L2500, L99999, L63, L1431655765, L858993459, L252645135, ic_ge, ic_gt, ic_le, ic_lt, ic_eq, ic_ne, if_lt, if_ge, if_gt, if_le, if_eq, if_ne, if_lt_zI, if_ge_zI, ic_ne_m1, ic_eq_m1, ic_nn_m1, ic_ee_m1, if_ne_b2i, if_eq_b2i, b2i_z, decide_eq_true_eq, decide_true, decide_false, Bool.not_eq_true, Bool.not_eq_true', Bool.not_true, Bool.not_false, decide_eq_false_iff_not, Bool.false_eq_true, not_false_eq_true, not_true_eq_false, if_true, if_false, ↓reduceIte, eq_self, Option.bind_some, Bool.true_and, Bool.false_and, Bool.and_true, Bool.and_false, nI_add, nI_subN, nI_clamp, gdF, gdF2, gdP, gdP2, zI_cl, zI_s, Lm1, nI_n0, zI_n0, leF, or_false, false_or, or_self, r13, h3, h2]
        exact ev_ret
theorem f247 {s : Nat} (hw : MW S.2.1 w) (ok : OkW b w) (hn : s < w.1 0 1) : Ev (fun n => F247 n (nI s) S) (b2i (decide (ltF w 13 s = 2)), S) := by
  have h13 := ok.1
  refine ev_succ (fun n => F247e0 n ..) ?_
  simp only [F247b0, L0]
  exact f247l hw ok 13 s (by omega) hn
end F247
theorem ct_or {P Q R : Nat → Bool} : ∀ m j, (∀ i, P i = true → Q i = true ∨ R i = true) → ctF P m j ≤ ctF Q m j + ctF R m j
  | 0, _, _ => Nat.zero_le _
  | m + 1, j, h => by
    have := ct_or m (j + 1) h
    rw [ctF_s, ctF_s, ctF_s]
    by_cases hp : P j = true
    · rw [if_pos hp]
      rcases h j hp with hq | hq
      · rw [if_pos hq]
        omega
      · rw [if_pos hq]
        omega
    · rw [if_neg hp]
      omega
theorem rp_up {w : AW} {f : Nat → Nat} {c : Nat} : aS (rp w f) 7 c 1 = rp w (upF f c) := by
  refine Prod.ext (funext (fun r => funext (fun i => ?_))) rfl
  show (if r = 7 ∧ i = c then 1 else if r = 7 then f i else w.1 r i) = if r = 7 then upF f c i else w.1 r i
  unfold upF
  by_cases e : r = 7
  · rw [if_pos e, if_pos e]
    by_cases e2 : i = c
    · rw [if_pos ⟨e, e2⟩, if_pos e2]
    · rw [if_neg (fun z => e2 z.2), if_neg e2]
  · rw [if_neg (fun z => e z.1), if_neg e, if_neg e]
section F246
variable {k0 : Nat} {A : AA} {S1 : mS} {W : Nat} {b : AB} {l : LW}
theorem DM_mesh {S : mS} {w : AW} {f : Nat → Nat} {c q : Nat} {a : Nat → Nat} (hc : c < b 0 0) (h16 : c < 16) (h0 : f c = 0) (hq : q < 13) (h : DM S S b l (rp w f)) (hm : MNw S.2.1 (rp w f) q a) : DM (m_sA (m_sA (m_sA S 8 q (nI c)) 9 q (nI 1)) 1 3 (nI (q + 1))) (m_sA (m_sA (m_sA S 8 q (nI c)) 9 q (nI 1)) 1 3 (nI (q + 1))) b l (rp w (upF f c)) := by
  obtain ⟨q1, hb, ⟨v0, v1, v2, v3, v4, v5⟩, ok, q5, q6⟩ := h
  refine ⟨MB_r q1 hb (fun k i hk => ?_), hb, ⟨?_, ?_, ?_, fun s hs => ?_, fun i hi => ?_, ?_⟩, ⟨ok.1, fun s hs => ?_, fun i hi => ?_, ok.2.2.2⟩, LM_fr q5 ?_ (fun k i _ _ => by simp (disch := omega) only [m_rA1, m_rA3, m_rAe, m_rAn, m_rAi, m_rI2, m_rIe, m_rIn, m_rL1, m_rL2, m_rLe, m_rLi, m_rLn]), FrM_rf⟩
  · by_cases e : k = 1
    · subst e
      simp (disch := omega) only [m_rA1, m_rA3, m_rAe, m_rAn, m_rAi, m_rI2, m_rIe, m_rIn, m_rL1, m_rL2, m_rLe, m_rLi, m_rLn]
    · simp (disch := omega) only [m_rA1, m_rA3, m_rAe, m_rAn, m_rAi, m_rI2, m_rIe, m_rIn, m_rL1, m_rL2, m_rLe, m_rLi, m_rLn]
  · simp (disch := omega) only [m_rA1, m_rA3, m_rAe, m_rAn, m_rAi, m_rI2, m_rIe, m_rIn, m_rL1, m_rL2, m_rLe, m_rLi, m_rLn]
    exact v0
  · simp (disch := omega) only [m_rA1, m_rA3, m_rAe, m_rAn, m_rAi, m_rI2, m_rIe, m_rIn, m_rL1, m_rL2, m_rLe, m_rLi, m_rLn]
    exact v1
  · simp (disch := omega) only [m_rA1, m_rA3, m_rAe, m_rAn, m_rAi, m_rI2, m_rIe, m_rIn, m_rL1, m_rL2, m_rLe, m_rLi, m_rLn]
    exact v2
  · simp (disch := omega) only [m_rA1, m_rA3, m_rAe, m_rAn, m_rAi, m_rI2, m_rIe, m_rIn, m_rL1, m_rL2, m_rLe, m_rLi, m_rLn]
    exact v3 s hs
  · simp (disch := omega) only [m_rA1, m_rA3, m_rAe, m_rAn, m_rAi, m_rI2, m_rIe, m_rIn, m_rL1, m_rL2, m_rLe, m_rLi, m_rLn]
    exact v4 i hi
  · rw [← rp_up]
    refine MN_add hm hq h16 (by rw [rp_7]; exact h0) (by decide) m_rAe (fun i => ?_) (fun i => ?_)
    · by_cases e : i = q
      · rw [if_pos e, e]
        simp (disch := omega) only [m_rA1, m_rA3, m_rAe, m_rAn, m_rAi, m_rI2, m_rIe, m_rIn, m_rL1, m_rL2, m_rLe, m_rLi, m_rLn]
      · rw [if_neg e]
        simp (disch := omega) only [m_rA1, m_rA3, m_rAe, m_rAn, m_rAi, m_rI2, m_rIe, m_rIn, m_rL1, m_rL2, m_rLe, m_rLi, m_rLn]
    · by_cases e : i = q
      · rw [if_pos e, e]
        simp (disch := omega) only [m_rA1, m_rA3, m_rAe, m_rAn, m_rAi, m_rI2, m_rIe, m_rIn, m_rL1, m_rL2, m_rLe, m_rLi, m_rLn]
      · rw [if_neg e]
        simp (disch := omega) only [m_rA1, m_rA3, m_rAe, m_rAn, m_rAi, m_rI2, m_rIe, m_rIn, m_rL1, m_rL2, m_rLe, m_rLi, m_rLn]
  · exact OkS_of (ok.2.1 s hs) (fun r h1 h5 => by rw [rp_n (by omega), rp_n (by omega)])
  · rw [rp_7]
    unfold upF
    by_cases e : i = c
    · rw [if_pos e, e]
      exact ⟨by decide, fun _ => hc⟩
    · have := ok.2.2.1 i hi
      rw [rp_7] at this
      rw [if_neg e]
      exact this
  · simp (disch := omega) only [m_rA1, m_rA3, m_rAe, m_rAn, m_rAi, m_rI2, m_rIe, m_rIn, m_rL1, m_rL2, m_rLe, m_rLi, m_rLn]
theorem f246e {S : mS} {w : AW} (ok : OkA k0 A) (h1 : RM A S1) (sv : Sv S1) (hd : Hd S1 S) (hW : W < 2 ^ 31) (hw : MW S.2.1 w) (okw : OkW b w) : ∀ (m s : Nat) (a : Bool), s + m = w.1 0 1 → Ep (fun n => F246f n 43 (nI W) (nI 0) (b2i a) (nI s) S) (fun z => z.1 = b2i (a && alF (fun s => !W.testBit s || decide (ltF w 13 s = 2)) m s) ∧ RM A z.2 ∧ Hd S1 z.2) := by
  have h13 := okw.1
  intro m
  induction m with
  | zero =>
    intro s a hs
    have e : w.1 0 1 ≤ s := by omega
    refine ep_succ (fun n => F246e43 n ..) ?_
    simp (disch := omega) only [F246b43, hw.1, L0, L1, L2, L3, L4, L5, L6, L7, L8, L9, L10, L11, L12, L13, L16, L20, L31, L32, L40, L48, L57, L59, L60, L61, L91, L93, L97, L99, L100, L102, L103, L114, L122, L255, L300, L400, L402, L999, L2280, L2500, L99999, L63, L1431655765, L858993459, L252645135, ic_ge, ic_gt, ic_le, ic_lt, ic_eq, ic_ne, if_lt, if_ge, if_gt, if_le, if_eq, if_ne, if_lt_zI, if_ge_zI, ic_ne_m1, ic_eq_m1, ic_nn_m1, ic_ee_m1, if_ne_b2i, if_eq_b2i, b2i_z, decide_eq_true_eq, decide_true, decide_false, Bool.not_eq_true, Bool.not_eq_true', Bool.not_true, Bool.not_false, decide_eq_false_iff_not, Bool.false_eq_true, not_false_eq_true, not_true_eq_false, if_true, if_false, ↓reduceIte, eq_self, Option.bind_some, Bool.true_and, Bool.false_and, Bool.and_true, Bool.and_false, nI_add, nI_subN, nI_clamp, gdF, gdF2, gdP, gdP2, zI_cl, zI_s, Lm1, nI_n0, zI_n0, leF, or_false, false_or, or_self, e]
    refine ep_bind (laysBack ok h1 sv hd) ?_
    rintro ⟨_, S2⟩ ⟨a1, a2⟩
    simp only [b2i_nr, decide_eq_true_eq, decide_true, decide_false, Bool.not_eq_true, Bool.not_eq_true', Bool.not_true, Bool.not_false, decide_eq_false_iff_not, Bool.false_eq_true, not_false_eq_true, not_true_eq_false, if_true, if_false, ↓reduceIte, eq_self, Option.bind_some, Bool.true_and, Bool.false_and, Bool.and_true, Bool.and_false]
    refine ep_ret ⟨?_, a1, a2⟩
    show b2i a = b2i (a && true)
    rw [Bool.and_true]
  | succ m ih =>
    intro s a hs
    have e : ¬ w.1 0 1 ≤ s := by omega
    refine ep_succ (fun n => F246e43 n ..) ?_
    unfold alF
    cases a with
    | false =>
      simp (disch := omega) only [F246b43, hw.1, L0, L1, L2, L3, L4, L5, L6, L7, L8, L9, L10, L11, L12, L13, L16, L20, L31, L32, L40, L48, L57, L59, L60, L61, L91, L93, L97, L99, L100, L102, L103, L114, L122, L255, L300, L400, L402, L999, L2280, L2500, L99999, L63, L1431655765, L858993459, L252645135, ic_ge, ic_gt, ic_le, ic_lt, ic_eq, ic_ne, if_lt, if_ge, if_gt, if_le, if_eq, if_ne, if_lt_zI, if_ge_zI, ic_ne_m1, ic_eq_m1, ic_nn_m1, ic_ee_m1, if_ne_b2i, if_eq_b2i, b2i_z, decide_eq_true_eq, decide_true, decide_false, Bool.not_eq_true, Bool.not_eq_true', Bool.not_true, Bool.not_false, decide_eq_false_iff_not, Bool.false_eq_true, not_false_eq_true, not_true_eq_false, if_true, if_false, ↓reduceIte, eq_self, Option.bind_some, Bool.true_and, Bool.false_and, Bool.and_true, Bool.and_false, nI_add, nI_subN, nI_clamp, gdF, gdF2, gdP, gdP2, zI_cl, zI_s, Lm1, nI_n0, zI_n0, leF, or_false, false_or, or_self, e]
      exact ih (s + 1) false (by omega)
    | true =>
      simp (disch := omega) only [F246b43, hw.1, L0, L1, L2, L3, L4, L5, L6, L7, L8, L9, L10, L11, L12, L13, L16, L20, L31, L32, L40, L48, L57, L59, L60, L61, L91, L93, L97, L99, L100, L102, L103, L114, L122, L255, L300, L400, L402, L999, L2280, L2500, L99999, L63, L1431655765, L858993459, L252645135, ic_ge, ic_gt, ic_le, ic_lt, ic_eq, ic_ne, if_lt, if_ge, if_gt, if_le, if_eq, if_ne, if_lt_zI, if_ge_zI, ic_ne_m1, ic_eq_m1, ic_nn_m1, ic_ee_m1, if_ne_b2i, if_eq_b2i, b2i_z, decide_eq_true_eq, decide_true, decide_false, Bool.not_eq_true, Bool.not_eq_true', Bool.not_true, Bool.not_false, decide_eq_false_iff_not, Bool.false_eq_true, not_false_eq_true, not_true_eq_false, if_true, if_false, ↓reduceIte, eq_self, Option.bind_some, Bool.true_and, Bool.false_and, Bool.and_true, Bool.and_false, nI_add, nI_subN, nI_clamp, gdF, gdF2, gdP, gdP2, zI_cl, zI_s, Lm1, nI_n0, zI_n0, leF, or_false, false_or, or_self, e]
      refine ep_bv (f199n hW (by omega)) ?_
      by_cases hb : W.testBit s = true
      · simp (disch := omega) only [hb, L0, L1, L2, L3, L4, L5, L6, L7, L8, L9, L10, L11, L12, L13, L16, L20, L31, L32, L40, L48, L57, L59, L60, L61, L91, L93, L97, L99, L100, L102, L103, L114, L122, L255, L300, L400, L402, L999, L2280, L2500, L99999, L63, L1431655765, L858993459, L252645135, ic_ge, ic_gt, ic_le, ic_lt, ic_eq, ic_ne, if_lt, if_ge, if_gt, if_le, if_eq, if_ne, if_lt_zI, if_ge_zI, ic_ne_m1, ic_eq_m1, ic_nn_m1, ic_ee_m1, if_ne_b2i, if_eq_b2i, b2i_z, decide_eq_true_eq, decide_true, decide_false, Bool.not_eq_true, Bool.not_eq_true', Bool.not_true, Bool.not_false, decide_eq_false_iff_not, Bool.false_eq_true, not_false_eq_true, not_true_eq_false, if_true, if_false, ↓reduceIte, eq_self, Option.bind_some, Bool.true_and, Bool.false_and, Bool.and_true, Bool.and_false, nI_add, nI_subN, nI_clamp, gdF, gdF2, gdP, gdP2, zI_cl, zI_s, Lm1, nI_n0, zI_n0, leF, or_false, false_or, or_self, Bool.false_or]
        refine ep_bv (f247 hw okw (by omega)) ?_
        by_cases h2 : ltF w 13 s = 2
        · simp (disch := omega) only [h2, L0, L1, L2, L3, L4, L5, L6, L7, L8, L9, L10, L11, L12, L13, L16, L20, L31, L32, L40, L48, L57, L59, L60, L61, L91, L93, L97, L99, L100, L102, L103, L114, L122, L255, L300, L400, L402, L999, L2280, L2500, L99999, L63, L1431655765, L858993459, L252645135, ic_ge, ic_gt, ic_le, ic_lt, ic_eq, ic_ne, if_lt, if_ge, if_gt, if_le, if_eq, if_ne, if_lt_zI, if_ge_zI, ic_ne_m1, ic_eq_m1, ic_nn_m1, ic_ee_m1, if_ne_b2i, if_eq_b2i, b2i_z, decide_eq_true_eq, decide_true, decide_false, Bool.not_eq_true, Bool.not_eq_true', Bool.not_true, Bool.not_false, decide_eq_false_iff_not, Bool.false_eq_true, not_false_eq_true, not_true_eq_false, if_true, if_false, ↓reduceIte, eq_self, Option.bind_some, Bool.true_and, Bool.false_and, Bool.and_true, Bool.and_false, nI_add, nI_subN, nI_clamp, gdF, gdF2, gdP, gdP2, zI_cl, zI_s, Lm1, nI_n0, zI_n0, leF, or_false, false_or, or_self]
          exact ih (s + 1) true (by omega)
        · simp (disch := omega) only [h2, L0, L1, L2, L3, L4, L5, L6, L7, L8, L9, L10, L11, L12, L13, L16, L20, L31, L32, L40, L48, L57, L59, L60, L61, L91, L93, L97, L99, L100, L102, L103, L114, L122, L255, L300, L400, L402, L999, L2280, L2500, L99999, L63, L1431655765, L858993459, L252645135, ic_ge, ic_gt, ic_le, ic_lt, ic_eq, ic_ne, if_lt, if_ge, if_gt, if_le, if_eq, if_ne, if_lt_zI, if_ge_zI, ic_ne_m1, ic_eq_m1, ic_nn_m1, ic_ee_m1, if_ne_b2i, if_eq_b2i, b2i_z, decide_eq_true_eq, decide_true, decide_false, Bool.not_eq_true, Bool.not_eq_true', Bool.not_true, Bool.not_false, decide_eq_false_iff_not, Bool.false_eq_true, not_false_eq_true, not_true_eq_false, if_true, if_false, ↓reduceIte, eq_self, Option.bind_some, Bool.true_and, Bool.false_and, Bool.and_true, Bool.and_false, nI_add, nI_subN, nI_clamp, gdF, gdF2, gdP, gdP2, zI_cl, zI_s, Lm1, nI_n0, zI_n0, leF, or_false, false_or, or_self]
          exact ih (s + 1) false (by omega)
      · have hb' := Bool.eq_false_iff.mpr hb
        simp (disch := omega) only [hb', L0, L1, L2, L3, L4, L5, L6, L7, L8, L9, L10, L11, L12, L13, L16, L20, L31, L32, L40, L48, L57, L59, L60, L61, L91, L93, L97, L99, L100, L102, L103, L114, L122, L255, L300, L400, L402, L999, L2280, L2500, L99999, L63, L1431655765, L858993459, L252645135, ic_ge, ic_gt, ic_le, ic_lt, ic_eq, ic_ne, if_lt, if_ge, if_gt, if_le, if_eq, if_ne, if_lt_zI, if_ge_zI, ic_ne_m1, ic_eq_m1, ic_nn_m1, ic_ee_m1, if_ne_b2i, if_eq_b2i, b2i_z, decide_eq_true_eq, decide_true, decide_false, Bool.not_eq_true, Bool.not_eq_true', Bool.not_true, Bool.not_false, decide_eq_false_iff_not, Bool.false_eq_true, not_false_eq_true, not_true_eq_false, if_true, if_false, ↓reduceIte, eq_self, Option.bind_some, Bool.true_and, Bool.false_and, Bool.and_true, Bool.and_false, nI_add, nI_subN, nI_clamp, gdF, gdF2, gdP, gdP2, zI_cl, zI_s, Lm1, nI_n0, zI_n0, leF, or_false, false_or, or_self, Bool.true_or]
        exact ih (s + 1) true (by omega)
theorem f246m {w : AW} {m : Nat} (ok : OkA k0 A) (hk0 : k0 < 512) (h1 : RM A S1) (sv : Sv S1) (hW : W < 2 ^ 31) (okw : OkW b w) (hday : w.1 0 0 < 900) (hm : m < 65536) (hsub : subP b w m) (h5 : ctF (fun c => !decide (w.1 7 c = 0)) 16 0 ≤ 5) (h3 : cnt m ≤ 3) : ∀ (k c : Nat) (S : mS), c + k = b 0 0 → DM S S b l (rp w (mF w m c)) → Hd S1 S → Ep (fun n => F246f n 2 (nI W) (nI m) (nI c) (nI 0) S) (fun z => z.1 = b2i (gets b l w W m) ∧ RM A z.2 ∧ Hd S1 z.2) := by
  intro k
  induction k with
  | zero =>
    intro c S hc hD hd
    have hb := hD.2.1
    have hb1 := hb.1
    have hc0 : S.2.1 1 0 = nI (b 0 0) := hD.1.1
    have e : b 0 0 ≤ c := by omega
    have hmf : rp w (mF w m c) = nwA w m := by
      rw [← mF_16 hm]
      congr 1
      funext i
      unfold mF
      by_cases hbi : m.testBit i = true
      · have := (hsub i hbi).1
        rw [if_pos ⟨by omega, hbi⟩, if_pos ⟨by omega, hbi⟩]
      · rw [if_neg (fun z => hbi z.2), if_neg (fun z => hbi z.2)]
    rw [hmf] at hD
    refine ep_succ (fun n => F246e2 n ..) ?_
    simp (disch := omega) only [F246b2, L0, L1, L2, L3, L4, L5, L6, L7, L8, L9, L10, L11, L12, L13, L16, L20, L31, L32, L40, L48, L57, L59, L60, L61, L91, L93, L97, L99, L100, L102, L103, L114, L122, L255, L300, L400, L402, L999, L2280, L2500, L99999, L63, L1431655765, L858993459, L252645135, ic_ge, ic_gt, ic_le, ic_lt, ic_eq, ic_ne, if_lt, if_ge, if_gt, if_le, if_eq, if_ne, if_lt_zI, if_ge_zI, ic_ne_m1, ic_eq_m1, ic_nn_m1, ic_ee_m1, if_ne_b2i, if_eq_b2i, b2i_z, decide_eq_true_eq, decide_true, decide_false, Bool.not_eq_true, Bool.not_eq_true', Bool.not_true, Bool.not_false, decide_eq_false_iff_not, Bool.false_eq_true, not_false_eq_true, not_true_eq_false, if_true, if_false, ↓reduceIte, eq_self, Option.bind_some, Bool.true_and, Bool.false_and, Bool.and_true, Bool.and_false, nI_add, nI_subN, nI_clamp, gdF, gdF2, gdP, gdP2, zI_cl, zI_s, Lm1, nI_n0, zI_n0, leF, or_false, false_or, or_self, hc0, e]
    refine ep_bind (f242 (m := 60) (by decide) (show (nwA w m).1 0 0 < 900 from hday) hD) ?_
    rintro ⟨_, S3⟩ h3
    have h3 : DM S S3 b l (dysA b l 60 (nwA w m)) := h3
    have ok60 := dys_Ok (l := l) hb 60 (nwA w m) hD.2.2.2.1
    have := f246e ok h1 sv (FrM_H hd h3.2.2.2.2.2) hW h3.2.2.1 h3.2.2.2.1 _ 0 true (Nat.zero_add _)
    exact this
  | succ k ih =>
    intro c S hc hD hd
    have hb := hD.2.1
    have hb1 := hb.1
    have hc0 : S.2.1 1 0 = nI (b 0 0) := hD.1.1
    have e : ¬ b 0 0 ≤ c := by omega
    have ig := fun S' => ih (c + 1) S' (by omega)
    rw [mF_s] at ig
    refine ep_succ (fun n => F246e2 n ..) ?_
    simp (disch := omega) only [F246b2, L0, L1, L2, L3, L4, L5, L6, L7, L8, L9, L10, L11, L12, L13, L16, L20, L31, L32, L40, L48, L57, L59, L60, L61, L91, L93, L97, L99, L100, L102, L103, L114, L122, L255, L300, L400, L402, L999, L2280, L2500, L99999, L63, L1431655765, L858993459, L252645135, ic_ge, ic_gt, ic_le, ic_lt, ic_eq, ic_ne, if_lt, if_ge, if_gt, if_le, if_eq, if_ne, if_lt_zI, if_ge_zI, ic_ne_m1, ic_eq_m1, ic_nn_m1, ic_ee_m1, if_ne_b2i, if_eq_b2i, b2i_z, decide_eq_true_eq, decide_true, decide_false, Bool.not_eq_true, Bool.not_eq_true', Bool.not_true, Bool.not_false, decide_eq_false_iff_not, Bool.false_eq_true, not_false_eq_true, not_true_eq_false, if_true, if_false, ↓reduceIte, eq_self, Option.bind_some, Bool.true_and, Bool.false_and, Bool.and_true, Bool.and_false, nI_add, nI_subN, nI_clamp, gdF, gdF2, gdP, gdP2, zI_cl, zI_s, Lm1, nI_n0, zI_n0, leF, or_false, false_or, or_self, hc0, e]
    refine ep_bv (f199n (by omega) (by omega)) ?_
    by_cases hbit : m.testBit c = true
    · rw [if_pos hbit] at ig
      obtain ⟨q, a, hmn⟩ := hD.2.2.1.2.2.2.2.2
      have hmn : MNw S.2.1 (rp w (mF w m c)) q a := hmn
      have hq : q < 13 := by
        have h6 := ct_or (P := fun c' => !decide ((rp w (mF w m c)).1 7 c' = 0)) (Q := fun c' => !decide (w.1 7 c' = 0)) (R := m.testBit) 16 0 (fun i hi => by
          by_cases hbi : m.testBit i = true
          · exact Or.inr hbi
          · refine Or.inl ?_
            rw [rp_7] at hi
            unfold mF at hi
            rw [if_neg (fun z => hbi z.2)] at hi
            exact hi)
        have h7 := hmn.2.2.1
        unfold cnt at h3
        omega
      have hf0 : mF w m c c = 0 := by
        unfold mF
        rw [if_neg (fun z => Nat.lt_irrefl _ z.1)]
        exact (hsub c hbit).2
      simp (disch := omega) only [L0, L1, L2, L3, L4, L5, L6, L7, L8, L9, L10, L11, L12, L13, L16, L20, L31, L32, L40, L48, L57, L59, L60, L61, L91, L93, L97, L99, L100, L102, L103, L114, L122, L255, L300, L400, L402, L999, L2280, L2500, L99999, L63, L1431655765, L858993459, L252645135, ic_ge, ic_gt, ic_le, ic_lt, ic_eq, ic_ne, if_lt, if_ge, if_gt, if_le, if_eq, if_ne, if_lt_zI, if_ge_zI, ic_ne_m1, ic_eq_m1, ic_nn_m1, ic_ee_m1, if_ne_b2i, if_eq_b2i, b2i_z, decide_eq_true_eq, decide_true, decide_false, Bool.not_eq_true, Bool.not_eq_true', Bool.not_true, Bool.not_false, decide_eq_false_iff_not, Bool.false_eq_true, not_false_eq_true, not_true_eq_false, if_true, if_false, ↓reduceIte, eq_self, Option.bind_some, Bool.true_and, Bool.false_and, Bool.and_true, Bool.and_false, nI_add, nI_subN, nI_clamp, gdF, gdF2, gdP, gdP2, zI_cl, zI_s, Lm1, nI_n0, zI_n0, leF, or_false, false_or, or_self, hbit]
      refine ep_bv (f237 hq hmn.2.1) ?_
      refine ig _ (DM_mesh (by omega) (by omega) hf0 hq hD hmn) (Hd_fr hd rfl (fun q' hq' => ?_))
      simp (disch := omega) only [m_rA1, m_rA3, m_rAe, m_rAn, m_rAi, m_rI2, m_rIe, m_rIn, m_rL1, m_rL2, m_rLe, m_rLi, m_rLn]
    · rw [if_neg hbit] at ig
      have hbit' := Bool.eq_false_iff.mpr hbit
      simp (disch := omega) only [L0, L1, L2, L3, L4, L5, L6, L7, L8, L9, L10, L11, L12, L13, L16, L20, L31, L32, L40, L48, L57, L59, L60, L61, L91, L93, L97, L99, L100, L102, L103, L114, L122, L255, L300, L400, L402, L999, L2280, L2500, L99999, L63, L1431655765, L858993459, L252645135, ic_ge, ic_gt, ic_le, ic_lt, ic_eq, ic_ne, if_lt, if_ge, if_gt, if_le, if_eq, if_ne, if_lt_zI, if_ge_zI, ic_ne_m1, ic_eq_m1, ic_nn_m1, ic_ee_m1, if_ne_b2i, if_eq_b2i, b2i_z, decide_eq_true_eq, decide_true, decide_false, Bool.not_eq_true, Bool.not_eq_true', Bool.not_true, Bool.not_false, decide_eq_false_iff_not, Bool.false_eq_true, not_false_eq_true, not_true_eq_false, if_true, if_false, ↓reduceIte, eq_self, Option.bind_some, Bool.true_and, Bool.false_and, Bool.and_true, Bool.and_false, nI_add, nI_subN, nI_clamp, gdF, gdF2, gdP, gdP2, zI_cl, zI_s, Lm1, nI_n0, zI_n0, leF, or_false, false_or, or_self, hbit']
      exact ig S hD hd
end F246
section F245
variable {k0 : Nat} {A : AA} {S1 : mS} {W v : Nat} {b : AB} {l : LW}
def flAns (v : Nat) (o : Option Nat) : Int32 := o.elim (-2) (fun m => if v = 0 then nI (cnt m) else nI m)
theorem fl_ex (b : AB) (l : LW) (w : AW) (W : Nat) : ∃ o, flS b l w W o := by
  by_cases h : ∃ m, m < 65536 ∧ subP b w m ∧ cnt m ≤ 3 ∧ gets b l w W m = true
  · have go : ∀ n m, cnt m * 65536 + m = n → m < 65536 → subP b w m → cnt m ≤ 3 → gets b l w W m = true → ∃ o, flS b l w W o := by
      intro n
      induction n using Nat.strongRecOn with
      | _ n ih =>
        intro m e m1 m2 m3 m4
        by_cases h2 : ∃ m', m' < 65536 ∧ subP b w m' ∧ (cnt m' < cnt m ∨ (cnt m' = cnt m ∧ m' < m)) ∧ gets b l w W m' = true
        · obtain ⟨m', a1, a2, a3, a4⟩ := h2
          exact ih (cnt m' * 65536 + m') (by omega) m' rfl a1 a2 (by omega) a4
        · exact ⟨some m, m1, m2, m3, m4, fun m' a1 a2 a3 => Bool.eq_false_iff.mpr (fun a4 => h2 ⟨m', a1, a2, a3, a4⟩)⟩
    obtain ⟨m, m1, m2, m3, m4⟩ := h
    exact go _ m rfl m1 m2 m3 m4
  · exact ⟨none, fun m m1 m2 m3 => Bool.eq_false_iff.mpr (fun m4 => h ⟨m, m1, m2, m3, m4⟩)⟩
def Jr (b : AB) (l : LW) (w : AW) (W k x : Nat) : Prop := ∀ m, m < 65536 → subP b w m → (cnt m < k ∨ (cnt m = k ∧ m < x)) → gets b l w W m = false
theorem fm_lt {w : AW} (hb : OkB b) : fmN b w < 65536 := bsN_lt (N := 16) hb.1
theorem sub_le {w : AW} {m : Nat} (h : subP b w m) : m ≤ fmN b w := by
  have h1 := nxz.mp (sub_is.mpr h)
  rw [h1]
  exact Nat.and_le_right
theorem f245s {k : Nat} (ok : OkA k0 A) (hk0 : k0 < 512) (h1 : RM A S1) (sv : Sv S1) (hW : W < 2 ^ 31) (hv : v ≤ 1) (hk : k ≤ 3) (next : ∀ S, RM A S → Hd S1 S → Jr A.2.2.1.1 (lawA A.2.1.2 A.2.2.1.2.2.2.1) A.2.2.1.2.1 W (k + 1) 0 → Ep (fun n => F245f n 84 (nI W) (nI v) (nI (fmN A.2.2.1.1 A.2.2.1.2.1)) (nI (k + 1)) (nI 0) S) (fun z => RM A z.2 ∧ ∃ o, flS A.2.2.1.1 (lawA A.2.1.2 A.2.2.1.2.2.2.1) A.2.2.1.2.1 W o ∧ z.1 = flAns v o)) : ∀ (d x : Nat) (S : mS), x + d = fmN A.2.2.1.1 A.2.2.1.2.1 + 1 → RM A S → Hd S1 S → Jr A.2.2.1.1 (lawA A.2.1.2 A.2.2.1.2.2.2.1) A.2.2.1.2.1 W k x → Ep (fun n => F245f n 93 (nI W) (nI v) (nI (fmN A.2.2.1.1 A.2.2.1.2.1)) (nI k) (nI x) S) (fun z => RM A z.2 ∧ ∃ o, flS A.2.2.1.1 (lawA A.2.1.2 A.2.2.1.2.2.2.1) A.2.2.1.2.1 W o ∧ z.1 = flAns v o) := by
  have hb := OkA_b ok
  have kw := OkA_w ok
  have hD := ok.2.2.2.1.2.2.1 A.2.2.1.2.1 (Or.inl rfl)
  have hday := hD.2.2.1
  have h5 := hD.2.2.2.2
  have hfm := fm_lt (w := A.2.2.1.2.1) hb
  intro d
  induction d with
  | zero =>
    intro x S hx hS hd hJ
    have e : fmN A.2.2.1.1 A.2.2.1.2.1 < x := by omega
    refine ep_succ (fun n => F245e93 n ..) ?_
    simp (disch := omega) only [F245b93, L0, L1, L2, L3, L4, L5, L6, L7, L8, L9, L10, L11, L12, L13, L16, L20, L31, L32, L40, L48, L57, L59, L60, L61, L91, L93, L97, L99, L100, L102, L103, L114, L122, L255, L300, L400, L402, L999, L2280, L2500, L99999, L63, L1431655765, L858993459, L252645135, ic_ge, ic_gt, ic_le, ic_lt, ic_eq, ic_ne, if_lt, if_ge, if_gt, if_le, if_eq, if_ne, if_lt_zI, if_ge_zI, ic_ne_m1, ic_eq_m1, ic_nn_m1, ic_ee_m1, if_ne_b2i, if_eq_b2i, b2i_z, decide_eq_true_eq, decide_true, decide_false, Bool.not_eq_true, Bool.not_eq_true', Bool.not_true, Bool.not_false, decide_eq_false_iff_not, Bool.false_eq_true, not_false_eq_true, not_true_eq_false, if_true, if_false, ↓reduceIte, eq_self, Option.bind_some, Bool.true_and, Bool.false_and, Bool.and_true, Bool.and_false, nI_add, nI_subN, nI_clamp, gdF, gdF2, gdP, gdP2, zI_cl, zI_s, Lm1, nI_n0, zI_n0, leF, or_false, false_or, or_self, e]
    refine next S hS hd (fun m m1 m2 m3 => hJ m m1 m2 ?_)
    have := sub_le m2
    omega
  | succ d ih =>
    intro x S hx hS hd hJ
    have e : ¬ fmN A.2.2.1.1 A.2.2.1.2.1 < x := by omega
    have skip : (subP A.2.2.1.1 A.2.2.1.2.1 x → cnt x = k → gets A.2.2.1.1 (lawA A.2.1.2 A.2.2.1.2.2.2.1) A.2.2.1.2.1 W x = false) → Jr A.2.2.1.1 (lawA A.2.1.2 A.2.2.1.2.2.2.1) A.2.2.1.2.1 W k (x + 1) := by
      intro h m m1 m2 m3
      by_cases em : m = x
      · subst em
        by_cases hc : cnt m = k
        · exact h m2 hc
        · exact hJ m m1 m2 (by omega)
      · exact hJ m m1 m2 (by omega)
    have hxl : x < 65536 := by omega
    have hxo : x ^^^ (x &&& fmN A.2.2.1.1 A.2.2.1.2.1) < 65536 := Nat.xor_lt_two_pow (n := 16) hxl (Nat.lt_of_le_of_lt Nat.and_le_left hxl)
    refine ep_succ (fun n => F245e93 n ..) ?_
    by_cases hsub : subP A.2.2.1.1 A.2.2.1.2.1 x
    · have hz := sub_is.mpr hsub
      simp (disch := omega) only [F245b93, L0, L1, L2, L3, L4, L5, L6, L7, L8, L9, L10, L11, L12, L13, L16, L20, L31, L32, L40, L48, L57, L59, L60, L61, L91, L93, L97, L99, L100, L102, L103, L114, L122, L255, L300, L400, L402, L999, L2280, L2500, L99999, L63, L1431655765, L858993459, L252645135, ic_ge, ic_gt, ic_le, ic_lt, ic_eq, ic_ne, if_lt, if_ge, if_gt, if_le, if_eq, if_ne, if_lt_zI, if_ge_zI, ic_ne_m1, ic_eq_m1, ic_nn_m1, ic_ee_m1, if_ne_b2i, if_eq_b2i, b2i_z, decide_eq_true_eq, decide_true, decide_false, Bool.not_eq_true, Bool.not_eq_true', Bool.not_true, Bool.not_false, decide_eq_false_iff_not, Bool.false_eq_true, not_false_eq_true, not_true_eq_false, if_true, if_false, ↓reduceIte, eq_self, Option.bind_some, Bool.true_and, Bool.false_and, Bool.and_true, Bool.and_false, nI_add, nI_subN, nI_clamp, gdF, gdF2, gdP, gdP2, zI_cl, zI_s, Lm1, nI_n0, zI_n0, leF, or_false, false_or, or_self, e, nI_dif, hz]
      have hcl : cnt x ≤ 16 := ctF_le _ 16 0
      refine ep_bv (f223n (v := x) hxl) ?_
      have hcx : ctF x.testBit 16 0 = cnt x := rfl
      rw [hcx]
      by_cases hc : cnt x = k
      · simp (disch := omega) only [L0, L1, L2, L3, L4, L5, L6, L7, L8, L9, L10, L11, L12, L13, L16, L20, L31, L32, L40, L48, L57, L59, L60, L61, L91, L93, L97, L99, L100, L102, L103, L114, L122, L255, L300, L400, L402, L999, L2280, L2500, L99999, L63, L1431655765, L858993459, L252645135, ic_ge, ic_gt, ic_le, ic_lt, ic_eq, ic_ne, if_lt, if_ge, if_gt, if_le, if_eq, if_ne, if_lt_zI, if_ge_zI, ic_ne_m1, ic_eq_m1, ic_nn_m1, ic_ee_m1, if_ne_b2i, if_eq_b2i, b2i_z, decide_eq_true_eq, decide_true, decide_false, Bool.not_eq_true, Bool.not_eq_true', Bool.not_true, Bool.not_false, decide_eq_false_iff_not, Bool.false_eq_true, not_false_eq_true, not_true_eq_false, if_true, if_false, ↓reduceIte, eq_self, Option.bind_some, Bool.true_and, Bool.false_and, Bool.and_true, Bool.and_false, nI_add, nI_subN, nI_clamp, gdF, gdF2, gdP, gdP2, zI_cl, zI_s, Lm1, nI_n0, zI_n0, leF, or_false, false_or, or_self, hc]
        have g6 : Ep (fun n => F246 n (nI W) (nI x) S) (fun z => z.1 = b2i (gets A.2.2.1.1 (lawA A.2.1.2 A.2.2.1.2.2.2.1) A.2.2.1.2.1 W x) ∧ RM A z.2 ∧ Hd S1 z.2) := by
          refine ep_succ (fun n => F246e0 n ..) ?_
          simp only [F246b0, L0]
          exact f246m ok hk0 h1 sv hW kw (by omega) hxl hsub h5 (by omega) _ 0 S (Nat.zero_add _) (by rw [mF_0]; exact DM_of ok hS) hd
        refine ep_bind g6 ?_
        · rintro ⟨z1, S2⟩ ⟨a1, a2, a3⟩
          have a1 : z1 = b2i (gets A.2.2.1.1 (lawA A.2.1.2 A.2.2.1.2.2.2.1) A.2.2.1.2.1 W x) := a1
          subst a1
          cases hg : gets A.2.2.1.1 (lawA A.2.1.2 A.2.2.1.2.2.2.1) A.2.2.1.2.1 W x with
          | false =>
            simp (disch := omega) only [L0, L1, L2, L3, L4, L5, L6, L7, L8, L9, L10, L11, L12, L13, L16, L20, L31, L32, L40, L48, L57, L59, L60, L61, L91, L93, L97, L99, L100, L102, L103, L114, L122, L255, L300, L400, L402, L999, L2280, L2500, L99999, L63, L1431655765, L858993459, L252645135, ic_ge, ic_gt, ic_le, ic_lt, ic_eq, ic_ne, if_lt, if_ge, if_gt, if_le, if_eq, if_ne, if_lt_zI, if_ge_zI, ic_ne_m1, ic_eq_m1, ic_nn_m1, ic_ee_m1, if_ne_b2i, if_eq_b2i, b2i_z, decide_eq_true_eq, decide_true, decide_false, Bool.not_eq_true, Bool.not_eq_true', Bool.not_true, Bool.not_false, decide_eq_false_iff_not, Bool.false_eq_true, not_false_eq_true, not_true_eq_false, if_true, if_false, ↓reduceIte, eq_self, Option.bind_some, Bool.true_and, Bool.false_and, Bool.and_true, Bool.and_false, nI_add, nI_subN, nI_clamp, gdF, gdF2, gdP, gdP2, zI_cl, zI_s, Lm1, nI_n0, zI_n0, leF, or_false, false_or, or_self]
            exact ih (x + 1) S2 (by omega) a2 a3 (skip (fun _ _ => hg))
          | true =>
            have fl : flS A.2.2.1.1 (lawA A.2.1.2 A.2.2.1.2.2.2.1) A.2.2.1.2.1 W (some x) := ⟨hxl, hsub, by omega, hg, fun m' a b c => hJ m' a b (by omega)⟩
            by_cases hv0 : v = 0
            · simp (disch := omega) only [L0, L1, L2, L3, L4, L5, L6, L7, L8, L9, L10, L11, L12, L13, L16, L20, L31, L32, L40, L48, L57, L59, L60, L61, L91, L93, L97, L99, L100, L102, L103, L114, L122, L255, L300, L400, L402, L999, L2280, L2500, L99999, L63, L1431655765, L858993459, L252645135, ic_ge, ic_gt, ic_le, ic_lt, ic_eq, ic_ne, if_lt, if_ge, if_gt, if_le, if_eq, if_ne, if_lt_zI, if_ge_zI, ic_ne_m1, ic_eq_m1, ic_nn_m1, ic_ee_m1, if_ne_b2i, if_eq_b2i, b2i_z, decide_eq_true_eq, decide_true, decide_false, Bool.not_eq_true, Bool.not_eq_true', Bool.not_true, Bool.not_false, decide_eq_false_iff_not, Bool.false_eq_true, not_false_eq_true, not_true_eq_false, if_true, if_false, ↓reduceIte, eq_self, Option.bind_some, Bool.true_and, Bool.false_and, Bool.and_true, Bool.and_false, nI_add, nI_subN, nI_clamp, gdF, gdF2, gdP, gdP2, zI_cl, zI_s, Lm1, nI_n0, zI_n0, leF, or_false, false_or, or_self, hv0]
              refine ep_ret ⟨a2, some x, fl, ?_⟩
              show nI k = nI (cnt x)
              rw [hc]
            · simp (disch := omega) only [L0, L1, L2, L3, L4, L5, L6, L7, L8, L9, L10, L11, L12, L13, L16, L20, L31, L32, L40, L48, L57, L59, L60, L61, L91, L93, L97, L99, L100, L102, L103, L114, L122, L255, L300, L400, L402, L999, L2280, L2500, L99999, L63, L1431655765, L858993459, L252645135, ic_ge, ic_gt, ic_le, ic_lt, ic_eq, ic_ne, if_lt, if_ge, if_gt, if_le, if_eq, if_ne, if_lt_zI, if_ge_zI, ic_ne_m1, ic_eq_m1, ic_nn_m1, ic_ee_m1, if_ne_b2i, if_eq_b2i, b2i_z, decide_eq_true_eq, decide_true, decide_false, Bool.not_eq_true, Bool.not_eq_true', Bool.not_true, Bool.not_false, decide_eq_false_iff_not, Bool.false_eq_true, not_false_eq_true, not_true_eq_false, if_true, if_false, ↓reduceIte, eq_self, Option.bind_some, Bool.true_and, Bool.false_and, Bool.and_true, Bool.and_false, nI_add, nI_subN, nI_clamp, gdF, gdF2, gdP, gdP2, zI_cl, zI_s, Lm1, nI_n0, zI_n0, leF, or_false, false_or, or_self, hv0]
              refine ep_ret ⟨a2, some x, fl, ?_⟩
              show nI x = if v = 0 then nI (cnt x) else nI x
              rw [if_neg hv0]
      · simp (disch := omega) only [L0, L1, L2, L3, L4, L5, L6, L7, L8, L9, L10, L11, L12, L13, L16, L20, L31, L32, L40, L48, L57, L59, L60, L61, L91, L93, L97, L99, L100, L102, L103, L114, L122, L255, L300, L400, L402, L999, L2280, L2500, L99999, L63, L1431655765, L858993459, L252645135, ic_ge, ic_gt, ic_le, ic_lt, ic_eq, ic_ne, if_lt, if_ge, if_gt, if_le, if_eq, if_ne, if_lt_zI, if_ge_zI, ic_ne_m1, ic_eq_m1, ic_nn_m1, ic_ee_m1, if_ne_b2i, if_eq_b2i, b2i_z, decide_eq_true_eq, decide_true, decide_false, Bool.not_eq_true, Bool.not_eq_true', Bool.not_true, Bool.not_false, decide_eq_false_iff_not, Bool.false_eq_true, not_false_eq_true, not_true_eq_false, if_true, if_false, ↓reduceIte, eq_self, Option.bind_some, Bool.true_and, Bool.false_and, Bool.and_true, Bool.and_false, nI_add, nI_subN, nI_clamp, gdF, gdF2, gdP, gdP2, zI_cl, zI_s, Lm1, nI_n0, zI_n0, leF, or_false, false_or, or_self, hc]
        exact ih (x + 1) S (by omega) hS hd (skip (fun _ h => absurd h hc))
    · have hz : ¬ x ^^^ (x &&& fmN A.2.2.1.1 A.2.2.1.2.1) = 0 := fun e => hsub (sub_is.mp e)
      simp (disch := omega) only [F245b93, L0, L1, L2, L3, L4, L5, L6, L7, L8, L9, L10, L11, L12, L13, L16, L20, L31, L32, L40, L48, L57, L59, L60, L61, L91, L93, L97, L99, L100, L102, L103, L114, L122, L255, L300, L400, L402, L999, L2280, L2500, L99999, L63, L1431655765, L858993459, L252645135, ic_ge, ic_gt, ic_le, ic_lt, ic_eq, ic_ne, if_lt, if_ge, if_gt, if_le, if_eq, if_ne, if_lt_zI, if_ge_zI, ic_ne_m1, ic_eq_m1, ic_nn_m1, ic_ee_m1, if_ne_b2i, if_eq_b2i, b2i_z, decide_eq_true_eq, decide_true, decide_false, Bool.not_eq_true, Bool.not_eq_true', Bool.not_true, Bool.not_false, decide_eq_false_iff_not, Bool.false_eq_true, not_false_eq_true, not_true_eq_false, if_true, if_false, ↓reduceIte, eq_self, Option.bind_some, Bool.true_and, Bool.false_and, Bool.and_true, Bool.and_false, nI_add, nI_subN, nI_clamp, gdF, gdF2, gdP, gdP2, zI_cl, zI_s, Lm1, nI_n0, zI_n0, leF, or_false, false_or, or_self, e, nI_dif, hz]
      exact ih (x + 1) S (by omega) hS hd (skip (fun h => absurd h hsub))
theorem f245k (ok : OkA k0 A) (hk0 : k0 < 512) (h1 : RM A S1) (sv : Sv S1) (hW : W < 2 ^ 31) (hv : v ≤ 1) : ∀ (d k : Nat) (S : mS), k + d = 4 → RM A S → Hd S1 S → Jr A.2.2.1.1 (lawA A.2.1.2 A.2.2.1.2.2.2.1) A.2.2.1.2.1 W k 0 → Ep (fun n => F245f n 84 (nI W) (nI v) (nI (fmN A.2.2.1.1 A.2.2.1.2.1)) (nI k) (nI 0) S) (fun z => RM A z.2 ∧ ∃ o, flS A.2.2.1.1 (lawA A.2.1.2 A.2.2.1.2.2.2.1) A.2.2.1.2.1 W o ∧ z.1 = flAns v o) := by
  intro d
  induction d with
  | zero =>
    intro k S hk hS hd hJ
    have e : 4 ≤ k := by omega
    refine ep_succ (fun n => F245e84 n ..) ?_
    simp (disch := omega) only [F245b84, L0, L1, L2, L3, L4, L5, L6, L7, L8, L9, L10, L11, L12, L13, L16, L20, L31, L32, L40, L48, L57, L59, L60, L61, L91, L93, L97, L99, L100, L102, L103, L114, L122, L255, L300, L400, L402, L999, L2280, L2500, L99999, L63, L1431655765, L858993459, L252645135, ic_ge, ic_gt, ic_le, ic_lt, ic_eq, ic_ne, if_lt, if_ge, if_gt, if_le, if_eq, if_ne, if_lt_zI, if_ge_zI, ic_ne_m1, ic_eq_m1, ic_nn_m1, ic_ee_m1, if_ne_b2i, if_eq_b2i, b2i_z, decide_eq_true_eq, decide_true, decide_false, Bool.not_eq_true, Bool.not_eq_true', Bool.not_true, Bool.not_false, decide_eq_false_iff_not, Bool.false_eq_true, not_false_eq_true, not_true_eq_false, if_true, if_false, ↓reduceIte, eq_self, Option.bind_some, Bool.true_and, Bool.false_and, Bool.and_true, Bool.and_false, nI_add, nI_subN, nI_clamp, gdF, gdF2, gdP, gdP2, zI_cl, zI_s, Lm1, nI_n0, zI_n0, leF, or_false, false_or, or_self, e]
    exact ep_ret ⟨hS, none, fun m m1 m2 m3 => hJ m m1 m2 (Or.inl (by omega)), rfl⟩
  | succ d ih =>
    intro k S hk hS hd hJ
    have e : ¬ 4 ≤ k := by omega
    refine ep_succ (fun n => F245e84 n ..) ?_
    simp (disch := omega) only [F245b84, L0, L1, L2, L3, L4, L5, L6, L7, L8, L9, L10, L11, L12, L13, L16, L20, L31, L32, L40, L48, L57, L59, L60, L61, L91, L93, L97, L99, L100, L102, L103, L114, L122, L255, L300, L400, L402, L999, L2280, L2500, L99999, L63, L1431655765, L858993459, L252645135, ic_ge, ic_gt, ic_le, ic_lt, ic_eq, ic_ne, if_lt, if_ge, if_gt, if_le, if_eq, if_ne, if_lt_zI, if_ge_zI, ic_ne_m1, ic_eq_m1, ic_nn_m1, ic_ee_m1, if_ne_b2i, if_eq_b2i, b2i_z, decide_eq_true_eq, decide_true, decide_false, Bool.not_eq_true, Bool.not_eq_true', Bool.not_true, Bool.not_false, decide_eq_false_iff_not, Bool.false_eq_true, not_false_eq_true, not_true_eq_false, if_true, if_false, ↓reduceIte, eq_self, Option.bind_some, Bool.true_and, Bool.false_and, Bool.and_true, Bool.and_false, nI_add, nI_subN, nI_clamp, gdF, gdF2, gdP, gdP2, zI_cl, zI_s, Lm1, nI_n0, zI_n0, leF, or_false, false_or, or_self, e]
    exact f245s ok hk0 h1 sv hW hv (by omega) (fun S' a b c => ih (k + 1) S' (by omega) a b c) _ 0 S (Nat.zero_add _) hS hd hJ
theorem f245a {S : mS} {Q : Int32 × mS → Prop} (ok : OkA k0 A) (hS : RM A S) (go : Ep (fun n => (F239 n S).bind (fun z12 => F245f n 84 (nI W) (nI v) (nI (fmN A.2.2.1.1 A.2.2.1.2.1)) (nI 0) (nI 0) z12.2)) Q) : ∀ (m c x : Nat), c + m = A.2.2.1.1 0 0 → bsF (fun c => decide (A.2.2.1.2.1.1 7 c = 0)) m c x = fmN A.2.2.1.1 A.2.2.1.2.1 → Ep (fun n => F245f n 39 (nI W) (nI v) (nI x) (nI c) (nI 0) S) Q := by
  have hb1 := (OkA_b ok).1
  have hc0 : S.2.1 1 0 = nI (A.2.2.1.1 0 0) := (MD_b hS).1
  intro m
  induction m with
  | zero =>
    intro c x hc hx
    have e : A.2.2.1.1 0 0 ≤ c := by omega
    have hx : x = fmN A.2.2.1.1 A.2.2.1.2.1 := hx
    subst hx
    refine ep_succ (fun n => F245e39 n ..) ?_
    simp (disch := omega) only [F245b39, L0, L1, L2, L3, L4, L5, L6, L7, L8, L9, L10, L11, L12, L13, L16, L20, L31, L32, L40, L48, L57, L59, L60, L61, L91, L93, L97, L99, L100, L102, L103, L114, L122, L255, L300, L400, L402, L999, L2280, L2500, L99999, L63, L1431655765, L858993459, L252645135, ic_ge, ic_gt, ic_le, ic_lt, ic_eq, ic_ne, if_lt, if_ge, if_gt, if_le, if_eq, if_ne, if_lt_zI, if_ge_zI, ic_ne_m1, ic_eq_m1, ic_nn_m1, ic_ee_m1, if_ne_b2i, if_eq_b2i, b2i_z, decide_eq_true_eq, decide_true, decide_false, Bool.not_eq_true, Bool.not_eq_true', Bool.not_true, Bool.not_false, decide_eq_false_iff_not, Bool.false_eq_true, not_false_eq_true, not_true_eq_false, if_true, if_false, ↓reduceIte, eq_self, Option.bind_some, Bool.true_and, Bool.false_and, Bool.and_true, Bool.and_false, nI_add, nI_subN, nI_clamp, gdF, gdF2, gdP, gdP2, zI_cl, zI_s, Lm1, nI_n0, zI_n0, leF, or_false, false_or, or_self, hc0, e]
    exact go
  | succ m ih =>
    intro c x hc hx
    have e : ¬ A.2.2.1.1 0 0 ≤ c := by omega
    obtain ⟨k, g1, g2, g3, _⟩ := f200 (S := S) (MD_w hS).2.2.2.2.2 (show c < 16 by omega)
    refine ep_succ (fun n => F245e39 n ..) ?_
    unfold bsF at hx
    simp (disch := omega) only [F245b39, L0, L1, L2, L3, L4, L5, L6, L7, L8, L9, L10, L11, L12, L13, L16, L20, L31, L32, L40, L48, L57, L59, L60, L61, L91, L93, L97, L99, L100, L102, L103, L114, L122, L255, L300, L400, L402, L999, L2280, L2500, L99999, L63, L1431655765, L858993459, L252645135, ic_ge, ic_gt, ic_le, ic_lt, ic_eq, ic_ne, if_lt, if_ge, if_gt, if_le, if_eq, if_ne, if_lt_zI, if_ge_zI, ic_ne_m1, ic_eq_m1, ic_nn_m1, ic_ee_m1, if_ne_b2i, if_eq_b2i, b2i_z, decide_eq_true_eq, decide_true, decide_false, Bool.not_eq_true, Bool.not_eq_true', Bool.not_true, Bool.not_false, decide_eq_false_iff_not, Bool.false_eq_true, not_false_eq_true, not_true_eq_false, if_true, if_false, ↓reduceIte, eq_self, Option.bind_some, Bool.true_and, Bool.false_and, Bool.and_true, Bool.and_false, nI_add, nI_subN, nI_clamp, gdF, gdF2, gdP, gdP2, zI_cl, zI_s, Lm1, nI_n0, zI_n0, leF, or_false, false_or, or_self, hc0, e]
    refine ep_bv g1 ?_
    by_cases h : A.2.2.1.2.1.1 7 c = 0
    · rw [decide_eq_true h, if_pos rfl] at hx
      have hk : k = 0 := g3.mpr h
      simp (disch := omega) only [L0, L1, L2, L3, L4, L5, L6, L7, L8, L9, L10, L11, L12, L13, L16, L20, L31, L32, L40, L48, L57, L59, L60, L61, L91, L93, L97, L99, L100, L102, L103, L114, L122, L255, L300, L400, L402, L999, L2280, L2500, L99999, L63, L1431655765, L858993459, L252645135, ic_ge, ic_gt, ic_le, ic_lt, ic_eq, ic_ne, if_lt, if_ge, if_gt, if_le, if_eq, if_ne, if_lt_zI, if_ge_zI, ic_ne_m1, ic_eq_m1, ic_nn_m1, ic_ee_m1, if_ne_b2i, if_eq_b2i, b2i_z, decide_eq_true_eq, decide_true, decide_false, Bool.not_eq_true, Bool.not_eq_true', Bool.not_true, Bool.not_false, decide_eq_false_iff_not, Bool.false_eq_true, not_false_eq_true, not_true_eq_false, if_true, if_false, ↓reduceIte, eq_self, Option.bind_some, Bool.true_and, Bool.false_and, Bool.and_true, Bool.and_false, nI_add, nI_subN, nI_clamp, gdF, gdF2, gdP, gdP2, zI_cl, zI_s, Lm1, nI_n0, zI_n0, leF, or_false, false_or, or_self, hk, nI_shl, nx_or]
      exact ih (c + 1) _ (by omega) hx
    · rw [decide_eq_false h, if_neg (by decide)] at hx
      have hk : ¬ k = 0 := fun z => h (g3.mp z)
      simp (disch := omega) only [L0, L1, L2, L3, L4, L5, L6, L7, L8, L9, L10, L11, L12, L13, L16, L20, L31, L32, L40, L48, L57, L59, L60, L61, L91, L93, L97, L99, L100, L102, L103, L114, L122, L255, L300, L400, L402, L999, L2280, L2500, L99999, L63, L1431655765, L858993459, L252645135, ic_ge, ic_gt, ic_le, ic_lt, ic_eq, ic_ne, if_lt, if_ge, if_gt, if_le, if_eq, if_ne, if_lt_zI, if_ge_zI, ic_ne_m1, ic_eq_m1, ic_nn_m1, ic_ee_m1, if_ne_b2i, if_eq_b2i, b2i_z, decide_eq_true_eq, decide_true, decide_false, Bool.not_eq_true, Bool.not_eq_true', Bool.not_true, Bool.not_false, decide_eq_false_iff_not, Bool.false_eq_true, not_false_eq_true, not_true_eq_false, if_true, if_false, ↓reduceIte, eq_self, Option.bind_some, Bool.true_and, Bool.false_and, Bool.and_true, Bool.and_false, nI_add, nI_subN, nI_clamp, gdF, gdF2, gdP, gdP2, zI_cl, zI_s, Lm1, nI_n0, zI_n0, leF, or_false, false_or, or_self, hk, nx_or, Nat.or_zero]
      exact ih (c + 1) _ (by omega) hx
end F245
