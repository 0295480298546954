/-! a day in the reference -/
def DM (S0 S : mS) (b : AB) (l : LW) (w : AW) : Prop := MB S.2.1 b ∧ OkB b ∧ MW S.2.1 w ∧ OkW b w ∧ LM S l ∧ FrM S0 S
theorem DM_step {S0 S S' : mS} {b : AB} {l : LW} {w w' : AW} (h : DM S0 S b l w) (c1 : MW S'.2.1 w') (c2 : FrM S S') (st : St b w w') : DM S0 S' b l w' := ⟨MB_fr h.1 c2, h.2.1, c1, st.2 h.2.2.2.1, LM_fr h.2.2.2.2.1 (c2.2 1 8 (by omega)) (fun k i _ _ => c2.2 k i (by omega)), FrM_tr h.2.2.2.2.2 c2⟩
theorem MW_rows {r r' : Nat → Nat → Int32} {w : AW} (h : MW r w) (e : ∀ k, k ≤ 15 → r' k = r k) : MW r' w := by
  obtain ⟨h0, h1, h2, h3, h4, h5⟩ := h
  refine ⟨by rw [e 1 (by omega)]; exact h0, by rw [e 1 (by omega)]; exact h1, by rw [e 1 (by omega)]; exact h2, ?_, ?_, ?_⟩
  · intro s hs
    rw [e 10 (by omega), e 11 (by omega), e 12 (by omega), e 13 (by omega), e 14 (by omega), e 15 (by omega)]
    exact h3 s hs
  · intro k hk
    rw [e 6 (by omega)]
    exact h4 k hk
  · exact MN_fr h5 (by rw [e 1 (by omega)]) (fun i => by rw [e 8 (by omega)]) (fun i => by rw [e 9 (by omega)]) (fun _ => rfl)
theorem f216 {S : mS} {s f h : Nat} {w : AW} (hw : MW S.2.1 w) (hs : s < w.1 0 1) (hn : w.1 0 1 ≤ 13) : Ep (fun n => F216 n (nI s) (nI f) (zI h) S) (fun z => MW z.2.2.1 (leaveA w s f h) ∧ FrM S z.2) := by
  refine ep_succ (fun n => F216e0 n ..) ?_
  simp (disch := omega) only [F216b0, L0, L1, L2, L3, L4, L5, L6, L7, L8, L9, L10, L11, L12, L13, L16, L20, L31, L32, L40, L48, L57, L59, L60, L61, L91, L93, L97, L99, L100, L102, L103, L114, L122, L255, L300, L400, L402, L999, L2280, L2500, L99999, L63, L1431655765, L858993459, L252645135, ic_ge, ic_gt, ic_le, ic_lt, ic_eq, ic_ne, if_lt, if_ge, if_gt, if_le, if_eq, if_ne, if_lt_zI, if_ge_zI, ic_ne_m1, ic_eq_m1, ic_nn_m1, ic_ee_m1, if_ne_b2i, if_eq_b2i, b2i_z, decide_eq_true_eq, decide_true, decide_false, Bool.not_eq_true, Bool.not_eq_true', Bool.not_true, Bool.not_false, decide_eq_false_iff_not, Bool.false_eq_true, not_false_eq_true, not_true_eq_false, if_true, if_false, ↓reduceIte, eq_self, Option.bind_some, Bool.true_and, Bool.false_and, Bool.and_true, Bool.and_false, nI_add, nI_subN, nI_clamp, gdF, gdF2, gdP, zI_cl, zI_s, Lm1, m_rA1, m_rA3, m_rAe, m_rAn, m_rAi, m_rI2, m_rIe, m_rIn, m_rL1, m_rL2, m_rLe, m_rLi, m_rLn]
  refine ep_ret ⟨?_, FrM_tr (FrM_tr (FrM_A (by omega)) (FrM_A (by omega))) (FrM_A (by omega))⟩
  obtain ⟨h0, h1, h2, h3, h4, h5⟩ := hw
  refine ⟨?_, ?_, ?_, ?_, ?_, ?_⟩
  · rw [leaveA_r (by omega)]
    simp (disch := omega) only [m_rA1, m_rA3, m_rAe, m_rAn, m_rAi, m_rI2, m_rIe, m_rIn, m_rL1, m_rL2, m_rLe, m_rLi, m_rLn]
    exact h0
  · rw [leaveA_r (by omega)]
    simp (disch := omega) only [m_rA1, m_rA3, m_rAe, m_rAn, m_rAi, m_rI2, m_rIe, m_rIn, m_rL1, m_rL2, m_rLe, m_rLi, m_rLn]
    exact h1
  · simp (disch := omega) only [m_rA1, m_rA3, m_rAe, m_rAn, m_rAi, m_rI2, m_rIe, m_rIn, m_rL1, m_rL2, m_rLe, m_rLi, m_rLn]
    exact h2
  · intro s' hs'
    rw [leaveA_r (by omega)] at hs'
    obtain ⟨r1, r2, r3, r4, r5⟩ := h3 s' hs'
    by_cases e : s' = s
    · subst e
      rw [leaveA_1, leaveA_r (r := 2) (by omega), leaveA_4, leaveA_5, leaveA_6, zI_s]
      simp (disch := omega) only [m_rA1, m_rA3, m_rAe, m_rAn, m_rAi, m_rI2, m_rIe, m_rIn, m_rL1, m_rL2, m_rLe, m_rLi, m_rLn]
      exact ⟨fun z => absurd rfl z, r2, trivial, trivial, h1⟩
    · rw [leaveA_o e, leaveA_o e, leaveA_o e, leaveA_o e, leaveA_o e, leaveA_o e]
      simp (disch := omega) only [m_rA1, m_rA3, m_rAe, m_rAn, m_rAi, m_rI2, m_rIe, m_rIn, m_rL1, m_rL2, m_rLe, m_rLi, m_rLn]
      exact ⟨r1, r2, r3, r4, r5⟩
  · intro k hk
    rw [leaveA_r (by omega)]
    simp (disch := omega) only [m_rA1, m_rA3, m_rAe, m_rAn, m_rAi, m_rI2, m_rIe, m_rIn, m_rL1, m_rL2, m_rLe, m_rLi, m_rLn]
    exact h4 k hk
  · exact MN_fr h5 (by simp (disch := omega) only [m_rA1, m_rA3, m_rAe, m_rAn, m_rAi, m_rI2, m_rIe, m_rIn, m_rL1, m_rL2, m_rLe, m_rLi, m_rLn]) (fun i => by simp (disch := omega) only [m_rA1, m_rA3, m_rAe, m_rAn, m_rAi, m_rI2, m_rIe, m_rIn, m_rL1, m_rL2, m_rLe, m_rLi, m_rLn]) (fun i => by simp (disch := omega) only [m_rA1, m_rA3, m_rAe, m_rAn, m_rAi, m_rI2, m_rIe, m_rIn, m_rL1, m_rL2, m_rLe, m_rLi, m_rLn]) (fun i => leaveA_r (by omega))
theorem f218 {S : mS} {b : AB} {m t : Nat} (hB : MB S.2.1 b) (hm : m < b 0 1) (hm6 : b 0 1 ≤ 6) (ht : t < 2 ^ 31) : Ev (fun n => F218 n (nI m) (nI t) S) (nI (if lenN t < 8 then t * 10 + b 5 m else t), S) := by
  refine ev_succ (fun n => F218e0 n ..) ?_
  have h5 := hB.2.2.2.2.1 m hm
  simp (disch := omega) only [F218b0, L0, L1, L2, L3, L4, L5, L6, L7, L8, L9, L10, L11, L12, L13, L16, L20, L31, L32, L40, L48, L57, L59, L60, L61, L91, L93, L97, L99, L100, L102, L103, L114, L122, L255, L300, L400, L402, L999, L2280, L2500, L99999, L63, L1431655765, L858993459, L252645135, ic_ge, ic_gt, ic_le, ic_lt, ic_eq, ic_ne, if_lt, if_ge, if_gt, if_le, if_eq, if_ne, if_lt_zI, if_ge_zI, ic_ne_m1, ic_eq_m1, ic_nn_m1, ic_ee_m1, if_ne_b2i, if_eq_b2i, b2i_z, decide_eq_true_eq, decide_true, decide_false, Bool.not_eq_true, Bool.not_eq_true', Bool.not_true, Bool.not_false, decide_eq_false_iff_not, Bool.false_eq_true, not_false_eq_true, not_true_eq_false, if_true, if_false, ↓reduceIte, eq_self, Option.bind_some, Bool.true_and, Bool.false_and, Bool.and_true, Bool.and_false, nI_add, nI_subN, nI_clamp, gdF, gdF2, gdP, zI_cl, zI_s, Lm1]
  refine ev_bind (f217 ht S) ?_
  have hl := lenN_le ht
  simp (disch := omega) only [L0, L1, L2, L3, L4, L5, L6, L7, L8, L9, L10, L11, L12, L13, L16, L20, L31, L32, L40, L48, L57, L59, L60, L61, L91, L93, L97, L99, L100, L102, L103, L114, L122, L255, L300, L400, L402, L999, L2280, L2500, L99999, L63, L1431655765, L858993459, L252645135, ic_ge, ic_gt, ic_le, ic_lt, ic_eq, ic_ne, if_lt, if_ge, if_gt, if_le, if_eq, if_ne, if_lt_zI, if_ge_zI, ic_ne_m1, ic_eq_m1, ic_nn_m1, ic_ee_m1, if_ne_b2i, if_eq_b2i, b2i_z, decide_eq_true_eq, decide_true, decide_false, Bool.not_eq_true, Bool.not_eq_true', Bool.not_true, Bool.not_false, decide_eq_false_iff_not, Bool.false_eq_true, not_false_eq_true, not_true_eq_false, if_true, if_false, ↓reduceIte, eq_self, Option.bind_some, Bool.true_and, Bool.false_and, Bool.and_true, Bool.and_false, nI_add, nI_subN, nI_clamp, gdF, gdF2, gdP, zI_cl, zI_s, Lm1, h5, nI_mul]
  by_cases h : lenN t < 8
  · have h' : ¬ 8 ≤ lenN t := by omega
    simp only [h, h', decide_eq_true_eq, decide_true, decide_false, Bool.not_eq_true, Bool.not_eq_true', Bool.not_true, Bool.not_false, decide_eq_false_iff_not, Bool.false_eq_true, not_false_eq_true, not_true_eq_false, if_true, if_false, ↓reduceIte, eq_self, Option.bind_some, Bool.true_and, Bool.false_and, Bool.and_true, Bool.and_false, Nat.mul_comm 10]
    exact ev_ret
  · have h' : 8 ≤ lenN t := by omega
    simp only [h, h', decide_eq_true_eq, decide_true, decide_false, Bool.not_eq_true, Bool.not_eq_true', Bool.not_true, Bool.not_false, decide_eq_false_iff_not, Bool.false_eq_true, not_false_eq_true, not_true_eq_false, if_true, if_false, ↓reduceIte, eq_self, Option.bind_some, Bool.true_and, Bool.false_and, Bool.and_true, Bool.and_false]
    exact ev_ret
theorem MW_mv {S : mS} {b : AB} {w : AW} {s c' : Nat} (hw : MW S.2.1 w) : MW (m_sA (m_sA S 10 s (nI c')) 12 s (nI (b 2 c'))).2.1 (aS (aS w 1 s (c' + 1)) 3 s (b 2 c')) := by
  obtain ⟨h0, h1, h2, h3, h4, h5⟩ := hw
  refine ⟨?_, ?_, ?_, ?_, ?_, ?_⟩
  · simp (disch := omega) only [m_rA1, m_rA3, m_rAe, m_rAn, m_rAi, m_rI2, m_rIe, m_rIn, m_rL1, m_rL2, m_rLe, m_rLi, m_rLn, aS_n]
    exact h0
  · simp (disch := omega) only [m_rA1, m_rA3, m_rAe, m_rAn, m_rAi, m_rI2, m_rIe, m_rIn, m_rL1, m_rL2, m_rLe, m_rLi, m_rLn, aS_n]
    exact h1
  · simp (disch := omega) only [m_rA1, m_rA3, m_rAe, m_rAn, m_rAi, m_rI2, m_rIe, m_rIn, m_rL1, m_rL2, m_rLe, m_rLi, m_rLn]
    exact h2
  · intro s' hs'
    have hs' : s' < w.1 0 1 := hs'
    obtain ⟨r1, r2, r3, r4, r5⟩ := h3 s' hs'
    by_cases e : s' = s
    · subst e
      simp (disch := omega) only [m_rA1, m_rA3, m_rAe, m_rAn, m_rAi, m_rI2, m_rIe, m_rIn, m_rL1, m_rL2, m_rLe, m_rLi, m_rLn, aS_n, aS_e, Nat.add_sub_cancel]
      exact ⟨fun _ => ⟨trivial, trivial⟩, r2, r3, r4, r5⟩
    · simp only [aS_r, e, and_false, if_false]
      simp (disch := omega) only [m_rA1, m_rA3, m_rAe, m_rAn, m_rAi, m_rI2, m_rIe, m_rIn, m_rL1, m_rL2, m_rLe, m_rLi, m_rLn]
      exact ⟨r1, r2, r3, r4, r5⟩
  · intro k hk
    simp (disch := omega) only [m_rA1, m_rA3, m_rAe, m_rAn, m_rAi, m_rI2, m_rIe, m_rIn, m_rL1, m_rL2, m_rLe, m_rLi, m_rLn, aS_n]
    exact h4 k hk
  · exact MN_fr h5 (by simp (disch := omega) only [m_rA1, m_rA3, m_rAe, m_rAn, m_rAi, m_rI2, m_rIe, m_rIn, m_rL1, m_rL2, m_rLe, m_rLi, m_rLn]) (fun i => by simp (disch := omega) only [m_rA1, m_rA3, m_rAe, m_rAn, m_rAi, m_rI2, m_rIe, m_rIn, m_rL1, m_rL2, m_rLe, m_rLi, m_rLn]) (fun i => by simp (disch := omega) only [m_rA1, m_rA3, m_rAe, m_rAn, m_rAi, m_rI2, m_rIe, m_rIn, m_rL1, m_rL2, m_rLe, m_rLi, m_rLn]) (fun i => by simp (disch := omega) only [aS_n])
theorem MW_pr {S : mS} {w : AW} {s m t p : Nat} (hw : MW S.2.1 w) : MW (m_sA (m_sA S 6 m (nI p)) 11 s (nI t)).2.1 (aS (aS w 2 s t) 8 m p) := by
  obtain ⟨h0, h1, h2, h3, h4, h5⟩ := hw
  refine ⟨?_, ?_, ?_, ?_, ?_, ?_⟩
  · simp (disch := omega) only [m_rA1, m_rA3, m_rAe, m_rAn, m_rAi, m_rI2, m_rIe, m_rIn, m_rL1, m_rL2, m_rLe, m_rLi, m_rLn, aS_n]
    exact h0
  · simp (disch := omega) only [m_rA1, m_rA3, m_rAe, m_rAn, m_rAi, m_rI2, m_rIe, m_rIn, m_rL1, m_rL2, m_rLe, m_rLi, m_rLn, aS_n]
    exact h1
  · simp (disch := omega) only [m_rA1, m_rA3, m_rAe, m_rAn, m_rAi, m_rI2, m_rIe, m_rIn, m_rL1, m_rL2, m_rLe, m_rLi, m_rLn]
    exact h2
  · intro s' hs'
    have hs' : s' < w.1 0 1 := hs'
    obtain ⟨r1, r2, r3, r4, r5⟩ := h3 s' hs'
    by_cases e : s' = s
    · subst e
      simp (disch := omega) only [m_rA1, m_rA3, m_rAe, m_rAn, m_rAi, m_rI2, m_rIe, m_rIn, m_rL1, m_rL2, m_rLe, m_rLi, m_rLn, aS_n, aS_e]
      exact ⟨r1, trivial, r3, r4, r5⟩
    · simp (disch := omega) only [m_rA1, m_rA3, m_rAe, m_rAn, m_rAi, m_rI2, m_rIe, m_rIn, m_rL1, m_rL2, m_rLe, m_rLi, m_rLn, aS_n, aS_i]
      exact ⟨r1, r2, r3, r4, r5⟩
  · intro k hk
    by_cases e : k = m
    · subst e
      simp (disch := omega) only [m_rA1, m_rA3, m_rAe, m_rAn, m_rAi, m_rI2, m_rIe, m_rIn, m_rL1, m_rL2, m_rLe, m_rLi, m_rLn, aS_e]
    · simp (disch := omega) only [m_rA1, m_rA3, m_rAe, m_rAn, m_rAi, m_rI2, m_rIe, m_rIn, m_rL1, m_rL2, m_rLe, m_rLi, m_rLn, aS_n, aS_i]
      exact h4 k hk
  · exact MN_fr h5 (by simp (disch := omega) only [m_rA1, m_rA3, m_rAe, m_rAn, m_rAi, m_rI2, m_rIe, m_rIn, m_rL1, m_rL2, m_rLe, m_rLi, m_rLn]) (fun i => by simp (disch := omega) only [m_rA1, m_rA3, m_rAe, m_rAn, m_rAi, m_rI2, m_rIe, m_rIn, m_rL1, m_rL2, m_rLe, m_rLi, m_rLn]) (fun i => by simp (disch := omega) only [m_rA1, m_rA3, m_rAe, m_rAn, m_rAi, m_rI2, m_rIe, m_rIn, m_rL1, m_rL2, m_rLe, m_rLi, m_rLn]) (fun i => by simp (disch := omega) only [aS_n])
theorem MW_id {r : Nat → Nat → Int32} {w w' : AW} (h : MW r w') (e : w'.2 = w.2) (e1 : ∀ k i, w'.1 k i = w.1 k i) : MW r w := by
  have : w' = w := Prod.ext (funext (fun k => funext (fun i => e1 k i))) e
  rw [← this]
  exact h
theorem f214 {S0 S : mS} {b : AB} {l : LW} {w : AW} {s : Nat} (hD : DM S0 S b l w) (hs : s < w.1 0 1) (hon : w.1 1 s ≠ 0) : Ep (fun n => F214 n (nI s) S) (fun z => DM S0 z.2 b l (driftA b s w)) := by
  refine ep_succ (fun n => F214e0 n ..) ?_
  have hD' := hD
  obtain ⟨hB, hb, hw, ok, hl, hf⟩ := hD
  have hn := ok.1
  have o := ok.2.1 s hs
  have hc16 := hb.1
  have h1 := o.2.2.2.1
  have st := driftA_St (w := w) (s := s) hb h1
  obtain ⟨c0, hc0⟩ : ∃ c0, w.1 1 s = c0 + 1 := ⟨w.1 1 s - 1, by omega⟩
  obtain ⟨r1, r2, r3, r4, r5⟩ := hw.2.2.2.1 s hs
  obtain ⟨r10, r12⟩ := r1 hon
  rw [hc0, Nat.add_sub_cancel] at r10
  obtain ⟨b1, b2, b3, b4⟩ := hb.2.2.2.1 c0 (by omega)
  have h9 := o.2.2.2.2.1
  have B1 := (hB.2.2.2.1 c0 (by omega)).1
  simp (maxSteps := 2000000) (disch := omega) only [F214b0, L0, L1, L2, L3, L4, L5, L6, L7, L8, L9, L10, L11, L12, L13, L16, L20, L31, L32, L40, L48, L57, L59, L60, L61, L91, L93, L97, L99, L100, L102, L103, L114, L122, L255, L300, L400, L402, L999, L2280, L2500, L99999, L63, L1431655765, L858993459, L252645135, ic_ge, ic_gt, ic_le, ic_lt, ic_eq, ic_ne, if_lt, if_ge, if_gt, if_le, if_eq, if_ne, if_lt_zI, if_ge_zI, ic_ne_m1, ic_eq_m1, ic_nn_m1, ic_ee_m1, if_ne_b2i, if_eq_b2i, b2i_z, decide_eq_true_eq, decide_true, decide_false, Bool.not_eq_true, Bool.not_eq_true', Bool.not_true, Bool.not_false, decide_eq_false_iff_not, Bool.false_eq_true, not_false_eq_true, not_true_eq_false, if_true, if_false, ↓reduceIte, eq_self, Option.bind_some, Bool.true_and, Bool.false_and, Bool.and_true, Bool.and_false, nI_add, nI_subN, nI_clamp, gdF, gdF2, gdP, zI_cl, zI_s, Lm1, r10]
  refine ep_bv (f215 hB hb hw (by omega)) ?_
  have hdr : driftA b s w = if isShA b w c0 = true then w else if w.1 3 s = 0 then (if b 1 c0 = 0 then leaveA w s 1 0 else moveA b w s (b 1 c0 - 1)) else aS w 3 s (w.1 3 s - 1) := by
    unfold driftA
    rw [if_neg hon, hc0, Nat.add_sub_cancel]
  rw [hdr] at st ⊢
  simp (maxSteps := 2000000) (disch := omega) only [L0, L1, L2, L3, L4, L5, L6, L7, L8, L9, L10, L11, L12, L13, L16, L20, L31, L32, L40, L48, L57, L59, L60, L61, L91, L93, L97, L99, L100, L102, L103, L114, L122, L255, L300, L400, L402, L999, L2280, L2500, L99999, L63, L1431655765, L858993459, L252645135, ic_ge, ic_gt, ic_le, ic_lt, ic_eq, ic_ne, if_lt, if_ge, if_gt, if_le, if_eq, if_ne, if_lt_zI, if_ge_zI, ic_ne_m1, ic_eq_m1, ic_nn_m1, ic_ee_m1, if_ne_b2i, if_eq_b2i, b2i_z, decide_eq_true_eq, decide_true, decide_false, Bool.not_eq_true, Bool.not_eq_true', Bool.not_true, Bool.not_false, decide_eq_false_iff_not, Bool.false_eq_true, not_false_eq_true, not_true_eq_false, if_true, if_false, ↓reduceIte, eq_self, Option.bind_some, Bool.true_and, Bool.false_and, Bool.and_true, Bool.and_false, nI_add, nI_subN, nI_clamp, gdF, gdF2, gdP, zI_cl, zI_s, Lm1, r10, r12, B1]
  by_cases hsh : isShA b w c0 = true
  · simp only [hsh, decide_eq_true_eq, decide_true, decide_false, Bool.not_eq_true, Bool.not_eq_true', Bool.not_true, Bool.not_false, decide_eq_false_iff_not, Bool.false_eq_true, not_false_eq_true, not_true_eq_false, if_true, if_false, ↓reduceIte, eq_self, Option.bind_some, Bool.true_and, Bool.false_and, Bool.and_true, Bool.and_false]
    exact ep_ret hD'
  · rw [if_neg hsh] at st ⊢
    simp only [hsh, decide_eq_true_eq, decide_true, decide_false, Bool.not_eq_true, Bool.not_eq_true', Bool.not_true, Bool.not_false, decide_eq_false_iff_not, Bool.false_eq_true, not_false_eq_true, not_true_eq_false, if_true, if_false, ↓reduceIte, eq_self, Option.bind_some, Bool.true_and, Bool.false_and, Bool.and_true, Bool.and_false]
    by_cases h3 : w.1 3 s = 0
    · rw [if_pos h3] at st ⊢
      simp only [h3, decide_eq_true_eq, decide_true, decide_false, Bool.not_eq_true, Bool.not_eq_true', Bool.not_true, Bool.not_false, decide_eq_false_iff_not, Bool.false_eq_true, not_false_eq_true, not_true_eq_false, if_true, if_false, ↓reduceIte, eq_self, Option.bind_some, Bool.true_and, Bool.false_and, Bool.and_true, Bool.and_false]
      by_cases hfl : b 1 c0 = 0
      · rw [if_pos hfl] at st ⊢
        simp only [hfl, decide_eq_true_eq, decide_true, decide_false, Bool.not_eq_true, Bool.not_eq_true', Bool.not_true, Bool.not_false, decide_eq_false_iff_not, Bool.false_eq_true, not_false_eq_true, not_true_eq_false, if_true, if_false, ↓reduceIte, eq_self, Option.bind_some, Bool.true_and, Bool.false_and, Bool.and_true, Bool.and_false]
        refine ep_bind (f216 (f := 1) (h := 0) hw hs hn) ?_
        rintro ⟨_, S1⟩ ⟨c1, c2⟩
        exact ep_ret (DM_step hD' c1 c2 st)
      · rw [if_neg hfl] at st ⊢
        obtain ⟨c', hc'⟩ : ∃ c', b 1 c0 = c' + 1 := ⟨b 1 c0 - 1, by omega⟩
        obtain ⟨d1, d2, d3, d4⟩ := hb.2.2.2.1 c' (by omega)
        have D2 := (hB.2.2.2.1 c' (by omega)).2
        rw [hc', Nat.add_sub_cancel] at st ⊢
        have hz : ¬ c' + 1 = 0 := by omega
        simp (disch := omega) only [hc', hz, L0, L1, L2, L3, L4, L5, L6, L7, L8, L9, L10, L11, L12, L13, L16, L20, L31, L32, L40, L48, L57, L59, L60, L61, L91, L93, L97, L99, L100, L102, L103, L114, L122, L255, L300, L400, L402, L999, L2280, L2500, L99999, L63, L1431655765, L858993459, L252645135, ic_ge, ic_gt, ic_le, ic_lt, ic_eq, ic_ne, if_lt, if_ge, if_gt, if_le, if_eq, if_ne, if_lt_zI, if_ge_zI, ic_ne_m1, ic_eq_m1, ic_nn_m1, ic_ee_m1, if_ne_b2i, if_eq_b2i, b2i_z, decide_eq_true_eq, decide_true, decide_false, Bool.not_eq_true, Bool.not_eq_true', Bool.not_true, Bool.not_false, decide_eq_false_iff_not, Bool.false_eq_true, not_false_eq_true, not_true_eq_false, if_true, if_false, ↓reduceIte, eq_self, Option.bind_some, Bool.true_and, Bool.false_and, Bool.and_true, Bool.and_false, nI_add, nI_subN, nI_clamp, gdF, gdF2, gdP, zI_cl, zI_s, Lm1, m_rA1, m_rA3, m_rAe, m_rAn, m_rAi, m_rI2, m_rIe, m_rIn, m_rL1, m_rL2, m_rLe, m_rLi, m_rLn, D2]
        have FA : FrM S (m_sA (m_sA S 10 s (nI c')) 12 s (nI (b 2 c'))) := FrM_tr (FrM_A (by omega)) (FrM_A (by omega))
        have hMv := MW_mv (b := b) (s := s) (c' := c') hw
        refine ep_bv (f197 (MB_fr hB FA) hb (by omega)) ?_
        have hm6 := hb.2.1
        simp (disch := omega) only [L0, L1, L2, L3, L4, L5, L6, L7, L8, L9, L10, L11, L12, L13, L16, L20, L31, L32, L40, L48, L57, L59, L60, L61, L91, L93, L97, L99, L100, L102, L103, L114, L122, L255, L300, L400, L402, L999, L2280, L2500, L99999, L63, L1431655765, L858993459, L252645135, ic_ge, ic_gt, ic_le, ic_lt, ic_eq, ic_ne, if_lt, if_ge, if_gt, if_le, if_eq, if_ne, if_lt_zI, if_ge_zI, ic_ne_m1, ic_eq_m1, ic_nn_m1, ic_ee_m1, if_ne_b2i, if_eq_b2i, b2i_z, decide_eq_true_eq, decide_true, decide_false, Bool.not_eq_true, Bool.not_eq_true', Bool.not_true, Bool.not_false, decide_eq_false_iff_not, Bool.false_eq_true, not_false_eq_true, not_true_eq_false, if_true, if_false, ↓reduceIte, eq_self, Option.bind_some, Bool.true_and, Bool.false_and, Bool.and_true, Bool.and_false, nI_add, nI_subN, nI_clamp, gdF, gdF2, gdP, zI_cl, zI_s, Lm1]
        by_cases hmi : b 3 c' = 0
        · have hmv : moveA b w s c' = aS (aS w 1 s (c' + 1)) 3 s (b 2 c') := if_neg (fun z => z.1 hmi)
          rw [hmv] at st ⊢
          simp only [hmi, decide_eq_true_eq, decide_true, decide_false, Bool.not_eq_true, Bool.not_eq_true', Bool.not_true, Bool.not_false, decide_eq_false_iff_not, Bool.false_eq_true, not_false_eq_true, not_true_eq_false, if_true, if_false, ↓reduceIte, eq_self, Option.bind_some, Bool.true_and, Bool.false_and, Bool.and_true, Bool.and_false]
          exact ep_ret (DM_step hD' hMv FA st)
        · obtain ⟨m, hm⟩ : ∃ m, b 3 c' = m + 1 := ⟨b 3 c' - 1, by omega⟩
          have hz : ¬ m + 1 = 0 := by omega
          have ht := isTx_lt o.1
          have h6 := hw.2.2.2.2.1 m (by omega)
          have MB2 := MB_fr hB FA
          have FB : ∀ x, FrM (m_sA (m_sA S 10 s (nI c')) 12 s (nI (b 2 c'))) (m_sA (m_sA (m_sA S 10 s (nI c')) 12 s (nI (b 2 c'))) 6 m x) := fun x => FrM_A (by omega)
          simp (disch := omega) only [hm, hz, Nat.add_sub_cancel, L0, L1, L2, L3, L4, L5, L6, L7, L8, L9, L10, L11, L12, L13, L16, L20, L31, L32, L40, L48, L57, L59, L60, L61, L91, L93, L97, L99, L100, L102, L103, L114, L122, L255, L300, L400, L402, L999, L2280, L2500, L99999, L63, L1431655765, L858993459, L252645135, ic_ge, ic_gt, ic_le, ic_lt, ic_eq, ic_ne, if_lt, if_ge, if_gt, if_le, if_eq, if_ne, if_lt_zI, if_ge_zI, ic_ne_m1, ic_eq_m1, ic_nn_m1, ic_ee_m1, if_ne_b2i, if_eq_b2i, b2i_z, decide_eq_true_eq, decide_true, decide_false, Bool.not_eq_true, Bool.not_eq_true', Bool.not_true, Bool.not_false, decide_eq_false_iff_not, Bool.false_eq_true, not_false_eq_true, not_true_eq_false, if_true, if_false, ↓reduceIte, eq_self, Option.bind_some, Bool.true_and, Bool.false_and, Bool.and_true, Bool.and_false, nI_add, nI_subN, nI_clamp, gdF, gdF2, gdP, zI_cl, zI_s, Lm1, m_rA1, m_rA3, m_rAe, m_rAn, m_rAi, m_rI2, m_rIe, m_rIn, m_rL1, m_rL2, m_rLe, m_rLi, m_rLn, r2, h6]
          refine ep_bv (f217 (r := w.1 2 s) (by omega) _) ?_
          have hl := lenN_le (r := w.1 2 s) (by omega)
          simp (disch := omega) only [L0, L1, L2, L3, L4, L5, L6, L7, L8, L9, L10, L11, L12, L13, L16, L20, L31, L32, L40, L48, L57, L59, L60, L61, L91, L93, L97, L99, L100, L102, L103, L114, L122, L255, L300, L400, L402, L999, L2280, L2500, L99999, L63, L1431655765, L858993459, L252645135, ic_ge, ic_gt, ic_le, ic_lt, ic_eq, ic_ne, if_lt, if_ge, if_gt, if_le, if_eq, if_ne, if_lt_zI, if_ge_zI, ic_ne_m1, ic_eq_m1, ic_nn_m1, ic_ee_m1, if_ne_b2i, if_eq_b2i, b2i_z, decide_eq_true_eq, decide_true, decide_false, Bool.not_eq_true, Bool.not_eq_true', Bool.not_true, Bool.not_false, decide_eq_false_iff_not, Bool.false_eq_true, not_false_eq_true, not_true_eq_false, if_true, if_false, ↓reduceIte, eq_self, Option.bind_some, Bool.true_and, Bool.false_and, Bool.and_true, Bool.and_false, nI_add, nI_subN, nI_clamp, gdF, gdF2, gdP, zI_cl, zI_s, Lm1, m_rA1, m_rA3, m_rAe, m_rAn, m_rAi, m_rI2, m_rIe, m_rIn, m_rL1, m_rL2, m_rLe, m_rLi, m_rLn, r2]
          by_cases h8 : 8 ≤ lenN (w.1 2 s)
          · have h8' : ¬ lenN (w.1 2 s) < 8 := by omega
            simp only [h8, decide_eq_true_eq, decide_true, decide_false, Bool.not_eq_true, Bool.not_eq_true', Bool.not_true, Bool.not_false, decide_eq_false_iff_not, Bool.false_eq_true, not_false_eq_true, not_true_eq_false, if_true, if_false, ↓reduceIte, eq_self, Option.bind_some, Bool.true_and, Bool.false_and, Bool.and_true, Bool.and_false]
            refine ep_bv (f218 (MB_fr MB2 (FB _)) (by omega) hm6 (by omega)) ?_
            rw [if_neg h8']
            refine ep_ret (DM_step hD' ?_ (FrM_tr FA (FrM_tr (FB _) (FrM_A (by omega)))) st)
            have hmv : moveA b w s c' = aS (aS w 1 s (c' + 1)) 3 s (b 2 c') := if_neg (fun z => h8' z.2)
            rw [hmv]
            refine MW_id (MW_pr hMv) rfl (fun k i => ?_)
            rw [aS_r]
            by_cases e1 : k = 8 ∧ i = m
            · rw [if_pos e1, e1.1, e1.2, aS_n (by omega), aS_n (by omega)]
              rfl
            · rw [if_neg e1, aS_r]
              by_cases e2 : k = 2 ∧ i = s
              · rw [if_pos e2, e2.1, e2.2, aS_n (by omega), aS_n (by omega)]
              · rw [if_neg e2]
          · have h8' : lenN (w.1 2 s) < 8 := by omega
            simp only [h8, decide_eq_true_eq, decide_true, decide_false, Bool.not_eq_true, Bool.not_eq_true', Bool.not_true, Bool.not_false, decide_eq_false_iff_not, Bool.false_eq_true, not_false_eq_true, not_true_eq_false, if_true, if_false, ↓reduceIte, eq_self, Option.bind_some, Bool.true_and, Bool.false_and, Bool.and_true, Bool.and_false]
            refine ep_bv (f218 (MB_fr MB2 (FB _)) (by omega) hm6 (by omega)) ?_
            rw [if_pos h8']
            refine ep_ret (DM_step hD' ?_ (FrM_tr FA (FrM_tr (FB _) (FrM_A (by omega)))) st)
            have hmv : moveA b w s c' = aS (aS (aS (aS w 1 s (c' + 1)) 3 s (b 2 c')) 2 s (w.1 2 s * 10 + b 5 m)) 8 m (w.1 8 m + 1) := by
              unfold moveA
              rw [if_pos ⟨by omega, h8'⟩, hm, Nat.add_sub_cancel]
            rw [hmv]
            exact MW_pr hMv
    · rw [if_neg h3] at st ⊢
      simp only [h3, decide_eq_true_eq, decide_true, decide_false, Bool.not_eq_true, Bool.not_eq_true', Bool.not_true, Bool.not_false, decide_eq_false_iff_not, Bool.false_eq_true, not_false_eq_true, not_true_eq_false, if_true, if_false, ↓reduceIte, eq_self, Option.bind_some, Bool.true_and, Bool.false_and, Bool.and_true, Bool.and_false]
      refine ep_ret (DM_step hD' ?_ (FrM_A (by omega)) st)
      obtain ⟨h0, h1, h2, h3', h4, h5⟩ := hw
      refine ⟨?_, ?_, ?_, ?_, ?_, ?_⟩
      · simp (disch := omega) only [m_rA1, m_rA3, m_rAe, m_rAn, m_rAi, m_rI2, m_rIe, m_rIn, m_rL1, m_rL2, m_rLe, m_rLi, m_rLn, aS_n]
        exact h0
      · simp (disch := omega) only [m_rA1, m_rA3, m_rAe, m_rAn, m_rAi, m_rI2, m_rIe, m_rIn, m_rL1, m_rL2, m_rLe, m_rLi, m_rLn, aS_n]
        exact h1
      · simp (disch := omega) only [m_rA1, m_rA3, m_rAe, m_rAn, m_rAi, m_rI2, m_rIe, m_rIn, m_rL1, m_rL2, m_rLe, m_rLi, m_rLn]
        exact h2
      · intro s' hs'
        have hs' : s' < w.1 0 1 := hs'
        obtain ⟨q1, q2, q3, q4, q5⟩ := h3' s' hs'
        by_cases e : s' = s
        · subst e
          simp (disch := omega) only [m_rA1, m_rA3, m_rAe, m_rAn, m_rAi, m_rI2, m_rIe, m_rIn, m_rL1, m_rL2, m_rLe, m_rLi, m_rLn, aS_n, aS_e]
          exact ⟨fun h => ⟨(q1 h).1, trivial⟩, q2, q3, q4, q5⟩
        · simp (disch := omega) only [m_rA1, m_rA3, m_rAe, m_rAn, m_rAi, m_rI2, m_rIe, m_rIn, m_rL1, m_rL2, m_rLe, m_rLi, m_rLn, aS_n, aS_i]
          exact ⟨q1, q2, q3, q4, q5⟩
      · intro k hk
        simp (disch := omega) only [m_rA1, m_rA3, m_rAe, m_rAn, m_rAi, m_rI2, m_rIe, m_rIn, m_rL1, m_rL2, m_rLe, m_rLi, m_rLn, aS_n]
        exact h4 k hk
      · exact MN_fr h5 (by simp (disch := omega) only [m_rA1, m_rA3, m_rAe, m_rAn, m_rAi, m_rI2, m_rIe, m_rIn, m_rL1, m_rL2, m_rLe, m_rLi, m_rLn]) (fun i => by simp (disch := omega) only [m_rA1, m_rA3, m_rAe, m_rAn, m_rAi, m_rI2, m_rIe, m_rIn, m_rL1, m_rL2, m_rLe, m_rLi, m_rLn]) (fun i => by simp (disch := omega) only [m_rA1, m_rA3, m_rAe, m_rAn, m_rAi, m_rI2, m_rIe, m_rIn, m_rL1, m_rL2, m_rLe, m_rLi, m_rLn]) (fun i => by simp (disch := omega) only [aS_n])
/-- only rows of longs differ -/
def LgM (S S' : mS) : Prop := S'.1 = S.1 ∧ S'.2.1 = S.2.1
theorem DM_Lg {S0 S S' : mS} {b : AB} {l : LW} {w : AW} (h : DM S0 S b l w) (g : LgM S S') : DM S0 S' b l w := DM_step h (by rw [g.2]; exact h.2.2.1) ⟨g.1, fun k i _ => by rw [g.2]⟩ St_rf
theorem bitF_n {v : Nat} (hv : v < 65536) : bitF (nI v) 16 0 0 = nI (ctF v.testBit 16 0) := by
  have := bitF_ct (a := v) (by omega) 16 0 0 (by omega)
  rw [Nat.zero_add] at this
  exact this
theorem f223n {v : Nat} {S : mS} (hv : v < 65536) : Ev (fun n => F223 n (nI v) S) (nI (ctF v.testBit 16 0), S) := by
  have := f223 (a := nI v) S
  rw [bitF_n hv] at this
  exact this
theorem f199n {v s : Nat} {S : mS} (hv : v < 2 ^ 31) (hs : s < 32) : Ev (fun n => F199 n (nI v) (nI s) S) (b2i (v.testBit s), S) := by
  have := f199 (a := nI v) (k := nI s) S
  have e : decide ((nI v >>> (nI s &&& 31)) &&& 1 = 1) = v.testBit s := by
    have h := nI_bit (a := v) (s := s) hv hs
    have h' : (nI v >>> (nI s &&& 31)) &&& 1 = b2i (v.testBit s) := h
    rw [h']
    cases v.testBit s <;> rfl
  rw [e] at this
  exact this
theorem LM_ep {S S' : mS} {f : (Nat → Int64) → Bool} {x : Nat → Int64} (h : ∀ (S' : mS) (x : Nat → Int64), (∀ k i, 27 ≤ k → k ≤ 31 → S'.2.1 k i = S.2.1 k i) → S'.2.1 1 8 = S.2.1 1 8 → (∀ k, k < 11 → S'.2.2 33 k = x k) → ∃ y, Ev (fun n => F224 n S') (b2i (f x), (S'.1, S'.2.1, y))) (e1 : ∀ k i, 27 ≤ k → k ≤ 31 → S'.2.1 k i = S.2.1 k i) (e2 : S'.2.1 1 8 = S.2.1 1 8) (e3 : ∀ k, k < 11 → S'.2.2 33 k = x k) : Ep (fun n => F224 n S') (fun z => z.1 = b2i (f x) ∧ LgM S' z.2) := by
  obtain ⟨y, hy⟩ := h S' x e1 e2 e3
  exact ⟨_, hy, rfl, rfl, rfl⟩
theorem f220 {S0 S : mS} {b : AB} {l : LW} {w : AW} {a j : Nat} (hD : DM S0 S b l w) (hd : w.1 0 0 < 1000) (haj : a < j) (hj : j < w.1 0 1) (ha1 : w.1 1 a ≠ 0) : Ep (fun n => F220 n (nI a) (nI j) S) (fun z => z.1 = b2i (canA l w a j) ∧ LgM S z.2) := by
  refine ep_succ (fun n => F220e0 n ..) ?_
  have hD' := hD
  obtain ⟨hB, hb, hw, ok, hl, hf⟩ := hD
  have hn := ok.1
  have oa := ok.2.1 a (by omega)
  have oj := ok.2.1 j hj
  have la := isTx_len oa.1
  have lj := isTx_len oj.1
  have ta := isTx_lt oa.1
  have tj := isTx_lt oj.1
  have h16 := OkW_16 hb ok a (by omega)
  obtain ⟨c0, hc0⟩ : ∃ c0, w.1 1 a = c0 + 1 := ⟨w.1 1 a - 1, by omega⟩
  obtain ⟨r1, r2, r3, r4, r5⟩ := hw.2.2.2.1 a (by omega)
  obtain ⟨r10, r12⟩ := r1 ha1
  rw [hc0, Nat.add_sub_cancel] at r10
  obtain ⟨q1, q2, q3, q4, q5⟩ := hw.2.2.2.1 j hj
  have f9 := fstN_le (t := w.1 2 j) (by omega)
  unfold canA
  simp (disch := omega) only [F220b0, L0, L1, L2, L3, L4, L5, L6, L7, L8, L9, L10, L11, L12, L13, L16, L20, L31, L32, L40, L48, L57, L59, L60, L61, L91, L93, L97, L99, L100, L102, L103, L114, L122, L255, L300, L400, L402, L999, L2280, L2500, L99999, L63, L1431655765, L858993459, L252645135, ic_ge, ic_gt, ic_le, ic_lt, ic_eq, ic_ne, if_lt, if_ge, if_gt, if_le, if_eq, if_ne, if_lt_zI, if_ge_zI, ic_ne_m1, ic_eq_m1, ic_nn_m1, ic_ee_m1, if_ne_b2i, if_eq_b2i, b2i_z, decide_eq_true_eq, decide_true, decide_false, Bool.not_eq_true, Bool.not_eq_true', Bool.not_true, Bool.not_false, decide_eq_false_iff_not, Bool.false_eq_true, not_false_eq_true, not_true_eq_false, if_true, if_false, ↓reduceIte, eq_self, Option.bind_some, Bool.true_and, Bool.false_and, Bool.and_true, Bool.and_false, nI_add, nI_subN, nI_clamp, gdF, gdF2, gdP, zI_cl, zI_s, Lm1, r2]
  refine ep_bv (f217 (by omega) S) ?_
  simp (disch := omega) only [L0, L1, L2, L3, L4, L5, L6, L7, L8, L9, L10, L11, L12, L13, L16, L20, L31, L32, L40, L48, L57, L59, L60, L61, L91, L93, L97, L99, L100, L102, L103, L114, L122, L255, L300, L400, L402, L999, L2280, L2500, L99999, L63, L1431655765, L858993459, L252645135, ic_ge, ic_gt, ic_le, ic_lt, ic_eq, ic_ne, if_lt, if_ge, if_gt, if_le, if_eq, if_ne, if_lt_zI, if_ge_zI, ic_ne_m1, ic_eq_m1, ic_nn_m1, ic_ee_m1, if_ne_b2i, if_eq_b2i, b2i_z, decide_eq_true_eq, decide_true, decide_false, Bool.not_eq_true, Bool.not_eq_true', Bool.not_true, Bool.not_false, decide_eq_false_iff_not, Bool.false_eq_true, not_false_eq_true, not_true_eq_false, if_true, if_false, ↓reduceIte, eq_self, Option.bind_some, Bool.true_and, Bool.false_and, Bool.and_true, Bool.and_false, nI_add, nI_subN, nI_clamp, gdF, gdF2, gdP, zI_cl, zI_s, Lm1, q2]
  refine ep_bv (f217 (by omega) S) ?_
  simp (disch := omega) only [L0, L1, L2, L3, L4, L5, L6, L7, L8, L9, L10, L11, L12, L13, L16, L20, L31, L32, L40, L48, L57, L59, L60, L61, L91, L93, L97, L99, L100, L102, L103, L114, L122, L255, L300, L400, L402, L999, L2280, L2500, L99999, L63, L1431655765, L858993459, L252645135, ic_ge, ic_gt, ic_le, ic_lt, ic_eq, ic_ne, if_lt, if_ge, if_gt, if_le, if_eq, if_ne, if_lt_zI, if_ge_zI, ic_ne_m1, ic_eq_m1, ic_nn_m1, ic_ee_m1, if_ne_b2i, if_eq_b2i, b2i_z, decide_eq_true_eq, decide_true, decide_false, Bool.not_eq_true, Bool.not_eq_true', Bool.not_true, Bool.not_false, decide_eq_false_iff_not, Bool.false_eq_true, not_false_eq_true, not_true_eq_false, if_true, if_false, ↓reduceIte, eq_self, Option.bind_some, Bool.true_and, Bool.false_and, Bool.and_true, Bool.and_false, nI_add, nI_subN, nI_clamp, gdF, gdF2, gdP, zI_cl, zI_s, Lm1]
  by_cases h8 : lenN (w.1 2 a) + lenN (w.1 2 j) ≤ 8
  · simp only [h8, decide_eq_true_eq, decide_true, decide_false, Bool.not_eq_true, Bool.not_eq_true', Bool.not_true, Bool.not_false, decide_eq_false_iff_not, Bool.false_eq_true, not_false_eq_true, not_true_eq_false, if_true, if_false, ↓reduceIte, eq_self, Option.bind_some, Bool.true_and, Bool.false_and, Bool.and_true, Bool.and_false]
    cases l with
    | none =>
      have h8' : S.2.1 1 8 = zI 0 := hl
      simp (disch := omega) only [h8', ic_ne_m1, L0, L1, L2, L3, L4, L5, L6, L7, L8, L9, L10, L11, L12, L13, L16, L20, L31, L32, L40, L48, L57, L59, L60, L61, L91, L93, L97, L99, L100, L102, L103, L114, L122, L255, L300, L400, L402, L999, L2280, L2500, L99999, L63, L1431655765, L858993459, L252645135, ic_ge, ic_gt, ic_le, ic_lt, ic_eq, ic_ne, if_lt, if_ge, if_gt, if_le, if_eq, if_ne, if_lt_zI, if_ge_zI, ic_ne_m1, ic_eq_m1, ic_nn_m1, ic_ee_m1, if_ne_b2i, if_eq_b2i, b2i_z, decide_eq_true_eq, decide_true, decide_false, Bool.not_eq_true, Bool.not_eq_true', Bool.not_true, Bool.not_false, decide_eq_false_iff_not, Bool.false_eq_true, not_false_eq_true, not_true_eq_false, if_true, if_false, ↓reduceIte, eq_self, Option.bind_some, Bool.true_and, Bool.false_and, Bool.and_true, Bool.and_false, nI_add, nI_subN, nI_clamp, gdF, gdF2, gdP, zI_cl, zI_s, Lm1, r2, q2, nI_p10, nI_r10]
      refine ep_bv (f221 (by omega) S) ?_
      simp (disch := omega) only [L0, L1, L2, L3, L4, L5, L6, L7, L8, L9, L10, L11, L12, L13, L16, L20, L31, L32, L40, L48, L57, L59, L60, L61, L91, L93, L97, L99, L100, L102, L103, L114, L122, L255, L300, L400, L402, L999, L2280, L2500, L99999, L63, L1431655765, L858993459, L252645135, ic_ge, ic_gt, ic_le, ic_lt, ic_eq, ic_ne, if_lt, if_ge, if_gt, if_le, if_eq, if_ne, if_lt_zI, if_ge_zI, ic_ne_m1, ic_eq_m1, ic_nn_m1, ic_ee_m1, if_ne_b2i, if_eq_b2i, b2i_z, decide_eq_true_eq, decide_true, decide_false, Bool.not_eq_true, Bool.not_eq_true', Bool.not_true, Bool.not_false, decide_eq_false_iff_not, Bool.false_eq_true, not_false_eq_true, not_true_eq_false, if_true, if_false, ↓reduceIte, eq_self, Option.bind_some, Bool.true_and, Bool.false_and, Bool.and_true, Bool.and_false, nI_add, nI_subN, nI_clamp, gdF, gdF2, gdP, zI_cl, zI_s, Lm1]
      by_cases he : w.1 2 a % 10 = fstN (w.1 2 j)
      · simp only [he, decide_eq_true_eq, decide_true, decide_false, Bool.not_eq_true, Bool.not_eq_true', Bool.not_true, Bool.not_false, decide_eq_false_iff_not, Bool.false_eq_true, not_false_eq_true, not_true_eq_false, if_true, if_false, ↓reduceIte, eq_self, Option.bind_some, Bool.true_and, Bool.false_and, Bool.and_true, Bool.and_false]
        exact ep_ret ⟨rfl, rfl, rfl⟩
      · simp only [he, decide_eq_true_eq, decide_true, decide_false, Bool.not_eq_true, Bool.not_eq_true', Bool.not_true, Bool.not_false, decide_eq_false_iff_not, Bool.false_eq_true, not_false_eq_true, not_true_eq_false, if_true, if_false, ↓reduceIte, eq_self, Option.bind_some, Bool.true_and, Bool.false_and, Bool.and_true, Bool.and_false]
        exact ep_ret ⟨rfl, rfl, rfl⟩
    | some f =>
      obtain ⟨⟨rr, hr6, hr⟩, hl⟩ := hl
      obtain ⟨v, hv, ev⟩ := letN_b (w.1 2 a) (isTx_iff.mp oa.1).2.2
      obtain ⟨u, hu, eu⟩ := letN_b (w.1 2 j) (isTx_iff.mp oj.1).2.2
      have ev' : letN (nI 0) (w.1 2 a) = nI v := ev
      have eu' : letN (nI 0) (w.1 2 j) = nI u := eu
      have huv : v &&& u < 65536 := Nat.lt_of_le_of_lt Nat.and_le_left (by omega)
      have hbs : bsN (fun s => decide (w.1 1 s = c0 + 1)) (w.1 0 1) < 65536 := bsN_lt (N := 16) (by omega)
      simp (disch := omega) only [hr, L0, L1, L2, L3, L4, L5, L6, L7, L8, L9, L10, L11, L12, L13, L16, L20, L31, L32, L40, L48, L57, L59, L60, L61, L91, L93, L97, L99, L100, L102, L103, L114, L122, L255, L300, L400, L402, L999, L2280, L2500, L99999, L63, L1431655765, L858993459, L252645135, ic_ge, ic_gt, ic_le, ic_lt, ic_eq, ic_ne, if_lt, if_ge, if_gt, if_le, if_eq, if_ne, if_lt_zI, if_ge_zI, ic_ne_m1, ic_eq_m1, ic_nn_m1, ic_ee_m1, if_ne_b2i, if_eq_b2i, b2i_z, decide_eq_true_eq, decide_true, decide_false, Bool.not_eq_true, Bool.not_eq_true', Bool.not_true, Bool.not_false, decide_eq_false_iff_not, Bool.false_eq_true, not_false_eq_true, not_true_eq_false, if_true, if_false, ↓reduceIte, eq_self, Option.bind_some, Bool.true_and, Bool.false_and, Bool.and_true, Bool.and_false, nI_add, nI_subN, nI_clamp, gdF, gdF2, gdP, zI_cl, zI_s, Lm1, r2]
      refine ep_bv (f217 (by omega) _) ?_
      simp (disch := omega) only [L0, L1, L2, L3, L4, L5, L6, L7, L8, L9, L10, L11, L12, L13, L16, L20, L31, L32, L40, L48, L57, L59, L60, L61, L91, L93, L97, L99, L100, L102, L103, L114, L122, L255, L300, L400, L402, L999, L2280, L2500, L99999, L63, L1431655765, L858993459, L252645135, ic_ge, ic_gt, ic_le, ic_lt, ic_eq, ic_ne, if_lt, if_ge, if_gt, if_le, if_eq, if_ne, if_lt_zI, if_ge_zI, ic_ne_m1, ic_eq_m1, ic_nn_m1, ic_ee_m1, if_ne_b2i, if_eq_b2i, b2i_z, decide_eq_true_eq, decide_true, decide_false, Bool.not_eq_true, Bool.not_eq_true', Bool.not_true, Bool.not_false, decide_eq_false_iff_not, Bool.false_eq_true, not_false_eq_true, not_true_eq_false, if_true, if_false, ↓reduceIte, eq_self, Option.bind_some, Bool.true_and, Bool.false_and, Bool.and_true, Bool.and_false, nI_add, nI_subN, nI_clamp, gdF, gdF2, gdP, zI_cl, zI_s, Lm1, m_rA1, m_rA3, m_rAe, m_rAn, m_rAi, m_rI2, m_rIe, m_rIn, m_rL1, m_rL2, m_rLe, m_rLi, m_rLn, q2]
      refine ep_bv (f217 (by omega) _) ?_
      simp (disch := omega) only [L0, L1, L2, L3, L4, L5, L6, L7, L8, L9, L10, L11, L12, L13, L16, L20, L31, L32, L40, L48, L57, L59, L60, L61, L91, L93, L97, L99, L100, L102, L103, L114, L122, L255, L300, L400, L402, L999, L2280, L2500, L99999, L63, L1431655765, L858993459, L252645135, ic_ge, ic_gt, ic_le, ic_lt, ic_eq, ic_ne, if_lt, if_ge, if_gt, if_le, if_eq, if_ne, if_lt_zI, if_ge_zI, ic_ne_m1, ic_eq_m1, ic_nn_m1, ic_ee_m1, if_ne_b2i, if_eq_b2i, b2i_z, decide_eq_true_eq, decide_true, decide_false, Bool.not_eq_true, Bool.not_eq_true', Bool.not_true, Bool.not_false, decide_eq_false_iff_not, Bool.false_eq_true, not_false_eq_true, not_true_eq_false, if_true, if_false, ↓reduceIte, eq_self, Option.bind_some, Bool.true_and, Bool.false_and, Bool.and_true, Bool.and_false, nI_add, nI_subN, nI_clamp, gdF, gdF2, gdP, zI_cl, zI_s, Lm1, m_rA1, m_rA3, m_rAe, m_rAn, m_rAi, m_rI2, m_rIe, m_rIn, m_rL1, m_rL2, m_rLe, m_rLi, m_rLn, r2, q2, nI_p10, nI_r10]
      refine ep_bv (f221 (by omega) _) ?_
      simp (disch := omega) only [L0, L1, L2, L3, L4, L5, L6, L7, L8, L9, L10, L11, L12, L13, L16, L20, L31, L32, L40, L48, L57, L59, L60, L61, L91, L93, L97, L99, L100, L102, L103, L114, L122, L255, L300, L400, L402, L999, L2280, L2500, L99999, L63, L1431655765, L858993459, L252645135, ic_ge, ic_gt, ic_le, ic_lt, ic_eq, ic_ne, if_lt, if_ge, if_gt, if_le, if_eq, if_ne, if_lt_zI, if_ge_zI, ic_ne_m1, ic_eq_m1, ic_nn_m1, ic_ee_m1, if_ne_b2i, if_eq_b2i, b2i_z, decide_eq_true_eq, decide_true, decide_false, Bool.not_eq_true, Bool.not_eq_true', Bool.not_true, Bool.not_false, decide_eq_false_iff_not, Bool.false_eq_true, not_false_eq_true, not_true_eq_false, if_true, if_false, ↓reduceIte, eq_self, Option.bind_some, Bool.true_and, Bool.false_and, Bool.and_true, Bool.and_false, nI_add, nI_subN, nI_clamp, gdF, gdF2, gdP, zI_cl, zI_s, Lm1, m_rA1, m_rA3, m_rAe, m_rAn, m_rAi, m_rI2, m_rIe, m_rIn, m_rL1, m_rL2, m_rLe, m_rLi, m_rLn, r2, q2]
      refine ep_bv (f222 (by omega) _) ?_
      simp (disch := omega) only [L0, L1, L2, L3, L4, L5, L6, L7, L8, L9, L10, L11, L12, L13, L16, L20, L31, L32, L40, L48, L57, L59, L60, L61, L91, L93, L97, L99, L100, L102, L103, L114, L122, L255, L300, L400, L402, L999, L2280, L2500, L99999, L63, L1431655765, L858993459, L252645135, ic_ge, ic_gt, ic_le, ic_lt, ic_eq, ic_ne, if_lt, if_ge, if_gt, if_le, if_eq, if_ne, if_lt_zI, if_ge_zI, ic_ne_m1, ic_eq_m1, ic_nn_m1, ic_ee_m1, if_ne_b2i, if_eq_b2i, b2i_z, decide_eq_true_eq, decide_true, decide_false, Bool.not_eq_true, Bool.not_eq_true', Bool.not_true, Bool.not_false, decide_eq_false_iff_not, Bool.false_eq_true, not_false_eq_true, not_true_eq_false, if_true, if_false, ↓reduceIte, eq_self, Option.bind_some, Bool.true_and, Bool.false_and, Bool.and_true, Bool.and_false, nI_add, nI_subN, nI_clamp, gdF, gdF2, gdP, zI_cl, zI_s, Lm1, m_rA1, m_rA3, m_rAe, m_rAn, m_rAi, m_rI2, m_rIe, m_rIn, m_rL1, m_rL2, m_rLe, m_rLi, m_rLn, r2, q2]
      refine ep_bv (f222 (by omega) _) ?_
      simp only [L0, ev', eu', nx_and]
      refine ep_bv (f223n huv) ?_
      rw [sam_v ev eu]
      simp (disch := omega) only [L0, L1, L2, L3, L4, L5, L6, L7, L8, L9, L10, L11, L12, L13, L16, L20, L31, L32, L40, L48, L57, L59, L60, L61, L91, L93, L97, L99, L100, L102, L103, L114, L122, L255, L300, L400, L402, L999, L2280, L2500, L99999, L63, L1431655765, L858993459, L252645135, ic_ge, ic_gt, ic_le, ic_lt, ic_eq, ic_ne, if_lt, if_ge, if_gt, if_le, if_eq, if_ne, if_lt_zI, if_ge_zI, ic_ne_m1, ic_eq_m1, ic_nn_m1, ic_ee_m1, if_ne_b2i, if_eq_b2i, b2i_z, decide_eq_true_eq, decide_true, decide_false, Bool.not_eq_true, Bool.not_eq_true', Bool.not_true, Bool.not_false, decide_eq_false_iff_not, Bool.false_eq_true, not_false_eq_true, not_true_eq_false, if_true, if_false, ↓reduceIte, eq_self, Option.bind_some, Bool.true_and, Bool.false_and, Bool.and_true, Bool.and_false, nI_add, nI_subN, nI_clamp, gdF, gdF2, gdP, zI_cl, zI_s, Lm1, m_rA1, m_rA3, m_rAe, m_rAn, m_rAi, m_rI2, m_rIe, m_rIn, m_rL1, m_rL2, m_rLe, m_rLi, m_rLn, r10, hw.2.1]
      refine ep_bv (f201 (b := b) (w := w) hb (MW_rows hw (fun k _ => rfl)) ok (by omega)) ?_
      refine ep_bv (f223n hbs) ?_
      rw [ct_bs (by omega)]
      have hmn : manyN w c0 ≤ w.1 0 1 := manyN_le
      have hmn' : ctF (fun s => decide (w.1 1 s = c0 + 1)) (w.1 0 1) 0 = manyN w c0 := rfl
      rw [hmn']
      have hsm : samN (w.1 2 a) (w.1 2 j) ≤ 16 := ctF_le _ _ _
      have h9 := oa.2.2.2.2.1
      simp (disch := omega) only [L0, L1, L2, L3, L4, L5, L6, L7, L8, L9, L10, L11, L12, L13, L16, L20, L31, L32, L40, L48, L57, L59, L60, L61, L91, L93, L97, L99, L100, L102, L103, L114, L122, L255, L300, L400, L402, L999, L2280, L2500, L99999, L63, L1431655765, L858993459, L252645135, ic_ge, ic_gt, ic_le, ic_lt, ic_eq, ic_ne, if_lt, if_ge, if_gt, if_le, if_eq, if_ne, if_lt_zI, if_ge_zI, ic_ne_m1, ic_eq_m1, ic_nn_m1, ic_ee_m1, if_ne_b2i, if_eq_b2i, b2i_z, decide_eq_true_eq, decide_true, decide_false, Bool.not_eq_true, Bool.not_eq_true', Bool.not_true, Bool.not_false, decide_eq_false_iff_not, Bool.false_eq_true, not_false_eq_true, not_true_eq_false, if_true, if_false, ↓reduceIte, eq_self, Option.bind_some, Bool.true_and, Bool.false_and, Bool.and_true, Bool.and_false, nI_add, nI_subN, nI_clamp, gdF, gdF2, gdP, zI_cl, zI_s, Lm1, m_rA1, m_rA3, m_rAe, m_rAn, m_rAi, m_rI2, m_rIe, m_rIn, m_rL1, m_rL2, m_rLe, m_rLi, m_rLn, r12, nI_l]
      refine ep_bind (LM_ep (x := askA w a j) hl (fun k i _ _ => rfl) rfl (fun k hk => ?_)) ?_
      · have hk' : k = 0 ∨ k = 1 ∨ k = 2 ∨ k = 3 ∨ k = 4 ∨ k = 5 ∨ k = 6 ∨ k = 7 ∨ k = 8 ∨ k = 9 ∨ k = 10 := by omega
        rcases hk' with rfl | rfl | rfl | rfl | rfl | rfl | rfl | rfl | rfl | rfl | rfl <;> simp (disch := omega) only [m_rA1, m_rA3, m_rAe, m_rAn, m_rAi, m_rI2, m_rIe, m_rIn, m_rL1, m_rL2, m_rLe, m_rLi, m_rLn] <;> unfold askA <;> simp only [hc0, Nat.add_sub_cancel] <;> rfl
      · rintro ⟨z1, S1⟩ ⟨e1, g1⟩
        have e1 : z1 = b2i (f (askA w a j)) := e1
        subst e1
        simp only [b2i_z, decide_eq_true_eq, decide_true, decide_false, Bool.not_eq_true, Bool.not_eq_true', Bool.not_true, Bool.not_false, decide_eq_false_iff_not, Bool.false_eq_true, not_false_eq_true, not_true_eq_false, if_true, if_false, ↓reduceIte, eq_self, Option.bind_some, Bool.true_and, Bool.false_and, Bool.and_true, Bool.and_false]
        exact ep_ret ⟨rfl, g1⟩
  · simp only [h8, decide_eq_true_eq, decide_true, decide_false, Bool.not_eq_true, Bool.not_eq_true', Bool.not_true, Bool.not_false, decide_eq_false_iff_not, Bool.false_eq_true, not_false_eq_true, not_true_eq_false, if_true, if_false, ↓reduceIte, eq_self, Option.bind_some, Bool.true_and, Bool.false_and, Bool.and_true, Bool.and_false]
    exact ep_ret ⟨rfl, rfl, rfl⟩
/-- what joinsIn comes to -/
def PM (S0 : mS) (b : AB) (l : LW) (w : AW) (o : Option (Nat × Nat)) (z : Int32 × mS) : Prop := match o with
  | none => z.1 = nI 0 ∧ DM S0 z.2 b l w
  | some p => z.1 = nI 1 ∧ DM S0 z.2 b l (joinA w p.1 p.2)
section F219
variable {S0 : mS} {b : AB} {l : LW} {w : AW} {c : Nat}
theorem f219i {a : Nat} (hd : w.1 0 0 < 1000) (ha1 : w.1 1 a = c + 1) (o : Option (Nat × Nat)) (K : ∀ S, DM S0 S b l w → Ep (fun n => F219f n 8 (nI 0) (nI (bsN (fun s => decide (w.1 1 s = c + 1)) (w.1 0 1))) (nI (a + 1)) (nI 0) S) (PM S0 b l w o)) : ∀ (m j : Nat) (S : mS), a < j → j + m = w.1 0 1 → DM S0 S b l w → Ep (fun n => F219f n 23 (nI 0) (nI (bsN (fun s => decide (w.1 1 s = c + 1)) (w.1 0 1))) (nI a) (nI j) S) (PM S0 b l w ((fdB l w c a m j).elim o (fun j => some (a, j)))) := by
  intro m
  induction m with
  | zero =>
    intro j S haj hj hD
    refine ep_succ (fun n => F219e23 n ..) ?_
    have hD' := hD
    obtain ⟨hB, hb, hw, ok, hl, hf⟩ := hD
    have hn := ok.1
    have e : w.1 0 1 ≤ j := by omega
    simp (disch := omega) only [F219b23, hw.1, L0, L1, L2, L3, L4, L5, L6, L7, L8, L9, L10, L11, L12, L13, L16, L20, L31, L32, L40, L48, L57, L59, L60, L61, L91, L93, L97, L99, L100, L102, L103, L114, L122, L255, L300, L400, L402, L999, L2280, L2500, L99999, L63, L1431655765, L858993459, L252645135, ic_ge, ic_gt, ic_le, ic_lt, ic_eq, ic_ne, if_lt, if_ge, if_gt, if_le, if_eq, if_ne, if_lt_zI, if_ge_zI, ic_ne_m1, ic_eq_m1, ic_nn_m1, ic_ee_m1, if_ne_b2i, if_eq_b2i, b2i_z, decide_eq_true_eq, decide_true, decide_false, Bool.not_eq_true, Bool.not_eq_true', Bool.not_true, Bool.not_false, decide_eq_false_iff_not, Bool.false_eq_true, not_false_eq_true, not_true_eq_false, if_true, if_false, ↓reduceIte, eq_self, Option.bind_some, Bool.true_and, Bool.false_and, Bool.and_true, Bool.and_false, nI_add, nI_subN, nI_clamp, gdF, gdF2, gdP, zI_cl, zI_s, Lm1, e]
    exact K S hD'
  | succ m ih =>
    intro j S haj hj hD
    refine ep_succ (fun n => F219e23 n ..) ?_
    have hD' := hD
    obtain ⟨hB, hb, hw, ok, hl, hf⟩ := hD
    have hn := ok.1
    have e : ¬ w.1 0 1 ≤ j := by omega
    have hbs : bsN (fun s => decide (w.1 1 s = c + 1)) (w.1 0 1) < 65536 := bsN_lt (N := 16) (by omega)
    simp (disch := omega) only [F219b23, hw.1, L0, L1, L2, L3, L4, L5, L6, L7, L8, L9, L10, L11, L12, L13, L16, L20, L31, L32, L40, L48, L57, L59, L60, L61, L91, L93, L97, L99, L100, L102, L103, L114, L122, L255, L300, L400, L402, L999, L2280, L2500, L99999, L63, L1431655765, L858993459, L252645135, ic_ge, ic_gt, ic_le, ic_lt, ic_eq, ic_ne, if_lt, if_ge, if_gt, if_le, if_eq, if_ne, if_lt_zI, if_ge_zI, ic_ne_m1, ic_eq_m1, ic_nn_m1, ic_ee_m1, if_ne_b2i, if_eq_b2i, b2i_z, decide_eq_true_eq, decide_true, decide_false, Bool.not_eq_true, Bool.not_eq_true', Bool.not_true, Bool.not_false, decide_eq_false_iff_not, Bool.false_eq_true, not_false_eq_true, not_true_eq_false, if_true, if_false, ↓reduceIte, eq_self, Option.bind_some, Bool.true_and, Bool.false_and, Bool.and_true, Bool.and_false, nI_add, nI_subN, nI_clamp, gdF, gdF2, gdP, zI_cl, zI_s, Lm1, e]
    refine ep_bv (f199n (by omega) (by omega)) ?_
    have hla : a < w.1 0 1 := by omega
    rw [bsN_tb, ha1, decide_eq_true hla, decide_eq_true (rfl : c + 1 = c + 1)]
    simp only [if_eq_b2i, decide_eq_true_eq, decide_true, decide_false, Bool.not_eq_true, Bool.not_eq_true', Bool.not_true, Bool.not_false, decide_eq_false_iff_not, Bool.false_eq_true, not_false_eq_true, not_true_eq_false, if_true, if_false, ↓reduceIte, eq_self, Option.bind_some, Bool.true_and, Bool.false_and, Bool.and_true, Bool.and_false]
    refine ep_bv (f199n (by omega) (by omega)) ?_
    have hlj : j < w.1 0 1 := by omega
    rw [bsN_tb, decide_eq_true hlj]
    simp only [if_eq_b2i, decide_eq_true_eq, decide_true, decide_false, Bool.not_eq_true, Bool.not_eq_true', Bool.not_true, Bool.not_false, decide_eq_false_iff_not, Bool.false_eq_true, not_false_eq_true, not_true_eq_false, if_true, if_false, ↓reduceIte, eq_self, Option.bind_some, Bool.true_and, Bool.false_and, Bool.and_true, Bool.and_false]
    unfold fdB
    by_cases h1 : w.1 1 j = c + 1
    · simp only [h1, true_and, decide_eq_true_eq, decide_true, decide_false, Bool.not_eq_true, Bool.not_eq_true', Bool.not_true, Bool.not_false, decide_eq_false_iff_not, Bool.false_eq_true, not_false_eq_true, not_true_eq_false, if_true, if_false, ↓reduceIte, eq_self, Option.bind_some, Bool.true_and, Bool.false_and, Bool.and_true, Bool.and_false]
      refine ep_bind (f220 hD' hd haj hlj (by omega)) ?_
      rintro ⟨z1, S1⟩ ⟨e1, g1⟩
      have e1 : z1 = b2i (canA l w a j) := e1
      have g1 : LgM S S1 := g1
      subst e1
      have hD1 := DM_Lg hD' g1
      by_cases hca : canA l w a j = true
      · have hw1 := hD1.2.2.1
        have r2 : S1.2.1 11 a = nI (w.1 2 a) := (hw1.2.2.2.1 a hla).2.1
        have q2 : S1.2.1 11 j = nI (w.1 2 j) := (hw1.2.2.2.1 j hlj).2.1
        have ta := isTx_lt (ok.2.1 a hla).1
        have tj := isTx_lt (ok.2.1 j hlj).1
        have lj := isTx_len (ok.2.1 j hlj).1
        simp only [hca, if_eq_b2i, decide_eq_true_eq, decide_true, decide_false, Bool.not_eq_true, Bool.not_eq_true', Bool.not_true, Bool.not_false, decide_eq_false_iff_not, Bool.false_eq_true, not_false_eq_true, not_true_eq_false, if_true, if_false, ↓reduceIte, eq_self, Option.bind_some, Bool.true_and, Bool.false_and, Bool.and_true, Bool.and_false]
        rw [q2]
        refine ep_bv (f217 (r := w.1 2 j) (by omega) _) ?_
        simp only []
        refine ep_bv (f228 (by omega) _) ?_
        rw [tenF_1]
        simp (disch := omega) only [L0, L1, L2, L3, L4, L5, L6, L7, L8, L9, L10, L11, L12, L13, L16, L20, L31, L32, L40, L48, L57, L59, L60, L61, L91, L93, L97, L99, L100, L102, L103, L114, L122, L255, L300, L400, L402, L999, L2280, L2500, L99999, L63, L1431655765, L858993459, L252645135, ic_ge, ic_gt, ic_le, ic_lt, ic_eq, ic_ne, if_lt, if_ge, if_gt, if_le, if_eq, if_ne, if_lt_zI, if_ge_zI, ic_ne_m1, ic_eq_m1, ic_nn_m1, ic_ee_m1, if_ne_b2i, if_eq_b2i, b2i_z, decide_eq_true_eq, decide_true, decide_false, Bool.not_eq_true, Bool.not_eq_true', Bool.not_true, Bool.not_false, decide_eq_false_iff_not, Bool.false_eq_true, not_false_eq_true, not_true_eq_false, if_true, if_false, ↓reduceIte, eq_self, Option.bind_some, Bool.true_and, Bool.false_and, Bool.and_true, Bool.and_false, nI_add, nI_subN, nI_clamp, gdF, gdF2, gdP, zI_cl, zI_s, Lm1, r2, q2, nI_mul]
        have st : St b w (joinA w a j) := joinA_St haj hlj (by omega) (by omega) (canA_len hca)
        rw [← zI_s a]
        refine ep_bind (f216 (w := aS w 2 a (w.1 2 a * 10 ^ lenN (w.1 2 j) + w.1 2 j)) ?_ hlj hn) ?_
        · obtain ⟨h0, h1, h2, h3, h4, h5⟩ := hw1
          refine ⟨?_, ?_, ?_, ?_, ?_, ?_⟩
          · simp (disch := omega) only [m_rA1, m_rA3, m_rAe, m_rAn, m_rAi, m_rI2, m_rIe, m_rIn, m_rL1, m_rL2, m_rLe, m_rLi, m_rLn, aS_n]
            exact h0
          · simp (disch := omega) only [m_rA1, m_rA3, m_rAe, m_rAn, m_rAi, m_rI2, m_rIe, m_rIn, m_rL1, m_rL2, m_rLe, m_rLi, m_rLn, aS_n]
            exact h1
          · simp (disch := omega) only [m_rA1, m_rA3, m_rAe, m_rAn, m_rAi, m_rI2, m_rIe, m_rIn, m_rL1, m_rL2, m_rLe, m_rLi, m_rLn]
            exact h2
          · intro s' hs'
            have hs' : s' < w.1 0 1 := hs'
            obtain ⟨p1, p2, p3, p4, p5⟩ := h3 s' hs'
            by_cases e : s' = a
            · subst e
              simp (disch := omega) only [m_rA1, m_rA3, m_rAe, m_rAn, m_rAi, m_rI2, m_rIe, m_rIn, m_rL1, m_rL2, m_rLe, m_rLi, m_rLn, aS_n, aS_e]
              exact ⟨p1, trivial, p3, p4, p5⟩
            · simp (disch := omega) only [m_rA1, m_rA3, m_rAe, m_rAn, m_rAi, m_rI2, m_rIe, m_rIn, m_rL1, m_rL2, m_rLe, m_rLi, m_rLn, aS_n, aS_i]
              exact ⟨p1, p2, p3, p4, p5⟩
          · intro k hk
            simp (disch := omega) only [m_rA1, m_rA3, m_rAe, m_rAn, m_rAi, m_rI2, m_rIe, m_rIn, m_rL1, m_rL2, m_rLe, m_rLi, m_rLn, aS_n]
            exact h4 k hk
          · exact MN_fr h5 (by simp (disch := omega) only [m_rA1, m_rA3, m_rAe, m_rAn, m_rAi, m_rI2, m_rIe, m_rIn, m_rL1, m_rL2, m_rLe, m_rLi, m_rLn]) (fun i => by simp (disch := omega) only [m_rA1, m_rA3, m_rAe, m_rAn, m_rAi, m_rI2, m_rIe, m_rIn, m_rL1, m_rL2, m_rLe, m_rLi, m_rLn]) (fun i => by simp (disch := omega) only [m_rA1, m_rA3, m_rAe, m_rAn, m_rAi, m_rI2, m_rIe, m_rIn, m_rL1, m_rL2, m_rLe, m_rLi, m_rLn]) (fun i => by simp (disch := omega) only [aS_n])
        · rintro ⟨_, S2⟩ ⟨c1, c2⟩
          exact ep_ret ⟨rfl, DM_step hD1 c1 (FrM_tr (FrM_A (by omega)) c2) st⟩
      · simp only [hca, if_eq_b2i, decide_eq_true_eq, decide_true, decide_false, Bool.not_eq_true, Bool.not_eq_true', Bool.not_true, Bool.not_false, decide_eq_false_iff_not, Bool.false_eq_true, not_false_eq_true, not_true_eq_false, if_true, if_false, ↓reduceIte, eq_self, Option.bind_some, Bool.true_and, Bool.false_and, Bool.and_true, Bool.and_false]
        exact ih (j + 1) S1 (by omega) (by omega) hD1
    · simp only [h1, false_and, decide_eq_true_eq, decide_true, decide_false, Bool.not_eq_true, Bool.not_eq_true', Bool.not_true, Bool.not_false, decide_eq_false_iff_not, Bool.false_eq_true, not_false_eq_true, not_true_eq_false, if_true, if_false, ↓reduceIte, eq_self, Option.bind_some, Bool.true_and, Bool.false_and, Bool.and_true, Bool.and_false]
      exact ih (j + 1) S (by omega) (by omega) hD'
theorem f219n {a : Nat} (ha1 : w.1 1 a ≠ c + 1) (ha : a < w.1 0 1) (P : Int32 × mS → Prop) {S : mS} (hD : DM S0 S b l w) (K : Ep (fun n => F219f n 8 (nI 0) (nI (bsN (fun s => decide (w.1 1 s = c + 1)) (w.1 0 1))) (nI (a + 1)) (nI 0) S) P) : ∀ (m j : Nat), j + m = w.1 0 1 → Ep (fun n => F219f n 23 (nI 0) (nI (bsN (fun s => decide (w.1 1 s = c + 1)) (w.1 0 1))) (nI a) (nI j) S) P := by
  obtain ⟨hB, hb, hw, ok, hl, hf⟩ := hD
  have hn := ok.1
  intro m
  induction m with
  | zero =>
    intro j hj
    refine ep_succ (fun n => F219e23 n ..) ?_
    have e : w.1 0 1 ≤ j := by omega
    simp (disch := omega) only [F219b23, hw.1, L0, L1, L2, L3, L4, L5, L6, L7, L8, L9, L10, L11, L12, L13, L16, L20, L31, L32, L40, L48, L57, L59, L60, L61, L91, L93, L97, L99, L100, L102, L103, L114, L122, L255, L300, L400, L402, L999, L2280, L2500, L99999, L63, L1431655765, L858993459, L252645135, ic_ge, ic_gt, ic_le, ic_lt, ic_eq, ic_ne, if_lt, if_ge, if_gt, if_le, if_eq, if_ne, if_lt_zI, if_ge_zI, ic_ne_m1, ic_eq_m1, ic_nn_m1, ic_ee_m1, if_ne_b2i, if_eq_b2i, b2i_z, decide_eq_true_eq, decide_true, decide_false, Bool.not_eq_true, Bool.not_eq_true', Bool.not_true, Bool.not_false, decide_eq_false_iff_not, Bool.false_eq_true, not_false_eq_true, not_true_eq_false, if_true, if_false, ↓reduceIte, eq_self, Option.bind_some, Bool.true_and, Bool.false_and, Bool.and_true, Bool.and_false, nI_add, nI_subN, nI_clamp, gdF, gdF2, gdP, zI_cl, zI_s, Lm1, e]
    exact K
  | succ m ih =>
    intro j hj
    refine ep_succ (fun n => F219e23 n ..) ?_
    have e : ¬ w.1 0 1 ≤ j := by omega
    have hbs : bsN (fun s => decide (w.1 1 s = c + 1)) (w.1 0 1) < 65536 := bsN_lt (N := 16) (by omega)
    simp (disch := omega) only [F219b23, hw.1, L0, L1, L2, L3, L4, L5, L6, L7, L8, L9, L10, L11, L12, L13, L16, L20, L31, L32, L40, L48, L57, L59, L60, L61, L91, L93, L97, L99, L100, L102, L103, L114, L122, L255, L300, L400, L402, L999, L2280, L2500, L99999, L63, L1431655765, L858993459, L252645135, ic_ge, ic_gt, ic_le, ic_lt, ic_eq, ic_ne, if_lt, if_ge, if_gt, if_le, if_eq, if_ne, if_lt_zI, if_ge_zI, ic_ne_m1, ic_eq_m1, ic_nn_m1, ic_ee_m1, if_ne_b2i, if_eq_b2i, b2i_z, decide_eq_true_eq, decide_true, decide_false, Bool.not_eq_true, Bool.not_eq_true', Bool.not_true, Bool.not_false, decide_eq_false_iff_not, Bool.false_eq_true, not_false_eq_true, not_true_eq_false, if_true, if_false, ↓reduceIte, eq_self, Option.bind_some, Bool.true_and, Bool.false_and, Bool.and_true, Bool.and_false, nI_add, nI_subN, nI_clamp, gdF, gdF2, gdP, zI_cl, zI_s, Lm1, e]
    refine ep_bv (f199n (by omega) (by omega)) ?_
    rw [bsN_tb, decide_eq_true ha, decide_eq_false ha1]
    simp only [if_eq_b2i, decide_eq_true_eq, decide_true, decide_false, Bool.not_eq_true, Bool.not_eq_true', Bool.not_true, Bool.not_false, decide_eq_false_iff_not, Bool.false_eq_true, not_false_eq_true, not_true_eq_false, if_true, if_false, ↓reduceIte, eq_self, Option.bind_some, Bool.true_and, Bool.false_and, Bool.and_true, Bool.and_false]
    exact ih (j + 1) (by omega)
theorem f219o (hd : w.1 0 0 < 1000) : ∀ (m a : Nat) (S : mS), a + m = w.1 0 1 → DM S0 S b l w → Ep (fun n => F219f n 8 (nI 0) (nI (bsN (fun s => decide (w.1 1 s = c + 1)) (w.1 0 1))) (nI a) (nI 0) S) (PM S0 b l w (fdA l w c m a)) := by
  intro m
  induction m with
  | zero =>
    intro a S ha hD
    refine ep_succ (fun n => F219e8 n ..) ?_
    have hn := hD.2.2.2.1.1
    have e : w.1 0 1 ≤ a := by omega
    simp (disch := omega) only [F219b8, hD.2.2.1.1, L0, L1, L2, L3, L4, L5, L6, L7, L8, L9, L10, L11, L12, L13, L16, L20, L31, L32, L40, L48, L57, L59, L60, L61, L91, L93, L97, L99, L100, L102, L103, L114, L122, L255, L300, L400, L402, L999, L2280, L2500, L99999, L63, L1431655765, L858993459, L252645135, ic_ge, ic_gt, ic_le, ic_lt, ic_eq, ic_ne, if_lt, if_ge, if_gt, if_le, if_eq, if_ne, if_lt_zI, if_ge_zI, ic_ne_m1, ic_eq_m1, ic_nn_m1, ic_ee_m1, if_ne_b2i, if_eq_b2i, b2i_z, decide_eq_true_eq, decide_true, decide_false, Bool.not_eq_true, Bool.not_eq_true', Bool.not_true, Bool.not_false, decide_eq_false_iff_not, Bool.false_eq_true, not_false_eq_true, not_true_eq_false, if_true, if_false, ↓reduceIte, eq_self, Option.bind_some, Bool.true_and, Bool.false_and, Bool.and_true, Bool.and_false, nI_add, nI_subN, nI_clamp, gdF, gdF2, gdP, zI_cl, zI_s, Lm1, e]
    exact ep_ret ⟨rfl, hD⟩
  | succ m ih =>
    intro a S ha hD
    refine ep_succ (fun n => F219e8 n ..) ?_
    have hn := hD.2.2.2.1.1
    have e : ¬ w.1 0 1 ≤ a := by omega
    simp (disch := omega) only [F219b8, hD.2.2.1.1, L0, L1, L2, L3, L4, L5, L6, L7, L8, L9, L10, L11, L12, L13, L16, L20, L31, L32, L40, L48, L57, L59, L60, L61, L91, L93, L97, L99, L100, L102, L103, L114, L122, L255, L300, L400, L402, L999, L2280, L2500, L99999, L63, L1431655765, L858993459, L252645135, ic_ge, ic_gt, ic_le, ic_lt, ic_eq, ic_ne, if_lt, if_ge, if_gt, if_le, if_eq, if_ne, if_lt_zI, if_ge_zI, ic_ne_m1, ic_eq_m1, ic_nn_m1, ic_ee_m1, if_ne_b2i, if_eq_b2i, b2i_z, decide_eq_true_eq, decide_true, decide_false, Bool.not_eq_true, Bool.not_eq_true', Bool.not_true, Bool.not_false, decide_eq_false_iff_not, Bool.false_eq_true, not_false_eq_true, not_true_eq_false, if_true, if_false, ↓reduceIte, eq_self, Option.bind_some, Bool.true_and, Bool.false_and, Bool.and_true, Bool.and_false, nI_add, nI_subN, nI_clamp, gdF, gdF2, gdP, zI_cl, zI_s, Lm1, e]
    unfold fdA
    by_cases h1 : w.1 1 a = c + 1
    · rw [if_pos h1]
      exact f219i hd h1 _ (fun S' h' => ih (a + 1) S' (by omega) h') m (a + 1) S (by omega) (by omega) hD
    · rw [if_neg h1]
      exact f219n h1 (by omega) _ hD (ih (a + 1) S (by omega) hD) m (a + 1) (by omega)
theorem f219 {S : mS} (hd : w.1 0 0 < 1000) (hc : c < 1000) (hD : DM S0 S b l w) : Ep (fun n => F219 n (nI c) S) (PM S0 b l w (fdA l w c (w.1 0 1) 0)) := by
  refine ep_succ (fun n => F219e0 n ..) ?_
  simp only [F219b0, L0]
  refine ep_bv (f201 hD.2.1 hD.2.2.1 hD.2.2.2.1 hc) ?_
  exact f219o hd _ 0 S (by omega) hD
end F219
