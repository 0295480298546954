/-! rivers told: every part of a clause in the reference -/
section Me
variable {S00 S : mS} {f : Nat → Nat} {L i e n : Nat} {b : AB} {w : AW}
theorem frE_0 {tk : Bool} (h : frE f L i b tk = 0) : (amF f L i 0 (b 0 0)).1 = 0 ∧ tk = false := by
  unfold frE at h
  by_cases h0 : (amF f L i 0 (b 0 0)).1 = 0
  · rw [if_neg (fun z => z h0)] at h
    refine ⟨h0, Bool.eq_false_iff.mpr (fun ht => ?_)⟩
    rw [if_pos ht] at h
    omega
  · rw [if_pos h0] at h
    exact absurd h h0
/-- cell by cell: what a clause comes to if its cell is at fault -/
theorem cel_f {k : Nat} (h : frE f L i b (takB b w k (amF f L i 0 (b 0 0)).2.1) ≠ 0) : (celF f L k b w i).1 = frE f L i b (takB b w k (amF f L i 0 (b 0 0)).2.1) := by
  unfold frE at h ⊢
  by_cases h0 : (amF f L i 0 (b 0 0)).1 = 0
  · rw [if_neg (fun z => z h0)] at h ⊢
    by_cases ht : takB b w k (amF f L i 0 (b 0 0)).2.1 = true
    · rw [if_pos ht, cel_2 h0 ht]
    · rw [if_neg ht] at h
      exact absurd rfl h
  · rw [if_pos h0, cel_1 h0]
theorem f167_2 (hH : MH S00 f L) (h : MF S00 S L i 0) (hv : MV S.2.1 b w) (ok : OkR n b w) (hn : n ≠ 0) (hi : i ≤ L) : Ep (fun n => F167 n (nI 2) S) (fun z => RmY S00 L (celF f L 2 b w i) z.2) := by
  have hL := hH.2.1
  have hb16 := ok.1.1
  have h2b := ok.2.2.2.2.2.2.2.2.1 hn
  obtain ⟨q1, q2, q3, q4⟩ := am_b (f := f) (lo := 0) (hi := b 0 0) hi
  have hv0 : S.2.1 16 0 = nI (b 0 0) := hv.1.1
  obtain ⟨res, hres⟩ : ∃ res, res = celF f L 2 b w i := ⟨_, rfl⟩
  rw [← hres]
  have s : ¬ ((nI 2).toInt < 0 ∨ 6 < (nI 2).toInt) := by decide
  have s0 : ¬ nI 2 = nI 0 := by decide
  have s1 : ¬ nI 2 = nI 1 := by decide
  refine ep_succ (fun n => F167e0 n ..) ?_
  simp (disch := omega) only [F167b0, s, L0, L1, L2, L3, L4, L5, L6, L7, L8, L9, L10, L11, L12, L13, L16, L20, L31, L32, L40, L48, L57, L59, L60, L61, L91, L93, L97, L99, L100, L102, L103, L114, L122, L255, L300, L400, L402, L999, L2280, L2500, L99999, L63, L1431655765, L858993459, L252645135, s0, s1, if_false, if_true]
  refine ep_bind (f174 hH h hv0 (by omega) hb16 hi) ?_
  rintro ⟨z, S1⟩ ⟨a2, a3⟩
  have a2 : MY S1 S L (amF f L i 0 (b 0 0)).2.2 (amF f L i 0 (b 0 0)).1 := a2
  have mf1 := MF_tp h a2
  by_cases h0 : (amF f L i 0 (b 0 0)).1 = 0
  · have a3 : z = nI (amF f L i 0 (b 0 0)).2.1 := a3 h0
    subst a3
    have hc := (q4 h0).2
    rw [h0] at a2 mf1
    have er : res = (0, bS b 1 (amF f L i 0 (b 0 0)).2.1 0, w, (amF f L i 0 (b 0 0)).2.2) := by
      rw [hres]
      exact cel_4 (k := 2) h0 rfl rfl (fun z => absurd z.1 (by decide))
    simp only [z28 a2, Bool.false_eq_true, if_false]
    simp (disch := omega) only [L0, L1, L2, L3, L4, L5, L6, L7, L8, L9, L10, L11, L12, L13, L16, L20, L31, L32, L40, L48, L57, L59, L60, L61, L91, L93, L97, L99, L100, L102, L103, L114, L122, L255, L300, L400, L402, L999, L2280, L2500, L99999, L63, L1431655765, L858993459, L252645135, ic_ge, ic_gt, ic_le, ic_lt, ic_eq, ic_ne, if_lt, if_ge, if_gt, if_le, if_eq, if_ne, if_lt_zI, if_ge_zI, ic_ne_m1, ic_eq_m1, ic_nn_m1, ic_ee_m1, if_ne_b2i, if_eq_b2i, b2i_z, decide_eq_true_eq, decide_true, decide_false, Bool.not_eq_true, Bool.not_eq_true', Bool.not_true, Bool.not_false, decide_eq_false_iff_not, Bool.false_eq_true, not_false_eq_true, not_true_eq_false, if_true, if_false, ↓reduceIte, eq_self, Option.bind_some, Bool.true_and, Bool.false_and, Bool.and_true, Bool.and_false, nI_add, nI_subN, nI_clamp, gdF, gdF2, gdP, gdP2, zI_cl, zI_s, Lm1, nI_n0, zI_n0, leF, or_false, false_or, or_self]
    rw [er]
    exact ep_ret ⟨_, q1, MF_sA mf1 (by omega), fun _ => ⟨rfl, MV_1 (S := S1) (by rw [a2.2.2.2.2]; exact hv)⟩⟩
  · have er : res = ((amF f L i 0 (b 0 0)).1, b, w, (amF f L i 0 (b 0 0)).2.2) := by rw [hres]; exact cel_1 h0
    have hne : res.1 ≠ 0 := by rw [er]; exact h0
    simp only [ne28 a2 h0 (by omega) hL, if_true]
    refine ep_ret (RmY_f hne q1 ?_)
    rw [er]
    exact mf1
theorem f167_3 (hH : MH S00 f L) (h : MF S00 S L i 0) (hv : MV S.2.1 b w) (ok : OkR n b w) (hn : n ≠ 0) (hi : i ≤ L) : Ep (fun n => F167 n (nI 3) S) (fun z => RmY S00 L (celF f L 3 b w i) z.2) := by
  have hL := hH.2.1
  have hb16 := ok.1.1
  have h2b := ok.2.2.2.2.2.2.2.2.1 hn
  obtain ⟨q1, q2, q3, q4⟩ := am_b (f := f) (lo := 0) (hi := b 0 0) hi
  obtain ⟨s1', s2', s3', s4'⟩ := am_b (f := f) (lo := 1) (hi := 10) q1
  have hbk := bk_b (f := f) q1
  have hv0 : S.2.1 16 0 = nI (b 0 0) := hv.1.1
  have es : secF f L b 3 (amF f L i 0 (b 0 0)).2.2 = amF f L (amF f L i 0 (b 0 0)).2.2 1 10 := rfl
  obtain ⟨res, hres⟩ : ∃ res, res = celF f L 3 b w i := ⟨_, rfl⟩
  rw [← hres]
  have s : ¬ ((nI 3).toInt < 0 ∨ 6 < (nI 3).toInt) := by decide
  have s0 : ¬ nI 3 = nI 0 := by decide
  have s1 : ¬ nI 3 = nI 1 := by decide
  have s2 : ¬ nI 3 = nI 2 := by decide
  refine ep_succ (fun n => F167e0 n ..) ?_
  simp (disch := omega) only [F167b0, s, L0, L1, L2, L3, L4, L5, L6, L7, L8, L9, L10, L11, L12, L13, L16, L20, L31, L32, L40, L48, L57, L59, L60, L61, L91, L93, L97, L99, L100, L102, L103, L114, L122, L255, L300, L400, L402, L999, L2280, L2500, L99999, L63, L1431655765, L858993459, L252645135, s0, s1, s2, if_false, if_true]
  refine ep_bind (f174 hH h hv0 (by omega) hb16 hi) ?_
  rintro ⟨z, S1⟩ ⟨a2, a3⟩
  have a2 : MY S1 S L (amF f L i 0 (b 0 0)).2.2 (amF f L i 0 (b 0 0)).1 := a2
  have mf1 := MF_tp h a2
  by_cases h0 : (amF f L i 0 (b 0 0)).1 = 0
  · have a3 : z = nI (amF f L i 0 (b 0 0)).2.1 := a3 h0
    subst a3
    have hc := (q4 h0).2
    rw [h0] at a2 mf1
    refine ep_bind (f169 (MF_H hH mf1) (lo := 1) (hi := 10) (by decide) (by decide) (by decide) q1 mf1.1) ?_
    rintro ⟨z2, S2⟩ ⟨b2, b3⟩
    have b2 : MY S2 S1 L (amF f L (amF f L i 0 (b 0 0)).2.2 1 10).2.2 (amF f L (amF f L i 0 (b 0 0)).2.2 1 10).1 := b2
    have mf2 := MF_tp mf1 b2
    by_cases g0 : (amF f L (amF f L i 0 (b 0 0)).2.2 1 10).1 = 0
    · have b3 : z2 = nI (amF f L (amF f L i 0 (b 0 0)).2.2 1 10).2.1 := b3 g0
      subst b3
      rw [g0] at b2 mf2
      have er : res = (0, bS b 2 (amF f L i 0 (b 0 0)).2.1 (amF f L (amF f L i 0 (b 0 0)).2.2 1 10).2.1, w, (amF f L (amF f L i 0 (b 0 0)).2.2 1 10).2.2) := by
        rw [hres]
        exact cel_4 (k := 3) h0 rfl g0 (fun z => absurd z.1 (by decide))
      simp only [z28 b2, Bool.false_eq_true, if_false]
      simp (disch := omega) only [L0, L1, L2, L3, L4, L5, L6, L7, L8, L9, L10, L11, L12, L13, L16, L20, L31, L32, L40, L48, L57, L59, L60, L61, L91, L93, L97, L99, L100, L102, L103, L114, L122, L255, L300, L400, L402, L999, L2280, L2500, L99999, L63, L1431655765, L858993459, L252645135, ic_ge, ic_gt, ic_le, ic_lt, ic_eq, ic_ne, if_lt, if_ge, if_gt, if_le, if_eq, if_ne, if_lt_zI, if_ge_zI, ic_ne_m1, ic_eq_m1, ic_nn_m1, ic_ee_m1, if_ne_b2i, if_eq_b2i, b2i_z, decide_eq_true_eq, decide_true, decide_false, Bool.not_eq_true, Bool.not_eq_true', Bool.not_true, Bool.not_false, decide_eq_false_iff_not, Bool.false_eq_true, not_false_eq_true, not_true_eq_false, if_true, if_false, ↓reduceIte, eq_self, Option.bind_some, Bool.true_and, Bool.false_and, Bool.and_true, Bool.and_false, nI_add, nI_subN, nI_clamp, gdF, gdF2, gdP, gdP2, zI_cl, zI_s, Lm1, nI_n0, zI_n0, leF, or_false, false_or, or_self]
      rw [er]
      exact ep_ret ⟨_, s1', MF_sA mf2 (by omega), fun _ => ⟨rfl, MV_2 (S := S2) (by rw [b2.2.2.2.2, a2.2.2.2.2]; exact hv)⟩⟩
    · have er : res = ((amF f L (amF f L i 0 (b 0 0)).2.2 1 10).1, b, w, (amF f L (amF f L i 0 (b 0 0)).2.2 1 10).2.2) := by
        rw [hres]
        exact cel_3 (k := 3) h0 rfl g0
      have hne : res.1 ≠ 0 := by rw [er]; exact g0
      simp only [ne28 b2 g0 (by omega) hL, if_true]
      refine ep_ret (RmY_f hne s1' ?_)
      rw [er]
      exact mf2
  · have er : res = ((amF f L i 0 (b 0 0)).1, b, w, (amF f L i 0 (b 0 0)).2.2) := by rw [hres]; exact cel_1 h0
    have hne : res.1 ≠ 0 := by rw [er]; exact h0
    refine ep_bind (f169n (MF_H hH mf1) h0 (by omega) q1 mf1.1) ?_
    rintro ⟨z2, S2⟩ b2
    have b2 : MY S2 S1 L (bk f L (amF f L i 0 (b 0 0)).2.2) (amF f L i 0 (b 0 0)).1 := b2
    simp only [ne28 b2 h0 (by omega) hL, if_true]
    refine ep_ret (RmY_f hne hbk.2.1 ?_)
    rw [er]
    exact MF_tp mf1 b2
theorem f167_4 (hH : MH S00 f L) (h : MF S00 S L i 0) (hv : MV S.2.1 b w) (ok : OkR n b w) (hn : n ≠ 0) (hfu : b 0 1 < 6) (hi : i ≤ L) : Ep (fun n => F167 n (nI 4) S) (fun z => RmY S00 L (celF f L 4 b w i) z.2) := by
  have hL := hH.2.1
  have hb16 := ok.1.1
  have h2b := ok.2.2.2.2.2.2.2.2.1 hn
  obtain ⟨q1, q2, q3, q4⟩ := am_b (f := f) (lo := 0) (hi := b 0 0) hi
  obtain ⟨s1', s2', s3', s4'⟩ := le_b (f := f) (most := 1) q1 (by decide)
  have hbk := bk_b (f := f) q1
  have hm1 : S.2.1 16 1 = nI (b 0 1) := hv.1.2.1
  obtain ⟨res, hres⟩ : ∃ res, res = celF f L 4 b w i := ⟨_, rfl⟩
  rw [← hres]
  obtain ⟨q, a, hmn⟩ := hv.2.2.2
  have s : ¬ ((nI 4).toInt < 0 ∨ 6 < (nI 4).toInt) := by decide
  have s0 : ¬ nI 4 = nI 0 := by decide
  have s1 : ¬ nI 4 = nI 1 := by decide
  have s2 : ¬ nI 4 = nI 2 := by decide
  have s3 : ¬ nI 4 = nI 3 := by decide
  have hfb := frE_b (f := f) (b := b) (tk := takB b w 4 (amF f L i 0 (b 0 0)).2.1) hL hi
  refine ep_succ (fun n => F167e0 n ..) ?_
  simp (disch := omega) only [F167b0, s, L0, L1, L2, L3, L4, L5, L6, L7, L8, L9, L10, L11, L12, L13, L16, L20, L31, L32, L40, L48, L57, L59, L60, L61, L91, L93, L97, L99, L100, L102, L103, L114, L122, L255, L300, L400, L402, L999, L2280, L2500, L99999, L63, L1431655765, L858993459, L252645135, s0, s1, s2, s3, if_false, if_true, hm1]
  refine ep_bind (f175_149 hH h hv ok.1 (by omega) hi hmn) ?_
  rintro ⟨z, S1⟩ ⟨a2, a3⟩
  have a2 : MY S1 S L (amF f L i 0 (b 0 0)).2.2 (frE f L i b (takB b w 4 (amF f L i 0 (b 0 0)).2.1)) := a2
  simp (disch := omega) only [L0, L1, L2, L3, L4, L5, L6, L7, L8, L9, L10, L11, L12, L13, L16, L20, L31, L32, L40, L48, L57, L59, L60, L61, L91, L93, L97, L99, L100, L102, L103, L114, L122, L255, L300, L400, L402, L999, L2280, L2500, L99999, L63, L1431655765, L858993459, L252645135, ic_ge, ic_gt, ic_le, ic_lt, ic_eq, ic_ne, if_lt, if_ge, if_gt, if_le, if_eq, if_ne, if_lt_zI, if_ge_zI, ic_ne_m1, ic_eq_m1, ic_nn_m1, ic_ee_m1, if_ne_b2i, if_eq_b2i, b2i_z, decide_eq_true_eq, decide_true, decide_false, Bool.not_eq_true, Bool.not_eq_true', Bool.not_true, Bool.not_false, decide_eq_false_iff_not, Bool.false_eq_true, not_false_eq_true, not_true_eq_false, if_true, if_false, ↓reduceIte, eq_self, Option.bind_some, Bool.true_and, Bool.false_and, Bool.and_true, Bool.and_false, nI_add, nI_subN, nI_clamp, gdF, gdF2, gdP, gdP2, zI_cl, zI_s, Lm1, nI_n0, zI_n0, leF, or_false, false_or, or_self]
  have mf1 := MF_sA (q := 19) (j := b 0 1) (x := z) (MF_tp h a2) (by omega)
  by_cases h0 : frE f L i b (takB b w 4 (amF f L i 0 (b 0 0)).2.1) = 0
  · obtain ⟨h00, htk⟩ := frE_0 h0
    have hc := (q4 h00).2
    have a3 : z = nI (amF f L i 0 (b 0 0)).2.1 := a3 h0
    subst a3
    rw [h0] at a2 mf1
    refine ep_bind (f177 (MF_H hH mf1) (most := 1) (by decide) q1 mf1.1) ?_
    rintro ⟨z2, S2⟩ ⟨b2, b3⟩
    have b2 : MY S2 (m_sA S1 19 (b 0 1) (nI (amF f L i 0 (b 0 0)).2.1)) L (leF2 f L (amF f L i 0 (b 0 0)).2.2 1).2.2 (leF2 f L (amF f L i 0 (b 0 0)).2.2 1).1 := b2
    have mf2 := MF_tp mf1 b2
    have r2 : S2.2 = (m_sA S 19 (b 0 1) (nI (amF f L i 0 (b 0 0)).2.1)).2 := b2.2.2.2.2.trans (m_sA2 a2.2.2.2.2)
    have e16 : (m_sA S2 20 (b 0 1) z2).2.1 16 1 = nI (b 0 1) := by
      rw [m_rAn (by decide), r2, m_rAn (by decide)]
      exact hm1
    simp (disch := omega) only [L0, L1, L2, L3, L4, L5, L6, L7, L8, L9, L10, L11, L12, L13, L16, L20, L31, L32, L40, L48, L57, L59, L60, L61, L91, L93, L97, L99, L100, L102, L103, L114, L122, L255, L300, L400, L402, L999, L2280, L2500, L99999, L63, L1431655765, L858993459, L252645135, ic_ge, ic_gt, ic_le, ic_lt, ic_eq, ic_ne, if_lt, if_ge, if_gt, if_le, if_eq, if_ne, if_lt_zI, if_ge_zI, ic_ne_m1, ic_eq_m1, ic_nn_m1, ic_ee_m1, if_ne_b2i, if_eq_b2i, b2i_z, decide_eq_true_eq, decide_true, decide_false, Bool.not_eq_true, Bool.not_eq_true', Bool.not_true, Bool.not_false, decide_eq_false_iff_not, Bool.false_eq_true, not_false_eq_true, not_true_eq_false, if_true, if_false, ↓reduceIte, eq_self, Option.bind_some, Bool.true_and, Bool.false_and, Bool.and_true, Bool.and_false, nI_add, nI_subN, nI_clamp, gdF, gdF2, gdP, gdP2, zI_cl, zI_s, Lm1, nI_n0, zI_n0, leF, or_false, false_or, or_self, e16]
    by_cases g0 : (leF2 f L (amF f L i 0 (b 0 0)).2.2 1).1 = 0
    · have b3 : z2 = nI (leF2 f L (amF f L i 0 (b 0 0)).2.2 1).2.1 := b3 g0
      subst b3
      rw [g0] at mf2
      have er : res = (0, bS (bS (bS b 3 (amF f L i 0 (b 0 0)).2.1 (b 0 1 + 1)) 5 (b 0 1) (leF2 f L (amF f L i 0 (b 0 0)).2.2 1).2.1) 0 1 (b 0 1 + 1), w, (leF2 f L (amF f L i 0 (b 0 0)).2.2 1).2.2) := by
        rw [hres]
        exact cel_4 (k := 4) h00 htk g0 (fun z => absurd z.1 (by decide))
      have h3c : b 3 (amF f L i 0 (b 0 0)).2.1 = 0 := by
        have : takB b w 4 (amF f L i 0 (b 0 0)).2.1 = !decide (b 3 (amF f L i 0 (b 0 0)).2.1 = 0) := rfl
        rw [this] at htk
        simpa using htk
      have mv := MV_4 (S := S) (c := (amF f L i 0 (b 0 0)).2.1) (v := (leF2 f L (amF f L i 0 (b 0 0)).2.2 1).2.1) hv ok.1 hc h3c
      rw [er]
      refine ep_ret ⟨_, s1', MF_sA (MF_sA mf2 (by omega)) (by omega), fun _ => ⟨rfl, ?_⟩⟩
      have := m_sA2 (q := 16) (j := 1) (x := nI (b 0 1 + 1)) (m_sA2 (q := 20) (j := b 0 1) (x := nI (leF2 f L (amF f L i 0 (b 0 0)).2.2 1).2.1) r2)
      show MV (m_sA (m_sA S2 20 (b 0 1) (nI (leF2 f L (amF f L i 0 (b 0 0)).2.2 1).2.1)) 16 1 (nI (b 0 1 + 1))).2.1 _ _
      rw [this]
      exact mv
    · have er : res = ((leF2 f L (amF f L i 0 (b 0 0)).2.2 1).1, b, w, (leF2 f L (amF f L i 0 (b 0 0)).2.2 1).2.2) := by
        rw [hres]
        exact cel_3 (k := 4) h00 htk g0
      have hne : res.1 ≠ 0 := by rw [er]; exact g0
      refine ep_ret (RmY_f hne s1' ?_)
      rw [er]
      exact MF_sA (MF_sA mf2 (by omega)) (by omega)
  · have er : res.1 = frE f L i b (takB b w 4 (amF f L i 0 (b 0 0)).2.1) := by rw [hres]; exact cel_f h0
    have hne : res.1 ≠ 0 := by rw [er]; exact h0
    refine ep_bind (f177n (MF_H hH mf1) h0 (by omega) q1 mf1.1) ?_
    rintro ⟨z2, S2⟩ b2
    have b2 : MY S2 (m_sA S1 19 (b 0 1) z) L (bk f L (amF f L i 0 (b 0 0)).2.2) (frE f L i b (takB b w 4 (amF f L i 0 (b 0 0)).2.1)) := b2
    simp (disch := omega) only [L0, L1, L2, L3, L4, L5, L6, L7, L8, L9, L10, L11, L12, L13, L16, L20, L31, L32, L40, L48, L57, L59, L60, L61, L91, L93, L97, L99, L100, L102, L103, L114, L122, L255, L300, L400, L402, L999, L2280, L2500, L99999, L63, L1431655765, L858993459, L252645135, ic_ge, ic_gt, ic_le, ic_lt, ic_eq, ic_ne, if_lt, if_ge, if_gt, if_le, if_eq, if_ne, if_lt_zI, if_ge_zI, ic_ne_m1, ic_eq_m1, ic_nn_m1, ic_ee_m1, if_ne_b2i, if_eq_b2i, b2i_z, decide_eq_true_eq, decide_true, decide_false, Bool.not_eq_true, Bool.not_eq_true', Bool.not_true, Bool.not_false, decide_eq_false_iff_not, Bool.false_eq_true, not_false_eq_true, not_true_eq_false, if_true, if_false, ↓reduceIte, eq_self, Option.bind_some, Bool.true_and, Bool.false_and, Bool.and_true, Bool.and_false, nI_add, nI_subN, nI_clamp, gdF, gdF2, gdP, gdP2, zI_cl, zI_s, Lm1, nI_n0, zI_n0, leF, or_false, false_or, or_self]
    refine ep_ret (RmY_f hne hbk.2.1 ?_)
    rw [er]
    exact MF_sA (MF_sA (MF_tp mf1 b2) (by omega)) (by omega)
theorem f167_5 (hH : MH S00 f L) (h : MF S00 S L i 0) (hv : MV S.2.1 b w) (ok : OkR n b w) (hn : n ≠ 0) (hfu : b 0 2 < 4) (hi : i ≤ L) : Ep (fun n => F167 n (nI 5) S) (fun z => RmY S00 L (celF f L 5 b w i) z.2) := by
  have hL := hH.2.1
  have hb16 := ok.1.1
  have h2b := ok.2.2.2.2.2.2.2.2.1 hn
  obtain ⟨q1, q2, q3, q4⟩ := am_b (f := f) (lo := 0) (hi := b 0 0) hi
  have hm1 : S.2.1 16 2 = nI (b 0 2) := hv.1.2.2.1
  obtain ⟨res, hres⟩ : ∃ res, res = celF f L 5 b w i := ⟨_, rfl⟩
  rw [← hres]
  obtain ⟨q, a, hmn⟩ := hv.2.2.2
  have s : ¬ ((nI 5).toInt < 0 ∨ 6 < (nI 5).toInt) := by decide
  have s0 : ¬ nI 5 = nI 0 := by decide
  have s1 : ¬ nI 5 = nI 1 := by decide
  have s2 : ¬ nI 5 = nI 2 := by decide
  have s3 : ¬ nI 5 = nI 3 := by decide
  have s4 : ¬ nI 5 = nI 4 := by decide
  have hfb := frE_b (f := f) (b := b) (tk := takB b w 5 (amF f L i 0 (b 0 0)).2.1) hL hi
  refine ep_succ (fun n => F167e0 n ..) ?_
  simp (disch := omega) only [F167b0, s, L0, L1, L2, L3, L4, L5, L6, L7, L8, L9, L10, L11, L12, L13, L16, L20, L31, L32, L40, L48, L57, L59, L60, L61, L91, L93, L97, L99, L100, L102, L103, L114, L122, L255, L300, L400, L402, L999, L2280, L2500, L99999, L63, L1431655765, L858993459, L252645135, s0, s1, s2, s3, s4, if_false, if_true, hm1]
  refine ep_bind (f175_151 hH h hv ok.1 (by omega) hi hmn) ?_
  rintro ⟨z, S1⟩ ⟨a2, a3⟩
  have a2 : MY S1 S L (amF f L i 0 (b 0 0)).2.2 (frE f L i b (takB b w 5 (amF f L i 0 (b 0 0)).2.1)) := a2
  have e16 : (m_sA S1 21 (b 0 2) z).2.1 16 2 = nI (b 0 2) := by
    rw [m_rAn (by decide), a2.2.2.2.2]
    exact hm1
  simp (disch := omega) only [L0, L1, L2, L3, L4, L5, L6, L7, L8, L9, L10, L11, L12, L13, L16, L20, L31, L32, L40, L48, L57, L59, L60, L61, L91, L93, L97, L99, L100, L102, L103, L114, L122, L255, L300, L400, L402, L999, L2280, L2500, L99999, L63, L1431655765, L858993459, L252645135, ic_ge, ic_gt, ic_le, ic_lt, ic_eq, ic_ne, if_lt, if_ge, if_gt, if_le, if_eq, if_ne, if_lt_zI, if_ge_zI, ic_ne_m1, ic_eq_m1, ic_nn_m1, ic_ee_m1, if_ne_b2i, if_eq_b2i, b2i_z, decide_eq_true_eq, decide_true, decide_false, Bool.not_eq_true, Bool.not_eq_true', Bool.not_true, Bool.not_false, decide_eq_false_iff_not, Bool.false_eq_true, not_false_eq_true, not_true_eq_false, if_true, if_false, ↓reduceIte, eq_self, Option.bind_some, Bool.true_and, Bool.false_and, Bool.and_true, Bool.and_false, nI_add, nI_subN, nI_clamp, gdF, gdF2, gdP, gdP2, zI_cl, zI_s, Lm1, nI_n0, zI_n0, leF, or_false, false_or, or_self, e16]
  have mf1 := MF_sA (q := 16) (j := 2) (x := nI (b 0 2 + 1)) (MF_sA (q := 21) (j := b 0 2) (x := z) (MF_tp h a2) (by omega)) (by omega)
  by_cases h0 : frE f L i b (takB b w 5 (amF f L i 0 (b 0 0)).2.1) = 0
  · obtain ⟨h00, htk⟩ := frE_0 h0
    have hc := (q4 h00).2
    have a3 : z = nI (amF f L i 0 (b 0 0)).2.1 := a3 h0
    subst a3
    rw [h0] at mf1
    have er : res = (0, bS (bS b 4 (amF f L i 0 (b 0 0)).2.1 (b 0 2 + 1)) 0 2 (b 0 2 + 1), w, (amF f L i 0 (b 0 0)).2.2) := by
      rw [hres]
      exact cel_4 (k := 5) h00 htk rfl (fun z => absurd z.1 (by decide))
    have h4c : b 4 (amF f L i 0 (b 0 0)).2.1 = 0 := by
      have : takB b w 5 (amF f L i 0 (b 0 0)).2.1 = !decide (b 4 (amF f L i 0 (b 0 0)).2.1 = 0) := rfl
      rw [this] at htk
      simpa using htk
    have mv := MV_5 (S := S) (c := (amF f L i 0 (b 0 0)).2.1) hv ok.1 hc h4c
    rw [er]
    refine ep_ret ⟨_, q1, mf1, fun _ => ⟨rfl, ?_⟩⟩
    have := m_sA2 (q := 16) (j := 2) (x := nI (b 0 2 + 1)) (m_sA2 (q := 21) (j := b 0 2) (x := nI (amF f L i 0 (b 0 0)).2.1) a2.2.2.2.2)
    show MV (m_sA (m_sA S1 21 (b 0 2) (nI (amF f L i 0 (b 0 0)).2.1)) 16 2 (nI (b 0 2 + 1))).2.1 _ _
    rw [this]
    exact mv
  · have er : res.1 = frE f L i b (takB b w 5 (amF f L i 0 (b 0 0)).2.1) := by rw [hres]; exact cel_f h0
    have hne : res.1 ≠ 0 := by rw [er]; exact h0
    refine ep_ret (RmY_f hne q1 ?_)
    rw [er]
    exact mf1
theorem sec_6 {p : Nat} : secF f L b 6 p = amF f L p 1 9 := (if_neg (by decide)).trans ((if_neg (by decide)).trans ((if_neg (by decide)).trans (if_pos rfl)))
theorem sec_7 {p : Nat} : secF f L b 7 p = leF2 f L p 8 := (if_neg (by decide)).trans ((if_neg (by decide)).trans ((if_neg (by decide)).trans ((if_neg (by decide)).trans (if_pos rfl))))
theorem tlB_6 {c v : Nat} : tlB 6 c v b = b := (if_neg (by decide)).trans ((if_neg (by decide)).trans ((if_neg (by decide)).trans ((if_neg (by decide)).trans (if_neg (by decide)))))
theorem tlB_7 {c v : Nat} : tlB 7 c v b = b := (if_neg (by decide)).trans ((if_neg (by decide)).trans ((if_neg (by decide)).trans ((if_neg (by decide)).trans (if_neg (by decide)))))
theorem tlW_6 {c v : Nat} : tlW 6 c v w = aS w 7 c v := if_pos rfl
theorem tlW_7 {c v : Nat} : tlW 7 c v w = addA w c v 0 := (if_neg (by decide)).trans (if_pos rfl)
theorem tak_7 {c : Nat} : takB b w 7 c = false := (if_neg (by decide)).trans ((if_neg (by decide)).trans (if_neg (by decide)))
theorem tak_6 {c : Nat} : takB b w 6 c = !decide (w.1 7 c = 0) := (if_neg (by decide)).trans ((if_neg (by decide)).trans (if_pos rfl))
theorem f167_6 (hH : MH S00 f L) (h : MF S00 S L i 0) (hv : MV S.2.1 b w) (ok : OkR n b w) (hn : n ≠ 0) (hfu : netsN w < 5) (hi : i ≤ L) : Ep (fun n => F167 n (nI 6) S) (fun z => RmY S00 L (celF f L 6 b w i) z.2) := by
  have hL := hH.2.1
  have hb16 := ok.1.1
  have h2b := ok.2.2.2.2.2.2.2.2.1 hn
  obtain ⟨q1, q2, q3, q4⟩ := am_b (f := f) (lo := 0) (hi := b 0 0) hi
  obtain ⟨s1', s2', s3', s4'⟩ := am_b (f := f) (lo := 1) (hi := 9) q1
  have hbk := bk_b (f := f) q1
  obtain ⟨res, hres⟩ : ∃ res, res = celF f L 6 b w i := ⟨_, rfl⟩
  rw [← hres]
  obtain ⟨q, a, hmn⟩ := hv.2.2.2
  have hmn : MNw (rN S.2.1) w q a := hmn
  have hq5 : q < 5 := by
    have h3 := hmn.2.2.1
    unfold netsN at hfu
    omega
  have hm1 : S.2.1 16 3 = nI q := hmn.2.1
  have s : ¬ ((nI 6).toInt < 0 ∨ 6 < (nI 6).toInt) := by decide
  have s0 : ¬ nI 6 = nI 0 := by decide
  have s1 : ¬ nI 6 = nI 1 := by decide
  have s2 : ¬ nI 6 = nI 2 := by decide
  have s3 : ¬ nI 6 = nI 3 := by decide
  have s4 : ¬ nI 6 = nI 4 := by decide
  have s5 : ¬ nI 6 = nI 5 := by decide
  have hfb := frE_b (f := f) (b := b) (tk := takB b w 6 (amF f L i 0 (b 0 0)).2.1) hL hi
  refine ep_succ (fun n => F167e0 n ..) ?_
  simp (disch := omega) only [F167b0, s, L0, L1, L2, L3, L4, L5, L6, L7, L8, L9, L10, L11, L12, L13, L16, L20, L31, L32, L40, L48, L57, L59, L60, L61, L91, L93, L97, L99, L100, L102, L103, L114, L122, L255, L300, L400, L402, L999, L2280, L2500, L99999, L63, L1431655765, L858993459, L252645135, s0, s1, s2, s3, s4, s5, if_false, if_true, hm1]
  refine ep_bind (f175_152 hH h hv ok.1 (by omega) hi hmn) ?_
  rintro ⟨z, S1⟩ ⟨a2, a3⟩
  have a2 : MY S1 S L (amF f L i 0 (b 0 0)).2.2 (frE f L i b (takB b w 6 (amF f L i 0 (b 0 0)).2.1)) := a2
  simp (disch := omega) only [L0, L1, L2, L3, L4, L5, L6, L7, L8, L9, L10, L11, L12, L13, L16, L20, L31, L32, L40, L48, L57, L59, L60, L61, L91, L93, L97, L99, L100, L102, L103, L114, L122, L255, L300, L400, L402, L999, L2280, L2500, L99999, L63, L1431655765, L858993459, L252645135, ic_ge, ic_gt, ic_le, ic_lt, ic_eq, ic_ne, if_lt, if_ge, if_gt, if_le, if_eq, if_ne, if_lt_zI, if_ge_zI, ic_ne_m1, ic_eq_m1, ic_nn_m1, ic_ee_m1, if_ne_b2i, if_eq_b2i, b2i_z, decide_eq_true_eq, decide_true, decide_false, Bool.not_eq_true, Bool.not_eq_true', Bool.not_true, Bool.not_false, decide_eq_false_iff_not, Bool.false_eq_true, not_false_eq_true, not_true_eq_false, if_true, if_false, ↓reduceIte, eq_self, Option.bind_some, Bool.true_and, Bool.false_and, Bool.and_true, Bool.and_false, nI_add, nI_subN, nI_clamp, gdF, gdF2, gdP, gdP2, zI_cl, zI_s, Lm1, nI_n0, zI_n0, leF, or_false, false_or, or_self]
  have mf1 := MF_sA (q := 22) (j := q) (x := z) (MF_tp h a2) (by omega)
  by_cases h0 : frE f L i b (takB b w 6 (amF f L i 0 (b 0 0)).2.1) = 0
  · obtain ⟨h00, htk⟩ := frE_0 h0
    have hc := (q4 h00).2
    have a3 : z = nI (amF f L i 0 (b 0 0)).2.1 := a3 h0
    subst a3
    rw [h0] at a2 mf1
    refine ep_bind (f169 (MF_H hH mf1) (lo := 1) (hi := 9) (by decide) (by decide) (by decide) q1 mf1.1) ?_
    rintro ⟨z2, S2⟩ ⟨b2, b3⟩
    have b2 : MY S2 (m_sA S1 22 q (nI (amF f L i 0 (b 0 0)).2.1)) L (amF f L (amF f L i 0 (b 0 0)).2.2 1 9).2.2 (amF f L (amF f L i 0 (b 0 0)).2.2 1 9).1 := b2
    have mf2 := MF_tp mf1 b2
    have r2 : S2.2 = (m_sA S 22 q (nI (amF f L i 0 (b 0 0)).2.1)).2 := b2.2.2.2.2.trans (m_sA2 a2.2.2.2.2)
    have e16 : (m_sA S2 23 q z2).2.1 16 3 = nI q := by
      rw [m_rAn (by decide), r2, m_rAn (by decide)]
      exact hm1
    simp (disch := omega) only [L0, L1, L2, L3, L4, L5, L6, L7, L8, L9, L10, L11, L12, L13, L16, L20, L31, L32, L40, L48, L57, L59, L60, L61, L91, L93, L97, L99, L100, L102, L103, L114, L122, L255, L300, L400, L402, L999, L2280, L2500, L99999, L63, L1431655765, L858993459, L252645135, ic_ge, ic_gt, ic_le, ic_lt, ic_eq, ic_ne, if_lt, if_ge, if_gt, if_le, if_eq, if_ne, if_lt_zI, if_ge_zI, ic_ne_m1, ic_eq_m1, ic_nn_m1, ic_ee_m1, if_ne_b2i, if_eq_b2i, b2i_z, decide_eq_true_eq, decide_true, decide_false, Bool.not_eq_true, Bool.not_eq_true', Bool.not_true, Bool.not_false, decide_eq_false_iff_not, Bool.false_eq_true, not_false_eq_true, not_true_eq_false, if_true, if_false, ↓reduceIte, eq_self, Option.bind_some, Bool.true_and, Bool.false_and, Bool.and_true, Bool.and_false, nI_add, nI_subN, nI_clamp, gdF, gdF2, gdP, gdP2, zI_cl, zI_s, Lm1, nI_n0, zI_n0, leF, or_false, false_or, or_self, e16]
    by_cases g0 : (amF f L (amF f L i 0 (b 0 0)).2.2 1 9).1 = 0
    · have b3 : z2 = nI (amF f L (amF f L i 0 (b 0 0)).2.2 1 9).2.1 := b3 g0
      subst b3
      rw [g0] at mf2
      have hg := s4' g0
      have er : res = (0, b, aS w 7 (amF f L i 0 (b 0 0)).2.1 (amF f L (amF f L i 0 (b 0 0)).2.2 1 9).2.1, (amF f L (amF f L i 0 (b 0 0)).2.2 1 9).2.2) := by
        rw [hres]
        rw [cel_4 (k := 6) h00 htk (by rw [sec_6]; exact g0) (fun z => absurd z.1 (by decide)), sec_6, tlB_6, tlW_6]
      have h7c : w.1 7 (amF f L i 0 (b 0 0)).2.1 = 0 := by
        rw [tak_6] at htk
        simpa using htk
      have mv := MV_6 (S := S) (c := (amF f L i 0 (b 0 0)).2.1) (v := (amF f L (amF f L i 0 (b 0 0)).2.2 1 9).2.1) hv hmn (by omega) (by omega) h7c (by omega)
      rw [er]
      refine ep_ret ⟨_, s1', MF_sA (MF_sA mf2 (by omega)) (by omega), fun _ => ⟨rfl, ?_⟩⟩
      have := m_sA2 (q := 16) (j := 3) (x := nI (q + 1)) (m_sA2 (q := 23) (j := q) (x := nI (amF f L (amF f L i 0 (b 0 0)).2.2 1 9).2.1) r2)
      show MV (m_sA (m_sA S2 23 q (nI (amF f L (amF f L i 0 (b 0 0)).2.2 1 9).2.1)) 16 3 (nI (q + 1))).2.1 _ _
      rw [this]
      exact mv
    · have er : res = ((amF f L (amF f L i 0 (b 0 0)).2.2 1 9).1, b, w, (amF f L (amF f L i 0 (b 0 0)).2.2 1 9).2.2) := by
        rw [hres]
        rw [cel_3 (k := 6) h00 htk (by rw [sec_6]; exact g0), sec_6]
      have hne : res.1 ≠ 0 := by rw [er]; exact g0
      refine ep_ret (RmY_f hne s1' ?_)
      rw [er]
      exact MF_sA (MF_sA mf2 (by omega)) (by omega)
  · have er : res.1 = frE f L i b (takB b w 6 (amF f L i 0 (b 0 0)).2.1) := by rw [hres]; exact cel_f h0
    have hne : res.1 ≠ 0 := by rw [er]; exact h0
    refine ep_bind (f169n (MF_H hH mf1) h0 (by omega) q1 mf1.1) ?_
    rintro ⟨z2, S2⟩ b2
    have b2 : MY S2 (m_sA S1 22 q z) L (bk f L (amF f L i 0 (b 0 0)).2.2) (frE f L i b (takB b w 6 (amF f L i 0 (b 0 0)).2.1)) := b2
    simp (disch := omega) only [L0, L1, L2, L3, L4, L5, L6, L7, L8, L9, L10, L11, L12, L13, L16, L20, L31, L32, L40, L48, L57, L59, L60, L61, L91, L93, L97, L99, L100, L102, L103, L114, L122, L255, L300, L400, L402, L999, L2280, L2500, L99999, L63, L1431655765, L858993459, L252645135, ic_ge, ic_gt, ic_le, ic_lt, ic_eq, ic_ne, if_lt, if_ge, if_gt, if_le, if_eq, if_ne, if_lt_zI, if_ge_zI, ic_ne_m1, ic_eq_m1, ic_nn_m1, ic_ee_m1, if_ne_b2i, if_eq_b2i, b2i_z, decide_eq_true_eq, decide_true, decide_false, Bool.not_eq_true, Bool.not_eq_true', Bool.not_true, Bool.not_false, decide_eq_false_iff_not, Bool.false_eq_true, not_false_eq_true, not_true_eq_false, if_true, if_false, ↓reduceIte, eq_self, Option.bind_some, Bool.true_and, Bool.false_and, Bool.and_true, Bool.and_false, nI_add, nI_subN, nI_clamp, gdF, gdF2, gdP, gdP2, zI_cl, zI_s, Lm1, nI_n0, zI_n0, leF, or_false, false_or, or_self]
    refine ep_ret (RmY_f hne hbk.2.1 ?_)
    rw [er]
    exact MF_sA (MF_sA (MF_tp mf1 b2) (by omega)) (by omega)
theorem f167_7 (hH : MH S00 f L) (h : MF S00 S L i 0) (hv : MV S.2.1 b w) (ok : OkR n b w) (hn : n ≠ 0) (hfu : w.1 0 1 < 10) (hi : i ≤ L) : Ep (fun n => F167 n (nI 7) S) (fun z => RmY S00 L (celF f L 7 b w i) z.2) := by
  have hL := hH.2.1
  have hb16 := ok.1.1
  have h2b := ok.2.2.2.2.2.2.2.2.1 hn
  obtain ⟨q1, q2, q3, q4⟩ := am_b (f := f) (lo := 0) (hi := b 0 0) hi
  obtain ⟨s1', s2', s3', s4'⟩ := le_b (f := f) (most := 8) q1 (by decide)
  have hbk := bk_b (f := f) q1
  have hv0 : S.2.1 16 0 = nI (b 0 0) := hv.1.1
  have hm1 : S.2.1 16 4 = nI (w.1 0 1) := hv.2.1
  obtain ⟨res, hres⟩ : ∃ res, res = celF f L 7 b w i := ⟨_, rfl⟩
  rw [← hres]
  have s : (nI 7).toInt < 0 ∨ 6 < (nI 7).toInt := by decide
  refine ep_succ (fun n => F167e0 n ..) ?_
  simp (disch := omega) only [F167b0, s, L0, L1, L2, L3, L4, L5, L6, L7, L8, L9, L10, L11, L12, L13, L16, L20, L31, L32, L40, L48, L57, L59, L60, L61, L91, L93, L97, L99, L100, L102, L103, L114, L122, L255, L300, L400, L402, L999, L2280, L2500, L99999, L63, L1431655765, L858993459, L252645135, if_false, if_true, hm1]
  refine ep_bind (f174 hH h hv0 (by omega) hb16 hi) ?_
  rintro ⟨z, S1⟩ ⟨a2, a3⟩
  have a2 : MY S1 S L (amF f L i 0 (b 0 0)).2.2 (amF f L i 0 (b 0 0)).1 := a2
  simp (disch := omega) only [L0, L1, L2, L3, L4, L5, L6, L7, L8, L9, L10, L11, L12, L13, L16, L20, L31, L32, L40, L48, L57, L59, L60, L61, L91, L93, L97, L99, L100, L102, L103, L114, L122, L255, L300, L400, L402, L999, L2280, L2500, L99999, L63, L1431655765, L858993459, L252645135, ic_ge, ic_gt, ic_le, ic_lt, ic_eq, ic_ne, if_lt, if_ge, if_gt, if_le, if_eq, if_ne, if_lt_zI, if_ge_zI, ic_ne_m1, ic_eq_m1, ic_nn_m1, ic_ee_m1, if_ne_b2i, if_eq_b2i, b2i_z, decide_eq_true_eq, decide_true, decide_false, Bool.not_eq_true, Bool.not_eq_true', Bool.not_true, Bool.not_false, decide_eq_false_iff_not, Bool.false_eq_true, not_false_eq_true, not_true_eq_false, if_true, if_false, ↓reduceIte, eq_self, Option.bind_some, Bool.true_and, Bool.false_and, Bool.and_true, Bool.and_false, nI_add, nI_subN, nI_clamp, gdF, gdF2, gdP, gdP2, zI_cl, zI_s, Lm1, nI_n0, zI_n0, leF, or_false, false_or, or_self]
  have mf1 := MF_sA (q := 24) (j := w.1 0 1) (x := z) (MF_tp h a2) (by omega)
  by_cases h0 : (amF f L i 0 (b 0 0)).1 = 0
  · have hc := (q4 h0).2
    have a3 : z = nI (amF f L i 0 (b 0 0)).2.1 := a3 h0
    subst a3
    rw [h0] at a2 mf1
    refine ep_bind (f177 (MF_H hH mf1) (most := 8) (by decide) q1 mf1.1) ?_
    rintro ⟨z2, S2⟩ ⟨b2, b3⟩
    have b2 : MY S2 (m_sA S1 24 (w.1 0 1) (nI (amF f L i 0 (b 0 0)).2.1)) L (leF2 f L (amF f L i 0 (b 0 0)).2.2 8).2.2 (leF2 f L (amF f L i 0 (b 0 0)).2.2 8).1 := b2
    have mf2 := MF_tp mf1 b2
    have r2 : S2.2 = (m_sA S 24 (w.1 0 1) (nI (amF f L i 0 (b 0 0)).2.1)).2 := b2.2.2.2.2.trans (m_sA2 a2.2.2.2.2)
    have e16 : (m_sA S2 25 (w.1 0 1) z2).2.1 16 4 = nI (w.1 0 1) := by
      rw [m_rAn (by decide), r2, m_rAn (by decide)]
      exact hm1
    simp (disch := omega) only [L0, L1, L2, L3, L4, L5, L6, L7, L8, L9, L10, L11, L12, L13, L16, L20, L31, L32, L40, L48, L57, L59, L60, L61, L91, L93, L97, L99, L100, L102, L103, L114, L122, L255, L300, L400, L402, L999, L2280, L2500, L99999, L63, L1431655765, L858993459, L252645135, ic_ge, ic_gt, ic_le, ic_lt, ic_eq, ic_ne, if_lt, if_ge, if_gt, if_le, if_eq, if_ne, if_lt_zI, if_ge_zI, ic_ne_m1, ic_eq_m1, ic_nn_m1, ic_ee_m1, if_ne_b2i, if_eq_b2i, b2i_z, decide_eq_true_eq, decide_true, decide_false, Bool.not_eq_true, Bool.not_eq_true', Bool.not_true, Bool.not_false, decide_eq_false_iff_not, Bool.false_eq_true, not_false_eq_true, not_true_eq_false, if_true, if_false, ↓reduceIte, eq_self, Option.bind_some, Bool.true_and, Bool.false_and, Bool.and_true, Bool.and_false, nI_add, nI_subN, nI_clamp, gdF, gdF2, gdP, gdP2, zI_cl, zI_s, Lm1, nI_n0, zI_n0, leF, or_false, false_or, or_self, e16]
    by_cases g0 : (leF2 f L (amF f L i 0 (b 0 0)).2.2 8).1 = 0
    · have b3 : z2 = nI (leF2 f L (amF f L i 0 (b 0 0)).2.2 8).2.1 := b3 g0
      subst b3
      rw [g0] at mf2
      have er : res = (0, b, addA w (amF f L i 0 (b 0 0)).2.1 (leF2 f L (amF f L i 0 (b 0 0)).2.2 8).2.1 0, (leF2 f L (amF f L i 0 (b 0 0)).2.2 8).2.2) := by
        rw [hres]
        rw [cel_4 (k := 7) h0 tak_7 (by rw [sec_7]; exact g0) (fun z => absurd z.1 (by decide)), sec_7, tlB_7, tlW_7]
      have mv := MV_7 (S := S) (c := (amF f L i 0 (b 0 0)).2.1) (v := (leF2 f L (amF f L i 0 (b 0 0)).2.2 8).2.1) hv
      rw [er]
      refine ep_ret ⟨_, s1', MF_sA (MF_sA mf2 (by omega)) (by omega), fun _ => ⟨rfl, ?_⟩⟩
      have := m_sA2 (q := 16) (j := 4) (x := nI (w.1 0 1 + 1)) (m_sA2 (q := 25) (j := w.1 0 1) (x := nI (leF2 f L (amF f L i 0 (b 0 0)).2.2 8).2.1) r2)
      show MV (m_sA (m_sA S2 25 (w.1 0 1) (nI (leF2 f L (amF f L i 0 (b 0 0)).2.2 8).2.1)) 16 4 (nI (w.1 0 1 + 1))).2.1 _ _
      rw [this]
      exact mv
    · have er : res = ((leF2 f L (amF f L i 0 (b 0 0)).2.2 8).1, b, w, (leF2 f L (amF f L i 0 (b 0 0)).2.2 8).2.2) := by
        rw [hres]
        rw [cel_3 (k := 7) h0 tak_7 (by rw [sec_7]; exact g0), sec_7]
      have hne : res.1 ≠ 0 := by rw [er]; exact g0
      refine ep_ret (RmY_f hne s1' ?_)
      rw [er]
      exact MF_sA (MF_sA mf2 (by omega)) (by omega)
  · have er : res = ((amF f L i 0 (b 0 0)).1, b, w, (amF f L i 0 (b 0 0)).2.2) := by rw [hres]; exact cel_1 h0
    have hne : res.1 ≠ 0 := by rw [er]; exact h0
    refine ep_bind (f177n (MF_H hH mf1) h0 (by omega) q1 mf1.1) ?_
    rintro ⟨z2, S2⟩ b2
    have b2 : MY S2 (m_sA S1 24 (w.1 0 1) z) L (bk f L (amF f L i 0 (b 0 0)).2.2) (amF f L i 0 (b 0 0)).1 := b2
    simp (disch := omega) only [L0, L1, L2, L3, L4, L5, L6, L7, L8, L9, L10, L11, L12, L13, L16, L20, L31, L32, L40, L48, L57, L59, L60, L61, L91, L93, L97, L99, L100, L102, L103, L114, L122, L255, L300, L400, L402, L999, L2280, L2500, L99999, L63, L1431655765, L858993459, L252645135, ic_ge, ic_gt, ic_le, ic_lt, ic_eq, ic_ne, if_lt, if_ge, if_gt, if_le, if_eq, if_ne, if_lt_zI, if_ge_zI, ic_ne_m1, ic_eq_m1, ic_nn_m1, ic_ee_m1, if_ne_b2i, if_eq_b2i, b2i_z, decide_eq_true_eq, decide_true, decide_false, Bool.not_eq_true, Bool.not_eq_true', Bool.not_true, Bool.not_false, decide_eq_false_iff_not, Bool.false_eq_true, not_false_eq_true, not_true_eq_false, if_true, if_false, ↓reduceIte, eq_self, Option.bind_some, Bool.true_and, Bool.false_and, Bool.and_true, Bool.and_false, nI_add, nI_subN, nI_clamp, gdF, gdF2, gdP, gdP2, zI_cl, zI_s, Lm1, nI_n0, zI_n0, leF, or_false, false_or, or_self]
    refine ep_ret (RmY_f hne hbk.2.1 ?_)
    rw [er]
    exact MF_sA (MF_sA (MF_tp mf1 b2) (by omega)) (by omega)
end Me
