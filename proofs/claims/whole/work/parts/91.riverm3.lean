/-! rivers told: the parts of a clause in the reference -/
section Md
variable {S00 S : mS} {f : Nat → Nat} {L i e n : Nat} {b : AB} {w : AW}
theorem ne28 {S0 : mS} {p e : Nat} (h : MY S S0 L p e) (he : e ≠ 0) (hb : e ≤ 8 * L + 5) (hL : L ≤ 400) : am_if .ne (S.1 28) = true := by
  rw [h.2.2.1, if_ne (by omega), decide_eq_false he]
  rfl
theorem z28 {S0 : mS} {p : Nat} (h : MY S S0 L p 0) : am_if .ne (S.1 28) = false := by
  rw [h.2.2.1]
  decide
/-- a fault: what follows doesn't matter -/
theorem RmY_f {S' : mS} {res : Nat × AB × AW × Nat} {p : Nat} (h0 : res.1 ≠ 0) (hp : p ≤ L) (h : MF S00 S' L p res.1) : RmY S00 L res S' := ⟨p, hp, h, fun z => absurd z h0⟩
theorem f168l {v : Nat} {T : mS} (hv : v ≤ 16) (h : MF S00 T L i 0) (h0 : T.2.1 16 0 = nI v ∧ T.2.1 16 1 = nI 0 ∧ T.2.1 16 2 = nI 0 ∧ T.2.1 16 3 = nI 0 ∧ T.2.1 16 4 = nI 0) : ∀ (m c : Nat) (S : mS), c + m = v → MF S00 S L i 0 → (∀ q, q ≠ 17 → q ≠ 18 → S.2.1 q = T.2.1 q) → (∀ j, j < c → S.2.1 17 j = zI (stB v 1 j) ∧ S.2.1 18 j = nI 0) → Ep (fun n => F168f n 28 (nI v) (nI c) S) (fun z => MF S00 z.2 L i 0 ∧ (∀ q, q ≠ 17 → q ≠ 18 → z.2.2.1 q = T.2.1 q) ∧ (∀ j, j < v → z.2.2.1 17 j = zI (stB v 1 j) ∧ z.2.2.1 18 j = nI 0)) := by
  intro m
  induction m with
  | zero =>
    intro c S hc hS hf hr
    have ec : c = v := by omega
    subst ec
    have c0 : S.2.1 16 0 = nI c := by rw [hf 16 (by decide) (by decide)]; exact h0.1
    refine ep_succ (fun n => F168e28 n ..) ?_
    simp (disch := omega) only [F168b28, L0, L1, L2, L3, L4, L5, L6, L7, L8, L9, L10, L11, L12, L13, L16, L20, L31, L32, L40, L48, L57, L59, L60, L61, L91, L93, L97, L99, L100, L102, L103, L114, L122, L255, L300, L400, L402, L999, L2280, L2500, L99999, L63, L1431655765, L858993459, L252645135, ic_ge, ic_gt, ic_le, ic_lt, ic_eq, ic_ne, if_lt, if_ge, if_gt, if_le, if_eq, if_ne, if_lt_zI, if_ge_zI, ic_ne_m1, ic_eq_m1, ic_nn_m1, ic_ee_m1, if_ne_b2i, if_eq_b2i, b2i_z, decide_eq_true_eq, decide_true, decide_false, Bool.not_eq_true, Bool.not_eq_true', Bool.not_true, Bool.not_false, decide_eq_false_iff_not, Bool.false_eq_true, not_false_eq_true, not_true_eq_false, if_true, if_false, ↓reduceIte, eq_self, Option.bind_some, Bool.true_and, Bool.false_and, Bool.and_true, Bool.and_false, nI_add, nI_subN, nI_clamp, gdF, gdF2, gdP, gdP2, zI_cl, zI_s, Lm1, nI_n0, zI_n0, leF, or_false, false_or, or_self, c0, Nat.le_refl]
    exact ep_ret ⟨hS, hf, hr⟩
  | succ m ih =>
    intro c S hc hS hf hr
    have c0 : S.2.1 16 0 = nI v := by rw [hf 16 (by decide) (by decide)]; exact h0.1
    have e1 : ¬ v ≤ c := by omega
    have fin : ∀ x, x = zI (stB v 1 c) → Ep (fun n => F168f n 28 (nI v) (nI (c + 1)) (m_sA (m_sA S 17 c x) 18 c (nI 0))) (fun z => MF S00 z.2 L i 0 ∧ (∀ q, q ≠ 17 → q ≠ 18 → z.2.2.1 q = T.2.1 q) ∧ (∀ j, j < v → z.2.2.1 17 j = zI (stB v 1 j) ∧ z.2.2.1 18 j = nI 0)) := by
      intro x hx
      refine ih (c + 1) _ (by omega) (MF_sA (MF_sA hS (by omega)) (by omega)) (fun q a1 a2 => by rw [m_rAn a2, m_rAn a1]; exact hf q a1 a2) (fun j hj => ?_)
      by_cases ej : j = c
      · subst ej
        refine ⟨?_, m_rAe⟩
        rw [m_rAn (by decide), m_rAe]
        exact hx
      · obtain ⟨x1, x2⟩ := hr j (by omega)
        refine ⟨?_, ?_⟩
        · rw [m_rAn (by decide), m_rAi ej]
          exact x1
        · rw [m_rAi ej, m_rAn (by decide)]
          exact x2
    refine ep_succ (fun n => F168e28 n ..) ?_
    by_cases hl : v ≤ c + 1
    · simp (disch := omega) only [F168b28, L0, L1, L2, L3, L4, L5, L6, L7, L8, L9, L10, L11, L12, L13, L16, L20, L31, L32, L40, L48, L57, L59, L60, L61, L91, L93, L97, L99, L100, L102, L103, L114, L122, L255, L300, L400, L402, L999, L2280, L2500, L99999, L63, L1431655765, L858993459, L252645135, ic_ge, ic_gt, ic_le, ic_lt, ic_eq, ic_ne, if_lt, if_ge, if_gt, if_le, if_eq, if_ne, if_lt_zI, if_ge_zI, ic_ne_m1, ic_eq_m1, ic_nn_m1, ic_ee_m1, if_ne_b2i, if_eq_b2i, b2i_z, decide_eq_true_eq, decide_true, decide_false, Bool.not_eq_true, Bool.not_eq_true', Bool.not_true, Bool.not_false, decide_eq_false_iff_not, Bool.false_eq_true, not_false_eq_true, not_true_eq_false, if_true, if_false, ↓reduceIte, eq_self, Option.bind_some, Bool.true_and, Bool.false_and, Bool.and_true, Bool.and_false, nI_add, nI_subN, nI_clamp, gdF, gdF2, gdP, gdP2, zI_cl, zI_s, Lm1, nI_n0, zI_n0, leF, or_false, false_or, or_self, c0, e1, hl]
      refine fin (zI 0) ?_
      show zI 0 = zI (if c + 1 < v then c + 2 else 0)
      rw [if_neg (by omega)]
    · simp (disch := omega) only [F168b28, L0, L1, L2, L3, L4, L5, L6, L7, L8, L9, L10, L11, L12, L13, L16, L20, L31, L32, L40, L48, L57, L59, L60, L61, L91, L93, L97, L99, L100, L102, L103, L114, L122, L255, L300, L400, L402, L999, L2280, L2500, L99999, L63, L1431655765, L858993459, L252645135, ic_ge, ic_gt, ic_le, ic_lt, ic_eq, ic_ne, if_lt, if_ge, if_gt, if_le, if_eq, if_ne, if_lt_zI, if_ge_zI, ic_ne_m1, ic_eq_m1, ic_nn_m1, ic_ee_m1, if_ne_b2i, if_eq_b2i, b2i_z, decide_eq_true_eq, decide_true, decide_false, Bool.not_eq_true, Bool.not_eq_true', Bool.not_true, Bool.not_false, decide_eq_false_iff_not, Bool.false_eq_true, not_false_eq_true, not_true_eq_false, if_true, if_false, ↓reduceIte, eq_self, Option.bind_some, Bool.true_and, Bool.false_and, Bool.and_true, Bool.and_false, nI_add, nI_subN, nI_clamp, gdF, gdF2, gdP, gdP2, zI_cl, zI_s, Lm1, nI_n0, zI_n0, leF, or_false, false_or, or_self, c0, e1, hl]
      refine fin (nI (c + 1)) ?_
      show nI (c + 1) = zI (if c + 1 < v then c + 2 else 0)
      rw [if_pos (by omega), zI_s]
theorem f168 (hH : MH S00 f L) (h : MF S00 S L i 0) (hv : MV S.2.1 b w) (ok : OkR 0 b w) (hi : i ≤ L) : Ep (fun n => F168 n S) (fun z => RmY S00 L (parF f L 0 b w i) z.2) := by
  have hL := hH.2.1
  obtain ⟨q1, q2, q3, q4⟩ := am_b (f := f) (lo := 2) (hi := 17) hi
  obtain ⟨z1, z2, z3, z4⟩ := ok.2.2.2.2.2.2.2.2.2 rfl
  obtain ⟨res, hres⟩ : ∃ res, res = parF f L 0 b w i := ⟨_, rfl⟩
  rw [← hres]
  refine ep_succ (fun n => F168e0 n ..) ?_
  simp only [F168b0]
  refine ep_bind (f169 (MF_H hH h) (lo := 2) (hi := 17) (by decide) (by decide) (by decide) hi h.1) ?_
  rintro ⟨z, S1⟩ ⟨a2, a3⟩
  have a2 : MY S1 S L (amF f L i 2 17).2.2 (amF f L i 2 17).1 := a2
  have mf1 := MF_tp h a2
  by_cases h0 : (amF f L i 2 17).1 = 0
  · have er : res = (0, stB (amF f L i 2 17).2.1, w, (amF f L i 2 17).2.2) := by
      rw [hres]
      exact (if_pos rfl).trans (if_neg (fun z => z h0))
    have a3 : z = nI (amF f L i 2 17).2.1 := a3 h0
    subst a3
    rw [h0] at a2 mf1
    rw [er]
    have hv16 := (q4 h0).2
    simp only [z28 a2, Bool.false_eq_true, if_false, L0]
    have hr1 : S1.2 = S.2 := a2.2.2.2.2
    obtain ⟨⟨v0, v1, v2, v3, v4, v5, v6⟩, w1, w2, w3⟩ := hv
    obtain ⟨q, a, n1, n2, n3, n4, n5, n6⟩ := w3
    have hnq : q = 0 := by
      rw [n3]
      exact ctF_0 16 0 (fun i _ _ => by rw [z4]; rfl)
    have v1 : S.2.1 16 1 = nI (b 0 1) := v1
    have v2 : S.2.1 16 2 = nI (b 0 2) := v2
    have n2 : S.2.1 16 3 = nI q := n2
    refine ep_mono (f168l (S00 := S00) (T := m_sA S1 16 0 (nI (amF f L i 2 17).2.1)) (v := (amF f L i 2 17).2.1) (by omega) (MF_sA mf1 (by omega)) ⟨m_rAe, ?_, ?_, ?_, ?_⟩ _ 0 _ (Nat.zero_add _) (MF_sA mf1 (by omega)) (fun q _ _ => rfl) (fun j hj => absurd hj (Nat.not_lt_zero _))) ?_
    · rw [m_rAi (by decide), hr1, v1, z1]
    · rw [m_rAi (by decide), hr1, v2, z2]
    · rw [m_rAi (by decide), hr1, n2, hnq]
    · rw [m_rAi (by decide), hr1, w1, z3]
    · rintro ⟨_, S2⟩ ⟨b1, b2, b3⟩
      have b2 : ∀ q, q ≠ 17 → q ≠ 18 → S2.2.1 q = (m_sA S1 16 0 (nI (amF f L i 2 17).2.1)).2.1 q := b2
      have b16 : ∀ j, j ≠ 0 → S2.2.1 16 j = S.2.1 16 j := fun j hj => by rw [b2 16 (by decide) (by decide), m_rAi hj, hr1]
      refine ⟨_, q1, b1, fun _ => ⟨rfl, ⟨?_, ?_, ?_, fun i hi => b3 i hi, fun k hk => absurd hk (Nat.not_lt_zero _), ⟨fun _ => 0, fun k hk => absurd hk (Nat.not_lt_zero _), fun i _ hi => absurd rfl hi⟩, ⟨fun _ => 0, fun k hk => absurd hk (Nat.not_lt_zero _), fun i _ hi => absurd rfl hi⟩⟩, ?_, fun s hs => absurd hs (by show ¬ s < w.1 0 1; omega), ⟨0, fun _ => 0, by decide, ?_, ?_, fun k hk => absurd hk (Nat.not_lt_zero _), fun c _ hc => absurd (z4 c) hc, fun j k hj => absurd hj (Nat.not_lt_zero _)⟩⟩⟩
      · show S2.2.1 16 0 = nI (amF f L i 2 17).2.1
        rw [b2 16 (by decide) (by decide), m_rAe]
      · show S2.2.1 16 1 = nI 0
        rw [b16 1 (by decide), v1, z1]
      · show S2.2.1 16 2 = nI 0
        rw [b16 2 (by decide), v2, z2]
      · show S2.2.1 16 4 = nI (w.1 0 1)
        rw [b16 4 (by decide)]
        exact w1
      · show S2.2.1 16 3 = nI 0
        rw [b16 3 (by decide), n2, hnq]
      · exact hnq.symm.trans n3
  · have er : res = ((amF f L i 2 17).1, b, w, (amF f L i 2 17).2.2) := by
      rw [hres]
      exact (if_pos rfl).trans (if_pos h0)
    have hne : res.1 ≠ 0 := by rw [er]; exact h0
    simp only [ne28 a2 h0 (by omega) hL, if_true, L0]
    refine ep_succ (fun n => F168e28 n ..) ?_
    have c0 : (m_sA S1 16 0 (nI 0)).2.1 16 0 = nI 0 := m_rAe
    simp (disch := omega) only [F168b28, L0, L1, L2, L3, L4, L5, L6, L7, L8, L9, L10, L11, L12, L13, L16, L20, L31, L32, L40, L48, L57, L59, L60, L61, L91, L93, L97, L99, L100, L102, L103, L114, L122, L255, L300, L400, L402, L999, L2280, L2500, L99999, L63, L1431655765, L858993459, L252645135, ic_ge, ic_gt, ic_le, ic_lt, ic_eq, ic_ne, if_lt, if_ge, if_gt, if_le, if_eq, if_ne, if_lt_zI, if_ge_zI, ic_ne_m1, ic_eq_m1, ic_nn_m1, ic_ee_m1, if_ne_b2i, if_eq_b2i, b2i_z, decide_eq_true_eq, decide_true, decide_false, Bool.not_eq_true, Bool.not_eq_true', Bool.not_true, Bool.not_false, decide_eq_false_iff_not, Bool.false_eq_true, not_false_eq_true, not_true_eq_false, if_true, if_false, ↓reduceIte, eq_self, Option.bind_some, Bool.true_and, Bool.false_and, Bool.and_true, Bool.and_false, nI_add, nI_subN, nI_clamp, gdF, gdF2, gdP, gdP2, zI_cl, zI_s, Lm1, nI_n0, zI_n0, leF, or_false, false_or, or_self, c0, Nat.le_refl]
    refine ep_ret (RmY_f hne q1 ?_)
    rw [er]
    exact MF_sA mf1 (by omega)
/-- what all clauses of a cell begin with -/
theorem cel_1 {k : Nat} (h0 : (amF f L i 0 (b 0 0)).1 ≠ 0) : celF f L k b w i = ((amF f L i 0 (b 0 0)).1, b, w, (amF f L i 0 (b 0 0)).2.2) := if_pos h0
theorem cel_2 {k : Nat} (h0 : (amF f L i 0 (b 0 0)).1 = 0) (ht : takB b w k (amF f L i 0 (b 0 0)).2.1 = true) : celF f L k b w i = (2 + 8 * bk f L i, b, w, (amF f L i 0 (b 0 0)).2.2) := (if_neg (fun z => z h0)).trans (if_pos ht)
theorem cel_3 {k : Nat} (h0 : (amF f L i 0 (b 0 0)).1 = 0) (ht : takB b w k (amF f L i 0 (b 0 0)).2.1 = false) (hs : (secF f L b k (amF f L i 0 (b 0 0)).2.2).1 ≠ 0) : celF f L k b w i = ((secF f L b k (amF f L i 0 (b 0 0)).2.2).1, b, w, (secF f L b k (amF f L i 0 (b 0 0)).2.2).2.2) := (if_neg (fun z => z h0)).trans ((if_neg (by rw [ht]; decide)).trans (if_pos hs))
theorem cel_4 {k : Nat} (h0 : (amF f L i 0 (b 0 0)).1 = 0) (ht : takB b w k (amF f L i 0 (b 0 0)).2.1 = false) (hs : (secF f L b k (amF f L i 0 (b 0 0)).2.2).1 = 0) (h1 : ¬ (k = 1 ∧ (secF f L b k (amF f L i 0 (b 0 0)).2.2).2.1 = (amF f L i 0 (b 0 0)).2.1)) : celF f L k b w i = (0, tlB k (amF f L i 0 (b 0 0)).2.1 (secF f L b k (amF f L i 0 (b 0 0)).2.2).2.1 b, tlW k (amF f L i 0 (b 0 0)).2.1 (secF f L b k (amF f L i 0 (b 0 0)).2.2).2.1 w, (secF f L b k (amF f L i 0 (b 0 0)).2.2).2.2) := (if_neg (fun z => z h0)).trans ((if_neg (by rw [ht]; decide)).trans ((if_neg (fun z => z hs)).trans (if_neg h1)))
theorem f173 (hH : MH S00 f L) (h : MF S00 S L i 0) (hv : MV S.2.1 b w) (ok : OkR n b w) (hn : n ≠ 0) (hi : i ≤ L) : Ep (fun n => F173 n S) (fun z => RmY S00 L (celF f L 1 b w i) z.2) := by
  have hL := hH.2.1
  have hb16 := ok.1.1
  have h2b := ok.2.2.2.2.2.2.2.2.1 hn
  obtain ⟨q1, q2, q3, q4⟩ := am_b (f := f) (lo := 0) (hi := b 0 0) hi
  obtain ⟨s1, s2, s3, s4⟩ := am_b (f := f) (lo := 0) (hi := b 0 0) q1
  have hbk := bk_b (f := f) q1
  have es : secF f L b 1 (amF f L i 0 (b 0 0)).2.2 = amF f L (amF f L i 0 (b 0 0)).2.2 0 (b 0 0) := rfl
  obtain ⟨res, hres⟩ : ∃ res, res = celF f L 1 b w i := ⟨_, rfl⟩
  rw [← hres]
  have hv0 : S.2.1 16 0 = nI (b 0 0) := hv.1.1
  refine ep_succ (fun n => F173e0 n ..) ?_
  simp only [F173b0]
  refine ep_bind (f174 hH h hv0 (by omega) hb16 hi) ?_
  rintro ⟨z, S1⟩ ⟨a2, a3⟩
  have a2 : MY S1 S L (amF f L i 0 (b 0 0)).2.2 (amF f L i 0 (b 0 0)).1 := a2
  have mf1 := MF_tp h a2
  refine ep_bind (f161 (MF_H hH mf1) q1 mf1.1) ?_
  rintro ⟨_, S2⟩ b1
  have b1 : MY S2 S1 L (bk f L (amF f L i 0 (b 0 0)).2.2) (amF f L i 0 (b 0 0)).1 := b1
  have mf2 := MF_tp mf1 b1
  have r2 : S2.2 = S.2 := b1.2.2.2.2.trans a2.2.2.2.2
  have b27 : S2.1 27 = nI (bk f L (amF f L i 0 (b 0 0)).2.2) := b1.2.1
  by_cases h0 : (amF f L i 0 (b 0 0)).1 = 0
  · have a3 : z = nI (amF f L i 0 (b 0 0)).2.1 := a3 h0
    subst a3
    have hc := (q4 h0).2
    rw [h0] at mf2
    have hv2 : S2.2.1 16 0 = nI (b 0 0) := by rw [r2]; exact hv0
    refine ep_bind (f174 hH mf2 hv2 (by omega) hb16 hbk.2.1) ?_
    rw [am_bk q1]
    rintro ⟨z5, S3⟩ ⟨c2, c3⟩
    have c2 : MY S3 S2 L (amF f L (amF f L i 0 (b 0 0)).2.2 0 (b 0 0)).2.2 (amF f L (amF f L i 0 (b 0 0)).2.2 0 (b 0 0)).1 := c2
    have mf3 := MF_tp mf2 c2
    have r3 : S3.2 = S.2 := c2.2.2.2.2.trans r2
    by_cases g0 : (amF f L (amF f L i 0 (b 0 0)).2.2 0 (b 0 0)).1 = 0
    · have c3 : z5 = nI (amF f L (amF f L i 0 (b 0 0)).2.2 0 (b 0 0)).2.1 := c3 g0
      subst c3
      rw [g0] at c2 mf3
      have hv3 := (s4 g0).2
      simp only [z28 c2, Bool.false_eq_true, if_false]
      by_cases hsame : (amF f L (amF f L i 0 (b 0 0)).2.2 0 (b 0 0)).2.1 = (amF f L i 0 (b 0 0)).2.1
      · have er : res = (2 + 8 * bk f L (amF f L i 0 (b 0 0)).2.2, b, w, (amF f L (amF f L i 0 (b 0 0)).2.2 0 (b 0 0)).2.2) := by
          rw [hres]
          exact (if_neg (fun z => z h0)).trans ((if_neg (show ¬ false = true by decide)).trans ((if_neg (fun z => z g0)).trans (if_pos ⟨rfl, hsame⟩)))
        have hne : res.1 ≠ 0 := by rw [er]; show 2 + 8 * bk f L (amF f L i 0 (b 0 0)).2.2 ≠ 0; omega
        have e1 : am_ic .ne (nI (amF f L (amF f L i 0 (b 0 0)).2.2 0 (b 0 0)).2.1) (nI (amF f L i 0 (b 0 0)).2.1) = false := by
          rw [ic_ne (by omega) (by omega), decide_eq_true hsame]
          rfl
        have l1 : (1 : Int32) = nI 1 := rfl
        simp only [e1, Bool.false_eq_true, if_false, b27]
        rw [l1]
        refine ep_bind (f165 c2) ?_
        rintro ⟨_, S4⟩ d1
        have d1 : MY S4 S2 L (amF f L (amF f L i 0 (b 0 0)).2.2 0 (b 0 0)).2.2 (1 + 8 * bk f L (amF f L i 0 (b 0 0)).2.2 + 1) := d1
        have d2 : am_if .ne (S4.1 28) = true := ne28 d1 (by omega) (by omega) hL
        simp only [d2, if_true]
        refine ep_ret (RmY_f (p := (amF f L (amF f L i 0 (b 0 0)).2.2 0 (b 0 0)).2.2) hne s1 ?_)
        rw [er]
        show MF S00 S4 L _ (2 + 8 * bk f L (amF f L i 0 (b 0 0)).2.2)
        rw [show 2 + 8 * bk f L (amF f L i 0 (b 0 0)).2.2 = 1 + 8 * bk f L (amF f L i 0 (b 0 0)).2.2 + 1 by omega]
        exact MF_tp mf2 d1
      · have er : res = (0, bS b 1 (amF f L i 0 (b 0 0)).2.1 ((amF f L (amF f L i 0 (b 0 0)).2.2 0 (b 0 0)).2.1 + 1), w, (amF f L (amF f L i 0 (b 0 0)).2.2 0 (b 0 0)).2.2) := by
          rw [hres]
          exact (if_neg (fun z => z h0)).trans ((if_neg (show ¬ false = true by decide)).trans ((if_neg (fun z => z g0)).trans (if_neg (fun z => hsame z.2))))
        have e1 : am_ic .ne (nI (amF f L (amF f L i 0 (b 0 0)).2.2 0 (b 0 0)).2.1) (nI (amF f L i 0 (b 0 0)).2.1) = true := by
          rw [ic_ne (by omega) (by omega), decide_eq_false hsame]
          rfl
        have mv := MV_1 (S := S3) (c := (amF f L i 0 (b 0 0)).2.1) (v := (amF f L (amF f L i 0 (b 0 0)).2.2 0 (b 0 0)).2.1 + 1) (by rw [r3]; exact hv)
        rw [zI_s] at mv
        simp only [e1, if_true, z28 c2, Bool.false_eq_true, if_false]
        simp (disch := omega) only [L0, L1, L2, L3, L4, L5, L6, L7, L8, L9, L10, L11, L12, L13, L16, L20, L31, L32, L40, L48, L57, L59, L60, L61, L91, L93, L97, L99, L100, L102, L103, L114, L122, L255, L300, L400, L402, L999, L2280, L2500, L99999, L63, L1431655765, L858993459, L252645135, ic_ge, ic_gt, ic_le, ic_lt, ic_eq, ic_ne, if_lt, if_ge, if_gt, if_le, if_eq, if_ne, if_lt_zI, if_ge_zI, ic_ne_m1, ic_eq_m1, ic_nn_m1, ic_ee_m1, if_ne_b2i, if_eq_b2i, b2i_z, decide_eq_true_eq, decide_true, decide_false, Bool.not_eq_true, Bool.not_eq_true', Bool.not_true, Bool.not_false, decide_eq_false_iff_not, Bool.false_eq_true, not_false_eq_true, not_true_eq_false, if_true, if_false, ↓reduceIte, eq_self, Option.bind_some, Bool.true_and, Bool.false_and, Bool.and_true, Bool.and_false, nI_add, nI_subN, nI_clamp, gdF, gdF2, gdP, gdP2, zI_cl, zI_s, Lm1, nI_n0, zI_n0, leF, or_false, false_or, or_self]
        rw [er]
        exact ep_ret ⟨_, s1, MF_sA mf3 (by omega), fun _ => ⟨rfl, mv⟩⟩
    · have er : res = ((amF f L (amF f L i 0 (b 0 0)).2.2 0 (b 0 0)).1, b, w, (amF f L (amF f L i 0 (b 0 0)).2.2 0 (b 0 0)).2.2) := by
        rw [hres]
        exact (if_neg (fun z => z h0)).trans ((if_neg (show ¬ false = true by decide)).trans (if_pos g0))
      have hne : res.1 ≠ 0 := by rw [er]; exact g0
      simp only [ne28 c2 g0 (by omega) hL, if_true]
      refine ep_ret (RmY_f hne s1 ?_)
      rw [er]
      exact mf3
  · have er : res = ((amF f L i 0 (b 0 0)).1, b, w, (amF f L i 0 (b 0 0)).2.2) := by rw [hres]; exact cel_1 h0
    have hne : res.1 ≠ 0 := by rw [er]; exact h0
    refine ep_bind (f174n hH mf2 h0 (by omega) hbk.2.1) ?_
    rintro ⟨z5, S3⟩ c2
    have c2 : MY S3 S2 L (bk f L (bk f L (amF f L i 0 (b 0 0)).2.2)) (amF f L i 0 (b 0 0)).1 := c2
    simp only [ne28 c2 h0 (by omega) hL, if_true]
    refine ep_ret (RmY_f hne (bk_b (f := f) hbk.2.1).2.1 ?_)
    rw [er]
    exact MF_tp mf2 c2
end Md
