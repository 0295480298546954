/-! rivers told: the program reads all of it -/
section Ok
variable {f : Nat → Nat} {L i n : Nat} {b : AB} {w : AW}
theorem cel_b {k : Nat} (hk1 : 1 ≤ k) (hk : k ≤ 7) (ok : OkR n b w) (hn : n ≠ 0) (hfu : fulB b w k = false) (hL : L ≤ 400) (hi : i ≤ L) : (celF f L k b w i).1 ≤ 8 * L + 5 ∧ (celF f L k b w i).2.2.2 ≤ L ∧ ((celF f L k b w i).1 = 0 → OkR (n + 1) (celF f L k b w i).2.1 (celF f L k b w i).2.2.1) := by
  have hb16 := ok.1.1
  have h2b := ok.2.2.2.2.2.2.2.2.1 hn
  obtain ⟨q1, q2, q3, q4⟩ := am_b (f := f) (lo := 0) (hi := b 0 0) hi
  obtain ⟨s1, s2, s3, s4⟩ := sec_b (f := f) (b := b) (k := k) q1 hb16
  have hbk := bk_b (f := f) hi
  have hbk2 := bk_b (f := f) q1
  unfold celF
  by_cases h0 : (amF f L i 0 (b 0 0)).1 = 0
  · rw [if_neg (fun z => z h0)]
    have hc := (q4 h0).2
    by_cases htk : takB b w k (amF f L i 0 (b 0 0)).2.1 = true
    · rw [if_pos htk]
      refine ⟨?_, q1, fun z => ?_⟩
      · show 2 + 8 * bk f L i ≤ _
        omega
      · have z : 2 + 8 * bk f L i = 0 := z
        omega
    · rw [if_neg htk]
      by_cases g0 : (secF f L b k (amF f L i 0 (b 0 0)).2.2).1 = 0
      · rw [if_neg (fun z => z g0)]
        obtain ⟨t1, t3, t4, t6, t7⟩ := s4 g0
        by_cases hsame : k = 1 ∧ (secF f L b k (amF f L i 0 (b 0 0)).2.2).2.1 = (amF f L i 0 (b 0 0)).2.1
        · rw [if_pos hsame]
          refine ⟨?_, s1, fun z => ?_⟩
          · show 2 + 8 * bk f L (amF f L i 0 (b 0 0)).2.2 ≤ _
            omega
          · have z : 2 + 8 * bk f L (amF f L i 0 (b 0 0)).2.2 = 0 := z
            omega
        · rw [if_neg hsame]
          refine ⟨Nat.zero_le _, s1, fun _ => ?_⟩
          have fu4 : k = 4 → b 0 1 < 6 := fun e => by
            have : fulB b w k = decide (6 ≤ b 0 1) := if_pos e
            rw [this] at hfu
            have := of_decide_eq_false hfu
            omega
          have fu5 : k = 5 → b 0 2 < 4 := fun e => by
            have : fulB b w k = decide (4 ≤ b 0 2) := (if_neg (by omega)).trans (if_pos e)
            rw [this] at hfu
            have := of_decide_eq_false hfu
            omega
          have fu6 : k = 6 → netsN w < 5 := fun e => by
            have : fulB b w k = decide (5 ≤ netsN w) := (if_neg (by omega)).trans ((if_neg (by omega)).trans (if_pos e))
            rw [this] at hfu
            have := of_decide_eq_false hfu
            omega
          have fu7 : k = 7 → w.1 0 1 < 10 := fun e => by
            have : fulB b w k = decide (10 ≤ w.1 0 1) := (if_neg (by omega)).trans ((if_neg (by omega)).trans ((if_neg (by omega)).trans (if_pos e)))
            rw [this] at hfu
            have := of_decide_eq_false hfu
            omega
          have tk6 : k = 6 → w.1 7 (amF f L i 0 (b 0 0)).2.1 = 0 := fun e => by
            have : takB b w k (amF f L i 0 (b 0 0)).2.1 = !decide (w.1 7 (amF f L i 0 (b 0 0)).2.1 = 0) := (if_neg (by omega)).trans ((if_neg (by omega)).trans (if_pos e))
            rw [this] at htk
            simpa using htk
          obtain ⟨x1, x2⟩ := tlB_Ok (k := k) (c := (amF f L i 0 (b 0 0)).2.1) (v := (secF f L b k (amF f L i 0 (b 0 0)).2.2).2.1) ok.1 hc hk t1 t3 (fun e => ⟨fu4 e, t4 e⟩) fu5
          obtain ⟨y1, y2, y3, y4, y5, y6, y7⟩ := tlW_Ok (k := k) (c := (amF f L i 0 (b 0 0)).2.1) (v := (secF f L b k (amF f L i 0 (b 0 0)).2.2).2.1) ok hc hb16 hk (fun e => ⟨fu6 e, tk6 e, t6 e⟩) (fun e => ⟨fu7 e, t7 e⟩)
          exact ⟨x1, OkW_b y1 x2 y6, y2, y3, y4, y5, y6, y7, fun _ => Nat.le_trans h2b (Nat.le_of_eq x2.symm), fun z => absurd z (Nat.succ_ne_zero _)⟩
      · rw [if_pos g0]
        exact ⟨by show (secF f L b k (amF f L i 0 (b 0 0)).2.2).1 ≤ _; omega, s1, fun z => absurd z g0⟩
  · rw [if_pos h0]
    exact ⟨by show (amF f L i 0 (b 0 0)).1 ≤ _; omega, q1, fun z => absurd z h0⟩
theorem par_b {k : Nat} (hk : k ≤ 7) (ok : OkR n b w) (hnk : n = 0 ↔ k = 0) (hfu : fulB b w k = false) (hL : L ≤ 400) (hi : i ≤ L) : (parF f L k b w i).1 ≤ 8 * L + 5 ∧ (parF f L k b w i).2.2.2 ≤ L ∧ ((parF f L k b w i).1 = 0 → OkR (n + 1) (parF f L k b w i).2.1 (parF f L k b w i).2.2.1) := by
  unfold parF
  by_cases hk0 : k = 0
  · rw [if_pos hk0]
    obtain ⟨q1, q2, q3, q4⟩ := am_b (f := f) (lo := 2) (hi := 17) hi
    by_cases h0 : (amF f L i 2 17).1 = 0
    · rw [if_neg (fun z => z h0)]
      refine ⟨Nat.zero_le _, q1, fun _ => ?_⟩
      obtain ⟨v1, v2⟩ := q4 h0
      obtain ⟨hb, okw, d0, n10, sh, n5, p0, fr, _, hz⟩ := ok
      obtain ⟨_, _, z3, z4⟩ := hz (hnk.mpr hk0)
      refine ⟨stB_Ok (by omega), ⟨okw.1, fun s hs => absurd hs (by rw [z3]; exact Nat.not_lt_zero _), fun i hi => ⟨by rw [z4]; decide, fun h => absurd (z4 i) h⟩, fun k hk _ => p0 k hk⟩, d0, n10, sh, n5, p0, fr, fun _ => v1, fun z => absurd z (Nat.succ_ne_zero _)⟩
    · rw [if_pos h0]
      exact ⟨by show (amF f L i 2 17).1 ≤ _; omega, q1, fun z => absurd z h0⟩
  · rw [if_neg hk0]
    exact cel_b (by omega) hk ok (fun e => hk0 (hnk.mp e)) hfu hL hi
theorem cla_b (ok : OkR n b w) (hL : L ≤ 400) (hi : i ≤ L) : (claF f L n b w i).1 ≤ 8 * L + 5 ∧ (claF f L n b w i).2.2.2 ≤ L ∧ ((claF f L n b w i).1 = 0 → n < 40 ∧ OkR (n + 1) (claF f L n b w i).2.1 (claF f L n b w i).2.2.1) := by
  have hb := bk_b (f := f) hi
  unfold claF
  cases hw : wiF f L (bk f L i) rvW 0 with
  | none =>
    refine ⟨?_, hb.2.1, fun z => ?_⟩
    · show 1 + 8 * bk f L i ≤ _
      omega
    · have z : 1 + 8 * bk f L i = 0 := z
      omega
  | some r =>
    obtain ⟨w1, w2, w3⟩ := wi_b rvW 0 hw
    have w2 : r.1 < 0 + 8 := w2
    show (if 40 ≤ n ∨ ¬ (n = 0 ↔ r.1 = 0) ∨ fulB b w r.1 = true then (5 + 8 * bk f L i, b, w, bk f L i) else parF f L r.1 b w (bk f L i + r.2)).1 ≤ _ ∧ (if 40 ≤ n ∨ ¬ (n = 0 ↔ r.1 = 0) ∨ fulB b w r.1 = true then (5 + 8 * bk f L i, b, w, bk f L i) else parF f L r.1 b w (bk f L i + r.2)).2.2.2 ≤ L ∧ ((if 40 ≤ n ∨ ¬ (n = 0 ↔ r.1 = 0) ∨ fulB b w r.1 = true then (5 + 8 * bk f L i, b, w, bk f L i) else parF f L r.1 b w (bk f L i + r.2)).1 = 0 → n < 40 ∧ OkR (n + 1) (if 40 ≤ n ∨ ¬ (n = 0 ↔ r.1 = 0) ∨ fulB b w r.1 = true then (5 + 8 * bk f L i, b, w, bk f L i) else parF f L r.1 b w (bk f L i + r.2)).2.1 (if 40 ≤ n ∨ ¬ (n = 0 ↔ r.1 = 0) ∨ fulB b w r.1 = true then (5 + 8 * bk f L i, b, w, bk f L i) else parF f L r.1 b w (bk f L i + r.2)).2.2.1)
    by_cases hc : 40 ≤ n ∨ ¬ (n = 0 ↔ r.1 = 0) ∨ fulB b w r.1 = true
    · rw [if_pos hc]
      refine ⟨?_, hb.2.1, fun z => ?_⟩
      · show 5 + 8 * bk f L i ≤ _
        omega
      · have z : 5 + 8 * bk f L i = 0 := z
        omega
    · rw [if_neg hc]
      have c1 : n < 40 := by
        refine Nat.lt_of_not_le (fun z => hc (Or.inl z))
      have c2 : n = 0 ↔ r.1 = 0 := Classical.byContradiction (fun z => hc (Or.inr (Or.inl z)))
      have c3 : fulB b w r.1 = false := Bool.eq_false_iff.mpr (fun z => hc (Or.inr (Or.inr z)))
      obtain ⟨p1, p2, p3⟩ := par_b (f := f) (k := r.1) (by omega) ok c2 c3 hL w3
      exact ⟨p1, p2, fun z => ⟨c1, p3 z⟩⟩
end Ok
section Go
variable {T00 T : xS} {f : Nat → Nat} {L i n : Nat} {b : AB} {w : AW}
theorem g18l {p N : Nat} {T0 : xS} (hN : N ≤ 16) : ∀ (m c : Nat) (T : xS), c + m = 16 → (T.1 p 0 = nI N ∧ T.1 p 1 = nI 0 ∧ T.1 p 2 = nI 0) → (∀ i, i < c → T.2.1 (p + 1) i = zI (stB N 1 i) ∧ T.2.1 (p + 2) i = nI 0 ∧ T.2.1 (p + 3) i = zI 0 ∧ T.2.1 (p + 4) i = zI 0) → (∀ q, q ≠ p → T.1 q = T0.1 q) → (∀ q, (q ≤ p ∨ p + 4 < q) → T.2.1 q = T0.2.1 q) → T.2.2 = T0.2.2 → Ep (fun n => G18f p n 17 (nI N) (nI c) T) (fun z => CB z.2 p (stB N) ∧ (∀ q, q ≠ p → z.2.1 q = T0.1 q) ∧ (∀ q, (q ≤ p ∨ p + 4 < q) → z.2.2.1 q = T0.2.1 q) ∧ z.2.2.2 = T0.2.2) := by
  intro m
  induction m with
  | zero =>
    intro c T hc h0 h1 h2 h3 h4
    have e1 : 16 ≤ c := by omega
    refine ep_succ (fun n => G18e17 p n ..) ?_
    simp (disch := omega) only [G18b17, L0, L1, L2, L3, L4, L5, L6, L7, L8, L9, L10, L11, L12, L13, L16, L20, L31, L32, L40, L48, L57, L59, L60, L61, L91, L93, L97, L99, L100, L102, L103, L114, L122, L255, L300, L400, L402, L999, L2280, L2500, L99999, L63, L1431655765, L858993459, L252645135, ic_ge, ic_gt, ic_le, ic_lt, ic_eq, ic_ne, if_lt, if_ge, if_gt, if_le, if_eq, if_ne, if_lt_zI, if_ge_zI, ic_ne_m1, ic_eq_m1, ic_nn_m1, ic_ee_m1, if_ne_b2i, if_eq_b2i, b2i_z, decide_eq_true_eq, decide_true, decide_false, Bool.not_eq_true, Bool.not_eq_true', Bool.not_true, Bool.not_false, decide_eq_false_iff_not, Bool.false_eq_true, not_false_eq_true, not_true_eq_false, if_true, if_false, ↓reduceIte, eq_self, Option.bind_some, Bool.true_and, Bool.false_and, Bool.and_true, Bool.and_false, nI_add, nI_subN, nI_clamp, gdF, gdF2, gdP, gdP2, zI_cl, zI_s, Lm1, nI_n0, zI_n0, leF, or_false, false_or, or_self, e1]
    refine ep_ret ⟨⟨h0.1, h0.2.1, h0.2.2, fun i hi => ?_, fun k hk => absurd hk (Nat.not_lt_zero _)⟩, h2, h3, h4⟩
    have hi : i < N := hi
    exact h1 i (by omega)
  | succ m ih =>
    intro c T hc h0 h1 h2 h3 h4
    have e1 : ¬ 16 ≤ c := by omega
    have fin : ∀ v, v = zI (stB N 1 c) → Ep (fun n => G18f p n 17 (nI N) (nI (c + 1)) (x_sA (x_sA (x_sA (x_sA T (p + 1) c v) (p + 2) c (nI 0)) (p + 3) c (zI 0)) (p + 4) c (zI 0))) (fun z => CB z.2 p (stB N) ∧ (∀ q, q ≠ p → z.2.1 q = T0.1 q) ∧ (∀ q, (q ≤ p ∨ p + 4 < q) → z.2.2.1 q = T0.2.1 q) ∧ z.2.2.2 = T0.2.2) := by
      intro v hv
      refine ih (c + 1) _ (by omega) h0 (fun i hi => ?_) h2 (fun q hq => ?_) h4
      · by_cases ei : i = c
        · subst ei
          refine ⟨?_, ?_, ?_, ?_⟩ <;> simp (disch := omega) only [x_rAn, x_rAe]
          exact hv
        · obtain ⟨a1, a2, a3, a4⟩ := h1 i (by omega)
          refine ⟨?_, ?_, ?_, ?_⟩ <;> simp (disch := omega) only [x_rAn, x_rAi, a1, a2, a3, a4]
      · rw [x_rAn (by omega), x_rAn (by omega), x_rAn (by omega), x_rAn (by omega)]
        exact h3 q hq
    refine ep_succ (fun n => G18e17 p n ..) ?_
    by_cases hl : N ≤ c + 1
    · simp (disch := omega) only [G18b17, L0, L1, L2, L3, L4, L5, L6, L7, L8, L9, L10, L11, L12, L13, L16, L20, L31, L32, L40, L48, L57, L59, L60, L61, L91, L93, L97, L99, L100, L102, L103, L114, L122, L255, L300, L400, L402, L999, L2280, L2500, L99999, L63, L1431655765, L858993459, L252645135, ic_ge, ic_gt, ic_le, ic_lt, ic_eq, ic_ne, if_lt, if_ge, if_gt, if_le, if_eq, if_ne, if_lt_zI, if_ge_zI, ic_ne_m1, ic_eq_m1, ic_nn_m1, ic_ee_m1, if_ne_b2i, if_eq_b2i, b2i_z, decide_eq_true_eq, decide_true, decide_false, Bool.not_eq_true, Bool.not_eq_true', Bool.not_true, Bool.not_false, decide_eq_false_iff_not, Bool.false_eq_true, not_false_eq_true, not_true_eq_false, if_true, if_false, ↓reduceIte, eq_self, Option.bind_some, Bool.true_and, Bool.false_and, Bool.and_true, Bool.and_false, nI_add, nI_subN, nI_clamp, gdF, gdF2, gdP, gdP2, zI_cl, zI_s, Lm1, nI_n0, zI_n0, leF, or_false, false_or, or_self, e1, hl]
      refine fin (zI 0) ?_
      show zI 0 = zI (if c + 1 < N then c + 2 else 0)
      rw [if_neg (by omega)]
    · simp (disch := omega) only [G18b17, L0, L1, L2, L3, L4, L5, L6, L7, L8, L9, L10, L11, L12, L13, L16, L20, L31, L32, L40, L48, L57, L59, L60, L61, L91, L93, L97, L99, L100, L102, L103, L114, L122, L255, L300, L400, L402, L999, L2280, L2500, L99999, L63, L1431655765, L858993459, L252645135, ic_ge, ic_gt, ic_le, ic_lt, ic_eq, ic_ne, if_lt, if_ge, if_gt, if_le, if_eq, if_ne, if_lt_zI, if_ge_zI, ic_ne_m1, ic_eq_m1, ic_nn_m1, ic_ee_m1, if_ne_b2i, if_eq_b2i, b2i_z, decide_eq_true_eq, decide_true, decide_false, Bool.not_eq_true, Bool.not_eq_true', Bool.not_true, Bool.not_false, decide_eq_false_iff_not, Bool.false_eq_true, not_false_eq_true, not_true_eq_false, if_true, if_false, ↓reduceIte, eq_self, Option.bind_some, Bool.true_and, Bool.false_and, Bool.and_true, Bool.and_false, nI_add, nI_subN, nI_clamp, gdF, gdF2, gdP, gdP2, zI_cl, zI_s, Lm1, nI_n0, zI_n0, leF, or_false, false_or, or_self, e1, hl]
      refine fin (nI (c + 1)) ?_
      show nI (c + 1) = zI (if c + 1 < N then c + 2 else 0)
      rw [if_pos (by omega), zI_s]
theorem g18 {p N : Nat} (hN : N ≤ 16) : Ep (fun n => G18 p n (nI N) T) (fun z => CB z.2 p (stB N) ∧ (∀ q, q ≠ p → z.2.1 q = T.1 q) ∧ (∀ q, (q ≤ p ∨ p + 4 < q) → z.2.2.1 q = T.2.1 q) ∧ z.2.2.2 = T.2.2) := by
  refine ep_succ (fun n => G18e0 p n ..) ?_
  simp only [G18b0, Option.bind_some, L0]
  refine g18l hN 16 0 _ (by omega) ⟨?_, ?_, x_rIe⟩ (fun i hi => absurd hi (Nat.not_lt_zero _)) (fun q hq => ?_) (fun q hq => rfl) rfl
  · rw [x_rIi (by decide), x_rIi (by decide), x_rIe]
  · rw [x_rIi (by decide), x_rIe]
  · rw [x_rIn hq, x_rIn hq, x_rIn hq]
theorem g20l {p N : Nat} {T0 : xS} (hN : N ≤ 1000) : ∀ (m c : Nat) (T : xS), c + m = N → (∀ i, i < c → T.2.1 p i = nI 0) → (∀ q, q ≠ p → T.2.1 q = T0.2.1 q) → T.1 = T0.1 → T.2.2 = T0.2.2 → Ep (fun n => G20f p N n 5 (nI 0) (nI c) (nI N) T) (fun z => (∀ i, i < N → z.2.2.1 p i = nI 0) ∧ (∀ q, q ≠ p → z.2.2.1 q = T0.2.1 q) ∧ z.2.1 = T0.1 ∧ z.2.2.2 = T0.2.2) := by
  intro m
  induction m with
  | zero =>
    intro c T hc h1 h2 h3 h4
    have ec : c = N := by omega
    subst ec
    refine ep_succ (fun n => G20e5 p c n ..) ?_
    simp (disch := omega) only [G20b5, L0, L1, L2, L3, L4, L5, L6, L7, L8, L9, L10, L11, L12, L13, L16, L20, L31, L32, L40, L48, L57, L59, L60, L61, L91, L93, L97, L99, L100, L102, L103, L114, L122, L255, L300, L400, L402, L999, L2280, L2500, L99999, L63, L1431655765, L858993459, L252645135, ic_ge, ic_gt, ic_le, ic_lt, ic_eq, ic_ne, if_lt, if_ge, if_gt, if_le, if_eq, if_ne, if_lt_zI, if_ge_zI, ic_ne_m1, ic_eq_m1, ic_nn_m1, ic_ee_m1, if_ne_b2i, if_eq_b2i, b2i_z, decide_eq_true_eq, decide_true, decide_false, Bool.not_eq_true, Bool.not_eq_true', Bool.not_true, Bool.not_false, decide_eq_false_iff_not, Bool.false_eq_true, not_false_eq_true, not_true_eq_false, if_true, if_false, ↓reduceIte, eq_self, Option.bind_some, Bool.true_and, Bool.false_and, Bool.and_true, Bool.and_false, nI_add, nI_subN, nI_clamp, gdF, gdF2, gdP, gdP2, zI_cl, zI_s, Lm1, nI_n0, zI_n0, leF, or_false, false_or, or_self, Nat.le_refl]
    exact ep_ret ⟨h1, h2, h3, h4⟩
  | succ m ih =>
    intro c T hc h1 h2 h3 h4
    have e1 : ¬ N ≤ c := by omega
    refine ep_succ (fun n => G20e5 p N n ..) ?_
    simp (disch := omega) only [G20b5, L0, L1, L2, L3, L4, L5, L6, L7, L8, L9, L10, L11, L12, L13, L16, L20, L31, L32, L40, L48, L57, L59, L60, L61, L91, L93, L97, L99, L100, L102, L103, L114, L122, L255, L300, L400, L402, L999, L2280, L2500, L99999, L63, L1431655765, L858993459, L252645135, ic_ge, ic_gt, ic_le, ic_lt, ic_eq, ic_ne, if_lt, if_ge, if_gt, if_le, if_eq, if_ne, if_lt_zI, if_ge_zI, ic_ne_m1, ic_eq_m1, ic_nn_m1, ic_ee_m1, if_ne_b2i, if_eq_b2i, b2i_z, decide_eq_true_eq, decide_true, decide_false, Bool.not_eq_true, Bool.not_eq_true', Bool.not_true, Bool.not_false, decide_eq_false_iff_not, Bool.false_eq_true, not_false_eq_true, not_true_eq_false, if_true, if_false, ↓reduceIte, eq_self, Option.bind_some, Bool.true_and, Bool.false_and, Bool.and_true, Bool.and_false, nI_add, nI_subN, nI_clamp, gdF, gdF2, gdP, gdP2, zI_cl, zI_s, Lm1, nI_n0, zI_n0, leF, or_false, false_or, or_self, e1]
    refine ih (c + 1) _ (by omega) (fun i hi => ?_) (fun q hq => by rw [x_rAn hq]; exact h2 q hq) h3 h4
    by_cases ei : i = c
    · rw [ei, x_rAe]
    · rw [x_rAi ei]
      exact h1 i (by omega)
theorem g20 {p N : Nat} (hN : N ≤ 1000) : Ep (fun n => G20 p N n (nI 0) T) (fun z => (∀ i, i < N → z.2.2.1 p i = nI 0) ∧ (∀ q, q ≠ p → z.2.2.1 q = T.2.1 q) ∧ z.2.1 = T.1 ∧ z.2.2.2 = T.2.2) := by
  refine ep_succ (fun n => G20e0 p N n ..) ?_
  simp only [G20b0, L0]
  exact g20l hN N 0 T (Nat.zero_add _) (fun i hi => absurd hi (Nat.not_lt_zero _)) (fun _ _ => rfl) rfl rfl
theorem g19 {p : Nat} : Ep (fun n => G19 p n T) (fun z => CW z.2 p w0A ∧ FrW p T z.2) := by
  refine ep_succ (fun n => G19e0 p n ..) ?_
  simp only [G19b0, Option.bind_some, L0]
  refine ep_bind (g20 (p := p + 9) (N := 16) (by decide)) ?_
  rintro ⟨_, T1⟩ ⟨a1, a2, a3, a4⟩
  have a1 : ∀ i, i < 16 → T1.2.1 (p + 9) i = nI 0 := a1
  have a2 : ∀ q, q ≠ p + 9 → T1.2.1 q = T.2.1 q := a2
  have a3 : T1.1 = (x_sI (x_sI (x_sI T p 0 (nI 0)) p 1 (nI 0)) p 2 (nI 0)).1 := a3
  have a4 : T1.2.2 = T.2.2 := a4
  refine ep_bind (g20 (p := p + 10) (N := 6) (by decide)) ?_
  rintro ⟨_, T2⟩ ⟨b1, b2, b3, b4⟩
  have b1 : ∀ i, i < 6 → T2.2.1 (p + 10) i = nI 0 := b1
  have b2 : ∀ q, q ≠ p + 10 → T2.2.1 q = T1.2.1 q := b2
  have b3 : T2.1 = T1.1 := b3
  have b4 : T2.2.2 = T1.2.2 := b4
  refine ep_ret ⟨⟨?_, ?_, ?_, fun s hs => absurd hs (Nat.not_lt_zero _), fun i hi => ?_, fun k hk => b1 k hk⟩, fun q hq => ⟨?_, ?_⟩, b4.trans a4⟩
  · show T2.1 p 0 = nI 0
    rw [b3, a3, x_rIi (by decide), x_rIi (by decide), x_rIe]
  · show T2.1 p 1 = nI 0
    rw [b3, a3, x_rIi (by decide), x_rIe]
  · show T2.1 p 2 = nI 0
    rw [b3, a3, x_rIe]
  · show T2.2.1 (p + 9) i = nI 0
    rw [b2 _ (by omega)]
    exact a1 i hi
  · rw [b3, a3, x_rIn (by omega), x_rIn (by omega), x_rIn (by omega)]
  · rw [b2 q (by omega), a2 q (by omega)]
def RvY (T00 : xS) (L : Nat) (res : Nat × AB × AW × Nat) (z : Int32 × xS) : Prop := z.1 = (if res.1 = 0 then nI 1 else nI 0) ∧ ∃ p, (res.1 = 0 → p = res.2.2.2) ∧ RvT T00 z.2 L p res.1 res.2.1 res.2.2.1
theorem RvZ_Y {res : Nat × AB × AW × Nat} {z : Int32 × xS} (h : RvZ T00 L res z) : RvY T00 L res z := ⟨h.1, _, fun _ => rfl, h.2⟩
theorem g39 (hH : TH T00 f L) (h : RvT T00 T L i 0 b w) (hi : i ≤ L) : Ep (fun n => G39 n T) (RvZ T00 L (parF f L 0 b w i)) := by
  obtain ⟨m, ht⟩ := h.1
  obtain ⟨q1, q2, q3, q4⟩ := am_b (f := f) (lo := 2) (hi := 17) hi
  obtain ⟨res, hres⟩ : ∃ res, res = parF f L 0 b w i := ⟨_, rfl⟩
  rw [← hres]
  refine ep_succ (fun n => G39e0 n ..) ?_
  simp only [G39b0]
  refine ep_bind (g40 (RvT_TH hH h) (lo := 2) (hi := 17) (by decide) (by decide) (by decide) hi ht) ?_
  rintro ⟨z1, T1⟩ ⟨a1, a2⟩
  have a1 : z1 = if (amF f L i 2 17).1 = 0 then nI (amF f L i 2 17).2.1 else zI 0 := a1
  have a2 : TP T1 T L (amF f L i 2 17).2.2 (bk f L i) (amF f L i 2 17).1 := a2
  subst a1
  by_cases h0 : (amF f L i 2 17).1 = 0
  · have er : res = (0, stB (amF f L i 2 17).2.1, w, (amF f L i 2 17).2.2) := by
      rw [hres]
      exact (if_pos rfl).trans (if_neg (fun z => z h0))
    have hv := (q4 h0).2
    rw [if_pos h0, er]
    rw [h0] at a2
    have rv1 : RvT T00 T1 L (amF f L i 2 17).2.2 0 b w := RvT_tp h a2
    have e1 : am_ic .ne (nI (amF f L i 2 17).2.1) (-1) = true := ic_nn_m1 (by omega)
    simp only [e1, if_true]
    refine ep_bind (g18 (p := 68) (by omega)) ?_
    rintro ⟨_, T2⟩ ⟨b1, b2, b3, b4⟩
    have b2 : ∀ q, q ≠ 68 → T2.1 q = T1.1 q := b2
    have b3 : ∀ q, (q ≤ 68 ∨ 68 + 4 < q) → T2.2.1 q = T1.2.1 q := b3
    exact ep_ret ⟨rfl, RvT_mk rv1 (b2 65 (by decide)) b1 (CW_k rv1.2.2.1 (b2 74 (by decide)) (fun q x y => b3 q (by omega))) (fun q hq => ⟨b2 q (by omega), b3 q (by omega)⟩) (b3 66 (by omega)) b4⟩
  · have er : res = ((amF f L i 2 17).1, b, w, (amF f L i 2 17).2.2) := by
      rw [hres]
      exact (if_pos rfl).trans (if_pos h0)
    rw [if_neg h0, er]
    have e1 : am_ic .ne (zI 0) (-1) = false := by decide
    simp only [e1, decide_eq_true_eq, decide_true, decide_false, Bool.not_eq_true, Bool.not_eq_true', Bool.not_true, Bool.not_false, decide_eq_false_iff_not, Bool.false_eq_true, not_false_eq_true, not_true_eq_false, if_true, if_false, ↓reduceIte, eq_self, Option.bind_some, Bool.true_and, Bool.false_and, Bool.and_true, Bool.and_false]
    exact ep_ret ⟨(if_neg h0).symm, RvT_tp h a2⟩
end Go
