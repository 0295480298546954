/-! rivers told: the program -/
section Rw
variable {T00 T : xS} {f : Nat → Nat} {L i e n : Nat} {b : AB} {w : AW}
theorem CW_k {T' : xS} {p : Nat} (h : CW T p w) (h1 : T'.1 p = T.1 p) (h2 : ∀ q, p < q → q ≤ p + 10 → T'.2.1 q = T.2.1 q) : CW T' p w := CW_of h h1 (fun k a b => h2 (p + k) (by omega) (by omega))
theorem CB_k {T' : xS} {p : Nat} (h : CB T p b) (h1 : T'.1 p = T.1 p) (h2 : ∀ q, p < q → q ≤ p + 5 → T'.2.1 q = T.2.1 q) : CB T' p b := CB_of h h1 (fun k a b => h2 (p + k) (by omega) (by omega))
theorem CW_mesh {c v : Nat} (h : CW T 74 w) : CW (x_sA T 83 c (nI v)) 74 (aS w 7 c v) := by
  obtain ⟨k0, k1, k2, k3, k4, k5⟩ := h
  refine ⟨k0, k1, k2, fun s hs => ?_, fun i hi => ?_, fun i hi => ?_⟩
  · simp (disch := omega) only [x_rAn, aS_n]
    exact k3 s hs
  · by_cases e : i = c
    · rw [e, aS_e]
      exact x_rAe
    · rw [aS_i e]
      exact (x_rAi e).trans (k4 i hi)
  · simp (disch := omega) only [x_rAn, aS_n]
    exact k5 i hi
theorem g47 {k c v : Nat} (hk1 : 1 ≤ k) (hk : k ≤ 7) (hc : c < 16) (h : RvT T00 T L i e b w) (h4 : k = 4 → b 0 1 < 6) (h5 : k = 5 → b 0 2 < 4) (h7 : k = 7 → w.1 0 1 < 13 ∧ isTx v = true) : Ep (fun n => G47 n (nI k) (nI c) (nI v) T) (fun z => RvT T00 z.2 L i e (tlB k c v b) (tlW k c v w)) := by
  have hB := h.2.1
  have hW := h.2.2.1
  rcases k8 hk with rfl | rfl | rfl | rfl | rfl | rfl | rfl | rfl
  · omega
  · have s : ¬ ((nI 1).toInt < 1 ∨ 6 < (nI 1).toInt) := by decide
    refine ep_succ (fun n => G47e0 n ..) ?_
    simp (disch := omega) only [G47b0, s, L0, L1, L2, L3, L4, L5, L6, L7, L8, L9, L10, L11, L12, L13, L16, L20, L31, L32, L40, L48, L57, L59, L60, L61, L91, L93, L97, L99, L100, L102, L103, L114, L122, L255, L300, L400, L402, L999, L2280, L2500, L99999, L63, L1431655765, L858993459, L252645135, ic_ge, ic_gt, ic_le, ic_lt, ic_eq, ic_ne, if_lt, if_ge, if_gt, if_le, if_eq, if_ne, if_lt_zI, if_ge_zI, ic_ne_m1, ic_eq_m1, ic_nn_m1, ic_ee_m1, if_ne_b2i, if_eq_b2i, b2i_z, decide_eq_true_eq, decide_true, decide_false, Bool.not_eq_true, Bool.not_eq_true', Bool.not_true, Bool.not_false, decide_eq_false_iff_not, Bool.false_eq_true, not_false_eq_true, not_true_eq_false, if_true, if_false, ↓reduceIte, eq_self, Option.bind_some, Bool.true_and, Bool.false_and, Bool.and_true, Bool.and_false, nI_add, nI_subN, nI_clamp, gdF, gdF2, gdP, gdP2, zI_cl, zI_s, Lm1, nI_n0, zI_n0, leF, or_false, false_or, or_self]
    have hb := CB_c1 (c := c) (v := v + 1) hB
    rw [zI_s] at hb
    exact ep_ret (RvT_mk h rfl hb (CW_k hW rfl (fun q a b => x_rAn (by omega))) (fun q hq => ⟨rfl, x_rAn (by omega)⟩) (x_rAn (by decide)) rfl)
  · have s : ¬ ((nI 2).toInt < 1 ∨ 6 < (nI 2).toInt) := by decide
    have s1 : ¬ nI 2 = nI 1 := by decide
    refine ep_succ (fun n => G47e0 n ..) ?_
    simp (disch := omega) only [G47b0, s, L0, L1, L2, L3, L4, L5, L6, L7, L8, L9, L10, L11, L12, L13, L16, L20, L31, L32, L40, L48, L57, L59, L60, L61, L91, L93, L97, L99, L100, L102, L103, L114, L122, L255, L300, L400, L402, L999, L2280, L2500, L99999, L63, L1431655765, L858993459, L252645135, ic_ge, ic_gt, ic_le, ic_lt, ic_eq, ic_ne, if_lt, if_ge, if_gt, if_le, if_eq, if_ne, if_lt_zI, if_ge_zI, ic_ne_m1, ic_eq_m1, ic_nn_m1, ic_ee_m1, if_ne_b2i, if_eq_b2i, b2i_z, decide_eq_true_eq, decide_true, decide_false, Bool.not_eq_true, Bool.not_eq_true', Bool.not_true, Bool.not_false, decide_eq_false_iff_not, Bool.false_eq_true, not_false_eq_true, not_true_eq_false, if_true, if_false, ↓reduceIte, eq_self, Option.bind_some, Bool.true_and, Bool.false_and, Bool.and_true, Bool.and_false, nI_add, nI_subN, nI_clamp, gdF, gdF2, gdP, gdP2, zI_cl, zI_s, Lm1, nI_n0, zI_n0, leF, or_false, false_or, or_self, s1]
    exact ep_ret (RvT_mk h rfl (CB_c1 (c := c) (v := 0) hB) (CW_k hW rfl (fun q a b => x_rAn (by omega))) (fun q hq => ⟨rfl, x_rAn (by omega)⟩) (x_rAn (by decide)) rfl)
  · have s : ¬ ((nI 3).toInt < 1 ∨ 6 < (nI 3).toInt) := by decide
    have s1 : ¬ nI 3 = nI 1 := by decide
    have s2 : ¬ nI 3 = nI 2 := by decide
    refine ep_succ (fun n => G47e0 n ..) ?_
    simp (disch := omega) only [G47b0, s, L0, L1, L2, L3, L4, L5, L6, L7, L8, L9, L10, L11, L12, L13, L16, L20, L31, L32, L40, L48, L57, L59, L60, L61, L91, L93, L97, L99, L100, L102, L103, L114, L122, L255, L300, L400, L402, L999, L2280, L2500, L99999, L63, L1431655765, L858993459, L252645135, ic_ge, ic_gt, ic_le, ic_lt, ic_eq, ic_ne, if_lt, if_ge, if_gt, if_le, if_eq, if_ne, if_lt_zI, if_ge_zI, ic_ne_m1, ic_eq_m1, ic_nn_m1, ic_ee_m1, if_ne_b2i, if_eq_b2i, b2i_z, decide_eq_true_eq, decide_true, decide_false, Bool.not_eq_true, Bool.not_eq_true', Bool.not_true, Bool.not_false, decide_eq_false_iff_not, Bool.false_eq_true, not_false_eq_true, not_true_eq_false, if_true, if_false, ↓reduceIte, eq_self, Option.bind_some, Bool.true_and, Bool.false_and, Bool.and_true, Bool.and_false, nI_add, nI_subN, nI_clamp, gdF, gdF2, gdP, gdP2, zI_cl, zI_s, Lm1, nI_n0, zI_n0, leF, or_false, false_or, or_self, s1, s2]
    exact ep_ret (RvT_mk h rfl (CB_c2 (c := c) (v := v) hB) (CW_k hW rfl (fun q a b => x_rAn (by omega))) (fun q hq => ⟨rfl, x_rAn (by omega)⟩) (x_rAn (by decide)) rfl)
  · have s : ¬ ((nI 4).toInt < 1 ∨ 6 < (nI 4).toInt) := by decide
    have s1 : ¬ nI 4 = nI 1 := by decide
    have s2 : ¬ nI 4 = nI 2 := by decide
    have s3 : ¬ nI 4 = nI 3 := by decide
    refine ep_succ (fun n => G47e0 n ..) ?_
    simp (disch := omega) only [G47b0, s, L0, L1, L2, L3, L4, L5, L6, L7, L8, L9, L10, L11, L12, L13, L16, L20, L31, L32, L40, L48, L57, L59, L60, L61, L91, L93, L97, L99, L100, L102, L103, L114, L122, L255, L300, L400, L402, L999, L2280, L2500, L99999, L63, L1431655765, L858993459, L252645135, ic_ge, ic_gt, ic_le, ic_lt, ic_eq, ic_ne, if_lt, if_ge, if_gt, if_le, if_eq, if_ne, if_lt_zI, if_ge_zI, ic_ne_m1, ic_eq_m1, ic_nn_m1, ic_ee_m1, if_ne_b2i, if_eq_b2i, b2i_z, decide_eq_true_eq, decide_true, decide_false, Bool.not_eq_true, Bool.not_eq_true', Bool.not_true, Bool.not_false, decide_eq_false_iff_not, Bool.false_eq_true, not_false_eq_true, not_true_eq_false, if_true, if_false, ↓reduceIte, eq_self, Option.bind_some, Bool.true_and, Bool.false_and, Bool.and_true, Bool.and_false, nI_add, nI_subN, nI_clamp, gdF, gdF2, gdP, gdP2, zI_cl, zI_s, Lm1, nI_n0, zI_n0, leF, or_false, false_or, or_self, s1, s2, s3]
    refine ep_bind (g48 hB hc (h4 rfl)) ?_
    rintro ⟨_, T1⟩ ⟨a1, a2, a3, a4⟩
    have a2 : ∀ q, q ≠ 68 → T1.1 q = T.1 q := a2
    have a3 : ∀ q, q ≠ 71 → q ≠ 73 → T1.2.1 q = T.2.1 q := a3
    exact ep_ret (RvT_mk h (a2 65 (by decide)) a1 (CW_k hW (a2 74 (by decide)) (fun q x y => a3 q (by omega) (by omega))) (fun q hq => ⟨a2 q (by omega), a3 q (by omega) (by omega)⟩) (a3 66 (by decide) (by decide)) a4)
  · have s : ¬ ((nI 5).toInt < 1 ∨ 6 < (nI 5).toInt) := by decide
    have s1 : ¬ nI 5 = nI 1 := by decide
    have s2 : ¬ nI 5 = nI 2 := by decide
    have s3 : ¬ nI 5 = nI 3 := by decide
    have s4 : ¬ nI 5 = nI 4 := by decide
    refine ep_succ (fun n => G47e0 n ..) ?_
    simp (disch := omega) only [G47b0, s, L0, L1, L2, L3, L4, L5, L6, L7, L8, L9, L10, L11, L12, L13, L16, L20, L31, L32, L40, L48, L57, L59, L60, L61, L91, L93, L97, L99, L100, L102, L103, L114, L122, L255, L300, L400, L402, L999, L2280, L2500, L99999, L63, L1431655765, L858993459, L252645135, ic_ge, ic_gt, ic_le, ic_lt, ic_eq, ic_ne, if_lt, if_ge, if_gt, if_le, if_eq, if_ne, if_lt_zI, if_ge_zI, ic_ne_m1, ic_eq_m1, ic_nn_m1, ic_ee_m1, if_ne_b2i, if_eq_b2i, b2i_z, decide_eq_true_eq, decide_true, decide_false, Bool.not_eq_true, Bool.not_eq_true', Bool.not_true, Bool.not_false, decide_eq_false_iff_not, Bool.false_eq_true, not_false_eq_true, not_true_eq_false, if_true, if_false, ↓reduceIte, eq_self, Option.bind_some, Bool.true_and, Bool.false_and, Bool.and_true, Bool.and_false, nI_add, nI_subN, nI_clamp, gdF, gdF2, gdP, gdP2, zI_cl, zI_s, Lm1, nI_n0, zI_n0, leF, or_false, false_or, or_self, s1, s2, s3, s4]
    refine ep_bind (g49 hB hc (h5 rfl)) ?_
    rintro ⟨_, T1⟩ ⟨a1, a2, a3, a4⟩
    have a2 : ∀ q, q ≠ 68 → T1.1 q = T.1 q := a2
    have a3 : ∀ q, q ≠ 72 → T1.2.1 q = T.2.1 q := a3
    exact ep_ret (RvT_mk h (a2 65 (by decide)) a1 (CW_k hW (a2 74 (by decide)) (fun q x y => a3 q (by omega))) (fun q hq => ⟨a2 q (by omega), a3 q (by omega)⟩) (a3 66 (by decide)) a4)
  · have s : ¬ ((nI 6).toInt < 1 ∨ 6 < (nI 6).toInt) := by decide
    have s1 : ¬ nI 6 = nI 1 := by decide
    have s2 : ¬ nI 6 = nI 2 := by decide
    have s3 : ¬ nI 6 = nI 3 := by decide
    have s4 : ¬ nI 6 = nI 4 := by decide
    have s5 : ¬ nI 6 = nI 5 := by decide
    refine ep_succ (fun n => G47e0 n ..) ?_
    simp (disch := omega) only [G47b0, s, L0, L1, L2, L3, L4, L5, L6, L7, L8, L9, L10, L11, L12, L13, L16, L20, L31, L32, L40, L48, L57, L59, L60, L61, L91, L93, L97, L99, L100, L102, L103, L114, L122, L255, L300, L400, L402, L999, L2280, L2500, L99999, L63, L1431655765, L858993459, L252645135, ic_ge, ic_gt, ic_le, ic_lt, ic_eq, ic_ne, if_lt, if_ge, if_gt, if_le, if_eq, if_ne, if_lt_zI, if_ge_zI, ic_ne_m1, ic_eq_m1, ic_nn_m1, ic_ee_m1, if_ne_b2i, if_eq_b2i, b2i_z, decide_eq_true_eq, decide_true, decide_false, Bool.not_eq_true, Bool.not_eq_true', Bool.not_true, Bool.not_false, decide_eq_false_iff_not, Bool.false_eq_true, not_false_eq_true, not_true_eq_false, if_true, if_false, ↓reduceIte, eq_self, Option.bind_some, Bool.true_and, Bool.false_and, Bool.and_true, Bool.and_false, nI_add, nI_subN, nI_clamp, gdF, gdF2, gdP, gdP2, zI_cl, zI_s, Lm1, nI_n0, zI_n0, leF, or_false, false_or, or_self, s1, s2, s3, s4, s5]
    exact ep_ret (RvT_mk h rfl (CB_k hB rfl (fun q x y => x_rAn (by omega))) (CW_mesh hW) (fun q hq => ⟨rfl, x_rAn (by omega)⟩) (x_rAn (by decide)) rfl)
  · have s : (nI 7).toInt < 1 ∨ 6 < (nI 7).toInt := by decide
    obtain ⟨x1, x2⟩ := h7 rfl
    refine ep_succ (fun n => G47e0 n ..) ?_
    simp (disch := omega) only [G47b0, s, L0, L1, L2, L3, L4, L5, L6, L7, L8, L9, L10, L11, L12, L13, L16, L20, L31, L32, L40, L48, L57, L59, L60, L61, L91, L93, L97, L99, L100, L102, L103, L114, L122, L255, L300, L400, L402, L999, L2280, L2500, L99999, L63, L1431655765, L858993459, L252645135, ic_ge, ic_gt, ic_le, ic_lt, ic_eq, ic_ne, if_lt, if_ge, if_gt, if_le, if_eq, if_ne, if_lt_zI, if_ge_zI, ic_ne_m1, ic_eq_m1, ic_nn_m1, ic_ee_m1, if_ne_b2i, if_eq_b2i, b2i_z, decide_eq_true_eq, decide_true, decide_false, Bool.not_eq_true, Bool.not_eq_true', Bool.not_true, Bool.not_false, decide_eq_false_iff_not, Bool.false_eq_true, not_false_eq_true, not_true_eq_false, if_true, if_false, ↓reduceIte, eq_self, Option.bind_some, Bool.true_and, Bool.false_and, Bool.and_true, Bool.and_false, nI_add, nI_subN, nI_clamp, gdF, gdF2, gdP, gdP2, zI_cl, zI_s, Lm1, nI_n0, zI_n0, leF, or_false, false_or, or_self]
    refine ep_bind (g50 (p := 74) hW x1 x2) ?_
    rintro ⟨_, T1⟩ ⟨_, a1, a2⟩
    have a2 : FrW 74 T T1 := a2
    exact ep_ret (RvT_mk h (a2.1 65 (by omega)).1 (CB_k hB (a2.1 68 (by omega)).1 (fun q x y => (a2.1 q (by omega)).2)) a1 (fun q hq => a2.1 q (by omega)) (a2.1 66 (by omega)).2 a2.2)
theorem nbI {p : Prop} [Decidable p] : narrow .boolean (.int (if p then nI 1 else nI 0)) = .int (if p then nI 1 else nI 0) := by
  split <;> rfl
theorem sec_b {k p : Nat} (hp : p ≤ L) (hb : b 0 0 ≤ 16) : (secF f L b k p).2.2 ≤ L ∧ (secF f L b k p).1 ≤ 8 * L + 2 ∧ (secF f L b k p).2.1 < 2 ^ 31 ∧ ((secF f L b k p).1 = 0 → (k = 1 → (secF f L b k p).2.1 < b 0 0) ∧ (k = 3 → (secF f L b k p).2.1 ≤ 9) ∧ (k = 4 → 1 ≤ (secF f L b k p).2.1 ∧ (secF f L b k p).2.1 ≤ 6) ∧ (k = 6 → 1 ≤ (secF f L b k p).2.1 ∧ (secF f L b k p).2.1 ≤ 8) ∧ (k = 7 → isTx (secF f L b k p).2.1 = true)) := by
  unfold secF
  by_cases e1 : k = 1
  · rw [if_pos e1]
    obtain ⟨a, c, d, g⟩ := am_b (f := f) (lo := 0) (hi := b 0 0) hp
    exact ⟨a, d, by omega, fun z => ⟨fun _ => (g z).2, fun h => by omega, fun h => by omega, fun h => by omega, fun h => by omega⟩⟩
  · rw [if_neg e1]
    by_cases e3 : k = 3
    · rw [if_pos e3]
      obtain ⟨a, c, d, g⟩ := am_b (f := f) (lo := 1) (hi := 10) hp
      exact ⟨a, d, by omega, fun z => ⟨fun h => absurd h e1, fun _ => by have := (g z).2; omega, fun h => by omega, fun h => by omega, fun h => by omega⟩⟩
    · rw [if_neg e3]
      by_cases e4 : k = 4
      · rw [if_pos e4]
        obtain ⟨a, d, c, g⟩ := le_b (f := f) (most := 1) hp (by decide)
        refine ⟨a, d, g, fun z => ⟨fun h => absurd h e1, fun h => absurd h e3, fun _ => ?_, fun h => by omega, fun h => by omega⟩⟩
        obtain ⟨t1, t2⟩ := c z
        have t3 := isTx_iff.mp t1
        have t4 := lenN_lt 1 _ t2
        have t5 : digN (leF2 f L p 1).2.1 = true := t3.2.2
        rw [digN_s' (by omega)] at t5
        rw [Bool.and_eq_true] at t5
        have t6 := of_decide_eq_true t5.1
        omega
      · rw [if_neg e4]
        by_cases e6 : k = 6
        · rw [if_pos e6]
          obtain ⟨a, c, d, g⟩ := am_b (f := f) (lo := 1) (hi := 9) hp
          exact ⟨a, d, by omega, fun z => ⟨fun h => absurd h e1, fun h => absurd h e3, fun h => absurd h e4, fun _ => by have := g z; omega, fun h => by omega⟩⟩
        · rw [if_neg e6]
          by_cases e7 : k = 7
          · rw [if_pos e7]
            obtain ⟨a, d, c, g⟩ := le_b (f := f) (most := 8) hp (by decide)
            exact ⟨a, d, g, fun z => ⟨fun h => absurd h e1, fun h => absurd h e3, fun h => absurd h e4, fun h => absurd h e6, fun _ => (c z).1⟩⟩
          · rw [if_neg e7]
            exact ⟨hp, Nat.zero_le _, (show (0 : Nat) < 2 ^ 31 by decide), fun z => ⟨fun h => absurd h e1, fun h => absurd h e3, fun h => absurd h e4, fun h => absurd h e6, fun h => absurd h e7⟩⟩
theorem g42 {k : Nat} (hH : TH T00 f L) (hk1 : 1 ≤ k) (hk : k ≤ 7) (h : RvT T00 T L i 0 b w) (ok : OkR n b w) (hb0 : b 0 0 ≠ 0) (hfu : fulB b w k = false) (hi : i ≤ L) : Ep (fun n => G42 n (nI k) T) (RvZ T00 L (celF f L k b w i)) := by
  have hL := hH.2.1
  have hb16 := ok.1.1
  have m0 : T.1 68 0 = nI (b 0 0) := h.2.1.1
  obtain ⟨m, ht⟩ := h.1
  obtain ⟨q1, q2, q3, q4⟩ := am_b (f := f) (lo := 0) (hi := b 0 0) hi
  obtain ⟨res, hres⟩ : ∃ res, res = celF f L k b w i := ⟨_, rfl⟩
  rw [← hres]
  refine ep_succ (fun n => G42e0 n ..) ?_
  simp (disch := omega) only [G42b0, L0, L1, L2, L3, L4, L5, L6, L7, L8, L9, L10, L11, L12, L13, L16, L20, L31, L32, L40, L48, L57, L59, L60, L61, L91, L93, L97, L99, L100, L102, L103, L114, L122, L255, L300, L400, L402, L999, L2280, L2500, L99999, L63, L1431655765, L858993459, L252645135, ic_ge, ic_gt, ic_le, ic_lt, ic_eq, ic_ne, if_lt, if_ge, if_gt, if_le, if_eq, if_ne, if_lt_zI, if_ge_zI, ic_ne_m1, ic_eq_m1, ic_nn_m1, ic_ee_m1, if_ne_b2i, if_eq_b2i, b2i_z, decide_eq_true_eq, decide_true, decide_false, Bool.not_eq_true, Bool.not_eq_true', Bool.not_true, Bool.not_false, decide_eq_false_iff_not, Bool.false_eq_true, not_false_eq_true, not_true_eq_false, if_true, if_false, ↓reduceIte, eq_self, Option.bind_some, Bool.true_and, Bool.false_and, Bool.and_true, Bool.and_false, nI_add, nI_subN, nI_clamp, gdF, gdF2, gdP, gdP2, zI_cl, zI_s, Lm1, nI_n0, zI_n0, leF, or_false, false_or, or_self, m0]
  refine ep_bind (g40 (RvT_TH hH h) (lo := 0) (by omega) (by omega) hb0 hi ht) ?_
  rintro ⟨z1, T1⟩ ⟨a1, a2⟩
  have a1 : z1 = if (amF f L i 0 (b 0 0)).1 = 0 then nI (amF f L i 0 (b 0 0)).2.1 else zI 0 := a1
  have a2 : TP T1 T L (amF f L i 0 (b 0 0)).2.2 (bk f L i) (amF f L i 0 (b 0 0)).1 := a2
  subst a1
  by_cases h0 : (amF f L i 0 (b 0 0)).1 = 0
  · have hc := (q4 h0).2
    rw [if_pos h0]
    rw [h0] at a2
    have rv1 : RvT T00 T1 L (amF f L i 0 (b 0 0)).2.2 0 b w := RvT_tp h a2
    have a3 : T1.1 65 3 = nI (bk f L i) := a2.2.2.1
    have e1 : am_ic .ne (nI (amF f L i 0 (b 0 0)).2.1) (zI 0) = true := ic_nn_m1 (by omega)
    simp only [e1, if_true]
    refine ep_bv (g43 hk rv1 ok hc) ?_
    by_cases htk : takB b w k (amF f L i 0 (b 0 0)).2.1 = true
    · have er : res = (2 + 8 * bk f L i, b, w, (amF f L i 0 (b 0 0)).2.2) := by
        rw [hres]
        exact (if_neg (fun z => z h0)).trans (if_pos htk)
      rw [htk]
      have e2 : am_if .eq (b2i true) = false := by decide
      simp only [e2, decide_eq_true_eq, decide_true, decide_false, Bool.not_eq_true, Bool.not_eq_true', Bool.not_true, Bool.not_false, decide_eq_false_iff_not, Bool.false_eq_true, not_false_eq_true, not_true_eq_false, if_true, if_false, ↓reduceIte, eq_self, Option.bind_some, Bool.true_and, Bool.false_and, Bool.and_true, Bool.and_false, a3]
      refine ep_bind (g36 (TP_self a2)) ?_
      rintro ⟨z2, T2⟩ ⟨c1, c2⟩
      have c1 : z2 = nI 0 := c1
      have c2 : TP T2 T1 L (amF f L i 0 (b 0 0)).2.2 (bk f L i) (1 + 8 * bk f L i + 1) := c2
      subst c1
      have nb : narrow .boolean (.int (nI 0)) = .int (nI 0) := rfl
      simp only [nb, decide_eq_true_eq, decide_true, decide_false, Bool.not_eq_true, Bool.not_eq_true', Bool.not_true, Bool.not_false, decide_eq_false_iff_not, Bool.false_eq_true, not_false_eq_true, not_true_eq_false, if_true, if_false, ↓reduceIte, eq_self, Option.bind_some, Bool.true_and, Bool.false_and, Bool.and_true, Bool.and_false]
      rw [er]
      refine ep_ret ⟨(if_neg (show ¬ 2 + 8 * bk f L i = 0 by omega)).symm, ?_⟩
      show RvT T00 T2 L (amF f L i 0 (b 0 0)).2.2 (2 + 8 * bk f L i) b w
      rw [show 2 + 8 * bk f L i = 1 + 8 * bk f L i + 1 by omega]
      exact RvT_tp rv1 c2
    · have e2 : am_if .eq (b2i (takB b w k (amF f L i 0 (b 0 0)).2.1)) = true := by
        rw [Bool.eq_false_iff.mpr htk]
        decide
      simp only [e2, decide_eq_true_eq, decide_true, decide_false, Bool.not_eq_true, Bool.not_eq_true', Bool.not_true, Bool.not_false, decide_eq_false_iff_not, Bool.false_eq_true, not_false_eq_true, not_true_eq_false, if_true, if_false, ↓reduceIte, eq_self, Option.bind_some, Bool.true_and, Bool.false_and, Bool.and_true, Bool.and_false]
      obtain ⟨s1, s2, s3, s4⟩ := sec_b (f := f) (b := b) (k := k) q1 hb16
      refine ep_bind (g44 hH hk1 hk rv1 (TP_self a2) q1 hb0 hb16) ?_
      rintro ⟨z2, T2⟩ ⟨b1, m', b2, b3⟩
      have b1 : z2 = if (secF f L b k (amF f L i 0 (b 0 0)).2.2).1 = 0 then nI (secF f L b k (amF f L i 0 (b 0 0)).2.2).2.1 else zI 0 := b1
      have b2 : TP T2 T1 L (secF f L b k (amF f L i 0 (b 0 0)).2.2).2.2 m' (secF f L b k (amF f L i 0 (b 0 0)).2.2).1 := b2
      subst b1
      by_cases g0 : (secF f L b k (amF f L i 0 (b 0 0)).2.2).1 = 0
      · obtain ⟨t1, t3, t4, t6, t7⟩ := s4 g0
        rw [if_pos g0]
        rw [g0] at b2
        have rv2 : RvT T00 T2 L (secF f L b k (amF f L i 0 (b 0 0)).2.2).2.2 0 b w := RvT_tp rv1 b2
        have b4 : T2.1 65 3 = nI m' := b2.2.2.1
        have e3 : am_ic .ne (nI (secF f L b k (amF f L i 0 (b 0 0)).2.2).2.1) (zI 0) = true := ic_nn_m1 s3
        simp only [e3, if_true]
        have fu4 : k = 4 → b 0 1 < 6 := fun e => by
          have : fulB b w k = decide (6 ≤ b 0 1) := if_pos e
          rw [this] at hfu
          have := of_decide_eq_false hfu
          omega
        have fu5 : k = 5 → b 0 2 < 4 := fun e => by
          have : fulB b w k = decide (4 ≤ b 0 2) := (if_neg (by omega)).trans (if_pos e)
          rw [this] at hfu
          have := of_decide_eq_false hfu
          omega
        have n10 := ok.2.2.2.1
        have tell : Ep (fun n => (G47 n (nI k) (nI (amF f L i 0 (b 0 0)).2.1) (nI (secF f L b k (amF f L i 0 (b 0 0)).2.2).2.1) T2).bind (fun z => some (nI 1, z.2))) (RvZ T00 L (0, tlB k (amF f L i 0 (b 0 0)).2.1 (secF f L b k (amF f L i 0 (b 0 0)).2.2).2.1 b, tlW k (amF f L i 0 (b 0 0)).2.1 (secF f L b k (amF f L i 0 (b 0 0)).2.2).2.1 w, (secF f L b k (amF f L i 0 (b 0 0)).2.2).2.2)) := by
          refine ep_bind (g47 hk1 hk (by omega) rv2 fu4 fu5 (fun e => ⟨by omega, t7 e⟩)) ?_
          rintro ⟨_, T3⟩ d1
          exact ep_ret ⟨rfl, d1⟩
        by_cases hk11 : k = 1
        · subst hk11
          simp only [decide_eq_true_eq, decide_true, decide_false, Bool.not_eq_true, Bool.not_eq_true', Bool.not_true, Bool.not_false, decide_eq_false_iff_not, Bool.false_eq_true, not_false_eq_true, not_true_eq_false, if_true, if_false, ↓reduceIte, eq_self, Option.bind_some, Bool.true_and, Bool.false_and, Bool.and_true, Bool.and_false]
          by_cases hsame : (secF f L b 1 (amF f L i 0 (b 0 0)).2.2).2.1 = (amF f L i 0 (b 0 0)).2.1
          · have er : res = (2 + 8 * bk f L (amF f L i 0 (b 0 0)).2.2, b, w, (secF f L b 1 (amF f L i 0 (b 0 0)).2.2).2.2) := by
              rw [hres]
              exact (if_neg (fun z => z h0)).trans ((if_neg htk).trans ((if_neg (fun z => z g0)).trans (if_pos ⟨rfl, hsame⟩)))
            have e5 : am_ic .ne (nI (secF f L b 1 (amF f L i 0 (b 0 0)).2.2).2.1) (nI (amF f L i 0 (b 0 0)).2.1) = false := by
              rw [ic_ne (by omega) (by omega), decide_eq_true hsame]
              rfl
            simp only [e5, decide_eq_true_eq, decide_true, decide_false, Bool.not_eq_true, Bool.not_eq_true', Bool.not_true, Bool.not_false, decide_eq_false_iff_not, Bool.false_eq_true, not_false_eq_true, not_true_eq_false, if_true, if_false, ↓reduceIte, eq_self, Option.bind_some, Bool.true_and, Bool.false_and, Bool.and_true, Bool.and_false, b4]
            refine ep_bind (g36 (TP_self b2)) ?_
            rintro ⟨z3, T3⟩ ⟨c1, c2⟩
            have c1 : z3 = nI 0 := c1
            have c2 : TP T3 T2 L (secF f L b 1 (amF f L i 0 (b 0 0)).2.2).2.2 m' (1 + 8 * m' + 1) := c2
            subst c1
            have nb : narrow .boolean (.int (nI 0)) = .int (nI 0) := rfl
            simp only [nb, decide_eq_true_eq, decide_true, decide_false, Bool.not_eq_true, Bool.not_eq_true', Bool.not_true, Bool.not_false, decide_eq_false_iff_not, Bool.false_eq_true, not_false_eq_true, not_true_eq_false, if_true, if_false, ↓reduceIte, eq_self, Option.bind_some, Bool.true_and, Bool.false_and, Bool.and_true, Bool.and_false]
            rw [er]
            refine ep_ret ⟨(if_neg (show ¬ 2 + 8 * bk f L (amF f L i 0 (b 0 0)).2.2 = 0 by omega)).symm, ?_⟩
            show RvT T00 T3 L (secF f L b 1 (amF f L i 0 (b 0 0)).2.2).2.2 (2 + 8 * bk f L (amF f L i 0 (b 0 0)).2.2) b w
            rw [show 2 + 8 * bk f L (amF f L i 0 (b 0 0)).2.2 = 1 + 8 * m' + 1 by rw [b3 rfl]; omega]
            exact RvT_tp rv2 c2
          · have er : res = (0, tlB 1 (amF f L i 0 (b 0 0)).2.1 (secF f L b 1 (amF f L i 0 (b 0 0)).2.2).2.1 b, tlW 1 (amF f L i 0 (b 0 0)).2.1 (secF f L b 1 (amF f L i 0 (b 0 0)).2.2).2.1 w, (secF f L b 1 (amF f L i 0 (b 0 0)).2.2).2.2) := by
              rw [hres]
              exact (if_neg (fun z => z h0)).trans ((if_neg htk).trans ((if_neg (fun z => z g0)).trans (if_neg (fun z => hsame z.2))))
            have e5 : am_ic .ne (nI (secF f L b 1 (amF f L i 0 (b 0 0)).2.2).2.1) (nI (amF f L i 0 (b 0 0)).2.1) = true := by
              rw [ic_ne (by omega) (by omega), decide_eq_false hsame]
              rfl
            simp only [e5, if_true]
            rw [er]
            exact tell
        · have er : res = (0, tlB k (amF f L i 0 (b 0 0)).2.1 (secF f L b k (amF f L i 0 (b 0 0)).2.2).2.1 b, tlW k (amF f L i 0 (b 0 0)).2.1 (secF f L b k (amF f L i 0 (b 0 0)).2.2).2.1 w, (secF f L b k (amF f L i 0 (b 0 0)).2.2).2.2) := by
            rw [hres]
            exact (if_neg (fun z => z h0)).trans ((if_neg htk).trans ((if_neg (fun z => z g0)).trans (if_neg (fun z => hk11 z.1))))
          simp only [hk11, decide_eq_true_eq, decide_true, decide_false, Bool.not_eq_true, Bool.not_eq_true', Bool.not_true, Bool.not_false, decide_eq_false_iff_not, Bool.false_eq_true, not_false_eq_true, not_true_eq_false, if_true, if_false, ↓reduceIte, eq_self, Option.bind_some, Bool.true_and, Bool.false_and, Bool.and_true, Bool.and_false]
          rw [er]
          exact tell
      · have er : res = ((secF f L b k (amF f L i 0 (b 0 0)).2.2).1, b, w, (secF f L b k (amF f L i 0 (b 0 0)).2.2).2.2) := by
          rw [hres]
          exact (if_neg (fun z => z h0)).trans ((if_neg htk).trans (if_pos g0))
        rw [if_neg g0, er]
        have e3 : am_ic .ne (zI 0) (zI 0) = false := by decide
        simp only [e3, decide_eq_true_eq, decide_true, decide_false, Bool.not_eq_true, Bool.not_eq_true', Bool.not_true, Bool.not_false, decide_eq_false_iff_not, Bool.false_eq_true, not_false_eq_true, not_true_eq_false, if_true, if_false, ↓reduceIte, eq_self, Option.bind_some, Bool.true_and, Bool.false_and, Bool.and_true, Bool.and_false]
        exact ep_ret ⟨(if_neg g0).symm, RvT_tp rv1 b2⟩
  · have er : res = ((amF f L i 0 (b 0 0)).1, b, w, (amF f L i 0 (b 0 0)).2.2) := by
      rw [hres]
      exact if_pos h0
    rw [if_neg h0, er]
    have e1 : am_ic .ne (zI 0) (zI 0) = false := by decide
    simp only [e1, decide_eq_true_eq, decide_true, decide_false, Bool.not_eq_true, Bool.not_eq_true', Bool.not_true, Bool.not_false, decide_eq_false_iff_not, Bool.false_eq_true, not_false_eq_true, not_true_eq_false, if_true, if_false, ↓reduceIte, eq_self, Option.bind_some, Bool.true_and, Bool.false_and, Bool.and_true, Bool.and_false]
    exact ep_ret ⟨(if_neg h0).symm, RvT_tp h a2⟩
end Rw
