/-! rows: the program's laying and its answers -/
section Pr2
variable {t : Nat → Nat} {s N : Nat}
theorem OR_9 {T : xS} {j : Nat} {x : Int32} (h : OR T t s N) : OR (x_sA T 129 j x) t s N := h
theorem g127c {T0 : xS} {L : Nat} (hN : N ≤ 12) (hz : rkN s N ≤ 8) (hs : ∀ x, s.testBit x = true → x < N) (ht : ∀ x, x < N → isTx (t x) = true) (hL : L < 2 ^ rkN s N) (hL0 : L ≠ 0) {Q : Unit × xS → Prop} (go : ∀ T, OR T t s N → FrO T0 T → WA T t s N (L - 1) → Ep (fun n => G127f 95 n 99 (nI 0) (nI (2 ^ rkN s N - 1)) (nI (L - 1)) (nI 0) T) Q) : ∀ (m x : Nat) (T : xS), x + m = N → OR T t s N → FrO T0 T → WA T t s N L → (∀ y, y < x → s.testBit y = true → L.testBit (rkN s y) = true → T.2.1 129 (L * 8 + rkN s y) = nI (cwF t N (ctF (frL s L) N 0) (y + 1) (frL s L))) → Ep (fun n => G127f 95 n 107 (nI 0) (nI (2 ^ rkN s N - 1)) (nI L) (nI (rkN s x)) T) Q := by
  have h256 : 2 ^ rkN s N ≤ 256 := by
    have : 2 ^ rkN s N ≤ 2 ^ 8 := Nat.pow_le_pow_right (by decide) hz
    have e : (2 : Nat) ^ 8 = 256 := by decide
    omega
  intro m
  induction m with
  | zero =>
    intro x T hx hO hF hW hY
    have : x = N := by omega
    subst this
    refine ep_succ (fun n => G127e107 95 n ..) ?_
    have e := hO.1
    simp (disch := omega) only [G127b107, L0, L1, L2, L3, L4, L5, L6, L7, L8, L9, L10, L11, L12, L13, L16, L20, L31, L32, L40, L48, L57, L59, L60, L61, L91, L93, L97, L99, L100, L102, L103, L114, L122, L255, L300, L400, L402, L999, L2280, L2500, L99999, L63, L1431655765, L858993459, L252645135, ic_ge, ic_gt, ic_le, ic_lt, ic_eq, ic_ne, if_lt, if_ge, if_gt, if_le, if_eq, if_ne, if_lt_zI, if_ge_zI, ic_ne_m1, ic_eq_m1, ic_nn_m1, ic_ee_m1, if_ne_b2i, if_eq_b2i, b2i_z, decide_eq_true_eq, decide_true, decide_false, Bool.not_eq_true, Bool.not_eq_true', Bool.not_true, Bool.not_false, decide_eq_false_iff_not, Bool.false_eq_true, not_false_eq_true, not_true_eq_false, if_true, if_false, ↓reduceIte, eq_self, Option.bind_some, Bool.true_and, Bool.false_and, Bool.and_true, Bool.and_false, nI_add, nI_subN, nI_clamp, gdF, gdF2, gdP, gdP2, zI_cl, zI_s, Lm1, nI_n0, zI_n0, leF, or_false, false_or, or_self, e, Nat.le_refl, m1_sub]
    refine go T hO hF (fun L' y h1 h2 h3 h4 => ?_)
    by_cases e : L' = L
    · subst e
      exact hY y (hs y h3) h3 h4
    · exact hW L' y (by omega) h2 h3 h4
  | succ m ih =>
    intro x T hx hO hF hW hY
    by_cases hb : s.testBit x = true
    · have hr := rk_lt (show x < N by omega) hb
      have e := hO.1
      have e2 : ¬ rkN s N ≤ rkN s x := by omega
      have ig := fun T' => ih (x + 1) T' (by omega)
      rw [rk_s hb] at ig
      refine ep_succ (fun n => G127e107 95 n ..) ?_
      by_cases hl : L.testBit (rkN s x) = true
      · have fin : ∀ v, v = nI (cwF t N (ctF (frL s L) N 0) (x + 1) (frL s L)) → Ep (fun n => G127f 95 n 107 (nI 0) (nI (2 ^ rkN s N - 1)) (nI L) (nI (rkN s x + 1)) (x_sA T 129 (L * 8 + rkN s x) v)) Q := by
          intro v hv
          refine ig _ (OR_9 hO) (FrO_A hF (by omega)) (fun L' y h1 h2 h3 h4 => ?_) (fun y h1 h2 h3 => ?_)
          · have hry := rk_lt (hs y h3) h3
            rw [x_rAi (by omega)]
            exact hW L' y h1 h2 h3 h4
          · by_cases ey : y = x
            · subst ey
              rw [x_rAe, hv]
            · have := rk_lt (show y < x by omega) h2
              rw [x_rAi (by omega)]
              exact hY y (by omega) h2 h3
        by_cases ha : L = 2 ^ rkN s N - 1
        · have e3 : cwF t N (ctF (frL s L) N 0) (x + 1) (frL s L) = 1 := by
            rw [ha, frL_all]
            rfl
          have fin1 := fin (nI 1) (by rw [e3])
          rw [← ha] at fin1 ⊢
          simp (disch := omega) only [G127b107, L0, L1, L2, L3, L4, L5, L6, L7, L8, L9, L10, L11, L12, L13, L16, L20, L31, L32, L40, L48, L57, L59, L60, L61, L91, L93, L97, L99, L100, L102, L103, L114, L122, L255, L300, L400, L402, L999, L2280, L2500, L99999, L63, L1431655765, L858993459, L252645135, ic_ge, ic_gt, ic_le, ic_lt, ic_eq, ic_ne, if_lt, if_ge, if_gt, if_le, if_eq, if_ne, if_lt_zI, if_ge_zI, ic_ne_m1, ic_eq_m1, ic_nn_m1, ic_ee_m1, if_ne_b2i, if_eq_b2i, b2i_z, decide_eq_true_eq, decide_true, decide_false, Bool.not_eq_true, Bool.not_eq_true', Bool.not_true, Bool.not_false, decide_eq_false_iff_not, Bool.false_eq_true, not_false_eq_true, not_true_eq_false, if_true, if_false, ↓reduceIte, eq_self, Option.bind_some, Bool.true_and, Bool.false_and, Bool.and_true, Bool.and_false, nI_add, nI_subN, nI_clamp, gdF, gdF2, gdP, gdP2, zI_cl, zI_s, Lm1, nI_n0, zI_n0, leF, or_false, false_or, or_self, e, e2, nI_bit, hl, ic_ne_b1, nI_mul]
          exact fin1
        · obtain ⟨m0, hm0⟩ : ∃ m0, ctF (frL s L) N 0 = m0 + 1 := ⟨ctF (frL s L) N 0 - 1, by have := frL_pos hL ha; omega⟩
          have gg := g128 hO hN hz hs ht (show L < 256 by omega) (Or.inr (show s.testBit (x + 1 - 1) = true from hb)) (WA_Y (l := x + 1) hs hW hL hm0)
          rw [lr_s, zI_s] at gg
          simp (disch := omega) only [G127b107, L0, L1, L2, L3, L4, L5, L6, L7, L8, L9, L10, L11, L12, L13, L16, L20, L31, L32, L40, L48, L57, L59, L60, L61, L91, L93, L97, L99, L100, L102, L103, L114, L122, L255, L300, L400, L402, L999, L2280, L2500, L99999, L63, L1431655765, L858993459, L252645135, ic_ge, ic_gt, ic_le, ic_lt, ic_eq, ic_ne, if_lt, if_ge, if_gt, if_le, if_eq, if_ne, if_lt_zI, if_ge_zI, ic_ne_m1, ic_eq_m1, ic_nn_m1, ic_ee_m1, if_ne_b2i, if_eq_b2i, b2i_z, decide_eq_true_eq, decide_true, decide_false, Bool.not_eq_true, Bool.not_eq_true', Bool.not_true, Bool.not_false, decide_eq_false_iff_not, Bool.false_eq_true, not_false_eq_true, not_true_eq_false, if_true, if_false, ↓reduceIte, eq_self, Option.bind_some, Bool.true_and, Bool.false_and, Bool.and_true, Bool.and_false, nI_add, nI_subN, nI_clamp, gdF, gdF2, gdP, gdP2, zI_cl, zI_s, Lm1, nI_n0, zI_n0, leF, or_false, false_or, or_self, e, e2, nI_bit, hl, ic_ne_b1, nI_mul, ha]
          refine ep_bv gg ?_
          simp (disch := omega) only [L0, L1, L2, L3, L4, L5, L6, L7, L8, L9, L10, L11, L12, L13, L16, L20, L31, L32, L40, L48, L57, L59, L60, L61, L91, L93, L97, L99, L100, L102, L103, L114, L122, L255, L300, L400, L402, L999, L2280, L2500, L99999, L63, L1431655765, L858993459, L252645135, ic_ge, ic_gt, ic_le, ic_lt, ic_eq, ic_ne, if_lt, if_ge, if_gt, if_le, if_eq, if_ne, if_lt_zI, if_ge_zI, ic_ne_m1, ic_eq_m1, ic_nn_m1, ic_ee_m1, if_ne_b2i, if_eq_b2i, b2i_z, decide_eq_true_eq, decide_true, decide_false, Bool.not_eq_true, Bool.not_eq_true', Bool.not_true, Bool.not_false, decide_eq_false_iff_not, Bool.false_eq_true, not_false_eq_true, not_true_eq_false, if_true, if_false, ↓reduceIte, eq_self, Option.bind_some, Bool.true_and, Bool.false_and, Bool.and_true, Bool.and_false, nI_add, nI_subN, nI_clamp, gdF, gdF2, gdP, gdP2, zI_cl, zI_s, Lm1, nI_n0, zI_n0, leF, or_false, false_or, or_self]
          exact fin _ (by rw [hm0])
      · have hl' := Bool.eq_false_iff.mpr hl
        simp (disch := omega) only [G127b107, L0, L1, L2, L3, L4, L5, L6, L7, L8, L9, L10, L11, L12, L13, L16, L20, L31, L32, L40, L48, L57, L59, L60, L61, L91, L93, L97, L99, L100, L102, L103, L114, L122, L255, L300, L400, L402, L999, L2280, L2500, L99999, L63, L1431655765, L858993459, L252645135, ic_ge, ic_gt, ic_le, ic_lt, ic_eq, ic_ne, if_lt, if_ge, if_gt, if_le, if_eq, if_ne, if_lt_zI, if_ge_zI, ic_ne_m1, ic_eq_m1, ic_nn_m1, ic_ee_m1, if_ne_b2i, if_eq_b2i, b2i_z, decide_eq_true_eq, decide_true, decide_false, Bool.not_eq_true, Bool.not_eq_true', Bool.not_true, Bool.not_false, decide_eq_false_iff_not, Bool.false_eq_true, not_false_eq_true, not_true_eq_false, if_true, if_false, ↓reduceIte, eq_self, Option.bind_some, Bool.true_and, Bool.false_and, Bool.and_true, Bool.and_false, nI_add, nI_subN, nI_clamp, gdF, gdF2, gdP, gdP2, zI_cl, zI_s, Lm1, nI_n0, zI_n0, leF, or_false, false_or, or_self, e, e2, nI_bit, hl', ic_ne_b1]
        refine ig T hO hF hW (fun y h1 h2 h3 => ?_)
        by_cases ey : y = x
        · subst ey
          exact absurd h3 hl
        · exact hY y (by omega) h2 h3
    · have ig := fun T' => ih (x + 1) T' (by omega)
      rw [rk_n hb] at ig
      refine ig T hO hF hW (fun y h1 h2 h3 => ?_)
      by_cases ey : y = x
      · subst ey
        exact absurd h2 hb
      · exact hY y (by omega) h2 h3
theorem g127b {T0 : xS} (hN : N ≤ 12) (hz : rkN s N ≤ 8) (hs : ∀ x, s.testBit x = true → x < N) (ht : ∀ x, x < N → isTx (t x) = true) : ∀ (L : Nat) (T : xS), L < 2 ^ rkN s N → OR T t s N → FrO T0 T → WA T t s N L → Ep (fun n => G127f 95 n 99 (nI 0) (nI (2 ^ rkN s N - 1)) (nI L) (nI 0) T) (fun z => OR z.2 t s N ∧ FrO T0 z.2 ∧ WA z.2 t s N 0) := by
  have h256 : 2 ^ rkN s N ≤ 256 := by
    have : 2 ^ rkN s N ≤ 2 ^ 8 := Nat.pow_le_pow_right (by decide) hz
    have e : (2 : Nat) ^ 8 = 256 := by decide
    omega
  intro L
  induction L with
  | zero =>
    intro T hL hO hF hW
    refine ep_succ (fun n => G127e99 95 n ..) ?_
    simp (disch := omega) only [G127b99, L0, L1, L2, L3, L4, L5, L6, L7, L8, L9, L10, L11, L12, L13, L16, L20, L31, L32, L40, L48, L57, L59, L60, L61, L91, L93, L97, L99, L100, L102, L103, L114, L122, L255, L300, L400, L402, L999, L2280, L2500, L99999, L63, L1431655765, L858993459, L252645135, ic_ge, ic_gt, ic_le, ic_lt, ic_eq, ic_ne, if_lt, if_ge, if_gt, if_le, if_eq, if_ne, if_lt_zI, if_ge_zI, ic_ne_m1, ic_eq_m1, ic_nn_m1, ic_ee_m1, if_ne_b2i, if_eq_b2i, b2i_z, decide_eq_true_eq, decide_true, decide_false, Bool.not_eq_true, Bool.not_eq_true', Bool.not_true, Bool.not_false, decide_eq_false_iff_not, Bool.false_eq_true, not_false_eq_true, not_true_eq_false, if_true, if_false, ↓reduceIte, eq_self, Option.bind_some, Bool.true_and, Bool.false_and, Bool.and_true, Bool.and_false, nI_add, nI_subN, nI_clamp, gdF, gdF2, gdP, gdP2, zI_cl, zI_s, Lm1, nI_n0, zI_n0, leF, or_false, false_or, or_self, Nat.le_refl]
    exact ep_ret ⟨hO, hF, hW⟩
  | succ L ih =>
    intro T hL hO hF hW
    refine ep_succ (fun n => G127e99 95 n ..) ?_
    have e : ¬ L + 1 ≤ 0 := by omega
    simp (disch := omega) only [G127b99, L0, L1, L2, L3, L4, L5, L6, L7, L8, L9, L10, L11, L12, L13, L16, L20, L31, L32, L40, L48, L57, L59, L60, L61, L91, L93, L97, L99, L100, L102, L103, L114, L122, L255, L300, L400, L402, L999, L2280, L2500, L99999, L63, L1431655765, L858993459, L252645135, ic_ge, ic_gt, ic_le, ic_lt, ic_eq, ic_ne, if_lt, if_ge, if_gt, if_le, if_eq, if_ne, if_lt_zI, if_ge_zI, ic_ne_m1, ic_eq_m1, ic_nn_m1, ic_ee_m1, if_ne_b2i, if_eq_b2i, b2i_z, decide_eq_true_eq, decide_true, decide_false, Bool.not_eq_true, Bool.not_eq_true', Bool.not_true, Bool.not_false, decide_eq_false_iff_not, Bool.false_eq_true, not_false_eq_true, not_true_eq_false, if_true, if_false, ↓reduceIte, eq_self, Option.bind_some, Bool.true_and, Bool.false_and, Bool.and_true, Bool.and_false, nI_add, nI_subN, nI_clamp, gdF, gdF2, gdP, gdP2, zI_cl, zI_s, Lm1, nI_n0, zI_n0, leF, or_false, false_or, or_self, e]
    exact g127c hN hz hs ht hL (by omega) (fun T' a b c => ih T' (by omega) a b c) N 0 T (by omega) hO hF hW (fun y hy => absurd hy (Nat.not_lt_zero _))
/-- laid up to x -/
def OP (T : xS) (t : Nat → Nat) (s x : Nat) : Prop := T.1 125 4 = nI (rkN s x) ∧ ∀ y, y < x → s.testBit y = true → T.2.1 126 (rkN s y) = nI y ∧ T.2.1 127 (rkN s y) = nI (fstN (t y)) ∧ T.2.1 128 (rkN s y) = nI (t y % 10)
theorem g127a {T0 : xS} {w : AW} (hw : CW T0 95 w) (hN : w.1 0 1 ≤ 12) (hz : rkN s (w.1 0 1) ≤ 8) (hs31 : s < 2 ^ 31) (hs : ∀ x, s.testBit x = true → x < w.1 0 1) (ht : ∀ x, x < w.1 0 1 → isTx (w.1 2 x) = true) : ∀ (m x : Nat) (T : xS), x + m = w.1 0 1 → OP T (w.1 2) s x → FrO T0 T → Ep (fun n => G127f 95 n 7 (nI s) (nI x) (nI 0) (nI 0) T) (fun z => OR z.2 (w.1 2) s (w.1 0 1) ∧ FrO T0 z.2 ∧ WA z.2 (w.1 2) s (w.1 0 1) 0) := by
  have h256 : 2 ^ rkN s (w.1 0 1) ≤ 256 := by
    have : 2 ^ rkN s (w.1 0 1) ≤ 2 ^ 8 := Nat.pow_le_pow_right (by decide) hz
    have e : (2 : Nat) ^ 8 = 256 := by decide
    omega
  have hpos : 1 ≤ 2 ^ rkN s (w.1 0 1) := Nat.pow_pos (by decide)
  intro m
  induction m with
  | zero =>
    intro x T hx hO hF
    have : x = w.1 0 1 := by omega
    subst this
    refine ep_succ (fun n => G127e7 95 n ..) ?_
    have hc : T.1 95 1 = nI (w.1 0 1) := by rw [(hF.1 95 (by omega)).1]; exact hw.2.1
    have e := hO.1
    simp (disch := omega) only [G127b7, L0, L1, L2, L3, L4, L5, L6, L7, L8, L9, L10, L11, L12, L13, L16, L20, L31, L32, L40, L48, L57, L59, L60, L61, L91, L93, L97, L99, L100, L102, L103, L114, L122, L255, L300, L400, L402, L999, L2280, L2500, L99999, L63, L1431655765, L858993459, L252645135, ic_ge, ic_gt, ic_le, ic_lt, ic_eq, ic_ne, if_lt, if_ge, if_gt, if_le, if_eq, if_ne, if_lt_zI, if_ge_zI, ic_ne_m1, ic_eq_m1, ic_nn_m1, ic_ee_m1, if_ne_b2i, if_eq_b2i, b2i_z, decide_eq_true_eq, decide_true, decide_false, Bool.not_eq_true, Bool.not_eq_true', Bool.not_true, Bool.not_false, decide_eq_false_iff_not, Bool.false_eq_true, not_false_eq_true, not_true_eq_false, if_true, if_false, ↓reduceIte, eq_self, Option.bind_some, Bool.true_and, Bool.false_and, Bool.and_true, Bool.and_false, nI_add, nI_subN, nI_clamp, gdF, gdF2, gdP, gdP2, zI_cl, zI_s, Lm1, nI_n0, zI_n0, leF, or_false, false_or, or_self, hc, e, Nat.le_refl, nI_shl]
    exact g127b hN hz hs ht _ T (by omega) hO hF (fun L' y h1 h2 => by omega)
  | succ m ih =>
    intro x T hx hO hF
    have hc : T.1 95 1 = nI (w.1 0 1) := by rw [(hF.1 95 (by omega)).1]; exact hw.2.1
    have e1 : ¬ w.1 0 1 ≤ x := by omega
    refine ep_succ (fun n => G127e7 95 n ..) ?_
    by_cases hb : s.testBit x = true
    · have hr := rk_lt (show x < w.1 0 1 by omega) hb
      have e := hO.1
      have e2 : ¬ 8 ≤ rkN s x := by omega
      have cw : ∀ T', FrO T0 T' → CW T' 95 w := fun T' hF' => CW_of hw (hF'.1 95 (by omega)).1 (fun k a b => (hF'.1 (95 + k) (by omega)).2)
      have tx := ht x (by omega)
      have tl := isTx_lt tx
      simp (disch := omega) only [G127b7, L0, L1, L2, L3, L4, L5, L6, L7, L8, L9, L10, L11, L12, L13, L16, L20, L31, L32, L40, L48, L57, L59, L60, L61, L91, L93, L97, L99, L100, L102, L103, L114, L122, L255, L300, L400, L402, L999, L2280, L2500, L99999, L63, L1431655765, L858993459, L252645135, ic_ge, ic_gt, ic_le, ic_lt, ic_eq, ic_ne, if_lt, if_ge, if_gt, if_le, if_eq, if_ne, if_lt_zI, if_ge_zI, ic_ne_m1, ic_eq_m1, ic_nn_m1, ic_ee_m1, if_ne_b2i, if_eq_b2i, b2i_z, decide_eq_true_eq, decide_true, decide_false, Bool.not_eq_true, Bool.not_eq_true', Bool.not_true, Bool.not_false, decide_eq_false_iff_not, Bool.false_eq_true, not_false_eq_true, not_true_eq_false, if_true, if_false, ↓reduceIte, eq_self, Option.bind_some, Bool.true_and, Bool.false_and, Bool.and_true, Bool.and_false, nI_add, nI_subN, nI_clamp, gdF, gdF2, gdP, gdP2, zI_cl, zI_s, Lm1, nI_n0, zI_n0, leF, or_false, false_or, or_self, hc, e1, nI_bit, hb, ic_ne_b1, e, e2]
      have f1 := FrO_A (p := 126) (j := rkN s x) (x := nI x) hF (by omega)
      refine ep_bv (g95 (cw _ f1) (by omega) (by omega) tx) ?_
      have f2 := FrO_A (p := 127) (j := rkN s x) (x := nI (fstN (w.1 2 x))) f1 (by omega)
      simp (disch := omega) only [L0, L1, L2, L3, L4, L5, L6, L7, L8, L9, L10, L11, L12, L13, L16, L20, L31, L32, L40, L48, L57, L59, L60, L61, L91, L93, L97, L99, L100, L102, L103, L114, L122, L255, L300, L400, L402, L999, L2280, L2500, L99999, L63, L1431655765, L858993459, L252645135, ic_ge, ic_gt, ic_le, ic_lt, ic_eq, ic_ne, if_lt, if_ge, if_gt, if_le, if_eq, if_ne, if_lt_zI, if_ge_zI, ic_ne_m1, ic_eq_m1, ic_nn_m1, ic_ee_m1, if_ne_b2i, if_eq_b2i, b2i_z, decide_eq_true_eq, decide_true, decide_false, Bool.not_eq_true, Bool.not_eq_true', Bool.not_true, Bool.not_false, decide_eq_false_iff_not, Bool.false_eq_true, not_false_eq_true, not_true_eq_false, if_true, if_false, ↓reduceIte, eq_self, Option.bind_some, Bool.true_and, Bool.false_and, Bool.and_true, Bool.and_false, nI_add, nI_subN, nI_clamp, gdF, gdF2, gdP, gdP2, zI_cl, zI_s, Lm1, nI_n0, zI_n0, leF, or_false, false_or, or_self, x_rA1, e]
      refine ep_bv (g94 (cw _ f2) (by omega) (by omega) (by omega)) ?_
      simp (disch := omega) only [L0, L1, L2, L3, L4, L5, L6, L7, L8, L9, L10, L11, L12, L13, L16, L20, L31, L32, L40, L48, L57, L59, L60, L61, L91, L93, L97, L99, L100, L102, L103, L114, L122, L255, L300, L400, L402, L999, L2280, L2500, L99999, L63, L1431655765, L858993459, L252645135, ic_ge, ic_gt, ic_le, ic_lt, ic_eq, ic_ne, if_lt, if_ge, if_gt, if_le, if_eq, if_ne, if_lt_zI, if_ge_zI, ic_ne_m1, ic_eq_m1, ic_nn_m1, ic_ee_m1, if_ne_b2i, if_eq_b2i, b2i_z, decide_eq_true_eq, decide_true, decide_false, Bool.not_eq_true, Bool.not_eq_true', Bool.not_true, Bool.not_false, decide_eq_false_iff_not, Bool.false_eq_true, not_false_eq_true, not_true_eq_false, if_true, if_false, ↓reduceIte, eq_self, Option.bind_some, Bool.true_and, Bool.false_and, Bool.and_true, Bool.and_false, nI_add, nI_subN, nI_clamp, gdF, gdF2, gdP, gdP2, zI_cl, zI_s, Lm1, nI_n0, zI_n0, leF, or_false, false_or, or_self, x_rA1, e]
      refine ih (x + 1) _ (by omega) ⟨?_, fun y hy hby => ?_⟩ (FrO_I (FrO_A f2 (by omega)))
      · rw [rk_s hb, x_rIe]
      · by_cases ey : y = x
        · subst ey
          refine ⟨?_, ?_, ?_⟩ <;> simp only [x_rI2] <;> simp (disch := omega) only [x_rAn, x_rAe]
        · have hlt := rk_lt (show y < x by omega) hby
          obtain ⟨a1, a2, a3⟩ := hO.2 y (by omega) hby
          refine ⟨?_, ?_, ?_⟩ <;> simp only [x_rI2] <;> simp (disch := omega) only [x_rAn, x_rAi, a1, a2, a3]
    · have hb' := Bool.eq_false_iff.mpr hb
      simp (disch := omega) only [G127b7, L0, L1, L2, L3, L4, L5, L6, L7, L8, L9, L10, L11, L12, L13, L16, L20, L31, L32, L40, L48, L57, L59, L60, L61, L91, L93, L97, L99, L100, L102, L103, L114, L122, L255, L300, L400, L402, L999, L2280, L2500, L99999, L63, L1431655765, L858993459, L252645135, ic_ge, ic_gt, ic_le, ic_lt, ic_eq, ic_ne, if_lt, if_ge, if_gt, if_le, if_eq, if_ne, if_lt_zI, if_ge_zI, ic_ne_m1, ic_eq_m1, ic_nn_m1, ic_ee_m1, if_ne_b2i, if_eq_b2i, b2i_z, decide_eq_true_eq, decide_true, decide_false, Bool.not_eq_true, Bool.not_eq_true', Bool.not_true, Bool.not_false, decide_eq_false_iff_not, Bool.false_eq_true, not_false_eq_true, not_true_eq_false, if_true, if_false, ↓reduceIte, eq_self, Option.bind_some, Bool.true_and, Bool.false_and, Bool.and_true, Bool.and_false, nI_add, nI_subN, nI_clamp, gdF, gdF2, gdP, gdP2, zI_cl, zI_s, Lm1, nI_n0, zI_n0, leF, or_false, false_or, or_self, hc, e1, nI_bit, hb', ic_ne_b1]
      refine ih (x + 1) _ (by omega) ⟨?_, fun y hy hby => ?_⟩ hF
      · rw [rk_n hb]
        exact hO.1
      · by_cases ey : y = x
        · subst ey
          exact absurd hby hb
        · exact hO.2 y (by omega) hby
theorem g127 {T0 : xS} {w : AW} (hw : CW T0 95 w) (hN : w.1 0 1 ≤ 12) (hz : rkN s (w.1 0 1) ≤ 8) (hs31 : s < 2 ^ 31) (hs : ∀ x, s.testBit x = true → x < w.1 0 1) (ht : ∀ x, x < w.1 0 1 → isTx (w.1 2 x) = true) : Ep (fun n => G127 95 n (nI s) T0) (fun z => OR z.2 (w.1 2) s (w.1 0 1) ∧ FrO T0 z.2 ∧ WA z.2 (w.1 2) s (w.1 0 1) 0) := by
  refine ep_succ (fun n => G127e0 95 n ..) ?_
  simp only [G127b0, L0]
  exact g127a hw hN hz hs31 hs ht _ 0 _ (Nat.zero_add _) ⟨x_rIe, fun y hy => absurd hy (Nat.not_lt_zero _)⟩ (FrO_I FrO_rf)
theorem g130 {T : xS} (h : OR T t s N) (hN : N ≤ 12) (hz : rkN s N ≤ 8) (hs : ∀ x, s.testBit x = true → x < N) (ht : ∀ x, x < N → isTx (t x) = true) (hW : WA T t s N 0) : Ev (fun n => G130 n T) (nI (cwF t N (rkN s N) 0 s.testBit), T) := by
  refine ev_succ (fun n => G130e0 n ..) ?_
  have e := h.1
  by_cases h0 : rkN s N = 0
  · rw [h0] at e ⊢
    simp (disch := omega) only [G130b0, L0, L1, L2, L3, L4, L5, L6, L7, L8, L9, L10, L11, L12, L13, L16, L20, L31, L32, L40, L48, L57, L59, L60, L61, L91, L93, L97, L99, L100, L102, L103, L114, L122, L255, L300, L400, L402, L999, L2280, L2500, L99999, L63, L1431655765, L858993459, L252645135, ic_ge, ic_gt, ic_le, ic_lt, ic_eq, ic_ne, if_lt, if_ge, if_gt, if_le, if_eq, if_ne, if_lt_zI, if_ge_zI, ic_ne_m1, ic_eq_m1, ic_nn_m1, ic_ee_m1, if_ne_b2i, if_eq_b2i, b2i_z, decide_eq_true_eq, decide_true, decide_false, Bool.not_eq_true, Bool.not_eq_true', Bool.not_true, Bool.not_false, decide_eq_false_iff_not, Bool.false_eq_true, not_false_eq_true, not_true_eq_false, if_true, if_false, ↓reduceIte, eq_self, Option.bind_some, Bool.true_and, Bool.false_and, Bool.and_true, Bool.and_false, nI_add, nI_subN, nI_clamp, gdF, gdF2, gdP, gdP2, zI_cl, zI_s, Lm1, nI_n0, zI_n0, leF, or_false, false_or, or_self, e]
    exact ev_ret
  · obtain ⟨m0, hm0⟩ : ∃ m0, rkN s N = m0 + 1 := ⟨rkN s N - 1, by omega⟩
    have hc : ctF (frL s 0) N 0 = m0 + 1 := by rw [frL_0]; exact hm0
    have gg := g128 h hN hz hs ht (show 0 < 256 by decide) (Or.inl rfl) (WA_Y (l := 0) hs hW (Nat.pow_pos (by decide)) hc)
    rw [lr_0, frL_0] at gg
    rw [hm0] at e ⊢
    simp (disch := omega) only [G130b0, L0, L1, L2, L3, L4, L5, L6, L7, L8, L9, L10, L11, L12, L13, L16, L20, L31, L32, L40, L48, L57, L59, L60, L61, L91, L93, L97, L99, L100, L102, L103, L114, L122, L255, L300, L400, L402, L999, L2280, L2500, L99999, L63, L1431655765, L858993459, L252645135, ic_ge, ic_gt, ic_le, ic_lt, ic_eq, ic_ne, if_lt, if_ge, if_gt, if_le, if_eq, if_ne, if_lt_zI, if_ge_zI, ic_ne_m1, ic_eq_m1, ic_nn_m1, ic_ee_m1, if_ne_b2i, if_eq_b2i, b2i_z, decide_eq_true_eq, decide_true, decide_false, Bool.not_eq_true, Bool.not_eq_true', Bool.not_true, Bool.not_false, decide_eq_false_iff_not, Bool.false_eq_true, not_false_eq_true, not_true_eq_false, if_true, if_false, ↓reduceIte, eq_self, Option.bind_some, Bool.true_and, Bool.false_and, Bool.and_true, Bool.and_false, nI_add, nI_subN, nI_clamp, gdF, gdF2, gdP, gdP2, zI_cl, zI_s, Lm1, nI_n0, zI_n0, leF, or_false, false_or, or_self, e]
    refine ev_bind gg ?_
    exact ev_ret
theorem g131l {T : xS} {p : Nat} (h : OR T t s N) (hN : N ≤ 12) (hz : rkN s N ≤ 8) (hs : ∀ x, s.testBit x = true → x < N) (ht : ∀ x, x < N → isTx (t x) = true) (hW : WA T t s N 0) (hp : p < rkN s N) : ∀ (d i L l : Nat), i + d = p → L < 2 ^ rkN s N → (l = 0 ∨ s.testBit (l - 1) = true) → ctF (frL s L) N 0 + i = rkN s N → cwF t N (ctF (frL s L) N 0) l (frL s L) ≠ 0 → Ev (fun n => G131f n 17 (nI p) (nI L) (zI (lrN s l)) (nI i) T) (nI (foF t N (ctF (frL s L) N 0) l (frL s L) d), T) := by
  have h256 : 2 ^ rkN s N ≤ 256 := by
    have : 2 ^ rkN s N ≤ 2 ^ 8 := Nat.pow_le_pow_right (by decide) hz
    have e : (2 : Nat) ^ 8 = 256 := by decide
    omega
  intro d
  induction d with
  | zero =>
    intro i L l hi hL hl hc hw
    obtain ⟨m0, hm0⟩ : ∃ m0, ctF (frL s L) N 0 = m0 + 1 := ⟨ctF (frL s L) N 0 - 1, by omega⟩
    rw [hm0] at hw ⊢
    obtain ⟨x, hx, f1, f2, f3, f4⟩ := fx_some hw
    have hb : s.testBit x = true := by
      unfold frL at f2
      rw [Bool.and_eq_true] at f2
      exact f2.1
    have hr := rk_lt hx hb
    have gg := g132 h hN hz hs ht (show L < 256 by omega) (show m0 ≤ 8 by omega) hl (WA_Y (l := l) hs (fun L' y a b => hW L' y (by omega) b) hL hm0)
    rw [f1] at gg
    have gg : Ev (fun n => G132 n (nI L) (zI (lrN s l)) T) (zI (rkN s x + 1), T) := gg
    rw [zI_s] at gg
    have e : ¬ p < i := by omega
    refine ev_succ (fun n => G131e17 n ..) ?_
    simp (disch := omega) only [G131b17, L0, L1, L2, L3, L4, L5, L6, L7, L8, L9, L10, L11, L12, L13, L16, L20, L31, L32, L40, L48, L57, L59, L60, L61, L91, L93, L97, L99, L100, L102, L103, L114, L122, L255, L300, L400, L402, L999, L2280, L2500, L99999, L63, L1431655765, L858993459, L252645135, ic_ge, ic_gt, ic_le, ic_lt, ic_eq, ic_ne, if_lt, if_ge, if_gt, if_le, if_eq, if_ne, if_lt_zI, if_ge_zI, ic_ne_m1, ic_eq_m1, ic_nn_m1, ic_ee_m1, if_ne_b2i, if_eq_b2i, b2i_z, decide_eq_true_eq, decide_true, decide_false, Bool.not_eq_true, Bool.not_eq_true', Bool.not_true, Bool.not_false, decide_eq_false_iff_not, Bool.false_eq_true, not_false_eq_true, not_true_eq_false, if_true, if_false, ↓reduceIte, eq_self, Option.bind_some, Bool.true_and, Bool.false_and, Bool.and_true, Bool.and_false, nI_add, nI_subN, nI_clamp, gdF, gdF2, gdP, gdP2, zI_cl, zI_s, Lm1, nI_n0, zI_n0, leF, or_false, false_or, or_self, e]
    refine ev_bind gg ?_
    simp (disch := omega) only [L0, L1, L2, L3, L4, L5, L6, L7, L8, L9, L10, L11, L12, L13, L16, L20, L31, L32, L40, L48, L57, L59, L60, L61, L91, L93, L97, L99, L100, L102, L103, L114, L122, L255, L300, L400, L402, L999, L2280, L2500, L99999, L63, L1431655765, L858993459, L252645135, ic_ge, ic_gt, ic_le, ic_lt, ic_eq, ic_ne, if_lt, if_ge, if_gt, if_le, if_eq, if_ne, if_lt_zI, if_ge_zI, ic_ne_m1, ic_eq_m1, ic_nn_m1, ic_ee_m1, if_ne_b2i, if_eq_b2i, b2i_z, decide_eq_true_eq, decide_true, decide_false, Bool.not_eq_true, Bool.not_eq_true', Bool.not_true, Bool.not_false, decide_eq_false_iff_not, Bool.false_eq_true, not_false_eq_true, not_true_eq_false, if_true, if_false, ↓reduceIte, eq_self, Option.bind_some, Bool.true_and, Bool.false_and, Bool.and_true, Bool.and_false, nI_add, nI_subN, nI_clamp, gdF, gdF2, gdP, gdP2, zI_cl, zI_s, Lm1, nI_n0, zI_n0, leF, or_false, false_or, or_self, nI_shl, nx_or]
    refine ev_succ (fun n => G131e17 n ..) ?_
    have e' : p < i + 1 := by omega
    have r1 := (h.2 x hx hb).1
    have ef : foF t N (m0 + 1) l (frL s L) 0 = x := by
      unfold foF
      rw [f1]
      rfl
    rw [ef]
    simp (disch := omega) only [G131b17, L0, L1, L2, L3, L4, L5, L6, L7, L8, L9, L10, L11, L12, L13, L16, L20, L31, L32, L40, L48, L57, L59, L60, L61, L91, L93, L97, L99, L100, L102, L103, L114, L122, L255, L300, L400, L402, L999, L2280, L2500, L99999, L63, L1431655765, L858993459, L252645135, ic_ge, ic_gt, ic_le, ic_lt, ic_eq, ic_ne, if_lt, if_ge, if_gt, if_le, if_eq, if_ne, if_lt_zI, if_ge_zI, ic_ne_m1, ic_eq_m1, ic_nn_m1, ic_ee_m1, if_ne_b2i, if_eq_b2i, b2i_z, decide_eq_true_eq, decide_true, decide_false, Bool.not_eq_true, Bool.not_eq_true', Bool.not_true, Bool.not_false, decide_eq_false_iff_not, Bool.false_eq_true, not_false_eq_true, not_true_eq_false, if_true, if_false, ↓reduceIte, eq_self, Option.bind_some, Bool.true_and, Bool.false_and, Bool.and_true, Bool.and_false, nI_add, nI_subN, nI_clamp, gdF, gdF2, gdP, gdP2, zI_cl, zI_s, Lm1, nI_n0, zI_n0, leF, or_false, false_or, or_self, e', r1]
    exact ev_ret
  | succ d ih =>
    intro i L l hi hL hl hc hw
    obtain ⟨m0, hm0⟩ : ∃ m0, ctF (frL s L) N 0 = m0 + 1 := ⟨ctF (frL s L) N 0 - 1, by omega⟩
    have hw2 := hw
    rw [hm0] at hw ⊢
    obtain ⟨x, hx, f1, f2, f3, f4⟩ := fx_some hw
    have hb : s.testBit x = true := by
      unfold frL at f2
      rw [Bool.and_eq_true] at f2
      exact f2.1
    have hr := rk_lt hx hb
    have gg := g132 h hN hz hs ht (show L < 256 by omega) (show m0 ≤ 8 by omega) hl (WA_Y (l := l) hs (fun L' y a b => hW L' y (by omega) b) hL hm0)
    rw [f1] at gg
    have gg : Ev (fun n => G132 n (nI L) (zI (lrN s l)) T) (zI (rkN s x + 1), T) := gg
    rw [zI_s] at gg
    have e : ¬ p < i := by omega
    refine ev_succ (fun n => G131e17 n ..) ?_
    simp (disch := omega) only [G131b17, L0, L1, L2, L3, L4, L5, L6, L7, L8, L9, L10, L11, L12, L13, L16, L20, L31, L32, L40, L48, L57, L59, L60, L61, L91, L93, L97, L99, L100, L102, L103, L114, L122, L255, L300, L400, L402, L999, L2280, L2500, L99999, L63, L1431655765, L858993459, L252645135, ic_ge, ic_gt, ic_le, ic_lt, ic_eq, ic_ne, if_lt, if_ge, if_gt, if_le, if_eq, if_ne, if_lt_zI, if_ge_zI, ic_ne_m1, ic_eq_m1, ic_nn_m1, ic_ee_m1, if_ne_b2i, if_eq_b2i, b2i_z, decide_eq_true_eq, decide_true, decide_false, Bool.not_eq_true, Bool.not_eq_true', Bool.not_true, Bool.not_false, decide_eq_false_iff_not, Bool.false_eq_true, not_false_eq_true, not_true_eq_false, if_true, if_false, ↓reduceIte, eq_self, Option.bind_some, Bool.true_and, Bool.false_and, Bool.and_true, Bool.and_false, nI_add, nI_subN, nI_clamp, gdF, gdF2, gdP, gdP2, zI_cl, zI_s, Lm1, nI_n0, zI_n0, leF, or_false, false_or, or_self, e]
    refine ev_bind gg ?_
    simp (disch := omega) only [L0, L1, L2, L3, L4, L5, L6, L7, L8, L9, L10, L11, L12, L13, L16, L20, L31, L32, L40, L48, L57, L59, L60, L61, L91, L93, L97, L99, L100, L102, L103, L114, L122, L255, L300, L400, L402, L999, L2280, L2500, L99999, L63, L1431655765, L858993459, L252645135, ic_ge, ic_gt, ic_le, ic_lt, ic_eq, ic_ne, if_lt, if_ge, if_gt, if_le, if_eq, if_ne, if_lt_zI, if_ge_zI, ic_ne_m1, ic_eq_m1, ic_nn_m1, ic_ee_m1, if_ne_b2i, if_eq_b2i, b2i_z, decide_eq_true_eq, decide_true, decide_false, Bool.not_eq_true, Bool.not_eq_true', Bool.not_true, Bool.not_false, decide_eq_false_iff_not, Bool.false_eq_true, not_false_eq_true, not_true_eq_false, if_true, if_false, ↓reduceIte, eq_self, Option.bind_some, Bool.true_and, Bool.false_and, Bool.and_true, Bool.and_false, nI_add, nI_subN, nI_clamp, gdF, gdF2, gdP, gdP2, zI_cl, zI_s, Lm1, nI_n0, zI_n0, leF, or_false, false_or, or_self, nI_shl, nx_or]
    have hct := frL_ct (N := N) hb hx f2
    have hct' : ctF (frL s (L ||| 2 ^ rkN s x)) N 0 = m0 := by omega
    have ig := ih (i + 1) (L ||| 2 ^ rkN s x) (x + 1) (by omega) (or_lt hL hr) (Or.inr hb) (by omega) (by rw [hct', frL_rm hb]; exact f4)
    rw [hct', frL_rm hb, lr_s, zI_s] at ig
    have ef : foF t N (m0 + 1) l (frL s L) (d + 1) = foF t N m0 (x + 1) (rmF (frL s L) x) d := by
      show (fxF t N m0 l (frL s L) N 0).elim 0 _ = _
      rw [f1]
      show (if d + 1 = 0 then x else foF t N m0 (x + 1) (rmF (frL s L) x) (d + 1 - 1)) = _
      rw [if_neg (by omega), Nat.add_sub_cancel]
    rw [ef]
    exact ig
theorem g131 {T : xS} {p : Nat} (h : OR T t s N) (hN : N ≤ 12) (hz : rkN s N ≤ 8) (hs : ∀ x, s.testBit x = true → x < N) (ht : ∀ x, x < N → isTx (t x) = true) (hW : WA T t s N 0) (hp31 : p < 2 ^ 31) : Ev (fun n => G131 n (nI p) T) (if p < rkN s N ∧ cwF t N (rkN s N) 0 s.testBit ≠ 0 then nI (foF t N (rkN s N) 0 s.testBit p) else zI 0, T) := by
  have e := h.1
  refine ev_succ (fun n => G131e0 n ..) ?_
  by_cases hp : p < rkN s N
  · have hc : ctF (frL s 0) N 0 = rkN s N := by rw [frL_0]; rfl
    have hpow : (0 : Nat) < 2 ^ rkN s N := Nat.pow_pos (by decide)
    by_cases h0 : cwF t N (rkN s N) 0 s.testBit = 0
    · rw [if_neg (fun e => e.2 h0)]
      simp (disch := omega) only [G131b0, L0, L1, L2, L3, L4, L5, L6, L7, L8, L9, L10, L11, L12, L13, L16, L20, L31, L32, L40, L48, L57, L59, L60, L61, L91, L93, L97, L99, L100, L102, L103, L114, L122, L255, L300, L400, L402, L999, L2280, L2500, L99999, L63, L1431655765, L858993459, L252645135, ic_ge, ic_gt, ic_le, ic_lt, ic_eq, ic_ne, if_lt, if_ge, if_gt, if_le, if_eq, if_ne, if_lt_zI, if_ge_zI, ic_ne_m1, ic_eq_m1, ic_nn_m1, ic_ee_m1, if_ne_b2i, if_eq_b2i, b2i_z, decide_eq_true_eq, decide_true, decide_false, Bool.not_eq_true, Bool.not_eq_true', Bool.not_true, Bool.not_false, decide_eq_false_iff_not, Bool.false_eq_true, not_false_eq_true, not_true_eq_false, if_true, if_false, ↓reduceIte, eq_self, Option.bind_some, Bool.true_and, Bool.false_and, Bool.and_true, Bool.and_false, nI_add, nI_subN, nI_clamp, gdF, gdF2, gdP, gdP2, zI_cl, zI_s, Lm1, nI_n0, zI_n0, leF, or_false, false_or, or_self, e, hp]
      obtain ⟨m0, hm0⟩ : ∃ m0, rkN s N = m0 + 1 := ⟨rkN s N - 1, by omega⟩
      have gg := g132 h hN hz hs ht (show 0 < 256 by decide) (show m0 ≤ 8 by omega) (Or.inl rfl) (WA_Y (l := 0) hs hW hpow (by rw [hc, hm0]))
      rw [hm0] at h0
      rw [lr_0, frL_0, fx_none h0] at gg
      have gg : Ev (fun n => G132 n (nI 0) (zI 0) T) (zI 0, T) := gg
      refine ev_succ (fun n => G131e17 n ..) ?_
      have e' : ¬ p < 0 := by omega
      simp (disch := omega) only [G131b17, L0, L1, L2, L3, L4, L5, L6, L7, L8, L9, L10, L11, L12, L13, L16, L20, L31, L32, L40, L48, L57, L59, L60, L61, L91, L93, L97, L99, L100, L102, L103, L114, L122, L255, L300, L400, L402, L999, L2280, L2500, L99999, L63, L1431655765, L858993459, L252645135, ic_ge, ic_gt, ic_le, ic_lt, ic_eq, ic_ne, if_lt, if_ge, if_gt, if_le, if_eq, if_ne, if_lt_zI, if_ge_zI, ic_ne_m1, ic_eq_m1, ic_nn_m1, ic_ee_m1, if_ne_b2i, if_eq_b2i, b2i_z, decide_eq_true_eq, decide_true, decide_false, Bool.not_eq_true, Bool.not_eq_true', Bool.not_true, Bool.not_false, decide_eq_false_iff_not, Bool.false_eq_true, not_false_eq_true, not_true_eq_false, if_true, if_false, ↓reduceIte, eq_self, Option.bind_some, Bool.true_and, Bool.false_and, Bool.and_true, Bool.and_false, nI_add, nI_subN, nI_clamp, gdF, gdF2, gdP, gdP2, zI_cl, zI_s, Lm1, nI_n0, zI_n0, leF, or_false, false_or, or_self, e']
      refine ev_bind gg ?_
      simp (disch := omega) only [L0, L1, L2, L3, L4, L5, L6, L7, L8, L9, L10, L11, L12, L13, L16, L20, L31, L32, L40, L48, L57, L59, L60, L61, L91, L93, L97, L99, L100, L102, L103, L114, L122, L255, L300, L400, L402, L999, L2280, L2500, L99999, L63, L1431655765, L858993459, L252645135, ic_ge, ic_gt, ic_le, ic_lt, ic_eq, ic_ne, if_lt, if_ge, if_gt, if_le, if_eq, if_ne, if_lt_zI, if_ge_zI, ic_ne_m1, ic_eq_m1, ic_nn_m1, ic_ee_m1, if_ne_b2i, if_eq_b2i, b2i_z, decide_eq_true_eq, decide_true, decide_false, Bool.not_eq_true, Bool.not_eq_true', Bool.not_true, Bool.not_false, decide_eq_false_iff_not, Bool.false_eq_true, not_false_eq_true, not_true_eq_false, if_true, if_false, ↓reduceIte, eq_self, Option.bind_some, Bool.true_and, Bool.false_and, Bool.and_true, Bool.and_false, nI_add, nI_subN, nI_clamp, gdF, gdF2, gdP, gdP2, zI_cl, zI_s, Lm1, nI_n0, zI_n0, leF, or_false, false_or, or_self]
      exact ev_ret
    · rw [if_pos ⟨hp, h0⟩]
      simp (disch := omega) only [G131b0, L0, L1, L2, L3, L4, L5, L6, L7, L8, L9, L10, L11, L12, L13, L16, L20, L31, L32, L40, L48, L57, L59, L60, L61, L91, L93, L97, L99, L100, L102, L103, L114, L122, L255, L300, L400, L402, L999, L2280, L2500, L99999, L63, L1431655765, L858993459, L252645135, ic_ge, ic_gt, ic_le, ic_lt, ic_eq, ic_ne, if_lt, if_ge, if_gt, if_le, if_eq, if_ne, if_lt_zI, if_ge_zI, ic_ne_m1, ic_eq_m1, ic_nn_m1, ic_ee_m1, if_ne_b2i, if_eq_b2i, b2i_z, decide_eq_true_eq, decide_true, decide_false, Bool.not_eq_true, Bool.not_eq_true', Bool.not_true, Bool.not_false, decide_eq_false_iff_not, Bool.false_eq_true, not_false_eq_true, not_true_eq_false, if_true, if_false, ↓reduceIte, eq_self, Option.bind_some, Bool.true_and, Bool.false_and, Bool.and_true, Bool.and_false, nI_add, nI_subN, nI_clamp, gdF, gdF2, gdP, gdP2, zI_cl, zI_s, Lm1, nI_n0, zI_n0, leF, or_false, false_or, or_self, e, hp]
      have ig := g131l h hN hz hs ht hW hp p 0 0 0 (by omega) hpow (Or.inl rfl) (by rw [hc]; omega) (by rw [hc, frL_0]; exact h0)
      rw [hc, frL_0, lr_0] at ig
      exact ig
  · rw [if_neg (fun e => hp e.1)]
    simp (disch := omega) only [G131b0, L0, L1, L2, L3, L4, L5, L6, L7, L8, L9, L10, L11, L12, L13, L16, L20, L31, L32, L40, L48, L57, L59, L60, L61, L91, L93, L97, L99, L100, L102, L103, L114, L122, L255, L300, L400, L402, L999, L2280, L2500, L99999, L63, L1431655765, L858993459, L252645135, ic_ge, ic_gt, ic_le, ic_lt, ic_eq, ic_ne, if_lt, if_ge, if_gt, if_le, if_eq, if_ne, if_lt_zI, if_ge_zI, ic_ne_m1, ic_eq_m1, ic_nn_m1, ic_ee_m1, if_ne_b2i, if_eq_b2i, b2i_z, decide_eq_true_eq, decide_true, decide_false, Bool.not_eq_true, Bool.not_eq_true', Bool.not_true, Bool.not_false, decide_eq_false_iff_not, Bool.false_eq_true, not_false_eq_true, not_true_eq_false, if_true, if_false, ↓reduceIte, eq_self, Option.bind_some, Bool.true_and, Bool.false_and, Bool.and_true, Bool.and_false, nI_add, nI_subN, nI_clamp, gdF, gdF2, gdP, gdP2, zI_cl, zI_s, Lm1, nI_n0, zI_n0, leF, or_false, false_or, or_self, e, hp]
    exact ev_ret
end Pr2
