/-! joins, catches, the whole day in the program -/
theorem nI_bit2 {a s : Nat} : nI (a >>> s) &&& nI 1 = b2i (a.testBit s) := by
  rw [nx_and, Nat.and_one_is_mod, Nat.testBit_eq_decide_div_mod_eq, Nat.shiftRight_eq_div_pow]
  generalize a / 2 ^ s = z
  rcases Nat.mod_two_eq_zero_or_one z with h | h <;> rw [h] <;> rfl
theorem nI_ltP {a b : Nat} (ha : a < 2 ^ 31) (hb : b < 2 ^ 31) : (nI a < nI b) = (a < b) := propext (nI_ltI' ha hb)
theorem ctF_s1 {P : Nat → Bool} {s : Nat} : ctF P (s + 1) 0 = ctF P s 0 + (if P s = true then 1 else 0) := by
  rw [ctF_add, Nat.zero_add]
  rfl
theorem manyN_le {w : AW} {c : Nat} : manyN w c ≤ w.1 0 1 := ctF_le _ _ _
theorem g90l {T : xS} {wb L : Nat} {w : AW} (hw : CW T wb w) (hn : w.1 0 1 ≤ 13) (hp : ∀ s, s < w.1 0 1 → w.1 1 s ≤ 16) (hL : L = 1 ∨ L = 2) : ∀ (m s o t : Nat), s + m = w.1 0 1 → o < 65536 → t < 65536 → (∀ c, o.testBit c = decide (1 ≤ ctF (fun i => decide (w.1 1 i = c + 1)) s 0)) → (∀ c, t.testBit c = decide (2 ≤ ctF (fun i => decide (w.1 1 i = c + 1)) s 0)) → Ep (fun n => G90f wb n 7 (nI L) (nI o) (nI t) (nI s) T) (fun z => z.2 = T ∧ ∃ v, v < 65536 ∧ z.1 = nI v ∧ ∀ c, v.testBit c = decide (L ≤ manyN w c)) := by
  intro m
  induction m with
  | zero =>
    intro s o t hs ho ht h1 h2
    refine ep_succ (fun n => G90e7 wb n ..) ?_
    have hs : s = w.1 0 1 := by omega
    have e : w.1 0 1 ≤ s := by omega
    rcases hL with rfl | rfl
    · simp (disch := omega) only [G90b7, hw.2.1, L0, L1, L2, L3, L4, L5, L6, L7, L8, L9, L10, L11, L12, L13, L16, L20, L31, L32, L40, L48, L57, L59, L60, L61, L91, L93, L97, L99, L100, L102, L103, L114, L122, L255, L300, L400, L402, L999, L2280, L2500, L99999, L63, L1431655765, L858993459, L252645135, ic_ge, ic_gt, ic_le, ic_lt, ic_eq, ic_ne, if_lt, if_ge, if_gt, if_le, if_eq, if_ne, if_lt_zI, if_ge_zI, ic_ne_m1, ic_eq_m1, ic_nn_m1, ic_ee_m1, if_ne_b2i, if_eq_b2i, b2i_z, decide_eq_true_eq, decide_true, decide_false, Bool.not_eq_true, Bool.not_eq_true', Bool.not_true, Bool.not_false, decide_eq_false_iff_not, Bool.false_eq_true, not_false_eq_true, not_true_eq_false, if_true, if_false, ↓reduceIte, eq_self, Option.bind_some, Bool.true_and, Bool.false_and, Bool.and_true, Bool.and_false, nI_add, nI_subN, nI_clamp, gdF, gdF2, gdP, zI_cl, zI_s, Lm1, e]
      refine ep_ret ⟨rfl, o, ho, rfl, fun c => ?_⟩
      rw [h1 c, hs]
      rfl
    · simp (disch := omega) only [G90b7, hw.2.1, L0, L1, L2, L3, L4, L5, L6, L7, L8, L9, L10, L11, L12, L13, L16, L20, L31, L32, L40, L48, L57, L59, L60, L61, L91, L93, L97, L99, L100, L102, L103, L114, L122, L255, L300, L400, L402, L999, L2280, L2500, L99999, L63, L1431655765, L858993459, L252645135, ic_ge, ic_gt, ic_le, ic_lt, ic_eq, ic_ne, if_lt, if_ge, if_gt, if_le, if_eq, if_ne, if_lt_zI, if_ge_zI, ic_ne_m1, ic_eq_m1, ic_nn_m1, ic_ee_m1, if_ne_b2i, if_eq_b2i, b2i_z, decide_eq_true_eq, decide_true, decide_false, Bool.not_eq_true, Bool.not_eq_true', Bool.not_true, Bool.not_false, decide_eq_false_iff_not, Bool.false_eq_true, not_false_eq_true, not_true_eq_false, if_true, if_false, ↓reduceIte, eq_self, Option.bind_some, Bool.true_and, Bool.false_and, Bool.and_true, Bool.and_false, nI_add, nI_subN, nI_clamp, gdF, gdF2, gdP, zI_cl, zI_s, Lm1, e]
      refine ep_ret ⟨rfl, t, ht, rfl, fun c => ?_⟩
      rw [h2 c, hs]
      rfl
  | succ m ih =>
    intro s o t hs ho ht h1 h2
    refine ep_succ (fun n => G90e7 wb n ..) ?_
    have hr := (hw.2.2.2.1 s (by omega)).1
    have h16 := hp s (by omega)
    have e : ¬ w.1 0 1 ≤ s := by omega
    simp (disch := omega) only [G90b7, hw.2.1, L0, L1, L2, L3, L4, L5, L6, L7, L8, L9, L10, L11, L12, L13, L16, L20, L31, L32, L40, L48, L57, L59, L60, L61, L91, L93, L97, L99, L100, L102, L103, L114, L122, L255, L300, L400, L402, L999, L2280, L2500, L99999, L63, L1431655765, L858993459, L252645135, ic_ge, ic_gt, ic_le, ic_lt, ic_eq, ic_ne, if_lt, if_ge, if_gt, if_le, if_eq, if_ne, if_lt_zI, if_ge_zI, ic_ne_m1, ic_eq_m1, ic_nn_m1, ic_ee_m1, if_ne_b2i, if_eq_b2i, b2i_z, decide_eq_true_eq, decide_true, decide_false, Bool.not_eq_true, Bool.not_eq_true', Bool.not_true, Bool.not_false, decide_eq_false_iff_not, Bool.false_eq_true, not_false_eq_true, not_true_eq_false, if_true, if_false, ↓reduceIte, eq_self, Option.bind_some, Bool.true_and, Bool.false_and, Bool.and_true, Bool.and_false, nI_add, nI_subN, nI_clamp, gdF, gdF2, gdP, zI_cl, zI_s, Lm1, e, hr]
    by_cases h : w.1 1 s = 0
    · simp only [h, decide_eq_true_eq, decide_true, decide_false, Bool.not_eq_true, Bool.not_eq_true', Bool.not_true, Bool.not_false, decide_eq_false_iff_not, Bool.false_eq_true, not_false_eq_true, not_true_eq_false, if_true, if_false, ↓reduceIte, eq_self, Option.bind_some, Bool.true_and, Bool.false_and, Bool.and_true, Bool.and_false]
      refine ih (s + 1) o t (by omega) ho ht (fun c => ?_) (fun c => ?_)
      · rw [ctF_s1, show decide (w.1 1 s = c + 1) = false from decide_eq_false (by omega), h1 c]
        rfl
      · rw [ctF_s1, show decide (w.1 1 s = c + 1) = false from decide_eq_false (by omega), h2 c]
        rfl
    · obtain ⟨c0, hc0⟩ : ∃ c0, w.1 1 s = c0 + 1 := ⟨w.1 1 s - 1, by omega⟩
      simp (disch := omega) only [hc0, zI_s, Nat.add_eq_zero_iff, Nat.one_ne_zero, and_false, nI_shl, nI_shl2, nx_or, nx_and, decide_eq_true_eq, decide_true, decide_false, Bool.not_eq_true, Bool.not_eq_true', Bool.not_true, Bool.not_false, decide_eq_false_iff_not, Bool.false_eq_true, not_false_eq_true, not_true_eq_false, if_true, if_false, ↓reduceIte, eq_self, Option.bind_some, Bool.true_and, Bool.false_and, Bool.and_true, Bool.and_false]
      have hb : 2 ^ c0 < 65536 := Nat.pow_lt_pow_right (n := 16) (by decide) (by omega)
      refine ih (s + 1) _ _ (by omega) (Nat.or_lt_two_pow (n := 16) ho hb) (Nat.or_lt_two_pow (n := 16) ht (Nat.lt_of_le_of_lt Nat.and_le_right hb)) (fun c => ?_) (fun c => ?_)
      · rw [ctF_s1, hc0, Nat.testBit_or, h1 c, Nat.testBit_two_pow]
        by_cases e : c0 = c
        · subst e
          simp
        · rw [decide_eq_false e, show decide (c0 + 1 = c + 1) = false from decide_eq_false (by omega)]
          simp
      · rw [ctF_s1, hc0, Nat.testBit_or, Nat.testBit_and, h1 c, h2 c, Nat.testBit_two_pow]
        by_cases e : c0 = c
        · subst e
          generalize ctF (fun i => decide (w.1 1 i = c0 + 1)) s 0 = z
          rw [decide_eq_true (rfl : c0 = c0), decide_eq_true (rfl : c0 + 1 = c0 + 1), Bool.and_true, if_pos rfl, ← Bool.decide_or]
          exact decide_eq_decide.mpr (by omega)
        · rw [decide_eq_false e, show decide (c0 + 1 = c + 1) = false from decide_eq_false (by omega)]
          simp
theorem g90 {T : xS} {wb L : Nat} {w : AW} (hw : CW T wb w) (hn : w.1 0 1 ≤ 13) (hp : ∀ s, s < w.1 0 1 → w.1 1 s ≤ 16) (hL : L = 1 ∨ L = 2) : Ep (fun n => G90 wb n (nI L) T) (fun z => z.2 = T ∧ ∃ v, v < 65536 ∧ z.1 = nI v ∧ ∀ c, v.testBit c = decide (L ≤ manyN w c)) := by
  refine ep_succ (fun n => G90e0 wb n ..) ?_
  simp only [G90b0, L0]
  refine g90l hw hn hp hL (w.1 0 1) 0 0 0 (by omega) (by omega) (by omega) (fun c => ?_) (fun c => ?_)
  · rw [Nat.zero_testBit]
    rfl
  · rw [Nat.zero_testBit]
    rfl
theorem OkW_16 {b : AB} {w : AW} (hb : OkB b) (ok : OkW b w) : ∀ s, s < w.1 0 1 → w.1 1 s ≤ 16 := fun s hs => Nat.le_trans (ok.2.1 s hs).2.2.2.1 hb.1
theorem LC_ep {T T' : xS} {q ln : Nat} {f : (Nat → Int64) → Bool} {x : Nat → Int64} (h : ∀ (T' : xS) (x : Nat → Int64), T'.2.1 (q + 1) = T.2.1 (q + 1) → (∀ k, k < 11 → T'.2.2.1 121 k = x k) → ∃ y, Ev (fun n => G96 q ln n T') (b2i (f x), (T'.1, T'.2.1, y, T'.2.2.2))) (e1 : T'.2.1 (q + 1) = T.2.1 (q + 1)) (e2 : ∀ k, k < 11 → T'.2.2.1 121 k = x k) : Ep (fun n => G96 q ln n T') (fun z => z.1 = b2i (f x) ∧ Lg T' z.2) := by
  obtain ⟨y, hy⟩ := h T' x e1 e2
  exact ⟨_, hy, rfl, rfl, rfl, rfl⟩
theorem sam_v {a t v u : Nat} (ea : letN 0 a = nI v) (et : letN 0 t = nI u) : ctF (v &&& u).testBit 16 0 = samN a t := by
  unfold samN
  refine ctF_eq _ _ (fun i _ h => ?_)
  rw [ea, et, bt_nI (by omega), bt_nI (by omega), Nat.testBit_and]
theorem g93 {T : xS} {wb a j : Nat} {lo : Option Nat} {ln : Nat} {b : AB} {l : LW} {w : AW} (hD : DC T wb lo ln b l) (hw : CW T wb w) (ok : OkW b w) (hd : w.1 0 0 < 1000) (haj : a < j) (hj : j < w.1 0 1) (ha1 : w.1 1 a ≠ 0) : Ep (fun n => G93 wb lo ln n (nI a) (nI j) (nI (manyN w (w.1 1 a - 1))) T) (fun z => z.1 = b2i (canA l w a j) ∧ Lg T z.2) := by
  obtain ⟨hwb, hb3, hb4, hb5, hB, hb, hl⟩ := hD
  refine ep_succ (fun n => G93e0 wb lo ln n ..) ?_
  have hn := ok.1
  have oa := ok.2.1 a (by omega)
  have oj := ok.2.1 j hj
  have la := isTx_len oa.1
  have lj := isTx_len oj.1
  have ta := isTx_lt oa.1
  have tj := isTx_lt oj.1
  obtain ⟨r1, r2, r3, r4, r5, r6, r7, r8⟩ := hw.2.2.2.1 a (by omega)
  obtain ⟨q1, q2, q3, q4, q5, q6, q7, q8⟩ := hw.2.2.2.1 j hj
  unfold canA
  simp (disch := omega) only [G93b0, L0, L1, L2, L3, L4, L5, L6, L7, L8, L9, L10, L11, L12, L13, L16, L20, L31, L32, L40, L48, L57, L59, L60, L61, L91, L93, L97, L99, L100, L102, L103, L114, L122, L255, L300, L400, L402, L999, L2280, L2500, L99999, L63, L1431655765, L858993459, L252645135, ic_ge, ic_gt, ic_le, ic_lt, ic_eq, ic_ne, if_lt, if_ge, if_gt, if_le, if_eq, if_ne, if_lt_zI, if_ge_zI, ic_ne_m1, ic_eq_m1, ic_nn_m1, ic_ee_m1, if_ne_b2i, if_eq_b2i, b2i_z, decide_eq_true_eq, decide_true, decide_false, Bool.not_eq_true, Bool.not_eq_true', Bool.not_true, Bool.not_false, decide_eq_false_iff_not, Bool.false_eq_true, not_false_eq_true, not_true_eq_false, if_true, if_false, ↓reduceIte, eq_self, Option.bind_some, Bool.true_and, Bool.false_and, Bool.and_true, Bool.and_false, nI_add, nI_subN, nI_clamp, gdF, gdF2, gdP, zI_cl, zI_s, Lm1, hb4, hb5, r3, q3]
  by_cases h8 : lenN (w.1 2 a) + lenN (w.1 2 j) ≤ 8
  · simp only [h8, decide_eq_true_eq, decide_true, decide_false, Bool.not_eq_true, Bool.not_eq_true', Bool.not_true, Bool.not_false, decide_eq_false_iff_not, Bool.false_eq_true, not_false_eq_true, not_true_eq_false, if_true, if_false, ↓reduceIte, eq_self, Option.bind_some, Bool.true_and, Bool.false_and, Bool.and_true, Bool.and_false]
    cases lo with
    | none =>
      cases l with
      | some f => exact absurd hl id
      | none =>
        simp only [Option.elim]
        refine ep_bv (g94 hw (by omega) hn (by omega)) ?_
        simp only [hb4, decide_eq_true_eq, decide_true, decide_false, Bool.not_eq_true, Bool.not_eq_true', Bool.not_true, Bool.not_false, decide_eq_false_iff_not, Bool.false_eq_true, not_false_eq_true, not_true_eq_false, if_true, if_false, ↓reduceIte, eq_self, Option.bind_some, Bool.true_and, Bool.false_and, Bool.and_true, Bool.and_false]
        refine ep_bv (g95 hw hj hn oj.1) ?_
        have f9 := fstN_le (t := w.1 2 j) (by omega)
        simp (disch := omega) only [L0, L1, L2, L3, L4, L5, L6, L7, L8, L9, L10, L11, L12, L13, L16, L20, L31, L32, L40, L48, L57, L59, L60, L61, L91, L93, L97, L99, L100, L102, L103, L114, L122, L255, L300, L400, L402, L999, L2280, L2500, L99999, L63, L1431655765, L858993459, L252645135, ic_ge, ic_gt, ic_le, ic_lt, ic_eq, ic_ne, if_lt, if_ge, if_gt, if_le, if_eq, if_ne, if_lt_zI, if_ge_zI, ic_ne_m1, ic_eq_m1, ic_nn_m1, ic_ee_m1, if_ne_b2i, if_eq_b2i, b2i_z, decide_eq_true_eq, decide_true, decide_false, Bool.not_eq_true, Bool.not_eq_true', Bool.not_true, Bool.not_false, decide_eq_false_iff_not, Bool.false_eq_true, not_false_eq_true, not_true_eq_false, if_true, if_false, ↓reduceIte, eq_self, Option.bind_some, Bool.true_and, Bool.false_and, Bool.and_true, Bool.and_false, nI_add, nI_subN, nI_clamp, gdF, gdF2, gdP, zI_cl, zI_s, Lm1]
        by_cases he : w.1 2 a % 10 = fstN (w.1 2 j)
        · simp only [he, decide_eq_true_eq, decide_true, decide_false, Bool.not_eq_true, Bool.not_eq_true', Bool.not_true, Bool.not_false, decide_eq_false_iff_not, Bool.false_eq_true, not_false_eq_true, not_true_eq_false, if_true, if_false, ↓reduceIte, eq_self, Option.bind_some, Bool.true_and, Bool.false_and, Bool.and_true, Bool.and_false]
          exact ep_ret ⟨rfl, rfl, rfl, rfl⟩
        · simp only [he, decide_eq_true_eq, decide_true, decide_false, Bool.not_eq_true, Bool.not_eq_true', Bool.not_true, Bool.not_false, decide_eq_false_iff_not, Bool.false_eq_true, not_false_eq_true, not_true_eq_false, if_true, if_false, ↓reduceIte, eq_self, Option.bind_some, Bool.true_and, Bool.false_and, Bool.and_true, Bool.and_false]
          exact ep_ret ⟨rfl, rfl, rfl, rfl⟩
    | some q =>
      cases l with
      | none => exact absurd hl id
      | some f =>
        simp (disch := omega) only [Option.elim, L0, L1, L2, L3, L4, L5, L6, L7, L8, L9, L10, L11, L12, L13, L16, L20, L31, L32, L40, L48, L57, L59, L60, L61, L91, L93, L97, L99, L100, L102, L103, L114, L122, L255, L300, L400, L402, L999, L2280, L2500, L99999, L63, L1431655765, L858993459, L252645135, ic_ge, ic_gt, ic_le, ic_lt, ic_eq, ic_ne, if_lt, if_ge, if_gt, if_le, if_eq, if_ne, if_lt_zI, if_ge_zI, ic_ne_m1, ic_eq_m1, ic_nn_m1, ic_ee_m1, if_ne_b2i, if_eq_b2i, b2i_z, decide_eq_true_eq, decide_true, decide_false, Bool.not_eq_true, Bool.not_eq_true', Bool.not_true, Bool.not_false, decide_eq_false_iff_not, Bool.false_eq_true, not_false_eq_true, not_true_eq_false, if_true, if_false, ↓reduceIte, eq_self, Option.bind_some, Bool.true_and, Bool.false_and, Bool.and_true, Bool.and_false, nI_add, nI_subN, nI_clamp, gdF, gdF2, gdP, zI_cl, zI_s, Lm1, r3, q3]
        obtain ⟨v, hv, ev⟩ := letN_b (w.1 2 a) (isTx_iff.mp oa.1).2.2
        obtain ⟨u, hu, eu⟩ := letN_b (w.1 2 j) (isTx_iff.mp oj.1).2.2
        have ev' : letN (nI 0) (w.1 2 a) = nI v := ev
        have eu' : letN (nI 0) (w.1 2 j) = nI u := eu
        have huv : v &&& u < 65536 := Nat.lt_of_le_of_lt Nat.and_le_left (by omega)
        refine ep_bv (g94 (Lg_CW ⟨rfl, rfl, rfl⟩ hw) (by omega) hn (by omega)) ?_
        simp only [x_rA1, x_rA3, x_rAe, x_rAn, x_rAi, x_rI2, x_rIe, x_rIn, x_rIi, x_rL1, x_rL2, x_rL4, x_rLe, x_rLi, x_rLn, x_rQ1, x_rQ2, x_rQ3, x_rQe, x_rQi, x_rQn, x_rR1, x_rR3, x_rRe, x_rRn, hb4, decide_eq_true_eq, decide_true, decide_false, Bool.not_eq_true, Bool.not_eq_true', Bool.not_true, Bool.not_false, decide_eq_false_iff_not, Bool.false_eq_true, not_false_eq_true, not_true_eq_false, if_true, if_false, ↓reduceIte, eq_self, Option.bind_some, Bool.true_and, Bool.false_and, Bool.and_true, Bool.and_false]
        refine ep_bv (g95 (Lg_CW ⟨rfl, rfl, rfl⟩ hw) hj hn oj.1) ?_
        simp (disch := omega) only [x_rA1, x_rA3, x_rAe, x_rAn, x_rAi, x_rI2, x_rIe, x_rIn, x_rIi, x_rL1, x_rL2, x_rL4, x_rLe, x_rLi, x_rLn, x_rQ1, x_rQ2, x_rQ3, x_rQe, x_rQi, x_rQn, x_rR1, x_rR3, x_rRe, x_rRn, hb4, L0, L1, L2, L3, L4, L5, L6, L7, L8, L9, L10, L11, L12, L13, L16, L20, L31, L32, L40, L48, L57, L59, L60, L61, L91, L93, L97, L99, L100, L102, L103, L114, L122, L255, L300, L400, L402, L999, L2280, L2500, L99999, L63, L1431655765, L858993459, L252645135, ic_ge, ic_gt, ic_le, ic_lt, ic_eq, ic_ne, if_lt, if_ge, if_gt, if_le, if_eq, if_ne, if_lt_zI, if_ge_zI, ic_ne_m1, ic_eq_m1, ic_nn_m1, ic_ee_m1, if_ne_b2i, if_eq_b2i, b2i_z, decide_eq_true_eq, decide_true, decide_false, Bool.not_eq_true, Bool.not_eq_true', Bool.not_true, Bool.not_false, decide_eq_false_iff_not, Bool.false_eq_true, not_false_eq_true, not_true_eq_false, if_true, if_false, ↓reduceIte, eq_self, Option.bind_some, Bool.true_and, Bool.false_and, Bool.and_true, Bool.and_false, nI_add, nI_subN, nI_clamp, gdF, gdF2, gdP, zI_cl, zI_s, Lm1, r3, q3, r4, q4, ev', eu', nx_and]
        refine ep_bv (g92 huv) ?_
        rw [sam_v ev eu]
        have h16 : w.1 1 a ≤ 16 := OkW_16 hb ok a (by omega)
        obtain ⟨c0, hc0⟩ : ∃ c0, w.1 1 a = c0 + 1 := ⟨w.1 1 a - 1, by omega⟩
        have h9 := oa.2.2.2.2.1
        have hsm : samN (w.1 2 a) (w.1 2 j) ≤ 16 := ctF_le _ _ _
        have f9 := fstN_le (t := w.1 2 j) (by omega)
        have hmn : manyN w (w.1 1 a - 1) ≤ w.1 0 1 := manyN_le
        rw [hc0, Nat.add_sub_cancel] at hmn
        simp (disch := omega) only [x_rA1, x_rA3, x_rAe, x_rAn, x_rAi, x_rI2, x_rIe, x_rIn, x_rIi, x_rL1, x_rL2, x_rL4, x_rLe, x_rLi, x_rLn, x_rQ1, x_rQ2, x_rQ3, x_rQe, x_rQi, x_rQn, x_rR1, x_rR3, x_rRe, x_rRn, hb4, hb5, L0, L1, L2, L3, L4, L5, L6, L7, L8, L9, L10, L11, L12, L13, L16, L20, L31, L32, L40, L48, L57, L59, L60, L61, L91, L93, L97, L99, L100, L102, L103, L114, L122, L255, L300, L400, L402, L999, L2280, L2500, L99999, L63, L1431655765, L858993459, L252645135, ic_ge, ic_gt, ic_le, ic_lt, ic_eq, ic_ne, if_lt, if_ge, if_gt, if_le, if_eq, if_ne, if_lt_zI, if_ge_zI, ic_ne_m1, ic_eq_m1, ic_nn_m1, ic_ee_m1, if_ne_b2i, if_eq_b2i, b2i_z, decide_eq_true_eq, decide_true, decide_false, Bool.not_eq_true, Bool.not_eq_true', Bool.not_true, Bool.not_false, decide_eq_false_iff_not, Bool.false_eq_true, not_false_eq_true, not_true_eq_false, if_true, if_false, ↓reduceIte, eq_self, Option.bind_some, Bool.true_and, Bool.false_and, Bool.and_true, Bool.and_false, nI_add, nI_subN, nI_clamp, gdF, gdF2, gdP, zI_cl, zI_s, Lm1, r1, hc0, hw.1, r3, q3, r5, nI_l, Nat.add_sub_cancel]
        refine ep_bind (LC_ep (x := askA w a j) hl.2 rfl (fun k hk => ?_)) ?_
        · have hk' : k = 0 ∨ k = 1 ∨ k = 2 ∨ k = 3 ∨ k = 4 ∨ k = 5 ∨ k = 6 ∨ k = 7 ∨ k = 8 ∨ k = 9 ∨ k = 10 := by omega
          rcases hk' with rfl | rfl | rfl | rfl | rfl | rfl | rfl | rfl | rfl | rfl | rfl <;> simp (disch := omega) only [x_rA1, x_rA3, x_rAe, x_rAn, x_rAi, x_rI2, x_rIe, x_rIn, x_rIi, x_rL1, x_rL2, x_rL4, x_rLe, x_rLi, x_rLn, x_rQ1, x_rQ2, x_rQ3, x_rQe, x_rQi, x_rQn, x_rR1, x_rR3, x_rRe, x_rRn] <;> unfold askA <;> simp only [hc0, Nat.add_sub_cancel] <;> rfl
        · rintro ⟨z1, T1⟩ ⟨e1, g1⟩
          have e1 : z1 = b2i (f (askA w a j)) := e1
          subst e1
          simp only [b2i_z, decide_eq_true_eq, decide_true, decide_false, Bool.not_eq_true, Bool.not_eq_true', Bool.not_true, Bool.not_false, decide_eq_false_iff_not, Bool.false_eq_true, not_false_eq_true, not_true_eq_false, if_true, if_false, ↓reduceIte, eq_self, Option.bind_some, Bool.true_and, Bool.false_and, Bool.and_true, Bool.and_false]
          exact ep_ret ⟨rfl, g1⟩
  · simp only [h8, decide_eq_true_eq, decide_true, decide_false, Bool.not_eq_true, Bool.not_eq_true', Bool.not_true, Bool.not_false, decide_eq_false_iff_not, Bool.false_eq_true, not_false_eq_true, not_true_eq_false, if_true, if_false, ↓reduceIte, eq_self, Option.bind_some, Bool.true_and, Bool.false_and, Bool.and_true, Bool.and_false]
    exact ep_ret ⟨rfl, rfl, rfl, rfl⟩
def DS (T0 T : xS) (wb : Nat) (lo : Option Nat) (ln : Nat) (b : AB) (l : LW) (cc : Nat → Int32) (w : AW) : Prop := DC T wb lo ln b l ∧ CW T wb w ∧ OkW b w ∧ KC T w cc ∧ FrS wb T0 T
theorem DS_step {T0 T T' : xS} {wb : Nat} {lo : Option Nat} {ln : Nat} {b : AB} {l : LW} {cc : Nat → Int32} {w w' : AW} (h : DS T0 T wb lo ln b l cc w) (c1 : CW T' wb w') (c2 : FrS wb T T') (c3 : KC T' w' cc) (st : St b w w') : DS T0 T' wb lo ln b l cc w' := ⟨DC_fr h.1 c2, c1, st.2 h.2.2.1, c3, FrS_tr h.2.2.2.2 c2⟩
theorem DS_Lg {T0 T T' : xS} {wb : Nat} {lo : Option Nat} {ln : Nat} {b : AB} {l : LW} {cc : Nat → Int32} {w : AW} (h : DS T0 T wb lo ln b l cc w) (g : Lg T T') : DS T0 T' wb lo ln b l cc w := DS_step h (Lg_CW g h.2.1) (Lg_FrS g) (Lg_KC g h.2.2.2.1) St_rf
/-- what joinFirst comes to -/
def PJ (T0 : xS) (wb : Nat) (lo : Option Nat) (ln : Nat) (b : AB) (l : LW) (cc : Nat → Int32) (w : AW) (o : Option (Nat × Nat)) (z : Int32 × xS) : Prop := match o with
  | none => z.1 = nI 0 ∧ DS T0 z.2 wb lo ln b l cc w
  | some p => z.1 = nI 1 ∧ DS T0 z.2 wb lo ln b l cc (joinA w p.1 p.2)
theorem g91i {T0 : xS} {wb c a : Nat} {lo : Option Nat} {ln : Nat} {b : AB} {l : LW} {w : AW} {cc : Nat → Int32} (hd : w.1 0 0 < 1000) (hc : c < 16) (ha1 : w.1 1 a = c + 1) (o : Option (Nat × Nat)) (K : ∀ T, DS T0 T wb lo ln b l cc w → Ep (fun n => G91f wb lo ln n 14 (nI c) (nI (manyN w c)) (nI (a + 1)) (nI 0) T) (PJ T0 wb lo ln b l cc w o)) : ∀ (m j : Nat) (T : xS), a < j → j + m = w.1 0 1 → DS T0 T wb lo ln b l cc w → Ep (fun n => G91f wb lo ln n 46 (nI c) (nI (manyN w c)) (nI a) (nI j) T) (PJ T0 wb lo ln b l cc w ((fdB l w c a m j).elim o (fun j => some (a, j)))) := by
  intro m
  induction m with
  | zero =>
    intro j T haj hj hS
    refine ep_succ (fun n => G91e46 wb lo ln n ..) ?_
    have hS' := hS
    obtain ⟨⟨hwb, hb3, hb4, hb5, hB, hb, hl⟩, hw, ok, hk, hf⟩ := hS
    have hn := ok.1
    have e : w.1 0 1 ≤ j := by omega
    simp (disch := omega) only [G91b46, hb4, hw.2.1, L0, L1, L2, L3, L4, L5, L6, L7, L8, L9, L10, L11, L12, L13, L16, L20, L31, L32, L40, L48, L57, L59, L60, L61, L91, L93, L97, L99, L100, L102, L103, L114, L122, L255, L300, L400, L402, L999, L2280, L2500, L99999, L63, L1431655765, L858993459, L252645135, ic_ge, ic_gt, ic_le, ic_lt, ic_eq, ic_ne, if_lt, if_ge, if_gt, if_le, if_eq, if_ne, if_lt_zI, if_ge_zI, ic_ne_m1, ic_eq_m1, ic_nn_m1, ic_ee_m1, if_ne_b2i, if_eq_b2i, b2i_z, decide_eq_true_eq, decide_true, decide_false, Bool.not_eq_true, Bool.not_eq_true', Bool.not_true, Bool.not_false, decide_eq_false_iff_not, Bool.false_eq_true, not_false_eq_true, not_true_eq_false, if_true, if_false, ↓reduceIte, eq_self, Option.bind_some, Bool.true_and, Bool.false_and, Bool.and_true, Bool.and_false, nI_add, nI_subN, nI_clamp, gdF, gdF2, gdP, zI_cl, zI_s, Lm1, e]
    exact K T hS'
  | succ m ih =>
    intro j T haj hj hS
    refine ep_succ (fun n => G91e46 wb lo ln n ..) ?_
    have hS' := hS
    obtain ⟨hD, hw, ok, hk, hf⟩ := hS
    have hD' := hD
    obtain ⟨hwb, hb3, hb4, hb5, hB, hb, hl⟩ := hD
    have hn := ok.1
    have e : ¬ w.1 0 1 ≤ j := by omega
    obtain ⟨r1, r2, r3, r4, r5, r6, r7, r8⟩ := hw.2.2.2.1 j (by omega)
    have h16 := OkW_16 hb ok j (by omega)
    simp (disch := omega) only [G91b46, hb4, hw.2.1, L0, L1, L2, L3, L4, L5, L6, L7, L8, L9, L10, L11, L12, L13, L16, L20, L31, L32, L40, L48, L57, L59, L60, L61, L91, L93, L97, L99, L100, L102, L103, L114, L122, L255, L300, L400, L402, L999, L2280, L2500, L99999, L63, L1431655765, L858993459, L252645135, ic_ge, ic_gt, ic_le, ic_lt, ic_eq, ic_ne, if_lt, if_ge, if_gt, if_le, if_eq, if_ne, if_lt_zI, if_ge_zI, ic_ne_m1, ic_eq_m1, ic_nn_m1, ic_ee_m1, if_ne_b2i, if_eq_b2i, b2i_z, decide_eq_true_eq, decide_true, decide_false, Bool.not_eq_true, Bool.not_eq_true', Bool.not_true, Bool.not_false, decide_eq_false_iff_not, Bool.false_eq_true, not_false_eq_true, not_true_eq_false, if_true, if_false, ↓reduceIte, eq_self, Option.bind_some, Bool.true_and, Bool.false_and, Bool.and_true, Bool.and_false, nI_add, nI_subN, nI_clamp, gdF, gdF2, gdP, zI_cl, zI_s, Lm1, e, r1, ic_ne_pn]
    unfold fdB
    by_cases h1 : w.1 1 j = c + 1
    · simp only [h1, true_and, decide_eq_true_eq, decide_true, decide_false, Bool.not_eq_true, Bool.not_eq_true', Bool.not_true, Bool.not_false, decide_eq_false_iff_not, Bool.false_eq_true, not_false_eq_true, not_true_eq_false, if_true, if_false, ↓reduceIte, eq_self, Option.bind_some, Bool.true_and, Bool.false_and, Bool.and_true, Bool.and_false]
      have hm : manyN w (w.1 1 a - 1) = manyN w c := by rw [ha1, Nat.add_sub_cancel]
      have h3 := g93 (a := a) (j := j) hD' hw ok hd haj (by omega) (by omega)
      rw [hm] at h3
      refine ep_bind h3 ?_
      rintro ⟨z1, T1⟩ ⟨e1, g1⟩
      have e1 : z1 = b2i (canA l w a j) := e1
      have g1 : Lg T T1 := g1
      subst e1
      have hS1 := DS_Lg hS' g1
      by_cases hca : canA l w a j = true
      · have h4' : T1.2.2.2 109 4 = some wb := by rw [g1.2.2]; exact hb4
        simp only [hca, if_eq_b2i, h4', decide_eq_true_eq, decide_true, decide_false, Bool.not_eq_true, Bool.not_eq_true', Bool.not_true, Bool.not_false, decide_eq_false_iff_not, Bool.false_eq_true, not_false_eq_true, not_true_eq_false, if_true, if_false, ↓reduceIte, eq_self, Option.bind_some, Bool.true_and, Bool.false_and, Bool.and_true, Bool.and_false]
        have hta := isTx_len (ok.2.1 a (by omega)).1
        have htj := isTx_len (ok.2.1 j (by omega)).1
        refine ep_bind (g98 (wb := wb) hS1.2.1 hn haj (by omega) hta.2.2 htj.2.1) ?_
        rintro ⟨_, T2⟩ ⟨c1, c2, c3⟩
        have c3 : T2.1 = T1.1 := c3
        refine ep_ret ⟨L1, ?_⟩
        have st : St b w (joinA w a j) := joinA_St haj (by omega) (by omega) (by omega) (canA_len hca)
        refine DS_step hS1 ?_ (FrS_tr (FrW_S c2) FrS_I9) ?_ st
        · exact CW_of c1 (x_rIn (by omega)) (fun k _ _ => rfl)
        · have k1 := Lg_KC g1 hk
          have oj := ok.2.1 j (by omega)
          have hf0 : w.1 4 j = 0 := by
            by_cases h : w.1 4 j = 0
            · exact h
            · have := oj.2.2.1.mpr h
              omega
          have k2 : KC T1 (aS w 2 a (w.1 2 a * 10 ^ lenN (w.1 2 j) + w.1 2 j)) cc := KC_eq k1 rfl rfl (fun s => aS_n (by omega))
          refine KC_leave (f := 3) k2 (by omega) ?_ ?_ (fun i hi => ?_) ?_
          · rw [aS_n (by omega)]; omega
          · rw [aS_n (by omega)]; exact hf0
          · show (x_sI T2 109 8 _).1 109 i = _
            rw [x_rIi hi, c3]
          · show (x_sI T2 109 8 _).1 109 8 = _
            rw [x_rIe]
            show T2.1 109 8 + nI 1 = _
            rw [c3]
      · simp only [hca, if_eq_b2i, decide_eq_true_eq, decide_true, decide_false, Bool.not_eq_true, Bool.not_eq_true', Bool.not_true, Bool.not_false, decide_eq_false_iff_not, Bool.false_eq_true, not_false_eq_true, not_true_eq_false, if_true, if_false, ↓reduceIte, eq_self, Option.bind_some, Bool.true_and, Bool.false_and, Bool.and_true, Bool.and_false]
        exact ih (j + 1) T1 (by omega) (by omega) hS1
    · simp only [h1, false_and, decide_eq_true_eq, decide_true, decide_false, Bool.not_eq_true, Bool.not_eq_true', Bool.not_true, Bool.not_false, decide_eq_false_iff_not, Bool.false_eq_true, not_false_eq_true, not_true_eq_false, if_true, if_false, ↓reduceIte, eq_self, Option.bind_some, Bool.true_and, Bool.false_and, Bool.and_true, Bool.and_false]
      exact ih (j + 1) T (by omega) (by omega) hS'
theorem g91o {T0 : xS} {wb c : Nat} {lo : Option Nat} {ln : Nat} {b : AB} {l : LW} {w : AW} {cc : Nat → Int32} (hd : w.1 0 0 < 1000) (hc : c < 16) : ∀ (m a : Nat) (T : xS), a + m = w.1 0 1 → DS T0 T wb lo ln b l cc w → Ep (fun n => G91f wb lo ln n 14 (nI c) (nI (manyN w c)) (nI a) (nI 0) T) (PJ T0 wb lo ln b l cc w (fdA l w c m a)) := by
  intro m
  induction m with
  | zero =>
    intro a T ha hS
    refine ep_succ (fun n => G91e14 wb lo ln n ..) ?_
    have hS' := hS
    obtain ⟨⟨hwb, hb3, hb4, hb5, hB, hb, hl⟩, hw, ok, hk, hf⟩ := hS
    have hn := ok.1
    have e : w.1 0 1 ≤ a := by omega
    simp (disch := omega) only [G91b14, hb4, hw.2.1, L0, L1, L2, L3, L4, L5, L6, L7, L8, L9, L10, L11, L12, L13, L16, L20, L31, L32, L40, L48, L57, L59, L60, L61, L91, L93, L97, L99, L100, L102, L103, L114, L122, L255, L300, L400, L402, L999, L2280, L2500, L99999, L63, L1431655765, L858993459, L252645135, ic_ge, ic_gt, ic_le, ic_lt, ic_eq, ic_ne, if_lt, if_ge, if_gt, if_le, if_eq, if_ne, if_lt_zI, if_ge_zI, ic_ne_m1, ic_eq_m1, ic_nn_m1, ic_ee_m1, if_ne_b2i, if_eq_b2i, b2i_z, decide_eq_true_eq, decide_true, decide_false, Bool.not_eq_true, Bool.not_eq_true', Bool.not_true, Bool.not_false, decide_eq_false_iff_not, Bool.false_eq_true, not_false_eq_true, not_true_eq_false, if_true, if_false, ↓reduceIte, eq_self, Option.bind_some, Bool.true_and, Bool.false_and, Bool.and_true, Bool.and_false, nI_add, nI_subN, nI_clamp, gdF, gdF2, gdP, zI_cl, zI_s, Lm1, e]
    exact ep_ret ⟨rfl, hS'⟩
  | succ m ih =>
    intro a T ha hS
    refine ep_succ (fun n => G91e14 wb lo ln n ..) ?_
    have hS' := hS
    obtain ⟨⟨hwb, hb3, hb4, hb5, hB, hb, hl⟩, hw, ok, hk, hf⟩ := hS
    have hn := ok.1
    have e : ¬ w.1 0 1 ≤ a := by omega
    obtain ⟨r1, r2, r3, r4, r5, r6, r7, r8⟩ := hw.2.2.2.1 a (by omega)
    have h16 := OkW_16 hb ok a (by omega)
    simp (disch := omega) only [G91b14, hb4, hw.2.1, L0, L1, L2, L3, L4, L5, L6, L7, L8, L9, L10, L11, L12, L13, L16, L20, L31, L32, L40, L48, L57, L59, L60, L61, L91, L93, L97, L99, L100, L102, L103, L114, L122, L255, L300, L400, L402, L999, L2280, L2500, L99999, L63, L1431655765, L858993459, L252645135, ic_ge, ic_gt, ic_le, ic_lt, ic_eq, ic_ne, if_lt, if_ge, if_gt, if_le, if_eq, if_ne, if_lt_zI, if_ge_zI, ic_ne_m1, ic_eq_m1, ic_nn_m1, ic_ee_m1, if_ne_b2i, if_eq_b2i, b2i_z, decide_eq_true_eq, decide_true, decide_false, Bool.not_eq_true, Bool.not_eq_true', Bool.not_true, Bool.not_false, decide_eq_false_iff_not, Bool.false_eq_true, not_false_eq_true, not_true_eq_false, if_true, if_false, ↓reduceIte, eq_self, Option.bind_some, Bool.true_and, Bool.false_and, Bool.and_true, Bool.and_false, nI_add, nI_subN, nI_clamp, gdF, gdF2, gdP, zI_cl, zI_s, Lm1, e, r1, ic_eq_pn]
    unfold fdA
    by_cases h1 : w.1 1 a = c + 1
    · simp only [h1, decide_eq_true_eq, decide_true, decide_false, Bool.not_eq_true, Bool.not_eq_true', Bool.not_true, Bool.not_false, decide_eq_false_iff_not, Bool.false_eq_true, not_false_eq_true, not_true_eq_false, if_true, if_false, ↓reduceIte, eq_self, Option.bind_some, Bool.true_and, Bool.false_and, Bool.and_true, Bool.and_false]
      exact g91i hd hc h1 _ (fun T' h' => ih (a + 1) T' (by omega) h') m (a + 1) T (by omega) (by omega) hS'
    · simp only [h1, decide_eq_true_eq, decide_true, decide_false, Bool.not_eq_true, Bool.not_eq_true', Bool.not_true, Bool.not_false, decide_eq_false_iff_not, Bool.false_eq_true, not_false_eq_true, not_true_eq_false, if_true, if_false, ↓reduceIte, eq_self, Option.bind_some, Bool.true_and, Bool.false_and, Bool.and_true, Bool.and_false]
      exact ih (a + 1) T (by omega) hS'
theorem g91 {T0 T : xS} {wb c : Nat} {lo : Option Nat} {ln : Nat} {b : AB} {l : LW} {w : AW} {cc : Nat → Int32} (hd : w.1 0 0 < 1000) (hc : c < 16) (hS : DS T0 T wb lo ln b l cc w) : Ep (fun n => G91 wb lo ln n (nI c) T) (PJ T0 wb lo ln b l cc w (fdA l w c (w.1 0 1) 0)) := by
  refine ep_succ (fun n => G91e0 wb lo ln n ..) ?_
  have hS' := hS
  obtain ⟨⟨hwb, hb3, hb4, hb5, hB, hb, hl⟩, hw, ok, hk, hf⟩ := hS
  simp only [G91b0, hb4, decide_eq_true_eq, decide_true, decide_false, Bool.not_eq_true, Bool.not_eq_true', Bool.not_true, Bool.not_false, decide_eq_false_iff_not, Bool.false_eq_true, not_false_eq_true, not_true_eq_false, if_true, if_false, ↓reduceIte, eq_self, Option.bind_some, Bool.true_and, Bool.false_and, Bool.and_true, Bool.and_false, L0]
  refine ep_bv (g78 hw ok.1 (OkW_16 hb ok) (by omega)) ?_
  refine ep_bv (g92 (bsN_lt (N := 16) (by have := ok.1; omega))) ?_
  rw [ct_bs (by have := ok.1; omega)]
  exact g91o hd hc _ 0 T (by omega) hS'
theorem g99l {T0 : xS} {wb : Nat} {lo : Option Nat} {ln : Nat} {b : AB} {l : LW} {cc : Nat → Int32} : ∀ (m s : Nat) (T : xS) (w : AW), s + m = w.1 0 1 → DS T0 T wb lo ln b l cc w → Ep (fun n => G99f wb lo ln n 2 (nI s) T) (fun z => DS T0 z.2 wb lo ln b l cc (fold catchA m s w)) := by
  intro m
  induction m with
  | zero =>
    intro s T w hs hS
    refine ep_succ (fun n => G99e2 wb lo ln n ..) ?_
    have hS' := hS
    obtain ⟨⟨hwb, hb3, hb4, hb5, hB, hb, hl⟩, hw, ok, hk, hf⟩ := hS
    have hn := ok.1
    have e : w.1 0 1 ≤ s := by omega
    simp (disch := omega) only [G99b2, hb4, hw.2.1, L0, L1, L2, L3, L4, L5, L6, L7, L8, L9, L10, L11, L12, L13, L16, L20, L31, L32, L40, L48, L57, L59, L60, L61, L91, L93, L97, L99, L100, L102, L103, L114, L122, L255, L300, L400, L402, L999, L2280, L2500, L99999, L63, L1431655765, L858993459, L252645135, ic_ge, ic_gt, ic_le, ic_lt, ic_eq, ic_ne, if_lt, if_ge, if_gt, if_le, if_eq, if_ne, if_lt_zI, if_ge_zI, ic_ne_m1, ic_eq_m1, ic_nn_m1, ic_ee_m1, if_ne_b2i, if_eq_b2i, b2i_z, decide_eq_true_eq, decide_true, decide_false, Bool.not_eq_true, Bool.not_eq_true', Bool.not_true, Bool.not_false, decide_eq_false_iff_not, Bool.false_eq_true, not_false_eq_true, not_true_eq_false, if_true, if_false, ↓reduceIte, eq_self, Option.bind_some, Bool.true_and, Bool.false_and, Bool.and_true, Bool.and_false, nI_add, nI_subN, nI_clamp, gdF, gdF2, gdP, zI_cl, zI_s, Lm1, e]
    exact ep_ret hS'
  | succ m ih =>
    intro s T w hs hS
    refine ep_succ (fun n => G99e2 wb lo ln n ..) ?_
    have hS' := hS
    obtain ⟨⟨hwb, hb3, hb4, hb5, hB, hb, hl⟩, hw, ok, hk, hf⟩ := hS
    have hn := ok.1
    have e : ¬ w.1 0 1 ≤ s := by omega
    obtain ⟨r1, r2, r3, r4, r5, r6, r7, r8⟩ := hw.2.2.2.1 s (by omega)
    have h16 := OkW_16 hb ok s (by omega)
    have o := ok.2.1 s (by omega)
    show Ep _ (fun z : Unit × xS => DS T0 z.2 wb lo ln b l cc (fold catchA m (s + 1) (catchA s w)))
    by_cases h0 : w.1 1 s = 0
    · simp (disch := omega) only [G99b2, hb4, hw.2.1, L0, L1, L2, L3, L4, L5, L6, L7, L8, L9, L10, L11, L12, L13, L16, L20, L31, L32, L40, L48, L57, L59, L60, L61, L91, L93, L97, L99, L100, L102, L103, L114, L122, L255, L300, L400, L402, L999, L2280, L2500, L99999, L63, L1431655765, L858993459, L252645135, ic_ge, ic_gt, ic_le, ic_lt, ic_eq, ic_ne, if_lt, if_ge, if_gt, if_le, if_eq, if_ne, if_lt_zI, if_ge_zI, ic_ne_m1, ic_eq_m1, ic_nn_m1, ic_ee_m1, if_ne_b2i, if_eq_b2i, b2i_z, decide_eq_true_eq, decide_true, decide_false, Bool.not_eq_true, Bool.not_eq_true', Bool.not_true, Bool.not_false, decide_eq_false_iff_not, Bool.false_eq_true, not_false_eq_true, not_true_eq_false, if_true, if_false, ↓reduceIte, eq_self, Option.bind_some, Bool.true_and, Bool.false_and, Bool.and_true, Bool.and_false, nI_add, nI_subN, nI_clamp, gdF, gdF2, gdP, zI_cl, zI_s, Lm1, e, r1, h0]
      rw [show catchA s w = w from if_neg (fun z => z.1 h0)]
      exact ih (s + 1) T w (by omega) hS'
    · obtain ⟨c0, hc0⟩ : ∃ c0, w.1 1 s = c0 + 1 := ⟨w.1 1 s - 1, by omega⟩
      have hm := hw.2.2.2.2.1 c0 (by omega)
      have hm8 := (ok.2.2.1 c0 (by omega)).1
      have hl8 := isTx_len o.1
      have hz : ¬ c0 + 1 = 0 := by omega
      simp (disch := omega) only [G99b2, hb4, hw.2.1, L0, L1, L2, L3, L4, L5, L6, L7, L8, L9, L10, L11, L12, L13, L16, L20, L31, L32, L40, L48, L57, L59, L60, L61, L91, L93, L97, L99, L100, L102, L103, L114, L122, L255, L300, L400, L402, L999, L2280, L2500, L99999, L63, L1431655765, L858993459, L252645135, ic_ge, ic_gt, ic_le, ic_lt, ic_eq, ic_ne, if_lt, if_ge, if_gt, if_le, if_eq, if_ne, if_lt_zI, if_ge_zI, ic_ne_m1, ic_eq_m1, ic_nn_m1, ic_ee_m1, if_ne_b2i, if_eq_b2i, b2i_z, decide_eq_true_eq, decide_true, decide_false, Bool.not_eq_true, Bool.not_eq_true', Bool.not_true, Bool.not_false, decide_eq_false_iff_not, Bool.false_eq_true, not_false_eq_true, not_true_eq_false, if_true, if_false, ↓reduceIte, eq_self, Option.bind_some, Bool.true_and, Bool.false_and, Bool.and_true, Bool.and_false, nI_add, nI_subN, nI_clamp, gdF, gdF2, gdP, zI_cl, zI_s, Lm1, e, r1, hc0, hm, r3, if_lt]
      by_cases h7 : w.1 7 c0 = 0
      · simp only [h7, decide_eq_true_eq, decide_true, decide_false, Bool.not_eq_true, Bool.not_eq_true', Bool.not_true, Bool.not_false, decide_eq_false_iff_not, Bool.false_eq_true, not_false_eq_true, not_true_eq_false, if_true, if_false, ↓reduceIte, eq_self, Option.bind_some, Bool.true_and, Bool.false_and, Bool.and_true, Bool.and_false]
        rw [show catchA s w = w from if_neg (fun z => z.2.1 (by rw [hc0]; exact h7))]
        exact ih (s + 1) T w (by omega) hS'
      · simp only [h7, decide_eq_true_eq, decide_true, decide_false, Bool.not_eq_true, Bool.not_eq_true', Bool.not_true, Bool.not_false, decide_eq_false_iff_not, Bool.false_eq_true, not_false_eq_true, not_true_eq_false, if_true, if_false, ↓reduceIte, eq_self, Option.bind_some, Bool.true_and, Bool.false_and, Bool.and_true, Bool.and_false]
        by_cases h9 : lenN (w.1 2 s) < w.1 7 c0
        · simp only [h9, decide_eq_true_eq, decide_true, decide_false, Bool.not_eq_true, Bool.not_eq_true', Bool.not_true, Bool.not_false, decide_eq_false_iff_not, Bool.false_eq_true, not_false_eq_true, not_true_eq_false, if_true, if_false, ↓reduceIte, eq_self, Option.bind_some, Bool.true_and, Bool.false_and, Bool.and_true, Bool.and_false]
          rw [show catchA s w = w from if_neg (fun z => by have := z.2.2; rw [hc0, Nat.add_sub_cancel] at this; omega)]
          exact ih (s + 1) T w (by omega) hS'
        · simp only [h9, decide_eq_true_eq, decide_true, decide_false, Bool.not_eq_true, Bool.not_eq_true', Bool.not_true, Bool.not_false, decide_eq_false_iff_not, Bool.false_eq_true, not_false_eq_true, not_true_eq_false, if_true, if_false, ↓reduceIte, eq_self, Option.bind_some, Bool.true_and, Bool.false_and, Bool.and_true, Bool.and_false]
          have hc : catchA s w = leaveA w s 2 (c0 + 1) := by
            unfold catchA
            rw [hc0, Nat.add_sub_cancel, if_pos ⟨by omega, h7, by omega⟩]
          rw [hc, ← zI_s c0]
          refine ep_bind (g88 (f := 2) (h := c0 + 1) hw (by omega) hn) ?_
          rintro ⟨_, T1⟩ ⟨c1, c2, c3⟩
          have c3 : T1.1 = T.1 := c3
          have hf0 : w.1 4 s = 0 := by
            by_cases h : w.1 4 s = 0
            · exact h
            · exact absurd (o.2.2.1.mpr h) h0
          refine ih (s + 1) _ _ (by rw [leaveA_r (by omega)]; omega) ?_
          refine DS_step hS' ?_ (FrS_tr (FrW_S c2) FrS_I9) ?_ (leaveA_St h0 (by omega) (fun h => by omega))
          · exact CW_of c1 (x_rIn (by omega)) (fun k _ _ => rfl)
          · refine KC_leave hk (by omega) (by omega) hf0 (fun i hi => ?_) ?_
            · show (x_sI T1 109 7 _).1 109 i = _
              rw [x_rIi hi, c3]
            · show (x_sI T1 109 7 _).1 109 7 = _
              rw [x_rIe]
              show T1.1 109 7 + nI 1 = _
              rw [c3]
theorem g99 {T0 T : xS} {wb : Nat} {lo : Option Nat} {ln : Nat} {b : AB} {l : LW} {cc : Nat → Int32} {w : AW} (hS : DS T0 T wb lo ln b l cc w) : Ep (fun n => G99 wb lo ln n T) (fun z => DS T0 z.2 wb lo ln b l cc (catchesA w)) := by
  refine ep_succ (fun n => G99e0 wb lo ln n ..) ?_
  simp only [G99b0, L0]
  exact g99l _ 0 T w (by omega) hS
theorem g100 {T0 T : xS} {wb : Nat} {lo : Option Nat} {ln : Nat} {b : AB} {l : LW} {cc : Nat → Int32} {w : AW} (hd : w.1 0 0 < 999) (hS : DS T0 T wb lo ln b l cc w) : Ep (fun n => G100 wb lo ln n (nI 1) T) (fun z => DS T0 z.2 wb lo ln b l cc (morrowA w)) := by
  refine ep_succ (fun n => G100e0 wb lo ln n ..) ?_
  have hS' := hS
  obtain ⟨⟨hwb, hb3, hb4, hb5, hB, hb, hl⟩, hw, ok, hk, hf⟩ := hS
  have e : ¬ 999 < w.1 0 0 + 1 := by omega
  simp (disch := omega) only [G100b0, hb4, hw.1, L0, L1, L2, L3, L4, L5, L6, L7, L8, L9, L10, L11, L12, L13, L16, L20, L31, L32, L40, L48, L57, L59, L60, L61, L91, L93, L97, L99, L100, L102, L103, L114, L122, L255, L300, L400, L402, L999, L2280, L2500, L99999, L63, L1431655765, L858993459, L252645135, ic_ge, ic_gt, ic_le, ic_lt, ic_eq, ic_ne, if_lt, if_ge, if_gt, if_le, if_eq, if_ne, if_lt_zI, if_ge_zI, ic_ne_m1, ic_eq_m1, ic_nn_m1, ic_ee_m1, if_ne_b2i, if_eq_b2i, b2i_z, decide_eq_true_eq, decide_true, decide_false, Bool.not_eq_true, Bool.not_eq_true', Bool.not_true, Bool.not_false, decide_eq_false_iff_not, Bool.false_eq_true, not_false_eq_true, not_true_eq_false, if_true, if_false, ↓reduceIte, eq_self, Option.bind_some, Bool.true_and, Bool.false_and, Bool.and_true, Bool.and_false, nI_add, nI_subN, nI_clamp, gdF, gdF2, gdP, zI_cl, zI_s, Lm1, nI_ltP, e]
  refine ep_ret ⟨DC_fr hS'.1 (FrW_S FrW_I), ?_, morrowA_Ok ok, ?_, FrS_tr hf (FrW_S FrW_I)⟩
  · obtain ⟨k0, k1, k2, k3, k4, k5⟩ := hw
    refine ⟨?_, ?_, ?_, ?_, ?_, ?_⟩
    · unfold morrowA
      rw [aS_e, x_rIe]
    · unfold morrowA
      rw [aS_i (by omega), x_rIi (by omega)]
      exact k1
    · rw [x_rIi (by omega)]
      exact k2
    · exact k3
    · exact k4
    · exact k5
  · refine KC_eq hk (x_rIn (by omega)) ?_ (fun s => ?_)
    · unfold morrowA
      rw [aS_i (by omega)]
    · unfold morrowA
      rw [aS_n (by omega)]
