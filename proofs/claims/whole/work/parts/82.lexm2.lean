/-! letters and words in the reference; what is behind a clause -/
def lrF (f : Nat → Nat) : Nat → Nat → Nat
  | 0, _ => 0
  | m + 1, i => if 97 ≤ f i ∧ f i ≤ 122 then lrF f m (i + 1) + 1 else 0
theorem lrF_b {f : Nat → Nat} : ∀ m i, lrF f m i ≤ m ∧ (∀ k, k < lrF f m i → 97 ≤ f (i + k) ∧ f (i + k) ≤ 122) ∧ (lrF f m i < m → ¬ (97 ≤ f (i + lrF f m i) ∧ f (i + lrF f m i) ≤ 122))
  | 0, i => ⟨Nat.le_refl _, fun k hk => absurd hk (Nat.not_lt_zero _), fun h => absurd h (Nat.lt_irrefl _)⟩
  | m + 1, i => by
    unfold lrF
    by_cases h : 97 ≤ f i ∧ f i ≤ 122
    · rw [if_pos h]
      obtain ⟨a, b, c⟩ := lrF_b (f := f) m (i + 1)
      refine ⟨by omega, fun k hk => ?_, fun h2 => ?_⟩
      · cases k with
        | zero => exact h
        | succ k =>
          have := b k (by omega)
          rw [show i + (k + 1) = i + 1 + k by omega]
          exact this
      · rw [show i + (lrF f m (i + 1) + 1) = i + 1 + lrF f m (i + 1) by omega]
        exact c (by omega)
    · rw [if_neg h]
      exact ⟨Nat.zero_le _, fun k hk => absurd hk (Nat.not_lt_zero _), fun _ => h⟩
/-- a word of small letters, all of a text -/
def WrB (p : Nat) (w : List Nat) : Bool := WcB p 0 w && decide ((sTx p).length = w.length) && alF (fun k => decide (97 ≤ w.getD k 0) && decide (w.getD k 0 ≤ 122)) w.length 0
theorem Wr_is {p : Nat} {w : List Nat} (h : WrB p w = true) : WcB p 0 w = true ∧ (sTx p).length = w.length ∧ ∀ k, k < w.length → 97 ≤ w.getD k 0 ∧ w.getD k 0 ≤ 122 := by
  unfold WrB at h
  rw [Bool.and_eq_true, Bool.and_eq_true, al_is] at h
  refine ⟨h.1.1, of_decide_eq_true h.1.2, fun k hk => ?_⟩
  have := h.2 k (Nat.zero_le _) (by omega)
  rw [Bool.and_eq_true] at this
  exact ⟨of_decide_eq_true this.1, of_decide_eq_true this.2⟩
/-- it stands there if the run of letters is as long, and the same -/
theorem wm_run {f : Nat → Nat} {L i : Nat} {w : List Nat} (hi : i ≤ L) (hw : ∀ k, k < w.length → 97 ≤ w.getD k 0 ∧ w.getD k 0 ≤ 122) : wmB f L i w = (decide (lrF f (L - i) i = w.length) && alF (fun k => decide (f (i + k) = w.getD k 0)) w.length 0) := by
  obtain ⟨a, b, c⟩ := lrF_b (f := f) (L - i) i
  unfold wmB
  by_cases hr : lrF f (L - i) i = w.length
  · rw [decide_eq_true hr, Bool.true_and, decide_eq_true (show i + w.length ≤ L by omega), Bool.true_and]
    have hs : smB f L (i + w.length) = false := by
      unfold smB
      by_cases hl : i + w.length < L
      · have := c (by omega)
        rw [hr] at this
        by_cases h97 : 97 ≤ f (i + w.length)
        · rw [decide_eq_false (fun z => this ⟨h97, z⟩), Bool.and_false]
        · rw [decide_eq_false h97, Bool.and_false, Bool.false_and]
      · rw [decide_eq_false hl]
        rfl
    rw [hs, Bool.not_false, Bool.true_and]
  · rw [decide_eq_false hr, Bool.false_and]
    refine Bool.eq_false_iff.mpr (fun h => hr ?_)
    rw [Bool.and_eq_true, Bool.and_eq_true, al_is] at h
    obtain ⟨h1, h2, h3⟩ := h
    have h1 := of_decide_eq_true h1
    have h3' : ∀ k, k < w.length → 97 ≤ f (i + k) ∧ f (i + k) ≤ 122 := by
      intro k hk
      have h4 := of_decide_eq_true (h3 k (Nat.zero_le _) (by omega))
      rw [h4]
      exact hw k hk
    rcases Nat.lt_trichotomy (lrF f (L - i) i) w.length with hlt | heq | hgt
    · exact absurd (h3' _ hlt) (c (by omega))
    · exact heq
    · have h5 := b w.length hgt
      have : smB f L (i + w.length) = true := by
        unfold smB
        rw [decide_eq_true (show i + w.length < L by omega), decide_eq_true h5.1, decide_eq_true h5.2]
        rfl
      rw [this] at h2
      exact absurd h2 (by decide)
section Mr
variable {S S0 : mS} {f : Nat → Nat} {L i e : Nat}
theorem f164a (hH : MH S0 f L) {p : Nat} {w : List Nat} (hw : WrB p w = true) (hr : lrF f (L - i) i = w.length) (hi : i ≤ L) (h : MY S S0 L i e) : ∀ (d k : Nat) (a : Bool), k + d = w.length → Ev (fun n => F164f n 63 p (nI 0) (b2i a) (nI k) S) (b2i (a && alF (fun k => decide (f (i + k) = w.getD k 0)) d k), S) := by
  have hL := hH.2.1
  have h2 := h.2.1
  have hlen := sTx_30 p
  obtain ⟨w0, w4, w5⟩ := Wr_is hw
  obtain ⟨w1, w2, w3⟩ := Wc_is w0
  obtain ⟨r1, r2, r3⟩ := lrF_b (f := f) (L - i) i
  intro d
  induction d with
  | zero =>
    intro k a hk
    have e1 : (sTx p).length ≤ k := by omega
    refine ev_succ (fun n => F164e63 n ..) ?_
    simp (disch := omega) only [F164b63, L0, L1, L2, L3, L4, L5, L6, L7, L8, L9, L10, L11, L12, L13, L16, L20, L31, L32, L40, L48, L57, L59, L60, L61, L91, L93, L97, L99, L100, L102, L103, L114, L122, L255, L300, L400, L402, L999, L2280, L2500, L99999, L63, L1431655765, L858993459, L252645135, ic_ge, ic_gt, ic_le, ic_lt, ic_eq, ic_ne, if_lt, if_ge, if_gt, if_le, if_eq, if_ne, if_lt_zI, if_ge_zI, ic_ne_m1, ic_eq_m1, ic_nn_m1, ic_ee_m1, if_ne_b2i, if_eq_b2i, b2i_z, decide_eq_true_eq, decide_true, decide_false, Bool.not_eq_true, Bool.not_eq_true', Bool.not_true, Bool.not_false, decide_eq_false_iff_not, Bool.false_eq_true, not_false_eq_true, not_true_eq_false, if_true, if_false, ↓reduceIte, eq_self, Option.bind_some, Bool.true_and, Bool.false_and, Bool.and_true, Bool.and_false, nI_add, nI_subN, nI_clamp, gdF, gdF2, gdP, gdP2, zI_cl, zI_s, Lm1, nI_n0, zI_n0, leF, or_false, false_or, or_self, w1, e1, b2i_nr]
    refine ev_to ev_ret ?_
    show (b2i a, S) = (b2i (a && true), S)
    rw [Bool.and_true]
  | succ d ih =>
    intro k a hk
    have e1 : ¬ (sTx p).length ≤ k := by omega
    refine ev_succ (fun n => F164e63 n ..) ?_
    cases a with
    | false =>
      simp (disch := omega) only [F164b63, L0, L1, L2, L3, L4, L5, L6, L7, L8, L9, L10, L11, L12, L13, L16, L20, L31, L32, L40, L48, L57, L59, L60, L61, L91, L93, L97, L99, L100, L102, L103, L114, L122, L255, L300, L400, L402, L999, L2280, L2500, L99999, L63, L1431655765, L858993459, L252645135, ic_ge, ic_gt, ic_le, ic_lt, ic_eq, ic_ne, if_lt, if_ge, if_gt, if_le, if_eq, if_ne, if_lt_zI, if_ge_zI, ic_ne_m1, ic_eq_m1, ic_nn_m1, ic_ee_m1, if_ne_b2i, if_eq_b2i, b2i_z, decide_eq_true_eq, decide_true, decide_false, Bool.not_eq_true, Bool.not_eq_true', Bool.not_true, Bool.not_false, decide_eq_false_iff_not, Bool.false_eq_true, not_false_eq_true, not_true_eq_false, if_true, if_false, ↓reduceIte, eq_self, Option.bind_some, Bool.true_and, Bool.false_and, Bool.and_true, Bool.and_false, nI_add, nI_subN, nI_clamp, gdF, gdF2, gdP, gdP2, zI_cl, zI_s, Lm1, nI_n0, zI_n0, leF, or_false, false_or, or_self, w1, e1, b2i_nr]
      exact ev_ret
    | true =>
      unfold alF
      obtain ⟨c1, c2, c3⟩ := w3 k (by omega)
      rw [Nat.zero_add] at c1
      obtain ⟨d1, d2⟩ := r2 k (by omega)
      have rr := MY_r hH h (show i + k < L by omega)
      rw [sb_lo (show f (i + k) < 128 by omega)] at rr
      by_cases he : f (i + k) = w.getD k 0
      · have ig := ih (k + 1) true (by omega)
        simp (disch := omega) only [F164b63, L0, L1, L2, L3, L4, L5, L6, L7, L8, L9, L10, L11, L12, L13, L16, L20, L31, L32, L40, L48, L57, L59, L60, L61, L91, L93, L97, L99, L100, L102, L103, L114, L122, L255, L300, L400, L402, L999, L2280, L2500, L99999, L63, L1431655765, L858993459, L252645135, ic_ge, ic_gt, ic_le, ic_lt, ic_eq, ic_ne, if_lt, if_ge, if_gt, if_le, if_eq, if_ne, if_lt_zI, if_ge_zI, ic_ne_m1, ic_eq_m1, ic_nn_m1, ic_ee_m1, if_ne_b2i, if_eq_b2i, b2i_z, decide_eq_true_eq, decide_true, decide_false, Bool.not_eq_true, Bool.not_eq_true', Bool.not_true, Bool.not_false, decide_eq_false_iff_not, Bool.false_eq_true, not_false_eq_true, not_true_eq_false, if_true, if_false, ↓reduceIte, eq_self, Option.bind_some, Bool.true_and, Bool.false_and, Bool.and_true, Bool.and_false, nI_add, nI_subN, nI_clamp, gdF, gdF2, gdP, gdP2, zI_cl, zI_s, Lm1, nI_n0, zI_n0, leF, or_false, false_or, or_self, w1, e1, h2, rr, c1, he]
        exact ig
      · have ig := ih (k + 1) false (by omega)
        simp (disch := omega) only [F164b63, L0, L1, L2, L3, L4, L5, L6, L7, L8, L9, L10, L11, L12, L13, L16, L20, L31, L32, L40, L48, L57, L59, L60, L61, L91, L93, L97, L99, L100, L102, L103, L114, L122, L255, L300, L400, L402, L999, L2280, L2500, L99999, L63, L1431655765, L858993459, L252645135, ic_ge, ic_gt, ic_le, ic_lt, ic_eq, ic_ne, if_lt, if_ge, if_gt, if_le, if_eq, if_ne, if_lt_zI, if_ge_zI, ic_ne_m1, ic_eq_m1, ic_nn_m1, ic_ee_m1, if_ne_b2i, if_eq_b2i, b2i_z, decide_eq_true_eq, decide_true, decide_false, Bool.not_eq_true, Bool.not_eq_true', Bool.not_true, Bool.not_false, decide_eq_false_iff_not, Bool.false_eq_true, not_false_eq_true, not_true_eq_false, if_true, if_false, ↓reduceIte, eq_self, Option.bind_some, Bool.true_and, Bool.false_and, Bool.and_true, Bool.and_false, nI_add, nI_subN, nI_clamp, gdF, gdF2, gdP, gdP2, zI_cl, zI_s, Lm1, nI_n0, zI_n0, leF, or_false, false_or, or_self, w1, e1, h2, rr, c1, he]
        exact ig
theorem f164 (hH : MH S0 f L) {p : Nat} {w : List Nat} (hw : WrB p w = true) (hi : i ≤ L) (h : MY S S0 L i e) : Ev (fun n => F164 n p S) (b2i (wmB f L i w), S) := by
  have hL := hH.2.1
  have h1 := h.1
  have h2 := h.2.1
  have hlen := sTx_30 p
  obtain ⟨w0, w4, w5⟩ := Wr_is hw
  obtain ⟨w1, w2, w3⟩ := Wc_is w0
  obtain ⟨r1, r2, r3⟩ := lrF_b (f := f) (L - i) i
  rw [wm_run hi w5]
  obtain ⟨R, hR⟩ : ∃ R, R = lrF f (L - i) i := ⟨_, rfl⟩
  have fin : Ev (fun n => if am_ic .ne (nI R) (nI (sTx p).length) = true then F164f n 63 p (nI 0) (nI 0) (nI 0) S else F164f n 63 p (nI 0) (nI 1) (nI 0) S) (b2i (decide (lrF f (L - i) i = w.length) && alF (fun k => decide (f (i + k) = w.getD k 0)) w.length 0), S) := by
    by_cases hr : lrF f (L - i) i = w.length
    · rw [decide_eq_true hr]
      have hr' : R = (sTx p).length := by rw [hR, hr, w4]
      simp (disch := omega) only [L0, L1, L2, L3, L4, L5, L6, L7, L8, L9, L10, L11, L12, L13, L16, L20, L31, L32, L40, L48, L57, L59, L60, L61, L91, L93, L97, L99, L100, L102, L103, L114, L122, L255, L300, L400, L402, L999, L2280, L2500, L99999, L63, L1431655765, L858993459, L252645135, ic_ge, ic_gt, ic_le, ic_lt, ic_eq, ic_ne, if_lt, if_ge, if_gt, if_le, if_eq, if_ne, if_lt_zI, if_ge_zI, ic_ne_m1, ic_eq_m1, ic_nn_m1, ic_ee_m1, if_ne_b2i, if_eq_b2i, b2i_z, decide_eq_true_eq, decide_true, decide_false, Bool.not_eq_true, Bool.not_eq_true', Bool.not_true, Bool.not_false, decide_eq_false_iff_not, Bool.false_eq_true, not_false_eq_true, not_true_eq_false, if_true, if_false, ↓reduceIte, eq_self, Option.bind_some, Bool.true_and, Bool.false_and, Bool.and_true, Bool.and_false, nI_add, nI_subN, nI_clamp, gdF, gdF2, gdP, gdP2, zI_cl, zI_s, Lm1, nI_n0, zI_n0, leF, or_false, false_or, or_self, hr']
      exact f164a hH hw hr hi h w.length 0 true (Nat.zero_add _)
    · rw [decide_eq_false hr, Bool.false_and]
      have hr' : ¬ R = (sTx p).length := by rw [hR, w4]; exact hr
      simp (disch := omega) only [L0, L1, L2, L3, L4, L5, L6, L7, L8, L9, L10, L11, L12, L13, L16, L20, L31, L32, L40, L48, L57, L59, L60, L61, L91, L93, L97, L99, L100, L102, L103, L114, L122, L255, L300, L400, L402, L999, L2280, L2500, L99999, L63, L1431655765, L858993459, L252645135, ic_ge, ic_gt, ic_le, ic_lt, ic_eq, ic_ne, if_lt, if_ge, if_gt, if_le, if_eq, if_ne, if_lt_zI, if_ge_zI, ic_ne_m1, ic_eq_m1, ic_nn_m1, ic_ee_m1, if_ne_b2i, if_eq_b2i, b2i_z, decide_eq_true_eq, decide_true, decide_false, Bool.not_eq_true, Bool.not_eq_true', Bool.not_true, Bool.not_false, decide_eq_false_iff_not, Bool.false_eq_true, not_false_eq_true, not_true_eq_false, if_true, if_false, ↓reduceIte, eq_self, Option.bind_some, Bool.true_and, Bool.false_and, Bool.and_true, Bool.and_false, nI_add, nI_subN, nI_clamp, gdF, gdF2, gdP, gdP2, zI_cl, zI_s, Lm1, nI_n0, zI_n0, leF, or_false, false_or, or_self, hr']
      refine ev_succ (fun n => F164e63 n ..) ?_
      have nb : narrow .boolean (.int (nI 0)) = .int (nI 0) := rfl
      by_cases h0 : (sTx p).length ≤ 0
      · simp (disch := omega) only [F164b63, L0, L1, L2, L3, L4, L5, L6, L7, L8, L9, L10, L11, L12, L13, L16, L20, L31, L32, L40, L48, L57, L59, L60, L61, L91, L93, L97, L99, L100, L102, L103, L114, L122, L255, L300, L400, L402, L999, L2280, L2500, L99999, L63, L1431655765, L858993459, L252645135, ic_ge, ic_gt, ic_le, ic_lt, ic_eq, ic_ne, if_lt, if_ge, if_gt, if_le, if_eq, if_ne, if_lt_zI, if_ge_zI, ic_ne_m1, ic_eq_m1, ic_nn_m1, ic_ee_m1, if_ne_b2i, if_eq_b2i, b2i_z, decide_eq_true_eq, decide_true, decide_false, Bool.not_eq_true, Bool.not_eq_true', Bool.not_true, Bool.not_false, decide_eq_false_iff_not, Bool.false_eq_true, not_false_eq_true, not_true_eq_false, if_true, if_false, ↓reduceIte, eq_self, Option.bind_some, Bool.true_and, Bool.false_and, Bool.and_true, Bool.and_false, nI_add, nI_subN, nI_clamp, gdF, gdF2, gdP, gdP2, zI_cl, zI_s, Lm1, nI_n0, zI_n0, leF, or_false, false_or, or_self, w1, h0, nb]
        exact ev_ret
      · simp (disch := omega) only [F164b63, L0, L1, L2, L3, L4, L5, L6, L7, L8, L9, L10, L11, L12, L13, L16, L20, L31, L32, L40, L48, L57, L59, L60, L61, L91, L93, L97, L99, L100, L102, L103, L114, L122, L255, L300, L400, L402, L999, L2280, L2500, L99999, L63, L1431655765, L858993459, L252645135, ic_ge, ic_gt, ic_le, ic_lt, ic_eq, ic_ne, if_lt, if_ge, if_gt, if_le, if_eq, if_ne, if_lt_zI, if_ge_zI, ic_ne_m1, ic_eq_m1, ic_nn_m1, ic_ee_m1, if_ne_b2i, if_eq_b2i, b2i_z, decide_eq_true_eq, decide_true, decide_false, Bool.not_eq_true, Bool.not_eq_true', Bool.not_true, Bool.not_false, decide_eq_false_iff_not, Bool.false_eq_true, not_false_eq_true, not_true_eq_false, if_true, if_false, ↓reduceIte, eq_self, Option.bind_some, Bool.true_and, Bool.false_and, Bool.and_true, Bool.and_false, nI_add, nI_subN, nI_clamp, gdF, gdF2, gdP, gdP2, zI_cl, zI_s, Lm1, nI_n0, zI_n0, leF, or_false, false_or, or_self, w1, h0, nb]
        exact ev_ret
  have walk : ∀ (d c : Nat), c + d = R → Ev (fun n => F164f n 5 p (nI (i + c)) (nI 0) (nI 0) S) (b2i (decide (lrF f (L - i) i = w.length) && alF (fun k => decide (f (i + k) = w.getD k 0)) w.length 0), S) := by
    rw [← hR] at r1 r2 r3
    intro d
    induction d with
    | zero =>
      intro c hc
      have ec : c = R := by omega
      rw [ec]
      have e2 : i + R - i = R := by omega
      refine ev_succ (fun n => F164e5 n ..) ?_
      by_cases he : L ≤ i + R
      · simp (disch := omega) only [F164b5, L0, L1, L2, L3, L4, L5, L6, L7, L8, L9, L10, L11, L12, L13, L16, L20, L31, L32, L40, L48, L57, L59, L60, L61, L91, L93, L97, L99, L100, L102, L103, L114, L122, L255, L300, L400, L402, L999, L2280, L2500, L99999, L63, L1431655765, L858993459, L252645135, ic_ge, ic_gt, ic_le, ic_lt, ic_eq, ic_ne, if_lt, if_ge, if_gt, if_le, if_eq, if_ne, if_lt_zI, if_ge_zI, ic_ne_m1, ic_eq_m1, ic_nn_m1, ic_ee_m1, if_ne_b2i, if_eq_b2i, b2i_z, decide_eq_true_eq, decide_true, decide_false, Bool.not_eq_true, Bool.not_eq_true', Bool.not_true, Bool.not_false, decide_eq_false_iff_not, Bool.false_eq_true, not_false_eq_true, not_true_eq_false, if_true, if_false, ↓reduceIte, eq_self, Option.bind_some, Bool.true_and, Bool.false_and, Bool.and_true, Bool.and_false, nI_add, nI_subN, nI_clamp, gdF, gdF2, gdP, gdP2, zI_cl, zI_s, Lm1, nI_n0, zI_n0, leF, or_false, false_or, or_self, h1, h2, he, w1, e2] at fin ⊢
        exact fin
      · have hb := hH.2.2 (i + R) (by omega)
        have rr := MY_r hH h (show i + R < L by omega)
        have hn := r3 (by omega)
        obtain ⟨s1, s2⟩ := sb_c hb
        by_cases h97 : 97 ≤ f (i + R) ∧ f (i + R) < 128
        · have h122 : 122 < f (i + R) := by omega
          rw [decide_eq_true h97.1, decide_eq_true h97.2] at s1
          rw [decide_eq_true h122, decide_eq_true h97.2] at s2
          simp (disch := omega) only [F164b5, L0, L1, L2, L3, L4, L5, L6, L7, L8, L9, L10, L11, L12, L13, L16, L20, L31, L32, L40, L48, L57, L59, L60, L61, L91, L93, L97, L99, L100, L102, L103, L114, L122, L255, L300, L400, L402, L999, L2280, L2500, L99999, L63, L1431655765, L858993459, L252645135, ic_ge, ic_gt, ic_le, ic_lt, ic_eq, ic_ne, if_lt, if_ge, if_gt, if_le, if_eq, if_ne, if_lt_zI, if_ge_zI, ic_ne_m1, ic_eq_m1, ic_nn_m1, ic_ee_m1, if_ne_b2i, if_eq_b2i, b2i_z, decide_eq_true_eq, decide_true, decide_false, Bool.not_eq_true, Bool.not_eq_true', Bool.not_true, Bool.not_false, decide_eq_false_iff_not, Bool.false_eq_true, not_false_eq_true, not_true_eq_false, if_true, if_false, ↓reduceIte, eq_self, Option.bind_some, Bool.true_and, Bool.false_and, Bool.and_true, Bool.and_false, nI_add, nI_subN, nI_clamp, gdF, gdF2, gdP, gdP2, zI_cl, zI_s, Lm1, nI_n0, zI_n0, leF, or_false, false_or, or_self, h1, h2, he, w1, e2, rr, s1, s2] at fin ⊢
          exact fin
        · have s1' : am_ic .lt (sbI (f (i + R))) (nI 97) = true := by
            rw [s1]
            by_cases h3 : 97 ≤ f (i + R)
            · rw [decide_eq_false (show ¬ f (i + R) < 128 by omega), Bool.and_false]
              rfl
            · rw [decide_eq_false h3]
              rfl
          simp (disch := omega) only [F164b5, L0, L1, L2, L3, L4, L5, L6, L7, L8, L9, L10, L11, L12, L13, L16, L20, L31, L32, L40, L48, L57, L59, L60, L61, L91, L93, L97, L99, L100, L102, L103, L114, L122, L255, L300, L400, L402, L999, L2280, L2500, L99999, L63, L1431655765, L858993459, L252645135, ic_ge, ic_gt, ic_le, ic_lt, ic_eq, ic_ne, if_lt, if_ge, if_gt, if_le, if_eq, if_ne, if_lt_zI, if_ge_zI, ic_ne_m1, ic_eq_m1, ic_nn_m1, ic_ee_m1, if_ne_b2i, if_eq_b2i, b2i_z, decide_eq_true_eq, decide_true, decide_false, Bool.not_eq_true, Bool.not_eq_true', Bool.not_true, Bool.not_false, decide_eq_false_iff_not, Bool.false_eq_true, not_false_eq_true, not_true_eq_false, if_true, if_false, ↓reduceIte, eq_self, Option.bind_some, Bool.true_and, Bool.false_and, Bool.and_true, Bool.and_false, nI_add, nI_subN, nI_clamp, gdF, gdF2, gdP, gdP2, zI_cl, zI_s, Lm1, nI_n0, zI_n0, leF, or_false, false_or, or_self, h1, h2, he, w1, e2, rr, s1'] at fin ⊢
          exact fin
    | succ d ihd =>
      intro c hc
      obtain ⟨d1, d2⟩ := r2 c (by omega)
      have he : ¬ L ≤ i + c := by omega
      have rr := MY_r hH h (show i + c < L by omega)
      rw [sb_lo (show f (i + c) < 128 by omega)] at rr
      have h97 : ¬ f (i + c) < 97 := by omega
      have h122 : ¬ 122 < f (i + c) := by omega
      have ig := ihd (c + 1) (by omega)
      refine ev_succ (fun n => F164e5 n ..) ?_
      simp (disch := omega) only [F164b5, L0, L1, L2, L3, L4, L5, L6, L7, L8, L9, L10, L11, L12, L13, L16, L20, L31, L32, L40, L48, L57, L59, L60, L61, L91, L93, L97, L99, L100, L102, L103, L114, L122, L255, L300, L400, L402, L999, L2280, L2500, L99999, L63, L1431655765, L858993459, L252645135, ic_ge, ic_gt, ic_le, ic_lt, ic_eq, ic_ne, if_lt, if_ge, if_gt, if_le, if_eq, if_ne, if_lt_zI, if_ge_zI, ic_ne_m1, ic_eq_m1, ic_nn_m1, ic_ee_m1, if_ne_b2i, if_eq_b2i, b2i_z, decide_eq_true_eq, decide_true, decide_false, Bool.not_eq_true, Bool.not_eq_true', Bool.not_true, Bool.not_false, decide_eq_false_iff_not, Bool.false_eq_true, not_false_eq_true, not_true_eq_false, if_true, if_false, ↓reduceIte, eq_self, Option.bind_some, Bool.true_and, Bool.false_and, Bool.and_true, Bool.and_false, nI_add, nI_subN, nI_clamp, gdF, gdF2, gdP, gdP2, zI_cl, zI_s, Lm1, nI_n0, zI_n0, leF, or_false, false_or, or_self, h1, h2, he, rr, h97, h122]
      exact ig
  refine ev_succ (fun n => F164e0 n ..) ?_
  simp only [F164b0, h2, L0]
  have := walk R 0 (Nat.zero_add _)
  rw [Nat.add_zero] at this
  exact this
theorem f177l (hH : MH S0 f L) {most : Nat} (h8 : most ≤ 8) : ∀ (k q n v : Nat) (S : mS), n + k = most + 1 → k ≠ 0 → q ≤ L → v < 10 ^ n → MY S S0 L q 0 → Ep (fun N => F177f N 41 (nI most) (nI v) (nI n) S) (fun z => MY z.2 S0 L (lsF f L most k q n v).2.2 (lsF f L most k q n v).1 ∧ ((lsF f L most k q n v).1 = 0 → z.1 = nI (lsF f L most k q n v).2.1)) := by
  have hL := hH.2.1
  intro k
  induction k with
  | zero =>
    intro q n v S hn hk hq hv h
    exact absurd rfl hk
  | succ k ih =>
    intro q n v S hn hk hq hv h
    have h4 := h.2.2.1
    have h2 := h.2.1
    have hsg := sg_lt (i := q) hH
    have gs := f162 hH hq h
    refine ep_succ (fun N => F177e41 N ..) ?_
    unfold lsF
    simp (disch := omega) only [F177b41, L0, L1, L2, L3, L4, L5, L6, L7, L8, L9, L10, L11, L12, L13, L16, L20, L31, L32, L40, L48, L57, L59, L60, L61, L91, L93, L97, L99, L100, L102, L103, L114, L122, L255, L300, L400, L402, L999, L2280, L2500, L99999, L63, L1431655765, L858993459, L252645135, ic_ge, ic_gt, ic_le, ic_lt, ic_eq, ic_ne, if_lt, if_ge, if_gt, if_le, if_eq, if_ne, if_lt_zI, if_ge_zI, ic_ne_m1, ic_eq_m1, ic_nn_m1, ic_ee_m1, if_ne_b2i, if_eq_b2i, b2i_z, decide_eq_true_eq, decide_true, decide_false, Bool.not_eq_true, Bool.not_eq_true', Bool.not_true, Bool.not_false, decide_eq_false_iff_not, Bool.false_eq_true, not_false_eq_true, not_true_eq_false, if_true, if_false, ↓reduceIte, eq_self, Option.bind_some, Bool.true_and, Bool.false_and, Bool.and_true, Bool.and_false, nI_add, nI_subN, nI_clamp, gdF, gdF2, gdP, gdP2, zI_cl, zI_s, Lm1, nI_n0, zI_n0, leF, or_false, false_or, or_self, h4]
    refine ep_bv gs ?_
    refine ep_bv (f172 S) ?_
    rw [inE hsg]
    by_cases hs : smB f L q = true
    · have hs' := hs
      unfold smB at hs'
      simp only [Bool.and_eq_true, decide_eq_true_eq] at hs'
      have esg : sg f L q = f q + 1 := if_pos hs'.1.1
      rw [esg, zI_s] at gs
      rw [decide_eq_true (show 98 ≤ sg f L q ∧ sg f L q ≤ 123 by omega), if_pos hs]
      simp (disch := omega) only [L0, L1, L2, L3, L4, L5, L6, L7, L8, L9, L10, L11, L12, L13, L16, L20, L31, L32, L40, L48, L57, L59, L60, L61, L91, L93, L97, L99, L100, L102, L103, L114, L122, L255, L300, L400, L402, L999, L2280, L2500, L99999, L63, L1431655765, L858993459, L252645135, ic_ge, ic_gt, ic_le, ic_lt, ic_eq, ic_ne, if_lt, if_ge, if_gt, if_le, if_eq, if_ne, if_lt_zI, if_ge_zI, ic_ne_m1, ic_eq_m1, ic_nn_m1, ic_ee_m1, if_ne_b2i, if_eq_b2i, b2i_z, decide_eq_true_eq, decide_true, decide_false, Bool.not_eq_true, Bool.not_eq_true', Bool.not_true, Bool.not_false, decide_eq_false_iff_not, Bool.false_eq_true, not_false_eq_true, not_true_eq_false, if_true, if_false, ↓reduceIte, eq_self, Option.bind_some, Bool.true_and, Bool.false_and, Bool.and_true, Bool.and_false, nI_add, nI_subN, nI_clamp, gdF, gdF2, gdP, gdP2, zI_cl, zI_s, Lm1, nI_n0, zI_n0, leF, or_false, false_or, or_self]
      refine ep_bv gs ?_
      have stop : Ep (fun N => (F165 N (nI 0) (nI q) S).bind (fun z20 => F177f N 41 (nI most) (nI v) (nI n) z20.2)) (fun z => MY z.2 S0 L q (1 + 8 * q) ∧ (1 + 8 * q = 0 → z.1 = nI 0)) := by
        refine ep_bind (f165 h) ?_
        rintro ⟨z, S1⟩ a
        have a : MY S1 S0 L q (1 + 8 * q) := a
        have a4 := a.2.2.1
        have ne : ¬ 1 + 8 * q = 0 := by omega
        refine ep_succ (fun N => F177e41 N ..) ?_
        simp (disch := omega) only [F177b41, L0, L1, L2, L3, L4, L5, L6, L7, L8, L9, L10, L11, L12, L13, L16, L20, L31, L32, L40, L48, L57, L59, L60, L61, L91, L93, L97, L99, L100, L102, L103, L114, L122, L255, L300, L400, L402, L999, L2280, L2500, L99999, L63, L1431655765, L858993459, L252645135, ic_ge, ic_gt, ic_le, ic_lt, ic_eq, ic_ne, if_lt, if_ge, if_gt, if_le, if_eq, if_ne, if_lt_zI, if_ge_zI, ic_ne_m1, ic_eq_m1, ic_nn_m1, ic_ee_m1, if_ne_b2i, if_eq_b2i, b2i_z, decide_eq_true_eq, decide_true, decide_false, Bool.not_eq_true, Bool.not_eq_true', Bool.not_true, Bool.not_false, decide_eq_false_iff_not, Bool.false_eq_true, not_false_eq_true, not_true_eq_false, if_true, if_false, ↓reduceIte, eq_self, Option.bind_some, Bool.true_and, Bool.false_and, Bool.and_true, Bool.and_false, nI_add, nI_subN, nI_clamp, gdF, gdF2, gdP, gdP2, zI_cl, zI_s, Lm1, nI_n0, zI_n0, leF, or_false, false_or, or_self, a4, ne]
        exact ep_ret ⟨a, fun z => z.elim⟩
      by_cases h102 : 102 < f q
      · rw [if_pos (Or.inr h102)]
        simp (disch := omega) only [L0, L1, L2, L3, L4, L5, L6, L7, L8, L9, L10, L11, L12, L13, L16, L20, L31, L32, L40, L48, L57, L59, L60, L61, L91, L93, L97, L99, L100, L102, L103, L114, L122, L255, L300, L400, L402, L999, L2280, L2500, L99999, L63, L1431655765, L858993459, L252645135, ic_ge, ic_gt, ic_le, ic_lt, ic_eq, ic_ne, if_lt, if_ge, if_gt, if_le, if_eq, if_ne, if_lt_zI, if_ge_zI, ic_ne_m1, ic_eq_m1, ic_nn_m1, ic_ee_m1, if_ne_b2i, if_eq_b2i, b2i_z, decide_eq_true_eq, decide_true, decide_false, Bool.not_eq_true, Bool.not_eq_true', Bool.not_true, Bool.not_false, decide_eq_false_iff_not, Bool.false_eq_true, not_false_eq_true, not_true_eq_false, if_true, if_false, ↓reduceIte, eq_self, Option.bind_some, Bool.true_and, Bool.false_and, Bool.and_true, Bool.and_false, nI_add, nI_subN, nI_clamp, gdF, gdF2, gdP, gdP2, zI_cl, zI_s, Lm1, nI_n0, zI_n0, leF, or_false, false_or, or_self, h102, h2]
        exact stop
      · by_cases hm : n = most
        · rw [if_pos (Or.inl hm)]
          rw [hm] at stop ⊢
          simp (disch := omega) only [L0, L1, L2, L3, L4, L5, L6, L7, L8, L9, L10, L11, L12, L13, L16, L20, L31, L32, L40, L48, L57, L59, L60, L61, L91, L93, L97, L99, L100, L102, L103, L114, L122, L255, L300, L400, L402, L999, L2280, L2500, L99999, L63, L1431655765, L858993459, L252645135, ic_ge, ic_gt, ic_le, ic_lt, ic_eq, ic_ne, if_lt, if_ge, if_gt, if_le, if_eq, if_ne, if_lt_zI, if_ge_zI, ic_ne_m1, ic_eq_m1, ic_nn_m1, ic_ee_m1, if_ne_b2i, if_eq_b2i, b2i_z, decide_eq_true_eq, decide_true, decide_false, Bool.not_eq_true, Bool.not_eq_true', Bool.not_true, Bool.not_false, decide_eq_false_iff_not, Bool.false_eq_true, not_false_eq_true, not_true_eq_false, if_true, if_false, ↓reduceIte, eq_self, Option.bind_some, Bool.true_and, Bool.false_and, Bool.and_true, Bool.and_false, nI_add, nI_subN, nI_clamp, gdF, gdF2, gdP, gdP2, zI_cl, zI_s, Lm1, nI_n0, zI_n0, leF, or_false, false_or, or_self, h102, h2]
          exact stop
        · rw [if_neg (show ¬ (n = most ∨ 102 < f q) by omega)]
          have hp : (10 : Nat) ^ n ≤ 10 ^ 8 := Nat.pow_le_pow_right (by decide) (by omega)
          have hp8 : (10 : Nat) ^ 8 = 100000000 := by decide
          have ev : 10 * v + f q - 97 + 1 = v * 10 + (f q - 96) := by omega
          simp (disch := omega) only [L0, L1, L2, L3, L4, L5, L6, L7, L8, L9, L10, L11, L12, L13, L16, L20, L31, L32, L40, L48, L57, L59, L60, L61, L91, L93, L97, L99, L100, L102, L103, L114, L122, L255, L300, L400, L402, L999, L2280, L2500, L99999, L63, L1431655765, L858993459, L252645135, ic_ge, ic_gt, ic_le, ic_lt, ic_eq, ic_ne, if_lt, if_ge, if_gt, if_le, if_eq, if_ne, if_lt_zI, if_ge_zI, ic_ne_m1, ic_eq_m1, ic_nn_m1, ic_ee_m1, if_ne_b2i, if_eq_b2i, b2i_z, decide_eq_true_eq, decide_true, decide_false, Bool.not_eq_true, Bool.not_eq_true', Bool.not_true, Bool.not_false, decide_eq_false_iff_not, Bool.false_eq_true, not_false_eq_true, not_true_eq_false, if_true, if_false, ↓reduceIte, eq_self, Option.bind_some, Bool.true_and, Bool.false_and, Bool.and_true, Bool.and_false, nI_add, nI_subN, nI_clamp, gdF, gdF2, gdP, gdP2, zI_cl, zI_s, Lm1, nI_n0, zI_n0, leF, or_false, false_or, or_self, h102, hm]
          refine ep_bv gs ?_
          simp (disch := omega) only [L0, L1, L2, L3, L4, L5, L6, L7, L8, L9, L10, L11, L12, L13, L16, L20, L31, L32, L40, L48, L57, L59, L60, L61, L91, L93, L97, L99, L100, L102, L103, L114, L122, L255, L300, L400, L402, L999, L2280, L2500, L99999, L63, L1431655765, L858993459, L252645135, ic_ge, ic_gt, ic_le, ic_lt, ic_eq, ic_ne, if_lt, if_ge, if_gt, if_le, if_eq, if_ne, if_lt_zI, if_ge_zI, ic_ne_m1, ic_eq_m1, ic_nn_m1, ic_ee_m1, if_ne_b2i, if_eq_b2i, b2i_z, decide_eq_true_eq, decide_true, decide_false, Bool.not_eq_true, Bool.not_eq_true', Bool.not_true, Bool.not_false, decide_eq_false_iff_not, Bool.false_eq_true, not_false_eq_true, not_true_eq_false, if_true, if_false, ↓reduceIte, eq_self, Option.bind_some, Bool.true_and, Bool.false_and, Bool.and_true, Bool.and_false, nI_add, nI_subN, nI_clamp, gdF, gdF2, gdP, gdP2, zI_cl, zI_s, Lm1, nI_n0, zI_n0, leF, or_false, false_or, or_self, h2, nI_mul, ev]
          refine ih (q + 1) (n + 1) _ _ (by omega) (by omega) (by omega) ?_ (MY_7 h)
          rw [Nat.pow_succ]
          omega
    · have hs2 : ¬ (98 ≤ sg f L q ∧ sg f L q ≤ 123) := fun z => hs (by
        have hl : q < L := by
          refine Nat.lt_of_not_le (fun hle => ?_)
          have : sg f L q = 0 := if_neg (by omega)
          omega
        have esg : sg f L q = f q + 1 := if_pos hl
        unfold smB
        rw [decide_eq_true hl, decide_eq_true (show 97 ≤ f q by omega), decide_eq_true (show f q ≤ 122 by omega)]
        rfl)
      rw [decide_eq_false hs2, if_neg hs]
      simp (disch := omega) only [L0, L1, L2, L3, L4, L5, L6, L7, L8, L9, L10, L11, L12, L13, L16, L20, L31, L32, L40, L48, L57, L59, L60, L61, L91, L93, L97, L99, L100, L102, L103, L114, L122, L255, L300, L400, L402, L999, L2280, L2500, L99999, L63, L1431655765, L858993459, L252645135, ic_ge, ic_gt, ic_le, ic_lt, ic_eq, ic_ne, if_lt, if_ge, if_gt, if_le, if_eq, if_ne, if_lt_zI, if_ge_zI, ic_ne_m1, ic_eq_m1, ic_nn_m1, ic_ee_m1, if_ne_b2i, if_eq_b2i, b2i_z, decide_eq_true_eq, decide_true, decide_false, Bool.not_eq_true, Bool.not_eq_true', Bool.not_true, Bool.not_false, decide_eq_false_iff_not, Bool.false_eq_true, not_false_eq_true, not_true_eq_false, if_true, if_false, ↓reduceIte, eq_self, Option.bind_some, Bool.true_and, Bool.false_and, Bool.and_true, Bool.and_false, nI_add, nI_subN, nI_clamp, gdF, gdF2, gdP, gdP2, zI_cl, zI_s, Lm1, nI_n0, zI_n0, leF, or_false, false_or, or_self]
      exact ep_ret ⟨h, fun _ => rfl⟩
theorem f177 (hH : MH S0 f L) {most : Nat} (h8 : most ≤ 8) (hi : i ≤ L) (h : MY S S0 L i 0) : Ep (fun n => F177 n (nI most) S) (fun z => MY z.2 S0 L (leF2 f L i most).2.2 (leF2 f L i most).1 ∧ ((leF2 f L i most).1 = 0 → z.1 = nI (leF2 f L i most).2.1)) := by
  have hL := hH.2.1
  have hb := bk_b (f := f) hi
  refine ep_succ (fun n => F177e0 n ..) ?_
  simp only [F177b0]
  refine ep_bind (f161 hH hi h) ?_
  rintro ⟨_, S1⟩ a
  have a : MY S1 S0 L (bk f L i) 0 := a
  have a4 := a.2.2.1
  have a2 := a.2.1
  have hsg := sg_lt (i := bk f L i) hH
  simp (disch := omega) only [L0, L1, L2, L3, L4, L5, L6, L7, L8, L9, L10, L11, L12, L13, L16, L20, L31, L32, L40, L48, L57, L59, L60, L61, L91, L93, L97, L99, L100, L102, L103, L114, L122, L255, L300, L400, L402, L999, L2280, L2500, L99999, L63, L1431655765, L858993459, L252645135, ic_ge, ic_gt, ic_le, ic_lt, ic_eq, ic_ne, if_lt, if_ge, if_gt, if_le, if_eq, if_ne, if_lt_zI, if_ge_zI, ic_ne_m1, ic_eq_m1, ic_nn_m1, ic_ee_m1, if_ne_b2i, if_eq_b2i, b2i_z, decide_eq_true_eq, decide_true, decide_false, Bool.not_eq_true, Bool.not_eq_true', Bool.not_true, Bool.not_false, decide_eq_false_iff_not, Bool.false_eq_true, not_false_eq_true, not_true_eq_false, if_true, if_false, ↓reduceIte, eq_self, Option.bind_some, Bool.true_and, Bool.false_and, Bool.and_true, Bool.and_false, nI_add, nI_subN, nI_clamp, gdF, gdF2, gdP, gdP2, zI_cl, zI_s, Lm1, nI_n0, zI_n0, leF, or_false, false_or, or_self, a4]
  refine ep_bv (f162 hH hb.2.1 a) ?_
  refine ep_bv (f172 S1) ?_
  rw [inE hsg]
  unfold leF2
  by_cases hs : smB f L (bk f L i) = true
  · have hs' := hs
    unfold smB at hs'
    simp only [Bool.and_eq_true, decide_eq_true_eq] at hs'
    have esg : sg f L (bk f L i) = f (bk f L i) + 1 := if_pos hs'.1.1
    rw [decide_eq_true (show 98 ≤ sg f L (bk f L i) ∧ sg f L (bk f L i) ≤ 123 by omega), if_pos hs]
    simp (disch := omega) only [L0, L1, L2, L3, L4, L5, L6, L7, L8, L9, L10, L11, L12, L13, L16, L20, L31, L32, L40, L48, L57, L59, L60, L61, L91, L93, L97, L99, L100, L102, L103, L114, L122, L255, L300, L400, L402, L999, L2280, L2500, L99999, L63, L1431655765, L858993459, L252645135, ic_ge, ic_gt, ic_le, ic_lt, ic_eq, ic_ne, if_lt, if_ge, if_gt, if_le, if_eq, if_ne, if_lt_zI, if_ge_zI, ic_ne_m1, ic_eq_m1, ic_nn_m1, ic_ee_m1, if_ne_b2i, if_eq_b2i, b2i_z, decide_eq_true_eq, decide_true, decide_false, Bool.not_eq_true, Bool.not_eq_true', Bool.not_true, Bool.not_false, decide_eq_false_iff_not, Bool.false_eq_true, not_false_eq_true, not_true_eq_false, if_true, if_false, ↓reduceIte, eq_self, Option.bind_some, Bool.true_and, Bool.false_and, Bool.and_true, Bool.and_false, nI_add, nI_subN, nI_clamp, gdF, gdF2, gdP, gdP2, zI_cl, zI_s, Lm1, nI_n0, zI_n0, leF, or_false, false_or, or_self]
    exact f177l hH h8 (most + 1) (bk f L i) 0 0 S1 (by omega) (by omega) hb.2.1 (by decide) a
  · have hs2 : ¬ (98 ≤ sg f L (bk f L i) ∧ sg f L (bk f L i) ≤ 123) := fun z => hs (by
      have hl : bk f L i < L := by
        refine Nat.lt_of_not_le (fun hle => ?_)
        have : sg f L (bk f L i) = 0 := if_neg (by omega)
        omega
      have esg : sg f L (bk f L i) = f (bk f L i) + 1 := if_pos hl
      unfold smB
      rw [decide_eq_true hl, decide_eq_true (show 97 ≤ f (bk f L i) by omega), decide_eq_true (show f (bk f L i) ≤ 122 by omega)]
      rfl)
    rw [decide_eq_false hs2, if_neg hs]
    simp (disch := omega) only [L0, L1, L2, L3, L4, L5, L6, L7, L8, L9, L10, L11, L12, L13, L16, L20, L31, L32, L40, L48, L57, L59, L60, L61, L91, L93, L97, L99, L100, L102, L103, L114, L122, L255, L300, L400, L402, L999, L2280, L2500, L99999, L63, L1431655765, L858993459, L252645135, ic_ge, ic_gt, ic_le, ic_lt, ic_eq, ic_ne, if_lt, if_ge, if_gt, if_le, if_eq, if_ne, if_lt_zI, if_ge_zI, ic_ne_m1, ic_eq_m1, ic_nn_m1, ic_ee_m1, if_ne_b2i, if_eq_b2i, b2i_z, decide_eq_true_eq, decide_true, decide_false, Bool.not_eq_true, Bool.not_eq_true', Bool.not_true, Bool.not_false, decide_eq_false_iff_not, Bool.false_eq_true, not_false_eq_true, not_true_eq_false, if_true, if_false, ↓reduceIte, eq_self, Option.bind_some, Bool.true_and, Bool.false_and, Bool.and_true, Bool.and_false, nI_add, nI_subN, nI_clamp, gdF, gdF2, gdP, gdP2, zI_cl, zI_s, Lm1, nI_n0, zI_n0, leF, or_false, false_or, or_self, a2]
    refine ep_bind (f165 a) ?_
    rintro ⟨z, S2⟩ b
    have b : MY S2 S0 L (bk f L i) (1 + 8 * bk f L i) := b
    have b4 := b.2.2.1
    have ne : ¬ 1 + 8 * bk f L i = 0 := by omega
    refine ep_succ (fun n => F177e41 n ..) ?_
    simp (disch := omega) only [F177b41, L0, L1, L2, L3, L4, L5, L6, L7, L8, L9, L10, L11, L12, L13, L16, L20, L31, L32, L40, L48, L57, L59, L60, L61, L91, L93, L97, L99, L100, L102, L103, L114, L122, L255, L300, L400, L402, L999, L2280, L2500, L99999, L63, L1431655765, L858993459, L252645135, ic_ge, ic_gt, ic_le, ic_lt, ic_eq, ic_ne, if_lt, if_ge, if_gt, if_le, if_eq, if_ne, if_lt_zI, if_ge_zI, ic_ne_m1, ic_eq_m1, ic_nn_m1, ic_ee_m1, if_ne_b2i, if_eq_b2i, b2i_z, decide_eq_true_eq, decide_true, decide_false, Bool.not_eq_true, Bool.not_eq_true', Bool.not_true, Bool.not_false, decide_eq_false_iff_not, Bool.false_eq_true, not_false_eq_true, not_true_eq_false, if_true, if_false, ↓reduceIte, eq_self, Option.bind_some, Bool.true_and, Bool.false_and, Bool.and_true, Bool.and_false, nI_add, nI_subN, nI_clamp, gdF, gdF2, gdP, gdP2, zI_cl, zI_s, Lm1, nI_n0, zI_n0, leF, or_false, false_or, or_self, b4, ne]
    exact ep_ret ⟨b, fun z => z.elim⟩
theorem f177n (hH : MH S0 f L) {x : Int32} (he : e ≠ 0) (he2 : e < 2 ^ 31) (hi : i ≤ L) (h : MY S S0 L i e) : Ep (fun n => F177 n x S) (fun z => MY z.2 S0 L (bk f L i) e) := by
  refine ep_succ (fun n => F177e0 n ..) ?_
  simp only [F177b0]
  refine ep_bind (f161 hH hi h) ?_
  rintro ⟨_, S1⟩ a
  have a : MY S1 S0 L (bk f L i) e := a
  have a4 := a.2.2.1
  simp (disch := omega) only [L0, L1, L2, L3, L4, L5, L6, L7, L8, L9, L10, L11, L12, L13, L16, L20, L31, L32, L40, L48, L57, L59, L60, L61, L91, L93, L97, L99, L100, L102, L103, L114, L122, L255, L300, L400, L402, L999, L2280, L2500, L99999, L63, L1431655765, L858993459, L252645135, ic_ge, ic_gt, ic_le, ic_lt, ic_eq, ic_ne, if_lt, if_ge, if_gt, if_le, if_eq, if_ne, if_lt_zI, if_ge_zI, ic_ne_m1, ic_eq_m1, ic_nn_m1, ic_ee_m1, if_ne_b2i, if_eq_b2i, b2i_z, decide_eq_true_eq, decide_true, decide_false, Bool.not_eq_true, Bool.not_eq_true', Bool.not_true, Bool.not_false, decide_eq_false_iff_not, Bool.false_eq_true, not_false_eq_true, not_true_eq_false, if_true, if_false, ↓reduceIte, eq_self, Option.bind_some, Bool.true_and, Bool.false_and, Bool.and_true, Bool.and_false, nI_add, nI_subN, nI_clamp, gdF, gdF2, gdP, gdP2, zI_cl, zI_s, Lm1, nI_n0, zI_n0, leF, or_false, false_or, or_self, a4, he]
  refine ep_succ (fun n => F177e41 n ..) ?_
  simp (disch := omega) only [F177b41, L0, L1, L2, L3, L4, L5, L6, L7, L8, L9, L10, L11, L12, L13, L16, L20, L31, L32, L40, L48, L57, L59, L60, L61, L91, L93, L97, L99, L100, L102, L103, L114, L122, L255, L300, L400, L402, L999, L2280, L2500, L99999, L63, L1431655765, L858993459, L252645135, ic_ge, ic_gt, ic_le, ic_lt, ic_eq, ic_ne, if_lt, if_ge, if_gt, if_le, if_eq, if_ne, if_lt_zI, if_ge_zI, ic_ne_m1, ic_eq_m1, ic_nn_m1, ic_ee_m1, if_ne_b2i, if_eq_b2i, b2i_z, decide_eq_true_eq, decide_true, decide_false, Bool.not_eq_true, Bool.not_eq_true', Bool.not_true, Bool.not_false, decide_eq_false_iff_not, Bool.false_eq_true, not_false_eq_true, not_true_eq_false, if_true, if_false, ↓reduceIte, eq_self, Option.bind_some, Bool.true_and, Bool.false_and, Bool.and_true, Bool.and_false, nI_add, nI_subN, nI_clamp, gdF, gdF2, gdP, gdP2, zI_cl, zI_s, Lm1, nI_n0, zI_n0, leF, or_false, false_or, or_self, a4, he]
  exact ep_ret a
theorem f178 (hH : MH S0 f L) (hi : i ≤ L) (h : MY S S0 L i 0) : Ep (fun n => F178 n S) (fun z => (goF f L i = 1 → z.1 = nI 1 ∧ MY z.2 S0 L (bk f L i + 1) 0) ∧ (goF f L i = 0 → z.1 = nI 0 ∧ MY z.2 S0 L (bk f L i + 1) 0) ∧ (goF f L i = 2 → z.1 = nI 0 ∧ MY z.2 S0 L (bk f L i + 1) (1 + 8 * bk f L i))) := by
  have hL := hH.2.1
  have hb := bk_b (f := f) hi
  refine ep_succ (fun n => F178e0 n ..) ?_
  simp only [F178b0]
  refine ep_bind (f161 hH hi h) ?_
  rintro ⟨_, S1⟩ a
  have a : MY S1 S0 L (bk f L i) 0 := a
  have a4 := a.2.2.1
  have a2 := a.2.1
  have a1 := a.1
  have gs := f162 hH hb.2.1 a
  unfold goF
  by_cases hl : bk f L i < L
  · have hle : ¬ L ≤ bk f L i := by omega
    have h256 := hH.2.2 _ hl
    rw [show sg f L (bk f L i) = f (bk f L i) + 1 from if_pos hl, zI_s] at gs
    rw [if_pos hl]
    simp (disch := omega) only [L0, L1, L2, L3, L4, L5, L6, L7, L8, L9, L10, L11, L12, L13, L16, L20, L31, L32, L40, L48, L57, L59, L60, L61, L91, L93, L97, L99, L100, L102, L103, L114, L122, L255, L300, L400, L402, L999, L2280, L2500, L99999, L63, L1431655765, L858993459, L252645135, ic_ge, ic_gt, ic_le, ic_lt, ic_eq, ic_ne, if_lt, if_ge, if_gt, if_le, if_eq, if_ne, if_lt_zI, if_ge_zI, ic_ne_m1, ic_eq_m1, ic_nn_m1, ic_ee_m1, if_ne_b2i, if_eq_b2i, b2i_z, decide_eq_true_eq, decide_true, decide_false, Bool.not_eq_true, Bool.not_eq_true', Bool.not_true, Bool.not_false, decide_eq_false_iff_not, Bool.false_eq_true, not_false_eq_true, not_true_eq_false, if_true, if_false, ↓reduceIte, eq_self, Option.bind_some, Bool.true_and, Bool.false_and, Bool.and_true, Bool.and_false, nI_add, nI_subN, nI_clamp, gdF, gdF2, gdP, gdP2, zI_cl, zI_s, Lm1, nI_n0, zI_n0, leF, or_false, false_or, or_self, a4, a1, a2, hle]
    refine ep_bv gs ?_
    by_cases h59 : f (bk f L i) = 59
    · rw [if_pos h59]
      simp (disch := omega) only [L0, L1, L2, L3, L4, L5, L6, L7, L8, L9, L10, L11, L12, L13, L16, L20, L31, L32, L40, L48, L57, L59, L60, L61, L91, L93, L97, L99, L100, L102, L103, L114, L122, L255, L300, L400, L402, L999, L2280, L2500, L99999, L63, L1431655765, L858993459, L252645135, ic_ge, ic_gt, ic_le, ic_lt, ic_eq, ic_ne, if_lt, if_ge, if_gt, if_le, if_eq, if_ne, if_lt_zI, if_ge_zI, ic_ne_m1, ic_eq_m1, ic_nn_m1, ic_ee_m1, if_ne_b2i, if_eq_b2i, b2i_z, decide_eq_true_eq, decide_true, decide_false, Bool.not_eq_true, Bool.not_eq_true', Bool.not_true, Bool.not_false, decide_eq_false_iff_not, Bool.false_eq_true, not_false_eq_true, not_true_eq_false, if_true, if_false, ↓reduceIte, eq_self, Option.bind_some, Bool.true_and, Bool.false_and, Bool.and_true, Bool.and_false, nI_add, nI_subN, nI_clamp, gdF, gdF2, gdP, gdP2, zI_cl, zI_s, Lm1, nI_n0, zI_n0, leF, or_false, false_or, or_self, h59, a4, a1, a2, hle]
      exact ep_ret ⟨fun _ => ⟨rfl, MY_7 a⟩, fun z => absurd z (by decide), fun z => absurd z (by decide)⟩
    · rw [if_neg h59]
      simp (disch := omega) only [L0, L1, L2, L3, L4, L5, L6, L7, L8, L9, L10, L11, L12, L13, L16, L20, L31, L32, L40, L48, L57, L59, L60, L61, L91, L93, L97, L99, L100, L102, L103, L114, L122, L255, L300, L400, L402, L999, L2280, L2500, L99999, L63, L1431655765, L858993459, L252645135, ic_ge, ic_gt, ic_le, ic_lt, ic_eq, ic_ne, if_lt, if_ge, if_gt, if_le, if_eq, if_ne, if_lt_zI, if_ge_zI, ic_ne_m1, ic_eq_m1, ic_nn_m1, ic_ee_m1, if_ne_b2i, if_eq_b2i, b2i_z, decide_eq_true_eq, decide_true, decide_false, Bool.not_eq_true, Bool.not_eq_true', Bool.not_true, Bool.not_false, decide_eq_false_iff_not, Bool.false_eq_true, not_false_eq_true, not_true_eq_false, if_true, if_false, ↓reduceIte, eq_self, Option.bind_some, Bool.true_and, Bool.false_and, Bool.and_true, Bool.and_false, nI_add, nI_subN, nI_clamp, gdF, gdF2, gdP, gdP2, zI_cl, zI_s, Lm1, nI_n0, zI_n0, leF, or_false, false_or, or_self, h59, a2]
      refine ep_bind (f165 a) ?_
      rintro ⟨z, S2⟩ b
      have b : MY S2 S0 L (bk f L i) (1 + 8 * bk f L i) := b
      have b4 := b.2.2.1
      have b2 := b.2.1
      have ne : ¬ 1 + 8 * bk f L i = 0 := by omega
      simp (disch := omega) only [L0, L1, L2, L3, L4, L5, L6, L7, L8, L9, L10, L11, L12, L13, L16, L20, L31, L32, L40, L48, L57, L59, L60, L61, L91, L93, L97, L99, L100, L102, L103, L114, L122, L255, L300, L400, L402, L999, L2280, L2500, L99999, L63, L1431655765, L858993459, L252645135, ic_ge, ic_gt, ic_le, ic_lt, ic_eq, ic_ne, if_lt, if_ge, if_gt, if_le, if_eq, if_ne, if_lt_zI, if_ge_zI, ic_ne_m1, ic_eq_m1, ic_nn_m1, ic_ee_m1, if_ne_b2i, if_eq_b2i, b2i_z, decide_eq_true_eq, decide_true, decide_false, Bool.not_eq_true, Bool.not_eq_true', Bool.not_true, Bool.not_false, decide_eq_false_iff_not, Bool.false_eq_true, not_false_eq_true, not_true_eq_false, if_true, if_false, ↓reduceIte, eq_self, Option.bind_some, Bool.true_and, Bool.false_and, Bool.and_true, Bool.and_false, nI_add, nI_subN, nI_clamp, gdF, gdF2, gdP, gdP2, zI_cl, zI_s, Lm1, nI_n0, zI_n0, leF, or_false, false_or, or_self, b4, b2, ne]
      exact ep_ret ⟨fun z => absurd z (by decide), fun z => absurd z (by decide), fun _ => ⟨rfl, MY_7 b⟩⟩
  · have hle : L ≤ bk f L i := by omega
    rw [if_neg hl]
    simp (disch := omega) only [L0, L1, L2, L3, L4, L5, L6, L7, L8, L9, L10, L11, L12, L13, L16, L20, L31, L32, L40, L48, L57, L59, L60, L61, L91, L93, L97, L99, L100, L102, L103, L114, L122, L255, L300, L400, L402, L999, L2280, L2500, L99999, L63, L1431655765, L858993459, L252645135, ic_ge, ic_gt, ic_le, ic_lt, ic_eq, ic_ne, if_lt, if_ge, if_gt, if_le, if_eq, if_ne, if_lt_zI, if_ge_zI, ic_ne_m1, ic_eq_m1, ic_nn_m1, ic_ee_m1, if_ne_b2i, if_eq_b2i, b2i_z, decide_eq_true_eq, decide_true, decide_false, Bool.not_eq_true, Bool.not_eq_true', Bool.not_true, Bool.not_false, decide_eq_false_iff_not, Bool.false_eq_true, not_false_eq_true, not_true_eq_false, if_true, if_false, ↓reduceIte, eq_self, Option.bind_some, Bool.true_and, Bool.false_and, Bool.and_true, Bool.and_false, nI_add, nI_subN, nI_clamp, gdF, gdF2, gdP, gdP2, zI_cl, zI_s, Lm1, nI_n0, zI_n0, leF, or_false, false_or, or_self, a4, a1, a2, hle]
    exact ep_ret ⟨fun z => absurd z (by decide), fun _ => ⟨rfl, MY_7 a⟩, fun z => absurd z (by decide)⟩
theorem f178n (hH : MH S0 f L) (he : e ≠ 0) (he2 : e < 2 ^ 31) (hi : i ≤ L) (h : MY S S0 L i e) : Ep (fun n => F178 n S) (fun z => z.1 = nI 0 ∧ MY z.2 S0 L (bk f L i + 1) e) := by
  have hL := hH.2.1
  have hb := bk_b (f := f) hi
  refine ep_succ (fun n => F178e0 n ..) ?_
  simp only [F178b0]
  refine ep_bind (f161 hH hi h) ?_
  rintro ⟨_, S1⟩ a
  have a : MY S1 S0 L (bk f L i) e := a
  have a4 := a.2.2.1
  have a2 := a.2.1
  simp (disch := omega) only [L0, L1, L2, L3, L4, L5, L6, L7, L8, L9, L10, L11, L12, L13, L16, L20, L31, L32, L40, L48, L57, L59, L60, L61, L91, L93, L97, L99, L100, L102, L103, L114, L122, L255, L300, L400, L402, L999, L2280, L2500, L99999, L63, L1431655765, L858993459, L252645135, ic_ge, ic_gt, ic_le, ic_lt, ic_eq, ic_ne, if_lt, if_ge, if_gt, if_le, if_eq, if_ne, if_lt_zI, if_ge_zI, ic_ne_m1, ic_eq_m1, ic_nn_m1, ic_ee_m1, if_ne_b2i, if_eq_b2i, b2i_z, decide_eq_true_eq, decide_true, decide_false, Bool.not_eq_true, Bool.not_eq_true', Bool.not_true, Bool.not_false, decide_eq_false_iff_not, Bool.false_eq_true, not_false_eq_true, not_true_eq_false, if_true, if_false, ↓reduceIte, eq_self, Option.bind_some, Bool.true_and, Bool.false_and, Bool.and_true, Bool.and_false, nI_add, nI_subN, nI_clamp, gdF, gdF2, gdP, gdP2, zI_cl, zI_s, Lm1, nI_n0, zI_n0, leF, or_false, false_or, or_self, a4, he, a2]
  exact ep_ret ⟨rfl, MY_7 a⟩
end Mr
