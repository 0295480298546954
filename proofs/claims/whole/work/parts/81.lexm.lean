/-! tapes read by the reference -/
theorem sb_a {x : Nat} (h : x < 256) : sbI x &&& nI 255 = nI x := (by decide +kernel : ∀ x, x < 256 → sbI x &&& nI 255 = nI x) x h
theorem sb_lo {x : Nat} (h : x < 128) : sbI x = nI x := if_pos h
theorem sb_c {x : Nat} (h : x < 256) : am_ic .lt (sbI x) (nI 97) = !(decide (97 ≤ x) && decide (x < 128)) ∧ am_ic .gt (sbI x) (nI 122) = (decide (122 < x) && decide (x < 128)) := (by decide +kernel : ∀ x, x < 256 → am_ic .lt (sbI x) (nI 97) = !(decide (97 ≤ x) && decide (x < 128)) ∧ am_ic .gt (sbI x) (nI 122) = (decide (122 < x) && decide (x < 128))) x h
theorem inN {v lo h : Nat} (h1 : v < 2 ^ 31 - 1) (h2 : lo < 2 ^ 31 - 1) (h3 : h < 2 ^ 31 - 1) : inL (nI v).toInt64 (nI lo).toInt64 (nI h).toInt64 = decide (lo ≤ v ∧ v ≤ h) := by
  rw [← zI_s v, ← zI_s lo, ← zI_s h, inL_z (by omega) (by omega) (by omega)]
  exact decide_eq_decide.mpr (by omega)
def MH (S0 : mS) (f : Nat → Nat) (L : Nat) : Prop := (∀ j, j < L → S0.2.1 26 j = sbI (f j)) ∧ L ≤ 400 ∧ ∀ j, j < L → f j < 256
def MY (S S0 : mS) (L i e : Nat) : Prop := S.1 26 = nI L ∧ S.1 27 = nI i ∧ S.1 28 = nI e ∧ (∀ q, q ≠ 27 → q ≠ 28 → S.1 q = S0.1 q) ∧ S.2 = S0.2
section Mq
variable {S S0 : mS} {f : Nat → Nat} {L i e : Nat}
theorem MY_r (hH : MH S0 f L) (h : MY S S0 L i e) {j : Nat} (hj : j < L) : S.2.1 26 j = sbI (f j) := by
  rw [h.2.2.2.2]
  exact hH.1 j hj
theorem MY_7 {i' : Nat} (h : MY S S0 L i e) : MY (m_sI S 27 (nI i')) S0 L i' e := ⟨by rw [m_rIn (by decide)]; exact h.1, m_rIe, by rw [m_rIn (by decide)]; exact h.2.2.1, fun q a b => by rw [m_rIn a]; exact h.2.2.2.1 q a b, h.2.2.2.2⟩
theorem MY_8 {e' : Nat} (h : MY S S0 L i e) : MY (m_sI S 28 (nI e')) S0 L i e' := ⟨by rw [m_rIn (by decide)]; exact h.1, by rw [m_rIn (by decide)]; exact h.2.1, m_rIe, fun q a b => by rw [m_rIn b]; exact h.2.2.2.1 q a b, h.2.2.2.2⟩
theorem f162 (hH : MH S0 f L) (hi : i ≤ L) (h : MY S S0 L i e) : Ev (fun n => F162 n S) (zI (sg f L i), S) := by
  have hL := hH.2.1
  have h1 := h.1
  have h2 := h.2.1
  refine ev_succ (fun n => F162e0 n ..) ?_
  unfold sg
  by_cases hl : i < L
  · have r := MY_r hH h hl
    have e1 : ¬ L ≤ i := by omega
    rw [if_pos hl, zI_s]
    simp (disch := omega) only [F162b0, L0, L1, L2, L3, L4, L5, L6, L7, L8, L9, L10, L11, L12, L13, L16, L20, L31, L32, L40, L48, L57, L59, L60, L61, L91, L93, L97, L99, L100, L102, L103, L114, L122, L255, L300, L400, L402, L999, L2280, L2500, L99999, L63, L1431655765, L858993459, L252645135, ic_ge, ic_gt, ic_le, ic_lt, ic_eq, ic_ne, if_lt, if_ge, if_gt, if_le, if_eq, if_ne, if_lt_zI, if_ge_zI, ic_ne_m1, ic_eq_m1, ic_nn_m1, ic_ee_m1, if_ne_b2i, if_eq_b2i, b2i_z, decide_eq_true_eq, decide_true, decide_false, Bool.not_eq_true, Bool.not_eq_true', Bool.not_true, Bool.not_false, decide_eq_false_iff_not, Bool.false_eq_true, not_false_eq_true, not_true_eq_false, if_true, if_false, ↓reduceIte, eq_self, Option.bind_some, Bool.true_and, Bool.false_and, Bool.and_true, Bool.and_false, nI_add, nI_subN, nI_clamp, gdF, gdF2, gdP, gdP2, zI_cl, zI_s, Lm1, nI_n0, zI_n0, leF, or_false, false_or, or_self, h1, h2, e1, r, sb_a (hH.2.2 i hl)]
    exact ev_ret
  · have e1 : L ≤ i := by omega
    rw [if_neg hl]
    simp (disch := omega) only [F162b0, L0, L1, L2, L3, L4, L5, L6, L7, L8, L9, L10, L11, L12, L13, L16, L20, L31, L32, L40, L48, L57, L59, L60, L61, L91, L93, L97, L99, L100, L102, L103, L114, L122, L255, L300, L400, L402, L999, L2280, L2500, L99999, L63, L1431655765, L858993459, L252645135, ic_ge, ic_gt, ic_le, ic_lt, ic_eq, ic_ne, if_lt, if_ge, if_gt, if_le, if_eq, if_ne, if_lt_zI, if_ge_zI, ic_ne_m1, ic_eq_m1, ic_nn_m1, ic_ee_m1, if_ne_b2i, if_eq_b2i, b2i_z, decide_eq_true_eq, decide_true, decide_false, Bool.not_eq_true, Bool.not_eq_true', Bool.not_true, Bool.not_false, decide_eq_false_iff_not, Bool.false_eq_true, not_false_eq_true, not_true_eq_false, if_true, if_false, ↓reduceIte, eq_self, Option.bind_some, Bool.true_and, Bool.false_and, Bool.and_true, Bool.and_false, nI_add, nI_subN, nI_clamp, gdF, gdF2, gdP, gdP2, zI_cl, zI_s, Lm1, nI_n0, zI_n0, leF, or_false, false_or, or_self, h1, h2, e1]
    exact ev_ret
theorem sg_lt (hH : MH S0 f L) : sg f L i < 2 ^ 30 := by
  unfold sg
  by_cases hl : i < L
  · rw [if_pos hl]
    have := hH.2.2 i hl
    omega
  · rw [if_neg hl]
    decide
theorem sg_is {x : Nat} : sg f L i = x + 1 ↔ i < L ∧ f i = x := by
  unfold sg
  by_cases hl : i < L
  · rw [if_pos hl]
    omega
  · rw [if_neg hl]
    omega
theorem f161l (hH : MH S0 f L) : ∀ (d i : Nat) (S : mS), i + d = L → MY S S0 L i e → Ep (fun n => F161f n 0 S) (fun z => MY z.2 S0 L (bk f L i) e) := by
  intro d
  induction d with
  | zero =>
    intro i S hi h
    have hsg := sg_lt (i := i) hH
    have e1 : ¬ sg f L i = 32 + 1 := fun z => by
      have := (sg_is.mp z).1
      omega
    refine ep_succ (fun n => F161e0 n ..) ?_
    simp only [F161b0]
    refine ep_bv (f162 hH (by omega) h) ?_
    simp (disch := omega) only [L0, L1, L2, L3, L4, L5, L6, L7, L8, L9, L10, L11, L12, L13, L16, L20, L31, L32, L40, L48, L57, L59, L60, L61, L91, L93, L97, L99, L100, L102, L103, L114, L122, L255, L300, L400, L402, L999, L2280, L2500, L99999, L63, L1431655765, L858993459, L252645135, ic_ge, ic_gt, ic_le, ic_lt, ic_eq, ic_ne, if_lt, if_ge, if_gt, if_le, if_eq, if_ne, if_lt_zI, if_ge_zI, ic_ne_m1, ic_eq_m1, ic_nn_m1, ic_ee_m1, if_ne_b2i, if_eq_b2i, b2i_z, decide_eq_true_eq, decide_true, decide_false, Bool.not_eq_true, Bool.not_eq_true', Bool.not_true, Bool.not_false, decide_eq_false_iff_not, Bool.false_eq_true, not_false_eq_true, not_true_eq_false, if_true, if_false, ↓reduceIte, eq_self, Option.bind_some, Bool.true_and, Bool.false_and, Bool.and_true, Bool.and_false, nI_add, nI_subN, nI_clamp, gdF, gdF2, gdP, gdP2, zI_cl, zI_s, Lm1, nI_n0, zI_n0, leF, or_false, false_or, or_self, ic_ne_pn, e1]
    rw [bk_n (fun z => by omega)]
    exact ep_ret h
  | succ d ih =>
    intro i S hi h
    have hsg := sg_lt (i := i) hH
    have h2 := h.2.1
    refine ep_succ (fun n => F161e0 n ..) ?_
    simp only [F161b0]
    refine ep_bv (f162 hH (by omega) h) ?_
    by_cases h32 : f i = 32
    · have e1 : sg f L i = 32 + 1 := sg_is.mpr ⟨by omega, h32⟩
      rw [bk_s (by omega) h32]
      simp (disch := omega) only [L0, L1, L2, L3, L4, L5, L6, L7, L8, L9, L10, L11, L12, L13, L16, L20, L31, L32, L40, L48, L57, L59, L60, L61, L91, L93, L97, L99, L100, L102, L103, L114, L122, L255, L300, L400, L402, L999, L2280, L2500, L99999, L63, L1431655765, L858993459, L252645135, ic_ge, ic_gt, ic_le, ic_lt, ic_eq, ic_ne, if_lt, if_ge, if_gt, if_le, if_eq, if_ne, if_lt_zI, if_ge_zI, ic_ne_m1, ic_eq_m1, ic_nn_m1, ic_ee_m1, if_ne_b2i, if_eq_b2i, b2i_z, decide_eq_true_eq, decide_true, decide_false, Bool.not_eq_true, Bool.not_eq_true', Bool.not_true, Bool.not_false, decide_eq_false_iff_not, Bool.false_eq_true, not_false_eq_true, not_true_eq_false, if_true, if_false, ↓reduceIte, eq_self, Option.bind_some, Bool.true_and, Bool.false_and, Bool.and_true, Bool.and_false, nI_add, nI_subN, nI_clamp, gdF, gdF2, gdP, gdP2, zI_cl, zI_s, Lm1, nI_n0, zI_n0, leF, or_false, false_or, or_self, ic_ne_pn, e1, h2]
      exact ih (i + 1) _ (by omega) (MY_7 h)
    · have e1 : ¬ sg f L i = 32 + 1 := fun z => h32 (sg_is.mp z).2
      rw [bk_n (fun z => h32 z.2)]
      simp (disch := omega) only [L0, L1, L2, L3, L4, L5, L6, L7, L8, L9, L10, L11, L12, L13, L16, L20, L31, L32, L40, L48, L57, L59, L60, L61, L91, L93, L97, L99, L100, L102, L103, L114, L122, L255, L300, L400, L402, L999, L2280, L2500, L99999, L63, L1431655765, L858993459, L252645135, ic_ge, ic_gt, ic_le, ic_lt, ic_eq, ic_ne, if_lt, if_ge, if_gt, if_le, if_eq, if_ne, if_lt_zI, if_ge_zI, ic_ne_m1, ic_eq_m1, ic_nn_m1, ic_ee_m1, if_ne_b2i, if_eq_b2i, b2i_z, decide_eq_true_eq, decide_true, decide_false, Bool.not_eq_true, Bool.not_eq_true', Bool.not_true, Bool.not_false, decide_eq_false_iff_not, Bool.false_eq_true, not_false_eq_true, not_true_eq_false, if_true, if_false, ↓reduceIte, eq_self, Option.bind_some, Bool.true_and, Bool.false_and, Bool.and_true, Bool.and_false, nI_add, nI_subN, nI_clamp, gdF, gdF2, gdP, gdP2, zI_cl, zI_s, Lm1, nI_n0, zI_n0, leF, or_false, false_or, or_self, ic_ne_pn, e1]
      exact ep_ret h
theorem f161 (hH : MH S0 f L) (hi : i ≤ L) (h : MY S S0 L i e) : Ep (fun n => F161 n S) (fun z => MY z.2 S0 L (bk f L i) e) := f161l hH (L - i) i S (by omega) h
theorem f165 {k p : Nat} (h : MY S S0 L i 0) : Ep (fun n => F165 n (nI k) (nI p) S) (fun z => MY z.2 S0 L i (1 + 8 * p + k)) := by
  have h4 := h.2.2.1
  refine ep_succ (fun n => F165e0 n ..) ?_
  simp (disch := omega) only [F165b0, L0, L1, L2, L3, L4, L5, L6, L7, L8, L9, L10, L11, L12, L13, L16, L20, L31, L32, L40, L48, L57, L59, L60, L61, L91, L93, L97, L99, L100, L102, L103, L114, L122, L255, L300, L400, L402, L999, L2280, L2500, L99999, L63, L1431655765, L858993459, L252645135, ic_ge, ic_gt, ic_le, ic_lt, ic_eq, ic_ne, if_lt, if_ge, if_gt, if_le, if_eq, if_ne, if_lt_zI, if_ge_zI, ic_ne_m1, ic_eq_m1, ic_nn_m1, ic_ee_m1, if_ne_b2i, if_eq_b2i, b2i_z, decide_eq_true_eq, decide_true, decide_false, Bool.not_eq_true, Bool.not_eq_true', Bool.not_true, Bool.not_false, decide_eq_false_iff_not, Bool.false_eq_true, not_false_eq_true, not_true_eq_false, if_true, if_false, ↓reduceIte, eq_self, Option.bind_some, Bool.true_and, Bool.false_and, Bool.and_true, Bool.and_false, nI_add, nI_subN, nI_clamp, gdF, gdF2, gdP, gdP2, zI_cl, zI_s, Lm1, nI_n0, zI_n0, leF, or_false, false_or, or_self, h4, nI_mul]
  exact ep_ret (MY_8 h)
theorem f165n {x y : Int32} (he : e ≠ 0) (he2 : e < 2 ^ 31) (h : MY S S0 L i e) : Ep (fun n => F165 n x y S) (fun z => MY z.2 S0 L i e) := by
  have h4 := h.2.2.1
  refine ep_succ (fun n => F165e0 n ..) ?_
  simp (disch := omega) only [F165b0, L0, L1, L2, L3, L4, L5, L6, L7, L8, L9, L10, L11, L12, L13, L16, L20, L31, L32, L40, L48, L57, L59, L60, L61, L91, L93, L97, L99, L100, L102, L103, L114, L122, L255, L300, L400, L402, L999, L2280, L2500, L99999, L63, L1431655765, L858993459, L252645135, ic_ge, ic_gt, ic_le, ic_lt, ic_eq, ic_ne, if_lt, if_ge, if_gt, if_le, if_eq, if_ne, if_lt_zI, if_ge_zI, ic_ne_m1, ic_eq_m1, ic_nn_m1, ic_ee_m1, if_ne_b2i, if_eq_b2i, b2i_z, decide_eq_true_eq, decide_true, decide_false, Bool.not_eq_true, Bool.not_eq_true', Bool.not_true, Bool.not_false, decide_eq_false_iff_not, Bool.false_eq_true, not_false_eq_true, not_true_eq_false, if_true, if_false, ↓reduceIte, eq_self, Option.bind_some, Bool.true_and, Bool.false_and, Bool.and_true, Bool.and_false, nI_add, nI_subN, nI_clamp, gdF, gdF2, gdP, gdP2, zI_cl, zI_s, Lm1, nI_n0, zI_n0, leF, or_false, false_or, or_self, h4, he]
  exact ep_ret (MY_8 h)
theorem inD {k : Nat} (h : k < 2 ^ 30) : inL (zI k).toInt64 48 57 = decide (49 ≤ k ∧ k ≤ 58) := by
  have := inL_z (a := k) (b := 49) (c := 58) (by omega) (by decide) (by decide)
  exact this
theorem inE {k : Nat} (h : k < 2 ^ 30) : inL (zI k).toInt64 97 122 = decide (98 ≤ k ∧ k ≤ 123) := by
  have := inL_z (a := k) (b := 98) (c := 123) (by omega) (by decide) (by decide)
  exact this
theorem f171 (hH : MH S0 f L) (hi : i ≤ L) (h : MY S S0 L i e) : Ev (fun n => F171 n S) (b2i (decide (i < L ∧ 48 ≤ f i ∧ f i ≤ 57)), S) := by
  have hsg := sg_lt (i := i) hH
  refine ev_succ (fun n => F171e0 n ..) ?_
  simp only [F171b0]
  refine ev_bind (f162 hH hi h) ?_
  refine ev_bind (f172 S) ?_
  simp only [b2i_nr, decide_eq_true_eq, decide_true, decide_false, Bool.not_eq_true, Bool.not_eq_true', Bool.not_true, Bool.not_false, decide_eq_false_iff_not, Bool.false_eq_true, not_false_eq_true, not_true_eq_false, if_true, if_false, ↓reduceIte, eq_self, Option.bind_some, Bool.true_and, Bool.false_and, Bool.and_true, Bool.and_false]
  rw [inD hsg]
  refine ev_to ev_ret ?_
  congr 2
  refine decide_eq_decide.mpr ?_
  unfold sg
  by_cases hl : i < L
  · rw [if_pos hl]
    omega
  · rw [if_neg hl]
    omega
theorem f170l (hH : MH S0 f L) {Q : Int32 × mS → Prop} {j d : Nat} (hj : j ≤ L) (hd : d = dg f L j) (q1 : 5 < d → ∀ z S', MY S' S0 L (j + d) (2 + 8 * j) → Q (z, S')) (q2 : d ≤ 5 → ∀ S', MY S' S0 L (j + d) 0 → Q (nI (vF f j d), S')) : ∀ (r c : Nat) (S : mS), c + r = d → MY S S0 L (j + c) 0 → Ep (fun n => F170f n 25 (nI 99999) (nI j) (nI (vF f j (min c 5))) S) Q := by
  have hL := hH.2.1
  obtain ⟨b1, b2, b3⟩ := dg_b (f := f) hj
  rw [← hd] at b1 b2 b3
  intro r
  induction r with
  | zero =>
    intro c S hc h
    have hcd : c = d := by omega
    subst hcd
    have h2 := h.2.1
    have nd : decide (j + c < L ∧ 48 ≤ f (j + c) ∧ f (j + c) ≤ 57) = false := decide_eq_false (fun z => b3 z.1 z.2)
    have gd := f171 hH (by omega) h
    rw [nd] at gd
    refine ep_succ (fun n => F170e25 n ..) ?_
    simp only [F170b25]
    refine ep_bv gd ?_
    have e1 : j + c - j = c := by omega
    by_cases c5 : 5 < c
    · simp (disch := omega) only [L0, L1, L2, L3, L4, L5, L6, L7, L8, L9, L10, L11, L12, L13, L16, L20, L31, L32, L40, L48, L57, L59, L60, L61, L91, L93, L97, L99, L100, L102, L103, L114, L122, L255, L300, L400, L402, L999, L2280, L2500, L99999, L63, L1431655765, L858993459, L252645135, ic_ge, ic_gt, ic_le, ic_lt, ic_eq, ic_ne, if_lt, if_ge, if_gt, if_le, if_eq, if_ne, if_lt_zI, if_ge_zI, ic_ne_m1, ic_eq_m1, ic_nn_m1, ic_ee_m1, if_ne_b2i, if_eq_b2i, b2i_z, decide_eq_true_eq, decide_true, decide_false, Bool.not_eq_true, Bool.not_eq_true', Bool.not_true, Bool.not_false, decide_eq_false_iff_not, Bool.false_eq_true, not_false_eq_true, not_true_eq_false, if_true, if_false, ↓reduceIte, eq_self, Option.bind_some, Bool.true_and, Bool.false_and, Bool.and_true, Bool.and_false, nI_add, nI_subN, nI_clamp, gdF, gdF2, gdP, gdP2, zI_cl, zI_s, Lm1, nI_n0, zI_n0, leF, or_false, false_or, or_self, h2, e1, c5]
      refine ep_bind (f165 h) ?_
      rintro ⟨z, S1⟩ a
      have a : MY S1 S0 L (j + c) (1 + 8 * j + 1) := a
      refine ep_ret (q1 c5 _ _ ?_)
      rw [show 2 + 8 * j = 1 + 8 * j + 1 by omega]
      exact a
    · have em : min c 5 = c := Nat.min_eq_left (by omega)
      have hv := vF_5 (f := f) (i := j) (d := c) (by omega) b2
      have hv' : vF f j c ≤ 99999 := by omega
      rw [em]
      simp (disch := omega) only [L0, L1, L2, L3, L4, L5, L6, L7, L8, L9, L10, L11, L12, L13, L16, L20, L31, L32, L40, L48, L57, L59, L60, L61, L91, L93, L97, L99, L100, L102, L103, L114, L122, L255, L300, L400, L402, L999, L2280, L2500, L99999, L63, L1431655765, L858993459, L252645135, ic_ge, ic_gt, ic_le, ic_lt, ic_eq, ic_ne, if_lt, if_ge, if_gt, if_le, if_eq, if_ne, if_lt_zI, if_ge_zI, ic_ne_m1, ic_eq_m1, ic_nn_m1, ic_ee_m1, if_ne_b2i, if_eq_b2i, b2i_z, decide_eq_true_eq, decide_true, decide_false, Bool.not_eq_true, Bool.not_eq_true', Bool.not_true, Bool.not_false, decide_eq_false_iff_not, Bool.false_eq_true, not_false_eq_true, not_true_eq_false, if_true, if_false, ↓reduceIte, eq_self, Option.bind_some, Bool.true_and, Bool.false_and, Bool.and_true, Bool.and_false, nI_add, nI_subN, nI_clamp, gdF, gdF2, gdP, gdP2, zI_cl, zI_s, Lm1, nI_n0, zI_n0, leF, or_false, false_or, or_self, h2, e1, c5, hv']
      exact ep_ret (q2 (by omega) _ h)
  | succ r ih =>
    intro c S hc h
    have h2 := h.2.1
    obtain ⟨n48, n57⟩ := b2 c (by omega)
    have nd : decide (j + c < L ∧ 48 ≤ f (j + c) ∧ f (j + c) ≤ 57) = true := decide_eq_true ⟨by omega, n48, n57⟩
    have gd := f171 hH (by omega) h
    rw [nd] at gd
    refine ep_succ (fun n => F170e25 n ..) ?_
    simp only [F170b25]
    refine ep_bv gd ?_
    have e1 : j + c - j = c := by omega
    have ig := ih (c + 1) _ (by omega) (MY_7 (i' := j + (c + 1)) h)
    by_cases c5 : 5 ≤ c
    · rw [Nat.min_eq_right (show 5 ≤ c + 1 by omega)] at ig
      rw [Nat.min_eq_right c5]
      simp (disch := omega) only [L0, L1, L2, L3, L4, L5, L6, L7, L8, L9, L10, L11, L12, L13, L16, L20, L31, L32, L40, L48, L57, L59, L60, L61, L91, L93, L97, L99, L100, L102, L103, L114, L122, L255, L300, L400, L402, L999, L2280, L2500, L99999, L63, L1431655765, L858993459, L252645135, ic_ge, ic_gt, ic_le, ic_lt, ic_eq, ic_ne, if_lt, if_ge, if_gt, if_le, if_eq, if_ne, if_lt_zI, if_ge_zI, ic_ne_m1, ic_eq_m1, ic_nn_m1, ic_ee_m1, if_ne_b2i, if_eq_b2i, b2i_z, decide_eq_true_eq, decide_true, decide_false, Bool.not_eq_true, Bool.not_eq_true', Bool.not_true, Bool.not_false, decide_eq_false_iff_not, Bool.false_eq_true, not_false_eq_true, not_true_eq_false, if_true, if_false, ↓reduceIte, eq_self, Option.bind_some, Bool.true_and, Bool.false_and, Bool.and_true, Bool.and_false, nI_add, nI_subN, nI_clamp, gdF, gdF2, gdP, gdP2, zI_cl, zI_s, Lm1, nI_n0, zI_n0, leF, or_false, false_or, or_self, h2, e1, c5]
      exact ig
    · rw [Nat.min_eq_left (show c + 1 ≤ 5 by omega)] at ig
      rw [Nat.min_eq_left (show c ≤ 5 by omega)]
      have gs := f162 hH (by omega) h
      rw [show sg f L (j + c) = f (j + c) + 1 from if_pos (by omega), zI_s] at gs
      have hv := vF_5 (f := f) (i := j) (d := c) (by omega) (fun k hk => b2 k (by omega))
      have hvs : vF f j (c + 1) = 10 * vF f j c + f (j + c) - 48 := by
        show vF f j c * 10 + (f (j + c) - 48) = _
        omega
      rw [hvs] at ig
      simp (disch := omega) only [L0, L1, L2, L3, L4, L5, L6, L7, L8, L9, L10, L11, L12, L13, L16, L20, L31, L32, L40, L48, L57, L59, L60, L61, L91, L93, L97, L99, L100, L102, L103, L114, L122, L255, L300, L400, L402, L999, L2280, L2500, L99999, L63, L1431655765, L858993459, L252645135, ic_ge, ic_gt, ic_le, ic_lt, ic_eq, ic_ne, if_lt, if_ge, if_gt, if_le, if_eq, if_ne, if_lt_zI, if_ge_zI, ic_ne_m1, ic_eq_m1, ic_nn_m1, ic_ee_m1, if_ne_b2i, if_eq_b2i, b2i_z, decide_eq_true_eq, decide_true, decide_false, Bool.not_eq_true, Bool.not_eq_true', Bool.not_true, Bool.not_false, decide_eq_false_iff_not, Bool.false_eq_true, not_false_eq_true, not_true_eq_false, if_true, if_false, ↓reduceIte, eq_self, Option.bind_some, Bool.true_and, Bool.false_and, Bool.and_true, Bool.and_false, nI_add, nI_subN, nI_clamp, gdF, gdF2, gdP, gdP2, zI_cl, zI_s, Lm1, nI_n0, zI_n0, leF, or_false, false_or, or_self, h2, e1, c5]
      refine ep_bv gs ?_
      simp (disch := omega) only [L0, L1, L2, L3, L4, L5, L6, L7, L8, L9, L10, L11, L12, L13, L16, L20, L31, L32, L40, L48, L57, L59, L60, L61, L91, L93, L97, L99, L100, L102, L103, L114, L122, L255, L300, L400, L402, L999, L2280, L2500, L99999, L63, L1431655765, L858993459, L252645135, ic_ge, ic_gt, ic_le, ic_lt, ic_eq, ic_ne, if_lt, if_ge, if_gt, if_le, if_eq, if_ne, if_lt_zI, if_ge_zI, ic_ne_m1, ic_eq_m1, ic_nn_m1, ic_ee_m1, if_ne_b2i, if_eq_b2i, b2i_z, decide_eq_true_eq, decide_true, decide_false, Bool.not_eq_true, Bool.not_eq_true', Bool.not_true, Bool.not_false, decide_eq_false_iff_not, Bool.false_eq_true, not_false_eq_true, not_true_eq_false, if_true, if_false, ↓reduceIte, eq_self, Option.bind_some, Bool.true_and, Bool.false_and, Bool.and_true, Bool.and_false, nI_add, nI_subN, nI_clamp, gdF, gdF2, gdP, gdP2, zI_cl, zI_s, Lm1, nI_n0, zI_n0, leF, or_false, false_or, or_self, h2, nI_mul]
      exact ig
theorem f170 (hH : MH S0 f L) {Q : Int32 × mS → Prop} (hi : i ≤ L) (h : MY S S0 L i 0) (q0 : dg f L i = 0 → ∀ z S', MY S' S0 L i (1 + 8 * i) → Q (z, S')) (q1 : 5 < dg f L i → ∀ z S', MY S' S0 L (i + dg f L i) (2 + 8 * i) → Q (z, S')) (q2 : dg f L i ≠ 0 → dg f L i ≤ 5 → ∀ S', MY S' S0 L (i + dg f L i) 0 → Q (nI (vF f i (dg f L i)), S')) : Ep (fun n => F170 n (nI 99999) S) Q := by
  obtain ⟨b1, b2, b3⟩ := dg_b (f := f) hi
  have h2 := h.2.1
  have gd := f171 hH hi h
  refine ep_succ (fun n => F170e0 n ..) ?_
  simp only [F170b0]
  refine ep_bv gd ?_
  by_cases d0 : dg f L i = 0
  · have nd : decide (i < L ∧ 48 ≤ f i ∧ f i ≤ 57) = false := decide_eq_false (fun z => by
      have := b3 (by omega)
      rw [d0, Nat.add_zero] at this
      exact this z.2)
    rw [nd]
    simp (disch := omega) only [L0, L1, L2, L3, L4, L5, L6, L7, L8, L9, L10, L11, L12, L13, L16, L20, L31, L32, L40, L48, L57, L59, L60, L61, L91, L93, L97, L99, L100, L102, L103, L114, L122, L255, L300, L400, L402, L999, L2280, L2500, L99999, L63, L1431655765, L858993459, L252645135, ic_ge, ic_gt, ic_le, ic_lt, ic_eq, ic_ne, if_lt, if_ge, if_gt, if_le, if_eq, if_ne, if_lt_zI, if_ge_zI, ic_ne_m1, ic_eq_m1, ic_nn_m1, ic_ee_m1, if_ne_b2i, if_eq_b2i, b2i_z, decide_eq_true_eq, decide_true, decide_false, Bool.not_eq_true, Bool.not_eq_true', Bool.not_true, Bool.not_false, decide_eq_false_iff_not, Bool.false_eq_true, not_false_eq_true, not_true_eq_false, if_true, if_false, ↓reduceIte, eq_self, Option.bind_some, Bool.true_and, Bool.false_and, Bool.and_true, Bool.and_false, nI_add, nI_subN, nI_clamp, gdF, gdF2, gdP, gdP2, zI_cl, zI_s, Lm1, nI_n0, zI_n0, leF, or_false, false_or, or_self, h2]
    refine ep_bind (f165 h) ?_
    rintro ⟨z, S1⟩ a
    exact ep_ret (q0 d0 _ _ a)
  · have nd : decide (i < L ∧ 48 ≤ f i ∧ f i ≤ 57) = true := by
      have := b2 0 (by omega)
      rw [Nat.add_zero] at this
      exact decide_eq_true ⟨by omega, this⟩
    rw [nd]
    simp (disch := omega) only [L0, L1, L2, L3, L4, L5, L6, L7, L8, L9, L10, L11, L12, L13, L16, L20, L31, L32, L40, L48, L57, L59, L60, L61, L91, L93, L97, L99, L100, L102, L103, L114, L122, L255, L300, L400, L402, L999, L2280, L2500, L99999, L63, L1431655765, L858993459, L252645135, ic_ge, ic_gt, ic_le, ic_lt, ic_eq, ic_ne, if_lt, if_ge, if_gt, if_le, if_eq, if_ne, if_lt_zI, if_ge_zI, ic_ne_m1, ic_eq_m1, ic_nn_m1, ic_ee_m1, if_ne_b2i, if_eq_b2i, b2i_z, decide_eq_true_eq, decide_true, decide_false, Bool.not_eq_true, Bool.not_eq_true', Bool.not_true, Bool.not_false, decide_eq_false_iff_not, Bool.false_eq_true, not_false_eq_true, not_true_eq_false, if_true, if_false, ↓reduceIte, eq_self, Option.bind_some, Bool.true_and, Bool.false_and, Bool.and_true, Bool.and_false, nI_add, nI_subN, nI_clamp, gdF, gdF2, gdP, gdP2, zI_cl, zI_s, Lm1, nI_n0, zI_n0, leF, or_false, false_or, or_self, h2]
    exact f170l hH hi rfl q1 (q2 d0) _ 0 S (Nat.zero_add _) h
theorem nm_z (h : dg f L (bk f L i) = 0) : nmF f L i = (1 + 8 * bk f L i, 0, bk f L i) := if_pos h
theorem nm_5 (h : 5 < dg f L (bk f L i)) : nmF f L i = (2 + 8 * bk f L i, 0, bk f L i + dg f L (bk f L i)) := (if_neg (by omega)).trans (if_pos h)
theorem nm_v (h0 : dg f L (bk f L i) ≠ 0) (h : dg f L (bk f L i) ≤ 5) : nmF f L i = (0, vF f (bk f L i) (dg f L (bk f L i)), bk f L i + dg f L (bk f L i)) := (if_neg h0).trans (if_neg (by omega))
theorem f169 (hH : MH S0 f L) {lo hi : Nat} (hlo : lo < 2 ^ 30) (hhi : hi < 2 ^ 30) (hi0 : hi ≠ 0) (hi' : i ≤ L) (h : MY S S0 L i 0) : Ep (fun n => F169 n (nI lo) (nI (hi - 1)) S) (fun z => MY z.2 S0 L (amF f L i lo hi).2.2 (amF f L i lo hi).1 ∧ ((amF f L i lo hi).1 = 0 → z.1 = nI (amF f L i lo hi).2.1)) := by
  have hL := hH.2.1
  have hb := bk_b (f := f) hi'
  have hn := nm_b (f := f) hi'
  refine ep_succ (fun n => F169e0 n ..) ?_
  simp only [F169b0]
  refine ep_bind (f161 hH hi' h) ?_
  rintro ⟨_, S1⟩ a
  have a : MY S1 S0 L (bk f L i) 0 := a
  have a4 := a.2.2.1
  have a2 := a.2.1
  simp (disch := omega) only [L0, L1, L2, L3, L4, L5, L6, L7, L8, L9, L10, L11, L12, L13, L16, L20, L31, L32, L40, L48, L57, L59, L60, L61, L91, L93, L97, L99, L100, L102, L103, L114, L122, L255, L300, L400, L402, L999, L2280, L2500, L99999, L63, L1431655765, L858993459, L252645135, ic_ge, ic_gt, ic_le, ic_lt, ic_eq, ic_ne, if_lt, if_ge, if_gt, if_le, if_eq, if_ne, if_lt_zI, if_ge_zI, ic_ne_m1, ic_eq_m1, ic_nn_m1, ic_ee_m1, if_ne_b2i, if_eq_b2i, b2i_z, decide_eq_true_eq, decide_true, decide_false, Bool.not_eq_true, Bool.not_eq_true', Bool.not_true, Bool.not_false, decide_eq_false_iff_not, Bool.false_eq_true, not_false_eq_true, not_true_eq_false, if_true, if_false, ↓reduceIte, eq_self, Option.bind_some, Bool.true_and, Bool.false_and, Bool.and_true, Bool.and_false, nI_add, nI_subN, nI_clamp, gdF, gdF2, gdP, gdP2, zI_cl, zI_s, Lm1, nI_n0, zI_n0, leF, or_false, false_or, or_self, a4, a2]
  have g : Ep (fun n => F170 n (nI 99999) S1) (fun z => MY z.2 S0 L (nmF f L i).2.2 (nmF f L i).1 ∧ ((nmF f L i).1 = 0 → z.1 = nI (nmF f L i).2.1)) := by
    refine f170 hH hb.2.1 a (fun d0 z S' p => ?_) (fun d5 z S' p => ?_) (fun d0 d5 S' p => ?_)
    · rw [nm_z d0]
      exact ⟨p, fun z => absurd z (show ¬ 1 + 8 * bk f L i = 0 by omega)⟩
    · rw [nm_5 d5]
      exact ⟨p, fun z => absurd z (show ¬ 2 + 8 * bk f L i = 0 by omega)⟩
    · rw [nm_v d0 d5]
      exact ⟨p, fun _ => rfl⟩
  refine ep_bind g ?_
  rintro ⟨z, S2⟩ ⟨p2, p1⟩
  have p2 : MY S2 S0 L (nmF f L i).2.2 (nmF f L i).1 := p2
  by_cases h0 : (nmF f L i).1 = 0
  · have p1 : z = nI (nmF f L i).2.1 := p1 h0
    subst p1
    rw [h0] at p2
    have p4 : S2.1 28 = nI 0 := p2.2.2.1
    have ef0 : am_if .ne (S2.1 28) = false := by rw [p4]; decide
    simp only [ef0, decide_eq_true_eq, decide_true, decide_false, Bool.not_eq_true, Bool.not_eq_true', Bool.not_true, Bool.not_false, decide_eq_false_iff_not, Bool.false_eq_true, not_false_eq_true, not_true_eq_false, if_true, if_false, ↓reduceIte, eq_self, Option.bind_some, Bool.true_and, Bool.false_and, Bool.and_true, Bool.and_false]
    refine ep_bv (f172 S2) ?_
    rw [inN (by omega) (by omega) (by omega)]
    by_cases hin : lo ≤ (nmF f L i).2.1 ∧ (nmF f L i).2.1 < hi
    · have hin' : lo ≤ (nmF f L i).2.1 ∧ (nmF f L i).2.1 ≤ hi - 1 := by omega
      rw [am_i h0 hin, decide_eq_true hin', h0]
      simp (disch := omega) only [L0, L1, L2, L3, L4, L5, L6, L7, L8, L9, L10, L11, L12, L13, L16, L20, L31, L32, L40, L48, L57, L59, L60, L61, L91, L93, L97, L99, L100, L102, L103, L114, L122, L255, L300, L400, L402, L999, L2280, L2500, L99999, L63, L1431655765, L858993459, L252645135, ic_ge, ic_gt, ic_le, ic_lt, ic_eq, ic_ne, if_lt, if_ge, if_gt, if_le, if_eq, if_ne, if_lt_zI, if_ge_zI, ic_ne_m1, ic_eq_m1, ic_nn_m1, ic_ee_m1, if_ne_b2i, if_eq_b2i, b2i_z, decide_eq_true_eq, decide_true, decide_false, Bool.not_eq_true, Bool.not_eq_true', Bool.not_true, Bool.not_false, decide_eq_false_iff_not, Bool.false_eq_true, not_false_eq_true, not_true_eq_false, if_true, if_false, ↓reduceIte, eq_self, Option.bind_some, Bool.true_and, Bool.false_and, Bool.and_true, Bool.and_false, nI_add, nI_subN, nI_clamp, gdF, gdF2, gdP, gdP2, zI_cl, zI_s, Lm1, nI_n0, zI_n0, leF, or_false, false_or, or_self]
      exact ep_ret ⟨p2, fun _ => rfl⟩
    · have hin' : ¬ (lo ≤ (nmF f L i).2.1 ∧ (nmF f L i).2.1 ≤ hi - 1) := by omega
      rw [am_o h0 hin, decide_eq_false hin']
      have ef : am_if .ne (b2i false) = false := by decide
      simp only [ef, decide_eq_true_eq, decide_true, decide_false, Bool.not_eq_true, Bool.not_eq_true', Bool.not_true, Bool.not_false, decide_eq_false_iff_not, Bool.false_eq_true, not_false_eq_true, not_true_eq_false, if_true, if_false, ↓reduceIte, eq_self, Option.bind_some, Bool.true_and, Bool.false_and, Bool.and_true, Bool.and_false]
      refine ep_bind (f165 p2) ?_
      rintro ⟨w, S3⟩ b
      have b : MY S3 S0 L (nmF f L i).2.2 (1 + 8 * bk f L i + 1) := b
      refine ep_ret ⟨?_, fun z => absurd z (show ¬ 2 + 8 * bk f L i = 0 by omega)⟩
      show MY S3 S0 L (nmF f L i).2.2 (2 + 8 * bk f L i)
      rw [show 2 + 8 * bk f L i = 1 + 8 * bk f L i + 1 by omega]
      exact b
  · have p4 := p2.2.2.1
    have ef : am_if .ne (S2.1 28) = true := by
      rw [p4, if_ne (by omega), decide_eq_false h0]
      rfl
    rw [am_e h0]
    simp only [ef, decide_eq_true_eq, decide_true, decide_false, Bool.not_eq_true, Bool.not_eq_true', Bool.not_true, Bool.not_false, decide_eq_false_iff_not, Bool.false_eq_true, not_false_eq_true, not_true_eq_false, if_true, if_false, ↓reduceIte, eq_self, Option.bind_some, Bool.true_and, Bool.false_and, Bool.and_true, Bool.and_false]
    exact ep_ret ⟨p2, fun z => absurd z h0⟩
/-- once a fault is found -/
theorem f169n (hH : MH S0 f L) {x y : Int32} (he : e ≠ 0) (he2 : e < 2 ^ 31) (hi' : i ≤ L) (h : MY S S0 L i e) : Ep (fun n => F169 n x y S) (fun z => MY z.2 S0 L (bk f L i) e) := by
  refine ep_succ (fun n => F169e0 n ..) ?_
  simp only [F169b0]
  refine ep_bind (f161 hH hi' h) ?_
  rintro ⟨_, S1⟩ a
  have a : MY S1 S0 L (bk f L i) e := a
  have a4 := a.2.2.1
  simp (disch := omega) only [L0, L1, L2, L3, L4, L5, L6, L7, L8, L9, L10, L11, L12, L13, L16, L20, L31, L32, L40, L48, L57, L59, L60, L61, L91, L93, L97, L99, L100, L102, L103, L114, L122, L255, L300, L400, L402, L999, L2280, L2500, L99999, L63, L1431655765, L858993459, L252645135, ic_ge, ic_gt, ic_le, ic_lt, ic_eq, ic_ne, if_lt, if_ge, if_gt, if_le, if_eq, if_ne, if_lt_zI, if_ge_zI, ic_ne_m1, ic_eq_m1, ic_nn_m1, ic_ee_m1, if_ne_b2i, if_eq_b2i, b2i_z, decide_eq_true_eq, decide_true, decide_false, Bool.not_eq_true, Bool.not_eq_true', Bool.not_true, Bool.not_false, decide_eq_false_iff_not, Bool.false_eq_true, not_false_eq_true, not_true_eq_false, if_true, if_false, ↓reduceIte, eq_self, Option.bind_some, Bool.true_and, Bool.false_and, Bool.and_true, Bool.and_false, nI_add, nI_subN, nI_clamp, gdF, gdF2, gdP, gdP2, zI_cl, zI_s, Lm1, nI_n0, zI_n0, leF, or_false, false_or, or_self, a4, he]
  exact ep_ret a
end Mq
