/-! rows: the reference's search -/
def FrR (S S' : mS) : Prop := S'.1 = S.1 ∧ S'.2.2 = S.2.2 ∧ ∀ q, q ≠ 37 → q ≠ 38 → S'.2.1 q = S.2.1 q
theorem FrR_rf {S : mS} : FrR S S := ⟨rfl, rfl, fun _ _ _ => rfl⟩
theorem FrR_tr {S1 S2 S3 : mS} (h1 : FrR S1 S2) (h2 : FrR S2 S3) : FrR S1 S3 := ⟨h2.1.trans h1.1, h2.2.1.trans h1.2.1, fun q a b => (h2.2.2 q a b).trans (h1.2.2 q a b)⟩
theorem FrR_7 {S0 S : mS} {j : Nat} {x : Int32} (h : FrR S0 S) : FrR S0 (m_sA S 37 j x) := ⟨h.1, h.2.1, fun q a b => by rw [m_rAn a]; exact h.2.2 q a b⟩
theorem zI_in {x : Nat} : zI x + nI 1 = nI x := by
  cases x with
  | zero => decide
  | succ x => rw [zI_s, nI_add]
theorem m1_0 : nI 0 + zI 0 = zI 0 := by decide
theorem an_0 (x : Int32) : x &&& nI 0 = nI 0 := by
  refine b_ext (fun i hi => ?_)
  rw [b_and, bt_nI hi, Nat.zero_testBit, Bool.and_false]
theorem f179l {S0 : mS} : ∀ (m i : Nat) (S : mS), i + m = 9 → FrR S0 S → S.2.1 37 = S0.2.1 37 → (∀ j, j < i → S.2.1 38 j = S0.2.1 37 j) → Ep (fun n => F179_167_168f n 2 (nI i) S) (fun z => FrR S0 z.2 ∧ z.2.2.1 37 = S0.2.1 37 ∧ ∀ j, j < 9 → z.2.2.1 38 j = S0.2.1 37 j) := by
  intro m
  induction m with
  | zero =>
    intro i S hi h1 h2 h3
    have : i = 9 := by omega
    subst this
    refine ep_succ (fun n => F179_167_168e2 n ..) ?_
    simp (disch := omega) only [F179_167_168b2, L0, L1, L2, L3, L4, L5, L6, L7, L8, L9, L10, L11, L12, L13, L16, L20, L31, L32, L40, L48, L57, L59, L60, L61, L91, L93, L97, L99, L100, L102, L103, L114, L122, L255, L300, L400, L402, L999, L2280, L2500, L99999, L63, L1431655765, L858993459, L252645135, ic_ge, ic_gt, ic_le, ic_lt, ic_eq, ic_ne, if_lt, if_ge, if_gt, if_le, if_eq, if_ne, if_lt_zI, if_ge_zI, ic_ne_m1, ic_eq_m1, ic_nn_m1, ic_ee_m1, if_ne_b2i, if_eq_b2i, b2i_z, decide_eq_true_eq, decide_true, decide_false, Bool.not_eq_true, Bool.not_eq_true', Bool.not_true, Bool.not_false, decide_eq_false_iff_not, Bool.false_eq_true, not_false_eq_true, not_true_eq_false, if_true, if_false, ↓reduceIte, eq_self, Option.bind_some, Bool.true_and, Bool.false_and, Bool.and_true, Bool.and_false, nI_add, nI_subN, nI_clamp, gdF, gdF2, gdP, gdP2, zI_cl, zI_s, Lm1, nI_n0, zI_n0, leF, or_false, false_or, or_self, Nat.le_refl]
    exact ep_ret ⟨h1, h2, h3⟩
  | succ m ih =>
    intro i S hi h1 h2 h3
    have e : ¬ 9 ≤ i := by omega
    refine ep_succ (fun n => F179_167_168e2 n ..) ?_
    simp (disch := omega) only [F179_167_168b2, L0, L1, L2, L3, L4, L5, L6, L7, L8, L9, L10, L11, L12, L13, L16, L20, L31, L32, L40, L48, L57, L59, L60, L61, L91, L93, L97, L99, L100, L102, L103, L114, L122, L255, L300, L400, L402, L999, L2280, L2500, L99999, L63, L1431655765, L858993459, L252645135, ic_ge, ic_gt, ic_le, ic_lt, ic_eq, ic_ne, if_lt, if_ge, if_gt, if_le, if_eq, if_ne, if_lt_zI, if_ge_zI, ic_ne_m1, ic_eq_m1, ic_nn_m1, ic_ee_m1, if_ne_b2i, if_eq_b2i, b2i_z, decide_eq_true_eq, decide_true, decide_false, Bool.not_eq_true, Bool.not_eq_true', Bool.not_true, Bool.not_false, decide_eq_false_iff_not, Bool.false_eq_true, not_false_eq_true, not_true_eq_false, if_true, if_false, ↓reduceIte, eq_self, Option.bind_some, Bool.true_and, Bool.false_and, Bool.and_true, Bool.and_false, nI_add, nI_subN, nI_clamp, gdF, gdF2, gdP, gdP2, zI_cl, zI_s, Lm1, nI_n0, zI_n0, leF, or_false, false_or, or_self, e]
    refine ih (i + 1) _ (by omega) ⟨h1.1, h1.2.1, fun q a b => by rw [m_rAn b]; exact h1.2.2 q a b⟩ (by rw [m_rAn (by decide)]; exact h2) (fun j hj => ?_)
    by_cases ej : j = i
    · subst ej
      rw [m_rAe, h2]
    · rw [m_rAi ej]
      exact h3 j (by omega)
theorem f179 {S : mS} : Ep (fun n => F179_167_168 n S) (fun z => FrR S z.2 ∧ z.2.2.1 37 = S.2.1 37 ∧ ∀ j, j < 9 → z.2.2.1 38 j = S.2.1 37 j) := by
  refine ep_succ (fun n => F179_167_168e0 n ..) ?_
  simp only [F179_167_168b0, L0]
  exact f179l 9 0 S (by omega) FrR_rf rfl (fun j hj => absurd hj (Nat.not_lt_zero _))
def frU (s U : Nat) : Nat → Bool := fun x => s.testBit x && !U.testBit x
theorem frU_rm {s U x : Nat} : frU s (U ||| 2 ^ x) = rmF (frU s U) x := by
  funext y
  unfold frU rmF
  rw [Nat.testBit_or, Nat.testBit_two_pow, Bool.not_or, Bool.and_assoc, show decide (x = y) = decide (y = x) from decide_eq_decide.mpr ⟨fun e => e.symm, fun e => e.symm⟩]
theorem frU_tb {s U x : Nat} : (s ^^^ (s &&& U)).testBit x = frU s U x := by
  unfold frU
  rw [Nat.testBit_xor, Nat.testBit_and]
  cases s.testBit x <;> cases U.testBit x <;> rfl
theorem frU_bk {U x : Nat} (h : U.testBit x = false) : (U ||| 2 ^ x) ^^^ ((U ||| 2 ^ x) &&& 2 ^ x) = U := by
  refine Nat.eq_of_testBit_eq (fun i => ?_)
  rw [Nat.testBit_xor, Nat.testBit_and, Nat.testBit_or, Nat.testBit_two_pow]
  by_cases e : x = i
  · subst e
    rw [h, decide_eq_true rfl]
    rfl
  · rw [decide_eq_false e, Bool.or_false, Bool.and_false, Bool.xor_false]
def foX (t : Nat → Nat) (N m l : Nat) (fr : Nat → Bool) (d x j : Nat) : Nat := (fxF t N m l fr d x).elim 0 (fun y => if j = 0 then y else foF t N m (y + 1) (rmF fr y) (j - 1))
def P1 (S S' : mS) (k c v m : Nat) (f : Nat → Nat) : Prop := ((c ≠ 0 ∨ v = 0) → S'.2.1 38 = S.2.1 38) ∧ (c = 0 → v ≠ 0 → (∀ i, i < k → S'.2.1 38 i = S.2.1 37 i) ∧ ∀ j, j ≤ m → S'.2.1 38 (k + j) = nI (f j))
theorem fox_skip {t : Nat → Nat} {N m l d x j : Nat} {fr : Nat → Bool} (h : stp t N m l fr x = 0) : foX t N m l fr (d + 1) x j = foX t N m l fr d (x + 1) j := by
  unfold foX fxF
  rw [show fsF (fun x => !decide (stp t N m l fr x = 0)) (d + 1) x = fsF (fun x => !decide (stp t N m l fr x = 0)) d (x + 1) from by
    show (if (!decide (stp t N m l fr x = 0)) = true then some x else _) = _
    rw [decide_eq_true h]
    rfl]
theorem fox_hit {t : Nat → Nat} {N m l d x j : Nat} {fr : Nat → Bool} (h : stp t N m l fr x ≠ 0) : foX t N m l fr (d + 1) x j = if j = 0 then x else foF t N m (x + 1) (rmF fr x) (j - 1) := by
  unfold foX fxF
  rw [show fsF (fun x => !decide (stp t N m l fr x = 0)) (d + 1) x = some x from by
    show (if (!decide (stp t N m l fr x = 0)) = true then some x else _) = _
    rw [decide_eq_false h]
    rfl]
  rfl
section F250
variable {S0 : mS} {t : Nat → Nat} {s N z : Nat} {Q : Int32 × mS → Prop}
/-- one level of the search -/
def Lev (S0 : mS) (t : Nat → Nat) (s N z : Nat) (Q : Int32 × mS → Prop) (m : Nat) : Prop := ∀ (d x k l U c : Nat) (S : mS), k + m + 1 = z → x + d = N → S.2.1 37 k = zI x → ((k = 0 ∧ l = 0) ∨ (k ≠ 0 ∧ l ≠ 0 ∧ l ≤ N ∧ S.2.1 37 (k - 1) = nI (l - 1))) → U < 4096 → c + sF (stp t N m l (frU s U)) d x < 2 ^ 31 → FrR S0 S → (∀ S', FrR S0 S' → (∀ i, i < k → S'.2.1 37 i = S.2.1 37 i) → P1 S S' k c (sF (stp t N m l (frU s U)) d x) m (foX t N m l (frU s U) d x) → Ep (fun n => F250f n 20 (nI s) (nI z) (nI (c + sF (stp t N m l (frU s U)) d x)) (nI (if k = 0 then 0 else U ^^^ (U &&& 2 ^ (l - 1)))) (zI k) S') Q) → Ep (fun n => F250f n 20 (nI s) (nI z) (nI c) (nI U) (nI k) S) Q
theorem f250s {m : Nat} (hN : N ≤ 12) (hz : z ≤ 8) (hs : s < 4096) (ht : ∀ x, x < N → isTx (t x) = true) (H4 : S0.2.1 1 4 = nI N) (H11 : ∀ x, x < N → S0.2.1 11 x = nI (t x)) (up : ∀ m', m = m' + 1 → Lev S0 t s N z Q m') : Lev S0 t s N z Q m := by
  intro d
  induction d with
  | zero =>
    intro x k l U c S hk hx h7 hl hU hc hF go
    have : x = N := by omega
    subst this
    obtain ⟨S1, hS1⟩ : ∃ S1, S1 = m_sA S 37 k (nI x) := ⟨_, rfl⟩
    have e37 : S1.2.1 37 k = nI x := by rw [hS1, m_rAe]
    have hF1 : FrR S0 S1 := by rw [hS1]; exact FrR_7 hF
    have e14 : S1.2.1 1 4 = nI x := by rw [hF1.2.2 1 (by decide) (by decide)]; exact H4
    have e37i : ∀ i, i < k → S1.2.1 37 i = S.2.1 37 i := fun i hi => by rw [hS1, m_rAi (by omega)]
    have e38 : S1.2.1 38 = S.2.1 38 := by rw [hS1, m_rAn (by decide)]
    have g := go S1 hF1 e37i ⟨fun _ => e38, fun _ h => absurd rfl h⟩
    have g : Ep (fun n => F250f n 20 (nI s) (nI z) (nI (c + 0)) (nI (if k = 0 then 0 else U ^^^ (U &&& 2 ^ (l - 1)))) (zI k) S1) Q := g
    rw [Nat.add_zero] at g
    have nl : ¬ x < x := by omega
    refine ep_succ (fun n => F250e20 n ..) ?_
    simp (disch := omega) only [F250b20, L0, L1, L2, L3, L4, L5, L6, L7, L8, L9, L10, L11, L12, L13, L16, L20, L31, L32, L40, L48, L57, L59, L60, L61, L91, L93, L97, L99, L100, L102, L103, L114, L122, L255, L300, L400, L402, L999, L2280, L2500, L99999, L63, L1431655765, L858993459, L252645135, ic_ge, ic_gt, ic_le, ic_lt, ic_eq, ic_ne, if_lt, if_ge, if_gt, if_le, if_eq, if_ne, if_lt_zI, if_ge_zI, ic_ne_m1, ic_eq_m1, ic_nn_m1, ic_ee_m1, if_ne_b2i, if_eq_b2i, b2i_z, decide_eq_true_eq, decide_true, decide_false, Bool.not_eq_true, Bool.not_eq_true', Bool.not_true, Bool.not_false, decide_eq_false_iff_not, Bool.false_eq_true, not_false_eq_true, not_true_eq_false, if_true, if_false, ↓reduceIte, eq_self, Option.bind_some, Bool.true_and, Bool.false_and, Bool.and_true, Bool.and_false, nI_add, nI_subN, nI_clamp, gdF, gdF2, gdP, gdP2, zI_cl, zI_s, Lm1, nI_n0, zI_n0, leF, or_false, false_or, or_self, h7, zI_in]
    rw [← hS1]
    simp (disch := omega) only [L0, L1, L2, L3, L4, L5, L6, L7, L8, L9, L10, L11, L12, L13, L16, L20, L31, L32, L40, L48, L57, L59, L60, L61, L91, L93, L97, L99, L100, L102, L103, L114, L122, L255, L300, L400, L402, L999, L2280, L2500, L99999, L63, L1431655765, L858993459, L252645135, ic_ge, ic_gt, ic_le, ic_lt, ic_eq, ic_ne, if_lt, if_ge, if_gt, if_le, if_eq, if_ne, if_lt_zI, if_ge_zI, ic_ne_m1, ic_eq_m1, ic_nn_m1, ic_ee_m1, if_ne_b2i, if_eq_b2i, b2i_z, decide_eq_true_eq, decide_true, decide_false, Bool.not_eq_true, Bool.not_eq_true', Bool.not_true, Bool.not_false, decide_eq_false_iff_not, Bool.false_eq_true, not_false_eq_true, not_true_eq_false, if_true, if_false, ↓reduceIte, eq_self, Option.bind_some, Bool.true_and, Bool.false_and, Bool.and_true, Bool.and_false, nI_add, nI_subN, nI_clamp, gdF, gdF2, gdP, gdP2, zI_cl, zI_s, Lm1, nI_n0, zI_n0, leF, or_false, false_or, or_self, e37, e14, nl]
    rcases hl with ⟨rfl, rfl⟩ | ⟨k0, l0, lN, hl⟩
    · simp (disch := omega) only [L0, L1, L2, L3, L4, L5, L6, L7, L8, L9, L10, L11, L12, L13, L16, L20, L31, L32, L40, L48, L57, L59, L60, L61, L91, L93, L97, L99, L100, L102, L103, L114, L122, L255, L300, L400, L402, L999, L2280, L2500, L99999, L63, L1431655765, L858993459, L252645135, ic_ge, ic_gt, ic_le, ic_lt, ic_eq, ic_ne, if_lt, if_ge, if_gt, if_le, if_eq, if_ne, if_lt_zI, if_ge_zI, ic_ne_m1, ic_eq_m1, ic_nn_m1, ic_ee_m1, if_ne_b2i, if_eq_b2i, b2i_z, decide_eq_true_eq, decide_true, decide_false, Bool.not_eq_true, Bool.not_eq_true', Bool.not_true, Bool.not_false, decide_eq_false_iff_not, Bool.false_eq_true, not_false_eq_true, not_true_eq_false, if_true, if_false, ↓reduceIte, eq_self, Option.bind_some, Bool.true_and, Bool.false_and, Bool.and_true, Bool.and_false, nI_add, nI_subN, nI_clamp, gdF, gdF2, gdP, gdP2, zI_cl, zI_s, Lm1, nI_n0, zI_n0, leF, or_false, false_or, or_self, m1_0, an_0]
      exact g
    · rw [if_neg k0] at g
      have e : S1.2.1 37 (k - 1) = nI (l - 1) := by rw [e37i _ (by omega)]; exact hl
      obtain ⟨k', rfl⟩ : ∃ k', k = k' + 1 := ⟨k - 1, by omega⟩
      rw [zI_s] at g
      rw [Nat.add_sub_cancel] at e
      simp (disch := omega) only [L0, L1, L2, L3, L4, L5, L6, L7, L8, L9, L10, L11, L12, L13, L16, L20, L31, L32, L40, L48, L57, L59, L60, L61, L91, L93, L97, L99, L100, L102, L103, L114, L122, L255, L300, L400, L402, L999, L2280, L2500, L99999, L63, L1431655765, L858993459, L252645135, ic_ge, ic_gt, ic_le, ic_lt, ic_eq, ic_ne, if_lt, if_ge, if_gt, if_le, if_eq, if_ne, if_lt_zI, if_ge_zI, ic_ne_m1, ic_eq_m1, ic_nn_m1, ic_ee_m1, if_ne_b2i, if_eq_b2i, b2i_z, decide_eq_true_eq, decide_true, decide_false, Bool.not_eq_true, Bool.not_eq_true', Bool.not_true, Bool.not_false, decide_eq_false_iff_not, Bool.false_eq_true, not_false_eq_true, not_true_eq_false, if_true, if_false, ↓reduceIte, eq_self, Option.bind_some, Bool.true_and, Bool.false_and, Bool.and_true, Bool.and_false, nI_add, nI_subN, nI_clamp, gdF, gdF2, gdP, gdP2, zI_cl, zI_s, Lm1, nI_n0, zI_n0, leF, or_false, false_or, or_self, m1_sub, Nat.add_sub_cancel, e, nI_shl, nI_dif]
      exact g
  | succ d ih =>
    intro x k l U c S hk hx h7 hl hU hc hF go
    obtain ⟨S1, hS1⟩ : ∃ S1, S1 = m_sA S 37 k (nI x) := ⟨_, rfl⟩
    have e37 : S1.2.1 37 k = nI x := by rw [hS1, m_rAe]
    have hF1 : FrR S0 S1 := by rw [hS1]; exact FrR_7 hF
    have e14 : S1.2.1 1 4 = nI N := by rw [hF1.2.2 1 (by decide) (by decide)]; exact H4
    have e11 : ∀ y, y < N → S1.2.1 11 y = nI (t y) := fun y hy => by rw [hF1.2.2 11 (by decide) (by decide)]; exact H11 y hy
    have e37i : ∀ i, i < k → S1.2.1 37 i = S.2.1 37 i := fun i hi => by rw [hS1, m_rAi (by omega)]
    have e38 : S1.2.1 38 = S.2.1 38 := by rw [hS1, m_rAn (by decide)]
    have hl1 : ((k = 0 ∧ l = 0) ∨ (k ≠ 0 ∧ l ≠ 0 ∧ l ≤ N ∧ S1.2.1 37 (k - 1) = nI (l - 1))) := by
      rcases hl with h | ⟨a, b, c, e⟩
      · exact Or.inl h
      · exact Or.inr ⟨a, b, c, by rw [e37i _ (by omega)]; exact e⟩
    have hsum : sF (stp t N m l (frU s U)) (d + 1) x = stp t N m l (frU s U) x + sF (stp t N m l (frU s U)) d (x + 1) := rfl
    rw [hsum] at hc go
    have hxl : x < N := by omega
    have hsx := Nat.lt_of_le_of_lt (Nat.and_le_left : s &&& U ≤ s) hs
    have hxor : s ^^^ (s &&& U) < 4096 := Nat.xor_lt_two_pow (n := 12) hs hsx
    have tx := isTx_lt (ht x hxl)
    have f9 := fstN_le (isTx_len (ht x hxl)).1
    have h199 := f199n (v := s ^^^ (s &&& U)) (s := x) (S := S1) (by omega) (by omega)
    rw [frU_tb] at h199
    have skip : stp t N m l (frU s U) x = 0 → Ep (fun n => F250f n 20 (nI s) (nI z) (nI c) (nI U) (nI k) S1) Q := by
      intro h0
      rw [h0, Nat.zero_add] at hc go
      refine ih (x + 1) k l U c S1 hk (by omega) (by rw [e37, zI_s]) hl1 hU hc hF1 (fun S' f1 f2 f3 => ?_)
      refine go S' f1 (fun i hi => (f2 i hi).trans (e37i i hi)) ⟨fun h => (f3.1 h).trans e38, fun h1 h2 => ?_⟩
      obtain ⟨q1, q2⟩ := f3.2 h1 h2
      refine ⟨fun i hi => (q1 i hi).trans (e37i i hi), fun j hj => ?_⟩
      rw [fox_skip h0]
      exact q2 j hj
    have last : m = 0 → stp t N m l (frU s U) x = 1 → ∀ S2, FrR S0 S2 → S2.2.1 37 = S1.2.1 37 → (c ≠ 0 → S2.2.1 38 = S1.2.1 38) → (c = 0 → ∀ j, j < 9 → S2.2.1 38 j = S1.2.1 37 j) → Ep (fun n => F250f n 20 (nI s) (nI z) (nI (c + 1)) (nI U) (nI k) S2) Q := by
      intro hm h1 S2 b1 b2 b3 b4
      rw [h1, ← Nat.add_assoc] at hc go
      refine ih (x + 1) k l U (c + 1) S2 hk (by omega) (by rw [b2, e37, zI_s]) (by rw [b2]; exact hl1) hU hc b1 (fun S' f1 f2 f3 => ?_)
      have f38 : S'.2.1 38 = S2.2.1 38 := f3.1 (Or.inl (by omega))
      refine go S' f1 (fun i hi => by rw [f2 i hi, b2]; exact e37i i hi) ⟨fun h => ?_, fun h2 h3 => ⟨fun i hi => ?_, fun j hj => ?_⟩⟩
      · rw [f38, b3 (by omega), e38]
      · rw [f38, b4 h2 i (by omega), e37i i hi]
      · have hj0 : j = 0 := by omega
        subst hj0
        rw [fox_hit (by omega), if_pos rfl, f38, b4 h2 _ (by omega)]
        exact e37
    have down : ∀ m', m = m' + 1 → (frU s U x && okF t l x) = true → Ep (fun n => F250f n 20 (nI s) (nI z) (nI c) (nI (U ||| 2 ^ x)) (nI (k + 1)) (m_sA S1 37 (k + 1) (zI 0))) Q := by
      intro m' hm hok
      have e1 : stp t N m l (frU s U) x = cwF t N m (x + 1) (frU s (U ||| 2 ^ x)) := by
        unfold stp
        rw [if_pos hok, frU_rm]
      have hux : U.testBit x = false := by
        rw [Bool.and_eq_true] at hok
        have := hok.1
        unfold frU at this
        rw [Bool.and_eq_true] at this
        simpa using this.2
      rw [e1] at hc
      obtain ⟨sub, hsub⟩ : ∃ sub, sub = cwF t N m (x + 1) (frU s (U ||| 2 ^ x)) := ⟨_, rfl⟩
      have hsub2 : sub = sF (stp t N m' (x + 1) (frU s (U ||| 2 ^ x))) N 0 := by rw [hsub, hm, cw_s]
      rw [e1, ← hsub] at go
      rw [← hsub] at hc e1
      refine up m' hm N 0 (k + 1) (x + 1) (U ||| 2 ^ x) c _ (by omega) (by omega) m_rAe (Or.inr ⟨by omega, by omega, by omega, ?_⟩) (or_lt (z := 12) hU (by omega)) (by rw [← hsub2]; omega) (FrR_7 hF1) (fun S' f1 f2 f3 => ?_)
      · rw [Nat.add_sub_cancel, m_rAi (by omega), Nat.add_sub_cancel]
        exact e37
      · rw [← hsub2] at f3 ⊢
        rw [if_neg (by omega), Nat.add_sub_cancel, frU_bk hux, zI_s]
        have g37 : ∀ i, i < k + 1 → S'.2.1 37 i = S1.2.1 37 i := fun i hi => by rw [f2 i hi, m_rAi (by omega)]
        have g38 : (m_sA S1 37 (k + 1) (zI 0)).2.1 38 = S1.2.1 38 := m_rAn (by decide)
        refine ih (x + 1) k l U (c + sub) S' hk (by omega) (by rw [g37 k (by omega), e37, zI_s]) ?_ hU (by omega) f1 (fun S2 a1 a2 a3 => ?_)
        · rcases hl1 with h | ⟨a, b, c, e⟩
          · exact Or.inl h
          · exact Or.inr ⟨a, b, c, by rw [g37 _ (by omega)]; exact e⟩
        · rw [Nat.add_assoc]
          refine go S2 a1 (fun i hi => by rw [a2 i hi, g37 i (by omega)]; exact e37i i hi) ⟨fun h => ?_, fun h1 h2 => ?_⟩
          · have q1 := f3.1 (by omega)
            have q2 := a3.1 (by omega)
            rw [q2, q1, g38, e38]
          · by_cases h0 : sub = 0
            · have q1 := f3.1 (Or.inr h0)
              obtain ⟨q2, q3⟩ := a3.2 (by omega) (by omega)
              refine ⟨fun i hi => by rw [q2 i hi, g37 i (by omega)]; exact e37i i hi, fun j hj => ?_⟩
              rw [fox_skip (by rw [e1]; exact h0)]
              exact q3 j hj
            · obtain ⟨q1, q2⟩ := f3.2 h1 h0
              have q3 := a3.1 (Or.inl (by omega))
              refine ⟨fun i hi => ?_, fun j hj => ?_⟩
              · rw [q3, q1 i (by omega), m_rAi (by omega)]
                exact e37i i hi
              · rw [fox_hit (by rw [e1]; exact h0)]
                by_cases hj0 : j = 0
                · subst hj0
                  rw [if_pos rfl, q3, q1 _ (by omega), m_rAi (by omega)]
                  exact e37
                · obtain ⟨j', rfl⟩ : ∃ j', j = j' + 1 := ⟨j - 1, by omega⟩
                  rw [if_neg hj0, q3, show k + (j' + 1) = k + 1 + j' by omega, q2 j' (by omega), Nat.add_sub_cancel, ← frU_rm, hm]
                  rfl
    refine ep_succ (fun n => F250e20 n ..) ?_
    have cb : c < 2 ^ 31 := by omega
    have kz : (m = 0 ∧ k = z - 1) ∨ (∃ m', m = m' + 1 ∧ ¬ k = z - 1) := by
      cases m with
      | zero => exact Or.inl ⟨rfl, by omega⟩
      | succ m' => exact Or.inr ⟨m', rfl, by omega⟩
    simp (disch := omega) only [F250b20, L0, L1, L2, L3, L4, L5, L6, L7, L8, L9, L10, L11, L12, L13, L16, L20, L31, L32, L40, L48, L57, L59, L60, L61, L91, L93, L97, L99, L100, L102, L103, L114, L122, L255, L300, L400, L402, L999, L2280, L2500, L99999, L63, L1431655765, L858993459, L252645135, ic_ge, ic_gt, ic_le, ic_lt, ic_eq, ic_ne, if_lt, if_ge, if_gt, if_le, if_eq, if_ne, if_lt_zI, if_ge_zI, ic_ne_m1, ic_eq_m1, ic_nn_m1, ic_ee_m1, if_ne_b2i, if_eq_b2i, b2i_z, decide_eq_true_eq, decide_true, decide_false, Bool.not_eq_true, Bool.not_eq_true', Bool.not_true, Bool.not_false, decide_eq_false_iff_not, Bool.false_eq_true, not_false_eq_true, not_true_eq_false, if_true, if_false, ↓reduceIte, eq_self, Option.bind_some, Bool.true_and, Bool.false_and, Bool.and_true, Bool.and_false, nI_add, nI_subN, nI_clamp, gdF, gdF2, gdP, gdP2, zI_cl, zI_s, Lm1, nI_n0, zI_n0, leF, or_false, false_or, or_self, h7, zI_in]
    rw [← hS1]
    simp (disch := omega) only [L0, L1, L2, L3, L4, L5, L6, L7, L8, L9, L10, L11, L12, L13, L16, L20, L31, L32, L40, L48, L57, L59, L60, L61, L91, L93, L97, L99, L100, L102, L103, L114, L122, L255, L300, L400, L402, L999, L2280, L2500, L99999, L63, L1431655765, L858993459, L252645135, ic_ge, ic_gt, ic_le, ic_lt, ic_eq, ic_ne, if_lt, if_ge, if_gt, if_le, if_eq, if_ne, if_lt_zI, if_ge_zI, ic_ne_m1, ic_eq_m1, ic_nn_m1, ic_ee_m1, if_ne_b2i, if_eq_b2i, b2i_z, decide_eq_true_eq, decide_true, decide_false, Bool.not_eq_true, Bool.not_eq_true', Bool.not_true, Bool.not_false, decide_eq_false_iff_not, Bool.false_eq_true, not_false_eq_true, not_true_eq_false, if_true, if_false, ↓reduceIte, eq_self, Option.bind_some, Bool.true_and, Bool.false_and, Bool.and_true, Bool.and_false, nI_add, nI_subN, nI_clamp, gdF, gdF2, gdP, gdP2, zI_cl, zI_s, Lm1, nI_n0, zI_n0, leF, or_false, false_or, or_self, e37, e14, hxl, nI_dif]
    refine ep_bv h199 ?_
    by_cases hf : frU s U x = true
    · rcases hl1 with ⟨rfl, rfl⟩ | ⟨k0, l0, lN, hl⟩
      · have ok0 : okF t 0 x = true := rfl
        rcases kz with ⟨m0, kz⟩ | ⟨m', hm', kz⟩
        · have es : stp t N m 0 (frU s U) x = 1 := by
            unfold stp
            rw [if_pos (by rw [hf, ok0]; rfl), m0]
            rfl
          have kz' : z - 1 = 0 := kz.symm
          by_cases c0 : c = 0
          · simp (disch := omega) only [L0, L1, L2, L3, L4, L5, L6, L7, L8, L9, L10, L11, L12, L13, L16, L20, L31, L32, L40, L48, L57, L59, L60, L61, L91, L93, L97, L99, L100, L102, L103, L114, L122, L255, L300, L400, L402, L999, L2280, L2500, L99999, L63, L1431655765, L858993459, L252645135, ic_ge, ic_gt, ic_le, ic_lt, ic_eq, ic_ne, if_lt, if_ge, if_gt, if_le, if_eq, if_ne, if_lt_zI, if_ge_zI, ic_ne_m1, ic_eq_m1, ic_nn_m1, ic_ee_m1, if_ne_b2i, if_eq_b2i, b2i_z, decide_eq_true_eq, decide_true, decide_false, Bool.not_eq_true, Bool.not_eq_true', Bool.not_true, Bool.not_false, decide_eq_false_iff_not, Bool.false_eq_true, not_false_eq_true, not_true_eq_false, if_true, if_false, ↓reduceIte, eq_self, Option.bind_some, Bool.true_and, Bool.false_and, Bool.and_true, Bool.and_false, nI_add, nI_subN, nI_clamp, gdF, gdF2, gdP, gdP2, zI_cl, zI_s, Lm1, nI_n0, zI_n0, leF, or_false, false_or, or_self, hf, kz', c0]
            refine ep_bind f179 ?_
            rintro ⟨_, S2⟩ ⟨b1, b2, b3⟩
            have := last m0 es S2 (FrR_tr hF1 b1) b2 (fun h => absurd c0 h) (fun _ => b3)
            rw [c0] at this
            exact this
          · simp (disch := omega) only [L0, L1, L2, L3, L4, L5, L6, L7, L8, L9, L10, L11, L12, L13, L16, L20, L31, L32, L40, L48, L57, L59, L60, L61, L91, L93, L97, L99, L100, L102, L103, L114, L122, L255, L300, L400, L402, L999, L2280, L2500, L99999, L63, L1431655765, L858993459, L252645135, ic_ge, ic_gt, ic_le, ic_lt, ic_eq, ic_ne, if_lt, if_ge, if_gt, if_le, if_eq, if_ne, if_lt_zI, if_ge_zI, ic_ne_m1, ic_eq_m1, ic_nn_m1, ic_ee_m1, if_ne_b2i, if_eq_b2i, b2i_z, decide_eq_true_eq, decide_true, decide_false, Bool.not_eq_true, Bool.not_eq_true', Bool.not_true, Bool.not_false, decide_eq_false_iff_not, Bool.false_eq_true, not_false_eq_true, not_true_eq_false, if_true, if_false, ↓reduceIte, eq_self, Option.bind_some, Bool.true_and, Bool.false_and, Bool.and_true, Bool.and_false, nI_add, nI_subN, nI_clamp, gdF, gdF2, gdP, gdP2, zI_cl, zI_s, Lm1, nI_n0, zI_n0, leF, or_false, false_or, or_self, hf, kz', c0]
            have := last m0 es S1 hF1 rfl (fun _ => rfl) (fun h => absurd h c0)
            exact this
        · simp (disch := omega) only [L0, L1, L2, L3, L4, L5, L6, L7, L8, L9, L10, L11, L12, L13, L16, L20, L31, L32, L40, L48, L57, L59, L60, L61, L91, L93, L97, L99, L100, L102, L103, L114, L122, L255, L300, L400, L402, L999, L2280, L2500, L99999, L63, L1431655765, L858993459, L252645135, ic_ge, ic_gt, ic_le, ic_lt, ic_eq, ic_ne, if_lt, if_ge, if_gt, if_le, if_eq, if_ne, if_lt_zI, if_ge_zI, ic_ne_m1, ic_eq_m1, ic_nn_m1, ic_ee_m1, if_ne_b2i, if_eq_b2i, b2i_z, decide_eq_true_eq, decide_true, decide_false, Bool.not_eq_true, Bool.not_eq_true', Bool.not_true, Bool.not_false, decide_eq_false_iff_not, Bool.false_eq_true, not_false_eq_true, not_true_eq_false, if_true, if_false, ↓reduceIte, eq_self, Option.bind_some, Bool.true_and, Bool.false_and, Bool.and_true, Bool.and_false, nI_add, nI_subN, nI_clamp, gdF, gdF2, gdP, gdP2, zI_cl, zI_s, Lm1, nI_n0, zI_n0, leF, or_false, false_or, or_self, hf, kz, e37, nI_shl, nx_or]
          exact down m' hm' (by rw [hf, ok0]; rfl)
      · have e2 : okF t l x = decide (t (l - 1) % 10 = fstN (t x)) := by
          unfold okF
          rw [decide_eq_false l0, Bool.false_or]
        have ty := isTx_lt (ht (l - 1) (by omega))
        have r1 := e11 (l - 1) (by omega)
        have r2 := e11 x hxl
        obtain ⟨k', rfl⟩ : ∃ k', k = k' + 1 := ⟨k - 1, by omega⟩
        rw [Nat.add_sub_cancel] at hl
        have h221 := f221 (r := t x) (by omega) S1
        have nk : ¬ k' + 1 = 0 := by omega
        simp (disch := omega) only [L0, L1, L2, L3, L4, L5, L6, L7, L8, L9, L10, L11, L12, L13, L16, L20, L31, L32, L40, L48, L57, L59, L60, L61, L91, L93, L97, L99, L100, L102, L103, L114, L122, L255, L300, L400, L402, L999, L2280, L2500, L99999, L63, L1431655765, L858993459, L252645135, ic_ge, ic_gt, ic_le, ic_lt, ic_eq, ic_ne, if_lt, if_ge, if_gt, if_le, if_eq, if_ne, if_lt_zI, if_ge_zI, ic_ne_m1, ic_eq_m1, ic_nn_m1, ic_ee_m1, if_ne_b2i, if_eq_b2i, b2i_z, decide_eq_true_eq, decide_true, decide_false, Bool.not_eq_true, Bool.not_eq_true', Bool.not_true, Bool.not_false, decide_eq_false_iff_not, Bool.false_eq_true, not_false_eq_true, not_true_eq_false, if_true, if_false, ↓reduceIte, eq_self, Option.bind_some, Bool.true_and, Bool.false_and, Bool.and_true, Bool.and_false, nI_add, nI_subN, nI_clamp, gdF, gdF2, gdP, gdP2, zI_cl, zI_s, Lm1, nI_n0, zI_n0, leF, or_false, false_or, or_self, hf, nk, hl, Nat.add_sub_cancel, e37, r1, r2, nI_p10, nI_r10]
        refine ep_bv h221 ?_
        by_cases he : t (l - 1) % 10 = fstN (t x)
        · have ok1 : (frU s U x && okF t l x) = true := by
            rw [hf, e2, decide_eq_true he]
            rfl
          rcases kz with ⟨m0, kz⟩ | ⟨m', hm', kz⟩
          · have es : stp t N m l (frU s U) x = 1 := by
              unfold stp
              rw [if_pos ok1, m0]
              rfl
            by_cases c0 : c = 0
            · simp (disch := omega) only [L0, L1, L2, L3, L4, L5, L6, L7, L8, L9, L10, L11, L12, L13, L16, L20, L31, L32, L40, L48, L57, L59, L60, L61, L91, L93, L97, L99, L100, L102, L103, L114, L122, L255, L300, L400, L402, L999, L2280, L2500, L99999, L63, L1431655765, L858993459, L252645135, ic_ge, ic_gt, ic_le, ic_lt, ic_eq, ic_ne, if_lt, if_ge, if_gt, if_le, if_eq, if_ne, if_lt_zI, if_ge_zI, ic_ne_m1, ic_eq_m1, ic_nn_m1, ic_ee_m1, if_ne_b2i, if_eq_b2i, b2i_z, decide_eq_true_eq, decide_true, decide_false, Bool.not_eq_true, Bool.not_eq_true', Bool.not_true, Bool.not_false, decide_eq_false_iff_not, Bool.false_eq_true, not_false_eq_true, not_true_eq_false, if_true, if_false, ↓reduceIte, eq_self, Option.bind_some, Bool.true_and, Bool.false_and, Bool.and_true, Bool.and_false, nI_add, nI_subN, nI_clamp, gdF, gdF2, gdP, gdP2, zI_cl, zI_s, Lm1, nI_n0, zI_n0, leF, or_false, false_or, or_self, he, kz, c0]
              refine ep_bind f179 ?_
              rintro ⟨_, S2⟩ ⟨b1, b2, b3⟩
              have := last m0 es S2 (FrR_tr hF1 b1) b2 (fun h => absurd c0 h) (fun _ => b3)
              rw [c0, kz] at this
              exact this
            · simp (disch := omega) only [L0, L1, L2, L3, L4, L5, L6, L7, L8, L9, L10, L11, L12, L13, L16, L20, L31, L32, L40, L48, L57, L59, L60, L61, L91, L93, L97, L99, L100, L102, L103, L114, L122, L255, L300, L400, L402, L999, L2280, L2500, L99999, L63, L1431655765, L858993459, L252645135, ic_ge, ic_gt, ic_le, ic_lt, ic_eq, ic_ne, if_lt, if_ge, if_gt, if_le, if_eq, if_ne, if_lt_zI, if_ge_zI, ic_ne_m1, ic_eq_m1, ic_nn_m1, ic_ee_m1, if_ne_b2i, if_eq_b2i, b2i_z, decide_eq_true_eq, decide_true, decide_false, Bool.not_eq_true, Bool.not_eq_true', Bool.not_true, Bool.not_false, decide_eq_false_iff_not, Bool.false_eq_true, not_false_eq_true, not_true_eq_false, if_true, if_false, ↓reduceIte, eq_self, Option.bind_some, Bool.true_and, Bool.false_and, Bool.and_true, Bool.and_false, nI_add, nI_subN, nI_clamp, gdF, gdF2, gdP, gdP2, zI_cl, zI_s, Lm1, nI_n0, zI_n0, leF, or_false, false_or, or_self, he, kz, c0]
              have := last m0 es S1 hF1 rfl (fun _ => rfl) (fun h => absurd h c0)
              rw [kz] at this
              exact this
          · simp (disch := omega) only [L0, L1, L2, L3, L4, L5, L6, L7, L8, L9, L10, L11, L12, L13, L16, L20, L31, L32, L40, L48, L57, L59, L60, L61, L91, L93, L97, L99, L100, L102, L103, L114, L122, L255, L300, L400, L402, L999, L2280, L2500, L99999, L63, L1431655765, L858993459, L252645135, ic_ge, ic_gt, ic_le, ic_lt, ic_eq, ic_ne, if_lt, if_ge, if_gt, if_le, if_eq, if_ne, if_lt_zI, if_ge_zI, ic_ne_m1, ic_eq_m1, ic_nn_m1, ic_ee_m1, if_ne_b2i, if_eq_b2i, b2i_z, decide_eq_true_eq, decide_true, decide_false, Bool.not_eq_true, Bool.not_eq_true', Bool.not_true, Bool.not_false, decide_eq_false_iff_not, Bool.false_eq_true, not_false_eq_true, not_true_eq_false, if_true, if_false, ↓reduceIte, eq_self, Option.bind_some, Bool.true_and, Bool.false_and, Bool.and_true, Bool.and_false, nI_add, nI_subN, nI_clamp, gdF, gdF2, gdP, gdP2, zI_cl, zI_s, Lm1, nI_n0, zI_n0, leF, or_false, false_or, or_self, he, kz, e37, nI_shl, nx_or]
            exact down m' hm' ok1
        · simp (disch := omega) only [L0, L1, L2, L3, L4, L5, L6, L7, L8, L9, L10, L11, L12, L13, L16, L20, L31, L32, L40, L48, L57, L59, L60, L61, L91, L93, L97, L99, L100, L102, L103, L114, L122, L255, L300, L400, L402, L999, L2280, L2500, L99999, L63, L1431655765, L858993459, L252645135, ic_ge, ic_gt, ic_le, ic_lt, ic_eq, ic_ne, if_lt, if_ge, if_gt, if_le, if_eq, if_ne, if_lt_zI, if_ge_zI, ic_ne_m1, ic_eq_m1, ic_nn_m1, ic_ee_m1, if_ne_b2i, if_eq_b2i, b2i_z, decide_eq_true_eq, decide_true, decide_false, Bool.not_eq_true, Bool.not_eq_true', Bool.not_true, Bool.not_false, decide_eq_false_iff_not, Bool.false_eq_true, not_false_eq_true, not_true_eq_false, if_true, if_false, ↓reduceIte, eq_self, Option.bind_some, Bool.true_and, Bool.false_and, Bool.and_true, Bool.and_false, nI_add, nI_subN, nI_clamp, gdF, gdF2, gdP, gdP2, zI_cl, zI_s, Lm1, nI_n0, zI_n0, leF, or_false, false_or, or_self, he]
          refine skip (if_neg (fun h => ?_))
          rw [hf, e2, decide_eq_false he] at h
          exact absurd h (by decide)
    · have hf' := Bool.eq_false_iff.mpr hf
      simp (disch := omega) only [L0, L1, L2, L3, L4, L5, L6, L7, L8, L9, L10, L11, L12, L13, L16, L20, L31, L32, L40, L48, L57, L59, L60, L61, L91, L93, L97, L99, L100, L102, L103, L114, L122, L255, L300, L400, L402, L999, L2280, L2500, L99999, L63, L1431655765, L858993459, L252645135, ic_ge, ic_gt, ic_le, ic_lt, ic_eq, ic_ne, if_lt, if_ge, if_gt, if_le, if_eq, if_ne, if_lt_zI, if_ge_zI, ic_ne_m1, ic_eq_m1, ic_nn_m1, ic_ee_m1, if_ne_b2i, if_eq_b2i, b2i_z, decide_eq_true_eq, decide_true, decide_false, Bool.not_eq_true, Bool.not_eq_true', Bool.not_true, Bool.not_false, decide_eq_false_iff_not, Bool.false_eq_true, not_false_eq_true, not_true_eq_false, if_true, if_false, ↓reduceIte, eq_self, Option.bind_some, Bool.true_and, Bool.false_and, Bool.and_true, Bool.and_false, nI_add, nI_subN, nI_clamp, gdF, gdF2, gdP, gdP2, zI_cl, zI_s, Lm1, nI_n0, zI_n0, leF, or_false, false_or, or_self, hf']
      refine skip (if_neg (fun h => ?_))
      rw [hf', Bool.false_and] at h
      exact absurd h (by decide)
theorem f250a (hN : N ≤ 12) (hz : z ≤ 8) (hs : s < 4096) (ht : ∀ x, x < N → isTx (t x) = true) (H4 : S0.2.1 1 4 = nI N) (H11 : ∀ x, x < N → S0.2.1 11 x = nI (t x)) : ∀ m, Lev S0 t s N z Q m
  | 0 => f250s hN hz hs ht H4 H11 (fun m' h => by omega)
  | m + 1 => f250s hN hz hs ht H4 H11 (fun m' h => by
    have : m' = m := by omega
    rw [this]
    exact f250a hN hz hs ht H4 H11 m)
end F250
