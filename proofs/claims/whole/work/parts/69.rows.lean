/-! rows: orders, counted and the first; the program -/
def sF (g : Nat → Nat) : Nat → Nat → Nat
  | 0, _ => 0
  | m + 1, j => g j + sF g m (j + 1)
def rmF (fr : Nat → Bool) (x : Nat) : Nat → Bool := fun y => fr y && !decide (y = x)
def okF (t : Nat → Nat) (l x : Nat) : Bool := decide (l = 0) || decide (t (l - 1) % 10 = fstN (t x))
def cwF (t : Nat → Nat) (N : Nat) : Nat → Nat → (Nat → Bool) → Nat
  | 0, _, _ => 1
  | m + 1, l, fr => sF (fun x => if (fr x && okF t l x) = true then cwF t N m (x + 1) (rmF fr x) else 0) N 0
def stp (t : Nat → Nat) (N m l : Nat) (fr : Nat → Bool) (x : Nat) : Nat := if (fr x && okF t l x) = true then cwF t N m (x + 1) (rmF fr x) else 0
def fxF (t : Nat → Nat) (N m l : Nat) (fr : Nat → Bool) (k x : Nat) : Option Nat := fsF (fun x => !decide (stp t N m l fr x = 0)) k x
def foF (t : Nat → Nat) (N : Nat) : Nat → Nat → (Nat → Bool) → Nat → Nat
  | 0, _, _, _ => 0
  | m + 1, l, fr, p => (fxF t N m l fr N 0).elim 0 (fun x => if p = 0 then x else foF t N m (x + 1) (rmF fr x) (p - 1))
theorem cw_s {t : Nat → Nat} {N m l : Nat} {fr : Nat → Bool} : cwF t N (m + 1) l fr = sF (stp t N m l fr) N 0 := rfl
theorem sF_le {g : Nat → Nat} {B : Nat} (h : ∀ i, g i ≤ B) : ∀ m j, sF g m j ≤ m * B
  | 0, _ => by rw [Nat.zero_mul]; exact Nat.le_refl _
  | m + 1, j => by
    have := sF_le h m (j + 1)
    have := h j
    show g j + sF g m (j + 1) ≤ _
    rw [Nat.succ_mul]
    omega
theorem cw_le {t : Nat → Nat} {N : Nat} : ∀ m l fr, cwF t N m l fr ≤ N ^ m
  | 0, _, _ => by rw [Nat.pow_zero]; exact Nat.le_refl _
  | m + 1, l, fr => by
    rw [cw_s, Nat.pow_succ, Nat.mul_comm]
    refine sF_le (fun i => ?_) N 0
    unfold stp
    split
    · exact cw_le m _ _
    · exact Nat.zero_le _
theorem cw_b {t : Nat → Nat} {N m l : Nat} {fr : Nat → Bool} (hN : N ≤ 12) (hm : m ≤ 8) : cwF t N m l fr < 2 ^ 30 := by
  have h1 := cw_le (t := t) (N := N) m l fr
  have h2 : N ^ m ≤ 12 ^ m := Nat.pow_le_pow_left hN m
  have h3 : (12 : Nat) ^ m ≤ 12 ^ 8 := Nat.pow_le_pow_right (by decide) hm
  have h4 : (12 : Nat) ^ 8 < 2 ^ 30 := by decide
  omega
theorem stp_b {t : Nat → Nat} {N m l x : Nat} {fr : Nat → Bool} (hN : N ≤ 12) (hm : m ≤ 8) : stp t N m l fr x < 2 ^ 30 := by
  unfold stp
  split
  · exact cw_b hN hm
  · decide
theorem sF_0 {g : Nat → Nat} : ∀ m j, sF g m j = 0 ↔ ∀ i, j ≤ i → i < j + m → g i = 0
  | 0, j => ⟨fun _ i a b => by omega, fun _ => rfl⟩
  | m + 1, j => by
    show g j + sF g m (j + 1) = 0 ↔ _
    have ih := sF_0 (g := g) m (j + 1)
    constructor
    · intro h i a b
      by_cases e : i = j
      · rw [e]
        omega
      · exact ih.mp (by omega) i (by omega) (by omega)
    · intro h
      have h1 := h j (Nat.le_refl _) (by omega)
      have h2 := ih.mpr (fun i a b => h i (by omega) (by omega))
      omega
/-- if there is an order, there is a first step -/
theorem fx_some {t : Nat → Nat} {N m l : Nat} {fr : Nat → Bool} (h : cwF t N (m + 1) l fr ≠ 0) : ∃ x, x < N ∧ fxF t N m l fr N 0 = some x ∧ fr x = true ∧ okF t l x = true ∧ cwF t N m (x + 1) (rmF fr x) ≠ 0 := by
  rcases fs_is (P := fun x => !decide (stp t N m l fr x = 0)) N 0 with ⟨_, h2⟩ | ⟨x, h1, _, h3, h4, _⟩
  · refine absurd ((sF_0 N 0).mpr (fun i a b => ?_)) h
    have h5 : (!decide (stp t N m l fr i = 0)) = false := h2 i a b
    have h6 : stp t N m l fr i = 0 := by simpa using h5
    exact h6
  · have h4 : stp t N m l fr x ≠ 0 := by simpa using h4
    unfold stp at h4
    by_cases hc : (fr x && okF t l x) = true
    · rw [if_pos hc] at h4
      rw [Bool.and_eq_true] at hc
      exact ⟨x, by omega, h1, hc.1, hc.2, h4⟩
    · rw [if_neg hc] at h4
      exact absurd rfl h4
theorem fx_none {t : Nat → Nat} {N m l : Nat} {fr : Nat → Bool} (h : cwF t N (m + 1) l fr = 0) : fxF t N m l fr N 0 = none := by
  refine fs_none N 0 (fun i a b => ?_)
  have h1 : stp t N m l fr i = 0 := (sF_0 N 0).mp h i a b
  rw [decide_eq_true h1]
  rfl
/-! ranks -/
def rkN (s x : Nat) : Nat := ctF s.testBit x 0
def lrN (s l : Nat) : Nat := if l = 0 then 0 else rkN s (l - 1) + 1
def frL (s L : Nat) : Nat → Bool := fun x => s.testBit x && !L.testBit (rkN s x)
section Rk
variable {s N : Nat}
theorem rk_s {x : Nat} (h : s.testBit x = true) : rkN s (x + 1) = rkN s x + 1 := by
  unfold rkN
  rw [ctF_s1, if_pos h]
theorem rk_n {x : Nat} (h : ¬ s.testBit x = true) : rkN s (x + 1) = rkN s x := by
  unfold rkN
  rw [ctF_s1, if_neg h, Nat.add_zero]
theorem rk_mono {x y : Nat} (h : x ≤ y) : rkN s x ≤ rkN s y := by
  obtain ⟨d, rfl⟩ : ∃ d, y = x + d := ⟨y - x, by omega⟩
  unfold rkN
  rw [ctF_add]
  omega
theorem rk_lt {x y : Nat} (h : x < y) (hx : s.testBit x = true) : rkN s x < rkN s y := by
  have h1 := rk_s hx
  have h2 := rk_mono (s := s) (show x + 1 ≤ y by omega)
  omega
theorem rk_inj {x y : Nat} (hx : s.testBit x = true) (hy : s.testBit y = true) (h : rkN s x = rkN s y) : x = y := by
  rcases Nat.lt_trichotomy x y with h1 | h1 | h1
  · have := rk_lt h1 hx
    omega
  · exact h1
  · have := rk_lt h1 hy
    omega
theorem rk_sur : ∀ (N j : Nat), j < rkN s N → ∃ x, x < N ∧ s.testBit x = true ∧ rkN s x = j
  | 0, j, h => by
    have : rkN s 0 = 0 := rfl
    omega
  | N + 1, j, h => by
    by_cases hs : s.testBit N = true
    · rw [rk_s hs] at h
      by_cases e : j = rkN s N
      · exact ⟨N, by omega, hs, e.symm⟩
      · obtain ⟨x, h1, h2, h3⟩ := rk_sur N j (by omega)
        exact ⟨x, by omega, h2, h3⟩
    · rw [rk_n hs] at h
      obtain ⟨x, h1, h2, h3⟩ := rk_sur N j h
      exact ⟨x, by omega, h2, h3⟩
theorem lr_s {x : Nat} : lrN s (x + 1) = rkN s x + 1 := by
  unfold lrN
  rw [if_neg (by omega), Nat.add_sub_cancel]
theorem lr_0 : lrN s 0 = 0 := rfl
theorem frL_rm {L y : Nat} (hy : s.testBit y = true) : frL s (L ||| 2 ^ rkN s y) = rmF (frL s L) y := by
  funext x
  show (s.testBit x && !(L ||| 2 ^ rkN s y).testBit (rkN s x)) = ((s.testBit x && !L.testBit (rkN s x)) && !decide (x = y))
  rw [Nat.testBit_or, Nat.testBit_two_pow]
  by_cases hx : s.testBit x = true
  · rw [hx, Bool.true_and, Bool.true_and, Bool.not_or]
    congr 2
    refine decide_eq_decide.mpr ⟨fun e => (rk_inj hy hx e).symm, fun e => by rw [e]⟩
  · rw [Bool.eq_false_iff.mpr hx, Bool.false_and, Bool.false_and, Bool.false_and]
theorem frL_0 : frL s 0 = s.testBit := by
  funext x
  unfold frL
  rw [Nat.zero_testBit, Bool.not_false, Bool.and_true]
theorem frL_ct {L y : Nat} (hy : s.testBit y = true) (hN : y < N) (hf : frL s L y = true) : ctF (frL s L) N 0 = ctF (frL s (L ||| 2 ^ rkN s y)) N 0 + 1 := by
  rw [frL_rm hy]
  refine ctF_up N 0 (Nat.zero_le _) (by omega) (fun i hi => ?_) ?_ hf
  · unfold rmF
    rw [decide_eq_false hi, Bool.not_false, Bool.and_true]
  · unfold rmF
    rw [decide_eq_true rfl, Bool.not_true, Bool.and_false]
theorem or_lt {L r z : Nat} (hL : L < 2 ^ z) (hr : r < z) : L ||| 2 ^ r < 2 ^ z := Nat.or_lt_two_pow hL (Nat.pow_lt_pow_right (by decide) hr)
theorem or_gt {L r : Nat} (h : L.testBit r = false) : L < L ||| 2 ^ r := by
  refine Nat.lt_of_le_of_ne Nat.left_le_or (fun e => ?_)
  have := congrArg (fun y => y.testBit r) e
  simp only [Nat.testBit_or, Nat.testBit_two_pow_self, h, Bool.or_true] at this
  exact absurd this (by decide)
end Rk
/-- what the program lays -/
def OR (T : xS) (t : Nat → Nat) (s N : Nat) : Prop := T.1 125 4 = nI (rkN s N) ∧ ∀ x, x < N → s.testBit x = true → T.2.1 126 (rkN s x) = nI x ∧ T.2.1 127 (rkN s x) = nI (fstN (t x)) ∧ T.2.1 128 (rkN s x) = nI (t x % 10)
def FrO (T T' : xS) : Prop := (∀ q, (q < 125 ∨ 129 < q) → T'.1 q = T.1 q ∧ T'.2.1 q = T.2.1 q) ∧ T'.2.2 = T.2.2
theorem FrO_rf {T : xS} : FrO T T := ⟨fun _ _ => ⟨rfl, rfl⟩, rfl⟩
theorem FrO_A {T0 T : xS} {p j : Nat} {x : Int32} (h : FrO T0 T) (hp : 125 ≤ p ∧ p ≤ 129) : FrO T0 (x_sA T p j x) := ⟨fun q hq => ⟨(h.1 q hq).1, by rw [x_rAn (by omega)]; exact (h.1 q hq).2⟩, h.2⟩
theorem FrO_I {T0 T : xS} {j : Nat} {x : Int32} (h : FrO T0 T) : FrO T0 (x_sI T 125 j x) := ⟨fun q hq => ⟨by rw [x_rIn (by omega)]; exact (h.1 q hq).1, (h.1 q hq).2⟩, h.2⟩
section Pr
variable {t : Nat → Nat} {s N : Nat}
theorem g129 {T : xS} {L l x : Nat} (h : OR T t s N) (hN : N ≤ 12) (hz : rkN s N ≤ 8) (hs : ∀ x, s.testBit x = true → x < N) (ht : ∀ x, x < N → isTx (t x) = true) (hL : L < 256) (hl : l = 0 ∨ s.testBit (l - 1) = true) (hx : s.testBit x = true) : Ev (fun n => G129 n (nI L) (zI (lrN s l)) (nI (rkN s x)) T) (b2i (frL s L x && okF t l x), T) := by
  have hxN := hs x hx
  have hr := rk_lt hxN hx
  refine ev_succ (fun n => G129e0 n ..) ?_
  have e1 : frL s L x = !L.testBit (rkN s x) := by
    unfold frL
    rw [hx, Bool.true_and]
  rw [e1]
  have r3 := (h.2 x hxN hx).2.1
  have f9 := fstN_le (isTx_len (ht x hxN)).1
  by_cases hb : L.testBit (rkN s x) = true
  · simp (disch := omega) only [G129b0, L0, L1, L2, L3, L4, L5, L6, L7, L8, L9, L10, L11, L12, L13, L16, L20, L31, L32, L40, L48, L57, L59, L60, L61, L91, L93, L97, L99, L100, L102, L103, L114, L122, L255, L300, L400, L402, L999, L2280, L2500, L99999, L63, L1431655765, L858993459, L252645135, ic_ge, ic_gt, ic_le, ic_lt, ic_eq, ic_ne, if_lt, if_ge, if_gt, if_le, if_eq, if_ne, if_lt_zI, if_ge_zI, ic_ne_m1, ic_eq_m1, ic_nn_m1, ic_ee_m1, if_ne_b2i, if_eq_b2i, b2i_z, decide_eq_true_eq, decide_true, decide_false, Bool.not_eq_true, Bool.not_eq_true', Bool.not_true, Bool.not_false, decide_eq_false_iff_not, Bool.false_eq_true, not_false_eq_true, not_true_eq_false, if_true, if_false, ↓reduceIte, eq_self, Option.bind_some, Bool.true_and, Bool.false_and, Bool.and_true, Bool.and_false, nI_add, nI_subN, nI_clamp, gdF, gdF2, gdP, gdP2, zI_cl, zI_s, Lm1, nI_n0, zI_n0, leF, or_false, false_or, or_self, nI_bit, hb]
    exact ev_ret
  · have hb := Bool.eq_false_iff.mpr hb
    rcases Nat.eq_zero_or_pos l with rfl | hp
    · simp (disch := omega) only [G129b0, L0, L1, L2, L3, L4, L5, L6, L7, L8, L9, L10, L11, L12, L13, L16, L20, L31, L32, L40, L48, L57, L59, L60, L61, L91, L93, L97, L99, L100, L102, L103, L114, L122, L255, L300, L400, L402, L999, L2280, L2500, L99999, L63, L1431655765, L858993459, L252645135, ic_ge, ic_gt, ic_le, ic_lt, ic_eq, ic_ne, if_lt, if_ge, if_gt, if_le, if_eq, if_ne, if_lt_zI, if_ge_zI, ic_ne_m1, ic_eq_m1, ic_nn_m1, ic_ee_m1, if_ne_b2i, if_eq_b2i, b2i_z, decide_eq_true_eq, decide_true, decide_false, Bool.not_eq_true, Bool.not_eq_true', Bool.not_true, Bool.not_false, decide_eq_false_iff_not, Bool.false_eq_true, not_false_eq_true, not_true_eq_false, if_true, if_false, ↓reduceIte, eq_self, Option.bind_some, Bool.true_and, Bool.false_and, Bool.and_true, Bool.and_false, nI_add, nI_subN, nI_clamp, gdF, gdF2, gdP, gdP2, zI_cl, zI_s, Lm1, nI_n0, zI_n0, leF, or_false, false_or, or_self, nI_bit, hb, lr_0]
      exact ev_ret
    · obtain ⟨y, rfl⟩ : ∃ y, l = y + 1 := ⟨l - 1, by omega⟩
      have hy : s.testBit y = true := by
        rcases hl with hl | hl
        · omega
        · exact hl
      have hyN := hs y hy
      have hry := rk_lt hyN hy
      have r2 := (h.2 y hyN hy).2.2
      have e2 : okF t (y + 1) x = decide (t y % 10 = fstN (t x)) := by
        unfold okF
        rw [decide_eq_false (by omega), Bool.false_or, Nat.add_sub_cancel]
      rw [e2]
      by_cases he : t y % 10 = fstN (t x)
      · simp (disch := omega) only [G129b0, L0, L1, L2, L3, L4, L5, L6, L7, L8, L9, L10, L11, L12, L13, L16, L20, L31, L32, L40, L48, L57, L59, L60, L61, L91, L93, L97, L99, L100, L102, L103, L114, L122, L255, L300, L400, L402, L999, L2280, L2500, L99999, L63, L1431655765, L858993459, L252645135, ic_ge, ic_gt, ic_le, ic_lt, ic_eq, ic_ne, if_lt, if_ge, if_gt, if_le, if_eq, if_ne, if_lt_zI, if_ge_zI, ic_ne_m1, ic_eq_m1, ic_nn_m1, ic_ee_m1, if_ne_b2i, if_eq_b2i, b2i_z, decide_eq_true_eq, decide_true, decide_false, Bool.not_eq_true, Bool.not_eq_true', Bool.not_true, Bool.not_false, decide_eq_false_iff_not, Bool.false_eq_true, not_false_eq_true, not_true_eq_false, if_true, if_false, ↓reduceIte, eq_self, Option.bind_some, Bool.true_and, Bool.false_and, Bool.and_true, Bool.and_false, nI_add, nI_subN, nI_clamp, gdF, gdF2, gdP, gdP2, zI_cl, zI_s, Lm1, nI_n0, zI_n0, leF, or_false, false_or, or_self, nI_bit, hb, lr_s, r2, r3, he]
        exact ev_ret
      · simp (disch := omega) only [G129b0, L0, L1, L2, L3, L4, L5, L6, L7, L8, L9, L10, L11, L12, L13, L16, L20, L31, L32, L40, L48, L57, L59, L60, L61, L91, L93, L97, L99, L100, L102, L103, L114, L122, L255, L300, L400, L402, L999, L2280, L2500, L99999, L63, L1431655765, L858993459, L252645135, ic_ge, ic_gt, ic_le, ic_lt, ic_eq, ic_ne, if_lt, if_ge, if_gt, if_le, if_eq, if_ne, if_lt_zI, if_ge_zI, ic_ne_m1, ic_eq_m1, ic_nn_m1, ic_ee_m1, if_ne_b2i, if_eq_b2i, b2i_z, decide_eq_true_eq, decide_true, decide_false, Bool.not_eq_true, Bool.not_eq_true', Bool.not_true, Bool.not_false, decide_eq_false_iff_not, Bool.false_eq_true, not_false_eq_true, not_true_eq_false, if_true, if_false, ↓reduceIte, eq_self, Option.bind_some, Bool.true_and, Bool.false_and, Bool.and_true, Bool.and_false, nI_add, nI_subN, nI_clamp, gdF, gdF2, gdP, gdP2, zI_cl, zI_s, Lm1, nI_n0, zI_n0, leF, or_false, false_or, or_self, nI_bit, hb, lr_s, r2, r3, he]
        exact ev_ret
/-- the rows of ways behind L -/
def WY (T : xS) (t : Nat → Nat) (s N L m l : Nat) : Prop := ∀ x, s.testBit x = true → frL s L x = true → okF t l x = true → T.2.1 129 ((L ||| 2 ^ rkN s x) * 8 + rkN s x) = nI (cwF t N m (x + 1) (rmF (frL s L) x))
theorem g128l {T : xS} {L l m0 : Nat} (h : OR T t s N) (hN : N ≤ 12) (hz : rkN s N ≤ 8) (hs : ∀ x, s.testBit x = true → x < N) (ht : ∀ x, x < N → isTx (t x) = true) (hL : L < 256) (hl : l = 0 ∨ s.testBit (l - 1) = true) (hw : WY T t s N L m0 l) : ∀ (m x a : Nat), x + m = N → Ev (fun n => G128f n 5 (nI L) (zI (lrN s l)) (nI a) (nI (rkN s x)) T) (nI (a + sF (stp t N m0 l (frL s L)) m x), T) := by
  intro m
  induction m with
  | zero =>
    intro x a hx
    have : x = N := by omega
    subst this
    refine ev_succ (fun n => G128e5 n ..) ?_
    have e := h.1
    simp (disch := omega) only [G128b5, L0, L1, L2, L3, L4, L5, L6, L7, L8, L9, L10, L11, L12, L13, L16, L20, L31, L32, L40, L48, L57, L59, L60, L61, L91, L93, L97, L99, L100, L102, L103, L114, L122, L255, L300, L400, L402, L999, L2280, L2500, L99999, L63, L1431655765, L858993459, L252645135, ic_ge, ic_gt, ic_le, ic_lt, ic_eq, ic_ne, if_lt, if_ge, if_gt, if_le, if_eq, if_ne, if_lt_zI, if_ge_zI, ic_ne_m1, ic_eq_m1, ic_nn_m1, ic_ee_m1, if_ne_b2i, if_eq_b2i, b2i_z, decide_eq_true_eq, decide_true, decide_false, Bool.not_eq_true, Bool.not_eq_true', Bool.not_true, Bool.not_false, decide_eq_false_iff_not, Bool.false_eq_true, not_false_eq_true, not_true_eq_false, if_true, if_false, ↓reduceIte, eq_self, Option.bind_some, Bool.true_and, Bool.false_and, Bool.and_true, Bool.and_false, nI_add, nI_subN, nI_clamp, gdF, gdF2, gdP, gdP2, zI_cl, zI_s, Lm1, nI_n0, zI_n0, leF, or_false, false_or, or_self, e, Nat.le_refl]
    exact ev_ret
  | succ m ih =>
    intro x a hx
    show Ev _ (nI (a + (stp t N m0 l (frL s L) x + sF (stp t N m0 l (frL s L)) m (x + 1))), T)
    by_cases hb : s.testBit x = true
    · have hr := rk_lt (show x < N by omega) hb
      refine ev_succ (fun n => G128e5 n ..) ?_
      have e := h.1
      have e2 : ¬ rkN s N ≤ rkN s x := by omega
      have gg := g129 h hN hz hs ht hL hl hb
      simp (disch := omega) only [G128b5, L0, L1, L2, L3, L4, L5, L6, L7, L8, L9, L10, L11, L12, L13, L16, L20, L31, L32, L40, L48, L57, L59, L60, L61, L91, L93, L97, L99, L100, L102, L103, L114, L122, L255, L300, L400, L402, L999, L2280, L2500, L99999, L63, L1431655765, L858993459, L252645135, ic_ge, ic_gt, ic_le, ic_lt, ic_eq, ic_ne, if_lt, if_ge, if_gt, if_le, if_eq, if_ne, if_lt_zI, if_ge_zI, ic_ne_m1, ic_eq_m1, ic_nn_m1, ic_ee_m1, if_ne_b2i, if_eq_b2i, b2i_z, decide_eq_true_eq, decide_true, decide_false, Bool.not_eq_true, Bool.not_eq_true', Bool.not_true, Bool.not_false, decide_eq_false_iff_not, Bool.false_eq_true, not_false_eq_true, not_true_eq_false, if_true, if_false, ↓reduceIte, eq_self, Option.bind_some, Bool.true_and, Bool.false_and, Bool.and_true, Bool.and_false, nI_add, nI_subN, nI_clamp, gdF, gdF2, gdP, gdP2, zI_cl, zI_s, Lm1, nI_n0, zI_n0, leF, or_false, false_or, or_self, e, e2]
      refine ev_bind gg ?_
      by_cases hf : (frL s L x && okF t l x) = true
      · have hf' := hf
        rw [Bool.and_eq_true] at hf'
        have hw' := hw x hb hf'.1 hf'.2
        have hlt := or_lt (z := 8) hL (show rkN s x < 8 by omega)
        have es : stp t N m0 l (frL s L) x = cwF t N m0 (x + 1) (rmF (frL s L) x) := if_pos hf
        have ig := ih (x + 1) (a + cwF t N m0 (x + 1) (rmF (frL s L) x)) (by omega)
        rw [rk_s hb] at ig
        rw [es, ← Nat.add_assoc]
        simp (disch := omega) only [L0, L1, L2, L3, L4, L5, L6, L7, L8, L9, L10, L11, L12, L13, L16, L20, L31, L32, L40, L48, L57, L59, L60, L61, L91, L93, L97, L99, L100, L102, L103, L114, L122, L255, L300, L400, L402, L999, L2280, L2500, L99999, L63, L1431655765, L858993459, L252645135, ic_ge, ic_gt, ic_le, ic_lt, ic_eq, ic_ne, if_lt, if_ge, if_gt, if_le, if_eq, if_ne, if_lt_zI, if_ge_zI, ic_ne_m1, ic_eq_m1, ic_nn_m1, ic_ee_m1, if_ne_b2i, if_eq_b2i, b2i_z, decide_eq_true_eq, decide_true, decide_false, Bool.not_eq_true, Bool.not_eq_true', Bool.not_true, Bool.not_false, decide_eq_false_iff_not, Bool.false_eq_true, not_false_eq_true, not_true_eq_false, if_true, if_false, ↓reduceIte, eq_self, Option.bind_some, Bool.true_and, Bool.false_and, Bool.and_true, Bool.and_false, nI_add, nI_subN, nI_clamp, gdF, gdF2, gdP, gdP2, zI_cl, zI_s, Lm1, nI_n0, zI_n0, leF, or_false, false_or, or_self, hf, nI_shl, nx_or, nI_mul, hw']
        exact ig
      · have es : stp t N m0 l (frL s L) x = 0 := if_neg hf
        have ig := ih (x + 1) a (by omega)
        rw [rk_s hb] at ig
        rw [es, Nat.zero_add]
        simp (disch := omega) only [L0, L1, L2, L3, L4, L5, L6, L7, L8, L9, L10, L11, L12, L13, L16, L20, L31, L32, L40, L48, L57, L59, L60, L61, L91, L93, L97, L99, L100, L102, L103, L114, L122, L255, L300, L400, L402, L999, L2280, L2500, L99999, L63, L1431655765, L858993459, L252645135, ic_ge, ic_gt, ic_le, ic_lt, ic_eq, ic_ne, if_lt, if_ge, if_gt, if_le, if_eq, if_ne, if_lt_zI, if_ge_zI, ic_ne_m1, ic_eq_m1, ic_nn_m1, ic_ee_m1, if_ne_b2i, if_eq_b2i, b2i_z, decide_eq_true_eq, decide_true, decide_false, Bool.not_eq_true, Bool.not_eq_true', Bool.not_true, Bool.not_false, decide_eq_false_iff_not, Bool.false_eq_true, not_false_eq_true, not_true_eq_false, if_true, if_false, ↓reduceIte, eq_self, Option.bind_some, Bool.true_and, Bool.false_and, Bool.and_true, Bool.and_false, nI_add, nI_subN, nI_clamp, gdF, gdF2, gdP, gdP2, zI_cl, zI_s, Lm1, nI_n0, zI_n0, leF, or_false, false_or, or_self, hf]
        exact ig
    · have es : stp t N m0 l (frL s L) x = 0 := by
        refine if_neg (fun hf => ?_)
        rw [Bool.and_eq_true] at hf
        have := hf.1
        unfold frL at this
        rw [Bool.and_eq_true] at this
        exact hb this.1
      have ig := ih (x + 1) a (by omega)
      rw [rk_n hb] at ig
      rw [es, Nat.zero_add]
      exact ig
theorem g128 {T : xS} {L l m0 : Nat} (h : OR T t s N) (hN : N ≤ 12) (hz : rkN s N ≤ 8) (hs : ∀ x, s.testBit x = true → x < N) (ht : ∀ x, x < N → isTx (t x) = true) (hL : L < 256) (hl : l = 0 ∨ s.testBit (l - 1) = true) (hw : WY T t s N L m0 l) : Ev (fun n => G128 n (nI L) (zI (lrN s l)) T) (nI (cwF t N (m0 + 1) l (frL s L)), T) := by
  refine ev_succ (fun n => G128e0 n ..) ?_
  simp only [G128b0, L0]
  have := g128l h hN hz hs ht hL hl hw N 0 0 (by omega)
  rw [Nat.zero_add] at this
  exact this
theorem g132l {T : xS} {L l m0 : Nat} (h : OR T t s N) (hN : N ≤ 12) (hz : rkN s N ≤ 8) (hs : ∀ x, s.testBit x = true → x < N) (ht : ∀ x, x < N → isTx (t x) = true) (hL : L < 256) (hm : m0 ≤ 8) (hl : l = 0 ∨ s.testBit (l - 1) = true) (hw : WY T t s N L m0 l) : ∀ (m x : Nat), x + m = N → Ev (fun n => G132f n 2 (nI L) (zI (lrN s l)) (nI (rkN s x)) T) (zI ((fxF t N m0 l (frL s L) m x).elim 0 (fun y => rkN s y + 1)), T) := by
  intro m
  induction m with
  | zero =>
    intro x hx
    have : x = N := by omega
    subst this
    refine ev_succ (fun n => G132e2 n ..) ?_
    have e := h.1
    simp (disch := omega) only [G132b2, L0, L1, L2, L3, L4, L5, L6, L7, L8, L9, L10, L11, L12, L13, L16, L20, L31, L32, L40, L48, L57, L59, L60, L61, L91, L93, L97, L99, L100, L102, L103, L114, L122, L255, L300, L400, L402, L999, L2280, L2500, L99999, L63, L1431655765, L858993459, L252645135, ic_ge, ic_gt, ic_le, ic_lt, ic_eq, ic_ne, if_lt, if_ge, if_gt, if_le, if_eq, if_ne, if_lt_zI, if_ge_zI, ic_ne_m1, ic_eq_m1, ic_nn_m1, ic_ee_m1, if_ne_b2i, if_eq_b2i, b2i_z, decide_eq_true_eq, decide_true, decide_false, Bool.not_eq_true, Bool.not_eq_true', Bool.not_true, Bool.not_false, decide_eq_false_iff_not, Bool.false_eq_true, not_false_eq_true, not_true_eq_false, if_true, if_false, ↓reduceIte, eq_self, Option.bind_some, Bool.true_and, Bool.false_and, Bool.and_true, Bool.and_false, nI_add, nI_subN, nI_clamp, gdF, gdF2, gdP, gdP2, zI_cl, zI_s, Lm1, nI_n0, zI_n0, leF, or_false, false_or, or_self, e, Nat.le_refl]
    exact ev_ret
  | succ m ih =>
    intro x hx
    have e1 : fxF t N m0 l (frL s L) (m + 1) x = if (!decide (stp t N m0 l (frL s L) x = 0)) = true then some x else fxF t N m0 l (frL s L) m (x + 1) := rfl
    rw [e1]
    by_cases hb : s.testBit x = true
    · have hr := rk_lt (show x < N by omega) hb
      refine ev_succ (fun n => G132e2 n ..) ?_
      have e := h.1
      have e2 : ¬ rkN s N ≤ rkN s x := by omega
      have gg := g129 h hN hz hs ht hL hl hb
      have ig := ih (x + 1) (by omega)
      rw [rk_s hb] at ig
      simp (disch := omega) only [G132b2, L0, L1, L2, L3, L4, L5, L6, L7, L8, L9, L10, L11, L12, L13, L16, L20, L31, L32, L40, L48, L57, L59, L60, L61, L91, L93, L97, L99, L100, L102, L103, L114, L122, L255, L300, L400, L402, L999, L2280, L2500, L99999, L63, L1431655765, L858993459, L252645135, ic_ge, ic_gt, ic_le, ic_lt, ic_eq, ic_ne, if_lt, if_ge, if_gt, if_le, if_eq, if_ne, if_lt_zI, if_ge_zI, ic_ne_m1, ic_eq_m1, ic_nn_m1, ic_ee_m1, if_ne_b2i, if_eq_b2i, b2i_z, decide_eq_true_eq, decide_true, decide_false, Bool.not_eq_true, Bool.not_eq_true', Bool.not_true, Bool.not_false, decide_eq_false_iff_not, Bool.false_eq_true, not_false_eq_true, not_true_eq_false, if_true, if_false, ↓reduceIte, eq_self, Option.bind_some, Bool.true_and, Bool.false_and, Bool.and_true, Bool.and_false, nI_add, nI_subN, nI_clamp, gdF, gdF2, gdP, gdP2, zI_cl, zI_s, Lm1, nI_n0, zI_n0, leF, or_false, false_or, or_self, e, e2]
      refine ev_bind gg ?_
      by_cases hf : (frL s L x && okF t l x) = true
      · have hf' := hf
        rw [Bool.and_eq_true] at hf'
        have hw' := hw x hb hf'.1 hf'.2
        have hlt := or_lt (z := 8) hL (show rkN s x < 8 by omega)
        have es : stp t N m0 l (frL s L) x = cwF t N m0 (x + 1) (rmF (frL s L) x) := if_pos hf
        have hcb := cw_b (t := t) (N := N) (m := m0) (l := x + 1) (fr := rmF (frL s L) x) hN hm
        rw [es]
        by_cases h0 : cwF t N m0 (x + 1) (rmF (frL s L) x) = 0
        · simp (disch := omega) only [L0, L1, L2, L3, L4, L5, L6, L7, L8, L9, L10, L11, L12, L13, L16, L20, L31, L32, L40, L48, L57, L59, L60, L61, L91, L93, L97, L99, L100, L102, L103, L114, L122, L255, L300, L400, L402, L999, L2280, L2500, L99999, L63, L1431655765, L858993459, L252645135, ic_ge, ic_gt, ic_le, ic_lt, ic_eq, ic_ne, if_lt, if_ge, if_gt, if_le, if_eq, if_ne, if_lt_zI, if_ge_zI, ic_ne_m1, ic_eq_m1, ic_nn_m1, ic_ee_m1, if_ne_b2i, if_eq_b2i, b2i_z, decide_eq_true_eq, decide_true, decide_false, Bool.not_eq_true, Bool.not_eq_true', Bool.not_true, Bool.not_false, decide_eq_false_iff_not, Bool.false_eq_true, not_false_eq_true, not_true_eq_false, if_true, if_false, ↓reduceIte, eq_self, Option.bind_some, Bool.true_and, Bool.false_and, Bool.and_true, Bool.and_false, nI_add, nI_subN, nI_clamp, gdF, gdF2, gdP, gdP2, zI_cl, zI_s, Lm1, nI_n0, zI_n0, leF, or_false, false_or, or_self, hf, nI_shl, nx_or, nI_mul, hw', h0, Nat.le_refl]
          exact ig
        · have h0' : ¬ cwF t N m0 (x + 1) (rmF (frL s L) x) ≤ 0 := by omega
          simp (disch := omega) only [L0, L1, L2, L3, L4, L5, L6, L7, L8, L9, L10, L11, L12, L13, L16, L20, L31, L32, L40, L48, L57, L59, L60, L61, L91, L93, L97, L99, L100, L102, L103, L114, L122, L255, L300, L400, L402, L999, L2280, L2500, L99999, L63, L1431655765, L858993459, L252645135, ic_ge, ic_gt, ic_le, ic_lt, ic_eq, ic_ne, if_lt, if_ge, if_gt, if_le, if_eq, if_ne, if_lt_zI, if_ge_zI, ic_ne_m1, ic_eq_m1, ic_nn_m1, ic_ee_m1, if_ne_b2i, if_eq_b2i, b2i_z, decide_eq_true_eq, decide_true, decide_false, Bool.not_eq_true, Bool.not_eq_true', Bool.not_true, Bool.not_false, decide_eq_false_iff_not, Bool.false_eq_true, not_false_eq_true, not_true_eq_false, if_true, if_false, ↓reduceIte, eq_self, Option.bind_some, Bool.true_and, Bool.false_and, Bool.and_true, Bool.and_false, nI_add, nI_subN, nI_clamp, gdF, gdF2, gdP, gdP2, zI_cl, zI_s, Lm1, nI_n0, zI_n0, leF, or_false, false_or, or_self, hf, nI_shl, nx_or, nI_mul, hw', h0, h0']
          rw [← zI_s]
          exact ev_ret
      · have es : stp t N m0 l (frL s L) x = 0 := if_neg hf
        rw [es]
        simp (disch := omega) only [L0, L1, L2, L3, L4, L5, L6, L7, L8, L9, L10, L11, L12, L13, L16, L20, L31, L32, L40, L48, L57, L59, L60, L61, L91, L93, L97, L99, L100, L102, L103, L114, L122, L255, L300, L400, L402, L999, L2280, L2500, L99999, L63, L1431655765, L858993459, L252645135, ic_ge, ic_gt, ic_le, ic_lt, ic_eq, ic_ne, if_lt, if_ge, if_gt, if_le, if_eq, if_ne, if_lt_zI, if_ge_zI, ic_ne_m1, ic_eq_m1, ic_nn_m1, ic_ee_m1, if_ne_b2i, if_eq_b2i, b2i_z, decide_eq_true_eq, decide_true, decide_false, Bool.not_eq_true, Bool.not_eq_true', Bool.not_true, Bool.not_false, decide_eq_false_iff_not, Bool.false_eq_true, not_false_eq_true, not_true_eq_false, if_true, if_false, ↓reduceIte, eq_self, Option.bind_some, Bool.true_and, Bool.false_and, Bool.and_true, Bool.and_false, nI_add, nI_subN, nI_clamp, gdF, gdF2, gdP, gdP2, zI_cl, zI_s, Lm1, nI_n0, zI_n0, leF, or_false, false_or, or_self, hf]
        exact ig
    · have es : stp t N m0 l (frL s L) x = 0 := by
        refine if_neg (fun hf => ?_)
        rw [Bool.and_eq_true] at hf
        have := hf.1
        unfold frL at this
        rw [Bool.and_eq_true] at this
        exact hb this.1
      have ig := ih (x + 1) (by omega)
      rw [rk_n hb] at ig
      rw [es]
      exact ig
theorem g132 {T : xS} {L l m0 : Nat} (h : OR T t s N) (hN : N ≤ 12) (hz : rkN s N ≤ 8) (hs : ∀ x, s.testBit x = true → x < N) (ht : ∀ x, x < N → isTx (t x) = true) (hL : L < 256) (hm : m0 ≤ 8) (hl : l = 0 ∨ s.testBit (l - 1) = true) (hw : WY T t s N L m0 l) : Ev (fun n => G132 n (nI L) (zI (lrN s l)) T) (zI ((fxF t N m0 l (frL s L) N 0).elim 0 (fun y => rkN s y + 1)), T) := by
  refine ev_succ (fun n => G132e0 n ..) ?_
  simp only [G132b0, L0]
  exact g132l h hN hz hs ht hL hm hl hw N 0 (by omega)
/-- all rows of ways above L -/
def WA (T : xS) (t : Nat → Nat) (s N L : Nat) : Prop := ∀ L' x, L < L' → L' < 2 ^ rkN s N → s.testBit x = true → L'.testBit (rkN s x) = true → T.2.1 129 (L' * 8 + rkN s x) = nI (cwF t N (ctF (frL s L') N 0) (x + 1) (frL s L'))
theorem WA_Y {T : xS} {L l m0 : Nat} (hs : ∀ x, s.testBit x = true → x < N) (h : WA T t s N L) (hL : L < 2 ^ rkN s N) (hc : ctF (frL s L) N 0 = m0 + 1) : WY T t s N L m0 l := by
  intro x hx hf ho
  have hxN := hs x hx
  have hr := rk_lt hxN hx
  have h1 : L.testBit (rkN s x) = false := by
    unfold frL at hf
    rw [Bool.and_eq_true] at hf
    simpa using hf.2
  have h2 := h (L ||| 2 ^ rkN s x) x (or_gt h1) (or_lt hL hr) hx (by rw [Nat.testBit_or, Nat.testBit_two_pow_self, Bool.or_true])
  have h3 := frL_ct (N := N) hx hxN hf
  rw [h2, show ctF (frL s (L ||| 2 ^ rkN s x)) N 0 = m0 by omega, frL_rm hx]
theorem frL_all : ctF (frL s (2 ^ rkN s N - 1)) N 0 = 0 := by
  refine ctF_0 N 0 (fun i a b => ?_)
  unfold frL
  by_cases hb : s.testBit i = true
  · have := rk_lt (show i < N by omega) hb
    rw [Nat.testBit_two_pow_sub_one, decide_eq_true this, Bool.not_true, Bool.and_false]
  · rw [Bool.eq_false_iff.mpr hb, Bool.false_and]
theorem frL_pos {L : Nat} (hL : L < 2 ^ rkN s N) (hne : L ≠ 2 ^ rkN s N - 1) : 1 ≤ ctF (frL s L) N 0 := by
  by_cases hall : ∀ j, j < rkN s N → L.testBit j = true
  · refine absurd (Nat.eq_of_testBit_eq (fun i => ?_)) hne
    rw [Nat.testBit_two_pow_sub_one]
    by_cases hi : i < rkN s N
    · rw [hall i hi, decide_eq_true hi]
    · rw [decide_eq_false hi]
      exact Nat.testBit_lt_two_pow (Nat.lt_of_lt_of_le hL (Nat.pow_le_pow_right (by decide) (by omega)))
  · obtain ⟨j, hj⟩ := Classical.not_forall.mp hall
    obtain ⟨hj1, hj2⟩ := Classical.not_imp.mp hj
    obtain ⟨x, h1, h2, h3⟩ := rk_sur N j hj1
    refine ctF_pos (s := x) N 0 (Nat.zero_le _) (by omega) ?_
    unfold frL
    rw [h2, h3, Bool.eq_false_iff.mpr hj2]
    rfl
end Pr
