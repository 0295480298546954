/-! tapes read: blanks, numbers, letters, words; the program -/
def bkF (f : Nat → Nat) : Nat → Nat → Nat
  | 0, i => i
  | m + 1, i => if f i = 32 then bkF f m (i + 1) else i
def bk (f : Nat → Nat) (L i : Nat) : Nat := bkF f (L - i) i
def sg (f : Nat → Nat) (L i : Nat) : Nat := if i < L then f i + 1 else 0
def dgF (f : Nat → Nat) : Nat → Nat → Nat
  | 0, _ => 0
  | m + 1, i => if 48 ≤ f i ∧ f i ≤ 57 then dgF f m (i + 1) + 1 else 0
def dg (f : Nat → Nat) (L i : Nat) : Nat := dgF f (L - i) i
def vF (f : Nat → Nat) (i : Nat) : Nat → Nat
  | 0 => 0
  | d + 1 => vF f i d * 10 + (f (i + d) - 48)
section Lx
variable {f : Nat → Nat} {L i : Nat}
theorem bkF_b : ∀ m i, i ≤ bkF f m i ∧ bkF f m i ≤ i + m ∧ (bkF f m i < i + m → f (bkF f m i) ≠ 32)
  | 0, i => ⟨Nat.le_refl _, Nat.le_refl _, fun h => absurd h (Nat.lt_irrefl _)⟩
  | m + 1, i => by
    unfold bkF
    by_cases h : f i = 32
    · rw [if_pos h]
      have := bkF_b m (i + 1)
      exact ⟨by omega, by omega, fun h => this.2.2 (by omega)⟩
    · rw [if_neg h]
      exact ⟨Nat.le_refl _, by omega, fun _ => h⟩
theorem bk_b (h : i ≤ L) : i ≤ bk f L i ∧ bk f L i ≤ L ∧ (bk f L i < L → f (bk f L i) ≠ 32) := by
  have := bkF_b (f := f) (L - i) i
  unfold bk
  exact ⟨this.1, by omega, fun z => this.2.2 (by omega)⟩
theorem bk_s (h : i < L) (h32 : f i = 32) : bk f L i = bk f L (i + 1) := by
  obtain ⟨m, hm⟩ : ∃ m, L - i = m + 1 := ⟨L - i - 1, by omega⟩
  unfold bk
  rw [hm, show L - (i + 1) = m by omega]
  exact if_pos h32
theorem bk_n (h : ¬ (i < L ∧ f i = 32)) : bk f L i = i := by
  unfold bk
  by_cases hi : i < L
  · obtain ⟨m, hm⟩ : ∃ m, L - i = m + 1 := ⟨L - i - 1, by omega⟩
    rw [hm]
    exact if_neg (fun z => h ⟨hi, z⟩)
  · rw [show L - i = 0 by omega]
    rfl
theorem bk_id (h : i ≤ L) : bk f L (bk f L i) = bk f L i := by
  have := bk_b (f := f) h
  exact bk_n (fun z => this.2.2 z.1 z.2)
theorem dgF_b : ∀ m i, dgF f m i ≤ m ∧ (∀ k, k < dgF f m i → 48 ≤ f (i + k) ∧ f (i + k) ≤ 57) ∧ (dgF f m i < m → ¬ (48 ≤ f (i + dgF f m i) ∧ f (i + dgF f m i) ≤ 57))
  | 0, i => ⟨Nat.le_refl _, fun k hk => absurd hk (Nat.not_lt_zero _), fun h => absurd h (Nat.lt_irrefl _)⟩
  | m + 1, i => by
    unfold dgF
    by_cases h : 48 ≤ f i ∧ f i ≤ 57
    · rw [if_pos h]
      obtain ⟨a, b, c⟩ := dgF_b m (i + 1)
      refine ⟨by omega, fun k hk => ?_, fun h2 => ?_⟩
      · cases k with
        | zero => exact h
        | succ k =>
          have := b k (by omega)
          rw [show i + (k + 1) = i + 1 + k by omega]
          exact this
      · rw [show i + (dgF f m (i + 1) + 1) = i + 1 + dgF f m (i + 1) by omega]
        exact c (by omega)
    · rw [if_neg h]
      exact ⟨Nat.zero_le _, fun k hk => absurd hk (Nat.not_lt_zero _), fun _ => h⟩
theorem dg_b (h : i ≤ L) : i + dg f L i ≤ L ∧ (∀ k, k < dg f L i → 48 ≤ f (i + k) ∧ f (i + k) ≤ 57) ∧ (i + dg f L i < L → ¬ (48 ≤ f (i + dg f L i) ∧ f (i + dg f L i) ≤ 57)) := by
  obtain ⟨a, b, c⟩ := dgF_b (f := f) (L - i) i
  unfold dg
  exact ⟨by omega, b, fun z => c (by omega)⟩
theorem vF_lt : ∀ d, (∀ k, k < d → 48 ≤ f (i + k) ∧ f (i + k) ≤ 57) → vF f i d < 10 ^ d
  | 0, _ => by
    show 0 < 1
    decide
  | d + 1, h => by
    have h1 := vF_lt d (fun k hk => h k (by omega))
    have h2 := h d (by omega)
    unfold vF
    rw [Nat.pow_succ]
    omega
theorem vF_5 {d : Nat} (hd : d ≤ 5) (h : ∀ k, k < d → 48 ≤ f (i + k) ∧ f (i + k) ≤ 57) : vF f i d < 100000 := by
  have h1 := vF_lt d h
  have h2 : (10 : Nat) ^ d ≤ 10 ^ 5 := Nat.pow_le_pow_right (by decide) hd
  have h3 : (10 : Nat) ^ 5 = 100000 := by decide
  omega
end Lx
/-- fault, value, place -/
def nmF (f : Nat → Nat) (L i : Nat) : Nat × Nat × Nat := if dg f L (bk f L i) = 0 then (1 + 8 * bk f L i, 0, bk f L i) else if 5 < dg f L (bk f L i) then (2 + 8 * bk f L i, 0, bk f L i + dg f L (bk f L i)) else (0, vF f (bk f L i) (dg f L (bk f L i)), bk f L i + dg f L (bk f L i))
def amF (f : Nat → Nat) (L i lo hi : Nat) : Nat × Nat × Nat := if (nmF f L i).1 ≠ 0 then nmF f L i else if lo ≤ (nmF f L i).2.1 ∧ (nmF f L i).2.1 < hi then nmF f L i else (2 + 8 * bk f L i, 0, (nmF f L i).2.2)
theorem am_e {f : Nat → Nat} {L i lo hi : Nat} (h : (nmF f L i).1 ≠ 0) : amF f L i lo hi = nmF f L i := if_pos h
theorem am_i {f : Nat → Nat} {L i lo hi : Nat} (h : (nmF f L i).1 = 0) (h2 : lo ≤ (nmF f L i).2.1 ∧ (nmF f L i).2.1 < hi) : amF f L i lo hi = nmF f L i := (if_neg (fun z => z h)).trans (if_pos h2)
theorem am_o {f : Nat → Nat} {L i lo hi : Nat} (h : (nmF f L i).1 = 0) (h2 : ¬ (lo ≤ (nmF f L i).2.1 ∧ (nmF f L i).2.1 < hi)) : amF f L i lo hi = (2 + 8 * bk f L i, 0, (nmF f L i).2.2) := (if_neg (fun z => z h)).trans (if_neg h2)
theorem nm_b {f : Nat → Nat} {L i : Nat} (h : i ≤ L) : (nmF f L i).2.2 ≤ L ∧ (nmF f L i).2.1 < 100000 ∧ (nmF f L i).1 ≤ 8 * L + 2 := by
  have h1 := bk_b (f := f) h
  have h2 := dg_b (f := f) h1.2.1
  unfold nmF
  split
  · exact ⟨h1.2.1, (show (0 : Nat) < 100000 by decide), by show 1 + 8 * bk f L i ≤ _; omega⟩
  · split
    · exact ⟨h2.1, (show (0 : Nat) < 100000 by decide), by show 2 + 8 * bk f L i ≤ _; omega⟩
    · refine ⟨h2.1, vF_5 (by omega) h2.2.1, by show 0 ≤ _; omega⟩
theorem am_b {f : Nat → Nat} {L i lo hi : Nat} (h : i ≤ L) : (amF f L i lo hi).2.2 ≤ L ∧ (amF f L i lo hi).2.1 < 100000 ∧ (amF f L i lo hi).1 ≤ 8 * L + 2 ∧ ((amF f L i lo hi).1 = 0 → lo ≤ (amF f L i lo hi).2.1 ∧ (amF f L i lo hi).2.1 < hi) := by
  have h1 := bk_b (f := f) h
  have h2 := nm_b (f := f) h
  unfold amF
  split
  · rename_i h0
    exact ⟨h2.1, h2.2.1, h2.2.2, fun z => absurd z h0⟩
  · split
    · rename_i h3
      exact ⟨h2.1, h2.2.1, h2.2.2, fun _ => h3⟩
    · refine ⟨h2.1, (show (0 : Nat) < 100000 by decide), by show 2 + 8 * bk f L i ≤ _; omega, fun z => ?_⟩
      have z : 2 + 8 * bk f L i = 0 := z
      omega
def smB (f : Nat → Nat) (L q : Nat) : Bool := decide (q < L) && decide (97 ≤ f q) && decide (f q ≤ 122)
def lsF (f : Nat → Nat) (L most : Nat) : Nat → Nat → Nat → Nat → Nat × Nat × Nat
  | 0, q, _, v => (0, v, q)
  | m + 1, q, n, v => if smB f L q = true then (if n = most ∨ 102 < f q then (1 + 8 * q, 0, q) else lsF f L most m (q + 1) (n + 1) (v * 10 + (f q - 96))) else (0, v, q)
def leF2 (f : Nat → Nat) (L i most : Nat) : Nat × Nat × Nat := if smB f L (bk f L i) = true then lsF f L most (most + 1) (bk f L i) 0 0 else (1 + 8 * bk f L i, 0, bk f L i)
theorem ls_b {f : Nat → Nat} {L most : Nat} (h8 : most ≤ 8) : ∀ m q n v, q ≤ L → n + m = most + 1 → lenN v = n → (n = 0 → v = 0) → (n ≠ 0 → isTx v = true) → (lsF f L most m q n v).2.2 ≤ L ∧ (lsF f L most m q n v).1 ≤ 8 * L + 2 ∧ ((lsF f L most m q n v).1 = 0 → ((n ≠ 0 ∨ smB f L q = true) → m ≠ 0 → isTx (lsF f L most m q n v).2.1 = true ∧ lenN (lsF f L most m q n v).2.1 ≤ most)) ∧ (lsF f L most m q n v).2.1 < 2 ^ 31
  | 0, q, n, v, hq, hn, hl, h0, hT => by
    have : v < 2 ^ 31 := by
      by_cases e : n = 0
      · rw [h0 e]; decide
      · have := isTx_lt (hT e)
        omega
    exact ⟨hq, Nat.zero_le _, fun _ _ z => absurd rfl z, this⟩
  | m + 1, q, n, v, hq, hn, hl, h0, hT => by
    have hv : v < 2 ^ 31 := by
      by_cases e : n = 0
      · rw [h0 e]; decide
      · have := isTx_lt (hT e)
        omega
    unfold lsF
    by_cases hs : smB f L q = true
    · rw [if_pos hs]
      have hs' := hs
      unfold smB at hs'
      simp only [Bool.and_eq_true, decide_eq_true_eq] at hs'
      by_cases hb : n = most ∨ 102 < f q
      · rw [if_pos hb]
        refine ⟨hq, by show 1 + 8 * q ≤ _; omega, fun z => ?_, (show (0 : Nat) < 2 ^ 31 by decide)⟩
        have z : 1 + 8 * q = 0 := z
        omega
      · rw [if_neg hb]
        have htx : isTx (v * 10 + (f q - 96)) = true := by
          by_cases e : n = 0
          · rw [h0 e, Nat.zero_mul, Nat.zero_add]
            rw [show f q - 96 = f q - 97 + 1 by omega]
            exact isTx_1 (by omega)
          · exact isTx_app (hT e) (by omega) (by omega) (by omega)
        have hl2 : lenN (v * 10 + (f q - 96)) = n + 1 := by
          rw [lenN_s (by omega), show (v * 10 + (f q - 96)) / 10 = v by omega, hl]
        obtain ⟨a, b, c, d⟩ := ls_b (f := f) (L := L) h8 m (q + 1) (n + 1) (v * 10 + (f q - 96)) (by omega) (by omega) hl2 (fun z => absurd z (by omega)) (fun _ => htx)
        refine ⟨a, b, fun z _ _ => ?_, d⟩
        cases m with
        | zero =>
          exact ⟨htx, by show lenN (v * 10 + (f q - 96)) ≤ most; omega⟩
        | succ m => exact c z (Or.inl (by omega)) (by omega)
    · rw [if_neg hs]
      refine ⟨hq, Nat.zero_le _, fun _ z _ => ?_, hv⟩
      rcases z with z | z
      · exact ⟨hT z, by show lenN v ≤ most; omega⟩
      · exact absurd z hs
theorem le_b {f : Nat → Nat} {L i most : Nat} (h : i ≤ L) (h8 : most ≤ 8) : (leF2 f L i most).2.2 ≤ L ∧ (leF2 f L i most).1 ≤ 8 * L + 2 ∧ ((leF2 f L i most).1 = 0 → isTx (leF2 f L i most).2.1 = true ∧ lenN (leF2 f L i most).2.1 ≤ most) ∧ (leF2 f L i most).2.1 < 2 ^ 31 := by
  have h1 := bk_b (f := f) h
  unfold leF2
  by_cases hs : smB f L (bk f L i) = true
  · rw [if_pos hs]
    obtain ⟨a, b, c, d⟩ := ls_b (f := f) (L := L) h8 (most + 1) (bk f L i) 0 0 h1.2.1 (by omega) lenN_0 (fun _ => rfl) (fun z => absurd rfl z)
    exact ⟨a, b, fun z => c z (Or.inr hs) (by omega), d⟩
  · rw [if_neg hs]
    refine ⟨h1.2.1, by show 1 + 8 * bk f L i ≤ _; omega, fun z => ?_, (show (0 : Nat) < 2 ^ 31 by decide)⟩
    have z : 1 + 8 * bk f L i = 0 := z
    omega
/-- a word stands at i -/
def wmB (f : Nat → Nat) (L i : Nat) (w : List Nat) : Bool := decide (i + w.length ≤ L) && (!smB f L (i + w.length) && alF (fun k => decide (f (i + k) = w.getD k 0)) w.length 0)
/-- the first of the words that stands at i: its number, how long it is -/
def wiF (f : Nat → Nat) (L i : Nat) : List (List Nat) → Nat → Option (Nat × Nat)
  | [], _ => none
  | w :: r, k => if wmB f L i w = true then some (k, w.length) else wiF f L i r (k + 1)
/-- the tape in the program -/
def TH (T0 : xS) (f : Nat → Nat) (L : Nat) : Prop := (∀ j, j < L → T0.2.1 66 j = nI (f j)) ∧ L ≤ 400 ∧ ∀ j, j < L → f j < 256
def TP (T T0 : xS) (L i m e : Nat) : Prop := T.1 65 1 = nI L ∧ T.1 65 2 = nI i ∧ T.1 65 3 = nI m ∧ T.1 65 4 = nI e ∧ (∀ q, q ≠ 65 → T.1 q = T0.1 q) ∧ T.2 = T0.2
section Tp
variable {T T0 : xS} {f : Nat → Nat} {L i m e : Nat}
theorem TP_r (hH : TH T0 f L) (h : TP T T0 L i m e) {j : Nat} (hj : j < L) : T.2.1 66 j = nI (f j) := by
  rw [h.2.2.2.2.2]
  exact hH.1 j hj
theorem TP_2 {i' : Nat} (h : TP T T0 L i m e) : TP (x_sI T 65 2 (nI i')) T0 L i' m e := ⟨by rw [x_rIi (by decide)]; exact h.1, x_rIe, by rw [x_rIi (by decide)]; exact h.2.2.1, by rw [x_rIi (by decide)]; exact h.2.2.2.1, fun q hq => by rw [x_rIn hq]; exact h.2.2.2.2.1 q hq, h.2.2.2.2.2⟩
theorem TP_3 {m' : Nat} (h : TP T T0 L i m e) : TP (x_sI T 65 3 (nI m')) T0 L i m' e := ⟨by rw [x_rIi (by decide)]; exact h.1, by rw [x_rIi (by decide)]; exact h.2.1, x_rIe, by rw [x_rIi (by decide)]; exact h.2.2.2.1, fun q hq => by rw [x_rIn hq]; exact h.2.2.2.2.1 q hq, h.2.2.2.2.2⟩
theorem TP_4 {e' : Nat} (h : TP T T0 L i m e) : TP (x_sI T 65 4 (nI e')) T0 L i m e' := ⟨by rw [x_rIi (by decide)]; exact h.1, by rw [x_rIi (by decide)]; exact h.2.1, by rw [x_rIi (by decide)]; exact h.2.2.1, x_rIe, fun q hq => by rw [x_rIn hq]; exact h.2.2.2.2.1 q hq, h.2.2.2.2.2⟩
theorem g36 {p k : Nat} (h : TP T T0 L i m 0) : Ep (fun n => G36 n (nI p) (nI k) T) (fun z => z.1 = nI 0 ∧ TP z.2 T0 L i m (1 + 8 * p + k)) := by
  have h4 := h.2.2.2.1
  refine ep_succ (fun n => G36e0 n ..) ?_
  simp (disch := omega) only [G36b0, L0, L1, L2, L3, L4, L5, L6, L7, L8, L9, L10, L11, L12, L13, L16, L20, L31, L32, L40, L48, L57, L59, L60, L61, L91, L93, L97, L99, L100, L102, L103, L114, L122, L255, L300, L400, L402, L999, L2280, L2500, L99999, L63, L1431655765, L858993459, L252645135, ic_ge, ic_gt, ic_le, ic_lt, ic_eq, ic_ne, if_lt, if_ge, if_gt, if_le, if_eq, if_ne, if_lt_zI, if_ge_zI, ic_ne_m1, ic_eq_m1, ic_nn_m1, ic_ee_m1, if_ne_b2i, if_eq_b2i, b2i_z, decide_eq_true_eq, decide_true, decide_false, Bool.not_eq_true, Bool.not_eq_true', Bool.not_true, Bool.not_false, decide_eq_false_iff_not, Bool.false_eq_true, not_false_eq_true, not_true_eq_false, if_true, if_false, ↓reduceIte, eq_self, Option.bind_some, Bool.true_and, Bool.false_and, Bool.and_true, Bool.and_false, nI_add, nI_subN, nI_clamp, gdF, gdF2, gdP, gdP2, zI_cl, zI_s, Lm1, nI_n0, zI_n0, leF, or_false, false_or, or_self, h4, nI_mul]
  exact ep_ret ⟨rfl, TP_4 h⟩
theorem g23l (hH : TH T0 f L) : ∀ (d i : Nat) (T : xS), i + d = L → TP T T0 L i m e → Ep (fun n => G23f n 0 T) (fun z => z.1 = zI (sg f L (bk f L i)) ∧ TP z.2 T0 L (bk f L i) m e) := by
  have hL := hH.2.1
  intro d
  induction d with
  | zero =>
    intro i T hi h
    have h1 := h.1
    have h2 := h.2.1
    have e1 : L ≤ i := by omega
    have e2 : bk f L i = i := bk_n (fun z => by omega)
    refine ep_succ (fun n => G23e0 n ..) ?_
    rw [e2, show sg f L i = 0 from if_neg (by omega)]
    simp (disch := omega) only [G23b0, L0, L1, L2, L3, L4, L5, L6, L7, L8, L9, L10, L11, L12, L13, L16, L20, L31, L32, L40, L48, L57, L59, L60, L61, L91, L93, L97, L99, L100, L102, L103, L114, L122, L255, L300, L400, L402, L999, L2280, L2500, L99999, L63, L1431655765, L858993459, L252645135, ic_ge, ic_gt, ic_le, ic_lt, ic_eq, ic_ne, if_lt, if_ge, if_gt, if_le, if_eq, if_ne, if_lt_zI, if_ge_zI, ic_ne_m1, ic_eq_m1, ic_nn_m1, ic_ee_m1, if_ne_b2i, if_eq_b2i, b2i_z, decide_eq_true_eq, decide_true, decide_false, Bool.not_eq_true, Bool.not_eq_true', Bool.not_true, Bool.not_false, decide_eq_false_iff_not, Bool.false_eq_true, not_false_eq_true, not_true_eq_false, if_true, if_false, ↓reduceIte, eq_self, Option.bind_some, Bool.true_and, Bool.false_and, Bool.and_true, Bool.and_false, nI_add, nI_subN, nI_clamp, gdF, gdF2, gdP, gdP2, zI_cl, zI_s, Lm1, nI_n0, zI_n0, leF, or_false, false_or, or_self, h1, h2, e1]
    exact ep_ret ⟨rfl, h⟩
  | succ d ih =>
    intro i T hi h
    have h1 := h.1
    have h2 := h.2.1
    have e1 : ¬ L ≤ i := by omega
    have r := TP_r hH h (show i < L by omega)
    have hb := hH.2.2 i (by omega)
    refine ep_succ (fun n => G23e0 n ..) ?_
    by_cases h32 : f i = 32
    · rw [bk_s (by omega) h32]
      simp (disch := omega) only [G23b0, L0, L1, L2, L3, L4, L5, L6, L7, L8, L9, L10, L11, L12, L13, L16, L20, L31, L32, L40, L48, L57, L59, L60, L61, L91, L93, L97, L99, L100, L102, L103, L114, L122, L255, L300, L400, L402, L999, L2280, L2500, L99999, L63, L1431655765, L858993459, L252645135, ic_ge, ic_gt, ic_le, ic_lt, ic_eq, ic_ne, if_lt, if_ge, if_gt, if_le, if_eq, if_ne, if_lt_zI, if_ge_zI, ic_ne_m1, ic_eq_m1, ic_nn_m1, ic_ee_m1, if_ne_b2i, if_eq_b2i, b2i_z, decide_eq_true_eq, decide_true, decide_false, Bool.not_eq_true, Bool.not_eq_true', Bool.not_true, Bool.not_false, decide_eq_false_iff_not, Bool.false_eq_true, not_false_eq_true, not_true_eq_false, if_true, if_false, ↓reduceIte, eq_self, Option.bind_some, Bool.true_and, Bool.false_and, Bool.and_true, Bool.and_false, nI_add, nI_subN, nI_clamp, gdF, gdF2, gdP, gdP2, zI_cl, zI_s, Lm1, nI_n0, zI_n0, leF, or_false, false_or, or_self, h1, h2, e1, r, h32]
      exact ih (i + 1) _ (by omega) (TP_2 h)
    · rw [bk_n (fun z => h32 z.2), show sg f L i = f i + 1 from if_pos (by omega), zI_s]
      simp (disch := omega) only [G23b0, L0, L1, L2, L3, L4, L5, L6, L7, L8, L9, L10, L11, L12, L13, L16, L20, L31, L32, L40, L48, L57, L59, L60, L61, L91, L93, L97, L99, L100, L102, L103, L114, L122, L255, L300, L400, L402, L999, L2280, L2500, L99999, L63, L1431655765, L858993459, L252645135, ic_ge, ic_gt, ic_le, ic_lt, ic_eq, ic_ne, if_lt, if_ge, if_gt, if_le, if_eq, if_ne, if_lt_zI, if_ge_zI, ic_ne_m1, ic_eq_m1, ic_nn_m1, ic_ee_m1, if_ne_b2i, if_eq_b2i, b2i_z, decide_eq_true_eq, decide_true, decide_false, Bool.not_eq_true, Bool.not_eq_true', Bool.not_true, Bool.not_false, decide_eq_false_iff_not, Bool.false_eq_true, not_false_eq_true, not_true_eq_false, if_true, if_false, ↓reduceIte, eq_self, Option.bind_some, Bool.true_and, Bool.false_and, Bool.and_true, Bool.and_false, nI_add, nI_subN, nI_clamp, gdF, gdF2, gdP, gdP2, zI_cl, zI_s, Lm1, nI_n0, zI_n0, leF, or_false, false_or, or_self, h1, h2, e1, r, h32]
      exact ep_ret ⟨rfl, h⟩
theorem g23 (hH : TH T0 f L) (hi : i ≤ L) (h : TP T T0 L i m e) : Ep (fun n => G23 n T) (fun z => z.1 = zI (sg f L (bk f L i)) ∧ TP z.2 T0 L (bk f L i) m e) := g23l hH (L - i) i T (by omega) h
theorem g41l (hH : TH T0 f L) {Q : Int32 × xS → Prop} {j d : Nat} (hj : j ≤ L) (hd : d = dg f L j) (q0 : d = 0 → ∀ T', TP T' T0 L j j (1 + 8 * j) → Q (zI 0, T')) (q1 : 5 < d → ∀ T', TP T' T0 L (j + d) j (2 + 8 * j) → Q (zI 0, T')) (q2 : d ≠ 0 → d ≤ 5 → ∀ T', TP T' T0 L (j + d) j 0 → Q (nI (vF f j d), T')) : ∀ (r c : Nat) (T : xS), c + r = d → TP T T0 L (j + c) j 0 → Ep (fun n => G41f n 17 (nI (vF f j (min c 5))) (nI c) T) Q := by
  have hL := hH.2.1
  obtain ⟨b1, b2, b3⟩ := dg_b (f := f) hj
  rw [← hd] at b1 b2 b3
  intro r
  induction r with
  | zero =>
    intro c T hc h
    have hcd : c = d := by omega
    subst hcd
    have h1 := h.1
    have h2 := h.2.1
    have h3 := h.2.2.1
    have w0 : c = 0 → Ep (fun n => (G36 n (nI j) (nI 0) T).bind (fun z => some (zI 0, z.2))) Q := by
      intro c0
      refine ep_bind (g36 h) ?_
      rintro ⟨z, T1⟩ ⟨_, a⟩
      have a : TP T1 T0 L (j + c) j (1 + 8 * j) := a
      refine ep_ret (q0 c0 T1 ?_)
      rw [c0, Nat.add_zero] at a
      exact a
    have w1 : 5 < c → Ep (fun n => (G36 n (nI j) (nI 1) T).bind (fun z => some (zI 0, z.2))) Q := by
      intro c5
      refine ep_bind (g36 h) ?_
      rintro ⟨z, T1⟩ ⟨_, a⟩
      have a : TP T1 T0 L (j + c) j (1 + 8 * j + 1) := a
      refine ep_ret (q1 c5 T1 ?_)
      rw [show 2 + 8 * j = 1 + 8 * j + 1 by omega]
      exact a
    have w2 : c ≠ 0 → c ≤ 5 → Ep (fun n => some (nI (vF f j (min c 5)), T)) Q := by
      intro c0 c5
      rw [Nat.min_eq_left c5]
      exact ep_ret (q2 c0 c5 T h)
    have cases3 : c = 0 ∨ (¬ c = 0 ∧ c ≤ 5) ∨ (¬ c = 0 ∧ ¬ c ≤ 5) := by omega
    refine ep_succ (fun n => G41e17 n ..) ?_
    by_cases he : L ≤ j + c
    · simp (disch := omega) only [G41b17, L0, L1, L2, L3, L4, L5, L6, L7, L8, L9, L10, L11, L12, L13, L16, L20, L31, L32, L40, L48, L57, L59, L60, L61, L91, L93, L97, L99, L100, L102, L103, L114, L122, L255, L300, L400, L402, L999, L2280, L2500, L99999, L63, L1431655765, L858993459, L252645135, ic_ge, ic_gt, ic_le, ic_lt, ic_eq, ic_ne, if_lt, if_ge, if_gt, if_le, if_eq, if_ne, if_lt_zI, if_ge_zI, ic_ne_m1, ic_eq_m1, ic_nn_m1, ic_ee_m1, if_ne_b2i, if_eq_b2i, b2i_z, decide_eq_true_eq, decide_true, decide_false, Bool.not_eq_true, Bool.not_eq_true', Bool.not_true, Bool.not_false, decide_eq_false_iff_not, Bool.false_eq_true, not_false_eq_true, not_true_eq_false, if_true, if_false, ↓reduceIte, eq_self, Option.bind_some, Bool.true_and, Bool.false_and, Bool.and_true, Bool.and_false, nI_add, nI_subN, nI_clamp, gdF, gdF2, gdP, gdP2, zI_cl, zI_s, Lm1, nI_n0, zI_n0, leF, or_false, false_or, or_self, h1, h2, h3, he]
      rcases cases3 with c0 | ⟨c0, c5⟩ | ⟨c0, c5⟩
      · simp (disch := omega) only [L0, L1, L2, L3, L4, L5, L6, L7, L8, L9, L10, L11, L12, L13, L16, L20, L31, L32, L40, L48, L57, L59, L60, L61, L91, L93, L97, L99, L100, L102, L103, L114, L122, L255, L300, L400, L402, L999, L2280, L2500, L99999, L63, L1431655765, L858993459, L252645135, ic_ge, ic_gt, ic_le, ic_lt, ic_eq, ic_ne, if_lt, if_ge, if_gt, if_le, if_eq, if_ne, if_lt_zI, if_ge_zI, ic_ne_m1, ic_eq_m1, ic_nn_m1, ic_ee_m1, if_ne_b2i, if_eq_b2i, b2i_z, decide_eq_true_eq, decide_true, decide_false, Bool.not_eq_true, Bool.not_eq_true', Bool.not_true, Bool.not_false, decide_eq_false_iff_not, Bool.false_eq_true, not_false_eq_true, not_true_eq_false, if_true, if_false, ↓reduceIte, eq_self, Option.bind_some, Bool.true_and, Bool.false_and, Bool.and_true, Bool.and_false, nI_add, nI_subN, nI_clamp, gdF, gdF2, gdP, gdP2, zI_cl, zI_s, Lm1, nI_n0, zI_n0, leF, or_false, false_or, or_self, c0]
        exact w0 c0
      · simp (disch := omega) only [L0, L1, L2, L3, L4, L5, L6, L7, L8, L9, L10, L11, L12, L13, L16, L20, L31, L32, L40, L48, L57, L59, L60, L61, L91, L93, L97, L99, L100, L102, L103, L114, L122, L255, L300, L400, L402, L999, L2280, L2500, L99999, L63, L1431655765, L858993459, L252645135, ic_ge, ic_gt, ic_le, ic_lt, ic_eq, ic_ne, if_lt, if_ge, if_gt, if_le, if_eq, if_ne, if_lt_zI, if_ge_zI, ic_ne_m1, ic_eq_m1, ic_nn_m1, ic_ee_m1, if_ne_b2i, if_eq_b2i, b2i_z, decide_eq_true_eq, decide_true, decide_false, Bool.not_eq_true, Bool.not_eq_true', Bool.not_true, Bool.not_false, decide_eq_false_iff_not, Bool.false_eq_true, not_false_eq_true, not_true_eq_false, if_true, if_false, ↓reduceIte, eq_self, Option.bind_some, Bool.true_and, Bool.false_and, Bool.and_true, Bool.and_false, nI_add, nI_subN, nI_clamp, gdF, gdF2, gdP, gdP2, zI_cl, zI_s, Lm1, nI_n0, zI_n0, leF, or_false, false_or, or_self, c0, c5]
        exact w2 c0 c5
      · simp (disch := omega) only [L0, L1, L2, L3, L4, L5, L6, L7, L8, L9, L10, L11, L12, L13, L16, L20, L31, L32, L40, L48, L57, L59, L60, L61, L91, L93, L97, L99, L100, L102, L103, L114, L122, L255, L300, L400, L402, L999, L2280, L2500, L99999, L63, L1431655765, L858993459, L252645135, ic_ge, ic_gt, ic_le, ic_lt, ic_eq, ic_ne, if_lt, if_ge, if_gt, if_le, if_eq, if_ne, if_lt_zI, if_ge_zI, ic_ne_m1, ic_eq_m1, ic_nn_m1, ic_ee_m1, if_ne_b2i, if_eq_b2i, b2i_z, decide_eq_true_eq, decide_true, decide_false, Bool.not_eq_true, Bool.not_eq_true', Bool.not_true, Bool.not_false, decide_eq_false_iff_not, Bool.false_eq_true, not_false_eq_true, not_true_eq_false, if_true, if_false, ↓reduceIte, eq_self, Option.bind_some, Bool.true_and, Bool.false_and, Bool.and_true, Bool.and_false, nI_add, nI_subN, nI_clamp, gdF, gdF2, gdP, gdP2, zI_cl, zI_s, Lm1, nI_n0, zI_n0, leF, or_false, false_or, or_self, c0, c5]
        exact w1 (by omega)
    · have rr := TP_r hH h (show j + c < L by omega)
      have hb := hH.2.2 (j + c) (by omega)
      have nd := b3 (by omega)
      by_cases h48 : f (j + c) < 48
      · simp (disch := omega) only [G41b17, L0, L1, L2, L3, L4, L5, L6, L7, L8, L9, L10, L11, L12, L13, L16, L20, L31, L32, L40, L48, L57, L59, L60, L61, L91, L93, L97, L99, L100, L102, L103, L114, L122, L255, L300, L400, L402, L999, L2280, L2500, L99999, L63, L1431655765, L858993459, L252645135, ic_ge, ic_gt, ic_le, ic_lt, ic_eq, ic_ne, if_lt, if_ge, if_gt, if_le, if_eq, if_ne, if_lt_zI, if_ge_zI, ic_ne_m1, ic_eq_m1, ic_nn_m1, ic_ee_m1, if_ne_b2i, if_eq_b2i, b2i_z, decide_eq_true_eq, decide_true, decide_false, Bool.not_eq_true, Bool.not_eq_true', Bool.not_true, Bool.not_false, decide_eq_false_iff_not, Bool.false_eq_true, not_false_eq_true, not_true_eq_false, if_true, if_false, ↓reduceIte, eq_self, Option.bind_some, Bool.true_and, Bool.false_and, Bool.and_true, Bool.and_false, nI_add, nI_subN, nI_clamp, gdF, gdF2, gdP, gdP2, zI_cl, zI_s, Lm1, nI_n0, zI_n0, leF, or_false, false_or, or_self, h1, h2, h3, he, rr, h48]
        rcases cases3 with c0 | ⟨c0, c5⟩ | ⟨c0, c5⟩
        · simp (disch := omega) only [L0, L1, L2, L3, L4, L5, L6, L7, L8, L9, L10, L11, L12, L13, L16, L20, L31, L32, L40, L48, L57, L59, L60, L61, L91, L93, L97, L99, L100, L102, L103, L114, L122, L255, L300, L400, L402, L999, L2280, L2500, L99999, L63, L1431655765, L858993459, L252645135, ic_ge, ic_gt, ic_le, ic_lt, ic_eq, ic_ne, if_lt, if_ge, if_gt, if_le, if_eq, if_ne, if_lt_zI, if_ge_zI, ic_ne_m1, ic_eq_m1, ic_nn_m1, ic_ee_m1, if_ne_b2i, if_eq_b2i, b2i_z, decide_eq_true_eq, decide_true, decide_false, Bool.not_eq_true, Bool.not_eq_true', Bool.not_true, Bool.not_false, decide_eq_false_iff_not, Bool.false_eq_true, not_false_eq_true, not_true_eq_false, if_true, if_false, ↓reduceIte, eq_self, Option.bind_some, Bool.true_and, Bool.false_and, Bool.and_true, Bool.and_false, nI_add, nI_subN, nI_clamp, gdF, gdF2, gdP, gdP2, zI_cl, zI_s, Lm1, nI_n0, zI_n0, leF, or_false, false_or, or_self, c0]
          exact w0 c0
        · simp (disch := omega) only [L0, L1, L2, L3, L4, L5, L6, L7, L8, L9, L10, L11, L12, L13, L16, L20, L31, L32, L40, L48, L57, L59, L60, L61, L91, L93, L97, L99, L100, L102, L103, L114, L122, L255, L300, L400, L402, L999, L2280, L2500, L99999, L63, L1431655765, L858993459, L252645135, ic_ge, ic_gt, ic_le, ic_lt, ic_eq, ic_ne, if_lt, if_ge, if_gt, if_le, if_eq, if_ne, if_lt_zI, if_ge_zI, ic_ne_m1, ic_eq_m1, ic_nn_m1, ic_ee_m1, if_ne_b2i, if_eq_b2i, b2i_z, decide_eq_true_eq, decide_true, decide_false, Bool.not_eq_true, Bool.not_eq_true', Bool.not_true, Bool.not_false, decide_eq_false_iff_not, Bool.false_eq_true, not_false_eq_true, not_true_eq_false, if_true, if_false, ↓reduceIte, eq_self, Option.bind_some, Bool.true_and, Bool.false_and, Bool.and_true, Bool.and_false, nI_add, nI_subN, nI_clamp, gdF, gdF2, gdP, gdP2, zI_cl, zI_s, Lm1, nI_n0, zI_n0, leF, or_false, false_or, or_self, c0, c5]
          exact w2 c0 c5
        · simp (disch := omega) only [L0, L1, L2, L3, L4, L5, L6, L7, L8, L9, L10, L11, L12, L13, L16, L20, L31, L32, L40, L48, L57, L59, L60, L61, L91, L93, L97, L99, L100, L102, L103, L114, L122, L255, L300, L400, L402, L999, L2280, L2500, L99999, L63, L1431655765, L858993459, L252645135, ic_ge, ic_gt, ic_le, ic_lt, ic_eq, ic_ne, if_lt, if_ge, if_gt, if_le, if_eq, if_ne, if_lt_zI, if_ge_zI, ic_ne_m1, ic_eq_m1, ic_nn_m1, ic_ee_m1, if_ne_b2i, if_eq_b2i, b2i_z, decide_eq_true_eq, decide_true, decide_false, Bool.not_eq_true, Bool.not_eq_true', Bool.not_true, Bool.not_false, decide_eq_false_iff_not, Bool.false_eq_true, not_false_eq_true, not_true_eq_false, if_true, if_false, ↓reduceIte, eq_self, Option.bind_some, Bool.true_and, Bool.false_and, Bool.and_true, Bool.and_false, nI_add, nI_subN, nI_clamp, gdF, gdF2, gdP, gdP2, zI_cl, zI_s, Lm1, nI_n0, zI_n0, leF, or_false, false_or, or_self, c0, c5]
          exact w1 (by omega)
      · have h57 : 57 < f (j + c) := by omega
        simp (disch := omega) only [G41b17, L0, L1, L2, L3, L4, L5, L6, L7, L8, L9, L10, L11, L12, L13, L16, L20, L31, L32, L40, L48, L57, L59, L60, L61, L91, L93, L97, L99, L100, L102, L103, L114, L122, L255, L300, L400, L402, L999, L2280, L2500, L99999, L63, L1431655765, L858993459, L252645135, ic_ge, ic_gt, ic_le, ic_lt, ic_eq, ic_ne, if_lt, if_ge, if_gt, if_le, if_eq, if_ne, if_lt_zI, if_ge_zI, ic_ne_m1, ic_eq_m1, ic_nn_m1, ic_ee_m1, if_ne_b2i, if_eq_b2i, b2i_z, decide_eq_true_eq, decide_true, decide_false, Bool.not_eq_true, Bool.not_eq_true', Bool.not_true, Bool.not_false, decide_eq_false_iff_not, Bool.false_eq_true, not_false_eq_true, not_true_eq_false, if_true, if_false, ↓reduceIte, eq_self, Option.bind_some, Bool.true_and, Bool.false_and, Bool.and_true, Bool.and_false, nI_add, nI_subN, nI_clamp, gdF, gdF2, gdP, gdP2, zI_cl, zI_s, Lm1, nI_n0, zI_n0, leF, or_false, false_or, or_self, h1, h2, h3, he, rr, h48, h57]
        rcases cases3 with c0 | ⟨c0, c5⟩ | ⟨c0, c5⟩
        · simp (disch := omega) only [L0, L1, L2, L3, L4, L5, L6, L7, L8, L9, L10, L11, L12, L13, L16, L20, L31, L32, L40, L48, L57, L59, L60, L61, L91, L93, L97, L99, L100, L102, L103, L114, L122, L255, L300, L400, L402, L999, L2280, L2500, L99999, L63, L1431655765, L858993459, L252645135, ic_ge, ic_gt, ic_le, ic_lt, ic_eq, ic_ne, if_lt, if_ge, if_gt, if_le, if_eq, if_ne, if_lt_zI, if_ge_zI, ic_ne_m1, ic_eq_m1, ic_nn_m1, ic_ee_m1, if_ne_b2i, if_eq_b2i, b2i_z, decide_eq_true_eq, decide_true, decide_false, Bool.not_eq_true, Bool.not_eq_true', Bool.not_true, Bool.not_false, decide_eq_false_iff_not, Bool.false_eq_true, not_false_eq_true, not_true_eq_false, if_true, if_false, ↓reduceIte, eq_self, Option.bind_some, Bool.true_and, Bool.false_and, Bool.and_true, Bool.and_false, nI_add, nI_subN, nI_clamp, gdF, gdF2, gdP, gdP2, zI_cl, zI_s, Lm1, nI_n0, zI_n0, leF, or_false, false_or, or_self, c0]
          exact w0 c0
        · simp (disch := omega) only [L0, L1, L2, L3, L4, L5, L6, L7, L8, L9, L10, L11, L12, L13, L16, L20, L31, L32, L40, L48, L57, L59, L60, L61, L91, L93, L97, L99, L100, L102, L103, L114, L122, L255, L300, L400, L402, L999, L2280, L2500, L99999, L63, L1431655765, L858993459, L252645135, ic_ge, ic_gt, ic_le, ic_lt, ic_eq, ic_ne, if_lt, if_ge, if_gt, if_le, if_eq, if_ne, if_lt_zI, if_ge_zI, ic_ne_m1, ic_eq_m1, ic_nn_m1, ic_ee_m1, if_ne_b2i, if_eq_b2i, b2i_z, decide_eq_true_eq, decide_true, decide_false, Bool.not_eq_true, Bool.not_eq_true', Bool.not_true, Bool.not_false, decide_eq_false_iff_not, Bool.false_eq_true, not_false_eq_true, not_true_eq_false, if_true, if_false, ↓reduceIte, eq_self, Option.bind_some, Bool.true_and, Bool.false_and, Bool.and_true, Bool.and_false, nI_add, nI_subN, nI_clamp, gdF, gdF2, gdP, gdP2, zI_cl, zI_s, Lm1, nI_n0, zI_n0, leF, or_false, false_or, or_self, c0, c5]
          exact w2 c0 c5
        · simp (disch := omega) only [L0, L1, L2, L3, L4, L5, L6, L7, L8, L9, L10, L11, L12, L13, L16, L20, L31, L32, L40, L48, L57, L59, L60, L61, L91, L93, L97, L99, L100, L102, L103, L114, L122, L255, L300, L400, L402, L999, L2280, L2500, L99999, L63, L1431655765, L858993459, L252645135, ic_ge, ic_gt, ic_le, ic_lt, ic_eq, ic_ne, if_lt, if_ge, if_gt, if_le, if_eq, if_ne, if_lt_zI, if_ge_zI, ic_ne_m1, ic_eq_m1, ic_nn_m1, ic_ee_m1, if_ne_b2i, if_eq_b2i, b2i_z, decide_eq_true_eq, decide_true, decide_false, Bool.not_eq_true, Bool.not_eq_true', Bool.not_true, Bool.not_false, decide_eq_false_iff_not, Bool.false_eq_true, not_false_eq_true, not_true_eq_false, if_true, if_false, ↓reduceIte, eq_self, Option.bind_some, Bool.true_and, Bool.false_and, Bool.and_true, Bool.and_false, nI_add, nI_subN, nI_clamp, gdF, gdF2, gdP, gdP2, zI_cl, zI_s, Lm1, nI_n0, zI_n0, leF, or_false, false_or, or_self, c0, c5]
          exact w1 (by omega)
  | succ r ih =>
    intro c T hc h
    have h1 := h.1
    have h2 := h.2.1
    have h3 := h.2.2.1
    have he : ¬ L ≤ j + c := by omega
    have rr := TP_r hH h (show j + c < L by omega)
    have hb := hH.2.2 (j + c) (by omega)
    obtain ⟨n48, n57⟩ := b2 c (by omega)
    have h48 : ¬ f (j + c) < 48 := by omega
    have h57 : ¬ 57 < f (j + c) := by omega
    refine ep_succ (fun n => G41e17 n ..) ?_
    have ig := ih (c + 1) _ (by omega) (TP_2 (i' := j + (c + 1)) h)
    by_cases c5 : 5 ≤ c
    · rw [Nat.min_eq_right (show 5 ≤ c + 1 by omega)] at ig
      rw [Nat.min_eq_right c5]
      simp (disch := omega) only [G41b17, L0, L1, L2, L3, L4, L5, L6, L7, L8, L9, L10, L11, L12, L13, L16, L20, L31, L32, L40, L48, L57, L59, L60, L61, L91, L93, L97, L99, L100, L102, L103, L114, L122, L255, L300, L400, L402, L999, L2280, L2500, L99999, L63, L1431655765, L858993459, L252645135, ic_ge, ic_gt, ic_le, ic_lt, ic_eq, ic_ne, if_lt, if_ge, if_gt, if_le, if_eq, if_ne, if_lt_zI, if_ge_zI, ic_ne_m1, ic_eq_m1, ic_nn_m1, ic_ee_m1, if_ne_b2i, if_eq_b2i, b2i_z, decide_eq_true_eq, decide_true, decide_false, Bool.not_eq_true, Bool.not_eq_true', Bool.not_true, Bool.not_false, decide_eq_false_iff_not, Bool.false_eq_true, not_false_eq_true, not_true_eq_false, if_true, if_false, ↓reduceIte, eq_self, Option.bind_some, Bool.true_and, Bool.false_and, Bool.and_true, Bool.and_false, nI_add, nI_subN, nI_clamp, gdF, gdF2, gdP, gdP2, zI_cl, zI_s, Lm1, nI_n0, zI_n0, leF, or_false, false_or, or_self, h1, h2, h3, he, rr, h48, h57, c5]
      exact ig
    · rw [Nat.min_eq_left (show c + 1 ≤ 5 by omega)] at ig
      rw [Nat.min_eq_left (show c ≤ 5 by omega)]
      have hv := vF_5 (f := f) (i := j) (d := c) (by omega) (fun k hk => b2 k (by omega))
      have hvs : vF f j (c + 1) = vF f j c * 10 + f (j + c) - 48 := by
        show vF f j c * 10 + (f (j + c) - 48) = _
        omega
      rw [hvs] at ig
      simp (disch := omega) only [G41b17, L0, L1, L2, L3, L4, L5, L6, L7, L8, L9, L10, L11, L12, L13, L16, L20, L31, L32, L40, L48, L57, L59, L60, L61, L91, L93, L97, L99, L100, L102, L103, L114, L122, L255, L300, L400, L402, L999, L2280, L2500, L99999, L63, L1431655765, L858993459, L252645135, ic_ge, ic_gt, ic_le, ic_lt, ic_eq, ic_ne, if_lt, if_ge, if_gt, if_le, if_eq, if_ne, if_lt_zI, if_ge_zI, ic_ne_m1, ic_eq_m1, ic_nn_m1, ic_ee_m1, if_ne_b2i, if_eq_b2i, b2i_z, decide_eq_true_eq, decide_true, decide_false, Bool.not_eq_true, Bool.not_eq_true', Bool.not_true, Bool.not_false, decide_eq_false_iff_not, Bool.false_eq_true, not_false_eq_true, not_true_eq_false, if_true, if_false, ↓reduceIte, eq_self, Option.bind_some, Bool.true_and, Bool.false_and, Bool.and_true, Bool.and_false, nI_add, nI_subN, nI_clamp, gdF, gdF2, gdP, gdP2, zI_cl, zI_s, Lm1, nI_n0, zI_n0, leF, or_false, false_or, or_self, h1, h2, h3, he, rr, h48, h57, c5, nI_mul]
      exact ig
theorem g41 (hH : TH T0 f L) (hi : i ≤ L) (h : TP T T0 L i m 0) : Ep (fun n => G41 n T) (fun z => z.1 = (if (nmF f L i).1 = 0 then nI (nmF f L i).2.1 else zI 0) ∧ TP z.2 T0 L (nmF f L i).2.2 (bk f L i) (nmF f L i).1) := by
  have hb := bk_b (f := f) hi
  refine ep_succ (fun n => G41e0 n ..) ?_
  simp only [G41b0]
  refine ep_bind (g23 hH hi h) ?_
  rintro ⟨z1, T1⟩ ⟨_, a⟩
  have a : TP T1 T0 L (bk f L i) m 0 := a
  have a2 := a.2.1
  simp only [a2, L0]
  refine g41l hH (j := bk f L i) hb.2.1 rfl (fun d0 T' p => ?_) (fun d5 T' p => ?_) (fun d0 d5 T' p => ?_) _ 0 _ (Nat.zero_add _) (TP_3 a)
  · unfold nmF
    rw [if_pos d0]
    exact ⟨(if_neg (show ¬ 1 + 8 * bk f L i = 0 by omega)).symm, p⟩
  · unfold nmF
    rw [if_neg (show ¬ dg f L (bk f L i) = 0 by omega), if_pos d5]
    exact ⟨(if_neg (show ¬ 2 + 8 * bk f L i = 0 by omega)).symm, p⟩
  · unfold nmF
    rw [if_neg d0, if_neg (show ¬ 5 < dg f L (bk f L i) by omega)]
    exact ⟨(if_pos rfl).symm, p⟩
theorem ic_ez {k : Nat} (h : k < 2 ^ 31) : am_ic .eq (nI k) (zI 0) = false := ic_ee_m1 h
theorem g40 (hH : TH T0 f L) {lo hi : Nat} (hlo : lo < 2 ^ 31) (hhi : hi < 2 ^ 31) (hi0 : hi ≠ 0) (hi' : i ≤ L) (h : TP T T0 L i m 0) : Ep (fun n => G40 n (nI lo) (nI (hi - 1)) T) (fun z => z.1 = (if (amF f L i lo hi).1 = 0 then nI (amF f L i lo hi).2.1 else zI 0) ∧ TP z.2 T0 L (amF f L i lo hi).2.2 (bk f L i) (amF f L i lo hi).1) := by
  have hn := nm_b (f := f) hi'
  refine ep_succ (fun n => G40e0 n ..) ?_
  simp only [G40b0]
  refine ep_bind (g41 hH hi' h) ?_
  rintro ⟨z1, T1⟩ ⟨a1, a2⟩
  have a1 : z1 = if (nmF f L i).1 = 0 then nI (nmF f L i).2.1 else zI 0 := a1
  have a2 : TP T1 T0 L (nmF f L i).2.2 (bk f L i) (nmF f L i).1 := a2
  subst a1
  by_cases h0 : (nmF f L i).1 = 0
  · rw [h0] at a2
    rw [if_pos h0]
    have a3 := a2.2.2.1
    have w2 : ¬ (lo ≤ (nmF f L i).2.1 ∧ (nmF f L i).2.1 < hi) → Ep (fun n => (G36 n (nI (bk f L i)) (nI 1) T1).bind (fun z => some (zI 0, z.2))) (fun z => z.1 = (if (amF f L i lo hi).1 = 0 then nI (amF f L i lo hi).2.1 else zI 0) ∧ TP z.2 T0 L (amF f L i lo hi).2.2 (bk f L i) (amF f L i lo hi).1) := by
      intro ho
      rw [am_o h0 ho]
      refine ep_bind (g36 a2) ?_
      rintro ⟨z, T2⟩ ⟨_, a⟩
      have a : TP T2 T0 L (nmF f L i).2.2 (bk f L i) (1 + 8 * bk f L i + 1) := a
      refine ep_ret ⟨(if_neg (show ¬ 2 + 8 * bk f L i = 0 by omega)).symm, ?_⟩
      show TP T2 T0 L (nmF f L i).2.2 (bk f L i) (2 + 8 * bk f L i)
      rw [show 2 + 8 * bk f L i = 1 + 8 * bk f L i + 1 by omega]
      exact a
    by_cases hlt : (nmF f L i).2.1 < lo
    · simp (disch := omega) only [L0, L1, L2, L3, L4, L5, L6, L7, L8, L9, L10, L11, L12, L13, L16, L20, L31, L32, L40, L48, L57, L59, L60, L61, L91, L93, L97, L99, L100, L102, L103, L114, L122, L255, L300, L400, L402, L999, L2280, L2500, L99999, L63, L1431655765, L858993459, L252645135, ic_ge, ic_gt, ic_le, ic_lt, ic_eq, ic_ne, if_lt, if_ge, if_gt, if_le, if_eq, if_ne, if_lt_zI, if_ge_zI, ic_ne_m1, ic_eq_m1, ic_nn_m1, ic_ee_m1, if_ne_b2i, if_eq_b2i, b2i_z, decide_eq_true_eq, decide_true, decide_false, Bool.not_eq_true, Bool.not_eq_true', Bool.not_true, Bool.not_false, decide_eq_false_iff_not, Bool.false_eq_true, not_false_eq_true, not_true_eq_false, if_true, if_false, ↓reduceIte, eq_self, Option.bind_some, Bool.true_and, Bool.false_and, Bool.and_true, Bool.and_false, nI_add, nI_subN, nI_clamp, gdF, gdF2, gdP, gdP2, zI_cl, zI_s, Lm1, nI_n0, zI_n0, leF, or_false, false_or, or_self, hlt]
      rw [a3]
      exact w2 (fun z => by omega)
    · by_cases hle : (nmF f L i).2.1 ≤ hi - 1
      · rw [am_i h0 ⟨by omega, by omega⟩, if_pos h0, h0]
        simp (disch := omega) only [L0, L1, L2, L3, L4, L5, L6, L7, L8, L9, L10, L11, L12, L13, L16, L20, L31, L32, L40, L48, L57, L59, L60, L61, L91, L93, L97, L99, L100, L102, L103, L114, L122, L255, L300, L400, L402, L999, L2280, L2500, L99999, L63, L1431655765, L858993459, L252645135, ic_ge, ic_gt, ic_le, ic_lt, ic_eq, ic_ne, if_lt, if_ge, if_gt, if_le, if_eq, if_ne, if_lt_zI, if_ge_zI, ic_ne_m1, ic_eq_m1, ic_nn_m1, ic_ee_m1, if_ne_b2i, if_eq_b2i, b2i_z, decide_eq_true_eq, decide_true, decide_false, Bool.not_eq_true, Bool.not_eq_true', Bool.not_true, Bool.not_false, decide_eq_false_iff_not, Bool.false_eq_true, not_false_eq_true, not_true_eq_false, if_true, if_false, ↓reduceIte, eq_self, Option.bind_some, Bool.true_and, Bool.false_and, Bool.and_true, Bool.and_false, nI_add, nI_subN, nI_clamp, gdF, gdF2, gdP, gdP2, zI_cl, zI_s, Lm1, nI_n0, zI_n0, leF, or_false, false_or, or_self, hlt, hle]
        exact ep_ret ⟨rfl, a2⟩
      · simp (disch := omega) only [L0, L1, L2, L3, L4, L5, L6, L7, L8, L9, L10, L11, L12, L13, L16, L20, L31, L32, L40, L48, L57, L59, L60, L61, L91, L93, L97, L99, L100, L102, L103, L114, L122, L255, L300, L400, L402, L999, L2280, L2500, L99999, L63, L1431655765, L858993459, L252645135, ic_ge, ic_gt, ic_le, ic_lt, ic_eq, ic_ne, if_lt, if_ge, if_gt, if_le, if_eq, if_ne, if_lt_zI, if_ge_zI, ic_ne_m1, ic_eq_m1, ic_nn_m1, ic_ee_m1, if_ne_b2i, if_eq_b2i, b2i_z, decide_eq_true_eq, decide_true, decide_false, Bool.not_eq_true, Bool.not_eq_true', Bool.not_true, Bool.not_false, decide_eq_false_iff_not, Bool.false_eq_true, not_false_eq_true, not_true_eq_false, if_true, if_false, ↓reduceIte, eq_self, Option.bind_some, Bool.true_and, Bool.false_and, Bool.and_true, Bool.and_false, nI_add, nI_subN, nI_clamp, gdF, gdF2, gdP, gdP2, zI_cl, zI_s, Lm1, nI_n0, zI_n0, leF, or_false, false_or, or_self, hlt, hle]
        rw [a3]
        exact w2 (fun z => by omega)
  · rw [if_neg h0, am_e h0, if_neg h0]
    have e : am_ic .eq (zI 0) (-1) = true := by decide
    simp only [e, decide_eq_true_eq, decide_true, decide_false, Bool.not_eq_true, Bool.not_eq_true', Bool.not_true, Bool.not_false, decide_eq_false_iff_not, Bool.false_eq_true, not_false_eq_true, not_true_eq_false, if_true, if_false, ↓reduceIte, eq_self, Option.bind_some, Bool.true_and, Bool.false_and, Bool.and_true, Bool.and_false]
    exact ep_ret ⟨rfl, a2⟩
end Tp
