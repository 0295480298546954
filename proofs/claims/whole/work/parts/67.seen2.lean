/-! seen: the first of all, either way -/
def fsF (P : Nat → Bool) : Nat → Nat → Option Nat
  | 0, _ => none
  | m + 1, j => if P j = true then some j else fsF P m (j + 1)
theorem fs_some {P : Nat → Bool} {k : Nat} (hk : P k = true) : ∀ (m j : Nat), j ≤ k → k < j + m → (∀ i, j ≤ i → i < k → P i = false) → fsF P m j = some k
  | 0, j, h1, h2, _ => by omega
  | m + 1, j, h1, h2, h3 => by
    unfold fsF
    by_cases e : j = k
    · subst e
      rw [if_pos hk]
    · rw [h3 j (Nat.le_refl _) (by omega), if_neg (by decide)]
      exact fs_some hk m (j + 1) (by omega) (by omega) (fun i a b => h3 i (by omega) b)
theorem fs_none {P : Nat → Bool} : ∀ (m j : Nat), (∀ i, j ≤ i → i < j + m → P i = false) → fsF P m j = none
  | 0, j, _ => rfl
  | m + 1, j, h => by
    unfold fsF
    rw [h j (Nat.le_refl _) (by omega), if_neg (by decide)]
    exact fs_none m (j + 1) (fun i a b => h i (by omega) (by omega))
theorem fs_is {P : Nat → Bool} : ∀ (m j : Nat), (fsF P m j = none ∧ ∀ i, j ≤ i → i < j + m → P i = false) ∨ ∃ k, fsF P m j = some k ∧ j ≤ k ∧ k < j + m ∧ P k = true ∧ ∀ i, j ≤ i → i < k → P i = false
  | 0, j => Or.inl ⟨rfl, fun i a b => by omega⟩
  | m + 1, j => by
    unfold fsF
    by_cases h : P j = true
    · rw [if_pos h]
      exact Or.inr ⟨j, rfl, Nat.le_refl _, by omega, h, fun i a b => by omega⟩
    · rw [if_neg h]
      rcases fs_is (P := P) m (j + 1) with ⟨h1, h2⟩ | ⟨k, h1, h2, h3, h4, h5⟩
      · refine Or.inl ⟨h1, fun i a b => ?_⟩
        by_cases e : i = j
        · rw [e]
          exact Bool.eq_false_iff.mpr h
        · exact h2 i (by omega) (by omega)
      · refine Or.inr ⟨k, h1, by omega, by omega, h4, fun i a b => ?_⟩
        by_cases e : i = j
        · rw [e]
          exact Bool.eq_false_iff.mpr h
        · exact h5 i (by omega) b
def clS (o : Option (Nat × Nat)) (c : Nat) (k : Option Nat) : Option (Nat × Nat) := k.elim o (fun k => o.elim (some (c, k)) (fun p => if p.2 ≤ k then o else some (c, k)))
def clF (H : Nat → Nat → Bool) : Nat → Nat → Option (Nat × Nat) → Option (Nat × Nat)
  | 0, _, o => o
  | m + 1, c, o => clF H m (c + 1) (clS o c (fsF (H c) 21 0))
def ctS (H : Nat → Nat → Bool) (D d : Nat) : Nat → Nat → Nat
  | 0, _ => 0
  | m + 1, c => ctF (H c) D d + ctS H D d m (c + 1)
/-- the first, by days, then cells, of those in the first n cells -/
def IsF (H : Nat → Nat → Bool) (n : Nat) (o : Option (Nat × Nat)) : Prop := (o = none ∧ ∀ c d, c < n → d < 21 → H c d = false) ∨ ∃ c d, o = some (c, d) ∧ c < n ∧ d < 21 ∧ H c d = true ∧ ∀ c' d', c' < n → d' < 21 → H c' d' = true → d < d' ∨ (d = d' ∧ c ≤ c')
theorem IsF_u {H : Nat → Nat → Bool} {n : Nat} {o o' : Option (Nat × Nat)} (h : IsF H n o) (h' : IsF H n o') : o = o' := by
  rcases h with ⟨e, h⟩ | ⟨c, d, e, h1, h2, h3, h4⟩
  · rcases h' with ⟨e', _⟩ | ⟨c', d', e', h1', h2', h3', _⟩
    · rw [e, e']
    · rw [h c' d' h1' h2'] at h3'
      cases h3'
  · rcases h' with ⟨e', h'⟩ | ⟨c', d', e', h1', h2', h3', h4'⟩
    · rw [h' c d h1 h2] at h3
      cases h3
    · have a1 := h4 c' d' h1' h2' h3'
      have a2 := h4' c d h1 h2 h3
      rw [e, e', show c = c' by omega, show d = d' by omega]
theorem IsF_s {H : Nat → Nat → Bool} {n : Nat} {o : Option (Nat × Nat)} (h : IsF H n o) : IsF H (n + 1) (clS o n (fsF (H n) 21 0)) := by
  have sp : ∀ c', c' < n + 1 → c' < n ∨ c' = n := fun c' h => by omega
  rcases fs_is (P := H n) 21 0 with ⟨e1, f1⟩ | ⟨k, e1, _, f2, f3, f4⟩
  · rw [e1]
    show IsF H (n + 1) o
    rcases h with ⟨e, h⟩ | ⟨c, d, e, h1, h2, h3, h4⟩
    · refine Or.inl ⟨e, fun c' d' hc hd => ?_⟩
      rcases sp c' hc with h5 | h5
      · exact h c' d' h5 hd
      · rw [h5]
        exact f1 d' (Nat.zero_le _) (by omega)
    · refine Or.inr ⟨c, d, e, by omega, h2, h3, fun c' d' hc hd hh => ?_⟩
      rcases sp c' hc with h5 | h5
      · exact h4 c' d' h5 hd hh
      · rw [h5, f1 d' (Nat.zero_le _) (by omega)] at hh
        cases hh
  · rw [e1]
    have nk : ∀ d', d' < 21 → H n d' = true → k ≤ d' := by
      intro d' hd hh
      by_cases hk : k ≤ d'
      · exact hk
      · rw [f4 d' (Nat.zero_le _) (by omega)] at hh
        cases hh
    rcases h with ⟨e, h⟩ | ⟨c, d, e, h1, h2, h3, h4⟩
    · rw [e]
      show IsF H (n + 1) (some (n, k))
      refine Or.inr ⟨n, k, rfl, by omega, by omega, f3, fun c' d' hc hd hh => ?_⟩
      rcases sp c' hc with h5 | h5
      · rw [h c' d' h5 hd] at hh
        cases hh
      · rw [h5] at hh
        have := nk d' hd hh
        omega
    · rw [e]
      show IsF H (n + 1) (if d ≤ k then some (c, d) else some (n, k))
      by_cases hdk : d ≤ k
      · rw [if_pos hdk]
        refine Or.inr ⟨c, d, rfl, by omega, h2, h3, fun c' d' hc hd hh => ?_⟩
        rcases sp c' hc with h5 | h5
        · exact h4 c' d' h5 hd hh
        · rw [h5] at hh
          have := nk d' hd hh
          omega
      · rw [if_neg hdk]
        refine Or.inr ⟨n, k, rfl, by omega, by omega, f3, fun c' d' hc hd hh => ?_⟩
        rcases sp c' hc with h5 | h5
        · have := h4 c' d' h5 hd hh
          omega
        · rw [h5] at hh
          have := nk d' hd hh
          omega
theorem clF_is {H : Nat → Nat → Bool} : ∀ (m c : Nat) (o : Option (Nat × Nat)), IsF H c o → IsF H (c + m) (clF H m c o)
  | 0, c, o, h => h
  | m + 1, c, o, h => by
    rw [show c + (m + 1) = c + 1 + m by omega]
    exact clF_is m (c + 1) _ (IsF_s h)
def rrF (H : Nat → Nat → Bool) (d : Nat) : Nat → Nat → Nat × Option (Nat × Nat) → Nat × Option (Nat × Nat)
  | 0, _, p => p
  | m + 1, c, p => rrF H d m (c + 1) (if H c d = true then (p.1 + 1, if p.1 = 0 then some (c, d) else p.2) else p)
def rrD (H : Nat → Nat → Bool) (n : Nat) : Nat → Nat → Nat × Option (Nat × Nat) → Nat × Option (Nat × Nat)
  | 0, _, p => p
  | m + 1, d, p => rrD H n m (d + 1) (rrF H d n 0 p)
/-- none so far, and all are still ahead; or the first is there -/
def JrF (H : Nat → Nat → Bool) (n c d : Nat) (p : Nat × Option (Nat × Nat)) : Prop := (p.1 = 0 ∧ p.2 = none ∧ ∀ c' d', c' < n → d' < 21 → H c' d' = true → d < d' ∨ (d' = d ∧ c ≤ c')) ∨ (p.1 ≠ 0 ∧ ∃ c0 d0, p.2 = some (c0, d0) ∧ c0 < n ∧ d0 < 21 ∧ H c0 d0 = true ∧ ∀ c' d', c' < n → d' < 21 → H c' d' = true → d0 < d' ∨ (d0 = d' ∧ c0 ≤ c'))
theorem rrF_j {H : Nat → Nat → Bool} {n d : Nat} (hd : d < 21) : ∀ (m c : Nat) (p : Nat × Option (Nat × Nat)), c + m = n → JrF H n c d p → JrF H n 0 (d + 1) (rrF H d m c p)
  | 0, c, p, hc, h => by
    rcases h with ⟨h1, h2, h3⟩ | h
    · refine Or.inl ⟨h1, h2, fun c' d' a b hh => ?_⟩
      have := h3 c' d' a b hh
      omega
    · exact Or.inr h
  | m + 1, c, p, hc, h => by
    refine rrF_j hd m (c + 1) _ (by omega) ?_
    by_cases hh : H c d = true
    · rw [if_pos hh]
      rcases h with ⟨h1, h2, h3⟩ | ⟨h1, c0, d0, h2, h3⟩
      · refine Or.inr ⟨by show p.1 + 1 ≠ 0; omega, c, d, ?_, by omega, hd, hh, fun c' d' a b h' => ?_⟩
        · show (if p.1 = 0 then some (c, d) else p.2) = some (c, d)
          rw [if_pos h1]
        · have := h3 c' d' a b h'
          omega
      · refine Or.inr ⟨by show p.1 + 1 ≠ 0; omega, c0, d0, ?_, h3⟩
        show (if p.1 = 0 then some (c, d) else p.2) = some (c0, d0)
        rw [if_neg h1]
        exact h2
    · rw [if_neg hh]
      rcases h with ⟨h1, h2, h3⟩ | h
      · refine Or.inl ⟨h1, h2, fun c' d' a b h' => ?_⟩
        have := h3 c' d' a b h'
        by_cases e : d' = d ∧ c' = c
        · rw [e.1, e.2] at h'
          exact absurd h' hh
        · omega
      · exact Or.inr h
theorem rrD_j {H : Nat → Nat → Bool} {n : Nat} : ∀ (m d : Nat) (p : Nat × Option (Nat × Nat)), d + m = 21 → JrF H n 0 d p → JrF H n 0 21 (rrD H n m d p)
  | 0, d, p, hd, h => by
    have : d = 21 := by omega
    rw [← this]
    exact h
  | m + 1, d, p, hd, h => rrD_j m (d + 1) _ (by omega) (rrF_j (by omega) n 0 p (by omega) h)
theorem JrF_is {H : Nat → Nat → Bool} {n : Nat} {p : Nat × Option (Nat × Nat)} (h : JrF H n 0 21 p) : IsF H n p.2 := by
  rcases h with ⟨h1, h2, h3⟩ | ⟨_, c0, d0, h2, h3⟩
  · refine Or.inl ⟨h2, fun c d a b => ?_⟩
    by_cases e : H c d = true
    · have := h3 c d a b e
      omega
    · exact Bool.eq_false_iff.mpr e
  · exact Or.inr ⟨c0, d0, h2, h3⟩
theorem rrF_c {H : Nat → Nat → Bool} {d : Nat} : ∀ (m c : Nat) (p : Nat × Option (Nat × Nat)), (rrF H d m c p).1 = p.1 + ctF (fun c => H c d) m c
  | 0, c, p => rfl
  | m + 1, c, p => by
    unfold rrF
    rw [rrF_c m (c + 1), ctF_s]
    by_cases hh : H c d = true
    · rw [if_pos hh, if_pos hh]
      show p.1 + 1 + _ = _
      omega
    · rw [if_neg hh, if_neg hh]
      omega
theorem ctS_s {H : Nat → Nat → Bool} {D d : Nat} : ∀ (m c : Nat), ctS H (D + 1) d m c = ctF (fun c => H c d) m c + ctS H D (d + 1) m c
  | 0, c => rfl
  | m + 1, c => by
    show ctF (H c) (D + 1) d + ctS H (D + 1) d m (c + 1) = ctF (fun c => H c d) (m + 1) c + (ctF (H c) D (d + 1) + ctS H D (d + 1) m (c + 1))
    rw [ctS_s m (c + 1), ctF_s, ctF_s]
    omega
theorem ctS_0 {H : Nat → Nat → Bool} {d : Nat} : ∀ (m c : Nat), ctS H 0 d m c = 0
  | 0, c => rfl
  | m + 1, c => by
    show 0 + ctS H 0 d m (c + 1) = 0
    rw [ctS_0 m (c + 1)]
theorem rrD_c {H : Nat → Nat → Bool} {n : Nat} : ∀ (m d : Nat) (p : Nat × Option (Nat × Nat)), (rrD H n m d p).1 = p.1 + ctS H m d n 0
  | 0, d, p => by
    rw [ctS_0]
    rfl
  | m + 1, d, p => by
    unfold rrD
    rw [rrD_c m (d + 1), rrF_c, ctS_s]
    omega
theorem seen_eq {H : Nat → Nat → Bool} {n : Nat} : rrD H n 21 0 (0, none) = (ctS H 21 0 n 0, clF H n 0 none) := by
  have h1 := rrD_c (H := H) (n := n) 21 0 (0, none)
  have h2 := JrF_is (rrD_j (H := H) (n := n) 21 0 (0, none) (by decide) (Or.inl ⟨rfl, rfl, fun c' d' _ _ _ => by omega⟩))
  have h3 := clF_is (H := H) n 0 none (Or.inl ⟨rfl, fun c d h _ => by omega⟩)
  rw [Nat.zero_add] at h3
  have h4 := IsF_u h2 h3
  refine Prod.ext ?_ h4
  rw [h1]
  show 0 + _ = _
  rw [Nat.zero_add]
def o1I (o : Option (Nat × Nat)) : Int32 := o.elim (-2) (fun p => nI p.1)
def o2I (o : Option (Nat × Nat)) : Int32 := o.elim (-2) (fun p => nI p.2)
def seAns (v : Nat) (p : Nat × Option (Nat × Nat)) : Int32 := if v = 0 then nI p.1 else if v = 1 then o1I p.2 else o2I p.2
section S67
variable {b : AB} {w : AW} {t tc : Nat}
theorem ctS_le {H : Nat → Nat → Bool} {D d : Nat} : ∀ (m c : Nat), ctS H D d m c ≤ m * D
  | 0, c => Nat.zero_le _
  | m + 1, c => by
    have h1 := ctS_le (H := H) (D := D) (d := d) m (c + 1)
    have h2 := ctF_le (H c) D d
    show ctF (H c) D d + _ ≤ _
    rw [Nat.succ_mul]
    omega
theorem msk_ct {c : Nat} : ctF (mskN b w t tc c).testBit 24 0 = ctF (HW b w t tc c) 21 0 := by
  have e : (24 : Nat) = 21 + 3 := rfl
  rw [e, ctF_add, ctF_0 3 (0 + 21) (fun i a _ => by rw [msk_tb, decide_eq_false (by omega)]; rfl), Nat.add_zero]
  exact ctF_eq _ _ (fun i _ h => by rw [msk_tb, decide_eq_true (by omega)]; rfl)
theorem g133l {T : xS} {v : Nat} (hB : CB T 89 b) (hb : OkB b) (hw : CW T 95 w) (ht : isTx t = true) (htc : tc < b 0 0) (hv : v ≤ 2) : ∀ (m c x : Nat) (o : Option (Nat × Nat)), c + m = b 0 0 → x ≤ 21 * c → (∀ p, o = some p → p.1 < 16 ∧ p.2 < 21) → Ev (fun n => G133f n 40 (nI t) (nI tc) (nI v) (nI x) (o1I o) (o2I o) (nI c) T) (seAns v (x + ctS (HW b w t tc) 21 0 m c, clF (HW b w t tc) m c o), T) := by
  have hb1 := hb.1
  intro m
  induction m with
  | zero =>
    intro c x o hc hx ho
    refine ev_succ (fun n => G133e40 n ..) ?_
    have e : b 0 0 ≤ c := by omega
    unfold seAns
    have hv' : v = 0 ∨ v = 1 ∨ v = 2 := by omega
    rcases hv' with rfl | rfl | rfl
    · simp (disch := omega) only [G133b40, L0, L1, L2, L3, L4, L5, L6, L7, L8, L9, L10, L11, L12, L13, L16, L20, L31, L32, L40, L48, L57, L59, L60, L61, L91, L93, L97, L99, L100, L102, L103, L114, L122, L255, L300, L400, L402, L999, L2280, L2500, L99999, L63, L1431655765, L858993459, L252645135, ic_ge, ic_gt, ic_le, ic_lt, ic_eq, ic_ne, if_lt, if_ge, if_gt, if_le, if_eq, if_ne, if_lt_zI, if_ge_zI, ic_ne_m1, ic_eq_m1, ic_nn_m1, ic_ee_m1, if_ne_b2i, if_eq_b2i, b2i_z, decide_eq_true_eq, decide_true, decide_false, Bool.not_eq_true, Bool.not_eq_true', Bool.not_true, Bool.not_false, decide_eq_false_iff_not, Bool.false_eq_true, not_false_eq_true, not_true_eq_false, if_true, if_false, ↓reduceIte, eq_self, Option.bind_some, Bool.true_and, Bool.false_and, Bool.and_true, Bool.and_false, nI_add, nI_subN, nI_clamp, gdF, gdF2, gdP, gdP2, zI_cl, zI_s, Lm1, nI_n0, zI_n0, leF, or_false, false_or, or_self, hB.1, e]
      exact ev_ret
    · simp (disch := omega) only [G133b40, L0, L1, L2, L3, L4, L5, L6, L7, L8, L9, L10, L11, L12, L13, L16, L20, L31, L32, L40, L48, L57, L59, L60, L61, L91, L93, L97, L99, L100, L102, L103, L114, L122, L255, L300, L400, L402, L999, L2280, L2500, L99999, L63, L1431655765, L858993459, L252645135, ic_ge, ic_gt, ic_le, ic_lt, ic_eq, ic_ne, if_lt, if_ge, if_gt, if_le, if_eq, if_ne, if_lt_zI, if_ge_zI, ic_ne_m1, ic_eq_m1, ic_nn_m1, ic_ee_m1, if_ne_b2i, if_eq_b2i, b2i_z, decide_eq_true_eq, decide_true, decide_false, Bool.not_eq_true, Bool.not_eq_true', Bool.not_true, Bool.not_false, decide_eq_false_iff_not, Bool.false_eq_true, not_false_eq_true, not_true_eq_false, if_true, if_false, ↓reduceIte, eq_self, Option.bind_some, Bool.true_and, Bool.false_and, Bool.and_true, Bool.and_false, nI_add, nI_subN, nI_clamp, gdF, gdF2, gdP, gdP2, zI_cl, zI_s, Lm1, nI_n0, zI_n0, leF, or_false, false_or, or_self, hB.1, e, Nat.one_ne_zero]
      exact ev_ret
    · simp (disch := omega) only [G133b40, L0, L1, L2, L3, L4, L5, L6, L7, L8, L9, L10, L11, L12, L13, L16, L20, L31, L32, L40, L48, L57, L59, L60, L61, L91, L93, L97, L99, L100, L102, L103, L114, L122, L255, L300, L400, L402, L999, L2280, L2500, L99999, L63, L1431655765, L858993459, L252645135, ic_ge, ic_gt, ic_le, ic_lt, ic_eq, ic_ne, if_lt, if_ge, if_gt, if_le, if_eq, if_ne, if_lt_zI, if_ge_zI, ic_ne_m1, ic_eq_m1, ic_nn_m1, ic_ee_m1, if_ne_b2i, if_eq_b2i, b2i_z, decide_eq_true_eq, decide_true, decide_false, Bool.not_eq_true, Bool.not_eq_true', Bool.not_true, Bool.not_false, decide_eq_false_iff_not, Bool.false_eq_true, not_false_eq_true, not_true_eq_false, if_true, if_false, ↓reduceIte, eq_self, Option.bind_some, Bool.true_and, Bool.false_and, Bool.and_true, Bool.and_false, nI_add, nI_subN, nI_clamp, gdF, gdF2, gdP, gdP2, zI_cl, zI_s, Lm1, nI_n0, zI_n0, leF, or_false, false_or, or_self, hB.1, e, show ¬ 2 = 0 by decide, show ¬ 2 = 1 by decide]
      exact ev_ret
  | succ m ih =>
    intro c x o hc hx ho
    refine ev_succ (fun n => G133e40 n ..) ?_
    have e : ¬ b 0 0 ≤ c := by omega
    have hlt := msk_lt (b := b) (w := w) (t := t) (tc := tc) (c := c)
    have hct := ctF_le (HW b w t tc c) 21 0
    simp (disch := omega) only [G133b40, L0, L1, L2, L3, L4, L5, L6, L7, L8, L9, L10, L11, L12, L13, L16, L20, L31, L32, L40, L48, L57, L59, L60, L61, L91, L93, L97, L99, L100, L102, L103, L114, L122, L255, L300, L400, L402, L999, L2280, L2500, L99999, L63, L1431655765, L858993459, L252645135, ic_ge, ic_gt, ic_le, ic_lt, ic_eq, ic_ne, if_lt, if_ge, if_gt, if_le, if_eq, if_ne, if_lt_zI, if_ge_zI, ic_ne_m1, ic_eq_m1, ic_nn_m1, ic_ee_m1, if_ne_b2i, if_eq_b2i, b2i_z, decide_eq_true_eq, decide_true, decide_false, Bool.not_eq_true, Bool.not_eq_true', Bool.not_true, Bool.not_false, decide_eq_false_iff_not, Bool.false_eq_true, not_false_eq_true, not_true_eq_false, if_true, if_false, ↓reduceIte, eq_self, Option.bind_some, Bool.true_and, Bool.false_and, Bool.and_true, Bool.and_false, nI_add, nI_subN, nI_clamp, gdF, gdF2, gdP, gdP2, zI_cl, zI_s, Lm1, nI_n0, zI_n0, leF, or_false, false_or, or_self, hB.1, e]
    refine ev_bind (g134 hB hb hw ht htc (by omega)) ?_
    refine ev_bind (g92w (by omega)) ?_
    rw [msk_ct]
    show Ev _ (seAns v (x + (ctF (HW b w t tc c) 21 0 + ctS (HW b w t tc) 21 0 m (c + 1)), clF (HW b w t tc) m (c + 1) (clS o c (fsF (HW b w t tc c) 21 0))), T)
    rw [← Nat.add_assoc]
    by_cases h0 : mskN b w t tc c = 0
    · have hf : fsF (HW b w t tc c) 21 0 = none := fs_none _ _ (fun i _ hi => by
        have := msk_tb (b := b) (w := w) (t := t) (tc := tc) (c := c) (i := i)
        rw [h0, Nat.zero_testBit, decide_eq_true (show i < 21 by omega), Bool.true_and] at this
        exact this.symm)
      rw [hf, h0]
      refine ev_bind g117z ?_
      simp (disch := omega) only [L0, L1, L2, L3, L4, L5, L6, L7, L8, L9, L10, L11, L12, L13, L16, L20, L31, L32, L40, L48, L57, L59, L60, L61, L91, L93, L97, L99, L100, L102, L103, L114, L122, L255, L300, L400, L402, L999, L2280, L2500, L99999, L63, L1431655765, L858993459, L252645135, ic_ge, ic_gt, ic_le, ic_lt, ic_eq, ic_ne, if_lt, if_ge, if_gt, if_le, if_eq, if_ne, if_lt_zI, if_ge_zI, ic_ne_m1, ic_eq_m1, ic_nn_m1, ic_ee_m1, if_ne_b2i, if_eq_b2i, b2i_z, decide_eq_true_eq, decide_true, decide_false, Bool.not_eq_true, Bool.not_eq_true', Bool.not_true, Bool.not_false, decide_eq_false_iff_not, Bool.false_eq_true, not_false_eq_true, not_true_eq_false, if_true, if_false, ↓reduceIte, eq_self, Option.bind_some, Bool.true_and, Bool.false_and, Bool.and_true, Bool.and_false, nI_add, nI_subN, nI_clamp, gdF, gdF2, gdP, gdP2, zI_cl, zI_s, Lm1, nI_n0, zI_n0, leF, or_false, false_or, or_self]
      exact ih (c + 1) _ o (by omega) (by omega) ho
    · obtain ⟨k, hk, hk1, hk2, hk3⟩ := g117 (T := T) h0 hlt (by decide)
      have hf : fsF (HW b w t tc c) 21 0 = some k := fs_some (by
        rw [msk_tb, decide_eq_true hk, Bool.true_and] at hk1
        exact hk1) _ _ (Nat.zero_le _) (by omega) (fun i _ hi => by
        have := hk2 i hi
        rw [msk_tb, decide_eq_true (show i < 21 by omega), Bool.true_and] at this
        exact this)
      rw [hf]
      refine ev_bind hk3 ?_
      have hnz : ¬ mskN b w t tc c = 0 := h0
      cases o with
      | none =>
        have e2 : am_if .lt (o2I none) = true := by decide
        simp (disch := omega) only [L0, L1, L2, L3, L4, L5, L6, L7, L8, L9, L10, L11, L12, L13, L16, L20, L31, L32, L40, L48, L57, L59, L60, L61, L91, L93, L97, L99, L100, L102, L103, L114, L122, L255, L300, L400, L402, L999, L2280, L2500, L99999, L63, L1431655765, L858993459, L252645135, ic_ge, ic_gt, ic_le, ic_lt, ic_eq, ic_ne, if_lt, if_ge, if_gt, if_le, if_eq, if_ne, if_lt_zI, if_ge_zI, ic_ne_m1, ic_eq_m1, ic_nn_m1, ic_ee_m1, if_ne_b2i, if_eq_b2i, b2i_z, decide_eq_true_eq, decide_true, decide_false, Bool.not_eq_true, Bool.not_eq_true', Bool.not_true, Bool.not_false, decide_eq_false_iff_not, Bool.false_eq_true, not_false_eq_true, not_true_eq_false, if_true, if_false, ↓reduceIte, eq_self, Option.bind_some, Bool.true_and, Bool.false_and, Bool.and_true, Bool.and_false, nI_add, nI_subN, nI_clamp, gdF, gdF2, gdP, gdP2, zI_cl, zI_s, Lm1, nI_n0, zI_n0, leF, or_false, false_or, or_self, hnz, e2]
        exact ih (c + 1) _ (some (c, k)) (by omega) (by omega) (fun p hp => by
          cases hp
          exact ⟨by show c < 16; omega, hk⟩)
      | some p =>
        have hp := ho p rfl
        obtain ⟨c0, k0⟩ := p
        have hp2 : k0 < 21 := hp.2
        have e2 : o2I (some (c0, k0)) = nI k0 := rfl
        rw [e2]
        show Ev _ (seAns v (_, clF (HW b w t tc) m (c + 1) (if k0 ≤ k then some (c0, k0) else some (c, k))), T)
        by_cases hkk : k0 ≤ k
        · rw [if_pos hkk]
          simp (disch := omega) only [L0, L1, L2, L3, L4, L5, L6, L7, L8, L9, L10, L11, L12, L13, L16, L20, L31, L32, L40, L48, L57, L59, L60, L61, L91, L93, L97, L99, L100, L102, L103, L114, L122, L255, L300, L400, L402, L999, L2280, L2500, L99999, L63, L1431655765, L858993459, L252645135, ic_ge, ic_gt, ic_le, ic_lt, ic_eq, ic_ne, if_lt, if_ge, if_gt, if_le, if_eq, if_ne, if_lt_zI, if_ge_zI, ic_ne_m1, ic_eq_m1, ic_nn_m1, ic_ee_m1, if_ne_b2i, if_eq_b2i, b2i_z, decide_eq_true_eq, decide_true, decide_false, Bool.not_eq_true, Bool.not_eq_true', Bool.not_true, Bool.not_false, decide_eq_false_iff_not, Bool.false_eq_true, not_false_eq_true, not_true_eq_false, if_true, if_false, ↓reduceIte, eq_self, Option.bind_some, Bool.true_and, Bool.false_and, Bool.and_true, Bool.and_false, nI_add, nI_subN, nI_clamp, gdF, gdF2, gdP, gdP2, zI_cl, zI_s, Lm1, nI_n0, zI_n0, leF, or_false, false_or, or_self, hnz, hkk]
          exact ih (c + 1) _ (some (c0, k0)) (by omega) (by omega) ho
        · rw [if_neg hkk]
          simp (disch := omega) only [L0, L1, L2, L3, L4, L5, L6, L7, L8, L9, L10, L11, L12, L13, L16, L20, L31, L32, L40, L48, L57, L59, L60, L61, L91, L93, L97, L99, L100, L102, L103, L114, L122, L255, L300, L400, L402, L999, L2280, L2500, L99999, L63, L1431655765, L858993459, L252645135, ic_ge, ic_gt, ic_le, ic_lt, ic_eq, ic_ne, if_lt, if_ge, if_gt, if_le, if_eq, if_ne, if_lt_zI, if_ge_zI, ic_ne_m1, ic_eq_m1, ic_nn_m1, ic_ee_m1, if_ne_b2i, if_eq_b2i, b2i_z, decide_eq_true_eq, decide_true, decide_false, Bool.not_eq_true, Bool.not_eq_true', Bool.not_true, Bool.not_false, decide_eq_false_iff_not, Bool.false_eq_true, not_false_eq_true, not_true_eq_false, if_true, if_false, ↓reduceIte, eq_self, Option.bind_some, Bool.true_and, Bool.false_and, Bool.and_true, Bool.and_false, nI_add, nI_subN, nI_clamp, gdF, gdF2, gdP, gdP2, zI_cl, zI_s, Lm1, nI_n0, zI_n0, leF, or_false, false_or, or_self, hnz, hkk]
          exact ih (c + 1) _ (some (c, k)) (by omega) (by omega) (fun p hp => by
            cases hp
            exact ⟨by show c < 16; omega, hk⟩)
end S67
