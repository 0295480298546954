/-! the whole day in the program -/
theorem fdA_two {l : LW} {w : AW} {c a j : Nat} (h : fdA l w c (w.1 0 1) 0 = some (a, j)) : 2 ≤ manyN w c := by
  have h := fdA_ok _ _ _ _ h
  unfold manyN
  obtain ⟨k, hk⟩ : ∃ k, w.1 0 1 = (a + 1) + k := ⟨w.1 0 1 - (a + 1), by omega⟩
  rw [hk, ctF_add]
  have h1 := ctF_pos (P := fun s => decide (w.1 1 s = c + 1)) (s := a) (a + 1) 0 (by omega) (by omega) (decide_eq_true h.2.2.2.1)
  have h2 := ctF_pos (P := fun s => decide (w.1 1 s = c + 1)) (s := j) k (0 + (a + 1)) (by omega) (by omega) (decide_eq_true h.2.2.2.2.1)
  omega
theorem j1A_none {l : LW} {w : AW} {c : Nat} (h : manyN w c ≤ 1) : j1A l c w = none := by
  unfold j1A
  cases hf : fdA l w c (w.1 0 1) 0 with
  | none => rfl
  | some p =>
    have := fdA_two (a := p.1) (j := p.2) hf
    omega
theorem jnA_id {l : LW} {w : AW} {c k : Nat} (h : manyN w c ≤ 1) : jnA l c k w = w := by
  cases k with
  | zero => rfl
  | succ k =>
    unfold jnA
    rw [j1A_none h]
    rfl
theorem joinA_1 {w : AW} {a j s : Nat} : (joinA w a j).1 1 s = if s = j then 0 else w.1 1 s := by
  unfold joinA
  by_cases e : s = j
  · subst e
    rw [leaveA_1, if_pos rfl]
  · rw [leaveA_o e, aS_n (by omega), if_neg e]
theorem joinA_0 {w : AW} {a j i : Nat} : (joinA w a j).1 0 i = w.1 0 i := by
  unfold joinA
  rw [leaveA_r (by omega), aS_n (by omega)]
theorem joinA_many {w : AW} {a j c : Nat} (hj : j < w.1 0 1) (h1 : w.1 1 j = c + 1) (c' : Nat) : manyN (joinA w a j) c' = manyN w c' - (if c' = c then 1 else 0) := by
  unfold manyN
  rw [joinA_0]
  by_cases e : c' = c
  · subst e
    rw [if_pos rfl]
    have := ctF_up (P := fun s => decide ((joinA w a j).1 1 s = c' + 1)) (Q := fun s => decide (w.1 1 s = c' + 1)) (s := j) (w.1 0 1) 0 (Nat.zero_le _) (by omega) (fun i hi => by rw [joinA_1, if_neg hi]) (by rw [joinA_1, if_pos rfl]; exact decide_eq_false (by omega)) (decide_eq_true h1)
    omega
  · rw [if_neg e, Nat.sub_zero]
    refine ctF_eq _ _ (fun i _ _ => ?_)
    rw [joinA_1]
    by_cases ei : i = j
    · subst ei
      rw [if_pos rfl, h1]
      exact decide_eq_decide.mpr (by omega)
    · rw [if_neg ei]
theorem j1A_many {l : LW} {w w' : AW} {c : Nat} (h : j1A l c w = some w') (c' : Nat) : manyN w' c' = manyN w c' - (if c' = c then 1 else 0) := by
  unfold j1A at h
  cases hf : fdA l w c (w.1 0 1) 0 with
  | none => rw [hf] at h; cases h
  | some p =>
    rw [hf] at h
    cases h
    have h := fdA_ok _ _ _ _ hf
    exact joinA_many (by omega) h.2.2.2.2.1 c'
theorem jnA_many {l : LW} {c c' : Nat} (hc : c' ≠ c) : ∀ (k : Nat) (w : AW), manyN (jnA l c k w) c' = manyN w c'
  | 0, w => rfl
  | k + 1, w => by
    unfold jnA
    cases h : j1A l c w with
    | none => rfl
    | some w' =>
      show manyN (jnA l c k w') c' = _
      rw [jnA_many hc k w', j1A_many h c', if_neg hc, Nat.sub_zero]
theorem fold_add {α : Type} {f : Nat → α → α} : ∀ (m k j : Nat) (x : α), fold f (m + k) j x = fold f k (j + m) (fold f m j x)
  | 0, k, j, x => by rw [Nat.zero_add, Nat.add_zero]; rfl
  | m + 1, k, j, x => by
    rw [show m + 1 + k = (m + k) + 1 by omega]
    show fold f (m + k) (j + 1) (f j x) = fold f k (j + (m + 1)) (fold f m (j + 1) (f j x))
    rw [fold_add m k (j + 1), show j + 1 + m = j + (m + 1) by omega]
theorem fold_idI {α : Type} {f : Nat → α → α} (x : α) : ∀ (m j : Nat), (∀ i, j ≤ i → i < j + m → f i x = x) → fold f m j x = x
  | 0, _, _ => rfl
  | m + 1, j, h => by
    show fold f m (j + 1) (f j x) = x
    rw [h j (Nat.le_refl _) (by omega)]
    exact fold_idI x m (j + 1) (fun i h1 h2 => h i (by omega) (by omega))
theorem many_out {b : AB} {w : AW} {c : Nat} (ok : OkW b w) (hc : b 0 0 ≤ c) : manyN w c = 0 := by
  unfold manyN
  refine ctF_0 _ _ (fun i _ hi => decide_eq_false (fun h => ?_))
  have := (ok.2.1 i (by omega)).2.2.2.1
  omega
theorem joins16 {b : AB} {l : LW} {w : AW} (hb : OkB b) (ok : OkW b w) : fold (fun c => jnA l c 13) 16 0 w = joinsA b l w := by
  obtain ⟨k, hk⟩ : ∃ k, 16 = b 0 0 + k := ⟨16 - b 0 0, by have := hb.1; omega⟩
  rw [hk, fold_add]
  show fold (fun c => jnA l c 13) k (0 + b 0 0) (joinsA b l w) = _
  have st := joinsA_St (b := b) (l := l) (w := w)
  refine fold_idI _ _ _ (fun i h1 h2 => jnA_id ?_)
  have := many_out (c := i) (st.2 ok) (by omega)
  omega
theorem St_d {b : AB} {w w' : AW} (h : St b w w') : w'.1 0 0 = w.1 0 0 := h.1.2.1 0
theorem St_n {b : AB} {w w' : AW} (h : St b w w') : w'.1 0 1 = w.1 0 1 := h.1.2.1 1
section G86
variable {T0 : xS} {wb : Nat} {lo : Option Nat} {ln : Nat} {b : AB} {l : LW} {cc : Nat → Int32}
theorem g86j {v c : Nat} (hc : c < 16) (P : Unit × xS → Prop) : ∀ (k k' : Nat) (T : xS) (w : AW), k + k' = 13 → w.1 0 0 < 999 → DS T0 T wb lo ln b l cc w → (∀ T', DS T0 T' wb lo ln b l cc (jnA l c k' w) → Ep (fun n => G86f wb lo ln n 55 (nI v) (nI (c + 1)) (nI 0) (nI 0) T') P) → Ep (fun n => G86f wb lo ln n 85 (nI v) (nI c) (nI 1) (nI k) T) P := by
  intro k k'
  induction k' generalizing k with
  | zero =>
    intro T w hk hd hS K
    refine ep_succ (fun n => G86e85 wb lo ln n ..) ?_
    have e : 13 ≤ k := by omega
    simp (disch := omega) only [G86b85, L0, L1, L2, L3, L4, L5, L6, L7, L8, L9, L10, L11, L12, L13, L16, L20, L31, L32, L40, L48, L57, L59, L60, L61, L91, L93, L97, L99, L100, L102, L103, L114, L122, L255, L300, L400, L402, L999, L2280, L2500, L99999, L63, L1431655765, L858993459, L252645135, ic_ge, ic_gt, ic_le, ic_lt, ic_eq, ic_ne, if_lt, if_ge, if_gt, if_le, if_eq, if_ne, if_lt_zI, if_ge_zI, ic_ne_m1, ic_eq_m1, ic_nn_m1, ic_ee_m1, if_ne_b2i, if_eq_b2i, b2i_z, decide_eq_true_eq, decide_true, decide_false, Bool.not_eq_true, Bool.not_eq_true', Bool.not_true, Bool.not_false, decide_eq_false_iff_not, Bool.false_eq_true, not_false_eq_true, not_true_eq_false, if_true, if_false, ↓reduceIte, eq_self, Option.bind_some, Bool.true_and, Bool.false_and, Bool.and_true, Bool.and_false, nI_add, nI_subN, nI_clamp, gdF, gdF2, gdP, zI_cl, zI_s, Lm1, e]
    exact K T hS
  | succ k' ih =>
    intro T w hk hd hS K
    refine ep_succ (fun n => G86e85 wb lo ln n ..) ?_
    have e : ¬ 13 ≤ k := by omega
    simp (disch := omega) only [G86b85, L0, L1, L2, L3, L4, L5, L6, L7, L8, L9, L10, L11, L12, L13, L16, L20, L31, L32, L40, L48, L57, L59, L60, L61, L91, L93, L97, L99, L100, L102, L103, L114, L122, L255, L300, L400, L402, L999, L2280, L2500, L99999, L63, L1431655765, L858993459, L252645135, ic_ge, ic_gt, ic_le, ic_lt, ic_eq, ic_ne, if_lt, if_ge, if_gt, if_le, if_eq, if_ne, if_lt_zI, if_ge_zI, ic_ne_m1, ic_eq_m1, ic_nn_m1, ic_ee_m1, if_ne_b2i, if_eq_b2i, b2i_z, decide_eq_true_eq, decide_true, decide_false, Bool.not_eq_true, Bool.not_eq_true', Bool.not_true, Bool.not_false, decide_eq_false_iff_not, Bool.false_eq_true, not_false_eq_true, not_true_eq_false, if_true, if_false, ↓reduceIte, eq_self, Option.bind_some, Bool.true_and, Bool.false_and, Bool.and_true, Bool.and_false, nI_add, nI_subN, nI_clamp, gdF, gdF2, gdP, zI_cl, zI_s, Lm1, e, Nat.one_ne_zero]
    refine ep_bind (g91 (by omega) hc hS) ?_
    rintro ⟨z1, T1⟩ hz
    have K' : ∀ T', DS T0 T' wb lo ln b l cc ((j1A l c w).elim w (jnA l c k')) → Ep (fun n => G86f wb lo ln n 55 (nI v) (nI (c + 1)) (nI 0) (nI 0) T') P := K
    unfold j1A at K'
    cases hf : fdA l w c (w.1 0 1) 0 with
    | none =>
      rw [hf] at hz K'
      have e1 : z1 = nI 0 := hz.1
      have hS1 : DS T0 T1 wb lo ln b l cc w := hz.2
      subst e1
      refine ep_succ (fun n => G86e85 wb lo ln n ..) ?_
      by_cases e2 : 13 ≤ k + 1
      · simp (disch := omega) only [G86b85, L0, L1, L2, L3, L4, L5, L6, L7, L8, L9, L10, L11, L12, L13, L16, L20, L31, L32, L40, L48, L57, L59, L60, L61, L91, L93, L97, L99, L100, L102, L103, L114, L122, L255, L300, L400, L402, L999, L2280, L2500, L99999, L63, L1431655765, L858993459, L252645135, ic_ge, ic_gt, ic_le, ic_lt, ic_eq, ic_ne, if_lt, if_ge, if_gt, if_le, if_eq, if_ne, if_lt_zI, if_ge_zI, ic_ne_m1, ic_eq_m1, ic_nn_m1, ic_ee_m1, if_ne_b2i, if_eq_b2i, b2i_z, decide_eq_true_eq, decide_true, decide_false, Bool.not_eq_true, Bool.not_eq_true', Bool.not_true, Bool.not_false, decide_eq_false_iff_not, Bool.false_eq_true, not_false_eq_true, not_true_eq_false, if_true, if_false, ↓reduceIte, eq_self, Option.bind_some, Bool.true_and, Bool.false_and, Bool.and_true, Bool.and_false, nI_add, nI_subN, nI_clamp, gdF, gdF2, gdP, zI_cl, zI_s, Lm1, e2]
        exact K' T1 hS1
      · simp (disch := omega) only [G86b85, L0, L1, L2, L3, L4, L5, L6, L7, L8, L9, L10, L11, L12, L13, L16, L20, L31, L32, L40, L48, L57, L59, L60, L61, L91, L93, L97, L99, L100, L102, L103, L114, L122, L255, L300, L400, L402, L999, L2280, L2500, L99999, L63, L1431655765, L858993459, L252645135, ic_ge, ic_gt, ic_le, ic_lt, ic_eq, ic_ne, if_lt, if_ge, if_gt, if_le, if_eq, if_ne, if_lt_zI, if_ge_zI, ic_ne_m1, ic_eq_m1, ic_nn_m1, ic_ee_m1, if_ne_b2i, if_eq_b2i, b2i_z, decide_eq_true_eq, decide_true, decide_false, Bool.not_eq_true, Bool.not_eq_true', Bool.not_true, Bool.not_false, decide_eq_false_iff_not, Bool.false_eq_true, not_false_eq_true, not_true_eq_false, if_true, if_false, ↓reduceIte, eq_self, Option.bind_some, Bool.true_and, Bool.false_and, Bool.and_true, Bool.and_false, nI_add, nI_subN, nI_clamp, gdF, gdF2, gdP, zI_cl, zI_s, Lm1, e2]
        exact K' T1 hS1
    | some p =>
      rw [hf] at hz K'
      have e1 : z1 = nI 1 := hz.1
      have hS1 : DS T0 T1 wb lo ln b l cc (joinA w p.1 p.2) := hz.2
      subst e1
      refine ih (k + 1) T1 (joinA w p.1 p.2) (by omega) (by rw [joinA_0]; exact hd) hS1 ?_
      exact K'
theorem g86e {T : xS} {w : AW} (hd : w.1 0 0 < 999) (hS : DS T0 T wb lo ln b l cc w) : Ep (fun n => (G99 wb lo ln n T).bind (fun z11 => (G100 wb lo ln n (nI 1) z11.2).bind (fun z13 => some ((), z13.2)))) (fun z => DS T0 z.2 wb lo ln b l cc (morrowA (catchesA w))) := by
  refine ep_bind (g99 hS) ?_
  rintro ⟨_, T1⟩ h1
  have h1 : DS T0 T1 wb lo ln b l cc (catchesA w) := h1
  have st := catchesA_St hS.2.2.1
  refine ep_bind (g100 (by rw [St_d st]; exact hd) h1) ?_
  rintro ⟨_, T2⟩ h2
  exact ep_ret h2
theorem g86c {v : Nat} (hv : v < 65536) : ∀ (m c : Nat) (T : xS) (w : AW), c + m = 16 → w.1 0 0 < 999 → DS T0 T wb lo ln b l cc w → (∀ c', c ≤ c' → v.testBit c' = decide (2 ≤ manyN w c')) → Ep (fun n => G86f wb lo ln n 55 (nI v) (nI c) (nI 0) (nI 0) T) (fun z => DS T0 z.2 wb lo ln b l cc (morrowA (catchesA (fold (fun c => jnA l c 13) m c w)))) := by
  intro m
  induction m with
  | zero =>
    intro c T w hc hd hS hv'
    refine ep_succ (fun n => G86e55 wb lo ln n ..) ?_
    have e : 16 ≤ c := by omega
    simp (disch := omega) only [G86b55, L0, L1, L2, L3, L4, L5, L6, L7, L8, L9, L10, L11, L12, L13, L16, L20, L31, L32, L40, L48, L57, L59, L60, L61, L91, L93, L97, L99, L100, L102, L103, L114, L122, L255, L300, L400, L402, L999, L2280, L2500, L99999, L63, L1431655765, L858993459, L252645135, ic_ge, ic_gt, ic_le, ic_lt, ic_eq, ic_ne, if_lt, if_ge, if_gt, if_le, if_eq, if_ne, if_lt_zI, if_ge_zI, ic_ne_m1, ic_eq_m1, ic_nn_m1, ic_ee_m1, if_ne_b2i, if_eq_b2i, b2i_z, decide_eq_true_eq, decide_true, decide_false, Bool.not_eq_true, Bool.not_eq_true', Bool.not_true, Bool.not_false, decide_eq_false_iff_not, Bool.false_eq_true, not_false_eq_true, not_true_eq_false, if_true, if_false, ↓reduceIte, eq_self, Option.bind_some, Bool.true_and, Bool.false_and, Bool.and_true, Bool.and_false, nI_add, nI_subN, nI_clamp, gdF, gdF2, gdP, zI_cl, zI_s, Lm1, e]
    exact g86e hd hS
  | succ m ih =>
    intro c T w hc hd hS hv'
    refine ep_succ (fun n => G86e55 wb lo ln n ..) ?_
    have e : ¬ 16 ≤ c := by omega
    have hvs : v >>> c ≤ v := by
      rw [Nat.shiftRight_eq_div_pow]
      exact Nat.div_le_self _ _
    simp (disch := omega) only [G86b55, nI_shr, L0, L1, L2, L3, L4, L5, L6, L7, L8, L9, L10, L11, L12, L13, L16, L20, L31, L32, L40, L48, L57, L59, L60, L61, L91, L93, L97, L99, L100, L102, L103, L114, L122, L255, L300, L400, L402, L999, L2280, L2500, L99999, L63, L1431655765, L858993459, L252645135, ic_ge, ic_gt, ic_le, ic_lt, ic_eq, ic_ne, if_lt, if_ge, if_gt, if_le, if_eq, if_ne, if_lt_zI, if_ge_zI, ic_ne_m1, ic_eq_m1, ic_nn_m1, ic_ee_m1, if_ne_b2i, if_eq_b2i, b2i_z, decide_eq_true_eq, decide_true, decide_false, Bool.not_eq_true, Bool.not_eq_true', Bool.not_true, Bool.not_false, decide_eq_false_iff_not, Bool.false_eq_true, not_false_eq_true, not_true_eq_false, if_true, if_false, ↓reduceIte, eq_self, Option.bind_some, Bool.true_and, Bool.false_and, Bool.and_true, Bool.and_false, nI_add, nI_subN, nI_clamp, gdF, gdF2, gdP, zI_cl, zI_s, Lm1, e, nI_bit2, ic_ne_b2i]
    by_cases h0 : v >>> c = 0
    · simp only [h0, decide_eq_true_eq, decide_true, decide_false, Bool.not_eq_true, Bool.not_eq_true', Bool.not_true, Bool.not_false, decide_eq_false_iff_not, Bool.false_eq_true, not_false_eq_true, not_true_eq_false, if_true, if_false, ↓reduceIte, eq_self, Option.bind_some, Bool.true_and, Bool.false_and, Bool.and_true, Bool.and_false]
      have hid : fold (fun c => jnA l c 13) (m + 1) c w = w := by
        refine fold_idI _ _ _ (fun i h1 h2 => jnA_id ?_)
        have hb := hv' i h1
        have hz : v.testBit i = false := by
          obtain ⟨d, rfl⟩ : ∃ d, i = c + d := ⟨i - c, by omega⟩
          rw [← Nat.testBit_shiftRight, h0, Nat.zero_testBit]
        rw [hz] at hb
        have := of_decide_eq_false hb.symm
        omega
      rw [hid]
      exact g86e hd hS
    · simp only [h0, decide_eq_true_eq, decide_true, decide_false, Bool.not_eq_true, Bool.not_eq_true', Bool.not_true, Bool.not_false, decide_eq_false_iff_not, Bool.false_eq_true, not_false_eq_true, not_true_eq_false, if_true, if_false, ↓reduceIte, eq_self, Option.bind_some, Bool.true_and, Bool.false_and, Bool.and_true, Bool.and_false]
      have hnx : ∀ c', c + 1 ≤ c' → v.testBit c' = decide (2 ≤ manyN (jnA l c 13 w) c') := by
        intro c' h'
        rw [jnA_many (by omega), hv' c' (by omega)]
      have st := jnA_St (b := b) (l := l) (c := c) 13 w
      show Ep _ (fun z : Unit × xS => DS T0 z.2 wb lo ln b l cc (morrowA (catchesA (fold (fun c => jnA l c 13) m (c + 1) (jnA l c 13 w)))))
      by_cases hb : v.testBit c = true
      · simp only [hb, decide_eq_true_eq, decide_true, decide_false, Bool.not_eq_true, Bool.not_eq_true', Bool.not_true, Bool.not_false, decide_eq_false_iff_not, Bool.false_eq_true, not_false_eq_true, not_true_eq_false, if_true, if_false, ↓reduceIte, eq_self, Option.bind_some, Bool.true_and, Bool.false_and, Bool.and_true, Bool.and_false]
        exact g86j (by omega) _ 0 13 T w (by omega) hd hS (fun T' h' => ih (c + 1) T' _ (by omega) (by rw [St_d st]; exact hd) h' hnx)
      · simp only [hb, decide_eq_true_eq, decide_true, decide_false, Bool.not_eq_true, Bool.not_eq_true', Bool.not_true, Bool.not_false, decide_eq_false_iff_not, Bool.false_eq_true, not_false_eq_true, not_true_eq_false, if_true, if_false, ↓reduceIte, eq_self, Option.bind_some, Bool.true_and, Bool.false_and, Bool.and_true, Bool.and_false]
        have hid : jnA l c 13 w = w := by
          refine jnA_id ?_
          have h2 := hv' c (Nat.le_refl _)
          rw [Bool.eq_false_iff.mpr hb] at h2
          have := of_decide_eq_false h2.symm
          omega
        rw [hid] at hnx ⊢
        refine ep_succ (fun n => G86e85 wb lo ln n ..) ?_
        simp (disch := omega) only [G86b85, L0, L1, L2, L3, L4, L5, L6, L7, L8, L9, L10, L11, L12, L13, L16, L20, L31, L32, L40, L48, L57, L59, L60, L61, L91, L93, L97, L99, L100, L102, L103, L114, L122, L255, L300, L400, L402, L999, L2280, L2500, L99999, L63, L1431655765, L858993459, L252645135, ic_ge, ic_gt, ic_le, ic_lt, ic_eq, ic_ne, if_lt, if_ge, if_gt, if_le, if_eq, if_ne, if_lt_zI, if_ge_zI, ic_ne_m1, ic_eq_m1, ic_nn_m1, ic_ee_m1, if_ne_b2i, if_eq_b2i, b2i_z, decide_eq_true_eq, decide_true, decide_false, Bool.not_eq_true, Bool.not_eq_true', Bool.not_true, Bool.not_false, decide_eq_false_iff_not, Bool.false_eq_true, not_false_eq_true, not_true_eq_false, if_true, if_false, ↓reduceIte, eq_self, Option.bind_some, Bool.true_and, Bool.false_and, Bool.and_true, Bool.and_false, nI_add, nI_subN, nI_clamp, gdF, gdF2, gdP, zI_cl, zI_s, Lm1]
        exact ih (c + 1) T w (by omega) hd hS hnx
theorem g86d : ∀ (m s : Nat) (T : xS) (w : AW), s + m = w.1 0 1 → w.1 0 0 < 999 → DS T0 T wb lo ln b l cc w → Ep (fun n => G86f wb lo ln n 10 (nI s) (nI 0) (nI 0) (nI 0) T) (fun z => DS T0 z.2 wb lo ln b l cc (morrowA (catchesA (joinsA b l (fold (driftA b) m s w))))) := by
  intro m
  induction m with
  | zero =>
    intro s T w hs hd hS
    refine ep_succ (fun n => G86e10 wb lo ln n ..) ?_
    have hS' := hS
    obtain ⟨⟨hwb, hb3, hb4, hb5, hB, hb, hl⟩, hw, ok, hk, hf⟩ := hS
    have hn := ok.1
    have e : w.1 0 1 ≤ s := by omega
    simp (disch := omega) only [G86b10, hb4, hw.2.1, L0, L1, L2, L3, L4, L5, L6, L7, L8, L9, L10, L11, L12, L13, L16, L20, L31, L32, L40, L48, L57, L59, L60, L61, L91, L93, L97, L99, L100, L102, L103, L114, L122, L255, L300, L400, L402, L999, L2280, L2500, L99999, L63, L1431655765, L858993459, L252645135, ic_ge, ic_gt, ic_le, ic_lt, ic_eq, ic_ne, if_lt, if_ge, if_gt, if_le, if_eq, if_ne, if_lt_zI, if_ge_zI, ic_ne_m1, ic_eq_m1, ic_nn_m1, ic_ee_m1, if_ne_b2i, if_eq_b2i, b2i_z, decide_eq_true_eq, decide_true, decide_false, Bool.not_eq_true, Bool.not_eq_true', Bool.not_true, Bool.not_false, decide_eq_false_iff_not, Bool.false_eq_true, not_false_eq_true, not_true_eq_false, if_true, if_false, ↓reduceIte, eq_self, Option.bind_some, Bool.true_and, Bool.false_and, Bool.and_true, Bool.and_false, nI_add, nI_subN, nI_clamp, gdF, gdF2, gdP, zI_cl, zI_s, Lm1, e]
    refine ep_bind (g90 hw ok.1 (OkW_16 hb ok) (Or.inr rfl)) ?_
    rintro ⟨z1, T1⟩ ⟨e1, v, hv, e2, hv'⟩
    have e1 : T1 = T := e1
    have e2 : z1 = nI v := e2
    subst e1 e2
    have := g86c hv 16 0 T1 w (by omega) hd hS' (fun c' _ => hv' c')
    rw [joins16 hb ok] at this
    exact this
  | succ m ih =>
    intro s T w hs hd hS
    refine ep_succ (fun n => G86e10 wb lo ln n ..) ?_
    have hS' := hS
    obtain ⟨hD, hw, ok, hk, hf⟩ := hS
    have hD' := hD
    obtain ⟨hwb, hb3, hb4, hb5, hB, hb, hl⟩ := hD
    have hn := ok.1
    have e : ¬ w.1 0 1 ≤ s := by omega
    obtain ⟨r1, r2, r3, r4, r5, r6, r7, r8⟩ := hw.2.2.2.1 s (by omega)
    have h16 := OkW_16 hb ok s (by omega)
    simp (disch := omega) only [G86b10, hb4, hw.2.1, L0, L1, L2, L3, L4, L5, L6, L7, L8, L9, L10, L11, L12, L13, L16, L20, L31, L32, L40, L48, L57, L59, L60, L61, L91, L93, L97, L99, L100, L102, L103, L114, L122, L255, L300, L400, L402, L999, L2280, L2500, L99999, L63, L1431655765, L858993459, L252645135, ic_ge, ic_gt, ic_le, ic_lt, ic_eq, ic_ne, if_lt, if_ge, if_gt, if_le, if_eq, if_ne, if_lt_zI, if_ge_zI, ic_ne_m1, ic_eq_m1, ic_nn_m1, ic_ee_m1, if_ne_b2i, if_eq_b2i, b2i_z, decide_eq_true_eq, decide_true, decide_false, Bool.not_eq_true, Bool.not_eq_true', Bool.not_true, Bool.not_false, decide_eq_false_iff_not, Bool.false_eq_true, not_false_eq_true, not_true_eq_false, if_true, if_false, ↓reduceIte, eq_self, Option.bind_some, Bool.true_and, Bool.false_and, Bool.and_true, Bool.and_false, nI_add, nI_subN, nI_clamp, gdF, gdF2, gdP, zI_cl, zI_s, Lm1, e, r1]
    show Ep _ (fun z : Unit × xS => DS T0 z.2 wb lo ln b l cc (morrowA (catchesA (joinsA b l (fold (driftA b) m (s + 1) (driftA b s w))))))
    by_cases h0 : w.1 1 s = 0
    · simp only [h0, decide_eq_true_eq, decide_true, decide_false, Bool.not_eq_true, Bool.not_eq_true', Bool.not_true, Bool.not_false, decide_eq_false_iff_not, Bool.false_eq_true, not_false_eq_true, not_true_eq_false, if_true, if_false, ↓reduceIte, eq_self, Option.bind_some, Bool.true_and, Bool.false_and, Bool.and_true, Bool.and_false]
      rw [show driftA b s w = w from if_pos h0]
      exact ih (s + 1) T w (by omega) hd hS'
    · simp only [h0, decide_eq_true_eq, decide_true, decide_false, Bool.not_eq_true, Bool.not_eq_true', Bool.not_true, Bool.not_false, decide_eq_false_iff_not, Bool.false_eq_true, not_false_eq_true, not_true_eq_false, if_true, if_false, ↓reduceIte, eq_self, Option.bind_some, Bool.true_and, Bool.false_and, Bool.and_true, Bool.and_false]
      refine ep_bind (g87 hD' hw ok (by omega) h0 hk) ?_
      rintro ⟨_, T1⟩ ⟨c1, c2, c3⟩
      have st := driftA_St (w := w) (s := s) hb (ok.2.1 s (by omega)).2.2.2.1
      exact ih (s + 1) T1 _ (by rw [St_n st]; omega) (by rw [St_d st]; exact hd) (DS_step hS' c1 c2 c3 st)
/-- a day in the program is a day -/
theorem g86 {T : xS} {w : AW} (hd : w.1 0 0 < 999) (hS : DS T0 T wb lo ln b l cc w) : Ep (fun n => G86 wb lo ln n T) (fun z => DS T0 z.2 wb lo ln b l cc (dayA b l w)) := by
  refine ep_succ (fun n => G86e0 wb lo ln n ..) ?_
  have hb3 := hS.1.2.1
  simp only [G86b0, hb3, decide_eq_true_eq, decide_true, decide_false, Bool.not_eq_true, Bool.not_eq_true', Bool.not_true, Bool.not_false, decide_eq_false_iff_not, Bool.false_eq_true, not_false_eq_true, not_true_eq_false, if_true, if_false, ↓reduceIte, eq_self, Option.bind_some, Bool.true_and, Bool.false_and, Bool.and_true, Bool.and_false, L0]
  exact g86d _ 0 T w (by omega) hd hS
end G86
