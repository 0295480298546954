/-! seen: the way of one scrap. (where + 1, days to wait, what was printed, how many letters) -/
abbrev WK : Type := Nat × Nat × Nat × Nat
def wkN (b : AB) (w : AW) (p : WK) : WK := if p.1 = 0 then p else if isShA b w (p.1 - 1) = true then p else if p.2.1 = 0 then (if b 1 (p.1 - 1) = 0 then (0, 0, p.2.2) else if b 3 (b 1 (p.1 - 1) - 1) = 0 then (b 1 (p.1 - 1), b 2 (b 1 (p.1 - 1) - 1), p.2.2) else (b 1 (p.1 - 1), b 2 (b 1 (p.1 - 1) - 1), p.2.2.1 * 10 + b 5 (b 3 (b 1 (p.1 - 1) - 1) - 1), p.2.2.2 + 1)) else (p.1, p.2.1 - 1, p.2.2)
def wkI (b : AB) (w : AW) : Nat → WK → WK
  | 0, p => p
  | i + 1, p => wkI b w i (wkN b w p)
def fitB (t : Nat) (p : WK) : Bool := decide (8 ≤ lenN t) || (decide (p.2.2.2 < lenN t) && decide (t % 10 ^ p.2.2.2 = p.2.2.1))
def hitW (t tc : Nat) (p : WK) : Bool := decide (p.1 = tc + 1) && fitB t p
def OkP (b : AB) (p : WK) : Prop := p.1 ≤ b 0 0 ∧ p.2.1 ≤ 9 ∧ p.2.2.1 < 10 ^ p.2.2.2
section Wk
variable {b : AB} {w : AW} {t tc : Nat}
theorem wkN_0 {p : WK} (h : p.1 = 0) : wkN b w p = p := by
  unfold wkN
  rw [if_pos h]
theorem wkN_sh {p : WK} (h : isShA b w (p.1 - 1) = true) : wkN b w p = p := by
  unfold wkN
  rw [if_pos h]
  split <;> rfl
theorem wkN_q {p : WK} : p.2.2.2 ≤ (wkN b w p).2.2.2 ∧ (wkN b w p).2.2.2 ≤ p.2.2.2 + 1 := by
  unfold wkN
  repeat' split
  all_goals exact ⟨by first | exact Nat.le_refl _ | exact Nat.le_succ _, by first | exact Nat.le_succ _ | exact Nat.le_refl _⟩
theorem wkN_ok (hb : OkB b) {p : WK} (h : OkP b p) : OkP b (wkN b w p) := by
  obtain ⟨h1, h2, h3⟩ := h
  unfold wkN
  by_cases e0 : p.1 = 0
  · rw [if_pos e0]
    exact ⟨h1, h2, h3⟩
  rw [if_neg e0]
  have hf := (hb.2.2.2.1 (p.1 - 1) (by omega)).1
  split
  · exact ⟨h1, h2, h3⟩
  · split
    · split
      · exact ⟨Nat.zero_le _, Nat.zero_le _, h3⟩
      · rename_i e1
        have he := hb.2.2.2.1 (b 1 (p.1 - 1) - 1) (by omega)
        split
        · exact ⟨hf, he.2.1, h3⟩
        · have h5 := hb.2.2.2.2 (b 3 (b 1 (p.1 - 1) - 1) - 1) (by omega)
          refine ⟨hf, he.2.1, ?_⟩
          show p.2.2.1 * 10 + b 5 (b 3 (b 1 (p.1 - 1) - 1) - 1) < 10 ^ (p.2.2.2 + 1)
          rw [Nat.pow_succ]
          omega
    · exact ⟨h1, by show p.2.1 - 1 ≤ 9; omega, h3⟩
theorem wkI_s : ∀ (i : Nat) (p : WK), wkI b w (i + 1) p = wkN b w (wkI b w i p)
  | 0, p => rfl
  | i + 1, p => by
    show wkI b w (i + 1) (wkN b w p) = _
    rw [wkI_s i]
    rfl
theorem wkI_ok (hb : OkB b) : ∀ (i : Nat) (p : WK), OkP b p → OkP b (wkI b w i p)
  | 0, p, h => h
  | i + 1, p, h => wkI_ok hb i _ (wkN_ok hb h)
theorem wkI_q : ∀ (i : Nat) (p : WK), p.2.2.2 ≤ (wkI b w i p).2.2.2 ∧ (wkI b w i p).2.2.2 ≤ p.2.2.2 + i
  | 0, p => ⟨Nat.le_refl _, Nat.le_refl _⟩
  | i + 1, p => by
    have h1 := wkN_q (b := b) (w := w) (p := p)
    have h2 := wkI_q i (wkN b w p)
    show p.2.2.2 ≤ (wkI b w i (wkN b w p)).2.2.2 ∧ (wkI b w i (wkN b w p)).2.2.2 ≤ p.2.2.2 + (i + 1)
    omega
theorem wkI_0 {p : WK} (h : p.1 = 0) : ∀ i, wkI b w i p = p
  | 0 => rfl
  | i + 1 => by
    show wkI b w i (wkN b w p) = p
    rw [wkN_0 h]
    exact wkI_0 h i
theorem wkI_sh {p : WK} (h : isShA b w (p.1 - 1) = true) : ∀ i, wkI b w i p = p
  | 0 => rfl
  | i + 1 => by
    show wkI b w i (wkN b w p) = p
    rw [wkN_sh h]
    exact wkI_sh h i
/-- the days on which it can be seen -/
def seF (b : AB) (w : AW) (t tc : Nat) : Nat → Nat → WK → Nat → Nat
  | 0, _, _, a => a
  | m + 1, d, p, a => seF b w t tc m (d + 1) (wkN b w p) (if hitW t tc p = true then a ||| 2 ^ d else a)
theorem seF_no : ∀ (m d : Nat) (p : WK) (a : Nat), (∀ i, hitW t tc (wkI b w i p) = false) → seF b w t tc m d p a = a
  | 0, d, p, a, h => rfl
  | m + 1, d, p, a, h => by
    unfold seF
    have h0 : hitW t tc p = false := h 0
    rw [h0, seF_no m (d + 1) (wkN b w p) _ (fun i => h (i + 1))]
    simp
theorem hit_0 {p : WK} (h : p.1 = 0) : hitW t tc p = false := by
  unfold hitW
  rw [h, decide_eq_false (by omega)]
  rfl
theorem hit_q {p : WK} (h8 : lenN t < 8) (h : lenN t ≤ p.2.2.2) : hitW t tc p = false := by
  unfold hitW fitB
  rw [decide_eq_false (show ¬ 8 ≤ lenN t by omega), decide_eq_false (show ¬ p.2.2.2 < lenN t by omega)]
  simp
theorem seF_z {m d a : Nat} {p : WK} (h : p.1 = 0) : seF b w t tc m d p a = a := seF_no m d p a (fun i => by rw [wkI_0 h]; exact hit_0 h)
theorem seF_q {m d a : Nat} {p : WK} (h8 : lenN t < 8) (h : lenN t ≤ p.2.2.2) : seF b w t tc m d p a = a := seF_no m d p a (fun i => hit_q h8 (Nat.le_trans h (wkI_q i p).1))
theorem seF_tb {i : Nat} : ∀ (m d : Nat) (p : WK) (a : Nat), (seF b w t tc m d p a).testBit i = (a.testBit i || (decide (d ≤ i ∧ i < d + m) && hitW t tc (wkI b w (i - d) p)))
  | 0, d, p, a => by
    rw [decide_eq_false (show ¬ (d ≤ i ∧ i < d + 0) by omega)]
    show a.testBit i = _
    simp
  | m + 1, d, p, a => by
    unfold seF
    rw [seF_tb m (d + 1) (wkN b w p)]
    by_cases hd : i = d
    · subst hd
      rw [decide_eq_false (show ¬ (i + 1 ≤ i ∧ i < i + 1 + m) by omega), decide_eq_true (show i ≤ i ∧ i < i + (m + 1) by omega), Nat.sub_self]
      show _ = (a.testBit i || (true && hitW t tc p))
      by_cases h : hitW t tc p = true
      · rw [if_pos h, h, Nat.testBit_or, Nat.testBit_two_pow]
        simp
      · rw [if_neg h, Bool.eq_false_iff.mpr h]
        simp
    · have h1 : (if hitW t tc p = true then a ||| 2 ^ d else a).testBit i = a.testBit i := by
        split
        · rw [Nat.testBit_or, Nat.testBit_two_pow, decide_eq_false (fun e => hd e.symm)]
          simp
        · rfl
      rw [h1]
      by_cases h2 : d ≤ i ∧ i < d + (m + 1)
      · rw [decide_eq_true h2, decide_eq_true (show d + 1 ≤ i ∧ i < d + 1 + m by omega), show i - d = (i - (d + 1)) + 1 by omega]
        rfl
      · rw [decide_eq_false h2, decide_eq_false (show ¬ (d + 1 ≤ i ∧ i < d + 1 + m) by omega)]
        simp
theorem seF_lt : ∀ (m d : Nat) (p : WK) (a : Nat), a < 2 ^ (d + m) → seF b w t tc m d p a < 2 ^ (d + m)
  | 0, d, p, a, h => h
  | m + 1, d, p, a, h => by
    unfold seF
    rw [show d + (m + 1) = d + 1 + m by omega] at h ⊢
    refine seF_lt m (d + 1) _ _ ?_
    split
    · exact Nat.or_lt_two_pow h (Nat.pow_lt_pow_right (by decide) (by omega))
    · exact h
/-- what the program holds of it -/
def RelP (t : Nat) (p : WK) (x q : Nat) : Prop := (8 ≤ lenN t ∧ x = 0 ∧ q = 0) ∨ (lenN t < 8 ∧ x = p.2.2.1 ∧ q = p.2.2.2 ∧ q < lenN t)
variable {T : xS}
theorem m1_sub {q : Nat} (h : q ≠ 0) : nI q + zI 0 = nI (q - 1) := by
  have h2 : nI q = nI (q - 1) + nI 1 := by rw [nI_add, Nat.sub_add_cancel (by omega)]
  rw [h2]
  have h3 : zI 0 = -(nI 1) := rfl
  rw [h3, ← Int32.sub_eq_add_neg]
  exact Int32.add_sub_cancel _ _
theorem g134t (hB : CB T 89 b) (hb : OkB b) (hw : CW T 95 w) (ht : isTx t = true) {c wt X Q x q d tc' : Nat} {a : Int32} {r : Int32 × xS} (hc : c < b 0 0) (hp : OkP b (c + 1, wt, X, Q)) (hd : d ≤ 20) (hR : RelP t (c + 1, wt, X, Q) x q) (go : ∀ x' q', RelP t (wkN b w (c + 1, wt, X, Q)) x' q' → Ev (fun n => G134f n 24 (nI 0) (nI tc') (nI t) (nI (lenN t)) (zI (wkN b w (c + 1, wt, X, Q)).1) (nI (wkN b w (c + 1, wt, X, Q)).2.1) (nI x') (nI q') a (nI (d + 1)) T) r) (stop : lenN t < 8 → lenN t ≤ (wkN b w (c + 1, wt, X, Q)).2.2.2 → r = (a, T)) : Ev (fun n => G134f n 64 (nI 0) (nI tc') (nI t) (nI (lenN t)) (nI c) (nI wt) (nI x) (nI q) a (nI d) T) r := by
  have hb1 := hb.1
  have hl := isTx_len ht
  have hwt : wt ≤ 9 := hp.2.1
  have hf := (hb.2.2.2.1 c hc).1
  have r1 : T.2.1 90 c = zI (b 1 c) := (hB.2.2.2.1 c hc).1
  have go2 : ∀ x' q', RelP t (wkN b w (c + 1, wt, X, Q)) x' q' → Ev (fun n => G134f n 185 (nI 0) (nI tc') (nI t) (nI (lenN t)) (zI (wkN b w (c + 1, wt, X, Q)).1) (nI (wkN b w (c + 1, wt, X, Q)).2.1) (nI x') (nI q') a (nI d) T) r := by
    intro x' q' h
    refine ev_succ (fun n => G134e185 n ..) ?_
    simp only [G134b185, L0, L1, nI_add]
    exact go x' q' h
  refine ev_succ (fun n => G134e64 n ..) ?_
  simp only [G134b64]
  refine ev_bind (g77 hB hb hw hc) ?_
  have hdam : damN b w c ≤ 2 ∧ (damN b w c = 2 ↔ isShA b w c = true) := by
    rcases dam_is (b := b) (w := w) (c := c) with ⟨h1, _, h2⟩ | ⟨h1, _, h2⟩ | ⟨h1, _, h2⟩ <;> rw [h1, h2] <;> simp
  by_cases hsh : isShA b w c = true
  · have h2 := hdam.2.mpr hsh
    have e : wkN b w (c + 1, wt, X, Q) = (c + 1, wt, X, Q) := wkN_sh (p := (c + 1, wt, X, Q)) hsh
    rw [e] at go2
    simp (disch := omega) only [L0, L1, L2, L3, L4, L5, L6, L7, L8, L9, L10, L11, L12, L13, L16, L20, L31, L32, L40, L48, L57, L59, L60, L61, L91, L93, L97, L99, L100, L102, L103, L114, L122, L255, L300, L400, L402, L999, L2280, L2500, L99999, L63, L1431655765, L858993459, L252645135, ic_ge, ic_gt, ic_le, ic_lt, ic_eq, ic_ne, if_lt, if_ge, if_gt, if_le, if_eq, if_ne, if_lt_zI, if_ge_zI, ic_ne_m1, ic_eq_m1, ic_nn_m1, ic_ee_m1, if_ne_b2i, if_eq_b2i, b2i_z, decide_eq_true_eq, decide_true, decide_false, Bool.not_eq_true, Bool.not_eq_true', Bool.not_true, Bool.not_false, decide_eq_false_iff_not, Bool.false_eq_true, not_false_eq_true, not_true_eq_false, if_true, if_false, ↓reduceIte, eq_self, Option.bind_some, Bool.true_and, Bool.false_and, Bool.and_true, Bool.and_false, nI_add, nI_subN, nI_clamp, gdF, gdF2, gdP, gdP2, zI_cl, zI_s, Lm1, nI_n0, zI_n0, leF, or_false, false_or, or_self, h2]
    have := go2 x q hR
    rw [zI_s] at this
    exact this
  · have h2 : ¬ damN b w c = 2 := fun h => hsh (hdam.2.mp h)
    have hz : ¬ (c + 1 = 0) := by omega
    have e : wkN b w (c + 1, wt, X, Q) = if wt = 0 then (if b 1 c = 0 then (0, 0, X, Q) else if b 3 (b 1 c - 1) = 0 then (b 1 c, b 2 (b 1 c - 1), X, Q) else (b 1 c, b 2 (b 1 c - 1), X * 10 + b 5 (b 3 (b 1 c - 1) - 1), Q + 1)) else (c + 1, wt - 1, X, Q) := by
      unfold wkN
      rw [if_neg hz]
      have hsh' : ¬ isShA b w ((c + 1, wt, X, Q) : WK).1.pred = true := hsh
      show (if isShA b w c = true then _ else _) = _
      rw [if_neg hsh]
      rfl
    by_cases hw0 : wt = 0
    · rw [if_pos hw0] at e
      by_cases hn : b 1 c = 0
      · rw [if_pos hn] at e
        rw [e] at go2
        simp (disch := omega) only [L0, L1, L2, L3, L4, L5, L6, L7, L8, L9, L10, L11, L12, L13, L16, L20, L31, L32, L40, L48, L57, L59, L60, L61, L91, L93, L97, L99, L100, L102, L103, L114, L122, L255, L300, L400, L402, L999, L2280, L2500, L99999, L63, L1431655765, L858993459, L252645135, ic_ge, ic_gt, ic_le, ic_lt, ic_eq, ic_ne, if_lt, if_ge, if_gt, if_le, if_eq, if_ne, if_lt_zI, if_ge_zI, ic_ne_m1, ic_eq_m1, ic_nn_m1, ic_ee_m1, if_ne_b2i, if_eq_b2i, b2i_z, decide_eq_true_eq, decide_true, decide_false, Bool.not_eq_true, Bool.not_eq_true', Bool.not_true, Bool.not_false, decide_eq_false_iff_not, Bool.false_eq_true, not_false_eq_true, not_true_eq_false, if_true, if_false, ↓reduceIte, eq_self, Option.bind_some, Bool.true_and, Bool.false_and, Bool.and_true, Bool.and_false, nI_add, nI_subN, nI_clamp, gdF, gdF2, gdP, gdP2, zI_cl, zI_s, Lm1, nI_n0, zI_n0, leF, or_false, false_or, or_self, h2, hw0, r1, hn]
        exact go2 x q hR
      · rw [if_neg hn] at e
        obtain ⟨c', hc'⟩ : ∃ c', b 1 c = c' + 1 := ⟨b 1 c - 1, by omega⟩
        have hc'n : c' < b 0 0 := by omega
        have r2 : T.2.1 91 c' = nI (b 2 c') := (hB.2.2.2.1 c' hc'n).2.1
        have hmi := hb.2.2.2.1 c' hc'n
        have gm := g76 (T := T) (p := 89) hB hb hc'n
        rw [hc', Nat.add_sub_cancel] at e
        simp (disch := omega) only [L0, L1, L2, L3, L4, L5, L6, L7, L8, L9, L10, L11, L12, L13, L16, L20, L31, L32, L40, L48, L57, L59, L60, L61, L91, L93, L97, L99, L100, L102, L103, L114, L122, L255, L300, L400, L402, L999, L2280, L2500, L99999, L63, L1431655765, L858993459, L252645135, ic_ge, ic_gt, ic_le, ic_lt, ic_eq, ic_ne, if_lt, if_ge, if_gt, if_le, if_eq, if_ne, if_lt_zI, if_ge_zI, ic_ne_m1, ic_eq_m1, ic_nn_m1, ic_ee_m1, if_ne_b2i, if_eq_b2i, b2i_z, decide_eq_true_eq, decide_true, decide_false, Bool.not_eq_true, Bool.not_eq_true', Bool.not_true, Bool.not_false, decide_eq_false_iff_not, Bool.false_eq_true, not_false_eq_true, not_true_eq_false, if_true, if_false, ↓reduceIte, eq_self, Option.bind_some, Bool.true_and, Bool.false_and, Bool.and_true, Bool.and_false, nI_add, nI_subN, nI_clamp, gdF, gdF2, gdP, gdP2, zI_cl, zI_s, Lm1, nI_n0, zI_n0, leF, or_false, false_or, or_self, h2, hw0, r1, hc', r2]
        refine ev_bind gm ?_
        by_cases hm : b 3 c' = 0
        · have hm0 : millN b c' = 0 := by
            unfold millN
            rw [if_pos hm]
          rw [if_pos hm] at e
          rw [e] at go2
          simp (disch := omega) only [L0, L1, L2, L3, L4, L5, L6, L7, L8, L9, L10, L11, L12, L13, L16, L20, L31, L32, L40, L48, L57, L59, L60, L61, L91, L93, L97, L99, L100, L102, L103, L114, L122, L255, L300, L400, L402, L999, L2280, L2500, L99999, L63, L1431655765, L858993459, L252645135, ic_ge, ic_gt, ic_le, ic_lt, ic_eq, ic_ne, if_lt, if_ge, if_gt, if_le, if_eq, if_ne, if_lt_zI, if_ge_zI, ic_ne_m1, ic_eq_m1, ic_nn_m1, ic_ee_m1, if_ne_b2i, if_eq_b2i, b2i_z, decide_eq_true_eq, decide_true, decide_false, Bool.not_eq_true, Bool.not_eq_true', Bool.not_true, Bool.not_false, decide_eq_false_iff_not, Bool.false_eq_true, not_false_eq_true, not_true_eq_false, if_true, if_false, ↓reduceIte, eq_self, Option.bind_some, Bool.true_and, Bool.false_and, Bool.and_true, Bool.and_false, nI_add, nI_subN, nI_clamp, gdF, gdF2, gdP, gdP2, zI_cl, zI_s, Lm1, nI_n0, zI_n0, leF, or_false, false_or, or_self, hm0]
          have := go2 x q hR
          rw [zI_s] at this
          exact this
        · have hmv : millN b c' = b 5 (b 3 c' - 1) := by
            unfold millN
            rw [if_neg hm]
          have h5 := hb.2.2.2.2 (b 3 c' - 1) (by omega)
          have hm0 : ¬ millN b c' = 0 := by omega
          rw [if_neg hm, ← hmv] at e
          rw [e] at go2
          rw [e] at stop
          rcases hR with ⟨h8, hx, hq⟩ | ⟨h8, hx, hq, hql⟩
          · subst hx
            subst hq
            simp (disch := omega) only [L0, L1, L2, L3, L4, L5, L6, L7, L8, L9, L10, L11, L12, L13, L16, L20, L31, L32, L40, L48, L57, L59, L60, L61, L91, L93, L97, L99, L100, L102, L103, L114, L122, L255, L300, L400, L402, L999, L2280, L2500, L99999, L63, L1431655765, L858993459, L252645135, ic_ge, ic_gt, ic_le, ic_lt, ic_eq, ic_ne, if_lt, if_ge, if_gt, if_le, if_eq, if_ne, if_lt_zI, if_ge_zI, ic_ne_m1, ic_eq_m1, ic_nn_m1, ic_ee_m1, if_ne_b2i, if_eq_b2i, b2i_z, decide_eq_true_eq, decide_true, decide_false, Bool.not_eq_true, Bool.not_eq_true', Bool.not_true, Bool.not_false, decide_eq_false_iff_not, Bool.false_eq_true, not_false_eq_true, not_true_eq_false, if_true, if_false, ↓reduceIte, eq_self, Option.bind_some, Bool.true_and, Bool.false_and, Bool.and_true, Bool.and_false, nI_add, nI_subN, nI_clamp, gdF, gdF2, gdP, gdP2, zI_cl, zI_s, Lm1, nI_n0, zI_n0, leF, or_false, false_or, or_self, hm0, h8]
            have := go2 0 0 (Or.inl ⟨h8, rfl, rfl⟩)
            rw [zI_s] at this
            exact this
          · have hx : x = X := hx
            have hq : q = Q := hq
            subst hx
            subst hq
            have h8' : ¬ 8 ≤ lenN t := by omega
            have hx7 : x < 10 ^ 7 := Nat.lt_of_lt_of_le hp.2.2 (Nat.pow_le_pow_right (by decide) (by show q ≤ 7; omega))
            by_cases hq1 : q + 1 < lenN t
            · simp (disch := omega) only [L0, L1, L2, L3, L4, L5, L6, L7, L8, L9, L10, L11, L12, L13, L16, L20, L31, L32, L40, L48, L57, L59, L60, L61, L91, L93, L97, L99, L100, L102, L103, L114, L122, L255, L300, L400, L402, L999, L2280, L2500, L99999, L63, L1431655765, L858993459, L252645135, ic_ge, ic_gt, ic_le, ic_lt, ic_eq, ic_ne, if_lt, if_ge, if_gt, if_le, if_eq, if_ne, if_lt_zI, if_ge_zI, ic_ne_m1, ic_eq_m1, ic_nn_m1, ic_ee_m1, if_ne_b2i, if_eq_b2i, b2i_z, decide_eq_true_eq, decide_true, decide_false, Bool.not_eq_true, Bool.not_eq_true', Bool.not_true, Bool.not_false, decide_eq_false_iff_not, Bool.false_eq_true, not_false_eq_true, not_true_eq_false, if_true, if_false, ↓reduceIte, eq_self, Option.bind_some, Bool.true_and, Bool.false_and, Bool.and_true, Bool.and_false, nI_add, nI_subN, nI_clamp, gdF, gdF2, gdP, gdP2, zI_cl, zI_s, Lm1, nI_n0, zI_n0, leF, or_false, false_or, or_self, hm0, h8', hq1, nI_mul]
              have := go2 (x * 10 + millN b c') (q + 1) (Or.inr ⟨h8, rfl, rfl, hq1⟩)
              rw [zI_s] at this
              exact this
            · simp (disch := omega) only [L0, L1, L2, L3, L4, L5, L6, L7, L8, L9, L10, L11, L12, L13, L16, L20, L31, L32, L40, L48, L57, L59, L60, L61, L91, L93, L97, L99, L100, L102, L103, L114, L122, L255, L300, L400, L402, L999, L2280, L2500, L99999, L63, L1431655765, L858993459, L252645135, ic_ge, ic_gt, ic_le, ic_lt, ic_eq, ic_ne, if_lt, if_ge, if_gt, if_le, if_eq, if_ne, if_lt_zI, if_ge_zI, ic_ne_m1, ic_eq_m1, ic_nn_m1, ic_ee_m1, if_ne_b2i, if_eq_b2i, b2i_z, decide_eq_true_eq, decide_true, decide_false, Bool.not_eq_true, Bool.not_eq_true', Bool.not_true, Bool.not_false, decide_eq_false_iff_not, Bool.false_eq_true, not_false_eq_true, not_true_eq_false, if_true, if_false, ↓reduceIte, eq_self, Option.bind_some, Bool.true_and, Bool.false_and, Bool.and_true, Bool.and_false, nI_add, nI_subN, nI_clamp, gdF, gdF2, gdP, gdP2, zI_cl, zI_s, Lm1, nI_n0, zI_n0, leF, or_false, false_or, or_self, hm0, h8', hq1]
              rw [stop h8 (by show lenN t ≤ q + 1; omega)]
              exact ev_ret
    · rw [if_neg hw0] at e
      rw [e] at go2
      simp (disch := omega) only [L0, L1, L2, L3, L4, L5, L6, L7, L8, L9, L10, L11, L12, L13, L16, L20, L31, L32, L40, L48, L57, L59, L60, L61, L91, L93, L97, L99, L100, L102, L103, L114, L122, L255, L300, L400, L402, L999, L2280, L2500, L99999, L63, L1431655765, L858993459, L252645135, ic_ge, ic_gt, ic_le, ic_lt, ic_eq, ic_ne, if_lt, if_ge, if_gt, if_le, if_eq, if_ne, if_lt_zI, if_ge_zI, ic_ne_m1, ic_eq_m1, ic_nn_m1, ic_ee_m1, if_ne_b2i, if_eq_b2i, b2i_z, decide_eq_true_eq, decide_true, decide_false, Bool.not_eq_true, Bool.not_eq_true', Bool.not_true, Bool.not_false, decide_eq_false_iff_not, Bool.false_eq_true, not_false_eq_true, not_true_eq_false, if_true, if_false, ↓reduceIte, eq_self, Option.bind_some, Bool.true_and, Bool.false_and, Bool.and_true, Bool.and_false, nI_add, nI_subN, nI_clamp, gdF, gdF2, gdP, gdP2, zI_cl, zI_s, Lm1, nI_n0, zI_n0, leF, or_false, false_or, or_self, h2, hw0, m1_sub]
      have := go2 x q hR
      rw [zI_s] at this
      exact this
theorem g134l (hB : CB T 89 b) (hb : OkB b) (hw : CW T 95 w) (ht : isTx t = true) (htc : tc < b 0 0) : ∀ (m d : Nat) (p : WK) (a x q : Nat), d + m = 21 → OkP b p → RelP t p x q → Ev (fun n => G134f n 24 (nI 0) (nI tc) (nI t) (nI (lenN t)) (zI p.1) (nI p.2.1) (nI x) (nI q) (nI a) (nI d) T) (nI (seF b w t tc m d p a), T) := by
  have hb1 := hb.1
  have hl := isTx_len ht
  have htl := isTx_lt ht
  intro m
  induction m with
  | zero =>
    intro d p a x q hd hp hR
    refine ev_succ (fun n => G134e24 n ..) ?_
    have e : 20 < d := by omega
    simp (disch := omega) only [G134b24, L0, L1, L2, L3, L4, L5, L6, L7, L8, L9, L10, L11, L12, L13, L16, L20, L31, L32, L40, L48, L57, L59, L60, L61, L91, L93, L97, L99, L100, L102, L103, L114, L122, L255, L300, L400, L402, L999, L2280, L2500, L99999, L63, L1431655765, L858993459, L252645135, ic_ge, ic_gt, ic_le, ic_lt, ic_eq, ic_ne, if_lt, if_ge, if_gt, if_le, if_eq, if_ne, if_lt_zI, if_ge_zI, ic_ne_m1, ic_eq_m1, ic_nn_m1, ic_ee_m1, if_ne_b2i, if_eq_b2i, b2i_z, decide_eq_true_eq, decide_true, decide_false, Bool.not_eq_true, Bool.not_eq_true', Bool.not_true, Bool.not_false, decide_eq_false_iff_not, Bool.false_eq_true, not_false_eq_true, not_true_eq_false, if_true, if_false, ↓reduceIte, eq_self, Option.bind_some, Bool.true_and, Bool.false_and, Bool.and_true, Bool.and_false, nI_add, nI_subN, nI_clamp, gdF, gdF2, gdP, gdP2, zI_cl, zI_s, Lm1, nI_n0, zI_n0, leF, or_false, false_or, or_self, e]
    exact ev_ret
  | succ m ih =>
    intro d p a x q hd hp hR
    refine ev_succ (fun n => G134e24 n ..) ?_
    have e : ¬ 20 < d := by omega
    by_cases h0 : p.1 = 0
    · rw [seF_z h0]
      simp (disch := omega) only [G134b24, L0, L1, L2, L3, L4, L5, L6, L7, L8, L9, L10, L11, L12, L13, L16, L20, L31, L32, L40, L48, L57, L59, L60, L61, L91, L93, L97, L99, L100, L102, L103, L114, L122, L255, L300, L400, L402, L999, L2280, L2500, L99999, L63, L1431655765, L858993459, L252645135, ic_ge, ic_gt, ic_le, ic_lt, ic_eq, ic_ne, if_lt, if_ge, if_gt, if_le, if_eq, if_ne, if_lt_zI, if_ge_zI, ic_ne_m1, ic_eq_m1, ic_nn_m1, ic_ee_m1, if_ne_b2i, if_eq_b2i, b2i_z, decide_eq_true_eq, decide_true, decide_false, Bool.not_eq_true, Bool.not_eq_true', Bool.not_true, Bool.not_false, decide_eq_false_iff_not, Bool.false_eq_true, not_false_eq_true, not_true_eq_false, if_true, if_false, ↓reduceIte, eq_self, Option.bind_some, Bool.true_and, Bool.false_and, Bool.and_true, Bool.and_false, nI_add, nI_subN, nI_clamp, gdF, gdF2, gdP, gdP2, zI_cl, zI_s, Lm1, nI_n0, zI_n0, leF, or_false, false_or, or_self, e, h0]
      exact ev_ret
    · obtain ⟨z, wt, X, Q⟩ := p
      have h0 : z ≠ 0 := h0
      obtain ⟨c, rfl⟩ : ∃ c, z = c + 1 := ⟨z - 1, by omega⟩
      have hp1 : c + 1 ≤ b 0 0 := hp.1
      have hcn : c < b 0 0 := by omega
      have step : ∀ a' : Nat, (if hitW t tc (c + 1, wt, X, Q) = true then a ||| 2 ^ d else a) = a' → Ev (fun n => G134f n 64 (nI 0) (nI tc) (nI t) (nI (lenN t)) (nI c) (nI wt) (nI x) (nI q) (nI a') (nI d) T) (nI (seF b w t tc (m + 1) d (c + 1, wt, X, Q) a), T) := by
        intro a' ha
        unfold seF
        rw [ha]
        exact g134t hB hb hw ht hcn hp (by omega) hR (fun x' q' h => ih (d + 1) _ a' x' q' (by omega) (wkN_ok hb hp) h) (fun h8 h => by rw [seF_q h8 h])
      have hq8 : q < 9 := by
        rcases hR with ⟨_, _, h⟩ | ⟨_, _, h, h'⟩ <;> omega
      have hsh : nI 1 <<< (nI d &&& nI 31) = nI (2 ^ d) := nI_shl (by omega)
      have hz' : ¬ c + 1 = 0 := by omega
      by_cases htc' : c = tc
      · subst htc'
        have hpw : 10 ^ q ≤ 10 ^ 8 := Nat.pow_le_pow_right (by decide) (by omega)
        have hpw0 : 0 < 10 ^ q := Nat.pow_pos (by decide)
        have hnz : ¬ nI (10 ^ q) = nI 0 := by
          intro h
          have := (nI_eqI' (a := 10 ^ q) (b := 0) (by omega) (by decide)).mp h
          omega
        have hrem := pk_rem (a := t) (d := 10 ^ q) (by omega) hpw0 (by omega)
        have hml := Nat.mod_lt t hpw0
        have hxl : x < 2 ^ 31 := by
          rcases hR with ⟨_, h, _⟩ | ⟨h8, h, h', h''⟩
          · omega
          · have h2 : X < 10 ^ Q := hp.2.2
            have h : x = X := h
            have h' : q = Q := h'
            rw [← h, ← h'] at h2
            omega
        have hhit : hitW t c (c + 1, wt, X, Q) = decide (t % 10 ^ q = x) := by
          unfold hitW fitB
          rw [decide_eq_true (show ((c + 1, wt, X, Q) : WK).1 = c + 1 from rfl), Bool.true_and]
          rcases hR with ⟨h8, h, h'⟩ | ⟨h8, h, h', h''⟩
          · rw [decide_eq_true h8, h, h', Nat.pow_zero, Nat.mod_one]
            rfl
          · have h : x = X := h
            have h' : q = Q := h'
            subst h
            subst h'
            rw [decide_eq_false (show ¬ 8 ≤ lenN t by omega)]
            show (false || (decide (q < lenN t) && decide (t % 10 ^ q = x))) = _
            rw [decide_eq_true h'']
            simp
        simp (disch := omega) only [G134b24, L0, L1, L2, L3, L4, L5, L6, L7, L8, L9, L10, L11, L12, L13, L16, L20, L31, L32, L40, L48, L57, L59, L60, L61, L91, L93, L97, L99, L100, L102, L103, L114, L122, L255, L300, L400, L402, L999, L2280, L2500, L99999, L63, L1431655765, L858993459, L252645135, ic_ge, ic_gt, ic_le, ic_lt, ic_eq, ic_ne, if_lt, if_ge, if_gt, if_le, if_eq, if_ne, if_lt_zI, if_ge_zI, ic_ne_m1, ic_eq_m1, ic_nn_m1, ic_ee_m1, if_ne_b2i, if_eq_b2i, b2i_z, decide_eq_true_eq, decide_true, decide_false, Bool.not_eq_true, Bool.not_eq_true', Bool.not_true, Bool.not_false, decide_eq_false_iff_not, Bool.false_eq_true, not_false_eq_true, not_true_eq_false, if_true, if_false, ↓reduceIte, eq_self, Option.bind_some, Bool.true_and, Bool.false_and, Bool.and_true, Bool.and_false, nI_add, nI_subN, nI_clamp, gdF, gdF2, gdP, gdP2, zI_cl, zI_s, Lm1, nI_n0, zI_n0, leF, or_false, false_or, or_self, e, hz', tens_n, hnz, hrem, hsh, nx_or]
        by_cases hx : t % 10 ^ q = x
        · simp only [hx, decide_eq_true_eq, decide_true, decide_false, Bool.not_eq_true, Bool.not_eq_true', Bool.not_true, Bool.not_false, decide_eq_false_iff_not, Bool.false_eq_true, not_false_eq_true, not_true_eq_false, if_true, if_false, ↓reduceIte, eq_self, Option.bind_some, Bool.true_and, Bool.false_and, Bool.and_true, Bool.and_false]
          exact step _ (by rw [hhit, decide_eq_true hx, if_pos rfl])
        · simp only [hx, decide_eq_true_eq, decide_true, decide_false, Bool.not_eq_true, Bool.not_eq_true', Bool.not_true, Bool.not_false, decide_eq_false_iff_not, Bool.false_eq_true, not_false_eq_true, not_true_eq_false, if_true, if_false, ↓reduceIte, eq_self, Option.bind_some, Bool.true_and, Bool.false_and, Bool.and_true, Bool.and_false]
          exact step _ (by rw [hhit, decide_eq_false hx, if_neg (by decide)])
      · have hhit : hitW t tc (c + 1, wt, X, Q) = false := by
          unfold hitW
          rw [decide_eq_false (show ¬ ((c + 1, wt, X, Q) : WK).1 = tc + 1 by show ¬ c + 1 = tc + 1; omega)]
          rfl
        simp (disch := omega) only [G134b24, L0, L1, L2, L3, L4, L5, L6, L7, L8, L9, L10, L11, L12, L13, L16, L20, L31, L32, L40, L48, L57, L59, L60, L61, L91, L93, L97, L99, L100, L102, L103, L114, L122, L255, L300, L400, L402, L999, L2280, L2500, L99999, L63, L1431655765, L858993459, L252645135, ic_ge, ic_gt, ic_le, ic_lt, ic_eq, ic_ne, if_lt, if_ge, if_gt, if_le, if_eq, if_ne, if_lt_zI, if_ge_zI, ic_ne_m1, ic_eq_m1, ic_nn_m1, ic_ee_m1, if_ne_b2i, if_eq_b2i, b2i_z, decide_eq_true_eq, decide_true, decide_false, Bool.not_eq_true, Bool.not_eq_true', Bool.not_true, Bool.not_false, decide_eq_false_iff_not, Bool.false_eq_true, not_false_eq_true, not_true_eq_false, if_true, if_false, ↓reduceIte, eq_self, Option.bind_some, Bool.true_and, Bool.false_and, Bool.and_true, Bool.and_false, nI_add, nI_subN, nI_clamp, gdF, gdF2, gdP, gdP2, zI_cl, zI_s, Lm1, nI_n0, zI_n0, leF, or_false, false_or, or_self, e, hz', htc']
        exact step _ (by rw [hhit, if_neg (by decide)])
def mskN (b : AB) (w : AW) (t tc c : Nat) : Nat := seF b w t tc 21 0 (c + 1, 0, 0, 0) 0
theorem OkP_0 {c : Nat} (hc : c < b 0 0) : OkP b (c + 1, 0, 0, 0) := ⟨by show c + 1 ≤ b 0 0; omega, Nat.zero_le _, by show 0 < 10 ^ 0; decide⟩
theorem g134 (hB : CB T 89 b) (hb : OkB b) (hw : CW T 95 w) (ht : isTx t = true) (htc : tc < b 0 0) {c : Nat} (hc : c < b 0 0) : Ev (fun n => G134 n (nI c) (nI tc) (nI t) T) (nI (mskN b w t tc c), T) := by
  have hl := isTx_len ht
  have htl := isTx_lt ht
  refine ev_succ (fun n => G134e0 n ..) ?_
  simp only [G134b0]
  refine ev_bind (g102 (by omega) T) ?_
  rw [if_pos ht]
  simp only [L0]
  have := g134l hB hb hw ht htc 21 0 (c + 1, 0, 0, 0) 0 0 0 (by decide) (OkP_0 hc) (by
    by_cases h : 8 ≤ lenN t
    · exact Or.inl ⟨h, rfl, rfl⟩
    · exact Or.inr ⟨by omega, rfl, rfl, by omega⟩)
  rw [zI_s] at this
  exact this
def HW (b : AB) (w : AW) (t tc c d : Nat) : Bool := hitW t tc (wkI b w d (c + 1, 0, 0, 0))
theorem msk_tb {c i : Nat} : (mskN b w t tc c).testBit i = (decide (i < 21) && HW b w t tc c i) := by
  unfold mskN HW
  rw [seF_tb, Nat.zero_testBit, Bool.false_or, Nat.sub_zero, decide_eq_decide.mpr (show 0 ≤ i ∧ i < 0 + 21 ↔ i < 21 by omega)]
theorem msk_lt {c : Nat} : mskN b w t tc c < 2 ^ 21 := seF_lt 21 0 _ 0 (by decide)
end Wk
