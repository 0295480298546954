/-! the program keeps acts -/
theorem cpy_i {α : Type} {f g : Nat → α} {n i : Nat} (h : i < n) : va_cpy f g 0 0 n i = f i := by
  unfold va_cpy
  rw [if_pos (by omega), Nat.zero_add, Nat.sub_zero]
theorem g54 {T : xS} {p q : Nat} {w : AW} (hw : CW T q w) (hn : w.1 0 1 ≤ 13) (hd : p + 10 < q ∨ q + 10 < p) : Ep (fun n => G54 p q n T) (fun z => CW z.2 p w ∧ FrW p T z.2) := by
  refine ep_succ (fun n => G54e0 p q n ..) ?_
  simp (disch := omega) only [G54b0, decide_eq_true_eq, decide_true, decide_false, Bool.not_eq_true, Bool.not_eq_true', Bool.not_true, Bool.not_false, decide_eq_false_iff_not, Bool.false_eq_true, not_false_eq_true, not_true_eq_false, if_true, if_false, ↓reduceIte, eq_self, Option.bind_some, Bool.true_and, Bool.false_and, Bool.and_true, Bool.and_false, x_rA1, x_rA3, x_rAe, x_rAn, x_rAi, x_rI2, x_rIe, x_rIn, x_rIi, x_rL1, x_rL2, x_rL4, x_rLe, x_rLi, x_rLn, x_rQ1, x_rQ2, x_rQ3, x_rQe, x_rQi, x_rQn, x_rR1, x_rR3, x_rRe, x_rRn]
  refine ep_ret ⟨?_, ⟨fun r hr => ⟨by simp (disch := omega) only [x_rA1, x_rA3, x_rAe, x_rAn, x_rAi, x_rI2, x_rIe, x_rIn, x_rIi, x_rL1, x_rL2, x_rL4, x_rLe, x_rLi, x_rLn, x_rQ1, x_rQ2, x_rQ3, x_rQe, x_rQi, x_rQn, x_rR1, x_rR3, x_rRe, x_rRn], by simp (disch := omega) only [x_rA1, x_rA3, x_rAe, x_rAn, x_rAi, x_rI2, x_rIe, x_rIn, x_rIi, x_rL1, x_rL2, x_rL4, x_rLe, x_rLi, x_rLn, x_rQ1, x_rQ2, x_rQ3, x_rQe, x_rQi, x_rQn, x_rR1, x_rR3, x_rRe, x_rRn]⟩, rfl⟩⟩
  obtain ⟨h0, h1, h2, h3, h4, h5⟩ := hw
  refine ⟨?_, ?_, ?_, ?_, ?_, ?_⟩
  · simp (disch := omega) only [x_rA1, x_rA3, x_rAe, x_rAn, x_rAi, x_rI2, x_rIe, x_rIn, x_rIi, x_rL1, x_rL2, x_rL4, x_rLe, x_rLi, x_rLn, x_rQ1, x_rQ2, x_rQ3, x_rQe, x_rQi, x_rQn, x_rR1, x_rR3, x_rRe, x_rRn]
    exact h0
  · simp (disch := omega) only [x_rA1, x_rA3, x_rAe, x_rAn, x_rAi, x_rI2, x_rIe, x_rIn, x_rIi, x_rL1, x_rL2, x_rL4, x_rLe, x_rLi, x_rLn, x_rQ1, x_rQ2, x_rQ3, x_rQe, x_rQi, x_rQn, x_rR1, x_rR3, x_rRe, x_rRn]
    exact h1
  · simp (disch := omega) only [x_rA1, x_rA3, x_rAe, x_rAn, x_rAi, x_rI2, x_rIe, x_rIn, x_rIi, x_rL1, x_rL2, x_rL4, x_rLe, x_rLi, x_rLn, x_rQ1, x_rQ2, x_rQ3, x_rQe, x_rQi, x_rQn, x_rR1, x_rR3, x_rRe, x_rRn]
    exact h2
  · intro s hs
    simp (disch := omega) only [x_rA1, x_rA3, x_rAe, x_rAn, x_rAi, x_rI2, x_rIe, x_rIn, x_rIi, x_rL1, x_rL2, x_rL4, x_rLe, x_rLi, x_rLn, x_rQ1, x_rQ2, x_rQ3, x_rQe, x_rQi, x_rQn, x_rR1, x_rR3, x_rRe, x_rRn, cpy_i]
    exact h3 s hs
  · intro i hi
    simp (disch := omega) only [x_rA1, x_rA3, x_rAe, x_rAn, x_rAi, x_rI2, x_rIe, x_rIn, x_rIi, x_rL1, x_rL2, x_rL4, x_rLe, x_rLi, x_rLn, x_rQ1, x_rQ2, x_rQ3, x_rQe, x_rQi, x_rQn, x_rR1, x_rR3, x_rRe, x_rRn, cpy_i]
    exact h4 i hi
  · intro k hk
    simp (disch := omega) only [x_rA1, x_rA3, x_rAe, x_rAn, x_rAi, x_rI2, x_rIe, x_rIn, x_rIi, x_rL1, x_rL2, x_rL4, x_rLe, x_rLi, x_rLn, x_rQ1, x_rQ2, x_rQ3, x_rQe, x_rQi, x_rQn, x_rR1, x_rR3, x_rRe, x_rRn, cpy_i]
    exact h5 k hk
theorem wk_any {G : gS} {q j : Nat} (h : wB G q = true) (h1 : 1 ≤ j) (h2 : j ≤ 10) : (x_kd G (q + j)).1 = 1 := by
  have hj : j = 1 ∨ j = 2 ∨ j = 3 ∨ j = 4 ∨ j = 5 ∨ j = 6 ∨ j = 7 ∨ j = 8 ∨ j = 9 ∨ j = 10 := by omega
  rcases hj with rfl | rfl | rfl | rfl | rfl | rfl | rfl | rfl | rfl | rfl
  · rw [wk1 h]
  · rw [wk2 h]
  · rw [wk3 h]
  · rw [wk4 h]
  · rw [wk5 h]
  · rw [wk6 h]
  · rw [wk7 h]
  · rw [wk8 h]
  · rw [wk9 h]
  · rw [wk10 h]
theorem wk_out {G : gS} {q p : Nat} (h : wB G q = true) (h1 : (x_kd G p).1 ≠ 1) (h2 : p ≠ q) : p < q ∨ q + 10 < p := by
  by_cases a : p < q
  · exact Or.inl a
  · by_cases b : q + 10 < p
    · exact Or.inr b
    · obtain ⟨j, rfl⟩ : ∃ j, p = q + j := ⟨p - q, by omega⟩
      exact absurd (wk_any h (by omega) (by omega)) h1
theorem w_dis {G : gS} {q q' : Nat} (h : wB G q = true) (h' : wB G q' = true) (hne : q ≠ q') : q + 10 < q' ∨ q' + 10 < q := by
  have a := wk_out (p := q') h (by rw [wk0 h']; decide) (fun e => hne e.symm)
  have b := wk_out (p := q) h' (by rw [wk0 h]; decide) hne
  omega
theorem wk_lt {G : gS} {q : Nat} (h : wB G q = true) (h1 : 172 ≤ q) : q + 10 < 172 + G.2.1 := by
  have := wk10 h
  unfold x_kd at this
  rw [if_neg (by omega), if_neg (by omega)] at this
  by_cases e : q + 10 < 172 + G.2.1
  · exact e
  · rw [if_neg e] at this
    cases this
theorem nW_n {T : xS} {G : gS} : (x_nW T G).2.2.1 = G.2.1 + 11 ∧ (x_nW T G).2.2.2 = G.2.2 + 139 := ⟨rfl, by show G.2.2 + 13 + 13 + 13 + 13 + 13 + 13 + 13 + 13 + 13 + 16 + 6 = _; omega⟩
theorem kd_in {G : gS} {p : Nat} (h : 172 ≤ p) (h2 : p < 172 + G.2.1) : x_kd G p = G.1 p := by
  unfold x_kd
  rw [if_neg (by omega), if_neg (by omega), if_pos h2]
theorem wB_nW {T : xS} {G : gS} : wB (x_nW T G).2 (172 + G.2.1) = true := by
  have hk : ∀ j, j ≤ 10 → x_kd (x_nW T G).2 (172 + G.2.1 + j) = (x_nW T G).2.1 (172 + G.2.1 + j) := fun j hj => kd_in (by omega) (by rw [nW_n.1]; omega)
  have e : (x_nW T G).2.1 = va_up (va_up (va_up (va_up (va_up (va_up (va_up (va_up (va_up (va_up (va_up (va_up G.1 (172 + G.2.1) (0, 0)) (172 + (G.2.1 + 1)) (1, 13)) (172 + (G.2.1 + 2)) (1, 13)) (172 + (G.2.1 + 3)) (1, 13)) (172 + (G.2.1 + 4)) (1, 13)) (172 + (G.2.1 + 5)) (1, 13)) (172 + (G.2.1 + 6)) (1, 13)) (172 + (G.2.1 + 7)) (1, 13)) (172 + (G.2.1 + 8)) (1, 13)) (172 + (G.2.1 + 9)) (1, 16)) (172 + (G.2.1 + 10)) (1, 6)) (172 + G.2.1) (19, 0) := rfl
  refine decide_eq_true ⟨?_, ?_, ?_, ?_, ?_, ?_, ?_, ?_, ?_, ?_, ?_⟩
  · have := hk 0 (by omega)
    rw [Nat.add_zero] at this
    rw [this, e, va_upS]
  · rw [hk 1 (by omega), e, show 172 + G.2.1 + 1 = 172 + (G.2.1 + 1) by omega]
    simp (disch := omega) only [va_upN, va_upS]
  · rw [hk 2 (by omega), e, show 172 + G.2.1 + 2 = 172 + (G.2.1 + 2) by omega]
    simp (disch := omega) only [va_upN, va_upS]
  · rw [hk 3 (by omega), e, show 172 + G.2.1 + 3 = 172 + (G.2.1 + 3) by omega]
    simp (disch := omega) only [va_upN, va_upS]
  · rw [hk 4 (by omega), e, show 172 + G.2.1 + 4 = 172 + (G.2.1 + 4) by omega]
    simp (disch := omega) only [va_upN, va_upS]
  · rw [hk 5 (by omega), e, show 172 + G.2.1 + 5 = 172 + (G.2.1 + 5) by omega]
    simp (disch := omega) only [va_upN, va_upS]
  · rw [hk 6 (by omega), e, show 172 + G.2.1 + 6 = 172 + (G.2.1 + 6) by omega]
    simp (disch := omega) only [va_upN, va_upS]
  · rw [hk 7 (by omega), e, show 172 + G.2.1 + 7 = 172 + (G.2.1 + 7) by omega]
    simp (disch := omega) only [va_upN, va_upS]
  · rw [hk 8 (by omega), e, show 172 + G.2.1 + 8 = 172 + (G.2.1 + 8) by omega]
    simp (disch := omega) only [va_upN, va_upS]
  · rw [hk 9 (by omega), e, show 172 + G.2.1 + 9 = 172 + (G.2.1 + 9) by omega]
    simp (disch := omega) only [va_upN, va_upS]
  · rw [hk 10 (by omega), e, show 172 + G.2.1 + 10 = 172 + (G.2.1 + 10) by omega]
    simp (disch := omega) only [va_upN, va_upS]
theorem nW_T {T : xS} {G : gS} : (∀ q, (q < 172 + G.2.1 ∨ 172 + G.2.1 + 10 < q) → (x_nW T G).1.1 q = T.1 q ∧ (x_nW T G).1.2.1 q = T.2.1 q) ∧ (x_nW T G).1.2.2 = T.2.2 := by
  refine ⟨fun q hq => ⟨?_, ?_⟩, rfl⟩
  · show va_up T.1 (172 + G.2.1) _ q = _
    exact va_upN (by omega)
  · show va_up (va_up (va_up (va_up (va_up (va_up (va_up (va_up (va_up (va_up T.2.1 (172 + G.2.1 + 1) _) (172 + G.2.1 + 2) _) (172 + G.2.1 + 3) _) (172 + G.2.1 + 4) _) (172 + G.2.1 + 5) _) (172 + G.2.1 + 6) _) (172 + G.2.1 + 7) _) (172 + G.2.1 + 8) _) (172 + G.2.1 + 9) _) (172 + G.2.1 + 10) _ q = _
    simp (disch := omega) only [va_upN]
/-- kinds that stand stay -/
def GX (G G' : gS) : Prop := G.2.1 ≤ G'.2.1 ∧ ∀ p, p < 172 + G.2.1 → x_kd G' p = x_kd G p
theorem GX_rf {G : gS} : GX G G := ⟨Nat.le_refl _, fun _ _ => rfl⟩
theorem GX_tr {G1 G2 G3 : gS} (h : GX G1 G2) (h' : GX G2 G3) : GX G1 G3 := ⟨Nat.le_trans h.1 h'.1, fun p hp => by rw [h'.2 p (by have := h.1; omega), h.2 p hp]⟩
theorem kd_lt {G : gS} {p : Nat} (h : (x_kd G p).1 ≠ 0) : p < 172 + G.2.1 := by
  by_cases e : p < 172 + G.2.1
  · exact e
  · unfold x_kd at h
    rw [if_neg (by omega), if_neg (by omega), if_neg e] at h
    exact absurd rfl h
theorem GX_k {G G' : gS} (h : GX G G') {p : Nat} {k : Nat × Nat} (hk : x_kd G p = k) (h0 : k.1 ≠ 0) : x_kd G' p = k := by
  rw [h.2 p (kd_lt (by rw [hk]; exact h0))]
  exact hk
theorem GX_w {G G' : gS} (h : GX G G') {q : Nat} (hw : wB G q = true) : wB G' q = true := by
  have k := fun {p : Nat} {k : Nat × Nat} (hk : x_kd G p = k) (h0 : k.1 ≠ 0) => GX_k h hk h0
  exact decide_eq_true ⟨k (wk0 hw) (by decide), k (wk1 hw) (by decide), k (wk2 hw) (by decide), k (wk3 hw) (by decide), k (wk4 hw) (by decide), k (wk5 hw) (by decide), k (wk6 hw) (by decide), k (wk7 hw) (by decide), k (wk8 hw) (by decide), k (wk9 hw) (by decide), k (wk10 hw) (by decide)⟩
theorem GX_p {G G' : gS} (h : GX G G') {q : Nat} (hw : pB G q = true) : pB G' q = true := decide_eq_true ⟨GX_k h (pk0 hw) (by decide), GX_k h (pk1 hw) (by decide)⟩
theorem GX_b {G G' : gS} (h : GX G G') {q : Nat} (hw : bB G q = true) : bB G' q = true := decide_eq_true ⟨GX_k h (bk0 hw) (by decide), GX_k h (bk1 hw) (by decide), GX_k h (bk2 hw) (by decide), GX_k h (bk3 hw) (by decide), GX_k h (bk4 hw) (by decide), GX_k h (bk5 hw) (by decide)⟩
theorem GX_v {G G' : gS} (h : GX G G') {q : Nat} (hw : vB G q = true) : vB G' q = true := by
  unfold vB
  rw [GX_b h (vkb hw), GX_w h (vkw hw), GX_p h (vkp hw), decide_eq_true (GX_k h (vk0 hw) (by decide))]
  rfl
theorem GX_l {G G' : gS} (h : GX G G') {q n : Nat} (hw : lB G q n = true) : lB G' q n = true := decide_eq_true ⟨GX_k h (lk0 hw) (by decide), GX_k h (lk1 hw) (Nat.succ_ne_zero 0)⟩
theorem GX_nW {T : xS} {G : gS} : GX G (x_nW T G).2 := ⟨by rw [nW_n.1]; omega, fun p hp => kd_nW hp⟩
theorem nI_r20 {a : Nat} (h : a < 2 ^ 31) : nI a - nI (a / 20) * nI 20 = nI (a % 20) := by
  rw [← pk_div h (by decide) (by decide)]
  exact pk_rem h (by decide) (by decide)
/-- what keep does: only its object, one slot, and that slot's water -/
def KpC (T : xS) (G : gS) (p : Nat) (T' : xS) (G' : gS) (q0 s0 : Nat) : Prop := s0 < 20 ∧ ((T.2.2.2 (p + 1) s0 = some q0 ∧ G' = G) ∨ (T.2.2.2 (p + 1) s0 = none ∧ q0 = 172 + G.2.1 ∧ G'.2.1 = G.2.1 + 11 ∧ G'.2.2 = G.2.2 + 139)) ∧ GX G G' ∧ wB G' q0 = true ∧ 172 ≤ q0 ∧ T'.2.2.2 (p + 1) s0 = some q0 ∧ (∀ q i, ¬ (q = p + 1 ∧ i = s0) → T'.2.2.2 q i = T.2.2.2 q i) ∧ (∀ q, q ≠ p → (q < q0 ∨ q0 + 10 < q) → T'.1 q = T.1 q ∧ T'.2.1 q = T.2.1 q)
/-- the heart of keep: a slot chosen, its water made if there is none, and the copy -/
theorem g83c {T T1 : xS} {G : gS} {p l1 o m : Nat} {w : AW} (hp : pB G p = true) (hl : wB G l1 = true) (hw : CW T1 l1 w) (hn : w.1 0 1 ≤ 13) (ho : T1.1 p 1 = nI o) (hm : T1.1 p 2 = nI m) (ho2 : o < 20) (hm2 : m < 20) (hT : (∀ q, q ≠ p → T1.1 q = T.1 q) ∧ T1.2 = T.2) (hs : ∀ i q, i < 20 → T.2.2.2 (p + 1) i = some q → 172 ≤ q ∧ wB G q = true ∧ q ≠ l1) (P : Unit × (xS × gS) → Prop) (K : ∀ T' G' q0, KpC T G p T' G' q0 ((o + m) % 20) → CW T' q0 w → T'.1 p 1 = nI o → T'.1 p 2 = nI (m + 1) → P ((), (T', G'))) : Ep (fun n => (if ¬ ((((T1.1 p 1) + (T1.1 p 2)) - ((T1.1 p 1) + (T1.1 p 2)) / 20 * 20) < 0 ∨ 20 ≤ ((((T1.1 p 1) + (T1.1 p 2)) - ((T1.1 p 1) + (T1.1 p 2)) / 20 * 20)).toNatClampNeg) then (Option.elim (T1.2.2.2 (p + 1) (Int32.toNatClampNeg (((T1.1 p 1) + (T1.1 p 2)) - ((T1.1 p 1) + (T1.1 p 2)) / 20 * 20))) ((some (x_nW T1 G)).bind (fun U6 => (if pB U6.2 p = true then (if ¬ ((((T1.1 p 1) + (T1.1 p 2)) - ((T1.1 p 1) + (T1.1 p 2)) / 20 * 20) < 0 ∨ 20 ≤ ((((T1.1 p 1) + (T1.1 p 2)) - ((T1.1 p 1) + (T1.1 p 2)) / 20 * 20)).toNatClampNeg) then (if wB U6.2 (172 + G.2.1) = true then ((some (x_sQ U6.1 (p + 1) (Int32.toNatClampNeg (((T1.1 p 1) + (T1.1 p 2)) - ((T1.1 p 1) + (T1.1 p 2)) / 20 * 20)) (some (172 + G.2.1)))).bind (fun S11 => (if ¬ ((((T1.1 p 1) + (T1.1 p 2)) - ((T1.1 p 1) + (T1.1 p 2)) / 20 * 20) < 0 ∨ 20 ≤ ((((T1.1 p 1) + (T1.1 p 2)) - ((T1.1 p 1) + (T1.1 p 2)) / 20 * 20)).toNatClampNeg) then (Option.elim (S11.2.2.2 (p + 1) (Int32.toNatClampNeg (((T1.1 p 1) + (T1.1 p 2)) - ((T1.1 p 1) + (T1.1 p 2)) / 20 * 20))) none (fun q15 => (if wB U6.2 q15 = true then (if wB U6.2 l1 = true then ((G54 q15 l1 n  S11).bind (fun z18 => ((some (x_sI z18.2 p 2 ((z18.2.1 p 2) + 1))).bind (fun S20 => some ((), (S20, U6.2)))))) else none) else none))) else none))) else none) else none) else none))) (fun q5 => (if ¬ ((((T1.1 p 1) + (T1.1 p 2)) - ((T1.1 p 1) + (T1.1 p 2)) / 20 * 20) < 0 ∨ 20 ≤ ((((T1.1 p 1) + (T1.1 p 2)) - ((T1.1 p 1) + (T1.1 p 2)) / 20 * 20)).toNatClampNeg) then (if wB G q5 = true then (if wB G l1 = true then ((G54 q5 l1 n  T1).bind (fun z27 => ((some (x_sI z27.2 p 2 ((z27.2.1 p 2) + 1))).bind (fun S29 => some ((), (S29, G)))))) else none) else none) else none))) else none)) P := by
  have hs20 : (o + m) % 20 < 20 := Nat.mod_lt _ (by decide)
  have pk := pk0 hp
  have pk' := pk1 hp
  simp (disch := omega) only [ho, hm, L0, L1, L2, L3, L4, L5, L6, L7, L8, L9, L10, L11, L12, L13, L16, L20, L31, L32, L40, L48, L57, L59, L60, L61, L91, L93, L97, L99, L100, L102, L103, L114, L122, L255, L300, L400, L402, L999, L2280, L2500, L99999, L63, L1431655765, L858993459, L252645135, nI_add, nI_divN, nI_r20, nI_clamp, nI_n0, gdF2, leF, or_false, decide_eq_true_eq, decide_true, decide_false, Bool.not_eq_true, Bool.not_eq_true', Bool.not_true, Bool.not_false, decide_eq_false_iff_not, Bool.false_eq_true, not_false_eq_true, not_true_eq_false, if_true, if_false, ↓reduceIte, eq_self, Option.bind_some, Bool.true_and, Bool.false_and, Bool.and_true, Bool.and_false]
  cases hq : T1.2.2.2 (p + 1) ((o + m) % 20) with
  | some q5 =>
    have hq' : T.2.2.2 (p + 1) ((o + m) % 20) = some q5 := by rw [← hT.2]; exact hq
    obtain ⟨a1, a2, a3⟩ := hs _ q5 hs20 hq'
    have hd := w_dis a2 hl a3
    have ho1 := wk_out (p := p) a2 (by rw [pk]; decide) (fun e => by
      have := wk0 a2
      rw [← e, pk] at this
      cases this)
    simp only [Option.elim, a2, hl, decide_eq_true_eq, decide_true, decide_false, Bool.not_eq_true, Bool.not_eq_true', Bool.not_true, Bool.not_false, decide_eq_false_iff_not, Bool.false_eq_true, not_false_eq_true, not_true_eq_false, if_true, if_false, ↓reduceIte, eq_self, Option.bind_some, Bool.true_and, Bool.false_and, Bool.and_true, Bool.and_false]
    refine ep_bind (g54 hw hn (by omega)) ?_
    rintro ⟨_, T2⟩ ⟨c1, c2⟩
    have c2 : FrW q5 T1 T2 := c2
    have e2 : T2.1 p = T1.1 p := (c2.1 p (by omega)).1
    simp only [e2, hm, nI_add]
    refine ep_ret (K _ G q5 ⟨hs20, Or.inl ⟨hq', rfl⟩, GX_rf, a2, a1, ?_, ?_, ?_⟩ ?_ ?_ x_rIe)
    · show T2.2.2.2 (p + 1) ((o + m) % 20) = _
      rw [c2.2]
      exact hq
    · intro q i hqi
      show T2.2.2.2 q i = _
      rw [c2.2, hT.2]
    · intro q hqp hqo
      have := c2.1 q hqo
      refine ⟨?_, ?_⟩
      · rw [x_rIn hqp, this.1, hT.1 q hqp]
      · show T2.2.1 q = _
        rw [this.2, hT.2]
    · exact CW_of c1 (x_rIn (fun e => by rw [← e] at pk; rw [wk0 a2] at pk; cases pk)) (fun _ _ _ => rfl)
    · rw [x_rIi (by decide), e2]
      exact ho
  | none =>
    have hq' : T.2.2.2 (p + 1) ((o + m) % 20) = none := by rw [← hT.2]; exact hq
    have gx := GX_nW (T := T1) (G := G)
    have hwn := wB_nW (T := T1) (G := G)
    have hl' := GX_w gx hl
    have hlt : l1 < 172 + G.2.1 := kd_lt (by rw [wk0 hl]; decide)
    have hpt : p < 172 + G.2.1 := kd_lt (by rw [pk]; decide)
    have hd := w_dis hwn hl' (by omega)
    simp only [Option.elim, GX_p gx hp, hwn, x_rQe, hl', decide_eq_true_eq, decide_true, decide_false, Bool.not_eq_true, Bool.not_eq_true', Bool.not_true, Bool.not_false, decide_eq_false_iff_not, Bool.false_eq_true, not_false_eq_true, not_true_eq_false, if_true, if_false, ↓reduceIte, eq_self, Option.bind_some, Bool.true_and, Bool.false_and, Bool.and_true, Bool.and_false]
    refine ep_bind (g54 (p := 172 + G.2.1) (q := l1) (w := w) ?_ hn hd) ?_
    · refine CW_of hw ?_ (fun k a b => ?_)
      · exact (nW_T.1 l1 (by omega)).1
      · exact (nW_T.1 (l1 + k) (by omega)).2
    · rintro ⟨_, T2⟩ ⟨c1, c2⟩
      have c2 : FrW (172 + G.2.1) (x_sQ (x_nW T1 G).1 (p + 1) ((o + m) % 20) (some (172 + G.2.1))) T2 := c2
      have e2 : T2.1 p = T1.1 p := by
        rw [(c2.1 p (by omega)).1]
        exact (nW_T.1 p (by omega)).1
      simp only [e2, hm, nI_add]
      refine ep_ret (K _ _ (172 + G.2.1) ⟨hs20, Or.inr ⟨hq', rfl, nW_n.1, nW_n.2⟩, gx, hwn, by omega, ?_, ?_, ?_⟩ ?_ ?_ x_rIe)
      · show T2.2.2.2 (p + 1) ((o + m) % 20) = _
        rw [c2.2]
        exact x_rQe
      · intro q i hqi
        show T2.2.2.2 q i = _
        rw [c2.2]
        by_cases e : q = p + 1
        · subst e
          rw [x_rQi (fun z => hqi ⟨rfl, z⟩), nW_T.2, hT.2]
        · rw [x_rQn e, nW_T.2, hT.2]
      · intro q hqp hqo
        have h1 := c2.1 q hqo
        have h2 := (nW_T (T := T1) (G := G)).1 q hqo
        refine ⟨?_, ?_⟩
        · rw [x_rIn hqp, h1.1]
          show (x_nW T1 G).1.1 q = _
          rw [h2.1, hT.1 q hqp]
        · show T2.2.1 q = _
          rw [h1.2]
          show (x_nW T1 G).1.2.1 q = _
          rw [h2.2, hT.2]
      · exact CW_of c1 (x_rIn (by omega)) (fun _ _ _ => rfl)
      · rw [x_rIi (by decide), e2]
        exact ho
