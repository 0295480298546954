/-! rows: both answer the same -/
theorem bt_neg {x : Int32} (h : x < 0) : bt x 31 = true := by
  have h1 := Int32.lt_iff_toInt_lt.mp h
  have h0 : (0 : Int32).toInt = 0 := by decide
  rw [h0] at h1
  unfold bt
  have h2 : x.toBitVec.msb = true := by
    rw [BitVec.msb_eq_toInt]
    exact decide_eq_true h1
  rw [BitVec.msb_eq_getLsbD_last] at h2
  exact h2
theorem neg_dif {x : Int32} {M : Nat} (h : x < 0) (hM : M < 2 ^ 31) : am_if .ne (x &&& (nI M ^^^ zI 0)) = true := by
  show (!decide (x &&& (nI M ^^^ zI 0) = 0)) = true
  rw [decide_eq_false]
  · rfl
  · intro e
    have e2 := congrArg (fun y => bt y 31) e
    have e3 : bt (x &&& (nI M ^^^ zI 0)) 31 = true := by
      rw [b_and, b_xor, bt_nI (by decide), bt_neg h, zI_0, b_m1 31 (by decide), Nat.testBit_lt_two_pow hM]
      rfl
    have e4 : bt 0 31 = false := by decide
    have e2 : bt (x &&& (nI M ^^^ zI 0)) 31 = bt 0 31 := e2
    rw [e3, e4] at e2
    exact absurd e2 (by decide)
theorem nxz {a b : Nat} : a ^^^ b = 0 ↔ a = b := by
  constructor
  · intro h
    refine Nat.eq_of_testBit_eq (fun i => ?_)
    have h1 : (a ^^^ b).testBit i = false := by rw [h, Nat.zero_testBit]
    rw [Nat.testBit_xor] at h1
    revert h1
    cases a.testBit i <;> cases b.testBit i <;> decide
  · intro h
    rw [h, Nat.xor_self]
theorem zI_p {a : Nat} (h : 1 ≤ a) : nI (a - 1) = zI a := by
  unfold zI
  rw [if_neg (by omega)]
/-- a set of the first N -/
theorem arg_S (x : Int32) {N : Nat} (hN : N ≤ 12) : (∃ s, s < 2 ^ N ∧ x = nI s) ∨ (am_if .ne (x &&& (nI (2 ^ N - 1) ^^^ zI 0)) = true ∧ inL x.toInt64 0 (nI (2 ^ N - 1)).toInt64 = false) := by
  have h12 : 2 ^ N ≤ 4096 := Nat.pow_le_pow_right (n := 2) (by decide) hN
  have hp : 1 ≤ 2 ^ N := Nat.pow_pos (by decide)
  rcases i32_cases x with ⟨a, ha, rfl⟩ | hx
  · by_cases h : a < 2 ^ N
    · exact Or.inl ⟨a, h, rfl⟩
    · refine Or.inr ⟨?_, ?_⟩
      · rw [nI_dif, Nat.and_two_pow_sub_one_eq_mod]
        have hm := Nat.mod_lt a hp
        have hx : a ^^^ (a % 2 ^ N) < 2 ^ 31 := Nat.xor_lt_two_pow ha (by omega)
        rw [if_ne hx]
        rw [decide_eq_false]
        · rfl
        · intro e
          have := nxz.mp e
          omega
      · rw [zI_p hp, inC' ha (by omega)]
        exact decide_eq_false h
  · exact Or.inr ⟨neg_dif hx (by omega), inL_neg hx⟩
theorem arg_Sy {s N : Nat} (hN : N ≤ 12) (hs : s < 2 ^ N) : am_if .ne (nI s &&& (nI (2 ^ N - 1) ^^^ zI 0)) = false ∧ inL (nI s).toInt64 0 (nI (2 ^ N - 1)).toInt64 = true ∧ (∀ x, s.testBit x = true → x < N) ∧ ctF s.testBit 16 0 = rkN s N := by
  have h12 : 2 ^ N ≤ 4096 := Nat.pow_le_pow_right (n := 2) (by decide) hN
  have hp : 1 ≤ 2 ^ N := Nat.pow_pos (by decide)
  have htb : ∀ x, s.testBit x = true → x < N := by
    intro x hx
    refine Nat.lt_of_not_le (fun h => ?_)
    rw [Nat.testBit_lt_two_pow (Nat.lt_of_lt_of_le hs (Nat.pow_le_pow_right (by decide) h))] at hx
    exact absurd hx (by decide)
  refine ⟨?_, ?_, htb, ?_⟩
  · rw [nI_dif, Nat.and_two_pow_sub_one_eq_mod, Nat.mod_eq_of_lt hs, Nat.xor_self]
    decide
  · rw [zI_p hp, inC' (by omega) (by omega)]
    exact decide_eq_true hs
  · obtain ⟨d, hd⟩ : ∃ d, 16 = N + d := ⟨16 - N, by omega⟩
    rw [hd, ctF_add, ctF_0 d (0 + N) (fun i a b => Bool.eq_false_iff.mpr (fun e => by have := htb i e; omega)), Nat.add_zero]
    rfl
theorem f250 {S : mS} {t : Nat → Nat} {s N : Nat} (hN : N ≤ 12) (hz : rkN s N ≤ 8) (h0 : s ≠ 0) (hs : s < 2 ^ N) (ht : ∀ x, x < N → isTx (t x) = true) (H4 : S.2.1 1 4 = nI N) (H11 : ∀ x, x < N → S.2.1 11 x = nI (t x)) : Ep (fun n => F250 n (nI s) S) (fun z => z.1 = nI (cwF t N (rkN s N) 0 s.testBit) ∧ FrR S z.2 ∧ (cwF t N (rkN s N) 0 s.testBit ≠ 0 → ∀ j, j < rkN s N → z.2.2.1 38 j = nI (foF t N (rkN s N) 0 s.testBit j))) := by
  obtain ⟨q1, q2, q3, q4⟩ := arg_Sy hN hs
  have h12 : 2 ^ N ≤ 4096 := Nat.pow_le_pow_right (n := 2) (by decide) hN
  have hz0 : rkN s N ≠ 0 := by
    intro e
    refine h0 (Nat.eq_of_testBit_eq (fun i => ?_))
    rw [Nat.zero_testBit]
    refine Bool.eq_false_iff.mpr (fun hb => ?_)
    have := rk_lt (q3 i hb) hb
    omega
  obtain ⟨m, hm⟩ : ∃ m, rkN s N = m + 1 := ⟨rkN s N - 1, by omega⟩
  have hf : frU s 0 = s.testBit := by
    funext x
    unfold frU
    rw [Nat.zero_testBit, Bool.not_false, Bool.and_true]
  refine ep_succ (fun n => F250e0 n ..) ?_
  simp only [F250b0]
  refine ep_bv (f223n (v := s) (by omega)) ?_
  rw [q4]
  simp only [L0, L1, Lm1]
  have hcw : cwF t N (rkN s N) 0 s.testBit = sF (stp t N m 0 (frU s 0)) N 0 := by rw [hm, cw_s, hf]
  have hb := cw_b (t := t) (N := N) (m := rkN s N) (l := 0) (fr := s.testBit) hN hz
  refine f250a (S0 := S) (t := t) (s := s) (N := N) (z := rkN s N) hN hz (by omega) ht H4 H11 m N 0 0 0 0 0 _ (by omega) (by omega) m_rAe (Or.inl ⟨rfl, rfl⟩) (by decide) (by rw [← hcw]; omega) (FrR_7 FrR_rf) (fun S' f1 f2 f3 => ?_)
  rw [← hcw] at f3 ⊢
  refine ep_succ (fun n => F250e20 n ..) ?_
  simp (disch := omega) only [F250b20, L0, L1, L2, L3, L4, L5, L6, L7, L8, L9, L10, L11, L12, L13, L16, L20, L31, L32, L40, L48, L57, L59, L60, L61, L91, L93, L97, L99, L100, L102, L103, L114, L122, L255, L300, L400, L402, L999, L2280, L2500, L99999, L63, L1431655765, L858993459, L252645135, ic_ge, ic_gt, ic_le, ic_lt, ic_eq, ic_ne, if_lt, if_ge, if_gt, if_le, if_eq, if_ne, if_lt_zI, if_ge_zI, ic_ne_m1, ic_eq_m1, ic_nn_m1, ic_ee_m1, if_ne_b2i, if_eq_b2i, b2i_z, decide_eq_true_eq, decide_true, decide_false, Bool.not_eq_true, Bool.not_eq_true', Bool.not_true, Bool.not_false, decide_eq_false_iff_not, Bool.false_eq_true, not_false_eq_true, not_true_eq_false, if_true, if_false, ↓reduceIte, eq_self, Option.bind_some, Bool.true_and, Bool.false_and, Bool.and_true, Bool.and_false, nI_add, nI_subN, nI_clamp, gdF, gdF2, gdP, gdP2, zI_cl, zI_s, Lm1, nI_n0, zI_n0, leF, or_false, false_or, or_self, if_pos]
  refine ep_ret ⟨by rw [Nat.zero_add], f1, fun hc j hj => ?_⟩
  have := (f3.2 rfl hc).2 j (by omega)
  rw [Nat.zero_add] at this
  rw [this, hm, hf]
  rfl
def rowA (t : Nat → Nat) (N s v : Nat) : Int32 := if v = 0 then nI (cwF t N (rkN s N) 0 s.testBit) else if v - 1 < rkN s N ∧ cwF t N (rkN s N) 0 s.testBit ≠ 0 then nI (foF t N (rkN s N) 0 s.testBit (v - 1)) else -2
theorem fo_lt {t : Nat → Nat} {N : Nat} (hN : N ≤ 12) : ∀ (m l : Nat) (fr : Nat → Bool) (p : Nat), foF t N m l fr p ≤ 12
  | 0, _, _, _ => by
    unfold foF
    omega
  | m + 1, l, fr, p => by
    unfold foF
    rcases fs_is (P := fun x => !decide (stp t N m l fr x = 0)) N 0 with ⟨h1, _⟩ | ⟨x, h1, _, h3, _⟩
    · have h1 : fxF t N m l fr N 0 = none := h1
      rw [h1]
      exact Nat.zero_le _
    · have h1 : fxF t N m l fr N 0 = some x := h1
      rw [h1]
      show (if p = 0 then x else _) ≤ 12
      split
      · omega
      · exact fo_lt hN m _ _ _
theorem sm_rows {k : Nat} {a1 a2 : Int32} (hk : k < 512) (A : AA) (ok : OkA k A) : ∃ r A', OkA (k + 1) A' ∧ CallT (fun n => G126 n a1 a2) A r A' ∧ CallM (fun n => F249 n a1 a2) A r A' := by
  have ok1 := OkA_s ok
  have kw := OkA_w ok
  have hn12 := (ok.2.2.2.1.2.2.1 A.2.2.1.2.1 (Or.inl rfl)).2.1
  have tx : ∀ x, x < A.2.2.1.2.1.1 0 1 → isTx (A.2.2.1.2.1.1 2 x) = true := fun x hx => (kw.2.1 x hx).1
  have h12 : 2 ^ A.2.2.1.2.1.1 0 1 ≤ 4096 := Nat.pow_le_pow_right (n := 2) (by decide) hn12
  have hp : 1 ≤ 2 ^ A.2.2.1.2.1.1 0 1 := Nat.pow_pos (by decide)
  have e1 : am_if .eq (nI 1) = false := by decide
  have e0 : am_if .eq (nI 0) = true := by decide
  have hTn : ∀ T G, RC A T G → T.1 95 1 = nI (A.2.2.1.2.1.1 0 1) := fun T G hR => (CD_w hR).2.1
  have hSn : ∀ S, RM A S → S.2.1 1 4 = nI (A.2.2.1.2.1.1 0 1) := fun S hS => (MD_w hS).1
  by_cases hall : (¬ A.2.2.1.1 0 0 = 0) ∧ (∃ s, s < 2 ^ A.2.2.1.2.1.1 0 1 ∧ a1 = nI s ∧ rkN s (A.2.2.1.2.1.1 0 1) ≤ 8) ∧ (∃ j, j ≤ 12 ∧ a2 = nI j)
  · obtain ⟨h0, ⟨s, hs, rfl, hz⟩, ⟨v, hv, rfl⟩⟩ := hall
    obtain ⟨q1, q2, q3, q4⟩ := arg_Sy hn12 hs
    have inv : inL (nI v).toInt64 0 12 = true := by
      have := inK (a := v) (k := 12) (by omega) (by decide)
      rw [decide_eq_true hv] at this
      exact this
    have g92' : ∀ T : xS, Ev (fun n => G92 n (nI s) T) (nI (rkN s (A.2.2.1.2.1.1 0 1)), T) := fun T => by
      have := g92 (a := s) (by omega) (T := T)
      rw [q4] at this
      exact this
    have f223' : ∀ S : mS, Ev (fun n => F223 n (nI s) S) (nI (rkN s (A.2.2.1.2.1.1 0 1)), S) := fun S => by
      have := f223n (v := s) (by omega) (S := S)
      rw [q4] at this
      exact this
    have cb := cw_b (t := A.2.2.1.2.1.1 2) (N := A.2.2.1.2.1.1 0 1) (m := rkN s (A.2.2.1.2.1.1 0 1)) (l := 0) (fr := s.testBit) hn12 hz
    refine ⟨rowA (A.2.2.1.2.1.1 2) (A.2.2.1.2.1.1 0 1) s v, A, ok1, fun T G hR => ?_, fun S hS => ?_⟩
    · refine ep_succ (fun n => G126e0 n ..) ?_
      simp only [G126b0]
      refine ep_bv ((arg_R ok h0).1 T G hR) ?_
      have hc := hTn T G hR
      simp (disch := omega) only [e1, L0, L1, L2, L3, L4, L5, L6, L7, L8, L9, L10, L11, L12, L13, L16, L20, L31, L32, L40, L48, L57, L59, L60, L61, L91, L93, L97, L99, L100, L102, L103, L114, L122, L255, L300, L400, L402, L999, L2280, L2500, L99999, L63, L1431655765, L858993459, L252645135, ic_ge, ic_gt, ic_le, ic_lt, ic_eq, ic_ne, if_lt, if_ge, if_gt, if_le, if_eq, if_ne, if_lt_zI, if_ge_zI, ic_ne_m1, ic_eq_m1, ic_nn_m1, ic_ee_m1, if_ne_b2i, if_eq_b2i, b2i_z, decide_eq_true_eq, decide_true, decide_false, Bool.not_eq_true, Bool.not_eq_true', Bool.not_true, Bool.not_false, decide_eq_false_iff_not, Bool.false_eq_true, not_false_eq_true, not_true_eq_false, if_true, if_false, ↓reduceIte, eq_self, Option.bind_some, Bool.true_and, Bool.false_and, Bool.and_true, Bool.and_false, nI_add, nI_subN, nI_clamp, gdF, gdF2, gdP, gdP2, zI_cl, zI_s, Lm1, nI_n0, zI_n0, leF, or_false, false_or, or_self, hv, hc, nI_shl, q1]
      refine ep_bv (g92' T) ?_
      simp (disch := omega) only [L0, L1, L2, L3, L4, L5, L6, L7, L8, L9, L10, L11, L12, L13, L16, L20, L31, L32, L40, L48, L57, L59, L60, L61, L91, L93, L97, L99, L100, L102, L103, L114, L122, L255, L300, L400, L402, L999, L2280, L2500, L99999, L63, L1431655765, L858993459, L252645135, ic_ge, ic_gt, ic_le, ic_lt, ic_eq, ic_ne, if_lt, if_ge, if_gt, if_le, if_eq, if_ne, if_lt_zI, if_ge_zI, ic_ne_m1, ic_eq_m1, ic_nn_m1, ic_ee_m1, if_ne_b2i, if_eq_b2i, b2i_z, decide_eq_true_eq, decide_true, decide_false, Bool.not_eq_true, Bool.not_eq_true', Bool.not_true, Bool.not_false, decide_eq_false_iff_not, Bool.false_eq_true, not_false_eq_true, not_true_eq_false, if_true, if_false, ↓reduceIte, eq_self, Option.bind_some, Bool.true_and, Bool.false_and, Bool.and_true, Bool.and_false, nI_add, nI_subN, nI_clamp, gdF, gdF2, gdP, gdP2, zI_cl, zI_s, Lm1, nI_n0, zI_n0, leF, or_false, false_or, or_self, hz]
      refine ep_bind (g127 (CD_w hR) hn12 hz (by omega) q3 tx) ?_
      rintro ⟨_, T1⟩ ⟨o1, o2, o3⟩
      have o1 : OR T1 (A.2.2.1.2.1.1 2) s (A.2.2.1.2.1.1 0 1) := o1
      have o2 : FrO T T1 := o2
      have o3 : WA T1 (A.2.2.1.2.1.1 2) s (A.2.2.1.2.1.1 0 1) 0 := o3
      have hR1 : RC A T1 G := RC_same hR ⟨(o2.1 65 (by omega)).1, (o2.1 66 (by omega)).2, (o2.1 64 (by omega)).1⟩ (fun q hq => o2.1 q (by omega)) (fun q _ => by rw [o2.2])
      unfold rowA
      by_cases v0 : v = 0
      · subst v0
        simp (disch := omega) only [L0, L1, L2, L3, L4, L5, L6, L7, L8, L9, L10, L11, L12, L13, L16, L20, L31, L32, L40, L48, L57, L59, L60, L61, L91, L93, L97, L99, L100, L102, L103, L114, L122, L255, L300, L400, L402, L999, L2280, L2500, L99999, L63, L1431655765, L858993459, L252645135, ic_ge, ic_gt, ic_le, ic_lt, ic_eq, ic_ne, if_lt, if_ge, if_gt, if_le, if_eq, if_ne, if_lt_zI, if_ge_zI, ic_ne_m1, ic_eq_m1, ic_nn_m1, ic_ee_m1, if_ne_b2i, if_eq_b2i, b2i_z, decide_eq_true_eq, decide_true, decide_false, Bool.not_eq_true, Bool.not_eq_true', Bool.not_true, Bool.not_false, decide_eq_false_iff_not, Bool.false_eq_true, not_false_eq_true, not_true_eq_false, if_true, if_false, ↓reduceIte, eq_self, Option.bind_some, Bool.true_and, Bool.false_and, Bool.and_true, Bool.and_false, nI_add, nI_subN, nI_clamp, gdF, gdF2, gdP, gdP2, zI_cl, zI_s, Lm1, nI_n0, zI_n0, leF, or_false, false_or, or_self]
        refine ep_bv (g130 o1 hn12 hz q3 tx o3) ?_
        exact ep_ret ⟨rfl, hR1⟩
      · simp (disch := omega) only [L0, L1, L2, L3, L4, L5, L6, L7, L8, L9, L10, L11, L12, L13, L16, L20, L31, L32, L40, L48, L57, L59, L60, L61, L91, L93, L97, L99, L100, L102, L103, L114, L122, L255, L300, L400, L402, L999, L2280, L2500, L99999, L63, L1431655765, L858993459, L252645135, ic_ge, ic_gt, ic_le, ic_lt, ic_eq, ic_ne, if_lt, if_ge, if_gt, if_le, if_eq, if_ne, if_lt_zI, if_ge_zI, ic_ne_m1, ic_eq_m1, ic_nn_m1, ic_ee_m1, if_ne_b2i, if_eq_b2i, b2i_z, decide_eq_true_eq, decide_true, decide_false, Bool.not_eq_true, Bool.not_eq_true', Bool.not_true, Bool.not_false, decide_eq_false_iff_not, Bool.false_eq_true, not_false_eq_true, not_true_eq_false, if_true, if_false, ↓reduceIte, eq_self, Option.bind_some, Bool.true_and, Bool.false_and, Bool.and_true, Bool.and_false, nI_add, nI_subN, nI_clamp, gdF, gdF2, gdP, gdP2, zI_cl, zI_s, Lm1, nI_n0, zI_n0, leF, or_false, false_or, or_self, v0]
        refine ep_bv (g131 o1 hn12 hz q3 tx o3 (by omega)) ?_
        by_cases hc2 : v - 1 < rkN s (A.2.2.1.2.1.1 0 1) ∧ cwF (A.2.2.1.2.1.1 2) (A.2.2.1.2.1.1 0 1) (rkN s (A.2.2.1.2.1.1 0 1)) 0 s.testBit ≠ 0
        · have fb := fo_lt (t := A.2.2.1.2.1.1 2) hn12 (rkN s (A.2.2.1.2.1.1 0 1)) 0 s.testBit (v - 1)
          rw [if_pos hc2, if_pos hc2]
          simp (disch := omega) only [L0, L1, L2, L3, L4, L5, L6, L7, L8, L9, L10, L11, L12, L13, L16, L20, L31, L32, L40, L48, L57, L59, L60, L61, L91, L93, L97, L99, L100, L102, L103, L114, L122, L255, L300, L400, L402, L999, L2280, L2500, L99999, L63, L1431655765, L858993459, L252645135, ic_ge, ic_gt, ic_le, ic_lt, ic_eq, ic_ne, if_lt, if_ge, if_gt, if_le, if_eq, if_ne, if_lt_zI, if_ge_zI, ic_ne_m1, ic_eq_m1, ic_nn_m1, ic_ee_m1, if_ne_b2i, if_eq_b2i, b2i_z, decide_eq_true_eq, decide_true, decide_false, Bool.not_eq_true, Bool.not_eq_true', Bool.not_true, Bool.not_false, decide_eq_false_iff_not, Bool.false_eq_true, not_false_eq_true, not_true_eq_false, if_true, if_false, ↓reduceIte, eq_self, Option.bind_some, Bool.true_and, Bool.false_and, Bool.and_true, Bool.and_false, nI_add, nI_subN, nI_clamp, gdF, gdF2, gdP, gdP2, zI_cl, zI_s, Lm1, nI_n0, zI_n0, leF, or_false, false_or, or_self]
          exact ep_ret ⟨rfl, hR1⟩
        · rw [if_neg hc2, if_neg hc2]
          simp (disch := omega) only [L0, L1, L2, L3, L4, L5, L6, L7, L8, L9, L10, L11, L12, L13, L16, L20, L31, L32, L40, L48, L57, L59, L60, L61, L91, L93, L97, L99, L100, L102, L103, L114, L122, L255, L300, L400, L402, L999, L2280, L2500, L99999, L63, L1431655765, L858993459, L252645135, ic_ge, ic_gt, ic_le, ic_lt, ic_eq, ic_ne, if_lt, if_ge, if_gt, if_le, if_eq, if_ne, if_lt_zI, if_ge_zI, ic_ne_m1, ic_eq_m1, ic_nn_m1, ic_ee_m1, if_ne_b2i, if_eq_b2i, b2i_z, decide_eq_true_eq, decide_true, decide_false, Bool.not_eq_true, Bool.not_eq_true', Bool.not_true, Bool.not_false, decide_eq_false_iff_not, Bool.false_eq_true, not_false_eq_true, not_true_eq_false, if_true, if_false, ↓reduceIte, eq_self, Option.bind_some, Bool.true_and, Bool.false_and, Bool.and_true, Bool.and_false, nI_add, nI_subN, nI_clamp, gdF, gdF2, gdP, gdP2, zI_cl, zI_s, Lm1, nI_n0, zI_n0, leF, or_false, false_or, or_self]
          exact ep_ret ⟨rfl, hR1⟩
    · refine ep_succ (fun n => F249e0 n ..) ?_
      simp only [F249b0]
      refine ep_bv ((arg_R ok h0).2 S hS) ?_
      have hc := hSn S hS
      have hgt : ¬ 8 < rkN s (A.2.2.1.2.1.1 0 1) := by omega
      simp (disch := omega) only [e1, L0, L1, L2, L3, L4, L5, L6, L7, L8, L9, L10, L11, L12, L13, L16, L20, L31, L32, L40, L48, L57, L59, L60, L61, L91, L93, L97, L99, L100, L102, L103, L114, L122, L255, L300, L400, L402, L999, L2280, L2500, L99999, L63, L1431655765, L858993459, L252645135, ic_ge, ic_gt, ic_le, ic_lt, ic_eq, ic_ne, if_lt, if_ge, if_gt, if_le, if_eq, if_ne, if_lt_zI, if_ge_zI, ic_ne_m1, ic_eq_m1, ic_nn_m1, ic_ee_m1, if_ne_b2i, if_eq_b2i, b2i_z, decide_eq_true_eq, decide_true, decide_false, Bool.not_eq_true, Bool.not_eq_true', Bool.not_true, Bool.not_false, decide_eq_false_iff_not, Bool.false_eq_true, not_false_eq_true, not_true_eq_false, if_true, if_false, ↓reduceIte, eq_self, Option.bind_some, Bool.true_and, Bool.false_and, Bool.and_true, Bool.and_false, nI_add, nI_subN, nI_clamp, gdF, gdF2, gdP, gdP2, zI_cl, zI_s, Lm1, nI_n0, zI_n0, leF, or_false, false_or, or_self, hc, nI_shl]
      refine ep_bv (f172 S) ?_
      rw [q2]
      simp (disch := omega) only [L0, L1, L2, L3, L4, L5, L6, L7, L8, L9, L10, L11, L12, L13, L16, L20, L31, L32, L40, L48, L57, L59, L60, L61, L91, L93, L97, L99, L100, L102, L103, L114, L122, L255, L300, L400, L402, L999, L2280, L2500, L99999, L63, L1431655765, L858993459, L252645135, ic_ge, ic_gt, ic_le, ic_lt, ic_eq, ic_ne, if_lt, if_ge, if_gt, if_le, if_eq, if_ne, if_lt_zI, if_ge_zI, ic_ne_m1, ic_eq_m1, ic_nn_m1, ic_ee_m1, if_ne_b2i, if_eq_b2i, b2i_z, decide_eq_true_eq, decide_true, decide_false, Bool.not_eq_true, Bool.not_eq_true', Bool.not_true, Bool.not_false, decide_eq_false_iff_not, Bool.false_eq_true, not_false_eq_true, not_true_eq_false, if_true, if_false, ↓reduceIte, eq_self, Option.bind_some, Bool.true_and, Bool.false_and, Bool.and_true, Bool.and_false, nI_add, nI_subN, nI_clamp, gdF, gdF2, gdP, gdP2, zI_cl, zI_s, Lm1, nI_n0, zI_n0, leF, or_false, false_or, or_self]
      refine ep_bv (f223' S) ?_
      simp (disch := omega) only [L0, L1, L2, L3, L4, L5, L6, L7, L8, L9, L10, L11, L12, L13, L16, L20, L31, L32, L40, L48, L57, L59, L60, L61, L91, L93, L97, L99, L100, L102, L103, L114, L122, L255, L300, L400, L402, L999, L2280, L2500, L99999, L63, L1431655765, L858993459, L252645135, ic_ge, ic_gt, ic_le, ic_lt, ic_eq, ic_ne, if_lt, if_ge, if_gt, if_le, if_eq, if_ne, if_lt_zI, if_ge_zI, ic_ne_m1, ic_eq_m1, ic_nn_m1, ic_ee_m1, if_ne_b2i, if_eq_b2i, b2i_z, decide_eq_true_eq, decide_true, decide_false, Bool.not_eq_true, Bool.not_eq_true', Bool.not_true, Bool.not_false, decide_eq_false_iff_not, Bool.false_eq_true, not_false_eq_true, not_true_eq_false, if_true, if_false, ↓reduceIte, eq_self, Option.bind_some, Bool.true_and, Bool.false_and, Bool.and_true, Bool.and_false, nI_add, nI_subN, nI_clamp, gdF, gdF2, gdP, gdP2, zI_cl, zI_s, Lm1, nI_n0, zI_n0, leF, or_false, false_or, or_self, hgt]
      refine ep_bv (f172 S) ?_
      rw [inv]
      have H11 : ∀ x, x < A.2.2.1.2.1.1 0 1 → S.2.1 11 x = nI (A.2.2.1.2.1.1 2 x) := fun x hx => ((MD_w hS).2.2.2.1 x hx).2.1
      unfold rowA
      by_cases s0 : s = 0
      · have hrk : rkN s (A.2.2.1.2.1.1 0 1) = 0 := ctF_0 _ 0 (fun i _ _ => by rw [s0]; exact Nat.zero_testBit i)
        have fs := f223' S
        rw [hrk] at fs ⊢
        rw [s0] at fs ⊢
        by_cases v0 : v = 0
        · subst v0
          simp (disch := omega) only [L0, L1, L2, L3, L4, L5, L6, L7, L8, L9, L10, L11, L12, L13, L16, L20, L31, L32, L40, L48, L57, L59, L60, L61, L91, L93, L97, L99, L100, L102, L103, L114, L122, L255, L300, L400, L402, L999, L2280, L2500, L99999, L63, L1431655765, L858993459, L252645135, ic_ge, ic_gt, ic_le, ic_lt, ic_eq, ic_ne, if_lt, if_ge, if_gt, if_le, if_eq, if_ne, if_lt_zI, if_ge_zI, ic_ne_m1, ic_eq_m1, ic_nn_m1, ic_ee_m1, if_ne_b2i, if_eq_b2i, b2i_z, decide_eq_true_eq, decide_true, decide_false, Bool.not_eq_true, Bool.not_eq_true', Bool.not_true, Bool.not_false, decide_eq_false_iff_not, Bool.false_eq_true, not_false_eq_true, not_true_eq_false, if_true, if_false, ↓reduceIte, eq_self, Option.bind_some, Bool.true_and, Bool.false_and, Bool.and_true, Bool.and_false, nI_add, nI_subN, nI_clamp, gdF, gdF2, gdP, gdP2, zI_cl, zI_s, Lm1, nI_n0, zI_n0, leF, or_false, false_or, or_self]
          exact ep_ret ⟨rfl, hS⟩
        · have hle : ¬ v ≤ 0 := by omega
          rw [if_neg v0, if_neg (fun e => absurd e.1 (Nat.not_lt_zero _))]
          simp (disch := omega) only [L0, L1, L2, L3, L4, L5, L6, L7, L8, L9, L10, L11, L12, L13, L16, L20, L31, L32, L40, L48, L57, L59, L60, L61, L91, L93, L97, L99, L100, L102, L103, L114, L122, L255, L300, L400, L402, L999, L2280, L2500, L99999, L63, L1431655765, L858993459, L252645135, ic_ge, ic_gt, ic_le, ic_lt, ic_eq, ic_ne, if_lt, if_ge, if_gt, if_le, if_eq, if_ne, if_lt_zI, if_ge_zI, ic_ne_m1, ic_eq_m1, ic_nn_m1, ic_ee_m1, if_ne_b2i, if_eq_b2i, b2i_z, decide_eq_true_eq, decide_true, decide_false, Bool.not_eq_true, Bool.not_eq_true', Bool.not_true, Bool.not_false, decide_eq_false_iff_not, Bool.false_eq_true, not_false_eq_true, not_true_eq_false, if_true, if_false, ↓reduceIte, eq_self, Option.bind_some, Bool.true_and, Bool.false_and, Bool.and_true, Bool.and_false, nI_add, nI_subN, nI_clamp, gdF, gdF2, gdP, gdP2, zI_cl, zI_s, Lm1, nI_n0, zI_n0, leF, or_false, false_or, or_self, v0]
          refine ep_bv fs ?_
          simp (disch := omega) only [L0, L1, L2, L3, L4, L5, L6, L7, L8, L9, L10, L11, L12, L13, L16, L20, L31, L32, L40, L48, L57, L59, L60, L61, L91, L93, L97, L99, L100, L102, L103, L114, L122, L255, L300, L400, L402, L999, L2280, L2500, L99999, L63, L1431655765, L858993459, L252645135, ic_ge, ic_gt, ic_le, ic_lt, ic_eq, ic_ne, if_lt, if_ge, if_gt, if_le, if_eq, if_ne, if_lt_zI, if_ge_zI, ic_ne_m1, ic_eq_m1, ic_nn_m1, ic_ee_m1, if_ne_b2i, if_eq_b2i, b2i_z, decide_eq_true_eq, decide_true, decide_false, Bool.not_eq_true, Bool.not_eq_true', Bool.not_true, Bool.not_false, decide_eq_false_iff_not, Bool.false_eq_true, not_false_eq_true, not_true_eq_false, if_true, if_false, ↓reduceIte, eq_self, Option.bind_some, Bool.true_and, Bool.false_and, Bool.and_true, Bool.and_false, nI_add, nI_subN, nI_clamp, gdF, gdF2, gdP, gdP2, zI_cl, zI_s, Lm1, nI_n0, zI_n0, leF, or_false, false_or, or_self, hle]
          exact ep_ret ⟨rfl, hS⟩
      · simp (disch := omega) only [L0, L1, L2, L3, L4, L5, L6, L7, L8, L9, L10, L11, L12, L13, L16, L20, L31, L32, L40, L48, L57, L59, L60, L61, L91, L93, L97, L99, L100, L102, L103, L114, L122, L255, L300, L400, L402, L999, L2280, L2500, L99999, L63, L1431655765, L858993459, L252645135, ic_ge, ic_gt, ic_le, ic_lt, ic_eq, ic_ne, if_lt, if_ge, if_gt, if_le, if_eq, if_ne, if_lt_zI, if_ge_zI, ic_ne_m1, ic_eq_m1, ic_nn_m1, ic_ee_m1, if_ne_b2i, if_eq_b2i, b2i_z, decide_eq_true_eq, decide_true, decide_false, Bool.not_eq_true, Bool.not_eq_true', Bool.not_true, Bool.not_false, decide_eq_false_iff_not, Bool.false_eq_true, not_false_eq_true, not_true_eq_false, if_true, if_false, ↓reduceIte, eq_self, Option.bind_some, Bool.true_and, Bool.false_and, Bool.and_true, Bool.and_false, nI_add, nI_subN, nI_clamp, gdF, gdF2, gdP, gdP2, zI_cl, zI_s, Lm1, nI_n0, zI_n0, leF, or_false, false_or, or_self, s0]
        refine ep_bind (f250 hn12 hz s0 hs tx hc H11) ?_
        rintro ⟨r, S1⟩ ⟨o1, o2, o3⟩
        have o1 : r = nI (cwF (A.2.2.1.2.1.1 2) (A.2.2.1.2.1.1 0 1) (rkN s (A.2.2.1.2.1.1 0 1)) 0 s.testBit) := o1
        have o2 : FrR S S1 := o2
        subst o1
        have hS1 : RM A S1 := RM_same ok hS ⟨by rw [o2.1], by rw [o2.1], by rw [o2.1], by rw [o2.1]⟩ (fun k i hk => by rw [o2.2.2 k (by omega) (by omega)])
        by_cases v0 : v = 0
        · subst v0
          simp (disch := omega) only [L0, L1, L2, L3, L4, L5, L6, L7, L8, L9, L10, L11, L12, L13, L16, L20, L31, L32, L40, L48, L57, L59, L60, L61, L91, L93, L97, L99, L100, L102, L103, L114, L122, L255, L300, L400, L402, L999, L2280, L2500, L99999, L63, L1431655765, L858993459, L252645135, ic_ge, ic_gt, ic_le, ic_lt, ic_eq, ic_ne, if_lt, if_ge, if_gt, if_le, if_eq, if_ne, if_lt_zI, if_ge_zI, ic_ne_m1, ic_eq_m1, ic_nn_m1, ic_ee_m1, if_ne_b2i, if_eq_b2i, b2i_z, decide_eq_true_eq, decide_true, decide_false, Bool.not_eq_true, Bool.not_eq_true', Bool.not_true, Bool.not_false, decide_eq_false_iff_not, Bool.false_eq_true, not_false_eq_true, not_true_eq_false, if_true, if_false, ↓reduceIte, eq_self, Option.bind_some, Bool.true_and, Bool.false_and, Bool.and_true, Bool.and_false, nI_add, nI_subN, nI_clamp, gdF, gdF2, gdP, gdP2, zI_cl, zI_s, Lm1, nI_n0, zI_n0, leF, or_false, false_or, or_self]
          exact ep_ret ⟨rfl, hS1⟩
        · rw [if_neg v0]
          by_cases c0 : cwF (A.2.2.1.2.1.1 2) (A.2.2.1.2.1.1 0 1) (rkN s (A.2.2.1.2.1.1 0 1)) 0 s.testBit = 0
          · rw [if_neg (fun e => e.2 c0)]
            simp (disch := omega) only [L0, L1, L2, L3, L4, L5, L6, L7, L8, L9, L10, L11, L12, L13, L16, L20, L31, L32, L40, L48, L57, L59, L60, L61, L91, L93, L97, L99, L100, L102, L103, L114, L122, L255, L300, L400, L402, L999, L2280, L2500, L99999, L63, L1431655765, L858993459, L252645135, ic_ge, ic_gt, ic_le, ic_lt, ic_eq, ic_ne, if_lt, if_ge, if_gt, if_le, if_eq, if_ne, if_lt_zI, if_ge_zI, ic_ne_m1, ic_eq_m1, ic_nn_m1, ic_ee_m1, if_ne_b2i, if_eq_b2i, b2i_z, decide_eq_true_eq, decide_true, decide_false, Bool.not_eq_true, Bool.not_eq_true', Bool.not_true, Bool.not_false, decide_eq_false_iff_not, Bool.false_eq_true, not_false_eq_true, not_true_eq_false, if_true, if_false, ↓reduceIte, eq_self, Option.bind_some, Bool.true_and, Bool.false_and, Bool.and_true, Bool.and_false, nI_add, nI_subN, nI_clamp, gdF, gdF2, gdP, gdP2, zI_cl, zI_s, Lm1, nI_n0, zI_n0, leF, or_false, false_or, or_self, v0, c0]
            exact ep_ret ⟨rfl, hS1⟩
          · simp (disch := omega) only [L0, L1, L2, L3, L4, L5, L6, L7, L8, L9, L10, L11, L12, L13, L16, L20, L31, L32, L40, L48, L57, L59, L60, L61, L91, L93, L97, L99, L100, L102, L103, L114, L122, L255, L300, L400, L402, L999, L2280, L2500, L99999, L63, L1431655765, L858993459, L252645135, ic_ge, ic_gt, ic_le, ic_lt, ic_eq, ic_ne, if_lt, if_ge, if_gt, if_le, if_eq, if_ne, if_lt_zI, if_ge_zI, ic_ne_m1, ic_eq_m1, ic_nn_m1, ic_ee_m1, if_ne_b2i, if_eq_b2i, b2i_z, decide_eq_true_eq, decide_true, decide_false, Bool.not_eq_true, Bool.not_eq_true', Bool.not_true, Bool.not_false, decide_eq_false_iff_not, Bool.false_eq_true, not_false_eq_true, not_true_eq_false, if_true, if_false, ↓reduceIte, eq_self, Option.bind_some, Bool.true_and, Bool.false_and, Bool.and_true, Bool.and_false, nI_add, nI_subN, nI_clamp, gdF, gdF2, gdP, gdP2, zI_cl, zI_s, Lm1, nI_n0, zI_n0, leF, or_false, false_or, or_self, v0, c0]
            refine ep_bv (f223' S1) ?_
            by_cases hvz : v - 1 < rkN s (A.2.2.1.2.1.1 0 1)
            · have hle : v ≤ rkN s (A.2.2.1.2.1.1 0 1) := by omega
              have o4 : S1.2.1 38 (v - 1) = _ := o3 c0 (v - 1) hvz
              simp (disch := omega) only [L0, L1, L2, L3, L4, L5, L6, L7, L8, L9, L10, L11, L12, L13, L16, L20, L31, L32, L40, L48, L57, L59, L60, L61, L91, L93, L97, L99, L100, L102, L103, L114, L122, L255, L300, L400, L402, L999, L2280, L2500, L99999, L63, L1431655765, L858993459, L252645135, ic_ge, ic_gt, ic_le, ic_lt, ic_eq, ic_ne, if_lt, if_ge, if_gt, if_le, if_eq, if_ne, if_lt_zI, if_ge_zI, ic_ne_m1, ic_eq_m1, ic_nn_m1, ic_ee_m1, if_ne_b2i, if_eq_b2i, b2i_z, decide_eq_true_eq, decide_true, decide_false, Bool.not_eq_true, Bool.not_eq_true', Bool.not_true, Bool.not_false, decide_eq_false_iff_not, Bool.false_eq_true, not_false_eq_true, not_true_eq_false, if_true, if_false, ↓reduceIte, eq_self, Option.bind_some, Bool.true_and, Bool.false_and, Bool.and_true, Bool.and_false, nI_add, nI_subN, nI_clamp, gdF, gdF2, gdP, gdP2, zI_cl, zI_s, Lm1, nI_n0, zI_n0, leF, or_false, false_or, or_self, hle, o4]
              exact ep_ret ⟨(if_pos ⟨hvz, c0⟩).symm, hS1⟩
            · have hle : ¬ v ≤ rkN s (A.2.2.1.2.1.1 0 1) := by omega
              simp (disch := omega) only [L0, L1, L2, L3, L4, L5, L6, L7, L8, L9, L10, L11, L12, L13, L16, L20, L31, L32, L40, L48, L57, L59, L60, L61, L91, L93, L97, L99, L100, L102, L103, L114, L122, L255, L300, L400, L402, L999, L2280, L2500, L99999, L63, L1431655765, L858993459, L252645135, ic_ge, ic_gt, ic_le, ic_lt, ic_eq, ic_ne, if_lt, if_ge, if_gt, if_le, if_eq, if_ne, if_lt_zI, if_ge_zI, ic_ne_m1, ic_eq_m1, ic_nn_m1, ic_ee_m1, if_ne_b2i, if_eq_b2i, b2i_z, decide_eq_true_eq, decide_true, decide_false, Bool.not_eq_true, Bool.not_eq_true', Bool.not_true, Bool.not_false, decide_eq_false_iff_not, Bool.false_eq_true, not_false_eq_true, not_true_eq_false, if_true, if_false, ↓reduceIte, eq_self, Option.bind_some, Bool.true_and, Bool.false_and, Bool.and_true, Bool.and_false, nI_add, nI_subN, nI_clamp, gdF, gdF2, gdP, gdP2, zI_cl, zI_s, Lm1, nI_n0, zI_n0, leF, or_false, false_or, or_self, hle]
              exact ep_ret ⟨(if_neg (fun e => hvz e.1)).symm, hS1⟩
  · refine ⟨zI 0, A, ok1, callT_id (fun T G hR => ?_), callM_id (fun S hS => ?_)⟩
    · refine ev_succ (fun n => G126e0 n ..) ?_
      simp only [G126b0]
      by_cases h0 : A.2.2.1.1 0 0 = 0
      · refine ev_bind ((arg_R0 ok h0).1 T G hR) ?_
        simp only [e0, decide_eq_true_eq, decide_true, decide_false, Bool.not_eq_true, Bool.not_eq_true', Bool.not_true, Bool.not_false, decide_eq_false_iff_not, Bool.false_eq_true, not_false_eq_true, not_true_eq_false, if_true, if_false, ↓reduceIte, eq_self, Option.bind_some, Bool.true_and, Bool.false_and, Bool.and_true, Bool.and_false]
        exact ev_ret
      · refine ev_bind ((arg_R ok h0).1 T G hR) ?_
        have hc := hTn T G hR
        simp only [e1, decide_eq_true_eq, decide_true, decide_false, Bool.not_eq_true, Bool.not_eq_true', Bool.not_true, Bool.not_false, decide_eq_false_iff_not, Bool.false_eq_true, not_false_eq_true, not_true_eq_false, if_true, if_false, ↓reduceIte, eq_self, Option.bind_some, Bool.true_and, Bool.false_and, Bool.and_true, Bool.and_false]
        rcases arg_W a2 (v := 12) (by decide) with ⟨j, hj, rfl⟩ | ⟨h4 | ⟨h4, h5⟩, _⟩
        · simp (disch := omega) only [L0, L1, L2, L3, L4, L5, L6, L7, L8, L9, L10, L11, L12, L13, L16, L20, L31, L32, L40, L48, L57, L59, L60, L61, L91, L93, L97, L99, L100, L102, L103, L114, L122, L255, L300, L400, L402, L999, L2280, L2500, L99999, L63, L1431655765, L858993459, L252645135, ic_ge, ic_gt, ic_le, ic_lt, ic_eq, ic_ne, if_lt, if_ge, if_gt, if_le, if_eq, if_ne, if_lt_zI, if_ge_zI, ic_ne_m1, ic_eq_m1, ic_nn_m1, ic_ee_m1, if_ne_b2i, if_eq_b2i, b2i_z, decide_eq_true_eq, decide_true, decide_false, Bool.not_eq_true, Bool.not_eq_true', Bool.not_true, Bool.not_false, decide_eq_false_iff_not, Bool.false_eq_true, not_false_eq_true, not_true_eq_false, if_true, if_false, ↓reduceIte, eq_self, Option.bind_some, Bool.true_and, Bool.false_and, Bool.and_true, Bool.and_false, nI_add, nI_subN, nI_clamp, gdF, gdF2, gdP, gdP2, zI_cl, zI_s, Lm1, nI_n0, zI_n0, leF, or_false, false_or, or_self, hj, hc, nI_shl]
          rcases arg_S a1 hn12 with ⟨s, hs, rfl⟩ | ⟨h5, _⟩
          · obtain ⟨q1, q2, q3, q4⟩ := arg_Sy hn12 hs
            have g := g92 (a := s) (by omega) (T := T)
            rw [q4] at g
            have hgt : ¬ rkN s (A.2.2.1.2.1.1 0 1) ≤ 8 := fun e => hall ⟨h0, ⟨s, hs, rfl, e⟩, ⟨j, hj, rfl⟩⟩
            have hle := ctF_le s.testBit (A.2.2.1.2.1.1 0 1) 0
            have hle : rkN s (A.2.2.1.2.1.1 0 1) ≤ 12 := Nat.le_trans hle hn12
            simp only [q1, decide_eq_true_eq, decide_true, decide_false, Bool.not_eq_true, Bool.not_eq_true', Bool.not_true, Bool.not_false, decide_eq_false_iff_not, Bool.false_eq_true, not_false_eq_true, not_true_eq_false, if_true, if_false, ↓reduceIte, eq_self, Option.bind_some, Bool.true_and, Bool.false_and, Bool.and_true, Bool.and_false]
            refine ev_bind g ?_
            simp (disch := omega) only [L0, L1, L2, L3, L4, L5, L6, L7, L8, L9, L10, L11, L12, L13, L16, L20, L31, L32, L40, L48, L57, L59, L60, L61, L91, L93, L97, L99, L100, L102, L103, L114, L122, L255, L300, L400, L402, L999, L2280, L2500, L99999, L63, L1431655765, L858993459, L252645135, ic_ge, ic_gt, ic_le, ic_lt, ic_eq, ic_ne, if_lt, if_ge, if_gt, if_le, if_eq, if_ne, if_lt_zI, if_ge_zI, ic_ne_m1, ic_eq_m1, ic_nn_m1, ic_ee_m1, if_ne_b2i, if_eq_b2i, b2i_z, decide_eq_true_eq, decide_true, decide_false, Bool.not_eq_true, Bool.not_eq_true', Bool.not_true, Bool.not_false, decide_eq_false_iff_not, Bool.false_eq_true, not_false_eq_true, not_true_eq_false, if_true, if_false, ↓reduceIte, eq_self, Option.bind_some, Bool.true_and, Bool.false_and, Bool.and_true, Bool.and_false, nI_add, nI_subN, nI_clamp, gdF, gdF2, gdP, gdP2, zI_cl, zI_s, Lm1, nI_n0, zI_n0, leF, or_false, false_or, or_self, hgt]
            exact ev_ret
          · simp only [h5, decide_eq_true_eq, decide_true, decide_false, Bool.not_eq_true, Bool.not_eq_true', Bool.not_true, Bool.not_false, decide_eq_false_iff_not, Bool.false_eq_true, not_false_eq_true, not_true_eq_false, if_true, if_false, ↓reduceIte, eq_self, Option.bind_some, Bool.true_and, Bool.false_and, Bool.and_true, Bool.and_false]
            exact ev_ret
        · simp only [h4, decide_eq_true_eq, decide_true, decide_false, Bool.not_eq_true, Bool.not_eq_true', Bool.not_true, Bool.not_false, decide_eq_false_iff_not, Bool.false_eq_true, not_false_eq_true, not_true_eq_false, if_true, if_false, ↓reduceIte, eq_self, Option.bind_some, Bool.true_and, Bool.false_and, Bool.and_true, Bool.and_false]
          exact ev_ret
        · have h5 : am_ic .le a2 12 = false := h5
          simp only [h4, h5, decide_eq_true_eq, decide_true, decide_false, Bool.not_eq_true, Bool.not_eq_true', Bool.not_true, Bool.not_false, decide_eq_false_iff_not, Bool.false_eq_true, not_false_eq_true, not_true_eq_false, if_true, if_false, ↓reduceIte, eq_self, Option.bind_some, Bool.true_and, Bool.false_and, Bool.and_true, Bool.and_false]
          exact ev_ret
    · refine ev_succ (fun n => F249e0 n ..) ?_
      simp only [F249b0]
      by_cases h0 : A.2.2.1.1 0 0 = 0
      · refine ev_bind ((arg_R0 ok h0).2 S hS) ?_
        simp only [e0, decide_eq_true_eq, decide_true, decide_false, Bool.not_eq_true, Bool.not_eq_true', Bool.not_true, Bool.not_false, decide_eq_false_iff_not, Bool.false_eq_true, not_false_eq_true, not_true_eq_false, if_true, if_false, ↓reduceIte, eq_self, Option.bind_some, Bool.true_and, Bool.false_and, Bool.and_true, Bool.and_false]
        exact ev_ret
      · refine ev_bind ((arg_R ok h0).2 S hS) ?_
        have hc := hSn S hS
        simp (disch := omega) only [e1, L0, L1, L2, L3, L4, L5, L6, L7, L8, L9, L10, L11, L12, L13, L16, L20, L31, L32, L40, L48, L57, L59, L60, L61, L91, L93, L97, L99, L100, L102, L103, L114, L122, L255, L300, L400, L402, L999, L2280, L2500, L99999, L63, L1431655765, L858993459, L252645135, ic_ge, ic_gt, ic_le, ic_lt, ic_eq, ic_ne, if_lt, if_ge, if_gt, if_le, if_eq, if_ne, if_lt_zI, if_ge_zI, ic_ne_m1, ic_eq_m1, ic_nn_m1, ic_ee_m1, if_ne_b2i, if_eq_b2i, b2i_z, decide_eq_true_eq, decide_true, decide_false, Bool.not_eq_true, Bool.not_eq_true', Bool.not_true, Bool.not_false, decide_eq_false_iff_not, Bool.false_eq_true, not_false_eq_true, not_true_eq_false, if_true, if_false, ↓reduceIte, eq_self, Option.bind_some, Bool.true_and, Bool.false_and, Bool.and_true, Bool.and_false, nI_add, nI_subN, nI_clamp, gdF, gdF2, gdP, gdP2, zI_cl, zI_s, Lm1, nI_n0, zI_n0, leF, or_false, false_or, or_self, hc, nI_shl]
        refine ev_bind (f172 S) ?_
        rcases arg_S a1 hn12 with ⟨s, hs, rfl⟩ | ⟨_, h5⟩
        · obtain ⟨q1, q2, q3, q4⟩ := arg_Sy hn12 hs
          have g := f223n (v := s) (by omega) (S := S)
          rw [q4] at g
          have hle := ctF_le s.testBit (A.2.2.1.2.1.1 0 1) 0
          have hle : rkN s (A.2.2.1.2.1.1 0 1) ≤ 12 := Nat.le_trans hle hn12
          rw [q2]
          simp (disch := omega) only [L0, L1, L2, L3, L4, L5, L6, L7, L8, L9, L10, L11, L12, L13, L16, L20, L31, L32, L40, L48, L57, L59, L60, L61, L91, L93, L97, L99, L100, L102, L103, L114, L122, L255, L300, L400, L402, L999, L2280, L2500, L99999, L63, L1431655765, L858993459, L252645135, ic_ge, ic_gt, ic_le, ic_lt, ic_eq, ic_ne, if_lt, if_ge, if_gt, if_le, if_eq, if_ne, if_lt_zI, if_ge_zI, ic_ne_m1, ic_eq_m1, ic_nn_m1, ic_ee_m1, if_ne_b2i, if_eq_b2i, b2i_z, decide_eq_true_eq, decide_true, decide_false, Bool.not_eq_true, Bool.not_eq_true', Bool.not_true, Bool.not_false, decide_eq_false_iff_not, Bool.false_eq_true, not_false_eq_true, not_true_eq_false, if_true, if_false, ↓reduceIte, eq_self, Option.bind_some, Bool.true_and, Bool.false_and, Bool.and_true, Bool.and_false, nI_add, nI_subN, nI_clamp, gdF, gdF2, gdP, gdP2, zI_cl, zI_s, Lm1, nI_n0, zI_n0, leF, or_false, false_or, or_self]
          refine ev_bind g ?_
          by_cases hgt : 8 < rkN s (A.2.2.1.2.1.1 0 1)
          · simp (disch := omega) only [L0, L1, L2, L3, L4, L5, L6, L7, L8, L9, L10, L11, L12, L13, L16, L20, L31, L32, L40, L48, L57, L59, L60, L61, L91, L93, L97, L99, L100, L102, L103, L114, L122, L255, L300, L400, L402, L999, L2280, L2500, L99999, L63, L1431655765, L858993459, L252645135, ic_ge, ic_gt, ic_le, ic_lt, ic_eq, ic_ne, if_lt, if_ge, if_gt, if_le, if_eq, if_ne, if_lt_zI, if_ge_zI, ic_ne_m1, ic_eq_m1, ic_nn_m1, ic_ee_m1, if_ne_b2i, if_eq_b2i, b2i_z, decide_eq_true_eq, decide_true, decide_false, Bool.not_eq_true, Bool.not_eq_true', Bool.not_true, Bool.not_false, decide_eq_false_iff_not, Bool.false_eq_true, not_false_eq_true, not_true_eq_false, if_true, if_false, ↓reduceIte, eq_self, Option.bind_some, Bool.true_and, Bool.false_and, Bool.and_true, Bool.and_false, nI_add, nI_subN, nI_clamp, gdF, gdF2, gdP, gdP2, zI_cl, zI_s, Lm1, nI_n0, zI_n0, leF, or_false, false_or, or_self, hgt]
            exact ev_ret
          · simp (disch := omega) only [L0, L1, L2, L3, L4, L5, L6, L7, L8, L9, L10, L11, L12, L13, L16, L20, L31, L32, L40, L48, L57, L59, L60, L61, L91, L93, L97, L99, L100, L102, L103, L114, L122, L255, L300, L400, L402, L999, L2280, L2500, L99999, L63, L1431655765, L858993459, L252645135, ic_ge, ic_gt, ic_le, ic_lt, ic_eq, ic_ne, if_lt, if_ge, if_gt, if_le, if_eq, if_ne, if_lt_zI, if_ge_zI, ic_ne_m1, ic_eq_m1, ic_nn_m1, ic_ee_m1, if_ne_b2i, if_eq_b2i, b2i_z, decide_eq_true_eq, decide_true, decide_false, Bool.not_eq_true, Bool.not_eq_true', Bool.not_true, Bool.not_false, decide_eq_false_iff_not, Bool.false_eq_true, not_false_eq_true, not_true_eq_false, if_true, if_false, ↓reduceIte, eq_self, Option.bind_some, Bool.true_and, Bool.false_and, Bool.and_true, Bool.and_false, nI_add, nI_subN, nI_clamp, gdF, gdF2, gdP, gdP2, zI_cl, zI_s, Lm1, nI_n0, zI_n0, leF, or_false, false_or, or_self, hgt]
            refine ev_bind (f172 S) ?_
            rcases arg_W a2 (v := 12) (by decide) with ⟨j, hj, rfl⟩ | ⟨_, h5⟩
            · exact absurd ⟨h0, ⟨s, hs, rfl, by omega⟩, ⟨j, hj, rfl⟩⟩ hall
            · have h5 : inL a2.toInt64 0 12 = false := h5
              rw [h5]
              simp (disch := omega) only [L0, L1, L2, L3, L4, L5, L6, L7, L8, L9, L10, L11, L12, L13, L16, L20, L31, L32, L40, L48, L57, L59, L60, L61, L91, L93, L97, L99, L100, L102, L103, L114, L122, L255, L300, L400, L402, L999, L2280, L2500, L99999, L63, L1431655765, L858993459, L252645135, ic_ge, ic_gt, ic_le, ic_lt, ic_eq, ic_ne, if_lt, if_ge, if_gt, if_le, if_eq, if_ne, if_lt_zI, if_ge_zI, ic_ne_m1, ic_eq_m1, ic_nn_m1, ic_ee_m1, if_ne_b2i, if_eq_b2i, b2i_z, decide_eq_true_eq, decide_true, decide_false, Bool.not_eq_true, Bool.not_eq_true', Bool.not_true, Bool.not_false, decide_eq_false_iff_not, Bool.false_eq_true, not_false_eq_true, not_true_eq_false, if_true, if_false, ↓reduceIte, eq_self, Option.bind_some, Bool.true_and, Bool.false_and, Bool.and_true, Bool.and_false, nI_add, nI_subN, nI_clamp, gdF, gdF2, gdP, gdP2, zI_cl, zI_s, Lm1, nI_n0, zI_n0, leF, or_false, false_or, or_self]
              exact ev_ret
        · rw [h5]
          simp (disch := omega) only [L0, L1, L2, L3, L4, L5, L6, L7, L8, L9, L10, L11, L12, L13, L16, L20, L31, L32, L40, L48, L57, L59, L60, L61, L91, L93, L97, L99, L100, L102, L103, L114, L122, L255, L300, L400, L402, L999, L2280, L2500, L99999, L63, L1431655765, L858993459, L252645135, ic_ge, ic_gt, ic_le, ic_lt, ic_eq, ic_ne, if_lt, if_ge, if_gt, if_le, if_eq, if_ne, if_lt_zI, if_ge_zI, ic_ne_m1, ic_eq_m1, ic_nn_m1, ic_ee_m1, if_ne_b2i, if_eq_b2i, b2i_z, decide_eq_true_eq, decide_true, decide_false, Bool.not_eq_true, Bool.not_eq_true', Bool.not_true, Bool.not_false, decide_eq_false_iff_not, Bool.false_eq_true, not_false_eq_true, not_true_eq_false, if_true, if_false, ↓reduceIte, eq_self, Option.bind_some, Bool.true_and, Bool.false_and, Bool.and_true, Bool.and_false, nI_add, nI_subN, nI_clamp, gdF, gdF2, gdP, gdP2, zI_cl, zI_s, Lm1, nI_n0, zI_n0, leF, or_false, false_or, or_self]
          exact ev_ret
