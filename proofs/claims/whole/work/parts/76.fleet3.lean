/-! fleet: the program's search -/
def cnt (m : Nat) : Nat := ctF m.testBit 16 0
def subP (b : AB) (w : AW) (m : Nat) : Prop := ∀ i, m.testBit i = true → i < b 0 0 ∧ w.1 7 i = 0
def fmN (b : AB) (w : AW) : Nat := bsN (fun c => decide (w.1 7 c = 0)) (b 0 0)
theorem sub_is {b : AB} {w : AW} {m : Nat} : m ^^^ (m &&& fmN b w) = 0 ↔ subP b w m := by
  constructor
  · intro h i hi
    have e := nxz.mp h
    rw [e, Nat.testBit_and] at hi
    have h2 := (Bool.and_eq_true _ _ ▸ hi : m.testBit i = true ∧ (fmN b w).testBit i = true).2
    unfold fmN at h2
    rw [bsN_tb, Bool.and_eq_true] at h2
    exact ⟨of_decide_eq_true h2.1, of_decide_eq_true h2.2⟩
  · intro h
    refine nxz.mpr (Nat.eq_of_testBit_eq (fun i => ?_))
    rw [Nat.testBit_and]
    by_cases hi : m.testBit i = true
    · obtain ⟨h1, h2⟩ := h i hi
      unfold fmN
      rw [bsN_tb, decide_eq_true h1, decide_eq_true h2, hi]
      rfl
    · rw [Bool.eq_false_iff.mpr hi, Bool.false_and]
theorem sub_lt {b : AB} {w : AW} {m : Nat} (h : subP b w m) : m < 2 ^ b 0 0 := by
  refine Nat.lt_pow_two_of_testBit m (fun i hi => ?_)
  refine Bool.eq_false_iff.mpr (fun e => ?_)
  have := (h i e).1
  omega
theorem shr_0 {m n : Nat} : m >>> n = 0 ↔ m < 2 ^ n := by
  rw [Nat.shiftRight_eq_div_pow, Nat.div_eq_zero_iff]
  have : 2 ^ n ≠ 0 := Nat.pos_iff_ne_zero.mp (Nat.pow_pos (by decide))
  omega
theorem ix_inj {m m' : Nat} (h1 : m < 65536) (h2 : m' < 65536) (c1 : cnt m ≤ 2) (c2 : cnt m' ≤ 2) (h : ixN m = ixN m') : m = m' := by
  have a := (ix_f h1 c1).2.2
  have b := (ix_f h2 c2).2.2
  rw [← a, ← b, h]
/-- one cell taken away -/
theorem less_f {m c : Nat} (hm : m < 65536) (hc : m.testBit c = true) : m ^^^ (m &&& 2 ^ c) < 65536 ∧ (m ^^^ (m &&& 2 ^ c)) ||| 2 ^ c = m ∧ (m ^^^ (m &&& 2 ^ c)).testBit c = false ∧ cnt (m ^^^ (m &&& 2 ^ c)) + 1 = cnt m ∧ (∀ i, (m ^^^ (m &&& 2 ^ c)).testBit i = true → m.testBit i = true) ∧ c < 16 := by
  have h16 : c < 16 := by
    refine Nat.lt_of_not_le (fun hi => ?_)
    rw [Nat.testBit_lt_two_pow (Nat.lt_of_lt_of_le (show m < 2 ^ 16 from hm) (Nat.pow_le_pow_right (by decide) hi))] at hc
    exact absurd hc (by decide)
  have tb : ∀ i, (m ^^^ (m &&& 2 ^ c)).testBit i = (m.testBit i && !decide (c = i)) := by
    intro i
    rw [Nat.testBit_xor, Nat.testBit_and, Nat.testBit_two_pow]
    cases m.testBit i <;> cases decide (c = i) <;> rfl
  refine ⟨Nat.xor_lt_two_pow (n := 16) hm (Nat.lt_of_le_of_lt Nat.and_le_left hm), ?_, ?_, ?_, ?_, h16⟩
  · refine Nat.eq_of_testBit_eq (fun i => ?_)
    rw [Nat.testBit_or, tb, Nat.testBit_two_pow]
    by_cases e : c = i
    · rw [← e, hc, decide_eq_true rfl]
      rfl
    · rw [decide_eq_false e, Bool.not_false, Bool.and_true, Bool.or_false]
  · rw [tb, decide_eq_true rfl, Bool.not_true, Bool.and_false]
  · symm
    refine ctF_up (s := c) 16 0 (Nat.zero_le _) (by omega) (fun i hi => ?_) ?_ hc
    · rw [tb, decide_eq_false (fun e => hi e.symm), Bool.not_false, Bool.and_true]
    · rw [tb, decide_eq_true rfl, Bool.not_true, Bool.and_false]
  · intro i hi
    rw [tb, Bool.and_eq_true] at hi
    exact hi.1
def Fr3 (T T' : xS) : Prop := (∀ q, q ≠ 123 → T'.1 q = T.1 q) ∧ T'.2 = T.2
theorem Fr3_rf {T : xS} : Fr3 T T := ⟨fun _ _ => rfl, rfl⟩
theorem Fr3_X {T T' : xS} (h : Fr3 T T') : FrX T T' := ⟨fun q _ => ⟨h.1 q, by rw [h.2]⟩, fun q _ => by rw [h.2]⟩
section Sr
variable {b : AB} {l : LW} {w : AW} {W : Nat}
theorem g119 {T : xS} {m k : Nat} (hm : m < 65536) (hk : cnt m = k) (hk3 : k ≤ 3) : Ev (fun n => G119 n (nI m) (nI k) T) ((), if 3 ≤ k then T else x_sA T 124 (ixN m) (T.1 123 1)) := by
  refine ev_succ (fun n => G119e0 n ..) ?_
  by_cases h : 3 ≤ k
  · rw [if_pos h]
    simp (disch := omega) only [G119b0, L0, L1, L2, L3, L4, L5, L6, L7, L8, L9, L10, L11, L12, L13, L16, L20, L31, L32, L40, L48, L57, L59, L60, L61, L91, L93, L97, L99, L100, L102, L103, L114, L122, L255, L300, L400, L402, L999, L2280, L2500, L99999, L63, L1431655765, L858993459, L252645135, ic_ge, ic_gt, ic_le, ic_lt, ic_eq, ic_ne, if_lt, if_ge, if_gt, if_le, if_eq, if_ne, if_lt_zI, if_ge_zI, ic_ne_m1, ic_eq_m1, ic_nn_m1, ic_ee_m1, if_ne_b2i, if_eq_b2i, b2i_z, decide_eq_true_eq, decide_true, decide_false, Bool.not_eq_true, Bool.not_eq_true', Bool.not_true, Bool.not_false, decide_eq_false_iff_not, Bool.false_eq_true, not_false_eq_true, not_true_eq_false, if_true, if_false, ↓reduceIte, eq_self, Option.bind_some, Bool.true_and, Bool.false_and, Bool.and_true, Bool.and_false, nI_add, nI_subN, nI_clamp, gdF, gdF2, gdP, gdP2, zI_cl, zI_s, Lm1, nI_n0, zI_n0, leF, or_false, false_or, or_self, h]
    exact ev_ret
  · rw [if_neg h]
    obtain ⟨i1, i2, i3⟩ := ix_f hm (show ctF m.testBit 16 0 ≤ 2 by unfold cnt at hk; omega)
    have g := g118 (x := nI m) (T := T)
    rw [← i1] at g
    simp (disch := omega) only [G119b0, L0, L1, L2, L3, L4, L5, L6, L7, L8, L9, L10, L11, L12, L13, L16, L20, L31, L32, L40, L48, L57, L59, L60, L61, L91, L93, L97, L99, L100, L102, L103, L114, L122, L255, L300, L400, L402, L999, L2280, L2500, L99999, L63, L1431655765, L858993459, L252645135, ic_ge, ic_gt, ic_le, ic_lt, ic_eq, ic_ne, if_lt, if_ge, if_gt, if_le, if_eq, if_ne, if_lt_zI, if_ge_zI, ic_ne_m1, ic_eq_m1, ic_nn_m1, ic_ee_m1, if_ne_b2i, if_eq_b2i, b2i_z, decide_eq_true_eq, decide_true, decide_false, Bool.not_eq_true, Bool.not_eq_true', Bool.not_true, Bool.not_false, decide_eq_false_iff_not, Bool.false_eq_true, not_false_eq_true, not_true_eq_false, if_true, if_false, ↓reduceIte, eq_self, Option.bind_some, Bool.true_and, Bool.false_and, Bool.and_true, Bool.and_false, nI_add, nI_subN, nI_clamp, gdF, gdF2, gdP, gdP2, zI_cl, zI_s, Lm1, nI_n0, zI_n0, leF, or_false, false_or, or_self, h]
    refine ev_bind g ?_
    simp (disch := omega) only [L0, L1, L2, L3, L4, L5, L6, L7, L8, L9, L10, L11, L12, L13, L16, L20, L31, L32, L40, L48, L57, L59, L60, L61, L91, L93, L97, L99, L100, L102, L103, L114, L122, L255, L300, L400, L402, L999, L2280, L2500, L99999, L63, L1431655765, L858993459, L252645135, ic_ge, ic_gt, ic_le, ic_lt, ic_eq, ic_ne, if_lt, if_ge, if_gt, if_le, if_eq, if_ne, if_lt_zI, if_ge_zI, ic_ne_m1, ic_eq_m1, ic_nn_m1, ic_ee_m1, if_ne_b2i, if_eq_b2i, b2i_z, decide_eq_true_eq, decide_true, decide_false, Bool.not_eq_true, Bool.not_eq_true', Bool.not_true, Bool.not_false, decide_eq_false_iff_not, Bool.false_eq_true, not_false_eq_true, not_true_eq_false, if_true, if_false, ↓reduceIte, eq_self, Option.bind_some, Bool.true_and, Bool.false_and, Bool.and_true, Bool.and_false, nI_add, nI_subN, nI_clamp, gdF, gdF2, gdP, gdP2, zI_cl, zI_s, Lm1, nI_n0, zI_n0, leF, or_false, false_or, or_self]
    exact ev_ret
theorem g116l {T0 : xS} {m k : Nat} (hb : OkB b) (ok : OkW b w) (hm : m < 65536) (hk : cnt m = k) (hk3 : k ≤ 3) (hsub : subP b w m) (HT : ∀ o, o < 65536 → subP b w o → cnt o + 1 = k → gets b l w W o = false ∧ ∃ r, r < 65536 ∧ T0.2.1 124 (ixN o) = nI r ∧ Gd b l w W o r) : ∀ (d i R : Nat) (T : xS), i + d = 3 → R < 65536 → (∀ x, R.testBit x = true → m.testBit x = true) → Fr3 T0 T → Ep (fun n => G116f n 5 (nI m) (nI k) (nI R) (nI i) T) (fun z => (z.1 = nI 0 ∧ Fr3 T0 z.2) ∨ (z.1 = nI 1 ∧ gets b l w W m = false ∧ ∃ T1 r, Fr3 T0 T1 ∧ r < 65536 ∧ Gd b l w W m r ∧ z.2 = if 3 ≤ k then T1 else x_sA T1 124 (ixN m) (nI r))) := by
  intro d
  induction d with
  | zero =>
    intro i R T hi hR hsR hF
    have e : 3 ≤ i := by omega
    refine ep_succ (fun n => G116e5 n ..) ?_
    simp (disch := omega) only [G116b5, L0, L1, L2, L3, L4, L5, L6, L7, L8, L9, L10, L11, L12, L13, L16, L20, L31, L32, L40, L48, L57, L59, L60, L61, L91, L93, L97, L99, L100, L102, L103, L114, L122, L255, L300, L400, L402, L999, L2280, L2500, L99999, L63, L1431655765, L858993459, L252645135, ic_ge, ic_gt, ic_le, ic_lt, ic_eq, ic_ne, if_lt, if_ge, if_gt, if_le, if_eq, if_ne, if_lt_zI, if_ge_zI, ic_ne_m1, ic_eq_m1, ic_nn_m1, ic_ee_m1, if_ne_b2i, if_eq_b2i, b2i_z, decide_eq_true_eq, decide_true, decide_false, Bool.not_eq_true, Bool.not_eq_true', Bool.not_true, Bool.not_false, decide_eq_false_iff_not, Bool.false_eq_true, not_false_eq_true, not_true_eq_false, if_true, if_false, ↓reduceIte, eq_self, Option.bind_some, Bool.true_and, Bool.false_and, Bool.and_true, Bool.and_false, nI_add, nI_subN, nI_clamp, gdF, gdF2, gdP, gdP2, zI_cl, zI_s, Lm1, nI_n0, zI_n0, leF, or_false, false_or, or_self, e]
    exact ep_ret (Or.inl ⟨rfl, hF⟩)
  | succ d ih =>
    intro i R T hi hR hsR hF
    have e : ¬ 3 ≤ i := by omega
    refine ep_succ (fun n => G116e5 n ..) ?_
    by_cases hR0 : R = 0
    · simp (disch := omega) only [G116b5, L0, L1, L2, L3, L4, L5, L6, L7, L8, L9, L10, L11, L12, L13, L16, L20, L31, L32, L40, L48, L57, L59, L60, L61, L91, L93, L97, L99, L100, L102, L103, L114, L122, L255, L300, L400, L402, L999, L2280, L2500, L99999, L63, L1431655765, L858993459, L252645135, ic_ge, ic_gt, ic_le, ic_lt, ic_eq, ic_ne, if_lt, if_ge, if_gt, if_le, if_eq, if_ne, if_lt_zI, if_ge_zI, ic_ne_m1, ic_eq_m1, ic_nn_m1, ic_ee_m1, if_ne_b2i, if_eq_b2i, b2i_z, decide_eq_true_eq, decide_true, decide_false, Bool.not_eq_true, Bool.not_eq_true', Bool.not_true, Bool.not_false, decide_eq_false_iff_not, Bool.false_eq_true, not_false_eq_true, not_true_eq_false, if_true, if_false, ↓reduceIte, eq_self, Option.bind_some, Bool.true_and, Bool.false_and, Bool.and_true, Bool.and_false, nI_add, nI_subN, nI_clamp, gdF, gdF2, gdP, gdP2, zI_cl, zI_s, Lm1, nI_n0, zI_n0, leF, or_false, false_or, or_self, e, hR0]
      exact ep_ret (Or.inl ⟨rfl, hF⟩)
    · simp (disch := omega) only [G116b5, L0, L1, L2, L3, L4, L5, L6, L7, L8, L9, L10, L11, L12, L13, L16, L20, L31, L32, L40, L48, L57, L59, L60, L61, L91, L93, L97, L99, L100, L102, L103, L114, L122, L255, L300, L400, L402, L999, L2280, L2500, L99999, L63, L1431655765, L858993459, L252645135, ic_ge, ic_gt, ic_le, ic_lt, ic_eq, ic_ne, if_lt, if_ge, if_gt, if_le, if_eq, if_ne, if_lt_zI, if_ge_zI, ic_ne_m1, ic_eq_m1, ic_nn_m1, ic_ee_m1, if_ne_b2i, if_eq_b2i, b2i_z, decide_eq_true_eq, decide_true, decide_false, Bool.not_eq_true, Bool.not_eq_true', Bool.not_true, Bool.not_false, decide_eq_false_iff_not, Bool.false_eq_true, not_false_eq_true, not_true_eq_false, if_true, if_false, ↓reduceIte, eq_self, Option.bind_some, Bool.true_and, Bool.false_and, Bool.and_true, Bool.and_false, nI_add, nI_subN, nI_clamp, gdF, gdF2, gdP, gdP2, zI_cl, zI_s, Lm1, nI_n0, zI_n0, leF, or_false, false_or, or_self, e, hR0]
      obtain ⟨c, hc16, hcR, _, gc⟩ := g117 (a := R) (n := 16) hR0 hR (by decide) (T := T)
      have hcm := hsR c hcR
      obtain ⟨o1, o2, o3, o4, o5, o6⟩ := less_f hm hcm
      have osub : subP b w (m ^^^ (m &&& 2 ^ c)) := fun x hx => hsub x (o5 x hx)
      obtain ⟨q1, r, q2, q3, q4⟩ := HT _ o1 osub (by omega)
      obtain ⟨i1, i2, i3⟩ := ix_f o1 (show ctF (m ^^^ (m &&& 2 ^ c)).testBit 16 0 ≤ 2 by unfold cnt at o4 hk; omega)
      have g8 := g118 (x := nI (m ^^^ (m &&& 2 ^ c))) (T := T)
      rw [← i1] at g8
      refine ep_bv gc ?_
      simp (disch := omega) only [nI_shl, nI_dif]
      refine ep_bv g8 ?_
      have r4 : T.2.1 124 (ixN (m ^^^ (m &&& 2 ^ c))) = nI r := by rw [hF.2]; exact q3
      simp (disch := omega) only [L0, L1, L2, L3, L4, L5, L6, L7, L8, L9, L10, L11, L12, L13, L16, L20, L31, L32, L40, L48, L57, L59, L60, L61, L91, L93, L97, L99, L100, L102, L103, L114, L122, L255, L300, L400, L402, L999, L2280, L2500, L99999, L63, L1431655765, L858993459, L252645135, ic_ge, ic_gt, ic_le, ic_lt, ic_eq, ic_ne, if_lt, if_ge, if_gt, if_le, if_eq, if_ne, if_lt_zI, if_ge_zI, ic_ne_m1, ic_eq_m1, ic_nn_m1, ic_ee_m1, if_ne_b2i, if_eq_b2i, b2i_z, decide_eq_true_eq, decide_true, decide_false, Bool.not_eq_true, Bool.not_eq_true', Bool.not_true, Bool.not_false, decide_eq_false_iff_not, Bool.false_eq_true, not_false_eq_true, not_true_eq_false, if_true, if_false, ↓reduceIte, eq_self, Option.bind_some, Bool.true_and, Bool.false_and, Bool.and_true, Bool.and_false, nI_add, nI_subN, nI_clamp, gdF, gdF2, gdP, gdP2, zI_cl, zI_s, Lm1, nI_n0, zI_n0, leF, or_false, false_or, or_self, r4, nI_bit]
      have hF1 : Fr3 T0 (x_sI T 123 1 (nI r)) := ⟨fun q hq => (x_rIn hq).trans (hF.1 q hq), hF.2⟩
      by_cases hbit : r.testBit c = true
      · simp (disch := omega) only [L0, L1, L2, L3, L4, L5, L6, L7, L8, L9, L10, L11, L12, L13, L16, L20, L31, L32, L40, L48, L57, L59, L60, L61, L91, L93, L97, L99, L100, L102, L103, L114, L122, L255, L300, L400, L402, L999, L2280, L2500, L99999, L63, L1431655765, L858993459, L252645135, ic_ge, ic_gt, ic_le, ic_lt, ic_eq, ic_ne, if_lt, if_ge, if_gt, if_le, if_eq, if_ne, if_lt_zI, if_ge_zI, ic_ne_m1, ic_eq_m1, ic_nn_m1, ic_ee_m1, if_ne_b2i, if_eq_b2i, b2i_z, decide_eq_true_eq, decide_true, decide_false, Bool.not_eq_true, Bool.not_eq_true', Bool.not_true, Bool.not_false, decide_eq_false_iff_not, Bool.false_eq_true, not_false_eq_true, not_true_eq_false, if_true, if_false, ↓reduceIte, eq_self, Option.bind_some, Bool.true_and, Bool.false_and, Bool.and_true, Bool.and_false, nI_add, nI_subN, nI_clamp, gdF, gdF2, gdP, gdP2, zI_cl, zI_s, Lm1, nI_n0, zI_n0, leF, or_false, false_or, or_self, hbit, nx_and]
        exact ih (i + 1) _ _ (by omega) (Nat.lt_of_le_of_lt Nat.and_le_left hR) (fun x hx => by
          rw [Nat.testBit_and, Bool.and_eq_true] at hx
          exact hsR x hx.1) hF1
      · have hbit' := Bool.eq_false_iff.mpr hbit
        simp (disch := omega) only [L0, L1, L2, L3, L4, L5, L6, L7, L8, L9, L10, L11, L12, L13, L16, L20, L31, L32, L40, L48, L57, L59, L60, L61, L91, L93, L97, L99, L100, L102, L103, L114, L122, L255, L300, L400, L402, L999, L2280, L2500, L99999, L63, L1431655765, L858993459, L252645135, ic_ge, ic_gt, ic_le, ic_lt, ic_eq, ic_ne, if_lt, if_ge, if_gt, if_le, if_eq, if_ne, if_lt_zI, if_ge_zI, ic_ne_m1, ic_eq_m1, ic_nn_m1, ic_ee_m1, if_ne_b2i, if_eq_b2i, b2i_z, decide_eq_true_eq, decide_true, decide_false, Bool.not_eq_true, Bool.not_eq_true', Bool.not_true, Bool.not_false, decide_eq_false_iff_not, Bool.false_eq_true, not_false_eq_true, not_true_eq_false, if_true, if_false, ↓reduceIte, eq_self, Option.bind_some, Bool.true_and, Bool.false_and, Bool.and_true, Bool.and_false, nI_add, nI_subN, nI_clamp, gdF, gdF2, gdP, gdP2, zI_cl, zI_s, Lm1, nI_n0, zI_n0, leF, or_false, false_or, or_self, hbit']
        refine ep_bv (g119 hm hk hk3) ?_
        obtain ⟨s1, s2⟩ := gd_step hb ok (fun x hx => (osub x hx).1) o6 (hsub c hcm).1 (hsub c hcm).2 o3 hbit' q1 q4
        rw [o2] at s1 s2
        refine ep_ret (Or.inr ⟨rfl, s1, _, r, hF1, q2, s2, ?_⟩)
        rw [x_rIe]
theorem g116 {T0 : xS} {m k : Nat} (hb : OkB b) (ok : OkW b w) (hm : m < 65536) (hk : cnt m = k) (hk3 : k ≤ 3) (hsub : subP b w m) (HT : ∀ o, o < 65536 → subP b w o → cnt o + 1 = k → gets b l w W o = false ∧ ∃ r, r < 65536 ∧ T0.2.1 124 (ixN o) = nI r ∧ Gd b l w W o r) : Ep (fun n => G116 n (nI m) (nI k) T0) (fun z => (z.1 = nI 0 ∧ Fr3 T0 z.2) ∨ (z.1 = nI 1 ∧ gets b l w W m = false ∧ ∃ T1 r, Fr3 T0 T1 ∧ r < 65536 ∧ Gd b l w W m r ∧ z.2 = if 3 ≤ k then T1 else x_sA T1 124 (ixN m) (nI r))) := by
  refine ep_succ (fun n => G116e0 n ..) ?_
  simp only [G116b0, L0]
  exact g116l hb ok hm hk hk3 hsub HT 3 0 m T0 (by omega) hm (fun x hx => hx) Fr3_rf
def Vs (k i m : Nat) : Prop := cnt m < k ∨ (cnt m = k ∧ ∃ j, j < i ∧ eN k j = m)
def Iv (b : AB) (l : LW) (w : AW) (W : Nat) (T : xS) (k i : Nat) : Prop := ∀ m, m < 65536 → subP b w m → Vs k i m → gets b l w W m = false ∧ (cnt m ≤ 2 → ∃ r, r < 65536 ∧ T.2.1 124 (ixN m) = nI r ∧ Gd b l w W m r)
theorem Iv_fr {T T' : xS} {k i : Nat} (h : Iv b l w W T k i) (e : T'.2.1 124 = T.2.1 124) : Iv b l w W T' k i := by
  intro m h1 h2 h3
  rw [e]
  exact h m h1 h2 h3
/-- one set is done -/
theorem Iv_no {T : xS} {k i : Nat} (h : Iv b l w W T k i) (hn : ¬ subP b w (eN k i)) : Iv b l w W T k (i + 1) := by
  intro m h1 h2 h3
  refine h m h1 h2 ?_
  rcases h3 with h3 | ⟨h3, j, hj, ej⟩
  · exact Or.inl h3
  · by_cases e : j = i
    · rw [← ej, e] at h2
      exact absurd h2 hn
    · exact Or.inr ⟨h3, j, by omega, ej⟩
theorem Iv_ok {T : xS} {k i r : Nat} (hk3 : k ≤ 3) (hi : i < eL k) (h : Iv b l w W T k i) (hg : gets b l w W (eN k i) = false) (hr : r < 65536) (hgd : Gd b l w W (eN k i) r) : Iv b l w W (if 3 ≤ k then T else x_sA T 124 (ixN (eN k i)) (nI r)) k (i + 1) := by
  obtain ⟨c1, c2⟩ := eN_c hk3 hi
  intro m h1 h2 h3
  by_cases e : m = eN k i
  · subst e
    refine ⟨hg, fun hc => ⟨r, hr, ?_, hgd⟩⟩
    have : ¬ 3 ≤ k := by
      unfold cnt at hc
      omega
    rw [if_neg this, x_rAe]
  · obtain ⟨a1, a2⟩ := h m h1 h2 (by
      rcases h3 with h3 | ⟨h3, j, hj, ej⟩
      · exact Or.inl h3
      · by_cases e2 : j = i
        · rw [e2] at ej
          exact absurd ej.symm e
        · exact Or.inr ⟨h3, j, by omega, ej⟩)
    refine ⟨a1, fun hc => ?_⟩
    obtain ⟨r', b1, b2, b3⟩ := a2 hc
    refine ⟨r', b1, ?_, b3⟩
    by_cases h3k : 3 ≤ k
    · rw [if_pos h3k]
      exact b2
    · rw [if_neg h3k, x_rAi (fun z => e (ix_inj h1 c1 hc (show ctF (eN k i).testBit 16 0 ≤ 2 by omega) z))]
      exact b2
/-- a size is done -/
theorem Iv_up {T : xS} {k i : Nat} (hb : OkB b) (hk3 : k ≤ 3) (h : Iv b l w W T k i) (hi : i = eL k ∨ (i < eL k ∧ 2 ^ b 0 0 ≤ eN k i)) : Iv b l w W T (k + 1) 0 := by
  intro m h1 h2 h3
  refine h m h1 h2 ?_
  rcases h3 with h3 | ⟨_, j, hj, _⟩
  · by_cases hc : cnt m < k
    · exact Or.inl hc
    · have hc : cnt m = k := by omega
      obtain ⟨j, hj, ej⟩ := eN_all h1 hc
      refine Or.inr ⟨hc, j, ?_, ej⟩
      rcases hi with hi | ⟨hi, hle⟩
      · omega
      · refine Nat.lt_of_not_le (fun hij => ?_)
        have hlt := sub_lt h2
        by_cases e : i = j
        · rw [e, ej] at hle
          omega
        · have := eN_lt hk3 (show i < j by omega) hj
          omega
  · exact absurd hj (Nat.not_lt_zero _)
/-- the least set of all -/
def flS (b : AB) (l : LW) (w : AW) (W : Nat) : Option Nat → Prop
  | none => ∀ m, m < 65536 → subP b w m → cnt m ≤ 3 → gets b l w W m = false
  | some m => m < 65536 ∧ subP b w m ∧ cnt m ≤ 3 ∧ gets b l w W m = true ∧ ∀ m', m' < 65536 → subP b w m' → (cnt m' < cnt m ∨ (cnt m' = cnt m ∧ m' < m)) → gets b l w W m' = false
theorem fl_one {o o' : Option Nat} (h : flS b l w W o) (h' : flS b l w W o') : o = o' := by
  cases o with
  | none =>
    cases o' with
    | none => rfl
    | some m' =>
      obtain ⟨a1, a2, a3, a4, _⟩ := h'
      rw [h m' a1 a2 a3] at a4
      exact absurd a4 (by decide)
  | some m =>
    obtain ⟨b1, b2, b3, b4, b5⟩ := h
    cases o' with
    | none =>
      rw [h' m b1 b2 b3] at b4
      exact absurd b4 (by decide)
    | some m' =>
      obtain ⟨a1, a2, a3, a4, a5⟩ := h'
      have n1 : ¬ (cnt m' < cnt m ∨ (cnt m' = cnt m ∧ m' < m)) := fun z => by
        rw [b5 m' a1 a2 z] at a4
        exact absurd a4 (by decide)
      have n2 : ¬ (cnt m < cnt m' ∨ (cnt m = cnt m' ∧ m < m')) := fun z => by
        rw [a5 m b1 b2 z] at b4
        exact absurd b4 (by decide)
      have : m = m' := by omega
      rw [this]
end Sr
section G115
variable {k0 : Nat} {A : AA} {G : gS} {W : Nat} {lo : Option Nat} {Q : Int32 × xS → Prop}
theorem RC_X {T T' : xS} (h : RC A T G) (f : (∀ q, (q < 109 ∨ 124 < q) → T'.1 q = T.1 q ∧ T'.2.1 q = T.2.1 q) ∧ (∀ q, q ≠ 109 → T'.2.2.2 q = T.2.2.2 q)) : RC A T' G := RC_same h ⟨(f.1 65 (by omega)).1, (f.1 66 (by omega)).2, (f.1 64 (by omega)).1⟩ (fun q hq => f.1 q (by omega)) f.2
theorem FrX_C {T T' : xS} (f : FrX T T') : (∀ q, (q < 109 ∨ 124 < q) → T'.1 q = T.1 q ∧ T'.2.1 q = T.2.1 q) ∧ (∀ q, q ≠ 109 → T'.2.2.2 q = T.2.2.2 q) := ⟨fun q hq => ⟨(f.1 q (by omega)).1 (by omega), (f.1 q (by omega)).2⟩, f.2⟩
def RL (A : AA) (G : gS) (lo : Option Nat) (T : xS) : Prop := RC A T G ∧ LC T lo (lawN G lo) (lawA A.2.1.2 A.2.2.1.2.2.2.1)
theorem RL_X {T T' : xS} (h : RL A G lo T) (f : (∀ q, (q < 109 ∨ 124 < q) → T'.1 q = T.1 q ∧ T'.2.1 q = T.2.1 q) ∧ (∀ q, q ≠ 109 → T'.2.2.2 q = T.2.2.2 q)) : RL A G lo T' := ⟨RC_X h.1 f, LC_fr h.2 (fun q _ h' => (f.1 (q + 1) (by omega)).2)⟩
theorem RL_if {T : xS} {i : Nat} {x : Int32} {p : Prop} [Decidable p] (h : RL A G lo T) : RL A G lo (if p then T else x_sA T 124 i x) := by
  split
  · exact h
  · exact RL_X h ⟨fun q hq => ⟨rfl, x_rAn (by omega)⟩, fun _ _ => rfl⟩
def Fin (A : AA) (G : gS) (W : Nat) (z : Int32 × xS) : Prop := RC A z.2 G ∧ ∃ o, flS A.2.2.1.1 (lawA A.2.1.2 A.2.2.1.2.2.2.1) A.2.2.1.2.1 W o ∧ z.1 = zI (o.elim 0 (fun m => m + 1))
theorem g115s {k : Nat} (ok : OkA k0 A) (hk0 : k0 < 512) (hW : W < 2 ^ 31) (hk3 : k ≤ 3) (next : ∀ T, RL A G lo T → Iv A.2.2.1.1 (lawA A.2.1.2 A.2.2.1.2.2.2.1) A.2.2.1.2.1 W T (k + 1) 0 → Ep (fun n => G115f lo (lawN G lo) n 53 (nI W) (nI (fmN A.2.2.1.1 A.2.2.1.2.1)) (nI (k + 1)) (nI 0) (nI 0) T) (Fin A G W)) : ∀ (d i c : Nat) (T : xS), i + d = eL k → ((i < eL k ∧ c = eN k i) ∨ (i = eL k ∧ 65536 ≤ c ∧ c < 2 ^ 31)) → RL A G lo T → Iv A.2.2.1.1 (lawA A.2.1.2 A.2.2.1.2.2.2.1) A.2.2.1.2.1 W T k i → Ep (fun n => G115f lo (lawN G lo) n 70 (nI W) (nI (fmN A.2.2.1.1 A.2.2.1.2.1)) (nI k) (nI c) (nI i) T) (Fin A G W) := by
  have L560 : (560 : Int32) = nI 560 := rfl
  have hb := OkA_b ok
  have kw := OkA_w ok
  have hb1 := hb.1
  have hday := (ok.2.2.2.1.2.2.1 A.2.2.1.2.1 (Or.inl rfl)).2.2.1
  obtain ⟨el1, el2⟩ := eL_le hk3
  have p16 : 2 ^ A.2.2.1.1 0 0 ≤ 2 ^ 16 := Nat.pow_le_pow_right (by decide) hb1
  have p16 : 2 ^ A.2.2.1.1 0 0 ≤ 65536 := p16
  intro d
  induction d with
  | zero =>
    intro i c T hi hc hR hI
    have hie : i = eL k := by omega
    have hc2 : 65536 ≤ c ∧ c < 2 ^ 31 := by
      rcases hc with ⟨h, _⟩ | ⟨_, h⟩
      · omega
      · exact h
    have nx := next T hR (Iv_up hb hk3 hI (Or.inl hie))
    have hc0 : T.1 89 0 = nI (A.2.2.1.1 0 0) := (CD_b hR.1).1
    refine ep_succ (fun n => G115e70 lo (lawN G lo) n ..) ?_
    by_cases h560 : 560 ≤ i
    · simp (disch := omega) only [G115b70, L560, L0, L1, L2, L3, L4, L5, L6, L7, L8, L9, L10, L11, L12, L13, L16, L20, L31, L32, L40, L48, L57, L59, L60, L61, L91, L93, L97, L99, L100, L102, L103, L114, L122, L255, L300, L400, L402, L999, L2280, L2500, L99999, L63, L1431655765, L858993459, L252645135, ic_ge, ic_gt, ic_le, ic_lt, ic_eq, ic_ne, if_lt, if_ge, if_gt, if_le, if_eq, if_ne, if_lt_zI, if_ge_zI, ic_ne_m1, ic_eq_m1, ic_nn_m1, ic_ee_m1, if_ne_b2i, if_eq_b2i, b2i_z, decide_eq_true_eq, decide_true, decide_false, Bool.not_eq_true, Bool.not_eq_true', Bool.not_true, Bool.not_false, decide_eq_false_iff_not, Bool.false_eq_true, not_false_eq_true, not_true_eq_false, if_true, if_false, ↓reduceIte, eq_self, Option.bind_some, Bool.true_and, Bool.false_and, Bool.and_true, Bool.and_false, nI_add, nI_subN, nI_clamp, gdF, gdF2, gdP, gdP2, zI_cl, zI_s, Lm1, nI_n0, zI_n0, leF, or_false, false_or, or_self, h560]
      exact nx
    · have hs : ¬ c >>> A.2.2.1.1 0 0 = 0 := fun e => by
        have := shr_0.mp e
        omega
      have hsl := shr_le c (A.2.2.1.1 0 0)
      simp (disch := omega) only [G115b70, L560, L0, L1, L2, L3, L4, L5, L6, L7, L8, L9, L10, L11, L12, L13, L16, L20, L31, L32, L40, L48, L57, L59, L60, L61, L91, L93, L97, L99, L100, L102, L103, L114, L122, L255, L300, L400, L402, L999, L2280, L2500, L99999, L63, L1431655765, L858993459, L252645135, ic_ge, ic_gt, ic_le, ic_lt, ic_eq, ic_ne, if_lt, if_ge, if_gt, if_le, if_eq, if_ne, if_lt_zI, if_ge_zI, ic_ne_m1, ic_eq_m1, ic_nn_m1, ic_ee_m1, if_ne_b2i, if_eq_b2i, b2i_z, decide_eq_true_eq, decide_true, decide_false, Bool.not_eq_true, Bool.not_eq_true', Bool.not_true, Bool.not_false, decide_eq_false_iff_not, Bool.false_eq_true, not_false_eq_true, not_true_eq_false, if_true, if_false, ↓reduceIte, eq_self, Option.bind_some, Bool.true_and, Bool.false_and, Bool.and_true, Bool.and_false, nI_add, nI_subN, nI_clamp, gdF, gdF2, gdP, gdP2, zI_cl, zI_s, Lm1, nI_n0, zI_n0, leF, or_false, false_or, or_self, h560, hc0, nI_shr, hs]
      exact nx
  | succ d ih =>
    intro i c T hi hc hR hI
    have hil : i < eL k := by omega
    have hce : c = eN k i := by
      rcases hc with ⟨_, h⟩ | ⟨h, _⟩
      · exact h
      · omega
    subst hce
    obtain ⟨c1, c2⟩ := eN_c hk3 hil
    have h560 : ¬ 560 ≤ i := by omega
    have hc0 : T.1 89 0 = nI (A.2.2.1.1 0 0) := (CD_b hR.1).1
    have hsl := shr_le (eN k i) (A.2.2.1.1 0 0)
    have step : ∀ T', RL A G lo T' → Iv A.2.2.1.1 (lawA A.2.1.2 A.2.2.1.2.2.2.1) A.2.2.1.2.1 W T' k (i + 1) → Ep (fun n => (G123 n (nI (eN k i)) T').bind (fun z8 => G115f lo (lawN G lo) n 70 (nI W) (nI (fmN A.2.2.1.1 A.2.2.1.2.1)) (nI k) z8.1 (nI (i + 1)) z8.2)) (Fin A G W) := by
      intro T' hR' hI'
      refine ep_bv g123 ?_
      by_cases hl1 : i + 1 < eL k
      · rw [(eN_g hk3 hl1).1]
        exact ih (i + 1) _ T' (by omega) (Or.inl ⟨hl1, rfl⟩) hR' hI'
      · obtain ⟨v, v1, v2, v3⟩ := eN_l hk3 (show i + 1 = eL k by omega)
        rw [v3]
        exact ih (i + 1) v T' (by omega) (Or.inr ⟨by omega, v1, v2⟩) hR' hI'
    refine ep_succ (fun n => G115e70 lo (lawN G lo) n ..) ?_
    by_cases hs : eN k i >>> A.2.2.1.1 0 0 = 0
    · have hx : eN k i ^^^ (eN k i &&& fmN A.2.2.1.1 A.2.2.1.2.1) < 65536 := Nat.xor_lt_two_pow (n := 16) c1 (Nat.lt_of_le_of_lt Nat.and_le_left c1)
      by_cases hsub : subP A.2.2.1.1 A.2.2.1.2.1 (eN k i)
      · have hz := sub_is.mpr hsub
        simp (disch := omega) only [G115b70, L560, L0, L1, L2, L3, L4, L5, L6, L7, L8, L9, L10, L11, L12, L13, L16, L20, L31, L32, L40, L48, L57, L59, L60, L61, L91, L93, L97, L99, L100, L102, L103, L114, L122, L255, L300, L400, L402, L999, L2280, L2500, L99999, L63, L1431655765, L858993459, L252645135, ic_ge, ic_gt, ic_le, ic_lt, ic_eq, ic_ne, if_lt, if_ge, if_gt, if_le, if_eq, if_ne, if_lt_zI, if_ge_zI, ic_ne_m1, ic_eq_m1, ic_nn_m1, ic_ee_m1, if_ne_b2i, if_eq_b2i, b2i_z, decide_eq_true_eq, decide_true, decide_false, Bool.not_eq_true, Bool.not_eq_true', Bool.not_true, Bool.not_false, decide_eq_false_iff_not, Bool.false_eq_true, not_false_eq_true, not_true_eq_false, if_true, if_false, ↓reduceIte, eq_self, Option.bind_some, Bool.true_and, Bool.false_and, Bool.and_true, Bool.and_false, nI_add, nI_subN, nI_clamp, gdF, gdF2, gdP, gdP2, zI_cl, zI_s, Lm1, nI_n0, zI_n0, leF, or_false, false_or, or_self, h560, hc0, nI_shr, hs, nI_dif, hz]
        refine ep_bind (g116 (T0 := T) (l := lawA A.2.1.2 A.2.2.1.2.2.2.1) (W := W) hb kw c1 c2 hk3 hsub (fun o o1 o2 o3 => ?_)) ?_
        · obtain ⟨q1, q2⟩ := hI o o1 o2 (Or.inl (by omega))
          exact ⟨q1, q2 (by omega)⟩
        · rintro ⟨z1, T1⟩ (⟨e1, f1⟩ | ⟨e1, gm, T2, r, f2, hr, hgd, e2⟩)
          · have e1 : z1 = nI 0 := e1
            have f1 : Fr3 T T1 := f1
            subst e1
            have hR1 : RL A G lo T1 := RL_X hR (FrX_C (Fr3_X f1))
            simp (disch := omega) only [L0, L1, L2, L3, L4, L5, L6, L7, L8, L9, L10, L11, L12, L13, L16, L20, L31, L32, L40, L48, L57, L59, L60, L61, L91, L93, L97, L99, L100, L102, L103, L114, L122, L255, L300, L400, L402, L999, L2280, L2500, L99999, L63, L1431655765, L858993459, L252645135, ic_ge, ic_gt, ic_le, ic_lt, ic_eq, ic_ne, if_lt, if_ge, if_gt, if_le, if_eq, if_ne, if_lt_zI, if_ge_zI, ic_ne_m1, ic_eq_m1, ic_nn_m1, ic_ee_m1, if_ne_b2i, if_eq_b2i, b2i_z, decide_eq_true_eq, decide_true, decide_false, Bool.not_eq_true, Bool.not_eq_true', Bool.not_true, Bool.not_false, decide_eq_false_iff_not, Bool.false_eq_true, not_false_eq_true, not_true_eq_false, if_true, if_false, ↓reduceIte, eq_self, Option.bind_some, Bool.true_and, Bool.false_and, Bool.and_true, Bool.and_false, nI_add, nI_subN, nI_clamp, gdF, gdF2, gdP, gdP2, zI_cl, zI_s, Lm1, nI_n0, zI_n0, leF, or_false, false_or, or_self]
            refine ep_bind (g109 ok hR1.1 hR1.2) ?_
            rintro ⟨_, T2⟩ ⟨d1, d2⟩
            have d1 : DS T2 T2 110 lo (lawN G lo) A.2.2.1.1 (lawA A.2.1.2 A.2.2.1.2.2.2.1) (fun f => nI (cf A.2.2.1.2.1 f)) A.2.2.1.2.1 := d1
            have d2 : FrL T1 T2 := d2
            refine ep_bind (g120 (m := eN k i) hb hW kw (by omega) c1 (fun x hx => (hsub x hx).1) d1) ?_
            rintro ⟨z3, T3⟩ ⟨a1, a2, r, a3, a4, a5⟩
            have a1 : z3 = b2i (gets A.2.2.1.1 (lawA A.2.1.2 A.2.2.1.2.2.2.1) A.2.2.1.2.1 W (eN k i)) := a1
            have a2 : FrX T2 T3 := a2
            have a4 : T3.1 123 1 = nI r := a4
            subst a1
            have fx : FrX T T3 := FrX_tr (FrX_tr (Fr3_X f1) (FrL_X d2)) a2
            have hR3 : RL A G lo T3 := RL_X hR (FrX_C fx)
            cases hgt : gets A.2.2.1.1 (lawA A.2.1.2 A.2.2.1.2.2.2.1) A.2.2.1.2.1 W (eN k i) with
            | true =>
              simp (disch := omega) only [L0, L1, L2, L3, L4, L5, L6, L7, L8, L9, L10, L11, L12, L13, L16, L20, L31, L32, L40, L48, L57, L59, L60, L61, L91, L93, L97, L99, L100, L102, L103, L114, L122, L255, L300, L400, L402, L999, L2280, L2500, L99999, L63, L1431655765, L858993459, L252645135, ic_ge, ic_gt, ic_le, ic_lt, ic_eq, ic_ne, if_lt, if_ge, if_gt, if_le, if_eq, if_ne, if_lt_zI, if_ge_zI, ic_ne_m1, ic_eq_m1, ic_nn_m1, ic_ee_m1, if_ne_b2i, if_eq_b2i, b2i_z, decide_eq_true_eq, decide_true, decide_false, Bool.not_eq_true, Bool.not_eq_true', Bool.not_true, Bool.not_false, decide_eq_false_iff_not, Bool.false_eq_true, not_false_eq_true, not_true_eq_false, if_true, if_false, ↓reduceIte, eq_self, Option.bind_some, Bool.true_and, Bool.false_and, Bool.and_true, Bool.and_false, nI_add, nI_subN, nI_clamp, gdF, gdF2, gdP, gdP2, zI_cl, zI_s, Lm1, nI_n0, zI_n0, leF, or_false, false_or, or_self]
              refine ep_ret ⟨hR3.1, some (eN k i), ⟨c1, hsub, by unfold cnt; omega, hgt, fun m' m1 m2 m3 => ?_⟩, (zI_s _).symm⟩
              have hcm : cnt (eN k i) = k := c2
              refine (hI m' m1 m2 ?_).1
              rw [hcm] at m3
              rcases m3 with m3 | ⟨m3, m4⟩
              · exact Or.inl m3
              · obtain ⟨j, hj, ej⟩ := eN_all m1 m3
                refine Or.inr ⟨m3, j, ?_, ej⟩
                refine Nat.lt_of_not_le (fun hij => ?_)
                by_cases e : i = j
                · rw [e, ej] at m4
                  omega
                · have := eN_lt hk3 (show i < j by omega) hj
                  omega
            | false =>
              simp (disch := omega) only [L0, L1, L2, L3, L4, L5, L6, L7, L8, L9, L10, L11, L12, L13, L16, L20, L31, L32, L40, L48, L57, L59, L60, L61, L91, L93, L97, L99, L100, L102, L103, L114, L122, L255, L300, L400, L402, L999, L2280, L2500, L99999, L63, L1431655765, L858993459, L252645135, ic_ge, ic_gt, ic_le, ic_lt, ic_eq, ic_ne, if_lt, if_ge, if_gt, if_le, if_eq, if_ne, if_lt_zI, if_ge_zI, ic_ne_m1, ic_eq_m1, ic_nn_m1, ic_ee_m1, if_ne_b2i, if_eq_b2i, b2i_z, decide_eq_true_eq, decide_true, decide_false, Bool.not_eq_true, Bool.not_eq_true', Bool.not_true, Bool.not_false, decide_eq_false_iff_not, Bool.false_eq_true, not_false_eq_true, not_true_eq_false, if_true, if_false, ↓reduceIte, eq_self, Option.bind_some, Bool.true_and, Bool.false_and, Bool.and_true, Bool.and_false, nI_add, nI_subN, nI_clamp, gdF, gdF2, gdP, gdP2, zI_cl, zI_s, Lm1, nI_n0, zI_n0, leF, or_false, false_or, or_self]
              refine ep_bv (g119 c1 c2 hk3) ?_
              rw [a4]
              have hI3 : Iv A.2.2.1.1 (lawA A.2.1.2 A.2.2.1.2.2.2.1) A.2.2.1.2.1 W T3 k i := Iv_fr hI (fx.1 124 (by omega)).2
              exact step _ (RL_if hR3) (Iv_ok hk3 hil hI3 hgt a3 (a5 hgt))
          · have e1 : z1 = nI 1 := e1
            have e2 : T1 = if 3 ≤ k then T2 else x_sA T2 124 (ixN (eN k i)) (nI r) := e2
            subst e1
            subst e2
            have hR2 : RL A G lo T2 := RL_X hR (FrX_C (Fr3_X f2))
            have hI2 : Iv A.2.2.1.1 (lawA A.2.1.2 A.2.2.1.2.2.2.1) A.2.2.1.2.1 W T2 k i := Iv_fr hI (by rw [f2.2])
            simp (disch := omega) only [L0, L1, L2, L3, L4, L5, L6, L7, L8, L9, L10, L11, L12, L13, L16, L20, L31, L32, L40, L48, L57, L59, L60, L61, L91, L93, L97, L99, L100, L102, L103, L114, L122, L255, L300, L400, L402, L999, L2280, L2500, L99999, L63, L1431655765, L858993459, L252645135, ic_ge, ic_gt, ic_le, ic_lt, ic_eq, ic_ne, if_lt, if_ge, if_gt, if_le, if_eq, if_ne, if_lt_zI, if_ge_zI, ic_ne_m1, ic_eq_m1, ic_nn_m1, ic_ee_m1, if_ne_b2i, if_eq_b2i, b2i_z, decide_eq_true_eq, decide_true, decide_false, Bool.not_eq_true, Bool.not_eq_true', Bool.not_true, Bool.not_false, decide_eq_false_iff_not, Bool.false_eq_true, not_false_eq_true, not_true_eq_false, if_true, if_false, ↓reduceIte, eq_self, Option.bind_some, Bool.true_and, Bool.false_and, Bool.and_true, Bool.and_false, nI_add, nI_subN, nI_clamp, gdF, gdF2, gdP, gdP2, zI_cl, zI_s, Lm1, nI_n0, zI_n0, leF, or_false, false_or, or_self, Nat.one_ne_zero]
            exact step _ (RL_if hR2) (Iv_ok hk3 hil hI2 gm hr hgd)
      · have hz : ¬ eN k i ^^^ (eN k i &&& fmN A.2.2.1.1 A.2.2.1.2.1) = 0 := fun e => hsub (sub_is.mp e)
        simp (disch := omega) only [G115b70, L560, L0, L1, L2, L3, L4, L5, L6, L7, L8, L9, L10, L11, L12, L13, L16, L20, L31, L32, L40, L48, L57, L59, L60, L61, L91, L93, L97, L99, L100, L102, L103, L114, L122, L255, L300, L400, L402, L999, L2280, L2500, L99999, L63, L1431655765, L858993459, L252645135, ic_ge, ic_gt, ic_le, ic_lt, ic_eq, ic_ne, if_lt, if_ge, if_gt, if_le, if_eq, if_ne, if_lt_zI, if_ge_zI, ic_ne_m1, ic_eq_m1, ic_nn_m1, ic_ee_m1, if_ne_b2i, if_eq_b2i, b2i_z, decide_eq_true_eq, decide_true, decide_false, Bool.not_eq_true, Bool.not_eq_true', Bool.not_true, Bool.not_false, decide_eq_false_iff_not, Bool.false_eq_true, not_false_eq_true, not_true_eq_false, if_true, if_false, ↓reduceIte, eq_self, Option.bind_some, Bool.true_and, Bool.false_and, Bool.and_true, Bool.and_false, nI_add, nI_subN, nI_clamp, gdF, gdF2, gdP, gdP2, zI_cl, zI_s, Lm1, nI_n0, zI_n0, leF, or_false, false_or, or_self, h560, hc0, nI_shr, hs, nI_dif, hz]
        exact step T hR (Iv_no hI hsub)
    · simp (disch := omega) only [G115b70, L560, L0, L1, L2, L3, L4, L5, L6, L7, L8, L9, L10, L11, L12, L13, L16, L20, L31, L32, L40, L48, L57, L59, L60, L61, L91, L93, L97, L99, L100, L102, L103, L114, L122, L255, L300, L400, L402, L999, L2280, L2500, L99999, L63, L1431655765, L858993459, L252645135, ic_ge, ic_gt, ic_le, ic_lt, ic_eq, ic_ne, if_lt, if_ge, if_gt, if_le, if_eq, if_ne, if_lt_zI, if_ge_zI, ic_ne_m1, ic_eq_m1, ic_nn_m1, ic_ee_m1, if_ne_b2i, if_eq_b2i, b2i_z, decide_eq_true_eq, decide_true, decide_false, Bool.not_eq_true, Bool.not_eq_true', Bool.not_true, Bool.not_false, decide_eq_false_iff_not, Bool.false_eq_true, not_false_eq_true, not_true_eq_false, if_true, if_false, ↓reduceIte, eq_self, Option.bind_some, Bool.true_and, Bool.false_and, Bool.and_true, Bool.and_false, nI_add, nI_subN, nI_clamp, gdF, gdF2, gdP, gdP2, zI_cl, zI_s, Lm1, nI_n0, zI_n0, leF, or_false, false_or, or_self, h560, hc0, nI_shr, hs]
      refine next T hR (Iv_up hb hk3 hI (Or.inr ⟨hil, ?_⟩))
      exact Nat.le_of_not_lt (fun h => hs (shr_0.mpr h))
theorem g115k (ok : OkA k0 A) (hk0 : k0 < 512) (hW : W < 2 ^ 31) : ∀ (d k : Nat) (T : xS), k + d = 4 → RL A G lo T → Iv A.2.2.1.1 (lawA A.2.1.2 A.2.2.1.2.2.2.1) A.2.2.1.2.1 W T k 0 → Ep (fun n => G115f lo (lawN G lo) n 53 (nI W) (nI (fmN A.2.2.1.1 A.2.2.1.2.1)) (nI k) (nI 0) (nI 0) T) (Fin A G W) := by
  intro d
  induction d with
  | zero =>
    intro k T hk hR hI
    have e : 3 < k := by omega
    refine ep_succ (fun n => G115e53 lo (lawN G lo) n ..) ?_
    simp (disch := omega) only [G115b53, L0, L1, L2, L3, L4, L5, L6, L7, L8, L9, L10, L11, L12, L13, L16, L20, L31, L32, L40, L48, L57, L59, L60, L61, L91, L93, L97, L99, L100, L102, L103, L114, L122, L255, L300, L400, L402, L999, L2280, L2500, L99999, L63, L1431655765, L858993459, L252645135, ic_ge, ic_gt, ic_le, ic_lt, ic_eq, ic_ne, if_lt, if_ge, if_gt, if_le, if_eq, if_ne, if_lt_zI, if_ge_zI, ic_ne_m1, ic_eq_m1, ic_nn_m1, ic_ee_m1, if_ne_b2i, if_eq_b2i, b2i_z, decide_eq_true_eq, decide_true, decide_false, Bool.not_eq_true, Bool.not_eq_true', Bool.not_true, Bool.not_false, decide_eq_false_iff_not, Bool.false_eq_true, not_false_eq_true, not_true_eq_false, if_true, if_false, ↓reduceIte, eq_self, Option.bind_some, Bool.true_and, Bool.false_and, Bool.and_true, Bool.and_false, nI_add, nI_subN, nI_clamp, gdF, gdF2, gdP, gdP2, zI_cl, zI_s, Lm1, nI_n0, zI_n0, leF, or_false, false_or, or_self, e]
    exact ep_ret ⟨hR.1, none, fun m m1 m2 m3 => (hI m m1 m2 (Or.inl (by omega))).1, rfl⟩
  | succ d ih =>
    intro k T hk hR hI
    have e : ¬ 3 < k := by omega
    have hp : 1 ≤ 2 ^ k := Nat.pow_pos (by decide)
    obtain ⟨el1, el2⟩ := eL_le (k := k) (by omega)
    refine ep_succ (fun n => G115e53 lo (lawN G lo) n ..) ?_
    simp (disch := omega) only [G115b53, L0, L1, L2, L3, L4, L5, L6, L7, L8, L9, L10, L11, L12, L13, L16, L20, L31, L32, L40, L48, L57, L59, L60, L61, L91, L93, L97, L99, L100, L102, L103, L114, L122, L255, L300, L400, L402, L999, L2280, L2500, L99999, L63, L1431655765, L858993459, L252645135, ic_ge, ic_gt, ic_le, ic_lt, ic_eq, ic_ne, if_lt, if_ge, if_gt, if_le, if_eq, if_ne, if_lt_zI, if_ge_zI, ic_ne_m1, ic_eq_m1, ic_nn_m1, ic_ee_m1, if_ne_b2i, if_eq_b2i, b2i_z, decide_eq_true_eq, decide_true, decide_false, Bool.not_eq_true, Bool.not_eq_true', Bool.not_true, Bool.not_false, decide_eq_false_iff_not, Bool.false_eq_true, not_false_eq_true, not_true_eq_false, if_true, if_false, ↓reduceIte, eq_self, Option.bind_some, Bool.true_and, Bool.false_and, Bool.and_true, Bool.and_false, nI_add, nI_subN, nI_clamp, gdF, gdF2, gdP, gdP2, zI_cl, zI_s, Lm1, nI_n0, zI_n0, leF, or_false, false_or, or_self, e, nI_shl]
    refine g115s (k := k) ok hk0 hW (by omega) (fun T' hR' hI' => ih (k + 1) T' (by omega) hR' hI') (eL k) 0 _ T (by omega) (Or.inl ⟨by omega, ?_⟩) hR hI
    exact (eN_0 (by omega)).symm
theorem g115a {T : xS} (ok : OkA k0 A) (hR : RC A T G) (go : Ep (fun n => G115f lo (lawN G lo) n 53 (nI W) (nI (fmN A.2.2.1.1 A.2.2.1.2.1)) (nI 0) (nI 0) (nI 0) T) Q) : ∀ (m c x : Nat), c + m = A.2.2.1.1 0 0 → bsF (fun c => decide (A.2.2.1.2.1.1 7 c = 0)) m c x = fmN A.2.2.1.1 A.2.2.1.2.1 → Ep (fun n => G115f lo (lawN G lo) n 6 (nI W) (nI x) (nI c) (nI 0) (nI 0) T) Q := by
  have hb1 := (OkA_b ok).1
  have kw := OkA_w ok
  have hc0 : T.1 89 0 = nI (A.2.2.1.1 0 0) := (CD_b hR).1
  intro m
  induction m with
  | zero =>
    intro c x hc hx
    have e : A.2.2.1.1 0 0 ≤ c := by omega
    have hx : x = fmN A.2.2.1.1 A.2.2.1.2.1 := hx
    subst hx
    refine ep_succ (fun n => G115e6 lo (lawN G lo) n ..) ?_
    simp (disch := omega) only [G115b6, L0, L1, L2, L3, L4, L5, L6, L7, L8, L9, L10, L11, L12, L13, L16, L20, L31, L32, L40, L48, L57, L59, L60, L61, L91, L93, L97, L99, L100, L102, L103, L114, L122, L255, L300, L400, L402, L999, L2280, L2500, L99999, L63, L1431655765, L858993459, L252645135, ic_ge, ic_gt, ic_le, ic_lt, ic_eq, ic_ne, if_lt, if_ge, if_gt, if_le, if_eq, if_ne, if_lt_zI, if_ge_zI, ic_ne_m1, ic_eq_m1, ic_nn_m1, ic_ee_m1, if_ne_b2i, if_eq_b2i, b2i_z, decide_eq_true_eq, decide_true, decide_false, Bool.not_eq_true, Bool.not_eq_true', Bool.not_true, Bool.not_false, decide_eq_false_iff_not, Bool.false_eq_true, not_false_eq_true, not_true_eq_false, if_true, if_false, ↓reduceIte, eq_self, Option.bind_some, Bool.true_and, Bool.false_and, Bool.and_true, Bool.and_false, nI_add, nI_subN, nI_clamp, gdF, gdF2, gdP, gdP2, zI_cl, zI_s, Lm1, nI_n0, zI_n0, leF, or_false, false_or, or_self, hc0, e]
    exact go
  | succ m ih =>
    intro c x hc hx
    have e : ¬ A.2.2.1.1 0 0 ≤ c := by omega
    have r : T.2.1 104 c = nI (A.2.2.1.2.1.1 7 c) := (CD_w hR).2.2.2.2.1 c (by omega)
    have h8 := (kw.2.2.1 c (by omega)).1
    refine ep_succ (fun n => G115e6 lo (lawN G lo) n ..) ?_
    unfold bsF at hx
    by_cases h : A.2.2.1.2.1.1 7 c = 0
    · rw [decide_eq_true h, if_pos rfl] at hx
      simp (disch := omega) only [G115b6, L0, L1, L2, L3, L4, L5, L6, L7, L8, L9, L10, L11, L12, L13, L16, L20, L31, L32, L40, L48, L57, L59, L60, L61, L91, L93, L97, L99, L100, L102, L103, L114, L122, L255, L300, L400, L402, L999, L2280, L2500, L99999, L63, L1431655765, L858993459, L252645135, ic_ge, ic_gt, ic_le, ic_lt, ic_eq, ic_ne, if_lt, if_ge, if_gt, if_le, if_eq, if_ne, if_lt_zI, if_ge_zI, ic_ne_m1, ic_eq_m1, ic_nn_m1, ic_ee_m1, if_ne_b2i, if_eq_b2i, b2i_z, decide_eq_true_eq, decide_true, decide_false, Bool.not_eq_true, Bool.not_eq_true', Bool.not_true, Bool.not_false, decide_eq_false_iff_not, Bool.false_eq_true, not_false_eq_true, not_true_eq_false, if_true, if_false, ↓reduceIte, eq_self, Option.bind_some, Bool.true_and, Bool.false_and, Bool.and_true, Bool.and_false, nI_add, nI_subN, nI_clamp, gdF, gdF2, gdP, gdP2, zI_cl, zI_s, Lm1, nI_n0, zI_n0, leF, or_false, false_or, or_self, hc0, e, r, h, nI_shl, nx_or]
      exact ih (c + 1) _ (by omega) hx
    · rw [decide_eq_false h, if_neg (by decide)] at hx
      simp (disch := omega) only [G115b6, L0, L1, L2, L3, L4, L5, L6, L7, L8, L9, L10, L11, L12, L13, L16, L20, L31, L32, L40, L48, L57, L59, L60, L61, L91, L93, L97, L99, L100, L102, L103, L114, L122, L255, L300, L400, L402, L999, L2280, L2500, L99999, L63, L1431655765, L858993459, L252645135, ic_ge, ic_gt, ic_le, ic_lt, ic_eq, ic_ne, if_lt, if_ge, if_gt, if_le, if_eq, if_ne, if_lt_zI, if_ge_zI, ic_ne_m1, ic_eq_m1, ic_nn_m1, ic_ee_m1, if_ne_b2i, if_eq_b2i, b2i_z, decide_eq_true_eq, decide_true, decide_false, Bool.not_eq_true, Bool.not_eq_true', Bool.not_true, Bool.not_false, decide_eq_false_iff_not, Bool.false_eq_true, not_false_eq_true, not_true_eq_false, if_true, if_false, ↓reduceIte, eq_self, Option.bind_some, Bool.true_and, Bool.false_and, Bool.and_true, Bool.and_false, nI_add, nI_subN, nI_clamp, gdF, gdF2, gdP, gdP2, zI_cl, zI_s, Lm1, nI_n0, zI_n0, leF, or_false, false_or, or_self, hc0, e, r, h, nx_or, Nat.or_zero]
      exact ih (c + 1) _ (by omega) hx
theorem g115 {T : xS} (ok : OkA k0 A) (hk0 : k0 < 512) (hW : W < 2 ^ 31) (hR : RC A T G) (hl : LC T lo (lawN G lo) (lawA A.2.1.2 A.2.2.1.2.2.2.1)) : Ep (fun n => G115 lo (lawN G lo) n (nI W) T) (Fin A G W) := by
  refine ep_succ (fun n => G115e0 lo (lawN G lo) n ..) ?_
  simp only [G115b0, L0]
  refine g115a ok hR (g115k ok hk0 hW 4 0 T (by omega) ⟨hR, hl⟩ (fun m m1 m2 m3 => ?_)) _ 0 0 (Nat.zero_add _) rfl
  rcases m3 with h | ⟨_, j, hj, _⟩
  · exact absurd h (Nat.not_lt_zero _)
  · exact absurd hj (Nat.not_lt_zero _)
end G115
