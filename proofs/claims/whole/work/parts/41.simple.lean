/-! numbers of any sign; the calls that change little -/
theorem zI_toInt {k : Nat} (hk : k < 2 ^ 31) : (zI k).toInt = (k : Int) - 1 := by
  cases k with
  | zero => decide
  | succ c =>
    rw [zI_s, nI_toInt (by omega)]
    omega
theorem zI_sub (k : Nat) : nI k - nI 1 = zI k := by
  cases k with
  | zero => rfl
  | succ c =>
    rw [zI_s, nI_subN (by omega), Nat.add_sub_cancel]
theorem inL_z {a b c : Nat} (ha : a < 2 ^ 31) (hb : b < 2 ^ 31) (hc : c < 2 ^ 31) : inL (zI a).toInt64 (zI b).toInt64 (zI c).toInt64 = decide (b ≤ a ∧ a ≤ c) := by
  unfold inL
  have e1 : decide ((zI a).toInt64 < (zI b).toInt64) = decide (a < b) := by
    refine decide_eq_decide.mpr ?_
    rw [Int64.lt_iff_toInt_lt, Int32.toInt_toInt64, Int32.toInt_toInt64, zI_toInt ha, zI_toInt hb]
    omega
  have e2 : decide ((zI c).toInt64 < (zI a).toInt64) = decide (c < a) := by
    refine decide_eq_decide.mpr ?_
    rw [Int64.lt_iff_toInt_lt, Int32.toInt_toInt64, Int32.toInt_toInt64, zI_toInt ha, zI_toInt hc]
    omega
  rw [e1, e2]
  by_cases h1 : a < b
  · have : ¬ (b ≤ a ∧ a ≤ c) := by omega
    simp [h1, this]
  · by_cases h2 : c < a
    · have : ¬ (b ≤ a ∧ a ≤ c) := by omega
      simp [h1, h2, this]
    · have : b ≤ a ∧ a ≤ c := by omega
      simp [h1, h2, this]
theorem inC {a c : Nat} (ha : a < 2 ^ 31 - 1) (hc : c < 2 ^ 31) : inL (nI a).toInt64 0 (zI c).toInt64 = decide (a < c) := by
  have h := inL_z (a := a + 1) (b := 1) (c := c) (by omega) (by decide) hc
  rw [zI_s] at h
  have e : (0 : Int64) = (zI 1).toInt64 := by decide
  rw [e, h]
  exact decide_eq_decide.mpr (by omega)
theorem inK {a k : Nat} (ha : a < 2 ^ 31) (hk : k < 2 ^ 31) : inL (nI a).toInt64 0 (lN k) = decide (a ≤ k) := by
  have h := inL_nI (a := a) (lo := 0) (hi := k) ha (by decide) hk
  have e : (0 : Int64) = lN 0 := rfl
  rw [e, h]
  exact decide_eq_decide.mpr (by omega)
theorem i32_c (x : Int32) : (∃ a : Nat, a < 2 ^ 31 - 1 ∧ x = nI a) ∨ x = nI (2 ^ 31 - 1) ∨ x < 0 := by
  rcases i32_cases x with ⟨a, ha, e⟩ | h
  · by_cases h2 : a = 2 ^ 31 - 1
    · exact Or.inr (Or.inl (by rw [e, h2]))
    · exact Or.inl ⟨a, by omega, e⟩
  · exact Or.inr (Or.inr h)
theorem neg_if {x : Int32} (h : x < 0) : am_if .lt x = true ∧ am_if .ge x = false := ⟨decide_eq_true h, decide_eq_false (fun z => by
  have h1 := Int32.lt_iff_toInt_lt.mp h
  have h2 := Int32.le_iff_toInt_le.mp z
  omega)⟩
theorem inC' {a c : Nat} (ha : a < 2 ^ 31) (hc : c < 2 ^ 31 - 1) : inL (nI a).toInt64 0 (zI c).toInt64 = decide (a < c) := by
  by_cases h : a < 2 ^ 31 - 1
  · exact inC h (by omega)
  · have e2 : decide ((zI c).toInt64 < (nI a).toInt64) = true := by
      refine decide_eq_true ?_
      rw [Int64.lt_iff_toInt_lt, Int32.toInt_toInt64, Int32.toInt_toInt64, nI_toInt ha, zI_toInt (by omega)]
      omega
    unfold inL
    rw [e2, decide_eq_false (show ¬ a < c by omega)]
    simp
theorem nI_eqP {a b : Nat} (ha : a < 2 ^ 31) (hb : b < 2 ^ 31) : (nI a = nI b) = (a = b) := propext (nI_eqI' ha hb)
theorem nI_n0 {c : Nat} (h : c < 2 ^ 31) : (nI c < nI 0) = False := eq_false (nI_pos h)
theorem leF {N c : Nat} (h : c < N) : (N ≤ c) = False := eq_false (by omega)
theorem zI_n0 {c : Nat} (h0 : c ≠ 0) (h : c < 2 ^ 31) : (zI c < nI 0) = False := eq_false (fun z => h0 ((zI_lt0 h).mp z))
theorem sw5 {k : Nat} (h : k ≤ 5) : ((nI k).toInt < 0 ∨ 5 < (nI k).toInt) = False := by
  rw [nI_toInt (by omega)]
  exact eq_false (by omega)
theorem sw12 {k : Nat} (h : k ≤ 12) : ((nI k).toInt < 0 ∨ 12 < (nI k).toInt) = False := by
  rw [nI_toInt (by omega)]
  exact eq_false (by omega)
theorem swc (x : Int32) (m : Nat) (hm : m < 2 ^ 31) : (∃ k, k ≤ m ∧ x = nI k) ∨ (x.toInt < 0 ∨ (m : Int) < x.toInt) := by
  rcases i32_cases x with ⟨a, ha, e⟩ | h
  · by_cases h2 : a ≤ m
    · exact Or.inl ⟨a, h2, e⟩
    · refine Or.inr (Or.inr ?_)
      rw [e, nI_toInt ha]
      omega
  · exact Or.inr (Or.inl (Int32.lt_iff_toInt_lt.mp h))
section SimC
variable {T : xS} {G : gS} {A : AA} {k : Nat}
theorem g75n {a : Nat} (ok : OkA k A) (h : RC A T G) (ha : a < 2 ^ 31) : Ev (fun n => G75 n (nI a) T) (b2i (decide (a < A.2.2.1.1 0 0)), T) := by
  refine ev_succ (fun n => G75e0 n ..) ?_
  have hb := ok.2.2.2.1.1.1
  have hc : T.1 89 0 = nI (A.2.2.1.1 0 0) := h.2.2.1.1.1
  simp (disch := omega) only [G75b0, L0, L1, L2, L3, L4, L5, L6, L7, L8, L9, L10, L11, L12, L13, L16, L20, L31, L32, L40, L48, L57, L59, L60, L61, L91, L93, L97, L99, L100, L102, L103, L114, L122, L255, L300, L400, L402, L999, L2280, L2500, L99999, L63, L1431655765, L858993459, L252645135, ic_ge, ic_gt, ic_le, ic_lt, ic_eq, ic_ne, if_lt, if_ge, if_gt, if_le, if_eq, if_ne, if_lt_zI, if_ge_zI, ic_ne_m1, ic_eq_m1, ic_nn_m1, ic_ee_m1, if_ne_b2i, if_eq_b2i, b2i_z, decide_eq_true_eq, decide_true, decide_false, Bool.not_eq_true, Bool.not_eq_true', Bool.not_true, Bool.not_false, decide_eq_false_iff_not, Bool.false_eq_true, not_false_eq_true, not_true_eq_false, if_true, if_false, ↓reduceIte, eq_self, Option.bind_some, Bool.true_and, Bool.false_and, Bool.and_true, Bool.and_false, nI_add, nI_subN, nI_clamp, gdF, gdF2, gdP, gdP2, zI_cl, zI_s, Lm1, hc]
  by_cases e : A.2.2.1.1 0 0 ≤ a
  · have e' : ¬ a < A.2.2.1.1 0 0 := by omega
    simp only [e, e', decide_eq_true_eq, decide_true, decide_false, Bool.not_eq_true, Bool.not_eq_true', Bool.not_true, Bool.not_false, decide_eq_false_iff_not, Bool.false_eq_true, not_false_eq_true, not_true_eq_false, if_true, if_false, ↓reduceIte, eq_self, Option.bind_some, Bool.true_and, Bool.false_and, Bool.and_true, Bool.and_false]
    exact ev_ret
  · have e' : a < A.2.2.1.1 0 0 := by omega
    simp only [e, e', decide_eq_true_eq, decide_true, decide_false, Bool.not_eq_true, Bool.not_eq_true', Bool.not_true, Bool.not_false, decide_eq_false_iff_not, Bool.false_eq_true, not_false_eq_true, not_true_eq_false, if_true, if_false, ↓reduceIte, eq_self, Option.bind_some, Bool.true_and, Bool.false_and, Bool.and_true, Bool.and_false]
    exact ev_ret
theorem g75m {x : Int32} (hx : x < 0) : Ev (fun n => G75 n x T) (b2i false, T) := by
  refine ev_succ (fun n => G75e0 n ..) ?_
  simp only [G75b0, (neg_if hx).1, decide_eq_true_eq, decide_true, decide_false, Bool.not_eq_true, Bool.not_eq_true', Bool.not_true, Bool.not_false, decide_eq_false_iff_not, Bool.false_eq_true, not_false_eq_true, not_true_eq_false, if_true, if_false, ↓reduceIte, eq_self, Option.bind_some, Bool.true_and, Bool.false_and, Bool.and_true, Bool.and_false]
  exact ev_ret
theorem g80n {a : Nat} (ok : OkA k A) (h : RC A T G) (ha : a < 2 ^ 31) : Ev (fun n => G80 n (nI a) T) (b2i (decide (a < A.2.2.1.2.1.1 0 1)), T) := by
  refine ev_succ (fun n => G80e0 n ..) ?_
  have hb := OkD_n ok.2.2.2.1
  have hc : T.1 95 1 = nI (A.2.2.1.2.1.1 0 1) := h.2.2.1.2.1.2.1
  simp (disch := omega) only [G80b0, L0, L1, L2, L3, L4, L5, L6, L7, L8, L9, L10, L11, L12, L13, L16, L20, L31, L32, L40, L48, L57, L59, L60, L61, L91, L93, L97, L99, L100, L102, L103, L114, L122, L255, L300, L400, L402, L999, L2280, L2500, L99999, L63, L1431655765, L858993459, L252645135, ic_ge, ic_gt, ic_le, ic_lt, ic_eq, ic_ne, if_lt, if_ge, if_gt, if_le, if_eq, if_ne, if_lt_zI, if_ge_zI, ic_ne_m1, ic_eq_m1, ic_nn_m1, ic_ee_m1, if_ne_b2i, if_eq_b2i, b2i_z, decide_eq_true_eq, decide_true, decide_false, Bool.not_eq_true, Bool.not_eq_true', Bool.not_true, Bool.not_false, decide_eq_false_iff_not, Bool.false_eq_true, not_false_eq_true, not_true_eq_false, if_true, if_false, ↓reduceIte, eq_self, Option.bind_some, Bool.true_and, Bool.false_and, Bool.and_true, Bool.and_false, nI_add, nI_subN, nI_clamp, gdF, gdF2, gdP, gdP2, zI_cl, zI_s, Lm1, hc]
  by_cases e : A.2.2.1.2.1.1 0 1 ≤ a
  · have e' : ¬ a < A.2.2.1.2.1.1 0 1 := by omega
    simp only [e, e', decide_eq_true_eq, decide_true, decide_false, Bool.not_eq_true, Bool.not_eq_true', Bool.not_true, Bool.not_false, decide_eq_false_iff_not, Bool.false_eq_true, not_false_eq_true, not_true_eq_false, if_true, if_false, ↓reduceIte, eq_self, Option.bind_some, Bool.true_and, Bool.false_and, Bool.and_true, Bool.and_false]
    exact ev_ret
  · have e' : a < A.2.2.1.2.1.1 0 1 := by omega
    simp only [e, e', decide_eq_true_eq, decide_true, decide_false, Bool.not_eq_true, Bool.not_eq_true', Bool.not_true, Bool.not_false, decide_eq_false_iff_not, Bool.false_eq_true, not_false_eq_true, not_true_eq_false, if_true, if_false, ↓reduceIte, eq_self, Option.bind_some, Bool.true_and, Bool.false_and, Bool.and_true, Bool.and_false]
    exact ev_ret
theorem g80m {x : Int32} (hx : x < 0) : Ev (fun n => G80 n x T) (b2i false, T) := by
  refine ev_succ (fun n => G80e0 n ..) ?_
  simp only [G80b0, (neg_if hx).1, decide_eq_true_eq, decide_true, decide_false, Bool.not_eq_true, Bool.not_eq_true', Bool.not_true, Bool.not_false, decide_eq_false_iff_not, Bool.false_eq_true, not_false_eq_true, not_true_eq_false, if_true, if_false, ↓reduceIte, eq_self, Option.bind_some, Bool.true_and, Bool.false_and, Bool.and_true, Bool.and_false]
  exact ev_ret
end SimC
section SimM
variable {S : mS} {A : AA} {k : Nat}
theorem f196n {a : Nat} (ok : OkA k A) (h : RM A S) (ha : a < 2 ^ 31) : Ev (fun n => F196 n (nI a) S) (b2i (decide (a < A.2.2.1.1 0 0)), S) := by
  refine ev_succ (fun n => F196e0 n ..) ?_
  have hb := ok.2.2.2.1.1.1
  have hc : S.2.1 1 0 = nI (A.2.2.1.1 0 0) := h.2.2.1.1.1
  simp only [F196b0, L1, hc, zI_sub]
  refine ev_bind (f172 S) ?_
  rw [inC' ha (by omega)]
  simp only [b2i_z, decide_eq_true_eq, decide_true, decide_false, Bool.not_eq_true, Bool.not_eq_true', Bool.not_true, Bool.not_false, decide_eq_false_iff_not, Bool.false_eq_true, not_false_eq_true, not_true_eq_false, if_true, if_false, ↓reduceIte, eq_self, Option.bind_some, Bool.true_and, Bool.false_and, Bool.and_true, Bool.and_false]
  exact ev_ret
theorem f196m {x : Int32} (hx : x < 0) : Ev (fun n => F196 n x S) (b2i false, S) := by
  refine ev_succ (fun n => F196e0 n ..) ?_
  simp only [F196b0]
  refine ev_bind (f172 S) ?_
  rw [inL_neg hx]
  simp only [b2i_z, decide_eq_true_eq, decide_true, decide_false, Bool.not_eq_true, Bool.not_eq_true', Bool.not_true, Bool.not_false, decide_eq_false_iff_not, Bool.false_eq_true, not_false_eq_true, not_true_eq_false, if_true, if_false, ↓reduceIte, eq_self, Option.bind_some, Bool.true_and, Bool.false_and, Bool.and_true, Bool.and_false]
  exact ev_ret
theorem f204n {a : Nat} (ok : OkA k A) (h : RM A S) (ha : a < 2 ^ 31) : Ev (fun n => F204 n (nI a) S) (b2i (decide (a < A.2.2.1.2.1.1 0 1)), S) := by
  refine ev_succ (fun n => F204e0 n ..) ?_
  have hb := OkD_n ok.2.2.2.1
  have hc : S.2.1 1 4 = nI (A.2.2.1.2.1.1 0 1) := h.2.2.1.2.1.1
  simp only [F204b0, L1, hc, zI_sub]
  refine ev_bind (f172 S) ?_
  rw [inC' ha (by omega)]
  simp only [b2i_z, decide_eq_true_eq, decide_true, decide_false, Bool.not_eq_true, Bool.not_eq_true', Bool.not_true, Bool.not_false, decide_eq_false_iff_not, Bool.false_eq_true, not_false_eq_true, not_true_eq_false, if_true, if_false, ↓reduceIte, eq_self, Option.bind_some, Bool.true_and, Bool.false_and, Bool.and_true, Bool.and_false]
  exact ev_ret
theorem f204m {x : Int32} (hx : x < 0) : Ev (fun n => F204 n x S) (b2i false, S) := by
  refine ev_succ (fun n => F204e0 n ..) ?_
  simp only [F204b0]
  refine ev_bind (f172 S) ?_
  rw [inL_neg hx]
  simp only [b2i_z, decide_eq_true_eq, decide_true, decide_false, Bool.not_eq_true, Bool.not_eq_true', Bool.not_true, Bool.not_false, decide_eq_false_iff_not, Bool.false_eq_true, not_false_eq_true, not_true_eq_false, if_true, if_false, ↓reduceIte, eq_self, Option.bind_some, Bool.true_and, Bool.false_and, Bool.and_true, Bool.and_false]
  exact ev_ret
end SimM
/-! end -/
theorem sm_end {k : Nat} {a : Int32} (A : AA) (ok : OkA k A) : ∃ r A', OkA (k + 1) A' ∧ CallT (fun n => G14 n a) A r A' ∧ CallM (fun n => F156 n a) A r A' := by
  have hL := ok.1
  have ok1 := OkA_s ok
  rcases i32_cases a with ⟨x, hx, rfl⟩ | hx
  · by_cases h : x ≤ A.1.1
    · refine ⟨nI x, ((x, A.1.2), A.2), ⟨by show x ≤ 400; omega, fun i hi => ok1.2.1 i (Nat.lt_of_lt_of_le hi h), ok1.2.2⟩, ?_, ?_⟩
      · intro T G hc
        refine ep_succ (fun n => G14e0 n ..) ?_
        have h1 := hc.1.1
        simp (disch := omega) only [G14b0, L0, L1, L2, L3, L4, L5, L6, L7, L8, L9, L10, L11, L12, L13, L16, L20, L31, L32, L40, L48, L57, L59, L60, L61, L91, L93, L97, L99, L100, L102, L103, L114, L122, L255, L300, L400, L402, L999, L2280, L2500, L99999, L63, L1431655765, L858993459, L252645135, ic_ge, ic_gt, ic_le, ic_lt, ic_eq, ic_ne, if_lt, if_ge, if_gt, if_le, if_eq, if_ne, if_lt_zI, if_ge_zI, ic_ne_m1, ic_eq_m1, ic_nn_m1, ic_ee_m1, if_ne_b2i, if_eq_b2i, b2i_z, decide_eq_true_eq, decide_true, decide_false, Bool.not_eq_true, Bool.not_eq_true', Bool.not_true, Bool.not_false, decide_eq_false_iff_not, Bool.false_eq_true, not_false_eq_true, not_true_eq_false, if_true, if_false, ↓reduceIte, eq_self, Option.bind_some, Bool.true_and, Bool.false_and, Bool.and_true, Bool.and_false, nI_add, nI_subN, nI_clamp, gdF, gdF2, gdP, gdP2, zI_cl, zI_s, Lm1, h1, h]
        refine ep_ret ⟨rfl, RC_keep hc rfl ⟨x_rIe, fun i hi => hc.1.2 i (Nat.lt_of_lt_of_le hi h)⟩ (by rw [x_rIn (by decide)]) (fun q hq => ⟨x_rIn (by omega), rfl⟩) (fun q hq => rfl)⟩
      · intro S hm
        refine ep_succ (fun n => F156e0 n ..) ?_
        have h1 := hm.1.1
        simp (disch := omega) only [F156b0, L0, L1, L2, L3, L4, L5, L6, L7, L8, L9, L10, L11, L12, L13, L16, L20, L31, L32, L40, L48, L57, L59, L60, L61, L91, L93, L97, L99, L100, L102, L103, L114, L122, L255, L300, L400, L402, L999, L2280, L2500, L99999, L63, L1431655765, L858993459, L252645135, ic_ge, ic_gt, ic_le, ic_lt, ic_eq, ic_ne, if_lt, if_ge, if_gt, if_le, if_eq, if_ne, if_lt_zI, if_ge_zI, ic_ne_m1, ic_eq_m1, ic_nn_m1, ic_ee_m1, if_ne_b2i, if_eq_b2i, b2i_z, decide_eq_true_eq, decide_true, decide_false, Bool.not_eq_true, Bool.not_eq_true', Bool.not_true, Bool.not_false, decide_eq_false_iff_not, Bool.false_eq_true, not_false_eq_true, not_true_eq_false, if_true, if_false, ↓reduceIte, eq_self, Option.bind_some, Bool.true_and, Bool.false_and, Bool.and_true, Bool.and_false, nI_add, nI_subN, nI_clamp, gdF, gdF2, gdP, gdP2, zI_cl, zI_s, Lm1, h1, h]
        refine ep_ret ⟨rfl, RM_keep ok hm rfl rfl ⟨rfl, rfl, rfl⟩ ⟨m_rIe, fun i hi => hm.1.2 i (Nat.lt_of_lt_of_le hi h)⟩ hm.2.2.1.2.2.2.2.1 hm.2.2.1.2.2.2.2.2 ⟨m_rIn (by decide), m_rIn (by decide), m_rIn (by decide)⟩ (fun k i hk => rfl)⟩
    · refine ⟨zI 0, A, ok1, callT_id (fun T G hc => ?_), callM_id (fun S hm => ?_)⟩
      · refine ev_succ (fun n => G14e0 n ..) ?_
        have h1 := hc.1.1
        simp (disch := omega) only [G14b0, L0, L1, L2, L3, L4, L5, L6, L7, L8, L9, L10, L11, L12, L13, L16, L20, L31, L32, L40, L48, L57, L59, L60, L61, L91, L93, L97, L99, L100, L102, L103, L114, L122, L255, L300, L400, L402, L999, L2280, L2500, L99999, L63, L1431655765, L858993459, L252645135, ic_ge, ic_gt, ic_le, ic_lt, ic_eq, ic_ne, if_lt, if_ge, if_gt, if_le, if_eq, if_ne, if_lt_zI, if_ge_zI, ic_ne_m1, ic_eq_m1, ic_nn_m1, ic_ee_m1, if_ne_b2i, if_eq_b2i, b2i_z, decide_eq_true_eq, decide_true, decide_false, Bool.not_eq_true, Bool.not_eq_true', Bool.not_true, Bool.not_false, decide_eq_false_iff_not, Bool.false_eq_true, not_false_eq_true, not_true_eq_false, if_true, if_false, ↓reduceIte, eq_self, Option.bind_some, Bool.true_and, Bool.false_and, Bool.and_true, Bool.and_false, nI_add, nI_subN, nI_clamp, gdF, gdF2, gdP, gdP2, zI_cl, zI_s, Lm1, h1, h]
        exact ev_ret
      · refine ev_succ (fun n => F156e0 n ..) ?_
        have h1 := hm.1.1
        simp (disch := omega) only [F156b0, L0, L1, L2, L3, L4, L5, L6, L7, L8, L9, L10, L11, L12, L13, L16, L20, L31, L32, L40, L48, L57, L59, L60, L61, L91, L93, L97, L99, L100, L102, L103, L114, L122, L255, L300, L400, L402, L999, L2280, L2500, L99999, L63, L1431655765, L858993459, L252645135, ic_ge, ic_gt, ic_le, ic_lt, ic_eq, ic_ne, if_lt, if_ge, if_gt, if_le, if_eq, if_ne, if_lt_zI, if_ge_zI, ic_ne_m1, ic_eq_m1, ic_nn_m1, ic_ee_m1, if_ne_b2i, if_eq_b2i, b2i_z, decide_eq_true_eq, decide_true, decide_false, Bool.not_eq_true, Bool.not_eq_true', Bool.not_true, Bool.not_false, decide_eq_false_iff_not, Bool.false_eq_true, not_false_eq_true, not_true_eq_false, if_true, if_false, ↓reduceIte, eq_self, Option.bind_some, Bool.true_and, Bool.false_and, Bool.and_true, Bool.and_false, nI_add, nI_subN, nI_clamp, gdF, gdF2, gdP, gdP2, zI_cl, zI_s, Lm1, h1, h]
        exact ev_ret
  · refine ⟨zI 0, A, ok1, callT_id (fun T G hc => ?_), callM_id (fun S hm => ?_)⟩
    · refine ev_succ (fun n => G14e0 n ..) ?_
      simp only [G14b0, (neg_if hx).1, decide_eq_true_eq, decide_true, decide_false, Bool.not_eq_true, Bool.not_eq_true', Bool.not_true, Bool.not_false, decide_eq_false_iff_not, Bool.false_eq_true, not_false_eq_true, not_true_eq_false, if_true, if_false, ↓reduceIte, eq_self, Option.bind_some, Bool.true_and, Bool.false_and, Bool.and_true, Bool.and_false, L1, Lm1]
      exact ev_ret
    · refine ev_succ (fun n => F156e0 n ..) ?_
      simp only [F156b0, (neg_if hx).1, decide_eq_true_eq, decide_true, decide_false, Bool.not_eq_true, Bool.not_eq_true', Bool.not_true, Bool.not_false, decide_eq_false_iff_not, Bool.false_eq_true, not_false_eq_true, not_true_eq_false, if_true, if_false, ↓reduceIte, eq_self, Option.bind_some, Bool.true_and, Bool.false_and, Bool.and_true, Bool.and_false, L1, Lm1]
      exact ev_ret
/-! seed -/
theorem sm_seed {k : Nat} {a : Int32} (A : AA) (ok : OkA k A) : ∃ r A', OkA (k + 1) A' ∧ CallT (fun n => G143 n a) A r A' ∧ CallM (fun n => F260 n a) A r A' := by
  have ok1 := OkA_s ok
  rcases i32_cases a with ⟨x, hx, rfl⟩ | hx
  · refine ⟨nI A.2.2.1.2.2.2.2, (A.1, A.2.1, (A.2.2.1.1, A.2.2.1.2.1, A.2.2.1.2.2.1, A.2.2.1.2.2.2.1, x), A.2.2.2), ⟨ok1.1, ok1.2.1, ok1.2.2.1, ⟨ok1.2.2.2.1.1, ok1.2.2.2.1.2.1, ok1.2.2.2.1.2.2.1, ok1.2.2.2.1.2.2.2.1, ok1.2.2.2.1.2.2.2.2.1, hx⟩, ok1.2.2.2.2⟩, ?_, ?_⟩
    · intro T G hc
      refine ep_succ (fun n => G143e0 n ..) ?_
      have h4 : T.1 88 4 = nI A.2.2.1.2.2.2.2 := hc.2.2.1.2.2.2.2
      simp (disch := omega) only [G143b0, L0, L1, L2, L3, L4, L5, L6, L7, L8, L9, L10, L11, L12, L13, L16, L20, L31, L32, L40, L48, L57, L59, L60, L61, L91, L93, L97, L99, L100, L102, L103, L114, L122, L255, L300, L400, L402, L999, L2280, L2500, L99999, L63, L1431655765, L858993459, L252645135, ic_ge, ic_gt, ic_le, ic_lt, ic_eq, ic_ne, if_lt, if_ge, if_gt, if_le, if_eq, if_ne, if_lt_zI, if_ge_zI, ic_ne_m1, ic_eq_m1, ic_nn_m1, ic_ee_m1, if_ne_b2i, if_eq_b2i, b2i_z, decide_eq_true_eq, decide_true, decide_false, Bool.not_eq_true, Bool.not_eq_true', Bool.not_true, Bool.not_false, decide_eq_false_iff_not, Bool.false_eq_true, not_false_eq_true, not_true_eq_false, if_true, if_false, ↓reduceIte, eq_self, Option.bind_some, Bool.true_and, Bool.false_and, Bool.and_true, Bool.and_false, nI_add, nI_subN, nI_clamp, gdF, gdF2, gdP, gdP2, zI_cl, zI_s, Lm1, h4]
      refine ep_ret ⟨rfl, RC_f hc (Or.inr rfl) rfl rfl rfl ⟨rfl, rfl, rfl⟩ ?_ x_rIe⟩
      rw [x_rIi (by decide)]
      exact hc.2.2.1.2.2.2.1
    · intro S hm
      refine ep_succ (fun n => F260e0 n ..) ?_
      have h7 : S.2.1 1 7 = nI A.2.2.1.2.2.2.2 := hm.2.2.1.2.2.2.2.2
      simp (disch := omega) only [F260b0, L0, L1, L2, L3, L4, L5, L6, L7, L8, L9, L10, L11, L12, L13, L16, L20, L31, L32, L40, L48, L57, L59, L60, L61, L91, L93, L97, L99, L100, L102, L103, L114, L122, L255, L300, L400, L402, L999, L2280, L2500, L99999, L63, L1431655765, L858993459, L252645135, ic_ge, ic_gt, ic_le, ic_lt, ic_eq, ic_ne, if_lt, if_ge, if_gt, if_le, if_eq, if_ne, if_lt_zI, if_ge_zI, ic_ne_m1, ic_eq_m1, ic_nn_m1, ic_ee_m1, if_ne_b2i, if_eq_b2i, b2i_z, decide_eq_true_eq, decide_true, decide_false, Bool.not_eq_true, Bool.not_eq_true', Bool.not_true, Bool.not_false, decide_eq_false_iff_not, Bool.false_eq_true, not_false_eq_true, not_true_eq_false, if_true, if_false, ↓reduceIte, eq_self, Option.bind_some, Bool.true_and, Bool.false_and, Bool.and_true, Bool.and_false, nI_add, nI_subN, nI_clamp, gdF, gdF2, gdP, gdP2, zI_cl, zI_s, Lm1, h7]
      refine ep_ret ⟨rfl, RM_keep ok hm rfl rfl ⟨rfl, rfl, rfl⟩ ⟨hm.1.1, fun i hi => ?_⟩ ?_ m_rAe ⟨rfl, rfl, rfl⟩ (fun k i hk => ?_)⟩
      · rw [m_rAn (by decide)]
        exact hm.1.2 i hi
      · rw [m_rAi (by decide)]
        exact hm.2.2.1.2.2.2.2.1
      · by_cases e : k = 1
        · subst e
          exact m_rAi (by omega)
        · rw [m_rAn e]
  · refine ⟨zI 0, A, ok1, callT_id (fun T G hc => ?_), callM_id (fun S hm => ?_)⟩
    · refine ev_succ (fun n => G143e0 n ..) ?_
      simp only [G143b0, (neg_if hx).2, decide_eq_true_eq, decide_true, decide_false, Bool.not_eq_true, Bool.not_eq_true', Bool.not_true, Bool.not_false, decide_eq_false_iff_not, Bool.false_eq_true, not_false_eq_true, not_true_eq_false, if_true, if_false, ↓reduceIte, eq_self, Option.bind_some, Bool.true_and, Bool.false_and, Bool.and_true, Bool.and_false, L1, Lm1]
      exact ev_ret
    · refine ev_succ (fun n => F260e0 n ..) ?_
      simp only [F260b0, (neg_if hx).2, decide_eq_true_eq, decide_true, decide_false, Bool.not_eq_true, Bool.not_eq_true', Bool.not_true, Bool.not_false, decide_eq_false_iff_not, Bool.false_eq_true, not_false_eq_true, not_true_eq_false, if_true, if_false, ↓reduceIte, eq_self, Option.bind_some, Bool.true_and, Bool.false_and, Bool.and_true, Bool.and_false, L1, Lm1]
      exact ev_ret
/-! force -/
theorem i32_z (x : Int32) : (∃ f : Nat, f < 2 ^ 31 ∧ x = zI f) ∨ x = nI (2 ^ 31 - 1) ∨ x < zI 0 := by
  rcases i32_c x with ⟨a, ha, e⟩ | e | h
  · exact Or.inl ⟨a + 1, by omega, by rw [zI_s]; exact e⟩
  · exact Or.inr (Or.inl e)
  · by_cases h2 : x = zI 0
    · exact Or.inl ⟨0, by decide, h2⟩
    · refine Or.inr (Or.inr ?_)
      rw [Int32.lt_iff_toInt_lt] at *
      have h3 : x.toInt ≠ (zI 0).toInt := fun e => h2 (Int32.toInt_inj.mp e)
      rw [zI_toInt (by decide)] at *
      have h0 : (0 : Int32).toInt = 0 := by decide
      omega
theorem ic_lt_zz {a b : Nat} (ha : a < 2 ^ 31) (hb : b < 2 ^ 31) : am_ic .lt (zI a) (zI b) = decide (a < b) := by
  show decide (zI a < zI b) = _
  refine decide_eq_decide.mpr ?_
  rw [Int32.lt_iff_toInt_lt, zI_toInt ha, zI_toInt hb]
  omega
theorem ic_lt_zn {a b : Nat} (ha : a < 2 ^ 31) (hb : b < 2 ^ 31 - 1) : am_ic .lt (zI a) (nI b) = decide (a ≤ b) := by
  rw [← zI_s, ic_lt_zz ha (by omega)]
  exact decide_eq_decide.mpr (by omega)
theorem sm_force {k : Nat} {a : Int32} (A : AA) (ok : OkA k A) : ∃ r A', OkA (k + 1) A' ∧ CallT (fun n => G73 n a) A r A' ∧ CallM (fun n => F194 n a) A r A' := by
  have ok1 := OkA_s ok
  have h6 := ok.2.2.1
  have hno : (am_ic .lt a (zI 0) = true ∨ am_ic .lt a (nI A.2.1.1) = false) → inL a.toInt64 (-1) (zI A.2.1.1).toInt64 = false → ∃ r A', OkA (k + 1) A' ∧ CallT (fun n => G73 n a) A r A' ∧ CallM (fun n => F194 n a) A r A' := by
    intro h1 h2
    refine ⟨-2, A, ok1, callT_id (fun T G hc => ?_), callM_id (fun S hm => ?_)⟩
    · refine ev_succ (fun n => G73e0 n ..) ?_
      have h4 := hc.2.1.1
      rcases h1 with h1 | h1
      · simp only [G73b0, L1, Lm1, h1, decide_eq_true_eq, decide_true, decide_false, Bool.not_eq_true, Bool.not_eq_true', Bool.not_true, Bool.not_false, decide_eq_false_iff_not, Bool.false_eq_true, not_false_eq_true, not_true_eq_false, if_true, if_false, ↓reduceIte, eq_self, Option.bind_some, Bool.true_and, Bool.false_and, Bool.and_true, Bool.and_false]
        exact ev_ret
      · by_cases h0 : am_ic .lt a (zI 0) = true
        · simp only [G73b0, L1, Lm1, h0, decide_eq_true_eq, decide_true, decide_false, Bool.not_eq_true, Bool.not_eq_true', Bool.not_true, Bool.not_false, decide_eq_false_iff_not, Bool.false_eq_true, not_false_eq_true, not_true_eq_false, if_true, if_false, ↓reduceIte, eq_self, Option.bind_some, Bool.true_and, Bool.false_and, Bool.and_true, Bool.and_false]
          exact ev_ret
        · simp only [G73b0, L1, Lm1, h0, h4, h1, decide_eq_true_eq, decide_true, decide_false, Bool.not_eq_true, Bool.not_eq_true', Bool.not_true, Bool.not_false, decide_eq_false_iff_not, Bool.false_eq_true, not_false_eq_true, not_true_eq_false, if_true, if_false, ↓reduceIte, eq_self, Option.bind_some, Bool.true_and, Bool.false_and, Bool.and_true, Bool.and_false]
          exact ev_ret
    · refine ev_succ (fun n => F194e0 n ..) ?_
      have h4 := hm.2.1.1
      simp only [F194b0, L1, h4, zI_sub]
      refine ev_bind (f172 S) ?_
      rw [h2]
      simp only [if_ne_b2i, decide_eq_true_eq, decide_true, decide_false, Bool.not_eq_true, Bool.not_eq_true', Bool.not_true, Bool.not_false, decide_eq_false_iff_not, Bool.false_eq_true, not_false_eq_true, not_true_eq_false, if_true, if_false, ↓reduceIte, eq_self, Option.bind_some, Bool.true_and, Bool.false_and, Bool.and_true, Bool.and_false]
      exact ev_ret
  have em : (-1 : Int64) = (zI 0).toInt64 := by decide
  rcases i32_z a with ⟨f, hf, rfl⟩ | rfl | hx
  · by_cases h : f ≤ A.2.1.1
    · refine ⟨zI A.2.2.1.2.2.2.1, (A.1, A.2.1, (A.2.2.1.1, A.2.2.1.2.1, A.2.2.1.2.2.1, f, A.2.2.1.2.2.2.2), A.2.2.2), ⟨ok1.1, ok1.2.1, ok1.2.2.1, ⟨ok1.2.2.2.1.1, ok1.2.2.2.1.2.1, ok1.2.2.2.1.2.2.1, ok1.2.2.2.1.2.2.2.1, h, ok1.2.2.2.1.2.2.2.2.2⟩, ok1.2.2.2.2⟩, ?_, ?_⟩
      · intro T G hc
        refine ep_succ (fun n => G73e0 n ..) ?_
        have h4 := hc.2.1.1
        have h3 : T.1 88 3 = zI A.2.2.1.2.2.2.1 := hc.2.2.1.2.2.2.1
        have hz : ¬ f < 0 := by omega
        simp (disch := omega) only [G73b0, L1, Lm1, ic_lt_zz, ic_lt_zn, h4, h3, h, hz, decide_eq_true_eq, decide_true, decide_false, Bool.not_eq_true, Bool.not_eq_true', Bool.not_true, Bool.not_false, decide_eq_false_iff_not, Bool.false_eq_true, not_false_eq_true, not_true_eq_false, if_true, if_false, ↓reduceIte, eq_self, Option.bind_some, Bool.true_and, Bool.false_and, Bool.and_true, Bool.and_false]
        refine ep_ret ⟨rfl, RC_f hc (Or.inl rfl) rfl rfl rfl ⟨rfl, rfl, rfl⟩ x_rIe ?_⟩
        rw [x_rIi (by decide)]
        exact hc.2.2.1.2.2.2.2
      · intro S hm
        refine ep_succ (fun n => F194e0 n ..) ?_
        have h4 := hm.2.1.1
        have h8 : S.2.1 1 8 = zI A.2.2.1.2.2.2.1 := hm.2.2.1.2.2.2.2.1
        simp only [F194b0, L1, h4, zI_sub]
        refine ep_bv (f172 S) ?_
        rw [em, inL_z hf (by decide) (by omega), decide_eq_true (show 0 ≤ f ∧ f ≤ A.2.1.1 by omega)]
        simp only [if_ne_b2i, h8, decide_eq_true_eq, decide_true, decide_false, Bool.not_eq_true, Bool.not_eq_true', Bool.not_true, Bool.not_false, decide_eq_false_iff_not, Bool.false_eq_true, not_false_eq_true, not_true_eq_false, if_true, if_false, ↓reduceIte, eq_self, Option.bind_some, Bool.true_and, Bool.false_and, Bool.and_true, Bool.and_false]
        refine ep_ret ⟨rfl, RM_keep ok hm rfl rfl ⟨rfl, rfl, rfl⟩ ⟨hm.1.1, fun i hi => ?_⟩ m_rAe ?_ ⟨rfl, rfl, rfl⟩ (fun k i hk => ?_)⟩
        · rw [m_rAn (by decide)]
          exact hm.1.2 i hi
        · rw [m_rAi (by decide)]
          exact hm.2.2.1.2.2.2.2.2
        · by_cases e : k = 1
          · subst e
            exact m_rAi (by omega)
          · rw [m_rAn e]
    · refine hno (Or.inr ?_) ?_
      · rw [ic_lt_zn hf (by omega), decide_eq_false h]
      · rw [em, inL_z hf (by decide) (by omega)]
        exact decide_eq_false (by omega)
  · refine hno (Or.inr ?_) ?_
    · rw [ic_lt (by decide) (by omega)]
      exact decide_eq_false (by omega)
    · unfold inL
      have : decide ((zI A.2.1.1).toInt64 < (nI (2 ^ 31 - 1)).toInt64) = true := by
        refine decide_eq_true ?_
        rw [Int64.lt_iff_toInt_lt, Int32.toInt_toInt64, Int32.toInt_toInt64, nI_toInt (by decide), zI_toInt (by omega)]
        omega
      rw [this]
      simp
  · refine hno (Or.inl (decide_eq_true hx)) ?_
    unfold inL
    have : decide (a.toInt64 < -1) = true := by
      refine decide_eq_true ?_
      rw [em, Int64.lt_iff_toInt_lt, Int32.toInt_toInt64, Int32.toInt_toInt64]
      exact Int32.lt_iff_toInt_lt.mp hx
    rw [this]
    rfl
