/-! arguments, in one word each; put -/
theorem arg_T (x : Int32) : (∃ t, t < 2 ^ 31 ∧ x = nI t ∧ isTx t = true) ∨ ((∀ T : xS, Ev (fun n => G102 n x T) (nI 0, T)) ∧ (∀ S : mS, Ev (fun n => F231 n x S) (b2i false, S))) := by
  rcases i32_cases x with ⟨t, ht, rfl⟩ | ht
  · by_cases hT : isTx t = true
    · exact Or.inl ⟨t, ht, rfl, hT⟩
    · refine Or.inr ⟨fun T => ?_, fun S => ?_⟩
      · have := g102 ht T
        rw [if_neg hT] at this
        exact this
      · have := f231 ht S
        rw [Bool.eq_false_iff.mpr hT] at this
        exact this
  · exact Or.inr ⟨fun T => g102n ht T, fun S => f231n ht S⟩
theorem arg_C {k : Nat} {A : AA} (ok : OkA k A) (x : Int32) : (∃ c, c < A.2.2.1.1 0 0 ∧ x = nI c) ∨ ((∀ T G, RC A T G → Ev (fun n => G75 n x T) (b2i false, T)) ∧ (∀ S, RM A S → Ev (fun n => F196 n x S) (b2i false, S))) := by
  rcases i32_cases x with ⟨c, hc, rfl⟩ | hc
  · by_cases h : c < A.2.2.1.1 0 0
    · exact Or.inl ⟨c, h, rfl⟩
    · refine Or.inr ⟨fun T G hR => ?_, fun S hS => ?_⟩
      · have := g75n ok hR hc
        rw [decide_eq_false h] at this
        exact this
      · have := f196n ok hS hc
        rw [decide_eq_false h] at this
        exact this
  · exact Or.inr ⟨fun T G hR => g75m hc, fun S hS => f196m hc⟩
theorem arg_N (x : Int32) : (∃ m, 1 ≤ m ∧ m ≤ 60 ∧ x = nI m) ∨ ((∀ T : xS, Ev (fun n => G125 n x T) (nI 0, T)) ∧ inL x.toInt64 1 60 = false) := by
  rcases i32_cases x with ⟨m, hm, rfl⟩ | hm
  · by_cases h : 1 ≤ m ∧ m ≤ 60
    · exact Or.inl ⟨m, h.1, h.2, rfl⟩
    · refine Or.inr ⟨fun T => ?_, ?_⟩
      · refine ev_succ (fun n => G125e0 n ..) ?_
        by_cases h1 : m < 1
        · simp (disch := omega) only [G125b0, L0, L1, L2, L3, L4, L5, L6, L7, L8, L9, L10, L11, L12, L13, L16, L20, L31, L32, L40, L48, L57, L59, L60, L61, L91, L93, L97, L99, L100, L102, L103, L114, L122, L255, L300, L400, L402, L999, L2280, L2500, L99999, L63, L1431655765, L858993459, L252645135, ic_ge, ic_gt, ic_le, ic_lt, ic_eq, ic_ne, if_lt, if_ge, if_gt, if_le, if_eq, if_ne, if_lt_zI, if_ge_zI, ic_ne_m1, ic_eq_m1, ic_nn_m1, ic_ee_m1, if_ne_b2i, if_eq_b2i, b2i_z, decide_eq_true_eq, decide_true, decide_false, Bool.not_eq_true, Bool.not_eq_true', Bool.not_true, Bool.not_false, decide_eq_false_iff_not, Bool.false_eq_true, not_false_eq_true, not_true_eq_false, if_true, if_false, ↓reduceIte, eq_self, Option.bind_some, Bool.true_and, Bool.false_and, Bool.and_true, Bool.and_false, nI_add, nI_subN, nI_clamp, gdF, gdF2, gdP, gdP2, zI_cl, zI_s, Lm1, nI_n0, zI_n0, leF, or_false, false_or, or_self, h1]
          exact ev_ret
        · have h2 : 60 < m := by omega
          simp (disch := omega) only [G125b0, L0, L1, L2, L3, L4, L5, L6, L7, L8, L9, L10, L11, L12, L13, L16, L20, L31, L32, L40, L48, L57, L59, L60, L61, L91, L93, L97, L99, L100, L102, L103, L114, L122, L255, L300, L400, L402, L999, L2280, L2500, L99999, L63, L1431655765, L858993459, L252645135, ic_ge, ic_gt, ic_le, ic_lt, ic_eq, ic_ne, if_lt, if_ge, if_gt, if_le, if_eq, if_ne, if_lt_zI, if_ge_zI, ic_ne_m1, ic_eq_m1, ic_nn_m1, ic_ee_m1, if_ne_b2i, if_eq_b2i, b2i_z, decide_eq_true_eq, decide_true, decide_false, Bool.not_eq_true, Bool.not_eq_true', Bool.not_true, Bool.not_false, decide_eq_false_iff_not, Bool.false_eq_true, not_false_eq_true, not_true_eq_false, if_true, if_false, ↓reduceIte, eq_self, Option.bind_some, Bool.true_and, Bool.false_and, Bool.and_true, Bool.and_false, nI_add, nI_subN, nI_clamp, gdF, gdF2, gdP, gdP2, zI_cl, zI_s, Lm1, nI_n0, zI_n0, leF, or_false, false_or, or_self, h1, h2]
          exact ev_ret
      · have := inL_nI (a := m) (lo := 1) (hi := 60) hm (by decide) (by decide)
        rw [decide_eq_false h] at this
        exact this
  · refine Or.inr ⟨fun T => ?_, ?_⟩
    · refine ev_succ (fun n => G125e0 n ..) ?_
      have h1 := nI_neg hm
      simp only [G125b0, h1, decide_eq_true_eq, decide_true, decide_false, Bool.not_eq_true, Bool.not_eq_true', Bool.not_true, Bool.not_false, decide_eq_false_iff_not, Bool.false_eq_true, not_false_eq_true, not_true_eq_false, if_true, if_false, ↓reduceIte, eq_self, Option.bind_some, Bool.true_and, Bool.false_and, Bool.and_true, Bool.and_false, L0]
      exact ev_ret
    · unfold inL
      have : decide (x.toInt64 < 1) = true := by
        refine decide_eq_true ?_
        rw [Int64.lt_iff_toInt_lt, Int32.toInt_toInt64]
        have h2 := Int32.lt_iff_toInt_lt.mp hm
        have h3 : (1 : Int64).toInt = 1 := by decide
        have h4 : (0 : Int32).toInt = 0 := by decide
        omega
      rw [this]
      rfl
theorem arg_Ny {m : Nat} (h1 : 1 ≤ m) (h2 : m ≤ 60) : (∀ T : xS, Ev (fun n => G125 n (nI m) T) (nI 1, T)) ∧ inL (nI m).toInt64 1 60 = true := by
  refine ⟨fun T => ?_, ?_⟩
  · refine ev_succ (fun n => G125e0 n ..) ?_
    have a : ¬ m < 1 := by omega
    have b : ¬ 60 < m := by omega
    simp (disch := omega) only [G125b0, L0, L1, L2, L3, L4, L5, L6, L7, L8, L9, L10, L11, L12, L13, L16, L20, L31, L32, L40, L48, L57, L59, L60, L61, L91, L93, L97, L99, L100, L102, L103, L114, L122, L255, L300, L400, L402, L999, L2280, L2500, L99999, L63, L1431655765, L858993459, L252645135, ic_ge, ic_gt, ic_le, ic_lt, ic_eq, ic_ne, if_lt, if_ge, if_gt, if_le, if_eq, if_ne, if_lt_zI, if_ge_zI, ic_ne_m1, ic_eq_m1, ic_nn_m1, ic_ee_m1, if_ne_b2i, if_eq_b2i, b2i_z, decide_eq_true_eq, decide_true, decide_false, Bool.not_eq_true, Bool.not_eq_true', Bool.not_true, Bool.not_false, decide_eq_false_iff_not, Bool.false_eq_true, not_false_eq_true, not_true_eq_false, if_true, if_false, ↓reduceIte, eq_self, Option.bind_some, Bool.true_and, Bool.false_and, Bool.and_true, Bool.and_false, nI_add, nI_subN, nI_clamp, gdF, gdF2, gdP, gdP2, zI_cl, zI_s, Lm1, nI_n0, zI_n0, leF, or_false, false_or, or_self, a, b]
    exact ev_ret
  · have := inL_nI (a := m) (lo := 1) (hi := 60) (by omega) (by decide) (by decide)
    rw [decide_eq_true ⟨h1, h2⟩] at this
    exact this
theorem arg_W (x : Int32) {v : Nat} (hv : v < 2 ^ 31) : (∃ j, j ≤ v ∧ x = nI j) ∨ ((am_if .lt x = true ∨ (am_if .lt x = false ∧ am_ic .le x (nI v) = false)) ∧ inL x.toInt64 0 (lN v) = false) := by
  rcases i32_cases x with ⟨j, hj, rfl⟩ | hj
  · by_cases h : j ≤ v
    · exact Or.inl ⟨j, h, rfl⟩
    · refine Or.inr ⟨Or.inr ⟨if_lt hj, ?_⟩, ?_⟩
      · rw [ic_le hj hv]
        exact decide_eq_false h
      · rw [inK hj hv]
        exact decide_eq_false h
  · exact Or.inr ⟨Or.inl (neg_if hj).1, inL_neg hj⟩
/-- a number, or that there is none -/
def oF : Option Nat → Int32
  | none => -2
  | some x => nI x
def putA (hit : Nat → Bool) : Nat → Nat → Option Nat → Nat → Option Nat × Nat
  | 0, _, f, m => (f, m)
  | k + 1, j, f, m => if hit j = true then putA hit k (j + 1) (if m = 0 then some j else f) (m + 1) else putA hit k (j + 1) f m
theorem cf_add {w : AW} {c t d f : Nat} (hf : f ≠ 0) : cf (addA w c t d) f = cf w f := by
  unfold cf
  rw [addA_n, ctF_s1, (addA_1 (w := w) (c := c) (t := t) (d := d)).2.2.2.1, show decide (0 = f) = false from decide_eq_false (fun e => hf e.symm)]
  show ctF _ _ 0 + 0 = _
  rw [Nat.add_zero]
  exact ctF_eq _ _ (fun i _ hi => by rw [addA_o (by decide) (by omega)])
theorem DS_add {T0 T T' : xS} {wb : Nat} {lo : Option Nat} {ln : Nat} {b : AB} {l : LW} {cc : Nat → Int32} {w : AW} {c t d : Nat} (h : DS T0 T wb lo ln b l cc w) (hn : w.1 0 1 ≤ 12) (ht : isTx t = true) (hc : c < b 0 0) (hd : d ≤ 9) (c1 : CW T' wb (addA w c t d)) (c2 : FrW wb T T') (h9 : T'.1 109 = T.1 109) : DS T0 T' wb lo ln b l cc (addA w c t d) := by
  refine ⟨DC_fr h.1 (FrW_S c2), c1, addA_Ok h.2.2.1 hn ht hc hd, ?_, FrS_tr h.2.2.2.2 (FrW_S c2)⟩
  obtain ⟨k1, k2, k3⟩ := h.2.2.2.1
  exact ⟨by rw [h9, cf_add (by decide)]; exact k1, by rw [h9, cf_add (by decide)]; exact k2, by rw [h9, cf_add (by decide)]; exact k3⟩
def hitA (A : AA) (t c m j : Nat) : Bool := decide ((dysA A.2.2.1.1 (lawA A.2.1.2 A.2.2.1.2.2.2.1) m (addA A.2.2.1.2.1 j t 0)).1 1 (A.2.2.1.2.1.1 0 1) = c + 1)
theorem g124l {k : Nat} {A : AA} {G : gS} {t c m v : Nat} (ok : OkA k A) (hk : k < 512) (ht : isTx t = true) (ht31 : t < 2 ^ 31) (hc : c < A.2.2.1.1 0 0) (hm : m ≤ 60) (hv : v ≤ 1) : ∀ (i j : Nat) (f : Option Nat) (mm : Nat) (T : xS), j + i = A.2.2.1.1 0 0 → mm ≤ j → RC A T G → Ep (fun n => G124f n 45 (nI t) (nI c) (nI m) (nI v) (oF f) (nI mm) (nI j) (T, G)) (fun z => z.1 = (if v = 0 then nI (putA (hitA A t c m) i j f mm).2 else oF (putA (hitA A t c m) i j f mm).1) ∧ RC A z.2.1 z.2.2 ∧ z.2.2 = G) := by
  have hb := OkA_b ok
  have kw := OkA_w ok
  have hb1 := hb.1
  have hn12 := (ok.2.2.2.1.2.2.1 A.2.2.1.2.1 (Or.inl rfl)).2.1
  have hday := (ok.2.2.2.1.2.2.1 A.2.2.1.2.1 (Or.inl rfl)).2.2.1
  intro i
  induction i with
  | zero =>
    intro j f mm T hj hmm hR
    refine ep_succ (fun n => G124e45 n ..) ?_
    have hc0 : T.1 89 0 = nI (A.2.2.1.1 0 0) := (CD_b hR).1
    have e : A.2.2.1.1 0 0 ≤ j := by omega
    have hv' : v = 0 ∨ v = 1 := by omega
    rcases hv' with rfl | rfl
    · simp (disch := omega) only [G124b45, L0, L1, L2, L3, L4, L5, L6, L7, L8, L9, L10, L11, L12, L13, L16, L20, L31, L32, L40, L48, L57, L59, L60, L61, L91, L93, L97, L99, L100, L102, L103, L114, L122, L255, L300, L400, L402, L999, L2280, L2500, L99999, L63, L1431655765, L858993459, L252645135, ic_ge, ic_gt, ic_le, ic_lt, ic_eq, ic_ne, if_lt, if_ge, if_gt, if_le, if_eq, if_ne, if_lt_zI, if_ge_zI, ic_ne_m1, ic_eq_m1, ic_nn_m1, ic_ee_m1, if_ne_b2i, if_eq_b2i, b2i_z, decide_eq_true_eq, decide_true, decide_false, Bool.not_eq_true, Bool.not_eq_true', Bool.not_true, Bool.not_false, decide_eq_false_iff_not, Bool.false_eq_true, not_false_eq_true, not_true_eq_false, if_true, if_false, ↓reduceIte, eq_self, Option.bind_some, Bool.true_and, Bool.false_and, Bool.and_true, Bool.and_false, nI_add, nI_subN, nI_clamp, gdF, gdF2, gdP, gdP2, zI_cl, zI_s, Lm1, nI_n0, zI_n0, leF, or_false, false_or, or_self, hc0, e]
      exact ep_ret ⟨rfl, hR, rfl⟩
    · simp (disch := omega) only [G124b45, L0, L1, L2, L3, L4, L5, L6, L7, L8, L9, L10, L11, L12, L13, L16, L20, L31, L32, L40, L48, L57, L59, L60, L61, L91, L93, L97, L99, L100, L102, L103, L114, L122, L255, L300, L400, L402, L999, L2280, L2500, L99999, L63, L1431655765, L858993459, L252645135, ic_ge, ic_gt, ic_le, ic_lt, ic_eq, ic_ne, if_lt, if_ge, if_gt, if_le, if_eq, if_ne, if_lt_zI, if_ge_zI, ic_ne_m1, ic_eq_m1, ic_nn_m1, ic_ee_m1, if_ne_b2i, if_eq_b2i, b2i_z, decide_eq_true_eq, decide_true, decide_false, Bool.not_eq_true, Bool.not_eq_true', Bool.not_true, Bool.not_false, decide_eq_false_iff_not, Bool.false_eq_true, not_false_eq_true, not_true_eq_false, if_true, if_false, ↓reduceIte, eq_self, Option.bind_some, Bool.true_and, Bool.false_and, Bool.and_true, Bool.and_false, nI_add, nI_subN, nI_clamp, gdF, gdF2, gdP, gdP2, zI_cl, zI_s, Lm1, nI_n0, zI_n0, leF, or_false, false_or, or_self, hc0, e, Nat.one_ne_zero]
      exact ep_ret ⟨rfl, hR, rfl⟩
  | succ i ih =>
    intro j f mm T hj hmm hR
    refine ep_succ (fun n => G124e45 n ..) ?_
    have hc0 : T.1 89 0 = nI (A.2.2.1.1 0 0) := (CD_b hR).1
    have e : ¬ A.2.2.1.1 0 0 ≤ j := by omega
    simp (disch := omega) only [G124b45, L0, L1, L2, L3, L4, L5, L6, L7, L8, L9, L10, L11, L12, L13, L16, L20, L31, L32, L40, L48, L57, L59, L60, L61, L91, L93, L97, L99, L100, L102, L103, L114, L122, L255, L300, L400, L402, L999, L2280, L2500, L99999, L63, L1431655765, L858993459, L252645135, ic_ge, ic_gt, ic_le, ic_lt, ic_eq, ic_ne, if_lt, if_ge, if_gt, if_le, if_eq, if_ne, if_lt_zI, if_ge_zI, ic_ne_m1, ic_eq_m1, ic_nn_m1, ic_ee_m1, if_ne_b2i, if_eq_b2i, b2i_z, decide_eq_true_eq, decide_true, decide_false, Bool.not_eq_true, Bool.not_eq_true', Bool.not_true, Bool.not_false, decide_eq_false_iff_not, Bool.false_eq_true, not_false_eq_true, not_true_eq_false, if_true, if_false, ↓reduceIte, eq_self, Option.bind_some, Bool.true_and, Bool.false_and, Bool.and_true, Bool.and_false, nI_add, nI_subN, nI_clamp, gdF, gdF2, gdP, gdP2, zI_cl, zI_s, Lm1, nI_n0, zI_n0, leF, or_false, false_or, or_self, hc0, e]
    obtain ⟨lo, e1, e2, e3⟩ := g84 ok hR
    refine ep_bv e1 ?_
    simp only [e2, decide_eq_true_eq, decide_true, decide_false, Bool.not_eq_true, Bool.not_eq_true', Bool.not_true, Bool.not_false, decide_eq_false_iff_not, Bool.false_eq_true, not_false_eq_true, not_true_eq_false, if_true, if_false, ↓reduceIte, eq_self, Option.bind_some, Bool.true_and, Bool.false_and, Bool.and_true, Bool.and_false]
    refine ep_bind (g109 ok hR e3) ?_
    rintro ⟨_, T1⟩ ⟨d1, d2⟩
    have d1 : DS T1 T1 110 lo (lawN G lo) A.2.2.1.1 (lawA A.2.1.2 A.2.2.1.2.2.2.1) (fun f => nI (cf A.2.2.1.2.1 f)) A.2.2.1.2.1 := d1
    have h4 : T1.2.2.2 109 4 = some 110 := d1.1.2.2.1
    simp only [h4, decide_eq_true_eq, decide_true, decide_false, Bool.not_eq_true, Bool.not_eq_true', Bool.not_true, Bool.not_false, decide_eq_false_iff_not, Bool.false_eq_true, not_false_eq_true, not_true_eq_false, if_true, if_false, ↓reduceIte, eq_self, Option.bind_some, Bool.true_and, Bool.false_and, Bool.and_true, Bool.and_false]
    refine ep_bind (g50 (p := 110) d1.2.1 (by omega) ht) ?_
    rintro ⟨z1, T2⟩ ⟨s1, s2, s3⟩
    have s1 : z1 = nI (A.2.2.1.2.1.1 0 1) := s1
    have s3 : FrW 110 T1 T2 := s3
    subst s1
    have ds2 := DS_add d1 hn12 ht (by omega) (by omega) s2 s3 (s3.1 109 (by omega)).1
    have hga : am_if .ge (nI (A.2.2.1.2.1.1 0 1)) = true := if_ge (by omega)
    simp only [hga, decide_eq_true_eq, decide_true, decide_false, Bool.not_eq_true, Bool.not_eq_true', Bool.not_true, Bool.not_false, decide_eq_false_iff_not, Bool.false_eq_true, not_false_eq_true, not_true_eq_false, if_true, if_false, ↓reduceIte, eq_self, Option.bind_some, Bool.true_and, Bool.false_and, Bool.and_true, Bool.and_false]
    have hs' : A.2.2.1.2.1.1 0 1 < (addA A.2.2.1.2.1 j t 0).1 0 1 := by rw [addA_n]; omega
    refine ep_bind (g110 hb hm hs' (by rw [addA_d]; omega) ds2) ?_
    rintro ⟨_, T3⟩ ⟨w3, d3, d4, d5⟩
    have d3 : DS T1 T3 110 lo (lawN G lo) A.2.2.1.1 (lawA A.2.1.2 A.2.2.1.2.2.2.1) (fun f => nI (cf A.2.2.1.2.1 f)) w3 := d3
    have h43 : T3.2.2.2 109 4 = some 110 := d3.1.2.2.1
    have r1 := (d3.2.1.2.2.2.1 (A.2.2.1.2.1.1 0 1) (by rw [d4]; exact hs')).1
    rw [d5 1 (by decide) (by decide)] at r1
    have r1 : T3.2.1 111 (A.2.2.1.2.1.1 0 1) = zI ((dysA A.2.2.1.1 (lawA A.2.1.2 A.2.2.1.2.2.2.1) m (addA A.2.2.1.2.1 j t 0)).1 1 (A.2.2.1.2.1.1 0 1)) := r1
    have hRf := RC_L hR (FrL_tr d2 (FrS_L' d3.2.2.2.2))
    have hok := dys_Ok (l := lawA A.2.1.2 A.2.2.1.2.2.2.1) hb m _ ds2.2.2.1
    have h16 := OkW_16 hb hok.1 (A.2.2.1.2.1.1 0 1) (by rw [hok.2.1]; exact hs')
    simp (disch := omega) only [h43, L0, L1, L2, L3, L4, L5, L6, L7, L8, L9, L10, L11, L12, L13, L16, L20, L31, L32, L40, L48, L57, L59, L60, L61, L91, L93, L97, L99, L100, L102, L103, L114, L122, L255, L300, L400, L402, L999, L2280, L2500, L99999, L63, L1431655765, L858993459, L252645135, ic_ge, ic_gt, ic_le, ic_lt, ic_eq, ic_ne, if_lt, if_ge, if_gt, if_le, if_eq, if_ne, if_lt_zI, if_ge_zI, ic_ne_m1, ic_eq_m1, ic_nn_m1, ic_ee_m1, if_ne_b2i, if_eq_b2i, b2i_z, decide_eq_true_eq, decide_true, decide_false, Bool.not_eq_true, Bool.not_eq_true', Bool.not_true, Bool.not_false, decide_eq_false_iff_not, Bool.false_eq_true, not_false_eq_true, not_true_eq_false, if_true, if_false, ↓reduceIte, eq_self, Option.bind_some, Bool.true_and, Bool.false_and, Bool.and_true, Bool.and_false, nI_add, nI_subN, nI_clamp, gdF, gdF2, gdP, gdP2, zI_cl, zI_s, Lm1, nI_n0, zI_n0, leF, or_false, false_or, or_self, r1, ic_ne_pn]
    unfold putA
    have hhit : hitA A t c m j = decide ((dysA A.2.2.1.1 (lawA A.2.1.2 A.2.2.1.2.2.2.1) m (addA A.2.2.1.2.1 j t 0)).1 1 (A.2.2.1.2.1.1 0 1) = c + 1) := rfl
    rw [hhit]
    by_cases hh : (dysA A.2.2.1.1 (lawA A.2.1.2 A.2.2.1.2.2.2.1) m (addA A.2.2.1.2.1 j t 0)).1 1 (A.2.2.1.2.1.1 0 1) = c + 1
    · by_cases hm0 : mm = 0
      · simp (disch := omega) only [hh, hm0, L0, L1, L2, L3, L4, L5, L6, L7, L8, L9, L10, L11, L12, L13, L16, L20, L31, L32, L40, L48, L57, L59, L60, L61, L91, L93, L97, L99, L100, L102, L103, L114, L122, L255, L300, L400, L402, L999, L2280, L2500, L99999, L63, L1431655765, L858993459, L252645135, ic_ge, ic_gt, ic_le, ic_lt, ic_eq, ic_ne, if_lt, if_ge, if_gt, if_le, if_eq, if_ne, if_lt_zI, if_ge_zI, ic_ne_m1, ic_eq_m1, ic_nn_m1, ic_ee_m1, if_ne_b2i, if_eq_b2i, b2i_z, decide_eq_true_eq, decide_true, decide_false, Bool.not_eq_true, Bool.not_eq_true', Bool.not_true, Bool.not_false, decide_eq_false_iff_not, Bool.false_eq_true, not_false_eq_true, not_true_eq_false, if_true, if_false, ↓reduceIte, eq_self, Option.bind_some, Bool.true_and, Bool.false_and, Bool.and_true, Bool.and_false, nI_add, nI_subN, nI_clamp, gdF, gdF2, gdP, gdP2, zI_cl, zI_s, Lm1, nI_n0, zI_n0, leF, or_false, false_or, or_self]
        have := ih (j + 1) (some j) (0 + 1) T3 (by omega) (by omega) hRf
        exact this
      · simp (disch := omega) only [hh, hm0, L0, L1, L2, L3, L4, L5, L6, L7, L8, L9, L10, L11, L12, L13, L16, L20, L31, L32, L40, L48, L57, L59, L60, L61, L91, L93, L97, L99, L100, L102, L103, L114, L122, L255, L300, L400, L402, L999, L2280, L2500, L99999, L63, L1431655765, L858993459, L252645135, ic_ge, ic_gt, ic_le, ic_lt, ic_eq, ic_ne, if_lt, if_ge, if_gt, if_le, if_eq, if_ne, if_lt_zI, if_ge_zI, ic_ne_m1, ic_eq_m1, ic_nn_m1, ic_ee_m1, if_ne_b2i, if_eq_b2i, b2i_z, decide_eq_true_eq, decide_true, decide_false, Bool.not_eq_true, Bool.not_eq_true', Bool.not_true, Bool.not_false, decide_eq_false_iff_not, Bool.false_eq_true, not_false_eq_true, not_true_eq_false, if_true, if_false, ↓reduceIte, eq_self, Option.bind_some, Bool.true_and, Bool.false_and, Bool.and_true, Bool.and_false, nI_add, nI_subN, nI_clamp, gdF, gdF2, gdP, gdP2, zI_cl, zI_s, Lm1, nI_n0, zI_n0, leF, or_false, false_or, or_self]
        exact ih (j + 1) f (mm + 1) T3 (by omega) (by omega) hRf
    · simp (disch := omega) only [hh, L0, L1, L2, L3, L4, L5, L6, L7, L8, L9, L10, L11, L12, L13, L16, L20, L31, L32, L40, L48, L57, L59, L60, L61, L91, L93, L97, L99, L100, L102, L103, L114, L122, L255, L300, L400, L402, L999, L2280, L2500, L99999, L63, L1431655765, L858993459, L252645135, ic_ge, ic_gt, ic_le, ic_lt, ic_eq, ic_ne, if_lt, if_ge, if_gt, if_le, if_eq, if_ne, if_lt_zI, if_ge_zI, ic_ne_m1, ic_eq_m1, ic_nn_m1, ic_ee_m1, if_ne_b2i, if_eq_b2i, b2i_z, decide_eq_true_eq, decide_true, decide_false, Bool.not_eq_true, Bool.not_eq_true', Bool.not_true, Bool.not_false, decide_eq_false_iff_not, Bool.false_eq_true, not_false_eq_true, not_true_eq_false, if_true, if_false, ↓reduceIte, eq_self, Option.bind_some, Bool.true_and, Bool.false_and, Bool.and_true, Bool.and_false, nI_add, nI_subN, nI_clamp, gdF, gdF2, gdP, gdP2, zI_cl, zI_s, Lm1, nI_n0, zI_n0, leF, or_false, false_or, or_self]
      exact ih (j + 1) f mm T3 (by omega) (by omega) hRf
theorem f248l {k : Nat} {A : AA} {S1 : mS} {t c m v : Nat} (ok : OkA k A) (hk : k < 512) (ht : isTx t = true) (ht31 : t < 2 ^ 31) (hc : c < A.2.2.1.1 0 0) (hm : m ≤ 60) (hv : v ≤ 1) (h1 : RM A S1) (sv : Sv S1) : ∀ (i j : Nat) (f : Option Nat) (mm : Nat) (S : mS), j + i = A.2.2.1.1 0 0 → mm ≤ j → RM A S → Hd S1 S → Ep (fun n => F248f n 54 (nI t) (nI c) (nI m) (nI v) (nI mm) (oF f) (nI j) S) (fun z => z.1 = (if v = 0 then nI (putA (hitA A t c m) i j f mm).2 else oF (putA (hitA A t c m) i j f mm).1) ∧ RM A z.2) := by
  have hb := OkA_b ok
  have kw := OkA_w ok
  have hb1 := hb.1
  have hn12 := (ok.2.2.2.1.2.2.1 A.2.2.1.2.1 (Or.inl rfl)).2.1
  have hday := (ok.2.2.2.1.2.2.1 A.2.2.1.2.1 (Or.inl rfl)).2.2.1
  intro i
  induction i with
  | zero =>
    intro j f mm S hj hmm hS hd
    refine ep_succ (fun n => F248e54 n ..) ?_
    have hc0 : S.2.1 1 0 = nI (A.2.2.1.1 0 0) := (MD_b hS).1
    have e : A.2.2.1.1 0 0 ≤ j := by omega
    have hv' : v = 0 ∨ v = 1 := by omega
    rcases hv' with rfl | rfl
    · simp (disch := omega) only [F248b54, L0, L1, L2, L3, L4, L5, L6, L7, L8, L9, L10, L11, L12, L13, L16, L20, L31, L32, L40, L48, L57, L59, L60, L61, L91, L93, L97, L99, L100, L102, L103, L114, L122, L255, L300, L400, L402, L999, L2280, L2500, L99999, L63, L1431655765, L858993459, L252645135, ic_ge, ic_gt, ic_le, ic_lt, ic_eq, ic_ne, if_lt, if_ge, if_gt, if_le, if_eq, if_ne, if_lt_zI, if_ge_zI, ic_ne_m1, ic_eq_m1, ic_nn_m1, ic_ee_m1, if_ne_b2i, if_eq_b2i, b2i_z, decide_eq_true_eq, decide_true, decide_false, Bool.not_eq_true, Bool.not_eq_true', Bool.not_true, Bool.not_false, decide_eq_false_iff_not, Bool.false_eq_true, not_false_eq_true, not_true_eq_false, if_true, if_false, ↓reduceIte, eq_self, Option.bind_some, Bool.true_and, Bool.false_and, Bool.and_true, Bool.and_false, nI_add, nI_subN, nI_clamp, gdF, gdF2, gdP, gdP2, zI_cl, zI_s, Lm1, nI_n0, zI_n0, leF, or_false, false_or, or_self, hc0, e]
      exact ep_ret ⟨rfl, hS⟩
    · simp (disch := omega) only [F248b54, L0, L1, L2, L3, L4, L5, L6, L7, L8, L9, L10, L11, L12, L13, L16, L20, L31, L32, L40, L48, L57, L59, L60, L61, L91, L93, L97, L99, L100, L102, L103, L114, L122, L255, L300, L400, L402, L999, L2280, L2500, L99999, L63, L1431655765, L858993459, L252645135, ic_ge, ic_gt, ic_le, ic_lt, ic_eq, ic_ne, if_lt, if_ge, if_gt, if_le, if_eq, if_ne, if_lt_zI, if_ge_zI, ic_ne_m1, ic_eq_m1, ic_nn_m1, ic_ee_m1, if_ne_b2i, if_eq_b2i, b2i_z, decide_eq_true_eq, decide_true, decide_false, Bool.not_eq_true, Bool.not_eq_true', Bool.not_true, Bool.not_false, decide_eq_false_iff_not, Bool.false_eq_true, not_false_eq_true, not_true_eq_false, if_true, if_false, ↓reduceIte, eq_self, Option.bind_some, Bool.true_and, Bool.false_and, Bool.and_true, Bool.and_false, nI_add, nI_subN, nI_clamp, gdF, gdF2, gdP, gdP2, zI_cl, zI_s, Lm1, nI_n0, zI_n0, leF, or_false, false_or, or_self, hc0, e, Nat.one_ne_zero]
      exact ep_ret ⟨rfl, hS⟩
  | succ i ih =>
    intro j f mm S hj hmm hS hd
    refine ep_succ (fun n => F248e54 n ..) ?_
    have hc0 : S.2.1 1 0 = nI (A.2.2.1.1 0 0) := (MD_b hS).1
    have e : ¬ A.2.2.1.1 0 0 ≤ j := by omega
    simp (disch := omega) only [F248b54, L0, L1, L2, L3, L4, L5, L6, L7, L8, L9, L10, L11, L12, L13, L16, L20, L31, L32, L40, L48, L57, L59, L60, L61, L91, L93, L97, L99, L100, L102, L103, L114, L122, L255, L300, L400, L402, L999, L2280, L2500, L99999, L63, L1431655765, L858993459, L252645135, ic_ge, ic_gt, ic_le, ic_lt, ic_eq, ic_ne, if_lt, if_ge, if_gt, if_le, if_eq, if_ne, if_lt_zI, if_ge_zI, ic_ne_m1, ic_eq_m1, ic_nn_m1, ic_ee_m1, if_ne_b2i, if_eq_b2i, b2i_z, decide_eq_true_eq, decide_true, decide_false, Bool.not_eq_true, Bool.not_eq_true', Bool.not_true, Bool.not_false, decide_eq_false_iff_not, Bool.false_eq_true, not_false_eq_true, not_true_eq_false, if_true, if_false, ↓reduceIte, eq_self, Option.bind_some, Bool.true_and, Bool.false_and, Bool.and_true, Bool.and_false, nI_add, nI_subN, nI_clamp, gdF, gdF2, gdP, gdP2, zI_cl, zI_s, Lm1, nI_n0, zI_n0, leF, or_false, false_or, or_self, hc0, e, Nat.add_zero]
    refine ep_bind (f232 (w := A.2.2.1.2.1) (c := j) (t := t) (d := 0) (MD_w hS) (by omega)) ?_
    rintro ⟨z1, S2⟩ ⟨s1, s2, s3, s4⟩
    have s1 : z1 = nI (A.2.2.1.2.1.1 0 1) := s1
    have s3 : S2.1 = S.1 := s3
    have s4 : ∀ k i, ¬ ((10 ≤ k ∧ k ≤ 15) ∨ (k = 1 ∧ i = 4)) → S2.2.1 k i = S.2.1 k i := s4
    subst s1
    have dm := DM_of ok hS
    have dm2 : DM S2 S2 A.2.2.1.1 (lawA A.2.1.2 A.2.2.1.2.2.2.1) (addA A.2.2.1.2.1 j t 0) := ⟨MB_r dm.1 hb (fun k i hk => s4 k i (by omega)), hb, s2, addA_Ok kw hn12 ht (by omega) (by omega), LM_fr dm.2.2.2.2.1 (s4 1 8 (by omega)) (fun k i _ _ => s4 k i (by omega)), FrM_rf⟩
    have hd2 : Hd S1 S2 := Hd_fr hd s3 (fun q hq => funext (fun i => s4 q i (by omega)))
    refine ep_bind (f242 hm (by rw [addA_d]; omega) dm2) ?_
    rintro ⟨_, S3⟩ h3
    have h3 : DM S2 S3 A.2.2.1.1 (lawA A.2.1.2 A.2.2.1.2.2.2.1) (dysA A.2.2.1.1 (lawA A.2.1.2 A.2.2.1.2.2.2.1) m (addA A.2.2.1.2.1 j t 0)) := h3
    have hs' : A.2.2.1.2.1.1 0 1 < (addA A.2.2.1.2.1 j t 0).1 0 1 := by rw [addA_n]; omega
    have hok := dys_Ok (l := lawA A.2.1.2 A.2.2.1.2.2.2.1) hb m _ dm2.2.2.2.1
    have hs3 : A.2.2.1.2.1.1 0 1 < (dysA A.2.2.1.1 (lawA A.2.1.2 A.2.2.1.2.2.2.1) m (addA A.2.2.1.2.1 j t 0)).1 0 1 := by rw [hok.2.1]; exact hs'
    have h16 := OkW_16 hb hok.1 (A.2.2.1.2.1.1 0 1) hs3
    refine ep_bv (f202 h3.2.2.1 h3.2.2.2.1 hs3) ?_
    have lb := laysBack ok h1 sv (FrM_H hd2 h3.2.2.2.2.2)
    unfold putA
    have hhit : hitA A t c m j = decide ((dysA A.2.2.1.1 (lawA A.2.1.2 A.2.2.1.2.2.2.1) m (addA A.2.2.1.2.1 j t 0)).1 1 (A.2.2.1.2.1.1 0 1) = c + 1) := rfl
    rw [hhit]
    by_cases h0 : (dysA A.2.2.1.1 (lawA A.2.1.2 A.2.2.1.2.2.2.1) m (addA A.2.2.1.2.1 j t 0)).1 1 (A.2.2.1.2.1.1 0 1) = 0
    · have hh : ¬ 0 = c + 1 := by omega
      simp only [h0, hh, if_eq_b2i, decide_eq_true_eq, decide_true, decide_false, Bool.not_eq_true, Bool.not_eq_true', Bool.not_true, Bool.not_false, decide_eq_false_iff_not, Bool.false_eq_true, not_false_eq_true, not_true_eq_false, if_true, if_false, ↓reduceIte, eq_self, Option.bind_some, Bool.true_and, Bool.false_and, Bool.and_true, Bool.and_false]
      refine ep_bind lb ?_
      rintro ⟨_, S4⟩ ⟨h4, hd4⟩
      exact ih (j + 1) f mm S4 (by omega) (by omega) h4 hd4
    · obtain ⟨c', hc'⟩ : ∃ c', (dysA A.2.2.1.1 (lawA A.2.1.2 A.2.2.1.2.2.2.1) m (addA A.2.2.1.2.1 j t 0)).1 1 (A.2.2.1.2.1.1 0 1) = c' + 1 := ⟨_ - 1, (Nat.sub_add_cancel (by omega)).symm⟩
      have r10 := ((h3.2.2.1.2.2.2.1 _ hs3).1 h0).1
      rw [hc', Nat.add_sub_cancel] at r10
      have hz : ¬ c' + 1 = 0 := by omega
      simp (disch := omega) only [hc', hz, if_eq_b2i, L0, L1, L2, L3, L4, L5, L6, L7, L8, L9, L10, L11, L12, L13, L16, L20, L31, L32, L40, L48, L57, L59, L60, L61, L91, L93, L97, L99, L100, L102, L103, L114, L122, L255, L300, L400, L402, L999, L2280, L2500, L99999, L63, L1431655765, L858993459, L252645135, ic_ge, ic_gt, ic_le, ic_lt, ic_eq, ic_ne, if_lt, if_ge, if_gt, if_le, if_eq, if_ne, if_lt_zI, if_ge_zI, ic_ne_m1, ic_eq_m1, ic_nn_m1, ic_ee_m1, if_ne_b2i, if_eq_b2i, b2i_z, decide_eq_true_eq, decide_true, decide_false, Bool.not_eq_true, Bool.not_eq_true', Bool.not_true, Bool.not_false, decide_eq_false_iff_not, Bool.false_eq_true, not_false_eq_true, not_true_eq_false, if_true, if_false, ↓reduceIte, eq_self, Option.bind_some, Bool.true_and, Bool.false_and, Bool.and_true, Bool.and_false, nI_add, nI_subN, nI_clamp, gdF, gdF2, gdP, gdP2, zI_cl, zI_s, Lm1, nI_n0, zI_n0, leF, or_false, false_or, or_self, r10]
      by_cases hh : c' = c
      · subst hh
        simp only [decide_eq_true_eq, decide_true, decide_false, Bool.not_eq_true, Bool.not_eq_true', Bool.not_true, Bool.not_false, decide_eq_false_iff_not, Bool.false_eq_true, not_false_eq_true, not_true_eq_false, if_true, if_false, ↓reduceIte, eq_self, Option.bind_some, Bool.true_and, Bool.false_and, Bool.and_true, Bool.and_false]
        refine ep_bind lb ?_
        rintro ⟨_, S4⟩ ⟨h4, hd4⟩
        by_cases hm0 : mm = 0
        · simp (disch := omega) only [hm0, L0, L1, L2, L3, L4, L5, L6, L7, L8, L9, L10, L11, L12, L13, L16, L20, L31, L32, L40, L48, L57, L59, L60, L61, L91, L93, L97, L99, L100, L102, L103, L114, L122, L255, L300, L400, L402, L999, L2280, L2500, L99999, L63, L1431655765, L858993459, L252645135, ic_ge, ic_gt, ic_le, ic_lt, ic_eq, ic_ne, if_lt, if_ge, if_gt, if_le, if_eq, if_ne, if_lt_zI, if_ge_zI, ic_ne_m1, ic_eq_m1, ic_nn_m1, ic_ee_m1, if_ne_b2i, if_eq_b2i, b2i_z, decide_eq_true_eq, decide_true, decide_false, Bool.not_eq_true, Bool.not_eq_true', Bool.not_true, Bool.not_false, decide_eq_false_iff_not, Bool.false_eq_true, not_false_eq_true, not_true_eq_false, if_true, if_false, ↓reduceIte, eq_self, Option.bind_some, Bool.true_and, Bool.false_and, Bool.and_true, Bool.and_false, nI_add, nI_subN, nI_clamp, gdF, gdF2, gdP, gdP2, zI_cl, zI_s, Lm1, nI_n0, zI_n0, leF, or_false, false_or, or_self]
          exact ih (j + 1) (some j) (0 + 1) S4 (by omega) (by omega) h4 hd4
        · simp (disch := omega) only [hm0, L0, L1, L2, L3, L4, L5, L6, L7, L8, L9, L10, L11, L12, L13, L16, L20, L31, L32, L40, L48, L57, L59, L60, L61, L91, L93, L97, L99, L100, L102, L103, L114, L122, L255, L300, L400, L402, L999, L2280, L2500, L99999, L63, L1431655765, L858993459, L252645135, ic_ge, ic_gt, ic_le, ic_lt, ic_eq, ic_ne, if_lt, if_ge, if_gt, if_le, if_eq, if_ne, if_lt_zI, if_ge_zI, ic_ne_m1, ic_eq_m1, ic_nn_m1, ic_ee_m1, if_ne_b2i, if_eq_b2i, b2i_z, decide_eq_true_eq, decide_true, decide_false, Bool.not_eq_true, Bool.not_eq_true', Bool.not_true, Bool.not_false, decide_eq_false_iff_not, Bool.false_eq_true, not_false_eq_true, not_true_eq_false, if_true, if_false, ↓reduceIte, eq_self, Option.bind_some, Bool.true_and, Bool.false_and, Bool.and_true, Bool.and_false, nI_add, nI_subN, nI_clamp, gdF, gdF2, gdP, gdP2, zI_cl, zI_s, Lm1, nI_n0, zI_n0, leF, or_false, false_or, or_self]
          exact ih (j + 1) f (mm + 1) S4 (by omega) (by omega) h4 hd4
      · have hh' : ¬ c' + 1 = c + 1 := by omega
        simp only [hh, hh', decide_eq_true_eq, decide_true, decide_false, Bool.not_eq_true, Bool.not_eq_true', Bool.not_true, Bool.not_false, decide_eq_false_iff_not, Bool.false_eq_true, not_false_eq_true, not_true_eq_false, if_true, if_false, ↓reduceIte, eq_self, Option.bind_some, Bool.true_and, Bool.false_and, Bool.and_true, Bool.and_false]
        refine ep_bind lb ?_
        rintro ⟨_, S4⟩ ⟨h4, hd4⟩
        exact ih (j + 1) f mm S4 (by omega) (by omega) h4 hd4
theorem sm_put {k : Nat} {a1 a2 a3 a4 : Int32} (hk : k < 512) (A : AA) (ok : OkA k A) : ∃ r A', OkA (k + 1) A' ∧ CallX k (fun n => G124 n a1 a2 a3 a4) A r A' ∧ CallM (fun n => F248 n a1 a2 a3 a4) A r A' := by
  have ok1 := OkA_s ok
  by_cases hall : (∃ t, t < 2 ^ 31 ∧ a1 = nI t ∧ isTx t = true) ∧ (∃ c, c < A.2.2.1.1 0 0 ∧ a2 = nI c) ∧ (∃ m, 1 ≤ m ∧ m ≤ 60 ∧ a3 = nI m) ∧ (∃ j, j ≤ 1 ∧ a4 = nI j)
  · obtain ⟨⟨t, ht31, rfl, ht⟩, ⟨c, hc, rfl⟩, ⟨m, m1, m60, rfl⟩, ⟨v, hv, rfl⟩⟩ := hall
    have hb1 := (OkA_b ok).1
    have hl := isTx_len ht
    have ny := arg_Ny m1 m60
    have in1 : inL (nI v).toInt64 0 1 = true := by
      have := inK (a := v) (k := 1) (by omega) (by decide)
      rw [decide_eq_true hv] at this
      exact this
    refine ⟨if v = 0 then nI (putA (hitA A t c m) (A.2.2.1.1 0 0) 0 none 0).2 else oF (putA (hitA A t c m) (A.2.2.1.1 0 0) 0 none 0).1, A, ok1, fun T G hR hG => ?_, fun S hS => ?_⟩
    · refine ep_succ (fun n => G124e0 n ..) ?_
      simp only [G124b0]
      refine ep_bv (g75n ok hR (by omega)) ?_
      simp only [hc, if_eq_b2i, decide_eq_true_eq, decide_true, decide_false, Bool.not_eq_true, Bool.not_eq_true', Bool.not_true, Bool.not_false, decide_eq_false_iff_not, Bool.false_eq_true, not_false_eq_true, not_true_eq_false, if_true, if_false, ↓reduceIte, eq_self, Option.bind_some, Bool.true_and, Bool.false_and, Bool.and_true, Bool.and_false]
      refine ep_bv (g102 ht31 T) ?_
      rw [if_pos ht]
      have hz : ¬ lenN t = 0 := by omega
      simp (disch := omega) only [L0, L1, L2, L3, L4, L5, L6, L7, L8, L9, L10, L11, L12, L13, L16, L20, L31, L32, L40, L48, L57, L59, L60, L61, L91, L93, L97, L99, L100, L102, L103, L114, L122, L255, L300, L400, L402, L999, L2280, L2500, L99999, L63, L1431655765, L858993459, L252645135, ic_ge, ic_gt, ic_le, ic_lt, ic_eq, ic_ne, if_lt, if_ge, if_gt, if_le, if_eq, if_ne, if_lt_zI, if_ge_zI, ic_ne_m1, ic_eq_m1, ic_nn_m1, ic_ee_m1, if_ne_b2i, if_eq_b2i, b2i_z, decide_eq_true_eq, decide_true, decide_false, Bool.not_eq_true, Bool.not_eq_true', Bool.not_true, Bool.not_false, decide_eq_false_iff_not, Bool.false_eq_true, not_false_eq_true, not_true_eq_false, if_true, if_false, ↓reduceIte, eq_self, Option.bind_some, Bool.true_and, Bool.false_and, Bool.and_true, Bool.and_false, nI_add, nI_subN, nI_clamp, gdF, gdF2, gdP, gdP2, zI_cl, zI_s, Lm1, nI_n0, zI_n0, leF, or_false, false_or, or_self, hz]
      refine ep_bv (ny.1 T) ?_
      simp (disch := omega) only [L0, L1, L2, L3, L4, L5, L6, L7, L8, L9, L10, L11, L12, L13, L16, L20, L31, L32, L40, L48, L57, L59, L60, L61, L91, L93, L97, L99, L100, L102, L103, L114, L122, L255, L300, L400, L402, L999, L2280, L2500, L99999, L63, L1431655765, L858993459, L252645135, ic_ge, ic_gt, ic_le, ic_lt, ic_eq, ic_ne, if_lt, if_ge, if_gt, if_le, if_eq, if_ne, if_lt_zI, if_ge_zI, ic_ne_m1, ic_eq_m1, ic_nn_m1, ic_ee_m1, if_ne_b2i, if_eq_b2i, b2i_z, decide_eq_true_eq, decide_true, decide_false, Bool.not_eq_true, Bool.not_eq_true', Bool.not_true, Bool.not_false, decide_eq_false_iff_not, Bool.false_eq_true, not_false_eq_true, not_true_eq_false, if_true, if_false, ↓reduceIte, eq_self, Option.bind_some, Bool.true_and, Bool.false_and, Bool.and_true, Bool.and_false, nI_add, nI_subN, nI_clamp, gdF, gdF2, gdP, gdP2, zI_cl, zI_s, Lm1, nI_n0, zI_n0, leF, or_false, false_or, or_self, hv, Nat.one_ne_zero]
      refine ep_mono (g124l ok hk ht ht31 hc m60 hv (A.2.2.1.1 0 0) 0 none 0 T (by omega) (by omega) hR) ?_
      rintro ⟨z1, T1, G1⟩ ⟨e1, e2, e3⟩
      have e3 : G1 = G := e3
      subst e3
      exact ⟨e1, e2, RG_s hG⟩
    · refine ep_succ (fun n => F248e0 n ..) ?_
      simp only [F248b0]
      refine ep_bv (f231 ht31 S) ?_
      simp only [ht, if_eq_b2i, decide_eq_true_eq, decide_true, decide_false, Bool.not_eq_true, Bool.not_eq_true', Bool.not_true, Bool.not_false, decide_eq_false_iff_not, Bool.false_eq_true, not_false_eq_true, not_true_eq_false, if_true, if_false, ↓reduceIte, eq_self, Option.bind_some, Bool.true_and, Bool.false_and, Bool.and_true, Bool.and_false]
      refine ep_bv (f196n ok hS (by omega)) ?_
      simp only [hc, if_eq_b2i, decide_eq_true_eq, decide_true, decide_false, Bool.not_eq_true, Bool.not_eq_true', Bool.not_true, Bool.not_false, decide_eq_false_iff_not, Bool.false_eq_true, not_false_eq_true, not_true_eq_false, if_true, if_false, ↓reduceIte, eq_self, Option.bind_some, Bool.true_and, Bool.false_and, Bool.and_true, Bool.and_false]
      refine ep_bv (f172 S) ?_
      rw [ny.2]
      simp only [if_eq_b2i, decide_eq_true_eq, decide_true, decide_false, Bool.not_eq_true, Bool.not_eq_true', Bool.not_true, Bool.not_false, decide_eq_false_iff_not, Bool.false_eq_true, not_false_eq_true, not_true_eq_false, if_true, if_false, ↓reduceIte, eq_self, Option.bind_some, Bool.true_and, Bool.false_and, Bool.and_true, Bool.and_false]
      refine ep_bv (f172 S) ?_
      rw [in1]
      simp only [if_ne_b2i, decide_eq_true_eq, decide_true, decide_false, Bool.not_eq_true, Bool.not_eq_true', Bool.not_true, Bool.not_false, decide_eq_false_iff_not, Bool.false_eq_true, not_false_eq_true, not_true_eq_false, if_true, if_false, ↓reduceIte, eq_self, Option.bind_some, Bool.true_and, Bool.false_and, Bool.and_true, Bool.and_false]
      refine ep_bind (keepsAll ok hS) ?_
      rintro ⟨_, S1⟩ ⟨h1, sv⟩
      exact f248l ok hk ht ht31 hc m60 hv h1 sv (A.2.2.1.1 0 0) 0 none 0 S1 (by omega) (by omega) h1 Hd_rf
  · refine ⟨zI 0, A, ok1, fun T G hR hG => ?_, callM_id (fun S hS => ?_)⟩
    · refine ep_succ (fun n => G124e0 n ..) ?_
      simp only [G124b0]
      rcases arg_C ok a2 with ⟨c, hc, rfl⟩ | hC
      · have hb1 := (OkA_b ok).1
        refine ep_bv (g75n ok hR (by omega)) ?_
        simp only [hc, if_eq_b2i, decide_eq_true_eq, decide_true, decide_false, Bool.not_eq_true, Bool.not_eq_true', Bool.not_true, Bool.not_false, decide_eq_false_iff_not, Bool.false_eq_true, not_false_eq_true, not_true_eq_false, if_true, if_false, ↓reduceIte, eq_self, Option.bind_some, Bool.true_and, Bool.false_and, Bool.and_true, Bool.and_false]
        rcases arg_T a1 with ⟨t, ht31, rfl, ht⟩ | hT
        · have hl := isTx_len ht
          refine ep_bv (g102 ht31 T) ?_
          rw [if_pos ht]
          have hz : ¬ lenN t = 0 := by omega
          simp (disch := omega) only [L0, L1, L2, L3, L4, L5, L6, L7, L8, L9, L10, L11, L12, L13, L16, L20, L31, L32, L40, L48, L57, L59, L60, L61, L91, L93, L97, L99, L100, L102, L103, L114, L122, L255, L300, L400, L402, L999, L2280, L2500, L99999, L63, L1431655765, L858993459, L252645135, ic_ge, ic_gt, ic_le, ic_lt, ic_eq, ic_ne, if_lt, if_ge, if_gt, if_le, if_eq, if_ne, if_lt_zI, if_ge_zI, ic_ne_m1, ic_eq_m1, ic_nn_m1, ic_ee_m1, if_ne_b2i, if_eq_b2i, b2i_z, decide_eq_true_eq, decide_true, decide_false, Bool.not_eq_true, Bool.not_eq_true', Bool.not_true, Bool.not_false, decide_eq_false_iff_not, Bool.false_eq_true, not_false_eq_true, not_true_eq_false, if_true, if_false, ↓reduceIte, eq_self, Option.bind_some, Bool.true_and, Bool.false_and, Bool.and_true, Bool.and_false, nI_add, nI_subN, nI_clamp, gdF, gdF2, gdP, gdP2, zI_cl, zI_s, Lm1, nI_n0, zI_n0, leF, or_false, false_or, or_self, hz]
          rcases arg_N a3 with ⟨m, m1, m60, rfl⟩ | hN
          · refine ep_bv ((arg_Ny m1 m60).1 T) ?_
            simp (disch := omega) only [L0, L1, L2, L3, L4, L5, L6, L7, L8, L9, L10, L11, L12, L13, L16, L20, L31, L32, L40, L48, L57, L59, L60, L61, L91, L93, L97, L99, L100, L102, L103, L114, L122, L255, L300, L400, L402, L999, L2280, L2500, L99999, L63, L1431655765, L858993459, L252645135, ic_ge, ic_gt, ic_le, ic_lt, ic_eq, ic_ne, if_lt, if_ge, if_gt, if_le, if_eq, if_ne, if_lt_zI, if_ge_zI, ic_ne_m1, ic_eq_m1, ic_nn_m1, ic_ee_m1, if_ne_b2i, if_eq_b2i, b2i_z, decide_eq_true_eq, decide_true, decide_false, Bool.not_eq_true, Bool.not_eq_true', Bool.not_true, Bool.not_false, decide_eq_false_iff_not, Bool.false_eq_true, not_false_eq_true, not_true_eq_false, if_true, if_false, ↓reduceIte, eq_self, Option.bind_some, Bool.true_and, Bool.false_and, Bool.and_true, Bool.and_false, nI_add, nI_subN, nI_clamp, gdF, gdF2, gdP, gdP2, zI_cl, zI_s, Lm1, nI_n0, zI_n0, leF, or_false, false_or, or_self, Nat.one_ne_zero]
            rcases arg_W a4 (v := 1) (by decide) with ⟨j, hj, rfl⟩ | ⟨h4 | ⟨h4, h5⟩, _⟩
            · exact absurd ⟨⟨t, ht31, rfl, ht⟩, ⟨c, hc, rfl⟩, ⟨m, m1, m60, rfl⟩, ⟨j, hj, rfl⟩⟩ hall
            · simp only [h4, decide_eq_true_eq, decide_true, decide_false, Bool.not_eq_true, Bool.not_eq_true', Bool.not_true, Bool.not_false, decide_eq_false_iff_not, Bool.false_eq_true, not_false_eq_true, not_true_eq_false, if_true, if_false, ↓reduceIte, eq_self, Option.bind_some, Bool.true_and, Bool.false_and, Bool.and_true, Bool.and_false]
              exact ep_ret ⟨rfl, hR, RG_s hG⟩
            · simp only [h4, h5, decide_eq_true_eq, decide_true, decide_false, Bool.not_eq_true, Bool.not_eq_true', Bool.not_true, Bool.not_false, decide_eq_false_iff_not, Bool.false_eq_true, not_false_eq_true, not_true_eq_false, if_true, if_false, ↓reduceIte, eq_self, Option.bind_some, Bool.true_and, Bool.false_and, Bool.and_true, Bool.and_false]
              exact ep_ret ⟨rfl, hR, RG_s hG⟩
          · refine ep_bv (hN.1 T) ?_
            simp (disch := omega) only [L0, L1, L2, L3, L4, L5, L6, L7, L8, L9, L10, L11, L12, L13, L16, L20, L31, L32, L40, L48, L57, L59, L60, L61, L91, L93, L97, L99, L100, L102, L103, L114, L122, L255, L300, L400, L402, L999, L2280, L2500, L99999, L63, L1431655765, L858993459, L252645135, ic_ge, ic_gt, ic_le, ic_lt, ic_eq, ic_ne, if_lt, if_ge, if_gt, if_le, if_eq, if_ne, if_lt_zI, if_ge_zI, ic_ne_m1, ic_eq_m1, ic_nn_m1, ic_ee_m1, if_ne_b2i, if_eq_b2i, b2i_z, decide_eq_true_eq, decide_true, decide_false, Bool.not_eq_true, Bool.not_eq_true', Bool.not_true, Bool.not_false, decide_eq_false_iff_not, Bool.false_eq_true, not_false_eq_true, not_true_eq_false, if_true, if_false, ↓reduceIte, eq_self, Option.bind_some, Bool.true_and, Bool.false_and, Bool.and_true, Bool.and_false, nI_add, nI_subN, nI_clamp, gdF, gdF2, gdP, gdP2, zI_cl, zI_s, Lm1, nI_n0, zI_n0, leF, or_false, false_or, or_self]
            exact ep_ret ⟨rfl, hR, RG_s hG⟩
        · refine ep_bv (hT.1 T) ?_
          simp (disch := omega) only [L0, L1, L2, L3, L4, L5, L6, L7, L8, L9, L10, L11, L12, L13, L16, L20, L31, L32, L40, L48, L57, L59, L60, L61, L91, L93, L97, L99, L100, L102, L103, L114, L122, L255, L300, L400, L402, L999, L2280, L2500, L99999, L63, L1431655765, L858993459, L252645135, ic_ge, ic_gt, ic_le, ic_lt, ic_eq, ic_ne, if_lt, if_ge, if_gt, if_le, if_eq, if_ne, if_lt_zI, if_ge_zI, ic_ne_m1, ic_eq_m1, ic_nn_m1, ic_ee_m1, if_ne_b2i, if_eq_b2i, b2i_z, decide_eq_true_eq, decide_true, decide_false, Bool.not_eq_true, Bool.not_eq_true', Bool.not_true, Bool.not_false, decide_eq_false_iff_not, Bool.false_eq_true, not_false_eq_true, not_true_eq_false, if_true, if_false, ↓reduceIte, eq_self, Option.bind_some, Bool.true_and, Bool.false_and, Bool.and_true, Bool.and_false, nI_add, nI_subN, nI_clamp, gdF, gdF2, gdP, gdP2, zI_cl, zI_s, Lm1, nI_n0, zI_n0, leF, or_false, false_or, or_self]
          exact ep_ret ⟨rfl, hR, RG_s hG⟩
      · refine ep_bv (hC.1 T G hR) ?_
        simp only [if_eq_b2i, decide_eq_true_eq, decide_true, decide_false, Bool.not_eq_true, Bool.not_eq_true', Bool.not_true, Bool.not_false, decide_eq_false_iff_not, Bool.false_eq_true, not_false_eq_true, not_true_eq_false, if_true, if_false, ↓reduceIte, eq_self, Option.bind_some, Bool.true_and, Bool.false_and, Bool.and_true, Bool.and_false]
        exact ep_ret ⟨rfl, hR, RG_s hG⟩
    · refine ev_succ (fun n => F248e0 n ..) ?_
      simp only [F248b0]
      rcases arg_T a1 with ⟨t, ht31, rfl, ht⟩ | hT
      · refine ev_bind (f231 ht31 S) ?_
        simp only [ht, if_eq_b2i, decide_eq_true_eq, decide_true, decide_false, Bool.not_eq_true, Bool.not_eq_true', Bool.not_true, Bool.not_false, decide_eq_false_iff_not, Bool.false_eq_true, not_false_eq_true, not_true_eq_false, if_true, if_false, ↓reduceIte, eq_self, Option.bind_some, Bool.true_and, Bool.false_and, Bool.and_true, Bool.and_false]
        rcases arg_C ok a2 with ⟨c, hc, rfl⟩ | hC
        · have hb1 := (OkA_b ok).1
          refine ev_bind (f196n ok hS (by omega)) ?_
          simp only [hc, if_eq_b2i, decide_eq_true_eq, decide_true, decide_false, Bool.not_eq_true, Bool.not_eq_true', Bool.not_true, Bool.not_false, decide_eq_false_iff_not, Bool.false_eq_true, not_false_eq_true, not_true_eq_false, if_true, if_false, ↓reduceIte, eq_self, Option.bind_some, Bool.true_and, Bool.false_and, Bool.and_true, Bool.and_false]
          refine ev_bind (f172 S) ?_
          rcases arg_N a3 with ⟨m, m1, m60, rfl⟩ | hN
          · rw [(arg_Ny m1 m60).2]
            simp only [if_eq_b2i, decide_eq_true_eq, decide_true, decide_false, Bool.not_eq_true, Bool.not_eq_true', Bool.not_true, Bool.not_false, decide_eq_false_iff_not, Bool.false_eq_true, not_false_eq_true, not_true_eq_false, if_true, if_false, ↓reduceIte, eq_self, Option.bind_some, Bool.true_and, Bool.false_and, Bool.and_true, Bool.and_false]
            refine ev_bind (f172 S) ?_
            rcases arg_W a4 (v := 1) (by decide) with ⟨j, hj, rfl⟩ | ⟨_, h5⟩
            · exact absurd ⟨⟨t, ht31, rfl, ht⟩, ⟨c, hc, rfl⟩, ⟨m, m1, m60, rfl⟩, ⟨j, hj, rfl⟩⟩ hall
            · have h5 : inL a4.toInt64 0 1 = false := h5
              rw [h5]
              simp only [if_ne_b2i, decide_eq_true_eq, decide_true, decide_false, Bool.not_eq_true, Bool.not_eq_true', Bool.not_true, Bool.not_false, decide_eq_false_iff_not, Bool.false_eq_true, not_false_eq_true, not_true_eq_false, if_true, if_false, ↓reduceIte, eq_self, Option.bind_some, Bool.true_and, Bool.false_and, Bool.and_true, Bool.and_false]
              exact ev_ret
          · rw [hN.2]
            simp only [if_eq_b2i, decide_eq_true_eq, decide_true, decide_false, Bool.not_eq_true, Bool.not_eq_true', Bool.not_true, Bool.not_false, decide_eq_false_iff_not, Bool.false_eq_true, not_false_eq_true, not_true_eq_false, if_true, if_false, ↓reduceIte, eq_self, Option.bind_some, Bool.true_and, Bool.false_and, Bool.and_true, Bool.and_false]
            exact ev_ret
        · refine ev_bind (hC.2 S hS) ?_
          simp only [if_eq_b2i, decide_eq_true_eq, decide_true, decide_false, Bool.not_eq_true, Bool.not_eq_true', Bool.not_true, Bool.not_false, decide_eq_false_iff_not, Bool.false_eq_true, not_false_eq_true, not_true_eq_false, if_true, if_false, ↓reduceIte, eq_self, Option.bind_some, Bool.true_and, Bool.false_and, Bool.and_true, Bool.and_false]
          exact ev_ret
      · refine ev_bind (hT.2 S) ?_
        simp only [if_eq_b2i, decide_eq_true_eq, decide_true, decide_false, Bool.not_eq_true, Bool.not_eq_true', Bool.not_true, Bool.not_false, decide_eq_false_iff_not, Bool.false_eq_true, not_false_eq_true, not_true_eq_false, if_true, if_false, ↓reduceIte, eq_self, Option.bind_some, Bool.true_and, Bool.false_and, Bool.and_true, Bool.and_false]
        exact ev_ret
