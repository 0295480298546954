/-! image, back -/
def iA (A : AA) (i : Nat) : AA := (A.1, A.2.1, A.2.2.1, fun j => if j = i then some A.2.2.1 else A.2.2.2 j)
def bA (A : AA) (d : AD) : AA := (A.1, A.2.1, d, A.2.2.2)
theorem RC_RT {A : AA} {T : xS} {G : gS} (h : RC A T G) : RT A T G := ⟨h.1, h.2.1⟩
theorem vB_lt {G : gS} {p : Nat} (h : vB G p = true) : p + 19 < 172 + G.2.1 := kd_lt (p := p + 18 + 1) (by rw [pk1 (vkp h)]; decide)
/-- a new world stands beside the others -/
theorem nV_R {A : AA} {T : xS} {G : gS} {i : Nat} (hi : i < 4) (h : RC A T G) (hn : T.2.2.2 108 i = none) : OwC (x_sQ (x_nV T G).1 108 i (some (172 + G.2.1))) (x_nV T G).2 ∧ RT A (x_sQ (x_nV T G).1 108 i (some (172 + G.2.1))) (x_nV T G).2 ∧ (∀ x e, Wd T x → CD T G x e → CD (x_sQ (x_nV T G).1 108 i (some (172 + G.2.1))) (x_nV T G).2 x e) ∧ CD (x_sQ (x_nV T G).1 108 i (some (172 + G.2.1))) (x_nV T G).2 (172 + G.2.1) d0A := by
  obtain ⟨gx, hv, n1, n2, hT, hnone, hcd⟩ := nV_ok (T := T) (G := G)
  have ow := h.2.2.2.2
  obtain ⟨T1, hT1⟩ : ∃ T1, T1 = x_sQ (x_nV T G).1 108 i (some (172 + G.2.1)) := ⟨_, rfl⟩
  obtain ⟨G1, hG1⟩ : ∃ G1, G1 = (x_nV T G).2 := ⟨_, rfl⟩
  rw [← hT1, ← hG1]
  rw [← hG1] at gx hv n1
  have f1 : ∀ q, q < 172 + G.2.1 → T1.1 q = T.1 q := fun q hq => by rw [hT1]; exact (hT q hq).1
  have f2 : ∀ q, q < 172 + G.2.1 → T1.2.1 q = T.2.1 q := fun q hq => by rw [hT1]; exact (hT q hq).2.1
  have f4 : ∀ q, q < 172 + G.2.1 → q ≠ 108 → T1.2.2.2 q = T.2.2.2 q := fun q hq h8 => by rw [hT1, x_rQn h8]; exact (hT q hq).2.2
  have f8 : ∀ j, j ≠ i → T1.2.2.2 108 j = T.2.2.2 108 j := fun j hj => by rw [hT1, x_rQi hj, (hT 108 (by omega)).2.2]
  have f8e : T1.2.2.2 108 i = some (172 + G.2.1) := by rw [hT1, x_rQe]
  have fn : ∀ j, T1.2.2.2 (172 + G.2.1 + 19) j = none := fun j => by rw [hT1, x_rQn (by omega)]; exact hnone j
  have wd : ∀ x, Wd T1 x → x = 172 + G.2.1 ∨ Wd T x := by
    intro x hx
    rcases hx with e | ⟨j, hj, e⟩
    · exact Or.inr (Or.inl e)
    · by_cases ej : j = i
      · rw [ej, f8e] at e
        exact Or.inl (Option.some.inj e).symm
      · rw [f8 j ej] at e
        exact Or.inr (Or.inr ⟨j, hj, e⟩)
  have xlt : ∀ x, Wd T x → x + 19 < 172 + G.2.1 ∧ x + 19 ≠ 108 := by
    intro x hx
    have a := vB_lt (ow.1 x hx)
    have b := Wd_r ow hx
    omega
  refine ⟨⟨fun x hx => ?_, fun j x hj e => ?_, fun j j' x hj hj' e e' => ?_, fun x j q hx hj hq => ?_, fun x j q x' j' hx hx' hj hj' hq hq' => ?_⟩, ⟨⟨by rw [f1 65 (by omega)]; exact h.1.1, fun j hj => by rw [f2 66 (by omega)]; exact h.1.2 j hj⟩, by rw [f1 64 (by omega)]; exact h.2.1.1, fun r hr => ?_⟩, fun x e hx c => ?_, ?_⟩
  · rcases wd x hx with e | hx
    · rw [e]
      exact hv
    · exact GX_v gx (ow.1 x hx)
  · by_cases ej : j = i
    · rw [ej, f8e] at e
      have := Option.some.inj e
      omega
    · rw [f8 j ej] at e
      exact ow.2.1 j x hj e
  · by_cases ej : j = i
    · by_cases ej' : j' = i
      · rw [ej, ej']
      · rw [ej, f8e] at e
        rw [f8 j' ej'] at e'
        have h1 := Option.some.inj e
        have h2 := (xlt x (Or.inr ⟨j', hj', e'⟩)).1
        omega
    · by_cases ej' : j' = i
      · rw [ej', f8e] at e'
        rw [f8 j ej] at e
        have h1 := Option.some.inj e'
        have h2 := (xlt x (Or.inr ⟨j, hj, e⟩)).1
        omega
      · rw [f8 j ej] at e
        rw [f8 j' ej'] at e'
        exact ow.2.2.1 j j' x hj hj' e e'
  · rcases wd x hx with e | hx
    · rw [e, fn j] at hq
      cases hq
    · have hl := xlt x hx
      rw [f4 _ (by omega) hl.2] at hq
      obtain ⟨a1, a2, a3⟩ := ow.2.2.2.1 x j q hx hj hq
      refine ⟨a1, GX_w gx a2, fun x' hx' => ?_⟩
      rcases wd x' hx' with e | hx'
      · have := wk_lt a2 a1
        omega
      · exact a3 x' hx'
  · rcases wd x hx with e | hx
    · rw [e, fn j] at hq
      cases hq
    · rcases wd x' hx' with e | hx'
      · rw [e, fn j'] at hq'
        cases hq'
      · have hl := xlt x hx
        have hl' := xlt x' hx'
        rw [f4 _ (by omega) hl.2] at hq
        rw [f4 _ (by omega) hl'.2] at hq'
        exact ow.2.2.2.2 x j q x' j' hx hx' hj hj' hq hq'
  · obtain ⟨q, n, e1, e2, e3⟩ := h.2.1.2 r hr
    refine ⟨q, n, by rw [f4 87 (by omega) (by omega)]; exact e1, GX_l gx e2, LC_fr e3 (fun q' eq _ => ?_)⟩
    have eq : q = q' := Option.some.inj eq
    subst eq
    exact f2 (q + 1) (kd_lt (by rw [lk1 e2]; exact Nat.succ_ne_zero 0))
  · have hl := xlt x hx
    obtain ⟨c1, c2, c3, c4, c5⟩ := c
    refine ⟨CB_of c1 (f1 _ (by omega)) (fun j a b => f2 _ (by omega)), CW_of c2 (f1 _ (by omega)) (fun j a b => f2 _ (by omega)), CP_of c3 (f1 _ (by omega)) (f4 _ (by omega) hl.2) (fun j q w hj a cw => ?_), ?_, ?_⟩
    · have ho := ow.2.2.2.1 x j q hx hj a
      have := wk_lt ho.2.1 ho.1
      exact CW_of cw (f1 _ (by omega)) (fun j a b => f2 _ (by omega))
    · rw [f1 x (by omega)]
      exact c4
    · rw [f1 x (by omega)]
      exact c5
  · obtain ⟨c1, c2, c3, c4, c5⟩ := hcd
    have e1 : T1.1 = (x_nV T G).1.1 := by rw [hT1]; rfl
    have e2 : T1.2.1 = (x_nV T G).1.2.1 := by rw [hT1]; rfl
    refine ⟨CB_of c1 (by rw [e1]) (fun j a b => by rw [e2]), CW_of c2 (by rw [e1]) (fun j a b => by rw [e2]), ?_, by rw [e1]; exact c4, by rw [e1]; exact c5⟩
    obtain ⟨o, ho, a1, a2, a3⟩ := c3
    exact ⟨o, ho, by rw [e1]; exact a1, by rw [e1]; exact a2, fun j w hj => by cases hj⟩
set_option maxRecDepth 100000 in
theorem RG_c {k : Nat} {G G2 : gS} (hG : RG k G) (h1 : G2.2.1 ≤ G.2.1 + 20 + 220) (h2 : G2.2.2 ≤ G.2.2 + 245 + 2780) : RG (k + 1) G2 := ⟨by have := hG.1; omega, by have := hG.2; omega⟩
set_option maxRecDepth 100000 in
theorem RG_c' {k : Nat} {G G2 : gS} (hG : RG k G) (h1 : G2.2.1 ≤ G.2.1 + 220) (h2 : G2.2.2 ≤ G.2.2 + 2780) : RG (k + 1) G2 := ⟨by have := hG.1; omega, by have := hG.2; omega⟩
theorem OkA_i {k i : Nat} {A : AA} (ok : OkA k A) : OkA k (iA A i) := by
  refine ⟨ok.1, ok.2.1, ok.2.2.1, ok.2.2.2.1, fun j d hd => ?_⟩
  have hd : (if j = i then some A.2.2.1 else A.2.2.2 j) = some d := hd
  by_cases e : j = i
  · rw [if_pos e] at hd
    rw [← Option.some.inj hd]
    exact ok.2.2.2.1
  · rw [if_neg e] at hd
    exact ok.2.2.2.2 j d hd
theorem OkA_b' {k i : Nat} {A : AA} {d : AD} (ok : OkA k A) (h : A.2.2.2 i = some d) : OkA k (bA A d) := ⟨ok.1, ok.2.1, ok.2.2.1, ok.2.2.2.2 i d h, ok.2.2.2.2⟩
theorem sm_image {k : Nat} {a : Int32} (A : AA) (ok : OkA k A) : ∃ r A', OkA (k + 1) A' ∧ CallX k (fun n => G149 n a) A r A' ∧ CallM (fun n => F265 n a) A r A' := by
  have ok1 := OkA_s ok
  have okd := ok.2.2.2.1
  rcases i32_cases a with ⟨i, hx, rfl⟩ | hx
  · by_cases hi : i < 4
    · refine ⟨nI (A.2.2.1.2.1.1 0 0), iA A i, OkA_i ok1, ?_, ?_⟩
      · intro T G hR hG
        have ow := hR.2.2.2.2
        have h88 : Wd T 88 := Or.inl rfl
        have him := hR.2.2.2.1 i hi
        refine ep_succ (fun n => G149e0 n ..) ?_
        -- what remains once the copy is made
        have fin : ∀ (T1 : xS) (G1 : gS) (p : Nat) (T2 : xS) (G2 : gS), 172 ≤ p → T1.2.2.2 108 i = some p → OwC T1 G1 → RT A T1 G1 → CD T1 G1 88 A.2.2.1 → (∀ j, j < 4 → j ≠ i → match A.2.2.2 j with
            | none => T1.2.2.2 108 j = none
            | some d => ∃ p, T1.2.2.2 108 j = some p ∧ CD T1 G1 p d) → WI T1 G1 p T2 G2 → CD T2 G2 p A.2.2.1 → RC (iA A i) T2 G2 ∧ T2.1 95 0 = nI (A.2.2.1.2.1.1 0 0) := by
          intro T1 G1 p T2 G2 hp e8 ow1 rt c88 hot wi cp
          have c88' := wi.2.2.1 88 A.2.2.1 (Or.inl rfl) (by omega) c88
          refine ⟨⟨(wi.2.2.2 A rt).1, (wi.2.2.2 A rt).2, c88', fun j hj => ?_, wi.1⟩, c88'.2.1.1⟩
          show match (if j = i then some A.2.2.1 else A.2.2.2 j) with | none => T2.2.2.2 108 j = none | some d => ∃ p, T2.2.2.2 108 j = some p ∧ CD T2 G2 p d
          by_cases ej : j = i
          · rw [if_pos ej]
            exact ⟨p, by rw [wi.2.1 j, ej]; exact e8, cp⟩
          · rw [if_neg ej]
            have := hot j hj ej
            cases hd : A.2.2.2 j with
            | none =>
              rw [hd] at this
              show T2.2.2.2 108 j = none
              rw [wi.2.1 j]
              exact this
            | some d =>
              rw [hd] at this
              obtain ⟨pj, a1, a2⟩ := this
              refine ⟨pj, by rw [wi.2.1 j]; exact a1, wi.2.2.1 pj d (Or.inr ⟨j, hj, a1⟩) (fun e => ?_) a2⟩
              rw [e] at a1
              exact ej (ow1.2.2.1 j i p hj hi a1 e8)
        cases hd : A.2.2.2 i with
        | some d' =>
          rw [hd] at him
          obtain ⟨p, e8, cd⟩ := him
          have h172 := ow.2.1 i p hi e8
          have hp : Wd T p := Or.inr ⟨i, hi, e8⟩
          simp (maxSteps := 1000000) (disch := omega) only [G149b0, L0, L1, L2, L3, L4, L5, L6, L7, L8, L9, L10, L11, L12, L13, L16, L20, L31, L32, L40, L48, L57, L59, L60, L61, L91, L93, L97, L99, L100, L102, L103, L114, L122, L255, L300, L400, L402, L999, L2280, L2500, L99999, L63, L1431655765, L858993459, L252645135, ic_ge, ic_gt, ic_le, ic_lt, ic_eq, ic_ne, if_lt, if_ge, if_gt, if_le, if_eq, if_ne, if_lt_zI, if_ge_zI, ic_ne_m1, ic_eq_m1, ic_nn_m1, ic_ee_m1, if_ne_b2i, if_eq_b2i, b2i_z, decide_eq_true_eq, decide_true, decide_false, Bool.not_eq_true, Bool.not_eq_true', Bool.not_true, Bool.not_false, decide_eq_false_iff_not, Bool.false_eq_true, not_false_eq_true, not_true_eq_false, if_true, if_false, ↓reduceIte, eq_self, Option.bind_some, Bool.true_and, Bool.false_and, Bool.and_true, Bool.and_false, nI_add, nI_subN, nI_clamp, gdF, gdF2, gdP, gdP2, zI_cl, zI_s, Lm1, nI_n0, zI_n0, leF, or_false, false_or, or_self, hi, e8, Option.elim, ow.1 p hp]
          refine ep_bind (g150 ow hp h88 (by omega) hR.2.2.1 cd okd) ?_
          rintro ⟨_, T2, G2⟩ ⟨wi, cp, g1, g2⟩
          have fr := fin T G p T2 G2 h172 e8 ow (RC_RT hR) hR.2.2.1 (fun j hj _ => hR.2.2.2.1 j hj) wi cp
          exact ep_ret ⟨fr.2, fr.1, RG_c' hG g1 g2⟩
        | none =>
          rw [hd] at him
          have him : T.2.2.2 108 i = none := him
          obtain ⟨ow1, rt1, cd1, cd0⟩ := nV_R hi hR him
          obtain ⟨gx, hv, n1, n2, hT, hnone, hcd⟩ := nV_ok (T := T) (G := G)
          have hp : Wd (x_sQ (x_nV T G).1 108 i (some (172 + G.2.1))) (172 + G.2.1) := Or.inr ⟨i, hi, x_rQe⟩
          have h88' : Wd (x_sQ (x_nV T G).1 108 i (some (172 + G.2.1))) 88 := Or.inl rfl
          simp (maxSteps := 1000000) (disch := omega) only [G149b0, L0, L1, L2, L3, L4, L5, L6, L7, L8, L9, L10, L11, L12, L13, L16, L20, L31, L32, L40, L48, L57, L59, L60, L61, L91, L93, L97, L99, L100, L102, L103, L114, L122, L255, L300, L400, L402, L999, L2280, L2500, L99999, L63, L1431655765, L858993459, L252645135, ic_ge, ic_gt, ic_le, ic_lt, ic_eq, ic_ne, if_lt, if_ge, if_gt, if_le, if_eq, if_ne, if_lt_zI, if_ge_zI, ic_ne_m1, ic_eq_m1, ic_nn_m1, ic_ee_m1, if_ne_b2i, if_eq_b2i, b2i_z, decide_eq_true_eq, decide_true, decide_false, Bool.not_eq_true, Bool.not_eq_true', Bool.not_true, Bool.not_false, decide_eq_false_iff_not, Bool.false_eq_true, not_false_eq_true, not_true_eq_false, if_true, if_false, ↓reduceIte, eq_self, Option.bind_some, Bool.true_and, Bool.false_and, Bool.and_true, Bool.and_false, nI_add, nI_subN, nI_clamp, gdF, gdF2, gdP, gdP2, zI_cl, zI_s, Lm1, nI_n0, zI_n0, leF, or_false, false_or, or_self, hi, him, Option.elim, hv, x_rQe]
          refine ep_bind (g150 ow1 hp h88' (by omega) (cd1 88 _ h88 hR.2.2.1) cd0 okd) ?_
          rintro ⟨_, T2, G2⟩ ⟨wi, cp, g1, g2⟩
          have fr := fin _ _ (172 + G.2.1) T2 G2 (by omega) x_rQe ow1 rt1 (cd1 88 _ h88 hR.2.2.1) (fun j hj hji => ?_) wi cp
          · have g1 : G2.2.1 ≤ (x_nV T G).2.2.1 + 220 := g1
            have g2 : G2.2.2 ≤ (x_nV T G).2.2.2 + 2780 := g2
            rw [n1] at g1
            rw [n2] at g2
            exact ep_ret ⟨fr.2, fr.1, RG_c hG g1 g2⟩
          · have hj' := hR.2.2.2.1 j hj
            have e108 : (x_sQ (x_nV T G).1 108 i (some (172 + G.2.1))).2.2.2 108 j = T.2.2.2 108 j := by rw [x_rQi hji, (hT 108 (by omega)).2.2]
            cases hdj : A.2.2.2 j with
            | none =>
              rw [hdj] at hj'
              show (x_sQ (x_nV T G).1 108 i (some (172 + G.2.1))).2.2.2 108 j = none
              rw [e108]
              exact hj'
            | some d =>
              rw [hdj] at hj'
              obtain ⟨pj, a1, a2⟩ := hj'
              exact ⟨pj, by rw [e108]; exact a1, cd1 pj d (Or.inr ⟨j, hj, a1⟩) a2⟩
      · intro S hm
        have hin : inL (nI i).toInt64 0 3 = true := by
          have := inK (a := i) (k := 3) hx (by decide)
          rw [decide_eq_true (by omega)] at this
          exact this
        refine ep_succ (fun n => F265e0 n ..) ?_
        simp only [F265b0]
        refine ep_bv (f172 S) ?_
        rw [hin]
        have hvp : vp_nar .boolean (nI 1) = nI 1 := by decide
        simp (disch := omega) only [if_ne_b2i, L0, L1, L2, L3, L4, L5, L6, L7, L8, L9, L10, L11, L12, L13, L16, L20, L31, L32, L40, L48, L57, L59, L60, L61, L91, L93, L97, L99, L100, L102, L103, L114, L122, L255, L300, L400, L402, L999, L2280, L2500, L99999, L63, L1431655765, L858993459, L252645135, ic_ge, ic_gt, ic_le, ic_lt, ic_eq, ic_ne, if_lt, if_ge, if_gt, if_le, if_eq, if_ne, if_lt_zI, if_ge_zI, ic_ne_m1, ic_eq_m1, ic_nn_m1, ic_ee_m1, if_ne_b2i, if_eq_b2i, b2i_z, decide_eq_true_eq, decide_true, decide_false, Bool.not_eq_true, Bool.not_eq_true', Bool.not_true, Bool.not_false, decide_eq_false_iff_not, Bool.false_eq_true, not_false_eq_true, not_true_eq_false, if_true, if_false, ↓reduceIte, eq_self, Option.bind_some, Bool.true_and, Bool.false_and, Bool.and_true, Bool.and_false, nI_add, nI_subN, nI_clamp, gdF, gdF2, gdP, gdP2, zI_cl, zI_s, Lm1, nI_n0, zI_n0, leF, or_false, false_or, or_self, hvp]
        refine ep_bind (f240s (j := i) (by omega)) ?_
        rintro ⟨_, S1⟩ ⟨z1, z2, z3, z4, z5, z6, z7⟩
        have z1 : ∀ q, q ≠ 56 → q ≠ 57 → S1.1 q = S.1 q := z1
        have z2' : ∀ q, q ≠ 36 → q ≠ 40 → q ≠ 41 → S1.2.1 q = S.2.1 q := fun q a b c => by
          have := z2 q a b
          rw [m_rAn c] at this
          exact this
        have z41 : ∀ j, S1.2.1 41 j = if j = i then nI 1 else S.2.1 41 j := fun j => by
          have := z2 41 (by decide) (by decide)
          show S1.2.1 41 j = _
          rw [show S1.2.1 41 = _ from this]
          by_cases ej : j = i
          · subst ej
            rw [m_rAe, if_pos rfl]
          · rw [m_rAi ej, if_neg ej]
        have z4 : ∀ j, j < 2500 * i ∨ 2500 * i + 2448 ≤ j → S1.2.1 40 j = S.2.1 40 j := fun j hj => by
          have := z4 j hj
          rw [m_rAn (by decide)] at this
          exact this
        have z5 : S1.2.1 40 (2500 * i) = S.1 47 := z5
        have z6 : ∀ k j, 1 ≤ k → k ≤ 15 → j < imL k → imR (S1.2.1 40) i k j = S.2.1 k j := fun k j a b c => by
          have := z6 k j a b c
          rw [m_rAn (by omega)] at this
          exact this
        have z7 : ∀ j, j < 2280 → S1.2.1 40 (2500 * i + (168 + j)) = S.2.1 35 j := fun j hj => by
          have := z7 hi j hj
          rw [m_rAn (by decide)] at this
          exact this
        obtain ⟨t, ⟨r1, r2, r3⟩, hmd, im⟩ := hm
        have e16 : S1.2.1 1 6 = nI (A.2.2.1.2.1.1 0 0) := by rw [z2' 1 (by decide) (by decide) (by decide)]; exact hmd.2.1.2.1
        refine ep_ret ⟨e16, ⟨by rw [z1 26 (by decide) (by decide)]; exact t.1, fun j hj => by rw [z2' 26 (by decide) (by decide) (by decide)]; exact t.2 j hj⟩, ⟨by rw [z1 30 (by decide) (by decide)]; exact r1, by rw [z1 35 (by decide) (by decide)]; exact r2, fun r hr => LMr_of (r3 r hr) (fun k j a b => by rw [z2' k (by omega) (by omega) (by omega)])⟩, MD_r hmd okd (fun k j a b _ => by rw [z2' k (by omega) (by omega) (by omega)]) (z1 47 (by decide) (by decide)) (fun j _ => by rw [z2' 35 (by decide) (by decide) (by decide)]), fun j hj => ?_⟩
        show match (if j = i then some A.2.2.1 else A.2.2.2 j) with | none => S1.2.1 41 j = nI 0 | some d => S1.2.1 41 j = nI 1 ∧ MD (imR (S1.2.1 40) j) (S1.2.1 40 (2500 * j)) (fun l => S1.2.1 40 (2500 * j + (168 + l))) d
        by_cases ej : j = i
        · subst ej
          rw [if_pos rfl]
          exact ⟨by rw [z41, if_pos rfl], MD_r hmd okd (fun k l a b c => z6 k l a b c) z5 (fun l hl => z7 l hl)⟩
        · rw [if_neg ej]
          have := im j hj
          cases hd : A.2.2.2 j with
          | none =>
            rw [hd] at this
            show S1.2.1 41 j = nI 0
            rw [z41, if_neg ej]
            exact this
          | some d =>
            rw [hd] at this
            obtain ⟨q1, q2⟩ := this
            refine ⟨by rw [z41, if_neg ej]; exact q1, MD_r q2 (ok.2.2.2.2 j d hd) (fun k l a b c => ?_) (z4 _ (by omega)) (fun l hl => z4 _ (by omega))⟩
            have := imO_le k b
            unfold imR
            exact z4 _ (by omega)
    · refine ⟨zI 0, A, ok1, fun T G hR hG => ?_, callM_id (fun S hm => ?_)⟩
      · refine ep_succ (fun n => G149e0 n ..) ?_
        simp (disch := omega) only [G149b0, L0, L1, L2, L3, L4, L5, L6, L7, L8, L9, L10, L11, L12, L13, L16, L20, L31, L32, L40, L48, L57, L59, L60, L61, L91, L93, L97, L99, L100, L102, L103, L114, L122, L255, L300, L400, L402, L999, L2280, L2500, L99999, L63, L1431655765, L858993459, L252645135, ic_ge, ic_gt, ic_le, ic_lt, ic_eq, ic_ne, if_lt, if_ge, if_gt, if_le, if_eq, if_ne, if_lt_zI, if_ge_zI, ic_ne_m1, ic_eq_m1, ic_nn_m1, ic_ee_m1, if_ne_b2i, if_eq_b2i, b2i_z, decide_eq_true_eq, decide_true, decide_false, Bool.not_eq_true, Bool.not_eq_true', Bool.not_true, Bool.not_false, decide_eq_false_iff_not, Bool.false_eq_true, not_false_eq_true, not_true_eq_false, if_true, if_false, ↓reduceIte, eq_self, Option.bind_some, Bool.true_and, Bool.false_and, Bool.and_true, Bool.and_false, nI_add, nI_subN, nI_clamp, gdF, gdF2, gdP, gdP2, zI_cl, zI_s, Lm1, nI_n0, zI_n0, leF, or_false, false_or, or_self, hi]
        exact ep_ret ⟨rfl, hR, RG_s hG⟩
      · have hin : inL (nI i).toInt64 0 3 = false := by
          have := inK (a := i) (k := 3) hx (by decide)
          rw [decide_eq_false (by omega)] at this
          exact this
        refine ev_succ (fun n => F265e0 n ..) ?_
        simp only [F265b0]
        refine ev_bind (f172 S) ?_
        rw [hin]
        simp only [if_ne_b2i, decide_eq_true_eq, decide_true, decide_false, Bool.not_eq_true, Bool.not_eq_true', Bool.not_true, Bool.not_false, decide_eq_false_iff_not, Bool.false_eq_true, not_false_eq_true, not_true_eq_false, if_true, if_false, ↓reduceIte, eq_self, Option.bind_some, Bool.true_and, Bool.false_and, Bool.and_true, Bool.and_false]
        exact ev_ret
  · refine ⟨zI 0, A, ok1, fun T G hR hG => ?_, callM_id (fun S hm => ?_)⟩
    · refine ep_succ (fun n => G149e0 n ..) ?_
      simp only [G149b0, (neg_if hx).1, decide_eq_true_eq, decide_true, decide_false, Bool.not_eq_true, Bool.not_eq_true', Bool.not_true, Bool.not_false, decide_eq_false_iff_not, Bool.false_eq_true, not_false_eq_true, not_true_eq_false, if_true, if_false, ↓reduceIte, eq_self, Option.bind_some, Bool.true_and, Bool.false_and, Bool.and_true, Bool.and_false]
      exact ep_ret ⟨rfl, hR, RG_s hG⟩
    · refine ev_succ (fun n => F265e0 n ..) ?_
      simp only [F265b0]
      refine ev_bind (f172 S) ?_
      rw [inL_neg hx]
      simp only [if_ne_b2i, decide_eq_true_eq, decide_true, decide_false, Bool.not_eq_true, Bool.not_eq_true', Bool.not_true, Bool.not_false, decide_eq_false_iff_not, Bool.false_eq_true, not_false_eq_true, not_true_eq_false, if_true, if_false, ↓reduceIte, eq_self, Option.bind_some, Bool.true_and, Bool.false_and, Bool.and_true, Bool.and_false]
      exact ev_ret
theorem sm_back {k : Nat} {a : Int32} (A : AA) (ok : OkA k A) : ∃ r A', OkA (k + 1) A' ∧ CallX k (fun n => G152 n a) A r A' ∧ CallM (fun n => F266 n a) A r A' := by
  have ok1 := OkA_s ok
  rcases i32_cases a with ⟨i, hx, rfl⟩ | hx
  · by_cases hi : i < 4
    · have hin : inL (nI i).toInt64 0 3 = true := by
        have := inK (a := i) (k := 3) hx (by decide)
        rw [decide_eq_true (by omega)] at this
        exact this
      cases hd : A.2.2.2 i with
      | some d =>
        have okd := ok.2.2.2.2 i d hd
        refine ⟨nI (d.2.1.1 0 0), bA A d, OkA_b' ok1 hd, ?_, ?_⟩
        · intro T G hR hG
          have ow := hR.2.2.2.2
          have h88 : Wd T 88 := Or.inl rfl
          have him := hR.2.2.2.1 i hi
          rw [hd] at him
          obtain ⟨p, e8, cd⟩ := him
          have h172 := ow.2.1 i p hi e8
          have hp : Wd T p := Or.inr ⟨i, hi, e8⟩
          refine ep_succ (fun n => G152e0 n ..) ?_
          simp (maxSteps := 1000000) (disch := omega) only [G152b0, L0, L1, L2, L3, L4, L5, L6, L7, L8, L9, L10, L11, L12, L13, L16, L20, L31, L32, L40, L48, L57, L59, L60, L61, L91, L93, L97, L99, L100, L102, L103, L114, L122, L255, L300, L400, L402, L999, L2280, L2500, L99999, L63, L1431655765, L858993459, L252645135, ic_ge, ic_gt, ic_le, ic_lt, ic_eq, ic_ne, if_lt, if_ge, if_gt, if_le, if_eq, if_ne, if_lt_zI, if_ge_zI, ic_ne_m1, ic_eq_m1, ic_nn_m1, ic_ee_m1, if_ne_b2i, if_eq_b2i, b2i_z, decide_eq_true_eq, decide_true, decide_false, Bool.not_eq_true, Bool.not_eq_true', Bool.not_true, Bool.not_false, decide_eq_false_iff_not, Bool.false_eq_true, not_false_eq_true, not_true_eq_false, if_true, if_false, ↓reduceIte, eq_self, Option.bind_some, Bool.true_and, Bool.false_and, Bool.and_true, Bool.and_false, nI_add, nI_subN, nI_clamp, gdF, gdF2, gdP, gdP2, zI_cl, zI_s, Lm1, nI_n0, zI_n0, leF, or_false, false_or, or_self, e8, Option.elim]
          refine ep_bind (g150 ow h88 hp (by omega) cd hR.2.2.1 okd) ?_
          rintro ⟨_, T2, G2⟩ ⟨wi, cp, g1, g2⟩
          have wi : WI T G 88 T2 G2 := wi
          have cp : CD T2 G2 88 d := cp
          refine ep_ret ⟨cp.2.1.1, ⟨(wi.2.2.2 A (RC_RT hR)).1, (wi.2.2.2 A (RC_RT hR)).2, cp, fun j hj => ?_, wi.1⟩, RG_c' hG g1 g2⟩
          · have := hR.2.2.2.1 j hj
            show match A.2.2.2 j with | none => T2.2.2.2 108 j = none | some d => ∃ p, T2.2.2.2 108 j = some p ∧ CD T2 G2 p d
            cases hdj : A.2.2.2 j with
            | none =>
              rw [hdj] at this
              show T2.2.2.2 108 j = none
              rw [wi.2.1 j]
              exact this
            | some dj =>
              rw [hdj] at this
              obtain ⟨pj, a1, a2⟩ := this
              have := ow.2.1 j pj hj a1
              exact ⟨pj, by rw [wi.2.1 j]; exact a1, wi.2.2.1 pj dj (Or.inr ⟨j, hj, a1⟩) (by omega) a2⟩
        · intro S hm
          obtain ⟨t, ⟨r1, r2, r3⟩, hmd, im⟩ := hm
          have himi := im i hi
          rw [hd] at himi
          obtain ⟨q1, q2⟩ := himi
          refine ep_succ (fun n => F266e0 n ..) ?_
          simp only [F266b0]
          refine ep_bv (f172 S) ?_
          rw [hin]
          simp (disch := omega) only [if_eq_b2i, L0, L1, L2, L3, L4, L5, L6, L7, L8, L9, L10, L11, L12, L13, L16, L20, L31, L32, L40, L48, L57, L59, L60, L61, L91, L93, L97, L99, L100, L102, L103, L114, L122, L255, L300, L400, L402, L999, L2280, L2500, L99999, L63, L1431655765, L858993459, L252645135, ic_ge, ic_gt, ic_le, ic_lt, ic_eq, ic_ne, if_lt, if_ge, if_gt, if_le, if_eq, if_ne, if_lt_zI, if_ge_zI, ic_ne_m1, ic_eq_m1, ic_nn_m1, ic_ee_m1, if_ne_b2i, if_eq_b2i, b2i_z, decide_eq_true_eq, decide_true, decide_false, Bool.not_eq_true, Bool.not_eq_true', Bool.not_true, Bool.not_false, decide_eq_false_iff_not, Bool.false_eq_true, not_false_eq_true, not_true_eq_false, if_true, if_false, ↓reduceIte, eq_self, Option.bind_some, Bool.true_and, Bool.false_and, Bool.and_true, Bool.and_false, nI_add, nI_subN, nI_clamp, gdF, gdF2, gdP, gdP2, zI_cl, zI_s, Lm1, nI_n0, zI_n0, leF, or_false, false_or, or_self, q1, Nat.one_ne_zero]
          refine ep_bind (f240b (j := i) (by omega)) ?_
          rintro ⟨_, S1⟩ ⟨z1, z2, z3, z4, z5, z6⟩
          have z1 : ∀ q, q ≠ 56 → q ≠ 57 → q ≠ 47 → S1.1 q = S.1 q := z1
          have z2 : ∀ q, q = 0 ∨ 16 ≤ q → q ≠ 35 → q ≠ 36 → S1.2.1 q = S.2.1 q := z2
          have mdn : MD S1.2.1 (S1.1 47) (S1.2.1 35) d := MD_r q2 okd (fun k j a b c => z4 k j a b c) z3 (fun j hj => z5 hi j hj)
          refine ep_ret ⟨mdn.2.1.2.1, ⟨by rw [z1 26 (by decide) (by decide) (by decide)]; exact t.1, fun j hj => by rw [z2 26 (by decide) (by decide) (by decide)]; exact t.2 j hj⟩, ⟨by rw [z1 30 (by decide) (by decide) (by decide)]; exact r1, by rw [z1 35 (by decide) (by decide) (by decide)]; exact r2, fun r hr => LMr_of (r3 r hr) (fun k j a b => by rw [z2 k (by omega) (by omega) (by omega)])⟩, mdn, IM_r (A := A) ok im (fun j _ => by rw [z2 40 (by decide) (by decide) (by decide)]) (fun j _ => by rw [z2 41 (by decide) (by decide) (by decide)])⟩
      | none =>
        refine ⟨zI 0, A, ok1, fun T G hR hG => ?_, callM_id (fun S hm => ?_)⟩
        · have him := hR.2.2.2.1 i hi
          rw [hd] at him
          have him : T.2.2.2 108 i = none := him
          refine ep_succ (fun n => G152e0 n ..) ?_
          simp (maxSteps := 1000000) (disch := omega) only [G152b0, L0, L1, L2, L3, L4, L5, L6, L7, L8, L9, L10, L11, L12, L13, L16, L20, L31, L32, L40, L48, L57, L59, L60, L61, L91, L93, L97, L99, L100, L102, L103, L114, L122, L255, L300, L400, L402, L999, L2280, L2500, L99999, L63, L1431655765, L858993459, L252645135, ic_ge, ic_gt, ic_le, ic_lt, ic_eq, ic_ne, if_lt, if_ge, if_gt, if_le, if_eq, if_ne, if_lt_zI, if_ge_zI, ic_ne_m1, ic_eq_m1, ic_nn_m1, ic_ee_m1, if_ne_b2i, if_eq_b2i, b2i_z, decide_eq_true_eq, decide_true, decide_false, Bool.not_eq_true, Bool.not_eq_true', Bool.not_true, Bool.not_false, decide_eq_false_iff_not, Bool.false_eq_true, not_false_eq_true, not_true_eq_false, if_true, if_false, ↓reduceIte, eq_self, Option.bind_some, Bool.true_and, Bool.false_and, Bool.and_true, Bool.and_false, nI_add, nI_subN, nI_clamp, gdF, gdF2, gdP, gdP2, zI_cl, zI_s, Lm1, nI_n0, zI_n0, leF, or_false, false_or, or_self, him, Option.elim]
          exact ep_ret ⟨rfl, hR, RG_s hG⟩
        · have himi := hm.2.2.2 i hi
          rw [hd] at himi
          have himi : S.2.1 41 i = nI 0 := himi
          refine ev_succ (fun n => F266e0 n ..) ?_
          simp only [F266b0]
          refine ev_bind (f172 S) ?_
          rw [hin]
          simp (disch := omega) only [if_eq_b2i, L0, L1, L2, L3, L4, L5, L6, L7, L8, L9, L10, L11, L12, L13, L16, L20, L31, L32, L40, L48, L57, L59, L60, L61, L91, L93, L97, L99, L100, L102, L103, L114, L122, L255, L300, L400, L402, L999, L2280, L2500, L99999, L63, L1431655765, L858993459, L252645135, ic_ge, ic_gt, ic_le, ic_lt, ic_eq, ic_ne, if_lt, if_ge, if_gt, if_le, if_eq, if_ne, if_lt_zI, if_ge_zI, ic_ne_m1, ic_eq_m1, ic_nn_m1, ic_ee_m1, if_ne_b2i, if_eq_b2i, b2i_z, decide_eq_true_eq, decide_true, decide_false, Bool.not_eq_true, Bool.not_eq_true', Bool.not_true, Bool.not_false, decide_eq_false_iff_not, Bool.false_eq_true, not_false_eq_true, not_true_eq_false, if_true, if_false, ↓reduceIte, eq_self, Option.bind_some, Bool.true_and, Bool.false_and, Bool.and_true, Bool.and_false, nI_add, nI_subN, nI_clamp, gdF, gdF2, gdP, gdP2, zI_cl, zI_s, Lm1, nI_n0, zI_n0, leF, or_false, false_or, or_self, himi]
          exact ev_ret
    · refine ⟨zI 0, A, ok1, fun T G hR hG => ?_, callM_id (fun S hm => ?_)⟩
      · have e : 4 ≤ i := by omega
        refine ep_succ (fun n => G152e0 n ..) ?_
        simp (disch := omega) only [G152b0, L0, L1, L2, L3, L4, L5, L6, L7, L8, L9, L10, L11, L12, L13, L16, L20, L31, L32, L40, L48, L57, L59, L60, L61, L91, L93, L97, L99, L100, L102, L103, L114, L122, L255, L300, L400, L402, L999, L2280, L2500, L99999, L63, L1431655765, L858993459, L252645135, ic_ge, ic_gt, ic_le, ic_lt, ic_eq, ic_ne, if_lt, if_ge, if_gt, if_le, if_eq, if_ne, if_lt_zI, if_ge_zI, ic_ne_m1, ic_eq_m1, ic_nn_m1, ic_ee_m1, if_ne_b2i, if_eq_b2i, b2i_z, decide_eq_true_eq, decide_true, decide_false, Bool.not_eq_true, Bool.not_eq_true', Bool.not_true, Bool.not_false, decide_eq_false_iff_not, Bool.false_eq_true, not_false_eq_true, not_true_eq_false, if_true, if_false, ↓reduceIte, eq_self, Option.bind_some, Bool.true_and, Bool.false_and, Bool.and_true, Bool.and_false, nI_add, nI_subN, nI_clamp, gdF, gdF2, gdP, gdP2, zI_cl, zI_s, Lm1, nI_n0, zI_n0, leF, or_false, false_or, or_self, e]
        exact ep_ret ⟨rfl, hR, RG_s hG⟩
      · have hin : inL (nI i).toInt64 0 3 = false := by
          have := inK (a := i) (k := 3) hx (by decide)
          rw [decide_eq_false (by omega)] at this
          exact this
        refine ev_succ (fun n => F266e0 n ..) ?_
        simp only [F266b0]
        refine ev_bind (f172 S) ?_
        rw [hin]
        simp only [if_eq_b2i, decide_eq_true_eq, decide_true, decide_false, Bool.not_eq_true, Bool.not_eq_true', Bool.not_true, Bool.not_false, decide_eq_false_iff_not, Bool.false_eq_true, not_false_eq_true, not_true_eq_false, if_true, if_false, ↓reduceIte, eq_self, Option.bind_some, Bool.true_and, Bool.false_and, Bool.and_true, Bool.and_false]
        exact ev_ret
  · refine ⟨zI 0, A, ok1, fun T G hR hG => ?_, callM_id (fun S hm => ?_)⟩
    · refine ep_succ (fun n => G152e0 n ..) ?_
      simp only [G152b0, (neg_if hx).1, decide_eq_true_eq, decide_true, decide_false, Bool.not_eq_true, Bool.not_eq_true', Bool.not_true, Bool.not_false, decide_eq_false_iff_not, Bool.false_eq_true, not_false_eq_true, not_true_eq_false, if_true, if_false, ↓reduceIte, eq_self, Option.bind_some, Bool.true_and, Bool.false_and, Bool.and_true, Bool.and_false]
      exact ep_ret ⟨rfl, hR, RG_s hG⟩
    · refine ev_succ (fun n => F266e0 n ..) ?_
      simp only [F266b0]
      refine ev_bind (f172 S) ?_
      rw [inL_neg hx]
      simp only [if_eq_b2i, decide_eq_true_eq, decide_true, decide_false, Bool.not_eq_true, Bool.not_eq_true', Bool.not_true, Bool.not_false, decide_eq_false_iff_not, Bool.false_eq_true, not_false_eq_true, not_true_eq_false, if_true, if_false, ↓reduceIte, eq_self, Option.bind_some, Bool.true_and, Bool.false_and, Bool.and_true, Bool.and_false]
      exact ev_ret
