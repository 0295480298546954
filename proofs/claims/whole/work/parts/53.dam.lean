/-! dam, net, undo -/
theorem keepM2 {k : Nat} {A : AA} {S : mS} (ok : OkA k A) (h : RM A S) : Ep (fun n => F211 n S) (fun z => RM (kA A) z.2 ∧ (∀ q, q ≠ 35 → z.2.2.1 q = S.2.1 q)) := by
  have ok1 := ok.2.2.2.1
  obtain ⟨r, e, h1⟩ := keepM ok h
  obtain ⟨r', e', h2⟩ := f211 h.2.2.1.2.1 (OkD_n ok1) h.2.2.1.2.2.2.1 h.2.2.1.2.2.1 ok1.2.2.2.1 (fun j v hj => ⟨(OkD_p ok1 hj).2.1, (OkD_p ok1 hj).2.2⟩)
  have := ev_fun e e'
  subst this
  exact ⟨r, e, h1, h2.2.1⟩
theorem RG_k {k : Nat} {G G1 : gS} (hG : RG k G) (h1 : G1.2.1 ≤ G.2.1 + 11) (h2 : G1.2.2 ≤ G.2.2 + 139) : RG (k + 1) G1 := ⟨by have := hG.1; omega, by have := hG.2; omega⟩
theorem dam_is {b : AB} {w : AW} {c : Nat} : (damN b w c = 0 ∧ b 4 c = 0 ∧ isShA b w c = false) ∨ (damN b w c = 1 ∧ b 4 c ≠ 0 ∧ isShA b w c = false) ∨ (damN b w c = 2 ∧ b 4 c ≠ 0 ∧ isShA b w c = true) := by
  unfold damN isShA
  by_cases h : b 4 c = 0
  · simp [h]
  · cases hs : shutB w.2 (b 4 c - 1) <;> simp [h]
theorem sm_dam {k x : Nat} {a : Int32} (hx2 : x = 0 ∨ x = 1) (A : AA) (ok : OkA k A) : ∃ r A', OkA (k + 1) A' ∧ CallX k (fun n => G104 n a (nI x)) A r A' ∧ CallM (fun n => F234 n a (nI x)) A r A' := by
  have ok1 := OkA_s ok
  have hb := OkA_b ok
  have kw := OkA_w ok
  have hb1 := hb.1
  have hD := ok.2.2.2.1.2.2.1 A.2.2.1.2.1 (Or.inl rfl)
  have no1 : ∀ T G, RC A T G → Ev (fun n => G75 n a T) (b2i false, T) → RG k G → Ep (fun n => G104 n a (nI x) (T, G)) (fun z => z.1 = nI 0 ∧ RC A z.2.1 z.2.2 ∧ RG (k + 1) z.2.2) := by
    intro T G hc h1 hG
    refine ep_succ (fun n => G104e0 n ..) ?_
    rcases hx2 with rfl | rfl
    · simp (disch := omega) only [G104b0, if_eq, decide_eq_true_eq, decide_true, decide_false, Bool.not_eq_true, Bool.not_eq_true', Bool.not_true, Bool.not_false, decide_eq_false_iff_not, Bool.false_eq_true, not_false_eq_true, not_true_eq_false, if_true, if_false, ↓reduceIte, eq_self, Option.bind_some, Bool.true_and, Bool.false_and, Bool.and_true, Bool.and_false]
      refine ep_bv h1 ?_
      simp only [if_eq_b2i, decide_eq_true_eq, decide_true, decide_false, Bool.not_eq_true, Bool.not_eq_true', Bool.not_true, Bool.not_false, decide_eq_false_iff_not, Bool.false_eq_true, not_false_eq_true, not_true_eq_false, if_true, if_false, ↓reduceIte, eq_self, Option.bind_some, Bool.true_and, Bool.false_and, Bool.and_true, Bool.and_false]
      exact ep_ret ⟨rfl, hc, RG_s hG⟩
    · simp (disch := omega) only [G104b0, if_eq, Nat.one_ne_zero, decide_eq_true_eq, decide_true, decide_false, Bool.not_eq_true, Bool.not_eq_true', Bool.not_true, Bool.not_false, decide_eq_false_iff_not, Bool.false_eq_true, not_false_eq_true, not_true_eq_false, if_true, if_false, ↓reduceIte, eq_self, Option.bind_some, Bool.true_and, Bool.false_and, Bool.and_true, Bool.and_false]
      refine ep_bv h1 ?_
      simp only [if_eq_b2i, decide_eq_true_eq, decide_true, decide_false, Bool.not_eq_true, Bool.not_eq_true', Bool.not_true, Bool.not_false, decide_eq_false_iff_not, Bool.false_eq_true, not_false_eq_true, not_true_eq_false, if_true, if_false, ↓reduceIte, eq_self, Option.bind_some, Bool.true_and, Bool.false_and, Bool.and_true, Bool.and_false]
      exact ep_ret ⟨rfl, hc, RG_s hG⟩
  have no2 : ∀ S, Ev (fun n => F196 n a S) (b2i false, S) → Ev (fun n => F234 n a (nI x) S) (nI 0, S) := by
    intro S h1
    refine ev_succ (fun n => F234e0 n ..) ?_
    simp only [F234b0]
    refine ev_bind h1 ?_
    simp only [if_eq_b2i, decide_eq_true_eq, decide_true, decide_false, Bool.not_eq_true, Bool.not_eq_true', Bool.not_true, Bool.not_false, decide_eq_false_iff_not, Bool.false_eq_true, not_false_eq_true, not_true_eq_false, if_true, if_false, ↓reduceIte, eq_self, Option.bind_some, Bool.true_and, Bool.false_and, Bool.and_true, Bool.and_false]
    exact ev_ret
  rcases i32_cases a with ⟨c, hx, rfl⟩ | hx
  · by_cases hc : c < A.2.2.1.1 0 0
    · obtain ⟨b1, b2, b3, b4⟩ := hb.2.2.2.1 c hc
      have hb4 := hb.2.2.1
      by_cases hgo : A.2.2.1.1 4 c ≠ 0 ∧ isShA A.2.2.1.1 A.2.2.1.2.1 c = decide (x = 1)
      · obtain ⟨g1, g2⟩ := hgo
        obtain ⟨d, hd⟩ : ∃ d, A.2.2.1.1 4 c = d + 1 := ⟨A.2.2.1.1 4 c - 1, by omega⟩
        refine ⟨nI 1, wA (kA A) (A.2.2.1.2.1.1, A.2.2.1.2.1.2 ^^^ (nI 1 <<< (nI d &&& nI 31))), OkA_wk ok ⟨kw, hD.2.1, by have := hD.2.2.1; show A.2.2.1.2.1.1 0 0 ≤ _; omega, hD.2.2.2.1, hD.2.2.2.2⟩, ?_, ?_⟩
        · intro T G hR hG
          have hdm := g77 (CD_b hR) hb (CD_w hR) hc
          refine ep_succ (fun n => G104e0 n ..) ?_
          have fin : Ep (fun n => (G83 106 95 n (T, G)).bind (fun z11 => (if ¬ ((nI c) < 0 ∨ 16 ≤ ((nI c)).toNatClampNeg) then some ((1 : Int32), ((x_sI z11.2.1 95 2 ((z11.2.1.1 95 2) ^^^ (1 <<< ((z11.2.1.2.1 93 (Int32.toNatClampNeg (nI c))) &&& 31)))), z11.2.2)) else none))) (fun z => z.1 = nI 1 ∧ RC (wA (kA A) (A.2.2.1.2.1.1, A.2.2.1.2.1.2 ^^^ (nI 1 <<< (nI d &&& nI 31)))) z.2.1 z.2.2 ∧ RG (k + 1) z.2.2) := by
            refine ep_bind (keepX ok hR) ?_
            rintro ⟨_, T1, G1⟩ ⟨hc1, hg1, hg2⟩
            have hc1 : RC (kA A) T1 G1 := hc1
            have cw1 : CW T1 95 A.2.2.1.2.1 := CD_w (A := kA A) hc1
            have cb1 : CB T1 89 A.2.2.1.1 := CD_b (A := kA A) hc1
            have e93 : T1.2.1 93 c = nI d := by
              have := (cb1.2.2.2.1 c hc).2.2.2
              rw [hd, zI_s] at this
              exact this
            have e952 : T1.1 95 2 = A.2.2.1.2.1.2 := cw1.2.2.1
            simp (disch := omega) only [L0, L1, L2, L3, L4, L5, L6, L7, L8, L9, L10, L11, L12, L13, L16, L20, L31, L32, L40, L48, L57, L59, L60, L61, L91, L93, L97, L99, L100, L102, L103, L114, L122, L255, L300, L400, L402, L999, L2280, L2500, L99999, L63, L1431655765, L858993459, L252645135, ic_ge, ic_gt, ic_le, ic_lt, ic_eq, ic_ne, if_lt, if_ge, if_gt, if_le, if_eq, if_ne, if_lt_zI, if_ge_zI, ic_ne_m1, ic_eq_m1, ic_nn_m1, ic_ee_m1, if_ne_b2i, if_eq_b2i, b2i_z, decide_eq_true_eq, decide_true, decide_false, Bool.not_eq_true, Bool.not_eq_true', Bool.not_true, Bool.not_false, decide_eq_false_iff_not, Bool.false_eq_true, not_false_eq_true, not_true_eq_false, if_true, if_false, ↓reduceIte, eq_self, Option.bind_some, Bool.true_and, Bool.false_and, Bool.and_true, Bool.and_false, nI_add, nI_subN, nI_clamp, gdF, gdF2, gdP, gdP2, zI_cl, zI_s, Lm1, nI_n0, zI_n0, leF, or_false, false_or, or_self, e93, e952]
            refine ep_ret ⟨rfl, RC_w hc1 ?_ (fun q qa qb => ⟨x_rIn (by omega), rfl⟩) (fun q _ => rfl), RG_k hG hg1 hg2⟩
            obtain ⟨v0, v1, v2, v3, v4, v5⟩ := cw1
            exact ⟨by rw [x_rIi (by decide)]; exact v0, by rw [x_rIi (by decide)]; exact v1, x_rIe, v3, v4, v5⟩
          rcases hx2 with rfl | rfl
          · have h2 : damN A.2.2.1.1 A.2.2.1.2.1 c = 1 := by
              rcases dam_is (b := A.2.2.1.1) (w := A.2.2.1.2.1) (c := c) with ⟨_, h, _⟩ | ⟨h, _⟩ | ⟨_, _, h⟩
              · exact absurd h g1
              · exact h
              · rw [h] at g2
                cases g2
            rw [h2] at hdm
            simp (disch := omega) only [G104b0, if_eq, decide_eq_true_eq, decide_true, decide_false, Bool.not_eq_true, Bool.not_eq_true', Bool.not_true, Bool.not_false, decide_eq_false_iff_not, Bool.false_eq_true, not_false_eq_true, not_true_eq_false, if_true, if_false, ↓reduceIte, eq_self, Option.bind_some, Bool.true_and, Bool.false_and, Bool.and_true, Bool.and_false]
            refine ep_bv (g75n ok hR hx) ?_
            simp only [hc, if_eq_b2i, decide_eq_true_eq, decide_true, decide_false, Bool.not_eq_true, Bool.not_eq_true', Bool.not_true, Bool.not_false, decide_eq_false_iff_not, Bool.false_eq_true, not_false_eq_true, not_true_eq_false, if_true, if_false, ↓reduceIte, eq_self, Option.bind_some, Bool.true_and, Bool.false_and, Bool.and_true, Bool.and_false]
            refine ep_bv hdm ?_
            simp (disch := omega) only [if_eq, Nat.one_ne_zero, decide_eq_true_eq, decide_true, decide_false, Bool.not_eq_true, Bool.not_eq_true', Bool.not_true, Bool.not_false, decide_eq_false_iff_not, Bool.false_eq_true, not_false_eq_true, not_true_eq_false, if_true, if_false, ↓reduceIte, eq_self, Option.bind_some, Bool.true_and, Bool.false_and, Bool.and_true, Bool.and_false]
            refine ep_bv hdm ?_
            have e12 : am_ic .ne (nI 1) 2 = true := by decide
            simp only [e12, decide_eq_true_eq, decide_true, decide_false, Bool.not_eq_true, Bool.not_eq_true', Bool.not_true, Bool.not_false, decide_eq_false_iff_not, Bool.false_eq_true, not_false_eq_true, not_true_eq_false, if_true, if_false, ↓reduceIte, eq_self, Option.bind_some, Bool.true_and, Bool.false_and, Bool.and_true, Bool.and_false]
            exact fin
          · have h2 : damN A.2.2.1.1 A.2.2.1.2.1 c = 2 := by
              rcases dam_is (b := A.2.2.1.1) (w := A.2.2.1.2.1) (c := c) with ⟨_, h, _⟩ | ⟨_, _, h⟩ | ⟨h, _⟩
              · exact absurd h g1
              · rw [h] at g2
                cases g2
              · exact h
            rw [h2] at hdm
            simp (disch := omega) only [G104b0, if_eq, Nat.one_ne_zero, decide_eq_true_eq, decide_true, decide_false, Bool.not_eq_true, Bool.not_eq_true', Bool.not_true, Bool.not_false, decide_eq_false_iff_not, Bool.false_eq_true, not_false_eq_true, not_true_eq_false, if_true, if_false, ↓reduceIte, eq_self, Option.bind_some, Bool.true_and, Bool.false_and, Bool.and_true, Bool.and_false]
            refine ep_bv (g75n ok hR hx) ?_
            simp only [hc, if_eq_b2i, decide_eq_true_eq, decide_true, decide_false, Bool.not_eq_true, Bool.not_eq_true', Bool.not_true, Bool.not_false, decide_eq_false_iff_not, Bool.false_eq_true, not_false_eq_true, not_true_eq_false, if_true, if_false, ↓reduceIte, eq_self, Option.bind_some, Bool.true_and, Bool.false_and, Bool.and_true, Bool.and_false]
            refine ep_bv hdm ?_
            have e20 : am_if .eq (nI 2) = false := by decide
            simp only [e20, decide_eq_true_eq, decide_true, decide_false, Bool.not_eq_true, Bool.not_eq_true', Bool.not_true, Bool.not_false, decide_eq_false_iff_not, Bool.false_eq_true, not_false_eq_true, not_true_eq_false, if_true, if_false, ↓reduceIte, eq_self, Option.bind_some, Bool.true_and, Bool.false_and, Bool.and_true, Bool.and_false]
            refine ep_bv hdm ?_
            have e12 : am_ic .ne (nI 2) 1 = true := by decide
            simp only [e12, decide_eq_true_eq, decide_true, decide_false, Bool.not_eq_true, Bool.not_eq_true', Bool.not_true, Bool.not_false, decide_eq_false_iff_not, Bool.false_eq_true, not_false_eq_true, not_true_eq_false, if_true, if_false, ↓reduceIte, eq_self, Option.bind_some, Bool.true_and, Bool.false_and, Bool.and_true, Bool.and_false]
            exact fin
        · intro S hm
          refine ep_succ (fun n => F234e0 n ..) ?_
          simp only [F234b0]
          refine ep_bv (f196n ok hm hx) ?_
          simp only [hc, if_eq_b2i, decide_eq_true_eq, decide_true, decide_false, Bool.not_eq_true, Bool.not_eq_true', Bool.not_true, Bool.not_false, decide_eq_false_iff_not, Bool.false_eq_true, not_false_eq_true, not_true_eq_false, if_true, if_false, ↓reduceIte, eq_self, Option.bind_some, Bool.true_and, Bool.false_and, Bool.and_true, Bool.and_false]
          refine ep_bv (f198 (MD_b hm) hb hc) ?_
          have hz : ¬ d + 1 = 0 := by omega
          simp (disch := omega) only [hd, L0, L1, L2, L3, L4, L5, L6, L7, L8, L9, L10, L11, L12, L13, L16, L20, L31, L32, L40, L48, L57, L59, L60, L61, L91, L93, L97, L99, L100, L102, L103, L114, L122, L255, L300, L400, L402, L999, L2280, L2500, L99999, L63, L1431655765, L858993459, L252645135, ic_ge, ic_gt, ic_le, ic_lt, ic_eq, ic_ne, if_lt, if_ge, if_gt, if_le, if_eq, if_ne, if_lt_zI, if_ge_zI, ic_ne_m1, ic_eq_m1, ic_nn_m1, ic_ee_m1, if_ne_b2i, if_eq_b2i, b2i_z, decide_eq_true_eq, decide_true, decide_false, Bool.not_eq_true, Bool.not_eq_true', Bool.not_true, Bool.not_false, decide_eq_false_iff_not, Bool.false_eq_true, not_false_eq_true, not_true_eq_false, if_true, if_false, ↓reduceIte, eq_self, Option.bind_some, Bool.true_and, Bool.false_and, Bool.and_true, Bool.and_false, nI_add, nI_subN, nI_clamp, gdF, gdF2, gdP, gdP2, zI_cl, zI_s, Lm1, nI_n0, zI_n0, leF, or_false, false_or, or_self]
          refine ep_bv (f215 (MD_b hm) hb (MD_w hm) hc) ?_
          rw [g2]
          have ex : am_ic .eq (b2i (decide (x = 1))) (nI x) = true := by
            rcases hx2 with rfl | rfl <;> decide
          simp only [ex, decide_eq_true_eq, decide_true, decide_false, Bool.not_eq_true, Bool.not_eq_true', Bool.not_true, Bool.not_false, decide_eq_false_iff_not, Bool.false_eq_true, not_false_eq_true, not_true_eq_false, if_true, if_false, ↓reduceIte, eq_self, Option.bind_some, Bool.true_and, Bool.false_and, Bool.and_true, Bool.and_false]
          refine ep_bind (keepM2 ok hm) ?_
          rintro ⟨_, S1⟩ ⟨hm1, hrow⟩
          have hm1 : RM (kA A) S1 := hm1
          refine ep_bv (f198 (b := A.2.2.1.1) (MD_b (A := kA A) hm1) hb hc) ?_
          have e15 : S1.2.1 1 5 = A.2.2.1.2.1.2 := (MD_w (A := kA A) hm1).2.2.1
          simp only [hd, zI_s, e15, L0, L1, L2, L3, L4, L5, L6, L7, L8, L9, L10, L11, L12, L13, L16, L20, L31, L32, L40, L48, L57, L59, L60, L61, L91, L93, L97, L99, L100, L102, L103, L114, L122, L255, L300, L400, L402, L999, L2280, L2500, L99999, L63, L1431655765, L858993459, L252645135]
          refine ep_ret ⟨rfl, RM_w (OkA_k ok) hm1 ?_ ⟨rfl, rfl, rfl, rfl⟩ (fun k i hk => ?_)⟩
          · have hw1 : MW S1.2.1 A.2.2.1.2.1 := MD_w (A := kA A) hm1
            obtain ⟨v0, v1, v2, v3, v4, v5⟩ := hw1
            refine ⟨?_, ?_, m_rAe, fun s hs => ?_, fun i hi => ?_, ?_⟩
            · simp (disch := omega) only [m_rA1, m_rA3, m_rAe, m_rAn, m_rAi, m_rI2, m_rIe, m_rIn, m_rL1, m_rL2, m_rLe, m_rLi, m_rLn]
              exact v0
            · simp (disch := omega) only [m_rA1, m_rA3, m_rAe, m_rAn, m_rAi, m_rI2, m_rIe, m_rIn, m_rL1, m_rL2, m_rLe, m_rLi, m_rLn]
              exact v1
            · simp (disch := omega) only [m_rA1, m_rA3, m_rAe, m_rAn, m_rAi, m_rI2, m_rIe, m_rIn, m_rL1, m_rL2, m_rLe, m_rLi, m_rLn]
              exact v3 s hs
            · simp (disch := omega) only [m_rA1, m_rA3, m_rAe, m_rAn, m_rAi, m_rI2, m_rIe, m_rIn, m_rL1, m_rL2, m_rLe, m_rLi, m_rLn]
              exact v4 i hi
            · exact MN_fr v5 (by simp (disch := omega) only [m_rA1, m_rA3, m_rAe, m_rAn, m_rAi, m_rI2, m_rIe, m_rIn, m_rL1, m_rL2, m_rLe, m_rLi, m_rLn]) (fun i => by simp (disch := omega) only [m_rA1, m_rA3, m_rAe, m_rAn, m_rAi, m_rI2, m_rIe, m_rIn, m_rL1, m_rL2, m_rLe, m_rLi, m_rLn]) (fun i => by simp (disch := omega) only [m_rA1, m_rA3, m_rAe, m_rAn, m_rAi, m_rI2, m_rIe, m_rIn, m_rL1, m_rL2, m_rLe, m_rLi, m_rLn]) (fun _ => rfl)
          · by_cases e : k = 1
            · subst e
              exact m_rAi (by omega)
            · rw [m_rAn e]
      · refine ⟨nI 0, A, ok1, fun T G hR hG => ?_, callM_id (fun S hm => ?_)⟩
        · have hdm := g77 (CD_b hR) hb (CD_w hR) hc
          refine ep_succ (fun n => G104e0 n ..) ?_
          rcases dam_is (b := A.2.2.1.1) (w := A.2.2.1.2.1) (c := c) with ⟨h2, h3, h4⟩ | ⟨h2, h3, h4⟩ | ⟨h2, h3, h4⟩
          · rw [h2] at hdm
            rcases hx2 with rfl | rfl
            · simp (disch := omega) only [G104b0, if_eq, decide_eq_true_eq, decide_true, decide_false, Bool.not_eq_true, Bool.not_eq_true', Bool.not_true, Bool.not_false, decide_eq_false_iff_not, Bool.false_eq_true, not_false_eq_true, not_true_eq_false, if_true, if_false, ↓reduceIte, eq_self, Option.bind_some, Bool.true_and, Bool.false_and, Bool.and_true, Bool.and_false]
              refine ep_bv (g75n ok hR hx) ?_
              simp only [hc, if_eq_b2i, decide_eq_true_eq, decide_true, decide_false, Bool.not_eq_true, Bool.not_eq_true', Bool.not_true, Bool.not_false, decide_eq_false_iff_not, Bool.false_eq_true, not_false_eq_true, not_true_eq_false, if_true, if_false, ↓reduceIte, eq_self, Option.bind_some, Bool.true_and, Bool.false_and, Bool.and_true, Bool.and_false]
              refine ep_bv hdm ?_
              simp (disch := omega) only [if_eq, decide_eq_true_eq, decide_true, decide_false, Bool.not_eq_true, Bool.not_eq_true', Bool.not_true, Bool.not_false, decide_eq_false_iff_not, Bool.false_eq_true, not_false_eq_true, not_true_eq_false, if_true, if_false, ↓reduceIte, eq_self, Option.bind_some, Bool.true_and, Bool.false_and, Bool.and_true, Bool.and_false]
              exact ep_ret ⟨rfl, hR, RG_s hG⟩
            · simp (disch := omega) only [G104b0, if_eq, Nat.one_ne_zero, decide_eq_true_eq, decide_true, decide_false, Bool.not_eq_true, Bool.not_eq_true', Bool.not_true, Bool.not_false, decide_eq_false_iff_not, Bool.false_eq_true, not_false_eq_true, not_true_eq_false, if_true, if_false, ↓reduceIte, eq_self, Option.bind_some, Bool.true_and, Bool.false_and, Bool.and_true, Bool.and_false]
              refine ep_bv (g75n ok hR hx) ?_
              simp only [hc, if_eq_b2i, decide_eq_true_eq, decide_true, decide_false, Bool.not_eq_true, Bool.not_eq_true', Bool.not_true, Bool.not_false, decide_eq_false_iff_not, Bool.false_eq_true, not_false_eq_true, not_true_eq_false, if_true, if_false, ↓reduceIte, eq_self, Option.bind_some, Bool.true_and, Bool.false_and, Bool.and_true, Bool.and_false]
              refine ep_bv hdm ?_
              simp (disch := omega) only [if_eq, decide_eq_true_eq, decide_true, decide_false, Bool.not_eq_true, Bool.not_eq_true', Bool.not_true, Bool.not_false, decide_eq_false_iff_not, Bool.false_eq_true, not_false_eq_true, not_true_eq_false, if_true, if_false, ↓reduceIte, eq_self, Option.bind_some, Bool.true_and, Bool.false_and, Bool.and_true, Bool.and_false]
              exact ep_ret ⟨rfl, hR, RG_s hG⟩
          · rw [h2] at hdm
            rcases hx2 with rfl | rfl
            · exact absurd ⟨h3, h4⟩ hgo
            · simp (disch := omega) only [G104b0, if_eq, Nat.one_ne_zero, decide_eq_true_eq, decide_true, decide_false, Bool.not_eq_true, Bool.not_eq_true', Bool.not_true, Bool.not_false, decide_eq_false_iff_not, Bool.false_eq_true, not_false_eq_true, not_true_eq_false, if_true, if_false, ↓reduceIte, eq_self, Option.bind_some, Bool.true_and, Bool.false_and, Bool.and_true, Bool.and_false]
              refine ep_bv (g75n ok hR hx) ?_
              simp only [hc, if_eq_b2i, decide_eq_true_eq, decide_true, decide_false, Bool.not_eq_true, Bool.not_eq_true', Bool.not_true, Bool.not_false, decide_eq_false_iff_not, Bool.false_eq_true, not_false_eq_true, not_true_eq_false, if_true, if_false, ↓reduceIte, eq_self, Option.bind_some, Bool.true_and, Bool.false_and, Bool.and_true, Bool.and_false]
              refine ep_bv hdm ?_
              simp (disch := omega) only [if_eq, Nat.one_ne_zero, decide_eq_true_eq, decide_true, decide_false, Bool.not_eq_true, Bool.not_eq_true', Bool.not_true, Bool.not_false, decide_eq_false_iff_not, Bool.false_eq_true, not_false_eq_true, not_true_eq_false, if_true, if_false, ↓reduceIte, eq_self, Option.bind_some, Bool.true_and, Bool.false_and, Bool.and_true, Bool.and_false]
              refine ep_bv hdm ?_
              have e12 : am_ic .ne (nI 1) 1 = false := by decide
              simp only [e12, decide_eq_true_eq, decide_true, decide_false, Bool.not_eq_true, Bool.not_eq_true', Bool.not_true, Bool.not_false, decide_eq_false_iff_not, Bool.false_eq_true, not_false_eq_true, not_true_eq_false, if_true, if_false, ↓reduceIte, eq_self, Option.bind_some, Bool.true_and, Bool.false_and, Bool.and_true, Bool.and_false]
              exact ep_ret ⟨rfl, hR, RG_s hG⟩
          · rw [h2] at hdm
            rcases hx2 with rfl | rfl
            · simp (disch := omega) only [G104b0, if_eq, decide_eq_true_eq, decide_true, decide_false, Bool.not_eq_true, Bool.not_eq_true', Bool.not_true, Bool.not_false, decide_eq_false_iff_not, Bool.false_eq_true, not_false_eq_true, not_true_eq_false, if_true, if_false, ↓reduceIte, eq_self, Option.bind_some, Bool.true_and, Bool.false_and, Bool.and_true, Bool.and_false]
              refine ep_bv (g75n ok hR hx) ?_
              simp only [hc, if_eq_b2i, decide_eq_true_eq, decide_true, decide_false, Bool.not_eq_true, Bool.not_eq_true', Bool.not_true, Bool.not_false, decide_eq_false_iff_not, Bool.false_eq_true, not_false_eq_true, not_true_eq_false, if_true, if_false, ↓reduceIte, eq_self, Option.bind_some, Bool.true_and, Bool.false_and, Bool.and_true, Bool.and_false]
              refine ep_bv hdm ?_
              have e20 : am_if .eq (nI 2) = false := by decide
              simp only [e20, decide_eq_true_eq, decide_true, decide_false, Bool.not_eq_true, Bool.not_eq_true', Bool.not_true, Bool.not_false, decide_eq_false_iff_not, Bool.false_eq_true, not_false_eq_true, not_true_eq_false, if_true, if_false, ↓reduceIte, eq_self, Option.bind_some, Bool.true_and, Bool.false_and, Bool.and_true, Bool.and_false]
              refine ep_bv hdm ?_
              have e12 : am_ic .ne (nI 2) 2 = false := by decide
              simp only [e12, decide_eq_true_eq, decide_true, decide_false, Bool.not_eq_true, Bool.not_eq_true', Bool.not_true, Bool.not_false, decide_eq_false_iff_not, Bool.false_eq_true, not_false_eq_true, not_true_eq_false, if_true, if_false, ↓reduceIte, eq_self, Option.bind_some, Bool.true_and, Bool.false_and, Bool.and_true, Bool.and_false]
              exact ep_ret ⟨rfl, hR, RG_s hG⟩
            · exact absurd ⟨h3, h4⟩ hgo
        · refine ev_succ (fun n => F234e0 n ..) ?_
          simp only [F234b0]
          refine ev_bind (f196n ok hm hx) ?_
          simp only [hc, if_eq_b2i, decide_eq_true_eq, decide_true, decide_false, Bool.not_eq_true, Bool.not_eq_true', Bool.not_true, Bool.not_false, decide_eq_false_iff_not, Bool.false_eq_true, not_false_eq_true, not_true_eq_false, if_true, if_false, ↓reduceIte, eq_self, Option.bind_some, Bool.true_and, Bool.false_and, Bool.and_true, Bool.and_false]
          refine ev_bind (f198 (MD_b hm) hb hc) ?_
          by_cases g1 : A.2.2.1.1 4 c = 0
          · simp (disch := omega) only [g1, L0, L1, L2, L3, L4, L5, L6, L7, L8, L9, L10, L11, L12, L13, L16, L20, L31, L32, L40, L48, L57, L59, L60, L61, L91, L93, L97, L99, L100, L102, L103, L114, L122, L255, L300, L400, L402, L999, L2280, L2500, L99999, L63, L1431655765, L858993459, L252645135, ic_ge, ic_gt, ic_le, ic_lt, ic_eq, ic_ne, if_lt, if_ge, if_gt, if_le, if_eq, if_ne, if_lt_zI, if_ge_zI, ic_ne_m1, ic_eq_m1, ic_nn_m1, ic_ee_m1, if_ne_b2i, if_eq_b2i, b2i_z, decide_eq_true_eq, decide_true, decide_false, Bool.not_eq_true, Bool.not_eq_true', Bool.not_true, Bool.not_false, decide_eq_false_iff_not, Bool.false_eq_true, not_false_eq_true, not_true_eq_false, if_true, if_false, ↓reduceIte, eq_self, Option.bind_some, Bool.true_and, Bool.false_and, Bool.and_true, Bool.and_false, nI_add, nI_subN, nI_clamp, gdF, gdF2, gdP, gdP2, zI_cl, zI_s, Lm1, nI_n0, zI_n0, leF, or_false, false_or, or_self]
            exact ev_ret
          · simp (disch := omega) only [g1, L0, L1, L2, L3, L4, L5, L6, L7, L8, L9, L10, L11, L12, L13, L16, L20, L31, L32, L40, L48, L57, L59, L60, L61, L91, L93, L97, L99, L100, L102, L103, L114, L122, L255, L300, L400, L402, L999, L2280, L2500, L99999, L63, L1431655765, L858993459, L252645135, ic_ge, ic_gt, ic_le, ic_lt, ic_eq, ic_ne, if_lt, if_ge, if_gt, if_le, if_eq, if_ne, if_lt_zI, if_ge_zI, ic_ne_m1, ic_eq_m1, ic_nn_m1, ic_ee_m1, if_ne_b2i, if_eq_b2i, b2i_z, decide_eq_true_eq, decide_true, decide_false, Bool.not_eq_true, Bool.not_eq_true', Bool.not_true, Bool.not_false, decide_eq_false_iff_not, Bool.false_eq_true, not_false_eq_true, not_true_eq_false, if_true, if_false, ↓reduceIte, eq_self, Option.bind_some, Bool.true_and, Bool.false_and, Bool.and_true, Bool.and_false, nI_add, nI_subN, nI_clamp, gdF, gdF2, gdP, gdP2, zI_cl, zI_s, Lm1, nI_n0, zI_n0, leF, or_false, false_or, or_self]
            refine ev_bind (f215 (MD_b hm) hb (MD_w hm) hc) ?_
            have ex : am_ic .eq (b2i (isShA A.2.2.1.1 A.2.2.1.2.1 c)) (nI x) = false := by
              have : isShA A.2.2.1.1 A.2.2.1.2.1 c ≠ decide (x = 1) := fun z => hgo ⟨g1, z⟩
              rcases hx2 with rfl | rfl
              · cases h : isShA A.2.2.1.1 A.2.2.1.2.1 c
                · rw [h] at this
                  exact absurd rfl this
                · decide
              · cases h : isShA A.2.2.1.1 A.2.2.1.2.1 c
                · decide
                · rw [h] at this
                  exact absurd rfl this
            simp only [ex, decide_eq_true_eq, decide_true, decide_false, Bool.not_eq_true, Bool.not_eq_true', Bool.not_true, Bool.not_false, decide_eq_false_iff_not, Bool.false_eq_true, not_false_eq_true, not_true_eq_false, if_true, if_false, ↓reduceIte, eq_self, Option.bind_some, Bool.true_and, Bool.false_and, Bool.and_true, Bool.and_false]
            exact ev_ret
    · refine ⟨nI 0, A, ok1, fun T G hR hG => no1 T G hR ?_ hG, callM_id (fun S hm => no2 S ?_)⟩
      · have := g75n ok hR hx
        rw [decide_eq_false hc] at this
        exact this
      · have := f196n ok hm hx
        rw [decide_eq_false hc] at this
        exact this
  · exact ⟨nI 0, A, ok1, fun T G hR hG => no1 T G hR (g75m hx) hG, callM_id (fun S hm => no2 S (f196m hx))⟩
/-! undo -/
def uA (A : AA) (w : AW) : AA := (A.1, A.2.1, (A.2.2.1.1, w, A.2.2.1.2.2.1.take (A.2.2.1.2.2.1.length - 1), A.2.2.1.2.2.2), A.2.2.2)
theorem sm_undo {k : Nat} (A : AA) (ok : OkA k A) : ∃ r A', OkA (k + 1) A' ∧ CallX k (fun n => G106 n) A r A' ∧ CallM (fun n => F205 n) A r A' := by
  have ok1 := OkA_s ok
  have hb := OkA_b ok
  have hl20 := ok.2.2.2.1.2.2.2.1
  by_cases h0 : A.2.2.1.2.2.1.length = 0
  · refine ⟨-2, A, ok1, fun T G hR hG => ?_, callM_id (fun S hm => ?_)⟩
    · obtain ⟨o, ho, e1, e2, e3⟩ := hR.2.2.1.2.2.1
      have e2 : T.1 106 2 = nI A.2.2.1.2.2.1.length := e2
      refine ep_succ (fun n => G106e0 n ..) ?_
      simp (disch := omega) only [G106b0, e2, h0, if_ne, decide_eq_true_eq, decide_true, decide_false, Bool.not_eq_true, Bool.not_eq_true', Bool.not_true, Bool.not_false, decide_eq_false_iff_not, Bool.false_eq_true, not_false_eq_true, not_true_eq_false, if_true, if_false, ↓reduceIte, eq_self, Option.bind_some, Bool.true_and, Bool.false_and, Bool.and_true, Bool.and_false]
      exact ep_ret ⟨rfl, hR, RG_s hG⟩
    · have e2 := hm.2.2.1.2.2.1
      refine ev_succ (fun n => F205e0 n ..) ?_
      simp (disch := omega) only [F205b0, e2, h0, if_ne, decide_eq_true_eq, decide_true, decide_false, Bool.not_eq_true, Bool.not_eq_true', Bool.not_true, Bool.not_false, decide_eq_false_iff_not, Bool.false_eq_true, not_false_eq_true, not_true_eq_false, if_true, if_false, ↓reduceIte, eq_self, Option.bind_some, Bool.true_and, Bool.false_and, Bool.and_true, Bool.and_false]
      exact ev_ret
  · obtain ⟨m, hm⟩ : ∃ m, A.2.2.1.2.2.1.length = m + 1 := ⟨A.2.2.1.2.2.1.length - 1, by omega⟩
    obtain ⟨v, hv⟩ : ∃ v, A.2.2.1.2.2.1[m]? = some v := by
      have hlt : m < A.2.2.1.2.2.1.length := by omega
      exact ⟨_, List.getElem?_eq_getElem hlt⟩
    have hmem : v ∈ A.2.2.1.2.2.1 := List.mem_of_getElem? hv
    have hvn := (OkD_p ok.2.2.2.1 hv).2.1
    have htl : (A.2.2.1.2.2.1.take (A.2.2.1.2.2.1.length - 1)).length = m := by
      rw [List.length_take]
      omega
    have htk : ∀ i w, (A.2.2.1.2.2.1.take (A.2.2.1.2.2.1.length - 1))[i]? = some w → i < m ∧ A.2.2.1.2.2.1[i]? = some w := by
      intro i w hi
      rw [List.getElem?_take] at hi
      by_cases him : i < A.2.2.1.2.2.1.length - 1
      · rw [if_pos him] at hi
        exact ⟨by omega, hi⟩
      · rw [if_neg him] at hi
        cases hi
    refine ⟨nI m, uA A v, ⟨ok1.1, ok1.2.1, ok1.2.2.1, ⟨ok1.2.2.2.1.1, ok1.2.2.2.1.2.1, fun w hw => ?_, by show (A.2.2.1.2.2.1.take _).length ≤ 20; omega, ok1.2.2.2.1.2.2.2.2.1, ok1.2.2.2.1.2.2.2.2.2⟩, ok1.2.2.2.2⟩, ?_, ?_⟩
    · rcases hw with e | e
      · have e : w = v := e
        subst e
        exact ok1.2.2.2.1.2.2.1 w (Or.inr hmem)
      · exact ok1.2.2.2.1.2.2.1 w (Or.inr (List.mem_of_mem_take e))
    · intro T G hR hG
      have ow := hR.2.2.2.2
      obtain ⟨o, ho, e1, e2, e3⟩ := hR.2.2.1.2.2.1
      have e1 : T.1 106 1 = nI o := e1
      have e2 : T.1 106 2 = nI A.2.2.1.2.2.1.length := e2
      rw [hm] at e2
      obtain ⟨q, hq, hcq⟩ := e3 m v hv
      have hq : T.2.2.2 107 ((o + m) % 20) = some q := hq
      have hqo := ow.2.2.2.1 88 ((o + m) % 20) q (Or.inl rfl) (Nat.mod_lt _ (by decide)) hq
      have hz : ¬ m + 1 = 0 := by omega
      have hs20 : (o + m) % 20 < 20 := Nat.mod_lt _ (by decide)
      refine ep_succ (fun n => G106e0 n ..) ?_
      simp (disch := omega) only [G106b0, e2, hz, if_ne, decide_eq_true_eq, decide_true, decide_false, Bool.not_eq_true, Bool.not_eq_true', Bool.not_true, Bool.not_false, decide_eq_false_iff_not, Bool.false_eq_true, not_false_eq_true, not_true_eq_false, if_true, if_false, ↓reduceIte, eq_self, Option.bind_some, Bool.true_and, Bool.false_and, Bool.and_true, Bool.and_false]
      refine ep_bind (R := fun z => ∃ T', z.2 = (T', G) ∧ T'.1 106 2 = nI m ∧ RC (uA A v) T' G) ?_ ?_
      · refine ep_succ (fun n => G107e0 106 95 n ..) ?_
        simp (disch := omega) only [G107b0, pS_106, e2, hz, if_ne, L0, L1, L2, L3, L4, L5, L6, L7, L8, L9, L10, L11, L12, L13, L16, L20, L31, L32, L40, L48, L57, L59, L60, L61, L91, L93, L97, L99, L100, L102, L103, L114, L122, L255, L300, L400, L402, L999, L2280, L2500, L99999, L63, L1431655765, L858993459, L252645135, ic_ge, ic_gt, ic_le, ic_lt, ic_eq, ic_ne, if_lt, if_ge, if_gt, if_le, if_eq, if_ne, if_lt_zI, if_ge_zI, ic_ne_m1, ic_eq_m1, ic_nn_m1, ic_ee_m1, if_ne_b2i, if_eq_b2i, b2i_z, decide_eq_true_eq, decide_true, decide_false, Bool.not_eq_true, Bool.not_eq_true', Bool.not_true, Bool.not_false, decide_eq_false_iff_not, Bool.false_eq_true, not_false_eq_true, not_true_eq_false, if_true, if_false, ↓reduceIte, eq_self, Option.bind_some, Bool.true_and, Bool.false_and, Bool.and_true, Bool.and_false, nI_add, nI_subN, nI_clamp, gdF, gdF2, gdP, gdP2, zI_cl, zI_s, Lm1, nI_n0, zI_n0, leF, or_false, false_or, or_self, x_rA1, x_rA3, x_rAe, x_rAn, x_rAi, x_rI2, x_rIe, x_rIn, x_rIi, x_rL1, x_rL2, x_rL4, x_rLe, x_rLi, x_rLn, x_rQ1, x_rQ2, x_rQ3, x_rQe, x_rQi, x_rQn, x_rR1, x_rR3, x_rRe, x_rRn, e1, Nat.add_sub_cancel, nI_divN, nI_r20, hq, Option.elim, wS_95, hqo.2.1]
        have hd : (95 : Nat) + 10 < q ∨ q + 10 < 95 := by omega
        refine ep_bind (g54 (p := 95) (q := q) (w := v) (CW_of hcq (x_rIn (by omega)) (fun _ _ _ => rfl)) hvn hd) ?_
        rintro ⟨_, T1⟩ ⟨c1, c2⟩
        have c2 : FrW 95 (x_sI T 106 2 (nI m)) T1 := c2
        have f1 : ∀ q, (q < 95 ∨ 105 < q) → q ≠ 106 → T1.1 q = T.1 q := fun q a b => by rw [(c2.1 q (by omega)).1, x_rIn b]
        have f2 : ∀ q, (q < 95 ∨ 105 < q) → T1.2.1 q = T.2.1 q := fun q a => (c2.1 q (by omega)).2
        have f4 : T1.2.2.2 = T.2.2.2 := by rw [c2.2]; rfl
        have f106 : T1.1 106 = (x_sI T 106 2 (nI m)).1 106 := (c2.1 106 (by omega)).1
        refine ep_ret ⟨T1, rfl, by rw [f106, x_rIe], ?_⟩
        obtain ⟨ht, ⟨hr1, hr2⟩, ⟨k1, k2, k3, k4, k5⟩, h5, _⟩ := hR
        refine ⟨⟨by rw [f1 65 (by omega) (by omega)]; exact ht.1, fun i hi => by rw [f2 66 (by omega)]; exact ht.2 i hi⟩, ⟨by rw [f1 64 (by omega) (by omega)]; exact hr1, fun r hr => ?_⟩, ⟨CB_of k1 (f1 _ (by omega) (by omega)) (fun k a b => f2 _ (by omega)), c1, ⟨o, ho, ?_, ?_, fun i w hi => ?_⟩, ?_, ?_⟩, fun i hi => ?_, OwC_of ow (fun q _ => by rw [f4])⟩
        · obtain ⟨q', n, a1, a2, a3⟩ := hr2 r hr
          exact ⟨q', n, by rw [f4]; exact a1, a2, LC_fr a3 (fun q2 _ h' => f2 (q2 + 1) (by omega))⟩
        · show T1.1 106 1 = _
          rw [f106, x_rIi (by decide)]
          exact e1
        · show T1.1 106 2 = nI (A.2.2.1.2.2.1.take _).length
          rw [f106, x_rIe, htl]
        · obtain ⟨him, hi'⟩ := htk i w hi
          obtain ⟨q', hq', hcq'⟩ := e3 i w hi'
          have hqo' := ow.2.2.2.1 88 _ q' (Or.inl rfl) (Nat.mod_lt _ (by decide)) hq'
          refine ⟨q', by rw [f4]; exact hq', CW_of hcq' (f1 _ (by omega) (by omega)) (fun k a b => f2 _ (by omega))⟩
        · rw [f1 88 (by omega) (by omega)]
          exact k4
        · rw [f1 88 (by omega) (by omega)]
          exact k5
        · have hh := h5 i hi
          show match A.2.2.2 i with | none => T1.2.2.2 108 i = none | some d => ∃ p, T1.2.2.2 108 i = some p ∧ CD T1 G p d
          cases hd' : A.2.2.2 i with
          | none =>
            rw [hd'] at hh
            show T1.2.2.2 108 i = none
            rw [f4]
            exact hh
          | some d =>
            rw [hd'] at hh
            obtain ⟨p, a1, ⟨b1, b2, b3, b4, b5⟩⟩ := hh
            have h172 := ow.2.1 i p hi a1
            refine ⟨p, by rw [f4]; exact a1, CB_of b1 (f1 _ (by omega) (by omega)) (fun k a b => f2 _ (by omega)), CW_of b2 (f1 _ (by omega) (by omega)) (fun k a b => f2 _ (by omega)), CP_of b3 (f1 _ (by omega) (by omega)) (by rw [f4]) (fun i' q' w hi' a c => ?_), ?_, ?_⟩
            · have := (ow.2.2.2.1 p i' q' (Or.inr ⟨i, hi, a1⟩) hi' a).1
              exact CW_of c (f1 _ (by omega) (by omega)) (fun k a b => f2 _ (by omega))
            · rw [f1 p (by omega) (by omega)]
              exact b4
            · rw [f1 p (by omega) (by omega)]
              exact b5
      · rintro ⟨_, z⟩ ⟨T', e, h2, h3⟩
        have e : z = (T', G) := e
        subst e
        exact ep_ret ⟨h2, h3, RG_s hG⟩
    · intro S hS
      have e47 := hS.2.2.1.2.2.1
      rw [hm] at e47
      have hz : ¬ m + 1 = 0 := by omega
      refine ep_succ (fun n => F205e0 n ..) ?_
      simp (disch := omega) only [F205b0, e47, hz, if_ne, L0, L1, L2, L3, L4, L5, L6, L7, L8, L9, L10, L11, L12, L13, L16, L20, L31, L32, L40, L48, L57, L59, L60, L61, L91, L93, L97, L99, L100, L102, L103, L114, L122, L255, L300, L400, L402, L999, L2280, L2500, L99999, L63, L1431655765, L858993459, L252645135, ic_ge, ic_gt, ic_le, ic_lt, ic_eq, ic_ne, if_lt, if_ge, if_gt, if_le, if_eq, if_ne, if_lt_zI, if_ge_zI, ic_ne_m1, ic_eq_m1, ic_nn_m1, ic_ee_m1, if_ne_b2i, if_eq_b2i, b2i_z, decide_eq_true_eq, decide_true, decide_false, Bool.not_eq_true, Bool.not_eq_true', Bool.not_true, Bool.not_false, decide_eq_false_iff_not, Bool.false_eq_true, not_false_eq_true, not_true_eq_false, if_true, if_false, ↓reduceIte, eq_self, Option.bind_some, Bool.true_and, Bool.false_and, Bool.and_true, Bool.and_false, nI_add, nI_subN, nI_clamp, gdF, gdF2, gdP, gdP2, zI_cl, zI_s, Lm1, nI_n0, zI_n0, leF, or_false, false_or, or_self, m_rA1, m_rA3, m_rAe, m_rAn, m_rAi, m_rI2, m_rIe, m_rIn, m_rL1, m_rL2, m_rLe, m_rLi, m_rLn, Nat.add_sub_cancel]
      refine ep_bind (f206b (j := m) (by omega)) ?_
      rintro ⟨_, S1⟩ ⟨z1, z2, z3, z4⟩
      have z1 : ∀ q, q ≠ 48 → q ≠ 49 → S1.1 q = (m_sI S 47 (nI m)).1 q := z1
      have z2 : S1.2.1 35 = S.2.1 35 := z2
      have z4 : ∀ k i, k ≠ 35 → S1.2.1 k i = if poN k i < 114 then S.2.1 35 (114 * m + poN k i) else S.2.1 k i := z4
      obtain ⟨t, ⟨r1, r2, r3⟩, ⟨d1, d2, d3, d4, d5, d6⟩, im⟩ := hS
      have zo : ∀ k i, k ≠ 35 → poN k i = 1000 → S1.2.1 k i = S.2.1 k i := fun k i a b => by rw [z4 k i a, b, if_neg (by decide)]
      have po : ∀ k i, k ≠ 6 → ¬ (8 ≤ k ∧ k ≤ 15) → ¬ (k = 1 ∧ 3 ≤ i ∧ i ≤ 6) → poN k i = 1000 := fun k i a b c => by have := poN_c k i; omega
      have ok2 := ok.2.2.2.1
      have y47 : S1.1 47 = nI m := by rw [z1 47 (by decide) (by decide), m_rIe]
      refine ep_ret ⟨y47, ⟨by rw [z1 26 (by decide) (by decide), m_rIn (by decide)]; exact t.1, fun i hi => by rw [zo 26 i (by decide) (po 26 i (by decide) (by decide) (by omega))]; exact t.2 i hi⟩, ⟨by rw [z1 30 (by decide) (by decide), m_rIn (by decide)]; exact r1, by rw [z1 35 (by decide) (by decide), m_rIn (by decide)]; exact r2, fun r hr => LMr_of (r3 r hr) (fun k i a b => zo k i (by omega) (po k i (by omega) (by omega) (by omega)))⟩, ⟨MB_r d1 ok2.1 (fun k i a => zo k i (by omega) (po k i (by omega) (by omega) (by omega))), ?_, ?_, ?_, ?_, ?_⟩, IM_r (A := A) ok im (fun j hj => zo 40 j (by decide) (po 40 j (by decide) (by decide) (by omega))) (fun i _ => zo 41 i (by decide) (po 41 i (by decide) (by decide) (by omega)))⟩
      · refine MW_r (d4 m v hv) hvn (fun k i hk => ?_)
        have h1 := paR_po (f := S.2.1 35) (j := m) hk
        rw [h1.1, z4 k i (by omega), if_pos h1.2]
      · show S1.1 47 = nI (A.2.2.1.2.2.1.take _).length
        rw [y47, htl]
      · intro j w hj
        obtain ⟨hjm, hj'⟩ := htk j w hj
        have := d4 j w hj'
        rw [z2]
        exact this
      · rw [zo 1 8 (by decide) (po 1 8 (by decide) (by decide) (by omega))]
        exact d5
      · rw [zo 1 7 (by decide) (po 1 7 (by decide) (by decide) (by omega))]
        exact d6
