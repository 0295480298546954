/-! a world made, a world copied -/
theorem nB_n {T : xS} {G : gS} : (x_nB T G).2.2.1 = G.2.1 + 6 ∧ (x_nB T G).2.2.2 = G.2.2 + 78 := ⟨rfl, by show G.2.2 + 8 + 16 + 16 + 16 + 16 + 6 = _; omega⟩
theorem nP_n {T : xS} {G : gS} : (x_nP T G).2.2.1 = G.2.1 + 2 ∧ (x_nP T G).2.2.2 = G.2.2 + 23 := ⟨rfl, by show G.2.2 + 3 + 20 = _; omega⟩
theorem bB_nB {T : xS} {G : gS} : bB (x_nB T G).2 (172 + G.2.1) = true := by
  have hk : ∀ j, j ≤ 5 → x_kd (x_nB T G).2 (172 + G.2.1 + j) = (x_nB T G).2.1 (172 + G.2.1 + j) := fun j hj => kd_in (by omega) (by rw [nB_n.1]; omega)
  have e : (x_nB T G).2.1 = va_up (va_up (va_up (va_up (va_up (va_up (va_up G.1 (172 + G.2.1) (0, 0)) (172 + (G.2.1 + 1)) (1, 16)) (172 + (G.2.1 + 2)) (1, 16)) (172 + (G.2.1 + 3)) (1, 16)) (172 + (G.2.1 + 4)) (1, 16)) (172 + (G.2.1 + 5)) (1, 6)) (172 + G.2.1) (10, 0) := rfl
  refine decide_eq_true ⟨?_, ?_, ?_, ?_, ?_, ?_⟩
  · have := hk 0 (by omega)
    rw [Nat.add_zero] at this
    rw [this, e, va_upS]
  · rw [hk 1 (by omega), e, show 172 + G.2.1 + 1 = 172 + (G.2.1 + 1) by omega]
    simp (disch := omega) only [va_upN, va_upS]
  · rw [hk 2 (by omega), e, show 172 + G.2.1 + 2 = 172 + (G.2.1 + 2) by omega]
    simp (disch := omega) only [va_upN, va_upS]
  · rw [hk 3 (by omega), e, show 172 + G.2.1 + 3 = 172 + (G.2.1 + 3) by omega]
    simp (disch := omega) only [va_upN, va_upS]
  · rw [hk 4 (by omega), e, show 172 + G.2.1 + 4 = 172 + (G.2.1 + 4) by omega]
    simp (disch := omega) only [va_upN, va_upS]
  · rw [hk 5 (by omega), e, show 172 + G.2.1 + 5 = 172 + (G.2.1 + 5) by omega]
    simp (disch := omega) only [va_upN, va_upS]
theorem pB_nP {T : xS} {G : gS} : pB (x_nP T G).2 (172 + G.2.1) = true := by
  have hk : ∀ j, j ≤ 1 → x_kd (x_nP T G).2 (172 + G.2.1 + j) = (x_nP T G).2.1 (172 + G.2.1 + j) := fun j hj => kd_in (by omega) (by rw [nP_n.1]; omega)
  have e : (x_nP T G).2.1 = va_up (va_up (va_up G.1 (172 + G.2.1) (0, 0)) (172 + (G.2.1 + 1)) (5, 20)) (172 + G.2.1) (14, 0) := rfl
  refine decide_eq_true ⟨?_, ?_⟩
  · have := hk 0 (by omega)
    rw [Nat.add_zero] at this
    rw [this, e, va_upS]
  · rw [hk 1 (by omega), e, show 172 + G.2.1 + 1 = 172 + (G.2.1 + 1) by omega]
    simp (disch := omega) only [va_upN, va_upS]
theorem GX_nB {T : xS} {G : gS} : GX G (x_nB T G).2 := ⟨by rw [nB_n.1]; omega, fun p hp => kd_nB hp⟩
theorem GX_nP {T : xS} {G : gS} : GX G (x_nP T G).2 := ⟨by rw [nP_n.1]; omega, fun p hp => kd_nP hp⟩
theorem GX_gN {G : gS} {m : Nat} : GX G (gN G (0, 0) m) := ⟨by show G.2.1 ≤ G.2.1 + 1; omega, fun p hp => kd_gN (by omega)⟩
/-- a water that is empty -/
def w0A : AW := (fun _ _ => 0, nI 0)
def b0A : AB := fun _ _ => 0
def d0A : AD := (b0A, w0A, [], 0, 0)
theorem nV_ok {T : xS} {G : gS} : GX G (x_nV T G).2 ∧ vB (x_nV T G).2 (172 + G.2.1) = true ∧ (x_nV T G).2.2.1 = G.2.1 + 20 ∧ (x_nV T G).2.2.2 = G.2.2 + 245 ∧ (∀ q, q < 172 + G.2.1 → (x_nV T G).1.1 q = T.1 q ∧ (x_nV T G).1.2.1 q = T.2.1 q ∧ (x_nV T G).1.2.2.2 q = T.2.2.2 q) ∧ (∀ i, (x_nV T G).1.2.2.2 (172 + G.2.1 + 19) i = none) ∧ CD (x_nV T G).1 (x_nV T G).2 (172 + G.2.1) d0A := by
  obtain ⟨G1, hG1⟩ : ∃ G1, G1 = gN G (0, 0) 5 := ⟨_, rfl⟩
  have n1 : G1.2.1 = G.2.1 + 1 := by rw [hG1]; rfl
  have m1 : G1.2.2 = G.2.2 + 5 := by rw [hG1]; rfl
  obtain ⟨U2, hU2⟩ : ∃ U2, U2 = x_nB T G1 := ⟨_, rfl⟩
  have n2 : U2.2.2.1 = G.2.1 + 7 := by rw [hU2, nB_n.1]; omega
  have m2 : U2.2.2.2 = G.2.2 + 83 := by rw [hU2, nB_n.2]; omega
  obtain ⟨U3, hU3⟩ : ∃ U3, U3 = x_nW U2.1 U2.2 := ⟨_, rfl⟩
  have n3 : U3.2.2.1 = G.2.1 + 18 := by rw [hU3, nW_n.1]; omega
  have m3 : U3.2.2.2 = G.2.2 + 222 := by rw [hU3, nW_n.2]; omega
  obtain ⟨U4, hU4⟩ : ∃ U4, U4 = x_nP U3.1 U3.2 := ⟨_, rfl⟩
  have n4 : U4.2.2.1 = G.2.1 + 20 := by rw [hU4, nP_n.1]; omega
  have m4 : U4.2.2.2 = G.2.2 + 245 := by rw [hU4, nP_n.2]; omega
  have hV : x_nV T G = (x_sIR U4.1 (172 + G.2.1) (fun k => if k = 3 then -1 else 0), gK U4.2 (172 + G.2.1) (20, 0)) := by
    rw [hU4, hU3, hU2, hG1]
    rfl
  have gx1 : GX G G1 := by rw [hG1]; exact GX_gN
  have gx2 : GX G1 U2.2 := by rw [hU2]; exact GX_nB
  have gx3 : GX U2.2 U3.2 := by rw [hU3]; exact GX_nW
  have gx4 : GX U3.2 U4.2 := by rw [hU4]; exact GX_nP
  have kdV : ∀ p, p ≠ 172 + G.2.1 → x_kd (x_nV T G).2 p = x_kd U4.2 p := fun p hp => by rw [hV]; exact kd_gK hp
  have kdS : x_kd (x_nV T G).2 (172 + G.2.1) = (20, 0) := by rw [hV]; exact kd_gKs (by omega) (by show _ < 172 + U4.2.2.1; omega)
  have gx : GX G (x_nV T G).2 := ⟨by rw [hV]; show G.2.1 ≤ U4.2.2.1; omega, fun p hp => by rw [kdV p (by omega)]; exact (GX_tr gx1 (GX_tr gx2 (GX_tr gx3 gx4))).2 p hp⟩
  have gx5 : ∀ {Gx : gS} {p : Nat} {k : Nat × Nat}, GX Gx U4.2 → x_kd Gx p = k → k.1 ≠ 0 → p ≠ 172 + G.2.1 → x_kd (x_nV T G).2 p = k := by
    intro Gx p k g hk h0 hp
    rw [kdV p hp]
    exact GX_k g hk h0
  have hb : bB U2.2 (172 + G.2.1 + 1) = true := by
    have := bB_nB (T := T) (G := G1)
    rw [← hU2, n1, ← Nat.add_assoc] at this
    exact this
  have hw : wB U3.2 (172 + G.2.1 + 7) = true := by
    have := wB_nW (T := U2.1) (G := U2.2)
    rw [← hU3, n2, ← Nat.add_assoc] at this
    exact this
  have hp : pB U4.2 (172 + G.2.1 + 18) = true := by
    have := pB_nP (T := U3.1) (G := U3.2)
    rw [← hU4, n3, ← Nat.add_assoc] at this
    exact this
  have g24 := GX_tr gx3 gx4
  have hvb : bB (x_nV T G).2 (172 + G.2.1 + 1) = true := decide_eq_true ⟨gx5 g24 (bk0 hb) (by decide) (by omega), gx5 g24 (bk1 hb) (by decide) (by omega), gx5 g24 (bk2 hb) (by decide) (by omega), gx5 g24 (bk3 hb) (by decide) (by omega), gx5 g24 (bk4 hb) (by decide) (by omega), gx5 g24 (bk5 hb) (by decide) (by omega)⟩
  have hvw : wB (x_nV T G).2 (172 + G.2.1 + 7) = true := decide_eq_true ⟨gx5 gx4 (wk0 hw) (by decide) (by omega), gx5 gx4 (wk1 hw) (by decide) (by omega), gx5 gx4 (wk2 hw) (by decide) (by omega), gx5 gx4 (wk3 hw) (by decide) (by omega), gx5 gx4 (wk4 hw) (by decide) (by omega), gx5 gx4 (wk5 hw) (by decide) (by omega), gx5 gx4 (wk6 hw) (by decide) (by omega), gx5 gx4 (wk7 hw) (by decide) (by omega), gx5 gx4 (wk8 hw) (by decide) (by omega), gx5 gx4 (wk9 hw) (by decide) (by omega), gx5 gx4 (wk10 hw) (by decide) (by omega)⟩
  have hvp : pB (x_nV T G).2 (172 + G.2.1 + 18) = true := decide_eq_true ⟨gx5 GX_rf (pk0 hp) (by decide) (by omega), gx5 GX_rf (pk1 hp) (by decide) (by omega)⟩
  -- the state
  have t4 : ∀ q, (x_nV T G).1.1 q = if q = 172 + G.2.1 then (fun k => if k = 3 then -1 else 0) else U4.1.1 q := by
    intro q
    rw [hV]
    rfl
  have t4r : (x_nV T G).1.2 = U4.1.2 := by rw [hV]; rfl
  have p1 : ∀ q, U4.1.1 q = if q = 172 + G.2.1 + 18 then (fun _ => 0) else U3.1.1 q := by
    intro q
    rw [hU4]
    show (if q = 172 + U3.2.2.1 then (fun _ => (0 : Int32)) else U3.1.1 q) = _
    rw [n3, ← Nat.add_assoc]
  have p2 : U4.1.2.1 = U3.1.2.1 := by rw [hU4]; rfl
  have p4 : ∀ q, U4.1.2.2.2 q = if q = 172 + G.2.1 + 19 then (fun _ => none) else U3.1.2.2.2 q := by
    intro q
    rw [hU4]
    show (if q = 172 + U3.2.2.1 + 1 then (fun _ => none) else U3.1.2.2.2 q) = _
    rw [n3, show 172 + (G.2.1 + 18) + 1 = 172 + G.2.1 + 19 by omega]
  have w1 : ∀ q, q < 172 + G.2.1 + 7 → U3.1.1 q = U2.1.1 q ∧ U3.1.2.1 q = U2.1.2.1 q := by
    intro q hq
    rw [hU3]
    exact nW_T.1 q (by omega)
  have w2 : U3.1.2.2 = U2.1.2.2 := by rw [hU3]; exact nW_T.2
  have ww : U3.1.1 (172 + G.2.1 + 7) = (fun _ => 0) ∧ U3.1.2.1 (172 + G.2.1 + 7 + 9) = (fun _ => 0) ∧ U3.1.2.1 (172 + G.2.1 + 7 + 10) = (fun _ => 0) := by
    have e : 172 + G.2.1 + 7 = 172 + U2.2.2.1 := by omega
    rw [hU3, e]
    refine ⟨va_upS, ?_, ?_⟩
    · show va_up (va_up (va_up (va_up (va_up (va_up (va_up (va_up (va_up (va_up U2.1.2.1 (172 + U2.2.2.1 + 1) _) (172 + U2.2.2.1 + 2) _) (172 + U2.2.2.1 + 3) _) (172 + U2.2.2.1 + 4) _) (172 + U2.2.2.1 + 5) _) (172 + U2.2.2.1 + 6) _) (172 + U2.2.2.1 + 7) _) (172 + U2.2.2.1 + 8) _) (172 + U2.2.2.1 + 9) _) (172 + U2.2.2.1 + 10) _ (172 + U2.2.2.1 + 9) = _
      simp (disch := omega) only [va_upN, va_upS]
    · exact va_upS
  have b1 : ∀ q, q < 172 + G.2.1 + 1 → U2.1.1 q = T.1 q ∧ U2.1.2.1 q = T.2.1 q := by
    intro q hq
    rw [hU2]
    refine ⟨?_, ?_⟩
    · show va_up T.1 (172 + G1.2.1) _ q = _
      exact va_upN (by omega)
    · show va_up (va_up (va_up (va_up (va_up T.2.1 (172 + G1.2.1 + 1) _) (172 + G1.2.1 + 2) _) (172 + G1.2.1 + 3) _) (172 + G1.2.1 + 4) _) (172 + G1.2.1 + 5) _ q = _
      simp (disch := omega) only [va_upN]
  have b2 : U2.1.2.2 = T.2.2 := by rw [hU2]; rfl
  have bb : U2.1.1 (172 + G.2.1 + 1) = (fun _ => 0) := by
    have e : 172 + G.2.1 + 1 = 172 + G1.2.1 := by omega
    rw [hU2, e]
    exact va_upS
  refine ⟨gx, ?_, by rw [hV]; exact n4, by rw [hV]; exact m4, fun q hq => ⟨?_, ?_, ?_⟩, fun i => ?_, ?_⟩
  · unfold vB
    rw [hvb, hvw, hvp, decide_eq_true kdS]
    rfl
  · rw [t4, if_neg (by omega), p1, if_neg (by omega), (w1 q (by omega)).1, (b1 q (by omega)).1]
  · rw [t4r, p2, (w1 q (by omega)).2, (b1 q (by omega)).2]
  · rw [t4r, p4, if_neg (by omega), w2, b2]
  · rw [t4r, p4, if_pos rfl]
  · have hbz : (x_nV T G).1.1 (172 + G.2.1 + 1) = fun _ => 0 := by
      rw [t4, if_neg (by omega), p1, if_neg (by omega), (w1 _ (by omega)).1, bb]
    have hwz : (x_nV T G).1.1 (172 + G.2.1 + 7) = fun _ => 0 := by
      rw [t4, if_neg (by omega), p1, if_neg (by omega), ww.1]
    have hpz : (x_nV T G).1.1 (172 + G.2.1 + 18) = fun _ => 0 := by
      rw [t4, if_neg (by omega), p1, if_pos rfl]
    have hvz : (x_nV T G).1.1 (172 + G.2.1) = fun k => if k = 3 then -1 else 0 := by
      rw [t4, if_pos rfl]
    refine ⟨⟨by rw [hbz]; rfl, by rw [hbz]; rfl, by rw [hbz]; rfl, fun i hi => absurd hi (by show ¬ i < 0; omega), fun i hi => absurd hi (by show ¬ i < 0; omega)⟩, ⟨by rw [hwz]; rfl, by rw [hwz]; rfl, by rw [hwz]; rfl, fun i hi => absurd hi (by show ¬ i < 0; omega), fun i hi => ?_, fun i hi => ?_⟩, ⟨0, by decide, by rw [hpz]; rfl, by rw [hpz]; rfl, fun i w hi => by cases hi⟩, by rw [hvz]; rfl, by rw [hvz]; rfl⟩
    · rw [t4r, p2, ww.2.1]
      rfl
    · rw [t4r, p2, ww.2.2]
      rfl
theorem g53 {T : xS} {p q : Nat} {b : AB} (hB : CB T q b) (hb : OkB b) (hd : p + 5 < q ∨ q + 5 < p) : Ep (fun n => G53 p q n T) (fun z => CB z.2 p b ∧ (∀ r, (r < p ∨ p + 5 < r) → z.2.1 r = T.1 r ∧ z.2.2.1 r = T.2.1 r) ∧ z.2.2.2 = T.2.2) := by
  refine ep_succ (fun n => G53e0 p q n ..) ?_
  simp (disch := omega) only [G53b0, decide_eq_true_eq, decide_true, decide_false, Bool.not_eq_true, Bool.not_eq_true', Bool.not_true, Bool.not_false, decide_eq_false_iff_not, Bool.false_eq_true, not_false_eq_true, not_true_eq_false, if_true, if_false, ↓reduceIte, eq_self, Option.bind_some, Bool.true_and, Bool.false_and, Bool.and_true, Bool.and_false, x_rA1, x_rA3, x_rAe, x_rAn, x_rAi, x_rI2, x_rIe, x_rIn, x_rIi, x_rL1, x_rL2, x_rL4, x_rLe, x_rLi, x_rLn, x_rQ1, x_rQ2, x_rQ3, x_rQe, x_rQi, x_rQn, x_rR1, x_rR3, x_rRe, x_rRn]
  obtain ⟨h0, h1, h2, h3, h4⟩ := hB
  have b1 := hb.1
  have b2 := hb.2.1
  refine ep_ret ⟨⟨?_, ?_, ?_, fun i hi => ?_, fun k hk => ?_⟩, fun r hr => ⟨by simp (disch := omega) only [x_rA1, x_rA3, x_rAe, x_rAn, x_rAi, x_rI2, x_rIe, x_rIn, x_rIi, x_rL1, x_rL2, x_rL4, x_rLe, x_rLi, x_rLn, x_rQ1, x_rQ2, x_rQ3, x_rQe, x_rQi, x_rQn, x_rR1, x_rR3, x_rRe, x_rRn], by simp (disch := omega) only [x_rA1, x_rA3, x_rAe, x_rAn, x_rAi, x_rI2, x_rIe, x_rIn, x_rIi, x_rL1, x_rL2, x_rL4, x_rLe, x_rLi, x_rLn, x_rQ1, x_rQ2, x_rQ3, x_rQe, x_rQi, x_rQn, x_rR1, x_rR3, x_rRe, x_rRn]⟩, rfl⟩
  · simp (disch := omega) only [x_rA1, x_rA3, x_rAe, x_rAn, x_rAi, x_rI2, x_rIe, x_rIn, x_rIi, x_rL1, x_rL2, x_rL4, x_rLe, x_rLi, x_rLn, x_rQ1, x_rQ2, x_rQ3, x_rQe, x_rQi, x_rQn, x_rR1, x_rR3, x_rRe, x_rRn]
    exact h0
  · simp (disch := omega) only [x_rA1, x_rA3, x_rAe, x_rAn, x_rAi, x_rI2, x_rIe, x_rIn, x_rIi, x_rL1, x_rL2, x_rL4, x_rLe, x_rLi, x_rLn, x_rQ1, x_rQ2, x_rQ3, x_rQe, x_rQi, x_rQn, x_rR1, x_rR3, x_rRe, x_rRn]
    exact h1
  · simp (disch := omega) only [x_rA1, x_rA3, x_rAe, x_rAn, x_rAi, x_rI2, x_rIe, x_rIn, x_rIi, x_rL1, x_rL2, x_rL4, x_rLe, x_rLi, x_rLn, x_rQ1, x_rQ2, x_rQ3, x_rQe, x_rQi, x_rQn, x_rR1, x_rR3, x_rRe, x_rRn]
    exact h2
  · simp (disch := omega) only [x_rA1, x_rA3, x_rAe, x_rAn, x_rAi, x_rI2, x_rIe, x_rIn, x_rIi, x_rL1, x_rL2, x_rL4, x_rLe, x_rLi, x_rLn, x_rQ1, x_rQ2, x_rQ3, x_rQe, x_rQi, x_rQn, x_rR1, x_rR3, x_rRe, x_rRn, cpy_i]
    exact h3 i hi
  · simp (disch := omega) only [x_rA1, x_rA3, x_rAe, x_rAn, x_rAi, x_rI2, x_rIe, x_rIn, x_rIi, x_rL1, x_rL2, x_rL4, x_rLe, x_rLi, x_rLn, x_rQ1, x_rQ2, x_rQ3, x_rQe, x_rQi, x_rQn, x_rR1, x_rR3, x_rRe, x_rRn, cpy_i]
    exact h4 k hk
