/-! what codes come to in the reference; what a rule says -/
theorem f225l {r e : Nat} {x : Nat → Int64} (hr6 : r < 6) (he : e ≤ 300) : ∀ (ts : List TK) (st : List Int64) (a : Nat) (v : Int64) (S : mS), okc ts st.length 1 → st.length ≤ 60 → stk x ts st = [v] → a + ts.length = e → (∀ k, k < ts.length → S.2.1 27 (300 * r + (a + k)) = nI (ts.getD k (0, 0)).1 ∧ S.2.1 28 (300 * r + (a + k)) = nI (ts.getD k (0, 0)).2) → (∀ k, k < 11 → S.2.2 33 k = x k) → StR (S.2.2 34) st → ∃ y, Ev (fun n => F225f n 6 (nI r) 0 (nI e) (nI st.length) (nI a) S) (v, (S.1, S.2.1, y)) ∧ ∀ k, k < 11 → y 33 k = x k
  | [], st, a, v, S, hk, h60, hs, ha, hr, hx, hS => by
    have hs : st = [v] := hs
    subst hs
    have ha : a = e := ha
    subst ha
    have e1 : am_ic .ge (nI a) (nI a) = true := by rw [ic_ge (by omega) (by omega), decide_eq_true (Nat.le_refl _)]
    have e3 : S.2.2 34 0 = v := hS.1
    refine ⟨S.2.2, ev_succ (fun n => F225e6 n ..) ?_, hx⟩
    simp only [F225b6, e1, e3, if_true]
    exact ev_ret
  | t :: ts, st, a, v, S, hk, h60, hs, ha, hr, hx, hS => by
    obtain ⟨⟨t15, t12, t0, t1, t2⟩, hk⟩ := hk
    have ha : a + (ts.length + 1) = e := ha
    have hs : stk x ts (st1 x t st) = [v] := hs
    obtain ⟨er, er2⟩ : S.2.1 27 (300 * r + a) = nI t.1 ∧ S.2.1 28 (300 * r + a) = nI t.2 := hr 0 (show 0 < ts.length + 1 by omega)
    have hr' : ∀ k, k < ts.length → S.2.1 27 (300 * r + (a + 1 + k)) = nI (ts.getD k (0, 0)).1 ∧ S.2.1 28 (300 * r + (a + 1 + k)) = nI (ts.getD k (0, 0)).2 := fun k hk => by
      have := hr (k + 1) (show k + 1 < ts.length + 1 by omega)
      rw [getD_s] at this
      rw [show a + 1 + k = a + (k + 1) by omega]
      exact this
    have e1 : am_ic .ge (nI a) (nI e) = false := by rw [ic_ge (by omega) (by omega), decide_eq_false (by omega)]
    have ei : (300 : Int32) * nI r + nI a = nI (300 * r + a) := by
      rw [L300, nI_mul, nI_add]
    have e2 : Int32.toNatClampNeg (nI (300 * r + a)) = 300 * r + a := nI_clamp (by omega)
    have g1 : (nI (300 * r + a) < 0 ∨ 1800 ≤ 300 * r + a) = False := gdN (by omega) (by decide)
    by_cases c1 : t.1 ≤ 1
    · rw [if_pos c1] at hk
      obtain ⟨h59, hk⟩ := hk
      have g2 : (nI st.length < 0 ∨ 300 ≤ st.length) = False := gdN (by omega) (by decide)
      have e3 : Int32.toNatClampNeg (nI st.length) = st.length := nI_clamp (by omega)
      have push : ∀ w : Int64, st1 x t st = w :: st → ∃ y, Ev (fun n => F225f n 6 (nI r) 0 (nI e) (nI (st.length + 1)) (nI (a + 1)) (m_sL S 34 st.length w)) (v, (S.1, S.2.1, y)) ∧ ∀ k, k < 11 → y 33 k = x k := fun w hw => by
        rw [hw] at hs
        exact f225l hr6 he ts (w :: st) (a + 1) v (m_sL S 34 st.length w) hk (show st.length + 1 ≤ 60 by omega) hs (by omega) hr' (fun k hk => by rw [m_rLn (by decide)]; exact hx k hk) ⟨m_rLe, StR_fr st hS (fun k hk => m_rLi (by omega))⟩
      by_cases c0 : t.1 = 0
      · obtain ⟨u, c⟩ := t
        have c0 : u = 0 := c0
        subst c0
        have er : S.2.1 27 (300 * r + a) = nI 0 := er
        have er2 : S.2.1 28 (300 * r + a) = nI c := er2
        have q1 : am_if .eq (nI 0) = true := by decide
        have q2 : am_if .ne (nI 0) = false := by decide
        obtain ⟨y, hy, hy2⟩ := push (Int32.toInt64 (nI c)) rfl
        refine ⟨y, ev_succ (fun n => F225e6 n ..) ?_, hy2⟩
        simp only [F225b6, e1, ei, e2, er, er2, q1, q2, e3, g1, g2, not_false_eq_true, Bool.false_eq_true, if_false, if_true, nI_p1]
        exact hy
      · obtain ⟨u, c⟩ := t
        have c0 : u = 1 := by
          have c0 : ¬ u = 0 := c0
          have c1 : u ≤ 1 := c1
          omega
        subst c0
        have hc : c < 11 := t1 rfl
        obtain ⟨y, hy, hy2⟩ := push (x c) rfl
        have er : S.2.1 27 (300 * r + a) = nI 1 := er
        have er2 : S.2.1 28 (300 * r + a) = nI c := er2
        have q1 : am_if .eq (nI 1) = false := by decide
        have q2 : am_if .ne (nI 1) = true := by decide
        have q3 : am_ic .ne (nI 1) 1 = false := by decide
        have g3 : (nI c < 0 ∨ 11 ≤ c) = False := gdN hc (by decide)
        have e4 : Int32.toNatClampNeg (nI c) = c := nI_clamp (by omega)
        have e5 : S.2.2 33 c = x c := hx c hc
        refine ⟨y, ev_succ (fun n => F225e6 n ..) ?_, hy2⟩
        simp only [F225b6, e1, ei, e2, er, er2, q1, q2, q3, e3, e4, e5, g1, g2, g3, not_false_eq_true, Bool.false_eq_true, if_false, if_true, nI_p1]
        exact hy
    · rw [if_neg c1] at hk
      obtain ⟨o, c⟩ := t
      have c1 : ¬ o ≤ 1 := c1
      have hc0 : c = 0 := t2 (show 2 ≤ o by omega)
      subst hc0
      have t15 : o ≤ 15 := t15
      have t12 : o ≠ 12 := t12
      have er : S.2.1 27 (300 * r + a) = nI o := er
      have q1 : am_if .eq (nI o) = false := by
        rw [if_eq (by omega)]
        exact decide_eq_false (by omega)
      have q3 : am_ic .ne (nI o) 1 = true := by
        have := ic_ne (a := o) (b := 1) (by omega) (by decide)
        rw [decide_eq_false (by omega)] at this
        exact this
      by_cases c9 : o = 9
      · rw [if_pos c9] at hk
        obtain ⟨hh, hk⟩ := hk
        subst c9
        match st, hh, h60, hk, hs, hS with
        | w :: s, hh, h60, hk, hs, hS =>
          have h60 : s.length + 1 ≤ 60 := h60
          have hk : okc ts (s.length + 1) 1 := hk
          have hs : stk x ts ((1 - w) :: s) = [v] := hs
          obtain ⟨y, hy, hy2⟩ := f225l hr6 he ts ((1 - w) :: s) (a + 1) v (m_sL S 34 s.length (1 - w)) hk h60 hs (by omega) hr' (fun k hk => by rw [m_rLn (by decide)]; exact hx k hk) ⟨m_rLe, StR_fr s hS.2 (fun k hk => m_rLi (by omega))⟩
          have q4 : am_ic .ne (nI 9) 9 = false := by decide
          have g2 : (nI s.length < 0 ∨ 300 ≤ s.length) = False := gdN (by omega) (by decide)
          have e4 : Int32.toNatClampNeg (nI s.length) = s.length := nI_clamp (by omega)
          have e5 : S.2.2 34 s.length = w := hS.1
          refine ⟨y, ev_succ (fun n => F225e6 n ..) ?_, hy2⟩
          show Ev (fun n => F225b6 (F225f n) n (nI r) 0 (nI e) (nI (s.length + 1)) (nI a) S) _
          simp only [F225b6, e1, ei, e2, er, q1, q3, q4, nI_s1, e4, e5, g1, g2, not_false_eq_true, Bool.false_eq_true, if_false, if_true, nI_p1]
          exact hy
      · rw [if_neg c9] at hk
        obtain ⟨hh, hk⟩ := hk
        match st, hh, h60, hk, hs, hS with
        | w2 :: w1 :: s, hh, h60, hk, hs, hS =>
          have h60 : s.length + 1 + 1 ≤ 60 := h60
          have hk : okc ts (s.length + 1) 1 := hk
          have bo : bop o := ⟨by omega, t15, c9, t12⟩
          have es : st1 x (o, 0) (w2 :: w1 :: s) = opV o w1 w2 :: s := stk_op bo
          rw [es] at hs
          obtain ⟨y, hy, hy2⟩ := f225l hr6 he ts (opV o w1 w2 :: s) (a + 1) v (m_sL S 34 s.length (opV o w1 w2)) hk (show s.length + 1 ≤ 60 by omega) hs (by omega) hr' (fun k hk => by rw [m_rLn (by decide)]; exact hx k hk) ⟨m_rLe, StR_fr s hS.2.2 (fun k hk => m_rLi (by omega))⟩
          have q4 : am_ic .ne (nI o) 9 = true := by
            have := ic_ne (a := o) (b := 9) (by omega) (by decide)
            rw [decide_eq_false c9] at this
            exact this
          have g2 : (nI s.length < 0 ∨ 300 ≤ s.length) = False := gdN (by omega) (by decide)
          have g3 : (nI (s.length + 1) < 0 ∨ 300 ≤ s.length + 1) = False := gdN (by omega) (by decide)
          have e4 : Int32.toNatClampNeg (nI s.length) = s.length := nI_clamp (by omega)
          have e4' : Int32.toNatClampNeg (nI (s.length + 1)) = s.length + 1 := nI_clamp (by omega)
          have e5 : S.2.2 34 s.length = w1 := hS.2.1
          have e6 : S.2.2 34 (s.length + 1) = w2 := hS.1
          refine ⟨y, ev_succ (fun n => F225e6 n ..) ?_, hy2⟩
          show Ev (fun n => F225b6 (F225f n) n (nI r) 0 (nI e) (nI (s.length + 1 + 1)) (nI a) S) _
          simp only [F225b6, e1, ei, e2, er, q1, q3, q4, nI_m1, nI_s1, e4, e4', e5, e6, g1, g2, g3, not_false_eq_true, Bool.false_eq_true, if_false, if_true]
          refine ev_bind (f226 bo) ?_
          simp only [nI_p1]
          exact hy
/-- what a rule says: one of its tests holds -/
def ruV (css : List (List TK)) (x : Nat → Int64) : Bool := css.any (fun c => decide (stk x c [] = [1]))
/-- clause k of slot r of the reference is c -/
def CdK (S : mS) (r k : Nat) (c : List TK) : Prop := ∃ a, S.2.1 30 (12 * r + k) = nI a ∧ S.2.1 31 (12 * r + k) = nI (a + c.length) ∧ a + c.length ≤ 300 ∧ ∀ j, j < c.length → S.2.1 27 (300 * r + (a + j)) = nI (c.getD j (0, 0)).1 ∧ S.2.1 28 (300 * r + (a + j)) = nI (c.getD j (0, 0)).2
theorem CdK_fr {S S' : mS} {r k : Nat} {c : List TK} (h : CdK S r k c) (hk : k < 12) (e : ∀ q i, 27 ≤ q → q ≤ 31 → lmI r q i → S'.2.1 q i = S.2.1 q i) : CdK S' r k c := by
  obtain ⟨a, h1, h2, h3, h4⟩ := h
  refine ⟨a, ?_, ?_, h3, fun j hj => ⟨?_, ?_⟩⟩
  · rw [e 30 _ (by omega) (by omega) ⟨fun z => absurd z (by decide), fun z => absurd z (by decide), fun _ => by omega⟩]
    exact h1
  · rw [e 31 _ (by omega) (by omega) ⟨fun z => absurd z (by decide), fun z => absurd z (by decide), fun _ => by omega⟩]
    exact h2
  · rw [e 27 _ (by omega) (by omega) ⟨fun _ => by omega, fun z => absurd z (by decide), fun z => absurd z (by decide)⟩]
    exact (h4 j hj).1
  · rw [e 28 _ (by omega) (by omega) ⟨fun _ => by omega, fun z => absurd z (by decide), fun z => absurd z (by decide)⟩]
    exact (h4 j hj).2
theorem f224l {r N : Nat} {x : Nat → Int64} (hr6 : r < 6) (hN : N ≤ 12) : ∀ (css : List (List TK)) (k : Nat) (S : mS), k + css.length = N → (∀ j, j < css.length → CdK S r (k + j) (css.getD j [])) → (∀ c, c ∈ css → Tst c 0) → S.2.1 29 r = nI N → (∀ k, k < 11 → S.2.2 33 k = x k) → ∃ y, Ev (fun n => F224f n 13 (nI r) (nI (12 * r + k)) S) (b2i (ruV css x), (S.1, S.2.1, y))
  | [], k, S, hk, hc, ht, h29, hx => by
    have hk : k = N := hk
    subst hk
    have g1 : (nI r < 0 ∨ 6 ≤ r) = False := gdN hr6 (by decide)
    have e2 : Int32.toNatClampNeg (nI r) = r := nI_clamp (by omega)
    have ei : (12 : Int32) * nI r + nI k = nI (12 * r + k) := by rw [L12, nI_mul, nI_add]
    have e1 : am_ic .ge (nI (12 * r + k)) (nI (12 * r + k)) = true := by rw [ic_ge (by omega) (by omega), decide_eq_true (Nat.le_refl _)]
    refine ⟨S.2.2, ev_succ (fun n => F224e13 n ..) ?_⟩
    simp only [F224b13, e2, g1, h29, ei, e1, not_false_eq_true, if_true]
    exact ev_ret
  | c :: css, k, S, hk, hc, ht, h29, hx => by
    have hk : k + (css.length + 1) = N := hk
    have g1 : (nI r < 0 ∨ 6 ≤ r) = False := gdN hr6 (by decide)
    have e2 : Int32.toNatClampNeg (nI r) = r := nI_clamp (by omega)
    have ei : (12 : Int32) * nI r + nI N = nI (12 * r + N) := by rw [L12, nI_mul, nI_add]
    have e1 : am_ic .ge (nI (12 * r + k)) (nI (12 * r + N)) = false := by rw [ic_ge (by omega) (by omega), decide_eq_false (by omega)]
    have g2 : (nI (12 * r + k) < 0 ∨ 72 ≤ 12 * r + k) = False := gdN (by omega) (by decide)
    have e3 : Int32.toNatClampNeg (nI (12 * r + k)) = 12 * r + k := nI_clamp (by omega)
    obtain ⟨a, h1, h2, h3, h4⟩ : CdK S r k c := hc 0 (show 0 < css.length + 1 by omega)
    obtain ⟨t1, t2⟩ := ht c (List.mem_cons_self ..)
    obtain ⟨v, v1, v2⟩ := t2 x []
    obtain ⟨y, hy, hy2⟩ := f225l (e := a + c.length) hr6 h3 c [] a v S (t1 0 (Nat.le_refl _)) (Nat.zero_le _) v2 rfl h4 hx trivial
    have hF : Ev (fun n => F225 n (nI r) (nI a) (nI (a + c.length)) S) (v, (S.1, S.2.1, y)) := ev_succ (fun n => F225e0 n ..) hy
    have hcs : ∀ j, j < css.length → CdK ((S.1, S.2.1, y) : mS) r (k + 1 + j) (css.getD j []) := fun j hj => by
      have := hc (j + 1) (show j + 1 < css.length + 1 by omega)
      rw [show k + 1 + j = k + (j + 1) by omega]
      exact this
    have hv : ruV (c :: css) x = (decide (v = 1) || ruV css x) := by
      show ((decide (stk x c [] = [1])) || ruV css x) = _
      rw [v2]
      congr 1
      refine decide_eq_decide.mpr ⟨fun z => ?_, fun z => by rw [z]⟩
      exact (List.cons.inj z).1
    by_cases h1' : v = 1
    · subst h1'
      refine ⟨y, ev_succ (fun n => F224e13 n ..) ?_⟩
      simp only [F224b13, e2, g1, h29, ei, e1, e3, g2, h1, h2, not_false_eq_true, Bool.false_eq_true, if_false, if_true]
      refine ev_bind hF ?_
      have q : am_if .ne (lg_cmp 1 1) = false := by decide
      simp only [q, Bool.false_eq_true, if_false]
      rw [hv]
      exact ev_ret
    · obtain ⟨y2, hy3⟩ := f224l hr6 hN css (k + 1) (S.1, S.2.1, y) (by omega) hcs (fun c' hc' => ht c' (List.mem_cons_of_mem _ hc')) h29 hy2
      refine ⟨y2, ev_succ (fun n => F224e13 n ..) ?_⟩
      simp only [F224b13, e2, g1, h29, ei, e1, e3, g2, h1, h2, not_false_eq_true, Bool.false_eq_true, if_false, if_true]
      refine ev_bind hF ?_
      have q : am_if .ne (lg_cmp v 1) = true := by
        show (!decide (lg_cmp v 1 = 0)) = true
        rw [decide_eq_false (fun z => h1' ((lg_cmp_eq v 1).mp z))]
        rfl
      simp only [q, if_true, nI_p1]
      rw [hv, decide_eq_false h1', Bool.false_or]
      exact hy3
theorem LMr_is {S : mS} {r : Nat} {css : List (List TK)} (hr6 : r < 6) (hN : css.length ≤ 12) (h29 : S.2.1 29 r = nI css.length) (hc : ∀ j, j < css.length → CdK S r j (css.getD j [])) (ht : ∀ c, c ∈ css → Tst c 0) : LMr S r (ruV css) := by
  intro S' x e e8 hx
  obtain ⟨y, hy⟩ := f224l (x := x) hr6 hN css 0 S' (Nat.zero_add _) (fun j hj => by
    rw [Nat.zero_add]
    exact CdK_fr (hc j hj) (by omega) e) ht (by
    rw [e 29 r (by omega) (by omega) ⟨fun z => absurd z (by decide), fun _ => rfl, fun z => absurd z (by decide)⟩]
    exact h29) hx
  refine ⟨y, ev_succ (fun n => F224e0 n ..) ?_⟩
  have ei : (12 : Int32) * nI r = nI (12 * r) := by rw [L12, nI_mul]
  simp only [F224b0, e8, ei]
  exact hy
