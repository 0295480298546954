/-! a rule told: the program, whole -/
def ruA (A : AA) : Nat × List (List TK) := ruF A.1.2 A.1.1 13 0 0 0 []
def rulA (A : AA) : AA := if 6 ≤ A.2.1.1 then A else if (ruA A).1 = 0 then ((0, A.1.2), (A.2.1.1 + 1, fun r => if r = A.2.1.1 then ruV (ruA A).2 else A.2.1.2 r), A.2.2) else ((0, A.1.2), A.2)
def rulR (A : AA) : Int32 := if 6 ≤ A.2.1.1 then -1 else if (ruA A).1 = 0 then nI A.2.1.1 else (-2) - nI (ruA A).1
theorem ru_a {A : AA} {k : Nat} (ok : OkA k A) : (ruA A).1 ≤ 8 * A.1.1 + 5 ∧ ((ruA A).1 = 0 → Css (ruA A).2 ∧ (ruA A).2.length ≠ 0 ∧ (ruA A).2.length ≤ 12) := ru_g 13 0 0 0 [] (by omega) rfl (by omega) (by omega) (by omega) (fun z => absurd rfl z) trivial
theorem g57 {T : xS} {f : Nat → Nat} {L : Nat} (hH : TH T f L) (hl : T.1 65 1 = nI L) : Ep (fun n => G57 n T) (RuQ T L (ruF f L 13 0 0 0 [])) := by
  refine ep_succ (fun n => G57e0 n ..) ?_
  simp only [G57b0]
  have g17 : Ep (fun n => G17 n T) (fun z => TP z.2 T L 0 0 0) := by
    refine ep_succ (fun n => G17e0 n ..) ?_
    simp only [G17b0, L0]
    refine ep_ret ⟨?_, ?_, ?_, x_rIe, fun q hq => ?_, rfl⟩
    · rw [x_rIi (by decide), x_rIi (by decide), x_rIi (by decide)]
      exact hl
    · rw [x_rIi (by decide), x_rIi (by decide), x_rIe]
    · rw [x_rIi (by decide), x_rIe]
    · rw [x_rIn hq, x_rIn hq, x_rIn hq]
  refine ep_bind g17 ?_
  rintro ⟨_, T1⟩ a
  have a : TP T1 T L 0 0 0 := a
  simp only [L0]
  refine g57l hH 13 0 0 0 [] _ (by omega) rfl (by omega) (by omega) (by omega) (Nat.zero_le _) ⟨⟨0, ?_, ?_, ?_, ?_, fun _ _ => rfl, rfl⟩, ?_, ?_, fun k hk => absurd hk (Nat.not_lt_zero _), fun q h1 h2 => ?_, fun q h1 => ?_, ?_⟩
  · rw [x_rIn (by decide), x_rIn (by decide)]
    exact a.1
  · rw [x_rIn (by decide), x_rIn (by decide)]
    exact a.2.1
  · rw [x_rIn (by decide), x_rIn (by decide)]
    exact a.2.2.1
  · rw [x_rIn (by decide), x_rIn (by decide)]
    exact a.2.2.2.1
  · rw [x_rIi (by decide), x_rIe]
    rfl
  · rw [x_rIe]
  · rw [x_rIn h2, x_rIn h2]
    exact a.2.2.2.2.1 q h1
  · show T1.2.1 q = T.2.1 q
    rw [a.2.2.2.2.2]
  · show T1.2.2 = T.2.2
    rw [a.2.2.2.2.2]
theorem CD_gx {T T' : xS} {G G' : gS} {p : Nat} {d : AD} (h : CD T G p d) (hp : Wd T p) (ow : OwC T G) (hf : ∀ q, ((172 ≤ q ∧ q < 172 + G.2.1) ∨ (88 ≤ q ∧ q ≤ 107)) → T'.1 q = T.1 q ∧ T'.2.1 q = T.2.1 q) (hq : ∀ q, q ≠ 87 → T'.2.2.2 q = T.2.2.2 q) : CD T' G' p d := by
  have hp2 : p = 88 ∨ 172 ≤ p := Wd_r ow hp
  have hlt := vB_lt (ow.1 p hp)
  obtain ⟨h1, h2, h3, h4, h5⟩ := h
  refine ⟨CB_of h1 (hf _ (by omega)).1 (fun k a b => (hf _ (by omega)).2), CW_of h2 (hf _ (by omega)).1 (fun k a b => (hf _ (by omega)).2), CP_of h3 (hf _ (by omega)).1 (hq _ (by omega)) (fun i q w hi e c => ?_), ?_, ?_⟩
  · obtain ⟨b1, b2, _⟩ := ow.2.2.2.1 p i q hp hi e
    have b3 : q + 10 < 172 + G.2.1 := kd_lt (by rw [wk10 b2]; decide)
    exact CW_of c (hf _ (by omega)).1 (fun k a b => (hf _ (by omega)).2)
  · rw [(hf p (by omega)).1]
    exact h4
  · rw [(hf p (by omega)).1]
    exact h5
theorem OwC_gx {T T' : xS} {G G' : gS} (h : OwC T G) (gx : GX G G') (hq : ∀ q, q ≠ 87 → T'.2.2.2 q = T.2.2.2 q) : OwC T' G' := by
  have h108 := hq 108 (by decide)
  have ow := h
  obtain ⟨o1, o2, o3, o4, o5⟩ := h
  have hp2 : ∀ p, Wd T p → p + 19 ≠ 87 := by
    intro p hp
    have := Wd_r ow hp
    omega
  refine ⟨fun p hp => GX_v gx (o1 p ((Wd_of h108).mp hp)), fun i p hi e => o2 i p hi (by rw [← h108]; exact e), fun i j p hi hj e e' => o3 i j p hi hj (by rw [← h108]; exact e) (by rw [← h108]; exact e'), fun p i q hp hi e => ?_, fun p i q p' i' hp hp' hi hi' e e' => ?_⟩
  · have hp := (Wd_of h108).mp hp
    rw [hq _ (hp2 p hp)] at e
    obtain ⟨a1, a2, a3⟩ := o4 p i q hp hi e
    exact ⟨a1, GX_w gx a2, fun p' hp' => a3 p' ((Wd_of h108).mp hp')⟩
  · have hp := (Wd_of h108).mp hp
    have hp' := (Wd_of h108).mp hp'
    rw [hq _ (hp2 p hp)] at e
    rw [hq _ (hp2 p' hp')] at e'
    exact o5 p i q p' i' hp hp' hi hi' e e'
/-- a new law stands beside all else -/
theorem RC_law {A : AA} {T T' : xS} {G G' : gS} {q ln : Nat} {rf : (Nat → Int64) → Bool} (h : RC A T G) (hq : q = 172 + G.2.1) (gx : GX G G') (h65 : T'.1 65 1 = nI 0) (h64 : T'.1 64 4 = nI (A.2.1.1 + 1)) (f1 : ∀ r, r ≠ 64 → r ≠ 65 → r ≠ 85 → r ≠ q → T'.1 r = T.1 r) (f2 : ∀ r, r ≠ 86 → r ≠ q + 1 → T'.2.1 r = T.2.1 r) (f4 : ∀ r, r ≠ 87 → T'.2.2.2 r = T.2.2.2 r) (f87 : ∀ j, j ≠ A.2.1.1 → T'.2.2.2 87 j = T.2.2.2 87 j) (f87e : T'.2.2.2 87 A.2.1.1 = some q) (hlB : lB G' q ln = true) (hLC : LC T' (some q) ln (some rf)) : RC ((0, A.1.2), (A.2.1.1 + 1, fun r => if r = A.2.1.1 then rf else A.2.1.2 r), A.2.2) T' G' := by
  obtain ⟨_, ⟨r1, r2⟩, h3, h5, ow⟩ := h
  have hf : ∀ r, ((172 ≤ r ∧ r < 172 + G.2.1) ∨ (88 ≤ r ∧ r ≤ 107)) → T'.1 r = T.1 r ∧ T'.2.1 r = T.2.1 r := fun r hr => ⟨f1 r (by omega) (by omega) (by omega) (by omega), f2 r (by omega) (by omega)⟩
  refine ⟨⟨h65, fun i hi => absurd hi (Nat.not_lt_zero _)⟩, ⟨h64, fun r hr => ?_⟩, CD_gx h3 (Or.inl rfl) ow hf f4, fun i hi => ?_, OwC_gx ow gx f4⟩
  · have hr : r < A.2.1.1 + 1 := hr
    by_cases er : r = A.2.1.1
    · refine ⟨q, ln, by rw [er]; exact f87e, hlB, ?_⟩
      show LC T' (some q) ln (some (if r = A.2.1.1 then rf else A.2.1.2 r))
      rw [if_pos er]
      exact hLC
    · obtain ⟨q', n', s1, s2, s3⟩ := r2 r (by omega)
      have hlt : q' + 1 < 172 + G.2.1 := kd_lt (by rw [lk1 s2]; exact Nat.succ_ne_zero 0)
      refine ⟨q', n', by rw [f87 r er]; exact s1, GX_l gx s2, ?_⟩
      show LC T' (some q') n' (some (if r = A.2.1.1 then rf else A.2.1.2 r))
      rw [if_neg er]
      refine LC_fr s3 (fun q'' e' h' => f2 _ (by omega) ?_)
      have := Option.some.inj e'
      omega
  · have := h5 i hi
    show match A.2.2.2 i with
      | none => T'.2.2.2 108 i = none
      | some d => ∃ p, T'.2.2.2 108 i = some p ∧ CD T' G' p d
    cases hd : A.2.2.2 i with
    | none =>
      rw [hd] at this
      show T'.2.2.2 108 i = none
      rw [f4 108 (by decide)]
      exact this
    | some d =>
      rw [hd] at this
      obtain ⟨p, e1, e2⟩ := this
      exact ⟨p, by rw [f4 108 (by decide)]; exact e1, CD_gx e2 (Or.inr ⟨i, hi, e1⟩) ow hf f4⟩
/-- the law that is made of a code -/
theorem LC_is {T : xS} {q : Nat} {css : List (List TK)} (hq : 172 ≤ q) (h : Css css) (h0 : css.length ≠ 0) (hl : (pcd css).length < 400) (hr : ∀ k, k < (pcd css).length → T.2.1 (q + 1) k = cdI ((pcd css).getD k (0, 0))) : LC T (some q) (pcd css).length (some (ruV css)) := by
  obtain ⟨k1, k2⟩ := pcd_v h h0
  refine ⟨hq, fun T' x e1 e2 => ?_⟩
  obtain ⟨v, v1, v2⟩ := k2 x
  obtain ⟨y, hy⟩ := g96l (q := q) (ln := (pcd css).length) (x := x) (by omega) (pcd css) [] 0 v T' k1 (Nat.zero_le _) v1 (Nat.zero_add _) (fun k hk => by rw [Nat.zero_add, e1]; exact hr k hk) e2 trivial
  refine ⟨y, ?_⟩
  rw [← v2]
  refine ev_succ (fun n => G96e0 q (pcd css).length n ..) ?_
  simp only [G96b0]
  exact hy
theorem lI_k {T : xS} {G : gS} {k : Nat} : GX G (lI T G k).2 ∧ x_kd (lI T G k).2 (172 + G.2.1) = (11, 0) ∧ x_kd (lI T G k).2 (172 + G.2.1 + 1) = (1, k) ∧ (lI T G k).2.2.1 = G.2.1 + 2 ∧ (lI T G k).2.2.2 = G.2.2 + 1 + k := by
  have e1 : x_kd (gN (gN G (0, 0) 1) (1, k) k) (172 + G.2.1 + 1) = (1, k) := kd_gNs (G := gN G (0, 0) 1)
  refine ⟨⟨by show G.2.1 ≤ G.2.1 + 1 + 1; omega, fun p hp => ?_⟩, ?_, ?_, rfl, rfl⟩
  · show x_kd (gK (gN (gN G (0, 0) 1) (1, k) k) (172 + G.2.1) (11, 0)) p = _
    rw [kd_gK (by omega), kd_gN (G := gN G (0, 0) 1) (by show p ≠ 172 + (G.2.1 + 1); omega), kd_gN (by omega)]
  · exact kd_gKs (by omega) (by show 172 + G.2.1 < 172 + (G.2.1 + 1 + 1); omega)
  · show x_kd (gK (gN (gN G (0, 0) 1) (1, k) k) (172 + G.2.1) (11, 0)) (172 + G.2.1 + 1) = _
    rw [kd_gK (by omega), e1]
theorem g56 {A : AA} {k : Nat} (ok : OkA k A) : CallX k (fun n => G56 n) A (rulR A) (rulA A) := by
  intro T G hR hG
  obtain ⟨u1, u2⟩ := ru_a ok
  have hL := ok.1
  have h6 := ok.2.2.1
  have t64 : T.1 64 4 = nI A.2.1.1 := hR.2.1.1
  refine ep_succ (fun n => G56e0 n ..) ?_
  have e6 : am_ic .lt (nI A.2.1.1) 6 = decide (A.2.1.1 < 6) := ic_lt (b := 6) (by omega) (by decide)
  simp only [G56b0, t64]
  by_cases c6 : 6 ≤ A.2.1.1
  · have eA : rulA A = A := if_pos c6
    have eR : rulR A = -1 := if_pos c6
    have e6 : am_ic .lt (nI A.2.1.1) 6 = false := by rw [e6, decide_eq_false (by omega)]
    simp only [e6, Bool.false_eq_true, if_false]
    rw [eA, eR]
    exact ep_ret ⟨rfl, hR, RG_s hG⟩
  · have e6 : am_ic .lt (nI A.2.1.1) 6 = true := by rw [e6, decide_eq_true (by omega)]
    simp only [e6, if_true]
    refine ep_bind (g57 (RC_TH ok hR) hR.1.1) ?_
    rintro ⟨z2, T2⟩ ⟨x1, pos, p', pc', x2, x3⟩
    have x1 : z2 = nI (ruA A).1 := x1
    have x2 : RuT T T2 A.1.1 pos (ruA A).1 p' pc' := x2
    have x3 : (ruA A).1 = 0 → pc' = pcd (ruA A).2 ∧ pc'.length < 400 := x3
    subst x1
    obtain ⟨⟨m2, tp⟩, y1, y2, y3, y4, y5, y6⟩ := x2
    by_cases h0 : (ruA A).1 = 0
    · obtain ⟨w1, w2⟩ := x3 h0
      obtain ⟨cs, c0, c12⟩ := u2 h0
      have eA : rulA A = ((0, A.1.2), (A.2.1.1 + 1, fun r => if r = A.2.1.1 then ruV (ruA A).2 else A.2.1.2 r), A.2.2) := (if_neg c6).trans (if_pos h0)
      have eR : rulR A = nI A.2.1.1 := (if_neg c6).trans (if_pos h0)
      have e1 : am_if .eq (nI (ruA A).1) = true := by rw [h0]; decide
      simp only [e1, if_true]
      obtain ⟨T3, hT3⟩ : ∃ T3, T3 = x_sI T2 65 1 (nI 0) := ⟨_, rfl⟩
      have t85 : T3.1 85 1 = nI pc'.length := by rw [hT3, x_rIn (by decide)]; exact y1
      have g69 : Ev (fun n => G69 n (x_sI T2 65 1 0, G)) (172 + G.2.1, lI T3 G pc'.length) := by
        show Ev (fun n => G69 n (x_sI T2 65 1 (nI 0), G)) _
        rw [← hT3]
        have c : ¬ T3.1 85 1 < 0 ∧ T3.1 85 1 < 400 := by
          rw [t85]
          exact ⟨fun z => by
            have := nI_pos (n := pc'.length) (by omega)
            exact this z, (nI_ltI' (b := 400) (by omega) (by decide)).mpr w2⟩
        have : ∀ n, G69 n (T3, G) = some (172 + G.2.1, lI T3 G pc'.length) := fun n => by
          unfold G69
          rw [if_pos c, t85, nI_clamp (by omega)]
        exact ⟨0, fun n _ => this n⟩
      obtain ⟨k1, k2, k3, k4, k5⟩ := lI_k (T := T3) (G := G) (k := pc'.length)
      refine ep_bv g69 ?_
      have t64' : T2.1 64 4 = nI A.2.1.1 := by rw [y4 64 (by decide) (by decide)]; exact t64
      have hlB : lB (lI T3 G pc'.length).2 (172 + G.2.1) pc'.length = true := decide_eq_true ⟨k2, k3⟩
      have e2 : (x_kd (lI T3 G pc'.length).2 (172 + G.2.1 + 1)).2 = pc'.length := by rw [k3]
      have g1 : (nI A.2.1.1 < 0 ∨ 6 ≤ A.2.1.1) = False := gdN (by omega) (by decide)
      have e3 : Int32.toNatClampNeg (nI A.2.1.1) = A.2.1.1 := nI_clamp (by omega)
      have l64 : (lI T3 G pc'.length).1.1 64 4 = nI A.2.1.1 := by
        show va_up T3.1 (172 + G.2.1) (fun _ => 0) 64 4 = _
        rw [va_upN (by omega), hT3, x_rIn (by decide)]
        exact t64'
      have l64q : (x_sQ (lI T3 G pc'.length).1 87 A.2.1.1 (some (172 + G.2.1))).1 64 4 = nI A.2.1.1 := l64
      simp only [t64', e3, g1, e2, hlB, not_false_eq_true, if_true, Option.bind_some, l64q, nI_p1, nI_s1]
      rw [eA, eR]
      refine ep_ret ⟨rfl, RC_law hR rfl k1 ?_ x_rIe (fun r r1 r2 r3 r4 => ?_) (fun r r1 r2 => ?_) (fun r r1 => ?_) (fun j hj => ?_) ?_ hlB ?_, ?_, ?_⟩
      · show (x_sI (x_sQ (lI T3 G pc'.length).1 87 A.2.1.1 (some (172 + G.2.1))) 64 4 (nI (A.2.1.1 + 1))).1 65 1 = nI 0
        rw [x_rIn (by decide)]
        show va_up T3.1 (172 + G.2.1) (fun _ => 0) 65 1 = _
        rw [va_upN (by omega), hT3, x_rIe]
      · rw [x_rIn r1]
        show va_up T3.1 (172 + G.2.1) (fun _ => 0) r = _
        rw [va_upN r4, hT3, x_rIn r2]
        exact y4 r r2 r3
      · show va_up (va_up T3.2.1 (172 + G.2.1 + 1) (fun _ => 0)) (172 + G.2.1 + 1) _ r = _
        rw [va_upN r2, va_upN r2, hT3]
        exact y5 r r1
      · show (x_sQ (lI T3 G pc'.length).1 87 A.2.1.1 (some (172 + G.2.1))).2.2.2 r = _
        rw [x_rQn r1]
        show T3.2.2.2 r = _
        rw [hT3]
        show T2.2.2.2 r = _
        rw [y6]
      · show (x_sQ (lI T3 G pc'.length).1 87 A.2.1.1 (some (172 + G.2.1))).2.2.2 87 j = _
        rw [x_rQi hj]
        show T3.2.2.2 87 j = _
        rw [hT3]
        show T2.2.2.2 87 j = _
        rw [y6]
      · show (x_sQ (lI T3 G pc'.length).1 87 A.2.1.1 (some (172 + G.2.1))).2.2.2 87 A.2.1.1 = _
        exact x_rQe
      · have := LC_is (T := x_sI (x_sQ (lI T3 G pc'.length).1 87 A.2.1.1 (some (172 + G.2.1))) 64 4 (nI (A.2.1.1 + 1))) (q := 172 + G.2.1) (by omega) cs c0 (by rw [← w1]; exact w2) (fun j hj => by
          show va_up (va_up T3.2.1 (172 + G.2.1 + 1) (fun _ => 0)) (172 + G.2.1 + 1) (va_cpy (T3.2.1 86) (fun _ => 0) 0 0 pc'.length) (172 + G.2.1 + 1) j = _
          rw [← w1] at hj ⊢
          rw [va_upS, cpy_i hj, hT3]
          exact y3 j hj)
        rw [← w1] at this
        exact this
      · show (lI T3 G pc'.length).2.2.1 ≤ _
        have := hG.1
        omega
      · show (lI T3 G pc'.length).2.2.2 ≤ _
        have := hG.2
        omega
    · have eA : rulA A = ((0, A.1.2), A.2) := (if_neg c6).trans (if_neg h0)
      have eR : rulR A = (-2) - nI (ruA A).1 := (if_neg c6).trans (if_neg h0)
      have e1 : am_if .eq (nI (ruA A).1) = false := by
        rw [if_eq (by omega)]
        exact decide_eq_false h0
      simp only [e1, Bool.false_eq_true, if_false, L0]
      rw [eA, eR]
      refine ep_ret ⟨rfl, RC_keep hR rfl ⟨x_rIe, fun i hi => absurd hi (Nat.not_lt_zero _)⟩ ?_ (fun q hq => ⟨?_, ?_⟩) (fun q _ => ?_), RG_s hG⟩
      · show (x_sI T2 65 1 (nI 0)).1 64 4 = T.1 64 4
        rw [x_rIn (by decide), y4 64 (by decide) (by decide)]
      · show (x_sI T2 65 1 (nI 0)).1 q = T.1 q
        rw [x_rIn (by omega)]
        exact y4 q (by omega) (by omega)
      · exact y5 q (by omega)
      · show T2.2.2.2 q = T.2.2.2 q
        rw [y6]
