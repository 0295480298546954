/-! a rule told, whole: as the document says it, and the program -/
def wJoin : List Nat := [106, 111, 105, 110]
theorem wd_Join : WdB 4 0 [wJoin] = true := by decide +kernel
/-- a clause's test -/
def rclF (f : Nat → Nat) (L i p : Nat) : PS := prF f L (2 * L + 3) false 0 false false (bk f L i + 4) p []
/-- from clause n on: the fault, the clauses' codes -/
def ruF (f : Nat → Nat) (L : Nat) : Nat → Nat → Nat → Nat → List (List TK) → Nat × List (List TK)
  | 0, _, _, _, css => (0, css)
  | m + 1, n, i, p, css => if wmB f L (bk f L i) wJoin = true then (if n = 12 then (5 + 8 * bk f L i, css) else if (rclF f L i p).1 ≠ 0 then ((rclF f L i p).1, css) else if goF f L (rclF f L i p).2.1 = 1 then ruF f L m (n + 1) (bk f L (rclF f L i p).2.1 + 1) (rclF f L i p).2.2.1 (css ++ [(rclF f L i p).2.2.2]) else if goF f L (rclF f L i p).2.1 = 2 then (1 + 8 * bk f L (rclF f L i p).2.1, css) else (0, css ++ [(rclF f L i p).2.2.2])) else (1 + 8 * bk f L i, css)
/-- the program's code of all clauses -/
def pcd (css : List (List TK)) : List TK := match css with
  | [] => []
  | c :: r => r.foldl (fun a d => a ++ (d ++ [(11, 0)])) c
theorem pcd_1 {d : List TK} : pcd ([] ++ [d]) = d := rfl
theorem pcd_s {css : List (List TK)} {d : List TK} (h : css.length ≠ 0) : pcd (css ++ [d]) = pcd css ++ (d ++ [(11, 0)]) := by
  cases css with
  | nil => exact absurd rfl h
  | cons c r =>
    show (r ++ [d]).foldl (fun a d => a ++ (d ++ [(11, 0)])) c = _
    rw [List.foldl_append]
    rfl
/-- the clauses as they are read -/
def Css (css : List (List TK)) : Prop := match css with
  | [] => True
  | c :: r => Tst c 0 ∧ ∀ d, d ∈ r → Tst d 1
theorem Tst_le {c : List TK} {p q : Nat} (h : Tst c p) (hq : q ≤ p) : Tst c q := ⟨fun h' hh => h.1 h' (by omega), h.2⟩
theorem Css_s {css : List (List TK)} {d : List TK} {p : Nat} (h : Css css) (hd : Tst d p) (hp : css.length ≠ 0 → 1 ≤ p) : Css (css ++ [d]) := by
  cases css with
  | nil => exact ⟨Tst_le hd (Nat.zero_le _), fun d' hd' => absurd hd' (by simp)⟩
  | cons c r =>
    refine ⟨h.1, fun d' hd' => ?_⟩
    rcases List.mem_append.mp hd' with e | e
    · exact h.2 d' e
    · rw [List.mem_singleton.mp e]
      exact Tst_le hd (hp (by simp))
theorem Css_0 {css : List (List TK)} (h : Css css) : ∀ c, c ∈ css → Tst c 0 := by
  cases css with
  | nil => exact fun c hc => absurd hc (by simp)
  | cons c r =>
    intro d hd
    rcases List.mem_cons.mp hd with e | e
    · rw [e]
      exact h.1
    · exact Tst_le (h.2 d e) (by omega)
theorem stk_fr {x : Nat → Int64} : ∀ (c : List TK) (st st2 : List Int64) (h' : Nat), okc c st.length h' → stk x c (st ++ st2) = stk x c st ++ st2
  | [], st, st2, h', _ => rfl
  | t :: ts, st, st2, h', h => by
    obtain ⟨_, h⟩ := h
    show stk x ts (st1 x t (st ++ st2)) = stk x ts (st1 x t st) ++ st2
    by_cases c1 : t.1 ≤ 1
    · rw [if_pos c1] at h
      by_cases c0 : t.1 = 0
      · have e : ∀ s, st1 x t s = Int32.toInt64 (nI t.2) :: s := fun s => if_pos c0
        rw [e, e]
        exact stk_fr ts (Int32.toInt64 (nI t.2) :: st) st2 h' h.2
      · have e : ∀ s, st1 x t s = x t.2 :: s := fun s => (if_neg c0).trans (if_pos (by omega))
        rw [e, e]
        exact stk_fr ts (x t.2 :: st) st2 h' h.2
    · rw [if_neg c1] at h
      by_cases c9 : t.1 = 9
      · rw [if_pos c9] at h
        match st, h with
        | w :: s, h =>
          have e : ∀ s, st1 x t (w :: s) = (1 - w) :: s := fun s => by
            unfold st1
            rw [if_neg (by omega), if_neg (by omega), if_pos c9]
          show stk x ts (st1 x t (w :: (s ++ st2))) = _
          rw [e, e]
          exact stk_fr ts ((1 - w) :: s) st2 h' h.2
      · rw [if_neg c9] at h
        match st, h with
        | w2 :: w1 :: s, h =>
          have e : ∀ s, st1 x t (w2 :: w1 :: s) = opV t.1 w1 w2 :: s := fun s => by
            unfold st1
            rw [if_neg (by omega), if_neg (by omega), if_neg c9]
          show stk x ts (st1 x t (w2 :: w1 :: (s ++ st2))) = _
          rw [e, e]
          exact stk_fr ts (opV t.1 w1 w2 :: s) st2 h' h.2
theorem or_1 {a b : Int64} (ha : v01 a) (hb : v01 b) : decide (opV 11 a b = 1) = (decide (a = 1) || decide (b = 1)) := by
  rcases ha with rfl | rfl <;> rcases hb with rfl | rfl <;> decide
/-- what the joint code comes to -/
theorem pcd_l : ∀ (r : List (List TK)) (acc : List TK), (∀ d, d ∈ r → Tst d 1) → okc acc 0 1 → okc (r.foldl (fun a d => a ++ (d ++ [(11, 0)])) acc) 0 1 ∧ ∀ (x : Nat → Int64) (w : Int64), v01 w → stk x acc [] = [w] → ∃ v, v01 v ∧ stk x (r.foldl (fun a d => a ++ (d ++ [(11, 0)])) acc) [] = [v] ∧ decide (v = 1) = (decide (w = 1) || ruV r x)
  | [], acc, ht, ha => ⟨ha, fun x w hw hs => ⟨w, hw, hs, by rw [show ruV [] x = false from rfl, Bool.or_false]⟩⟩
  | d :: r, acc, ht, ha => by
    obtain ⟨t1, t2⟩ := ht d (List.mem_cons_self ..)
    have bo : bop 11 := by unfold bop; decide
    have ok1 : okc (acc ++ (d ++ [(11, 0)])) 0 1 := okc_app acc ha (okc_app d (t1 1 (Nat.le_refl _)) (ok_op (h := 2) bo (by decide)))
    obtain ⟨k1, k2⟩ := pcd_l r (acc ++ (d ++ [(11, 0)])) (fun d' hd' => ht d' (List.mem_cons_of_mem _ hd')) ok1
    refine ⟨k1, fun x w hw hs => ?_⟩
    obtain ⟨u, u1, u2⟩ := t2 x []
    have e : stk x (acc ++ (d ++ [(11, 0)])) [] = [opV 11 w u] := by
      have := stk_fr (x := x) d [] [w] 1 (t1 0 (by omega))
      rw [stk_app, hs, stk_app, show ([w] : List Int64) = [] ++ [w] from rfl, this, u2]
      exact stk_op bo
    obtain ⟨v, v1, v2, v3⟩ := k2 x (opV 11 w u) (or_v w u hw u1) e
    refine ⟨v, v1, v2, ?_⟩
    rw [v3, or_1 hw u1, Bool.or_assoc]
    show _ = (decide (w = 1) || (decide (stk x d [] = [1]) || ruV r x))
    rw [u2]
    congr 2
    exact decide_eq_decide.mpr ⟨fun z => by rw [z], fun z => (List.cons.inj z).1⟩
theorem pcd_v {css : List (List TK)} (h : Css css) (h0 : css.length ≠ 0) : okc (pcd css) 0 1 ∧ ∀ x : Nat → Int64, ∃ v, stk x (pcd css) [] = [v] ∧ (!decide (v = 0)) = ruV css x := by
  cases css with
  | nil => exact absurd rfl h0
  | cons c r =>
    obtain ⟨⟨t1, t2⟩, h2⟩ := h
    obtain ⟨k1, k2⟩ := pcd_l r c h2 (t1 0 (Nat.le_refl _))
    refine ⟨k1, fun x => ?_⟩
    obtain ⟨u, u1, u2⟩ := t2 x []
    obtain ⟨v, v1, v2, v3⟩ := k2 x u u1 u2
    refine ⟨v, v2, ?_⟩
    have e : (!decide (v = 0)) = decide (v = 1) := by
      rcases v1 with rfl | rfl <;> decide
    rw [e, v3]
    show _ = (decide (stk x c [] = [1]) || ruV r x)
    rw [u2]
    congr 1
    exact decide_eq_decide.mpr ⟨fun z => by rw [z], fun z => (List.cons.inj z).1⟩
section Rl
variable {f : Nat → Nat} {L : Nat}
theorem go_l {i : Nat} (h : goF f L i = 1) : bk f L i < L := by
  unfold goF at h
  refine Nat.lt_of_not_le (fun z => ?_)
  rw [if_neg (by omega)] at h
  omega
theorem go_3 {i : Nat} : goF f L i = 0 ∨ goF f L i = 1 ∨ goF f L i = 2 := by
  unfold goF
  split
  · split
    · exact Or.inr (Or.inl rfl)
    · exact Or.inr (Or.inr rfl)
  · exact Or.inl rfl
theorem rc_g {i p : Nat} (hi : i ≤ L) (hp : p ≤ 60) (hj : bk f L i + 4 ≤ L) : (rclF f L i p).1 ≤ 8 * L + 5 ∧ (rclF f L i p).2.1 ≤ L ∧ ((rclF f L i p).1 = 0 → bk f L i + 4 + 1 ≤ (rclF f L i p).2.1 ∧ p + 1 ≤ (rclF f L i p).2.2.1 ∧ (rclF f L i p).2.2.1 ≤ 60 ∧ (rclF f L i p).2.2.2.length + (bk f L i + 4) ≤ (rclF f L i p).2.1 ∧ 3 * (rclF f L i p).2.2.2.length + 6 * p + (bk f L i + 4) + 3 ≤ 6 * (rclF f L i p).2.2.1 + (rclF f L i p).2.1 ∧ Tst (rclF f L i p).2.2.2 p) := by
  unfold rclF
  obtain ⟨r1, r2, r3⟩ := pr_g (f := f) (L := L) (2 * L + 3) false 0 false false (bk f L i + 4) p [] (fun z => absurd z (by decide)) (fun _ => by omega) hp hj
  refine ⟨r1, r2, fun h0 => ?_⟩
  obtain ⟨c1, c2, c3, c4, c5, c6⟩ := r3 h0
  have q := pr_q (2 * L + 3) false 0 false false (bk f L i + 4) p [] h0 (fun z => absurd z (by decide)) (fun _ => by omega) hp hj
  obtain ⟨c, d1, _, d2⟩ := pr_c (2 * L + 3) false 0 false false (bk f L i + 4) p [] h0 (fun z => absurd z (by decide)) (fun _ => by omega) hp hj
  obtain ⟨d3, d4⟩ := d2 rfl
  have e0 : (if false = true then 0 else b1 false + b1 false) = 0 := by decide
  rw [e0] at c5 c6
  have el : ([] : List TK).length = 0 := rfl
  rw [el] at c5 c6
  rw [List.nil_append] at d1
  refine ⟨c1, q, c3, by omega, by omega, ?_⟩
  rw [d1]
  exact ⟨fun h hh => d3 h hh, fun x st => d4 x 0 0 st (Or.inl rfl) (Or.inl rfl)⟩
/-- what a rule's reading keeps -/
theorem ru_g : ∀ (m n i p : Nat) (css : List (List TK)), m + n = 13 → n = css.length → n ≤ 12 → p ≤ 60 → i ≤ L → (n ≠ 0 → 1 ≤ p) → Css css → (ruF f L m n i p css).1 ≤ 8 * L + 5 ∧ ((ruF f L m n i p css).1 = 0 → Css (ruF f L m n i p css).2 ∧ (ruF f L m n i p css).2.length ≠ 0 ∧ (ruF f L m n i p css).2.length ≤ 12)
  | 0, n, i, p, css, hm, hn, h12, hp, hi, h1, hc => by omega
  | m + 1, n, i, p, css, hm, hn, h12, hp, hi, h1, hc => by
    have hb := bk_b (f := f) hi
    unfold ruF
    by_cases hw : wmB f L (bk f L i) wJoin = true
    · rw [if_pos hw]
      have hj : bk f L i + 4 ≤ L := wm_len hw
      by_cases h12' : n = 12
      · rw [if_pos h12']
        exact ⟨by show 5 + 8 * bk f L i ≤ _; omega, fun z => absurd z (show ¬ 5 + 8 * bk f L i = 0 by omega)⟩
      · rw [if_neg h12']
        obtain ⟨r1, r2, r3⟩ := rc_g (f := f) hi hp hj
        by_cases h0 : (rclF f L i p).1 = 0
        · rw [if_neg (fun z => z h0)]
          obtain ⟨c1, c2, c3, c4, c5, c6⟩ := r3 h0
          have hb2 := bk_b (f := f) r2
          have hcs := Css_s hc c6 (fun z => h1 (by omega))
          have hln : (css ++ [(rclF f L i p).2.2.2]).length = css.length + 1 := by rw [List.length_append]; rfl
          by_cases g1 : goF f L (rclF f L i p).2.1 = 1
          · rw [if_pos g1]
            have := go_l g1
            exact ru_g m (n + 1) _ _ _ (by omega) (by omega) (by omega) c3 (by omega) (fun _ => by omega) hcs
          · rw [if_neg g1]
            by_cases g2 : goF f L (rclF f L i p).2.1 = 2
            · rw [if_pos g2]
              exact ⟨by show 1 + 8 * bk f L (rclF f L i p).2.1 ≤ _; omega, fun z => absurd z (show ¬ 1 + 8 * bk f L (rclF f L i p).2.1 = 0 by omega)⟩
            · rw [if_neg g2]
              exact ⟨Nat.zero_le _, fun _ => ⟨hcs, by show (css ++ [(rclF f L i p).2.2.2]).length ≠ 0; omega, by show (css ++ [(rclF f L i p).2.2.2]).length ≤ 12; omega⟩⟩
        · rw [if_pos h0]
          exact ⟨r1, fun z => absurd z h0⟩
    · rw [if_neg hw]
      exact ⟨by show 1 + 8 * bk f L i ≤ _; omega, fun z => absurd z (show ¬ 1 + 8 * bk f L i = 0 by omega)⟩
def RuQ (T00 : xS) (L : Nat) (res : Nat × List (List TK)) (z : Int32 × xS) : Prop := z.1 = nI res.1 ∧ ∃ pos p' pc', RuT T00 z.2 L pos res.1 p' pc' ∧ (res.1 = 0 → pc' = pcd res.2 ∧ pc'.length < 400)
theorem RuQ_e {T00 T : xS} {pos e p : Nat} {pc : List TK} {css : List (List TK)} (h : RuT T00 T L pos e p pc) (he : e ≠ 0) : RuQ T00 L (e, css) (T.1 65 4, T) := by
  obtain ⟨m, ht⟩ := h.1
  exact ⟨ht.2.2.2.1, pos, p, pc, h, fun z => absurd z he⟩
theorem RuQ_k {T00 T : xS} {pos p : Nat} {pc : List TK} {css : List (List TK)} (h : RuT T00 T L pos 0 p pc) (hc : pc = pcd css) (hl : pc.length < 400) : RuQ T00 L (0, css) (T.1 65 4, T) := by
  obtain ⟨m, ht⟩ := h.1
  exact ⟨ht.2.2.2.1, pos, p, pc, h, fun _ => ⟨hc, hl⟩⟩
theorem g57l {T00 : xS} (hH : TH T00 f L) : ∀ (m n i p : Nat) (css : List (List TK)) (T : xS), m + n = 13 → n = css.length → n ≤ 12 → p ≤ 60 → i ≤ L → (pcd css).length ≤ i → RuT T00 T L i 0 p (pcd css) → Ep (fun N => G57f N 16 (nI n) T) (RuQ T00 L (ruF f L m n i p css)) := by
  have hL := hH.2.1
  have n1 : am_if .ne (nI 1) = true := by decide
  have n0 : am_if .ne (nI 0) = false := by decide
  intro m
  induction m with
  | zero =>
    intro n i p css T hm hn h12
    omega
  | succ m ih =>
    intro n i p css T hm hn h12 hp hi hlen h
    have hb := bk_b (f := f) hi
    obtain ⟨mm, ht⟩ := h.1
    obtain ⟨res, hres⟩ : ∃ res, res = ruF f L (m + 1) n i p css := ⟨_, rfl⟩
    rw [← hres]
    unfold ruF at hres
    have e12 : am_ic .gt (nI n) 12 = false := by
      have := ic_gt (a := n) (b := 12) (by omega) (by decide)
      rw [decide_eq_false (by omega)] at this
      exact this
    refine ep_succ (fun N => G57e16 N ..) ?_
    simp only [G57b16, e12, Bool.false_eq_true, if_false]
    refine ep_bind (g22 (RuT_TH hH h) wd_Join (by decide) (by decide) hi ht) ?_
    rintro ⟨z4, T1⟩ hz
    cases hw : wmB f L (bk f L i) wJoin with
    | false =>
      have ew : wiF f L (bk f L i) [wJoin] 0 = none := by
        unfold wiF
        rw [if_neg (by rw [hw]; decide)]
        rfl
      rw [ew] at hz
      rw [if_neg (by rw [hw]; decide)] at hres
      obtain ⟨x1, x2⟩ := hz
      have x1 : z4 = zI 0 := x1
      have x2 : TP T1 T L (bk f L i) (bk f L i) (1 + 8 * bk f L i) := x2
      subst x1
      have e1 : am_ic .ne (zI 0) (-1) = false := by decide
      simp only [e1, Bool.false_eq_true, if_false]
      rw [hres]
      exact ep_ret (RuQ_e (RuT_tp h x2) (by omega))
    | true =>
      have ew : wiF f L (bk f L i) [wJoin] 0 = some (0, 4) := by
        unfold wiF
        rw [if_pos hw]
        rfl
      rw [ew] at hz
      rw [if_pos hw] at hres
      have hj : bk f L i + 4 ≤ L := wm_len hw
      obtain ⟨x1, x2⟩ := hz
      have x1 : z4 = nI 0 := x1
      have x2 : TP T1 T L (bk f L i + 4) (bk f L i) 0 := x2
      subst x1
      have e1 : am_ic .ne (nI 0) (-1) = true := by decide
      have r1 := RuT_tp h x2
      have t3 : T1.1 65 3 = nI (bk f L i) := x2.2.2.1
      have e2 : am_ic .ne (nI n) 12 = !decide (n = 12) := ic_ne (b := 12) (by omega) (by decide)
      simp only [e1, if_true]
      by_cases h12' : n = 12
      · rw [if_pos h12'] at hres
        have e2 : am_ic .ne (nI n) 12 = false := by rw [e2, decide_eq_true h12']; rfl
        simp only [e2, Bool.false_eq_true, if_false, t3, L4]
        refine ep_bind (g36 (TP_self x2)) ?_
        rintro ⟨z, T2⟩ ⟨_, y2⟩
        have y2 : TP T2 T1 L (bk f L i + 4) (bk f L i) (1 + 8 * bk f L i + 4) := y2
        rw [hres, show 5 + 8 * bk f L i = 1 + 8 * bk f L i + 4 by omega]
        exact ep_ret (RuQ_e (RuT_tp r1 y2) (by omega))
      · rw [if_neg h12'] at hres
        have e2 : am_ic .ne (nI n) 12 = true := by rw [e2, decide_eq_false h12']; rfl
        simp only [e2, if_true]
        obtain ⟨q1, q2, q3⟩ := rc_g (f := f) hi hp hj
        obtain ⟨R, hR⟩ : ∃ R, R = rclF f L i p := ⟨_, rfl⟩
        rw [← hR] at hres q1 q2 q3
        have g0 : Ep (fun N => GR N 48 0 0 T1) (RuZ T00 L (pcd css) R) := by
          show Ep (fun N => G58f (GR N 47 0) (GR N 47 1) (GR N 47 2) N 0 (nI 0) 0 0 0 T1) (RuZ T00 L (pcd css) R)
          refine ep_succ (g := fun N => G58f (GR (N + 1) 47 0) (GR (N + 1) 47 1) (GR (N + 1) 47 2) N 8 (nI 0) (b2i false) (b2i false) (nI 0) T1) (fun N => G58e0 (GR (N + 1) 47 0) (GR (N + 1) 47 1) (GR (N + 1) 47 2) N ..) ?_
          rw [hR]
          have r1' : RuT T00 T1 L (bk f L i + 4) 0 p (pcd css ++ []) := by rw [List.append_nil]; exact r1
          exact (gr_all hH (2 * L + 3)).2 0 false false (bk f L i + 4) p [] T1 47 0 1 (by omega) (by omega) (by omega) hp (Nat.zero_le _) hj (by have : b1 false = 0 := rfl; have : ([] : List TK).length = 0 := rfl; omega) r1'
        refine ep_bind g0 ?_
        rintro ⟨z8, T2⟩ ⟨y1, pos, p', pc', y2, y3⟩
        have y1 : z8 = if R.1 = 0 then nI 1 else nI 0 := y1
        have y2 : RuT T00 T2 L pos R.1 p' pc' := y2
        subst y1
        by_cases h0 : R.1 = 0
        · obtain ⟨w1, w2, w3⟩ := y3 h0
          subst w1
          subst w2
          subst w3
          rw [h0] at y2
          obtain ⟨c1, c2, c3, c4, c5, c6⟩ := q3 h0
          have hb2 := bk_b (f := f) q2
          rw [if_neg (fun z => z h0)] at hres
          rw [if_pos h0]
          simp only [n1, if_true]
          have hln : (css ++ [R.2.2.2]).length = css.length + 1 := by rw [List.length_append]; rfl
          have onw : ∀ T3, RuT T00 T3 L R.2.1 0 R.2.2.1 (pcd (css ++ [R.2.2.2])) → (pcd (css ++ [R.2.2.2])).length ≤ bk f L R.2.1 → (pcd (css ++ [R.2.2.2])).length < 400 → Ep (fun N => (G52 N T3).bind (fun z12 => if am_if .ne z12.1 = true then G57f N 16 (nI n + 1) z12.2 else some (z12.2.1 65 4, z12.2))) (RuQ T00 L res) := by
            intro T3 k1 k2 k3
            obtain ⟨m3, kt⟩ := k1.1
            refine ep_bind (g52 (RuT_TH hH k1) q2 kt) ?_
            rintro ⟨z12, T4⟩ ⟨s1, s0, s2⟩
            rcases go_3 (f := f) (L := L) (i := R.2.1) with g | g | g
            · obtain ⟨u1, u2⟩ := s0 g
              have u1 : z12 = nI 0 := u1
              have u2 : TP T4 T3 L (bk f L R.2.1) m3 0 := u2
              subst u1
              rw [if_neg (by omega), if_neg (by omega)] at hres
              simp only [n0, Bool.false_eq_true, if_false]
              rw [hres]
              exact ep_ret (RuQ_k (RuT_tp k1 u2) rfl k3)
            · obtain ⟨u1, u2⟩ := s1 g
              have u1 : z12 = nI 1 := u1
              have u2 : TP T4 T3 L (bk f L R.2.1 + 1) m3 0 := u2
              subst u1
              rw [if_pos g] at hres
              simp only [n1, if_true, nI_p1]
              have := go_l g
              rw [hres]
              exact ih (n + 1) _ _ _ T4 (by omega) (by omega) (by omega) c3 (by omega) (by omega) (RuT_tp k1 u2)
            · obtain ⟨u1, u2⟩ := s2 g
              have u1 : z12 = nI 0 := u1
              have u2 : TP T4 T3 L (bk f L R.2.1) m3 (1 + 8 * bk f L R.2.1) := u2
              subst u1
              rw [if_neg (by omega), if_pos g] at hres
              simp only [n0, Bool.false_eq_true, if_false]
              rw [hres]
              exact ep_ret (RuQ_e (RuT_tp k1 u2) (by omega))
          by_cases hn0 : n = 0
          · have e3 : am_if .le (nI n) = true := by rw [hn0]; decide
            simp only [e3, if_true]
            have ec : css = [] := List.eq_nil_of_length_eq_zero (by omega)
            have ep : pcd (css ++ [R.2.2.2]) = R.2.2.2 := by rw [ec]; rfl
            have ep0 : pcd css = [] := by rw [ec]; rfl
            rw [ep0, List.nil_append] at y2
            refine onw T2 ?_ ?_ ?_
            · rw [ep]
              exact y2
            · rw [ep]
              omega
            · rw [ep]
              omega
          · have e3 : am_if .le (nI n) = false := by
              rw [if_le (by omega)]
              exact decide_eq_false (by omega)
            simp only [e3, Bool.false_eq_true, if_false]
            have ep : pcd (css ++ [R.2.2.2]) = (pcd css ++ R.2.2.2) ++ [(11, 0)] := by rw [pcd_s (by omega), List.append_assoc]
            have l1 : (pcd css ++ R.2.2.2).length = (pcd css).length + R.2.2.2.length := List.length_append ..
            have g62' := g62 (t := (11, 0)) y2 (by omega)
            have ec : cdI (11, 0) = -23 := by decide
            rw [ec] at g62'
            refine ep_bind g62' ?_
            rintro ⟨_, T3⟩ v
            have v : RuT T00 T3 L R.2.1 0 R.2.2.1 ((pcd css ++ R.2.2.2) ++ [(11, 0)]) := v
            rw [← ep] at v
            have l2 : (pcd (css ++ [R.2.2.2])).length = (pcd css).length + R.2.2.2.length + 1 := by rw [ep, len1, l1]
            exact onw T3 v (by omega) (by omega)
        · rw [if_pos h0] at hres
          rw [if_neg h0]
          simp only [n0, Bool.false_eq_true, if_false]
          rw [hres]
          exact ep_ret (RuQ_e y2 h0)
end Rl
