/-! rules told: the program's recursion -/
theorem ep_sh {α : Type} {f : Nat → Option α} {P : α → Prop} (s : Nat) (h : Ep f P) : Ep (fun n => f (n + s)) P := by
  obtain ⟨r, ⟨n0, h0⟩, hp⟩ := h
  exact ⟨r, ⟨n0, fun n hn => h0 (n + s) (by omega)⟩, hp⟩
theorem cm_o {f : Nat → Nat} {L j : Nat} : cdI (cmO f L j, 0) = opI (cmO f L j) ∧ am_ic .eq (opI (cmO f L j)) (-1) = false := by
  unfold cmO
  split
  · exact ⟨by decide, by decide⟩
  · split
    · split
      · exact ⟨by decide, by decide⟩
      · exact ⟨by decide, by decide⟩
    · split
      · exact ⟨by decide, by decide⟩
      · exact ⟨by decide, by decide⟩
theorem sm_p {f : Nat → Nat} {L : Nat} : ∀ (m ad tm i p : Nat) (cs : List TK), m + p = 61 → p ≤ 60 → i ≤ L → (smF f L m ad tm i p cs).1 = 0 → p + 1 ≤ (smF f L m ad tm i p cs).2.2.1
  | 0, ad, tm, i, p, cs, hm, hp, hi, h => by omega
  | m + 1, ad, tm, i, p, cs, hm, hp, hi, h => by
    obtain ⟨v1, v2, v3⟩ := va_g (f := f) (cs := cs) hi hp
    have hb := bk_b (f := f) v2
    unfold smF at h ⊢
    by_cases h0 : (vaF f L i p cs).1 = 0
    · have hp1 : (vaF f L i p cs).2.2.1 = p + 1 := va_p h0
      have hg := (v3 h0).2.2.1
      rw [if_neg (fun z => z h0)] at h ⊢
      by_cases hmu : muS f L (bk f L (vaF f L i p cs).2.1) = 0
      · rw [if_neg (fun z => z hmu)] at h ⊢
        by_cases had : adS f L (bk f L (vaF f L i p cs).2.1) = 0
        · rw [if_neg (fun z => z had)]
          show p + 1 ≤ (vaF f L i p cs).2.2.1
          omega
        · rw [if_pos had] at h ⊢
          have hl := ad_l had
          have := sm_p m _ _ _ _ _ (by omega) hg (by omega) h
          omega
      · rw [if_pos hmu] at h ⊢
        have hl := mu_l hmu
        have := sm_p m _ _ _ _ _ (by omega) hg (by omega) h
        omega
    · rw [if_pos h0] at h
      exact absurd h h0
theorem cm_p {f : Nat → Nat} {L i p : Nat} {cs : List TK} (h : (cmF f L i p cs).1 = 0) (hp : p ≤ 60) (hi : i ≤ L) : p + 1 ≤ (cmF f L i p cs).2.2.1 := by
  obtain ⟨⟨s1, s2, s3⟩, s4⟩ := smG_g (f := f) (cs := cs) hi hp
  unfold cmF at h ⊢
  by_cases h0 : (c2F f L (smG f L i p cs)).1 = 0
  · rw [if_neg (fun z => z h0)]
    show p + 1 ≤ (c2F f L (smG f L i p cs)).2.2.1
    unfold c2F at h0 ⊢
    by_cases k0 : (smG f L i p cs).1 = 0
    · have hq := sm_p (f := f) (L := L) (61 - p) 0 0 i p cs (by omega) hp hi k0
      have hq : p + 1 ≤ (smG f L i p cs).2.2.1 := hq
      rw [if_neg (fun z => z k0)] at h0 ⊢
      by_cases hc : isC f L (smG f L i p cs).2.1 = false
      · rw [if_pos hc] at h0
        exact absurd h0 (show ¬ 1 + 8 * (smG f L i p cs).2.1 = 0 by omega)
      · rw [if_neg hc] at h0 ⊢
        have hc : isC f L (smG f L i p cs).2.1 = true := by simpa using hc
        have hl := is_l hc
        by_cases h60 : 60 ≤ (smG f L i p cs).2.2.1
        · rw [if_pos h60] at h0
          exact absurd h0 (show ¬ 4 + 8 * (smG f L i p cs).2.1 = 0 by omega)
        · rw [if_neg h60] at h0 ⊢
          obtain ⟨w1, w2⟩ := wi_1 (f := f) (L := L) (j := (smG f L i p cs).2.1)
          obtain ⟨⟨t1, t2, t3⟩, _⟩ := smG_g (f := f) (L := L) (i := (smG f L i p cs).2.1 + 1 + wiS f L (smG f L i p cs).2.1) (p := (smG f L i p cs).2.2.1 + 1) (cs := (smG f L i p cs).2.2.2) (by
            by_cases hw : wiS f L (smG f L i p cs).2.1 = 1
            · have := w2 hw
              omega
            · omega) (by omega)
          have := (t3 h0).2.1
          omega
    · rw [if_pos k0] at h0
      exact absurd h0 k0
  · rw [if_pos h0] at h
    exact absurd h h0
theorem pr_q {f : Nat → Nat} {L : Nat} : ∀ (m : Nat) (k : Bool) (d : Nat) (an o : Bool) (i p : Nat) (cs : List TK), (prF f L m k d an o i p cs).1 = 0 → (k = true → 2 * (L - i) + 1 ≤ m) → (k = false → 2 * (L - i) + 2 ≤ m) → p ≤ 60 → i ≤ L → p + 1 ≤ (prF f L m k d an o i p cs).2.2.1
  | 0, true, d, an, o, i, p, cs, h, h1, h2, hp, hi => by
    have := h1 rfl
    omega
  | 0, false, d, an, o, i, p, cs, h, h1, h2, hp, hi => by
    have := h2 rfl
    omega
  | m + 1, true, d, an, o, i, p, cs, h, h1, h2, hp, hi => by
    have hm := h1 rfl
    have hb := bk_b (f := f) hi
    unfold prF at h ⊢
    by_cases hbr : sg f L (bk f L i) = 92
    · rw [if_pos hbr] at h ⊢
      have hl := sg_l (x := 91) hbr
      by_cases hd : 10 ≤ d
      · rw [if_pos hd] at h
        exact absurd h (show ¬ 3 + 8 * bk f L i = 0 by omega)
      · rw [if_neg hd] at h ⊢
        unfold brF at h ⊢
        by_cases h0 : (prF f L m false (d + 1) false false (bk f L i + 1) p cs).1 = 0
        · rw [if_neg (fun z => z h0)] at h ⊢
          have := pr_q m false (d + 1) false false (bk f L i + 1) p cs h0 (fun z => absurd z (by decide)) (fun _ => by omega) hp (by omega)
          by_cases hc : sg f L (bk f L (prF f L m false (d + 1) false false (bk f L i + 1) p cs).2.1) = 94
          · rw [if_pos hc]
            exact this
          · rw [if_neg hc] at h
            exact absurd h (show ¬ 1 + 8 * bk f L (prF f L m false (d + 1) false false (bk f L i + 1) p cs).2.1 = 0 by omega)
        · rw [if_pos h0] at h
          exact absurd h h0
    · rw [if_neg hbr] at h ⊢
      by_cases hnt : wmB f L (bk f L i) wNot = true
      · rw [if_pos hnt] at h ⊢
        have hl : bk f L i + 3 ≤ L := wm_len hnt
        by_cases hd : 10 ≤ d
        · rw [if_pos hd] at h
          exact absurd h (show ¬ 3 + 8 * bk f L i = 0 by omega)
        · rw [if_neg hd] at h ⊢
          unfold ntF at h ⊢
          by_cases h0 : (prF f L m true (d + 1) false false (bk f L i + 3) p cs).1 = 0
          · rw [if_neg (fun z => z h0)]
            exact pr_q m true (d + 1) false false (bk f L i + 3) p cs h0 (fun _ => by omega) (fun z => absurd z (by decide)) hp hl
          · rw [if_pos h0] at h
            exact absurd h h0
      · rw [if_neg hnt] at h ⊢
        exact cm_p h hp hb.2.1
  | m + 1, false, d, an, o, i, p, cs, h, h1, h2, hp, hi => by
    have hm := h2 rfl
    obtain ⟨r1, r2, r3⟩ := pr_g (f := f) (L := L) m true d false false i p cs (fun _ => by omega) (fun z => absurd z (by decide)) hp hi
    have hb := bk_b (f := f) r2
    unfold prF at h ⊢
    by_cases h0 : (prF f L m true d false false i p cs).1 = 0
    · obtain ⟨c1, c2, c3, _⟩ := r3 h0
      have q := pr_q m true d false false i p cs h0 (fun _ => by omega) (fun z => absurd z (by decide)) hp hi
      rw [if_neg (fun z => z h0)] at h ⊢
      by_cases hw : wmB f L (bk f L (prF f L m true d false false i p cs).2.1) wAnd = true
      · rw [if_pos hw] at h ⊢
        have hl : bk f L (prF f L m true d false false i p cs).2.1 + 3 ≤ L := wm_len hw
        have := pr_q m false d true o _ _ _ h (fun z => absurd z (by decide)) (fun _ => by omega) c3 hl
        omega
      · rw [if_neg hw] at h ⊢
        by_cases hw2 : wmB f L (bk f L (prF f L m true d false false i p cs).2.1) wOr = true
        · rw [if_pos hw2] at h ⊢
          have hl : bk f L (prF f L m true d false false i p cs).2.1 + 2 ≤ L := wm_len hw2
          have := pr_q m false d false true _ _ _ h (fun z => absurd z (by decide)) (fun _ => by omega) c3 hl
          omega
        · rw [if_neg hw2]
          exact q
    · rw [if_pos h0] at h
      exact absurd h h0
theorem pr_p {f : Nat → Nat} {L m d i p : Nat} {cs : List TK} (h : (prF f L m true d false false i p cs).1 = 0) (hm : 2 * (L - i) + 1 ≤ m) (hp : p ≤ 60) (hi : i ≤ L) : p + 1 ≤ (prF f L m true d false false i p cs).2.2.1 := pr_q m true d false false i p cs h (fun _ => hm) (fun z => absurd z (by decide)) hp hi
section Rv4
variable {T00 T : xS} {f : Nat → Nat} {L i p : Nat} {P0 cs : List TK}
theorem gcm (hH : TH T00 f L) (h : RuT T00 T L i 0 p (P0 ++ cs)) (hp : p ≤ 60) (hi : i ≤ L) (hlen : P0.length + cs.length + 1 ≤ i) : Ep (fun n => (G63 n T).bind (fun z7 => (if am_if .ne z7.1 = true then ((G68 n z7.2).bind (fun z10 => (if am_ic .eq z10.1 (-1) = true then some (0, z10.2) else ((G63 n z10.2).bind (fun z13 => (if am_if .ne z13.1 = true then ((G62 n z10.1 z13.2).bind (fun z16 => some (1, z16.2))) else some (0, z13.2))))))) else some (0, z7.2)))) (RuZ T00 L P0 (cmF f L i p cs)) := by
  have hL := hH.2.1
  have n1 : am_if .ne (nI 1) = true := by decide
  have n0 : am_if .ne (nI 0) = false := by decide
  obtain ⟨⟨s1, s2, s3⟩, s4⟩ := smG_g (f := f) (cs := cs) hi hp
  obtain ⟨res, hres⟩ : ∃ res, res = cmF f L i p cs := ⟨_, rfl⟩
  rw [← hres]
  obtain ⟨r2, hr2⟩ : ∃ r2, r2 = c2F f L (smG f L i p cs) := ⟨_, rfl⟩
  unfold cmF at hres
  rw [← hr2] at hres
  have bad : ∀ (T' : xS) (pos p' : Nat) (pc' : List TK), r2.1 ≠ 0 → RuT T00 T' L pos r2.1 p' pc' → Ep (fun _ => some (nI 0, T')) (RuZ T00 L P0 res) := by
    intro T' pos p' pc' h0 hr
    rw [if_pos h0] at hres
    rw [hres]
    exact ep_ret ⟨(if_neg h0).symm, _, _, _, hr, fun z => absurd z h0⟩
  unfold c2F at hr2
  refine ep_bind (g63 hH h hp hi hlen) ?_
  rintro ⟨z, T1⟩ ⟨a1, pos, p', pc', a2, a3⟩
  have a1 : z = if (smG f L i p cs).1 = 0 then nI 1 else nI 0 := a1
  have a2 : RuT T00 T1 L pos (smG f L i p cs).1 p' pc' := a2
  subst a1
  by_cases h0 : (smG f L i p cs).1 = 0
  · obtain ⟨x1, x2, x3⟩ := a3 h0
    subst x1
    subst x2
    subst x3
    rw [h0] at a2
    obtain ⟨g1, g2, g3, g4, g5, g6⟩ := s3 h0
    rw [if_neg (fun z => z h0)] at hr2
    rw [if_pos h0]
    simp only [n1, if_true]
    refine ep_bind (g68 hH a2 g3 s2 (s4 h0)) ?_
    rintro ⟨z10, T2⟩ ⟨b1, b2⟩
    have b1 : sgF f L (smG f L i p cs).2.1 (smG f L i p cs).2.2.1 ≠ 0 → z10 = zI 0 ∧ ∃ pos p', RuT T00 T2 L pos (sgF f L (smG f L i p cs).2.1 (smG f L i p cs).2.2.1) p' (P0 ++ (smG f L i p cs).2.2.2) := b1
    by_cases hs : sgF f L (smG f L i p cs).2.1 (smG f L i p cs).2.2.1 = 0
    · obtain ⟨y1, y2⟩ := b2 hs
      have y1 : z10 = opI (cmO f L (smG f L i p cs).2.1) := y1
      have y2 : RuT T00 T2 L ((smG f L i p cs).2.1 + 1 + wiS f L (smG f L i p cs).2.1) 0 ((smG f L i p cs).2.2.1 + 1) (P0 ++ (smG f L i p cs).2.2.2) := y2
      subst y1
      have hic : isC f L (smG f L i p cs).2.1 = true := by
        cases hc : isC f L (smG f L i p cs).2.1 with
        | true => rfl
        | false =>
          unfold sgF at hs
          rw [if_pos hc] at hs
          omega
      have h60 : ¬ 60 ≤ (smG f L i p cs).2.2.1 := fun z => by
        unfold sgF at hs
        rw [if_neg (by rw [hic]; decide), if_pos z] at hs
        omega
      have hl := is_l hic
      rw [if_neg (by rw [hic]; decide), if_neg h60] at hr2
      obtain ⟨w1, w2⟩ := wi_1 (f := f) (L := L) (j := (smG f L i p cs).2.1)
      have hi2 : (smG f L i p cs).2.1 + 1 + wiS f L (smG f L i p cs).2.1 ≤ L := by
        by_cases hw : wiS f L (smG f L i p cs).2.1 = 1
        · have := w2 hw
          omega
        · omega
      simp only [cm_o.2, Bool.false_eq_true, if_false]
      refine ep_bind (g63 hH y2 (by omega) hi2 (by omega)) ?_
      rintro ⟨z13, T3⟩ ⟨c1, pos3, p3, pc3, c2, c3⟩
      rw [← hr2] at c1 c2 c3
      have c1 : z13 = if r2.1 = 0 then nI 1 else nI 0 := c1
      have c2 : RuT T00 T3 L pos3 r2.1 p3 pc3 := c2
      subst c1
      by_cases k0 : r2.1 = 0
      · obtain ⟨e1, e2, e3⟩ := c3 k0
        have e1 : pos3 = r2.2.1 := e1
        have e2 : p3 = r2.2.2.1 := e2
        have e3 : pc3 = P0 ++ r2.2.2.2 := e3
        subst e1
        subst e2
        subst e3
        rw [k0] at c2
        rw [if_pos k0]
        rw [if_neg (fun z => z k0)] at hres
        obtain ⟨⟨t1, t2, t3⟩, _⟩ := smG_g (f := f) (L := L) (i := (smG f L i p cs).2.1 + 1 + wiS f L (smG f L i p cs).2.1) (p := (smG f L i p cs).2.2.1 + 1) (cs := (smG f L i p cs).2.2.2) hi2 (by omega)
        rw [← hr2] at t1 t2 t3
        obtain ⟨u1, u2, u3, u4, u5, u6⟩ := t3 k0
        have hlr : (P0 ++ r2.2.2.2).length = P0.length + r2.2.2.2.length := List.length_append ..
        simp only [n1, if_true]
        have g := g62 (t := (cmO f L (smG f L i p cs).2.1, 0)) c2 (by omega)
        rw [cm_o.1] at g
        refine ep_bind g ?_
        rintro ⟨_, T4⟩ d
        rw [hres]
        exact ep_ret ⟨rfl, _, _, _, d, fun _ => ⟨rfl, rfl, by rw [List.append_assoc]⟩⟩
      · rw [if_neg k0]
        simp only [n0, Bool.false_eq_true, if_false]
        exact bad T3 _ _ _ k0 c2
    · obtain ⟨y1, pos3, p3, y2⟩ := b1 hs
      subst y1
      have e1 : am_ic .eq (zI 0) (-1) = true := by decide
      simp only [e1, if_true]
      have er : r2.1 = sgF f L (smG f L i p cs).2.1 (smG f L i p cs).2.2.1 := by
        rw [hr2]
        unfold sgF at hs ⊢
        by_cases hc : isC f L (smG f L i p cs).2.1 = false
        · rw [if_pos hc, if_pos hc]
        · rw [if_neg hc] at hs ⊢
          by_cases h60 : 60 ≤ (smG f L i p cs).2.2.1
          · rw [if_pos h60, if_neg hc, if_pos h60]
          · rw [if_neg h60] at hs
            exact absurd rfl hs
      exact bad T2 pos3 p3 _ (by rw [er]; exact hs) (by rw [er]; exact y2)
  · rw [if_pos h0] at hr2
    rw [if_neg h0]
    simp only [n0, Bool.false_eq_true, if_false]
    exact bad T1 pos p' pc' (by rw [hr2]; exact h0) (by rw [hr2]; exact a2)
/-- a flag's operator is written -/
theorem wr_b {x : Bool} {o : Nat} {v : Int32} {Q : Int32 × xS → Prop} {K : Nat → xS → Option (Int32 × xS)} (hv : cdI (o, 0) = v) (h : RuT T00 T L i 0 p (P0 ++ cs)) (hl : x = true → (P0 ++ cs).length < 400) (go : ∀ T', RuT T00 T' L i 0 p (P0 ++ (if x = true then cs ++ [(o, 0)] else cs)) → Ep (fun n => K n T') Q) : Ep (fun n => if am_if .eq (b2i x) = true then K n T else (G62 n v T).bind (fun z => K n z.2)) Q := by
  cases x with
  | false =>
    have e : am_if .eq (b2i false) = true := by decide
    simp only [e, if_true]
    exact go T h
  | true =>
    have e : am_if .eq (b2i true) = false := by decide
    simp only [e, Bool.false_eq_true, if_false]
    have g := g62 (t := (o, 0)) h (hl rfl)
    rw [hv] at g
    refine ep_bind g ?_
    rintro ⟨_, T1⟩ a
    refine go T1 ?_
    rw [if_pos rfl, ← List.append_assoc]
    exact a
def FactOK (T00 : xS) (f : Nat → Nat) (L : Nat) (P0 : List TK) (m : Nat) : Prop := ∀ (d i p : Nat) (cs : List TK) (T : xS) (e : Nat), 2 * (L - i) + 1 ≤ m → d ≤ 10 → 3 * (10 - d) + 3 ≤ e → p ≤ 60 → i ≤ L → P0.length + cs.length + 1 ≤ i → RuT T00 T L i 0 p (P0 ++ cs) → Ep (fun n => GR n e 1 (nI d) T) (RuZ T00 L P0 (prF f L m true d false false i p cs))
def TestOK (T00 : xS) (f : Nat → Nat) (L : Nat) (P0 : List TK) (m : Nat) : Prop := ∀ (d : Nat) (an o : Bool) (i p : Nat) (cs : List TK) (T : xS) (e c s : Nat), 2 * (L - i) + 2 ≤ m → d ≤ 10 → 3 * (10 - d) + 3 ≤ e → p ≤ 60 → c ≤ p → i ≤ L → P0.length + cs.length + b1 an + b1 o + 1 ≤ i → RuT T00 T L i 0 p (P0 ++ cs) → Ep (fun n => G58f (GR (n + s) e 0) (GR (n + s) e 1) (GR (n + s) e 2) n 8 (nI d) (b2i an) (b2i o) (nI c) T) (RuZ T00 L P0 (prF f L m false d an o i p cs))
theorem test_s {m : Nat} (hH : TH T00 f L) (hf : FactOK T00 f L P0 m) (ht : TestOK T00 f L P0 m) : TestOK T00 f L P0 (m + 1) := by
  have hL := hH.2.1
  have n1 : am_if .ne (nI 1) = true := by decide
  have n0 : am_if .ne (nI 0) = false := by decide
  have nt : am_if .ne (b2i true) = true := by decide
  have nf : am_if .ne (b2i false) = false := by decide
  intro d an o i p cs T e c s hm hd he hp hc hi hlen h
  obtain ⟨r1, r2, r3⟩ := pr_g (f := f) (L := L) m true d false false i p cs (fun _ => by omega) (fun z => absurd z (by decide)) hp hi
  rw [if_pos rfl] at r3
  obtain ⟨R, hR⟩ : ∃ R, R = prF f L m true d false false i p cs := ⟨_, rfl⟩
  rw [← hR] at r1 r2 r3
  obtain ⟨res, hres⟩ : ∃ res, res = prF f L (m + 1) false d an o i p cs := ⟨_, rfl⟩
  rw [← hres]
  unfold prF at hres
  rw [← hR] at hres
  have e60 : am_ic .gt (nI c) 60 = false := by
    have := ic_gt (a := c) (b := 60) (by omega) (by decide)
    rw [decide_eq_false (show ¬ 60 < c by omega)] at this
    exact this
  refine ep_succ (g := fun n => G58b8 (GR (n + 1 + s) e 0) (GR (n + 1 + s) e 1) (GR (n + 1 + s) e 2) (G58f (GR (n + 1 + s) e 0) (GR (n + 1 + s) e 1) (GR (n + 1 + s) e 2) n) n (nI d) (b2i an) (b2i o) (nI c) T) (fun n => G58e8 (GR (n + 1 + s) e 0) (GR (n + 1 + s) e 1) (GR (n + 1 + s) e 2) n ..) ?_
  simp only [G58b8, e60, Bool.false_eq_true, if_false]
  have g := ep_sh (1 + s) (hf d i p cs T e (by omega) hd he hp hi (by omega) h)
  rw [← hR] at g
  have g : Ep (fun n => GR (n + 1 + s) e 1 (nI d) T) (RuZ T00 L P0 R) := by
    refine ep_eq (fun n => ?_) g
    rw [Nat.add_assoc]
  refine ep_bind g ?_
  rintro ⟨z, T1⟩ ⟨a1, pos, p', pc', a2, a3⟩
  have a1 : z = if R.1 = 0 then nI 1 else nI 0 := a1
  have a2 : RuT T00 T1 L pos R.1 p' pc' := a2
  subst a1
  by_cases h0 : R.1 = 0
  · obtain ⟨x1, x2, x3⟩ := a3 h0
    subst x1
    subst x2
    subst x3
    rw [h0] at a2
    obtain ⟨g1, g2, g3, g4, g5, g6⟩ := r3 h0
    have hb := bk_b (f := f) r2
    rw [if_neg (fun z => z h0)] at hres
    rw [if_pos h0]
    simp only [n1, if_true]
    have ha1 : b1 an ≤ 1 := by cases an <;> decide
    have ho1 : b1 o ≤ 1 := by cases o <;> decide
    have hlr : (P0 ++ R.2.2.2).length = P0.length + R.2.2.2.length := List.length_append ..
    have l1 : ∀ x : Nat, nI x + 1 = nI (x + 1) := fun x => by rw [← nI_add]; rfl
    obtain ⟨cs1, hcs1⟩ : ∃ cs1, cs1 = (if an = true then R.2.2.2 ++ [(10, 0)] else R.2.2.2) := ⟨_, rfl⟩
    have lcs1 : cs1.length = R.2.2.2.length + b1 an := by rw [hcs1, ite_len]
    rw [← hcs1] at hres
    obtain ⟨cs2, hcs2⟩ : ∃ cs2, cs2 = (if o = true then cs1 ++ [(11, 0)] else cs1) := ⟨_, rfl⟩
    have lcs2 : cs2.length = cs1.length + b1 o := by rw [hcs2, ite_len]
    rw [← hcs2] at hres
    have cp : c + 1 ≤ R.2.2.1 := by
      have := pr_p (f := f) (L := L) (m := m) (d := d) (i := i) (p := p) (cs := cs) (by rw [← hR]; exact h0) (by omega) hp hi
      rw [← hR] at this
      omega
    refine wr_b (K := fun n T' => (G61 n 10 T').bind (fun z9 => if am_if .ne z9.1 = true then G58f (GR (n + 1 + s) e 0) (GR (n + 1 + s) e 1) (GR (n + 1 + s) e 2) n 8 (nI d) z9.1 (b2i o) (nI c + 1) z9.2 else if am_if .eq (b2i o) = true then (G61 n 12 z9.2).bind (fun z13 => if am_if .ne z13.1 = true then G58f (GR (n + 1 + s) e 0) (GR (n + 1 + s) e 1) (GR (n + 1 + s) e 2) n 8 (nI d) z9.1 z13.1 (nI c + 1) z13.2 else some (1, z13.2)) else (G62 n (-23) z9.2).bind (fun z16 => (G61 n 12 z16.2).bind (fun z18 => if am_if .ne z18.1 = true then G58f (GR (n + 1 + s) e 0) (GR (n + 1 + s) e 1) (GR (n + 1 + s) e 2) n 8 (nI d) z9.1 z18.1 (nI c + 1) z18.2 else some (1, z18.2))))) (o := 10) (by decide) a2 (fun _ => by omega) (fun T2 b2 => ?_)
    rw [← hcs1] at b2
    obtain ⟨m2, bt2⟩ := b2.1
    refine ep_bind (g61 wr_10 (RuT_TH hH b2) r2 bt2) ?_
    rintro ⟨z9, T3⟩ ⟨c1, c2, c3⟩
    have c1 : z9 = b2i (wmB f L (bk f L R.2.1) wAnd) := c1
    subst c1
    cases hw : wmB f L (bk f L R.2.1) wAnd with
    | true =>
      rw [if_pos hw] at hres
      have hl : bk f L R.2.1 + 3 ≤ L := wm_len hw
      have r3' := RuT_tp b2 (c2 hw)
      simp only [nt, if_true, l1]
      rw [hres]
      have := ht d true o (bk f L R.2.1 + 3) R.2.2.1 cs1 T3 e (c + 1) (1 + s) (by omega) hd he g3 cp hl (by have : b1 true = 1 := rfl; omega) r3'
      refine ep_eq (fun n => ?_) this
      rw [Nat.add_assoc]
    | false =>
      rw [if_neg (by rw [hw]; decide)] at hres
      have r3' := RuT_tp b2 (c3 hw)
      simp only [nf, Bool.false_eq_true, if_false]
      have hlr2 : (P0 ++ cs1).length = P0.length + cs1.length := List.length_append ..
      refine wr_b (K := fun n T' => (G61 n 12 T').bind (fun z13 => if am_if .ne z13.1 = true then G58f (GR (n + 1 + s) e 0) (GR (n + 1 + s) e 1) (GR (n + 1 + s) e 2) n 8 (nI d) (b2i false) z13.1 (nI c + 1) z13.2 else some (1, z13.2))) (o := 11) (by decide) r3' (fun hx => by rw [hx] at hlen; have : b1 true = 1 := rfl; omega) (fun T4 b4 => ?_)
      rw [← hcs2] at b4
      obtain ⟨m4, bt4⟩ := b4.1
      refine ep_bind (g61 wr_12 (RuT_TH hH b4) hb.2.1 bt4) ?_
      rw [bk_id r2]
      rintro ⟨z13, T5⟩ ⟨d1, d2, d3⟩
      have d1 : z13 = b2i (wmB f L (bk f L R.2.1) wOr) := d1
      subst d1
      cases hw2 : wmB f L (bk f L R.2.1) wOr with
      | true =>
        rw [if_pos hw2] at hres
        have hl : bk f L R.2.1 + 2 ≤ L := wm_len hw2
        have r5 := RuT_tp b4 (d2 hw2)
        simp only [nt, if_true, l1]
        rw [hres]
        have := ht d false true (bk f L R.2.1 + 2) R.2.2.1 cs2 T5 e (c + 1) (1 + s) (by omega) hd he g3 cp hl (by have : b1 true = 1 := rfl; have : b1 false = 0 := rfl; omega) r5
        refine ep_eq (fun n => ?_) this
        rw [Nat.add_assoc]
      | false =>
        rw [if_neg (by rw [hw2]; decide)] at hres
        have r5 := RuT_tp b4 (d3 hw2)
        simp only [nf, Bool.false_eq_true, if_false]
        rw [hres]
        exact ep_ret ⟨rfl, _, _, _, r5, fun _ => ⟨rfl, rfl, rfl⟩⟩
  · rw [if_pos h0] at hres
    rw [if_neg h0, hres]
    simp only [n0, Bool.false_eq_true, if_false]
    exact ep_ret ⟨(if_neg h0).symm, _, _, _, a2, fun z => absurd z h0⟩
theorem fact_s {m : Nat} (hH : TH T00 f L) (hf : FactOK T00 f L P0 m) (ht : TestOK T00 f L P0 m) : FactOK T00 f L P0 (m + 1) := by
  have hL := hH.2.1
  have n1 : am_if .ne (nI 1) = true := by decide
  have n0 : am_if .ne (nI 0) = false := by decide
  intro d i p cs T e hm hd he hp hi hlen h
  have hb := bk_b (f := f) hi
  obtain ⟨m1, ht1⟩ := h.1
  obtain ⟨e1, rfl⟩ : ∃ e1, e = e1 + 1 := ⟨e - 1, by omega⟩
  obtain ⟨res, hres⟩ : ∃ res, res = prF f L (m + 1) true d false false i p cs := ⟨_, rfl⟩
  rw [← hres]
  unfold prF at hres
  show Ep (fun n => G59f (GR n e1 0) (GR n e1 1) (GR n e1 2) n 0 (nI d) T) (RuZ T00 L P0 res)
  refine ep_succ (g := fun n => G59b0 (GR (n + 1) e1 0) (GR (n + 1) e1 1) (GR (n + 1) e1 2) (G59f (GR (n + 1) e1 0) (GR (n + 1) e1 1) (GR (n + 1) e1 2) n) n (nI d) T) (fun n => G59e0 (GR (n + 1) e1 0) (GR (n + 1) e1 1) (GR (n + 1) e1 2) n ..) ?_
  simp only [G59b0]
  refine ep_bind (g23 (RuT_TH hH h) hi ht1) ?_
  rintro ⟨z1, T1⟩ ⟨a1, a2⟩
  have a1 : z1 = zI (sg f L (bk f L i)) := a1
  have a2 : TP T1 T L (bk f L i) m1 0 := a2
  subst a1
  have r1 := RuT_tp h a2
  have t2 : T1.1 65 2 = nI (bk f L i) := a2.2.1
  have hsb := sg_b (f := f) (j := bk f L i) hH
  have f91 : am_ic .ne (zI (sg f L (bk f L i))) 91 = !decide (sg f L (bk f L i) = 92) := ic_ne_pn (c := 91) (by omega) (by decide)
  have e10 : am_ic .lt (nI d) 10 = decide (d < 10) := ic_lt (b := 10) (by omega) (by decide)
  have l1 : ∀ x : Nat, nI x + 1 = nI (x + 1) := fun x => by rw [← nI_add]; rfl
  by_cases hbr : sg f L (bk f L i) = 92
  · rw [if_pos hbr] at hres
    have hl := sg_l (x := 91) hbr
    have e2 : am_ic .ne (zI (sg f L (bk f L i))) 91 = false := by rw [f91, decide_eq_true hbr]; rfl
    simp only [e2, Bool.false_eq_true, if_false]
    have g60 : Ep (fun n => GR n e1 2 (nI d) T1) (RuZ T00 L P0 res) := by
      obtain ⟨e3, rfl⟩ : ∃ e3, e1 = e3 + 1 := ⟨e1 - 1, by omega⟩
      show Ep (fun n => G60f (GR n e3 0) (GR n e3 1) (GR n e3 2) n 0 (nI d) T1) (RuZ T00 L P0 res)
      refine ep_succ (g := fun n => G60b0 (GR (n + 1) e3 0) (GR (n + 1) e3 1) (GR (n + 1) e3 2) (G60f (GR (n + 1) e3 0) (GR (n + 1) e3 1) (GR (n + 1) e3 2) n) n (nI d) T1) (fun n => G60e0 (GR (n + 1) e3 0) (GR (n + 1) e3 1) (GR (n + 1) e3 2) n ..) ?_
      simp only [G60b0, e10, t2, l1]
      by_cases hd10 : 10 ≤ d
      · rw [if_pos hd10] at hres
        have e4 : decide (d < 10) = false := decide_eq_false (by omega)
        simp only [e4, Bool.false_eq_true, if_false, L2]
        refine ep_bind (g36 (TP_self a2)) ?_
        rintro ⟨z, T2⟩ ⟨x1, x2⟩
        have x1 : z = nI 0 := x1
        have x2 : TP T2 T1 L (bk f L i) m1 (1 + 8 * bk f L i + 2) := x2
        subst x1
        simp only [nbz, if_true]
        rw [hres]
        refine ep_ret ⟨(if_neg (show ¬ 3 + 8 * bk f L i = 0 by omega)).symm, bk f L i, p, P0 ++ cs, ?_, fun z => absurd z (show ¬ 3 + 8 * bk f L i = 0 by omega)⟩
        show RuT T00 T2 L (bk f L i) (3 + 8 * bk f L i) p (P0 ++ cs)
        rw [show 3 + 8 * bk f L i = 1 + 8 * bk f L i + 2 by omega]
        exact RuT_tp r1 x2
      · rw [if_neg hd10] at hres
        have e4 : decide (d < 10) = true := decide_eq_true (by omega)
        simp only [e4, if_true]
        obtain ⟨e5, rfl⟩ : ∃ e5, e3 = e5 + 1 := ⟨e3 - 1, by omega⟩
        obtain ⟨R, hR⟩ : ∃ R, R = prF f L m false (d + 1) false false (bk f L i + 1) p cs := ⟨_, rfl⟩
        rw [← hR] at hres
        unfold brF at hres
        have g0 : Ep (fun n => GR (n + 1) (e5 + 1) 0 (nI (d + 1)) (x_sI T1 65 2 (nI (bk f L i + 1)))) (RuZ T00 L P0 R) := by
          refine ep_sh 1 (f := fun n => GR n (e5 + 1) 0 (nI (d + 1)) (x_sI T1 65 2 (nI (bk f L i + 1)))) ?_
          show Ep (fun n => G58f (GR n e5 0) (GR n e5 1) (GR n e5 2) n 0 (nI (d + 1)) 0 0 0 (x_sI T1 65 2 (nI (bk f L i + 1)))) (RuZ T00 L P0 R)
          refine ep_succ (g := fun n => G58f (GR (n + 1) e5 0) (GR (n + 1) e5 1) (GR (n + 1) e5 2) n 8 (nI (d + 1)) (b2i false) (b2i false) (nI 0) (x_sI T1 65 2 (nI (bk f L i + 1)))) (fun n => G58e0 (GR (n + 1) e5 0) (GR (n + 1) e5 1) (GR (n + 1) e5 2) n ..) ?_
          rw [hR]
          exact ht (d + 1) false false (bk f L i + 1) p cs _ e5 0 1 (by omega) (by omega) (by omega) hp (Nat.zero_le _) (by omega) (by have : b1 false = 0 := rfl; omega) (RuT_23 r1 rfl)
        obtain ⟨q1, q2, q3⟩ := pr_g (f := f) (L := L) m false (d + 1) false false (bk f L i + 1) p cs (fun z => absurd z (by decide)) (fun _ => by omega) hp (by omega)
        rw [← hR] at q1 q2 q3
        refine ep_bind g0 ?_
        rintro ⟨z, T2⟩ ⟨x1, pos, p', pc', x2, x3⟩
        have x1 : z = if R.1 = 0 then nI 1 else nI 0 := x1
        have x2 : RuT T00 T2 L pos R.1 p' pc' := x2
        subst x1
        by_cases h0 : R.1 = 0
        · obtain ⟨y1, y2, y3⟩ := x3 h0
          subst y1
          subst y2
          subst y3
          rw [h0] at x2
          obtain ⟨m2, xt⟩ := x2.1
          have hb2 := bk_b (f := f) q2
          rw [if_neg (fun z => z h0)] at hres
          rw [if_pos h0]
          simp only [n1, if_true]
          refine ep_bind (g23 (RuT_TH hH x2) q2 xt) ?_
          rintro ⟨z5, T3⟩ ⟨w1, w2⟩
          have w1 : z5 = zI (sg f L (bk f L R.2.1)) := w1
          have w2 : TP T3 T2 L (bk f L R.2.1) m2 0 := w2
          subst w1
          have r3 := RuT_tp x2 w2
          have t3 : T3.1 65 2 = nI (bk f L R.2.1) := w2.2.1
          have hsb2 := sg_b (f := f) (j := bk f L R.2.1) hH
          have f93 : am_ic .eq (zI (sg f L (bk f L R.2.1))) 93 = decide (sg f L (bk f L R.2.1) = 94) := ic_eq_pn (c := 93) (by omega) (by decide)
          by_cases hc : sg f L (bk f L R.2.1) = 94
          · rw [if_pos hc] at hres
            have e6 : am_ic .eq (zI (sg f L (bk f L R.2.1))) 93 = true := by rw [f93, decide_eq_true hc]
            simp only [e6, if_true, t3, l1]
            rw [hres]
            exact ep_ret ⟨rfl, _, _, _, RuT_23 r3 rfl, fun _ => ⟨rfl, rfl, rfl⟩⟩
          · rw [if_neg hc] at hres
            have e6 : am_ic .eq (zI (sg f L (bk f L R.2.1))) 93 = false := by rw [f93, decide_eq_false hc]
            simp only [e6, Bool.false_eq_true, if_false, t3, L0]
            refine ep_bind (g36 (TP_self w2)) ?_
            rintro ⟨z8, T4⟩ ⟨v1, v2⟩
            have v1 : z8 = nI 0 := v1
            have v2 : TP T4 T3 L (bk f L R.2.1) m2 (1 + 8 * bk f L R.2.1) := v2
            subst v1
            simp only [nbz, if_true]
            rw [hres]
            exact ep_ret ⟨(if_neg (show ¬ 1 + 8 * bk f L R.2.1 = 0 by omega)).symm, _, _, _, RuT_tp r3 v2, fun z => absurd z (show ¬ 1 + 8 * bk f L R.2.1 = 0 by omega)⟩
        · rw [if_pos h0] at hres
          rw [if_neg h0, hres]
          simp only [n0, Bool.false_eq_true, if_false]
          exact ep_ret ⟨(if_neg h0).symm, _, _, _, x2, fun z => absurd z h0⟩
    refine ep_bind (ep_sh 1 g60) ?_
    rintro ⟨z, T2⟩ hz
    have nb : narrow .boolean (.int z) = .int z := by
      have : z = if res.1 = 0 then nI 1 else nI 0 := hz.1
      rw [this]
      exact nbI
    simp only [nb, if_true]
    exact ep_ret hz
  · rw [if_neg hbr] at hres
    have e2 : am_ic .ne (zI (sg f L (bk f L i))) 91 = true := by rw [f91, decide_eq_false hbr]; rfl
    simp only [e2, if_true]
    refine ep_bind (g61 wr_6 (RuT_TH hH r1) hb.2.1 (TP_self a2)) ?_
    rw [bk_id hi]
    rintro ⟨z4, T2⟩ ⟨x1, x2, x3⟩
    have x1 : z4 = b2i (wmB f L (bk f L i) wNot) := x1
    subst x1
    cases hw : wmB f L (bk f L i) wNot with
    | false =>
      rw [if_neg (by rw [hw]; decide)] at hres
      have r2 := RuT_tp r1 (x3 hw)
      have e3 : am_if .eq (b2i false) = true := by decide
      simp only [e3, if_true]
      rw [hres]
      exact gcm hH r2 hp hb.2.1 (by omega)
    | true =>
      rw [if_pos hw] at hres
      have hl : bk f L i + 3 ≤ L := wm_len hw
      have xt : TP T2 T1 L (bk f L i + 3) (bk f L i) 0 := x2 hw
      have r2 := RuT_tp r1 xt
      have t3 : T2.1 65 3 = nI (bk f L i) := xt.2.2.1
      have e3 : am_if .eq (b2i true) = false := by decide
      simp only [e3, Bool.false_eq_true, if_false, e10]
      by_cases hd10 : 10 ≤ d
      · rw [if_pos hd10] at hres
        have e4 : decide (d < 10) = false := decide_eq_false (by omega)
        simp only [e4, Bool.false_eq_true, if_false, t3, L2]
        refine ep_bind (g36 (TP_self xt)) ?_
        rintro ⟨z, T3⟩ ⟨y1, y2⟩
        have y1 : z = nI 0 := y1
        have y2 : TP T3 T2 L (bk f L i + 3) (bk f L i) (1 + 8 * bk f L i + 2) := y2
        subst y1
        simp only [nbz, if_true]
        rw [hres]
        refine ep_ret ⟨(if_neg (show ¬ 3 + 8 * bk f L i = 0 by omega)).symm, bk f L i + 3, p, P0 ++ cs, ?_, fun z => absurd z (show ¬ 3 + 8 * bk f L i = 0 by omega)⟩
        show RuT T00 T3 L (bk f L i + 3) (3 + 8 * bk f L i) p (P0 ++ cs)
        rw [show 3 + 8 * bk f L i = 1 + 8 * bk f L i + 2 by omega]
        exact RuT_tp r2 y2
      · rw [if_neg hd10] at hres
        have e4 : decide (d < 10) = true := decide_eq_true (by omega)
        simp only [e4, if_true, l1]
        obtain ⟨R, hR⟩ : ∃ R, R = prF f L m true (d + 1) false false (bk f L i + 3) p cs := ⟨_, rfl⟩
        rw [← hR] at hres
        unfold ntF at hres
        have g := ep_sh 1 (hf (d + 1) (bk f L i + 3) p cs T2 e1 (by omega) (by omega) (by omega) hp hl (by omega) r2)
        rw [← hR] at g
        obtain ⟨q1, q2, q3⟩ := pr_g (f := f) (L := L) m true (d + 1) false false (bk f L i + 3) p cs (fun _ => by omega) (fun z => absurd z (by decide)) hp hl
        rw [← hR, if_pos rfl] at q3
        rw [← hR] at q2
        refine ep_bind g ?_
        rintro ⟨z, T3⟩ ⟨y1, pos, p', pc', y2, y3⟩
        have y1 : z = if R.1 = 0 then nI 1 else nI 0 := y1
        have y2 : RuT T00 T3 L pos R.1 p' pc' := y2
        subst y1
        by_cases h0 : R.1 = 0
        · obtain ⟨w1, w2, w3⟩ := y3 h0
          subst w1
          subst w2
          subst w3
          rw [h0] at y2
          obtain ⟨u1, u2, u3, u4, u5, u6⟩ := q3 h0
          have hlr : (P0 ++ R.2.2.2).length = P0.length + R.2.2.2.length := List.length_append ..
          rw [if_neg (fun z => z h0)] at hres
          rw [if_pos h0]
          simp only [n1, if_true]
          have gw := g62 (t := (9, 0)) y2 (by omega)
          have ec : cdI (9, 0) = -24 := by decide
          rw [ec] at gw
          refine ep_bind gw ?_
          rintro ⟨_, T4⟩ v
          rw [hres]
          exact ep_ret ⟨rfl, _, _, _, v, fun _ => ⟨rfl, rfl, by rw [List.append_assoc]⟩⟩
        · rw [if_pos h0] at hres
          rw [if_neg h0, hres]
          simp only [n0, Bool.false_eq_true, if_false]
          exact ep_ret ⟨(if_neg h0).symm, _, _, _, y2, fun z => absurd z h0⟩
theorem gr_all (hH : TH T00 f L) : ∀ m, FactOK T00 f L P0 m ∧ TestOK T00 f L P0 m
  | 0 => ⟨fun d i p cs T e hm => by omega, fun d an o i p cs T e c s hm => by omega⟩
  | m + 1 => ⟨fact_s hH (gr_all hH m).1 (gr_all hH m).2, test_s hH (gr_all hH m).1 (gr_all hH m).2⟩
end Rv4
