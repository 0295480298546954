/-! rules told: the program reads facts and tests -/
theorem wr_10 : WrB 10 wAnd = true := by decide +kernel
theorem wr_12 : WrB 12 wOr = true := by decide +kernel
theorem wr_6 : WrB 6 wNot = true := by decide +kernel
section Rv3
variable {T00 T : xS} {f : Nat → Nat} {L i p : Nat} {P0 cs pc : List TK}
theorem g61 {q m : Nat} {w : List Nat} (hw : WrB q w = true) (hH : TH T f L) (hi : i ≤ L) (h : TP T T L i m 0) : Ep (fun n => G61 n q T) (fun z => z.1 = b2i (wmB f L (bk f L i) w) ∧ (wmB f L (bk f L i) w = true → TP z.2 T L (bk f L i + w.length) (bk f L i) 0) ∧ (wmB f L (bk f L i) w = false → TP z.2 T L (bk f L i) m 0)) := by
  obtain ⟨w0, w4, w5⟩ := Wr_is hw
  obtain ⟨w1, w2, w3⟩ := Wc_is w0
  have hb := bk_b (f := f) hi
  refine ep_succ (fun n => G61e0 n ..) ?_
  simp only [G61b0, w1, if_true, w4]
  refine ep_bind (g23 hH hi h) ?_
  rintro ⟨z1, T1⟩ ⟨_, a⟩
  have a : TP T1 T L (bk f L i) m 0 := a
  have a2 : T1.1 65 2 = nI (bk f L i) := a.2.1
  have hH1 : TH T1 f L := ⟨fun j hj => by rw [a.2.2.2.2.2]; exact hH.1 j hj, hH.2⟩
  have g := g35 hH1 w0 hb.2.1 (TP_self a)
  rw [Nat.zero_add] at g
  refine ep_bv g ?_
  cases hm : wmB f L (bk f L i) w with
  | true =>
    have e1 : am_if .ne (b2i true) = true := by decide
    simp only [e1, if_true, a2, nI_add]
    exact ep_ret ⟨rfl, fun _ => TP_2 (TP_3 a), fun z => absurd z (by decide)⟩
  | false =>
    have e1 : am_if .ne (b2i false) = false := by decide
    simp only [e1, Bool.false_eq_true, if_false]
    exact ep_ret ⟨rfl, fun z => absurd z (by decide), fun _ => a⟩
/-- a sign between sums -/
def sgF (f : Nat → Nat) (L j p : Nat) : Nat := if isC f L j = false then 1 + 8 * j else if 60 ≤ p then 4 + 8 * j else 0
theorem g68 (hH : TH T00 f L) (h : RuT T00 T L i 0 p pc) (hp : p ≤ 60) (hi : i ≤ L) (hbi : bk f L i = i) : Ep (fun n => G68 n T) (fun z => (sgF f L i p ≠ 0 → z.1 = zI 0 ∧ ∃ pos p', RuT T00 z.2 L pos (sgF f L i p) p' pc) ∧ (sgF f L i p = 0 → z.1 = opI (cmO f L i) ∧ RuT T00 z.2 L (i + 1 + wiS f L i) 0 (p + 1) pc)) := by
  have hL := hH.2.1
  obtain ⟨m, ht⟩ := h.1
  have hsb := sg_b (f := f) (j := i) hH
  have L62 : (62 : Int32) = nI 62 := rfl
  refine ep_succ (fun n => G68e0 n ..) ?_
  simp only [G68b0]
  refine ep_bind (g23 (RuT_TH hH h) hi ht) ?_
  rw [hbi]
  rintro ⟨z1, T1⟩ ⟨a1, a2⟩
  have a1 : z1 = zI (sg f L i) := a1
  have a2 : TP T1 T L i m 0 := a2
  subst a1
  have r1 := RuT_tp h a2
  have t2 : T1.1 65 2 = nI i := a2.2.1
  have f60 : am_ic .eq (zI (sg f L i)) 60 = decide (sg f L i = 61) := ic_eq_pn (c := 60) (by omega) (by decide)
  have f61 : am_ic .eq (zI (sg f L i)) 61 = decide (sg f L i = 62) := ic_eq_pn (c := 61) (by omega) (by decide)
  have f62 : am_ic .eq (zI (sg f L i)) 62 = decide (sg f L i = 63) := ic_eq_pn (c := 62) (by omega) (by decide)
  have n60 : am_ic .ne (zI (sg f L i)) 60 = !decide (sg f L i = 61) := ic_ne_pn (c := 60) (by omega) (by decide)
  have n61 : am_ic .ne (zI (sg f L i)) 61 = !decide (sg f L i = 62) := ic_ne_pn (c := 61) (by omega) (by decide)
  obtain ⟨res, hres⟩ : ∃ res, res = sgF f L i p := ⟨_, rfl⟩
  rw [← hres]
  have body : isC f L i = true → Ep (fun n => (G65 n (nI i) T1).bind (fun z4 => (if am_if .ne z4.1 = true then (if am_ic .ne (zI (sg f L i)) 61 = true then (if am_ic .ge ((z4.2.1 65 2) + 1) (z4.2.1 65 1) = true then (if am_ic .ne (zI (sg f L i)) 60 = true then some ((-21), (x_sI z4.2 65 2 ((z4.2.1 65 2) + 1))) else some ((-17), (x_sI z4.2 65 2 ((z4.2.1 65 2) + 1)))) else (if ¬ (((z4.2.1 65 2) + 1) < 0 ∨ 400 ≤ (((z4.2.1 65 2) + 1)).toNatClampNeg) then (if am_ic .ne (z4.2.2.1 66 (Int32.toNatClampNeg ((z4.2.1 65 2) + 1))) 61 = true then (if am_ic .ne (zI (sg f L i)) 60 = true then some ((-21), (x_sI z4.2 65 2 ((z4.2.1 65 2) + 1))) else some ((-17), (x_sI z4.2 65 2 ((z4.2.1 65 2) + 1)))) else (if am_ic .ne (zI (sg f L i)) 60 = true then some ((-20), (x_sI (x_sI z4.2 65 2 ((z4.2.1 65 2) + 1)) 65 2 (((z4.2.1 65 2) + 1) + 1))) else some ((-18), (x_sI (x_sI z4.2 65 2 ((z4.2.1 65 2) + 1)) 65 2 (((z4.2.1 65 2) + 1) + 1))))) else none)) else some ((-19), (x_sI z4.2 65 2 ((z4.2.1 65 2) + 1)))) else some ((-1), z4.2)))) (fun z => (res ≠ 0 → z.1 = zI 0 ∧ ∃ pos p', RuT T00 z.2 L pos res p' pc) ∧ (res = 0 → z.1 = opI (cmO f L i) ∧ RuT T00 z.2 L (i + 1 + wiS f L i) 0 (p + 1) pc)) := by
    intro hc
    have hl := is_l hc
    refine ep_bind (g65 r1 hp) ?_
    rintro ⟨z4, T2⟩ ⟨b1, b2⟩
    by_cases h60 : 60 ≤ p
    · obtain ⟨x1, x2⟩ := b2 h60
      have x1 : z4 = nI 0 := x1
      subst x1
      have er : res = 4 + 8 * i := by
        rw [hres]
        unfold sgF
        rw [if_neg (by rw [hc]; decide), if_pos h60]
      have e1 : am_if .ne (nI 0) = false := by decide
      simp only [e1, Bool.false_eq_true, if_false]
      rw [er]
      exact ep_ret ⟨fun _ => ⟨rfl, _, _, x2⟩, fun z => absurd z (by omega)⟩
    · obtain ⟨x1, x2⟩ := b1 (by omega)
      have x1 : z4 = nI 1 := x1
      have x2 : RuT T00 T2 L i 0 (p + 1) pc := x2
      subst x1
      have er : res = 0 := by
        rw [hres]
        unfold sgF
        rw [if_neg (by rw [hc]; decide), if_neg h60]
      obtain ⟨m2, y1, y2, _, _, _, _⟩ := x2.1
      have y1 : T2.1 65 1 = nI L := y1
      have y2 : T2.1 65 2 = nI i := y2
      have hr2 := RuT_TH hH x2
      have e1 : am_if .ne (nI 1) = true := by decide
      have l1 : ∀ x : Nat, nI x + 1 = nI (x + 1) := fun x => by rw [← nI_add]; rfl
      simp only [e1, if_true, y1, y2, l1]
      have fin : ∀ (v : Int32) (T' : xS), v = opI (cmO f L i) → RuT T00 T' L (i + 1 + wiS f L i) 0 (p + 1) pc → Ep (fun _ => some (v, T')) (fun z => (res ≠ 0 → z.1 = zI 0 ∧ ∃ pos p', RuT T00 z.2 L pos res p' pc) ∧ (res = 0 → z.1 = opI (cmO f L i) ∧ RuT T00 z.2 L (i + 1 + wiS f L i) 0 (p + 1) pc)) := fun v T' h1 h2 => ep_ret ⟨fun z => absurd er z, fun _ => ⟨h1, h2⟩⟩
      by_cases c62 : sg f L i = 62
      · have hwi : wiS f L i = 0 := if_neg (fun z => z.1 c62)
        have hco : cmO f L i = 6 := if_pos c62
        rw [n61, decide_eq_true c62]
        simp only [Bool.not_true, Bool.false_eq_true, if_false]
        refine fin _ _ (by rw [hco]; rfl) ?_
        rw [hwi]
        exact RuT_23 x2 rfl
      · rw [n61, decide_eq_false c62]
        simp only [Bool.not_false, if_true]
        by_cases hge : L ≤ i + 1
        · have hwi : wiS f L i = 0 := if_neg (fun z => by
            have := sg_l (x := 61) z.2
            omega)
          have e2 : am_ic .ge (nI (i + 1)) (nI L) = true := by rw [ic_ge (by omega) (by omega), decide_eq_true hge]
          simp only [e2, if_true]
          rw [n60]
          by_cases c61 : sg f L i = 61
          · have hco : cmO f L i = 4 := by
              unfold cmO
              rw [if_neg c62, if_pos c61, hwi, if_neg (by decide)]
            rw [decide_eq_true c61]
            simp only [Bool.not_true, Bool.false_eq_true, if_false]
            refine fin _ _ (by rw [hco]; rfl) ?_
            rw [hwi]
            exact RuT_23 x2 rfl
          · have hco : cmO f L i = 8 := by
              unfold cmO
              rw [if_neg c62, if_neg c61, hwi, if_neg (by decide)]
            rw [decide_eq_false c61]
            simp only [Bool.not_false, if_true]
            refine fin _ _ (by rw [hco]; rfl) ?_
            rw [hwi]
            exact RuT_23 x2 rfl
        · have e2 : am_ic .ge (nI (i + 1)) (nI L) = false := by rw [ic_ge (by omega) (by omega), decide_eq_false hge]
          have rr := hr2.1 (i + 1) (by omega)
          have h256 := hH.2.2 (i + 1) (by omega)
          have esg : sg f L (i + 1) = f (i + 1) + 1 := if_pos (by omega)
          simp only [e2, Bool.false_eq_true, if_false]
          rw [n60]
          have gd : ¬ (nI (i + 1) < 0 ∨ 400 ≤ (nI (i + 1)).toNatClampNeg) := by
            have := gdF (c := i + 1) (N := 400) (by omega) (by decide)
            rw [this]
            exact not_false
          have e3 : am_ic .ne (nI (f (i + 1))) 61 = !decide (f (i + 1) = 61) := ic_ne (b := 61) (by omega) (by decide)
          rw [if_pos gd, nI_clamp (by omega), rr, e3]
          by_cases hw : f (i + 1) = 61
          · have hwi : wiS f L i = 1 := if_pos ⟨c62, by omega⟩
            rw [decide_eq_true hw]
            simp only [Bool.not_true, Bool.false_eq_true, if_false]
            have rt : RuT T00 (x_sI (x_sI T2 65 2 (nI (i + 1))) 65 2 (nI (i + 1 + 1))) L (i + 1 + 1) 0 (p + 1) pc := RuT_23 (RuT_23 (i' := i + 1) x2 rfl) rfl
            by_cases c61 : sg f L i = 61
            · have hco : cmO f L i = 5 := by
                unfold cmO
                rw [if_neg c62, if_pos c61, hwi, if_pos rfl]
              rw [decide_eq_true c61]
              simp only [Bool.not_true, Bool.false_eq_true, if_false]
              refine fin _ _ (by rw [hco]; rfl) ?_
              rw [hwi]
              exact rt
            · have hco : cmO f L i = 7 := by
                unfold cmO
                rw [if_neg c62, if_neg c61, hwi, if_pos rfl]
              rw [decide_eq_false c61]
              simp only [Bool.not_false, if_true]
              refine fin _ _ (by rw [hco]; rfl) ?_
              rw [hwi]
              exact rt
          · have hwi : wiS f L i = 0 := if_neg (fun z => hw (by have := z.2; omega))
            rw [decide_eq_false hw]
            simp only [Bool.not_false, if_true]
            by_cases c61 : sg f L i = 61
            · have hco : cmO f L i = 4 := by
                unfold cmO
                rw [if_neg c62, if_pos c61, hwi, if_neg (by decide)]
              rw [decide_eq_true c61]
              simp only [Bool.not_true, Bool.false_eq_true, if_false]
              refine fin _ _ (by rw [hco]; rfl) ?_
              rw [hwi]
              exact RuT_23 x2 rfl
            · have hco : cmO f L i = 8 := by
                unfold cmO
                rw [if_neg c62, if_neg c61, hwi, if_neg (by decide)]
              rw [decide_eq_false c61]
              simp only [Bool.not_false, if_true]
              refine fin _ _ (by rw [hco]; rfl) ?_
              rw [hwi]
              exact RuT_23 x2 rfl
  by_cases c60 : sg f L i = 61
  · have hc : isC f L i = true := decide_eq_true (Or.inl c60)
    have f60' := f60
    rw [decide_eq_true c60] at f60'
    simp only [f60', if_true, t2]
    exact body hc
  · have f60' := f60
    rw [decide_eq_false c60] at f60'
    by_cases c61 : sg f L i = 62
    · have hc : isC f L i = true := decide_eq_true (Or.inr (Or.inl c61))
      have f61' := f61
      rw [decide_eq_true c61] at f61'
      simp only [f60', f61', Bool.false_eq_true, if_false, if_true, t2]
      exact body hc
    · have f61' := f61
      rw [decide_eq_false c61] at f61'
      by_cases c62 : sg f L i = 63
      · have hc : isC f L i = true := decide_eq_true (Or.inr (Or.inr c62))
        have f62' := f62
        rw [decide_eq_true c62] at f62'
        simp only [f60', f61', f62', Bool.false_eq_true, if_false, if_true, t2]
        exact body hc
      · have hc : isC f L i = false := decide_eq_false (fun z => by omega)
        have f62' := f62
        rw [decide_eq_false c62] at f62'
        have er : res = 1 + 8 * i := by
          rw [hres]
          exact if_pos hc
        simp only [f60', f61', f62', Bool.false_eq_true, if_false, t2, L0]
        refine ep_bind (g36 (TP_self a2)) ?_
        rintro ⟨z3, T3⟩ ⟨_, y2⟩
        have y2 : TP T3 T1 L i m (1 + 8 * i) := y2
        rw [er]
        exact ep_ret ⟨fun _ => ⟨rfl, _, _, RuT_tp r1 y2⟩, fun z => absurd z (by omega)⟩
end Rv3
