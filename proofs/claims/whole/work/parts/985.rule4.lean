/-! rules told: the program reads sums and comparisons -/
theorem opz_n {o : Nat} (h : o < 16) : am_if .ne (opz o) = !decide (o = 0) ∧ am_if .eq (opz o) = decide (o = 0) := (by decide : ∀ o, o < 16 → am_if .ne (opz o) = !decide (o = 0) ∧ am_if .eq (opz o) = decide (o = 0)) o h
theorem cd_op {o : Nat} (h : 2 ≤ o) : cdI (o, 0) = opz o := by
  unfold cdI opz
  rw [if_neg (show ¬ o = 0 by omega), if_neg (show ¬ o = 1 by omega), if_neg (show ¬ o = 0 by omega)]
def oTm (o : Nat) : Prop := o = 0 ∨ (2 ≤ o ∧ o < 16)
theorem mu_o {f : Nat → Nat} {L j : Nat} : oTm (muS f L j) := by
  unfold muS oTm
  split
  · exact Or.inr (by decide)
  · split
    · exact Or.inr (by decide)
    · split
      · exact Or.inr (by decide)
      · exact Or.inl rfl
theorem ad_o {f : Nat → Nat} {L j : Nat} : oTm (adS f L j) := by
  unfold adS oTm
  split
  · exact Or.inr (by decide)
  · split
    · exact Or.inr (by decide)
    · exact Or.inl rfl
section Rv2
variable {T00 T : xS} {f : Nat → Nat} {L i p : Nat} {P0 cs : List TK}
theorem sg_b (hH : TH T00 f L) {j : Nat} : sg f L j < 2 ^ 30 := by
  unfold sg
  by_cases hl : j < L
  · rw [if_pos hl]
    have := hH.2.2 _ hl
    omega
  · rw [if_neg hl]
    decide
/-- an operator that waits is written -/
theorem wr_o {o : Nat} {Q : Int32 × xS → Prop} {K : Nat → xS → Option (Int32 × xS)} (ho : oTm o) (h : RuT T00 T L i 0 p (P0 ++ cs)) (hl : o ≠ 0 → (P0 ++ cs).length < 400) (go : ∀ T', RuT T00 T' L i 0 p (P0 ++ opL o cs) → Ep (fun n => K n T') Q) : Ep (fun n => if am_if .eq (opz o) = true then K n T else (G62 n (opz o) T).bind (fun z => K n z.2)) Q := by
  rcases ho with h0 | ⟨h2, h16⟩
  · have e : am_if .eq (opz o) = true := by rw [(opz_n (show o < 16 by omega)).2, decide_eq_true h0]
    simp only [e, if_true]
    refine go T ?_
    have : opL o cs = cs := if_pos h0
    rw [this]
    exact h
  · have e : am_if .eq (opz o) = false := by rw [(opz_n h16).2, decide_eq_false (by omega)]
    simp only [e, Bool.false_eq_true, if_false]
    have g := g62 (t := (o, 0)) h (hl (by omega))
    rw [cd_op h2] at g
    refine ep_bind g ?_
    rintro ⟨_, T1⟩ a
    refine go T1 ?_
    have : opL o cs = cs ++ [(o, 0)] := if_neg (by omega)
    rw [this, ← List.append_assoc]
    exact a
theorem RuT_23 {T' : xS} {pc : List TK} {i' : Nat} (h : RuT T00 T L i 0 p pc) (h2 : T' = x_sI T 65 2 (nI i')) : RuT T00 T' L i' 0 p pc := by
  obtain ⟨m, ht⟩ := h.1
  rw [h2]
  exact RuT_tp h (TP_2 ht)
theorem g63l (hH : TH T00 f L) : ∀ (m c ad tm i p : Nat) (cs : List TK) (T : xS), m + p = 61 → c ≤ p → p ≤ 60 → i ≤ L → oTm ad → oTm tm → P0.length + cs.length + na ad + na tm + 1 ≤ i → RuT T00 T L i 0 p (P0 ++ cs) → Ep (fun N => G63f N 7 (opz ad) (opz tm) (nI c) T) (RuZ T00 L P0 (smF f L m ad tm i p cs)) := by
  have hL := hH.2.1
  intro m
  induction m with
  | zero =>
    intro c ad tm i p cs T hm hc hp hi ha ht hlen h
    omega
  | succ m ih =>
    intro c ad tm i p cs T hm hc hp hi ha ht hlen h
    obtain ⟨v1, v2, v3⟩ := va_g (f := f) (cs := cs) hi hp
    have hb := bk_b (f := f) v2
    have hla : (P0 ++ cs).length = P0.length + cs.length := List.length_append ..
    obtain ⟨res, hres⟩ : ∃ res, res = smF f L (m + 1) ad tm i p cs := ⟨_, rfl⟩
    rw [← hres]
    unfold smF at hres
    have e60 : am_ic .gt (nI c) 60 = false := by
      have := ic_gt (a := c) (b := 60) (by omega) (by decide)
      rw [decide_eq_false (show ¬ 60 < c by omega)] at this
      exact this
    refine ep_succ (fun N => G63e7 N ..) ?_
    simp only [G63b7, e60, Bool.false_eq_true, if_false]
    refine ep_bind (g64 hH h hp (by omega) hi) ?_
    rintro ⟨z, T1⟩ ⟨a1, pos, p', pc', a2, a3⟩
    have a1 : z = if (vaF f L i p cs).1 = 0 then nI 1 else nI 0 := a1
    have a2 : RuT T00 T1 L pos (vaF f L i p cs).1 p' pc' := a2
    subst a1
    by_cases h0 : (vaF f L i p cs).1 = 0
    · obtain ⟨x1, x2, x3⟩ := a3 h0
      subst x1
      subst x2
      subst x3
      rw [h0] at a2
      obtain ⟨g1, g2, g3, g4, g5, g6⟩ := v3 h0
      have hp1 : (vaF f L i p cs).2.2.1 = p + 1 := va_p h0
      rw [if_neg (fun z => z h0)] at hres
      rw [if_pos h0]
      have e1 : am_if .ne (nI 1) = true := by decide
      simp only [e1, if_true]
      have hlv : (P0 ++ (vaF f L i p cs).2.2.2).length = P0.length + (vaF f L i p cs).2.2.2.length := List.length_append ..
      have hlt : (P0 ++ opL tm (vaF f L i p cs).2.2.2).length = P0.length + ((vaF f L i p cs).2.2.2.length + na tm) := by rw [List.length_append, opL_len]
      have l1 : ∀ x : Nat, nI x + 1 = nI (x + 1) := fun x => by rw [← nI_add]; rfl
      refine wr_o (K := fun N T' => (G23 N T').bind (fun z9 => (G66 N z9.1 z9.2).bind (fun z11 => if am_if .ne z11.1 = true then G63f N 7 (opz ad) z11.1 (nI c + 1) (x_sI z11.2 65 2 ((z11.2.1 65 2) + 1)) else if am_if .eq (opz ad) = true then (G23 N z11.2).bind (fun z15 => (G67 N z15.1 z15.2).bind (fun z17 => if am_if .ne z17.1 = true then G63f N 7 z17.1 z11.1 (nI c + 1) (x_sI z17.2 65 2 ((z17.2.1 65 2) + 1)) else some (1, z17.2))) else (G62 N (opz ad) z11.2).bind (fun z20 => (G23 N z20.2).bind (fun z22 => (G67 N z22.1 z22.2).bind (fun z24 => if am_if .ne z24.1 = true then G63f N 7 z24.1 z11.1 (nI c + 1) (x_sI z24.2 65 2 ((z24.2.1 65 2) + 1)) else some (1, z24.2))))))) ht a2 (fun hne => by have := na_1 hne; omega) (fun T2 b2 => ?_)
      obtain ⟨mm, bt⟩ := b2.1
      refine ep_bind (g23 (RuT_TH hH b2) v2 bt) ?_
      rintro ⟨z3, T3⟩ ⟨c1, c2⟩
      have c1 : z3 = zI (sg f L (bk f L (vaF f L i p cs).2.1)) := c1
      have c2 : TP T3 T2 L (bk f L (vaF f L i p cs).2.1) mm 0 := c2
      subst c1
      have r3 := RuT_tp b2 c2
      have t2 : T3.1 65 2 = nI (bk f L (vaF f L i p cs).2.1) := c2.2.1
      refine ep_bv (g66 (sg_b hH)) ?_
      by_cases hmu : muS f L (bk f L (vaF f L i p cs).2.1) = 0
      · rw [if_neg (fun z => z hmu)] at hres
        have e2 : am_if .ne (opz (muS f L (bk f L (vaF f L i p cs).2.1))) = false := by rw [hmu]; decide
        simp only [e2, Bool.false_eq_true, if_false]
        refine wr_o (K := fun N T' => (G23 N T').bind (fun z15 => (G67 N z15.1 z15.2).bind (fun z17 => if am_if .ne z17.1 = true then G63f N 7 z17.1 (opz (muS f L (bk f L (vaF f L i p cs).2.1))) (nI c + 1) (x_sI z17.2 65 2 ((z17.2.1 65 2) + 1)) else some (1, z17.2)))) ha r3 (fun hne => by have := na_1 hne; omega) (fun T4 b4 => ?_)
        obtain ⟨m4, bt4⟩ := b4.1
        refine ep_bind (g23 (RuT_TH hH b4) hb.2.1 bt4) ?_
        rw [bk_id v2]
        rintro ⟨z5, T5⟩ ⟨d1, d2⟩
        have d1 : z5 = zI (sg f L (bk f L (vaF f L i p cs).2.1)) := d1
        have d2 : TP T5 T4 L (bk f L (vaF f L i p cs).2.1) m4 0 := d2
        subst d1
        have r5 := RuT_tp b4 d2
        have t5 : T5.1 65 2 = nI (bk f L (vaF f L i p cs).2.1) := d2.2.1
        refine ep_bv (g67 (sg_b hH)) ?_
        by_cases had : adS f L (bk f L (vaF f L i p cs).2.1) = 0
        · rw [if_neg (fun z => z had)] at hres
          have e3 : am_if .ne (opz (adS f L (bk f L (vaF f L i p cs).2.1))) = false := by rw [had]; decide
          simp only [e3, Bool.false_eq_true, if_false]
          rw [hres]
          exact ep_ret ⟨rfl, _, _, _, r5, fun _ => ⟨rfl, rfl, rfl⟩⟩
        · rw [if_pos had] at hres
          have hl2 := ad_l had
          have oo := ad_o (f := f) (L := L) (j := bk f L (vaF f L i p cs).2.1)
          have e3 : am_if .ne (opz (adS f L (bk f L (vaF f L i p cs).2.1))) = true := by
            rcases oo with oo | oo
            · exact absurd oo had
            · rw [(opz_n oo.2).1, decide_eq_false had]
              rfl
          simp only [e3, if_true, t5, l1]
          rw [hmu, hres]
          have := ih (c + 1) (adS f L (bk f L (vaF f L i p cs).2.1)) 0 (bk f L (vaF f L i p cs).2.1 + 1) (vaF f L i p cs).2.2.1 (opL ad (opL tm (vaF f L i p cs).2.2.2)) (x_sI T5 65 2 (nI (bk f L (vaF f L i p cs).2.1 + 1))) (by omega) (by omega) g3 (by omega) oo (Or.inl rfl) (by rw [opL_len, opL_len, na_1 had, na_0]; omega) (RuT_23 r5 rfl)
          exact this
      · rw [if_pos hmu] at hres
        have hl2 := mu_l hmu
        have oo := mu_o (f := f) (L := L) (j := bk f L (vaF f L i p cs).2.1)
        have e2 : am_if .ne (opz (muS f L (bk f L (vaF f L i p cs).2.1))) = true := by
          rcases oo with oo | oo
          · exact absurd oo hmu
          · rw [(opz_n oo.2).1, decide_eq_false hmu]
            rfl
        simp only [e2, if_true, t2, l1]
        rw [hres]
        exact ih (c + 1) ad (muS f L (bk f L (vaF f L i p cs).2.1)) (bk f L (vaF f L i p cs).2.1 + 1) (vaF f L i p cs).2.2.1 (opL tm (vaF f L i p cs).2.2.2) (x_sI T3 65 2 (nI (bk f L (vaF f L i p cs).2.1 + 1))) (by omega) (by omega) g3 (by omega) ha oo (by rw [opL_len, na_1 hmu]; omega) (RuT_23 r3 rfl)
    · rw [if_pos h0] at hres
      rw [if_neg h0, hres]
      have e1 : am_if .ne (nI 0) = false := by decide
      simp only [e1, Bool.false_eq_true, if_false]
      exact ep_ret ⟨(if_neg h0).symm, _, _, _, a2, fun z => absurd z h0⟩
theorem g63 (hH : TH T00 f L) (h : RuT T00 T L i 0 p (P0 ++ cs)) (hp : p ≤ 60) (hi : i ≤ L) (hlen : P0.length + cs.length + 1 ≤ i) : Ep (fun n => G63 n T) (RuZ T00 L P0 (smG f L i p cs)) := by
  refine ep_succ (fun n => G63e0 n ..) ?_
  simp only [G63b0]
  exact g63l hH (61 - p) 0 0 0 i p cs T (by omega) (by omega) hp hi (Or.inl rfl) (Or.inl rfl) (by rw [na_0]; omega) h
end Rv2
