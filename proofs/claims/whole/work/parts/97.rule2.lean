/-! rules told: how code, pieces and place grow -/
def na (o : Nat) : Nat := if o = 0 then 0 else 1
section Gx
variable {f : Nat → Nat} {L : Nat}
theorem opL_len {o : Nat} {cs : List TK} : (opL o cs).length = cs.length + na o := by
  unfold opL na
  by_cases h : o = 0
  · rw [if_pos h, if_pos h, Nat.add_zero]
  · rw [if_neg h, if_neg h, len1]
theorem wm_len {j : Nat} {w : List Nat} (h : wmB f L j w = true) : j + w.length ≤ L := by
  unfold wmB at h
  rw [Bool.and_eq_true] at h
  exact of_decide_eq_true h.1
theorem sg_l {j x : Nat} (h : sg f L j = x + 1) : j < L := by
  refine Nat.lt_of_not_le (fun z => ?_)
  unfold sg at h
  rw [if_neg (by omega)] at h
  omega
theorem mu_l {j : Nat} (h : muS f L j ≠ 0) : j < L := by
  refine Nat.lt_of_not_le (fun z => h ?_)
  have e : sg f L j = 0 := if_neg (by omega)
  unfold muS
  rw [e]
  rfl
theorem ad_l {j : Nat} (h : adS f L j ≠ 0) : j < L := by
  refine Nat.lt_of_not_le (fun z => h ?_)
  have e : sg f L j = 0 := if_neg (by omega)
  unfold adS
  rw [e]
  rfl
theorem na_1 {o : Nat} (h : o ≠ 0) : na o = 1 := if_neg h
theorem na_0 : na 0 = 0 := if_pos rfl
theorem va_p {i p : Nat} {cs : List TK} (h : (vaF f L i p cs).1 = 0) : (vaF f L i p cs).2.2.1 = p + 1 := by
  unfold vaF at h ⊢
  by_cases d0 : dg f L (bk f L i) = 0
  · rw [if_neg (fun z => z d0)] at h ⊢
    cases hw : wiF f L (bk f L i) wdW 0 with
    | none =>
      rw [hw] at h
      exact absurd h (show ¬ 1 + 8 * bk f L i = 0 by omega)
    | some r =>
      rw [hw] at h
      have h : (if 60 ≤ p then (4 + 8 * bk f L i, bk f L i + r.2, p, cs) else (0, bk f L i + r.2, p + 1, cs ++ [(1, r.1)]) : PS).1 = 0 := h
      show (if 60 ≤ p then (4 + 8 * bk f L i, bk f L i + r.2, p, cs) else (0, bk f L i + r.2, p + 1, cs ++ [(1, r.1)]) : PS).2.2.1 = p + 1
      by_cases h60 : 60 ≤ p
      · rw [if_pos h60] at h
        exact absurd h (show ¬ 4 + 8 * bk f L i = 0 by omega)
      · rw [if_neg h60]
  · rw [if_pos d0] at h ⊢
    by_cases h0 : (nmF f L i).1 = 0
    · rw [if_neg (fun z => z h0)] at h ⊢
      by_cases h60 : 60 ≤ p
      · rw [if_pos h60] at h
        exact absurd h (show ¬ 4 + 8 * bk f L i = 0 by omega)
      · rw [if_neg h60]
    · rw [if_pos h0] at h
      exact absurd h h0
theorem sm_g : ∀ (m ad tm i p : Nat) (cs : List TK), m + p = 61 → p ≤ 60 → i ≤ L → (smF f L m ad tm i p cs).1 ≤ 8 * L + 5 ∧ (smF f L m ad tm i p cs).2.1 ≤ L ∧ ((smF f L m ad tm i p cs).1 = 0 → i + 1 ≤ (smF f L m ad tm i p cs).2.1 ∧ p ≤ (smF f L m ad tm i p cs).2.2.1 ∧ (smF f L m ad tm i p cs).2.2.1 ≤ 60 ∧ cs.length ≤ (smF f L m ad tm i p cs).2.2.2.length ∧ (smF f L m ad tm i p cs).2.2.2.length + i ≤ cs.length + (smF f L m ad tm i p cs).2.1 + na ad + na tm ∧ 3 * (smF f L m ad tm i p cs).2.2.2.length + 6 * p + i + 4 ≤ 3 * cs.length + 6 * (smF f L m ad tm i p cs).2.2.1 + (smF f L m ad tm i p cs).2.1 + 3 * na ad + 3 * na tm ∧ bk f L (smF f L m ad tm i p cs).2.1 = (smF f L m ad tm i p cs).2.1)
  | 0, ad, tm, i, p, cs, hm, hp, hi => by omega
  | m + 1, ad, tm, i, p, cs, hm, hp, hi => by
    obtain ⟨v1, v2, v3⟩ := va_g (f := f) (cs := cs) hi hp
    have hb := bk_b (f := f) v2
    unfold smF
    by_cases h0 : (vaF f L i p cs).1 = 0
    · obtain ⟨g1, g2, g3, g4, g5, g6⟩ := v3 h0
      rw [if_neg (fun z => z h0)]
      by_cases hmu : muS f L (bk f L (vaF f L i p cs).2.1) = 0
      · rw [if_neg (fun z => z hmu)]
        by_cases had : adS f L (bk f L (vaF f L i p cs).2.1) = 0
        · rw [if_neg (fun z => z had)]
          refine ⟨Nat.zero_le _, hb.2.1, fun _ => ?_⟩
          show i + 1 ≤ bk f L (vaF f L i p cs).2.1 ∧ p ≤ (vaF f L i p cs).2.2.1 ∧ (vaF f L i p cs).2.2.1 ≤ 60 ∧ cs.length ≤ (opL ad (opL tm (vaF f L i p cs).2.2.2)).length ∧ (opL ad (opL tm (vaF f L i p cs).2.2.2)).length + i ≤ cs.length + bk f L (vaF f L i p cs).2.1 + na ad + na tm ∧ 3 * (opL ad (opL tm (vaF f L i p cs).2.2.2)).length + 6 * p + i + 4 ≤ 3 * cs.length + 6 * (vaF f L i p cs).2.2.1 + bk f L (vaF f L i p cs).2.1 + 3 * na ad + 3 * na tm ∧ bk f L (bk f L (vaF f L i p cs).2.1) = bk f L (vaF f L i p cs).2.1
          rw [opL_len, opL_len, bk_id v2]
          omega
        · rw [if_pos had]
          have hl := ad_l had
          have hp1 : (vaF f L i p cs).2.2.1 = p + 1 := va_p h0
          obtain ⟨a1, a2, a3⟩ := sm_g m (adS f L (bk f L (vaF f L i p cs).2.1)) 0 (bk f L (vaF f L i p cs).2.1 + 1) (vaF f L i p cs).2.2.1 (opL ad (opL tm (vaF f L i p cs).2.2.2)) (by omega) g3 (by omega)
          refine ⟨a1, a2, fun z => ?_⟩
          have := a3 z
          rw [opL_len, opL_len, na_1 had, na_0] at this
          obtain ⟨c1, c2, c3, c4, c5, c6, c7⟩ := this
          exact ⟨by omega, by omega, c3, by omega, by omega, by omega, c7⟩
      · rw [if_pos hmu]
        have hl := mu_l hmu
        have hp1 : (vaF f L i p cs).2.2.1 = p + 1 := va_p h0
        obtain ⟨a1, a2, a3⟩ := sm_g m ad (muS f L (bk f L (vaF f L i p cs).2.1)) (bk f L (vaF f L i p cs).2.1 + 1) (vaF f L i p cs).2.2.1 (opL tm (vaF f L i p cs).2.2.2) (by omega) g3 (by omega)
        refine ⟨a1, a2, fun z => ?_⟩
        have := a3 z
        rw [opL_len, na_1 hmu] at this
        obtain ⟨c1, c2, c3, c4, c5, c6, c7⟩ := this
        exact ⟨by omega, by omega, c3, by omega, by omega, by omega, c7⟩
    · rw [if_pos h0]
      exact ⟨v1, v2, fun z => absurd z h0⟩
theorem smG_g {i p : Nat} {cs : List TK} (hi : i ≤ L) (hp : p ≤ 60) : Gw L i p cs 4 (smG f L i p cs) ∧ ((smG f L i p cs).1 = 0 → bk f L (smG f L i p cs).2.1 = (smG f L i p cs).2.1) := by
  unfold smG
  obtain ⟨a1, a2, a3⟩ := sm_g (f := f) (L := L) (61 - p) 0 0 i p cs (by omega) hp hi
  rw [na_0] at a3
  refine ⟨⟨a1, a2, fun z => ?_⟩, fun z => (a3 z).2.2.2.2.2.2⟩
  obtain ⟨c1, c2, c3, c4, c5, c6, c7⟩ := a3 z
  exact ⟨c1, c2, c3, c4, by omega, by omega⟩
theorem wi_1 {j : Nat} : wiS f L j ≤ 1 ∧ (wiS f L j = 1 → j + 1 < L) := by
  unfold wiS
  split
  · rename_i h
    exact ⟨Nat.le_refl _, fun _ => sg_l h.2⟩
  · exact ⟨Nat.zero_le _, fun z => absurd z (by decide)⟩
theorem is_l {j : Nat} (h : isC f L j = true) : j < L := by
  unfold isC at h
  rcases of_decide_eq_true h with h | h | h
  · exact sg_l (x := 60) h
  · exact sg_l (x := 61) h
  · exact sg_l (x := 62) h
theorem cm_g {i p : Nat} {cs : List TK} (hi : i ≤ L) (hp : p ≤ 60) : Gw L i p cs 4 (cmF f L i p cs) := by
  obtain ⟨⟨a1, a2, a3⟩, _⟩ := smG_g (f := f) (cs := cs) hi hp
  have key : (c2F f L (smG f L i p cs)).1 ≤ 8 * L + 5 ∧ (c2F f L (smG f L i p cs)).2.1 ≤ L ∧ ((c2F f L (smG f L i p cs)).1 = 0 → i + 1 ≤ (c2F f L (smG f L i p cs)).2.1 ∧ p ≤ (c2F f L (smG f L i p cs)).2.2.1 ∧ (c2F f L (smG f L i p cs)).2.2.1 ≤ 60 ∧ cs.length ≤ (c2F f L (smG f L i p cs)).2.2.2.length ∧ (c2F f L (smG f L i p cs)).2.2.2.length + 1 + i ≤ cs.length + (c2F f L (smG f L i p cs)).2.1 ∧ 3 * (c2F f L (smG f L i p cs)).2.2.2.length + 6 * p + i + 7 ≤ 3 * cs.length + 6 * (c2F f L (smG f L i p cs)).2.2.1 + (c2F f L (smG f L i p cs)).2.1) := by
    unfold c2F
    by_cases h0 : (smG f L i p cs).1 = 0
    · obtain ⟨c1, c2, c3, c4, c5, c6⟩ := a3 h0
      rw [if_neg (fun z => z h0)]
      by_cases hc : isC f L (smG f L i p cs).2.1 = false
      · rw [if_pos hc]
        exact ⟨by show 1 + 8 * (smG f L i p cs).2.1 ≤ _; omega, a2, fun z => absurd z (show ¬ 1 + 8 * (smG f L i p cs).2.1 = 0 by omega)⟩
      · rw [if_neg hc]
        have hc : isC f L (smG f L i p cs).2.1 = true := by simpa using hc
        have hl := is_l hc
        by_cases h60 : 60 ≤ (smG f L i p cs).2.2.1
        · rw [if_pos h60]
          exact ⟨by show 4 + 8 * (smG f L i p cs).2.1 ≤ _; omega, a2, fun z => absurd z (show ¬ 4 + 8 * (smG f L i p cs).2.1 = 0 by omega)⟩
        · rw [if_neg h60]
          obtain ⟨w1, w2⟩ := wi_1 (f := f) (L := L) (j := (smG f L i p cs).2.1)
          obtain ⟨⟨b1, b2, b3⟩, _⟩ := smG_g (f := f) (L := L) (i := (smG f L i p cs).2.1 + 1 + wiS f L (smG f L i p cs).2.1) (p := (smG f L i p cs).2.2.1 + 1) (cs := (smG f L i p cs).2.2.2) (by
            by_cases hw : wiS f L (smG f L i p cs).2.1 = 1
            · have := w2 hw
              omega
            · omega) (by omega)
          refine ⟨b1, b2, fun z => ?_⟩
          obtain ⟨e1, e2, e3, e4, e5, e6⟩ := b3 z
          exact ⟨by omega, by omega, e3, by omega, by omega, by omega⟩
    · rw [if_pos h0]
      exact ⟨a1, a2, fun z => absurd z h0⟩
  obtain ⟨k1, k2, k3⟩ := key
  unfold cmF
  by_cases h0 : (c2F f L (smG f L i p cs)).1 = 0
  · rw [if_neg (fun z => z h0)]
    obtain ⟨e1, e2, e3, e4, e5, e6⟩ := k3 h0
    refine ⟨Nat.zero_le _, k2, fun _ => ?_⟩
    obtain ⟨x, hx⟩ : ∃ x : TK, x = (cmO f L (smG f L i p cs).2.1, 0) := ⟨_, rfl⟩
    rw [← hx]
    show i + 1 ≤ (c2F f L (smG f L i p cs)).2.1 ∧ p ≤ (c2F f L (smG f L i p cs)).2.2.1 ∧ (c2F f L (smG f L i p cs)).2.2.1 ≤ 60 ∧ cs.length ≤ ((c2F f L (smG f L i p cs)).2.2.2 ++ [x]).length ∧ ((c2F f L (smG f L i p cs)).2.2.2 ++ [x]).length + i ≤ cs.length + (c2F f L (smG f L i p cs)).2.1 ∧ 3 * ((c2F f L (smG f L i p cs)).2.2.2 ++ [x]).length + 6 * p + i + 4 ≤ 3 * cs.length + 6 * (c2F f L (smG f L i p cs)).2.2.1 + (c2F f L (smG f L i p cs)).2.1
    rw [len1]
    omega
  · rw [if_pos h0]
    exact ⟨k1, k2, fun z => absurd z h0⟩
theorem ite_len {x : Bool} {cs : List TK} {t : TK} : (if x = true then cs ++ [t] else cs).length = cs.length + b1 x := by
  unfold b1
  cases x with
  | true => rw [if_pos rfl, if_pos rfl, len1]
  | false => rw [if_neg (by decide), if_neg (by decide), Nat.add_zero]
def GwT (L i p : Nat) (cs : List TK) (a : Nat) (r : PS) : Prop := r.1 ≤ 8 * L + 5 ∧ r.2.1 ≤ L ∧ (r.1 = 0 → i + 1 ≤ r.2.1 ∧ p ≤ r.2.2.1 ∧ r.2.2.1 ≤ 60 ∧ cs.length ≤ r.2.2.2.length ∧ r.2.2.2.length + i ≤ cs.length + r.2.1 + a ∧ 3 * r.2.2.2.length + 6 * p + i + 3 ≤ 3 * cs.length + 6 * r.2.2.1 + r.2.1 + 3 * a)
theorem GwT_e {i p a e q : Nat} {cs cs' : List TK} (h1 : e ≠ 0) (h2 : e ≤ 8 * L + 5) (h3 : q ≤ L) : GwT L i p cs a (e, q, p, cs') := ⟨h2, h3, fun z => absurd z h1⟩
theorem pr_g : ∀ (m : Nat) (k : Bool) (d : Nat) (an o : Bool) (i p : Nat) (cs : List TK), (k = true → 2 * (L - i) + 1 ≤ m) → (k = false → 2 * (L - i) + 2 ≤ m) → p ≤ 60 → i ≤ L → GwT L i p cs (if k = true then 0 else b1 an + b1 o) (prF f L m k d an o i p cs)
  | 0, k, d, an, o, i, p, cs, h1, h2, hp, hi => by
    cases k with
    | true =>
      have := h1 rfl
      omega
    | false =>
      have := h2 rfl
      omega
  | m + 1, true, d, an, o, i, p, cs, h1, h2, hp, hi => by
    have hm := h1 rfl
    have hb := bk_b (f := f) hi
    unfold prF
    rw [if_pos rfl]
    by_cases hbr : sg f L (bk f L i) = 92
    · rw [if_pos hbr]
      have hl := sg_l (x := 91) hbr
      by_cases hd : 10 ≤ d
      · rw [if_pos hd]
        exact GwT_e (by omega) (by omega) hb.2.1
      · rw [if_neg hd]
        obtain ⟨r1, r2, r3⟩ := pr_g m false (d + 1) false false (bk f L i + 1) p cs (fun z => absurd z (by decide)) (fun _ => by omega) hp (by omega)
        have r3' := r3
        unfold brF
        by_cases h0 : (prF f L m false (d + 1) false false (bk f L i + 1) p cs).1 = 0
        · rw [if_neg (fun z => z h0)]
          have hb2 := bk_b (f := f) r2
          by_cases hc : sg f L (bk f L (prF f L m false (d + 1) false false (bk f L i + 1) p cs).2.1) = 94
          · rw [if_pos hc]
            have hl2 := sg_l (x := 93) hc
            obtain ⟨c1, c2, c3, c4, c5, c6⟩ := r3 h0
            have e0 : (if false = true then 0 else b1 false + b1 false) = 0 := by decide
            rw [e0] at c5 c6
            refine ⟨Nat.zero_le _, by show bk f L (prF f L m false (d + 1) false false (bk f L i + 1) p cs).2.1 + 1 ≤ L; omega, fun _ => ?_⟩
            show i + 1 ≤ bk f L (prF f L m false (d + 1) false false (bk f L i + 1) p cs).2.1 + 1 ∧ p ≤ (prF f L m false (d + 1) false false (bk f L i + 1) p cs).2.2.1 ∧ (prF f L m false (d + 1) false false (bk f L i + 1) p cs).2.2.1 ≤ 60 ∧ cs.length ≤ (prF f L m false (d + 1) false false (bk f L i + 1) p cs).2.2.2.length ∧ (prF f L m false (d + 1) false false (bk f L i + 1) p cs).2.2.2.length + i ≤ cs.length + (bk f L (prF f L m false (d + 1) false false (bk f L i + 1) p cs).2.1 + 1) + 0 ∧ 3 * (prF f L m false (d + 1) false false (bk f L i + 1) p cs).2.2.2.length + 6 * p + i + 3 ≤ 3 * cs.length + 6 * (prF f L m false (d + 1) false false (bk f L i + 1) p cs).2.2.1 + (bk f L (prF f L m false (d + 1) false false (bk f L i + 1) p cs).2.1 + 1) + 3 * 0
            omega
          · rw [if_neg hc]
            exact ⟨by show 1 + 8 * bk f L (prF f L m false (d + 1) false false (bk f L i + 1) p cs).2.1 ≤ _; omega, hb2.2.1, fun z => absurd z (show ¬ 1 + 8 * bk f L (prF f L m false (d + 1) false false (bk f L i + 1) p cs).2.1 = 0 by omega)⟩
        · rw [if_pos h0]
          exact ⟨r1, r2, fun z => absurd z h0⟩
    · rw [if_neg hbr]
      by_cases hnt : wmB f L (bk f L i) wNot = true
      · rw [if_pos hnt]
        have hl : bk f L i + 3 ≤ L := wm_len hnt
        by_cases hd : 10 ≤ d
        · rw [if_pos hd]
          exact GwT_e (by omega) (by omega) hb.2.1
        · rw [if_neg hd]
          obtain ⟨r1, r2, r3⟩ := pr_g m true (d + 1) false false (bk f L i + 3) p cs (fun _ => by omega) (fun z => absurd z (by decide)) hp hl
          unfold ntF
          by_cases h0 : (prF f L m true (d + 1) false false (bk f L i + 3) p cs).1 = 0
          · rw [if_neg (fun z => z h0)]
            obtain ⟨c1, c2, c3, c4, c5, c6⟩ := r3 h0
            rw [if_pos rfl] at c5 c6
            refine ⟨Nat.zero_le _, r2, fun _ => ?_⟩
            show i + 1 ≤ (prF f L m true (d + 1) false false (bk f L i + 3) p cs).2.1 ∧ p ≤ (prF f L m true (d + 1) false false (bk f L i + 3) p cs).2.2.1 ∧ (prF f L m true (d + 1) false false (bk f L i + 3) p cs).2.2.1 ≤ 60 ∧ cs.length ≤ ((prF f L m true (d + 1) false false (bk f L i + 3) p cs).2.2.2 ++ [(9, 0)]).length ∧ ((prF f L m true (d + 1) false false (bk f L i + 3) p cs).2.2.2 ++ [(9, 0)]).length + i ≤ cs.length + (prF f L m true (d + 1) false false (bk f L i + 3) p cs).2.1 + 0 ∧ 3 * ((prF f L m true (d + 1) false false (bk f L i + 3) p cs).2.2.2 ++ [(9, 0)]).length + 6 * p + i + 3 ≤ 3 * cs.length + 6 * (prF f L m true (d + 1) false false (bk f L i + 3) p cs).2.2.1 + (prF f L m true (d + 1) false false (bk f L i + 3) p cs).2.1 + 3 * 0
            rw [len1]
            omega
          · rw [if_pos h0]
            exact ⟨r1, r2, fun z => absurd z h0⟩
      · rw [if_neg hnt]
        obtain ⟨r1, r2, r3⟩ := cm_g (f := f) (cs := cs) hb.2.1 hp
        refine ⟨r1, r2, fun z => ?_⟩
        obtain ⟨c1, c2, c3, c4, c5, c6⟩ := r3 z
        exact ⟨by omega, c2, c3, c4, by omega, by omega⟩
  | m + 1, false, d, an, o, i, p, cs, h1, h2, hp, hi => by
    have hm := h2 rfl
    obtain ⟨r1, r2, r3⟩ := pr_g m true d false false i p cs (fun _ => by omega) (fun z => absurd z (by decide)) hp hi
    rw [if_pos rfl] at r3
    have hb := bk_b (f := f) r2
    unfold prF
    rw [if_neg (show ¬ false = true by decide)]
    by_cases h0 : (prF f L m true d false false i p cs).1 = 0
    · rw [if_neg (fun z => z h0)]
      obtain ⟨c1, c2, c3, c4, c5, c6⟩ := r3 h0
      have ha1 : b1 an ≤ 1 := by cases an <;> decide
      have ho1 : b1 o ≤ 1 := by cases o <;> decide
      by_cases hw : wmB f L (bk f L (prF f L m true d false false i p cs).2.1) wAnd = true
      · rw [if_pos hw]
        have hl : bk f L (prF f L m true d false false i p cs).2.1 + 3 ≤ L := wm_len hw
        obtain ⟨t1, t2, t3⟩ := pr_g m false d true o (bk f L (prF f L m true d false false i p cs).2.1 + 3) (prF f L m true d false false i p cs).2.2.1 (if an = true then (prF f L m true d false false i p cs).2.2.2 ++ [(10, 0)] else (prF f L m true d false false i p cs).2.2.2) (fun z => absurd z (by decide)) (fun _ => by omega) c3 hl
        refine ⟨t1, t2, fun z => ?_⟩
        have := t3 z
        rw [if_neg (show ¬ false = true by decide), ite_len] at this
        have hb1 : b1 true = 1 := rfl
        rw [hb1] at this
        obtain ⟨e1, e2, e3, e4, e5, e6⟩ := this
        exact ⟨by omega, by omega, e3, by omega, by omega, by omega⟩
      · rw [if_neg hw]
        by_cases hw2 : wmB f L (bk f L (prF f L m true d false false i p cs).2.1) wOr = true
        · rw [if_pos hw2]
          have hl : bk f L (prF f L m true d false false i p cs).2.1 + 2 ≤ L := wm_len hw2
          obtain ⟨t1, t2, t3⟩ := pr_g m false d false true (bk f L (prF f L m true d false false i p cs).2.1 + 2) (prF f L m true d false false i p cs).2.2.1 (if o = true then (if an = true then (prF f L m true d false false i p cs).2.2.2 ++ [(10, 0)] else (prF f L m true d false false i p cs).2.2.2) ++ [(11, 0)] else (if an = true then (prF f L m true d false false i p cs).2.2.2 ++ [(10, 0)] else (prF f L m true d false false i p cs).2.2.2)) (fun z => absurd z (by decide)) (fun _ => by omega) c3 hl
          refine ⟨t1, t2, fun z => ?_⟩
          have := t3 z
          rw [if_neg (show ¬ false = true by decide), ite_len, ite_len] at this
          have hb1 : b1 true = 1 := rfl
          have hb0 : b1 false = 0 := rfl
          rw [hb1, hb0] at this
          obtain ⟨e1, e2, e3, e4, e5, e6⟩ := this
          exact ⟨by omega, by omega, e3, by omega, by omega, by omega⟩
        · rw [if_neg hw2]
          refine ⟨Nat.zero_le _, hb.2.1, fun _ => ?_⟩
          show i + 1 ≤ bk f L (prF f L m true d false false i p cs).2.1 ∧ p ≤ (prF f L m true d false false i p cs).2.2.1 ∧ (prF f L m true d false false i p cs).2.2.1 ≤ 60 ∧ cs.length ≤ (if o = true then (if an = true then (prF f L m true d false false i p cs).2.2.2 ++ [(10, 0)] else (prF f L m true d false false i p cs).2.2.2) ++ [(11, 0)] else (if an = true then (prF f L m true d false false i p cs).2.2.2 ++ [(10, 0)] else (prF f L m true d false false i p cs).2.2.2)).length ∧ (if o = true then (if an = true then (prF f L m true d false false i p cs).2.2.2 ++ [(10, 0)] else (prF f L m true d false false i p cs).2.2.2) ++ [(11, 0)] else (if an = true then (prF f L m true d false false i p cs).2.2.2 ++ [(10, 0)] else (prF f L m true d false false i p cs).2.2.2)).length + i ≤ cs.length + bk f L (prF f L m true d false false i p cs).2.1 + (b1 an + b1 o) ∧ 3 * (if o = true then (if an = true then (prF f L m true d false false i p cs).2.2.2 ++ [(10, 0)] else (prF f L m true d false false i p cs).2.2.2) ++ [(11, 0)] else (if an = true then (prF f L m true d false false i p cs).2.2.2 ++ [(10, 0)] else (prF f L m true d false false i p cs).2.2.2)).length + 6 * p + i + 3 ≤ 3 * cs.length + 6 * (prF f L m true d false false i p cs).2.2.1 + bk f L (prF f L m true d false false i p cs).2.1 + 3 * (b1 an + b1 o)
          rw [ite_len, ite_len]
          omega
    · rw [if_pos h0]
      exact ⟨r1, r2, fun z => absurd z h0⟩
end Gx
