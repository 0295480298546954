/-! rules told: the reference reads terms and sums -/
def tmF (f : Nat → Nat) (L : Nat) : Nat → Nat → Nat → Nat → List TK → PS
  | 0, _, i, p, cs => (0, i, p, cs)
  | m + 1, tm, i, p, cs => if (vaF f L i p cs).1 ≠ 0 then vaF f L i p cs else if muS f L (bk f L (vaF f L i p cs).2.1) ≠ 0 then tmF f L m (muS f L (bk f L (vaF f L i p cs).2.1)) (bk f L (vaF f L i p cs).2.1 + 1) (vaF f L i p cs).2.2.1 (opL tm (vaF f L i p cs).2.2.2) else (0, bk f L (vaF f L i p cs).2.1, (vaF f L i p cs).2.2.1, opL tm (vaF f L i p cs).2.2.2)
def mcF (f : Nat → Nat) (L m j p : Nat) (cs : List TK) : PS := if muS f L j ≠ 0 then tmF f L m (muS f L j) (j + 1) p cs else (0, j, p, cs)
def saF (f : Nat → Nat) (L ad : Nat) (R : PS) : PS := if R.1 ≠ 0 then R else if adS f L R.2.1 ≠ 0 then smF f L (61 - R.2.2.1) (adS f L R.2.1) 0 (R.2.1 + 1) R.2.2.1 (opL ad R.2.2.2) else (0, R.2.1, R.2.2.1, opL ad R.2.2.2)
def acF (f : Nat → Nat) (L j p : Nat) (cs : List TK) : PS := if adS f L j ≠ 0 then smF f L (61 - p) (adS f L j) 0 (j + 1) p cs else (0, j, p, cs)
theorem opL_0 {cs : List TK} : opL 0 cs = cs := if_pos rfl
section Tm
variable {f : Nat → Nat} {L : Nat}
theorem tm_g : ∀ (m tm i p : Nat) (cs : List TK), m + p = 61 → p ≤ 60 → i ≤ L → (tmF f L m tm i p cs).1 ≤ 8 * L + 5 ∧ (tmF f L m tm i p cs).2.1 ≤ L ∧ ((tmF f L m tm i p cs).1 = 0 → i + 1 ≤ (tmF f L m tm i p cs).2.1 ∧ p + 1 ≤ (tmF f L m tm i p cs).2.2.1 ∧ (tmF f L m tm i p cs).2.2.1 ≤ 60 ∧ 3 * (tmF f L m tm i p cs).2.2.2.length + 6 * p + i + 4 ≤ 3 * cs.length + 6 * (tmF f L m tm i p cs).2.2.1 + (tmF f L m tm i p cs).2.1 + 3 * na tm ∧ bk f L (tmF f L m tm i p cs).2.1 = (tmF f L m tm i p cs).2.1)
  | 0, tm, i, p, cs, hm, hp, hi => by omega
  | m + 1, tm, i, p, cs, hm, hp, hi => by
    obtain ⟨v1, v2, v3⟩ := va_g (f := f) (cs := cs) hi hp
    have hb := bk_b (f := f) v2
    unfold tmF
    by_cases h0 : (vaF f L i p cs).1 = 0
    · obtain ⟨g1, g2, g3, g4, g5, g6⟩ := v3 h0
      have hp1 : (vaF f L i p cs).2.2.1 = p + 1 := va_p h0
      rw [if_neg (fun z => z h0)]
      by_cases hmu : muS f L (bk f L (vaF f L i p cs).2.1) = 0
      · rw [if_neg (fun z => z hmu)]
        refine ⟨Nat.zero_le _, hb.2.1, fun _ => ?_⟩
        show i + 1 ≤ bk f L (vaF f L i p cs).2.1 ∧ p + 1 ≤ (vaF f L i p cs).2.2.1 ∧ (vaF f L i p cs).2.2.1 ≤ 60 ∧ 3 * (opL tm (vaF f L i p cs).2.2.2).length + 6 * p + i + 4 ≤ 3 * cs.length + 6 * (vaF f L i p cs).2.2.1 + bk f L (vaF f L i p cs).2.1 + 3 * na tm ∧ bk f L (bk f L (vaF f L i p cs).2.1) = bk f L (vaF f L i p cs).2.1
        rw [opL_len, bk_id v2]
        omega
      · rw [if_pos hmu]
        have hl := mu_l hmu
        obtain ⟨a1, a2, a3⟩ := tm_g m (muS f L (bk f L (vaF f L i p cs).2.1)) (bk f L (vaF f L i p cs).2.1 + 1) (vaF f L i p cs).2.2.1 (opL tm (vaF f L i p cs).2.2.2) (by omega) g3 (by omega)
        refine ⟨a1, a2, fun z => ?_⟩
        have := a3 z
        rw [opL_len, na_1 hmu] at this
        obtain ⟨c1, c2, c3, c4, c5⟩ := this
        exact ⟨by omega, by omega, c3, by omega, c5⟩
    · rw [if_pos h0]
      exact ⟨v1, v2, fun z => absurd z h0⟩
theorem sm_tm : ∀ (m ad tm i p : Nat) (cs : List TK), m + p = 61 → p ≤ 60 → i ≤ L → smF f L m ad tm i p cs = saF f L ad (tmF f L m tm i p cs)
  | 0, ad, tm, i, p, cs, hm, hp, hi => by omega
  | m + 1, ad, tm, i, p, cs, hm, hp, hi => by
    obtain ⟨v1, v2, v3⟩ := va_g (f := f) (cs := cs) hi hp
    have hb := bk_b (f := f) v2
    unfold smF tmF
    by_cases h0 : (vaF f L i p cs).1 = 0
    · obtain ⟨g1, g2, g3, g4, g5, g6⟩ := v3 h0
      have hp1 : (vaF f L i p cs).2.2.1 = p + 1 := va_p h0
      have n0 : ¬ (vaF f L i p cs).1 ≠ 0 := fun z => z h0
      rw [if_neg n0, if_neg n0]
      by_cases hmu : muS f L (bk f L (vaF f L i p cs).2.1) = 0
      · have nm : ¬ muS f L (bk f L (vaF f L i p cs).2.1) ≠ 0 := fun z => z hmu
        rw [if_neg nm, if_neg nm]
        unfold saF
        have nz : ¬ (0 : Nat) ≠ 0 := fun z => z rfl
        show _ = if (0 : Nat) ≠ 0 then _ else _
        rw [if_neg nz]
        have em : 61 - (vaF f L i p cs).2.2.1 = m := by omega
        show _ = if adS f L (bk f L (vaF f L i p cs).2.1) ≠ 0 then smF f L (61 - (vaF f L i p cs).2.2.1) (adS f L (bk f L (vaF f L i p cs).2.1)) 0 (bk f L (vaF f L i p cs).2.1 + 1) (vaF f L i p cs).2.2.1 (opL ad (opL tm (vaF f L i p cs).2.2.2)) else _
        rw [em]
      · rw [if_pos hmu, if_pos hmu]
        have hl := mu_l hmu
        exact sm_tm m ad _ _ _ _ (by omega) g3 (by omega)
    · rw [if_pos h0, if_pos h0]
      unfold saF
      rw [if_pos h0]
theorem smG_tm {i p : Nat} {cs : List TK} (hp : p ≤ 60) (hi : i ≤ L) : smG f L i p cs = if (tmF f L (61 - p) 0 i p cs).1 ≠ 0 then tmF f L (61 - p) 0 i p cs else acF f L (tmF f L (61 - p) 0 i p cs).2.1 (tmF f L (61 - p) 0 i p cs).2.2.1 (tmF f L (61 - p) 0 i p cs).2.2.2 := by
  unfold smG
  rw [sm_tm (61 - p) 0 0 i p cs (by omega) hp hi]
  unfold saF acF
  rw [opL_0]
theorem smA_tm {ad i p : Nat} {cs : List TK} (hp : p ≤ 60) (hi : i ≤ L) : smF f L (61 - p) ad 0 i p cs = if (tmF f L (61 - p) 0 i p cs).1 ≠ 0 then tmF f L (61 - p) 0 i p cs else acF f L (tmF f L (61 - p) 0 i p cs).2.1 (tmF f L (61 - p) 0 i p cs).2.2.1 (opL ad (tmF f L (61 - p) 0 i p cs).2.2.2) := by
  rw [sm_tm (61 - p) ad 0 i p cs (by omega) hp hi]
  rfl
theorem tm_mc {m tm i p : Nat} {cs : List TK} : tmF f L (m + 1) tm i p cs = if (vaF f L i p cs).1 ≠ 0 then vaF f L i p cs else mcF f L m (bk f L (vaF f L i p cs).2.1) (vaF f L i p cs).2.2.1 (opL tm (vaF f L i p cs).2.2.2) := rfl
end Tm
section Rn
variable {S0 S : mS} {f : Nat → Nat} {L sl i e p : Nat} {pc P0 cs : List TK}
theorem RuO_e {res : PS} {S' : mS} (h0 : res.1 ≠ 0) (h : RuE S0 L sl res.1 S') : RuO S0 L sl P0 res ((), S') := ⟨fun _ => h, fun z => absurd z h0⟩
theorem RuO_k {res : PS} {S' : mS} (h0 : res.1 = 0) (h : RuV S0 S' L sl res.2.1 0 res.2.2.1 (P0 ++ res.2.2.2)) : RuO S0 L sl P0 res ((), S') := ⟨fun z => absurd h0 z, fun _ => h⟩
/-- a term ends at a fault -/
theorem f187z (he : e ≠ 0) (he2 : e < 2 ^ 31) (h : RuE S0 L sl e S) : Ep (fun n => F187f n 8 S) (fun z => RuE S0 L sl e z.2) := by
  obtain ⟨pos, p', pc', hp, r⟩ := h
  have e1 : am_if .ne (nI e) = true := by rw [if_ne he2, decide_eq_false he]; rfl
  have a3 := r.1.2.2
  refine ep_succ (fun n => F187e8 n ..) ?_
  simp only [F187b8, a3, e1, if_true]
  exact ep_ret ⟨pos, p', pc', hp, r⟩
theorem f186z (he : e ≠ 0) (he2 : e < 2 ^ 31) (h : RuE S0 L sl e S) : Ep (fun n => F186f n 4 S) (fun z => RuE S0 L sl e z.2) := by
  obtain ⟨pos, p', pc', hp, r⟩ := h
  have e1 : am_if .ne (nI e) = true := by rw [if_ne he2, decide_eq_false he]; rfl
  have a3 := r.1.2.2
  refine ep_succ (fun n => F186e4 n ..) ?_
  simp only [F186b4, a3, e1, if_true]
  exact ep_ret ⟨pos, p', pc', hp, r⟩
theorem f190z {x y : Int32} (he : e ≠ 0) (he2 : e < 2 ^ 31) (h : RuE S0 L sl e S) : Ep (fun n => F190 n x y S) (fun z => RuE S0 L sl e z.2) := by
  obtain ⟨pos, p', pc', hp, r⟩ := h
  exact ep_mono (f190n he he2 r) (fun z hz => ⟨pos, p', pc', hp, hz⟩)
theorem f161z (hH : MH S0 f L) (h : RuE S0 L sl e S) : Ep (fun n => F161 n S) (fun z => RuE S0 L sl e z.2) := by
  obtain ⟨pos, p', pc', hp, r⟩ := h
  exact ep_mono (f161 (RuV_MH hH r) hp (RuV_MY r)) (fun z hz => ⟨_, p', pc', (bk_b (f := f) hp).2.1, RuV_my r hz⟩)
theorem f187n (hH : MH S0 f L) (h35 : S0.1 35 = nI 11) (hsl : sl < 6) (he : e ≠ 0) (he2 : e < 2 ^ 31) (h : RuE S0 L sl e S) : Ep (fun n => F187 n S) (fun z => RuE S0 L sl e z.2) := by
  obtain ⟨pos, p', pc', hp, r⟩ := h
  refine ep_succ (fun n => F187e0 n ..) ?_
  simp only [F187b0]
  refine ep_bind (f188n hH h35 hsl he he2 hp r) ?_
  rintro ⟨_, S1⟩ h1
  refine ep_bind (f161z hH h1) ?_
  rintro ⟨_, S2⟩ h2
  exact f187z he he2 h2
theorem f186n (hH : MH S0 f L) (h35 : S0.1 35 = nI 11) (hsl : sl < 6) (he : e ≠ 0) (he2 : e < 2 ^ 31) (h : RuE S0 L sl e S) : Ep (fun n => F186 n S) (fun z => RuE S0 L sl e z.2) := by
  refine ep_succ (fun n => F186e0 n ..) ?_
  simp only [F186b0]
  refine ep_bind (f187n hH h35 hsl he he2 h) ?_
  rintro ⟨_, S1⟩ h1
  exact f186z he he2 h1
theorem f187l (hH : MH S0 f L) (h35 : S0.1 35 = nI 11) (hsl : sl < 6) : ∀ (m j p : Nat) (cs : List TK) (S : mS), m + p = 61 → p ≤ 60 → j ≤ L → bk f L j = j → 3 * (P0.length + cs.length) ≤ 6 * p + j → RuV S0 S L sl j 0 p (P0 ++ cs) → Ep (fun n => F187f n 8 S) (RuO S0 L sl P0 (mcF f L m j p cs)) := by
  have hL := hH.2.1
  intro m
  induction m with
  | zero =>
    intro j p cs S hm hp
    omega
  | succ m ih =>
    intro j p cs S hm hp hj hbj hlen h
    have hsb : sg f L j < 2 ^ 30 := by
      unfold sg
      by_cases hl : j < L
      · rw [if_pos hl]
        have := hH.2.2 _ hl
        omega
      · rw [if_neg hl]
        decide
    have g2 := f162 (RuV_MH hH h) hj (RuV_MY h)
    have t8 : S.1 28 = nI 0 := h.1.2.2
    have t7 : S.1 27 = nI j := h.1.2.1
    have e0 : am_if .ne (nI 0) = false := by decide
    obtain ⟨res, hres⟩ : ∃ res, res = mcF f L (m + 1) j p cs := ⟨_, rfl⟩
    rw [← hres]
    unfold mcF at hres
    have q42 : am_ic .eq (zI (sg f L j)) 42 = decide (sg f L j = 43) := ic_eq_pn (c := 42) (by omega) (by decide)
    have q47 : am_ic .eq (zI (sg f L j)) 47 = decide (sg f L j = 48) := ic_eq_pn (c := 47) (by omega) (by decide)
    have n42 : am_ic .ne (zI (sg f L j)) 42 = !decide (sg f L j = 43) := ic_ne_pn (c := 42) (by omega) (by decide)
    have n47 : am_ic .ne (zI (sg f L j)) 47 = !decide (sg f L j = 48) := ic_ne_pn (c := 47) (by omega) (by decide)
    have n37 : am_ic .ne (zI (sg f L j)) 37 = !decide (sg f L j = 38) := ic_ne_pn (c := 37) (by omega) (by decide)
    have body : ∀ o, muS f L j = o → o ≠ 0 → Ep (fun n => (F188 n (m_sI S 27 (nI (j + 1)))).bind (fun z15 => (F190 n (nI o) 0 z15.2).bind (fun z17 => (F161 n z17.2).bind (fun z19 => F187f n 8 z19.2)))) (RuO S0 L sl P0 res) := by
      intro o ho ho0
      have hmu : muS f L j ≠ 0 := by rw [ho]; exact ho0
      have hl := mu_l hmu
      rw [if_pos hmu, ho, tm_mc] at hres
      obtain ⟨v1, v2, v3⟩ := va_g (f := f) (L := L) (i := j + 1) (cs := cs) (by omega) hp
      have hla : (P0 ++ cs).length = P0.length + cs.length := List.length_append ..
      refine ep_bind (f188 hH h35 hsl (show j + 1 ≤ L by omega) hp (by omega) (RuV_27 h)) ?_
      rintro ⟨_, S1⟩ ⟨k1, k2⟩
      by_cases h0 : (vaF f L (j + 1) p cs).1 = 0
      · have k : RuV S0 S1 L sl (vaF f L (j + 1) p cs).2.1 0 (vaF f L (j + 1) p cs).2.2.1 (P0 ++ (vaF f L (j + 1) p cs).2.2.2) := k2 h0
        obtain ⟨g1, g2, g3, g4, g5, g6⟩ := v3 h0
        have hp1 : (vaF f L (j + 1) p cs).2.2.1 = p + 1 := va_p h0
        have hb := bk_b (f := f) v2
        rw [if_neg (fun z => z h0)] at hres
        have hlv : (P0 ++ (vaF f L (j + 1) p cs).2.2.2).length = P0.length + (vaF f L (j + 1) p cs).2.2.2.length := List.length_append ..
        refine ep_bind (f190 (t := (o, 0)) hsl k (by omega)) ?_
        rintro ⟨_, S2⟩ k3
        have k3 : RuV S0 S2 L sl (vaF f L (j + 1) p cs).2.1 0 (vaF f L (j + 1) p cs).2.2.1 (P0 ++ (vaF f L (j + 1) p cs).2.2.2 ++ [(o, 0)]) := k3
        refine ep_bind (f161 (RuV_MH hH k3) v2 (RuV_MY k3)) ?_
        rintro ⟨_, S3⟩ k4
        have k5 := RuV_my k3 k4
        have eo : opL o (vaF f L (j + 1) p cs).2.2.2 = (vaF f L (j + 1) p cs).2.2.2 ++ [(o, 0)] := if_neg ho0
        rw [List.append_assoc, ← eo] at k5
        rw [hres]
        exact ih _ _ _ S3 (by omega) g3 hb.2.1 (bk_id v2) (by rw [opL_len, na_1 ho0]; omega) k5
      · rw [if_pos h0] at hres
        refine ep_bind (f190z h0 (by omega) (k1 h0)) ?_
        rintro ⟨_, S2⟩ k3
        refine ep_bind (f161z hH k3) ?_
        rintro ⟨_, S3⟩ k4
        rw [hres]
        exact ep_mono (f187z h0 (by omega) k4) (fun z hz => RuO_e h0 hz)
    refine ep_succ (fun n => F187e8 n ..) ?_
    simp only [F187b8, t8, e0, Bool.false_eq_true, if_false]
    refine ep_bv g2 ?_
    by_cases c43 : sg f L j = 43
    · have hmu : muS f L j = 13 := if_pos c43
      simp only [q42, n42, decide_eq_true c43, if_true]
      refine ep_bv g2 ?_
      simp only [n42, decide_eq_true c43, Bool.not_true, Bool.false_eq_true, if_false, t7, nI_p1]
      exact body 13 hmu (by decide)
    · simp only [q42, n42, decide_eq_false c43, Bool.false_eq_true, if_false]
      refine ep_bv g2 ?_
      by_cases c48 : sg f L j = 48
      · have hmu : muS f L j = 14 := (if_neg c43).trans (if_pos c48)
        simp only [q47, decide_eq_true c48, if_true]
        refine ep_bv g2 ?_
        simp only [n42, decide_eq_false c43, Bool.not_false, if_true]
        refine ep_bv g2 ?_
        simp only [n47, decide_eq_true c48, Bool.not_true, Bool.false_eq_true, if_false, t7, nI_p1]
        exact body 14 hmu (by decide)
      · simp only [q47, decide_eq_false c48, Bool.false_eq_true, if_false]
        refine ep_bv g2 ?_
        by_cases c38 : sg f L j = 38
        · have hmu : muS f L j = 15 := (if_neg c43).trans ((if_neg c48).trans (if_pos c38))
          simp only [n37, decide_eq_true c38, Bool.not_true, Bool.false_eq_true, if_false]
          refine ep_bv g2 ?_
          simp only [n42, decide_eq_false c43, Bool.not_false, if_true]
          refine ep_bv g2 ?_
          simp only [n47, decide_eq_false c48, Bool.not_false, if_true, t7, nI_p1]
          exact body 15 hmu (by decide)
        · have hmu : muS f L j = 0 := (if_neg c43).trans ((if_neg c48).trans (if_neg c38))
          rw [if_neg (fun z => z hmu)] at hres
          simp only [n37, decide_eq_false c38, Bool.not_false, if_true]
          rw [hres]
          exact ep_ret (RuO_k rfl h)
theorem f187 (hH : MH S0 f L) (h35 : S0.1 35 = nI 11) (hsl : sl < 6) (hi : i ≤ L) (hp : p ≤ 60) (hlen : 3 * (P0.length + cs.length) ≤ 6 * p + i) (h : RuV S0 S L sl i 0 p (P0 ++ cs)) : Ep (fun n => F187 n S) (RuO S0 L sl P0 (tmF f L (61 - p) 0 i p cs)) := by
  have hL := hH.2.1
  obtain ⟨m, hm⟩ : ∃ m, 61 - p = m + 1 := ⟨60 - p, by omega⟩
  obtain ⟨res, hres⟩ : ∃ res, res = tmF f L (61 - p) 0 i p cs := ⟨_, rfl⟩
  rw [← hres]
  rw [hm, tm_mc, opL_0] at hres
  obtain ⟨v1, v2, v3⟩ := va_g (f := f) (cs := cs) hi hp
  have hla : (P0 ++ cs).length = P0.length + cs.length := List.length_append ..
  refine ep_succ (fun n => F187e0 n ..) ?_
  simp only [F187b0]
  refine ep_bind (f188 hH h35 hsl hi hp (by omega) h) ?_
  rintro ⟨_, S1⟩ ⟨k1, k2⟩
  by_cases h0 : (vaF f L i p cs).1 = 0
  · have k : RuV S0 S1 L sl (vaF f L i p cs).2.1 0 (vaF f L i p cs).2.2.1 (P0 ++ (vaF f L i p cs).2.2.2) := k2 h0
    obtain ⟨g1, g2, g3, g4, g5, g6⟩ := v3 h0
    have hp1 : (vaF f L i p cs).2.2.1 = p + 1 := va_p h0
    have hb := bk_b (f := f) v2
    rw [if_neg (fun z => z h0)] at hres
    refine ep_bind (f161 (RuV_MH hH k) v2 (RuV_MY k)) ?_
    rintro ⟨_, S3⟩ k4
    have k5 := RuV_my k k4
    rw [hres]
    exact f187l hH h35 hsl m _ _ _ S3 (by omega) g3 hb.2.1 (bk_id v2) (by omega) k5
  · rw [if_pos h0] at hres
    refine ep_bind (f161z hH (k1 h0)) ?_
    rintro ⟨_, S3⟩ k4
    rw [hres]
    exact ep_mono (f187z h0 (by omega) k4) (fun z hz => RuO_e h0 hz)
theorem f186l (hH : MH S0 f L) (h35 : S0.1 35 = nI 11) (hsl : sl < 6) : ∀ (m j p : Nat) (cs : List TK) (S : mS), 61 ≤ m + p → p ≤ 60 → j ≤ L → bk f L j = j → 3 * (P0.length + cs.length) ≤ 6 * p + j → RuV S0 S L sl j 0 p (P0 ++ cs) → Ep (fun n => F186f n 4 S) (RuO S0 L sl P0 (acF f L j p cs)) := by
  have hL := hH.2.1
  intro m
  induction m with
  | zero =>
    intro j p cs S hm hp
    omega
  | succ m ih =>
    intro j p cs S hm hp hj hbj hlen h
    have hsb : sg f L j < 2 ^ 30 := by
      unfold sg
      by_cases hl : j < L
      · rw [if_pos hl]
        have := hH.2.2 _ hl
        omega
      · rw [if_neg hl]
        decide
    have g2 := f162 (RuV_MH hH h) hj (RuV_MY h)
    have t8 : S.1 28 = nI 0 := h.1.2.2
    have t7 : S.1 27 = nI j := h.1.2.1
    have e0 : am_if .ne (nI 0) = false := by decide
    obtain ⟨res, hres⟩ : ∃ res, res = acF f L j p cs := ⟨_, rfl⟩
    rw [← hres]
    unfold acF at hres
    have q43 : am_ic .eq (zI (sg f L j)) 43 = decide (sg f L j = 44) := ic_eq_pn (c := 43) (by omega) (by decide)
    have n43 : am_ic .ne (zI (sg f L j)) 43 = !decide (sg f L j = 44) := ic_ne_pn (c := 43) (by omega) (by decide)
    have n45 : am_ic .ne (zI (sg f L j)) 45 = !decide (sg f L j = 46) := ic_ne_pn (c := 45) (by omega) (by decide)
    have body : ∀ o, adS f L j = o → o ≠ 0 → Ep (fun n => (F187 n (m_sI S 27 (nI (j + 1)))).bind (fun z10 => (F190 n (nI o) 0 z10.2).bind (fun z12 => F186f n 4 z12.2))) (RuO S0 L sl P0 res) := by
      intro o ho ho0
      have had : adS f L j ≠ 0 := by rw [ho]; exact ho0
      have hl := ad_l had
      rw [if_pos had, ho, smA_tm hp (by omega)] at hres
      obtain ⟨v1, v2, v3⟩ := tm_g (f := f) (L := L) (61 - p) 0 (j + 1) p cs (by omega) hp (by omega)
      refine ep_bind (f187 hH h35 hsl (show j + 1 ≤ L by omega) hp (by omega) (RuV_27 h)) ?_
      rintro ⟨_, S1⟩ ⟨k1, k2⟩
      obtain ⟨R, hR⟩ : ∃ R, R = tmF f L (61 - p) 0 (j + 1) p cs := ⟨_, rfl⟩
      rw [← hR] at hres v1 v2 v3 k1 k2
      by_cases h0 : R.1 = 0
      · have k : RuV S0 S1 L sl R.2.1 0 R.2.2.1 (P0 ++ R.2.2.2) := k2 h0
        obtain ⟨g1, g2, g3, g4, g5⟩ := v3 h0
        rw [na_0] at g4
        rw [if_neg (fun z => z h0)] at hres
        have hlv : (P0 ++ R.2.2.2).length = P0.length + R.2.2.2.length := List.length_append ..
        refine ep_bind (f190 (t := (o, 0)) hsl k (by omega)) ?_
        rintro ⟨_, S2⟩ k3
        have k3 : RuV S0 S2 L sl R.2.1 0 R.2.2.1 (P0 ++ R.2.2.2 ++ [(o, 0)]) := k3
        have eo : opL o R.2.2.2 = R.2.2.2 ++ [(o, 0)] := if_neg ho0
        rw [List.append_assoc, ← eo] at k3
        rw [hres]
        exact ih _ _ _ S2 (by omega) g3 v2 g5 (by rw [opL_len, na_1 ho0]; omega) k3
      · rw [if_pos h0] at hres
        refine ep_bind (f190z h0 (by omega) (k1 h0)) ?_
        rintro ⟨_, S2⟩ k3
        rw [hres]
        exact ep_mono (f186z h0 (by omega) k3) (fun z hz => RuO_e h0 hz)
    refine ep_succ (fun n => F186e4 n ..) ?_
    simp only [F186b4, t8, e0, Bool.false_eq_true, if_false]
    refine ep_bv g2 ?_
    by_cases c44 : sg f L j = 44
    · have had : adS f L j = 2 := if_pos c44
      simp only [q43, decide_eq_true c44, if_true]
      refine ep_bv g2 ?_
      simp only [n43, decide_eq_true c44, Bool.not_true, Bool.false_eq_true, if_false, t7, nI_p1]
      exact body 2 had (by decide)
    · simp only [q43, decide_eq_false c44, Bool.false_eq_true, if_false]
      refine ep_bv g2 ?_
      by_cases c46 : sg f L j = 46
      · have had : adS f L j = 3 := (if_neg c44).trans (if_pos c46)
        simp only [n45, decide_eq_true c46, Bool.not_true, Bool.false_eq_true, if_false]
        refine ep_bv g2 ?_
        simp only [n43, decide_eq_false c44, Bool.not_false, if_true, t7, nI_p1]
        exact body 3 had (by decide)
      · have had : adS f L j = 0 := (if_neg c44).trans (if_neg c46)
        rw [if_neg (fun z => z had)] at hres
        simp only [n45, decide_eq_false c46, Bool.not_false, if_true]
        rw [hres]
        exact ep_ret (RuO_k rfl h)
theorem f186 (hH : MH S0 f L) (h35 : S0.1 35 = nI 11) (hsl : sl < 6) (hi : i ≤ L) (hp : p ≤ 60) (hlen : 3 * (P0.length + cs.length) ≤ 6 * p + i) (h : RuV S0 S L sl i 0 p (P0 ++ cs)) : Ep (fun n => F186 n S) (RuO S0 L sl P0 (smG f L i p cs)) := by
  have hL := hH.2.1
  rw [smG_tm hp hi]
  obtain ⟨v1, v2, v3⟩ := tm_g (f := f) (L := L) (61 - p) 0 i p cs (by omega) hp hi
  refine ep_succ (fun n => F186e0 n ..) ?_
  simp only [F186b0]
  refine ep_bind (f187 hH h35 hsl hi hp hlen h) ?_
  rintro ⟨_, S1⟩ ⟨k1, k2⟩
  obtain ⟨R, hR⟩ : ∃ R, R = tmF f L (61 - p) 0 i p cs := ⟨_, rfl⟩
  rw [← hR] at v1 v2 v3 k1 k2 ⊢
  by_cases h0 : R.1 = 0
  · have k : RuV S0 S1 L sl R.2.1 0 R.2.2.1 (P0 ++ R.2.2.2) := k2 h0
    obtain ⟨g1, g2, g3, g4, g5⟩ := v3 h0
    rw [na_0] at g4
    rw [if_neg (fun z => z h0)]
    exact f186l hH h35 hsl (61 - R.2.2.1) _ _ _ S1 (by omega) g3 v2 g5 (by omega) k
  · rw [if_pos h0]
    exact ep_mono (f186z h0 (by omega) (k1 h0)) (fun z hz => RuO_e h0 hz)
end Rn
