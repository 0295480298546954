/-! rules told: the reference reads comparisons -/
def F185k (n : Nat) (S : mS) : Option (Unit × mS) := ((F162 n  S).bind (fun z3 => (if am_ic .eq z3.1 60 = true then ((F189 n (z3.2.1 27) z3.2).bind (fun z6 => (if am_ic .eq z3.1 61 = true then ((F186 n  (m_sI (m_sI z6.2 27 ((z6.2.1 27) + 1)) 27 (((m_sI z6.2 27 ((z6.2.1 27) + 1)).1 27) + 0))).bind (fun z9 => (if am_ic .ne z3.1 61 = true then (if am_ic .ne z3.1 60 = true then ((F190 n 8 0 z9.2).bind (fun z13 => some ((), z13.2))) else ((F190 n 4 0 z9.2).bind (fun z15 => some ((), z15.2)))) else ((F190 n 6 0 z9.2).bind (fun z17 => some ((), z17.2)))))) else ((F162 n  (m_sI z6.2 27 ((z6.2.1 27) + 1))).bind (fun z19 => (if am_ic .ne z19.1 61 = true then ((F186 n  (m_sI z19.2 27 ((z19.2.1 27) + 0))).bind (fun z22 => (if am_ic .ne z3.1 61 = true then (if am_ic .ne z3.1 60 = true then ((F190 n 8 0 z22.2).bind (fun z26 => some ((), z26.2))) else ((F190 n 4 0 z22.2).bind (fun z28 => some ((), z28.2)))) else ((F190 n 6 0 z22.2).bind (fun z30 => some ((), z30.2)))))) else ((F186 n  (m_sI z19.2 27 ((z19.2.1 27) + 1))).bind (fun z32 => (if am_ic .ne z3.1 61 = true then (if am_ic .ne z3.1 60 = true then ((F190 n 7 0 z32.2).bind (fun z36 => some ((), z36.2))) else ((F190 n 5 0 z32.2).bind (fun z38 => some ((), z38.2)))) else ((F190 n 6 0 z32.2).bind (fun z40 => some ((), z40.2)))))))))))) else (if am_ic .eq z3.1 61 = true then ((F189 n (z3.2.1 27) z3.2).bind (fun z43 => (if am_ic .eq z3.1 61 = true then ((F186 n  (m_sI (m_sI z43.2 27 ((z43.2.1 27) + 1)) 27 (((m_sI z43.2 27 ((z43.2.1 27) + 1)).1 27) + 0))).bind (fun z46 => (if am_ic .ne z3.1 61 = true then (if am_ic .ne z3.1 60 = true then ((F190 n 8 0 z46.2).bind (fun z50 => some ((), z50.2))) else ((F190 n 4 0 z46.2).bind (fun z52 => some ((), z52.2)))) else ((F190 n 6 0 z46.2).bind (fun z54 => some ((), z54.2)))))) else ((F162 n  (m_sI z43.2 27 ((z43.2.1 27) + 1))).bind (fun z56 => (if am_ic .ne z56.1 61 = true then ((F186 n  (m_sI z56.2 27 ((z56.2.1 27) + 0))).bind (fun z59 => (if am_ic .ne z3.1 61 = true then (if am_ic .ne z3.1 60 = true then ((F190 n 8 0 z59.2).bind (fun z63 => some ((), z63.2))) else ((F190 n 4 0 z59.2).bind (fun z65 => some ((), z65.2)))) else ((F190 n 6 0 z59.2).bind (fun z67 => some ((), z67.2)))))) else ((F186 n  (m_sI z56.2 27 ((z56.2.1 27) + 1))).bind (fun z69 => (if am_ic .ne z3.1 61 = true then (if am_ic .ne z3.1 60 = true then ((F190 n 7 0 z69.2).bind (fun z73 => some ((), z73.2))) else ((F190 n 5 0 z69.2).bind (fun z75 => some ((), z75.2)))) else ((F190 n 6 0 z69.2).bind (fun z77 => some ((), z77.2)))))))))))) else (if am_ic .eq z3.1 62 = true then ((F189 n (z3.2.1 27) z3.2).bind (fun z80 => (if am_ic .eq z3.1 61 = true then ((F186 n  (m_sI (m_sI z80.2 27 ((z80.2.1 27) + 1)) 27 (((m_sI z80.2 27 ((z80.2.1 27) + 1)).1 27) + 0))).bind (fun z83 => (if am_ic .ne z3.1 61 = true then (if am_ic .ne z3.1 60 = true then ((F190 n 8 0 z83.2).bind (fun z87 => some ((), z87.2))) else ((F190 n 4 0 z83.2).bind (fun z89 => some ((), z89.2)))) else ((F190 n 6 0 z83.2).bind (fun z91 => some ((), z91.2)))))) else ((F162 n  (m_sI z80.2 27 ((z80.2.1 27) + 1))).bind (fun z93 => (if am_ic .ne z93.1 61 = true then ((F186 n  (m_sI z93.2 27 ((z93.2.1 27) + 0))).bind (fun z96 => (if am_ic .ne z3.1 61 = true then (if am_ic .ne z3.1 60 = true then ((F190 n 8 0 z96.2).bind (fun z100 => some ((), z100.2))) else ((F190 n 4 0 z96.2).bind (fun z102 => some ((), z102.2)))) else ((F190 n 6 0 z96.2).bind (fun z104 => some ((), z104.2)))))) else ((F186 n  (m_sI z93.2 27 ((z93.2.1 27) + 1))).bind (fun z106 => (if am_ic .ne z3.1 61 = true then (if am_ic .ne z3.1 60 = true then ((F190 n 7 0 z106.2).bind (fun z110 => some ((), z110.2))) else ((F190 n 5 0 z106.2).bind (fun z112 => some ((), z112.2)))) else ((F190 n 6 0 z106.2).bind (fun z114 => some ((), z114.2)))))))))))) else ((F165 n 0 (z3.2.1 27) z3.2).bind (fun z116 => some ((), z116.2))))))))
theorem F185_k (F : Nat → mS → Option (Unit × mS)) (n : Nat) (S : mS) : F185b0 F n S = (F186 n S).bind (fun z1 => F185k n z1.2) := rfl
def F182x (F : Nat → Int32 → Int32 → mS → Option (Unit × mS)) (n : Nat) (l1 : Int32) (l2 : Int32) (S : mS) : Option (Unit × mS) := ((F193 n  S).bind (fun z35 => (if am_ic .ne z35.1 12 = true then F 9 l1 0 z35.2 else ((F162 n  z35.2).bind (fun z38 => (if am_ic .eq z38.1 93 = true then F 9 l1 l2 (m_sI (m_sI (m_sI z38.2 27 ((z38.2.1 27) + 1)) 34 (((m_sI z38.2 27 ((z38.2.1 27) + 1)).1 34) - 1)) 32 (((m_sI (m_sI z38.2 27 ((z38.2.1 27) + 1)) 34 (((m_sI z38.2 27 ((z38.2.1 27) + 1)).1 34) - 1)).1 32) - 1)) else ((F165 n 0 (z38.2.1 27) z38.2).bind (fun z41 => F 9 l1 l2 (m_sI (m_sI (m_sI z41.2 27 ((z41.2.1 27) + 1)) 34 (((m_sI z41.2 27 ((z41.2.1 27) + 1)).1 34) - 1)) 32 (((m_sI (m_sI z41.2 27 ((z41.2.1 27) + 1)) 34 (((m_sI z41.2 27 ((z41.2.1 27) + 1)).1 34) - 1)).1 32) - 1))))))))))
def F182w (F : Nat → Int32 → Int32 → mS → Option (Unit × mS)) (n : Nat) (l1 : Int32) (l2 : Int32) (S : mS) : Option (Unit × mS) := ((F161 n  S).bind (fun z6 => ((F164 n 56 z6.2).bind (fun z8 => ((F164 n 58 z8.2).bind (fun z10 => ((F192 n 10 z10.2).bind (fun z12 => (if am_if .ne z8.1 = true then (if am_if .eq z10.1 = true then (if am_if .eq z8.1 = true then ((F184 n 11 z12.2).bind (fun z17 => (if am_if .eq z8.1 = true then F 9 1 l2 (m_sI z17.2 27 ((z17.2.1 27) + 2)) else F 9 1 l2 (m_sI z17.2 27 ((z17.2.1 27) + 3))))) else ((F184 n 10 z12.2).bind (fun z20 => (if am_if .eq z8.1 = true then F 9 1 l2 (m_sI z20.2 27 ((z20.2.1 27) + 2)) else F 9 1 l2 (m_sI z20.2 27 ((z20.2.1 27) + 3)))))) else ((F192 n 11 z12.2).bind (fun z23 => (if am_if .eq z8.1 = true then ((F184 n 11 z23.2).bind (fun z26 => (if am_if .eq z8.1 = true then F 9 1 l2 (m_sI z26.2 27 ((z26.2.1 27) + 2)) else F 9 1 l2 (m_sI z26.2 27 ((z26.2.1 27) + 3))))) else ((F184 n 10 z23.2).bind (fun z29 => (if am_if .eq z8.1 = true then F 9 1 l2 (m_sI z29.2 27 ((z29.2.1 27) + 2)) else F 9 1 l2 (m_sI z29.2 27 ((z29.2.1 27) + 3))))))))) else (if am_if .eq z10.1 = true then ((F192 n 11 z12.2).bind (fun z33 => (F182x F n l1 l2 z33.2))) else (if am_if .eq z10.1 = true then (if am_if .eq z8.1 = true then ((F184 n 11 z12.2).bind (fun z45 => (if am_if .eq z8.1 = true then F 9 1 l2 (m_sI z45.2 27 ((z45.2.1 27) + 2)) else F 9 1 l2 (m_sI z45.2 27 ((z45.2.1 27) + 3))))) else ((F184 n 10 z12.2).bind (fun z48 => (if am_if .eq z8.1 = true then F 9 1 l2 (m_sI z48.2 27 ((z48.2.1 27) + 2)) else F 9 1 l2 (m_sI z48.2 27 ((z48.2.1 27) + 3)))))) else ((F192 n 11 z12.2).bind (fun z51 => (if am_if .eq z8.1 = true then ((F184 n 11 z51.2).bind (fun z54 => (if am_if .eq z8.1 = true then F 9 1 l2 (m_sI z54.2 27 ((z54.2.1 27) + 2)) else F 9 1 l2 (m_sI z54.2 27 ((z54.2.1 27) + 3))))) else ((F184 n 10 z51.2).bind (fun z57 => (if am_if .eq z8.1 = true then F 9 1 l2 (m_sI z57.2 27 ((z57.2.1 27) + 2)) else F 9 1 l2 (m_sI z57.2 27 ((z57.2.1 27) + 3)))))))))))))))))))
theorem F182_w (F : Nat → Int32 → Int32 → mS → Option (Unit × mS)) (n : Nat) (l1 : Int32) (l2 : Int32) (S : mS) : F182b9 F n l1 l2 S = if am_if .eq l2 = true then some ((), S) else if am_if .ne (S.1 28) = true then some ((), S) else if am_if .eq l1 = true then (F192 n 9 S).bind (fun z4 => F182w F n l1 l2 z4.2) else (F183 n S).bind (fun z60 => if am_if .ne z60.1 = true then F 9 0 l2 z60.2 else F 9 1 l2 z60.2) := rfl
section Ro
variable {S0 S : mS} {f : Nat → Nat} {L sl i e p : Nat} {pc P0 cs : List TK}
theorem nI_p0 (k : Nat) : nI k + 0 = nI k := by
  have := nI_add k 0
  exact this
theorem f185t {j : Nat} (hH : MH S0 f L) (hj : j ≤ L) (he2 : e < 2 ^ 31) (h : RuV S0 S L sl j e p pc) {Q : Unit × mS → Prop} (qn : isC f L j = false → ∀ S', MY S' S L j (if e = 0 then 1 + 8 * j else e) → Q ((), S')) (qs : isC f L j = true → Ep (fun n => F189 n (nI j) S) (fun z => (∃ e' p', RuV S0 z.2 L sl j e' p' pc) ∧ Ep (fun n => F186 n (m_sI (m_sI z.2 27 (nI (j + 1))) 27 (nI (j + 1 + wiS f L j)))) (fun z9 => Ep (fun n => F190 n (nI (cmO f L j)) 0 z9.2) (fun y => Q ((), y.2))))) : Ep (fun n => F185k n S) Q := by
  have hL := hH.2.1
  have t7 : S.1 27 = nI j := h.1.2.1
  have hsb : ∀ x, sg f L x < 2 ^ 30 := fun x => by
    unfold sg
    by_cases hl : x < L
    · rw [if_pos hl]
      have := hH.2.2 _ hl
      omega
    · rw [if_neg hl]
      decide
  have hs0 := hsb j
  have q60 : am_ic .eq (zI (sg f L j)) 60 = decide (sg f L j = 61) := ic_eq_pn (c := 60) (by omega) (by decide)
  have q61 : am_ic .eq (zI (sg f L j)) 61 = decide (sg f L j = 62) := ic_eq_pn (c := 61) (by omega) (by decide)
  have q62 : am_ic .eq (zI (sg f L j)) 62 = decide (sg f L j = 63) := ic_eq_pn (c := 62) (by omega) (by decide)
  have n60 : am_ic .ne (zI (sg f L j)) 60 = !decide (sg f L j = 61) := ic_ne_pn (c := 60) (by omega) (by decide)
  have n61 : am_ic .ne (zI (sg f L j)) 61 = !decide (sg f L j = 62) := ic_ne_pn (c := 61) (by omega) (by decide)
  unfold F185k
  refine ep_bv (f162 (RuV_MH hH h) hj (RuV_MY h)) ?_
  have aft : ∀ (o1 o2 : Nat), isC f L j = true → sg f L j ≠ 62 → (wiS f L j = 0 → cmO f L j = o1) → (wiS f L j = 1 → cmO f L j = o2) → ∀ (K1 K2 : Nat → mS → Option (Unit × mS)), (∀ n S', K1 n S' = (F190 n (nI o1) 0 S').bind (fun y => some ((), y.2))) → (∀ n S', K2 n S' = (F190 n (nI o2) 0 S').bind (fun y => some ((), y.2))) → ∀ (S1 : mS), (∃ e' p', RuV S0 S1 L sl j e' p' pc) → Ep (fun n => F186 n (m_sI (m_sI S1 27 (nI (j + 1))) 27 (nI (j + 1 + wiS f L j)))) (fun z9 => Ep (fun n => F190 n (nI (cmO f L j)) 0 z9.2) (fun y => Q ((), y.2))) → Ep (fun n => (F162 n (m_sI S1 27 (nI (j + 1)))).bind (fun z19 => if am_ic .ne z19.1 61 = true then (F186 n (m_sI z19.2 27 ((z19.2.1 27) + 0))).bind (fun z22 => K1 n z22.2) else (F186 n (m_sI z19.2 27 ((z19.2.1 27) + 1))).bind (fun z32 => K2 n z32.2))) Q := by
    intro o1 o2 hc h62 ho1 ho2 K1 K2 hK1 hK2 S1 hS1 hz
    have hl := is_l hc
    obtain ⟨e', p', r⟩ := hS1
    have r1 := RuV_27 (i' := j + 1) r
    have hs1 := hsb (j + 1)
    have m61 : am_ic .ne (zI (sg f L (j + 1))) 61 = !decide (sg f L (j + 1) = 62) := ic_ne_pn (c := 61) (by omega) (by decide)
    refine ep_bv (f162 (RuV_MH hH r1) (by omega) (RuV_MY r1)) ?_
    by_cases hw : sg f L (j + 1) = 62
    · have hwi : wiS f L j = 1 := if_pos ⟨h62, hw⟩
      rw [hwi, ho2 hwi] at hz
      simp only [m61, decide_eq_true hw, Bool.not_true, Bool.false_eq_true, if_false, m_rIe, nI_p1]
      refine ep_bind hz ?_
      rintro ⟨_, S2⟩ h2
      simp only [hK2]
      refine ep_bind h2 ?_
      rintro ⟨_, S3⟩ h3
      exact ep_ret h3
    · have hwi : wiS f L j = 0 := if_neg (fun z => hw z.2)
      rw [hwi, ho1 hwi] at hz
      simp only [m61, decide_eq_false hw, Bool.not_false, if_true, m_rIe, nI_p0]
      refine ep_bind hz ?_
      rintro ⟨_, S2⟩ h2
      simp only [hK1]
      refine ep_bind h2 ?_
      rintro ⟨_, S3⟩ h3
      exact ep_ret h3
  by_cases c61 : sg f L j = 61
  · have hc : isC f L j = true := decide_eq_true (Or.inl c61)
    have n62 : sg f L j ≠ 62 := by omega
    simp only [q60, q61, n61, n60, decide_eq_true c61, decide_eq_false n62, Bool.not_false, Bool.not_true, Bool.false_eq_true, if_true, if_false, t7]
    refine ep_bind (qs hc) ?_
    rintro ⟨_, S1⟩ ⟨hx, hz⟩
    obtain ⟨e', p', r⟩ := hx
    have t7' : S1.1 27 = nI j := r.1.2.1
    simp only [t7', nI_p1]
    exact aft 4 5 hc n62 (fun w => by unfold cmO; rw [if_neg n62, if_pos c61, w]; rfl) (fun w => by unfold cmO; rw [if_neg n62, if_pos c61, w]; rfl) (fun n S' => (F190 n 4 0 S').bind (fun y => some ((), y.2))) (fun n S' => (F190 n 5 0 S').bind (fun y => some ((), y.2))) (fun _ _ => rfl) (fun _ _ => rfl) S1 ⟨e', p', r⟩ hz
  · by_cases c62 : sg f L j = 62
    · have hc : isC f L j = true := decide_eq_true (Or.inr (Or.inl c62))
      have hwi : wiS f L j = 0 := if_neg (fun z => z.1 c62)
      have hco : cmO f L j = 6 := if_pos c62
      simp only [q60, q61, n61, decide_eq_false c61, decide_eq_true c62, Bool.not_true, Bool.false_eq_true, if_true, if_false, t7]
      refine ep_bind (qs hc) ?_
      rintro ⟨_, S1⟩ ⟨hx, hz⟩
      obtain ⟨e', p', r⟩ := hx
      have t7' : S1.1 27 = nI j := r.1.2.1
      rw [hwi, hco] at hz
      simp only [t7', nI_p1, m_rIe, nI_p0]
      refine ep_bind hz ?_
      rintro ⟨_, S2⟩ h2
      refine ep_bind h2 ?_
      rintro ⟨_, S3⟩ h3
      exact ep_ret h3
    · by_cases c63 : sg f L j = 63
      · have hc : isC f L j = true := decide_eq_true (Or.inr (Or.inr c63))
        simp only [q60, q61, q62, n61, n60, decide_eq_false c61, decide_eq_false c62, decide_eq_true c63, Bool.not_false, Bool.false_eq_true, if_true, if_false, t7]
        refine ep_bind (qs hc) ?_
        rintro ⟨_, S1⟩ ⟨hx, hz⟩
        obtain ⟨e', p', r⟩ := hx
        have t7' : S1.1 27 = nI j := r.1.2.1
        simp only [t7', nI_p1]
        exact aft 8 7 hc c62 (fun w => by unfold cmO; rw [if_neg c62, if_neg c61, w]; rfl) (fun w => by unfold cmO; rw [if_neg c62, if_neg c61, w]; rfl) (fun n S' => (F190 n 8 0 S').bind (fun y => some ((), y.2))) (fun n S' => (F190 n 7 0 S').bind (fun y => some ((), y.2))) (fun _ _ => rfl) (fun _ _ => rfl) S1 ⟨e', p', r⟩ hz
      · have hc : isC f L j = false := decide_eq_false (fun z => by omega)
        simp only [q60, q61, q62, decide_eq_false c61, decide_eq_false c62, decide_eq_false c63, Bool.false_eq_true, if_false, t7, L0]
        by_cases he : e = 0
        · subst he
          refine ep_bind (f165 (RuV_MY h)) ?_
          rintro ⟨_, S1⟩ a
          refine ep_ret (qn hc S1 ?_)
          rw [if_pos rfl]
          exact a
        · refine ep_bind (f165n he he2 (RuV_MY h)) ?_
          rintro ⟨_, S1⟩ a
          refine ep_ret (qn hc S1 ?_)
          rw [if_neg he]
          exact a
theorem wi_l {j : Nat} (hc : isC f L j = true) : j + 1 + wiS f L j ≤ L := by
  have hl := is_l hc
  obtain ⟨w1, w2⟩ := wi_1 (f := f) (L := L) (j := j)
  by_cases hw : wiS f L j = 1
  · have := w2 hw
    omega
  · omega
theorem f185 (hH : MH S0 f L) (h35 : S0.1 35 = nI 11) (hsl : sl < 6) (hi : i ≤ L) (hp : p ≤ 60) (hlen : 3 * (P0.length + cs.length) ≤ 6 * p + i) (h : RuV S0 S L sl i 0 p (P0 ++ cs)) : Ep (fun n => F185 n S) (RuO S0 L sl P0 (cmF f L i p cs)) := by
  have hL := hH.2.1
  obtain ⟨⟨s1, s2, s3⟩, s4⟩ := smG_g (f := f) (cs := cs) hi hp
  obtain ⟨res, hres⟩ : ∃ res, res = cmF f L i p cs := ⟨_, rfl⟩
  rw [← hres]
  unfold cmF c2F at hres
  refine ep_succ (fun n => F185e0 n ..) ?_
  simp only [F185_k]
  refine ep_bind (f186 hH h35 hsl hi hp hlen h) ?_
  rintro ⟨_, S1⟩ ⟨k1, k2⟩
  obtain ⟨R, hR⟩ : ∃ R, R = smG f L i p cs := ⟨_, rfl⟩
  rw [← hR] at hres s1 s2 s3 s4 k1 k2
  by_cases h0 : R.1 = 0
  · have k : RuV S0 S1 L sl R.2.1 0 R.2.2.1 (P0 ++ R.2.2.2) := k2 h0
    obtain ⟨c1, c2, c3, c4, c5, c6⟩ := s3 h0
    have n0 : ¬ R.1 ≠ 0 := fun z => z h0
    simp only [if_neg n0] at hres
    refine f185t hH s2 (by decide) k (fun hc S' m => ?_) (fun hc => ?_)
    · rw [if_pos rfl] at m
      have hres : res = (1 + 8 * R.2.1, R.2.1, R.2.2.1, R.2.2.2) := by
        rw [hres, if_pos hc]
        exact if_pos (show 1 + 8 * R.2.1 ≠ 0 by omega)
      rw [hres]
      exact RuO_e (show 1 + 8 * R.2.1 ≠ 0 by omega) ⟨_, _, _, s2, RuV_my k m⟩
    · have nc : ¬ isC f L R.2.1 = false := by rw [hc]; decide
      rw [if_neg nc] at hres
      have hwl := wi_l hc
      obtain ⟨Z, z1, z2, z3⟩ := f189 (pl := R.2.1) k c3
      refine ⟨Z, z1, ?_⟩
      by_cases h60 : 60 ≤ R.2.2.1
      · have hres : res = (4 + 8 * R.2.1, R.2.1, R.2.2.1, R.2.2.2) := by
          rw [hres, if_pos h60]
          exact if_pos (show 4 + 8 * R.2.1 ≠ 0 by omega)
        have z := z3 h60
        refine ⟨⟨_, _, z⟩, ?_⟩
        refine ep_mono (f186n hH h35 hsl (show 4 + 8 * R.2.1 ≠ 0 by omega) (by omega) ⟨_, _, _, hwl, RuV_27 (RuV_27 z)⟩) (fun z9 h9 => ?_)
        refine ep_mono (f190z (show 4 + 8 * R.2.1 ≠ 0 by omega) (by omega) h9) (fun y hy => ?_)
        rw [hres]
        exact RuO_e (show 4 + 8 * R.2.1 ≠ 0 by omega) hy
      · rw [if_neg h60] at hres
        have z := z2 (by omega)
        refine ⟨⟨_, _, z⟩, ?_⟩
        obtain ⟨⟨t1, t2, t3⟩, _⟩ := smG_g (f := f) (cs := R.2.2.2) (p := R.2.2.1 + 1) hwl (by omega)
        refine ep_mono (f186 hH h35 hsl hwl (by omega) (by omega) (RuV_27 (RuV_27 z))) (fun z9 h9 => ?_)
        obtain ⟨Y, hY⟩ : ∃ Y, Y = smG f L (R.2.1 + 1 + wiS f L R.2.1) (R.2.2.1 + 1) R.2.2.2 := ⟨_, rfl⟩
        rw [← hY] at hres t1 t2 t3 h9
        obtain ⟨u1, u2⟩ := h9
        by_cases y0 : Y.1 = 0
        · have u := u2 y0
          obtain ⟨d1, d2, d3, d4, d5, d6⟩ := t3 y0
          have hlv : (P0 ++ Y.2.2.2).length = P0.length + Y.2.2.2.length := List.length_append ..
          refine ep_mono (f190 (t := (cmO f L R.2.1, 0)) hsl u (by omega)) (fun y hy => ?_)
          have ny : ¬ Y.1 ≠ 0 := fun z => z y0
          rw [if_neg ny] at hres
          rw [hres]
          refine RuO_k rfl ?_
          show RuV S0 y.2 L sl Y.2.1 0 Y.2.2.1 (P0 ++ (Y.2.2.2 ++ [(cmO f L R.2.1, 0)]))
          rw [← List.append_assoc]
          exact hy
        · rw [if_pos y0] at hres
          refine ep_mono (f190z y0 (by omega) (u1 y0)) (fun y hy => ?_)
          rw [hres]
          exact RuO_e y0 hy
  · obtain ⟨pos, p', pc', hpos, k⟩ := k1 h0
    have hres : res = R := by
      rw [hres]
      simp only [if_pos h0]
    rw [hres]
    have he2 : R.1 < 2 ^ 31 := by omega
    refine f185t hH hpos he2 k (fun hc S' m => ?_) (fun hc => ?_)
    · rw [if_neg h0] at m
      exact RuO_e h0 ⟨_, _, _, hpos, RuV_my k m⟩
    · have hwl := wi_l hc
      obtain ⟨Z, z1, z⟩ := f189n (x := nI pos) h0 he2 k
      refine ⟨Z, z1, ⟨_, _, z⟩, ?_⟩
      refine ep_mono (f186n hH h35 hsl h0 he2 ⟨_, _, _, hwl, RuV_27 (RuV_27 z)⟩) (fun z9 h9 => ?_)
      refine ep_mono (f190z h0 he2 h9) (fun y hy => ?_)
      exact RuO_e h0 hy
end Ro
