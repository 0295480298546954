/-! rules told: the reference, whole -/
def RuZm (S0 : mS) (sl : Nat) (res : Nat × List (List TK)) (z : Int32 × mS) : Prop := (z.2.1 35 = S0.1 35 ∧ z.2.1 47 = S0.1 47) ∧ z.2.1 26 = nI 0 ∧ (∀ q j, q ≠ 32 → ¬ (27 ≤ q ∧ q ≤ 31 ∧ lmI sl q j) → z.2.2.1 q j = S0.2.1 q j) ∧ (res.1 ≠ 0 → z.1 = (-2) - nI res.1 ∧ z.2.1 30 = nI sl) ∧ (res.1 = 0 → z.1 = nI sl ∧ z.2.1 30 = nI (sl + 1) ∧ z.2.2.1 29 sl = nI res.2.length ∧ ∀ j, j < res.2.length → CdK z.2 sl j (res.2.getD j []))
section Rt
variable {S0 S S1 S2 : mS} {f : Nat → Nat} {L sl i e p n : Nat} {P : List TK} {css : List (List TK)}
/-- clauses of a code that stands -/
theorem OfK_C {j : Nat} {c : List TK} (h : OfK S sl P j c) (hP : P.length ≤ 300) (hr : RuV S S L sl i e p P) : CdK S sl j c := by
  obtain ⟨a, h1, h2, h3, h4⟩ := h
  refine ⟨a, h1, h2, by omega, fun k hk => ?_⟩
  rw [← h4 k hk]
  exact hr.2.2.2.2.1 (a + k) (by omega)
theorem OfK_m {S' : mS} {Q : List TK} {j : Nat} {c : List TK} (h : OfK S sl P j c) (e0 : ∀ q, q = 30 ∨ q = 31 → S'.2.1 q (12 * sl + j) = S.2.1 q (12 * sl + j)) : OfK S' sl (P ++ Q) j c := by
  obtain ⟨a, h1, h2, h3, h4⟩ := h
  refine ⟨a, by rw [e0 30 (Or.inl rfl)]; exact h1, by rw [e0 31 (Or.inr rfl)]; exact h2, by rw [List.length_append]; omega, fun k hk => ?_⟩
  rw [← h4 k hk, List.getD_eq_getElem?_getD, List.getElem?_append_left (by omega), ← List.getD_eq_getElem?_getD]
theorem OfK_n {c : List TK} {j : Nat} (h1 : S.2.1 30 (12 * sl + j) = nI P.length) (h2 : S.2.1 31 (12 * sl + j) = nI (P.length + c.length)) : OfK S sl (P ++ c) j c := by
  refine ⟨P.length, h1, h2, by rw [List.length_append]; omega, fun k hk => ?_⟩
  rw [List.getD_eq_getElem?_getD, List.getElem?_append_right (by omega), Nat.add_sub_cancel_left, ← List.getD_eq_getElem?_getD]
/-- the end -/
theorem f180z (hsl : sl < 6) (h28 : S.1 28 = nI e) (h29 : S.1 29 = nI sl) (h30 : S.1 30 = nI sl) (he2 : e < 2 ^ 31) : Ep (fun N => F180f N 27 (nI n) (nI 0) S) (fun z => z.1 = (if e = 0 then nI sl else (-2) - nI e) ∧ z.2 = m_sI (m_sA (m_sI S 26 0) 29 sl (nI n)) 30 (nI (if e = 0 then sl + 1 else sl))) := by
  have e0 : am_if .eq (nI 0) = true := by decide
  have t29 : (m_sI S 26 0).1 29 = nI sl := by rw [m_rIn (by decide)]; exact h29
  have g1 : (nI sl < 0 ∨ 6 ≤ sl) = False := gdN hsl (by decide)
  have e3 : Int32.toNatClampNeg (nI sl) = sl := nI_clamp (by omega)
  have t28 : (m_sA (m_sI S 26 0) 29 sl (nI n)).1 28 = nI e := by
    show (m_sI S 26 0).1 28 = _
    rw [m_rIn (by decide)]
    exact h28
  have t30 : (m_sA (m_sI S 26 0) 29 sl (nI n)).1 30 = nI sl := by
    show (m_sI S 26 0).1 30 = _
    rw [m_rIn (by decide)]
    exact h30
  have u28 : ∀ v, (m_sI (m_sA (m_sI S 26 0) 29 sl (nI n)) 30 v).1 28 = nI e := fun v => by
    rw [m_rIn (by decide)]
    exact t28
  have u30 : ∀ v, (m_sI (m_sA (m_sI S 26 0) 29 sl (nI n)) 30 v).1 30 = v := fun v => m_rIe
  refine ep_succ (fun n => F180e27 n ..) ?_
  by_cases h0 : e = 0
  · subst h0
    have e1 : am_if .ne (nI 0) = false := by decide
    have e2 : am_if .le (nI 0) = true := by decide
    simp only [F180b27, e0, if_true, t29, e3, g1, not_false_eq_true, t28, t30, u28, u30, e1, e2, Bool.false_eq_true, if_false, nI_p1, nI_s1]
    exact ep_ret ⟨rfl, rfl⟩
  · have e1 : am_if .ne (nI e) = true := by rw [if_ne he2, decide_eq_false h0]; rfl
    have e2 : am_if .le (nI e) = false := by rw [if_le he2, decide_eq_false h0]
    simp only [F180b27, e0, if_true, t29, e3, g1, not_false_eq_true, t28, t30, u28, u30, e1, e2, Bool.false_eq_true, if_false, nI_p0, h0]
    exact ep_ret ⟨rfl, rfl⟩
theorem RuZm_r (hr : RuR S0 S sl) {v : Int32} : ((m_sI (m_sA (m_sI S 26 0) 29 sl (nI n)) 30 v).1 35 = S0.1 35 ∧ (m_sI (m_sA (m_sI S 26 0) 29 sl (nI n)) 30 v).1 47 = S0.1 47) ∧ (m_sI (m_sA (m_sI S 26 0) 29 sl (nI n)) 30 v).1 26 = nI 0 ∧ (∀ q j, q ≠ 32 → ¬ (27 ≤ q ∧ q ≤ 31 ∧ lmI sl q j) → (m_sI (m_sA (m_sI S 26 0) 29 sl (nI n)) 30 v).2.1 q j = S0.2.1 q j) := by
  refine ⟨⟨?_, ?_⟩, ?_, fun q j hq hj => ?_⟩
  · rw [m_rIn (by decide)]
    show (m_sI S 26 0).1 35 = _
    rw [m_rIn (by decide)]
    exact hr.1 35 (by decide) (by decide) (by decide) (by decide) (by decide) (by decide)
  · rw [m_rIn (by decide)]
    show (m_sI S 26 0).1 47 = _
    rw [m_rIn (by decide)]
    exact hr.1 47 (by decide) (by decide) (by decide) (by decide) (by decide) (by decide)
  · rw [m_rIn (by decide)]
    show (m_sI S 26 0).1 26 = _
    exact m_rIe
  · show (m_sA (m_sI S 26 0) 29 sl (nI n)).2.1 q j = _
    by_cases h9 : q = 29
    · subst h9
      have : j ≠ sl := fun z => hj ⟨by omega, by omega, fun w => by omega, fun _ => z, fun w => by omega⟩
      rw [m_rAi this]
      exact hr.2.1 29 j hq hj
    · rw [m_rAn h9]
      exact hr.2.1 q j hq hj
/-- an end with a fault -/
theorem f180y (hsl : sl < 6) (hr : RuR S0 S sl) (h28 : S.1 28 = nI e) (h29 : S.1 29 = nI sl) (h30 : S.1 30 = nI sl) (he : e ≠ 0) (he2 : e < 2 ^ 31) : Ep (fun N => F180f N 27 (nI n) (nI 0) S) (RuZm S0 sl (e, css)) := by
  refine ep_mono (f180z hsl h28 h29 h30 he2) ?_
  rintro ⟨r, Z⟩ ⟨z1, z2⟩
  rw [if_neg he] at z1
  rw [if_neg he] at z2
  have z2 : Z = m_sI (m_sA (m_sI S 26 0) 29 sl (nI n)) 30 (nI sl) := z2
  subst z2
  obtain ⟨x1, x2, x3⟩ := RuZm_r (n := n) hr (v := nI sl)
  exact ⟨x1, x2, x3, fun _ => ⟨z1, m_rIe⟩, fun z => absurd z he⟩
/-- an end without one -/
theorem f180k (hsl : sl < 6) (hr : RuR S0 S sl) (h28 : S.1 28 = nI 0) (h29 : S.1 29 = nI sl) (h30 : S.1 30 = nI sl) (hc : ∀ j, j < css.length → CdK S sl j (css.getD j [])) (h12 : css.length ≤ 12) : Ep (fun N => F180f N 27 (nI css.length) (nI 0) S) (RuZm S0 sl (0, css)) := by
  refine ep_mono (f180z hsl h28 h29 h30 (by decide)) ?_
  rintro ⟨r, Z⟩ ⟨z1, z2⟩
  rw [if_pos rfl] at z1
  rw [if_pos rfl] at z2
  have z2 : Z = m_sI (m_sA (m_sI S 26 0) 29 sl (nI css.length)) 30 (nI (sl + 1)) := z2
  subst z2
  obtain ⟨x1, x2, x3⟩ := RuZm_r (n := css.length) hr (v := nI (sl + 1))
  refine ⟨x1, x2, x3, fun z => absurd rfl z, fun _ => ⟨z1, m_rIe, m_rAe, fun j hj => ?_⟩⟩
  obtain ⟨a, h1, h2, h3, h4⟩ := hc j hj
  have fr : ∀ q k, q ≠ 29 → (m_sI (m_sA (m_sI S 26 0) 29 sl (nI css.length)) 30 (nI (sl + 1))).2.1 q k = S.2.1 q k := fun q k hq => by
    show (m_sA (m_sI S 26 0) 29 sl (nI css.length)).2.1 q k = _
    rw [m_rAn hq]
    rfl
  exact ⟨a, (fr 30 _ (by decide)).trans h1, (fr 31 _ (by decide)).trans h2, h3, fun k hk => ⟨(fr 27 _ (by decide)).trans (h4 k hk).1, (fr 28 _ (by decide)).trans (h4 k hk).2⟩⟩
theorem R_29 (hr : RuR S0 S sl) (h29 : S0.1 29 = nI sl) (h30 : S0.1 30 = nI sl) : S.1 29 = nI sl ∧ S.1 30 = nI sl := ⟨by rw [hr.1 29 (by decide) (by decide) (by decide) (by decide) (by decide) (by decide)]; exact h29, by rw [hr.1 30 (by decide) (by decide) (by decide) (by decide) (by decide) (by decide)]; exact h30⟩
/-- behind a fault: no clause more -/
theorem f180e (hH : MH S0 f L) (hsl : sl < 6) (h29 : S0.1 29 = nI sl) (h30 : S0.1 30 = nI sl) (hr : RuR S0 S sl) (he : e ≠ 0) (he2 : e < 2 ^ 31) (h : RuF S S1 L sl e) : Ep (fun N => (F178 N S1).bind (fun z11 => F180f N 27 (nI (n + 1)) z11.1 z11.2)) (RuZm S0 sl (e, css)) := by
  obtain ⟨k1, k2, k3, k4⟩ := h
  have r1 := RuR_tr hr k1
  refine ep_bind (f178x (RuR_MH hH r1) he he2 k2 k3 k4) ?_
  rintro ⟨z, S2⟩ ⟨z0, pos, m⟩
  have z0 : z = nI 0 := z0
  have m : MY S2 S1 L pos e := m
  subst z0
  have r2 := RuR_tr r1 (RuR_my m)
  obtain ⟨a29, a30⟩ := R_29 r2 h29 h30
  exact f180y hsl r2 m.2.2.1 a29 a30 he he2
theorem getD_app {j : Nat} {c : List TK} : (css ++ [c]).getD j [] = if j < css.length then css.getD j [] else if j = css.length then c else [] := by
  by_cases h : j < css.length
  · rw [if_pos h, List.getD_eq_getElem?_getD, List.getElem?_append_left h, ← List.getD_eq_getElem?_getD]
  · rw [if_neg h]
    by_cases h2 : j = css.length
    · subst h2
      rw [if_pos rfl, List.getD_eq_getElem?_getD, List.getElem?_append_right (Nat.le_refl _), Nat.sub_self]
      rfl
    · rw [if_neg h2, List.getD_eq_getElem?_getD, List.getElem?_append_right (by omega)]
      have : j - css.length = (j - css.length - 1) + 1 := by omega
      rw [this]
      rfl
theorem f180l (hH : MH S0 f L) (h35 : S0.1 35 = nI 11) (hsl : sl < 6) (h29 : S0.1 29 = nI sl) (h30 : S0.1 30 = nI sl) : ∀ (m n i p : Nat) (css : List (List TK)) (P : List TK) (S : mS), m + n = 13 → n = css.length → n ≤ 12 → p ≤ 60 → i ≤ L → 3 * P.length ≤ 6 * p + i → RuR S0 S sl → RuV S S L sl i 0 p P → S.1 32 = nI 0 → (∀ j, j < css.length → OfK S sl P j (css.getD j [])) → Ep (fun N => F180f N 27 (nI n) (nI 1) S) (RuZm S0 sl (ruF f L m n i p css)) := by
  have hL := hH.2.1
  intro m
  induction m with
  | zero =>
    intro n i p css P S hm hn h12
    omega
  | succ m ih =>
    intro n i p css P S hm hn h12 hp hi hlen hr h h32 hof
    have hb := bk_b (f := f) hi
    have hH' := RuR_MH hH hr
    have h35' : S.1 35 = nI 11 := by
      rw [hr.1 35 (by decide) (by decide) (by decide) (by decide) (by decide) (by decide)]
      exact h35
    have e1 : am_if .eq (nI 1) = false := by decide
    obtain ⟨res, hres⟩ : ∃ res, res = ruF f L (m + 1) n i p css := ⟨_, rfl⟩
    rw [← hres]
    unfold ruF at hres
    refine ep_succ (fun n => F180e27 n ..) ?_
    simp only [F180b27, e1, Bool.false_eq_true, if_false, nI_p1]
    refine ep_bind (f181 hH' h35' hsl h12 hi hp hlen h h32) ?_
    rintro ⟨_, S1⟩ ⟨y1, y2, y3, y4⟩
    cases hw : wmB f L (bk f L i) wJoin with
    | false =>
      rw [if_neg (by rw [hw]; decide)] at hres
      rw [hres]
      exact f180e hH hsl h29 h30 hr (by omega) (by omega) (y1 hw)
    | true =>
      have hj : bk f L i + 4 ≤ L := wm_len hw
      rw [if_pos hw] at hres
      by_cases h12' : n = 12
      · rw [if_pos h12'] at hres
        rw [hres]
        exact f180e hH hsl h29 h30 hr (by omega) (by omega) (y2 hw h12')
      · rw [if_neg h12'] at hres
        obtain ⟨r1, r2, r3⟩ := rc_g (f := f) hi hp hj
        by_cases h0 : (rclF f L i p).1 = 0
        · have n0 : ¬ (rclF f L i p).1 ≠ 0 := fun z => z h0
          rw [if_neg n0] at hres
          obtain ⟨c1, c2, c3, c4, c5, c6⟩ := r3 h0
          obtain ⟨w1, w2, w3, w4, w5, w6⟩ := y4 hw h12' h0
          have w1 : RuR S S1 sl := w1
          have w2 : RuV S1 S1 L sl (rclF f L i p).2.1 0 (rclF f L i p).2.2.1 (P ++ (rclF f L i p).2.2.2) := w2
          have w3 : S1.1 32 = nI 0 := w3
          have w4 : S1.2.1 30 (12 * sl + n) = nI P.length := w4
          have w5 : S1.2.1 31 (12 * sl + n) = nI (P.length + (rclF f L i p).2.2.2.length) := w5
          have w6 : ∀ q j, q = 30 ∨ q = 31 → j < n → S1.2.1 q (12 * sl + j) = S.2.1 q (12 * sl + j) := w6
          have q1 := RuR_tr hr w1
          have hb2 := bk_b (f := f) r2
          have hln : (css ++ [(rclF f L i p).2.2.2]).length = n + 1 := by rw [List.length_append, hn]; rfl
          have hPl : (P ++ (rclF f L i p).2.2.2).length = P.length + (rclF f L i p).2.2.2.length := List.length_append ..
          have hof' : ∀ j, j < n + 1 → OfK S1 sl (P ++ (rclF f L i p).2.2.2) j ((css ++ [(rclF f L i p).2.2.2]).getD j []) := fun j hj => by
            rw [getD_app]
            by_cases hjn : j < css.length
            · rw [if_pos hjn]
              exact OfK_m (hof j hjn) (fun q hq => w6 q j hq (by omega))
            · have ej : j = css.length := by omega
              rw [if_neg hjn, if_pos ej]
              rw [← hn] at ej
              subst ej
              exact OfK_n w4 w5
          refine ep_bind (f178 (RuR_MH hH q1) r2 (RuV_MY w2)) ?_
          rintro ⟨z, S2⟩ ⟨v1, v0, v2⟩
          by_cases g1 : goF f L (rclF f L i p).2.1 = 1
          · rw [if_pos g1] at hres
            obtain ⟨z1, m1⟩ := v1 g1
            have z1 : z = nI 1 := z1
            have m1 : MY S2 S1 L (bk f L (rclF f L i p).2.1 + 1) 0 := m1
            subst z1
            have := go_l g1
            rw [hres]
            refine ih (n + 1) (bk f L (rclF f L i p).2.1 + 1) (rclF f L i p).2.2.1 (css ++ [(rclF f L i p).2.2.2]) (P ++ (rclF f L i p).2.2.2) S2 (by omega) hln.symm (by omega) c3 (by omega) (by omega) (RuR_tr q1 (RuR_my m1)) (RuV_sf (RuV_my w2 m1)) ?_ (fun j hj => ?_)
            · rw [m1.2.2.2.1 32 (by decide) (by decide)]
              exact w3
            · have := hof' j (by omega)
              rw [← List.append_nil (P ++ (rclF f L i p).2.2.2)]
              exact OfK_m this (fun q hq => by rw [m1.2.2.2.2])
          · rw [if_neg g1] at hres
            by_cases g2 : goF f L (rclF f L i p).2.1 = 2
            · rw [if_pos g2] at hres
              obtain ⟨z1, m1⟩ := v2 g2
              have z1 : z = nI 0 := z1
              have m1 : MY S2 S1 L (bk f L (rclF f L i p).2.1 + 1) (1 + 8 * bk f L (rclF f L i p).2.1) := m1
              subst z1
              have q2 := RuR_tr q1 (RuR_my m1)
              obtain ⟨a29, a30⟩ := R_29 q2 h29 h30
              rw [hres]
              exact f180y hsl q2 m1.2.2.1 a29 a30 (by omega) (by omega)
            · rw [if_neg g2] at hres
              have g0 : goF f L (rclF f L i p).2.1 = 0 := by
                rcases go_3 (f := f) (L := L) (i := (rclF f L i p).2.1) with x | x | x
                · exact x
                · exact absurd x g1
                · exact absurd x g2
              obtain ⟨z1, m1⟩ := v0 g0
              have z1 : z = nI 0 := z1
              have m1 : MY S2 S1 L (bk f L (rclF f L i p).2.1 + 1) 0 := m1
              subst z1
              have q2 := RuR_tr q1 (RuR_my m1)
              obtain ⟨a29, a30⟩ := R_29 q2 h29 h30
              rw [hres]
              have := f180k (css := css ++ [(rclF f L i p).2.2.2]) hsl q2 m1.2.2.1 a29 a30 (fun j hj => by
                have := OfK_C (hof' j (by omega)) (by omega) w2
                obtain ⟨a, h1, h2, h3, h4⟩ := this
                rw [← show S2.2 = S1.2 from m1.2.2.2.2] at h1 h2 h4
                exact ⟨a, h1, h2, h3, h4⟩) (by omega)
              rw [hln] at this
              exact this
        · rw [if_pos h0] at hres
          rw [hres]
          exact f180e hH hsl h29 h30 hr h0 (by omega) (y3 hw h12' h0)
end Rt
/-- a new rule beside all else -/
theorem RM_rul {A A' : AA} {S S' : mS} {k sl : Nat} (ok : OkA k A) (h : RM A S) (h4 : A'.2.2 = A.2.2) (ht : S'.1 26 = nI A'.1.1 ∧ ∀ i, i < A'.1.1 → S'.2.1 26 i = sbI (A'.1.2 i)) (h30 : S'.1 30 = nI A'.2.1.1) (h35 : S'.1 35 = S.1 35) (h47 : S'.1 47 = S.1 47) (hr : ∀ q j, q ≠ 32 → ¬ (27 ≤ q ∧ q ≤ 31 ∧ lmI sl q j) → S'.2.1 q j = S.2.1 q j) (hru : ∀ r, r < A'.2.1.1 → LMr S' r (A'.2.1.2 r)) : RM A' S' := by
  obtain ⟨_, ⟨r1, r2, r3⟩, ⟨d1, d2, d3, d4, d5, d6⟩, im⟩ := h
  have hr' : ∀ q j, (q < 27 ∨ 32 < q) → S'.2.1 q j = S.2.1 q j := fun q j hq => hr q j (by omega) (fun z => by omega)
  have ok1 := ok.2.2.2.1
  unfold RM
  rw [h4]
  exact ⟨ht, ⟨h30, by rw [h35]; exact r2, hru⟩, ⟨MB_r d1 ok1.1 (fun k i a => hr' k i (by omega)), MW_r d2 (OkD_n ok1) (fun k i a => hr' k i (by omega)), by rw [h47]; exact d3, MP_r d4 (fun j w hj => ⟨(OkD_p ok1 hj).2.1, (OkD_p ok1 hj).2.2⟩) (fun j _ => hr' 35 j (by omega)), by rw [hr' 1 8 (by omega)]; exact d5, by rw [hr' 1 7 (by omega)]; exact d6⟩, IM_r ok im (fun j hj => hr' 40 j (by omega)) (fun i _ => hr' 41 i (by omega))⟩
theorem LMr_ne {S S' : mS} {r sl : Nat} {g : (Nat → Int64) → Bool} (h : LMr S r g) (hn : r < sl) (hr : ∀ q j, q ≠ 32 → ¬ (27 ≤ q ∧ q ≤ 31 ∧ lmI sl q j) → S'.2.1 q j = S.2.1 q j) : LMr S' r g := by
  intro S2 x e1 e2 e3
  refine h S2 x (fun k i a b c => (e1 k i a b c).trans (hr k i (by omega) (fun z => ?_))) e2 e3
  obtain ⟨_, _, z1, z2, z3⟩ := z
  obtain ⟨c1, c2, c3⟩ := c
  by_cases k29 : k < 29
  · have := z1 k29
    have := c1 k29
    omega
  · by_cases k9 : k = 29
    · have := z2 k9
      have := c2 k9
      omega
    · have := z3 (by omega)
      have := c3 (by omega)
      omega
theorem f180 {A : AA} {k : Nat} (ok : OkA k A) : CallM (fun n => F180 n) A (rulR A) (rulA A) := by
  intro S hS
  obtain ⟨u1, u2⟩ := ru_a ok
  have hL := ok.1
  have h6 := ok.2.2.1
  have t30 : S.1 30 = nI A.2.1.1 := hS.2.1.1
  have e6 : am_ic .ne (nI A.2.1.1) 6 = !decide (A.2.1.1 = 6) := ic_ne (b := 6) (by omega) (by decide)
  refine ep_succ (fun n => F180e0 n ..) ?_
  simp only [F180b0, t30]
  by_cases c6 : 6 ≤ A.2.1.1
  · have eA : rulA A = A := if_pos c6
    have eR : rulR A = -1 := if_pos c6
    have e6 : am_ic .ne (nI A.2.1.1) 6 = false := by rw [e6, decide_eq_true (by omega)]; rfl
    simp only [e6, Bool.false_eq_true, if_false]
    rw [eA, eR]
    exact ep_ret ⟨rfl, hS⟩
  · have e6 : am_ic .ne (nI A.2.1.1) 6 = true := by rw [e6, decide_eq_false (by omega)]; rfl
    simp only [e6, if_true]
    obtain ⟨S1, hS1⟩ : ∃ S1, S1 = m_sI (m_sI (m_sI (m_sI (m_sI (m_sI S 29 (nI A.2.1.1)) 27 0) 28 0) 31 0) 32 0) 33 0 := ⟨_, rfl⟩
    have g9 : Ev (fun n => F159 n (m_sI S 29 (nI A.2.1.1))) ((), S1) := by
      refine ev_succ (fun n => F159e0 n ..) ?_
      simp only [F159b0]
      rw [hS1]
      exact ev_ret
    refine ep_bv g9 ?_
    have s2 : S1.2 = S.2 := by rw [hS1]; rfl
    have sn : ∀ q, q ≠ 27 → q ≠ 28 → q ≠ 29 → q ≠ 31 → q ≠ 32 → q ≠ 33 → S1.1 q = S.1 q := fun q a b c d x y => by
      rw [hS1, m_rIn y, m_rIn x, m_rIn d, m_rIn b, m_rIn a, m_rIn c]
    have s26 : S1.1 26 = nI A.1.1 := by
      rw [sn 26 (by decide) (by decide) (by decide) (by decide) (by decide) (by decide)]
      exact hS.1.1
    have s30 : S1.1 30 = nI A.2.1.1 := by
      rw [sn 30 (by decide) (by decide) (by decide) (by decide) (by decide) (by decide)]
      exact t30
    have s35 : S1.1 35 = S.1 35 := sn 35 (by decide) (by decide) (by decide) (by decide) (by decide) (by decide)
    have s47 : S1.1 47 = S.1 47 := sn 47 (by decide) (by decide) (by decide) (by decide) (by decide) (by decide)
    have s27 : S1.1 27 = nI 0 := by
      rw [hS1, m_rIn (by decide), m_rIn (by decide), m_rIn (by decide), m_rIn (by decide), m_rIe]
      rfl
    have s28 : S1.1 28 = nI 0 := by
      rw [hS1, m_rIn (by decide), m_rIn (by decide), m_rIn (by decide), m_rIe]
      rfl
    have s29 : S1.1 29 = nI A.2.1.1 := by
      rw [hS1, m_rIn (by decide), m_rIn (by decide), m_rIn (by decide), m_rIn (by decide), m_rIn (by decide), m_rIe]
    have s31 : S1.1 31 = nI 0 := by
      rw [hS1, m_rIn (by decide), m_rIn (by decide), m_rIe]
      rfl
    have s32 : S1.1 32 = nI 0 := by
      rw [hS1, m_rIn (by decide), m_rIe]
      rfl
    have s33 : S1.1 33 = nI 0 := by
      rw [hS1, m_rIe]
      rfl
    have hH1 : MH S1 A.1.2 A.1.1 := ⟨fun j hj => by rw [s2]; exact hS.1.2 j hj, hL, ok.2.1⟩
    have k0 : RuV S1 S1 A.1.1 A.2.1.1 0 0 0 [] := ⟨⟨s26, s27, s28⟩, s29, s31, s33, fun k hk => absurd hk (Nat.not_lt_zero _), fun _ _ _ _ _ => rfl, fun _ _ _ => rfl, rfl⟩
    have key := f180l hH1 (s35.trans hS.2.1.2.1) (by omega) s29 s30 13 0 0 0 [] [] S1 (by omega) rfl (by omega) (by omega) (by omega) (Nat.zero_le _) RuR_rfl k0 s32 (fun j hj => absurd hj (Nat.not_lt_zero _))
    refine ep_mono key ?_
    rintro ⟨z, Z⟩ ⟨⟨x1, x2⟩, x3, x4, x5, x6⟩
    have x1 : Z.1 35 = S.1 35 := x1.trans s35
    have x2 : Z.1 47 = S.1 47 := x2.trans s47
    have x3 : Z.1 26 = nI 0 := x3
    have x4 : ∀ q j, q ≠ 32 → ¬ (27 ≤ q ∧ q ≤ 31 ∧ lmI A.2.1.1 q j) → Z.2.1 q j = S.2.1 q j := fun q j a b => by
      rw [← s2]
      exact x4 q j a b
    have x5 : (ruA A).1 ≠ 0 → z = (-2) - nI (ruA A).1 ∧ Z.1 30 = nI A.2.1.1 := x5
    have x6 : (ruA A).1 = 0 → z = nI A.2.1.1 ∧ Z.1 30 = nI (A.2.1.1 + 1) ∧ Z.2.1 29 A.2.1.1 = nI (ruA A).2.length ∧ ∀ j, j < (ruA A).2.length → CdK Z A.2.1.1 j ((ruA A).2.getD j []) := x6
    by_cases h0 : (ruA A).1 = 0
    · obtain ⟨cs, c0, c12⟩ := u2 h0
      obtain ⟨v1, v2, v3, v4⟩ := x6 h0
      have eA : rulA A = ((0, A.1.2), (A.2.1.1 + 1, fun r => if r = A.2.1.1 then ruV (ruA A).2 else A.2.1.2 r), A.2.2) := (if_neg c6).trans (if_pos h0)
      have eR : rulR A = nI A.2.1.1 := (if_neg c6).trans (if_pos h0)
      rw [eA, eR]
      refine ⟨v1, RM_rul ok hS rfl ⟨x3, fun i hi => absurd hi (Nat.not_lt_zero _)⟩ v2 x1 x2 x4 (fun r hr => ?_)⟩
      show LMr Z r (if r = A.2.1.1 then ruV (ruA A).2 else A.2.1.2 r)
      by_cases hrr : r = A.2.1.1
      · rw [if_pos hrr]
        subst hrr
        exact LMr_is (by omega) c12 v3 v4 (Css_0 cs)
      · rw [if_neg hrr]
        have hr : r < A.2.1.1 + 1 := hr
        exact LMr_ne (hS.2.1.2.2 r (by omega)) (by omega) x4
    · obtain ⟨v1, v2⟩ := x5 h0
      have eA : rulA A = ((0, A.1.2), A.2) := (if_neg c6).trans (if_neg h0)
      have eR : rulR A = (-2) - nI (ruA A).1 := (if_neg c6).trans (if_neg h0)
      rw [eA, eR]
      exact ⟨v1, RM_rul ok hS rfl ⟨x3, fun i hi => absurd hi (Nat.not_lt_zero _)⟩ v2 x1 x2 x4 (fun r hr => LMr_ne (hS.2.1.2.2 r hr) hr x4)⟩
theorem OkD_nr {k nr nr' : Nat} {d : AD} (h : OkD k nr d) (hn : nr ≤ nr') : OkD k nr' d := ⟨h.1, h.2.1, h.2.2.1, h.2.2.2.1, Nat.le_trans h.2.2.2.2.1 hn, h.2.2.2.2.2⟩
theorem sm_rule {k : Nat} (A : AA) (ok : OkA k A) : ∃ r A', OkA (k + 1) A' ∧ CallX k (fun n => G56 n) A r A' ∧ CallM (fun n => F180 n) A r A' := by
  refine ⟨rulR A, rulA A, ?_, g56 ok, f180 ok⟩
  obtain ⟨a1, a2, a3, a4, a5⟩ := OkA_s ok
  unfold rulA
  by_cases c6 : 6 ≤ A.2.1.1
  · rw [if_pos c6]
    exact ⟨a1, a2, a3, a4, a5⟩
  · rw [if_neg c6]
    by_cases h0 : (ruA A).1 = 0
    · rw [if_pos h0]
      exact ⟨Nat.zero_le _, fun i hi => absurd hi (Nat.not_lt_zero _), (by show A.2.1.1 + 1 ≤ 6; omega), OkD_nr a4 (Nat.le_succ _), fun i d hd => OkD_nr (a5 i d hd) (Nat.le_succ _)⟩
    · rw [if_neg h0]
      exact ⟨Nat.zero_le _, fun i hi => absurd hi (Nat.not_lt_zero _), a3, a4, a5⟩
