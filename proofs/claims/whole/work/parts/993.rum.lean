/-! rules told: the reference reads values -/
def RuV (S0 S : mS) (L sl i e p : Nat) (pc : List TK) : Prop := (S.1 26 = nI L ∧ S.1 27 = nI i ∧ S.1 28 = nI e) ∧ S.1 29 = nI sl ∧ S.1 31 = nI pc.length ∧ S.1 33 = nI p ∧ (∀ k, k < pc.length → S.2.1 27 (300 * sl + k) = nI (pc.getD k (0, 0)).1 ∧ S.2.1 28 (300 * sl + k) = nI (pc.getD k (0, 0)).2) ∧ (∀ q, q ≠ 27 → q ≠ 28 → q ≠ 31 → q ≠ 33 → S.1 q = S0.1 q) ∧ (∀ q j, ¬ ((q = 27 ∨ q = 28) ∧ 300 * sl ≤ j ∧ j < 300 * sl + 300) → S.2.1 q j = S0.2.1 q j) ∧ S.2.2 = S0.2.2
/-- behind a fault -/
def RuE (S0 : mS) (L sl e : Nat) (S : mS) : Prop := ∃ pos p' pc', pos ≤ L ∧ RuV S0 S L sl pos e p' pc'
def RuO (S0 : mS) (L sl : Nat) (P0 : List TK) (res : PS) (z : Unit × mS) : Prop := (res.1 ≠ 0 → RuE S0 L sl res.1 z.2) ∧ (res.1 = 0 → RuV S0 z.2 L sl res.2.1 0 res.2.2.1 (P0 ++ res.2.2.2))
theorem wr_W : ∀ k, k < 11 → WrB (34 + 2 * k) (wdW.getD k []) = true := by decide +kernel
theorem wd_drop : ∀ k, k < 11 → wdW.drop k = wdW.getD k [] :: wdW.drop (k + 1) := by decide +kernel
theorem f191 {k : Nat} {S : mS} (h : k < 11) : Ev (fun n => F191 n (nI k) S) (34 + 2 * k, S) := by
  refine ev_succ (fun n => F191e0 n ..) ?_
  unfold F191b0
  have hc : k = 0 ∨ k = 1 ∨ k = 2 ∨ k = 3 ∨ k = 4 ∨ k = 5 ∨ k = 6 ∨ k = 7 ∨ k = 8 ∨ k = 9 ∨ k = 10 := by omega
  rcases hc with rfl | rfl | rfl | rfl | rfl | rfl | rfl | rfl | rfl | rfl | rfl
  · rw [if_neg (by decide), if_pos (by decide)]
    exact ev_ret
  · rw [if_neg (by decide), if_neg (by decide), if_pos (by decide)]
    exact ev_ret
  · rw [if_neg (by decide), if_neg (by decide), if_neg (by decide), if_pos (by decide)]
    exact ev_ret
  · rw [if_neg (by decide), if_neg (by decide), if_neg (by decide), if_neg (by decide), if_pos (by decide)]
    exact ev_ret
  · rw [if_neg (by decide), if_neg (by decide), if_neg (by decide), if_neg (by decide), if_neg (by decide), if_pos (by decide)]
    exact ev_ret
  · rw [if_neg (by decide), if_neg (by decide), if_neg (by decide), if_neg (by decide), if_neg (by decide), if_neg (by decide), if_pos (by decide)]
    exact ev_ret
  · rw [if_neg (by decide), if_neg (by decide), if_neg (by decide), if_neg (by decide), if_neg (by decide), if_neg (by decide), if_neg (by decide), if_pos (by decide)]
    exact ev_ret
  · rw [if_neg (by decide), if_neg (by decide), if_neg (by decide), if_neg (by decide), if_neg (by decide), if_neg (by decide), if_neg (by decide), if_neg (by decide), if_pos (by decide)]
    exact ev_ret
  · rw [if_neg (by decide), if_neg (by decide), if_neg (by decide), if_neg (by decide), if_neg (by decide), if_neg (by decide), if_neg (by decide), if_neg (by decide), if_neg (by decide), if_pos (by decide)]
    exact ev_ret
  · rw [if_neg (by decide), if_neg (by decide), if_neg (by decide), if_neg (by decide), if_neg (by decide), if_neg (by decide), if_neg (by decide), if_neg (by decide), if_neg (by decide), if_neg (by decide), if_pos (by decide)]
    exact ev_ret
  · rw [if_pos (by decide)]
    exact ev_ret
section Rm
variable {S0 S : mS} {f : Nat → Nat} {L sl i e p : Nat} {pc P0 cs : List TK}
theorem RuV_MY (h : RuV S0 S L sl i e p pc) : MY S S L i e := ⟨h.1.1, h.1.2.1, h.1.2.2, fun _ _ _ => rfl, rfl⟩
theorem RuV_MH (hH : MH S0 f L) (h : RuV S0 S L sl i e p pc) : MH S f L := ⟨fun j hj => by rw [h.2.2.2.2.2.2.1 26 j (fun z => by omega)]; exact hH.1 j hj, hH.2⟩
theorem RuV_my {S' : mS} {i' e' : Nat} (h : RuV S0 S L sl i e p pc) (m : MY S' S L i' e') : RuV S0 S' L sl i' e' p pc := by
  obtain ⟨_, h2, h3, h4, h5, h6, h7, h8⟩ := h
  obtain ⟨m1, m2, m3, m4, m5⟩ := m
  exact ⟨⟨m1, m2, m3⟩, by rw [m4 29 (by decide) (by decide)]; exact h2, by rw [m4 31 (by decide) (by decide)]; exact h3, by rw [m4 33 (by decide) (by decide)]; exact h4, fun k hk => by rw [m5]; exact h5 k hk, fun q a b c d => (m4 q a b).trans (h6 q a b c d), fun q j a => by rw [m5]; exact h7 q j a, by rw [m5]; exact h8⟩
theorem RuV_27 {i' : Nat} (h : RuV S0 S L sl i e p pc) : RuV S0 (m_sI S 27 (nI i')) L sl i' e p pc := RuV_my h (MY_7 (RuV_MY h))
theorem RuV_33 {p' : Nat} (h : RuV S0 S L sl i e p pc) : RuV S0 (m_sI S 33 (nI p')) L sl i e p' pc := by
  obtain ⟨⟨a1, a2, a3⟩, h2, h3, h4, h5, h6, h7, h8⟩ := h
  exact ⟨⟨by rw [m_rIn (by decide)]; exact a1, by rw [m_rIn (by decide)]; exact a2, by rw [m_rIn (by decide)]; exact a3⟩, by rw [m_rIn (by decide)]; exact h2, by rw [m_rIn (by decide)]; exact h3, m_rIe, h5, fun q a b c d => by rw [m_rIn d]; exact h6 q a b c d, h7, h8⟩
theorem f190 {t : TK} (hsl : sl < 6) (h : RuV S0 S L sl i 0 p pc) (hl : pc.length < 300) : Ep (fun n => F190 n (nI t.1) (nI t.2) S) (fun z => RuV S0 z.2 L sl i 0 p (pc ++ [t])) := by
  obtain ⟨⟨a1, a2, a3⟩, h2, h3, h4, h5, h6, h7, h8⟩ := h
  have e1 : am_if .ne (nI 0) = false := by decide
  have ei : (300 : Int32) * nI sl + nI pc.length = nI (300 * sl + pc.length) := by rw [L300, nI_mul, nI_add]
  have e2 : Int32.toNatClampNeg (nI (300 * sl + pc.length)) = 300 * sl + pc.length := nI_clamp (by omega)
  have g1 : (nI (300 * sl + pc.length) < 0 ∨ 1800 ≤ 300 * sl + pc.length) = False := gdN (by omega) (by decide)
  refine ep_succ (fun n => F190e0 n ..) ?_
  simp only [F190b0, a3, e1, Bool.false_eq_true, if_false, m_rA1, h2, h3, ei, e2, g1, not_false_eq_true, if_true, nI_p1]
  refine ep_ret ⟨⟨?_, ?_, ?_⟩, ?_, ?_, ?_, fun k hk => ?_, fun q b1 b2 b3 b4 => ?_, fun q j hq => ?_, h8⟩
  · rw [m_rIn (by decide)]
    exact a1
  · rw [m_rIn (by decide)]
    exact a2
  · rw [m_rIn (by decide)]
    exact a3
  · rw [m_rIn (by decide)]
    exact h2
  · rw [m_rIe, len1]
  · rw [m_rIn (by decide)]
    exact h4
  · rw [len1] at hk
    show (m_sA (m_sA S 27 (300 * sl + pc.length) (nI t.1)) 28 (300 * sl + pc.length) (nI t.2)).2.1 27 (300 * sl + k) = _ ∧ (m_sA (m_sA S 27 (300 * sl + pc.length) (nI t.1)) 28 (300 * sl + pc.length) (nI t.2)).2.1 28 (300 * sl + k) = _
    rw [m_rAn (by decide)]
    by_cases ek : k = pc.length
    · subst ek
      have eg : (pc ++ [t]).getD pc.length (0, 0) = t := by
        rw [List.getD_eq_getElem?_getD, List.getElem?_append_right (Nat.le_refl _), Nat.sub_self]
        rfl
      rw [m_rAe, m_rAe, eg]
      exact ⟨rfl, rfl⟩
    · have eg : (pc ++ [t]).getD k (0, 0) = pc.getD k (0, 0) := by rw [List.getD_eq_getElem?_getD, List.getElem?_append_left (by omega), ← List.getD_eq_getElem?_getD]
      rw [m_rAi (by omega), m_rAi (by omega), m_rAn (by decide), eg]
      exact h5 k (by omega)
  · rw [m_rIn b3]
    exact h6 q b1 b2 b3 b4
  · show (m_sA (m_sA S 27 (300 * sl + pc.length) (nI t.1)) 28 (300 * sl + pc.length) (nI t.2)).2.1 q j = _
    by_cases c28 : q = 28
    · rw [c28] at hq ⊢
      have : j ≠ 300 * sl + pc.length := by omega
      rw [m_rAi this, m_rAn (by decide)]
      exact h7 28 j hq
    · rw [m_rAn c28]
      by_cases c27 : q = 27
      · rw [c27] at hq ⊢
        have : j ≠ 300 * sl + pc.length := by omega
        rw [m_rAi this]
        exact h7 27 j hq
      · rw [m_rAn c27]
        exact h7 q j hq
theorem f190n {x y : Int32} (he : e ≠ 0) (he2 : e < 2 ^ 31) (h : RuV S0 S L sl i e p pc) : Ep (fun n => F190 n x y S) (fun z => RuV S0 z.2 L sl i e p pc) := by
  have e1 : am_if .ne (nI e) = true := by rw [if_ne he2, decide_eq_false he]; rfl
  have a3 := h.1.2.2
  refine ep_succ (fun n => F190e0 n ..) ?_
  simp only [F190b0, a3, e1, if_true]
  exact ep_ret h
theorem f189 {pl : Nat} (h : RuV S0 S L sl i 0 p pc) (hp : p ≤ 60) : Ep (fun n => F189 n (nI pl) S) (fun z => (p < 60 → RuV S0 z.2 L sl i 0 (p + 1) pc) ∧ (60 ≤ p → RuV S0 z.2 L sl i (4 + 8 * pl) (p + 1) pc)) := by
  have h4 : S.1 33 = nI p := h.2.2.2.1
  have e60 : am_ic .ne (nI p) 60 = !decide (p = 60) := ic_ne (b := 60) (by omega) (by decide)
  refine ep_succ (fun n => F189e0 n ..) ?_
  simp only [F189b0, h4]
  by_cases c : p = 60
  · have e60 : am_ic .ne (nI p) 60 = false := by rw [e60, decide_eq_true c]; rfl
    simp only [e60, Bool.false_eq_true, if_false, L3]
    refine ep_bind (f165 (RuV_MY h)) ?_
    rintro ⟨_, S1⟩ a
    have a : MY S1 S L i (1 + 8 * pl + 3) := a
    have r1 := RuV_my h a
    have h4' : S1.1 33 = nI p := r1.2.2.2.1
    simp only [h4', nI_p1]
    refine ep_ret ⟨fun z => absurd z (by omega), fun _ => ?_⟩
    rw [show 4 + 8 * pl = 1 + 8 * pl + 3 by omega]
    exact RuV_33 r1
  · have e60 : am_ic .ne (nI p) 60 = true := by rw [e60, decide_eq_false c]; rfl
    simp only [e60, if_true, nI_p1]
    exact ep_ret ⟨fun _ => RuV_33 h, fun z => absurd z (by omega)⟩
theorem f189n {x : Int32} (he : e ≠ 0) (he2 : e < 2 ^ 31) (h : RuV S0 S L sl i e p pc) : Ep (fun n => F189 n x S) (fun z => RuV S0 z.2 L sl i e (p + 1) pc) := by
  have h4 : S.1 33 = nI p := h.2.2.2.1
  refine ep_succ (fun n => F189e0 n ..) ?_
  simp only [F189b0, h4]
  cases e60 : am_ic .ne (nI p) 60 with
  | false =>
    simp only [Bool.false_eq_true, if_false]
    refine ep_bind (f165n he he2 (RuV_MY h)) ?_
    rintro ⟨_, S1⟩ a
    have a : MY S1 S L i e := a
    have r1 := RuV_my h a
    have h4' : S1.1 33 = nI p := r1.2.2.2.1
    simp only [h4', nI_p1]
    exact ep_ret (RuV_33 r1)
  | true =>
    simp only [if_true, nI_p1]
    exact ep_ret (RuV_33 h)
/-- digits, once a fault is found -/
theorem f170n (hH : MH S0 f L) {x y : Int32} (he : e ≠ 0) (he2 : e < 2 ^ 31) : ∀ (d i : Nat) (v : Int32) (S : mS), i + d = L → MY S S0 L i e → Ep (fun n => F170f n 25 x y v S) (fun z => ∃ i', i' ≤ L ∧ MY z.2 S0 L i' e) := by
  intro d
  induction d with
  | zero =>
    intro i v S hd h
    have gd := f171 hH (show i ≤ L by omega) h
    have nd : decide (i < L ∧ 48 ≤ f i ∧ f i ≤ 57) = false := decide_eq_false (fun z => by omega)
    rw [nd] at gd
    refine ep_succ (fun n => F170e25 n ..) ?_
    simp only [F170b25]
    refine ep_bv gd ?_
    have e1 : am_if .eq (b2i false) = true := by decide
    simp only [e1, if_true]
    cases am_ic .gt (S.1 27 - y) 5 with
    | true =>
      simp only [if_true]
      refine ep_bind (f165n he he2 h) ?_
      rintro ⟨_, S1⟩ a
      exact ep_ret ⟨i, by omega, a⟩
    | false =>
      simp only [Bool.false_eq_true, if_false]
      cases am_ic .le v x with
      | true =>
        simp only [if_true]
        exact ep_ret ⟨i, by omega, h⟩
      | false =>
        simp only [Bool.false_eq_true, if_false]
        refine ep_bind (f165n he he2 h) ?_
        rintro ⟨_, S1⟩ a
        exact ep_ret ⟨i, by omega, a⟩
  | succ d ih =>
    intro i v S hd h
    have gd := f171 hH (show i ≤ L by omega) h
    refine ep_succ (fun n => F170e25 n ..) ?_
    simp only [F170b25]
    refine ep_bv gd ?_
    have h2 : S.1 27 = nI i := h.2.1
    cases hc : decide (i < L ∧ 48 ≤ f i ∧ f i ≤ 57) with
    | false =>
      have e1 : am_if .eq (b2i false) = true := by decide
      simp only [e1, if_true]
      cases am_ic .gt (S.1 27 - y) 5 with
      | true =>
        simp only [if_true]
        refine ep_bind (f165n he he2 h) ?_
        rintro ⟨_, S1⟩ a
        exact ep_ret ⟨i, by omega, a⟩
      | false =>
        simp only [Bool.false_eq_true, if_false]
        cases am_ic .le v x with
        | true =>
          simp only [if_true]
          exact ep_ret ⟨i, by omega, h⟩
        | false =>
          simp only [Bool.false_eq_true, if_false]
          refine ep_bind (f165n he he2 h) ?_
          rintro ⟨_, S1⟩ a
          exact ep_ret ⟨i, by omega, a⟩
    | true =>
      have e1 : am_if .eq (b2i true) = false := by decide
      simp only [e1, Bool.false_eq_true, if_false]
      cases am_ic .ge (S.1 27 - y) 5 with
      | true =>
        simp only [if_true, h2, nI_p1]
        exact ih (i + 1) v _ (by omega) (MY_7 h)
      | false =>
        simp only [Bool.false_eq_true, if_false]
        refine ep_bv (f162 hH (by omega) h) ?_
        simp only [h2, nI_p1]
        exact ih (i + 1) _ _ (by omega) (MY_7 h)
theorem f188w (hH : MH S0 f L) (h35 : S0.1 35 = nI 11) (hsl : sl < 6) (hi : i ≤ L) (he2 : e < 2 ^ 31) (h : RuV S0 S L sl i e p pc) {Q : Unit × mS → Prop} (q0 : wiF f L i wdW 0 = none → ∀ S', MY S' S L i (if e = 0 then 1 + 8 * i else e) → Q ((), S')) (q1 : ∀ r, wiF f L i wdW 0 = some r → r.1 < 11 → i + r.2 ≤ L → Ep (fun n => F189 n (nI i) S) (fun z => Ep (fun n => F190 n 1 (nI r.1) (m_sI z.2 27 (z.2.1 27 + nI r.2))) (fun z34 => Q ((), z34.2)))) : ∀ (d k : Nat), k + d = 11 → wiF f L i (wdW.drop k) k = wiF f L i wdW 0 → Ep (fun n => F188f n 37 (nI i) (nI k) S) Q := by
  have h35' : S.1 35 = nI 11 := by
    rw [h.2.2.2.2.2.1 35 (by decide) (by decide) (by decide) (by decide)]
    exact h35
  have hMH := RuV_MH hH h
  have hMY := RuV_MY h
  intro d
  induction d with
  | zero =>
    intro k hk hw
    have ek : k = 11 := by omega
    subst ek
    have e1 : am_ic .ge (nI 11) (nI 11) = true := by decide
    have e2 : am_ic .ne (nI 11) (nI 11) = false := by decide
    have hn : wiF f L i wdW 0 = none := by
      rw [← hw]
      rfl
    refine ep_succ (fun n => F188e37 n ..) ?_
    simp only [F188b37, h35', e1, e2, if_true, Bool.false_eq_true, if_false, L0]
    by_cases he : e = 0
    · subst he
      refine ep_bind (f165 hMY) ?_
      rintro ⟨_, S1⟩ a
      refine ep_ret (q0 hn S1 ?_)
      rw [if_pos rfl]
      exact a
    · refine ep_bind (f165n he he2 hMY) ?_
      rintro ⟨_, S1⟩ a
      refine ep_ret (q0 hn S1 ?_)
      rw [if_neg he]
      exact a
  | succ d ih =>
    intro k hk hw
    have hk11 : k < 11 := by omega
    have e1 : am_ic .ge (nI k) (nI 11) = false := by rw [ic_ge (by omega) (by decide), decide_eq_false (by omega)]
    have e2 : am_ic .ne (nI k) (nI 11) = true := by rw [ic_ne (by omega) (by decide), decide_eq_false (by omega)]; rfl
    have hwr := wr_W k hk11
    obtain ⟨w0, w4, w5⟩ := Wr_is hwr
    obtain ⟨w1, w2, w3⟩ := Wc_is w0
    rw [wd_drop k hk11] at hw
    unfold wiF at hw
    refine ep_succ (fun n => F188e37 n ..) ?_
    simp only [F188b37, h35', e1, Bool.false_eq_true, if_false]
    refine ep_bv (f191 hk11) ?_
    refine ep_bv (f164 hMH hwr hi hMY) ?_
    cases hm : wmB f L i (wdW.getD k []) with
    | true =>
      rw [if_pos hm] at hw
      have b1 : am_if .ne (b2i true) = true := by decide
      simp only [b1, if_true, h35', e2]
      have hl : i + (wdW.getD k []).length ≤ L := wm_len hm
      have := q1 _ hw.symm hk11 hl
      refine ep_bind this ?_
      rintro ⟨_, S1⟩ hz
      refine ep_bv (f191 hk11) ?_
      simp only [w1, if_true, w4]
      refine ep_bind hz ?_
      rintro ⟨_, S2⟩ hq
      exact ep_ret hq
    | false =>
      rw [if_neg (by rw [hm]; decide)] at hw
      have b1 : am_if .ne (b2i false) = false := by decide
      simp only [b1, Bool.false_eq_true, if_false, nI_p1]
      exact ih (k + 1) (by omega) hw
theorem dg_t (hi : i ≤ L) : decide (i < L ∧ 48 ≤ f i ∧ f i ≤ 57) = !decide (dg f L i = 0) := by
  obtain ⟨b1, b2, b3⟩ := dg_b (f := f) hi
  by_cases d0 : dg f L i = 0
  · rw [decide_eq_true d0]
    refine decide_eq_false (fun z => ?_)
    have := b3 (by omega)
    rw [d0, Nat.add_zero] at this
    exact this z.2
  · rw [decide_eq_false d0]
    have := b2 0 (by omega)
    rw [Nat.add_zero] at this
    exact decide_eq_true ⟨by omega, this⟩
theorem f188 (hH : MH S0 f L) (h35 : S0.1 35 = nI 11) (hsl : sl < 6) (hi : i ≤ L) (hp : p ≤ 60) (hl : (P0 ++ cs).length < 300) (h : RuV S0 S L sl i 0 p (P0 ++ cs)) : Ep (fun n => F188 n S) (RuO S0 L sl P0 (vaF f L i p cs)) := by
  have hL := hH.2.1
  have hb := bk_b (f := f) hi
  have hn := nm_b (f := f) hi
  have hd := dg_b (f := f) hb.2.1
  obtain ⟨res, hres⟩ : ∃ res, res = vaF f L i p cs := ⟨_, rfl⟩
  rw [← hres]
  unfold vaF at hres
  refine ep_succ (fun n => F188e0 n ..) ?_
  simp only [F188b0]
  refine ep_bind (f161 (RuV_MH hH h) hi (RuV_MY h)) ?_
  rintro ⟨_, S1⟩ a
  have a : MY S1 S L (bk f L i) 0 := a
  have r1 := RuV_my h a
  have t7 : S1.1 27 = nI (bk f L i) := a.2.1
  refine ep_bv (f171 (RuV_MH hH r1) hb.2.1 (RuV_MY r1)) ?_
  rw [dg_t hb.2.1]
  by_cases d0 : dg f L (bk f L i) = 0
  · rw [if_neg (fun z => z d0)] at hres
    have e1 : am_if .eq (b2i (!decide (dg f L (bk f L i) = 0))) = true := by rw [decide_eq_true d0]; decide
    simp only [e1, if_true, t7, L0]
    refine f188w hH h35 hsl hb.2.1 (by decide) r1 (fun hn' S' m => ?_) (fun r hr r11 rl => ?_) 11 0 (by omega) rfl
    · rw [hn'] at hres
      have hres : res = (1 + 8 * bk f L i, bk f L i, p, cs) := hres
      rw [if_pos rfl] at m
      rw [hres]
      exact ⟨fun _ => ⟨_, _, _, hb.2.1, RuV_my r1 m⟩, fun z => absurd z (show ¬ 1 + 8 * bk f L i = 0 by omega)⟩
    · rw [hr] at hres
      have hres : res = if 60 ≤ p then (4 + 8 * bk f L i, bk f L i + r.2, p, cs) else (0, bk f L i + r.2, p + 1, cs ++ [(1, r.1)]) := hres
      obtain ⟨Z, z1, k1, k2⟩ := f189 (pl := bk f L i) r1 hp
      refine ⟨Z, z1, ?_⟩
      by_cases h60 : 60 ≤ p
      · rw [if_pos h60] at hres
        have k := k2 h60
        have t7' : Z.2.1 27 = nI (bk f L i) := k.1.2.1
        rw [t7', nI_add]
        refine ep_mono (f190n (by omega) (by omega) (RuV_27 (i' := bk f L i + r.2) k)) (fun z hz => ?_)
        rw [hres]
        exact ⟨fun _ => ⟨_, _, _, rl, hz⟩, fun z => absurd z (show ¬ 4 + 8 * bk f L i = 0 by omega)⟩
      · rw [if_neg h60] at hres
        have k := k1 (by omega)
        have t7' : Z.2.1 27 = nI (bk f L i) := k.1.2.1
        rw [t7', nI_add]
        refine ep_mono (f190 (t := (1, r.1)) hsl (RuV_27 (i' := bk f L i + r.2) k) hl) (fun z hz => ?_)
        rw [hres]
        refine ⟨fun z => absurd rfl z, fun _ => ?_⟩
        show RuV S0 z.2 L sl (bk f L i + r.2) 0 (p + 1) (P0 ++ (cs ++ [(1, r.1)]))
        rw [← List.append_assoc]
        exact hz
  · rw [if_pos d0] at hres
    have e1 : am_if .eq (b2i (!decide (dg f L (bk f L i) = 0))) = false := by rw [decide_eq_false d0]; decide
    simp only [e1, Bool.false_eq_true, if_false, t7]
    by_cases d5 : dg f L (bk f L i) ≤ 5
    · rw [nm_v d0 d5] at hres
      have hres : res = if 60 ≤ p then (4 + 8 * bk f L i, bk f L i + dg f L (bk f L i), p, cs) else (0, bk f L i + dg f L (bk f L i), p + 1, cs ++ [(0, vF f (bk f L i) (dg f L (bk f L i)))]) := hres
      refine ep_bind (R := fun z => z.1 = nI (vF f (bk f L i) (dg f L (bk f L i))) ∧ MY z.2 S1 L (bk f L i + dg f L (bk f L i)) 0) (f170 (RuV_MH hH r1) hb.2.1 (RuV_MY r1) (fun z => absurd z d0) (fun z => absurd z (by omega)) (fun _ _ S' m => ⟨rfl, m⟩)) ?_
      rintro ⟨z6, S2⟩ ⟨m1, m2⟩
      have m1 : z6 = nI (vF f (bk f L i) (dg f L (bk f L i))) := m1
      have m2 : MY S2 S1 L (bk f L i + dg f L (bk f L i)) 0 := m2
      subst m1
      have r2 := RuV_my r1 m2
      refine ep_bind (f189 (pl := bk f L i) r2 hp) ?_
      rintro ⟨_, S3⟩ ⟨k1, k2⟩
      by_cases h60 : 60 ≤ p
      · rw [if_pos h60] at hres
        refine ep_bind (f190n (by omega) (by omega) (k2 h60)) ?_
        rintro ⟨_, S4⟩ k
        rw [hres]
        exact ep_ret ⟨fun _ => ⟨_, _, _, hd.1, k⟩, fun z => absurd z (show ¬ 4 + 8 * bk f L i = 0 by omega)⟩
      · rw [if_neg h60] at hres
        refine ep_bind (f190 (t := (0, vF f (bk f L i) (dg f L (bk f L i)))) hsl (k1 (by omega)) hl) ?_
        rintro ⟨_, S4⟩ k
        have k : RuV S0 S4 L sl (bk f L i + dg f L (bk f L i)) 0 (p + 1) (P0 ++ cs ++ [(0, vF f (bk f L i) (dg f L (bk f L i)))]) := k
        rw [hres]
        refine ep_ret ⟨fun z => absurd rfl z, fun _ => ?_⟩
        show RuV S0 S4 L sl (bk f L i + dg f L (bk f L i)) 0 (p + 1) (P0 ++ (cs ++ [(0, vF f (bk f L i) (dg f L (bk f L i)))]))
        rw [← List.append_assoc]
        exact k
    · rw [nm_5 (by omega)] at hres
      have hne : (2 + 8 * bk f L i) ≠ 0 := by omega
      have hres : res = (2 + 8 * bk f L i, bk f L i + dg f L (bk f L i), p, cs) := hres.trans (if_pos hne)
      refine ep_bind (R := fun z => MY z.2 S1 L (bk f L i + dg f L (bk f L i)) (2 + 8 * bk f L i)) (f170 (RuV_MH hH r1) hb.2.1 (RuV_MY r1) (fun z => absurd z d0) (fun _ _ S' m => m) (fun _ z => absurd z (by omega))) ?_
      rintro ⟨z6, S2⟩ m2
      have m2 : MY S2 S1 L (bk f L i + dg f L (bk f L i)) (2 + 8 * bk f L i) := m2
      have r2 := RuV_my r1 m2
      refine ep_bind (f189n hne (by omega) r2) ?_
      rintro ⟨_, S3⟩ k
      refine ep_bind (f190n hne (by omega) k) ?_
      rintro ⟨_, S4⟩ k'
      rw [hres]
      exact ep_ret ⟨fun _ => ⟨_, _, _, hd.1, k'⟩, fun z => absurd z hne⟩
theorem f188n (hH : MH S0 f L) (h35 : S0.1 35 = nI 11) (hsl : sl < 6) (he : e ≠ 0) (he2 : e < 2 ^ 31) (hi : i ≤ L) (h : RuV S0 S L sl i e p pc) : Ep (fun n => F188 n S) (fun z => RuE S0 L sl e z.2) := by
  have hL := hH.2.1
  have hb := bk_b (f := f) hi
  refine ep_succ (fun n => F188e0 n ..) ?_
  simp only [F188b0]
  refine ep_bind (f161 (RuV_MH hH h) hi (RuV_MY h)) ?_
  rintro ⟨_, S1⟩ a
  have a : MY S1 S L (bk f L i) e := a
  have r1 := RuV_my h a
  have t7 : S1.1 27 = nI (bk f L i) := a.2.1
  have gd := f171 (RuV_MH hH r1) hb.2.1 (RuV_MY r1)
  refine ep_bv gd ?_
  cases hdd : decide (bk f L i < L ∧ 48 ≤ f (bk f L i) ∧ f (bk f L i) ≤ 57) with
  | false =>
    have e1 : am_if .eq (b2i false) = true := by decide
    simp only [e1, if_true, t7, L0]
    refine f188w hH h35 hsl hb.2.1 he2 r1 (fun hn' S' m => ?_) (fun r hr r11 rl => ?_) 11 0 (by omega) rfl
    · rw [if_neg he] at m
      exact ⟨_, _, _, hb.2.1, RuV_my r1 m⟩
    · obtain ⟨Z, z1, z2⟩ := f189n (x := nI (bk f L i)) he he2 r1
      refine ⟨Z, z1, ?_⟩
      have t7' : Z.2.1 27 = nI (bk f L i) := z2.1.2.1
      show Ep (fun n => F190 n 1 (nI r.1) (m_sI Z.2 27 (Z.2.1 27 + nI r.2))) (fun z34 => RuE S0 L sl e z34.2)
      rw [t7', nI_add]
      obtain ⟨Y, y1, y2⟩ := f190n (x := 1) (y := nI r.1) he he2 (RuV_27 (i' := bk f L i + r.2) z2)
      exact ⟨Y, y1, _, _, _, rl, y2⟩
  | true =>
    have e1 : am_if .eq (b2i true) = false := by decide
    simp only [e1, Bool.false_eq_true, if_false, t7]
    have g170 : Ep (fun n => F170 n 99999 S1) (fun z => ∃ i', i' ≤ L ∧ MY z.2 S1 L i' e) := by
      refine ep_succ (fun n => F170e0 n ..) ?_
      simp only [F170b0]
      refine ep_bv gd ?_
      rw [hdd]
      have e2 : am_if .ne (b2i true) = true := by decide
      simp only [e2, if_true]
      exact f170n (RuV_MH hH r1) he he2 (L - bk f L i) (bk f L i) _ S1 (by omega) (RuV_MY r1)
    refine ep_bind g170 ?_
    rintro ⟨z6, S2⟩ ⟨i', hi', m2⟩
    have r2 := RuV_my r1 m2
    refine ep_bind (f189n he he2 r2) ?_
    rintro ⟨_, S3⟩ k
    refine ep_bind (f190n he he2 k) ?_
    rintro ⟨_, S4⟩ k'
    exact ep_ret ⟨_, _, _, hi', k'⟩
end Rm
