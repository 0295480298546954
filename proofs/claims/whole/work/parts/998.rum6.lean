/-! rules told: the reference, a clause -/
/-- all but the rule's own slot stays -/
def RuR (S0 S : mS) (sl : Nat) : Prop := (∀ q, q ≠ 27 → q ≠ 28 → q ≠ 31 → q ≠ 33 → q ≠ 32 → q ≠ 34 → S.1 q = S0.1 q) ∧ (∀ q j, q ≠ 32 → ¬ (27 ≤ q ∧ q ≤ 31 ∧ lmI sl q j) → S.2.1 q j = S0.2.1 q j) ∧ S.2.2 = S0.2.2
/-- behind a fault -/
def RuF (S0 S : mS) (L sl e : Nat) : Prop := RuR S0 S sl ∧ S.1 26 = nI L ∧ (∃ pos, pos ≤ L + 1 ∧ S.1 27 = nI pos) ∧ S.1 28 = nI e
/-- clause j, somewhere in the code P -/
def OfK (S : mS) (sl : Nat) (P : List TK) (j : Nat) (c : List TK) : Prop := ∃ a, S.2.1 30 (12 * sl + j) = nI a ∧ S.2.1 31 (12 * sl + j) = nI (a + c.length) ∧ a + c.length ≤ P.length ∧ ∀ k, k < c.length → P.getD (a + k) (0, 0) = c.getD k (0, 0)
section Rr
variable {S0 S S1 S2 : mS} {f : Nat → Nat} {L sl i e p : Nat} {P : List TK}
theorem RuR_rfl : RuR S S sl := ⟨fun _ _ _ _ _ _ _ => rfl, fun _ _ _ _ => rfl, rfl⟩
theorem RuR_tr (h1 : RuR S0 S1 sl) (h2 : RuR S1 S2 sl) : RuR S0 S2 sl := ⟨fun q a b c d x y => (h2.1 q a b c d x y).trans (h1.1 q a b c d x y), fun q j a b => (h2.2.1 q j a b).trans (h1.2.1 q j a b), h2.2.2.trans h1.2.2⟩
theorem RuR_my {i e : Nat} (m : MY S2 S1 L i e) : RuR S1 S2 sl := ⟨fun q a b _ _ _ _ => m.2.2.2.1 q a b, fun q j _ _ => by rw [m.2.2.2.2], by rw [m.2.2.2.2]⟩
theorem lm_27 {q j : Nat} (h : ¬ (27 ≤ q ∧ q ≤ 31 ∧ lmI sl q j)) : ¬ ((q = 27 ∨ q = 28) ∧ 300 * sl ≤ j ∧ j < 300 * sl + 300) := fun z => h ⟨by omega, by omega, fun _ => z.2, fun w => by omega, fun w => by omega⟩
theorem RuR_x (h : RuX S1 L sl e S2) : RuR S1 S2 sl := ⟨h.2.1, fun q j a b => h.2.2.1 q j a (lm_27 b), h.2.2.2⟩
theorem RuR_s {dp : Nat} {K : List Nat} (h : RuS S1 S2 L sl i e p P dp K) : RuR S1 S2 sl := ⟨h.2.2.2.2.1, fun q j a b => h.2.2.2.2.2.1 q j a (lm_27 b), h.2.2.2.2.2.2⟩
theorem RuR_A {q0 n : Nat} {x : Int32} (hq : q0 = 30 ∨ q0 = 31) (hn : n < 12) : RuR S (m_sA S q0 (12 * sl + n) x) sl := by
  refine ⟨fun _ _ _ _ _ _ _ => rfl, fun q j a b => ?_, rfl⟩
  by_cases hqq : q = q0
  · subst hqq
    have hj : j ≠ 12 * sl + n := fun z => b ⟨by omega, by omega, fun w => by omega, fun w => by omega, fun w => by omega⟩
    exact m_rAi hj
  · rw [m_rAn hqq]
theorem RuR_7 {x : Int32} : RuR S (m_sI S 27 x) sl := ⟨fun q a _ _ _ _ _ => m_rIn a, fun _ _ _ _ => rfl, rfl⟩
theorem RuR_MH (hH : MH S0 f L) (h : RuR S0 S sl) : MH S f L := ⟨fun j hj => by rw [h.2.1 26 j (by decide) (fun z => by omega)]; exact hH.1 j hj, hH.2⟩
theorem RuV_2 {S' : mS} (h : RuV S1 S L sl i e p P) (h1 : S'.1 = S.1) (h2 : ∀ q j, q = 27 ∨ q = 28 → S'.2.1 q j = S.2.1 q j) : RuV S' S' L sl i e p P := by
  obtain ⟨⟨a1, a2, a3⟩, b1, b2, b3, b4, _, _, _⟩ := h
  refine ⟨⟨by rw [h1]; exact a1, by rw [h1]; exact a2, by rw [h1]; exact a3⟩, by rw [h1]; exact b1, by rw [h1]; exact b2, by rw [h1]; exact b3, fun k hk => ?_, fun _ _ _ _ _ => rfl, fun _ _ _ => rfl, rfl⟩
  rw [h2 27 _ (Or.inl rfl), h2 28 _ (Or.inr rfl)]
  exact b4 k hk
/-- a clause's test -/
theorem f182 (hH : MH S f L) (h35 : S.1 35 = nI 11) (hsl : sl < 6) (hi : i ≤ L) (hp : p ≤ 60) (hlen : 3 * P.length ≤ 6 * p + i) (h : RuV S S L sl i 0 p P) (h32 : S.1 32 = nI 0) : Ep (fun n => F182 n S) (fun z => ((prF f L (2 * L + 3) false 0 false false i p []).1 ≠ 0 → RuX S L sl (prF f L (2 * L + 3) false 0 false false i p []).1 z.2) ∧ ((prF f L (2 * L + 3) false 0 false false i p []).1 = 0 → RuS S z.2 L sl (prF f L (2 * L + 3) false 0 false false i p []).2.1 0 (prF f L (2 * L + 3) false 0 false false i p []).2.2.1 (P ++ (prF f L (2 * L + 3) false 0 false false i p []).2.2.2) 0 [])) := by
  have e0 : am_if .eq 0 = true := by decide
  have e12 : am_ic .ne (topI []) 12 = true := by
    show am_ic .ne (-1) 12 = true
    decide
  have h0 : RuS S (m_sI S 34 (nI 0)) L sl i 0 p (P ++ []) 0 [] := by
    rw [List.append_nil]
    exact ⟨RuV_cp h (fun q a b => m_rIn b) (fun _ _ _ => rfl), by rw [m_rIn (by decide)]; exact h32, m_rIe, trivial, fun q a b c d x y => m_rIn y, fun _ _ _ _ => rfl, rfl⟩
  refine ep_succ (fun n => F182e0 n ..) ?_
  simp only [F182b0, L0]
  refine (mt_all (P0 := P) hH h35 hsl (2 * L + 3)).2 0 false false i p [] [] (m_sI S 34 (nI 0)) _ (by omega) (by omega) hp hi (by show 3 * (P.length + 0 + 0 + 0) ≤ _; omega) (by show (0 : Nat) ≤ i; omega) (Or.inl rfl) h0 (fun r0 S' hS' => ⟨fun _ => hS', fun z => absurd z r0⟩) (fun r0 _ S' hS' => ?_)
  unfold F182x
  refine ep_bv (f193 hS' (by show (0 : Nat) ≤ 401; omega)) ?_
  simp only [e12, if_true]
  refine ep_succ (fun n => F182e9 n ..) ?_
  simp only [F182_w, e0, if_true]
  exact ep_ret ⟨fun z => absurd r0 z, fun _ => hS'⟩
theorem f161x (hH : MH S f L) (h26 : S.1 26 = nI L) (h27 : ∃ pos, pos ≤ L + 1 ∧ S.1 27 = nI pos) (h28 : S.1 28 = nI e) : Ep (fun n => F161 n S) (fun z => ∃ pos, MY z.2 S L pos e) := by
  obtain ⟨pos, hp, h27⟩ := h27
  have hL := hH.2.1
  by_cases hpl : pos ≤ L
  · exact ep_mono (f161 hH hpl (⟨h26, h27, h28, fun _ _ _ => rfl, rfl⟩ : MY S S L pos e)) (fun z hz => ⟨bk f L pos, hz⟩)
  · have e1 : am_ic .ge (nI pos) (nI L) = true := by rw [ic_ge (by omega) (by omega), decide_eq_true (by omega)]
    have e162 : Ev (fun n => F162 n S) (-1, S) := by
      refine ev_succ (fun n => F162e0 n ..) ?_
      simp only [F162b0, h26, h27, e1, if_true]
      exact ev_ret
    have e32 : am_ic .ne (-1) 32 = true := by decide
    refine ep_succ (fun n => F161e0 n ..) ?_
    simp only [F161b0]
    refine ep_bv e162 ?_
    simp only [e32, if_true]
    exact ep_ret ⟨pos, h26, h27, h28, fun _ _ _ => rfl, rfl⟩
theorem f178x (hH : MH S f L) (he : e ≠ 0) (he2 : e < 2 ^ 31) (h26 : S.1 26 = nI L) (h27 : ∃ pos, pos ≤ L + 1 ∧ S.1 27 = nI pos) (h28 : S.1 28 = nI e) : Ep (fun n => F178 n S) (fun z => z.1 = nI 0 ∧ ∃ pos, MY z.2 S L pos e) := by
  refine ep_succ (fun n => F178e0 n ..) ?_
  simp only [F178b0]
  refine ep_bind (f161x hH h26 h27 h28) ?_
  rintro ⟨_, S1⟩ ⟨pos, m⟩
  have m : MY S1 S L pos e := m
  have t7 : S1.1 27 = nI pos := m.2.1
  have e1 : am_if .ne (S1.1 28) = true := by rw [m.2.2.1, if_ne he2, decide_eq_false he]; rfl
  simp only [e1, if_true, t7, nI_p1]
  exact ep_ret ⟨rfl, pos + 1, MY_7 m⟩
/-- a clause -/
theorem f181 {n : Nat} (hH : MH S f L) (h35 : S.1 35 = nI 11) (hsl : sl < 6) (hn : n ≤ 12) (hi : i ≤ L) (hp : p ≤ 60) (hlen : 3 * P.length ≤ 6 * p + i) (h : RuV S S L sl i 0 p P) (h32 : S.1 32 = nI 0) : Ep (fun N => F181 N (nI n) S) (fun z => (wmB f L (bk f L i) wJoin = false → RuF S z.2 L sl (1 + 8 * bk f L i)) ∧ (wmB f L (bk f L i) wJoin = true → n = 12 → RuF S z.2 L sl (5 + 8 * bk f L i)) ∧ (wmB f L (bk f L i) wJoin = true → n ≠ 12 → (rclF f L i p).1 ≠ 0 → RuF S z.2 L sl (rclF f L i p).1) ∧ (wmB f L (bk f L i) wJoin = true → n ≠ 12 → (rclF f L i p).1 = 0 → RuR S z.2 sl ∧ RuV z.2 z.2 L sl (rclF f L i p).2.1 0 (rclF f L i p).2.2.1 (P ++ (rclF f L i p).2.2.2) ∧ z.2.1 32 = nI 0 ∧ z.2.2.1 30 (12 * sl + n) = nI P.length ∧ z.2.2.1 31 (12 * sl + n) = nI (P.length + (rclF f L i p).2.2.2.length) ∧ ∀ q j, q = 30 ∨ q = 31 → j < n → z.2.2.1 q (12 * sl + j) = S.2.1 q (12 * sl + j))) := by
  have hL := hH.2.1
  have hb := bk_b (f := f) hi
  refine ep_succ (fun n => F181e0 n ..) ?_
  simp only [F181b0]
  refine ep_bind (f161 hH hi (RuV_MY h)) ?_
  rintro ⟨_, S1⟩ a
  have a : MY S1 S L (bk f L i) 0 := a
  have k1 : RuV S S1 L sl (bk f L i) 0 p P := RuV_my h a
  have hH1 : MH S1 f L := RuV_MH hH k1
  have t7 : S1.1 27 = nI (bk f L i) := a.2.1
  refine ep_bv (f164 hH1 wr_30 hb.2.1 (RuV_MY k1)) ?_
  cases hw : wmB f L (bk f L i) wJoin with
  | false =>
    have e0 : am_if .ne (b2i false) = false := by decide
    simp only [e0, Bool.false_eq_true, if_false, t7, L0]
    refine ep_bind (f165 (RuV_MY k1)) ?_
    rintro ⟨_, S2⟩ b
    have b : MY S2 S1 L (bk f L i) (1 + 8 * bk f L i) := b
    exact ep_ret ⟨fun _ => ⟨RuR_tr (RuR_my a) (RuR_my b), b.1, ⟨_, Nat.le_succ_of_le hb.2.1, b.2.1⟩, b.2.2.1⟩, fun z => absurd z (by decide), fun z => absurd z (by decide), fun z => absurd z (by decide)⟩
  | true =>
    have e1 : am_if .ne (b2i true) = true := by decide
    have e12 : am_ic .ne (nI n) 12 = !decide (n = 12) := ic_ne (b := 12) (by omega) (by decide)
    by_cases h12 : n = 12
    · have e12 : am_ic .ne (nI n) 12 = false := by rw [e12, decide_eq_true h12]; rfl
      simp only [e1, e12, Bool.false_eq_true, if_false, if_true, t7, L4]
      refine ep_bind (f165 (RuV_MY k1)) ?_
      rintro ⟨_, S2⟩ b
      have b : MY S2 S1 L (bk f L i) (1 + 8 * bk f L i + 4) := b
      rw [show 1 + 8 * bk f L i + 4 = 5 + 8 * bk f L i by omega] at b
      exact ep_ret ⟨fun z => absurd z (by decide), fun _ _ => ⟨RuR_tr (RuR_my a) (RuR_my b), b.1, ⟨_, Nat.le_succ_of_le hb.2.1, b.2.1⟩, b.2.2.1⟩, fun _ z => absurd h12 z, fun _ z => absurd h12 z⟩
    · have e12 : am_ic .ne (nI n) 12 = true := by rw [e12, decide_eq_false h12]; rfl
      have hj : bk f L i + 4 ≤ L := wm_len hw
      have t4 : nI (bk f L i) + 4 = nI (bk f L i + 4) := nI_add _ 4
      obtain ⟨S2, hS2⟩ : ∃ S2, S2 = m_sI S1 27 (nI (bk f L i + 4)) := ⟨_, rfl⟩
      have k2 : RuV S S2 L sl (bk f L i + 4) 0 p P := by
        rw [hS2]
        exact RuV_27 k1
      have r2 : RuR S S2 sl := by
        rw [hS2]
        exact RuR_tr (RuR_my a) RuR_7
      have t29 : S2.1 29 = nI sl := k2.2.1
      have t31 : S2.1 31 = nI P.length := k2.2.2.1
      have ei : (12 : Int32) * nI sl + nI n = nI (12 * sl + n) := by rw [L12, nI_mul, nI_add]
      have g1 : (nI (12 * sl + n) < 0 ∨ 72 ≤ 12 * sl + n) = False := gdN (by omega) (by decide)
      have e3 : Int32.toNatClampNeg (nI (12 * sl + n)) = 12 * sl + n := nI_clamp (by omega)
      simp only [e1, e12, if_true, t7, t4, ← hS2, t29, t31, ei, e3, g1, not_false_eq_true]
      have k3 : RuV (m_sA S2 30 (12 * sl + n) (nI P.length)) (m_sA S2 30 (12 * sl + n) (nI P.length)) L sl (bk f L i + 4) 0 p P := RuV_2 k2 rfl (fun q j hq => by rw [m_rAn (by omega)])
      have r3 : RuR S (m_sA S2 30 (12 * sl + n) (nI P.length)) sl := RuR_tr r2 (RuR_A (Or.inl rfl) (by omega))
      have h35' : (m_sA S2 30 (12 * sl + n) (nI P.length)).1 35 = nI 11 := by
        rw [r3.1 35 (by decide) (by decide) (by decide) (by decide) (by decide) (by decide)]
        exact h35
      have h32' : (m_sA S2 30 (12 * sl + n) (nI P.length)).1 32 = nI 0 := by
        show S2.1 32 = nI 0
        rw [hS2, m_rIn (by decide), a.2.2.2.1 32 (by decide) (by decide)]
        exact h32
      have o31 : ∀ j, (m_sA S2 30 (12 * sl + n) (nI P.length)).2.1 31 j = S.2.1 31 j := fun j => by
        rw [m_rAn (by decide), hS2]
        show S1.2.1 31 j = _
        rw [a.2.2.2.2]
      have o30 : ∀ j, j < n → (m_sA S2 30 (12 * sl + n) (nI P.length)).2.1 30 (12 * sl + j) = S.2.1 30 (12 * sl + j) := fun j hj => by
        rw [m_rAi (by omega), hS2]
        show S1.2.1 30 _ = _
        rw [a.2.2.2.2]
      have o3e : (m_sA S2 30 (12 * sl + n) (nI P.length)).2.1 30 (12 * sl + n) = nI P.length := m_rAe
      refine ep_bind (f182 (RuR_MH hH r3) h35' hsl hj hp (by omega) k3 h32') ?_
      generalize m_sA S2 30 (12 * sl + n) (nI P.length) = S3 at *
      rintro ⟨_, S4⟩ ⟨y1, y2⟩
      have y1 : (rclF f L i p).1 ≠ 0 → RuX S3 L sl (rclF f L i p).1 S4 := y1
      have y2 : (rclF f L i p).1 = 0 → RuS S3 S4 L sl (rclF f L i p).2.1 0 (rclF f L i p).2.2.1 (P ++ (rclF f L i p).2.2.2) 0 [] := y2
      refine ep_ret ⟨fun z => absurd z (by decide), fun _ z => absurd z h12, fun _ _ r0 => ?_, fun _ _ r0 => ?_⟩
      · have x := y1 r0
        exact ⟨RuR_tr r3 (RuR_tr (RuR_x x) (RuR_A (Or.inr rfl) (by omega))), x.1.1, x.1.2.1, x.1.2.2⟩
      · have x := y2 r0
        have t31' : S4.1 31 = nI (P ++ (rclF f L i p).2.2.2).length := x.1.2.2.1
        have fr : ∀ q j, q = 30 ∨ q = 31 → S4.2.1 q j = S3.2.1 q j := fun q j hq => x.2.2.2.2.2.1 q j (by omega) (fun z => by omega)
        refine ⟨RuR_tr r3 (RuR_tr (RuR_s x) (RuR_A (Or.inr rfl) (by omega))), RuV_2 x.1 rfl (fun q j hq => by rw [m_rAn (by omega)]), x.2.1, ?_, ?_, fun q j hq hj => ?_⟩
        · show (m_sA S4 31 (12 * sl + n) (S4.1 31)).2.1 30 _ = _
          rw [m_rAn (by decide), fr 30 _ (Or.inl rfl)]
          exact o3e
        · show (m_sA S4 31 (12 * sl + n) (S4.1 31)).2.1 31 _ = _
          rw [m_rAe, t31', List.length_append]
        · show (m_sA S4 31 (12 * sl + n) (S4.1 31)).2.1 q _ = _
          rcases hq with rfl | rfl
          · rw [m_rAn (by decide), fr 30 _ (Or.inl rfl)]
            exact o30 j hj
          · rw [m_rAi (by omega), fr 31 _ (Or.inr rfl)]
            exact o31 _
end Rr
