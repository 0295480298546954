/-! rules told: the reference's stack -/
theorem wr_56 : WrB 56 wAnd = true := by decide +kernel
theorem wr_58 : WrB 58 wOr = true := by decide +kernel
theorem wr_32 : WrB 32 wNot = true := by decide +kernel
theorem wr_30 : WrB 30 wJoin = true := by decide +kernel
def StK (row : Nat → Int32) : List Nat → Prop
  | [] => True
  | x :: K => row K.length = nI x ∧ StK row K
theorem StK_fr {row row' : Nat → Int32} : ∀ (K : List Nat), StK row K → (∀ k, k < K.length → row' k = row k) → StK row' K
  | [], _, _ => trivial
  | x :: K, h, e => ⟨(e K.length (show K.length < K.length + 1 by omega)).trans h.1, StK_fr K h.2 (fun k hk => e k (show k < K.length + 1 by omega))⟩
def RuS (S0 S : mS) (L sl i e p : Nat) (pc : List TK) (dp : Nat) (K : List Nat) : Prop := RuV S S L sl i e p pc ∧ S.1 32 = nI dp ∧ S.1 34 = nI K.length ∧ StK (S.2.1 32) K ∧ (∀ q, q ≠ 27 → q ≠ 28 → q ≠ 31 → q ≠ 33 → q ≠ 32 → q ≠ 34 → S.1 q = S0.1 q) ∧ (∀ q j, q ≠ 32 → ¬ ((q = 27 ∨ q = 28) ∧ 300 * sl ≤ j ∧ j < 300 * sl + 300) → S.2.1 q j = S0.2.1 q j) ∧ S.2.2 = S0.2.2
def RuX (S0 : mS) (L sl e : Nat) (S : mS) : Prop := (S.1 26 = nI L ∧ (∃ pos, pos ≤ L + 1 ∧ S.1 27 = nI pos) ∧ S.1 28 = nI e) ∧ (∀ q, q ≠ 27 → q ≠ 28 → q ≠ 31 → q ≠ 33 → q ≠ 32 → q ≠ 34 → S.1 q = S0.1 q) ∧ (∀ q j, q ≠ 32 → ¬ ((q = 27 ∨ q = 28) ∧ 300 * sl ≤ j ∧ j < 300 * sl + 300) → S.2.1 q j = S0.2.1 q j) ∧ S.2.2 = S0.2.2
def topI (K : List Nat) : Int32 := match K with
  | [] => -1
  | x :: _ => nI x
def noT (K : List Nat) (l : Nat) : Prop := match K with
  | [] => True
  | x :: _ => x ≠ l ∧ x < 16
section Rp
variable {S0 S : mS} {f : Nat → Nat} {L sl i e p dp l : Nat} {pc P0 cs : List TK} {K : List Nat}
theorem RuV_sf {S' : mS} (h : RuV S S' L sl i e p pc) : RuV S' S' L sl i e p pc := ⟨h.1, h.2.1, h.2.2.1, h.2.2.2.1, h.2.2.2.2.1, fun _ _ _ _ _ => rfl, fun _ _ _ => rfl, rfl⟩
theorem RuV_cp {S' : mS} (h : RuV S S L sl i e p pc) (h1 : ∀ q, q ≠ 32 → q ≠ 34 → S'.1 q = S.1 q) (h2 : ∀ q j, q ≠ 32 → S'.2.1 q j = S.2.1 q j) : RuV S' S' L sl i e p pc := by
  obtain ⟨⟨a1, a2, a3⟩, b1, b2, b3, b4, _, _, _⟩ := h
  refine ⟨⟨?_, ?_, ?_⟩, ?_, ?_, ?_, fun k hk => ?_, fun _ _ _ _ _ => rfl, fun _ _ _ => rfl, rfl⟩
  · rw [h1 26 (by decide) (by decide)]
    exact a1
  · rw [h1 27 (by decide) (by decide)]
    exact a2
  · rw [h1 28 (by decide) (by decide)]
    exact a3
  · rw [h1 29 (by decide) (by decide)]
    exact b1
  · rw [h1 31 (by decide) (by decide)]
    exact b2
  · rw [h1 33 (by decide) (by decide)]
    exact b3
  · rw [h2 27 _ (by decide), h2 28 _ (by decide)]
    exact b4 k hk
theorem RuS_v {S' : mS} {i' e' p' : Nat} {pc' : List TK} (h : RuS S0 S L sl i e p pc dp K) (r : RuV S S' L sl i' e' p' pc') : RuS S0 S' L sl i' e' p' pc' dp K := by
  obtain ⟨_, h2, h3, h4, h5, h6, h7⟩ := h
  have r6 := r.2.2.2.2.2.1
  have r7 := r.2.2.2.2.2.2.1
  refine ⟨RuV_sf r, ?_, ?_, StK_fr K h4 (fun k hk => r7 32 k (fun z => by omega)), fun q a b c d x y => ?_, fun q j a b => ?_, r.2.2.2.2.2.2.2.trans h7⟩
  · rw [r6 32 (by decide) (by decide) (by decide) (by decide)]
    exact h2
  · rw [r6 34 (by decide) (by decide) (by decide) (by decide)]
    exact h3
  · rw [r6 q a b c d]
    exact h5 q a b c d x y
  · rw [r7 q j b]
    exact h6 q j a b
theorem RuS_E {S' : mS} {e' : Nat} (h : RuS S0 S L sl i e p pc dp K) (r : RuE S L sl e' S') : RuX S0 L sl e' S' := by
  obtain ⟨pos, p', pc', hp, r⟩ := r
  obtain ⟨_, h2, h3, h4, h5, h6, h7⟩ := h
  have r6 := r.2.2.2.2.2.1
  have r7 := r.2.2.2.2.2.2.1
  refine ⟨⟨r.1.1, ⟨pos, by omega, r.1.2.1⟩, r.1.2.2⟩, fun q a b c d x y => ?_, fun q j a b => ?_, r.2.2.2.2.2.2.2.trans h7⟩
  · rw [r6 q a b c d]
    exact h5 q a b c d x y
  · rw [r7 q j b]
    exact h6 q j a b
theorem RuS_X (h : RuS S0 S L sl i e p pc dp K) (hi : i ≤ L + 1) : RuX S0 L sl e S := ⟨⟨h.1.1.1, ⟨i, hi, h.1.1.2.1⟩, h.1.1.2.2⟩, h.2.2.2.2.1, h.2.2.2.2.2.1, h.2.2.2.2.2.2⟩
theorem RuS_MH (hH : MH S0 f L) (h : RuS S0 S L sl i e p pc dp K) : MH S f L := ⟨fun j hj => by rw [h.2.2.2.2.2.1 26 j (by decide) (fun z => by omega)]; exact hH.1 j hj, hH.2⟩
theorem RuS_my {S' : mS} {i' e' : Nat} (h : RuS S0 S L sl i e p pc dp K) (m : MY S' S L i' e') : RuS S0 S' L sl i' e' p pc dp K := RuS_v h (RuV_my h.1 m)
theorem RuS_27 {i' : Nat} (h : RuS S0 S L sl i e p pc dp K) : RuS S0 (m_sI S 27 (nI i')) L sl i' e p pc dp K := RuS_v h (RuV_27 h.1)
theorem RuS_35 (h35 : S0.1 35 = nI 11) (h : RuS S0 S L sl i e p pc dp K) : S.1 35 = nI 11 := by
  rw [h.2.2.2.2.1 35 (by decide) (by decide) (by decide) (by decide) (by decide) (by decide)]
  exact h35
theorem RuS_a {dp' : Nat} (h : RuS S0 S L sl i e p pc dp K) : RuS S0 (m_sI S 32 (nI dp')) L sl i e p pc dp' K := by
  obtain ⟨h1, h2, h3, h4, h5, h6, h7⟩ := h
  exact ⟨RuV_cp h1 (fun q a b => m_rIn a) (fun _ _ _ => rfl), m_rIe, by rw [m_rIn (by decide)]; exact h3, h4, fun q a b c d x y => by rw [m_rIn x]; exact h5 q a b c d x y, h6, h7⟩
theorem RuS_b (h : RuS S0 S L sl i e p pc dp K) : RuS S0 (m_sI (m_sA S 32 K.length (nI l)) 34 (nI (K.length + 1))) L sl i e p pc dp (l :: K) := by
  obtain ⟨h1, h2, h3, h4, h5, h6, h7⟩ := h
  refine ⟨RuV_cp h1 (fun q a b => m_rIn b) (fun q j a => ?_), ?_, m_rIe, ⟨m_rAe, StK_fr K h4 (fun k hk => m_rAi (by omega))⟩, fun q a b c d x y => ?_, fun q j a b => ?_, h7⟩
  · show (m_sA S 32 K.length (nI l)).2.1 q j = _
    rw [m_rAn a]
  · rw [m_rIn (by decide)]
    exact h2
  · rw [m_rIn y]
    exact h5 q a b c d x y
  · show (m_sA S 32 K.length (nI l)).2.1 q j = _
    rw [m_rAn a]
    exact h6 q j a b
theorem RuS_c {x : Nat} (h : RuS S0 S L sl i e p pc dp (x :: K)) : RuS S0 (m_sI S 34 (nI K.length)) L sl i e p pc dp K := by
  obtain ⟨h1, h2, h3, h4, h5, h6, h7⟩ := h
  exact ⟨RuV_cp h1 (fun q a b => m_rIn b) (fun _ _ _ => rfl), by rw [m_rIn (by decide)]; exact h2, m_rIe, h4.2, fun q a b c d x y => by rw [m_rIn y]; exact h5 q a b c d x y, h6, h7⟩
theorem f193 (h : RuS S0 S L sl i e p pc dp K) (hK : K.length ≤ 401) : Ev (fun n => F193 n S) (topI K, S) := by
  have h34 : S.1 34 = nI K.length := h.2.2.1
  refine ev_succ (fun n => F193e0 n ..) ?_
  cases K with
  | nil =>
    have e1 : am_if .ne (nI 0) = false := by decide
    have h34 : S.1 34 = nI 0 := h34
    simp only [F193b0, h34, e1, Bool.false_eq_true, if_false]
    exact ev_ret
  | cons x K =>
    have hK : K.length + 1 ≤ 401 := hK
    have h34 : S.1 34 = nI (K.length + 1) := h34
    have e1 : am_if .ne (nI (K.length + 1)) = true := by rw [if_ne (by omega), decide_eq_false (by omega)]; rfl
    have g1 : (nI K.length < 0 ∨ 402 ≤ K.length) = False := gdN (by omega) (by decide)
    have e2 : Int32.toNatClampNeg (nI K.length) = K.length := nI_clamp (by omega)
    have e3 : S.2.1 32 K.length = nI x := h.2.2.2.1.1
    simp only [F193b0, h34, e1, if_true, nI_s1, e2, g1, not_false_eq_true, e3]
    exact ev_ret
theorem top_ne (hn : noT K l) (hl : l < 16) : am_ic .ne (topI K) (nI l) = true := by
  cases K with
  | nil => exact (by decide : ∀ l, l < 16 → am_ic .ne (-1) (nI l) = true) l hl
  | cons x K =>
    obtain ⟨h1, h2⟩ := hn
    show am_ic .ne (nI x) (nI l) = true
    rw [ic_ne (by omega) (by omega), decide_eq_false h1]
    rfl
theorem f192s (h : RuS S0 S L sl i e p pc dp K) (hK : K.length ≤ 401) (hn : noT K l) (hl : l < 16) : Ev (fun n => F192 n (nI l) S) ((), S) := by
  have e1 := top_ne hn hl
  refine ev_succ (fun n => F192e0 n ..) ?_
  simp only [F192b0]
  refine ev_bind (f193 h hK) ?_
  simp only [e1, if_true]
  exact ev_ret
/-- one is popped and written -/
theorem f192p (hsl : sl < 6) (hl : l = 9 ∨ l = 10 ∨ l = 11) (h : RuS S0 S L sl i 0 p pc dp (l :: K)) (hc : pc.length < 300) (hK : K.length ≤ 400) (hd : l = 9 → 1 ≤ dp) : ∃ S2, RuS S0 S2 L sl i 0 p (pc ++ [(l, 0)]) (if l = 9 then dp - 1 else dp) K ∧ ∃ n0, ∀ n, n0 ≤ n → F192f (n + 1) 0 (nI l) S = F192f n 0 (nI l) S2 := by
  obtain ⟨⟨_, S1⟩, ⟨n1, k1⟩, k2⟩ := f190 (t := (l, 0)) hsl h.1 hc
  have k2 : RuV S S1 L sl i 0 p (pc ++ [(l, 0)]) := k2
  have r1 := RuS_v h k2
  obtain ⟨n2, k3⟩ := f193 h (show K.length + 1 ≤ 401 by omega)
  have t28 : S.1 28 = nI 0 := h.1.1.2.2
  have e0 : am_if .ne (nI 0) = false := by decide
  have e1 : am_ic .ne (topI (l :: K)) (nI l) = false := by
    show am_ic .ne (nI l) (nI l) = false
    rw [ic_ne (by omega) (by omega), decide_eq_true rfl]
    rfl
  have s34 : S1.1 34 = nI (K.length + 1) := r1.2.2.1
  have s32 : S1.1 32 = nI dp := r1.2.1
  have e9 : am_ic .ne (nI l) 9 = !decide (l = 9) := ic_ne (b := 9) (by omega) (by decide)
  by_cases c9 : l = 9
  · obtain ⟨dq, rfl⟩ : ∃ dq, dp = dq + 1 := ⟨dp - 1, by have := hd c9; omega⟩
    refine ⟨m_sI (m_sI S1 34 (nI K.length)) 32 (nI dq), ?_, n1 + n2, fun n hn => ?_⟩
    · rw [if_pos c9]
      exact RuS_a (RuS_c r1)
    · have q1 : F193 n S = some (topI (l :: K), S) := k3 n (by omega)
      have q2 : F190 n (nI l) 0 S = some ((), S1) := k1 n (by omega)
      have q3 : am_ic .ne (nI l) 9 = false := by rw [e9, decide_eq_true c9]; rfl
      show F192b0 (F192f n) n (nI l) S = _
      have s32' : (m_sI S1 34 (nI K.length)).1 32 = nI (dq + 1) := by rw [m_rIn (by decide)]; exact s32
      simp only [F192b0, q1, Option.bind_some, e1, t28, e0, Bool.false_eq_true, if_false, q2, q3, s34, nI_s1, s32']
  · refine ⟨m_sI (m_sI S1 34 (nI K.length)) 32 (nI dp), ?_, n1 + n2, fun n hn => ?_⟩
    · rw [if_neg c9]
      exact RuS_a (RuS_c r1)
    · have q1 : F193 n S = some (topI (l :: K), S) := k3 n (by omega)
      have q2 : F190 n (nI l) 0 S = some ((), S1) := k1 n (by omega)
      have q3 : am_ic .ne (nI l) 9 = true := by rw [e9, decide_eq_false c9]; rfl
      show F192b0 (F192f n) n (nI l) S = _
      have s32' : (m_sI S1 34 (nI K.length)).1 32 = nI dp := by rw [m_rIn (by decide)]; exact s32
      have z0 : nI dp - 0 = nI dp := nI_subN (a := dp) (b := 0) (Nat.zero_le _)
      simp only [F192b0, q1, Option.bind_some, e1, t28, e0, Bool.false_eq_true, if_false, if_true, q2, q3, s34, nI_s1, s32', z0]
theorem f192_mono {l : Int32} : ∀ (n : Nat) (S : mS) (z : Unit × mS), F192f n 0 l S = some z → F192f (n + 1) 0 l S = some z
  | 0, S, z, h => by cases h
  | 1, S, z, h => by cases h
  | n + 2, S, z, h => by
    have h : F192b0 (F192f (n + 1)) (n + 1) l S = some z := h
    show F192b0 (F192f (n + 2)) (n + 2) l S = some z
    have e3 : F193 (n + 2) S = F193 (n + 1) S := rfl
    unfold F192b0 at h ⊢
    rw [e3]
    cases h3 : F193 (n + 1) S with
    | none =>
      rw [h3] at h
      cases h
    | some z1 =>
      rw [h3] at h
      simp only [Option.bind_some] at h ⊢
      by_cases c1 : am_ic .ne z1.1 l = true
      · rw [if_pos c1] at h ⊢
        exact h
      · rw [if_neg c1] at h ⊢
        by_cases c2 : am_if .ne (z1.2.1 28) = true
        · rw [if_pos c2] at h ⊢
          exact h
        · rw [if_neg c2] at h ⊢
          have e0 : F190 (n + 2) l 0 z1.2 = F190 (n + 1) l 0 z1.2 := rfl
          rw [e0]
          cases h4 : F190 (n + 1) l 0 z1.2 with
          | none =>
            rw [h4] at h
            cases h
          | some z5 =>
            rw [h4] at h
            simp only [Option.bind_some] at h ⊢
            by_cases c3 : am_ic .ne l 9 = true
            · rw [if_pos c3] at h ⊢
              exact f192_mono (n + 1) _ _ h
            · rw [if_neg c3] at h ⊢
              exact f192_mono (n + 1) _ _ h
/-- what holds behind one more pop -/
theorem pop9 {α : Type} {W : Nat → Unit × mS → Option α} {Q : α → Prop} {l : Int32} {S1 S2 : mS} (h : ∃ n0, ∀ n, n0 ≤ n → F192f (n + 1) 0 l S1 = F192f n 0 l S2) (hq : Ep (fun n => (F192 n l S2).bind (W n)) Q) : Ep (fun n => (F192 n l S1).bind (W n)) Q := by
  obtain ⟨n0, h⟩ := h
  obtain ⟨r, ⟨n1, h1⟩, hr⟩ := hq
  refine ⟨r, ⟨n0 + n1 + 1, fun n hn => ?_⟩, hr⟩
  obtain ⟨k, rfl⟩ : ∃ k, n = k + 1 := ⟨n - 1, by omega⟩
  have a1 := h1 k (by omega)
  have a2 := h1 (k + 1) (by omega)
  show (F192f (k + 1) 0 l S1).bind (W (k + 1)) = some r
  rw [h k (by omega)]
  have a1 : (F192f k 0 l S2).bind (W k) = some r := a1
  have a2 : (F192f (k + 1) 0 l S2).bind (W (k + 1)) = some r := a2
  cases hz : F192f k 0 l S2 with
  | none =>
    rw [hz] at a1
    cases a1
  | some z =>
    rw [f192_mono k S2 z hz] at a2
    exact a2
def bK (z : Bool) (l : Nat) : List Nat := if z = true then [l] else []
theorem f192b {z : Bool} (hsl : sl < 6) (hl : l = 10 ∨ l = 11) (h : RuS S0 S L sl i 0 p pc dp (bK z l ++ K)) (hc : pc.length < 300) (hK : K.length ≤ 400) (hn : noT K l) : Ep (fun n => F192 n (nI l) S) (fun y => RuS S0 y.2 L sl i 0 p (pc ++ bl z l) dp K) := by
  cases z with
  | false =>
    refine ⟨_, f192s h (show K.length ≤ 401 by omega) hn (by omega), ?_⟩
    have : pc ++ bl false l = pc := List.append_nil pc
    rw [this]
    exact h
  | true =>
    have h : RuS S0 S L sl i 0 p pc dp (l :: K) := h
    obtain ⟨S2, r, n0, hn0⟩ := f192p hsl (by omega) h hc hK (fun z => absurd z (by omega))
    rw [if_neg (by omega)] at r
    obtain ⟨n1, h1⟩ := f192s r (show K.length ≤ 401 by omega) hn (by omega)
    refine ⟨((), S2), ⟨n0 + n1 + 1, fun n hn => ?_⟩, r⟩
    obtain ⟨k, rfl⟩ : ∃ k, n = k + 1 := ⟨n - 1, by omega⟩
    show F192f (k + 1) 0 (nI l) S = _
    rw [hn0 k (by omega)]
    exact h1 k (by omega)
theorem f184o (hl : l = 10 ∨ l = 11) (h : RuS S0 S L sl i e p pc dp K) (hK : K.length ≤ 401) : Ep (fun n => F184 n (nI l) S) (fun z => RuS S0 z.2 L sl i e p pc dp (l :: K)) := by
  have h34 : S.1 34 = nI K.length := h.2.2.1
  have e9 : am_ic .eq (nI l) 9 = false := by
    have := ic_eq (a := l) (b := 9) (by omega) (by decide)
    rw [decide_eq_false (by omega)] at this
    exact this
  have e12 : am_ic .ne (nI l) 12 = true := by
    have := ic_ne (a := l) (b := 12) (by omega) (by decide)
    rw [decide_eq_false (by omega)] at this
    exact this
  have g1 : (nI K.length < 0 ∨ 402 ≤ K.length) = False := gdN (by omega) (by decide)
  have e2 : Int32.toNatClampNeg (nI K.length) = K.length := nI_clamp (by omega)
  refine ep_succ (fun n => F184e0 n ..) ?_
  simp only [F184b0, e9, e12, Bool.false_eq_true, if_false, if_true, m_rA1, h34, e2, g1, not_false_eq_true, nI_p1]
  exact ep_ret (RuS_b h)
theorem f184d (hl : l = 9 ∨ l = 12) (h : RuS S0 S L sl i 0 p pc dp K) (hd : dp ≤ 10) (hK : K.length ≤ 401) : Ep (fun n => F184 n (nI l) S) (fun z => RuS S0 z.2 L sl i (if 10 ≤ dp then 3 + 8 * i else 0) p pc (dp + 1) (l :: K)) := by
  have h34 : S.1 34 = nI K.length := h.2.2.1
  have h32 : S.1 32 = nI dp := h.2.1
  have h27 : S.1 27 = nI i := h.1.1.2.1
  have g1 : (nI K.length < 0 ∨ 402 ≤ K.length) = False := gdN (by omega) (by decide)
  have e2 : Int32.toNatClampNeg (nI K.length) = K.length := nI_clamp (by omega)
  have e10 : am_ic .ne (nI dp) 10 = !decide (dp = 10) := ic_ne (b := 10) (by omega) (by decide)
  have h34' : ∀ {S' : mS}, S'.1 34 = nI K.length → (m_sI S' 32 (nI (dp + 1))).1 34 = nI K.length := fun hs => by rw [m_rIn (by decide)]; exact hs
  refine ep_succ (fun n => F184e0 n ..) ?_
  by_cases c10 : dp = 10
  · have e10 : am_ic .ne (nI dp) 10 = false := by rw [e10, decide_eq_true c10]; rfl
    rw [if_pos (by omega)]
    have fin : Ep (fun n => (F165 n 2 (nI i) S).bind (fun z4 => if ¬ ((m_sI z4.2 32 (z4.2.1 32 + 1)).1 34 < 0 ∨ 402 ≤ ((m_sI z4.2 32 (z4.2.1 32 + 1)).1 34).toNatClampNeg) then some ((), m_sI (m_sA (m_sI z4.2 32 (z4.2.1 32 + 1)) 32 (Int32.toNatClampNeg ((m_sI z4.2 32 (z4.2.1 32 + 1)).1 34)) (nI l)) 34 ((m_sA (m_sI z4.2 32 (z4.2.1 32 + 1)) 32 (Int32.toNatClampNeg ((m_sI z4.2 32 (z4.2.1 32 + 1)).1 34)) (nI l)).1 34 + 1)) else none)) (fun z => RuS S0 z.2 L sl i (3 + 8 * i) p pc (dp + 1) (l :: K)) := by
      refine ep_bind (f165 (k := 2) (RuV_MY h.1)) ?_
      rintro ⟨_, S1⟩ a
      have a : MY S1 S L i (1 + 8 * i + 2) := a
      have r := RuS_my h a
      have s32 : S1.1 32 = nI dp := r.2.1
      have s34 := h34' (S' := S1) r.2.2.1
      simp only [s32, nI_p1, m_rA1, s34, e2, g1, not_false_eq_true, if_true]
      rw [show 3 + 8 * i = 1 + 8 * i + 2 by omega]
      exact ep_ret (RuS_b (RuS_a r))
    rcases hl with rfl | rfl
    · have f9 : am_ic .eq (nI 9) 9 = true := by decide
      simp only [F184b0, f9, if_true, h32, e10, Bool.false_eq_true, if_false, h27]
      exact fin
    · have f9 : am_ic .eq (nI 12) 9 = false := by decide
      have f12 : am_ic .ne (nI 12) 12 = false := by decide
      simp only [F184b0, f9, f12, h32, e10, Bool.false_eq_true, if_false, h27]
      exact fin
  · have e10 : am_ic .ne (nI dp) 10 = true := by rw [e10, decide_eq_false c10]; rfl
    rw [if_neg (by omega)]
    have s34 := h34' (S' := S) h34
    rcases hl with rfl | rfl
    · have f9 : am_ic .eq (nI 9) 9 = true := by decide
      simp only [F184b0, f9, if_true, h32, e10, nI_p1, m_rA1, s34, e2, g1, not_false_eq_true]
      exact ep_ret (RuS_b (RuS_a h))
    · have f9 : am_ic .eq (nI 12) 9 = false := by decide
      have f12 : am_ic .ne (nI 12) 12 = false := by decide
      simp only [F184b0, f9, f12, h32, e10, Bool.false_eq_true, if_false, if_true, nI_p1, m_rA1, s34, e2, g1, not_false_eq_true]
      exact ep_ret (RuS_b (RuS_a h))
theorem wm_0 {j : Nat} {w : List Nat} (h : wmB f L j w = true) (hw : 1 ≤ w.length) : f j = w.getD 0 0 := by
  unfold wmB at h
  rw [Bool.and_eq_true, Bool.and_eq_true, al_is] at h
  exact of_decide_eq_true (h.2.2 0 (Nat.zero_le _) (by omega))
theorem f183 (hH : MH S0 f L) (h35 : S0.1 35 = nI 11) (hsl : sl < 6) (hi : i ≤ L) (hp : p ≤ 60) (hd : dp ≤ 10) (hlen : 3 * (P0.length + cs.length) ≤ 6 * p + i) (hK : K.length ≤ 401) (h : RuS S0 S L sl i 0 p (P0 ++ cs) dp K) : Ep (fun n => F183 n S) (fun z => (sg f L (bk f L i) = 92 → z.1 = nI 0 ∧ RuS S0 z.2 L sl (bk f L i + 1) (if 10 ≤ dp then 3 + 8 * bk f L i else 0) p (P0 ++ cs) (dp + 1) (12 :: K)) ∧ (sg f L (bk f L i) ≠ 92 → wmB f L (bk f L i) wNot = true → z.1 = nI 0 ∧ RuS S0 z.2 L sl (bk f L i + 3) (if 10 ≤ dp then 3 + 8 * bk f L i else 0) p (P0 ++ cs) (dp + 1) (9 :: K)) ∧ (sg f L (bk f L i) ≠ 92 → wmB f L (bk f L i) wNot = false → z.1 = nI 1 ∧ ((cmF f L (bk f L i) p cs).1 ≠ 0 → RuX S0 L sl (cmF f L (bk f L i) p cs).1 z.2) ∧ ((cmF f L (bk f L i) p cs).1 = 0 → RuS S0 z.2 L sl (cmF f L (bk f L i) p cs).2.1 0 (cmF f L (bk f L i) p cs).2.2.1 (P0 ++ (cmF f L (bk f L i) p cs).2.2.2) dp K))) := by
  have hL := hH.2.1
  have hb := bk_b (f := f) hi
  refine ep_succ (fun n => F183e0 n ..) ?_
  simp only [F183b0]
  refine ep_bind (f161 (RuS_MH hH h) hi (RuV_MY h.1)) ?_
  rintro ⟨_, S1⟩ a
  have a : MY S1 S L (bk f L i) 0 := a
  have r := RuS_my h a
  have hH1 := RuS_MH hH r
  have hsb : sg f L (bk f L i) < 2 ^ 30 := by
    unfold sg
    by_cases hl : bk f L i < L
    · rw [if_pos hl]
      have := hH.2.2 _ hl
      omega
    · rw [if_neg hl]
      decide
  refine ep_bv (f164 hH1 wr_32 hb.2.1 (RuV_MY r.1)) ?_
  cases hw : wmB f L (bk f L i) wNot with
  | true =>
    have e1 : am_if .eq (b2i true) = false := by decide
    have h110 := wm_0 hw (by decide)
    have h110 : f (bk f L i) = 110 := h110
    have hlt : bk f L i + 3 ≤ L := wm_len hw
    have hs : sg f L (bk f L i) ≠ 92 := by
      have : sg f L (bk f L i) = f (bk f L i) + 1 := if_pos (by omega)
      omega
    simp only [e1, Bool.false_eq_true, if_false]
    refine ep_bind (f184d (l := 9) (Or.inl rfl) r hd hK) ?_
    rintro ⟨_, S2⟩ k
    have t7 : S2.1 27 = nI (bk f L i) := k.1.1.2.1
    have t3 : nI (bk f L i) + 3 = nI (bk f L i + 3) := nI_add _ 3
    simp only [t7, t3]
    exact ep_ret ⟨fun z => absurd z hs, fun _ _ => ⟨rfl, RuS_27 k⟩, fun _ z => absurd z (by decide)⟩
  | false =>
    have e1 : am_if .eq (b2i false) = true := by decide
    simp only [e1, if_true]
    refine ep_bv (f162 hH1 hb.2.1 (RuV_MY r.1)) ?_
    have n91 : am_ic .ne (zI (sg f L (bk f L i))) 91 = !decide (sg f L (bk f L i) = 92) := ic_ne_pn (c := 91) (by omega) (by decide)
    by_cases c92 : sg f L (bk f L i) = 92
    · simp only [n91, decide_eq_true c92, Bool.not_true, Bool.false_eq_true, if_false]
      refine ep_bind (f184d (l := 12) (Or.inr rfl) r hd hK) ?_
      rintro ⟨_, S2⟩ k
      have t7 : S2.1 27 = nI (bk f L i) := k.1.1.2.1
      simp only [t7, nI_p1]
      exact ep_ret ⟨fun _ => ⟨rfl, RuS_27 k⟩, fun z => absurd c92 z, fun z => absurd c92 z⟩
    · simp only [n91, decide_eq_false c92, Bool.not_false, if_true]
      refine ep_bind (f185 hH1 (RuS_35 h35 r) hsl hb.2.1 hp (by omega) r.1) ?_
      rintro ⟨_, S2⟩ ⟨k1, k2⟩
      exact ep_ret ⟨fun z => absurd z c92, fun _ z => absurd z (by decide), fun _ _ => ⟨rfl, fun z => RuS_E r (k1 z), fun z => RuS_v r (k2 z)⟩⟩
end Rp
