/-! net -/
/-- the nets with a list of theirs -/
def MNw (r : Nat → Nat → Int32) (w : AW) (q : Nat) (a : Nat → Nat) : Prop := q ≤ 13 ∧ r 1 3 = nI q ∧ q = ctF (fun c => !decide (w.1 7 c = 0)) 16 0 ∧ (∀ k, k < q → a k < 16 ∧ r 8 k = nI (a k) ∧ r 9 k = nI (w.1 7 (a k)) ∧ w.1 7 (a k) ≠ 0) ∧ (∀ c, c < 16 → w.1 7 c ≠ 0 → ∃ k, k < q ∧ a k = c) ∧ (∀ j k, j < q → k < q → a j = a k → j = k)
theorem MN_set {r r' : Nat → Nat → Int32} {w : AW} {q c k m : Nat} {a : Nat → Nat} (h : MNw r w q a) (hk : k < q) (hc : a k = c) (hm : m ≠ 0) (h3 : r' 1 3 = r 1 3) (h8 : ∀ i, r' 8 i = r 8 i) (h9 : ∀ i, r' 9 i = if i = k then nI m else r 9 i) : MN r' (aS w 7 c m) := by
  obtain ⟨a1, a2, a3, a4, a5, a6⟩ := h
  have hcc : c < 16 := by rw [← hc]; exact (a4 k hk).1
  have hcn : w.1 7 c ≠ 0 := by rw [← hc]; exact (a4 k hk).2.2.2
  refine ⟨q, a, a1, by rw [h3]; exact a2, ?_, fun i hi => ?_, fun c' hc' hn => ?_, a6⟩
  · rw [a3]
    refine ctF_eq _ _ (fun i _ _ => ?_)
    by_cases e : i = c
    · subst e
      rw [aS_e, decide_eq_false hcn, decide_eq_false hm]
    · rw [aS_i e]
  · obtain ⟨b1, b2, b3, b4⟩ := a4 i hi
    refine ⟨b1, by rw [h8]; exact b2, ?_, ?_⟩
    · rw [h9]
      by_cases e : i = k
      · subst e
        rw [if_pos rfl, hc, aS_e]
      · rw [if_neg e, aS_i (fun z => e (a6 i k hi hk (z.trans hc.symm)))]
        exact b3
    · by_cases e : a i = c
      · rw [e, aS_e]
        exact hm
      · rw [aS_i e]
        exact b4
  · by_cases e : c' = c
    · exact ⟨k, hk, by rw [e]; exact hc⟩
    · rw [aS_i e] at hn
      exact a5 c' hc' hn
theorem MN_add {r r' : Nat → Nat → Int32} {w : AW} {q c m : Nat} {a : Nat → Nat} (h : MNw r w q a) (hq : q < 13) (hc : c < 16) (h0 : w.1 7 c = 0) (hm : m ≠ 0) (h3 : r' 1 3 = nI (q + 1)) (h8 : ∀ i, r' 8 i = if i = q then nI c else r 8 i) (h9 : ∀ i, r' 9 i = if i = q then nI m else r 9 i) : MN r' (aS w 7 c m) := by
  obtain ⟨a1, a2, a3, a4, a5, a6⟩ := h
  have hne : ∀ i, i < q → a i ≠ c := fun i hi e => (a4 i hi).2.2.2 (by rw [e]; exact h0)
  refine ⟨q + 1, va_up a q c, by omega, h3, ?_, fun i hi => ?_, fun c' hc' hn => ?_, fun i j hi hj e => ?_⟩
  · rw [a3]
    symm
    refine ctF_up (s := c) _ 0 (Nat.zero_le _) (by omega) (fun i hi => by rw [aS_i hi]) (by rw [h0]; rfl) (by rw [aS_e, decide_eq_false hm]; rfl)
  · by_cases e : i = q
    · subst e
      rw [va_upS, h8, if_pos rfl, h9, if_pos rfl, aS_e]
      exact ⟨hc, rfl, rfl, hm⟩
    · obtain ⟨b1, b2, b3, b4⟩ := a4 i (by omega)
      have := hne i (by omega)
      rw [va_upN e, h8, if_neg e, h9, if_neg e, aS_i this]
      exact ⟨b1, b2, b3, b4⟩
  · by_cases e : c' = c
    · exact ⟨q, by omega, by rw [va_upS, e]⟩
    · rw [aS_i e] at hn
      obtain ⟨k, hk, ek⟩ := a5 c' hc' hn
      exact ⟨k, by omega, by rw [va_upN (by omega)]; exact ek⟩
  · by_cases ei : i = q
    · by_cases ej : j = q
      · omega
      · rw [ei, va_upS, va_upN ej] at e
        exact absurd e.symm (hne j (by omega))
    · by_cases ej : j = q
      · rw [ej, va_upS, va_upN ei] at e
        exact absurd e (hne i (by omega))
      · rw [va_upN ei, va_upN ej] at e
        exact a6 i j (by omega) (by omega) e
theorem MN_del {r r' : Nat → Nat → Int32} {w : AW} {q c k : Nat} {a : Nat → Nat} (h : MNw r w q a) (hk : k < q) (hc : a k = c) (h3 : r' 1 3 = nI (q - 1)) (h8 : ∀ i, i < q - 1 → r' 8 i = if i < k then r 8 i else r 8 (i + 1)) (h9 : ∀ i, i < q - 1 → r' 9 i = if i < k then r 9 i else r 9 (i + 1)) : MN r' (aS w 7 c 0) := by
  obtain ⟨a1, a2, a3, a4, a5, a6⟩ := h
  have hcc : c < 16 := by rw [← hc]; exact (a4 k hk).1
  have hcn : w.1 7 c ≠ 0 := by rw [← hc]; exact (a4 k hk).2.2.2
  have hne : ∀ i, i < q → i ≠ k → a i ≠ c := fun i hi hik e => hik (a6 i k hi hk (e.trans hc.symm))
  refine ⟨q - 1, fun i => if i < k then a i else a (i + 1), by omega, h3, ?_, fun i hi => ?_, fun c' hc' hn => ?_, fun i j hi hj e => ?_⟩
  · have := ctF_up (P := fun x => !decide ((aS w 7 c 0).1 7 x = 0)) (Q := fun x => !decide (w.1 7 x = 0)) (s := c) 16 0 (Nat.zero_le _) (by omega) (fun i hi => by rw [aS_i hi]) (by rw [aS_e]; rfl) (by rw [decide_eq_false hcn]; rfl)
    omega
  · rw [h8 i hi, h9 i hi]
    by_cases e : i < k
    · obtain ⟨b1, b2, b3, b4⟩ := a4 i (by omega)
      have := hne i (by omega) (by omega)
      simp only [if_pos e]
      rw [aS_i this]
      exact ⟨b1, b2, b3, b4⟩
    · obtain ⟨b1, b2, b3, b4⟩ := a4 (i + 1) (by omega)
      have := hne (i + 1) (by omega) (by omega)
      simp only [if_neg e]
      rw [aS_i this]
      exact ⟨b1, b2, b3, b4⟩
  · have e : c' ≠ c := fun e => by rw [e, aS_e] at hn; exact hn rfl
    rw [aS_i e] at hn
    obtain ⟨j, hj, ej⟩ := a5 c' hc' hn
    have hjk : j ≠ k := fun z => e (by rw [← ej, z]; exact hc)
    by_cases h : j < k
    · exact ⟨j, by omega, by simp only [if_pos h]; exact ej⟩
    · refine ⟨j - 1, by omega, ?_⟩
      have h' : ¬ j - 1 < k := by omega
      simp only [if_neg h']
      rw [show j - 1 + 1 = j by omega]
      exact ej
  · by_cases hi' : i < k
    · by_cases hj' : j < k
      · simp only [if_pos hi', if_pos hj'] at e
        exact a6 i j (by omega) (by omega) e
      · simp only [if_pos hi', if_neg hj'] at e
        have := a6 i (j + 1) (by omega) (by omega) e
        omega
    · by_cases hj' : j < k
      · simp only [if_neg hi', if_pos hj'] at e
        have := a6 (i + 1) j (by omega) (by omega) e
        omega
      · simp only [if_neg hi', if_neg hj'] at e
        have := a6 (i + 1) (j + 1) (by omega) (by omega) e
        omega
/-- the rows of nets as they go one down, from k to i -/
def shN (S : mS) (k i : Nat) : mS := (S.1, va_up (va_up S.2.1 8 (fun j => if k ≤ j ∧ j < i then S.2.1 8 (j + 1) else S.2.1 8 j)) 9 (fun j => if k ≤ j ∧ j < i then S.2.1 9 (j + 1) else S.2.1 9 j), S.2.2)
theorem shN_0 {S : mS} {k : Nat} : shN S k k = S := by
  unfold shN
  refine Prod.ext rfl (Prod.ext ?_ rfl)
  have h8 : (fun j => if k ≤ j ∧ j < k then S.2.1 8 (j + 1) else S.2.1 8 j) = S.2.1 8 := by
    funext j
    exact if_neg (by omega)
  have h9 : (fun j => if k ≤ j ∧ j < k then S.2.1 9 (j + 1) else S.2.1 9 j) = S.2.1 9 := by
    funext j
    exact if_neg (by omega)
  show va_up (va_up S.2.1 8 _) 9 _ = S.2.1
  rw [h8, h9, va_id rfl, va_id rfl]
theorem shN_8 {S : mS} {k i j : Nat} : (shN S k i).2.1 8 j = if k ≤ j ∧ j < i then S.2.1 8 (j + 1) else S.2.1 8 j := by
  unfold shN
  simp (disch := omega) only [va_upN, va_upS]
theorem shN_9 {S : mS} {k i j : Nat} : (shN S k i).2.1 9 j = if k ≤ j ∧ j < i then S.2.1 9 (j + 1) else S.2.1 9 j := by
  unfold shN
  simp only [va_upS]
theorem shN_n {S : mS} {k i q : Nat} (h8 : q ≠ 8) (h9 : q ≠ 9) : (shN S k i).2.1 q = S.2.1 q := by
  unfold shN
  simp (disch := omega) only [va_upN]
theorem shN_s {S : mS} {k i : Nat} (h : k ≤ i) : m_sA (m_sA (shN S k i) 8 i (S.2.1 8 (i + 1))) 9 i (S.2.1 9 (i + 1)) = shN S k (i + 1) := by
  refine Prod.ext rfl (Prod.ext ?_ rfl)
  funext q
  by_cases e9 : q = 9
  · subst e9
    funext j
    by_cases ej : j = i
    · subst ej
      rw [m_rAe, shN_9, if_pos (by omega)]
    · rw [m_rAi ej, m_rAn (by decide), shN_9, shN_9]
      by_cases c : k ≤ j ∧ j < i
      · rw [if_pos c, if_pos (by omega)]
      · rw [if_neg c, if_neg (by omega)]
  · rw [m_rAn e9]
    by_cases e8 : q = 8
    · subst e8
      funext j
      by_cases ej : j = i
      · subst ej
        rw [m_rAe, shN_8, if_pos (by omega)]
      · rw [m_rAi ej, shN_8, shN_8]
        by_cases c : k ≤ j ∧ j < i
        · rw [if_pos c, if_pos (by omega)]
        · rw [if_neg c, if_neg (by omega)]
    · rw [m_rAn e8, shN_n e8 e9, shN_n e8 e9]
theorem f236l {S : mS} {q k : Nat} (hq : q ≤ 13) (h3 : S.2.1 1 3 = nI q) : ∀ m i, i + m + 1 = q → k ≤ i → Ev (fun n => F236f n 2 (nI 0) (nI i) (shN S k i)) ((), m_sA (shN S k (q - 1)) 1 3 (nI (q - 1))) := by
  intro m
  induction m with
  | zero =>
    intro i hi hk
    refine ev_succ (fun n => F236e2 n ..) ?_
    have e3 : (shN S k i).2.1 1 3 = nI q := by rw [shN_n (by decide) (by decide)]; exact h3
    have e : q ≤ i + 1 := by omega
    have hi' : i = q - 1 := by omega
    simp (disch := omega) only [F236b2, L0, L1, L2, L3, L4, L5, L6, L7, L8, L9, L10, L11, L12, L13, L16, L20, L31, L32, L40, L48, L57, L59, L60, L61, L91, L93, L97, L99, L100, L102, L103, L114, L122, L255, L300, L400, L402, L999, L2280, L2500, L99999, L63, L1431655765, L858993459, L252645135, ic_ge, ic_gt, ic_le, ic_lt, ic_eq, ic_ne, if_lt, if_ge, if_gt, if_le, if_eq, if_ne, if_lt_zI, if_ge_zI, ic_ne_m1, ic_eq_m1, ic_nn_m1, ic_ee_m1, if_ne_b2i, if_eq_b2i, b2i_z, decide_eq_true_eq, decide_true, decide_false, Bool.not_eq_true, Bool.not_eq_true', Bool.not_true, Bool.not_false, decide_eq_false_iff_not, Bool.false_eq_true, not_false_eq_true, not_true_eq_false, if_true, if_false, ↓reduceIte, eq_self, Option.bind_some, Bool.true_and, Bool.false_and, Bool.and_true, Bool.and_false, nI_add, nI_subN, nI_clamp, gdF, gdF2, gdP, gdP2, zI_cl, zI_s, Lm1, nI_n0, zI_n0, leF, or_false, false_or, or_self, e3, e]
    rw [hi']
    exact ev_ret
  | succ m ih =>
    intro i hi hk
    refine ev_succ (fun n => F236e2 n ..) ?_
    have e3 : (shN S k i).2.1 1 3 = nI q := by rw [shN_n (by decide) (by decide)]; exact h3
    have e : ¬ q ≤ i + 1 := by omega
    have e8 : (shN S k i).2.1 8 (i + 1) = S.2.1 8 (i + 1) := by rw [shN_8, if_neg (by omega)]
    have e9 : (shN S k i).2.1 9 (i + 1) = S.2.1 9 (i + 1) := by rw [shN_9, if_neg (by omega)]
    simp (disch := omega) only [F236b2, L0, L1, L2, L3, L4, L5, L6, L7, L8, L9, L10, L11, L12, L13, L16, L20, L31, L32, L40, L48, L57, L59, L60, L61, L91, L93, L97, L99, L100, L102, L103, L114, L122, L255, L300, L400, L402, L999, L2280, L2500, L99999, L63, L1431655765, L858993459, L252645135, ic_ge, ic_gt, ic_le, ic_lt, ic_eq, ic_ne, if_lt, if_ge, if_gt, if_le, if_eq, if_ne, if_lt_zI, if_ge_zI, ic_ne_m1, ic_eq_m1, ic_nn_m1, ic_ee_m1, if_ne_b2i, if_eq_b2i, b2i_z, decide_eq_true_eq, decide_true, decide_false, Bool.not_eq_true, Bool.not_eq_true', Bool.not_true, Bool.not_false, decide_eq_false_iff_not, Bool.false_eq_true, not_false_eq_true, not_true_eq_false, if_true, if_false, ↓reduceIte, eq_self, Option.bind_some, Bool.true_and, Bool.false_and, Bool.and_true, Bool.and_false, nI_add, nI_subN, nI_clamp, gdF, gdF2, gdP, gdP2, zI_cl, zI_s, Lm1, nI_n0, zI_n0, leF, or_false, false_or, or_self, e3, e, m_rA1, m_rA3, m_rAe, m_rAn, m_rAi, m_rI2, m_rIe, m_rIn, m_rL1, m_rL2, m_rLe, m_rLi, m_rLn, e8, e9]
    rw [shN_s hk]
    exact ih (i + 1) (by omega) (by omega)
theorem f236 {S : mS} {q k : Nat} (hq : q ≤ 13) (h3 : S.2.1 1 3 = nI q) (hk : k < q) : Ev (fun n => F236 n (nI k) S) ((), m_sA (shN S k (q - 1)) 1 3 (nI (q - 1))) := by
  refine ev_succ (fun n => F236e0 n ..) ?_
  simp only [F236b0, L0]
  have := f236l hq h3 (k := k) (q - 1 - k) k (by omega) (Nat.le_refl _)
  rw [shN_0] at this
  exact this
theorem f237 {S : mS} {q c m : Nat} (hq : q < 13) (h3 : S.2.1 1 3 = nI q) : Ev (fun n => F237 n (nI c) (nI m) S) ((), m_sA (m_sA (m_sA S 8 q (nI c)) 9 q (nI m)) 1 3 (nI (q + 1))) := by
  refine ev_succ (fun n => F237e0 n ..) ?_
  simp (disch := omega) only [F237b0, L0, L1, L2, L3, L4, L5, L6, L7, L8, L9, L10, L11, L12, L13, L16, L20, L31, L32, L40, L48, L57, L59, L60, L61, L91, L93, L97, L99, L100, L102, L103, L114, L122, L255, L300, L400, L402, L999, L2280, L2500, L99999, L63, L1431655765, L858993459, L252645135, ic_ge, ic_gt, ic_le, ic_lt, ic_eq, ic_ne, if_lt, if_ge, if_gt, if_le, if_eq, if_ne, if_lt_zI, if_ge_zI, ic_ne_m1, ic_eq_m1, ic_nn_m1, ic_ee_m1, if_ne_b2i, if_eq_b2i, b2i_z, decide_eq_true_eq, decide_true, decide_false, Bool.not_eq_true, Bool.not_eq_true', Bool.not_true, Bool.not_false, decide_eq_false_iff_not, Bool.false_eq_true, not_false_eq_true, not_true_eq_false, if_true, if_false, ↓reduceIte, eq_self, Option.bind_some, Bool.true_and, Bool.false_and, Bool.and_true, Bool.and_false, nI_add, nI_subN, nI_clamp, gdF, gdF2, gdP, gdP2, zI_cl, zI_s, Lm1, nI_n0, zI_n0, leF, or_false, false_or, or_self, h3, m_rA1, m_rA3, m_rAe, m_rAn, m_rAi, m_rI2, m_rIe, m_rIn, m_rL1, m_rL2, m_rLe, m_rLi, m_rLn]
  exact ev_ret
theorem sm_net {k : Nat} {a e : Int32} (A : AA) (ok : OkA k A) : ∃ r A', OkA (k + 1) A' ∧ CallX k (fun n => G105 n a e) A r A' ∧ CallM (fun n => F235 n a e) A r A' := by
  have ok1 := OkA_s ok
  have hb := OkA_b ok
  have kw := OkA_w ok
  have hb1 := hb.1
  have hD := ok.2.2.2.1.2.2.1 A.2.2.1.2.1 (Or.inl rfl)
  have h5 := hD.2.2.2.2
  have no1 : ∀ T G, RC A T G → Ev (fun n => G75 n a T) (b2i false, T) → RG k G → Ep (fun n => G105 n a e (T, G)) (fun z => z.1 = zI 0 ∧ RC A z.2.1 z.2.2 ∧ RG (k + 1) z.2.2) := by
    intro T G hc h1 hG
    refine ep_succ (fun n => G105e0 n ..) ?_
    simp only [G105b0]
    refine ep_bv h1 ?_
    simp only [if_eq_b2i, decide_eq_true_eq, decide_true, decide_false, Bool.not_eq_true, Bool.not_eq_true', Bool.not_true, Bool.not_false, decide_eq_false_iff_not, Bool.false_eq_true, not_false_eq_true, not_true_eq_false, if_true, if_false, ↓reduceIte, eq_self, Option.bind_some, Bool.true_and, Bool.false_and, Bool.and_true, Bool.and_false]
    exact ep_ret ⟨rfl, hc, RG_s hG⟩
  have no2 : ∀ S, Ev (fun n => F196 n a S) (b2i false, S) → Ev (fun n => F235 n a e S) (zI 0, S) := by
    intro S h1
    refine ev_succ (fun n => F235e0 n ..) ?_
    simp only [F235b0]
    refine ev_bind h1 ?_
    simp only [if_eq_b2i, decide_eq_true_eq, decide_true, decide_false, Bool.not_eq_true, Bool.not_eq_true', Bool.not_true, Bool.not_false, decide_eq_false_iff_not, Bool.false_eq_true, not_false_eq_true, not_true_eq_false, if_true, if_false, ↓reduceIte, eq_self, Option.bind_some, Bool.true_and, Bool.false_and, Bool.and_true, Bool.and_false]
    exact ev_ret
  rcases i32_cases a with ⟨c, hx, rfl⟩ | hx
  · by_cases hc : c < A.2.2.1.1 0 0
    · have h8 := (kw.2.2.1 c (by omega)).1
      rcases i32_cases e with ⟨m, hm, rfl⟩ | hneg
      · by_cases hm8 : m ≤ 8
        · have hin : inL (nI m).toInt64 0 8 = true := by
            have := inK (a := m) (k := 8) hm (by decide)
            rw [decide_eq_true hm8] at this
            exact this
          by_cases hgo : A.2.2.1.2.1.1 7 c ≠ m ∧ ¬ (A.2.2.1.2.1.1 7 c = 0 ∧ ctF (fun c => !decide (A.2.2.1.2.1.1 7 c = 0)) 16 0 = 5)
          · obtain ⟨g1, g2⟩ := hgo
            have kw' : OkW A.2.2.1.1 (aS A.2.2.1.2.1 7 c m) := by
              refine ⟨kw.1, fun s hs => OkS_of (kw.2.1 s hs) (fun r _ _ => aS_n (by omega)), fun i hi => ?_, fun i hi h2 => by rw [aS_n (by omega)]; exact kw.2.2.2 i hi h2⟩
              by_cases ei : i = c
              · subst ei
                rw [aS_e]
                exact ⟨hm8, fun _ => hc⟩
              · rw [aS_i ei]
                exact kw.2.2.1 i hi
            have hcnt : ctF (fun x => !decide ((aS A.2.2.1.2.1 7 c m).1 7 x = 0)) 16 0 ≤ 5 := by
              by_cases hm0 : m = 0
              · refine Nat.le_trans (ctF_le2 _ _ (fun i _ _ h => ?_)) h5
                by_cases ei : i = c
                · subst ei
                  rw [aS_e, hm0] at h
                  cases h
                · rw [aS_i ei] at h
                  exact h
              · by_cases h0 : A.2.2.1.2.1.1 7 c = 0
                · have h1 := ctF_up (P := fun x => !decide (A.2.2.1.2.1.1 7 x = 0)) (Q := fun x => !decide ((aS A.2.2.1.2.1 7 c m).1 7 x = 0)) (s := c) 16 0 (Nat.zero_le _) (by omega) (fun i hi => by rw [aS_i hi]) (by rw [h0]; rfl) (by rw [aS_e, decide_eq_false hm0]; rfl)
                  have h2 : ctF (fun c => !decide (A.2.2.1.2.1.1 7 c = 0)) 16 0 ≠ 5 := fun z => g2 ⟨h0, z⟩
                  omega
                · refine Nat.le_trans (ctF_le2 _ _ (fun i _ _ h => ?_)) h5
                  by_cases ei : i = c
                  · subst ei
                    rw [decide_eq_false h0]
                    rfl
                  · rw [aS_i ei] at h
                    exact h
            refine ⟨nI (A.2.2.1.2.1.1 7 c), wA (kA A) (aS A.2.2.1.2.1 7 c m), OkA_wk ok ⟨kw', hD.2.1, by have := hD.2.2.1; show A.2.2.1.2.1.1 0 0 ≤ _; omega, hD.2.2.2.1, hcnt⟩, ?_, ?_⟩
            · intro T G hR hG
              have e104 : T.2.1 104 c = nI (A.2.2.1.2.1.1 7 c) := (CD_w hR).2.2.2.2.1 c (by omega)
              have fin : ∀ T1 G1, RC (kA A) T1 G1 → RC (wA (kA A) (aS A.2.2.1.2.1 7 c m)) (x_sA T1 104 c (nI m)) G1 := by
                intro T1 G1 hc1
                have cw1 : CW T1 95 A.2.2.1.2.1 := CD_w (A := kA A) hc1
                obtain ⟨v0, v1, v2, v3, v4, v5⟩ := cw1
                refine RC_w hc1 ⟨v0, v1, v2, fun s hs => ?_, fun i hi => ?_, fun i hi => ?_⟩ (fun q qa qb => ⟨rfl, x_rAn (by omega)⟩) (fun q _ => rfl)
                · simp (disch := omega) only [x_rA1, x_rA3, x_rAe, x_rAn, x_rAi, x_rI2, x_rIe, x_rIn, x_rIi, x_rL1, x_rL2, x_rL4, x_rLe, x_rLi, x_rLn, x_rQ1, x_rQ2, x_rQ3, x_rQe, x_rQi, x_rQn, x_rR1, x_rR3, x_rRe, x_rRn, aS_n]
                  exact v3 s hs
                · by_cases ei : i = c
                  · subst ei
                    rw [aS_e]
                    exact x_rAe
                  · rw [aS_i ei]
                    show (x_sA T1 104 c (nI m)).2.1 104 i = _
                    rw [x_rAi ei]
                    exact v4 i hi
                · simp (disch := omega) only [x_rA1, x_rA3, x_rAe, x_rAn, x_rAi, x_rI2, x_rIe, x_rIn, x_rIi, x_rL1, x_rL2, x_rL4, x_rLe, x_rLi, x_rLn, x_rQ1, x_rQ2, x_rQ3, x_rQe, x_rQi, x_rQn, x_rR1, x_rR3, x_rRe, x_rRn, aS_n]
                  exact v5 i hi
              refine ep_succ (fun n => G105e0 n ..) ?_
              simp only [G105b0]
              refine ep_bv (g75n ok hR hx) ?_
              by_cases h0 : A.2.2.1.2.1.1 7 c = 0
              · have g1' : ¬ 0 = m := fun z => g1 (by rw [h0]; exact z)
                simp (maxSteps := 1000000) (disch := omega) only [hc, if_eq_b2i, L0, L1, L2, L3, L4, L5, L6, L7, L8, L9, L10, L11, L12, L13, L16, L20, L31, L32, L40, L48, L57, L59, L60, L61, L91, L93, L97, L99, L100, L102, L103, L114, L122, L255, L300, L400, L402, L999, L2280, L2500, L99999, L63, L1431655765, L858993459, L252645135, ic_ge, ic_gt, ic_le, ic_lt, ic_eq, ic_ne, if_lt, if_ge, if_gt, if_le, if_eq, if_ne, if_lt_zI, if_ge_zI, ic_ne_m1, ic_eq_m1, ic_nn_m1, ic_ee_m1, if_ne_b2i, if_eq_b2i, b2i_z, decide_eq_true_eq, decide_true, decide_false, Bool.not_eq_true, Bool.not_eq_true', Bool.not_true, Bool.not_false, decide_eq_false_iff_not, Bool.false_eq_true, not_false_eq_true, not_true_eq_false, if_true, if_false, ↓reduceIte, eq_self, Option.bind_some, Bool.true_and, Bool.false_and, Bool.and_true, Bool.and_false, nI_add, nI_subN, nI_clamp, gdF, gdF2, gdP, gdP2, zI_cl, zI_s, Lm1, nI_n0, zI_n0, leF, or_false, false_or, or_self, hm8, e104, h0, g1']
                refine ep_bv (g38 (CD_w hR) (fun i hi => (kw.2.2.1 i hi).1)) ?_
                have hlt : ctF (fun c => !decide (A.2.2.1.2.1.1 7 c = 0)) 16 0 < 5 := by
                  have : ctF (fun c => !decide (A.2.2.1.2.1.1 7 c = 0)) 16 0 ≠ 5 := fun z => g2 ⟨h0, z⟩
                  omega
                simp (maxSteps := 1000000) (disch := omega) only [L0, L1, L2, L3, L4, L5, L6, L7, L8, L9, L10, L11, L12, L13, L16, L20, L31, L32, L40, L48, L57, L59, L60, L61, L91, L93, L97, L99, L100, L102, L103, L114, L122, L255, L300, L400, L402, L999, L2280, L2500, L99999, L63, L1431655765, L858993459, L252645135, ic_ge, ic_gt, ic_le, ic_lt, ic_eq, ic_ne, if_lt, if_ge, if_gt, if_le, if_eq, if_ne, if_lt_zI, if_ge_zI, ic_ne_m1, ic_eq_m1, ic_nn_m1, ic_ee_m1, if_ne_b2i, if_eq_b2i, b2i_z, decide_eq_true_eq, decide_true, decide_false, Bool.not_eq_true, Bool.not_eq_true', Bool.not_true, Bool.not_false, decide_eq_false_iff_not, Bool.false_eq_true, not_false_eq_true, not_true_eq_false, if_true, if_false, ↓reduceIte, eq_self, Option.bind_some, Bool.true_and, Bool.false_and, Bool.and_true, Bool.and_false, nI_add, nI_subN, nI_clamp, gdF, gdF2, gdP, gdP2, zI_cl, zI_s, Lm1, nI_n0, zI_n0, leF, or_false, false_or, or_self, hlt]
                refine ep_bind (keepX ok hR) ?_
                rintro ⟨_, T1, G1⟩ ⟨hc1, hg1, hg2⟩
                simp (disch := omega) only [L0, L1, L2, L3, L4, L5, L6, L7, L8, L9, L10, L11, L12, L13, L16, L20, L31, L32, L40, L48, L57, L59, L60, L61, L91, L93, L97, L99, L100, L102, L103, L114, L122, L255, L300, L400, L402, L999, L2280, L2500, L99999, L63, L1431655765, L858993459, L252645135, ic_ge, ic_gt, ic_le, ic_lt, ic_eq, ic_ne, if_lt, if_ge, if_gt, if_le, if_eq, if_ne, if_lt_zI, if_ge_zI, ic_ne_m1, ic_eq_m1, ic_nn_m1, ic_ee_m1, if_ne_b2i, if_eq_b2i, b2i_z, decide_eq_true_eq, decide_true, decide_false, Bool.not_eq_true, Bool.not_eq_true', Bool.not_true, Bool.not_false, decide_eq_false_iff_not, Bool.false_eq_true, not_false_eq_true, not_true_eq_false, if_true, if_false, ↓reduceIte, eq_self, Option.bind_some, Bool.true_and, Bool.false_and, Bool.and_true, Bool.and_false, nI_add, nI_subN, nI_clamp, gdF, gdF2, gdP, gdP2, zI_cl, zI_s, Lm1, nI_n0, zI_n0, leF, or_false, false_or, or_self]
                exact ep_ret ⟨rfl, fin T1 G1 hc1, RG_k hG hg1 hg2⟩
              · simp (maxSteps := 1000000) (disch := omega) only [hc, if_eq_b2i, L0, L1, L2, L3, L4, L5, L6, L7, L8, L9, L10, L11, L12, L13, L16, L20, L31, L32, L40, L48, L57, L59, L60, L61, L91, L93, L97, L99, L100, L102, L103, L114, L122, L255, L300, L400, L402, L999, L2280, L2500, L99999, L63, L1431655765, L858993459, L252645135, ic_ge, ic_gt, ic_le, ic_lt, ic_eq, ic_ne, if_lt, if_ge, if_gt, if_le, if_eq, if_ne, if_lt_zI, if_ge_zI, ic_ne_m1, ic_eq_m1, ic_nn_m1, ic_ee_m1, if_ne_b2i, if_eq_b2i, b2i_z, decide_eq_true_eq, decide_true, decide_false, Bool.not_eq_true, Bool.not_eq_true', Bool.not_true, Bool.not_false, decide_eq_false_iff_not, Bool.false_eq_true, not_false_eq_true, not_true_eq_false, if_true, if_false, ↓reduceIte, eq_self, Option.bind_some, Bool.true_and, Bool.false_and, Bool.and_true, Bool.and_false, nI_add, nI_subN, nI_clamp, gdF, gdF2, gdP, gdP2, zI_cl, zI_s, Lm1, nI_n0, zI_n0, leF, or_false, false_or, or_self, hm8, e104, h0, g1]
                refine ep_bind (keepX ok hR) ?_
                rintro ⟨_, T1, G1⟩ ⟨hc1, hg1, hg2⟩
                simp (disch := omega) only [L0, L1, L2, L3, L4, L5, L6, L7, L8, L9, L10, L11, L12, L13, L16, L20, L31, L32, L40, L48, L57, L59, L60, L61, L91, L93, L97, L99, L100, L102, L103, L114, L122, L255, L300, L400, L402, L999, L2280, L2500, L99999, L63, L1431655765, L858993459, L252645135, ic_ge, ic_gt, ic_le, ic_lt, ic_eq, ic_ne, if_lt, if_ge, if_gt, if_le, if_eq, if_ne, if_lt_zI, if_ge_zI, ic_ne_m1, ic_eq_m1, ic_nn_m1, ic_ee_m1, if_ne_b2i, if_eq_b2i, b2i_z, decide_eq_true_eq, decide_true, decide_false, Bool.not_eq_true, Bool.not_eq_true', Bool.not_true, Bool.not_false, decide_eq_false_iff_not, Bool.false_eq_true, not_false_eq_true, not_true_eq_false, if_true, if_false, ↓reduceIte, eq_self, Option.bind_some, Bool.true_and, Bool.false_and, Bool.and_true, Bool.and_false, nI_add, nI_subN, nI_clamp, gdF, gdF2, gdP, gdP2, zI_cl, zI_s, Lm1, nI_n0, zI_n0, leF, or_false, false_or, or_self]
                exact ep_ret ⟨rfl, fin T1 G1 hc1, RG_k hG hg1 hg2⟩
            · intro S hS
              obtain ⟨q, al, a1, a2, a3, a4, a5, a6⟩ := (MD_w hS).2.2.2.2.2
              have hfx : Ev (fun n => F200 n (nI c) S) (zI (fdx al c q 0), S) := by
                refine ev_succ (fun n => F200e0 n ..) ?_
                simp only [F200b0, a2]
                refine ev_bind (f176_138 (f := al) (by omega) (by omega) (fun k hk => ⟨by have := (a4 k hk).1; omega, (a4 k hk).2.1⟩)) ?_
                exact ev_ret
              have fin : ∀ S1 S2 : mS, RM (kA A) S1 → MN S2.2.1 (aS A.2.2.1.2.1 7 c m) → S2.1 = S1.1 → (∀ k i, ¬ (k = 8 ∨ k = 9 ∨ (k = 1 ∧ i = 3)) → S2.2.1 k i = S1.2.1 k i) → RM (wA (kA A) (aS A.2.2.1.2.1 7 c m)) S2 := by
                intro S1 S2 hm1 hmn e1 e2
                have hw1 : MW S1.2.1 A.2.2.1.2.1 := MD_w (A := kA A) hm1
                obtain ⟨v0, v1, v2, v3, v4, v5⟩ := hw1
                refine RM_w (OkA_k ok) hm1 ⟨?_, ?_, ?_, fun s hs => ?_, fun i hi => ?_, hmn⟩ ⟨by rw [e1], by rw [e1], by rw [e1], by rw [e1]⟩ (fun k i hk => e2 k i (by omega))
                · rw [e2 1 4 (by omega)]
                  exact v0
                · rw [e2 1 6 (by omega)]
                  exact v1
                · rw [e2 1 5 (by omega)]
                  exact v2
                · rw [e2 10 s (by omega), e2 11 s (by omega), e2 12 s (by omega), e2 13 s (by omega), e2 14 s (by omega), e2 15 s (by omega)]
                  simp (disch := omega) only [aS_n]
                  exact v3 s hs
                · rw [e2 6 i (by omega), aS_n (by omega)]
                  exact v4 i hi
              refine ep_succ (fun n => F235e0 n ..) ?_
              simp only [F235b0]
              refine ep_bv (f196n ok hS hx) ?_
              simp only [hc, if_eq_b2i, decide_eq_true_eq, decide_true, decide_false, Bool.not_eq_true, Bool.not_eq_true', Bool.not_true, Bool.not_false, decide_eq_false_iff_not, Bool.false_eq_true, not_false_eq_true, not_true_eq_false, if_true, if_false, ↓reduceIte, eq_self, Option.bind_some, Bool.true_and, Bool.false_and, Bool.and_true, Bool.and_false]
              refine ep_bv (f172 S) ?_
              rw [hin]
              simp only [if_ne_b2i, decide_eq_true_eq, decide_true, decide_false, Bool.not_eq_true, Bool.not_eq_true', Bool.not_true, Bool.not_false, decide_eq_false_iff_not, Bool.false_eq_true, not_false_eq_true, not_true_eq_false, if_true, if_false, ↓reduceIte, eq_self, Option.bind_some, Bool.true_and, Bool.false_and, Bool.and_true, Bool.and_false]
              refine ep_bv hfx ?_
              cases hfd : fdx al c q 0 with
              | zero =>
                have h0 : A.2.2.1.2.1.1 7 c = 0 := by
                  by_cases z : A.2.2.1.2.1.1 7 c = 0
                  · exact z
                  · obtain ⟨j, hj, ej⟩ := a5 c (by omega) z
                    exact absurd ej (fdx_0 q 0 hfd j (by omega) (by omega))
                have hm0 : m ≠ 0 := fun z => g1 (by rw [h0, z])
                have g1' : ¬ 0 = m := fun z => hm0 z.symm
                have hq5 : ¬ q = 5 := fun z => g2 ⟨h0, by rw [← a3]; exact z⟩
                simp (maxSteps := 1000000) (disch := omega) only [L0, L1, L2, L3, L4, L5, L6, L7, L8, L9, L10, L11, L12, L13, L16, L20, L31, L32, L40, L48, L57, L59, L60, L61, L91, L93, L97, L99, L100, L102, L103, L114, L122, L255, L300, L400, L402, L999, L2280, L2500, L99999, L63, L1431655765, L858993459, L252645135, ic_ge, ic_gt, ic_le, ic_lt, ic_eq, ic_ne, if_lt, if_ge, if_gt, if_le, if_eq, if_ne, if_lt_zI, if_ge_zI, ic_ne_m1, ic_eq_m1, ic_nn_m1, ic_ee_m1, if_ne_b2i, if_eq_b2i, b2i_z, decide_eq_true_eq, decide_true, decide_false, Bool.not_eq_true, Bool.not_eq_true', Bool.not_true, Bool.not_false, decide_eq_false_iff_not, Bool.false_eq_true, not_false_eq_true, not_true_eq_false, if_true, if_false, ↓reduceIte, eq_self, Option.bind_some, Bool.true_and, Bool.false_and, Bool.and_true, Bool.and_false, nI_add, nI_subN, nI_clamp, gdF, gdF2, gdP, gdP2, zI_cl, zI_s, Lm1, nI_n0, zI_n0, leF, or_false, false_or, or_self, g1', a2, hq5]
                refine ep_bind (keepM2 ok hS) ?_
                rintro ⟨_, S1⟩ ⟨hm1, hrow⟩
                have hrow : ∀ q, q ≠ 35 → S1.2.1 q = S.2.1 q := hrow
                have h31 : S1.2.1 1 3 = nI q := by rw [hrow 1 (by decide)]; exact a2
                simp (maxSteps := 1000000) (disch := omega) only [L0, L1, L2, L3, L4, L5, L6, L7, L8, L9, L10, L11, L12, L13, L16, L20, L31, L32, L40, L48, L57, L59, L60, L61, L91, L93, L97, L99, L100, L102, L103, L114, L122, L255, L300, L400, L402, L999, L2280, L2500, L99999, L63, L1431655765, L858993459, L252645135, ic_ge, ic_gt, ic_le, ic_lt, ic_eq, ic_ne, if_lt, if_ge, if_gt, if_le, if_eq, if_ne, if_lt_zI, if_ge_zI, ic_ne_m1, ic_eq_m1, ic_nn_m1, ic_ee_m1, if_ne_b2i, if_eq_b2i, b2i_z, decide_eq_true_eq, decide_true, decide_false, Bool.not_eq_true, Bool.not_eq_true', Bool.not_true, Bool.not_false, decide_eq_false_iff_not, Bool.false_eq_true, not_false_eq_true, not_true_eq_false, if_true, if_false, ↓reduceIte, eq_self, Option.bind_some, Bool.true_and, Bool.false_and, Bool.and_true, Bool.and_false, nI_add, nI_subN, nI_clamp, gdF, gdF2, gdP, gdP2, zI_cl, zI_s, Lm1, nI_n0, zI_n0, leF, or_false, false_or, or_self, hm0]
                refine ep_bv (f237 (q := q) (by omega) h31) ?_
                rw [h0]
                refine ep_ret ⟨rfl, fin S1 _ hm1 (MN_add (r := S.2.1) (q := q) (a := al) ⟨a1, a2, a3, a4, a5, a6⟩ (by omega) (by omega) h0 hm0 m_rAe (fun i => ?_) (fun i => ?_)) rfl (fun k i hk => ?_)⟩
                · rw [m_rAn (by decide), m_rAn (by decide)]
                  by_cases ei : i = q
                  · subst ei
                    rw [m_rAe, if_pos rfl]
                  · rw [m_rAi ei, if_neg ei, hrow 8 (by decide)]
                · rw [m_rAn (by decide)]
                  by_cases ei : i = q
                  · subst ei
                    rw [m_rAe, if_pos rfl]
                  · rw [m_rAi ei, if_neg ei, m_rAn (by decide), hrow 9 (by decide)]
                · by_cases e1 : k = 1
                  · subst e1
                    rw [m_rAi (by omega), m_rAn (by decide), m_rAn (by decide)]
                  · rw [m_rAn e1, m_rAn (by omega), m_rAn (by omega)]
              | succ j =>
                have hfs := fdx_s q 0 hfd
                have hj := hfs.2.2
                have hjq : j < q := by omega
                obtain ⟨b1, b2, b3, b4⟩ := a4 j hjq
                rw [hj] at b3 b4
                simp (maxSteps := 1000000) (disch := omega) only [zI_s, L0, L1, L2, L3, L4, L5, L6, L7, L8, L9, L10, L11, L12, L13, L16, L20, L31, L32, L40, L48, L57, L59, L60, L61, L91, L93, L97, L99, L100, L102, L103, L114, L122, L255, L300, L400, L402, L999, L2280, L2500, L99999, L63, L1431655765, L858993459, L252645135, ic_ge, ic_gt, ic_le, ic_lt, ic_eq, ic_ne, if_lt, if_ge, if_gt, if_le, if_eq, if_ne, if_lt_zI, if_ge_zI, ic_ne_m1, ic_eq_m1, ic_nn_m1, ic_ee_m1, if_ne_b2i, if_eq_b2i, b2i_z, decide_eq_true_eq, decide_true, decide_false, Bool.not_eq_true, Bool.not_eq_true', Bool.not_true, Bool.not_false, decide_eq_false_iff_not, Bool.false_eq_true, not_false_eq_true, not_true_eq_false, if_true, if_false, ↓reduceIte, eq_self, Option.bind_some, Bool.true_and, Bool.false_and, Bool.and_true, Bool.and_false, nI_add, nI_subN, nI_clamp, gdF, gdF2, gdP, gdP2, zI_cl, zI_s, Lm1, nI_n0, zI_n0, leF, or_false, false_or, or_self, b3, g1]
                refine ep_bind (keepM2 ok hS) ?_
                rintro ⟨_, S1⟩ ⟨hm1, hrow⟩
                have hrow : ∀ q, q ≠ 35 → S1.2.1 q = S.2.1 q := hrow
                have h31 : S1.2.1 1 3 = nI q := by rw [hrow 1 (by decide)]; exact a2
                by_cases hm0 : m = 0
                · simp (maxSteps := 1000000) (disch := omega) only [L0, L1, L2, L3, L4, L5, L6, L7, L8, L9, L10, L11, L12, L13, L16, L20, L31, L32, L40, L48, L57, L59, L60, L61, L91, L93, L97, L99, L100, L102, L103, L114, L122, L255, L300, L400, L402, L999, L2280, L2500, L99999, L63, L1431655765, L858993459, L252645135, ic_ge, ic_gt, ic_le, ic_lt, ic_eq, ic_ne, if_lt, if_ge, if_gt, if_le, if_eq, if_ne, if_lt_zI, if_ge_zI, ic_ne_m1, ic_eq_m1, ic_nn_m1, ic_ee_m1, if_ne_b2i, if_eq_b2i, b2i_z, decide_eq_true_eq, decide_true, decide_false, Bool.not_eq_true, Bool.not_eq_true', Bool.not_true, Bool.not_false, decide_eq_false_iff_not, Bool.false_eq_true, not_false_eq_true, not_true_eq_false, if_true, if_false, ↓reduceIte, eq_self, Option.bind_some, Bool.true_and, Bool.false_and, Bool.and_true, Bool.and_false, nI_add, nI_subN, nI_clamp, gdF, gdF2, gdP, gdP2, zI_cl, zI_s, Lm1, nI_n0, zI_n0, leF, or_false, false_or, or_self, hm0]
                  refine ep_bv (f236 (q := q) a1 h31 hjq) ?_
                  have fin' := fin S1 (m_sA (shN S1 j (q - 1)) 1 3 (nI (q - 1))) hm1
                  rw [hm0] at fin'
                  refine ep_ret ⟨rfl, fin' (MN_del (r := S.2.1) (q := q) (a := al) (k := j) ⟨a1, a2, a3, a4, a5, a6⟩ hjq hj m_rAe (fun i hi => ?_) (fun i hi => ?_)) rfl (fun k i hk => ?_)⟩
                  · rw [m_rAn (by decide), shN_8, hrow 8 (by decide)]
                    by_cases z : i < j
                    · rw [if_pos z, if_neg (by omega)]
                    · rw [if_neg z, if_pos (by omega)]
                  · rw [m_rAn (by decide), shN_9, hrow 9 (by decide)]
                    by_cases z : i < j
                    · rw [if_pos z, if_neg (by omega)]
                    · rw [if_neg z, if_pos (by omega)]
                  · by_cases e1 : k = 1
                    · subst e1
                      rw [m_rAi (by omega), shN_n (by decide) (by decide)]
                    · rw [m_rAn e1, shN_n (by omega) (by omega)]
                · simp (maxSteps := 1000000) (disch := omega) only [L0, L1, L2, L3, L4, L5, L6, L7, L8, L9, L10, L11, L12, L13, L16, L20, L31, L32, L40, L48, L57, L59, L60, L61, L91, L93, L97, L99, L100, L102, L103, L114, L122, L255, L300, L400, L402, L999, L2280, L2500, L99999, L63, L1431655765, L858993459, L252645135, ic_ge, ic_gt, ic_le, ic_lt, ic_eq, ic_ne, if_lt, if_ge, if_gt, if_le, if_eq, if_ne, if_lt_zI, if_ge_zI, ic_ne_m1, ic_eq_m1, ic_nn_m1, ic_ee_m1, if_ne_b2i, if_eq_b2i, b2i_z, decide_eq_true_eq, decide_true, decide_false, Bool.not_eq_true, Bool.not_eq_true', Bool.not_true, Bool.not_false, decide_eq_false_iff_not, Bool.false_eq_true, not_false_eq_true, not_true_eq_false, if_true, if_false, ↓reduceIte, eq_self, Option.bind_some, Bool.true_and, Bool.false_and, Bool.and_true, Bool.and_false, nI_add, nI_subN, nI_clamp, gdF, gdF2, gdP, gdP2, zI_cl, zI_s, Lm1, nI_n0, zI_n0, leF, or_false, false_or, or_self, hm0]
                  refine ep_ret ⟨rfl, fin S1 _ hm1 (MN_set (r := S.2.1) (q := q) (a := al) (k := j) ⟨a1, a2, a3, a4, a5, a6⟩ hjq hj hm0 ?_ (fun i => ?_) (fun i => ?_)) rfl (fun k i hk => ?_)⟩
                  · rw [m_rAn (by decide), hrow 1 (by decide)]
                  · rw [m_rAn (by decide), hrow 8 (by decide)]
                  · by_cases ei : i = j
                    · subst ei
                      rw [m_rAe, if_pos rfl]
                    · rw [m_rAi ei, if_neg ei, hrow 9 (by decide)]
                  · rw [m_rAn (by omega)]
          · refine ⟨zI 0, A, ok1, fun T G hR hG => ?_, callM_id (fun S hS => ?_)⟩
            · have e104 : T.2.1 104 c = nI (A.2.2.1.2.1.1 7 c) := (CD_w hR).2.2.2.2.1 c (by omega)
              refine ep_succ (fun n => G105e0 n ..) ?_
              simp only [G105b0]
              refine ep_bv (g75n ok hR hx) ?_
              by_cases g1 : A.2.2.1.2.1.1 7 c = m
              · simp (maxSteps := 1000000) (disch := omega) only [hc, if_eq_b2i, L0, L1, L2, L3, L4, L5, L6, L7, L8, L9, L10, L11, L12, L13, L16, L20, L31, L32, L40, L48, L57, L59, L60, L61, L91, L93, L97, L99, L100, L102, L103, L114, L122, L255, L300, L400, L402, L999, L2280, L2500, L99999, L63, L1431655765, L858993459, L252645135, ic_ge, ic_gt, ic_le, ic_lt, ic_eq, ic_ne, if_lt, if_ge, if_gt, if_le, if_eq, if_ne, if_lt_zI, if_ge_zI, ic_ne_m1, ic_eq_m1, ic_nn_m1, ic_ee_m1, if_ne_b2i, if_eq_b2i, b2i_z, decide_eq_true_eq, decide_true, decide_false, Bool.not_eq_true, Bool.not_eq_true', Bool.not_true, Bool.not_false, decide_eq_false_iff_not, Bool.false_eq_true, not_false_eq_true, not_true_eq_false, if_true, if_false, ↓reduceIte, eq_self, Option.bind_some, Bool.true_and, Bool.false_and, Bool.and_true, Bool.and_false, nI_add, nI_subN, nI_clamp, gdF, gdF2, gdP, gdP2, zI_cl, zI_s, Lm1, nI_n0, zI_n0, leF, or_false, false_or, or_self, hm8, e104, g1]
                exact ep_ret ⟨rfl, hR, RG_s hG⟩
              · have g2 : A.2.2.1.2.1.1 7 c = 0 ∧ ctF (fun c => !decide (A.2.2.1.2.1.1 7 c = 0)) 16 0 = 5 := by
                  by_cases z : A.2.2.1.2.1.1 7 c = 0 ∧ ctF (fun c => !decide (A.2.2.1.2.1.1 7 c = 0)) 16 0 = 5
                  · exact z
                  · exact absurd ⟨g1, z⟩ hgo
                have g1' : ¬ 0 = m := fun z => g1 (by rw [g2.1]; exact z)
                simp (maxSteps := 1000000) (disch := omega) only [hc, if_eq_b2i, L0, L1, L2, L3, L4, L5, L6, L7, L8, L9, L10, L11, L12, L13, L16, L20, L31, L32, L40, L48, L57, L59, L60, L61, L91, L93, L97, L99, L100, L102, L103, L114, L122, L255, L300, L400, L402, L999, L2280, L2500, L99999, L63, L1431655765, L858993459, L252645135, ic_ge, ic_gt, ic_le, ic_lt, ic_eq, ic_ne, if_lt, if_ge, if_gt, if_le, if_eq, if_ne, if_lt_zI, if_ge_zI, ic_ne_m1, ic_eq_m1, ic_nn_m1, ic_ee_m1, if_ne_b2i, if_eq_b2i, b2i_z, decide_eq_true_eq, decide_true, decide_false, Bool.not_eq_true, Bool.not_eq_true', Bool.not_true, Bool.not_false, decide_eq_false_iff_not, Bool.false_eq_true, not_false_eq_true, not_true_eq_false, if_true, if_false, ↓reduceIte, eq_self, Option.bind_some, Bool.true_and, Bool.false_and, Bool.and_true, Bool.and_false, nI_add, nI_subN, nI_clamp, gdF, gdF2, gdP, gdP2, zI_cl, zI_s, Lm1, nI_n0, zI_n0, leF, or_false, false_or, or_self, hm8, e104, g2.1, g1']
                refine ep_bv (g38 (CD_w hR) (fun i hi => (kw.2.2.1 i hi).1)) ?_
                rw [g2.2]
                simp (disch := omega) only [L0, L1, L2, L3, L4, L5, L6, L7, L8, L9, L10, L11, L12, L13, L16, L20, L31, L32, L40, L48, L57, L59, L60, L61, L91, L93, L97, L99, L100, L102, L103, L114, L122, L255, L300, L400, L402, L999, L2280, L2500, L99999, L63, L1431655765, L858993459, L252645135, ic_ge, ic_gt, ic_le, ic_lt, ic_eq, ic_ne, if_lt, if_ge, if_gt, if_le, if_eq, if_ne, if_lt_zI, if_ge_zI, ic_ne_m1, ic_eq_m1, ic_nn_m1, ic_ee_m1, if_ne_b2i, if_eq_b2i, b2i_z, decide_eq_true_eq, decide_true, decide_false, Bool.not_eq_true, Bool.not_eq_true', Bool.not_true, Bool.not_false, decide_eq_false_iff_not, Bool.false_eq_true, not_false_eq_true, not_true_eq_false, if_true, if_false, ↓reduceIte, eq_self, Option.bind_some, Bool.true_and, Bool.false_and, Bool.and_true, Bool.and_false, nI_add, nI_subN, nI_clamp, gdF, gdF2, gdP, gdP2, zI_cl, zI_s, Lm1, nI_n0, zI_n0, leF, or_false, false_or, or_self, Nat.lt_irrefl]
                exact ep_ret ⟨rfl, hR, RG_s hG⟩
            · obtain ⟨j, ej, j13, j0, j9⟩ := f200 (c := c) (MD_w hS).2.2.2.2.2 (by omega)
              obtain ⟨q, al, a1, a2, a3, _⟩ := (MD_w hS).2.2.2.2.2
              refine ev_succ (fun n => F235e0 n ..) ?_
              simp only [F235b0]
              refine ev_bind (f196n ok hS hx) ?_
              simp only [hc, if_eq_b2i, decide_eq_true_eq, decide_true, decide_false, Bool.not_eq_true, Bool.not_eq_true', Bool.not_true, Bool.not_false, decide_eq_false_iff_not, Bool.false_eq_true, not_false_eq_true, not_true_eq_false, if_true, if_false, ↓reduceIte, eq_self, Option.bind_some, Bool.true_and, Bool.false_and, Bool.and_true, Bool.and_false]
              refine ev_bind (f172 S) ?_
              rw [hin]
              simp only [if_ne_b2i, decide_eq_true_eq, decide_true, decide_false, Bool.not_eq_true, Bool.not_eq_true', Bool.not_true, Bool.not_false, decide_eq_false_iff_not, Bool.false_eq_true, not_false_eq_true, not_true_eq_false, if_true, if_false, ↓reduceIte, eq_self, Option.bind_some, Bool.true_and, Bool.false_and, Bool.and_true, Bool.and_false]
              refine ev_bind ej ?_
              by_cases hj : j = 0
              · have h0 := j0.mp hj
                subst hj
                by_cases g1 : 0 = m
                · subst g1
                  simp (maxSteps := 1000000) (disch := omega) only [L0, L1, L2, L3, L4, L5, L6, L7, L8, L9, L10, L11, L12, L13, L16, L20, L31, L32, L40, L48, L57, L59, L60, L61, L91, L93, L97, L99, L100, L102, L103, L114, L122, L255, L300, L400, L402, L999, L2280, L2500, L99999, L63, L1431655765, L858993459, L252645135, ic_ge, ic_gt, ic_le, ic_lt, ic_eq, ic_ne, if_lt, if_ge, if_gt, if_le, if_eq, if_ne, if_lt_zI, if_ge_zI, ic_ne_m1, ic_eq_m1, ic_nn_m1, ic_ee_m1, if_ne_b2i, if_eq_b2i, b2i_z, decide_eq_true_eq, decide_true, decide_false, Bool.not_eq_true, Bool.not_eq_true', Bool.not_true, Bool.not_false, decide_eq_false_iff_not, Bool.false_eq_true, not_false_eq_true, not_true_eq_false, if_true, if_false, ↓reduceIte, eq_self, Option.bind_some, Bool.true_and, Bool.false_and, Bool.and_true, Bool.and_false, nI_add, nI_subN, nI_clamp, gdF, gdF2, gdP, gdP2, zI_cl, zI_s, Lm1, nI_n0, zI_n0, leF, or_false, false_or, or_self]
                  exact ev_ret
                · have g2 : q = 5 := by
                    rw [a3]
                    by_cases z : ctF (fun c => !decide (A.2.2.1.2.1.1 7 c = 0)) 16 0 = 5
                    · exact z
                    · exact absurd ⟨fun y => g1 (by rw [← y, h0]), fun y => z y.2⟩ hgo
                  simp (maxSteps := 1000000) (disch := omega) only [L0, L1, L2, L3, L4, L5, L6, L7, L8, L9, L10, L11, L12, L13, L16, L20, L31, L32, L40, L48, L57, L59, L60, L61, L91, L93, L97, L99, L100, L102, L103, L114, L122, L255, L300, L400, L402, L999, L2280, L2500, L99999, L63, L1431655765, L858993459, L252645135, ic_ge, ic_gt, ic_le, ic_lt, ic_eq, ic_ne, if_lt, if_ge, if_gt, if_le, if_eq, if_ne, if_lt_zI, if_ge_zI, ic_ne_m1, ic_eq_m1, ic_nn_m1, ic_ee_m1, if_ne_b2i, if_eq_b2i, b2i_z, decide_eq_true_eq, decide_true, decide_false, Bool.not_eq_true, Bool.not_eq_true', Bool.not_true, Bool.not_false, decide_eq_false_iff_not, Bool.false_eq_true, not_false_eq_true, not_true_eq_false, if_true, if_false, ↓reduceIte, eq_self, Option.bind_some, Bool.true_and, Bool.false_and, Bool.and_true, Bool.and_false, nI_add, nI_subN, nI_clamp, gdF, gdF2, gdP, gdP2, zI_cl, zI_s, Lm1, nI_n0, zI_n0, leF, or_false, false_or, or_self, g1, a2, g2]
                  exact ev_ret
              · have h0 : ¬ A.2.2.1.2.1.1 7 c = 0 := fun z => hj (j0.mpr z)
                have g1 : A.2.2.1.2.1.1 7 c = m := by
                  by_cases z : A.2.2.1.2.1.1 7 c = m
                  · exact z
                  · exact absurd ⟨z, fun y => h0 y.1⟩ hgo
                have h9 := j9 hj
                rw [g1] at h9
                simp (maxSteps := 1000000) (disch := omega) only [L0, L1, L2, L3, L4, L5, L6, L7, L8, L9, L10, L11, L12, L13, L16, L20, L31, L32, L40, L48, L57, L59, L60, L61, L91, L93, L97, L99, L100, L102, L103, L114, L122, L255, L300, L400, L402, L999, L2280, L2500, L99999, L63, L1431655765, L858993459, L252645135, ic_ge, ic_gt, ic_le, ic_lt, ic_eq, ic_ne, if_lt, if_ge, if_gt, if_le, if_eq, if_ne, if_lt_zI, if_ge_zI, ic_ne_m1, ic_eq_m1, ic_nn_m1, ic_ee_m1, if_ne_b2i, if_eq_b2i, b2i_z, decide_eq_true_eq, decide_true, decide_false, Bool.not_eq_true, Bool.not_eq_true', Bool.not_true, Bool.not_false, decide_eq_false_iff_not, Bool.false_eq_true, not_false_eq_true, not_true_eq_false, if_true, if_false, ↓reduceIte, eq_self, Option.bind_some, Bool.true_and, Bool.false_and, Bool.and_true, Bool.and_false, nI_add, nI_subN, nI_clamp, gdF, gdF2, gdP, gdP2, zI_cl, zI_s, Lm1, nI_n0, zI_n0, leF, or_false, false_or, or_self, hj, h9]
                exact ev_ret
        · have hin : inL (nI m).toInt64 0 8 = false := by
            have := inK (a := m) (k := 8) hm (by decide)
            rw [decide_eq_false hm8] at this
            exact this
          refine ⟨zI 0, A, ok1, fun T G hR hG => ?_, callM_id (fun S hS => ?_)⟩
          · refine ep_succ (fun n => G105e0 n ..) ?_
            simp only [G105b0]
            refine ep_bv (g75n ok hR hx) ?_
            simp (maxSteps := 1000000) (disch := omega) only [hc, if_eq_b2i, L0, L1, L2, L3, L4, L5, L6, L7, L8, L9, L10, L11, L12, L13, L16, L20, L31, L32, L40, L48, L57, L59, L60, L61, L91, L93, L97, L99, L100, L102, L103, L114, L122, L255, L300, L400, L402, L999, L2280, L2500, L99999, L63, L1431655765, L858993459, L252645135, ic_ge, ic_gt, ic_le, ic_lt, ic_eq, ic_ne, if_lt, if_ge, if_gt, if_le, if_eq, if_ne, if_lt_zI, if_ge_zI, ic_ne_m1, ic_eq_m1, ic_nn_m1, ic_ee_m1, if_ne_b2i, if_eq_b2i, b2i_z, decide_eq_true_eq, decide_true, decide_false, Bool.not_eq_true, Bool.not_eq_true', Bool.not_true, Bool.not_false, decide_eq_false_iff_not, Bool.false_eq_true, not_false_eq_true, not_true_eq_false, if_true, if_false, ↓reduceIte, eq_self, Option.bind_some, Bool.true_and, Bool.false_and, Bool.and_true, Bool.and_false, nI_add, nI_subN, nI_clamp, gdF, gdF2, gdP, gdP2, zI_cl, zI_s, Lm1, nI_n0, zI_n0, leF, or_false, false_or, or_self, hm8]
            exact ep_ret ⟨rfl, hR, RG_s hG⟩
          · refine ev_succ (fun n => F235e0 n ..) ?_
            simp only [F235b0]
            refine ev_bind (f196n ok hS hx) ?_
            simp only [hc, if_eq_b2i, decide_eq_true_eq, decide_true, decide_false, Bool.not_eq_true, Bool.not_eq_true', Bool.not_true, Bool.not_false, decide_eq_false_iff_not, Bool.false_eq_true, not_false_eq_true, not_true_eq_false, if_true, if_false, ↓reduceIte, eq_self, Option.bind_some, Bool.true_and, Bool.false_and, Bool.and_true, Bool.and_false]
            refine ev_bind (f172 S) ?_
            rw [hin]
            simp only [if_ne_b2i, decide_eq_true_eq, decide_true, decide_false, Bool.not_eq_true, Bool.not_eq_true', Bool.not_true, Bool.not_false, decide_eq_false_iff_not, Bool.false_eq_true, not_false_eq_true, not_true_eq_false, if_true, if_false, ↓reduceIte, eq_self, Option.bind_some, Bool.true_and, Bool.false_and, Bool.and_true, Bool.and_false]
            exact ev_ret
      · refine ⟨zI 0, A, ok1, fun T G hR hG => ?_, callM_id (fun S hS => ?_)⟩
        · refine ep_succ (fun n => G105e0 n ..) ?_
          simp only [G105b0]
          refine ep_bv (g75n ok hR hx) ?_
          simp only [hc, if_eq_b2i, (neg_if hneg).1, decide_eq_true_eq, decide_true, decide_false, Bool.not_eq_true, Bool.not_eq_true', Bool.not_true, Bool.not_false, decide_eq_false_iff_not, Bool.false_eq_true, not_false_eq_true, not_true_eq_false, if_true, if_false, ↓reduceIte, eq_self, Option.bind_some, Bool.true_and, Bool.false_and, Bool.and_true, Bool.and_false]
          exact ep_ret ⟨rfl, hR, RG_s hG⟩
        · refine ev_succ (fun n => F235e0 n ..) ?_
          simp only [F235b0]
          refine ev_bind (f196n ok hS hx) ?_
          simp only [hc, if_eq_b2i, decide_eq_true_eq, decide_true, decide_false, Bool.not_eq_true, Bool.not_eq_true', Bool.not_true, Bool.not_false, decide_eq_false_iff_not, Bool.false_eq_true, not_false_eq_true, not_true_eq_false, if_true, if_false, ↓reduceIte, eq_self, Option.bind_some, Bool.true_and, Bool.false_and, Bool.and_true, Bool.and_false]
          refine ev_bind (f172 S) ?_
          rw [inL_neg hneg]
          simp only [if_ne_b2i, decide_eq_true_eq, decide_true, decide_false, Bool.not_eq_true, Bool.not_eq_true', Bool.not_true, Bool.not_false, decide_eq_false_iff_not, Bool.false_eq_true, not_false_eq_true, not_true_eq_false, if_true, if_false, ↓reduceIte, eq_self, Option.bind_some, Bool.true_and, Bool.false_and, Bool.and_true, Bool.and_false]
          exact ev_ret
    · refine ⟨zI 0, A, ok1, fun T G hR hG => no1 T G hR ?_ hG, callM_id (fun S hm => no2 S ?_)⟩
      · have := g75n ok hR hx
        rw [decide_eq_false hc] at this
        exact this
      · have := f196n ok hm hx
        rw [decide_eq_false hc] at this
        exact this
  · exact ⟨zI 0, A, ok1, fun T G hR hG => no1 T G hR (g75m hx) hG, callM_id (fun S hm => no2 S (f196m hx))⟩
