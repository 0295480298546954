/-! acts that can be undone, in the reference -/
def poN (k i : Nat) : Nat := if k = 1 then (if i = 4 then 0 else if i = 3 then 1 else if i = 5 then 2 else if i = 6 then 3 else 1000) else if k = 6 ∧ i < 6 then 4 + i else if 8 ≤ k ∧ k ≤ 15 ∧ i < 13 then 10 + 13 * (k - 8) + i else 1000
def flP (r : Nat → Nat → Int32) (j : Nat) : Int32 := if j < 1 then r 1 4 else if j < 2 then r 1 3 else if j < 3 then r 1 5 else if j < 4 then r 1 6 else if j < 10 then r 6 (j - 4) else if j < 23 then r 8 (j - 10) else if j < 36 then r 9 (j - 23) else if j < 49 then r 10 (j - 36) else if j < 62 then r 11 (j - 49) else if j < 75 then r 12 (j - 62) else if j < 88 then r 13 (j - 75) else if j < 101 then r 14 (j - 88) else r 15 (j - 101)
theorem paR_po {f : Nat → Int32} {j k i : Nat} (h : (k = 1 ∧ 3 ≤ i ∧ i ≤ 6) ∨ (k = 6 ∧ i < 6) ∨ (8 ≤ k ∧ k ≤ 15 ∧ i < 13)) : paR f j k i = f (114 * j + poN k i) ∧ poN k i < 114 := by
  rcases h with ⟨rfl, h1, h2⟩ | ⟨rfl, h⟩ | ⟨h1, h2, h3⟩
  · have hi : i = 3 ∨ i = 4 ∨ i = 5 ∨ i = 6 := by omega
    rcases hi with rfl | rfl | rfl | rfl <;> exact ⟨rfl, by decide⟩
  · unfold paR poN
    rw [if_neg (by decide), if_pos rfl, if_neg (by decide), if_pos ⟨rfl, h⟩]
    exact ⟨rfl, by omega⟩
  · unfold paR poN
    rw [if_neg (by omega), if_neg (by omega), if_neg (by omega), if_neg (by omega), if_pos ⟨h1, h2, h3⟩]
    exact ⟨rfl, by omega⟩
theorem flP_po {r : Nat → Nat → Int32} {k i : Nat} (h : (k = 1 ∧ 3 ≤ i ∧ i ≤ 6) ∨ (k = 6 ∧ i < 6) ∨ (8 ≤ k ∧ k ≤ 15 ∧ i < 13)) : flP r (poN k i) = r k i := by
  rcases h with ⟨rfl, h1, h2⟩ | ⟨rfl, h⟩ | ⟨h1, h2, h3⟩
  · have hi : i = 3 ∨ i = 4 ∨ i = 5 ∨ i = 6 := by omega
    rcases hi with rfl | rfl | rfl | rfl <;> rfl
  · unfold poN
    rw [if_neg (by decide), if_pos ⟨rfl, h⟩]
    unfold flP
    rw [if_neg (by omega), if_neg (by omega), if_neg (by omega), if_neg (by omega), if_pos (by omega), Nat.add_sub_cancel_left]
  · unfold poN
    rw [if_neg (by omega), if_neg (by omega), if_pos ⟨h1, h2, h3⟩]
    have hk : k = 8 ∨ k = 9 ∨ k = 10 ∨ k = 11 ∨ k = 12 ∨ k = 13 ∨ k = 14 ∨ k = 15 := by omega
    rcases hk with rfl | rfl | rfl | rfl | rfl | rfl | rfl | rfl
    · unfold flP
      rw [show 10 + 13 * (8 - 8) + i = 10 + i by omega, if_neg (by omega), if_neg (by omega), if_neg (by omega), if_neg (by omega), if_neg (by omega), if_pos (by omega), Nat.add_sub_cancel_left]
    · unfold flP
      rw [show 10 + 13 * (9 - 8) + i = 23 + i by omega, if_neg (by omega), if_neg (by omega), if_neg (by omega), if_neg (by omega), if_neg (by omega), if_neg (by omega), if_pos (by omega), Nat.add_sub_cancel_left]
    · unfold flP
      rw [show 10 + 13 * (10 - 8) + i = 36 + i by omega, if_neg (by omega), if_neg (by omega), if_neg (by omega), if_neg (by omega), if_neg (by omega), if_neg (by omega), if_neg (by omega), if_pos (by omega), Nat.add_sub_cancel_left]
    · unfold flP
      rw [show 10 + 13 * (11 - 8) + i = 49 + i by omega, if_neg (by omega), if_neg (by omega), if_neg (by omega), if_neg (by omega), if_neg (by omega), if_neg (by omega), if_neg (by omega), if_neg (by omega), if_pos (by omega), Nat.add_sub_cancel_left]
    · unfold flP
      rw [show 10 + 13 * (12 - 8) + i = 62 + i by omega, if_neg (by omega), if_neg (by omega), if_neg (by omega), if_neg (by omega), if_neg (by omega), if_neg (by omega), if_neg (by omega), if_neg (by omega), if_neg (by omega), if_pos (by omega), Nat.add_sub_cancel_left]
    · unfold flP
      rw [show 10 + 13 * (13 - 8) + i = 75 + i by omega, if_neg (by omega), if_neg (by omega), if_neg (by omega), if_neg (by omega), if_neg (by omega), if_neg (by omega), if_neg (by omega), if_neg (by omega), if_neg (by omega), if_neg (by omega), if_pos (by omega), Nat.add_sub_cancel_left]
    · unfold flP
      rw [show 10 + 13 * (14 - 8) + i = 88 + i by omega, if_neg (by omega), if_neg (by omega), if_neg (by omega), if_neg (by omega), if_neg (by omega), if_neg (by omega), if_neg (by omega), if_neg (by omega), if_neg (by omega), if_neg (by omega), if_neg (by omega), if_pos (by omega), Nat.add_sub_cancel_left]
    · unfold flP
      rw [show 10 + 13 * (15 - 8) + i = 101 + i by omega, if_neg (by omega), if_neg (by omega), if_neg (by omega), if_neg (by omega), if_neg (by omega), if_neg (by omega), if_neg (by omega), if_neg (by omega), if_neg (by omega), if_neg (by omega), if_neg (by omega), if_neg (by omega), Nat.add_sub_cancel_left]
theorem SVs_one {p a : Nat} {fl : Nat → Int32} {S S' : mS} {base off : Nat} {x : Int32} (h : SVs p a fl S S' base off) (hx : fl off = x) : SVs p a fl S (m_sI (m_sA S' a (base + off) x) p (nI (base + off + 1))) base (off + 1) := by
  obtain ⟨h1, h2, h3, h4, h5, h6⟩ := h
  refine ⟨m_rIe, fun q hq => by rw [m_rIn hq]; exact h2 q hq, fun q hq => ?_, h4, fun i hi => ?_, fun j hj => ?_⟩
  · show (m_sA S' a _ x).2.1 q = _
    rw [m_rAn hq]
    exact h3 q hq
  · show (m_sA S' a _ x).2.1 a i = _
    rw [m_rAi (by omega)]
    exact h5 i (by omega)
  · show (m_sA S' a _ x).2.1 a (base + j) = _
    by_cases e : j = off
    · subst e
      rw [m_rAe, hx]
    · rw [m_rAi (by omega)]
      exact h6 j (by omega)
/-- an act is kept at place j -/
theorem f206s {S : mS} {j : Nat} (hj : j < 20) : Ep (fun n => F206 n (nI j) (nI 0) S) (fun z => (∀ q, q ≠ 48 → q ≠ 49 → z.2.1 q = S.1 q) ∧ (∀ q, q ≠ 35 → z.2.2.1 q = S.2.1 q) ∧ z.2.2.2 = S.2.2 ∧ (∀ i, i < 114 * j ∨ 114 * j + 114 ≤ i → z.2.2.1 35 i = S.2.1 35 i) ∧ (∀ i, i < 114 → z.2.2.1 35 (114 * j + i) = flP S.2.1 i)) := by
  refine ep_succ (fun n => F206e0 n ..) ?_
  simp (disch := omega) only [F206b0, nb0, L0, L1, L2, L3, L4, L5, L6, L7, L8, L9, L10, L11, L12, L13, L16, L20, L31, L32, L40, L48, L57, L59, L60, L61, L91, L93, L97, L99, L100, L102, L103, L114, L122, L255, L300, L400, L402, L999, L2280, L2500, L99999, L63, L1431655765, L858993459, L252645135, nI_mul, decide_eq_true_eq, decide_true, decide_false, Bool.not_eq_true, Bool.not_eq_true', Bool.not_true, Bool.not_false, decide_eq_false_iff_not, Bool.false_eq_true, not_false_eq_true, not_true_eq_false, if_true, if_false, ↓reduceIte, eq_self, Option.bind_some, Bool.true_and, Bool.false_and, Bool.and_true, Bool.and_false, m_rA1, m_rA3, m_rAe, m_rAn, m_rAi, m_rI2, m_rIe, m_rIn, m_rL1, m_rL2, m_rLe, m_rLi, m_rLn]
  obtain ⟨Sa, hSa⟩ : ∃ Sa, Sa = m_sI (m_sI S 48 (nI (114 * j))) 49 (nI 0) := ⟨_, rfl⟩
  rw [← hSa]
  have a49 : Sa.1 49 = nI 0 := by rw [hSa]; rfl
  have aq : ∀ q, q ≠ 48 → q ≠ 49 → Sa.1 q = S.1 q := by
    intro q h1 h2
    rw [hSa, m_rIn h2, m_rIn h1]
  have ar : Sa.2 = S.2 := by rw [hSa]; rfl
  have s0 : SVs 48 35 (flP S.2.1) Sa Sa (114 * j) 0 := ⟨by rw [hSa]; rfl, fun _ _ => rfl, fun _ _ => rfl, rfl, fun _ _ => rfl, fun j hj => by omega⟩
  have ax : ∀ k i, Sa.2.1 k i = S.2.1 k i := fun k i => by rw [ar]
  refine ep_bv (f207s (pos := 114 * j + 0) s0.1 (by rw [s0.2.1 49 (by decide)]; exact a49) (by omega)) ?_
  have s1 := SVs_one (x := S.2.1 1 4) s0 rfl
  simp only []
  obtain ⟨S1, hS1⟩ : ∃ S1, S1 = m_sI (m_sA Sa 35 (114 * j + 0) (S.2.1 1 4)) 48 (nI (114 * j + 0 + 1)) := ⟨_, rfl⟩
  rw [← hS1] at s1 ⊢
  rw [m_sA_id (S := S1) (k := 1) (j := 4) (by rw [s1.2.2.1 1 (by decide), ax])]
  refine ep_bv (f207s (pos := 114 * j + 1) s1.1 (by rw [s1.2.1 49 (by decide)]; exact a49) (by omega)) ?_
  have s2 := SVs_one (x := S.2.1 1 3) s1 rfl
  have x1 : S1.2.1 1 3 = S.2.1 1 3 := by rw [s1.2.2.1 1 (by decide), ax]
  simp only [x1]
  obtain ⟨S2, hS2⟩ : ∃ S2, S2 = m_sI (m_sA S1 35 (114 * j + 1) (S.2.1 1 3)) 48 (nI (114 * j + 1 + 1)) := ⟨_, rfl⟩
  rw [← hS2] at s2 ⊢
  rw [m_sA_id (S := S2) (k := 1) (j := 3) (by rw [s2.2.2.1 1 (by decide), ax])]
  refine ep_bv (f207s (pos := 114 * j + 2) s2.1 (by rw [s2.2.1 49 (by decide)]; exact a49) (by omega)) ?_
  have s3 := SVs_one (x := S.2.1 1 5) s2 rfl
  have x2 : S2.2.1 1 5 = S.2.1 1 5 := by rw [s2.2.2.1 1 (by decide), ax]
  simp only [x2]
  obtain ⟨S3, hS3⟩ : ∃ S3, S3 = m_sI (m_sA S2 35 (114 * j + 2) (S.2.1 1 5)) 48 (nI (114 * j + 2 + 1)) := ⟨_, rfl⟩
  rw [← hS3] at s3 ⊢
  rw [m_sA_id (S := S3) (k := 1) (j := 5) (by rw [s3.2.2.1 1 (by decide), ax])]
  refine ep_bv (f207s (pos := 114 * j + 3) s3.1 (by rw [s3.2.1 49 (by decide)]; exact a49) (by omega)) ?_
  have s4 := SVs_one (x := S.2.1 1 6) s3 rfl
  have x3 : S3.2.1 1 6 = S.2.1 1 6 := by rw [s3.2.2.1 1 (by decide), ax]
  simp only [x3]
  obtain ⟨S4, hS4⟩ : ∃ S4, S4 = m_sI (m_sA S3 35 (114 * j + 3) (S.2.1 1 6)) 48 (nI (114 * j + 3 + 1)) := ⟨_, rfl⟩
  rw [← hS4] at s4 ⊢
  rw [m_sA_id (S := S4) (k := 1) (j := 6) (by rw [s4.2.2.1 1 (by decide), ax])]
  refine ep_bv (f208_136s (pos := 114 * j + 4) s4.1 (by rw [s4.2.1 49 (by decide)]; exact a49) (by omega)) ?_
  have s5 := SVs_step (k := 6) (len := 6) s4 (by decide) (fun i hi => by
    have hp := flP_po (r := S.2.1) (k := 6) (i := i) (by omega)
    have hq : poN 6 i = 4 + i := by
      unfold poN
      rw [if_neg (by decide), if_pos ⟨rfl, hi⟩]
    rw [hq] at hp
    rw [ax]
    exact hp)
  simp only []
  obtain ⟨S5, hS5⟩ : ∃ S5, S5 = svG 48 35 S4 6 (114 * j + 4) 6 := ⟨_, rfl⟩
  rw [← hS5] at s5 ⊢
  refine ep_bv (f208_138s (pos := 114 * j + 10) s5.1 (by rw [s5.2.1 49 (by decide)]; exact a49) (by omega)) ?_
  have s6 := SVs_step (k := 8) (len := 13) s5 (by decide) (fun i hi => by
    have hp := flP_po (r := S.2.1) (k := 8) (i := i) (by omega)
    have hq : poN 8 i = 10 + i := by
      unfold poN
      rw [if_neg (by decide), if_neg (by omega), if_pos ⟨by decide, by decide, hi⟩]
    rw [hq] at hp
    rw [ax]
    exact hp)
  simp only []
  obtain ⟨S6, hS6⟩ : ∃ S6, S6 = svG 48 35 S5 8 (114 * j + 10) 13 := ⟨_, rfl⟩
  rw [← hS6] at s6 ⊢
  refine ep_bv (f208_139s (pos := 114 * j + 23) s6.1 (by rw [s6.2.1 49 (by decide)]; exact a49) (by omega)) ?_
  have s7 := SVs_step (k := 9) (len := 13) s6 (by decide) (fun i hi => by
    have hp := flP_po (r := S.2.1) (k := 9) (i := i) (by omega)
    have hq : poN 9 i = 23 + i := by
      unfold poN
      rw [if_neg (by decide), if_neg (by omega), if_pos ⟨by decide, by decide, hi⟩]
    rw [hq] at hp
    rw [ax]
    exact hp)
  simp only []
  obtain ⟨S7, hS7⟩ : ∃ S7, S7 = svG 48 35 S6 9 (114 * j + 23) 13 := ⟨_, rfl⟩
  rw [← hS7] at s7 ⊢
  refine ep_bv (f208_140s (pos := 114 * j + 36) s7.1 (by rw [s7.2.1 49 (by decide)]; exact a49) (by omega)) ?_
  have s8 := SVs_step (k := 10) (len := 13) s7 (by decide) (fun i hi => by
    have hp := flP_po (r := S.2.1) (k := 10) (i := i) (by omega)
    have hq : poN 10 i = 36 + i := by
      unfold poN
      rw [if_neg (by decide), if_neg (by omega), if_pos ⟨by decide, by decide, hi⟩]
    rw [hq] at hp
    rw [ax]
    exact hp)
  simp only []
  obtain ⟨S8, hS8⟩ : ∃ S8, S8 = svG 48 35 S7 10 (114 * j + 36) 13 := ⟨_, rfl⟩
  rw [← hS8] at s8 ⊢
  refine ep_bv (f208_141s (pos := 114 * j + 49) s8.1 (by rw [s8.2.1 49 (by decide)]; exact a49) (by omega)) ?_
  have s9 := SVs_step (k := 11) (len := 13) s8 (by decide) (fun i hi => by
    have hp := flP_po (r := S.2.1) (k := 11) (i := i) (by omega)
    have hq : poN 11 i = 49 + i := by
      unfold poN
      rw [if_neg (by decide), if_neg (by omega), if_pos ⟨by decide, by decide, hi⟩]
    rw [hq] at hp
    rw [ax]
    exact hp)
  simp only []
  obtain ⟨S9, hS9⟩ : ∃ S9, S9 = svG 48 35 S8 11 (114 * j + 49) 13 := ⟨_, rfl⟩
  rw [← hS9] at s9 ⊢
  refine ep_bv (f208_142s (pos := 114 * j + 62) s9.1 (by rw [s9.2.1 49 (by decide)]; exact a49) (by omega)) ?_
  have s10 := SVs_step (k := 12) (len := 13) s9 (by decide) (fun i hi => by
    have hp := flP_po (r := S.2.1) (k := 12) (i := i) (by omega)
    have hq : poN 12 i = 62 + i := by
      unfold poN
      rw [if_neg (by decide), if_neg (by omega), if_pos ⟨by decide, by decide, hi⟩]
    rw [hq] at hp
    rw [ax]
    exact hp)
  simp only []
  obtain ⟨S10, hS10⟩ : ∃ S10, S10 = svG 48 35 S9 12 (114 * j + 62) 13 := ⟨_, rfl⟩
  rw [← hS10] at s10 ⊢
  refine ep_bv (f208_143s (pos := 114 * j + 75) s10.1 (by rw [s10.2.1 49 (by decide)]; exact a49) (by omega)) ?_
  have s11 := SVs_step (k := 13) (len := 13) s10 (by decide) (fun i hi => by
    have hp := flP_po (r := S.2.1) (k := 13) (i := i) (by omega)
    have hq : poN 13 i = 75 + i := by
      unfold poN
      rw [if_neg (by decide), if_neg (by omega), if_pos ⟨by decide, by decide, hi⟩]
    rw [hq] at hp
    rw [ax]
    exact hp)
  simp only []
  obtain ⟨S11, hS11⟩ : ∃ S11, S11 = svG 48 35 S10 13 (114 * j + 75) 13 := ⟨_, rfl⟩
  rw [← hS11] at s11 ⊢
  refine ep_bv (f208_144s (pos := 114 * j + 88) s11.1 (by rw [s11.2.1 49 (by decide)]; exact a49) (by omega)) ?_
  have s12 := SVs_step (k := 14) (len := 13) s11 (by decide) (fun i hi => by
    have hp := flP_po (r := S.2.1) (k := 14) (i := i) (by omega)
    have hq : poN 14 i = 88 + i := by
      unfold poN
      rw [if_neg (by decide), if_neg (by omega), if_pos ⟨by decide, by decide, hi⟩]
    rw [hq] at hp
    rw [ax]
    exact hp)
  simp only []
  obtain ⟨S12, hS12⟩ : ∃ S12, S12 = svG 48 35 S11 14 (114 * j + 88) 13 := ⟨_, rfl⟩
  rw [← hS12] at s12 ⊢
  refine ep_bv (f208_145s (pos := 114 * j + 101) s12.1 (by rw [s12.2.1 49 (by decide)]; exact a49) (by omega)) ?_
  have s13 := SVs_step (k := 15) (len := 13) s12 (by decide) (fun i hi => by
    have hp := flP_po (r := S.2.1) (k := 15) (i := i) (by omega)
    have hq : poN 15 i = 101 + i := by
      unfold poN
      rw [if_neg (by decide), if_neg (by omega), if_pos ⟨by decide, by decide, hi⟩]
    rw [hq] at hp
    rw [ax]
    exact hp)
  simp only []
  obtain ⟨S13, hS13⟩ : ∃ S13, S13 = svG 48 35 S12 15 (114 * j + 101) 13 := ⟨_, rfl⟩
  rw [← hS13] at s13 ⊢
  refine ep_ret ⟨fun q h1 h2 => ?_, fun q h1 => ?_, ?_, fun i hi => ?_, fun i hi => s13.2.2.2.2.2 i hi⟩
  · rw [s13.2.1 q h1]
    exact aq q h1 h2
  · rw [s13.2.2.1 q h1, ar]
  · rw [s13.2.2.2.1, ar]
  · rw [s13.2.2.2.2.1 i (by omega), ar]
def LBs (S S' : mS) (base off : Nat) : Prop := S'.1 48 = nI (base + off) ∧ (∀ q, q ≠ 48 → S'.1 q = S.1 q) ∧ S'.2.1 35 = S.2.1 35 ∧ S'.2.2 = S.2.2 ∧ (∀ k i, k ≠ 35 → S'.2.1 k i = if poN k i < off then S.2.1 35 (base + poN k i) else S.2.1 k i)
theorem LBs_step {S S' : mS} {base off k len : Nat} (h : LBs S S' base off) (hk : k ≠ 35) (h1 : ∀ i, i < len → poN k i = off + i) (h2 : ∀ k' i', off ≤ poN k' i' → poN k' i' < off + len → k' = k ∧ i' < len) : LBs S (ldG 48 35 S' k (base + off) len) base (off + len) := by
  obtain ⟨g1, g2, g3, g4, g5⟩ := h
  refine ⟨by rw [ld_p, Nat.add_assoc], fun q hq => by rw [ld_n hq]; exact g2 q hq, by rw [ld_r (fun e => hk e.symm)]; exact g3, g4, fun k' i hk' => ?_⟩
  by_cases e : k' = k
  · subst e
    rw [ld_a, g3, g5 k' i hk']
    by_cases hi : i < len
    · rw [if_pos hi, h1 i hi, if_pos (by omega), Nat.add_assoc]
    · rw [if_neg hi]
      by_cases c : poN k' i < off
      · rw [if_pos c, if_pos (by omega)]
      · rw [if_neg c, if_neg (fun z => hi (h2 k' i (by omega) z).2)]
  · rw [ld_r e, g5 k' i hk']
    by_cases c : poN k' i < off
    · rw [if_pos c, if_pos (by omega)]
    · rw [if_neg c, if_neg (fun z => e (h2 k' i (by omega) z).1)]
theorem LBs_one {S S' : mS} {base off c : Nat} (h : LBs S S' base off) (h1 : poN 1 c = off) (h2 : ∀ k' i', poN k' i' = off → k' = 1 ∧ i' = c) : LBs S (m_sA (m_sI S' 48 (nI (base + off + 1))) 1 c (S'.2.1 35 (base + off))) base (off + 1) := by
  obtain ⟨g1, g2, g3, g4, g5⟩ := h
  refine ⟨?_, fun q hq => ?_, ?_, g4, fun k' i hk' => ?_⟩
  · show (m_sI S' 48 (nI (base + off + 1))).1 48 = nI (base + off + 1)
    exact m_rIe
  · show (m_sI S' 48 _).1 q = _
    rw [m_rIn hq]
    exact g2 q hq
  · rw [m_rAn (by decide)]
    exact g3
  · by_cases e : k' = 1 ∧ i = c
    · obtain ⟨rfl, rfl⟩ := e
      rw [m_rAe, g3, h1, if_pos (by omega)]
    · have er : (m_sA (m_sI S' 48 (nI (base + off + 1))) 1 c (S'.2.1 35 (base + off))).2.1 k' i = S'.2.1 k' i := by
        by_cases e1 : k' = 1
        · subst e1
          rw [m_rAi (fun z => e ⟨rfl, z⟩)]
          rfl
        · rw [m_rAn e1]
          rfl
      rw [er, g5 k' i hk']
      by_cases cc : poN k' i < off
      · rw [if_pos cc, if_pos (by omega)]
      · rw [if_neg cc, if_neg (fun z => e (h2 k' i (by omega)))]
theorem poN_c (k i : Nat) : (k = 1 ∧ i = 4 ∧ poN k i = 0) ∨ (k = 1 ∧ i = 3 ∧ poN k i = 1) ∨ (k = 1 ∧ i = 5 ∧ poN k i = 2) ∨ (k = 1 ∧ i = 6 ∧ poN k i = 3) ∨ (k = 6 ∧ i < 6 ∧ poN k i = 4 + i) ∨ (8 ≤ k ∧ k ≤ 15 ∧ i < 13 ∧ poN k i = 10 + 13 * (k - 8) + i) ∨ poN k i = 1000 := by
  unfold poN
  by_cases h1 : k = 1
  · rw [if_pos h1]
    by_cases a : i = 4
    · rw [if_pos a]; omega
    · rw [if_neg a]
      by_cases b : i = 3
      · rw [if_pos b]; omega
      · rw [if_neg b]
        by_cases c : i = 5
        · rw [if_pos c]; omega
        · rw [if_neg c]
          by_cases d : i = 6
          · rw [if_pos d]; omega
          · rw [if_neg d]; omega
  · rw [if_neg h1]
    by_cases h2 : k = 6 ∧ i < 6
    · rw [if_pos h2]; omega
    · rw [if_neg h2]
      by_cases h3 : 8 ≤ k ∧ k ≤ 15 ∧ i < 13
      · rw [if_pos h3]; omega
      · rw [if_neg h3]; omega
/-- an act at place j is taken back -/
theorem f206b {S : mS} {j : Nat} (hj : j < 20) : Ep (fun n => F206 n (nI j) (nI 1) S) (fun z => (∀ q, q ≠ 48 → q ≠ 49 → z.2.1 q = S.1 q) ∧ z.2.2.1 35 = S.2.1 35 ∧ z.2.2.2 = S.2.2 ∧ (∀ k i, k ≠ 35 → z.2.2.1 k i = if poN k i < 114 then S.2.1 35 (114 * j + poN k i) else S.2.1 k i)) := by
  refine ep_succ (fun n => F206e0 n ..) ?_
  simp (disch := omega) only [F206b0, nb1, L0, L1, L2, L3, L4, L5, L6, L7, L8, L9, L10, L11, L12, L13, L16, L20, L31, L32, L40, L48, L57, L59, L60, L61, L91, L93, L97, L99, L100, L102, L103, L114, L122, L255, L300, L400, L402, L999, L2280, L2500, L99999, L63, L1431655765, L858993459, L252645135, nI_mul, decide_eq_true_eq, decide_true, decide_false, Bool.not_eq_true, Bool.not_eq_true', Bool.not_true, Bool.not_false, decide_eq_false_iff_not, Bool.false_eq_true, not_false_eq_true, not_true_eq_false, if_true, if_false, ↓reduceIte, eq_self, Option.bind_some, Bool.true_and, Bool.false_and, Bool.and_true, Bool.and_false, m_rA1, m_rA3, m_rAe, m_rAn, m_rAi, m_rI2, m_rIe, m_rIn, m_rL1, m_rL2, m_rLe, m_rLi, m_rLn]
  obtain ⟨Sa, hSa⟩ : ∃ Sa, Sa = m_sI (m_sI S 48 (nI (114 * j))) 49 (nI 1) := ⟨_, rfl⟩
  rw [← hSa]
  have a49 : Sa.1 49 = nI 1 := by rw [hSa]; rfl
  have aq : ∀ q, q ≠ 48 → q ≠ 49 → Sa.1 q = S.1 q := by
    intro q h1 h2
    rw [hSa, m_rIn h2, m_rIn h1]
  have ar : Sa.2 = S.2 := by rw [hSa]; rfl
  have s0 : LBs Sa Sa (114 * j) 0 := ⟨by rw [hSa]; rfl, fun _ _ => rfl, rfl, rfl, fun k i _ => by rw [if_neg (by omega)]⟩
  refine ep_bv (f207b (pos := 114 * j + 0) s0.1 (by rw [s0.2.1 49 (by decide)]; exact a49) (by omega)) ?_
  have s1 := LBs_one (c := 4) s0 rfl (fun k' i' h => by have := poN_c k' i'; omega)
  simp only []
  obtain ⟨S1, hS1⟩ : ∃ S1, S1 = m_sA (m_sI Sa 48 (nI (114 * j + 0 + 1))) 1 4 (Sa.2.1 35 (114 * j + 0)) := ⟨_, rfl⟩
  rw [← hS1] at s1 ⊢
  refine ep_bv (f207b (pos := 114 * j + 1) s1.1 (by rw [s1.2.1 49 (by decide)]; exact a49) (by omega)) ?_
  have s2 := LBs_one (c := 3) s1 rfl (fun k' i' h => by have := poN_c k' i'; omega)
  simp only []
  obtain ⟨S2, hS2⟩ : ∃ S2, S2 = m_sA (m_sI S1 48 (nI (114 * j + 1 + 1))) 1 3 (S1.2.1 35 (114 * j + 1)) := ⟨_, rfl⟩
  rw [← hS2] at s2 ⊢
  refine ep_bv (f207b (pos := 114 * j + 2) s2.1 (by rw [s2.2.1 49 (by decide)]; exact a49) (by omega)) ?_
  have s3 := LBs_one (c := 5) s2 rfl (fun k' i' h => by have := poN_c k' i'; omega)
  simp only []
  obtain ⟨S3, hS3⟩ : ∃ S3, S3 = m_sA (m_sI S2 48 (nI (114 * j + 2 + 1))) 1 5 (S2.2.1 35 (114 * j + 2)) := ⟨_, rfl⟩
  rw [← hS3] at s3 ⊢
  refine ep_bv (f207b (pos := 114 * j + 3) s3.1 (by rw [s3.2.1 49 (by decide)]; exact a49) (by omega)) ?_
  have s4 := LBs_one (c := 6) s3 rfl (fun k' i' h => by have := poN_c k' i'; omega)
  simp only []
  obtain ⟨S4, hS4⟩ : ∃ S4, S4 = m_sA (m_sI S3 48 (nI (114 * j + 3 + 1))) 1 6 (S3.2.1 35 (114 * j + 3)) := ⟨_, rfl⟩
  rw [← hS4] at s4 ⊢
  refine ep_bv (f208_136b (pos := 114 * j + 4) s4.1 (by rw [s4.2.1 49 (by decide)]; exact a49) (by omega)) ?_
  have s5 := LBs_step (k := 6) (len := 6) s4 (by decide) (fun i hi => by have := poN_c 6 i; unfold poN; rw [if_neg (by decide), if_pos ⟨rfl, hi⟩]) (fun k' i' h1 h2 => by have := poN_c k' i'; omega)
  simp only []
  obtain ⟨S5, hS5⟩ : ∃ S5, S5 = ldG 48 35 S4 6 (114 * j + 4) 6 := ⟨_, rfl⟩
  rw [← hS5] at s5 ⊢
  refine ep_bv (f208_138b (pos := 114 * j + 10) s5.1 (by rw [s5.2.1 49 (by decide)]; exact a49) (by omega)) ?_
  have s6 := LBs_step (k := 8) (len := 13) s5 (by decide) (fun i hi => by have := poN_c 8 i; unfold poN; rw [if_neg (by decide), if_neg (by omega), if_pos ⟨by decide, by decide, hi⟩]) (fun k' i' h1 h2 => by have := poN_c k' i'; omega)
  simp only []
  obtain ⟨S6, hS6⟩ : ∃ S6, S6 = ldG 48 35 S5 8 (114 * j + 10) 13 := ⟨_, rfl⟩
  rw [← hS6] at s6 ⊢
  refine ep_bv (f208_139b (pos := 114 * j + 23) s6.1 (by rw [s6.2.1 49 (by decide)]; exact a49) (by omega)) ?_
  have s7 := LBs_step (k := 9) (len := 13) s6 (by decide) (fun i hi => by have := poN_c 9 i; unfold poN; rw [if_neg (by decide), if_neg (by omega), if_pos ⟨by decide, by decide, hi⟩]) (fun k' i' h1 h2 => by have := poN_c k' i'; omega)
  simp only []
  obtain ⟨S7, hS7⟩ : ∃ S7, S7 = ldG 48 35 S6 9 (114 * j + 23) 13 := ⟨_, rfl⟩
  rw [← hS7] at s7 ⊢
  refine ep_bv (f208_140b (pos := 114 * j + 36) s7.1 (by rw [s7.2.1 49 (by decide)]; exact a49) (by omega)) ?_
  have s8 := LBs_step (k := 10) (len := 13) s7 (by decide) (fun i hi => by have := poN_c 10 i; unfold poN; rw [if_neg (by decide), if_neg (by omega), if_pos ⟨by decide, by decide, hi⟩]) (fun k' i' h1 h2 => by have := poN_c k' i'; omega)
  simp only []
  obtain ⟨S8, hS8⟩ : ∃ S8, S8 = ldG 48 35 S7 10 (114 * j + 36) 13 := ⟨_, rfl⟩
  rw [← hS8] at s8 ⊢
  refine ep_bv (f208_141b (pos := 114 * j + 49) s8.1 (by rw [s8.2.1 49 (by decide)]; exact a49) (by omega)) ?_
  have s9 := LBs_step (k := 11) (len := 13) s8 (by decide) (fun i hi => by have := poN_c 11 i; unfold poN; rw [if_neg (by decide), if_neg (by omega), if_pos ⟨by decide, by decide, hi⟩]) (fun k' i' h1 h2 => by have := poN_c k' i'; omega)
  simp only []
  obtain ⟨S9, hS9⟩ : ∃ S9, S9 = ldG 48 35 S8 11 (114 * j + 49) 13 := ⟨_, rfl⟩
  rw [← hS9] at s9 ⊢
  refine ep_bv (f208_142b (pos := 114 * j + 62) s9.1 (by rw [s9.2.1 49 (by decide)]; exact a49) (by omega)) ?_
  have s10 := LBs_step (k := 12) (len := 13) s9 (by decide) (fun i hi => by have := poN_c 12 i; unfold poN; rw [if_neg (by decide), if_neg (by omega), if_pos ⟨by decide, by decide, hi⟩]) (fun k' i' h1 h2 => by have := poN_c k' i'; omega)
  simp only []
  obtain ⟨S10, hS10⟩ : ∃ S10, S10 = ldG 48 35 S9 12 (114 * j + 62) 13 := ⟨_, rfl⟩
  rw [← hS10] at s10 ⊢
  refine ep_bv (f208_143b (pos := 114 * j + 75) s10.1 (by rw [s10.2.1 49 (by decide)]; exact a49) (by omega)) ?_
  have s11 := LBs_step (k := 13) (len := 13) s10 (by decide) (fun i hi => by have := poN_c 13 i; unfold poN; rw [if_neg (by decide), if_neg (by omega), if_pos ⟨by decide, by decide, hi⟩]) (fun k' i' h1 h2 => by have := poN_c k' i'; omega)
  simp only []
  obtain ⟨S11, hS11⟩ : ∃ S11, S11 = ldG 48 35 S10 13 (114 * j + 75) 13 := ⟨_, rfl⟩
  rw [← hS11] at s11 ⊢
  refine ep_bv (f208_144b (pos := 114 * j + 88) s11.1 (by rw [s11.2.1 49 (by decide)]; exact a49) (by omega)) ?_
  have s12 := LBs_step (k := 14) (len := 13) s11 (by decide) (fun i hi => by have := poN_c 14 i; unfold poN; rw [if_neg (by decide), if_neg (by omega), if_pos ⟨by decide, by decide, hi⟩]) (fun k' i' h1 h2 => by have := poN_c k' i'; omega)
  simp only []
  obtain ⟨S12, hS12⟩ : ∃ S12, S12 = ldG 48 35 S11 14 (114 * j + 88) 13 := ⟨_, rfl⟩
  rw [← hS12] at s12 ⊢
  refine ep_bv (f208_145b (pos := 114 * j + 101) s12.1 (by rw [s12.2.1 49 (by decide)]; exact a49) (by omega)) ?_
  have s13 := LBs_step (k := 15) (len := 13) s12 (by decide) (fun i hi => by have := poN_c 15 i; unfold poN; rw [if_neg (by decide), if_neg (by omega), if_pos ⟨by decide, by decide, hi⟩]) (fun k' i' h1 h2 => by have := poN_c k' i'; omega)
  simp only []
  obtain ⟨S13, hS13⟩ : ∃ S13, S13 = ldG 48 35 S12 15 (114 * j + 101) 13 := ⟨_, rfl⟩
  rw [← hS13] at s13 ⊢
  refine ep_ret ⟨fun q h1 h2 => ?_, ?_, ?_, fun k i hk => ?_⟩
  · rw [s13.2.1 q h1]
    exact aq q h1 h2
  · rw [s13.2.2.1, ar]
  · rw [s13.2.2.2.1, ar]
  · rw [s13.2.2.2.2 k i hk, ar]
/-- one more act; the oldest is lost if there are 20 -/
def keepA (ps : List AW) (w : AW) : List AW := (if ps.length = 20 then ps.tail else ps) ++ [w]
theorem keepA_len {ps : List AW} {w : AW} (h : ps.length ≤ 20) : (keepA ps w).length = (if ps.length = 20 then 20 else ps.length + 1) := by
  unfold keepA
  by_cases e : ps.length = 20
  · rw [if_pos e, if_pos e, List.length_append, List.length_tail, e]
    rfl
  · rw [if_neg e, if_neg e, List.length_append]
    rfl
/-- the shift of what can be undone -/
def shS (S : mS) (l : Nat) : mS := (S.1, va_up S.2.1 35 (fun i => if i + 114 < l then S.2.1 35 (i + 114) else S.2.1 35 i), S.2.2)
theorem shS_0 {S : mS} : shS S 114 = S := by
  unfold shS
  refine Prod.ext rfl (Prod.ext (va_id ?_) rfl)
  funext i
  exact (if_neg (by omega)).symm
theorem shS_s {S : mS} {l : Nat} (h : 114 ≤ l) : m_sA (shS S l) 35 (l - 114) ((shS S l).2.1 35 l) = shS S (l + 1) := by
  unfold shS m_sA
  refine Prod.ext rfl (Prod.ext ?_ rfl)
  funext q
  by_cases e : q = 35
  · subst e
    simp only [va_upS]
    funext i
    by_cases ei : i = l - 114
    · subst ei
      rw [upd_e, if_neg (by omega), if_pos (by omega), show l - 114 + 114 = l by omega]
    · rw [upd_n ei]
      by_cases c : i + 114 < l
      · rw [if_pos c, if_pos (by omega)]
      · rw [if_neg c, if_neg (by omega)]
  · simp only [va_upN e]
theorem f211s {S : mS} {P : Unit × mS → Prop} (K : Ep (fun n => (F206 n ((m_sI (shS S 2280) 47 (((shS S 2280).1 47) - nI 1)).1 47) (nI 0) (m_sI (shS S 2280) 47 (((shS S 2280).1 47) - nI 1))).bind (fun z5 => some ((), (m_sI z5.2 47 ((z5.2.1 47) + nI 1))))) P) : ∀ m l, l + m = 2280 → 114 ≤ l → Ep (fun n => F211f n 12 (nI l) (shS S l)) P := by
  intro m
  induction m with
  | zero =>
    intro l hl h1
    refine ep_succ (fun n => F211e12 n ..) ?_
    have : l = 2280 := by omega
    subst this
    simp only [F211b12, L0, L1, L2, L3, L4, L5, L6, L7, L8, L9, L10, L11, L12, L13, L16, L20, L31, L32, L40, L48, L57, L59, L60, L61, L91, L93, L97, L99, L100, L102, L103, L114, L122, L255, L300, L400, L402, L999, L2280, L2500, L99999, L63, L1431655765, L858993459, L252645135]
    simp (disch := omega) only [ic_ge, Nat.le_refl, decide_eq_true_eq, decide_true, decide_false, Bool.not_eq_true, Bool.not_eq_true', Bool.not_true, Bool.not_false, decide_eq_false_iff_not, Bool.false_eq_true, not_false_eq_true, not_true_eq_false, if_true, if_false, ↓reduceIte, eq_self, Option.bind_some, Bool.true_and, Bool.false_and, Bool.and_true, Bool.and_false]
    exact K
  | succ m ih =>
    intro l hl h1
    refine ep_succ (fun n => F211e12 n ..) ?_
    have e : ¬ 2280 ≤ l := by omega
    simp (disch := omega) only [F211b12, L0, L1, L2, L3, L4, L5, L6, L7, L8, L9, L10, L11, L12, L13, L16, L20, L31, L32, L40, L48, L57, L59, L60, L61, L91, L93, L97, L99, L100, L102, L103, L114, L122, L255, L300, L400, L402, L999, L2280, L2500, L99999, L63, L1431655765, L858993459, L252645135, ic_ge, ic_gt, ic_le, ic_lt, ic_eq, ic_ne, if_lt, if_ge, if_gt, if_le, if_eq, if_ne, if_lt_zI, if_ge_zI, ic_ne_m1, ic_eq_m1, ic_nn_m1, ic_ee_m1, if_ne_b2i, if_eq_b2i, b2i_z, decide_eq_true_eq, decide_true, decide_false, Bool.not_eq_true, Bool.not_eq_true', Bool.not_true, Bool.not_false, decide_eq_false_iff_not, Bool.false_eq_true, not_false_eq_true, not_true_eq_false, if_true, if_false, ↓reduceIte, eq_self, Option.bind_some, Bool.true_and, Bool.false_and, Bool.and_true, Bool.and_false, nI_add, nI_subN, nI_clamp, gdF, gdF2, gdP, gdP2, zI_cl, zI_s, Lm1, nI_n0, zI_n0, leF, or_false, false_or, or_self, e]
    rw [shS_s h1]
    exact ih (l + 1) (by omega) (by omega)
theorem MP_keep {f f' : Nat → Int32} {r : Nat → Nat → Int32} {ps : List AW} {w : AW} (h : MP f ps) (hw : MW r w) (hn : w.1 0 1 ≤ 13) (hp : ∀ (j : Nat) (v : AW), ps[j]? = some v → v.1 0 1 ≤ 13) (e1 : ∀ j i, j < ps.length → i < 114 → f' (114 * j + i) = f (114 * j + i)) (e2 : ∀ i, i < 114 → f' (114 * ps.length + i) = flP r i) : MP f' (ps ++ [w]) := by
  intro j v hj
  by_cases hl : j < ps.length
  · rw [List.getElem?_append_left hl] at hj
    refine MW_r (h j v hj) (hp j v hj) (fun k i hk => ?_)
    have h1 := paR_po (f := f) (j := j) hk
    have h2 := paR_po (f := f') (j := j) hk
    rw [h1.1, h2.1]
    exact e1 j _ hl h1.2
  · rw [List.getElem?_append_right (by omega)] at hj
    have hj0 : j - ps.length = 0 := by
      cases hd : j - ps.length with
      | zero => rfl
      | succ m => rw [hd] at hj; cases hj
    rw [hj0] at hj
    have hv : v = w := (Option.some.inj hj).symm
    subst hv
    have hjl : j = ps.length := by omega
    subst hjl
    refine MW_r hw hn (fun k i hk => ?_)
    have h2 := paR_po (f := f') (j := ps.length) hk
    rw [h2.1, e2 _ h2.2, flP_po hk]
theorem MP_tail {f : Nat → Int32} {ps : List AW} (h : MP f ps) (hp : ∀ (j : Nat) (v : AW), ps[j]? = some v → v.1 0 1 ≤ 13 ∧ j < 20) : MP (fun i => if i + 114 < 2280 then f (i + 114) else f i) ps.tail := by
  intro j v hj
  rw [List.getElem?_tail] at hj
  have h2 := hp (j + 1) v hj
  refine MW_r (h (j + 1) v hj) h2.1 (fun k i hk => ?_)
  have g1 := paR_po (f := f) (j := j + 1) hk
  have g2 := paR_po (f := fun i => if i + 114 < 2280 then f (i + 114) else f i) (j := j) hk
  rw [g1.1, g2.1]
  have := g1.2
  rw [if_pos (by omega), show 114 * j + poN k i + 114 = 114 * (j + 1) + poN k i by omega]
/-- the reference keeps an act -/
theorem f211 {S : mS} {ps : List AW} {w : AW} (hw : MW S.2.1 w) (hn : w.1 0 1 ≤ 13) (h : MP (S.2.1 35) ps) (h47 : S.1 47 = nI ps.length) (hl : ps.length ≤ 20) (hp : ∀ (j : Nat) (v : AW), ps[j]? = some v → v.1 0 1 ≤ 13 ∧ j < 20) : Ep (fun n => F211 n S) (fun z => (∀ q, q ≠ 47 → q ≠ 48 → q ≠ 49 → z.2.1 q = S.1 q) ∧ (∀ q, q ≠ 35 → z.2.2.1 q = S.2.1 q) ∧ z.2.2.2 = S.2.2 ∧ z.2.1 47 = nI (keepA ps w).length ∧ MP (z.2.2.1 35) (keepA ps w)) := by
  refine ep_succ (fun n => F211e0 n ..) ?_
  by_cases e : ps.length = 20
  · simp (disch := omega) only [F211b0, L0, L1, L2, L3, L4, L5, L6, L7, L8, L9, L10, L11, L12, L13, L16, L20, L31, L32, L40, L48, L57, L59, L60, L61, L91, L93, L97, L99, L100, L102, L103, L114, L122, L255, L300, L400, L402, L999, L2280, L2500, L99999, L63, L1431655765, L858993459, L252645135, ic_ge, ic_gt, ic_le, ic_lt, ic_eq, ic_ne, if_lt, if_ge, if_gt, if_le, if_eq, if_ne, if_lt_zI, if_ge_zI, ic_ne_m1, ic_eq_m1, ic_nn_m1, ic_ee_m1, if_ne_b2i, if_eq_b2i, b2i_z, decide_eq_true_eq, decide_true, decide_false, Bool.not_eq_true, Bool.not_eq_true', Bool.not_true, Bool.not_false, decide_eq_false_iff_not, Bool.false_eq_true, not_false_eq_true, not_true_eq_false, if_true, if_false, ↓reduceIte, eq_self, Option.bind_some, Bool.true_and, Bool.false_and, Bool.and_true, Bool.and_false, nI_add, nI_subN, nI_clamp, gdF, gdF2, gdP, gdP2, zI_cl, zI_s, Lm1, nI_n0, zI_n0, leF, or_false, false_or, or_self, h47, e]
    have := f211s (S := S) (P := fun z : Unit × mS => (∀ q, q ≠ 47 → q ≠ 48 → q ≠ 49 → z.2.1 q = S.1 q) ∧ (∀ q, q ≠ 35 → z.2.2.1 q = S.2.1 q) ∧ z.2.2.2 = S.2.2 ∧ z.2.1 47 = nI (keepA ps w).length ∧ MP (z.2.2.1 35) (keepA ps w)) ?_ 2166 114 (by omega) (by omega)
    · rw [shS_0] at this
      exact this
    · have q47 : (shS S 2280).1 47 = nI 20 := by
        show S.1 47 = _
        rw [h47, e]
      simp (disch := omega) only [q47, nI_subN, m_rIe]
      refine ep_bind (f206s (j := 19) (by decide)) ?_
      rintro ⟨_, S1⟩ ⟨z1, z2, z3, z4, z5⟩
      have y47 : S1.1 47 = nI 19 := by
        have := z1 47 (by decide) (by decide)
        rw [m_rIe] at this
        exact this
      refine ep_ret ⟨fun q a b c => ?_, fun q a => ?_, z3, ?_, ?_⟩
      · show (m_sI S1 47 _).1 q = _
        rw [m_rIn a]
        have := z1 q b c
        rw [m_rIn a] at this
        exact this
      · have := z2 q a
        show S1.2.1 q = _
        rw [this]
        exact va_upN a
      · show (m_sI S1 47 _).1 47 = _
        rw [m_rIe]
        show S1.1 47 + nI 1 = _
        rw [y47, nI_add, keepA_len hl, if_pos e]
      · unfold keepA
        rw [if_pos e]
        have ht : ps.tail.length = 19 := by rw [List.length_tail, e]
        have hr : ∀ q, q ≠ 35 → (m_sI (shS S 2280) 47 (nI (20 - 1))).2.1 q = S.2.1 q := fun q a => va_upN a
        have h35 : ∀ i, (m_sI (shS S 2280) 47 (nI (20 - 1))).2.1 35 i = if i + 114 < 2280 then S.2.1 35 (i + 114) else S.2.1 35 i := by
          intro i
          unfold shS m_sI
          simp only [va_upS]
        refine MP_keep (r := (m_sI (shS S 2280) 47 (nI (20 - 1))).2.1) (MP_tail h hp) (MW_r hw hn (fun k i hk => ?_)) hn (fun j v hj => ?_) (fun j i hj hi => ?_) (fun i hi => ?_)
        · rw [hr k (by omega)]
        · rw [List.getElem?_tail] at hj
          exact (hp _ v hj).1
        · have := z4 (114 * j + i) (by omega)
          show S1.2.1 35 _ = _
          rw [this, h35]
        · rw [ht]
          exact z5 i hi
  · have e' : ps.length ≠ 20 := e
    simp (disch := omega) only [F211b0, L0, L1, L2, L3, L4, L5, L6, L7, L8, L9, L10, L11, L12, L13, L16, L20, L31, L32, L40, L48, L57, L59, L60, L61, L91, L93, L97, L99, L100, L102, L103, L114, L122, L255, L300, L400, L402, L999, L2280, L2500, L99999, L63, L1431655765, L858993459, L252645135, ic_ge, ic_gt, ic_le, ic_lt, ic_eq, ic_ne, if_lt, if_ge, if_gt, if_le, if_eq, if_ne, if_lt_zI, if_ge_zI, ic_ne_m1, ic_eq_m1, ic_nn_m1, ic_ee_m1, if_ne_b2i, if_eq_b2i, b2i_z, decide_eq_true_eq, decide_true, decide_false, Bool.not_eq_true, Bool.not_eq_true', Bool.not_true, Bool.not_false, decide_eq_false_iff_not, Bool.false_eq_true, not_false_eq_true, not_true_eq_false, if_true, if_false, ↓reduceIte, eq_self, Option.bind_some, Bool.true_and, Bool.false_and, Bool.and_true, Bool.and_false, nI_add, nI_subN, nI_clamp, gdF, gdF2, gdP, gdP2, zI_cl, zI_s, Lm1, nI_n0, zI_n0, leF, or_false, false_or, or_self, h47, e]
    refine ep_bind (f206s (j := ps.length) (by omega)) ?_
    rintro ⟨_, S1⟩ ⟨z1, z2, z3, z4, z5⟩
    refine ep_ret ⟨fun q a b c => ?_, fun q a => z2 q a, z3, ?_, ?_⟩
    · show (m_sI S1 47 _).1 q = _
      rw [m_rIn a]
      exact z1 q b c
    · show (m_sI S1 47 _).1 47 = _
      rw [m_rIe]
      show S1.1 47 + nI 1 = _
      rw [z1 47 (by decide) (by decide), h47, nI_add, keepA_len hl, if_neg e]
    · unfold keepA
      rw [if_neg e]
      exact MP_keep h hw hn (fun j v hj => (hp j v hj).1) (fun j i hj hi => z4 _ (by omega)) (fun i hi => z5 i hi)
