/-! the whole day in the reference -/
def leftN (w w' : AW) : Nat := ctF (fun s => !decide (w.1 1 s = 0) && decide (w'.1 1 s = 0)) (w.1 0 1) 0
section F212
variable {S0 : mS} {b : AB} {l : LW}
theorem f229l : ∀ (m s : Nat) (S : mS) (w : AW), s + m = w.1 0 1 → DM S0 S b l w → Ep (fun n => F229f n 2 (nI s) S) (fun z => DM S0 z.2 b l (fold catchA m s w)) := by
  intro m
  induction m with
  | zero =>
    intro s S w hs hD
    refine ep_succ (fun n => F229e2 n ..) ?_
    have hn := hD.2.2.2.1.1
    have e : w.1 0 1 ≤ s := by omega
    simp (disch := omega) only [F229b2, hD.2.2.1.1, L0, L1, L2, L3, L4, L5, L6, L7, L8, L9, L10, L11, L12, L13, L16, L20, L31, L32, L40, L48, L57, L59, L60, L61, L91, L93, L97, L99, L100, L102, L103, L114, L122, L255, L300, L400, L402, L999, L2280, L2500, L99999, L63, L1431655765, L858993459, L252645135, ic_ge, ic_gt, ic_le, ic_lt, ic_eq, ic_ne, if_lt, if_ge, if_gt, if_le, if_eq, if_ne, if_lt_zI, if_ge_zI, ic_ne_m1, ic_eq_m1, ic_nn_m1, ic_ee_m1, if_ne_b2i, if_eq_b2i, b2i_z, decide_eq_true_eq, decide_true, decide_false, Bool.not_eq_true, Bool.not_eq_true', Bool.not_true, Bool.not_false, decide_eq_false_iff_not, Bool.false_eq_true, not_false_eq_true, not_true_eq_false, if_true, if_false, ↓reduceIte, eq_self, Option.bind_some, Bool.true_and, Bool.false_and, Bool.and_true, Bool.and_false, nI_add, nI_subN, nI_clamp, gdF, gdF2, gdP, gdP2, zI_cl, zI_s, Lm1, e]
    exact ep_ret hD
  | succ m ih =>
    intro s S w hs hD
    refine ep_succ (fun n => F229e2 n ..) ?_
    have hD' := hD
    obtain ⟨hB, hb, hw, ok, hl, hf⟩ := hD
    have hn := ok.1
    have e : ¬ w.1 0 1 ≤ s := by omega
    have h16 := OkW_16 hb ok s (by omega)
    have o := ok.2.1 s (by omega)
    obtain ⟨r1, r2, r3, r4, r5⟩ := hw.2.2.2.1 s (by omega)
    show Ep _ (fun z : Unit × mS => DM S0 z.2 b l (fold catchA m (s + 1) (catchA s w)))
    simp (disch := omega) only [F229b2, hw.1, L0, L1, L2, L3, L4, L5, L6, L7, L8, L9, L10, L11, L12, L13, L16, L20, L31, L32, L40, L48, L57, L59, L60, L61, L91, L93, L97, L99, L100, L102, L103, L114, L122, L255, L300, L400, L402, L999, L2280, L2500, L99999, L63, L1431655765, L858993459, L252645135, ic_ge, ic_gt, ic_le, ic_lt, ic_eq, ic_ne, if_lt, if_ge, if_gt, if_le, if_eq, if_ne, if_lt_zI, if_ge_zI, ic_ne_m1, ic_eq_m1, ic_nn_m1, ic_ee_m1, if_ne_b2i, if_eq_b2i, b2i_z, decide_eq_true_eq, decide_true, decide_false, Bool.not_eq_true, Bool.not_eq_true', Bool.not_true, Bool.not_false, decide_eq_false_iff_not, Bool.false_eq_true, not_false_eq_true, not_true_eq_false, if_true, if_false, ↓reduceIte, eq_self, Option.bind_some, Bool.true_and, Bool.false_and, Bool.and_true, Bool.and_false, nI_add, nI_subN, nI_clamp, gdF, gdF2, gdP, gdP2, zI_cl, zI_s, Lm1, e]
    refine ep_bv (f202 hw ok (by omega)) ?_
    by_cases h0 : w.1 1 s = 0
    · simp only [h0, if_eq_b2i, decide_eq_true_eq, decide_true, decide_false, Bool.not_eq_true, Bool.not_eq_true', Bool.not_true, Bool.not_false, decide_eq_false_iff_not, Bool.false_eq_true, not_false_eq_true, not_true_eq_false, if_true, if_false, ↓reduceIte, eq_self, Option.bind_some, Bool.true_and, Bool.false_and, Bool.and_true, Bool.and_false]
      rw [show catchA s w = w from if_neg (fun z => z.1 h0)]
      exact ih (s + 1) S w (by omega) hD'
    · obtain ⟨c0, hc0⟩ : ∃ c0, w.1 1 s = c0 + 1 := ⟨w.1 1 s - 1, by omega⟩
      have r10 := (r1 h0).1
      rw [hc0, Nat.add_sub_cancel] at r10
      have hz : ¬ c0 + 1 = 0 := by omega
      have hl8 := isTx_len o.1
      have ht := isTx_lt o.1
      have hm8 := (ok.2.2.1 c0 (by omega)).1
      simp (disch := omega) only [hc0, hz, if_eq_b2i, decide_eq_true_eq, decide_true, decide_false, Bool.not_eq_true, Bool.not_eq_true', Bool.not_true, Bool.not_false, decide_eq_false_iff_not, Bool.false_eq_true, not_false_eq_true, not_true_eq_false, if_true, if_false, ↓reduceIte, eq_self, Option.bind_some, Bool.true_and, Bool.false_and, Bool.and_true, Bool.and_false, r10]
      obtain ⟨k, ek, hk13, hk0, hk9⟩ := f200 (c := c0) hw.2.2.2.2.2 (by omega)
      refine ep_bv ek ?_
      simp (disch := omega) only [L0, L1, L2, L3, L4, L5, L6, L7, L8, L9, L10, L11, L12, L13, L16, L20, L31, L32, L40, L48, L57, L59, L60, L61, L91, L93, L97, L99, L100, L102, L103, L114, L122, L255, L300, L400, L402, L999, L2280, L2500, L99999, L63, L1431655765, L858993459, L252645135, ic_ge, ic_gt, ic_le, ic_lt, ic_eq, ic_ne, if_lt, if_ge, if_gt, if_le, if_eq, if_ne, if_lt_zI, if_ge_zI, ic_ne_m1, ic_eq_m1, ic_nn_m1, ic_ee_m1, if_ne_b2i, if_eq_b2i, b2i_z, decide_eq_true_eq, decide_true, decide_false, Bool.not_eq_true, Bool.not_eq_true', Bool.not_true, Bool.not_false, decide_eq_false_iff_not, Bool.false_eq_true, not_false_eq_true, not_true_eq_false, if_true, if_false, ↓reduceIte, eq_self, Option.bind_some, Bool.true_and, Bool.false_and, Bool.and_true, Bool.and_false, nI_add, nI_subN, nI_clamp, gdF, gdF2, gdP, gdP2, zI_cl, zI_s, Lm1]
      by_cases h7 : w.1 7 c0 = 0
      · have hk : k = 0 := hk0.mpr h7
        simp only [hk, decide_eq_true_eq, decide_true, decide_false, Bool.not_eq_true, Bool.not_eq_true', Bool.not_true, Bool.not_false, decide_eq_false_iff_not, Bool.false_eq_true, not_false_eq_true, not_true_eq_false, if_true, if_false, ↓reduceIte, eq_self, Option.bind_some, Bool.true_and, Bool.false_and, Bool.and_true, Bool.and_false]
        rw [show catchA s w = w from if_neg (fun z => z.2.1 (by rw [hc0]; exact h7))]
        exact ih (s + 1) S w (by omega) hD'
      · have hk : k ≠ 0 := fun z => h7 (hk0.mp z)
        have h9 := hk9 hk
        have hk' : ¬ k = 0 := hk
        simp (disch := omega) only [hk', L0, L1, L2, L3, L4, L5, L6, L7, L8, L9, L10, L11, L12, L13, L16, L20, L31, L32, L40, L48, L57, L59, L60, L61, L91, L93, L97, L99, L100, L102, L103, L114, L122, L255, L300, L400, L402, L999, L2280, L2500, L99999, L63, L1431655765, L858993459, L252645135, ic_ge, ic_gt, ic_le, ic_lt, ic_eq, ic_ne, if_lt, if_ge, if_gt, if_le, if_eq, if_ne, if_lt_zI, if_ge_zI, ic_ne_m1, ic_eq_m1, ic_nn_m1, ic_ee_m1, if_ne_b2i, if_eq_b2i, b2i_z, decide_eq_true_eq, decide_true, decide_false, Bool.not_eq_true, Bool.not_eq_true', Bool.not_true, Bool.not_false, decide_eq_false_iff_not, Bool.false_eq_true, not_false_eq_true, not_true_eq_false, if_true, if_false, ↓reduceIte, eq_self, Option.bind_some, Bool.true_and, Bool.false_and, Bool.and_true, Bool.and_false, nI_add, nI_subN, nI_clamp, gdF, gdF2, gdP, gdP2, zI_cl, zI_s, Lm1, r2]
        refine ep_bv (f217 (by omega) S) ?_
        simp (disch := omega) only [L0, L1, L2, L3, L4, L5, L6, L7, L8, L9, L10, L11, L12, L13, L16, L20, L31, L32, L40, L48, L57, L59, L60, L61, L91, L93, L97, L99, L100, L102, L103, L114, L122, L255, L300, L400, L402, L999, L2280, L2500, L99999, L63, L1431655765, L858993459, L252645135, ic_ge, ic_gt, ic_le, ic_lt, ic_eq, ic_ne, if_lt, if_ge, if_gt, if_le, if_eq, if_ne, if_lt_zI, if_ge_zI, ic_ne_m1, ic_eq_m1, ic_nn_m1, ic_ee_m1, if_ne_b2i, if_eq_b2i, b2i_z, decide_eq_true_eq, decide_true, decide_false, Bool.not_eq_true, Bool.not_eq_true', Bool.not_true, Bool.not_false, decide_eq_false_iff_not, Bool.false_eq_true, not_false_eq_true, not_true_eq_false, if_true, if_false, ↓reduceIte, eq_self, Option.bind_some, Bool.true_and, Bool.false_and, Bool.and_true, Bool.and_false, nI_add, nI_subN, nI_clamp, gdF, gdF2, gdP, gdP2, zI_cl, zI_s, Lm1, h9, r10]
        by_cases h9' : lenN (w.1 2 s) < w.1 7 c0
        · simp only [h9', decide_eq_true_eq, decide_true, decide_false, Bool.not_eq_true, Bool.not_eq_true', Bool.not_true, Bool.not_false, decide_eq_false_iff_not, Bool.false_eq_true, not_false_eq_true, not_true_eq_false, if_true, if_false, ↓reduceIte, eq_self, Option.bind_some, Bool.true_and, Bool.false_and, Bool.and_true, Bool.and_false]
          rw [show catchA s w = w from if_neg (fun z => by have := z.2.2; rw [hc0, Nat.add_sub_cancel] at this; omega)]
          exact ih (s + 1) S w (by omega) hD'
        · simp only [h9', decide_eq_true_eq, decide_true, decide_false, Bool.not_eq_true, Bool.not_eq_true', Bool.not_true, Bool.not_false, decide_eq_false_iff_not, Bool.false_eq_true, not_false_eq_true, not_true_eq_false, if_true, if_false, ↓reduceIte, eq_self, Option.bind_some, Bool.true_and, Bool.false_and, Bool.and_true, Bool.and_false]
          have hc : catchA s w = leaveA w s 2 (c0 + 1) := by
            unfold catchA
            rw [hc0, Nat.add_sub_cancel, if_pos ⟨by omega, h7, by omega⟩]
          rw [hc, ← zI_s c0]
          refine ep_bind (f216 (s := s) (f := 2) (h := c0 + 1) hw (by omega) hn) ?_
          rintro ⟨_, S1⟩ ⟨c1, c2⟩
          exact ih (s + 1) _ _ (by rw [leaveA_r (by omega)]; omega) (DM_step hD' c1 c2 (leaveA_St h0 (by omega) (fun h => by omega)))
theorem f229 {S : mS} {w : AW} (hD : DM S0 S b l w) : Ep (fun n => F229 n S) (fun z => DM S0 z.2 b l (catchesA w)) := by
  refine ep_succ (fun n => F229e0 n ..) ?_
  simp only [F229b0, L0]
  exact f229l _ 0 S w (by omega) hD
theorem MW_mor {S : mS} {w : AW} (h : MW S.2.1 w) : MW (m_sA S 1 6 (nI (w.1 0 0 + 1))).2.1 (morrowA w) := by
  obtain ⟨h0, h1, h2, h3, h4, h5⟩ := h
  unfold morrowA
  refine ⟨?_, ?_, ?_, ?_, ?_, ?_⟩
  · simp (disch := omega) only [m_rA1, m_rA3, m_rAe, m_rAn, m_rAi, m_rI2, m_rIe, m_rIn, m_rL1, m_rL2, m_rLe, m_rLi, m_rLn, aS_i]
    exact h0
  · simp (disch := omega) only [m_rA1, m_rA3, m_rAe, m_rAn, m_rAi, m_rI2, m_rIe, m_rIn, m_rL1, m_rL2, m_rLe, m_rLi, m_rLn, aS_e]
  · simp (disch := omega) only [m_rA1, m_rA3, m_rAe, m_rAn, m_rAi, m_rI2, m_rIe, m_rIn, m_rL1, m_rL2, m_rLe, m_rLi, m_rLn]
    exact h2
  · intro s hs
    simp (disch := omega) only [aS_i] at hs
    simp (disch := omega) only [m_rA1, m_rA3, m_rAe, m_rAn, m_rAi, m_rI2, m_rIe, m_rIn, m_rL1, m_rL2, m_rLe, m_rLi, m_rLn, aS_n]
    exact h3 s hs
  · intro k hk
    simp (disch := omega) only [m_rA1, m_rA3, m_rAe, m_rAn, m_rAi, m_rI2, m_rIe, m_rIn, m_rL1, m_rL2, m_rLe, m_rLi, m_rLn, aS_n]
    exact h4 k hk
  · exact MN_fr h5 (by simp (disch := omega) only [m_rA1, m_rA3, m_rAe, m_rAn, m_rAi, m_rI2, m_rIe, m_rIn, m_rL1, m_rL2, m_rLe, m_rLi, m_rLn]) (fun i => by simp (disch := omega) only [m_rA1, m_rA3, m_rAe, m_rAn, m_rAi, m_rI2, m_rIe, m_rIn, m_rL1, m_rL2, m_rLe, m_rLi, m_rLn]) (fun i => by simp (disch := omega) only [m_rA1, m_rA3, m_rAe, m_rAn, m_rAi, m_rI2, m_rIe, m_rIn, m_rL1, m_rL2, m_rLe, m_rLi, m_rLn]) (fun i => by simp (disch := omega) only [aS_n])
theorem DM_mor {S : mS} {w : AW} (hD : DM S0 S b l w) : DM S0 (m_sA S 1 6 (nI (w.1 0 0 + 1))) b l (morrowA w) := by
  have fr : FrM S (m_sA S 1 6 (nI (w.1 0 0 + 1))) := FrM_A (by omega)
  exact ⟨MB_fr hD.1 fr, hD.2.1, MW_mor hD.2.2.1, morrowA_Ok hD.2.2.2.1, LM_fr hD.2.2.2.2.1 (fr.2 1 8 (by omega)) (fun k i _ _ => fr.2 k i (by omega)), FrM_tr hD.2.2.2.2.2 fr⟩
theorem left_bits {w0 w' : AW} {b : AB} (ok : OkW b w0) (hn : w'.1 0 1 = w0.1 0 1) : ctF (bsN (fun s => !decide (w0.1 1 s = 0)) (w0.1 0 1) ^^^ (bsN (fun s => !decide (w0.1 1 s = 0)) (w0.1 0 1) &&& bsN (fun s => !decide (w'.1 1 s = 0)) (w'.1 0 1))).testBit 16 0 = leftN w0 w' := by
  have h13 := ok.1
  unfold leftN
  obtain ⟨k, hk⟩ : ∃ k, 16 = w0.1 0 1 + k := ⟨16 - w0.1 0 1, by omega⟩
  rw [hk, ctF_add, ctF_0 k (0 + w0.1 0 1) (fun i h1 h2 => by rw [Nat.testBit_xor, Nat.testBit_and, bsN_tb, decide_eq_false (by omega)]; rfl), Nat.add_zero]
  refine ctF_eq _ _ (fun i _ h2 => ?_)
  rw [Nat.testBit_xor, Nat.testBit_and, bsN_tb, bsN_tb, hn, decide_eq_true (show i < w0.1 0 1 by omega)]
  cases decide (w0.1 1 i = 0) <;> cases decide (w'.1 1 i = 0) <;> rfl
theorem f212e {S : mS} {w0 w : AW} (ok0 : OkW b w0) (hn : w.1 0 1 = w0.1 0 1) (hD : DM S0 S b l w) : Ep (fun n => (F229 n S).bind (fun z10 => (F213 n (m_sA z10.2 1 6 ((z10.2.2.1 1 6) + nI 1))).bind (fun z12 => (F223 n (nI (bsN (fun s => !decide (w0.1 1 s = 0)) (w0.1 0 1)) &&& (z12.1 ^^^ zI 0)) z12.2).bind (fun z14 => some (z14.1, z14.2))))) (fun z => z.1 = nI (leftN w0 (morrowA (catchesA w))) ∧ DM S0 z.2 b l (morrowA (catchesA w))) := by
  refine ep_bind (f229 hD) ?_
  rintro ⟨_, S1⟩ h1
  have h1 : DM S0 S1 b l (catchesA w) := h1
  have h16 := h1.2.2.1.2.1
  have st := catchesA_St hD.2.2.2.1
  simp only [h16, nI_add]
  have h2 := DM_mor h1
  refine ep_bv (f213 h2.2.2.1 h2.2.2.2.1) ?_
  simp only [nI_dif]
  have hn' : (morrowA (catchesA w)).1 0 1 = w0.1 0 1 := by
    show (catchesA w).1 0 1 = _
    rw [St_n st, hn]
  have hlt : bsN (fun s => !decide (w0.1 1 s = 0)) (w0.1 0 1) ^^^ (bsN (fun s => !decide (w0.1 1 s = 0)) (w0.1 0 1) &&& bsN (fun s => !decide ((morrowA (catchesA w)).1 1 s = 0)) ((morrowA (catchesA w)).1 0 1)) < 65536 := by
    have h13 := ok0.1
    have hl1 : bsN (fun s => !decide (w0.1 1 s = 0)) (w0.1 0 1) < 2 ^ 16 := bsN_lt (by omega)
    exact Nat.xor_lt_two_pow hl1 (Nat.lt_of_le_of_lt Nat.and_le_left hl1)
  refine ep_bv (f223n hlt) ?_
  rw [left_bits ok0 hn']
  exact ep_ret ⟨rfl, h2⟩
theorem f212j {x c : Nat} (hc : c < 1000) (P : Int32 × mS → Prop) : ∀ (k : Nat) (S : mS) (w : AW), manyN w c ≤ k → w.1 0 0 < 1000 → DM S0 S b l w → (∀ S', DM S0 S' b l (jnA l c k w) → Ep (fun n => F212f n 38 (nI x) (nI (c + 1)) (nI 0) S') P) → Ep (fun n => F212f n 50 (nI x) (nI c) (nI 1) S) P := by
  intro k
  induction k with
  | zero =>
    intro S w hk hd hD K
    refine ep_succ (fun n => F212e50 n ..) ?_
    simp (disch := omega) only [F212b50, L0, L1, L2, L3, L4, L5, L6, L7, L8, L9, L10, L11, L12, L13, L16, L20, L31, L32, L40, L48, L57, L59, L60, L61, L91, L93, L97, L99, L100, L102, L103, L114, L122, L255, L300, L400, L402, L999, L2280, L2500, L99999, L63, L1431655765, L858993459, L252645135, ic_ge, ic_gt, ic_le, ic_lt, ic_eq, ic_ne, if_lt, if_ge, if_gt, if_le, if_eq, if_ne, if_lt_zI, if_ge_zI, ic_ne_m1, ic_eq_m1, ic_nn_m1, ic_ee_m1, if_ne_b2i, if_eq_b2i, b2i_z, decide_eq_true_eq, decide_true, decide_false, Bool.not_eq_true, Bool.not_eq_true', Bool.not_true, Bool.not_false, decide_eq_false_iff_not, Bool.false_eq_true, not_false_eq_true, not_true_eq_false, if_true, if_false, ↓reduceIte, eq_self, Option.bind_some, Bool.true_and, Bool.false_and, Bool.and_true, Bool.and_false, nI_add, nI_subN, nI_clamp, gdF, gdF2, gdP, gdP2, zI_cl, zI_s, Lm1, Nat.one_ne_zero]
    refine ep_bind (f219 hd hc hD) ?_
    rintro ⟨z1, S1⟩ hz
    cases hf : fdA l w c (w.1 0 1) 0 with
    | some p =>
      have := fdA_two (a := p.1) (j := p.2) hf
      omega
    | none =>
      rw [hf] at hz
      have e1 : z1 = nI 0 := hz.1
      have hD1 : DM S0 S1 b l w := hz.2
      subst e1
      refine ep_succ (fun n => F212e50 n ..) ?_
      simp (disch := omega) only [F212b50, L0, L1, L2, L3, L4, L5, L6, L7, L8, L9, L10, L11, L12, L13, L16, L20, L31, L32, L40, L48, L57, L59, L60, L61, L91, L93, L97, L99, L100, L102, L103, L114, L122, L255, L300, L400, L402, L999, L2280, L2500, L99999, L63, L1431655765, L858993459, L252645135, ic_ge, ic_gt, ic_le, ic_lt, ic_eq, ic_ne, if_lt, if_ge, if_gt, if_le, if_eq, if_ne, if_lt_zI, if_ge_zI, ic_ne_m1, ic_eq_m1, ic_nn_m1, ic_ee_m1, if_ne_b2i, if_eq_b2i, b2i_z, decide_eq_true_eq, decide_true, decide_false, Bool.not_eq_true, Bool.not_eq_true', Bool.not_true, Bool.not_false, decide_eq_false_iff_not, Bool.false_eq_true, not_false_eq_true, not_true_eq_false, if_true, if_false, ↓reduceIte, eq_self, Option.bind_some, Bool.true_and, Bool.false_and, Bool.and_true, Bool.and_false, nI_add, nI_subN, nI_clamp, gdF, gdF2, gdP, gdP2, zI_cl, zI_s, Lm1]
      exact K S1 hD1
  | succ k ih =>
    intro S w hk hd hD K
    refine ep_succ (fun n => F212e50 n ..) ?_
    simp (disch := omega) only [F212b50, L0, L1, L2, L3, L4, L5, L6, L7, L8, L9, L10, L11, L12, L13, L16, L20, L31, L32, L40, L48, L57, L59, L60, L61, L91, L93, L97, L99, L100, L102, L103, L114, L122, L255, L300, L400, L402, L999, L2280, L2500, L99999, L63, L1431655765, L858993459, L252645135, ic_ge, ic_gt, ic_le, ic_lt, ic_eq, ic_ne, if_lt, if_ge, if_gt, if_le, if_eq, if_ne, if_lt_zI, if_ge_zI, ic_ne_m1, ic_eq_m1, ic_nn_m1, ic_ee_m1, if_ne_b2i, if_eq_b2i, b2i_z, decide_eq_true_eq, decide_true, decide_false, Bool.not_eq_true, Bool.not_eq_true', Bool.not_true, Bool.not_false, decide_eq_false_iff_not, Bool.false_eq_true, not_false_eq_true, not_true_eq_false, if_true, if_false, ↓reduceIte, eq_self, Option.bind_some, Bool.true_and, Bool.false_and, Bool.and_true, Bool.and_false, nI_add, nI_subN, nI_clamp, gdF, gdF2, gdP, gdP2, zI_cl, zI_s, Lm1, Nat.one_ne_zero]
    refine ep_bind (f219 hd hc hD) ?_
    rintro ⟨z1, S1⟩ hz
    have K' : ∀ S', DM S0 S' b l ((j1A l c w).elim w (jnA l c k)) → Ep (fun n => F212f n 38 (nI x) (nI (c + 1)) (nI 0) S') P := K
    have hmy : ∀ w', j1A l c w = some w' → manyN w' c ≤ k := by
      intro w' hw'
      have := j1A_many hw' c
      rw [if_pos rfl] at this
      omega
    unfold j1A at K' hmy
    cases hf : fdA l w c (w.1 0 1) 0 with
    | none =>
      rw [hf] at hz K'
      have e1 : z1 = nI 0 := hz.1
      have hD1 : DM S0 S1 b l w := hz.2
      subst e1
      refine ep_succ (fun n => F212e50 n ..) ?_
      simp (disch := omega) only [F212b50, L0, L1, L2, L3, L4, L5, L6, L7, L8, L9, L10, L11, L12, L13, L16, L20, L31, L32, L40, L48, L57, L59, L60, L61, L91, L93, L97, L99, L100, L102, L103, L114, L122, L255, L300, L400, L402, L999, L2280, L2500, L99999, L63, L1431655765, L858993459, L252645135, ic_ge, ic_gt, ic_le, ic_lt, ic_eq, ic_ne, if_lt, if_ge, if_gt, if_le, if_eq, if_ne, if_lt_zI, if_ge_zI, ic_ne_m1, ic_eq_m1, ic_nn_m1, ic_ee_m1, if_ne_b2i, if_eq_b2i, b2i_z, decide_eq_true_eq, decide_true, decide_false, Bool.not_eq_true, Bool.not_eq_true', Bool.not_true, Bool.not_false, decide_eq_false_iff_not, Bool.false_eq_true, not_false_eq_true, not_true_eq_false, if_true, if_false, ↓reduceIte, eq_self, Option.bind_some, Bool.true_and, Bool.false_and, Bool.and_true, Bool.and_false, nI_add, nI_subN, nI_clamp, gdF, gdF2, gdP, gdP2, zI_cl, zI_s, Lm1]
      exact K' S1 hD1
    | some p =>
      rw [hf] at hz K' hmy
      have e1 : z1 = nI 1 := hz.1
      have hD1 : DM S0 S1 b l (joinA w p.1 p.2) := hz.2
      subst e1
      exact ih S1 (joinA w p.1 p.2) (hmy _ rfl) (by rw [joinA_0]; exact hd) hD1 K'
theorem f212c {w0 : AW} (ok0 : OkW b w0) : ∀ (m c : Nat) (S : mS) (w : AW), c + m = b 0 0 → w.1 0 1 = w0.1 0 1 → w.1 0 0 < 1000 → DM S0 S b l w → Ep (fun n => F212f n 38 (nI (bsN (fun s => !decide (w0.1 1 s = 0)) (w0.1 0 1))) (nI c) (nI 0) S) (fun z => z.1 = nI (leftN w0 (morrowA (catchesA (fold (fun c => jnA l c 13) m c w)))) ∧ DM S0 z.2 b l (morrowA (catchesA (fold (fun c => jnA l c 13) m c w)))) := by
  intro m
  induction m with
  | zero =>
    intro c S w hc hn hd hD
    refine ep_succ (fun n => F212e38 n ..) ?_
    have hb := hD.2.1.1
    have e : b 0 0 ≤ c := by omega
    simp (disch := omega) only [F212b38, hD.1.1, L0, L1, L2, L3, L4, L5, L6, L7, L8, L9, L10, L11, L12, L13, L16, L20, L31, L32, L40, L48, L57, L59, L60, L61, L91, L93, L97, L99, L100, L102, L103, L114, L122, L255, L300, L400, L402, L999, L2280, L2500, L99999, L63, L1431655765, L858993459, L252645135, ic_ge, ic_gt, ic_le, ic_lt, ic_eq, ic_ne, if_lt, if_ge, if_gt, if_le, if_eq, if_ne, if_lt_zI, if_ge_zI, ic_ne_m1, ic_eq_m1, ic_nn_m1, ic_ee_m1, if_ne_b2i, if_eq_b2i, b2i_z, decide_eq_true_eq, decide_true, decide_false, Bool.not_eq_true, Bool.not_eq_true', Bool.not_true, Bool.not_false, decide_eq_false_iff_not, Bool.false_eq_true, not_false_eq_true, not_true_eq_false, if_true, if_false, ↓reduceIte, eq_self, Option.bind_some, Bool.true_and, Bool.false_and, Bool.and_true, Bool.and_false, nI_add, nI_subN, nI_clamp, gdF, gdF2, gdP, gdP2, zI_cl, zI_s, Lm1, e]
    exact f212e ok0 hn hD
  | succ m ih =>
    intro c S w hc hn hd hD
    refine ep_succ (fun n => F212e38 n ..) ?_
    have hb := hD.2.1.1
    have e : ¬ b 0 0 ≤ c := by omega
    simp (disch := omega) only [F212b38, hD.1.1, L0, L1, L2, L3, L4, L5, L6, L7, L8, L9, L10, L11, L12, L13, L16, L20, L31, L32, L40, L48, L57, L59, L60, L61, L91, L93, L97, L99, L100, L102, L103, L114, L122, L255, L300, L400, L402, L999, L2280, L2500, L99999, L63, L1431655765, L858993459, L252645135, ic_ge, ic_gt, ic_le, ic_lt, ic_eq, ic_ne, if_lt, if_ge, if_gt, if_le, if_eq, if_ne, if_lt_zI, if_ge_zI, ic_ne_m1, ic_eq_m1, ic_nn_m1, ic_ee_m1, if_ne_b2i, if_eq_b2i, b2i_z, decide_eq_true_eq, decide_true, decide_false, Bool.not_eq_true, Bool.not_eq_true', Bool.not_true, Bool.not_false, decide_eq_false_iff_not, Bool.false_eq_true, not_false_eq_true, not_true_eq_false, if_true, if_false, ↓reduceIte, eq_self, Option.bind_some, Bool.true_and, Bool.false_and, Bool.and_true, Bool.and_false, nI_add, nI_subN, nI_clamp, gdF, gdF2, gdP, gdP2, zI_cl, zI_s, Lm1, e]
    have st := jnA_St (b := b) (l := l) (c := c) 13 w
    have hmn : manyN w c ≤ w.1 0 1 := manyN_le
    have h13 := ok0.1
    exact f212j (by omega) _ 13 S w (by omega) hd hD (fun S' h' => ih (c + 1) S' _ (by omega) (by rw [St_n st]; exact hn) (by rw [St_d st]; exact hd) h')
theorem f212d {w0 : AW} (ok0 : OkW b w0) : ∀ (m s : Nat) (S : mS) (w : AW), s + m = w.1 0 1 → w.1 0 1 = w0.1 0 1 → w.1 0 0 < 1000 → DM S0 S b l w → Ep (fun n => F212f n 7 (nI (bsN (fun s => !decide (w0.1 1 s = 0)) (w0.1 0 1))) (nI s) (nI 0) S) (fun z => z.1 = nI (leftN w0 (morrowA (catchesA (joinsA b l (fold (driftA b) m s w))))) ∧ DM S0 z.2 b l (morrowA (catchesA (joinsA b l (fold (driftA b) m s w))))) := by
  intro m
  induction m with
  | zero =>
    intro s S w hs hn hd hD
    refine ep_succ (fun n => F212e7 n ..) ?_
    have h13 := hD.2.2.2.1.1
    have e : w.1 0 1 ≤ s := by omega
    simp (disch := omega) only [F212b7, hD.2.2.1.1, L0, L1, L2, L3, L4, L5, L6, L7, L8, L9, L10, L11, L12, L13, L16, L20, L31, L32, L40, L48, L57, L59, L60, L61, L91, L93, L97, L99, L100, L102, L103, L114, L122, L255, L300, L400, L402, L999, L2280, L2500, L99999, L63, L1431655765, L858993459, L252645135, ic_ge, ic_gt, ic_le, ic_lt, ic_eq, ic_ne, if_lt, if_ge, if_gt, if_le, if_eq, if_ne, if_lt_zI, if_ge_zI, ic_ne_m1, ic_eq_m1, ic_nn_m1, ic_ee_m1, if_ne_b2i, if_eq_b2i, b2i_z, decide_eq_true_eq, decide_true, decide_false, Bool.not_eq_true, Bool.not_eq_true', Bool.not_true, Bool.not_false, decide_eq_false_iff_not, Bool.false_eq_true, not_false_eq_true, not_true_eq_false, if_true, if_false, ↓reduceIte, eq_self, Option.bind_some, Bool.true_and, Bool.false_and, Bool.and_true, Bool.and_false, nI_add, nI_subN, nI_clamp, gdF, gdF2, gdP, gdP2, zI_cl, zI_s, Lm1, e]
    exact f212c ok0 _ 0 S w (by omega) hn hd hD
  | succ m ih =>
    intro s S w hs hn hd hD
    refine ep_succ (fun n => F212e7 n ..) ?_
    have h13 := hD.2.2.2.1.1
    have e : ¬ w.1 0 1 ≤ s := by omega
    simp (disch := omega) only [F212b7, hD.2.2.1.1, L0, L1, L2, L3, L4, L5, L6, L7, L8, L9, L10, L11, L12, L13, L16, L20, L31, L32, L40, L48, L57, L59, L60, L61, L91, L93, L97, L99, L100, L102, L103, L114, L122, L255, L300, L400, L402, L999, L2280, L2500, L99999, L63, L1431655765, L858993459, L252645135, ic_ge, ic_gt, ic_le, ic_lt, ic_eq, ic_ne, if_lt, if_ge, if_gt, if_le, if_eq, if_ne, if_lt_zI, if_ge_zI, ic_ne_m1, ic_eq_m1, ic_nn_m1, ic_ee_m1, if_ne_b2i, if_eq_b2i, b2i_z, decide_eq_true_eq, decide_true, decide_false, Bool.not_eq_true, Bool.not_eq_true', Bool.not_true, Bool.not_false, decide_eq_false_iff_not, Bool.false_eq_true, not_false_eq_true, not_true_eq_false, if_true, if_false, ↓reduceIte, eq_self, Option.bind_some, Bool.true_and, Bool.false_and, Bool.and_true, Bool.and_false, nI_add, nI_subN, nI_clamp, gdF, gdF2, gdP, gdP2, zI_cl, zI_s, Lm1, e]
    refine ep_bv (f202 hD.2.2.1 hD.2.2.2.1 (by omega)) ?_
    show Ep _ (fun z : Int32 × mS => z.1 = nI (leftN w0 (morrowA (catchesA (joinsA b l (fold (driftA b) m (s + 1) (driftA b s w)))))) ∧ DM S0 z.2 b l (morrowA (catchesA (joinsA b l (fold (driftA b) m (s + 1) (driftA b s w))))))
    by_cases h0 : w.1 1 s = 0
    · simp only [h0, if_eq_b2i, decide_eq_true_eq, decide_true, decide_false, Bool.not_eq_true, Bool.not_eq_true', Bool.not_true, Bool.not_false, decide_eq_false_iff_not, Bool.false_eq_true, not_false_eq_true, not_true_eq_false, if_true, if_false, ↓reduceIte, eq_self, Option.bind_some, Bool.true_and, Bool.false_and, Bool.and_true, Bool.and_false]
      rw [show driftA b s w = w from if_pos h0]
      exact ih (s + 1) S w (by omega) hn hd hD
    · simp only [h0, if_eq_b2i, decide_eq_true_eq, decide_true, decide_false, Bool.not_eq_true, Bool.not_eq_true', Bool.not_true, Bool.not_false, decide_eq_false_iff_not, Bool.false_eq_true, not_false_eq_true, not_true_eq_false, if_true, if_false, ↓reduceIte, eq_self, Option.bind_some, Bool.true_and, Bool.false_and, Bool.and_true, Bool.and_false]
      refine ep_bind (f214 hD (by omega) h0) ?_
      rintro ⟨_, S1⟩ h1
      have st := driftA_St (w := w) (s := s) hD.2.1 (hD.2.2.2.1.2.1 s (by omega)).2.2.2.1
      exact ih (s + 1) S1 _ (by rw [St_n st]; omega) (by rw [St_n st]; exact hn) (by rw [St_d st]; exact hd) h1
/-- a day in the reference is a day -/
theorem f212 {S : mS} {w : AW} (hd : w.1 0 0 < 1000) (hD : DM S0 S b l w) : Ep (fun n => F212 n S) (fun z => z.1 = nI (leftN w (dayA b l w)) ∧ DM S0 z.2 b l (dayA b l w)) := by
  refine ep_succ (fun n => F212e0 n ..) ?_
  simp only [F212b0, L0]
  refine ep_bv (f213 hD.2.2.1 hD.2.2.2.1) ?_
  exact f212d hD.2.2.2.1 _ 0 S w (by omega) rfl hd hD
end F212
