/-! a day in the program -/
/-- a law as the program holds it: lo its place, ln how long its code is -/
def LC (T : xS) (lo : Option Nat) (ln : Nat) (l : LW) : Prop := match lo, l with
  | none, none => True
  | some q, some f => 172 ≤ q ∧ ∀ (T' : xS) (x : Nat → Int64), T'.2.1 (q + 1) = T.2.1 (q + 1) → (∀ k, k < 11 → T'.2.2.1 121 k = x k) → ∃ y, Ev (fun n => G96 q ln n T') (b2i (f x), (T'.1, T'.2.1, y, T'.2.2.2))
  | _, _ => False
def DC (T : xS) (wb : Nat) (lo : Option Nat) (ln : Nat) (b : AB) (l : LW) : Prop := (wb = 95 ∨ wb = 110) ∧ T.2.2.2 109 3 = some 89 ∧ T.2.2.2 109 4 = some wb ∧ T.2.2.2 109 5 = lo ∧ CB T 89 b ∧ OkB b ∧ LC T lo ln l
theorem LC_fr {T T' : xS} {lo : Option Nat} {ln : Nat} {l : LW} (h : LC T lo ln l) (h2 : ∀ q, lo = some q → 172 ≤ q → T'.2.1 (q + 1) = T.2.1 (q + 1)) : LC T' lo ln l := by
  cases lo with
  | none => cases l with
    | none => trivial
    | some f => exact h
  | some q => cases l with
    | none => exact h
    | some f =>
      refine ⟨h.1, fun T2 x e1 e2 => h.2 T2 x ?_ e2⟩
      rw [e1, h2 q rfl h.1]
theorem DC_fr {T T' : xS} {wb : Nat} {lo : Option Nat} {ln : Nat} {b : AB} {l : LW} (h : DC T wb lo ln b l) (f : FrS wb T T') : DC T' wb lo ln b l := by
  obtain ⟨h1, h2, h3, h4, h5, h6, h7⟩ := h
  refine ⟨h1, by rw [f.2]; exact h2, by rw [f.2]; exact h3, by rw [f.2]; exact h4, ?_, h6, ?_⟩
  · refine CB_of h5 (f.1 89 (by omega) (by omega)).1 (fun k a c => (f.1 (89 + k) (by omega) (by omega)).2)
  · exact LC_fr h7 (fun q _ hq => (f.1 (q + 1) (by omega) (by omega)).2)
/-- how many have that fate -/
def cf (w : AW) (f : Nat) : Nat := ctF (fun s => decide (w.1 4 s = f)) (w.1 0 1) 0
def KC (T : xS) (w : AW) (c : Nat → Int32) : Prop := T.1 109 6 + c 1 = nI (cf w 1) ∧ T.1 109 7 + c 2 = nI (cf w 2) ∧ T.1 109 8 + c 3 = nI (cf w 3)
theorem cf_eq {w w' : AW} {f : Nat} (h0 : w'.1 0 1 = w.1 0 1) (h4 : ∀ s, w'.1 4 s = w.1 4 s) : cf w' f = cf w f := by
  unfold cf
  rw [h0]
  exact ctF_eq _ _ (fun i _ _ => by rw [h4 i])
theorem cf_le {w : AW} {f : Nat} : cf w f ≤ w.1 0 1 := ctF_le _ _ _
theorem cf_leave {w : AW} {s f h f' : Nat} (hs : s < w.1 0 1) (h0 : w.1 4 s = 0) (hf : f' ≠ 0) : cf (leaveA w s f h) f' = cf w f' + (if f' = f then 1 else 0) := by
  unfold cf
  rw [leaveA_r (by omega)]
  by_cases e : f' = f
  · subst e
    rw [if_pos rfl]
    refine ctF_up (s := s) _ 0 (Nat.zero_le _) (by omega) (fun i hi => ?_) ?_ ?_
    · rw [leaveA_o hi]
    · rw [h0, decide_eq_false (fun e => hf e.symm)]
    · rw [leaveA_4, decide_eq_true rfl]
  · rw [if_neg e, Nat.add_zero]
    refine ctF_eq _ _ (fun i _ _ => ?_)
    by_cases ei : i = s
    · subst ei
      rw [leaveA_4, h0, decide_eq_false (fun z => e z.symm), decide_eq_false (fun z => hf z.symm)]
    · rw [leaveA_o ei]
theorem i32_ac (x c : Int32) (n : Nat) (h : x + c = nI n) : x + nI 1 + c = nI (n + 1) := by
  rw [Int32.add_assoc, Int32.add_comm (nI 1) c, ← Int32.add_assoc, h, nI_add]
theorem KC_leave {T T' : xS} {w : AW} {c : Nat → Int32} {s f h : Nat} (k : KC T w c) (hf : 1 ≤ f ∧ f ≤ 3) (hs : s < w.1 0 1) (h0 : w.1 4 s = 0) (hT : ∀ i, i ≠ 5 + f → T'.1 109 i = T.1 109 i) (hT' : T'.1 109 (5 + f) = T.1 109 (5 + f) + nI 1) : KC T' (leaveA w s f h) c := by
  obtain ⟨k1, k2, k3⟩ := k
  have hc : f = 1 ∨ f = 2 ∨ f = 3 := by omega
  rcases hc with rfl | rfl | rfl
  · refine ⟨?_, ?_, ?_⟩
    · rw [hT', cf_leave hs h0 (by omega)]
      exact i32_ac _ _ _ k1
    · rw [hT 7 (by omega), cf_leave hs h0 (by omega)]
      exact k2
    · rw [hT 8 (by omega), cf_leave hs h0 (by omega)]
      exact k3
  · refine ⟨?_, ?_, ?_⟩
    · rw [hT 6 (by omega), cf_leave hs h0 (by omega)]
      exact k1
    · rw [hT', cf_leave hs h0 (by omega)]
      exact i32_ac _ _ _ k2
    · rw [hT 8 (by omega), cf_leave hs h0 (by omega)]
      exact k3
  · refine ⟨?_, ?_, ?_⟩
    · rw [hT 6 (by omega), cf_leave hs h0 (by omega)]
      exact k1
    · rw [hT 7 (by omega), cf_leave hs h0 (by omega)]
      exact k2
    · rw [hT', cf_leave hs h0 (by omega)]
      exact i32_ac _ _ _ k3
theorem KC_eq {T T' : xS} {w w' : AW} {c : Nat → Int32} (k : KC T w c) (hT : T'.1 109 = T.1 109) (h0 : w'.1 0 1 = w.1 0 1) (h4 : ∀ s, w'.1 4 s = w.1 4 s) : KC T' w' c := by
  unfold KC at *
  rw [hT, cf_eq h0 h4, cf_eq h0 h4, cf_eq h0 h4]
  exact k
theorem moveA_4 {b : AB} {w : AW} {s c i : Nat} : (moveA b w s c).1 4 i = w.1 4 i := by
  unfold moveA
  split
  · rw [aS_n (by omega), aS_n (by omega), aS_n (by omega), aS_n (by omega)]
  · rw [aS_n (by omega), aS_n (by omega)]
theorem moveA_0 {b : AB} {w : AW} {s c i : Nat} : (moveA b w s c).1 0 i = w.1 0 i := by
  unfold moveA
  split
  · rw [aS_n (by omega), aS_n (by omega), aS_n (by omega), aS_n (by omega)]
  · rw [aS_n (by omega), aS_n (by omega)]
/-- only rows of longs differ -/
def Lg (T T' : xS) : Prop := T'.1 = T.1 ∧ T'.2.1 = T.2.1 ∧ T'.2.2.2 = T.2.2.2
theorem Lg_FrS {wb : Nat} {T T' : xS} (h : Lg T T') : FrS wb T T' := ⟨fun q _ _ => ⟨by rw [h.1], by rw [h.2.1]⟩, h.2.2⟩
theorem Lg_CW {p : Nat} {w : AW} {T T' : xS} (h : Lg T T') (c : CW T p w) : CW T' p w := CW_of c (by rw [h.1]) (fun k _ _ => by rw [h.2.1])
theorem Lg_KC {w : AW} {c : Nat → Int32} {T T' : xS} (h : Lg T T') (k : KC T w c) : KC T' w c := KC_eq k (by rw [h.1]) rfl (fun _ => rfl)
theorem g87m {T : xS} {wb s c' : Nat} {b : AB} {w : AW} {c : Nat → Int32} (hwb : wb = 95 ∨ wb = 110) (hB : CB T 89 b) (hb : OkB b) (hw : CW T wb w) (ok : OkW b w) (hs : s < w.1 0 1) (hc : c' < b 0 0) : CW (x_sA (x_sA T (wb + 1) s (nI c')) (wb + 5) s (nI (b 2 c'))) wb (aS (aS w 1 s (c' + 1)) 3 s (b 2 c')) := by
  obtain ⟨h0, h1, h2, h3, h4, h5⟩ := hw
  refine ⟨h0, h1, h2, ?_, ?_, ?_⟩
  · intro s' hs'
    have hs' : s' < w.1 0 1 := hs'
    obtain ⟨p1, p2, p3, p4, p5, p6, p7, p8⟩ := h3 s' hs'
    by_cases e : s' = s
    · subst e
      simp (disch := omega) only [aS_e, aS_n, x_rA1, x_rA3, x_rAe, x_rAn, x_rAi, x_rI2, x_rIe, x_rIn, x_rIi, x_rL1, x_rL2, x_rL4, x_rLe, x_rLi, x_rLn, x_rQ1, x_rQ2, x_rQ3, x_rQe, x_rQi, x_rQn, x_rR1, x_rR3, x_rRe, x_rRn, zI_s]
      exact ⟨trivial, p2, p3, p4, trivial, p6, p7, p8⟩
    · simp only [aS_r, e, and_false, if_false]
      simp (disch := omega) only [x_rA1, x_rA3, x_rAe, x_rAn, x_rAi, x_rI2, x_rIe, x_rIn, x_rIi, x_rL1, x_rL2, x_rL4, x_rLe, x_rLi, x_rLn, x_rQ1, x_rQ2, x_rQ3, x_rQe, x_rQi, x_rQn, x_rR1, x_rR3, x_rRe, x_rRn]
      exact ⟨p1, p2, p3, p4, p5, p6, p7, p8⟩
  · intro i hi
    simp (disch := omega) only [aS_n, x_rA1, x_rA3, x_rAe, x_rAn, x_rAi, x_rI2, x_rIe, x_rIn, x_rIi, x_rL1, x_rL2, x_rL4, x_rLe, x_rLi, x_rLn, x_rQ1, x_rQ2, x_rQ3, x_rQe, x_rQi, x_rQn, x_rR1, x_rR3, x_rRe, x_rRn]
    exact h4 i hi
  · intro k hk
    simp (disch := omega) only [aS_n, x_rA1, x_rA3, x_rAe, x_rAn, x_rAi, x_rI2, x_rIe, x_rIn, x_rIi, x_rL1, x_rL2, x_rL4, x_rLe, x_rLi, x_rLn, x_rQ1, x_rQ2, x_rQ3, x_rQe, x_rQi, x_rQn, x_rR1, x_rR3, x_rRe, x_rRn]
    exact h5 k hk
theorem g87q {T : xS} {wb s : Nat} {lo : Option Nat} {ln : Nat} {b : AB} {l : LW} {w : AW} {c : Nat → Int32} (hD : DC T wb lo ln b l) (hw : CW T wb w) (ok : OkW b w) (hs : s < w.1 0 1) (hon : w.1 1 s ≠ 0) (hk : KC T w c) (hsh : isShA b w (w.1 1 s - 1) = false) : Ep (fun n => G87f wb lo ln n 40 (nI s) (zI (w.1 1 s)) T) (fun z => CW z.2 wb (driftA b s w) ∧ FrS wb T z.2 ∧ KC z.2 (driftA b s w) c) := by
  obtain ⟨hwb, hb3, hb4, hb5, hB, hb, hl⟩ := hD
  refine ep_succ (fun n => G87e40 wb lo ln n ..) ?_
  have o := ok.2.1 s hs
  have hn := ok.1
  have hc16 := hb.1
  have h1 := o.2.2.2.1
  obtain ⟨c0, hc0⟩ : ∃ c0, w.1 1 s = c0 + 1 := ⟨w.1 1 s - 1, by omega⟩
  rw [hc0, Nat.add_sub_cancel] at hsh
  obtain ⟨B1, B2, B3, B4⟩ := hB.2.2.2.1 c0 (by omega)
  obtain ⟨b1, b2, b3, b4⟩ := hb.2.2.2.1 c0 (by omega)
  obtain ⟨r1, r2, r3, r4, r5, r6, r7, r8⟩ := hw.2.2.2.1 s hs
  have h9 := o.2.2.2.2.1
  have hf : w.1 4 s = 0 := by
    by_cases h : w.1 4 s = 0
    · exact h
    · exact absurd (o.2.2.1.mpr h) hon
  unfold driftA
  rw [if_neg hon, hc0, Nat.add_sub_cancel, hsh, if_neg (by decide)]
  have hm6 := hb.2.1
  rw [zI_s]
  by_cases h3 : w.1 3 s = 0
  · rw [if_pos h3]
    by_cases hfl : b 1 c0 = 0
    · rw [if_pos hfl]
      simp (disch := omega) only [G87b40, L0, L1, L2, L3, L4, L5, L6, L7, L8, L9, L10, L11, L12, L13, L16, L20, L31, L32, L40, L48, L57, L59, L60, L61, L91, L93, L97, L99, L100, L102, L103, L114, L122, L255, L300, L400, L402, L999, L2280, L2500, L99999, L63, L1431655765, L858993459, L252645135, ic_ge, ic_gt, ic_le, ic_lt, ic_eq, ic_ne, if_lt, if_ge, if_gt, if_le, if_eq, if_ne, if_lt_zI, if_ge_zI, ic_ne_m1, ic_eq_m1, ic_nn_m1, ic_ee_m1, if_ne_b2i, if_eq_b2i, b2i_z, decide_eq_true_eq, decide_true, decide_false, Bool.not_eq_true, Bool.not_eq_true', Bool.not_true, Bool.not_false, decide_eq_false_iff_not, Bool.false_eq_true, not_false_eq_true, not_true_eq_false, if_true, if_false, ↓reduceIte, eq_self, Option.bind_some, Bool.true_and, Bool.false_and, Bool.and_true, Bool.and_false, nI_add, nI_subN, nI_clamp, gdF, gdF2, gdP, zI_cl, zI_s, Lm1, hb3, hb4, r5, B1, h3, hfl]
      refine ep_bind (g88 (f := 1) (h := 0) hw hs hn) ?_
      rintro ⟨_, T1⟩ ⟨c1, c2, c3⟩
      refine ep_ret ⟨?_, ?_, ?_⟩
      · exact CW_of c1 (x_rIn (by omega)) (fun k _ _ => rfl)
      · exact FrS_tr (FrW_S c2) FrS_I9
      · refine KC_leave hk (by omega) hs hf (fun i hi => ?_) ?_
        · show (x_sI T1 109 6 _).1 109 i = _
          rw [x_rIi hi]
          show T1.1 109 i = _
          rw [show T1.1 = T.1 from c3]
        · show (x_sI T1 109 6 _).1 109 6 = _
          rw [x_rIe]
          show T1.1 109 6 + nI 1 = _
          rw [show T1.1 = T.1 from c3]
    · obtain ⟨c', hc'⟩ : ∃ c', b 1 c0 = c' + 1 := ⟨b 1 c0 - 1, by omega⟩
      obtain ⟨D1, D2, D3, D4⟩ := hB.2.2.2.1 c' (by omega)
      obtain ⟨d1, d2, d3, d4⟩ := hb.2.2.2.1 c' (by omega)
      have hM := g87m (s := s) (c' := c') (c := c) hwb hB hb hw ok hs (by omega)
      have hl8 := isTx_len o.1
      have FA : ∀ v1 v2, FrS wb T (x_sA (x_sA T (wb + 1) s v1) (wb + 5) s v2) := fun v1 v2 => FrS_tr (FrW_S (FrW_A (by omega))) (FrW_S (FrW_A (by omega)))
      rw [if_neg hfl, hc', Nat.add_sub_cancel]
      have hz : ¬ c' + 1 = 0 := by omega
      simp (disch := omega) only [G87b40, L0, L1, L2, L3, L4, L5, L6, L7, L8, L9, L10, L11, L12, L13, L16, L20, L31, L32, L40, L48, L57, L59, L60, L61, L91, L93, L97, L99, L100, L102, L103, L114, L122, L255, L300, L400, L402, L999, L2280, L2500, L99999, L63, L1431655765, L858993459, L252645135, ic_ge, ic_gt, ic_le, ic_lt, ic_eq, ic_ne, if_lt, if_ge, if_gt, if_le, if_eq, if_ne, if_lt_zI, if_ge_zI, ic_ne_m1, ic_eq_m1, ic_nn_m1, ic_ee_m1, if_ne_b2i, if_eq_b2i, b2i_z, decide_eq_true_eq, decide_true, decide_false, Bool.not_eq_true, Bool.not_eq_true', Bool.not_true, Bool.not_false, decide_eq_false_iff_not, Bool.false_eq_true, not_false_eq_true, not_true_eq_false, if_true, if_false, ↓reduceIte, eq_self, Option.bind_some, Bool.true_and, Bool.false_and, Bool.and_true, Bool.and_false, nI_add, nI_subN, nI_clamp, gdF, gdF2, gdP, zI_cl, zI_s, Lm1, x_rA1, x_rA3, x_rAe, x_rAn, x_rAi, x_rI2, x_rIe, x_rIn, x_rIi, x_rL1, x_rL2, x_rL4, x_rLe, x_rLi, x_rLn, x_rQ1, x_rQ2, x_rQ3, x_rQe, x_rQi, x_rQn, x_rR1, x_rR3, x_rRe, x_rRn, hb3, hb4, r5, B1, h3, hc', hz, D2, D3, r3]
      by_cases hmi : b 3 c' = 0
      · simp (disch := omega) only [hmi, L0, L1, L2, L3, L4, L5, L6, L7, L8, L9, L10, L11, L12, L13, L16, L20, L31, L32, L40, L48, L57, L59, L60, L61, L91, L93, L97, L99, L100, L102, L103, L114, L122, L255, L300, L400, L402, L999, L2280, L2500, L99999, L63, L1431655765, L858993459, L252645135, ic_ge, ic_gt, ic_le, ic_lt, ic_eq, ic_ne, if_lt, if_ge, if_gt, if_le, if_eq, if_ne, if_lt_zI, if_ge_zI, ic_ne_m1, ic_eq_m1, ic_nn_m1, ic_ee_m1, if_ne_b2i, if_eq_b2i, b2i_z, decide_eq_true_eq, decide_true, decide_false, Bool.not_eq_true, Bool.not_eq_true', Bool.not_true, Bool.not_false, decide_eq_false_iff_not, Bool.false_eq_true, not_false_eq_true, not_true_eq_false, if_true, if_false, ↓reduceIte, eq_self, Option.bind_some, Bool.true_and, Bool.false_and, Bool.and_true, Bool.and_false, nI_add, nI_subN, nI_clamp, gdF, gdF2, gdP, zI_cl, zI_s, Lm1]
        rw [show moveA b w s c' = aS (aS w 1 s (c' + 1)) 3 s (b 2 c') from if_neg (fun z => z.1 hmi)]
        refine ep_ret ⟨hM, FA _ _, ?_⟩
        exact KC_eq hk rfl rfl (fun s' => by rw [aS_n (by omega), aS_n (by omega)])
      · obtain ⟨m, hm⟩ : ∃ m, b 3 c' = m + 1 := ⟨b 3 c' - 1, by omega⟩
        have E5 := hB.2.2.2.2 m (by omega)
        have e5 := hb.2.2.2.2 m (by omega)
        have hz2 : ¬ m + 1 = 0 := by omega
        simp (disch := omega) only [hm, hz2, L0, L1, L2, L3, L4, L5, L6, L7, L8, L9, L10, L11, L12, L13, L16, L20, L31, L32, L40, L48, L57, L59, L60, L61, L91, L93, L97, L99, L100, L102, L103, L114, L122, L255, L300, L400, L402, L999, L2280, L2500, L99999, L63, L1431655765, L858993459, L252645135, ic_ge, ic_gt, ic_le, ic_lt, ic_eq, ic_ne, if_lt, if_ge, if_gt, if_le, if_eq, if_ne, if_lt_zI, if_ge_zI, ic_ne_m1, ic_eq_m1, ic_nn_m1, ic_ee_m1, if_ne_b2i, if_eq_b2i, b2i_z, decide_eq_true_eq, decide_true, decide_false, Bool.not_eq_true, Bool.not_eq_true', Bool.not_true, Bool.not_false, decide_eq_false_iff_not, Bool.false_eq_true, not_false_eq_true, not_true_eq_false, if_true, if_false, ↓reduceIte, eq_self, Option.bind_some, Bool.true_and, Bool.false_and, Bool.and_true, Bool.and_false, nI_add, nI_subN, nI_clamp, gdF, gdF2, gdP, zI_cl, zI_s, Lm1, x_rA1, x_rA3, x_rAe, x_rAn, x_rAi, x_rI2, x_rIe, x_rIn, x_rIi, x_rL1, x_rL2, x_rL4, x_rLe, x_rLi, x_rLn, x_rQ1, x_rQ2, x_rQ3, x_rQe, x_rQi, x_rQn, x_rR1, x_rR3, x_rRe, x_rRn, Nat.add_sub_cancel, E5]
        by_cases h8 : 8 ≤ lenN (w.1 2 s)
        · simp only [h8, decide_eq_true_eq, decide_true, decide_false, Bool.not_eq_true, Bool.not_eq_true', Bool.not_true, Bool.not_false, decide_eq_false_iff_not, Bool.false_eq_true, not_false_eq_true, not_true_eq_false, if_true, if_false, ↓reduceIte, eq_self, Option.bind_some, Bool.true_and, Bool.false_and, Bool.and_true, Bool.and_false]
          rw [show moveA b w s c' = aS (aS w 1 s (c' + 1)) 3 s (b 2 c') from if_neg (fun z => by have := z.2; omega)]
          refine ep_ret ⟨hM, FA _ _, ?_⟩
          exact KC_eq hk rfl rfl (fun s' => by rw [aS_n (by omega), aS_n (by omega)])
        · simp only [h8, decide_eq_true_eq, decide_true, decide_false, Bool.not_eq_true, Bool.not_eq_true', Bool.not_true, Bool.not_false, decide_eq_false_iff_not, Bool.false_eq_true, not_false_eq_true, not_true_eq_false, if_true, if_false, ↓reduceIte, eq_self, Option.bind_some, Bool.true_and, Bool.false_and, Bool.and_true, Bool.and_false]
          have hmv : moveA b w s c' = aS (aS (aS (aS w 1 s (c' + 1)) 3 s (b 2 c')) 2 s (w.1 2 s * 10 + b 5 m)) 8 m (w.1 8 m + 1) := by
            unfold moveA
            rw [if_pos ⟨by omega, by omega⟩, hm, Nat.add_sub_cancel]
          rw [hmv]
          have ht2 : (aS (aS w 1 s (c' + 1)) 3 s (b 2 c')).1 2 s = w.1 2 s := by rw [aS_n (by omega), aS_n (by omega)]
          refine ep_bind (g89 (l := b 5 m) hM hs hn (by rw [ht2]; exact hl8.2.2) (by omega)) ?_
          rw [ht2]
          rintro ⟨_, T1⟩ ⟨c1, c2, c3⟩
          have c2' : T1.2.2 = T.2.2 := c2.2
          have e4 : T1.2.2.2 109 4 = some wb := by rw [c2']; exact hb4
          have ep : T1.2.1 (wb + 10) m = nI (w.1 8 m) := by
            have := c1.2.2.2.2.2 m (by omega)
            rw [aS_n (by omega), aS_n (by omega), aS_n (by omega)] at this
            exact this
          simp (disch := omega) only [e4, L0, L1, L2, L3, L4, L5, L6, L7, L8, L9, L10, L11, L12, L13, L16, L20, L31, L32, L40, L48, L57, L59, L60, L61, L91, L93, L97, L99, L100, L102, L103, L114, L122, L255, L300, L400, L402, L999, L2280, L2500, L99999, L63, L1431655765, L858993459, L252645135, ic_ge, ic_gt, ic_le, ic_lt, ic_eq, ic_ne, if_lt, if_ge, if_gt, if_le, if_eq, if_ne, if_lt_zI, if_ge_zI, ic_ne_m1, ic_eq_m1, ic_nn_m1, ic_ee_m1, if_ne_b2i, if_eq_b2i, b2i_z, decide_eq_true_eq, decide_true, decide_false, Bool.not_eq_true, Bool.not_eq_true', Bool.not_true, Bool.not_false, decide_eq_false_iff_not, Bool.false_eq_true, not_false_eq_true, not_true_eq_false, if_true, if_false, ↓reduceIte, eq_self, Option.bind_some, Bool.true_and, Bool.false_and, Bool.and_true, Bool.and_false, nI_add, nI_subN, nI_clamp, gdF, gdF2, gdP, zI_cl, zI_s, Lm1, ep]
          refine ep_ret ⟨?_, ?_, ?_⟩
          · obtain ⟨k0, k1, k2, k3, k4, k5⟩ := c1
            refine ⟨k0, k1, k2, ?_, ?_, ?_⟩
            · intro s' hs'
              rw [aS_n (by omega)] at hs'
              obtain ⟨p1, p2, p3, p4, p5, p6, p7, p8⟩ := k3 s' hs'
              simp (disch := omega) only [x_rA1, x_rA3, x_rAe, x_rAn, x_rAi, x_rI2, x_rIe, x_rIn, x_rIi, x_rL1, x_rL2, x_rL4, x_rLe, x_rLi, x_rLn, x_rQ1, x_rQ2, x_rQ3, x_rQe, x_rQi, x_rQn, x_rR1, x_rR3, x_rRe, x_rRn]
              rw [aS_n (r' := 1) (by omega), aS_n (r' := 2) (by omega), aS_n (r := 8) (r' := 3) (by omega), aS_n (r := 8) (r' := 4) (by omega), aS_n (r := 8) (r' := 5) (by omega), aS_n (r := 8) (r' := 6) (by omega)]
              exact ⟨p1, p2, p3, p4, p5, p6, p7, p8⟩
            · intro i hi
              rw [aS_n (by omega)]
              simp (disch := omega) only [x_rA1, x_rA3, x_rAe, x_rAn, x_rAi, x_rI2, x_rIe, x_rIn, x_rIi, x_rL1, x_rL2, x_rL4, x_rLe, x_rLi, x_rLn, x_rQ1, x_rQ2, x_rQ3, x_rQe, x_rQi, x_rQn, x_rR1, x_rR3, x_rRe, x_rRn]
              exact k4 i hi
            · intro k hk
              by_cases e : k = m
              · subst e
                rw [aS_e]
                simp (disch := omega) only [x_rA1, x_rA3, x_rAe, x_rAn, x_rAi, x_rI2, x_rIe, x_rIn, x_rIi, x_rL1, x_rL2, x_rL4, x_rLe, x_rLi, x_rLn, x_rQ1, x_rQ2, x_rQ3, x_rQe, x_rQi, x_rQn, x_rR1, x_rR3, x_rRe, x_rRn]
              · rw [aS_i e]
                simp (disch := omega) only [x_rA1, x_rA3, x_rAe, x_rAn, x_rAi, x_rI2, x_rIe, x_rIn, x_rIi, x_rL1, x_rL2, x_rL4, x_rLe, x_rLi, x_rLn, x_rQ1, x_rQ2, x_rQ3, x_rQe, x_rQi, x_rQn, x_rR1, x_rR3, x_rRe, x_rRn]
                exact k5 k hk
          · exact FrS_tr (FA _ _) (FrS_tr (FrW_S c2) (FrW_S (FrW_A (by omega))))
          · refine KC_eq hk ?_ rfl (fun s' => ?_)
            · show T1.1 109 = _
              rw [show T1.1 = T.1 from c3]
            · rw [aS_n (by omega), aS_n (by omega), aS_n (by omega), aS_n (by omega)]
  · rw [if_neg h3]
    simp (disch := omega) only [G87b40, L0, L1, L2, L3, L4, L5, L6, L7, L8, L9, L10, L11, L12, L13, L16, L20, L31, L32, L40, L48, L57, L59, L60, L61, L91, L93, L97, L99, L100, L102, L103, L114, L122, L255, L300, L400, L402, L999, L2280, L2500, L99999, L63, L1431655765, L858993459, L252645135, ic_ge, ic_gt, ic_le, ic_lt, ic_eq, ic_ne, if_lt, if_ge, if_gt, if_le, if_eq, if_ne, if_lt_zI, if_ge_zI, ic_ne_m1, ic_eq_m1, ic_nn_m1, ic_ee_m1, if_ne_b2i, if_eq_b2i, b2i_z, decide_eq_true_eq, decide_true, decide_false, Bool.not_eq_true, Bool.not_eq_true', Bool.not_true, Bool.not_false, decide_eq_false_iff_not, Bool.false_eq_true, not_false_eq_true, not_true_eq_false, if_true, if_false, ↓reduceIte, eq_self, Option.bind_some, Bool.true_and, Bool.false_and, Bool.and_true, Bool.and_false, nI_add, nI_subN, nI_clamp, gdF, gdF2, gdP, zI_cl, zI_s, Lm1, x_rA1, x_rA3, x_rAe, x_rAn, x_rAi, x_rI2, x_rIe, x_rIn, x_rIi, x_rL1, x_rL2, x_rL4, x_rLe, x_rLi, x_rLn, x_rQ1, x_rQ2, x_rQ3, x_rQe, x_rQi, x_rQn, x_rR1, x_rR3, x_rRe, x_rRn, hb3, hb4, r5, h3]
    refine ep_ret ⟨?_, FrW_S (FrW_A (by omega)), ?_⟩
    · obtain ⟨k0, k1, k2, k3, k4, k5⟩ := hw
      refine ⟨k0, k1, k2, ?_, ?_, ?_⟩
      · intro s' hs'
        have hs' : s' < w.1 0 1 := hs'
        obtain ⟨p1, p2, p3, p4, p5, p6, p7, p8⟩ := k3 s' hs'
        by_cases e : s' = s
        · subst e
          simp (disch := omega) only [aS_e, aS_n, x_rA1, x_rA3, x_rAe, x_rAn, x_rAi, x_rI2, x_rIe, x_rIn, x_rIi, x_rL1, x_rL2, x_rL4, x_rLe, x_rLi, x_rLn, x_rQ1, x_rQ2, x_rQ3, x_rQe, x_rQi, x_rQn, x_rR1, x_rR3, x_rRe, x_rRn]
          exact ⟨p1, p2, p3, p4, trivial, p6, p7, p8⟩
        · simp only [aS_r, e, and_false, if_false]
          simp (disch := omega) only [x_rA1, x_rA3, x_rAe, x_rAn, x_rAi, x_rI2, x_rIe, x_rIn, x_rIi, x_rL1, x_rL2, x_rL4, x_rLe, x_rLi, x_rLn, x_rQ1, x_rQ2, x_rQ3, x_rQe, x_rQi, x_rQn, x_rR1, x_rR3, x_rRe, x_rRn]
          exact ⟨p1, p2, p3, p4, p5, p6, p7, p8⟩
      · intro i hi
        simp (disch := omega) only [aS_n, x_rA1, x_rA3, x_rAe, x_rAn, x_rAi, x_rI2, x_rIe, x_rIn, x_rIi, x_rL1, x_rL2, x_rL4, x_rLe, x_rLi, x_rLn, x_rQ1, x_rQ2, x_rQ3, x_rQe, x_rQi, x_rQn, x_rR1, x_rR3, x_rRe, x_rRn]
        exact k4 i hi
      · intro k hk
        simp (disch := omega) only [aS_n, x_rA1, x_rA3, x_rAe, x_rAn, x_rAi, x_rI2, x_rIe, x_rIn, x_rIi, x_rL1, x_rL2, x_rL4, x_rLe, x_rLi, x_rLn, x_rQ1, x_rQ2, x_rQ3, x_rQe, x_rQi, x_rQn, x_rR1, x_rR3, x_rRe, x_rRn]
        exact k5 k hk
    · exact KC_eq hk rfl rfl (fun s' => by rw [aS_n (by omega)])
theorem ic_ne_sh (x : Int32) (d : Nat) : am_ic .ne ((x >>> (nI d &&& nI 31)) &&& nI 1) (nI 1) = !shutB x d := rfl
theorem g87 {T : xS} {wb s : Nat} {lo : Option Nat} {ln : Nat} {b : AB} {l : LW} {w : AW} {c : Nat → Int32} (hD : DC T wb lo ln b l) (hw : CW T wb w) (ok : OkW b w) (hs : s < w.1 0 1) (hon : w.1 1 s ≠ 0) (hk : KC T w c) : Ep (fun n => G87 wb lo ln n (nI s) T) (fun z => CW z.2 wb (driftA b s w) ∧ FrS wb T z.2 ∧ KC z.2 (driftA b s w) c) := by
  have hD' := hD
  obtain ⟨hwb, hb3, hb4, hb5, hB, hb, hl⟩ := hD
  refine ep_succ (fun n => G87e0 wb lo ln n ..) ?_
  have o := ok.2.1 s hs
  have hn := ok.1
  have hc16 := hb.1
  have h1 := o.2.2.2.1
  obtain ⟨c0, hc0⟩ : ∃ c0, w.1 1 s = c0 + 1 := ⟨w.1 1 s - 1, by omega⟩
  obtain ⟨B1, B2, B3, B4⟩ := hB.2.2.2.1 c0 (by omega)
  obtain ⟨b1, b2, b3, b4⟩ := hb.2.2.2.1 c0 (by omega)
  obtain ⟨r1, r2, r3, r4, r5, r6, r7, r8⟩ := hw.2.2.2.1 s hs
  have hd4 := hb.2.2.1
  have hq := fun z => g87q (T := T) hD' hw ok hs hon hk z
  rw [hc0, Nat.add_sub_cancel, zI_s] at hq
  simp (disch := omega) only [G87b0, L0, L1, L2, L3, L4, L5, L6, L7, L8, L9, L10, L11, L12, L13, L16, L20, L31, L32, L40, L48, L57, L59, L60, L61, L91, L93, L97, L99, L100, L102, L103, L114, L122, L255, L300, L400, L402, L999, L2280, L2500, L99999, L63, L1431655765, L858993459, L252645135, ic_ge, ic_gt, ic_le, ic_lt, ic_eq, ic_ne, if_lt, if_ge, if_gt, if_le, if_eq, if_ne, if_lt_zI, if_ge_zI, ic_ne_m1, ic_eq_m1, ic_nn_m1, ic_ee_m1, if_ne_b2i, if_eq_b2i, b2i_z, decide_eq_true_eq, decide_true, decide_false, Bool.not_eq_true, Bool.not_eq_true', Bool.not_true, Bool.not_false, decide_eq_false_iff_not, Bool.false_eq_true, not_false_eq_true, not_true_eq_false, if_true, if_false, ↓reduceIte, eq_self, Option.bind_some, Bool.true_and, Bool.false_and, Bool.and_true, Bool.and_false, nI_add, nI_subN, nI_clamp, gdF, gdF2, gdP, zI_cl, zI_s, Lm1, hb3, hb4, r1, hc0, B4, hw.2.2.1]
  by_cases h4 : b 4 c0 = 0
  · simp only [h4, decide_eq_true_eq, decide_true, decide_false, Bool.not_eq_true, Bool.not_eq_true', Bool.not_true, Bool.not_false, decide_eq_false_iff_not, Bool.false_eq_true, not_false_eq_true, not_true_eq_false, if_true, if_false, ↓reduceIte, eq_self, Option.bind_some, Bool.true_and, Bool.false_and, Bool.and_true, Bool.and_false]
    exact hq (by unfold isShA; rw [h4]; rfl)
  · obtain ⟨d, hd⟩ : ∃ d, b 4 c0 = d + 1 := ⟨b 4 c0 - 1, by omega⟩
    simp only [hd, zI_s, ic_ne_sh, Nat.add_eq_zero_iff, Nat.one_ne_zero, and_false, decide_eq_true_eq, decide_true, decide_false, Bool.not_eq_true, Bool.not_eq_true', Bool.not_true, Bool.not_false, decide_eq_false_iff_not, Bool.false_eq_true, not_false_eq_true, not_true_eq_false, if_true, if_false, ↓reduceIte, eq_self, Option.bind_some, Bool.true_and, Bool.false_and, Bool.and_true, Bool.and_false]
    by_cases hsd : shutB w.2 d = true
    · simp only [hsd, decide_eq_true_eq, decide_true, decide_false, Bool.not_eq_true, Bool.not_eq_true', Bool.not_true, Bool.not_false, decide_eq_false_iff_not, Bool.false_eq_true, not_false_eq_true, not_true_eq_false, if_true, if_false, ↓reduceIte, eq_self, Option.bind_some, Bool.true_and, Bool.false_and, Bool.and_true, Bool.and_false]
      refine ep_ret ⟨?_, FrS_rf, ?_⟩
      · have e : driftA b s w = w := by
          unfold driftA
          rw [if_neg hon, hc0, Nat.add_sub_cancel, if_pos (by unfold isShA; rw [hd, Nat.add_sub_cancel, hsd]; rfl)]
        rw [e]
        exact hw
      · have e : driftA b s w = w := by
          unfold driftA
          rw [if_neg hon, hc0, Nat.add_sub_cancel, if_pos (by unfold isShA; rw [hd, Nat.add_sub_cancel, hsd]; rfl)]
        rw [e]
        exact hk
    · simp only [hsd, decide_eq_true_eq, decide_true, decide_false, Bool.not_eq_true, Bool.not_eq_true', Bool.not_true, Bool.not_false, decide_eq_false_iff_not, Bool.false_eq_true, not_false_eq_true, not_true_eq_false, if_true, if_false, ↓reduceIte, eq_self, Option.bind_some, Bool.true_and, Bool.false_and, Bool.and_true, Bool.and_false]
      exact hq (by unfold isShA; rw [hd, Nat.add_sub_cancel, Bool.eq_false_iff.mpr hsd]; rfl)
