/-! fleet: the program tries one set of nets -/
theorem b2i_o0 {x : Bool} : b2i x ||| nI 0 = b2i x := by cases x <;> decide
theorem b2i_o1 {x : Bool} : b2i x ||| nI 1 = b2i true := by cases x <;> decide
theorem b2i_nr {x : Bool} : narrow .boolean (.int (b2i x)) = .int (b2i x) := by cases x <;> rfl
section Lt
variable {T : xS} {wb : Nat} {w : AW} {b : AB}
theorem g122l (hw : CW T wb w) (ok : OkW b w) : ∀ (m j s : Nat), j + m = 13 → s < w.1 0 1 → Ev (fun n => G122f wb n 4 (nI 0) (nI s) (nI j) T) (nI (ltF w m s), T) := by
  have h13 := ok.1
  intro m
  induction m with
  | zero =>
    intro j s hj hs
    have e : 13 ≤ j := by omega
    have r6 := (hw.2.2.2.1 s hs).2.2.2.2.2.1
    refine ev_succ (fun n => G122e4 wb n ..) ?_
    simp (disch := omega) only [G122b4, L0, L1, L2, L3, L4, L5, L6, L7, L8, L9, L10, L11, L12, L13, L16, L20, L31, L32, L40, L48, L57, L59, L60, L61, L91, L93, L97, L99, L100, L102, L103, L114, L122, L255, L300, L400, L402, L999, L2280, L2500, L99999, L63, L1431655765, L858993459, L252645135, ic_ge, ic_gt, ic_le, ic_lt, ic_eq, ic_ne, if_lt, if_ge, if_gt, if_le, if_eq, if_ne, if_lt_zI, if_ge_zI, ic_ne_m1, ic_eq_m1, ic_nn_m1, ic_ee_m1, if_ne_b2i, if_eq_b2i, b2i_z, decide_eq_true_eq, decide_true, decide_false, Bool.not_eq_true, Bool.not_eq_true', Bool.not_true, Bool.not_false, decide_eq_false_iff_not, Bool.false_eq_true, not_false_eq_true, not_true_eq_false, if_true, if_false, ↓reduceIte, eq_self, Option.bind_some, Bool.true_and, Bool.false_and, Bool.and_true, Bool.and_false, nI_add, nI_subN, nI_clamp, gdF, gdF2, gdP, gdP2, zI_cl, zI_s, Lm1, nI_n0, zI_n0, leF, or_false, false_or, or_self, e, r6]
    exact ev_ret
  | succ m ih =>
    intro j s hj hs
    have e : ¬ 13 ≤ j := by omega
    have r6 := (hw.2.2.2.1 s hs).2.2.2.2.2.1
    have r7 := (hw.2.2.2.1 s hs).2.2.2.2.2.2.1
    have hk := ok.2.1 s hs
    have f3 := hk.2.1
    have f5 := hk.2.2.2.2.2.1
    refine ev_succ (fun n => G122e4 wb n ..) ?_
    unfold ltF
    by_cases h3 : w.1 4 s = 3
    · have h5 := f5 h3
      obtain ⟨q, hq⟩ : ∃ q, w.1 5 s = q + 1 := ⟨w.1 5 s - 1, by omega⟩
      rw [if_pos h3, hq, Nat.add_sub_cancel]
      rw [hq, zI_s] at r7
      simp (disch := omega) only [G122b4, L0, L1, L2, L3, L4, L5, L6, L7, L8, L9, L10, L11, L12, L13, L16, L20, L31, L32, L40, L48, L57, L59, L60, L61, L91, L93, L97, L99, L100, L102, L103, L114, L122, L255, L300, L400, L402, L999, L2280, L2500, L99999, L63, L1431655765, L858993459, L252645135, ic_ge, ic_gt, ic_le, ic_lt, ic_eq, ic_ne, if_lt, if_ge, if_gt, if_le, if_eq, if_ne, if_lt_zI, if_ge_zI, ic_ne_m1, ic_eq_m1, ic_nn_m1, ic_ee_m1, if_ne_b2i, if_eq_b2i, b2i_z, decide_eq_true_eq, decide_true, decide_false, Bool.not_eq_true, Bool.not_eq_true', Bool.not_true, Bool.not_false, decide_eq_false_iff_not, Bool.false_eq_true, not_false_eq_true, not_true_eq_false, if_true, if_false, ↓reduceIte, eq_self, Option.bind_some, Bool.true_and, Bool.false_and, Bool.and_true, Bool.and_false, nI_add, nI_subN, nI_clamp, gdF, gdF2, gdP, gdP2, zI_cl, zI_s, Lm1, nI_n0, zI_n0, leF, or_false, false_or, or_self, e, r6, r7, h3]
      exact ih (j + 1) q (by omega) (by omega)
    · rw [if_neg h3]
      simp (disch := omega) only [G122b4, L0, L1, L2, L3, L4, L5, L6, L7, L8, L9, L10, L11, L12, L13, L16, L20, L31, L32, L40, L48, L57, L59, L60, L61, L91, L93, L97, L99, L100, L102, L103, L114, L122, L255, L300, L400, L402, L999, L2280, L2500, L99999, L63, L1431655765, L858993459, L252645135, ic_ge, ic_gt, ic_le, ic_lt, ic_eq, ic_ne, if_lt, if_ge, if_gt, if_le, if_eq, if_ne, if_lt_zI, if_ge_zI, ic_ne_m1, ic_eq_m1, ic_nn_m1, ic_ee_m1, if_ne_b2i, if_eq_b2i, b2i_z, decide_eq_true_eq, decide_true, decide_false, Bool.not_eq_true, Bool.not_eq_true', Bool.not_true, Bool.not_false, decide_eq_false_iff_not, Bool.false_eq_true, not_false_eq_true, not_true_eq_false, if_true, if_false, ↓reduceIte, eq_self, Option.bind_some, Bool.true_and, Bool.false_and, Bool.and_true, Bool.and_false, nI_add, nI_subN, nI_clamp, gdF, gdF2, gdP, gdP2, zI_cl, zI_s, Lm1, nI_n0, zI_n0, leF, or_false, false_or, or_self, e, r6, h3]
      exact ev_ret
theorem g122 {s : Nat} (hw : CW T wb w) (ok : OkW b w) (hs : s < w.1 0 1) : Ev (fun n => G122 wb n (nI s) T) (nI (ltF w 13 s), T) := by
  refine ev_succ (fun n => G122e0 wb n ..) ?_
  simp only [G122b0, L0]
  exact g122l hw ok 13 0 s (by omega) hs
/-- it goes on, or it is clear what becomes of them -/
theorem g121l {W : Nat} (hW : W < 2 ^ 31) (hw : CW T wb w) (ok : OkW b w) : ∀ (m s : Nat) (a : Bool), s + m = w.1 0 1 → (∀ i, i < s → W.testBit i = true → ltF w 13 i ≠ 1) → (a = false → ∀ i, i < s → W.testBit i = true → ltF w 13 i ≠ 0) → Ep (fun n => G121f wb n 4 (nI W) (b2i a) (nI s) T) (fun z => z.2 = T ∧ ∃ v, z.1 = b2i v ∧ (v = false → (∃ i, i < w.1 0 1 ∧ W.testBit i = true ∧ ltF w 13 i = 1) ∨ ∀ i, i < w.1 0 1 → W.testBit i = true → ltF w 13 i = 2)) := by
  have h13 := ok.1
  intro m
  induction m with
  | zero =>
    intro s a hs h1 h0
    have e : w.1 0 1 ≤ s := by omega
    refine ep_succ (fun n => G121e4 wb n ..) ?_
    simp (disch := omega) only [G121b4, hw.2.1, L0, L1, L2, L3, L4, L5, L6, L7, L8, L9, L10, L11, L12, L13, L16, L20, L31, L32, L40, L48, L57, L59, L60, L61, L91, L93, L97, L99, L100, L102, L103, L114, L122, L255, L300, L400, L402, L999, L2280, L2500, L99999, L63, L1431655765, L858993459, L252645135, ic_ge, ic_gt, ic_le, ic_lt, ic_eq, ic_ne, if_lt, if_ge, if_gt, if_le, if_eq, if_ne, if_lt_zI, if_ge_zI, ic_ne_m1, ic_eq_m1, ic_nn_m1, ic_ee_m1, if_ne_b2i, if_eq_b2i, b2i_z, decide_eq_true_eq, decide_true, decide_false, Bool.not_eq_true, Bool.not_eq_true', Bool.not_true, Bool.not_false, decide_eq_false_iff_not, Bool.false_eq_true, not_false_eq_true, not_true_eq_false, if_true, if_false, ↓reduceIte, eq_self, Option.bind_some, Bool.true_and, Bool.false_and, Bool.and_true, Bool.and_false, nI_add, nI_subN, nI_clamp, gdF, gdF2, gdP, gdP2, zI_cl, zI_s, Lm1, nI_n0, zI_n0, leF, or_false, false_or, or_self, e, b2i_nr]
    refine ep_ret ⟨rfl, a, rfl, fun ha => Or.inr (fun i hi hb => ?_)⟩
    have a1 := h1 i (by omega) hb
    have a0 := h0 ha i (by omega) hb
    have a2 := lt_le ok 13 i (by omega) hi
    omega
  | succ m ih =>
    intro s a hs h1 h0
    have e : ¬ w.1 0 1 ≤ s := by omega
    refine ep_succ (fun n => G121e4 wb n ..) ?_
    by_cases hb : W.testBit s = true
    · have a2 := lt_le ok 13 s (by omega) (by omega)
      simp (disch := omega) only [G121b4, hw.2.1, L0, L1, L2, L3, L4, L5, L6, L7, L8, L9, L10, L11, L12, L13, L16, L20, L31, L32, L40, L48, L57, L59, L60, L61, L91, L93, L97, L99, L100, L102, L103, L114, L122, L255, L300, L400, L402, L999, L2280, L2500, L99999, L63, L1431655765, L858993459, L252645135, ic_ge, ic_gt, ic_le, ic_lt, ic_eq, ic_ne, if_lt, if_ge, if_gt, if_le, if_eq, if_ne, if_lt_zI, if_ge_zI, ic_ne_m1, ic_eq_m1, ic_nn_m1, ic_ee_m1, if_ne_b2i, if_eq_b2i, b2i_z, decide_eq_true_eq, decide_true, decide_false, Bool.not_eq_true, Bool.not_eq_true', Bool.not_true, Bool.not_false, decide_eq_false_iff_not, Bool.false_eq_true, not_false_eq_true, not_true_eq_false, if_true, if_false, ↓reduceIte, eq_self, Option.bind_some, Bool.true_and, Bool.false_and, Bool.and_true, Bool.and_false, nI_add, nI_subN, nI_clamp, gdF, gdF2, gdP, gdP2, zI_cl, zI_s, Lm1, nI_n0, zI_n0, leF, or_false, false_or, or_self, e, nI_bit, hb, ic_ne_b1]
      refine ep_bv (g122 hw ok (by omega)) ?_
      by_cases l1 : ltF w 13 s = 1
      · simp (disch := omega) only [L0, L1, L2, L3, L4, L5, L6, L7, L8, L9, L10, L11, L12, L13, L16, L20, L31, L32, L40, L48, L57, L59, L60, L61, L91, L93, L97, L99, L100, L102, L103, L114, L122, L255, L300, L400, L402, L999, L2280, L2500, L99999, L63, L1431655765, L858993459, L252645135, ic_ge, ic_gt, ic_le, ic_lt, ic_eq, ic_ne, if_lt, if_ge, if_gt, if_le, if_eq, if_ne, if_lt_zI, if_ge_zI, ic_ne_m1, ic_eq_m1, ic_nn_m1, ic_ee_m1, if_ne_b2i, if_eq_b2i, b2i_z, decide_eq_true_eq, decide_true, decide_false, Bool.not_eq_true, Bool.not_eq_true', Bool.not_true, Bool.not_false, decide_eq_false_iff_not, Bool.false_eq_true, not_false_eq_true, not_true_eq_false, if_true, if_false, ↓reduceIte, eq_self, Option.bind_some, Bool.true_and, Bool.false_and, Bool.and_true, Bool.and_false, nI_add, nI_subN, nI_clamp, gdF, gdF2, gdP, gdP2, zI_cl, zI_s, Lm1, nI_n0, zI_n0, leF, or_false, false_or, or_self, l1]
        exact ep_ret ⟨rfl, false, rfl, fun _ => Or.inl ⟨s, by omega, hb, l1⟩⟩
      · by_cases l0 : ltF w 13 s = 0
        · simp (disch := omega) only [L0, L1, L2, L3, L4, L5, L6, L7, L8, L9, L10, L11, L12, L13, L16, L20, L31, L32, L40, L48, L57, L59, L60, L61, L91, L93, L97, L99, L100, L102, L103, L114, L122, L255, L300, L400, L402, L999, L2280, L2500, L99999, L63, L1431655765, L858993459, L252645135, ic_ge, ic_gt, ic_le, ic_lt, ic_eq, ic_ne, if_lt, if_ge, if_gt, if_le, if_eq, if_ne, if_lt_zI, if_ge_zI, ic_ne_m1, ic_eq_m1, ic_nn_m1, ic_ee_m1, if_ne_b2i, if_eq_b2i, b2i_z, decide_eq_true_eq, decide_true, decide_false, Bool.not_eq_true, Bool.not_eq_true', Bool.not_true, Bool.not_false, decide_eq_false_iff_not, Bool.false_eq_true, not_false_eq_true, not_true_eq_false, if_true, if_false, ↓reduceIte, eq_self, Option.bind_some, Bool.true_and, Bool.false_and, Bool.and_true, Bool.and_false, nI_add, nI_subN, nI_clamp, gdF, gdF2, gdP, gdP2, zI_cl, zI_s, Lm1, nI_n0, zI_n0, leF, or_false, false_or, or_self, l0, b2i_o1]
          refine ih (s + 1) true (by omega) (fun i hi hbi => ?_) (fun h => absurd h (by decide))
          by_cases ei : i = s
          · rw [ei]
            exact l1
          · exact h1 i (by omega) hbi
        · simp (disch := omega) only [L0, L1, L2, L3, L4, L5, L6, L7, L8, L9, L10, L11, L12, L13, L16, L20, L31, L32, L40, L48, L57, L59, L60, L61, L91, L93, L97, L99, L100, L102, L103, L114, L122, L255, L300, L400, L402, L999, L2280, L2500, L99999, L63, L1431655765, L858993459, L252645135, ic_ge, ic_gt, ic_le, ic_lt, ic_eq, ic_ne, if_lt, if_ge, if_gt, if_le, if_eq, if_ne, if_lt_zI, if_ge_zI, ic_ne_m1, ic_eq_m1, ic_nn_m1, ic_ee_m1, if_ne_b2i, if_eq_b2i, b2i_z, decide_eq_true_eq, decide_true, decide_false, Bool.not_eq_true, Bool.not_eq_true', Bool.not_true, Bool.not_false, decide_eq_false_iff_not, Bool.false_eq_true, not_false_eq_true, not_true_eq_false, if_true, if_false, ↓reduceIte, eq_self, Option.bind_some, Bool.true_and, Bool.false_and, Bool.and_true, Bool.and_false, nI_add, nI_subN, nI_clamp, gdF, gdF2, gdP, gdP2, zI_cl, zI_s, Lm1, nI_n0, zI_n0, leF, or_false, false_or, or_self, l1, l0, b2i_o0]
          refine ih (s + 1) a (by omega) (fun i hi hbi => ?_) (fun h i hi hbi => ?_)
          · by_cases ei : i = s
            · rw [ei]
              exact l1
            · exact h1 i (by omega) hbi
          · by_cases ei : i = s
            · rw [ei]
              exact l0
            · exact h0 h i (by omega) hbi
    · have hb' := Bool.eq_false_iff.mpr hb
      simp (disch := omega) only [G121b4, hw.2.1, L0, L1, L2, L3, L4, L5, L6, L7, L8, L9, L10, L11, L12, L13, L16, L20, L31, L32, L40, L48, L57, L59, L60, L61, L91, L93, L97, L99, L100, L102, L103, L114, L122, L255, L300, L400, L402, L999, L2280, L2500, L99999, L63, L1431655765, L858993459, L252645135, ic_ge, ic_gt, ic_le, ic_lt, ic_eq, ic_ne, if_lt, if_ge, if_gt, if_le, if_eq, if_ne, if_lt_zI, if_ge_zI, ic_ne_m1, ic_eq_m1, ic_nn_m1, ic_ee_m1, if_ne_b2i, if_eq_b2i, b2i_z, decide_eq_true_eq, decide_true, decide_false, Bool.not_eq_true, Bool.not_eq_true', Bool.not_true, Bool.not_false, decide_eq_false_iff_not, Bool.false_eq_true, not_false_eq_true, not_true_eq_false, if_true, if_false, ↓reduceIte, eq_self, Option.bind_some, Bool.true_and, Bool.false_and, Bool.and_true, Bool.and_false, nI_add, nI_subN, nI_clamp, gdF, gdF2, gdP, gdP2, zI_cl, zI_s, Lm1, nI_n0, zI_n0, leF, or_false, false_or, or_self, e, nI_bit, hb', ic_ne_b1]
      refine ih (s + 1) a (by omega) (fun i hi hbi => ?_) (fun h i hi hbi => ?_)
      · by_cases ei : i = s
        · rw [ei] at hbi
          exact absurd hbi hb
        · exact h1 i (by omega) hbi
      · by_cases ei : i = s
        · rw [ei] at hbi
          exact absurd hbi hb
        · exact h0 h i (by omega) hbi
theorem g121 {W : Nat} (hW : W < 2 ^ 31) (hw : CW T wb w) (ok : OkW b w) : Ep (fun n => G121 wb n (nI W) T) (fun z => z.2 = T ∧ ∃ v, z.1 = b2i v ∧ (v = false → (∃ i, i < w.1 0 1 ∧ W.testBit i = true ∧ ltF w 13 i = 1) ∨ ∀ i, i < w.1 0 1 → W.testBit i = true → ltF w 13 i = 2)) := by
  refine ep_succ (fun n => G121e0 wb n ..) ?_
  simp only [G121b0, L0]
  exact g121l hW hw ok _ 0 false (Nat.zero_add _) (fun i hi => absurd hi (Nat.not_lt_zero _)) (fun _ i hi => absurd hi (Nat.not_lt_zero _))
end Lt
def FrX (T T' : xS) : Prop := (∀ q, (q < 109 ∨ 122 < q) → (q ≠ 123 → T'.1 q = T.1 q) ∧ T'.2.1 q = T.2.1 q) ∧ (∀ q, q ≠ 109 → T'.2.2.2 q = T.2.2.2 q)
theorem FrX_rf {T : xS} : FrX T T := ⟨fun _ _ => ⟨fun _ => rfl, rfl⟩, fun _ _ => rfl⟩
theorem FrX_tr {T1 T2 T3 : xS} (h : FrX T1 T2) (h' : FrX T2 T3) : FrX T1 T3 := ⟨fun q hq => ⟨fun e => ((h'.1 q hq).1 e).trans ((h.1 q hq).1 e), (h'.1 q hq).2.trans (h.1 q hq).2⟩, fun q hq => (h'.2 q hq).trans (h.2 q hq)⟩
theorem FrL_X {T T' : xS} (h : FrL T T') : FrX T T' := ⟨fun q hq => ⟨fun _ => (h.1 q hq).1, (h.1 q hq).2⟩, h.2⟩
theorem FrX_I {T : xS} {x : Int32} : FrX T (x_sI T 123 1 x) := ⟨fun q hq => ⟨fun e => x_rIn e, rfl⟩, fun _ _ => rfl⟩
section G120
variable {lo : Option Nat} {ln : Nat} {b : AB} {l : LW} {cc : Nat → Int32}
theorem DS_123 {T : xS} {x : Int32} {w : AW} (h : DS T T 110 lo ln b l cc w) : DS (x_sI T 123 1 x) (x_sI T 123 1 x) 110 lo ln b l cc w := by
  obtain ⟨⟨h1, h2, h3, h4, h5, h6, h7⟩, hw, ok, hk, _⟩ := h
  refine ⟨⟨h1, h2, h3, h4, CB_of h5 (x_rIn (by decide)) (fun _ _ _ => rfl), h6, LC_fr h7 (fun _ _ _ => rfl)⟩, CW_of hw (x_rIn (by decide)) (fun _ _ _ => rfl), ok, KC_eq hk (x_rIn (by decide)) rfl (fun _ => rfl), FrS_rf⟩
def upF (f : Nat → Nat) (c : Nat) : Nat → Nat := fun i => if i = c then 1 else f i
theorem DS_mesh {T0 T : xS} {w : AW} {f : Nat → Nat} {c : Nat} (hc : c < b 0 0) (h16 : c < 16) (h : DS T0 T 110 lo ln b l cc (rp w f)) : DS T0 (x_sA T 119 c (nI 1)) 110 lo ln b l cc (rp w (upF f c)) := by
  obtain ⟨h1, ⟨k0, k1, k2, k3, k4, k5⟩, ok, hk, hf⟩ := h
  have fw : FrW 110 T (x_sA T 119 c (nI 1)) := FrW_A (by omega)
  refine ⟨DC_fr h1 (FrW_S fw), ⟨k0, k1, k2, fun s hs => ?_, fun i hi => ?_, fun i hi => ?_⟩, ⟨ok.1, fun s hs => ?_, fun i hi => ?_, ok.2.2.2⟩, KC_eq hk rfl rfl (fun _ => rfl), FrS_tr hf (FrW_S fw)⟩
  · simp (disch := omega) only [x_rAn]
    exact k3 s hs
  · rw [rp_7]
    unfold upF
    by_cases e : i = c
    · rw [if_pos e, e]
      exact x_rAe
    · have := k4 i hi
      rw [rp_7] at this
      rw [if_neg e]
      exact (x_rAi e).trans this
  · simp (disch := omega) only [x_rAn]
    exact k5 i hi
  · exact OkS_of (ok.2.1 s hs) (fun r h1 h5 => by rw [rp_n (by omega), rp_n (by omega)])
  · rw [rp_7]
    unfold upF
    by_cases e : i = c
    · rw [if_pos e, e]
      exact ⟨by decide, fun _ => hc⟩
    · have := ok.2.2.1 i hi
      rw [rp_7] at this
      rw [if_neg e]
      exact this
def mF (w : AW) (m c : Nat) : Nat → Nat := fun i => if i < c ∧ m.testBit i = true then 1 else w.1 7 i
theorem mF_0 {w : AW} {m : Nat} : rp w (mF w m 0) = w := by
  refine Prod.ext (funext (fun r => funext (fun i => ?_))) rfl
  show (if r = 7 then (if i < 0 ∧ m.testBit i = true then 1 else w.1 7 i) else w.1 r i) = w.1 r i
  by_cases e : r = 7
  · rw [if_pos e, if_neg (fun z => absurd z.1 (Nat.not_lt_zero _)), e]
  · rw [if_neg e]
theorem mF_16 {w : AW} {m : Nat} (hm : m < 65536) : rp w (mF w m 16) = nwA w m := by
  unfold nwA
  congr 1
  funext i
  unfold mF
  by_cases h : m.testBit i = true
  · have hi : i < 16 := by
      refine Nat.lt_of_not_le (fun hi => ?_)
      rw [Nat.testBit_lt_two_pow (Nat.lt_of_lt_of_le (show m < 2 ^ 16 from hm) (Nat.pow_le_pow_right (by decide) hi))] at h
      exact absurd h (by decide)
    rw [if_pos ⟨hi, h⟩, if_pos h]
  · rw [if_neg (fun z => h z.2), if_neg h]
theorem mF_s {w : AW} {m c : Nat} : mF w m (c + 1) = if m.testBit c = true then upF (mF w m c) c else mF w m c := by
  funext i
  by_cases h : m.testBit c = true
  · rw [if_pos h]
    unfold mF upF
    by_cases e : i = c
    · subst e
      rw [if_pos ⟨by omega, h⟩, if_pos rfl]
    · rw [if_neg e]
      by_cases h2 : i < c ∧ m.testBit i = true
      · rw [if_pos ⟨by omega, h2.2⟩]
        exact (if_pos h2).symm
      · rw [if_neg (fun z => h2 ⟨by omega, z.2⟩)]
        exact (if_neg h2).symm
  · rw [if_neg h]
    unfold mF
    by_cases h2 : i < c ∧ m.testBit i = true
    · rw [if_pos ⟨by omega, h2.2⟩, if_pos h2]
    · refine (if_neg (fun z => ?_)).trans (if_neg h2).symm
      by_cases e : i = c
      · rw [e] at z
        exact h z.2
      · exact h2 ⟨by omega, z.2⟩
/-- r has every place where one rested on days 1 to j -/
def Rs (b : AB) (l : LW) (w : AW) (r j : Nat) : Prop := ∀ c, c < 16 → r.testBit c = false → ∀ i s, 1 ≤ i → i ≤ j → s < w.1 0 1 → (dysA b l i w).1 1 s ≠ c + 1
theorem g120e {T : xS} {w : AW} {W : Nat} (hW : W < 2 ^ 31) (hw : CW T 110 w) (ok : OkW b w) : ∀ (m s : Nat), s + m = w.1 0 1 → Ev (fun n => G120f 110 lo ln n 93 (nI 0) (nI W) (nI s) T) (b2i (alF (fun s => !W.testBit s || decide (ltF w 13 s = 2)) m s), T) := by
  have h13 := ok.1
  intro m
  induction m with
  | zero =>
    intro s hs
    have e : w.1 0 1 ≤ s := by omega
    refine ev_succ (fun n => G120e93 110 lo ln n ..) ?_
    simp (disch := omega) only [G120b93, hw.2.1, L0, L1, L2, L3, L4, L5, L6, L7, L8, L9, L10, L11, L12, L13, L16, L20, L31, L32, L40, L48, L57, L59, L60, L61, L91, L93, L97, L99, L100, L102, L103, L114, L122, L255, L300, L400, L402, L999, L2280, L2500, L99999, L63, L1431655765, L858993459, L252645135, ic_ge, ic_gt, ic_le, ic_lt, ic_eq, ic_ne, if_lt, if_ge, if_gt, if_le, if_eq, if_ne, if_lt_zI, if_ge_zI, ic_ne_m1, ic_eq_m1, ic_nn_m1, ic_ee_m1, if_ne_b2i, if_eq_b2i, b2i_z, decide_eq_true_eq, decide_true, decide_false, Bool.not_eq_true, Bool.not_eq_true', Bool.not_true, Bool.not_false, decide_eq_false_iff_not, Bool.false_eq_true, not_false_eq_true, not_true_eq_false, if_true, if_false, ↓reduceIte, eq_self, Option.bind_some, Bool.true_and, Bool.false_and, Bool.and_true, Bool.and_false, nI_add, nI_subN, nI_clamp, gdF, gdF2, gdP, gdP2, zI_cl, zI_s, Lm1, nI_n0, zI_n0, leF, or_false, false_or, or_self, e]
    exact ev_ret
  | succ m ih =>
    intro s hs
    have e : ¬ w.1 0 1 ≤ s := by omega
    refine ev_succ (fun n => G120e93 110 lo ln n ..) ?_
    unfold alF
    by_cases hb : W.testBit s = true
    · have a2 := lt_le ok 13 s (by omega) (by omega)
      simp (disch := omega) only [G120b93, hw.2.1, L0, L1, L2, L3, L4, L5, L6, L7, L8, L9, L10, L11, L12, L13, L16, L20, L31, L32, L40, L48, L57, L59, L60, L61, L91, L93, L97, L99, L100, L102, L103, L114, L122, L255, L300, L400, L402, L999, L2280, L2500, L99999, L63, L1431655765, L858993459, L252645135, ic_ge, ic_gt, ic_le, ic_lt, ic_eq, ic_ne, if_lt, if_ge, if_gt, if_le, if_eq, if_ne, if_lt_zI, if_ge_zI, ic_ne_m1, ic_eq_m1, ic_nn_m1, ic_ee_m1, if_ne_b2i, if_eq_b2i, b2i_z, decide_eq_true_eq, decide_true, decide_false, Bool.not_eq_true, Bool.not_eq_true', Bool.not_true, Bool.not_false, decide_eq_false_iff_not, Bool.false_eq_true, not_false_eq_true, not_true_eq_false, if_true, if_false, ↓reduceIte, eq_self, Option.bind_some, Bool.true_and, Bool.false_and, Bool.and_true, Bool.and_false, nI_add, nI_subN, nI_clamp, gdF, gdF2, gdP, gdP2, zI_cl, zI_s, Lm1, nI_n0, zI_n0, leF, or_false, false_or, or_self, e, nI_bit, hb, ic_ne_b1]
      refine ev_bind (g122 hw ok (by omega)) ?_
      by_cases l2 : ltF w 13 s = 2
      · simp (disch := omega) only [L0, L1, L2, L3, L4, L5, L6, L7, L8, L9, L10, L11, L12, L13, L16, L20, L31, L32, L40, L48, L57, L59, L60, L61, L91, L93, L97, L99, L100, L102, L103, L114, L122, L255, L300, L400, L402, L999, L2280, L2500, L99999, L63, L1431655765, L858993459, L252645135, ic_ge, ic_gt, ic_le, ic_lt, ic_eq, ic_ne, if_lt, if_ge, if_gt, if_le, if_eq, if_ne, if_lt_zI, if_ge_zI, ic_ne_m1, ic_eq_m1, ic_nn_m1, ic_ee_m1, if_ne_b2i, if_eq_b2i, b2i_z, decide_eq_true_eq, decide_true, decide_false, Bool.not_eq_true, Bool.not_eq_true', Bool.not_true, Bool.not_false, decide_eq_false_iff_not, Bool.false_eq_true, not_false_eq_true, not_true_eq_false, if_true, if_false, ↓reduceIte, eq_self, Option.bind_some, Bool.true_and, Bool.false_and, Bool.and_true, Bool.and_false, nI_add, nI_subN, nI_clamp, gdF, gdF2, gdP, gdP2, zI_cl, zI_s, Lm1, nI_n0, zI_n0, leF, or_false, false_or, or_self, l2, Bool.false_or]
        exact ih (s + 1) (by omega)
      · simp (disch := omega) only [L0, L1, L2, L3, L4, L5, L6, L7, L8, L9, L10, L11, L12, L13, L16, L20, L31, L32, L40, L48, L57, L59, L60, L61, L91, L93, L97, L99, L100, L102, L103, L114, L122, L255, L300, L400, L402, L999, L2280, L2500, L99999, L63, L1431655765, L858993459, L252645135, ic_ge, ic_gt, ic_le, ic_lt, ic_eq, ic_ne, if_lt, if_ge, if_gt, if_le, if_eq, if_ne, if_lt_zI, if_ge_zI, ic_ne_m1, ic_eq_m1, ic_nn_m1, ic_ee_m1, if_ne_b2i, if_eq_b2i, b2i_z, decide_eq_true_eq, decide_true, decide_false, Bool.not_eq_true, Bool.not_eq_true', Bool.not_true, Bool.not_false, decide_eq_false_iff_not, Bool.false_eq_true, not_false_eq_true, not_true_eq_false, if_true, if_false, ↓reduceIte, eq_self, Option.bind_some, Bool.true_and, Bool.false_and, Bool.and_true, Bool.and_false, nI_add, nI_subN, nI_clamp, gdF, gdF2, gdP, gdP2, zI_cl, zI_s, Lm1, nI_n0, zI_n0, leF, or_false, false_or, or_self, l2, Bool.false_or]
        exact ev_ret
    · have hb' := Bool.eq_false_iff.mpr hb
      simp (disch := omega) only [G120b93, hw.2.1, L0, L1, L2, L3, L4, L5, L6, L7, L8, L9, L10, L11, L12, L13, L16, L20, L31, L32, L40, L48, L57, L59, L60, L61, L91, L93, L97, L99, L100, L102, L103, L114, L122, L255, L300, L400, L402, L999, L2280, L2500, L99999, L63, L1431655765, L858993459, L252645135, ic_ge, ic_gt, ic_le, ic_lt, ic_eq, ic_ne, if_lt, if_ge, if_gt, if_le, if_eq, if_ne, if_lt_zI, if_ge_zI, ic_ne_m1, ic_eq_m1, ic_nn_m1, ic_ee_m1, if_ne_b2i, if_eq_b2i, b2i_z, decide_eq_true_eq, decide_true, decide_false, Bool.not_eq_true, Bool.not_eq_true', Bool.not_true, Bool.not_false, decide_eq_false_iff_not, Bool.false_eq_true, not_false_eq_true, not_true_eq_false, if_true, if_false, ↓reduceIte, eq_self, Option.bind_some, Bool.true_and, Bool.false_and, Bool.and_true, Bool.and_false, nI_add, nI_subN, nI_clamp, gdF, gdF2, gdP, gdP2, zI_cl, zI_s, Lm1, nI_n0, zI_n0, leF, or_false, false_or, or_self, e, nI_bit, hb', ic_ne_b1, Bool.true_or]
      exact ih (s + 1) (by omega)
theorem many_0 {w : AW} {c s : Nat} (h : ¬ 1 ≤ manyN w c) (hs : s < w.1 0 1) : w.1 1 s ≠ c + 1 := fun e => h (ctF_pos (s := s) _ _ (Nat.zero_le _) (by omega) (decide_eq_true e))
theorem g120d {T0 : xS} {w : AW} {W : Nat} (hb : OkB b) (hW : W < 2 ^ 31) (ok0 : OkW b w) (hd : w.1 0 0 < 900) : ∀ (k j r : Nat) (T : xS), j + k = 60 → r < 65536 → FrX T0 T → T.1 123 1 = nI r → Rs b l w r j → DS T T 110 lo ln b l cc (dysA b l j w) → Ep (fun n => G120f 110 lo ln n 49 (nI 0) (nI W) (nI j) T) (fun z => z.1 = b2i (gtB (dysA b l 60 w) W) ∧ FrX T0 z.2 ∧ ∃ r, r < 65536 ∧ z.2.1 123 1 = nI r ∧ (gtB (dysA b l 60 w) W = false → ∃ D, D ≤ 60 ∧ (D = 60 ∨ ∃ s, s < w.1 0 1 ∧ W.testBit s = true ∧ ltF (dysA b l D w) 13 s = 1) ∧ Rs b l w r D)) := by
  have fin : ∀ (j r : Nat) (T : xS), j ≤ 60 → r < 65536 → FrX T0 T → T.1 123 1 = nI r → Rs b l w r j → DS T T 110 lo ln b l cc (dysA b l j w) → (j = 60 ∨ (∃ i, i < (dysA b l j w).1 0 1 ∧ W.testBit i = true ∧ ltF (dysA b l j w) 13 i = 1) ∨ ∀ i, i < (dysA b l j w).1 0 1 → W.testBit i = true → ltF (dysA b l j w) 13 i = 2) → Ep (fun n => G120f 110 lo ln n 93 (nI 0) (nI W) (nI 0) T) (fun z => z.1 = b2i (gtB (dysA b l 60 w) W) ∧ FrX T0 z.2 ∧ ∃ r, r < 65536 ∧ z.2.1 123 1 = nI r ∧ (gtB (dysA b l 60 w) W = false → ∃ D, D ≤ 60 ∧ (D = 60 ∨ ∃ s, s < w.1 0 1 ∧ W.testBit s = true ∧ ltF (dysA b l D w) 13 s = 1) ∧ Rs b l w r D)) := by
    intro j r T hj hr fx h123 hrs hS hst
    have okj := dys_Ok (l := l) hb j w ok0
    have ok60 := dys_Ok (l := l) hb 60 w ok0
    have h13 := ok0.1
    have pers : ∀ i, i < w.1 0 1 → ltF (dysA b l j w) 13 i ≠ 0 → ltF (dysA b l 60 w) 13 i = ltF (dysA b l j w) 13 i := by
      intro i hi h0
      have := lt_dys (l := l) hb (s := i) (by omega) (60 - j) _ okj.1 (by rw [okj.2.1]; exact hi) h0
      rw [← dys_add, show j + (60 - j) = 60 by omega] at this
      exact this
    have ge := g120e (lo := lo) (ln := ln) hW hS.2.1 hS.2.2.1 _ 0 (Nat.zero_add _)
    have ge : Ev (fun n => G120f 110 lo ln n 93 (nI 0) (nI W) (nI 0) T) (b2i (gtB (dysA b l j w) W), T) := ge
    have hg : gtB (dysA b l j w) W = gtB (dysA b l 60 w) W := by
      rcases hst with rfl | ⟨i, hi, hbi, hl⟩ | hal
      · rfl
      · rw [okj.2.1] at hi
        have e1 : gtB (dysA b l j w) W = false := Bool.eq_false_iff.mpr (fun h => by
          have := gt_is.mp h i (by rw [okj.2.1]; exact hi) hbi
          omega)
        have e2 : gtB (dysA b l 60 w) W = false := Bool.eq_false_iff.mpr (fun h => by
          have h1 := gt_is.mp h i (by rw [ok60.2.1]; exact hi) hbi
          have h2 := pers i hi (by omega)
          omega)
        rw [e1, e2]
      · have e1 : gtB (dysA b l j w) W = true := gt_is.mpr hal
        have e2 : gtB (dysA b l 60 w) W = true := gt_is.mpr (fun i hi hbi => by
          rw [ok60.2.1] at hi
          have h1 := hal i (by rw [okj.2.1]; exact hi) hbi
          rw [pers i hi (by omega)]
          exact h1)
        rw [e1, e2]
    refine ep_ev ge ⟨by rw [← hg], fx, r, hr, h123, fun hf => ⟨j, hj, ?_, hrs⟩⟩
    rcases hst with h | ⟨i, hi, hbi, hl⟩ | hal
    · exact Or.inl h
    · exact Or.inr ⟨i, by rw [← okj.2.1]; exact hi, hbi, hl⟩
    · rw [← hg, gt_is.mpr hal] at hf
      exact absurd hf (by decide)
  intro k
  induction k with
  | zero =>
    intro j r T hj hr fx h123 hrs hS
    have e : 60 ≤ j := by omega
    refine ep_succ (fun n => G120e49 110 lo ln n ..) ?_
    simp (disch := omega) only [G120b49, L0, L1, L2, L3, L4, L5, L6, L7, L8, L9, L10, L11, L12, L13, L16, L20, L31, L32, L40, L48, L57, L59, L60, L61, L91, L93, L97, L99, L100, L102, L103, L114, L122, L255, L300, L400, L402, L999, L2280, L2500, L99999, L63, L1431655765, L858993459, L252645135, ic_ge, ic_gt, ic_le, ic_lt, ic_eq, ic_ne, if_lt, if_ge, if_gt, if_le, if_eq, if_ne, if_lt_zI, if_ge_zI, ic_ne_m1, ic_eq_m1, ic_nn_m1, ic_ee_m1, if_ne_b2i, if_eq_b2i, b2i_z, decide_eq_true_eq, decide_true, decide_false, Bool.not_eq_true, Bool.not_eq_true', Bool.not_true, Bool.not_false, decide_eq_false_iff_not, Bool.false_eq_true, not_false_eq_true, not_true_eq_false, if_true, if_false, ↓reduceIte, eq_self, Option.bind_some, Bool.true_and, Bool.false_and, Bool.and_true, Bool.and_false, nI_add, nI_subN, nI_clamp, gdF, gdF2, gdP, gdP2, zI_cl, zI_s, Lm1, nI_n0, zI_n0, leF, or_false, false_or, or_self, e]
    exact fin j r T (by omega) hr fx h123 hrs hS (Or.inl (by omega))
  | succ k ih =>
    intro j r T hj hr fx h123 hrs hS
    have e : ¬ 60 ≤ j := by omega
    refine ep_succ (fun n => G120e49 110 lo ln n ..) ?_
    simp (disch := omega) only [G120b49, L0, L1, L2, L3, L4, L5, L6, L7, L8, L9, L10, L11, L12, L13, L16, L20, L31, L32, L40, L48, L57, L59, L60, L61, L91, L93, L97, L99, L100, L102, L103, L114, L122, L255, L300, L400, L402, L999, L2280, L2500, L99999, L63, L1431655765, L858993459, L252645135, ic_ge, ic_gt, ic_le, ic_lt, ic_eq, ic_ne, if_lt, if_ge, if_gt, if_le, if_eq, if_ne, if_lt_zI, if_ge_zI, ic_ne_m1, ic_eq_m1, ic_nn_m1, ic_ee_m1, if_ne_b2i, if_eq_b2i, b2i_z, decide_eq_true_eq, decide_true, decide_false, Bool.not_eq_true, Bool.not_eq_true', Bool.not_true, Bool.not_false, decide_eq_false_iff_not, Bool.false_eq_true, not_false_eq_true, not_true_eq_false, if_true, if_false, ↓reduceIte, eq_self, Option.bind_some, Bool.true_and, Bool.false_and, Bool.and_true, Bool.and_false, nI_add, nI_subN, nI_clamp, gdF, gdF2, gdP, gdP2, zI_cl, zI_s, Lm1, nI_n0, zI_n0, leF, or_false, false_or, or_self, e]
    refine ep_bind (g121 hW hS.2.1 hS.2.2.1) ?_
    rintro ⟨z1, T1⟩ ⟨e1, v, e2, e3⟩
    have e1 : T1 = T := e1
    have e2 : z1 = b2i v := e2
    subst e1
    subst e2
    cases v with
    | false =>
      simp (disch := omega) only [L0, L1, L2, L3, L4, L5, L6, L7, L8, L9, L10, L11, L12, L13, L16, L20, L31, L32, L40, L48, L57, L59, L60, L61, L91, L93, L97, L99, L100, L102, L103, L114, L122, L255, L300, L400, L402, L999, L2280, L2500, L99999, L63, L1431655765, L858993459, L252645135, ic_ge, ic_gt, ic_le, ic_lt, ic_eq, ic_ne, if_lt, if_ge, if_gt, if_le, if_eq, if_ne, if_lt_zI, if_ge_zI, ic_ne_m1, ic_eq_m1, ic_nn_m1, ic_ee_m1, if_ne_b2i, if_eq_b2i, b2i_z, decide_eq_true_eq, decide_true, decide_false, Bool.not_eq_true, Bool.not_eq_true', Bool.not_true, Bool.not_false, decide_eq_false_iff_not, Bool.false_eq_true, not_false_eq_true, not_true_eq_false, if_true, if_false, ↓reduceIte, eq_self, Option.bind_some, Bool.true_and, Bool.false_and, Bool.and_true, Bool.and_false, nI_add, nI_subN, nI_clamp, gdF, gdF2, gdP, gdP2, zI_cl, zI_s, Lm1, nI_n0, zI_n0, leF, or_false, false_or, or_self]
      exact fin j r T1 (by omega) hr fx h123 hrs hS (Or.inr (e3 rfl))
    | true =>
      have okj := dys_Ok (l := l) hb j w ok0
      simp (disch := omega) only [L0, L1, L2, L3, L4, L5, L6, L7, L8, L9, L10, L11, L12, L13, L16, L20, L31, L32, L40, L48, L57, L59, L60, L61, L91, L93, L97, L99, L100, L102, L103, L114, L122, L255, L300, L400, L402, L999, L2280, L2500, L99999, L63, L1431655765, L858993459, L252645135, ic_ge, ic_gt, ic_le, ic_lt, ic_eq, ic_ne, if_lt, if_ge, if_gt, if_le, if_eq, if_ne, if_lt_zI, if_ge_zI, ic_ne_m1, ic_eq_m1, ic_nn_m1, ic_ee_m1, if_ne_b2i, if_eq_b2i, b2i_z, decide_eq_true_eq, decide_true, decide_false, Bool.not_eq_true, Bool.not_eq_true', Bool.not_true, Bool.not_false, decide_eq_false_iff_not, Bool.false_eq_true, not_false_eq_true, not_true_eq_false, if_true, if_false, ↓reduceIte, eq_self, Option.bind_some, Bool.true_and, Bool.false_and, Bool.and_true, Bool.and_false, nI_add, nI_subN, nI_clamp, gdF, gdF2, gdP, gdP2, zI_cl, zI_s, Lm1, nI_n0, zI_n0, leF, or_false, false_or, or_self]
      refine ep_bind (g86 (by rw [okj.2.2]; omega) hS) ?_
      rintro ⟨_, T2⟩ h2
      have h2 : DS T1 T2 110 lo ln b l cc (dayA b l (dysA b l j w)) := h2
      have ed : dayA b l (dysA b l j w) = dysA b l (j + 1) w := by
        rw [dys_add]
        rfl
      rw [ed] at h2
      have f2 := FrS_L' h2.2.2.2.2
      have okn := dys_Ok (l := l) hb (j + 1) w ok0
      refine ep_bind (g90 h2.2.1 okn.1.1 (OkW_16 hb okn.1) (Or.inl rfl)) ?_
      rintro ⟨z3, T3⟩ ⟨e4, v, hv, e5, e6⟩
      have e4 : T3 = T2 := e4
      have e5 : z3 = nI v := e5
      subst e4
      subst e5
      have h123' : T3.1 123 1 = nI r := by rw [(f2.1 123 (by omega)).1]; exact h123
      simp only [h123', nx_or]
      refine ih (j + 1) (r ||| v) _ (by omega) (Nat.or_lt_two_pow (n := 16) hr hv) (FrX_tr (FrX_tr fx (FrL_X f2)) FrX_I) x_rIe (fun c hc hbit i s h1 h2' hs => ?_) (DS_123 ⟨h2.1, h2.2.1, h2.2.2.1, h2.2.2.2.1, FrS_rf⟩)
      rw [Nat.testBit_or, Bool.or_eq_false_iff] at hbit
      by_cases ei : i = j + 1
      · rw [ei]
        have := e6 c
        rw [hbit.2] at this
        exact many_0 (of_decide_eq_false this.symm) (by rw [okn.2.1]; exact hs)
      · exact hrs c hc hbit.1 i s h1 (by omega) hs
theorem g120m {T0 : xS} {w : AW} {W m : Nat} (hb : OkB b) (hm : m < 65536) (hmb : ∀ i, m.testBit i = true → i < b 0 0) {Q : Int32 × xS → Prop} (go : ∀ T, DS T0 T 110 lo ln b l cc (nwA w m) → Ep (fun n => G120f 110 lo ln n 49 (nI 0) (nI W) (nI 0) (x_sI T 123 1 (nI 0))) Q) : ∀ (k c : Nat) (T : xS), c + k = 16 → DS T0 T 110 lo ln b l cc (rp w (mF w m c)) → Ep (fun n => G120f 110 lo ln n 9 (nI m) (nI W) (nI c) T) Q := by
  intro k
  induction k with
  | zero =>
    intro c T hc hS
    have : c = 16 := by omega
    subst this
    rw [mF_16 hm] at hS
    refine ep_succ (fun n => G120e9 110 lo ln n ..) ?_
    simp (disch := omega) only [G120b9, L0, L1, L2, L3, L4, L5, L6, L7, L8, L9, L10, L11, L12, L13, L16, L20, L31, L32, L40, L48, L57, L59, L60, L61, L91, L93, L97, L99, L100, L102, L103, L114, L122, L255, L300, L400, L402, L999, L2280, L2500, L99999, L63, L1431655765, L858993459, L252645135, ic_ge, ic_gt, ic_le, ic_lt, ic_eq, ic_ne, if_lt, if_ge, if_gt, if_le, if_eq, if_ne, if_lt_zI, if_ge_zI, ic_ne_m1, ic_eq_m1, ic_nn_m1, ic_ee_m1, if_ne_b2i, if_eq_b2i, b2i_z, decide_eq_true_eq, decide_true, decide_false, Bool.not_eq_true, Bool.not_eq_true', Bool.not_true, Bool.not_false, decide_eq_false_iff_not, Bool.false_eq_true, not_false_eq_true, not_true_eq_false, if_true, if_false, ↓reduceIte, eq_self, Option.bind_some, Bool.true_and, Bool.false_and, Bool.and_true, Bool.and_false, nI_add, nI_subN, nI_clamp, gdF, gdF2, gdP, gdP2, zI_cl, zI_s, Lm1, nI_n0, zI_n0, leF, or_false, false_or, or_self, Nat.le_refl]
    exact go T hS
  | succ k ih =>
    intro c T hc hS
    have e : ¬ 16 ≤ c := by omega
    have ig := fun T' => ih (c + 1) T' (by omega)
    rw [mF_s] at ig
    refine ep_succ (fun n => G120e9 110 lo ln n ..) ?_
    by_cases hbit : m.testBit c = true
    · rw [if_pos hbit] at ig
      simp (disch := omega) only [G120b9, L0, L1, L2, L3, L4, L5, L6, L7, L8, L9, L10, L11, L12, L13, L16, L20, L31, L32, L40, L48, L57, L59, L60, L61, L91, L93, L97, L99, L100, L102, L103, L114, L122, L255, L300, L400, L402, L999, L2280, L2500, L99999, L63, L1431655765, L858993459, L252645135, ic_ge, ic_gt, ic_le, ic_lt, ic_eq, ic_ne, if_lt, if_ge, if_gt, if_le, if_eq, if_ne, if_lt_zI, if_ge_zI, ic_ne_m1, ic_eq_m1, ic_nn_m1, ic_ee_m1, if_ne_b2i, if_eq_b2i, b2i_z, decide_eq_true_eq, decide_true, decide_false, Bool.not_eq_true, Bool.not_eq_true', Bool.not_true, Bool.not_false, decide_eq_false_iff_not, Bool.false_eq_true, not_false_eq_true, not_true_eq_false, if_true, if_false, ↓reduceIte, eq_self, Option.bind_some, Bool.true_and, Bool.false_and, Bool.and_true, Bool.and_false, nI_add, nI_subN, nI_clamp, gdF, gdF2, gdP, gdP2, zI_cl, zI_s, Lm1, nI_n0, zI_n0, leF, or_false, false_or, or_self, e, nI_bit, hbit, ic_ne_b1]
      exact ig _ (DS_mesh (hmb c hbit) (by omega) hS)
    · rw [if_neg hbit] at ig
      have hbit' := Bool.eq_false_iff.mpr hbit
      simp (disch := omega) only [G120b9, L0, L1, L2, L3, L4, L5, L6, L7, L8, L9, L10, L11, L12, L13, L16, L20, L31, L32, L40, L48, L57, L59, L60, L61, L91, L93, L97, L99, L100, L102, L103, L114, L122, L255, L300, L400, L402, L999, L2280, L2500, L99999, L63, L1431655765, L858993459, L252645135, ic_ge, ic_gt, ic_le, ic_lt, ic_eq, ic_ne, if_lt, if_ge, if_gt, if_le, if_eq, if_ne, if_lt_zI, if_ge_zI, ic_ne_m1, ic_eq_m1, ic_nn_m1, ic_ee_m1, if_ne_b2i, if_eq_b2i, b2i_z, decide_eq_true_eq, decide_true, decide_false, Bool.not_eq_true, Bool.not_eq_true', Bool.not_true, Bool.not_false, decide_eq_false_iff_not, Bool.false_eq_true, not_false_eq_true, not_true_eq_false, if_true, if_false, ↓reduceIte, eq_self, Option.bind_some, Bool.true_and, Bool.false_and, Bool.and_true, Bool.and_false, nI_add, nI_subN, nI_clamp, gdF, gdF2, gdP, gdP2, zI_cl, zI_s, Lm1, nI_n0, zI_n0, leF, or_false, false_or, or_self, e, nI_bit, hbit', ic_ne_b1]
      exact ig T hS
theorem g120 {T : xS} {w : AW} {W m : Nat} (hb : OkB b) (hW : W < 2 ^ 31) (ok0 : OkW b w) (hd : w.1 0 0 < 900) (hm : m < 65536) (hmb : ∀ i, m.testBit i = true → i < b 0 0) (hS : DS T T 110 lo ln b l cc w) : Ep (fun n => G120 110 lo ln n (nI m) (nI W) T) (fun z => z.1 = b2i (gets b l w W m) ∧ FrX T z.2 ∧ ∃ r, r < 65536 ∧ z.2.1 123 1 = nI r ∧ (gets b l w W m = false → Gd b l w W m r)) := by
  refine ep_succ (fun n => G120e0 110 lo ln n ..) ?_
  have h4 := hS.1.2.2.1
  simp only [G120b0, h4, decide_eq_true_eq, decide_true, decide_false, Bool.not_eq_true, Bool.not_eq_true', Bool.not_true, Bool.not_false, decide_eq_false_iff_not, Bool.false_eq_true, not_false_eq_true, not_true_eq_false, if_true, if_false, ↓reduceIte, eq_self, Option.bind_some, Bool.true_and, Bool.false_and, Bool.and_true, Bool.and_false, L0]
  refine g120m (T0 := T) (w := w) hb hm hmb (fun T1 h1 => ?_) 16 0 T (by omega) (by rw [mF_0]; exact hS)
  have hok := nw_Ok (w := w) ok0 hmb
  refine ep_mono (g120d (T0 := T) (w := nwA w m) hb hW hok hd 60 0 0 _ (by omega) (by decide) (FrX_tr (FrL_X (FrS_L' h1.2.2.2.2)) FrX_I) x_rIe (fun c _ _ i s a b => by omega) (DS_123 ⟨h1.1, h1.2.1, h1.2.2.1, h1.2.2.2.1, FrS_rf⟩)) ?_
  rintro ⟨z, T2⟩ ⟨a1, a2, r, a3, a4, a5⟩
  refine ⟨a1, a2, r, a3, a4, fun hg => ?_⟩
  obtain ⟨D, d1, d2, d3⟩ := a5 hg
  exact ⟨D, d1, d2, d3⟩
end G120
