/-! gates -/
theorem arg_R {k : Nat} {A : AA} (ok : OkA k A) (h0 : ¬ A.2.2.1.1 0 0 = 0) : (∀ T G, RC A T G → Ev (fun n => G82 n T) (nI 1, T)) ∧ (∀ S, RM A S → Ev (fun n => F210 n S) (nI 1, S)) := by
  have hb1 := (OkA_b ok).1
  refine ⟨fun T G h => ?_, fun S h => ?_⟩
  · have hc0 : T.1 89 0 = nI (A.2.2.1.1 0 0) := (CD_b h).1
    refine ev_succ (fun n => G82e0 n ..) ?_
    simp (disch := omega) only [G82b0, hc0, h0, if_le, decide_eq_true_eq, decide_true, decide_false, Bool.not_eq_true, Bool.not_eq_true', Bool.not_true, Bool.not_false, decide_eq_false_iff_not, Bool.false_eq_true, not_false_eq_true, not_true_eq_false, if_true, if_false, ↓reduceIte, eq_self, Option.bind_some, Bool.true_and, Bool.false_and, Bool.and_true, Bool.and_false, L0, L1, L2, L3, L4, L5, L6, L7, L8, L9, L10, L11, L12, L13, L16, L20, L31, L32, L40, L48, L57, L59, L60, L61, L91, L93, L97, L99, L100, L102, L103, L114, L122, L255, L300, L400, L402, L999, L2280, L2500, L99999, L63, L1431655765, L858993459, L252645135]
    exact ev_ret
  · have hc0 : S.2.1 1 0 = nI (A.2.2.1.1 0 0) := (MD_b h).1
    refine ev_succ (fun n => F210e0 n ..) ?_
    simp (disch := omega) only [F210b0, hc0, h0, if_le, decide_eq_true_eq, decide_true, decide_false, Bool.not_eq_true, Bool.not_eq_true', Bool.not_true, Bool.not_false, decide_eq_false_iff_not, Bool.false_eq_true, not_false_eq_true, not_true_eq_false, if_true, if_false, ↓reduceIte, eq_self, Option.bind_some, Bool.true_and, Bool.false_and, Bool.and_true, Bool.and_false, L0, L1, L2, L3, L4, L5, L6, L7, L8, L9, L10, L11, L12, L13, L16, L20, L31, L32, L40, L48, L57, L59, L60, L61, L91, L93, L97, L99, L100, L102, L103, L114, L122, L255, L300, L400, L402, L999, L2280, L2500, L99999, L63, L1431655765, L858993459, L252645135]
    exact ev_ret
theorem arg_R0 {k : Nat} {A : AA} (ok : OkA k A) (h0 : A.2.2.1.1 0 0 = 0) : (∀ T G, RC A T G → Ev (fun n => G82 n T) (nI 0, T)) ∧ (∀ S, RM A S → Ev (fun n => F210 n S) (nI 0, S)) := by
  refine ⟨fun T G h => ?_, fun S h => ?_⟩
  · have hc0 : T.1 89 0 = nI (A.2.2.1.1 0 0) := (CD_b h).1
    refine ev_succ (fun n => G82e0 n ..) ?_
    simp (disch := omega) only [G82b0, hc0, h0, if_le, decide_eq_true_eq, decide_true, decide_false, Bool.not_eq_true, Bool.not_eq_true', Bool.not_true, Bool.not_false, decide_eq_false_iff_not, Bool.false_eq_true, not_false_eq_true, not_true_eq_false, if_true, if_false, ↓reduceIte, eq_self, Option.bind_some, Bool.true_and, Bool.false_and, Bool.and_true, Bool.and_false, L0, L1, L2, L3, L4, L5, L6, L7, L8, L9, L10, L11, L12, L13, L16, L20, L31, L32, L40, L48, L57, L59, L60, L61, L91, L93, L97, L99, L100, L102, L103, L114, L122, L255, L300, L400, L402, L999, L2280, L2500, L99999, L63, L1431655765, L858993459, L252645135]
    exact ev_ret
  · have hc0 : S.2.1 1 0 = nI (A.2.2.1.1 0 0) := (MD_b h).1
    refine ev_succ (fun n => F210e0 n ..) ?_
    simp (disch := omega) only [F210b0, hc0, h0, if_le, decide_eq_true_eq, decide_true, decide_false, Bool.not_eq_true, Bool.not_eq_true', Bool.not_true, Bool.not_false, decide_eq_false_iff_not, Bool.false_eq_true, not_false_eq_true, not_true_eq_false, if_true, if_false, ↓reduceIte, eq_self, Option.bind_some, Bool.true_and, Bool.false_and, Bool.and_true, Bool.and_false, L0, L1, L2, L3, L4, L5, L6, L7, L8, L9, L10, L11, L12, L13, L16, L20, L31, L32, L40, L48, L57, L59, L60, L61, L91, L93, L97, L99, L100, L102, L103, L114, L122, L255, L300, L400, L402, L999, L2280, L2500, L99999, L63, L1431655765, L858993459, L252645135]
    exact ev_ret
theorem ic_le_z {a q : Nat} (ha : a < 2 ^ 31) (hq : q < 2 ^ 31) : am_ic .le (nI a) (zI q) = decide (a + 1 ≤ q) := by
  cases q with
  | zero =>
    rw [decide_eq_false (by omega)]
    show decide (nI a ≤ zI 0) = false
    refine decide_eq_false (fun h => ?_)
    have h1 := Int32.le_iff_toInt_le.mp h
    rw [nI_toInt ha, show (zI 0).toInt = -1 from by decide] at h1
    omega
  | succ c =>
    rw [zI_s, ic_le ha (by omega)]
    exact decide_eq_decide.mpr (by omega)
theorem g137l {T : xS} {p f : Nat} {w : AW} (hw : CW T p w) (hn : w.1 0 1 ≤ 13) (h3 : ∀ s, s < w.1 0 1 → w.1 4 s ≤ 3) (hf : f ≤ 3) : ∀ (m s x : Nat), s + m = w.1 0 1 → Ev (fun n => G137f p n 4 (nI f) (nI x) (nI s) T) (nI (x + ctF (fun s => decide (w.1 4 s = f)) m s), T) := by
  intro m
  induction m with
  | zero =>
    intro s x hs
    refine ev_succ (fun n => G137e4 p n ..) ?_
    have e : w.1 0 1 ≤ s := by omega
    simp (disch := omega) only [G137b4, hw.2.1, L0, L1, L2, L3, L4, L5, L6, L7, L8, L9, L10, L11, L12, L13, L16, L20, L31, L32, L40, L48, L57, L59, L60, L61, L91, L93, L97, L99, L100, L102, L103, L114, L122, L255, L300, L400, L402, L999, L2280, L2500, L99999, L63, L1431655765, L858993459, L252645135, ic_ge, ic_gt, ic_le, ic_lt, ic_eq, ic_ne, if_lt, if_ge, if_gt, if_le, if_eq, if_ne, if_lt_zI, if_ge_zI, ic_ne_m1, ic_eq_m1, ic_nn_m1, ic_ee_m1, if_ne_b2i, if_eq_b2i, b2i_z, decide_eq_true_eq, decide_true, decide_false, Bool.not_eq_true, Bool.not_eq_true', Bool.not_true, Bool.not_false, decide_eq_false_iff_not, Bool.false_eq_true, not_false_eq_true, not_true_eq_false, if_true, if_false, ↓reduceIte, eq_self, Option.bind_some, Bool.true_and, Bool.false_and, Bool.and_true, Bool.and_false, nI_add, nI_subN, nI_clamp, gdF, gdF2, gdP, gdP2, zI_cl, zI_s, Lm1, nI_n0, zI_n0, leF, or_false, false_or, or_self, e]
    exact ev_ret
  | succ m ih =>
    intro s x hs
    refine ev_succ (fun n => G137e4 p n ..) ?_
    have e : ¬ w.1 0 1 ≤ s := by omega
    have hr := (hw.2.2.2.1 s (by omega)).2.2.2.2.2.1
    have h3' := h3 s (by omega)
    rw [ctF_s]
    by_cases h : w.1 4 s = f
    · simp (disch := omega) only [G137b4, hw.2.1, L0, L1, L2, L3, L4, L5, L6, L7, L8, L9, L10, L11, L12, L13, L16, L20, L31, L32, L40, L48, L57, L59, L60, L61, L91, L93, L97, L99, L100, L102, L103, L114, L122, L255, L300, L400, L402, L999, L2280, L2500, L99999, L63, L1431655765, L858993459, L252645135, ic_ge, ic_gt, ic_le, ic_lt, ic_eq, ic_ne, if_lt, if_ge, if_gt, if_le, if_eq, if_ne, if_lt_zI, if_ge_zI, ic_ne_m1, ic_eq_m1, ic_nn_m1, ic_ee_m1, if_ne_b2i, if_eq_b2i, b2i_z, decide_eq_true_eq, decide_true, decide_false, Bool.not_eq_true, Bool.not_eq_true', Bool.not_true, Bool.not_false, decide_eq_false_iff_not, Bool.false_eq_true, not_false_eq_true, not_true_eq_false, if_true, if_false, ↓reduceIte, eq_self, Option.bind_some, Bool.true_and, Bool.false_and, Bool.and_true, Bool.and_false, nI_add, nI_subN, nI_clamp, gdF, gdF2, gdP, gdP2, zI_cl, zI_s, Lm1, nI_n0, zI_n0, leF, or_false, false_or, or_self, e, hr, h]
      rw [← Nat.add_assoc]
      exact ih (s + 1) (x + 1) (by omega)
    · simp (disch := omega) only [G137b4, hw.2.1, L0, L1, L2, L3, L4, L5, L6, L7, L8, L9, L10, L11, L12, L13, L16, L20, L31, L32, L40, L48, L57, L59, L60, L61, L91, L93, L97, L99, L100, L102, L103, L114, L122, L255, L300, L400, L402, L999, L2280, L2500, L99999, L63, L1431655765, L858993459, L252645135, ic_ge, ic_gt, ic_le, ic_lt, ic_eq, ic_ne, if_lt, if_ge, if_gt, if_le, if_eq, if_ne, if_lt_zI, if_ge_zI, ic_ne_m1, ic_eq_m1, ic_nn_m1, ic_ee_m1, if_ne_b2i, if_eq_b2i, b2i_z, decide_eq_true_eq, decide_true, decide_false, Bool.not_eq_true, Bool.not_eq_true', Bool.not_true, Bool.not_false, decide_eq_false_iff_not, Bool.false_eq_true, not_false_eq_true, not_true_eq_false, if_true, if_false, ↓reduceIte, eq_self, Option.bind_some, Bool.true_and, Bool.false_and, Bool.and_true, Bool.and_false, nI_add, nI_subN, nI_clamp, gdF, gdF2, gdP, gdP2, zI_cl, zI_s, Lm1, nI_n0, zI_n0, leF, or_false, false_or, or_self, e, hr, h]
      rw [Nat.zero_add]
      exact ih (s + 1) x (by omega)
theorem g137 {T : xS} {p f : Nat} {w : AW} {b : AB} (hw : CW T p w) (ok : OkW b w) (hf : f ≤ 3) : Ev (fun n => G137 p n (nI f) T) (nI (cf w f), T) := by
  refine ev_succ (fun n => G137e0 p n ..) ?_
  simp only [G137b0, L0]
  have := g137l hw ok.1 (fun s hs => (ok.2.1 s hs).2.1) hf (w.1 0 1) 0 0 (by omega)
  rw [Nat.zero_add] at this
  exact this
theorem f255l {S : mS} {w : AW} (hw : MW S.2.1 w) (hn : w.1 0 1 ≤ 13) (h3 : ∀ s, s < w.1 0 1 → w.1 4 s ≤ 3) : ∀ (m s x : Nat), s + m = w.1 0 1 → Ev (fun n => F255f n 4 (nI x) (nI s) S) (nI (x + ctF (fun s => decide (w.1 4 s = 1)) m s), S) := by
  intro m
  induction m with
  | zero =>
    intro s x hs
    refine ev_succ (fun n => F255e4 n ..) ?_
    have e : w.1 0 1 ≤ s := by omega
    simp (disch := omega) only [F255b4, hw.1, L0, L1, L2, L3, L4, L5, L6, L7, L8, L9, L10, L11, L12, L13, L16, L20, L31, L32, L40, L48, L57, L59, L60, L61, L91, L93, L97, L99, L100, L102, L103, L114, L122, L255, L300, L400, L402, L999, L2280, L2500, L99999, L63, L1431655765, L858993459, L252645135, ic_ge, ic_gt, ic_le, ic_lt, ic_eq, ic_ne, if_lt, if_ge, if_gt, if_le, if_eq, if_ne, if_lt_zI, if_ge_zI, ic_ne_m1, ic_eq_m1, ic_nn_m1, ic_ee_m1, if_ne_b2i, if_eq_b2i, b2i_z, decide_eq_true_eq, decide_true, decide_false, Bool.not_eq_true, Bool.not_eq_true', Bool.not_true, Bool.not_false, decide_eq_false_iff_not, Bool.false_eq_true, not_false_eq_true, not_true_eq_false, if_true, if_false, ↓reduceIte, eq_self, Option.bind_some, Bool.true_and, Bool.false_and, Bool.and_true, Bool.and_false, nI_add, nI_subN, nI_clamp, gdF, gdF2, gdP, gdP2, zI_cl, zI_s, Lm1, nI_n0, zI_n0, leF, or_false, false_or, or_self, e]
    exact ev_ret
  | succ m ih =>
    intro s x hs
    refine ev_succ (fun n => F255e4 n ..) ?_
    have e : ¬ w.1 0 1 ≤ s := by omega
    have hr := (hw.2.2.2.1 s (by omega)).2.2.1
    have h3' := h3 s (by omega)
    rw [ctF_s]
    by_cases h : w.1 4 s = 1
    · simp (disch := omega) only [F255b4, hw.1, L0, L1, L2, L3, L4, L5, L6, L7, L8, L9, L10, L11, L12, L13, L16, L20, L31, L32, L40, L48, L57, L59, L60, L61, L91, L93, L97, L99, L100, L102, L103, L114, L122, L255, L300, L400, L402, L999, L2280, L2500, L99999, L63, L1431655765, L858993459, L252645135, ic_ge, ic_gt, ic_le, ic_lt, ic_eq, ic_ne, if_lt, if_ge, if_gt, if_le, if_eq, if_ne, if_lt_zI, if_ge_zI, ic_ne_m1, ic_eq_m1, ic_nn_m1, ic_ee_m1, if_ne_b2i, if_eq_b2i, b2i_z, decide_eq_true_eq, decide_true, decide_false, Bool.not_eq_true, Bool.not_eq_true', Bool.not_true, Bool.not_false, decide_eq_false_iff_not, Bool.false_eq_true, not_false_eq_true, not_true_eq_false, if_true, if_false, ↓reduceIte, eq_self, Option.bind_some, Bool.true_and, Bool.false_and, Bool.and_true, Bool.and_false, nI_add, nI_subN, nI_clamp, gdF, gdF2, gdP, gdP2, zI_cl, zI_s, Lm1, nI_n0, zI_n0, leF, or_false, false_or, or_self, e, hr, h]
      rw [← Nat.add_assoc]
      exact ih (s + 1) (x + 1) (by omega)
    · simp (disch := omega) only [F255b4, hw.1, L0, L1, L2, L3, L4, L5, L6, L7, L8, L9, L10, L11, L12, L13, L16, L20, L31, L32, L40, L48, L57, L59, L60, L61, L91, L93, L97, L99, L100, L102, L103, L114, L122, L255, L300, L400, L402, L999, L2280, L2500, L99999, L63, L1431655765, L858993459, L252645135, ic_ge, ic_gt, ic_le, ic_lt, ic_eq, ic_ne, if_lt, if_ge, if_gt, if_le, if_eq, if_ne, if_lt_zI, if_ge_zI, ic_ne_m1, ic_eq_m1, ic_nn_m1, ic_ee_m1, if_ne_b2i, if_eq_b2i, b2i_z, decide_eq_true_eq, decide_true, decide_false, Bool.not_eq_true, Bool.not_eq_true', Bool.not_true, Bool.not_false, decide_eq_false_iff_not, Bool.false_eq_true, not_false_eq_true, not_true_eq_false, if_true, if_false, ↓reduceIte, eq_self, Option.bind_some, Bool.true_and, Bool.false_and, Bool.and_true, Bool.and_false, nI_add, nI_subN, nI_clamp, gdF, gdF2, gdP, gdP2, zI_cl, zI_s, Lm1, nI_n0, zI_n0, leF, or_false, false_or, or_self, e, hr, h, Nat.add_zero]
      rw [Nat.zero_add]
      exact ih (s + 1) x (by omega)
theorem f255 {S : mS} {w : AW} {b : AB} (hw : MW S.2.1 w) (ok : OkW b w) : Ev (fun n => F255 n S) (nI (cf w 1), S) := by
  refine ev_succ (fun n => F255e0 n ..) ?_
  simp only [F255b0, L0]
  have := f255l hw ok.1 (fun s hs => (ok.2.1 s hs).2.1) (w.1 0 1) 0 0 (by omega)
  rw [Nat.zero_add] at this
  exact this
theorem aS00_Ok {b : AB} {w : AW} {x : Nat} (ok : OkW b w) : OkW b (aS w 0 0 x) := by
  refine ⟨ok.1, fun s hs => ?_, ?_, ?_⟩
  · exact OkS_of (ok.2.1 s hs) (fun r _ _ => aS_n (by omega))
  · exact ok.2.2.1
  · exact ok.2.2.2
theorem g100k {T0 T : xS} {wb k : Nat} {lo : Option Nat} {ln : Nat} {b : AB} {l : LW} {cc : Nat → Int32} {w : AW} (hd : w.1 0 0 + k ≤ 999) (hS : DS T0 T wb lo ln b l cc w) : Ep (fun n => G100 wb lo ln n (nI k) T) (fun z => DS T0 z.2 wb lo ln b l cc (aS w 0 0 (w.1 0 0 + k))) := by
  refine ep_succ (fun n => G100e0 wb lo ln n ..) ?_
  have hS' := hS
  obtain ⟨⟨hwb, hb3, hb4, hb5, hB, hb, hl⟩, hw, ok, hk, hf⟩ := hS
  have e : ¬ 999 < w.1 0 0 + k := by omega
  simp (disch := omega) only [G100b0, hb4, hw.1, L0, L1, L2, L3, L4, L5, L6, L7, L8, L9, L10, L11, L12, L13, L16, L20, L31, L32, L40, L48, L57, L59, L60, L61, L91, L93, L97, L99, L100, L102, L103, L114, L122, L255, L300, L400, L402, L999, L2280, L2500, L99999, L63, L1431655765, L858993459, L252645135, ic_ge, ic_gt, ic_le, ic_lt, ic_eq, ic_ne, if_lt, if_ge, if_gt, if_le, if_eq, if_ne, if_lt_zI, if_ge_zI, ic_ne_m1, ic_eq_m1, ic_nn_m1, ic_ee_m1, if_ne_b2i, if_eq_b2i, b2i_z, decide_eq_true_eq, decide_true, decide_false, Bool.not_eq_true, Bool.not_eq_true', Bool.not_true, Bool.not_false, decide_eq_false_iff_not, Bool.false_eq_true, not_false_eq_true, not_true_eq_false, if_true, if_false, ↓reduceIte, eq_self, Option.bind_some, Bool.true_and, Bool.false_and, Bool.and_true, Bool.and_false, nI_add, nI_subN, nI_clamp, gdF, gdF2, gdP, gdP2, zI_cl, zI_s, Lm1, nI_n0, zI_n0, leF, or_false, false_or, or_self, nI_ltP, e]
  refine ep_ret ⟨DC_fr hS'.1 (FrW_S FrW_I), ?_, aS00_Ok ok, ?_, FrS_tr hf (FrW_S FrW_I)⟩
  · obtain ⟨k0, k1, k2, k3, k4, k5⟩ := hw
    refine ⟨?_, ?_, ?_, ?_, ?_, ?_⟩
    · rw [aS_e, x_rIe]
    · rw [aS_i (by omega), x_rIi (by omega)]
      exact k1
    · rw [x_rIi (by omega)]
      exact k2
    · exact k3
    · exact k4
    · exact k5
  · refine KC_eq hk (x_rIn (by omega)) ?_ (fun s => ?_)
    · rw [aS_i (by omega)]
    · exact aS_n (by omega)
section G136
variable {T0 : xS} {lo : Option Nat} {ln : Nat} {b : AB} {l : LW} {cc : Nat → Int32}
theorem g136l {m : Nat} (hb : OkB b) (hm : m ≤ 60) : ∀ (k j : Nat) (T : xS) (w : AW), j + k = m → w.1 0 0 + k < 990 → DS T0 T 110 lo ln b l cc w → Ep (fun n => G136f 110 lo ln n 2 (nI m) (nI j) T) (fun z => ∃ w', DS T0 z.2 110 lo ln b l cc w' ∧ cf w' 1 = cf (dysA b l k w) 1) := by
  intro k
  induction k with
  | zero =>
    intro j T w hj hd hS
    refine ep_succ (fun n => G136e2 110 lo ln n ..) ?_
    have e : m ≤ j := by omega
    simp (disch := omega) only [G136b2, L0, L1, L2, L3, L4, L5, L6, L7, L8, L9, L10, L11, L12, L13, L16, L20, L31, L32, L40, L48, L57, L59, L60, L61, L91, L93, L97, L99, L100, L102, L103, L114, L122, L255, L300, L400, L402, L999, L2280, L2500, L99999, L63, L1431655765, L858993459, L252645135, ic_ge, ic_gt, ic_le, ic_lt, ic_eq, ic_ne, if_lt, if_ge, if_gt, if_le, if_eq, if_ne, if_lt_zI, if_ge_zI, ic_ne_m1, ic_eq_m1, ic_nn_m1, ic_ee_m1, if_ne_b2i, if_eq_b2i, b2i_z, decide_eq_true_eq, decide_true, decide_false, Bool.not_eq_true, Bool.not_eq_true', Bool.not_true, Bool.not_false, decide_eq_false_iff_not, Bool.false_eq_true, not_false_eq_true, not_true_eq_false, if_true, if_false, ↓reduceIte, eq_self, Option.bind_some, Bool.true_and, Bool.false_and, Bool.and_true, Bool.and_false, nI_add, nI_subN, nI_clamp, gdF, gdF2, gdP, gdP2, zI_cl, zI_s, Lm1, nI_n0, zI_n0, leF, or_false, false_or, or_self, e]
    exact ep_ret ⟨w, hS, rfl⟩
  | succ k ih =>
    intro j T w hj hd hS
    refine ep_succ (fun n => G136e2 110 lo ln n ..) ?_
    have e : ¬ m ≤ j := by omega
    have hb4 := hS.1.2.2.1
    have ok := hS.2.2.1
    simp (disch := omega) only [G136b2, L0, L1, L2, L3, L4, L5, L6, L7, L8, L9, L10, L11, L12, L13, L16, L20, L31, L32, L40, L48, L57, L59, L60, L61, L91, L93, L97, L99, L100, L102, L103, L114, L122, L255, L300, L400, L402, L999, L2280, L2500, L99999, L63, L1431655765, L858993459, L252645135, ic_ge, ic_gt, ic_le, ic_lt, ic_eq, ic_ne, if_lt, if_ge, if_gt, if_le, if_eq, if_ne, if_lt_zI, if_ge_zI, ic_ne_m1, ic_eq_m1, ic_nn_m1, ic_ee_m1, if_ne_b2i, if_eq_b2i, b2i_z, decide_eq_true_eq, decide_true, decide_false, Bool.not_eq_true, Bool.not_eq_true', Bool.not_true, Bool.not_false, decide_eq_false_iff_not, Bool.false_eq_true, not_false_eq_true, not_true_eq_false, if_true, if_false, ↓reduceIte, eq_self, Option.bind_some, Bool.true_and, Bool.false_and, Bool.and_true, Bool.and_false, nI_add, nI_subN, nI_clamp, gdF, gdF2, gdP, gdP2, zI_cl, zI_s, Lm1, nI_n0, zI_n0, leF, or_false, false_or, or_self, e, hb4]
    refine ep_bind (g90 hS.2.1 ok.1 (OkW_16 hb ok) (Or.inl rfl)) ?_
    rintro ⟨z1, T1⟩ ⟨e1, v, hv, e2, e3⟩
    have e1 : T1 = T := e1
    have e2 : z1 = nI v := e2
    subst e1
    subst e2
    by_cases h0 : v = 0
    · simp (disch := omega) only [L0, L1, L2, L3, L4, L5, L6, L7, L8, L9, L10, L11, L12, L13, L16, L20, L31, L32, L40, L48, L57, L59, L60, L61, L91, L93, L97, L99, L100, L102, L103, L114, L122, L255, L300, L400, L402, L999, L2280, L2500, L99999, L63, L1431655765, L858993459, L252645135, ic_ge, ic_gt, ic_le, ic_lt, ic_eq, ic_ne, if_lt, if_ge, if_gt, if_le, if_eq, if_ne, if_lt_zI, if_ge_zI, ic_ne_m1, ic_eq_m1, ic_nn_m1, ic_ee_m1, if_ne_b2i, if_eq_b2i, b2i_z, decide_eq_true_eq, decide_true, decide_false, Bool.not_eq_true, Bool.not_eq_true', Bool.not_true, Bool.not_false, decide_eq_false_iff_not, Bool.false_eq_true, not_false_eq_true, not_true_eq_false, if_true, if_false, ↓reduceIte, eq_self, Option.bind_some, Bool.true_and, Bool.false_and, Bool.and_true, Bool.and_false, nI_add, nI_subN, nI_clamp, gdF, gdF2, gdP, gdP2, zI_cl, zI_s, Lm1, nI_n0, zI_n0, leF, or_false, false_or, or_self, h0]
      have hk : m - j = k + 1 := by omega
      rw [hk]
      refine ep_bind (g100k (k := k + 1) (by omega) hS) ?_
      rintro ⟨_, T2⟩ h2
      refine ep_ret ⟨_, h2, ?_⟩
      have hdk := dys_Ok (l := l) hb (k + 1) w ok
      unfold cf
      rw [hdk.2.1, aS_i (by omega)]
      refine ctF_eq _ _ (fun s _ hs => ?_)
      have hs0 : w.1 1 s = 0 := by
        by_cases h : w.1 1 s = 0
        · exact h
        · have h2 := e3 (w.1 1 s - 1)
          rw [h0, Nat.zero_testBit] at h2
          have h3 := of_decide_eq_false h2.symm
          have h4 : 1 ≤ manyN w (w.1 1 s - 1) := ctF_pos (s := s) _ _ (Nat.zero_le _) hs (decide_eq_true (by omega))
          exact absurd h4 h3
      rw [aS_n (by omega), dys_off hb (by decide) (by decide) (k + 1) w ok hs0]
    · simp (disch := omega) only [L0, L1, L2, L3, L4, L5, L6, L7, L8, L9, L10, L11, L12, L13, L16, L20, L31, L32, L40, L48, L57, L59, L60, L61, L91, L93, L97, L99, L100, L102, L103, L114, L122, L255, L300, L400, L402, L999, L2280, L2500, L99999, L63, L1431655765, L858993459, L252645135, ic_ge, ic_gt, ic_le, ic_lt, ic_eq, ic_ne, if_lt, if_ge, if_gt, if_le, if_eq, if_ne, if_lt_zI, if_ge_zI, ic_ne_m1, ic_eq_m1, ic_nn_m1, ic_ee_m1, if_ne_b2i, if_eq_b2i, b2i_z, decide_eq_true_eq, decide_true, decide_false, Bool.not_eq_true, Bool.not_eq_true', Bool.not_true, Bool.not_false, decide_eq_false_iff_not, Bool.false_eq_true, not_false_eq_true, not_true_eq_false, if_true, if_false, ↓reduceIte, eq_self, Option.bind_some, Bool.true_and, Bool.false_and, Bool.and_true, Bool.and_false, nI_add, nI_subN, nI_clamp, gdF, gdF2, gdP, gdP2, zI_cl, zI_s, Lm1, nI_n0, zI_n0, leF, or_false, false_or, or_self, h0]
      refine ep_bind (g86 (by omega) hS) ?_
      rintro ⟨_, T2⟩ h1
      have h1 : DS T0 T2 110 lo ln b l cc (dayA b l w) := h1
      exact ih (j + 1) T2 (dayA b l w) (by omega) (by rw [dayA_d hb ok]; omega) h1
theorem g136 {m : Nat} {T : xS} {w : AW} (hb : OkB b) (hm : m ≤ 60) (hd : w.1 0 0 < 900) (hS : DS T0 T 110 lo ln b l cc w) : Ep (fun n => G136 110 lo ln n (nI m) T) (fun z => ∃ w', DS T0 z.2 110 lo ln b l cc w' ∧ cf w' 1 = cf (dysA b l m w) 1) := by
  refine ep_succ (fun n => G136e0 110 lo ln n ..) ?_
  simp only [G136b0, L0]
  exact g136l hb hm m 0 T w (by omega) (by omega) hS
end G136
def shA (w : AW) (x : Int32) : AW := (w.1, x)
def gatN (A : AA) (m al j : Nat) : Nat := cf (dysA A.2.2.1.1 (lawA A.2.1.2 A.2.2.1.2.2.2.1) m (shA A.2.2.1.2.1 (nI (al ^^^ (al &&& j))))) 1
def gatA (c : Nat → Nat) : Nat → Nat → Nat × Nat → Nat × Nat
  | 0, _, p => p
  | i + 1, j, p => gatA c i (j + 1) (if c j + 1 ≤ p.2 then p else (j, c j + 1))
theorem gatN_le {k : Nat} {A : AA} (ok : OkA k A) {m al j : Nat} : gatN A m al j ≤ 13 := by
  have hok := dys_Ok (l := lawA A.2.1.2 A.2.2.1.2.2.2.1) (OkA_b ok) m (shA A.2.2.1.2.1 (nI (al ^^^ (al &&& j)))) (OkA_w ok)
  have := hok.1.1
  have h := ctF_le (fun s => decide ((dysA A.2.2.1.1 (lawA A.2.1.2 A.2.2.1.2.2.2.1) m (shA A.2.2.1.2.1 (nI (al ^^^ (al &&& j))))).1 4 s = 1)) ((dysA A.2.2.1.1 (lawA A.2.1.2 A.2.2.1.2.2.2.1) m (shA A.2.2.1.2.1 (nI (al ^^^ (al &&& j))))).1 0 1) 0
  unfold gatN cf
  omega
theorem g135l {k : Nat} {A : AA} {G : gS} {m v al : Nat} (ok : OkA k A) (hk : k < 512) (hm : m ≤ 60) (hv : v ≤ 1) (hal : al ≤ 15) : ∀ (i j : Nat) (p : Nat × Nat) (T : xS), j + i = al + 1 → p.2 ≤ 14 → RC A T G → Ep (fun n => G135f n 49 (nI m) (nI v) (nI al) (nI p.1) (zI p.2) (nI j) (T, G)) (fun z => z.1 = (if v = 0 then nI (gatA (gatN A m al) i j p).1 else zI (gatA (gatN A m al) i j p).2) ∧ RC A z.2.1 z.2.2 ∧ z.2.2 = G) := by
  have hb := OkA_b ok
  have hday := (ok.2.2.2.1.2.2.1 A.2.2.1.2.1 (Or.inl rfl)).2.2.1
  intro i
  induction i with
  | zero =>
    intro j p T hj hp hR
    refine ep_succ (fun n => G135e49 n ..) ?_
    have e : al < j := by omega
    have hv' : v = 0 ∨ v = 1 := by omega
    rcases hv' with rfl | rfl
    · simp (disch := omega) only [G135b49, L0, L1, L2, L3, L4, L5, L6, L7, L8, L9, L10, L11, L12, L13, L16, L20, L31, L32, L40, L48, L57, L59, L60, L61, L91, L93, L97, L99, L100, L102, L103, L114, L122, L255, L300, L400, L402, L999, L2280, L2500, L99999, L63, L1431655765, L858993459, L252645135, ic_ge, ic_gt, ic_le, ic_lt, ic_eq, ic_ne, if_lt, if_ge, if_gt, if_le, if_eq, if_ne, if_lt_zI, if_ge_zI, ic_ne_m1, ic_eq_m1, ic_nn_m1, ic_ee_m1, if_ne_b2i, if_eq_b2i, b2i_z, decide_eq_true_eq, decide_true, decide_false, Bool.not_eq_true, Bool.not_eq_true', Bool.not_true, Bool.not_false, decide_eq_false_iff_not, Bool.false_eq_true, not_false_eq_true, not_true_eq_false, if_true, if_false, ↓reduceIte, eq_self, Option.bind_some, Bool.true_and, Bool.false_and, Bool.and_true, Bool.and_false, nI_add, nI_subN, nI_clamp, gdF, gdF2, gdP, gdP2, zI_cl, zI_s, Lm1, nI_n0, zI_n0, leF, or_false, false_or, or_self, e]
      exact ep_ret ⟨rfl, hR, rfl⟩
    · simp (disch := omega) only [G135b49, L0, L1, L2, L3, L4, L5, L6, L7, L8, L9, L10, L11, L12, L13, L16, L20, L31, L32, L40, L48, L57, L59, L60, L61, L91, L93, L97, L99, L100, L102, L103, L114, L122, L255, L300, L400, L402, L999, L2280, L2500, L99999, L63, L1431655765, L858993459, L252645135, ic_ge, ic_gt, ic_le, ic_lt, ic_eq, ic_ne, if_lt, if_ge, if_gt, if_le, if_eq, if_ne, if_lt_zI, if_ge_zI, ic_ne_m1, ic_eq_m1, ic_nn_m1, ic_ee_m1, if_ne_b2i, if_eq_b2i, b2i_z, decide_eq_true_eq, decide_true, decide_false, Bool.not_eq_true, Bool.not_eq_true', Bool.not_true, Bool.not_false, decide_eq_false_iff_not, Bool.false_eq_true, not_false_eq_true, not_true_eq_false, if_true, if_false, ↓reduceIte, eq_self, Option.bind_some, Bool.true_and, Bool.false_and, Bool.and_true, Bool.and_false, nI_add, nI_subN, nI_clamp, gdF, gdF2, gdP, gdP2, zI_cl, zI_s, Lm1, nI_n0, zI_n0, leF, or_false, false_or, or_self, e, Nat.one_ne_zero]
      exact ep_ret ⟨rfl, hR, rfl⟩
  | succ i ih =>
    intro j p T hj hp hR
    refine ep_succ (fun n => G135e49 n ..) ?_
    have e : ¬ al < j := by omega
    simp (disch := omega) only [G135b49, L0, L1, L2, L3, L4, L5, L6, L7, L8, L9, L10, L11, L12, L13, L16, L20, L31, L32, L40, L48, L57, L59, L60, L61, L91, L93, L97, L99, L100, L102, L103, L114, L122, L255, L300, L400, L402, L999, L2280, L2500, L99999, L63, L1431655765, L858993459, L252645135, ic_ge, ic_gt, ic_le, ic_lt, ic_eq, ic_ne, if_lt, if_ge, if_gt, if_le, if_eq, if_ne, if_lt_zI, if_ge_zI, ic_ne_m1, ic_eq_m1, ic_nn_m1, ic_ee_m1, if_ne_b2i, if_eq_b2i, b2i_z, decide_eq_true_eq, decide_true, decide_false, Bool.not_eq_true, Bool.not_eq_true', Bool.not_true, Bool.not_false, decide_eq_false_iff_not, Bool.false_eq_true, not_false_eq_true, not_true_eq_false, if_true, if_false, ↓reduceIte, eq_self, Option.bind_some, Bool.true_and, Bool.false_and, Bool.and_true, Bool.and_false, nI_add, nI_subN, nI_clamp, gdF, gdF2, gdP, gdP2, zI_cl, zI_s, Lm1, nI_n0, zI_n0, leF, or_false, false_or, or_self, e, nI_dif]
    obtain ⟨lo, e1, e2, e3⟩ := g84 ok hR
    refine ep_bv e1 ?_
    simp only [e2, decide_eq_true_eq, decide_true, decide_false, Bool.not_eq_true, Bool.not_eq_true', Bool.not_true, Bool.not_false, decide_eq_false_iff_not, Bool.false_eq_true, not_false_eq_true, not_true_eq_false, if_true, if_false, ↓reduceIte, eq_self, Option.bind_some, Bool.true_and, Bool.false_and, Bool.and_true, Bool.and_false]
    refine ep_bind (g109 ok hR e3) ?_
    rintro ⟨_, T1⟩ ⟨d1, d2⟩
    have d1 : DS T1 T1 110 lo (lawN G lo) A.2.2.1.1 (lawA A.2.1.2 A.2.2.1.2.2.2.1) (fun f => nI (cf A.2.2.1.2.1 f)) A.2.2.1.2.1 := d1
    have h4 : T1.2.2.2 109 4 = some 110 := d1.1.2.2.1
    simp only [h4, decide_eq_true_eq, decide_true, decide_false, Bool.not_eq_true, Bool.not_eq_true', Bool.not_true, Bool.not_false, decide_eq_false_iff_not, Bool.false_eq_true, not_false_eq_true, not_true_eq_false, if_true, if_false, ↓reduceIte, eq_self, Option.bind_some, Bool.true_and, Bool.false_and, Bool.and_true, Bool.and_false]
    have d1s : DS T1 (x_sI T1 110 2 (nI (al ^^^ (al &&& j)))) 110 lo (lawN G lo) A.2.2.1.1 (lawA A.2.1.2 A.2.2.1.2.2.2.1) (fun f => nI (cf A.2.2.1.2.1 f)) (shA A.2.2.1.2.1 (nI (al ^^^ (al &&& j)))) := by
      obtain ⟨q1, ⟨k0, k1, k2, k3, k4, k5⟩, q3, q4, q5⟩ := d1
      refine ⟨DC_fr q1 (FrW_S FrW_I), ⟨?_, ?_, x_rIe, k3, k4, k5⟩, q3, KC_eq q4 (x_rIn (by omega)) rfl (fun _ => rfl), FrW_S FrW_I⟩
      · rw [x_rIi (by omega)]
        exact k0
      · rw [x_rIi (by omega)]
        exact k1
    refine ep_bind (g136 (w := shA A.2.2.1.2.1 (nI (al ^^^ (al &&& j)))) hb hm (show A.2.2.1.2.1.1 0 0 < 900 by omega) d1s) ?_
    rintro ⟨_, T2⟩ ⟨w', a1, a2⟩
    have a1 : DS T1 T2 110 lo (lawN G lo) A.2.2.1.1 (lawA A.2.1.2 A.2.2.1.2.2.2.1) (fun f => nI (cf A.2.2.1.2.1 f)) w' := a1
    have h42 : T2.2.2.2 109 4 = some 110 := a1.1.2.2.1
    simp only [h42, decide_eq_true_eq, decide_true, decide_false, Bool.not_eq_true, Bool.not_eq_true', Bool.not_true, Bool.not_false, decide_eq_false_iff_not, Bool.false_eq_true, not_false_eq_true, not_true_eq_false, if_true, if_false, ↓reduceIte, eq_self, Option.bind_some, Bool.true_and, Bool.false_and, Bool.and_true, Bool.and_false]
    refine ep_bv (g137 a1.2.1 a1.2.2.1 (by decide)) ?_
    have a2 : cf w' 1 = gatN A m al j := a2
    have hle := gatN_le (m := m) (al := al) (j := j) ok
    rw [a2]
    have hRf := RC_L hR (FrL_tr d2 (FrS_L' a1.2.2.2.2))
    unfold gatA
    simp (disch := omega) only [ic_le_z]
    by_cases hh : gatN A m al j + 1 ≤ p.2
    · simp only [hh, decide_eq_true_eq, decide_true, decide_false, Bool.not_eq_true, Bool.not_eq_true', Bool.not_true, Bool.not_false, decide_eq_false_iff_not, Bool.false_eq_true, not_false_eq_true, not_true_eq_false, if_true, if_false, ↓reduceIte, eq_self, Option.bind_some, Bool.true_and, Bool.false_and, Bool.and_true, Bool.and_false]
      exact ih (j + 1) p T2 (by omega) hp hRf
    · simp only [hh, decide_eq_true_eq, decide_true, decide_false, Bool.not_eq_true, Bool.not_eq_true', Bool.not_true, Bool.not_false, decide_eq_false_iff_not, Bool.false_eq_true, not_false_eq_true, not_true_eq_false, if_true, if_false, ↓reduceIte, eq_self, Option.bind_some, Bool.true_and, Bool.false_and, Bool.and_true, Bool.and_false]
      have := ih (j + 1) (j, gatN A m al j + 1) T2 (by omega) (show gatN A m al j + 1 ≤ 14 by omega) hRf
      rw [zI_s] at this
      exact this
theorem f254l {k : Nat} {A : AA} {S1 : mS} {m v al : Nat} (ok : OkA k A) (hk : k < 512) (hm : m ≤ 60) (hv : v ≤ 1) (hal : al ≤ 15) (h1 : RM A S1) (sv : Sv S1) : ∀ (i j : Nat) (p : Nat × Nat) (S : mS), j + i = al + 1 → (j = 0 ∨ p.2 ≠ 0) → p.2 ≤ 14 → RM A S → Hd S1 S → Ep (fun n => F254f n 55 (nI m) (nI v) (if p.2 = 0 then zI 0 else nI p.1) (zI p.2) (nI al) (nI j) S) (fun z => z.1 = (if v = 0 then nI (gatA (gatN A m al) i j p).1 else zI (gatA (gatN A m al) i j p).2) ∧ RM A z.2) := by
  have hb := OkA_b ok
  have kw := OkA_w ok
  have hday := (ok.2.2.2.1.2.2.1 A.2.2.1.2.1 (Or.inl rfl)).2.2.1
  intro i
  induction i with
  | zero =>
    intro j p S hj hq hp hS hd
    refine ep_succ (fun n => F254e55 n ..) ?_
    have e : al < j := by omega
    have hq0 : ¬ p.2 = 0 := by omega
    have hv' : v = 0 ∨ v = 1 := by omega
    rw [if_neg hq0]
    rcases hv' with rfl | rfl
    · simp (disch := omega) only [F254b55, L0, L1, L2, L3, L4, L5, L6, L7, L8, L9, L10, L11, L12, L13, L16, L20, L31, L32, L40, L48, L57, L59, L60, L61, L91, L93, L97, L99, L100, L102, L103, L114, L122, L255, L300, L400, L402, L999, L2280, L2500, L99999, L63, L1431655765, L858993459, L252645135, ic_ge, ic_gt, ic_le, ic_lt, ic_eq, ic_ne, if_lt, if_ge, if_gt, if_le, if_eq, if_ne, if_lt_zI, if_ge_zI, ic_ne_m1, ic_eq_m1, ic_nn_m1, ic_ee_m1, if_ne_b2i, if_eq_b2i, b2i_z, decide_eq_true_eq, decide_true, decide_false, Bool.not_eq_true, Bool.not_eq_true', Bool.not_true, Bool.not_false, decide_eq_false_iff_not, Bool.false_eq_true, not_false_eq_true, not_true_eq_false, if_true, if_false, ↓reduceIte, eq_self, Option.bind_some, Bool.true_and, Bool.false_and, Bool.and_true, Bool.and_false, nI_add, nI_subN, nI_clamp, gdF, gdF2, gdP, gdP2, zI_cl, zI_s, Lm1, nI_n0, zI_n0, leF, or_false, false_or, or_self, e]
      exact ep_ret ⟨rfl, hS⟩
    · simp (disch := omega) only [F254b55, L0, L1, L2, L3, L4, L5, L6, L7, L8, L9, L10, L11, L12, L13, L16, L20, L31, L32, L40, L48, L57, L59, L60, L61, L91, L93, L97, L99, L100, L102, L103, L114, L122, L255, L300, L400, L402, L999, L2280, L2500, L99999, L63, L1431655765, L858993459, L252645135, ic_ge, ic_gt, ic_le, ic_lt, ic_eq, ic_ne, if_lt, if_ge, if_gt, if_le, if_eq, if_ne, if_lt_zI, if_ge_zI, ic_ne_m1, ic_eq_m1, ic_nn_m1, ic_ee_m1, if_ne_b2i, if_eq_b2i, b2i_z, decide_eq_true_eq, decide_true, decide_false, Bool.not_eq_true, Bool.not_eq_true', Bool.not_true, Bool.not_false, decide_eq_false_iff_not, Bool.false_eq_true, not_false_eq_true, not_true_eq_false, if_true, if_false, ↓reduceIte, eq_self, Option.bind_some, Bool.true_and, Bool.false_and, Bool.and_true, Bool.and_false, nI_add, nI_subN, nI_clamp, gdF, gdF2, gdP, gdP2, zI_cl, zI_s, Lm1, nI_n0, zI_n0, leF, or_false, false_or, or_self, e, Nat.one_ne_zero]
      exact ep_ret ⟨rfl, hS⟩
  | succ i ih =>
    intro j p S hj hq hp hS hd
    refine ep_succ (fun n => F254e55 n ..) ?_
    have e : ¬ al < j := by omega
    simp (disch := omega) only [F254b55, L0, L1, L2, L3, L4, L5, L6, L7, L8, L9, L10, L11, L12, L13, L16, L20, L31, L32, L40, L48, L57, L59, L60, L61, L91, L93, L97, L99, L100, L102, L103, L114, L122, L255, L300, L400, L402, L999, L2280, L2500, L99999, L63, L1431655765, L858993459, L252645135, ic_ge, ic_gt, ic_le, ic_lt, ic_eq, ic_ne, if_lt, if_ge, if_gt, if_le, if_eq, if_ne, if_lt_zI, if_ge_zI, ic_ne_m1, ic_eq_m1, ic_nn_m1, ic_ee_m1, if_ne_b2i, if_eq_b2i, b2i_z, decide_eq_true_eq, decide_true, decide_false, Bool.not_eq_true, Bool.not_eq_true', Bool.not_true, Bool.not_false, decide_eq_false_iff_not, Bool.false_eq_true, not_false_eq_true, not_true_eq_false, if_true, if_false, ↓reduceIte, eq_self, Option.bind_some, Bool.true_and, Bool.false_and, Bool.and_true, Bool.and_false, nI_add, nI_subN, nI_clamp, gdF, gdF2, gdP, gdP2, zI_cl, zI_s, Lm1, nI_n0, zI_n0, leF, or_false, false_or, or_self, e, nI_dif]
    have dm := DM_of ok hS
    have dm2 : DM (m_sA S 1 5 (nI (al ^^^ (al &&& j)))) (m_sA S 1 5 (nI (al ^^^ (al &&& j)))) A.2.2.1.1 (lawA A.2.1.2 A.2.2.1.2.2.2.1) (shA A.2.2.1.2.1 (nI (al ^^^ (al &&& j)))) := by
      obtain ⟨q1, q2, ⟨v0, v1, v2, v3, v4, v5⟩, q4, q5, q6⟩ := dm
      refine ⟨MB_r q1 hb (fun k i hk => ?_), hb, ⟨?_, ?_, m_rAe, fun s hs => ?_, fun i hi => ?_, ?_⟩, q4, LM_fr q5 (m_rAi (by omega)) (fun k i _ _ => by rw [m_rAn (by omega)]), FrM_rf⟩
      · by_cases e : k = 1
        · subst e
          exact m_rAi (by omega)
        · rw [m_rAn e]
      · simp (disch := omega) only [m_rA1, m_rA3, m_rAe, m_rAn, m_rAi, m_rI2, m_rIe, m_rIn, m_rL1, m_rL2, m_rLe, m_rLi, m_rLn]
        exact v0
      · simp (disch := omega) only [m_rA1, m_rA3, m_rAe, m_rAn, m_rAi, m_rI2, m_rIe, m_rIn, m_rL1, m_rL2, m_rLe, m_rLi, m_rLn]
        exact v1
      · simp (disch := omega) only [m_rA1, m_rA3, m_rAe, m_rAn, m_rAi, m_rI2, m_rIe, m_rIn, m_rL1, m_rL2, m_rLe, m_rLi, m_rLn]
        exact v3 s hs
      · simp (disch := omega) only [m_rA1, m_rA3, m_rAe, m_rAn, m_rAi, m_rI2, m_rIe, m_rIn, m_rL1, m_rL2, m_rLe, m_rLi, m_rLn]
        exact v4 i hi
      · exact MN_fr v5 (by simp (disch := omega) only [m_rA1, m_rA3, m_rAe, m_rAn, m_rAi, m_rI2, m_rIe, m_rIn, m_rL1, m_rL2, m_rLe, m_rLi, m_rLn]) (fun i => by simp (disch := omega) only [m_rA1, m_rA3, m_rAe, m_rAn, m_rAi, m_rI2, m_rIe, m_rIn, m_rL1, m_rL2, m_rLe, m_rLi, m_rLn]) (fun i => by simp (disch := omega) only [m_rA1, m_rA3, m_rAe, m_rAn, m_rAi, m_rI2, m_rIe, m_rIn, m_rL1, m_rL2, m_rLe, m_rLi, m_rLn]) (fun _ => rfl)
    have hd2 : Hd S1 (m_sA S 1 5 (nI (al ^^^ (al &&& j)))) := Hd_fr hd rfl (fun q hq => m_rAn (by omega))
    refine ep_bind (f242 (w := shA A.2.2.1.2.1 (nI (al ^^^ (al &&& j)))) hm (show A.2.2.1.2.1.1 0 0 < 900 by omega) dm2) ?_
    rintro ⟨_, S3⟩ h3
    have h3 : DM (m_sA S 1 5 (nI (al ^^^ (al &&& j)))) S3 A.2.2.1.1 (lawA A.2.1.2 A.2.2.1.2.2.2.1) (dysA A.2.2.1.1 (lawA A.2.1.2 A.2.2.1.2.2.2.1) m (shA A.2.2.1.2.1 (nI (al ^^^ (al &&& j))))) := h3
    have lb := laysBack ok h1 sv (FrM_H hd2 h3.2.2.2.2.2)
    have f5 := f255 h3.2.2.1 h3.2.2.2.1
    have a2 : cf (dysA A.2.2.1.1 (lawA A.2.1.2 A.2.2.1.2.2.2.1) m (shA A.2.2.1.2.1 (nI (al ^^^ (al &&& j))))) 1 = gatN A m al j := rfl
    rw [a2] at f5
    refine ep_bv f5 ?_
    have hle := gatN_le (m := m) (al := al) (j := j) ok
    unfold gatA
    simp (disch := omega) only [ic_le_z]
    by_cases hh : gatN A m al j + 1 ≤ p.2
    · simp only [hh, decide_eq_true_eq, decide_true, decide_false, Bool.not_eq_true, Bool.not_eq_true', Bool.not_true, Bool.not_false, decide_eq_false_iff_not, Bool.false_eq_true, not_false_eq_true, not_true_eq_false, if_true, if_false, ↓reduceIte, eq_self, Option.bind_some, Bool.true_and, Bool.false_and, Bool.and_true, Bool.and_false]
      refine ep_bind lb ?_
      rintro ⟨_, S4⟩ ⟨h4, hd4⟩
      exact ih (j + 1) p S4 (by omega) (by omega) hp h4 hd4
    · simp only [hh, decide_eq_true_eq, decide_true, decide_false, Bool.not_eq_true, Bool.not_eq_true', Bool.not_true, Bool.not_false, decide_eq_false_iff_not, Bool.false_eq_true, not_false_eq_true, not_true_eq_false, if_true, if_false, ↓reduceIte, eq_self, Option.bind_some, Bool.true_and, Bool.false_and, Bool.and_true, Bool.and_false]
      refine ep_bv f5 ?_
      refine ep_bind lb ?_
      rintro ⟨_, S4⟩ ⟨h4, hd4⟩
      have := ih (j + 1) (j, gatN A m al j + 1) S4 (by omega) (Or.inr (Nat.succ_ne_zero _)) (show gatN A m al j + 1 ≤ 14 by omega) h4 hd4
      rw [zI_s, if_neg (Nat.succ_ne_zero _)] at this
      exact this
theorem sm_gates {k : Nat} {a1 a2 : Int32} (hk : k < 512) (A : AA) (ok : OkA k A) : ∃ r A', OkA (k + 1) A' ∧ CallX k (fun n => G135 n a1 a2) A r A' ∧ CallM (fun n => F254 n a1 a2) A r A' := by
  have ok1 := OkA_s ok
  by_cases hall : ¬ A.2.2.1.1 0 0 = 0 ∧ (∃ m, 1 ≤ m ∧ m ≤ 60 ∧ a1 = nI m) ∧ (∃ j, j ≤ 1 ∧ a2 = nI j)
  · obtain ⟨h0, ⟨m, m1, m60, rfl⟩, ⟨v, hv, rfl⟩⟩ := hall
    have hb := OkA_b ok
    have hd4 := hb.2.2.1
    have ny := arg_Ny m1 m60
    have in1 : inL (nI v).toInt64 0 1 = true := by
      have := inK (a := v) (k := 1) (by omega) (by decide)
      rw [decide_eq_true hv] at this
      exact this
    have hal : (1 : Int32) <<< (nI (A.2.2.1.1 0 2) &&& 31) - 1 = nI (2 ^ A.2.2.1.1 0 2 - 1) := by
      show nI 1 <<< (nI (A.2.2.1.1 0 2) &&& nI 31) - nI 1 = _
      rw [nI_shl (by omega), nI_subN Nat.one_le_two_pow]
    have hl15 : 2 ^ A.2.2.1.1 0 2 - 1 ≤ 15 := by
      have := Nat.pow_le_pow_right (n := 2) (by decide) hd4
      omega
    obtain ⟨al, hal2⟩ : ∃ al, al = 2 ^ A.2.2.1.1 0 2 - 1 := ⟨_, rfl⟩
    rw [← hal2] at hal hl15
    refine ⟨if v = 0 then nI (gatA (gatN A m al) (al + 1) 0 (0, 0)).1 else zI (gatA (gatN A m al) (al + 1) 0 (0, 0)).2, A, ok1, fun T G hR hG => ?_, fun S hS => ?_⟩
    · have hc2 : T.1 89 2 = nI (A.2.2.1.1 0 2) := (CD_b hR).2.2.1
      refine ep_succ (fun n => G135e0 n ..) ?_
      simp only [G135b0]
      refine ep_bv ((arg_R ok h0).1 T G hR) ?_
      have e1 : am_if .eq (nI 1) = false := by decide
      simp only [e1, decide_eq_true_eq, decide_true, decide_false, Bool.not_eq_true, Bool.not_eq_true', Bool.not_true, Bool.not_false, decide_eq_false_iff_not, Bool.false_eq_true, not_false_eq_true, not_true_eq_false, if_true, if_false, ↓reduceIte, eq_self, Option.bind_some, Bool.true_and, Bool.false_and, Bool.and_true, Bool.and_false]
      refine ep_bv (ny.1 T) ?_
      simp only [hc2, hal]
      simp (disch := omega) only [L0, L1, L2, L3, L4, L5, L6, L7, L8, L9, L10, L11, L12, L13, L16, L20, L31, L32, L40, L48, L57, L59, L60, L61, L91, L93, L97, L99, L100, L102, L103, L114, L122, L255, L300, L400, L402, L999, L2280, L2500, L99999, L63, L1431655765, L858993459, L252645135, ic_ge, ic_gt, ic_le, ic_lt, ic_eq, ic_ne, if_lt, if_ge, if_gt, if_le, if_eq, if_ne, if_lt_zI, if_ge_zI, ic_ne_m1, ic_eq_m1, ic_nn_m1, ic_ee_m1, if_ne_b2i, if_eq_b2i, b2i_z, decide_eq_true_eq, decide_true, decide_false, Bool.not_eq_true, Bool.not_eq_true', Bool.not_true, Bool.not_false, decide_eq_false_iff_not, Bool.false_eq_true, not_false_eq_true, not_true_eq_false, if_true, if_false, ↓reduceIte, eq_self, Option.bind_some, Bool.true_and, Bool.false_and, Bool.and_true, Bool.and_false, nI_add, nI_subN, nI_clamp, gdF, gdF2, gdP, gdP2, zI_cl, zI_s, Lm1, nI_n0, zI_n0, leF, or_false, false_or, or_self, hv, Nat.one_ne_zero]
      refine ep_mono (g135l ok hk m60 hv hl15 (al + 1) 0 (0, 0) T (by omega) (by decide) hR) ?_
      rintro ⟨z1, T1, G1⟩ ⟨e1, e2, e3⟩
      have e3 : G1 = G := e3
      subst e3
      exact ⟨e1, e2, RG_s hG⟩
    · have hc2 : S.2.1 1 2 = nI (A.2.2.1.1 0 2) := (MD_b hS).2.2.1
      refine ep_succ (fun n => F254e0 n ..) ?_
      simp only [F254b0]
      refine ep_bv ((arg_R ok h0).2 S hS) ?_
      have e1 : am_if .eq (nI 1) = false := by decide
      simp only [e1, decide_eq_true_eq, decide_true, decide_false, Bool.not_eq_true, Bool.not_eq_true', Bool.not_true, Bool.not_false, decide_eq_false_iff_not, Bool.false_eq_true, not_false_eq_true, not_true_eq_false, if_true, if_false, ↓reduceIte, eq_self, Option.bind_some, Bool.true_and, Bool.false_and, Bool.and_true, Bool.and_false]
      refine ep_bv (f172 S) ?_
      rw [ny.2]
      simp only [if_eq_b2i, decide_eq_true_eq, decide_true, decide_false, Bool.not_eq_true, Bool.not_eq_true', Bool.not_true, Bool.not_false, decide_eq_false_iff_not, Bool.false_eq_true, not_false_eq_true, not_true_eq_false, if_true, if_false, ↓reduceIte, eq_self, Option.bind_some, Bool.true_and, Bool.false_and, Bool.and_true, Bool.and_false]
      refine ep_bv (f172 S) ?_
      rw [in1]
      simp only [if_ne_b2i, decide_eq_true_eq, decide_true, decide_false, Bool.not_eq_true, Bool.not_eq_true', Bool.not_true, Bool.not_false, decide_eq_false_iff_not, Bool.false_eq_true, not_false_eq_true, not_true_eq_false, if_true, if_false, ↓reduceIte, eq_self, Option.bind_some, Bool.true_and, Bool.false_and, Bool.and_true, Bool.and_false]
      refine ep_bind (keepsAll ok hS) ?_
      rintro ⟨_, S1⟩ ⟨h1, sv⟩
      simp only [hc2, hal]
      exact f254l ok hk m60 hv hl15 h1 sv (al + 1) 0 (0, 0) S1 (by omega) (Or.inl rfl) (by decide) h1 Hd_rf
  · refine ⟨zI 0, A, ok1, fun T G hR hG => ?_, callM_id (fun S hS => ?_)⟩
    · refine ep_succ (fun n => G135e0 n ..) ?_
      simp only [G135b0]
      by_cases h0 : A.2.2.1.1 0 0 = 0
      · refine ep_bv ((arg_R0 ok h0).1 T G hR) ?_
        simp (disch := omega) only [L0, L1, L2, L3, L4, L5, L6, L7, L8, L9, L10, L11, L12, L13, L16, L20, L31, L32, L40, L48, L57, L59, L60, L61, L91, L93, L97, L99, L100, L102, L103, L114, L122, L255, L300, L400, L402, L999, L2280, L2500, L99999, L63, L1431655765, L858993459, L252645135, ic_ge, ic_gt, ic_le, ic_lt, ic_eq, ic_ne, if_lt, if_ge, if_gt, if_le, if_eq, if_ne, if_lt_zI, if_ge_zI, ic_ne_m1, ic_eq_m1, ic_nn_m1, ic_ee_m1, if_ne_b2i, if_eq_b2i, b2i_z, decide_eq_true_eq, decide_true, decide_false, Bool.not_eq_true, Bool.not_eq_true', Bool.not_true, Bool.not_false, decide_eq_false_iff_not, Bool.false_eq_true, not_false_eq_true, not_true_eq_false, if_true, if_false, ↓reduceIte, eq_self, Option.bind_some, Bool.true_and, Bool.false_and, Bool.and_true, Bool.and_false, nI_add, nI_subN, nI_clamp, gdF, gdF2, gdP, gdP2, zI_cl, zI_s, Lm1, nI_n0, zI_n0, leF, or_false, false_or, or_self]
        exact ep_ret ⟨rfl, hR, RG_s hG⟩
      · refine ep_bv ((arg_R ok h0).1 T G hR) ?_
        have e1 : am_if .eq (nI 1) = false := by decide
        simp only [e1, decide_eq_true_eq, decide_true, decide_false, Bool.not_eq_true, Bool.not_eq_true', Bool.not_true, Bool.not_false, decide_eq_false_iff_not, Bool.false_eq_true, not_false_eq_true, not_true_eq_false, if_true, if_false, ↓reduceIte, eq_self, Option.bind_some, Bool.true_and, Bool.false_and, Bool.and_true, Bool.and_false]
        rcases arg_N a1 with ⟨m, m1, m60, rfl⟩ | hN
        · refine ep_bv ((arg_Ny m1 m60).1 T) ?_
          simp (disch := omega) only [L0, L1, L2, L3, L4, L5, L6, L7, L8, L9, L10, L11, L12, L13, L16, L20, L31, L32, L40, L48, L57, L59, L60, L61, L91, L93, L97, L99, L100, L102, L103, L114, L122, L255, L300, L400, L402, L999, L2280, L2500, L99999, L63, L1431655765, L858993459, L252645135, ic_ge, ic_gt, ic_le, ic_lt, ic_eq, ic_ne, if_lt, if_ge, if_gt, if_le, if_eq, if_ne, if_lt_zI, if_ge_zI, ic_ne_m1, ic_eq_m1, ic_nn_m1, ic_ee_m1, if_ne_b2i, if_eq_b2i, b2i_z, decide_eq_true_eq, decide_true, decide_false, Bool.not_eq_true, Bool.not_eq_true', Bool.not_true, Bool.not_false, decide_eq_false_iff_not, Bool.false_eq_true, not_false_eq_true, not_true_eq_false, if_true, if_false, ↓reduceIte, eq_self, Option.bind_some, Bool.true_and, Bool.false_and, Bool.and_true, Bool.and_false, nI_add, nI_subN, nI_clamp, gdF, gdF2, gdP, gdP2, zI_cl, zI_s, Lm1, nI_n0, zI_n0, leF, or_false, false_or, or_self, Nat.one_ne_zero]
          rcases arg_W a2 (v := 1) (by decide) with ⟨j, hj, rfl⟩ | ⟨h4 | ⟨h4, h5⟩, _⟩
          · exact absurd ⟨h0, ⟨m, m1, m60, rfl⟩, ⟨j, hj, rfl⟩⟩ hall
          · simp only [h4, decide_eq_true_eq, decide_true, decide_false, Bool.not_eq_true, Bool.not_eq_true', Bool.not_true, Bool.not_false, decide_eq_false_iff_not, Bool.false_eq_true, not_false_eq_true, not_true_eq_false, if_true, if_false, ↓reduceIte, eq_self, Option.bind_some, Bool.true_and, Bool.false_and, Bool.and_true, Bool.and_false]
            exact ep_ret ⟨rfl, hR, RG_s hG⟩
          · simp only [h4, h5, decide_eq_true_eq, decide_true, decide_false, Bool.not_eq_true, Bool.not_eq_true', Bool.not_true, Bool.not_false, decide_eq_false_iff_not, Bool.false_eq_true, not_false_eq_true, not_true_eq_false, if_true, if_false, ↓reduceIte, eq_self, Option.bind_some, Bool.true_and, Bool.false_and, Bool.and_true, Bool.and_false]
            exact ep_ret ⟨rfl, hR, RG_s hG⟩
        · refine ep_bv (hN.1 T) ?_
          simp (disch := omega) only [L0, L1, L2, L3, L4, L5, L6, L7, L8, L9, L10, L11, L12, L13, L16, L20, L31, L32, L40, L48, L57, L59, L60, L61, L91, L93, L97, L99, L100, L102, L103, L114, L122, L255, L300, L400, L402, L999, L2280, L2500, L99999, L63, L1431655765, L858993459, L252645135, ic_ge, ic_gt, ic_le, ic_lt, ic_eq, ic_ne, if_lt, if_ge, if_gt, if_le, if_eq, if_ne, if_lt_zI, if_ge_zI, ic_ne_m1, ic_eq_m1, ic_nn_m1, ic_ee_m1, if_ne_b2i, if_eq_b2i, b2i_z, decide_eq_true_eq, decide_true, decide_false, Bool.not_eq_true, Bool.not_eq_true', Bool.not_true, Bool.not_false, decide_eq_false_iff_not, Bool.false_eq_true, not_false_eq_true, not_true_eq_false, if_true, if_false, ↓reduceIte, eq_self, Option.bind_some, Bool.true_and, Bool.false_and, Bool.and_true, Bool.and_false, nI_add, nI_subN, nI_clamp, gdF, gdF2, gdP, gdP2, zI_cl, zI_s, Lm1, nI_n0, zI_n0, leF, or_false, false_or, or_self]
          exact ep_ret ⟨rfl, hR, RG_s hG⟩
    · refine ev_succ (fun n => F254e0 n ..) ?_
      simp only [F254b0]
      by_cases h0 : A.2.2.1.1 0 0 = 0
      · refine ev_bind ((arg_R0 ok h0).2 S hS) ?_
        simp (disch := omega) only [L0, L1, L2, L3, L4, L5, L6, L7, L8, L9, L10, L11, L12, L13, L16, L20, L31, L32, L40, L48, L57, L59, L60, L61, L91, L93, L97, L99, L100, L102, L103, L114, L122, L255, L300, L400, L402, L999, L2280, L2500, L99999, L63, L1431655765, L858993459, L252645135, ic_ge, ic_gt, ic_le, ic_lt, ic_eq, ic_ne, if_lt, if_ge, if_gt, if_le, if_eq, if_ne, if_lt_zI, if_ge_zI, ic_ne_m1, ic_eq_m1, ic_nn_m1, ic_ee_m1, if_ne_b2i, if_eq_b2i, b2i_z, decide_eq_true_eq, decide_true, decide_false, Bool.not_eq_true, Bool.not_eq_true', Bool.not_true, Bool.not_false, decide_eq_false_iff_not, Bool.false_eq_true, not_false_eq_true, not_true_eq_false, if_true, if_false, ↓reduceIte, eq_self, Option.bind_some, Bool.true_and, Bool.false_and, Bool.and_true, Bool.and_false, nI_add, nI_subN, nI_clamp, gdF, gdF2, gdP, gdP2, zI_cl, zI_s, Lm1, nI_n0, zI_n0, leF, or_false, false_or, or_self]
        exact ev_ret
      · refine ev_bind ((arg_R ok h0).2 S hS) ?_
        have e1 : am_if .eq (nI 1) = false := by decide
        simp only [e1, decide_eq_true_eq, decide_true, decide_false, Bool.not_eq_true, Bool.not_eq_true', Bool.not_true, Bool.not_false, decide_eq_false_iff_not, Bool.false_eq_true, not_false_eq_true, not_true_eq_false, if_true, if_false, ↓reduceIte, eq_self, Option.bind_some, Bool.true_and, Bool.false_and, Bool.and_true, Bool.and_false]
        refine ev_bind (f172 S) ?_
        rcases arg_N a1 with ⟨m, m1, m60, rfl⟩ | hN
        · rw [(arg_Ny m1 m60).2]
          simp only [if_eq_b2i, decide_eq_true_eq, decide_true, decide_false, Bool.not_eq_true, Bool.not_eq_true', Bool.not_true, Bool.not_false, decide_eq_false_iff_not, Bool.false_eq_true, not_false_eq_true, not_true_eq_false, if_true, if_false, ↓reduceIte, eq_self, Option.bind_some, Bool.true_and, Bool.false_and, Bool.and_true, Bool.and_false]
          refine ev_bind (f172 S) ?_
          rcases arg_W a2 (v := 1) (by decide) with ⟨j, hj, rfl⟩ | ⟨_, h5⟩
          · exact absurd ⟨h0, ⟨m, m1, m60, rfl⟩, ⟨j, hj, rfl⟩⟩ hall
          · have h5 : inL a2.toInt64 0 1 = false := h5
            rw [h5]
            simp only [if_ne_b2i, decide_eq_true_eq, decide_true, decide_false, Bool.not_eq_true, Bool.not_eq_true', Bool.not_true, Bool.not_false, decide_eq_false_iff_not, Bool.false_eq_true, not_false_eq_true, not_true_eq_false, if_true, if_false, ↓reduceIte, eq_self, Option.bind_some, Bool.true_and, Bool.false_and, Bool.and_true, Bool.and_false]
            exact ev_ret
        · rw [hN.2]
          simp only [if_eq_b2i, decide_eq_true_eq, decide_true, decide_false, Bool.not_eq_true, Bool.not_eq_true', Bool.not_true, Bool.not_false, decide_eq_false_iff_not, Bool.false_eq_true, not_false_eq_true, not_true_eq_false, if_true, if_false, ↓reduceIte, eq_self, Option.bind_some, Bool.true_and, Bool.false_and, Bool.and_true, Bool.and_false]
          exact ev_ret
