/-! what is looked at; ahead -/
def dysA (b : AB) (l : LW) : Nat → AW → AW
  | 0, w => w
  | m + 1, w => dysA b l m (dayA b l w)
theorem dys_Ok {b : AB} {l : LW} (hb : OkB b) : ∀ (m : Nat) (w : AW), OkW b w → OkW b (dysA b l m w) ∧ (dysA b l m w).1 0 1 = w.1 0 1 ∧ (dysA b l m w).1 0 0 = w.1 0 0 + m
  | 0, w, ok => ⟨ok, rfl, rfl⟩
  | m + 1, w, ok => by
    have h := dys_Ok (l := l) hb m (dayA b l w) (dayA_Ok hb ok)
    refine ⟨h.1, ?_, ?_⟩
    · show (dysA b l m (dayA b l w)).1 0 1 = _
      rw [h.2.1, dayA_n hb ok]
    · show (dysA b l m (dayA b l w)).1 0 0 = _
      rw [h.2.2, dayA_d hb ok]
      omega
theorem dys_off {b : AB} {l : LW} (hb : OkB b) {s r : Nat} (h1 : 1 ≤ r) (h6 : r ≤ 6) : ∀ (m : Nat) (w : AW), OkW b w → w.1 1 s = 0 → (dysA b l m w).1 r s = w.1 r s
  | 0, w, ok, h => rfl
  | m + 1, w, ok, h => by
    show (dysA b l m (dayA b l w)).1 r s = _
    rw [dys_off hb h1 h6 m (dayA b l w) (dayA_Ok hb ok) (by rw [dayA_off hb ok h (by decide) (by decide)]; exact h), dayA_off hb ok h h1 h6]
theorem dys_add {b : AB} {l : LW} : ∀ (m k : Nat) (w : AW), dysA b l (m + k) w = dysA b l k (dysA b l m w)
  | 0, k, w => by rw [Nat.zero_add]; rfl
  | m + 1, k, w => by
    rw [show m + 1 + k = (m + k) + 1 by omega]
    exact dys_add m k (dayA b l w)
/-- what a look may change in the program -/
def FrL (T T' : xS) : Prop := (∀ q, (q < 109 ∨ 122 < q) → T'.1 q = T.1 q ∧ T'.2.1 q = T.2.1 q) ∧ (∀ q, q ≠ 109 → T'.2.2.2 q = T.2.2.2 q)
theorem FrL_rf {T : xS} : FrL T T := ⟨fun _ _ => ⟨rfl, rfl⟩, fun _ _ => rfl⟩
theorem FrL_tr {T1 T2 T3 : xS} (h : FrL T1 T2) (h' : FrL T2 T3) : FrL T1 T3 := ⟨fun q hq => ⟨(h'.1 q hq).1.trans (h.1 q hq).1, (h'.1 q hq).2.trans (h.1 q hq).2⟩, fun q hq => (h'.2 q hq).trans (h.2 q hq)⟩
theorem FrS_L' {T T' : xS} (h : FrS 110 T T') : FrL T T' := ⟨fun q hq => h.1 q (by omega) (by omega), fun q _ => by rw [h.2]⟩
theorem FrW_L {T T' : xS} (h : FrW 110 T T') : FrL T T' := ⟨fun q hq => h.1 q (by omega), fun q _ => by rw [h.2]⟩
theorem RC_L {A : AA} {T T' : xS} {G : gS} (h : RC A T G) (f : FrL T T') : RC A T' G := RC_same h ⟨(f.1 65 (by omega)).1, (f.1 66 (by omega)).2, (f.1 64 (by omega)).1⟩ (fun q hq => f.1 q (by omega)) f.2
theorem g109 {k : Nat} {A : AA} {T : xS} {G : gS} {lo : Option Nat} {ln : Nat} (ok : OkA k A) (h : RC A T G) (hl : LC T lo ln (lawA A.2.1.2 A.2.2.1.2.2.2.1)) : Ep (fun n => G109 lo n T) (fun z => DS z.2 z.2 110 lo ln A.2.2.1.1 (lawA A.2.1.2 A.2.2.1.2.2.2.1) (fun f => nI (cf A.2.2.1.2.1 f)) A.2.2.1.2.1 ∧ FrL T z.2) := by
  have hb := OkA_b ok
  have kw := OkA_w ok
  refine ep_succ (fun n => G109e0 lo n ..) ?_
  simp only [G109b0]
  refine ep_bind (g54 (p := 110) (q := 95) (CD_w h) kw.1 (by omega)) ?_
  rintro ⟨_, T1⟩ ⟨c1, c2⟩
  have c2 : FrW 110 T T1 := c2
  have hB1 : CB T1 89 A.2.2.1.1 := CB_of (CD_b h) (c2.1 89 (by omega)).1 (fun j a b => (c2.1 _ (by omega)).2)
  refine ep_bind (g85 (wb := 110) (Or.inr rfl) hB1 hb (LC_fr hl (fun q _ h' => (c2.1 (q + 1) (by omega)).2)) c1 kw) ?_
  rintro ⟨_, T2⟩ ⟨d1, d2, d3⟩
  refine ep_ret ⟨d1, FrL_tr (FrW_L c2) ⟨fun q hq => ?_, d3⟩⟩
  exact d2.1 q (by omega) (by omega)
theorem DS_fr {T0 T1 T : xS} {wb : Nat} {lo : Option Nat} {ln : Nat} {b : AB} {l : LW} {cc : Nat → Int32} {w : AW} (h : DS T1 T wb lo ln b l cc w) (f : FrS wb T0 T1) : DS T0 T wb lo ln b l cc w := ⟨h.1, h.2.1, h.2.2.1, h.2.2.2.1, FrS_tr f h.2.2.2.2⟩
section G110
variable {T0 : xS} {lo : Option Nat} {ln : Nat} {b : AB} {l : LW} {cc : Nat → Int32}
theorem g110l {s m : Nat} (hb : OkB b) (hm : m ≤ 60) : ∀ (k j : Nat) (T : xS) (w : AW), j + k = m → s < w.1 0 1 → w.1 0 0 + k < 990 → DS T0 T 110 lo ln b l cc w → Ep (fun n => G110f 110 lo ln n 2 (nI s) (nI m) (nI j) T) (fun z => ∃ i, i ≤ k ∧ DS T0 z.2 110 lo ln b l cc (dysA b l i w) ∧ ((dysA b l i w).1 1 s = 0 ∨ i = k)) := by
  intro k
  induction k with
  | zero =>
    intro j T w hj hs hd hS
    refine ep_succ (fun n => G110e2 110 lo ln n ..) ?_
    have e : m ≤ j := by omega
    simp (disch := omega) only [G110b2, L0, L1, L2, L3, L4, L5, L6, L7, L8, L9, L10, L11, L12, L13, L16, L20, L31, L32, L40, L48, L57, L59, L60, L61, L91, L93, L97, L99, L100, L102, L103, L114, L122, L255, L300, L400, L402, L999, L2280, L2500, L99999, L63, L1431655765, L858993459, L252645135, ic_ge, ic_gt, ic_le, ic_lt, ic_eq, ic_ne, if_lt, if_ge, if_gt, if_le, if_eq, if_ne, if_lt_zI, if_ge_zI, ic_ne_m1, ic_eq_m1, ic_nn_m1, ic_ee_m1, if_ne_b2i, if_eq_b2i, b2i_z, decide_eq_true_eq, decide_true, decide_false, Bool.not_eq_true, Bool.not_eq_true', Bool.not_true, Bool.not_false, decide_eq_false_iff_not, Bool.false_eq_true, not_false_eq_true, not_true_eq_false, if_true, if_false, ↓reduceIte, eq_self, Option.bind_some, Bool.true_and, Bool.false_and, Bool.and_true, Bool.and_false, nI_add, nI_subN, nI_clamp, gdF, gdF2, gdP, gdP2, zI_cl, zI_s, Lm1, nI_n0, zI_n0, leF, or_false, false_or, or_self, e]
    exact ep_ret ⟨0, Nat.le_refl _, hS, Or.inr rfl⟩
  | succ k ih =>
    intro j T w hj hs hd hS
    refine ep_succ (fun n => G110e2 110 lo ln n ..) ?_
    have e : ¬ m ≤ j := by omega
    have hb4 := hS.1.2.2.1
    have ok := hS.2.2.1
    have hn := ok.1
    have r1 := (hS.2.1.2.2.2.1 s hs).1
    have h16 := OkW_16 hb ok s hs
    by_cases h0 : w.1 1 s = 0
    · simp (disch := omega) only [G110b2, L0, L1, L2, L3, L4, L5, L6, L7, L8, L9, L10, L11, L12, L13, L16, L20, L31, L32, L40, L48, L57, L59, L60, L61, L91, L93, L97, L99, L100, L102, L103, L114, L122, L255, L300, L400, L402, L999, L2280, L2500, L99999, L63, L1431655765, L858993459, L252645135, ic_ge, ic_gt, ic_le, ic_lt, ic_eq, ic_ne, if_lt, if_ge, if_gt, if_le, if_eq, if_ne, if_lt_zI, if_ge_zI, ic_ne_m1, ic_eq_m1, ic_nn_m1, ic_ee_m1, if_ne_b2i, if_eq_b2i, b2i_z, decide_eq_true_eq, decide_true, decide_false, Bool.not_eq_true, Bool.not_eq_true', Bool.not_true, Bool.not_false, decide_eq_false_iff_not, Bool.false_eq_true, not_false_eq_true, not_true_eq_false, if_true, if_false, ↓reduceIte, eq_self, Option.bind_some, Bool.true_and, Bool.false_and, Bool.and_true, Bool.and_false, nI_add, nI_subN, nI_clamp, gdF, gdF2, gdP, gdP2, zI_cl, zI_s, Lm1, nI_n0, zI_n0, leF, or_false, false_or, or_self, e, hb4, r1, h0]
      exact ep_ret ⟨0, Nat.zero_le _, hS, Or.inl h0⟩
    · simp (disch := omega) only [G110b2, L0, L1, L2, L3, L4, L5, L6, L7, L8, L9, L10, L11, L12, L13, L16, L20, L31, L32, L40, L48, L57, L59, L60, L61, L91, L93, L97, L99, L100, L102, L103, L114, L122, L255, L300, L400, L402, L999, L2280, L2500, L99999, L63, L1431655765, L858993459, L252645135, ic_ge, ic_gt, ic_le, ic_lt, ic_eq, ic_ne, if_lt, if_ge, if_gt, if_le, if_eq, if_ne, if_lt_zI, if_ge_zI, ic_ne_m1, ic_eq_m1, ic_nn_m1, ic_ee_m1, if_ne_b2i, if_eq_b2i, b2i_z, decide_eq_true_eq, decide_true, decide_false, Bool.not_eq_true, Bool.not_eq_true', Bool.not_true, Bool.not_false, decide_eq_false_iff_not, Bool.false_eq_true, not_false_eq_true, not_true_eq_false, if_true, if_false, ↓reduceIte, eq_self, Option.bind_some, Bool.true_and, Bool.false_and, Bool.and_true, Bool.and_false, nI_add, nI_subN, nI_clamp, gdF, gdF2, gdP, gdP2, zI_cl, zI_s, Lm1, nI_n0, zI_n0, leF, or_false, false_or, or_self, e, hb4, r1, h0]
      refine ep_bind (g86 (by omega) hS) ?_
      rintro ⟨_, T1⟩ h1
      have h1 : DS T0 T1 110 lo ln b l cc (dayA b l w) := h1
      refine ep_mono (ih (j + 1) T1 (dayA b l w) (by omega) (by rw [dayA_n hb ok]; exact hs) (by rw [dayA_d hb ok]; omega) h1) ?_
      rintro ⟨_, z⟩ ⟨i, hi, a, c⟩
      exact ⟨i + 1, by omega, a, c.imp id (fun z => by omega)⟩
theorem g110 {s m : Nat} {T : xS} {w : AW} (hb : OkB b) (hm : m ≤ 60) (hs : s < w.1 0 1) (hd : w.1 0 0 < 900) (hS : DS T0 T 110 lo ln b l cc w) : Ep (fun n => G110 110 lo ln n (nI s) (nI m) T) (fun z => ∃ w', DS T0 z.2 110 lo ln b l cc w' ∧ w'.1 0 1 = w.1 0 1 ∧ ∀ r, 1 ≤ r → r ≤ 6 → w'.1 r s = (dysA b l m w).1 r s) := by
  refine ep_succ (fun n => G110e0 110 lo ln n ..) ?_
  simp only [G110b0, L0]
  refine ep_mono (g110l hb hm m 0 T w (by omega) hs (by omega) hS) ?_
  rintro ⟨_, z⟩ ⟨i, hi, a, c⟩
  have hok := dys_Ok (l := l) hb i w hS.2.2.1
  refine ⟨dysA b l i w, a, hok.2.1, fun r h1 h6 => ?_⟩
  rcases c with c | c
  · obtain ⟨j, rfl⟩ : ∃ j, m = i + j := ⟨m - i, by omega⟩
    rw [dys_add, dys_off hb h1 h6 j _ hok.1 c]
  · rw [c]
end G110
/-! the reference's looks -/
def Hd (S1 S' : mS) : Prop := (∀ q, q ≠ 56 → q ≠ 57 → S'.1 q = S1.1 q) ∧ (∀ q, 16 ≤ q → q ≠ 36 → S'.2.1 q = S1.2.1 q)
def Sv (S1 : mS) : Prop := S1.2.1 40 10000 = S1.1 47 ∧ ∀ k i, 1 ≤ k → k ≤ 15 → i < imL k → imR (S1.2.1 40) 4 k i = S1.2.1 k i
theorem Hd_rf {S : mS} : Hd S S := ⟨fun _ _ _ => rfl, fun _ _ _ => rfl⟩
theorem Hd_fr {S1 S S' : mS} (h : Hd S1 S) (h1 : S'.1 = S.1) (h2 : ∀ q, 16 ≤ q → S'.2.1 q = S.2.1 q) : Hd S1 S' := ⟨fun q a b => by rw [h1]; exact h.1 q a b, fun q a b => by rw [h2 q a]; exact h.2 q a b⟩
theorem FrM_H {S1 S S' : mS} (h : Hd S1 S) (f : FrM S S') : Hd S1 S' := Hd_fr h f.1 (fun q hq => funext (fun i => f.2 q i (by omega)))
theorem keepsAll {k : Nat} {A : AA} {S : mS} (ok : OkA k A) (h : RM A S) : Ep (fun n => F239 n S) (fun z => RM A z.2 ∧ Sv z.2) := by
  refine ep_succ (fun n => F239e0 n ..) ?_
  simp only [F239b0]
  refine ep_bind (f240s (j := 4) (S := S) (by decide)) ?_
  rintro ⟨_, S1⟩ ⟨z1, z2, z3, z4, z5, z6, z7⟩
  have z1 : ∀ q, q ≠ 56 → q ≠ 57 → S1.1 q = S.1 q := z1
  have z2 : ∀ q, q ≠ 36 → q ≠ 40 → S1.2.1 q = S.2.1 q := z2
  refine ep_ret ⟨RM_same ok h ⟨z1 26 (by decide) (by decide), z1 30 (by decide) (by decide), z1 35 (by decide) (by decide), z1 47 (by decide) (by decide)⟩ (fun k i hk => ?_), ?_, fun k i a b c => ?_⟩
  · by_cases e : k = 40
    · subst e
      exact z4 i (by omega)
    · rw [z2 k (by omega) e]
  · show S1.2.1 40 (2500 * 4) = S1.1 47
    rw [z1 47 (by decide) (by decide)]
    exact z5
  · rw [z2 k (by omega) (by omega)]
    exact z6 k i a b c
theorem laysBack {k : Nat} {A : AA} {S1 S : mS} (ok : OkA k A) (h : RM A S1) (sv : Sv S1) (hd : Hd S1 S) : Ep (fun n => F243 n S) (fun z => RM A z.2 ∧ Hd S1 z.2) := by
  refine ep_succ (fun n => F243e0 n ..) ?_
  simp only [F243b0]
  refine ep_bind (f240b (j := 4) (S := S) (by decide)) ?_
  rintro ⟨_, S2⟩ ⟨z1, z2, z3, z4, z5, z6⟩
  have z1 : ∀ q, q ≠ 56 → q ≠ 57 → q ≠ 47 → S2.1 q = S.1 q := z1
  have z2 : ∀ q, q = 0 ∨ 16 ≤ q → q ≠ 35 → q ≠ 36 → S2.2.1 q = S.2.1 q := z2
  have z3 : S2.1 47 = S.2.1 40 10000 := z3
  have z4 : ∀ k i, 1 ≤ k → k ≤ 15 → i < imL k → S2.2.1 k i = imR (S.2.1 40) 4 k i := z4
  have z6 : S2.2.1 35 = S.2.1 35 := z6 rfl
  have h40 : S.2.1 40 = S1.2.1 40 := hd.2 40 (by decide) (by decide)
  have hq : ∀ q, q ≠ 56 → q ≠ 57 → S2.1 q = S1.1 q := by
    intro q a b
    by_cases e : q = 47
    · subst e
      rw [z3, h40]
      exact sv.1
    · rw [z1 q a b e]
      exact hd.1 q a b
  have hr : ∀ q, 16 ≤ q → q ≠ 36 → S2.2.1 q = S1.2.1 q := by
    intro q a b
    by_cases e : q = 35
    · subst e
      rw [z6]
      exact hd.2 35 (by decide) (by decide)
    · rw [z2 q (Or.inr a) e b]
      exact hd.2 q a b
  have hlow : ∀ k i, 1 ≤ k → k ≤ 15 → i < m_ln.getD k 0 → S2.2.1 k i = S1.2.1 k i := by
    intro k i a b c
    rw [z4 k i a b c, h40]
    exact sv.2 k i a b c
  obtain ⟨t, ⟨r1, r2, r3⟩, hmd, im⟩ := h
  refine ep_ret ⟨⟨⟨by rw [hq 26 (by decide) (by decide)]; exact t.1, fun i hi => by rw [hr 26 (by decide) (by decide)]; exact t.2 i hi⟩, ⟨by rw [hq 30 (by decide) (by decide)]; exact r1, by rw [hq 35 (by decide) (by decide)]; exact r2, fun r hr' => LMr_of (r3 r hr') (fun k i a b => by rw [hr k (by omega) (by omega)])⟩, MD_r hmd ok.2.2.2.1 hlow (hq 47 (by decide) (by decide)) (fun j _ => by rw [hr 35 (by decide) (by decide)]), IM_r (A := A) ok im (fun j _ => by rw [hr 40 (by decide) (by decide)]) (fun i _ => by rw [hr 41 (by decide) (by decide)])⟩, ⟨hq, hr⟩⟩
/-- days go on in the reference -/
theorem f242l {S0 : mS} {b : AB} {l : LW} {m : Nat} (hm : m ≤ 60) : ∀ (k j : Nat) (S : mS) (w : AW), j + k = m → w.1 0 0 + k < 990 → DM S0 S b l w → Ep (fun n => F242f n 2 (nI m) (nI j) S) (fun z => DM S0 z.2 b l (dysA b l k w)) := by
  intro k
  induction k with
  | zero =>
    intro j S w hj hd hD
    refine ep_succ (fun n => F242e2 n ..) ?_
    have e : m ≤ j := by omega
    simp (disch := omega) only [F242b2, L0, L1, L2, L3, L4, L5, L6, L7, L8, L9, L10, L11, L12, L13, L16, L20, L31, L32, L40, L48, L57, L59, L60, L61, L91, L93, L97, L99, L100, L102, L103, L114, L122, L255, L300, L400, L402, L999, L2280, L2500, L99999, L63, L1431655765, L858993459, L252645135, ic_ge, ic_gt, ic_le, ic_lt, ic_eq, ic_ne, if_lt, if_ge, if_gt, if_le, if_eq, if_ne, if_lt_zI, if_ge_zI, ic_ne_m1, ic_eq_m1, ic_nn_m1, ic_ee_m1, if_ne_b2i, if_eq_b2i, b2i_z, decide_eq_true_eq, decide_true, decide_false, Bool.not_eq_true, Bool.not_eq_true', Bool.not_true, Bool.not_false, decide_eq_false_iff_not, Bool.false_eq_true, not_false_eq_true, not_true_eq_false, if_true, if_false, ↓reduceIte, eq_self, Option.bind_some, Bool.true_and, Bool.false_and, Bool.and_true, Bool.and_false, nI_add, nI_subN, nI_clamp, gdF, gdF2, gdP, gdP2, zI_cl, zI_s, Lm1, nI_n0, zI_n0, leF, or_false, false_or, or_self, e]
    exact ep_ret hD
  | succ k ih =>
    intro j S w hj hd hD
    refine ep_succ (fun n => F242e2 n ..) ?_
    have e : ¬ m ≤ j := by omega
    simp (disch := omega) only [F242b2, L0, L1, L2, L3, L4, L5, L6, L7, L8, L9, L10, L11, L12, L13, L16, L20, L31, L32, L40, L48, L57, L59, L60, L61, L91, L93, L97, L99, L100, L102, L103, L114, L122, L255, L300, L400, L402, L999, L2280, L2500, L99999, L63, L1431655765, L858993459, L252645135, ic_ge, ic_gt, ic_le, ic_lt, ic_eq, ic_ne, if_lt, if_ge, if_gt, if_le, if_eq, if_ne, if_lt_zI, if_ge_zI, ic_ne_m1, ic_eq_m1, ic_nn_m1, ic_ee_m1, if_ne_b2i, if_eq_b2i, b2i_z, decide_eq_true_eq, decide_true, decide_false, Bool.not_eq_true, Bool.not_eq_true', Bool.not_true, Bool.not_false, decide_eq_false_iff_not, Bool.false_eq_true, not_false_eq_true, not_true_eq_false, if_true, if_false, ↓reduceIte, eq_self, Option.bind_some, Bool.true_and, Bool.false_and, Bool.and_true, Bool.and_false, nI_add, nI_subN, nI_clamp, gdF, gdF2, gdP, gdP2, zI_cl, zI_s, Lm1, nI_n0, zI_n0, leF, or_false, false_or, or_self, e]
    refine ep_bind (f212 (by omega) hD) ?_
    rintro ⟨_, S1⟩ ⟨_, h1⟩
    exact ih (j + 1) S1 (dayA b l w) (by omega) (by rw [dayA_d hD.2.1 hD.2.2.2.1]; omega) h1
theorem f242 {S0 S : mS} {b : AB} {l : LW} {w : AW} {m : Nat} (hm : m ≤ 60) (hd : w.1 0 0 < 900) (hD : DM S0 S b l w) : Ep (fun n => F242 n (nI m) S) (fun z => DM S0 z.2 b l (dysA b l m w)) := by
  refine ep_succ (fun n => F242e0 n ..) ?_
  simp only [F242b0, L0]
  exact f242l hm m 0 S w (by omega) (by omega) hD
theorem DM_of {k : Nat} {A : AA} {S : mS} (ok : OkA k A) (h : RM A S) : DM S S A.2.2.1.1 (lawA A.2.1.2 A.2.2.1.2.2.2.1) A.2.2.1.2.1 := ⟨MD_b h, OkA_b ok, MD_w h, OkA_w ok, LM_of h ok.2.2.2.1.2.2.2.2.1 ok.2.2.1 h.2.2.1.2.2.2.2.1, FrM_rf⟩
theorem sm_ahead {k : Nat} {a e f : Int32} (hk : k < 512) (A : AA) (ok : OkA k A) : ∃ r A', OkA (k + 1) A' ∧ CallX k (fun n => G108 n a e f) A r A' ∧ CallM (fun n => F238 n a e f) A r A' := by
  have ok1 := OkA_s ok
  have hb := OkA_b ok
  have kw := OkA_w ok
  have hn := kw.1
  have hday := (ok.2.2.2.1.2.2.1 A.2.2.1.2.1 (Or.inl rfl)).2.2.1
  have noX : (∀ T G, RC A T G → Ev (fun n => G108 n a e f (T, G)) (-2, (T, G))) → (∀ S, RM A S → Ev (fun n => F238 n a e f S) (-2, S)) → ∃ r A', OkA (k + 1) A' ∧ CallX k (fun n => G108 n a e f) A r A' ∧ CallM (fun n => F238 n a e f) A r A' := fun h1 h2 => ⟨-2, A, ok1, fun T G hR hG => ⟨_, h1 T G hR, rfl, hR, RG_s hG⟩, callM_id h2⟩
  rcases i32_cases a with ⟨s, hx, rfl⟩ | hx
  · by_cases hs : s < A.2.2.1.2.1.1 0 1
    · rcases i32_cases e with ⟨m, hm, rfl⟩ | hm
      · by_cases hm60 : m ≤ 60
        · have in60 : inL (nI m).toInt64 0 60 = true := by
            have := inK (a := m) (k := 60) hm (by decide)
            rw [decide_eq_true hm60] at this
            exact this
          rcases i32_cases f with ⟨v, hv, rfl⟩ | hv
          · by_cases hv2 : v ≤ 2
            · have in2 : inL (nI v).toInt64 0 2 = true := by
                have := inK (a := v) (k := 2) hv (by decide)
                rw [decide_eq_true hv2] at this
                exact this
              obtain ⟨w', hw'⟩ : ∃ w', w' = dysA A.2.2.1.1 (lawA A.2.1.2 A.2.2.1.2.2.2.1) m A.2.2.1.2.1 := ⟨_, rfl⟩
              have hok := dys_Ok (l := lawA A.2.1.2 A.2.2.1.2.2.2.1) hb m A.2.2.1.2.1 kw
              rw [← hw'] at hok
              have o' := hok.1.2.1 s (by rw [hok.2.1]; exact hs)
              have h16 := OkW_16 hb hok.1 s (by rw [hok.2.1]; exact hs)
              refine ⟨if v = 0 then zI (w'.1 1 s) else if v = 1 then nI (w'.1 2 s) else nI (w'.1 4 s), A, ok1, fun T G hR hG => ?_, fun S hS => ?_⟩
              · refine ep_succ (fun n => G108e0 n ..) ?_
                simp only [G108b0]
                refine ep_bv (g80n ok hR hx) ?_
                have hg : ¬ 60 < m := by omega
                simp (maxSteps := 1000000) (disch := omega) only [hs, if_eq_b2i, L0, L1, L2, L3, L4, L5, L6, L7, L8, L9, L10, L11, L12, L13, L16, L20, L31, L32, L40, L48, L57, L59, L60, L61, L91, L93, L97, L99, L100, L102, L103, L114, L122, L255, L300, L400, L402, L999, L2280, L2500, L99999, L63, L1431655765, L858993459, L252645135, ic_ge, ic_gt, ic_le, ic_lt, ic_eq, ic_ne, if_lt, if_ge, if_gt, if_le, if_eq, if_ne, if_lt_zI, if_ge_zI, ic_ne_m1, ic_eq_m1, ic_nn_m1, ic_ee_m1, if_ne_b2i, if_eq_b2i, b2i_z, decide_eq_true_eq, decide_true, decide_false, Bool.not_eq_true, Bool.not_eq_true', Bool.not_true, Bool.not_false, decide_eq_false_iff_not, Bool.false_eq_true, not_false_eq_true, not_true_eq_false, if_true, if_false, ↓reduceIte, eq_self, Option.bind_some, Bool.true_and, Bool.false_and, Bool.and_true, Bool.and_false, nI_add, nI_subN, nI_clamp, gdF, gdF2, gdP, gdP2, zI_cl, zI_s, Lm1, nI_n0, zI_n0, leF, or_false, false_or, or_self, hg, hv2]
                obtain ⟨lo, e1, e2, e3⟩ := g84 ok hR
                refine ep_bv e1 ?_
                simp only [e2, decide_eq_true_eq, decide_true, decide_false, Bool.not_eq_true, Bool.not_eq_true', Bool.not_true, Bool.not_false, decide_eq_false_iff_not, Bool.false_eq_true, not_false_eq_true, not_true_eq_false, if_true, if_false, ↓reduceIte, eq_self, Option.bind_some, Bool.true_and, Bool.false_and, Bool.and_true, Bool.and_false]
                refine ep_bind (g109 ok hR e3) ?_
                rintro ⟨_, T1⟩ ⟨d1, d2⟩
                refine ep_bind (g110 hb hm60 hs (by omega) d1) ?_
                rintro ⟨_, T2⟩ ⟨w2, d3, d4, d5⟩
                have d3 : DS T1 T2 110 lo (lawN G lo) A.2.2.1.1 (lawA A.2.1.2 A.2.2.1.2.2.2.1) (fun f => nI (cf A.2.2.1.2.1 f)) w2 := d3
                rw [← hw'] at d5
                have h4 := d3.1.2.2.1
                obtain ⟨r1, r2, r3, r4, r5, r6, r7, r8⟩ := d3.2.1.2.2.2.1 s (by rw [d4]; exact hs)
                rw [d5 1 (by decide) (by decide)] at r1
                rw [d5 2 (by decide) (by decide)] at r2
                rw [d5 4 (by decide) (by decide)] at r6
                have r1 : T2.2.1 111 s = zI (w'.1 1 s) := r1
                have r2 : T2.2.1 112 s = nI (w'.1 2 s) := r2
                have r6 : T2.2.1 116 s = nI (w'.1 4 s) := r6
                have hRf := RC_L hR (FrL_tr d2 (FrS_L' d3.2.2.2.2))
                have hv' : v = 0 ∨ v = 1 ∨ v = 2 := by omega
                rcases hv' with rfl | rfl | rfl
                · simp (maxSteps := 1000000) (disch := omega) only [h4, L0, L1, L2, L3, L4, L5, L6, L7, L8, L9, L10, L11, L12, L13, L16, L20, L31, L32, L40, L48, L57, L59, L60, L61, L91, L93, L97, L99, L100, L102, L103, L114, L122, L255, L300, L400, L402, L999, L2280, L2500, L99999, L63, L1431655765, L858993459, L252645135, ic_ge, ic_gt, ic_le, ic_lt, ic_eq, ic_ne, if_lt, if_ge, if_gt, if_le, if_eq, if_ne, if_lt_zI, if_ge_zI, ic_ne_m1, ic_eq_m1, ic_nn_m1, ic_ee_m1, if_ne_b2i, if_eq_b2i, b2i_z, decide_eq_true_eq, decide_true, decide_false, Bool.not_eq_true, Bool.not_eq_true', Bool.not_true, Bool.not_false, decide_eq_false_iff_not, Bool.false_eq_true, not_false_eq_true, not_true_eq_false, if_true, if_false, ↓reduceIte, eq_self, Option.bind_some, Bool.true_and, Bool.false_and, Bool.and_true, Bool.and_false, nI_add, nI_subN, nI_clamp, gdF, gdF2, gdP, gdP2, zI_cl, zI_s, Lm1, nI_n0, zI_n0, leF, or_false, false_or, or_self, r1]
                  exact ep_ret ⟨rfl, hRf, RG_s hG⟩
                · simp (maxSteps := 1000000) (disch := omega) only [h4, L0, L1, L2, L3, L4, L5, L6, L7, L8, L9, L10, L11, L12, L13, L16, L20, L31, L32, L40, L48, L57, L59, L60, L61, L91, L93, L97, L99, L100, L102, L103, L114, L122, L255, L300, L400, L402, L999, L2280, L2500, L99999, L63, L1431655765, L858993459, L252645135, ic_ge, ic_gt, ic_le, ic_lt, ic_eq, ic_ne, if_lt, if_ge, if_gt, if_le, if_eq, if_ne, if_lt_zI, if_ge_zI, ic_ne_m1, ic_eq_m1, ic_nn_m1, ic_ee_m1, if_ne_b2i, if_eq_b2i, b2i_z, decide_eq_true_eq, decide_true, decide_false, Bool.not_eq_true, Bool.not_eq_true', Bool.not_true, Bool.not_false, decide_eq_false_iff_not, Bool.false_eq_true, not_false_eq_true, not_true_eq_false, if_true, if_false, ↓reduceIte, eq_self, Option.bind_some, Bool.true_and, Bool.false_and, Bool.and_true, Bool.and_false, nI_add, nI_subN, nI_clamp, gdF, gdF2, gdP, gdP2, zI_cl, zI_s, Lm1, nI_n0, zI_n0, leF, or_false, false_or, or_self, r2, Nat.one_ne_zero]
                  exact ep_ret ⟨rfl, hRf, RG_s hG⟩
                · simp (maxSteps := 1000000) (disch := omega) only [h4, L0, L1, L2, L3, L4, L5, L6, L7, L8, L9, L10, L11, L12, L13, L16, L20, L31, L32, L40, L48, L57, L59, L60, L61, L91, L93, L97, L99, L100, L102, L103, L114, L122, L255, L300, L400, L402, L999, L2280, L2500, L99999, L63, L1431655765, L858993459, L252645135, ic_ge, ic_gt, ic_le, ic_lt, ic_eq, ic_ne, if_lt, if_ge, if_gt, if_le, if_eq, if_ne, if_lt_zI, if_ge_zI, ic_ne_m1, ic_eq_m1, ic_nn_m1, ic_ee_m1, if_ne_b2i, if_eq_b2i, b2i_z, decide_eq_true_eq, decide_true, decide_false, Bool.not_eq_true, Bool.not_eq_true', Bool.not_true, Bool.not_false, decide_eq_false_iff_not, Bool.false_eq_true, not_false_eq_true, not_true_eq_false, if_true, if_false, ↓reduceIte, eq_self, Option.bind_some, Bool.true_and, Bool.false_and, Bool.and_true, Bool.and_false, nI_add, nI_subN, nI_clamp, gdF, gdF2, gdP, gdP2, zI_cl, zI_s, Lm1, nI_n0, zI_n0, leF, or_false, false_or, or_self, r6, show ¬ 2 = 0 by decide, show ¬ 2 = 1 by decide]
                  exact ep_ret ⟨rfl, hRf, RG_s hG⟩
              · refine ep_succ (fun n => F238e0 n ..) ?_
                simp only [F238b0]
                refine ep_bv (f204n ok hS hx) ?_
                simp only [hs, if_eq_b2i, decide_eq_true_eq, decide_true, decide_false, Bool.not_eq_true, Bool.not_eq_true', Bool.not_true, Bool.not_false, decide_eq_false_iff_not, Bool.false_eq_true, not_false_eq_true, not_true_eq_false, if_true, if_false, ↓reduceIte, eq_self, Option.bind_some, Bool.true_and, Bool.false_and, Bool.and_true, Bool.and_false]
                refine ep_bv (f172 S) ?_
                rw [in60]
                simp only [if_eq_b2i, decide_eq_true_eq, decide_true, decide_false, Bool.not_eq_true, Bool.not_eq_true', Bool.not_true, Bool.not_false, decide_eq_false_iff_not, Bool.false_eq_true, not_false_eq_true, not_true_eq_false, if_true, if_false, ↓reduceIte, eq_self, Option.bind_some, Bool.true_and, Bool.false_and, Bool.and_true, Bool.and_false]
                refine ep_bv (f172 S) ?_
                rw [in2]
                simp only [if_ne_b2i, decide_eq_true_eq, decide_true, decide_false, Bool.not_eq_true, Bool.not_eq_true', Bool.not_true, Bool.not_false, decide_eq_false_iff_not, Bool.false_eq_true, not_false_eq_true, not_true_eq_false, if_true, if_false, ↓reduceIte, eq_self, Option.bind_some, Bool.true_and, Bool.false_and, Bool.and_true, Bool.and_false]
                refine ep_bind (keepsAll ok hS) ?_
                rintro ⟨_, S1⟩ ⟨h1, sv⟩
                have h1 : RM A S1 := h1
                refine ep_bind (f242 hm60 (by omega) (DM_of ok h1)) ?_
                rintro ⟨_, S2⟩ h2
                have h2 : DM S1 S2 A.2.2.1.1 (lawA A.2.1.2 A.2.2.1.2.2.2.1) (dysA A.2.2.1.1 (lawA A.2.1.2 A.2.2.1.2.2.2.1) m A.2.2.1.2.1) := h2
                rw [← hw'] at h2
                have lb := laysBack ok h1 sv (FrM_H Hd_rf h2.2.2.2.2.2)
                obtain ⟨r1, r2, r3, r4, r5⟩ := h2.2.2.1.2.2.2.1 s (by rw [hok.2.1]; exact hs)
                have hv' : v = 0 ∨ v = 1 ∨ v = 2 := by omega
                rcases hv' with rfl | rfl | rfl
                · simp (maxSteps := 1000000) (disch := omega) only [L0, L1, L2, L3, L4, L5, L6, L7, L8, L9, L10, L11, L12, L13, L16, L20, L31, L32, L40, L48, L57, L59, L60, L61, L91, L93, L97, L99, L100, L102, L103, L114, L122, L255, L300, L400, L402, L999, L2280, L2500, L99999, L63, L1431655765, L858993459, L252645135, ic_ge, ic_gt, ic_le, ic_lt, ic_eq, ic_ne, if_lt, if_ge, if_gt, if_le, if_eq, if_ne, if_lt_zI, if_ge_zI, ic_ne_m1, ic_eq_m1, ic_nn_m1, ic_ee_m1, if_ne_b2i, if_eq_b2i, b2i_z, decide_eq_true_eq, decide_true, decide_false, Bool.not_eq_true, Bool.not_eq_true', Bool.not_true, Bool.not_false, decide_eq_false_iff_not, Bool.false_eq_true, not_false_eq_true, not_true_eq_false, if_true, if_false, ↓reduceIte, eq_self, Option.bind_some, Bool.true_and, Bool.false_and, Bool.and_true, Bool.and_false, nI_add, nI_subN, nI_clamp, gdF, gdF2, gdP, gdP2, zI_cl, zI_s, Lm1, nI_n0, zI_n0, leF, or_false, false_or, or_self]
                  refine ep_bv (f202 h2.2.2.1 h2.2.2.2.1 (by rw [hok.2.1]; exact hs)) ?_
                  by_cases h0 : w'.1 1 s = 0
                  · simp only [h0, if_eq_b2i, decide_eq_true_eq, decide_true, decide_false, Bool.not_eq_true, Bool.not_eq_true', Bool.not_true, Bool.not_false, decide_eq_false_iff_not, Bool.false_eq_true, not_false_eq_true, not_true_eq_false, if_true, if_false, ↓reduceIte, eq_self, Option.bind_some, Bool.true_and, Bool.false_and, Bool.and_true, Bool.and_false]
                    refine ep_bind lb ?_
                    rintro ⟨_, S3⟩ ⟨h3, _⟩
                    exact ep_ret ⟨rfl, h3⟩
                  · obtain ⟨c, hc⟩ : ∃ c, w'.1 1 s = c + 1 := ⟨w'.1 1 s - 1, by omega⟩
                    have r10 := (r1 h0).1
                    rw [hc, Nat.add_sub_cancel] at r10
                    have hz : ¬ c + 1 = 0 := by omega
                    simp (maxSteps := 1000000) (disch := omega) only [hc, hz, if_eq_b2i, L0, L1, L2, L3, L4, L5, L6, L7, L8, L9, L10, L11, L12, L13, L16, L20, L31, L32, L40, L48, L57, L59, L60, L61, L91, L93, L97, L99, L100, L102, L103, L114, L122, L255, L300, L400, L402, L999, L2280, L2500, L99999, L63, L1431655765, L858993459, L252645135, ic_ge, ic_gt, ic_le, ic_lt, ic_eq, ic_ne, if_lt, if_ge, if_gt, if_le, if_eq, if_ne, if_lt_zI, if_ge_zI, ic_ne_m1, ic_eq_m1, ic_nn_m1, ic_ee_m1, if_ne_b2i, if_eq_b2i, b2i_z, decide_eq_true_eq, decide_true, decide_false, Bool.not_eq_true, Bool.not_eq_true', Bool.not_true, Bool.not_false, decide_eq_false_iff_not, Bool.false_eq_true, not_false_eq_true, not_true_eq_false, if_true, if_false, ↓reduceIte, eq_self, Option.bind_some, Bool.true_and, Bool.false_and, Bool.and_true, Bool.and_false, nI_add, nI_subN, nI_clamp, gdF, gdF2, gdP, gdP2, zI_cl, zI_s, Lm1, nI_n0, zI_n0, leF, or_false, false_or, or_self, r10]
                    refine ep_bind lb ?_
                    rintro ⟨_, S3⟩ ⟨h3, _⟩
                    exact ep_ret ⟨rfl, h3⟩
                · simp (maxSteps := 1000000) (disch := omega) only [L0, L1, L2, L3, L4, L5, L6, L7, L8, L9, L10, L11, L12, L13, L16, L20, L31, L32, L40, L48, L57, L59, L60, L61, L91, L93, L97, L99, L100, L102, L103, L114, L122, L255, L300, L400, L402, L999, L2280, L2500, L99999, L63, L1431655765, L858993459, L252645135, ic_ge, ic_gt, ic_le, ic_lt, ic_eq, ic_ne, if_lt, if_ge, if_gt, if_le, if_eq, if_ne, if_lt_zI, if_ge_zI, ic_ne_m1, ic_eq_m1, ic_nn_m1, ic_ee_m1, if_ne_b2i, if_eq_b2i, b2i_z, decide_eq_true_eq, decide_true, decide_false, Bool.not_eq_true, Bool.not_eq_true', Bool.not_true, Bool.not_false, decide_eq_false_iff_not, Bool.false_eq_true, not_false_eq_true, not_true_eq_false, if_true, if_false, ↓reduceIte, eq_self, Option.bind_some, Bool.true_and, Bool.false_and, Bool.and_true, Bool.and_false, nI_add, nI_subN, nI_clamp, gdF, gdF2, gdP, gdP2, zI_cl, zI_s, Lm1, nI_n0, zI_n0, leF, or_false, false_or, or_self, r2, Nat.one_ne_zero]
                  refine ep_bind lb ?_
                  rintro ⟨_, S3⟩ ⟨h3, _⟩
                  exact ep_ret ⟨rfl, h3⟩
                · simp (maxSteps := 1000000) (disch := omega) only [L0, L1, L2, L3, L4, L5, L6, L7, L8, L9, L10, L11, L12, L13, L16, L20, L31, L32, L40, L48, L57, L59, L60, L61, L91, L93, L97, L99, L100, L102, L103, L114, L122, L255, L300, L400, L402, L999, L2280, L2500, L99999, L63, L1431655765, L858993459, L252645135, ic_ge, ic_gt, ic_le, ic_lt, ic_eq, ic_ne, if_lt, if_ge, if_gt, if_le, if_eq, if_ne, if_lt_zI, if_ge_zI, ic_ne_m1, ic_eq_m1, ic_nn_m1, ic_ee_m1, if_ne_b2i, if_eq_b2i, b2i_z, decide_eq_true_eq, decide_true, decide_false, Bool.not_eq_true, Bool.not_eq_true', Bool.not_true, Bool.not_false, decide_eq_false_iff_not, Bool.false_eq_true, not_false_eq_true, not_true_eq_false, if_true, if_false, ↓reduceIte, eq_self, Option.bind_some, Bool.true_and, Bool.false_and, Bool.and_true, Bool.and_false, nI_add, nI_subN, nI_clamp, gdF, gdF2, gdP, gdP2, zI_cl, zI_s, Lm1, nI_n0, zI_n0, leF, or_false, false_or, or_self, r3, show ¬ 2 = 0 by decide, show ¬ 2 = 1 by decide]
                  refine ep_bind lb ?_
                  rintro ⟨_, S3⟩ ⟨h3, _⟩
                  exact ep_ret ⟨rfl, h3⟩
            · refine noX (fun T G hR => ?_) (fun S hS => ?_)
              · refine ev_succ (fun n => G108e0 n ..) ?_
                simp only [G108b0]
                refine ev_bind (g80n ok hR hx) ?_
                have hg : ¬ 60 < m := by omega
                simp (maxSteps := 1000000) (disch := omega) only [hs, if_eq_b2i, L0, L1, L2, L3, L4, L5, L6, L7, L8, L9, L10, L11, L12, L13, L16, L20, L31, L32, L40, L48, L57, L59, L60, L61, L91, L93, L97, L99, L100, L102, L103, L114, L122, L255, L300, L400, L402, L999, L2280, L2500, L99999, L63, L1431655765, L858993459, L252645135, ic_ge, ic_gt, ic_le, ic_lt, ic_eq, ic_ne, if_lt, if_ge, if_gt, if_le, if_eq, if_ne, if_lt_zI, if_ge_zI, ic_ne_m1, ic_eq_m1, ic_nn_m1, ic_ee_m1, if_ne_b2i, if_eq_b2i, b2i_z, decide_eq_true_eq, decide_true, decide_false, Bool.not_eq_true, Bool.not_eq_true', Bool.not_true, Bool.not_false, decide_eq_false_iff_not, Bool.false_eq_true, not_false_eq_true, not_true_eq_false, if_true, if_false, ↓reduceIte, eq_self, Option.bind_some, Bool.true_and, Bool.false_and, Bool.and_true, Bool.and_false, nI_add, nI_subN, nI_clamp, gdF, gdF2, gdP, gdP2, zI_cl, zI_s, Lm1, nI_n0, zI_n0, leF, or_false, false_or, or_self, hg, hv2]
                exact ev_ret
              · refine ev_succ (fun n => F238e0 n ..) ?_
                simp only [F238b0]
                refine ev_bind (f204n ok hS hx) ?_
                simp only [hs, if_eq_b2i, decide_eq_true_eq, decide_true, decide_false, Bool.not_eq_true, Bool.not_eq_true', Bool.not_true, Bool.not_false, decide_eq_false_iff_not, Bool.false_eq_true, not_false_eq_true, not_true_eq_false, if_true, if_false, ↓reduceIte, eq_self, Option.bind_some, Bool.true_and, Bool.false_and, Bool.and_true, Bool.and_false]
                refine ev_bind (f172 S) ?_
                rw [in60]
                simp only [if_eq_b2i, decide_eq_true_eq, decide_true, decide_false, Bool.not_eq_true, Bool.not_eq_true', Bool.not_true, Bool.not_false, decide_eq_false_iff_not, Bool.false_eq_true, not_false_eq_true, not_true_eq_false, if_true, if_false, ↓reduceIte, eq_self, Option.bind_some, Bool.true_and, Bool.false_and, Bool.and_true, Bool.and_false]
                refine ev_bind (f172 S) ?_
                have in2 : inL (nI v).toInt64 0 2 = false := by
                  have := inK (a := v) (k := 2) hv (by decide)
                  rw [decide_eq_false hv2] at this
                  exact this
                rw [in2]
                simp only [if_ne_b2i, decide_eq_true_eq, decide_true, decide_false, Bool.not_eq_true, Bool.not_eq_true', Bool.not_true, Bool.not_false, decide_eq_false_iff_not, Bool.false_eq_true, not_false_eq_true, not_true_eq_false, if_true, if_false, ↓reduceIte, eq_self, Option.bind_some, Bool.true_and, Bool.false_and, Bool.and_true, Bool.and_false]
                exact ev_ret
          · refine noX (fun T G hR => ?_) (fun S hS => ?_)
            · refine ev_succ (fun n => G108e0 n ..) ?_
              simp only [G108b0]
              refine ev_bind (g80n ok hR hx) ?_
              have hg : ¬ 60 < m := by omega
              simp (maxSteps := 1000000) (disch := omega) only [hs, if_eq_b2i, L0, L1, L2, L3, L4, L5, L6, L7, L8, L9, L10, L11, L12, L13, L16, L20, L31, L32, L40, L48, L57, L59, L60, L61, L91, L93, L97, L99, L100, L102, L103, L114, L122, L255, L300, L400, L402, L999, L2280, L2500, L99999, L63, L1431655765, L858993459, L252645135, ic_ge, ic_gt, ic_le, ic_lt, ic_eq, ic_ne, if_lt, if_ge, if_gt, if_le, if_eq, if_ne, if_lt_zI, if_ge_zI, ic_ne_m1, ic_eq_m1, ic_nn_m1, ic_ee_m1, if_ne_b2i, if_eq_b2i, b2i_z, decide_eq_true_eq, decide_true, decide_false, Bool.not_eq_true, Bool.not_eq_true', Bool.not_true, Bool.not_false, decide_eq_false_iff_not, Bool.false_eq_true, not_false_eq_true, not_true_eq_false, if_true, if_false, ↓reduceIte, eq_self, Option.bind_some, Bool.true_and, Bool.false_and, Bool.and_true, Bool.and_false, nI_add, nI_subN, nI_clamp, gdF, gdF2, gdP, gdP2, zI_cl, zI_s, Lm1, nI_n0, zI_n0, leF, or_false, false_or, or_self, hg, (neg_if hv).1]
              exact ev_ret
            · refine ev_succ (fun n => F238e0 n ..) ?_
              simp only [F238b0]
              refine ev_bind (f204n ok hS hx) ?_
              simp only [hs, if_eq_b2i, decide_eq_true_eq, decide_true, decide_false, Bool.not_eq_true, Bool.not_eq_true', Bool.not_true, Bool.not_false, decide_eq_false_iff_not, Bool.false_eq_true, not_false_eq_true, not_true_eq_false, if_true, if_false, ↓reduceIte, eq_self, Option.bind_some, Bool.true_and, Bool.false_and, Bool.and_true, Bool.and_false]
              refine ev_bind (f172 S) ?_
              rw [in60]
              simp only [if_eq_b2i, decide_eq_true_eq, decide_true, decide_false, Bool.not_eq_true, Bool.not_eq_true', Bool.not_true, Bool.not_false, decide_eq_false_iff_not, Bool.false_eq_true, not_false_eq_true, not_true_eq_false, if_true, if_false, ↓reduceIte, eq_self, Option.bind_some, Bool.true_and, Bool.false_and, Bool.and_true, Bool.and_false]
              refine ev_bind (f172 S) ?_
              rw [inL_neg hv]
              simp only [if_ne_b2i, decide_eq_true_eq, decide_true, decide_false, Bool.not_eq_true, Bool.not_eq_true', Bool.not_true, Bool.not_false, decide_eq_false_iff_not, Bool.false_eq_true, not_false_eq_true, not_true_eq_false, if_true, if_false, ↓reduceIte, eq_self, Option.bind_some, Bool.true_and, Bool.false_and, Bool.and_true, Bool.and_false]
              exact ev_ret
        · refine noX (fun T G hR => ?_) (fun S hS => ?_)
          · refine ev_succ (fun n => G108e0 n ..) ?_
            simp only [G108b0]
            refine ev_bind (g80n ok hR hx) ?_
            have hg : 60 < m := by omega
            simp (maxSteps := 1000000) (disch := omega) only [hs, if_eq_b2i, L0, L1, L2, L3, L4, L5, L6, L7, L8, L9, L10, L11, L12, L13, L16, L20, L31, L32, L40, L48, L57, L59, L60, L61, L91, L93, L97, L99, L100, L102, L103, L114, L122, L255, L300, L400, L402, L999, L2280, L2500, L99999, L63, L1431655765, L858993459, L252645135, ic_ge, ic_gt, ic_le, ic_lt, ic_eq, ic_ne, if_lt, if_ge, if_gt, if_le, if_eq, if_ne, if_lt_zI, if_ge_zI, ic_ne_m1, ic_eq_m1, ic_nn_m1, ic_ee_m1, if_ne_b2i, if_eq_b2i, b2i_z, decide_eq_true_eq, decide_true, decide_false, Bool.not_eq_true, Bool.not_eq_true', Bool.not_true, Bool.not_false, decide_eq_false_iff_not, Bool.false_eq_true, not_false_eq_true, not_true_eq_false, if_true, if_false, ↓reduceIte, eq_self, Option.bind_some, Bool.true_and, Bool.false_and, Bool.and_true, Bool.and_false, nI_add, nI_subN, nI_clamp, gdF, gdF2, gdP, gdP2, zI_cl, zI_s, Lm1, nI_n0, zI_n0, leF, or_false, false_or, or_self, hg]
            exact ev_ret
          · refine ev_succ (fun n => F238e0 n ..) ?_
            simp only [F238b0]
            refine ev_bind (f204n ok hS hx) ?_
            simp only [hs, if_eq_b2i, decide_eq_true_eq, decide_true, decide_false, Bool.not_eq_true, Bool.not_eq_true', Bool.not_true, Bool.not_false, decide_eq_false_iff_not, Bool.false_eq_true, not_false_eq_true, not_true_eq_false, if_true, if_false, ↓reduceIte, eq_self, Option.bind_some, Bool.true_and, Bool.false_and, Bool.and_true, Bool.and_false]
            refine ev_bind (f172 S) ?_
            have in60 : inL (nI m).toInt64 0 60 = false := by
              have := inK (a := m) (k := 60) hm (by decide)
              rw [decide_eq_false hm60] at this
              exact this
            rw [in60]
            simp only [if_eq_b2i, decide_eq_true_eq, decide_true, decide_false, Bool.not_eq_true, Bool.not_eq_true', Bool.not_true, Bool.not_false, decide_eq_false_iff_not, Bool.false_eq_true, not_false_eq_true, not_true_eq_false, if_true, if_false, ↓reduceIte, eq_self, Option.bind_some, Bool.true_and, Bool.false_and, Bool.and_true, Bool.and_false]
            exact ev_ret
      · refine noX (fun T G hR => ?_) (fun S hS => ?_)
        · refine ev_succ (fun n => G108e0 n ..) ?_
          simp only [G108b0]
          refine ev_bind (g80n ok hR hx) ?_
          simp only [hs, if_eq_b2i, (neg_if hm).1, decide_eq_true_eq, decide_true, decide_false, Bool.not_eq_true, Bool.not_eq_true', Bool.not_true, Bool.not_false, decide_eq_false_iff_not, Bool.false_eq_true, not_false_eq_true, not_true_eq_false, if_true, if_false, ↓reduceIte, eq_self, Option.bind_some, Bool.true_and, Bool.false_and, Bool.and_true, Bool.and_false]
          exact ev_ret
        · refine ev_succ (fun n => F238e0 n ..) ?_
          simp only [F238b0]
          refine ev_bind (f204n ok hS hx) ?_
          simp only [hs, if_eq_b2i, decide_eq_true_eq, decide_true, decide_false, Bool.not_eq_true, Bool.not_eq_true', Bool.not_true, Bool.not_false, decide_eq_false_iff_not, Bool.false_eq_true, not_false_eq_true, not_true_eq_false, if_true, if_false, ↓reduceIte, eq_self, Option.bind_some, Bool.true_and, Bool.false_and, Bool.and_true, Bool.and_false]
          refine ev_bind (f172 S) ?_
          rw [inL_neg hm]
          simp only [if_eq_b2i, decide_eq_true_eq, decide_true, decide_false, Bool.not_eq_true, Bool.not_eq_true', Bool.not_true, Bool.not_false, decide_eq_false_iff_not, Bool.false_eq_true, not_false_eq_true, not_true_eq_false, if_true, if_false, ↓reduceIte, eq_self, Option.bind_some, Bool.true_and, Bool.false_and, Bool.and_true, Bool.and_false]
          exact ev_ret
    · refine noX (fun T G hR => ?_) (fun S hS => ?_)
      · refine ev_succ (fun n => G108e0 n ..) ?_
        simp only [G108b0]
        refine ev_bind (g80n ok hR hx) ?_
        simp only [hs, if_eq_b2i, decide_eq_true_eq, decide_true, decide_false, Bool.not_eq_true, Bool.not_eq_true', Bool.not_true, Bool.not_false, decide_eq_false_iff_not, Bool.false_eq_true, not_false_eq_true, not_true_eq_false, if_true, if_false, ↓reduceIte, eq_self, Option.bind_some, Bool.true_and, Bool.false_and, Bool.and_true, Bool.and_false]
        exact ev_ret
      · refine ev_succ (fun n => F238e0 n ..) ?_
        simp only [F238b0]
        refine ev_bind (f204n ok hS hx) ?_
        simp only [hs, if_eq_b2i, decide_eq_true_eq, decide_true, decide_false, Bool.not_eq_true, Bool.not_eq_true', Bool.not_true, Bool.not_false, decide_eq_false_iff_not, Bool.false_eq_true, not_false_eq_true, not_true_eq_false, if_true, if_false, ↓reduceIte, eq_self, Option.bind_some, Bool.true_and, Bool.false_and, Bool.and_true, Bool.and_false]
        exact ev_ret
  · refine noX (fun T G hR => ?_) (fun S hS => ?_)
    · refine ev_succ (fun n => G108e0 n ..) ?_
      simp only [G108b0]
      refine ev_bind (g80m hx) ?_
      simp only [if_eq_b2i, decide_eq_true_eq, decide_true, decide_false, Bool.not_eq_true, Bool.not_eq_true', Bool.not_true, Bool.not_false, decide_eq_false_iff_not, Bool.false_eq_true, not_false_eq_true, not_true_eq_false, if_true, if_false, ↓reduceIte, eq_self, Option.bind_some, Bool.true_and, Bool.false_and, Bool.and_true, Bool.and_false]
      exact ev_ret
    · refine ev_succ (fun n => F238e0 n ..) ?_
      simp only [F238b0]
      refine ev_bind (f204m hx) ?_
      simp only [if_eq_b2i, decide_eq_true_eq, decide_true, decide_false, Bool.not_eq_true, Bool.not_eq_true', Bool.not_true, Bool.not_false, decide_eq_false_iff_not, Bool.false_eq_true, not_false_eq_true, not_true_eq_false, if_true, if_false, ↓reduceIte, eq_self, Option.bind_some, Bool.true_and, Bool.false_and, Bool.and_true, Bool.and_false]
      exact ev_ret
