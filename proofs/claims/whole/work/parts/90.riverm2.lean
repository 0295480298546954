/-! rivers told: a clause in the reference -/
def MF (S00 S : mS) (L i e : Nat) : Prop := MY S S L i e ∧ (∀ q, (q < 16 ∨ 25 < q) → S.2.1 q = S00.2.1 q) ∧ (∀ q, q ≠ 27 → q ≠ 28 → S.1 q = S00.1 q) ∧ S.2.2 = S00.2.2
def RmY (S00 : mS) (L : Nat) (res : Nat × AB × AW × Nat) (S' : mS) : Prop := ∃ p, p ≤ L ∧ MF S00 S' L p res.1 ∧ (res.1 = 0 → p = res.2.2.2 ∧ MV S'.2.1 res.2.1 res.2.2.1)
theorem MY_self {S S0 : mS} {L i e : Nat} (h : MY S S0 L i e) : MY S S L i e := ⟨h.1, h.2.1, h.2.2.1, fun _ _ _ => rfl, rfl⟩
theorem m_sA2 {S S' : mS} {q j : Nat} {x : Int32} (h : S.2 = S'.2) : (m_sA S q j x).2 = (m_sA S' q j x).2 := by
  show (va_up S.2.1 q (upd (S.2.1 q) j x), S.2.2) = (va_up S'.2.1 q (upd (S'.2.1 q) j x), S'.2.2)
  rw [h]
theorem am_bk {f : Nat → Nat} {L i lo hi : Nat} (h : i ≤ L) : amF f L (bk f L i) lo hi = amF f L i lo hi := by
  unfold amF nmF
  rw [bk_id h]
theorem net_fd {r : Nat → Nat → Int32} {w : AW} {q c : Nat} {a : Nat → Nat} (h : MNw r w q a) (hc : c < 16) : (fdx a c q 0 = 0 ↔ w.1 7 c = 0) ∧ fdx a c q 0 ≤ 13 := by
  obtain ⟨a1, a2, a3, a4, a5, a6⟩ := h
  refine ⟨⟨fun h => ?_, fun h => ?_⟩, ?_⟩
  · by_cases e : w.1 7 c = 0
    · exact e
    · obtain ⟨k, hk, ek⟩ := a5 c hc e
      exact absurd ek (fdx_0 q 0 h k (by omega) (by omega))
  · cases hf : fdx a c q 0 with
    | zero => rfl
    | succ k =>
      have h1 := fdx_s q 0 hf
      have h2 := (a4 k (by omega)).2.2.2
      rw [h1.2.2] at h2
      exact absurd h h2
  · have := fdx_le (f := a) (x := c) (m := q) (j := 0)
    omega
section Mc
variable {S00 S : mS} {f : Nat → Nat} {L i e n : Nat} {b : AB} {w : AW}
theorem MF_H (hH : MH S00 f L) (h : MF S00 S L i e) : MH S f L := ⟨fun j hj => by rw [h.2.1 26 (by omega)]; exact hH.1 j hj, hH.2⟩
theorem MF_tp {S' : mS} {i' e' : Nat} (h : MF S00 S L i e) (ht : MY S' S L i' e') : MF S00 S' L i' e' := by
  obtain ⟨_, h2, h3, h4⟩ := h
  refine ⟨MY_self ht, fun q hq => ?_, fun q a b => (ht.2.2.2.1 q a b).trans (h3 q a b), ?_⟩
  · rw [ht.2.2.2.2]
    exact h2 q hq
  · rw [ht.2.2.2.2]
    exact h4
theorem MF_sA {q j : Nat} {x : Int32} (h : MF S00 S L i e) (hq : 16 ≤ q ∧ q ≤ 25) : MF S00 (m_sA S q j x) L i e := by
  obtain ⟨⟨t1, t2, t3, _, _⟩, h2, h3, h4⟩ := h
  exact ⟨⟨t1, t2, t3, fun _ _ _ => rfl, rfl⟩, fun q' hq' => by rw [m_rAn (by omega)]; exact h2 q' hq', h3, h4⟩
theorem f174 (hH : MH S00 f L) (h : MF S00 S L i 0) (hv : S.2.1 16 0 = nI (b 0 0)) (hb0 : b 0 0 ≠ 0) (hb : b 0 0 ≤ 16) (hi : i ≤ L) : Ep (fun n => F174 n S) (fun z => MY z.2 S L (amF f L i 0 (b 0 0)).2.2 (amF f L i 0 (b 0 0)).1 ∧ ((amF f L i 0 (b 0 0)).1 = 0 → z.1 = nI (amF f L i 0 (b 0 0)).2.1)) := by
  refine ep_succ (fun n => F174e0 n ..) ?_
  simp (disch := omega) only [F174b0, L0, L1, L2, L3, L4, L5, L6, L7, L8, L9, L10, L11, L12, L13, L16, L20, L31, L32, L40, L48, L57, L59, L60, L61, L91, L93, L97, L99, L100, L102, L103, L114, L122, L255, L300, L400, L402, L999, L2280, L2500, L99999, L63, L1431655765, L858993459, L252645135, ic_ge, ic_gt, ic_le, ic_lt, ic_eq, ic_ne, if_lt, if_ge, if_gt, if_le, if_eq, if_ne, if_lt_zI, if_ge_zI, ic_ne_m1, ic_eq_m1, ic_nn_m1, ic_ee_m1, if_ne_b2i, if_eq_b2i, b2i_z, decide_eq_true_eq, decide_true, decide_false, Bool.not_eq_true, Bool.not_eq_true', Bool.not_true, Bool.not_false, decide_eq_false_iff_not, Bool.false_eq_true, not_false_eq_true, not_true_eq_false, if_true, if_false, ↓reduceIte, eq_self, Option.bind_some, Bool.true_and, Bool.false_and, Bool.and_true, Bool.and_false, nI_add, nI_subN, nI_clamp, gdF, gdF2, gdP, gdP2, zI_cl, zI_s, Lm1, nI_n0, zI_n0, leF, or_false, false_or, or_self, hv]
  refine ep_bind (f169 (MF_H hH h) (lo := 0) (hi := b 0 0) (by decide) (by omega) hb0 hi h.1) ?_
  rintro ⟨z, S1⟩ hz
  exact ep_ret hz
theorem f174n (hH : MH S00 f L) (h : MF S00 S L i e) (he : e ≠ 0) (he2 : e < 2 ^ 31) (hi : i ≤ L) : Ep (fun n => F174 n S) (fun z => MY z.2 S L (bk f L i) e) := by
  refine ep_succ (fun n => F174e0 n ..) ?_
  simp only [F174b0]
  refine ep_bind (f169n (MF_H hH h) he he2 hi h.1) ?_
  rintro ⟨z, S1⟩ hz
  exact ep_ret hz
/-- what freeCell comes to -/
def frE (f : Nat → Nat) (L i : Nat) (b : AB) (tk : Bool) : Nat := if (amF f L i 0 (b 0 0)).1 ≠ 0 then (amF f L i 0 (b 0 0)).1 else if tk = true then 2 + 8 * bk f L i else 0
theorem frE_b {tk : Bool} (hL : L ≤ 400) (hi : i ≤ L) : frE f L i b tk ≤ 8 * L + 2 := by
  obtain ⟨q1, q2, q3, q4⟩ := am_b (f := f) (lo := 0) (hi := b 0 0) hi
  have hb := bk_b (f := f) hi
  unfold frE
  split
  · omega
  · split
    · omega
    · exact Nat.zero_le _
theorem f175_149 (hH : MH S00 f L) (h : MF S00 S L i 0) (hv : MV S.2.1 b w) (hbo : OkB b) (hb0 : b 0 0 ≠ 0) (hi : i ≤ L) {q : Nat} {a : Nat → Nat} (hm : MNw (rN S.2.1) w q a) : Ep (fun n => F175_149 n (nI (b 0 1)) S) (fun z => MY z.2 S L (amF f L i 0 (b 0 0)).2.2 (frE f L i b (takB b w 4 (amF f L i 0 (b 0 0)).2.1)) ∧ (frE f L i b (takB b w 4 (amF f L i 0 (b 0 0)).2.1) = 0 → z.1 = nI (amF f L i 0 (b 0 0)).2.1)) := by
  have hL := hH.2.1
  have hb := bk_b (f := f) hi
  have hb16 := hbo.1
  obtain ⟨q1, q2, q3, q4⟩ := am_b (f := f) (lo := 0) (hi := b 0 0) hi
  refine ep_succ (fun n => F175_149e0 n ..) ?_
  simp only [F175_149b0]
  refine ep_bind (f161 (MF_H hH h) hi h.1) ?_
  rintro ⟨_, S1⟩ a1
  have a1 : MY S1 S L (bk f L i) 0 := a1
  have mf1 := MF_tp h a1
  have a27 : S1.1 27 = nI (bk f L i) := a1.2.1
  have hv1 : S1.2.1 16 0 = nI (b 0 0) := by rw [a1.2.2.2.2]; exact hv.1.1
  refine ep_bind (f174 hH mf1 hv1 hb0 hb16 hb.2.1) ?_
  rw [am_bk hi]
  rintro ⟨z2, S2⟩ ⟨a2, a3⟩
  have a2 : MY S2 S1 L (amF f L i 0 (b 0 0)).2.2 (amF f L i 0 (b 0 0)).1 := a2
  have my2 : MY S2 S L (amF f L i 0 (b 0 0)).2.2 (amF f L i 0 (b 0 0)).1 := ⟨a2.1, a2.2.1, a2.2.2.1, fun q x y => (a2.2.2.2.1 q x y).trans (a1.2.2.2.1 q x y), a2.2.2.2.2.trans a1.2.2.2.2⟩
  have a28 : S2.1 28 = nI (amF f L i 0 (b 0 0)).1 := a2.2.2.1
  unfold frE
  by_cases h0 : (amF f L i 0 (b 0 0)).1 = 0
  · have a3 : z2 = nI (amF f L i 0 (b 0 0)).2.1 := a3 h0
    subst a3
    rw [if_neg (fun z => z h0)]
    rw [h0] at a28
    have my2' : MY S2 S L (amF f L i 0 (b 0 0)).2.2 0 := by
      have := my2
      rw [h0] at this
      exact this
    have hc := (q4 h0).2
    have e1 : am_if .ne (S2.1 28) = false := by rw [a28]; decide
    simp only [e1, Bool.false_eq_true, if_false, a27]
    obtain ⟨h0', h1', h2', h3', h4', ⟨ma, m1, m2⟩, ⟨da, d1, d2⟩⟩ := hv.1
    have hb4 := hbo.2.2.2.1 (amF f L i 0 (b 0 0)).2.1 hc
    have hb2 := hbo.2.1
    have hb3 := hbo.2.2.1
    have gs := f176_149 (S := S2) (f := ma) (N := (b 0 1)) (c := (amF f L i 0 (b 0 0)).2.1) (by omega) (by omega) (fun k hk => ⟨by have := (m1 k hk).1; omega, by rw [my2.2.2.2.2]; exact (m1 k hk).2.1⟩)
    rw [mill_in (r := S.2.1) (b := b) (g := b 3) (fun k hk => (m1 k hk).2.2) (m2 _ hc) hb4.2.2.1] at gs
    refine ep_bv gs ?_
    have et : takB b w 4 (amF f L i 0 (b 0 0)).2.1 = !decide (b 3 (amF f L i 0 (b 0 0)).2.1 = 0) := rfl
    rw [et]
    by_cases ht : b 3 (amF f L i 0 (b 0 0)).2.1 = 0
    · rw [decide_eq_true ht]
      have e2 : am_ic .eq (zI (b 3 (amF f L i 0 (b 0 0)).2.1)) (-1) = true := by
        have := ic_eq_m1 (k := (b 3 (amF f L i 0 (b 0 0)).2.1)) (by omega)
        rw [decide_eq_true ht] at this
        exact this
      simp only [e2, if_true]
      exact ep_ret ⟨my2', fun _ => rfl⟩
    · rw [decide_eq_false ht]
      have e2 : am_ic .eq (zI (b 3 (amF f L i 0 (b 0 0)).2.1)) (-1) = false := by
        have := ic_eq_m1 (k := (b 3 (amF f L i 0 (b 0 0)).2.1)) (by omega)
        rw [decide_eq_false ht] at this
        exact this
      simp only [e2, Bool.false_eq_true, if_false]
      have l1 : (1 : Int32) = nI 1 := rfl
      rw [l1]
      refine ep_bind (f165 my2') ?_
      rintro ⟨_, S3⟩ a4
      have a4 : MY S3 S L (amF f L i 0 (b 0 0)).2.2 (1 + 8 * bk f L i + 1) := a4
      refine ep_ret ⟨?_, fun z => absurd z (show ¬ 2 + 8 * bk f L i = 0 by omega)⟩
      show MY S3 S L (amF f L i 0 (b 0 0)).2.2 (2 + 8 * bk f L i)
      rw [show 2 + 8 * bk f L i = 1 + 8 * bk f L i + 1 by omega]
      exact a4
  · rw [if_pos h0]
    have e1 : am_if .ne (S2.1 28) = true := by
      rw [a28, if_ne (by omega), decide_eq_false h0]
      rfl
    simp only [e1, if_true]
    exact ep_ret ⟨my2, fun z => absurd z h0⟩
theorem f175_151 (hH : MH S00 f L) (h : MF S00 S L i 0) (hv : MV S.2.1 b w) (hbo : OkB b) (hb0 : b 0 0 ≠ 0) (hi : i ≤ L) {q : Nat} {a : Nat → Nat} (hm : MNw (rN S.2.1) w q a) : Ep (fun n => F175_151 n (nI (b 0 2)) S) (fun z => MY z.2 S L (amF f L i 0 (b 0 0)).2.2 (frE f L i b (takB b w 5 (amF f L i 0 (b 0 0)).2.1)) ∧ (frE f L i b (takB b w 5 (amF f L i 0 (b 0 0)).2.1) = 0 → z.1 = nI (amF f L i 0 (b 0 0)).2.1)) := by
  have hL := hH.2.1
  have hb := bk_b (f := f) hi
  have hb16 := hbo.1
  obtain ⟨q1, q2, q3, q4⟩ := am_b (f := f) (lo := 0) (hi := b 0 0) hi
  refine ep_succ (fun n => F175_151e0 n ..) ?_
  simp only [F175_151b0]
  refine ep_bind (f161 (MF_H hH h) hi h.1) ?_
  rintro ⟨_, S1⟩ a1
  have a1 : MY S1 S L (bk f L i) 0 := a1
  have mf1 := MF_tp h a1
  have a27 : S1.1 27 = nI (bk f L i) := a1.2.1
  have hv1 : S1.2.1 16 0 = nI (b 0 0) := by rw [a1.2.2.2.2]; exact hv.1.1
  refine ep_bind (f174 hH mf1 hv1 hb0 hb16 hb.2.1) ?_
  rw [am_bk hi]
  rintro ⟨z2, S2⟩ ⟨a2, a3⟩
  have a2 : MY S2 S1 L (amF f L i 0 (b 0 0)).2.2 (amF f L i 0 (b 0 0)).1 := a2
  have my2 : MY S2 S L (amF f L i 0 (b 0 0)).2.2 (amF f L i 0 (b 0 0)).1 := ⟨a2.1, a2.2.1, a2.2.2.1, fun q x y => (a2.2.2.2.1 q x y).trans (a1.2.2.2.1 q x y), a2.2.2.2.2.trans a1.2.2.2.2⟩
  have a28 : S2.1 28 = nI (amF f L i 0 (b 0 0)).1 := a2.2.2.1
  unfold frE
  by_cases h0 : (amF f L i 0 (b 0 0)).1 = 0
  · have a3 : z2 = nI (amF f L i 0 (b 0 0)).2.1 := a3 h0
    subst a3
    rw [if_neg (fun z => z h0)]
    rw [h0] at a28
    have my2' : MY S2 S L (amF f L i 0 (b 0 0)).2.2 0 := by
      have := my2
      rw [h0] at this
      exact this
    have hc := (q4 h0).2
    have e1 : am_if .ne (S2.1 28) = false := by rw [a28]; decide
    simp only [e1, Bool.false_eq_true, if_false, a27]
    obtain ⟨h0', h1', h2', h3', h4', ⟨ma, m1, m2⟩, ⟨da, d1, d2⟩⟩ := hv.1
    have hb4 := hbo.2.2.2.1 (amF f L i 0 (b 0 0)).2.1 hc
    have hb2 := hbo.2.1
    have hb3 := hbo.2.2.1
    have gs := f176_151 (S := S2) (f := da) (N := (b 0 2)) (c := (amF f L i 0 (b 0 0)).2.1) (by omega) (by omega) (fun k hk => ⟨by have := (d1 k hk).1; omega, by rw [my2.2.2.2.2]; exact (d1 k hk).2.1⟩)
    rw [mill_in (r := S.2.1) (b := b) (g := b 4) (fun k hk => (d1 k hk).2.2) (d2 _ hc) hb4.2.2.2] at gs
    refine ep_bv gs ?_
    have et : takB b w 5 (amF f L i 0 (b 0 0)).2.1 = !decide (b 4 (amF f L i 0 (b 0 0)).2.1 = 0) := rfl
    rw [et]
    by_cases ht : b 4 (amF f L i 0 (b 0 0)).2.1 = 0
    · rw [decide_eq_true ht]
      have e2 : am_ic .eq (zI (b 4 (amF f L i 0 (b 0 0)).2.1)) (-1) = true := by
        have := ic_eq_m1 (k := (b 4 (amF f L i 0 (b 0 0)).2.1)) (by omega)
        rw [decide_eq_true ht] at this
        exact this
      simp only [e2, if_true]
      exact ep_ret ⟨my2', fun _ => rfl⟩
    · rw [decide_eq_false ht]
      have e2 : am_ic .eq (zI (b 4 (amF f L i 0 (b 0 0)).2.1)) (-1) = false := by
        have := ic_eq_m1 (k := (b 4 (amF f L i 0 (b 0 0)).2.1)) (by omega)
        rw [decide_eq_false ht] at this
        exact this
      simp only [e2, Bool.false_eq_true, if_false]
      have l1 : (1 : Int32) = nI 1 := rfl
      rw [l1]
      refine ep_bind (f165 my2') ?_
      rintro ⟨_, S3⟩ a4
      have a4 : MY S3 S L (amF f L i 0 (b 0 0)).2.2 (1 + 8 * bk f L i + 1) := a4
      refine ep_ret ⟨?_, fun z => absurd z (show ¬ 2 + 8 * bk f L i = 0 by omega)⟩
      show MY S3 S L (amF f L i 0 (b 0 0)).2.2 (2 + 8 * bk f L i)
      rw [show 2 + 8 * bk f L i = 1 + 8 * bk f L i + 1 by omega]
      exact a4
  · rw [if_pos h0]
    have e1 : am_if .ne (S2.1 28) = true := by
      rw [a28, if_ne (by omega), decide_eq_false h0]
      rfl
    simp only [e1, if_true]
    exact ep_ret ⟨my2, fun z => absurd z h0⟩
theorem f175_152 (hH : MH S00 f L) (h : MF S00 S L i 0) (hv : MV S.2.1 b w) (hbo : OkB b) (hb0 : b 0 0 ≠ 0) (hi : i ≤ L) {q : Nat} {a : Nat → Nat} (hm : MNw (rN S.2.1) w q a) : Ep (fun n => F175_152 n (nI q) S) (fun z => MY z.2 S L (amF f L i 0 (b 0 0)).2.2 (frE f L i b (takB b w 6 (amF f L i 0 (b 0 0)).2.1)) ∧ (frE f L i b (takB b w 6 (amF f L i 0 (b 0 0)).2.1) = 0 → z.1 = nI (amF f L i 0 (b 0 0)).2.1)) := by
  have hL := hH.2.1
  have hb := bk_b (f := f) hi
  have hb16 := hbo.1
  obtain ⟨q1, q2, q3, q4⟩ := am_b (f := f) (lo := 0) (hi := b 0 0) hi
  refine ep_succ (fun n => F175_152e0 n ..) ?_
  simp only [F175_152b0]
  refine ep_bind (f161 (MF_H hH h) hi h.1) ?_
  rintro ⟨_, S1⟩ a1
  have a1 : MY S1 S L (bk f L i) 0 := a1
  have mf1 := MF_tp h a1
  have a27 : S1.1 27 = nI (bk f L i) := a1.2.1
  have hv1 : S1.2.1 16 0 = nI (b 0 0) := by rw [a1.2.2.2.2]; exact hv.1.1
  refine ep_bind (f174 hH mf1 hv1 hb0 hb16 hb.2.1) ?_
  rw [am_bk hi]
  rintro ⟨z2, S2⟩ ⟨a2, a3⟩
  have a2 : MY S2 S1 L (amF f L i 0 (b 0 0)).2.2 (amF f L i 0 (b 0 0)).1 := a2
  have my2 : MY S2 S L (amF f L i 0 (b 0 0)).2.2 (amF f L i 0 (b 0 0)).1 := ⟨a2.1, a2.2.1, a2.2.2.1, fun q x y => (a2.2.2.2.1 q x y).trans (a1.2.2.2.1 q x y), a2.2.2.2.2.trans a1.2.2.2.2⟩
  have a28 : S2.1 28 = nI (amF f L i 0 (b 0 0)).1 := a2.2.2.1
  unfold frE
  by_cases h0 : (amF f L i 0 (b 0 0)).1 = 0
  · have a3 : z2 = nI (amF f L i 0 (b 0 0)).2.1 := a3 h0
    subst a3
    rw [if_neg (fun z => z h0)]
    rw [h0] at a28
    have my2' : MY S2 S L (amF f L i 0 (b 0 0)).2.2 0 := by
      have := my2
      rw [h0] at this
      exact this
    have hc := (q4 h0).2
    have e1 : am_if .ne (S2.1 28) = false := by rw [a28]; decide
    simp only [e1, Bool.false_eq_true, if_false, a27]
    have gs := f176_152 (S := S2) (f := a) (N := q) (c := (amF f L i 0 (b 0 0)).2.1) (by have := hm.1; omega) (by omega) (fun k hk => ⟨by have := (hm.2.2.2.1 k hk).1; omega, by rw [my2.2.2.2.2]; exact (hm.2.2.2.1 k hk).2.1⟩)
    obtain ⟨nf1, nf2⟩ := net_fd (c := (amF f L i 0 (b 0 0)).2.1) hm (by omega)
    refine ep_bv gs ?_
    have et : takB b w 6 (amF f L i 0 (b 0 0)).2.1 = !decide (w.1 7 (amF f L i 0 (b 0 0)).2.1 = 0) := rfl
    rw [et]
    by_cases ht : w.1 7 (amF f L i 0 (b 0 0)).2.1 = 0
    · rw [decide_eq_true ht]
      have e2 : am_ic .eq (zI (fdx a (amF f L i 0 (b 0 0)).2.1 q 0)) (-1) = true := by
        have := ic_eq_m1 (k := (fdx a (amF f L i 0 (b 0 0)).2.1 q 0)) (by omega)
        rw [decide_eq_true (nf1.mpr ht)] at this
        exact this
      simp only [e2, if_true]
      exact ep_ret ⟨my2', fun _ => rfl⟩
    · rw [decide_eq_false ht]
      have e2 : am_ic .eq (zI (fdx a (amF f L i 0 (b 0 0)).2.1 q 0)) (-1) = false := by
        have := ic_eq_m1 (k := (fdx a (amF f L i 0 (b 0 0)).2.1 q 0)) (by omega)
        rw [decide_eq_false (fun z => ht (nf1.mp z))] at this
        exact this
      simp only [e2, Bool.false_eq_true, if_false]
      have l1 : (1 : Int32) = nI 1 := rfl
      rw [l1]
      refine ep_bind (f165 my2') ?_
      rintro ⟨_, S3⟩ a4
      have a4 : MY S3 S L (amF f L i 0 (b 0 0)).2.2 (1 + 8 * bk f L i + 1) := a4
      refine ep_ret ⟨?_, fun z => absurd z (show ¬ 2 + 8 * bk f L i = 0 by omega)⟩
      show MY S3 S L (amF f L i 0 (b 0 0)).2.2 (2 + 8 * bk f L i)
      rw [show 2 + 8 * bk f L i = 1 + 8 * bk f L i + 1 by omega]
      exact a4
  · rw [if_pos h0]
    have e1 : am_if .ne (S2.1 28) = true := by
      rw [a28, if_ne (by omega), decide_eq_false h0]
      rfl
    simp only [e1, if_true]
    exact ep_ret ⟨my2, fun z => absurd z h0⟩
end Mc
