/-! tear -/
theorem digN_q {t : Nat} (h : digN t = true) : digN (t / 10) = true := by
  by_cases h0 : t = 0
  · rw [h0]
    exact digN_0
  · rw [digN_s' h0, Bool.and_eq_true] at h
    exact h.2
theorem lenN_q {t : Nat} : lenN (t / 10) = lenN t - 1 := by
  by_cases h0 : t = 0
  · rw [h0]
    show lenN 0 = lenN 0 - 1
    rw [lenN_0]
  · rw [lenN_s h0, Nat.add_sub_cancel]
theorem dl_div : ∀ (m t : Nat), digN t = true → digN (t / 10 ^ m) = true ∧ lenN (t / 10 ^ m) = lenN t - m
  | 0, t, h => by
    rw [Nat.pow_zero, Nat.div_one]
    exact ⟨h, rfl⟩
  | m + 1, t, h => by
    have ih := dl_div m (t / 10) (digN_q h)
    rw [Nat.pow_succ, Nat.mul_comm, ← Nat.div_div_eq_div_mul]
    refine ⟨ih.1, ?_⟩
    rw [ih.2, lenN_q]
    omega
theorem dl_mod : ∀ (m t : Nat), digN t = true → m ≤ lenN t → digN (t % 10 ^ m) = true ∧ lenN (t % 10 ^ m) = m
  | 0, t, h, hm => by
    rw [Nat.pow_zero, Nat.mod_one]
    exact ⟨digN_0, lenN_0⟩
  | m + 1, t, h, hm => by
    have h0 : t ≠ 0 := fun e => by rw [e, lenN_0] at hm; omega
    have ih := dl_mod m (t / 10) (digN_q h) (by rw [lenN_q]; omega)
    rw [Nat.pow_succ, Nat.mul_comm, Nat.mod_mul]
    rw [digN_s' h0, Bool.and_eq_true, decide_eq_true_eq] at h
    generalize t / 10 % 10 ^ m = r at *
    have hv : t % 10 + 10 * r ≠ 0 := by omega
    rw [digN_s' hv, lenN_s hv, show (t % 10 + 10 * r) / 10 = r by omega, show (t % 10 + 10 * r) % 10 = t % 10 by omega, ih.1, ih.2, decide_eq_true h.1]
    exact ⟨rfl, rfl⟩
theorem tx_div {t m : Nat} (h : isTx t = true) (hm : m < lenN t) : isTx (t / 10 ^ m) = true := by
  have h' := isTx_iff.mp h
  have d := dl_div m t h'.2.2
  refine isTx_iff.mpr ⟨?_, by rw [d.2]; omega, d.1⟩
  by_cases e : t / 10 ^ m = 0
  · have := d.2
    rw [e, lenN_0] at this
    omega
  · exact Nat.pos_of_ne_zero e
theorem tx_mod {t m : Nat} (h : isTx t = true) (h1 : 1 ≤ m) (hm : m ≤ lenN t) : isTx (t % 10 ^ m) = true := by
  have h' := isTx_iff.mp h
  have d := dl_mod m t h'.2.2 hm
  refine isTx_iff.mpr ⟨?_, by rw [d.2]; omega, d.1⟩
  by_cases e : t % 10 ^ m = 0
  · have := d.2
    rw [e, lenN_0] at this
    omega
  · exact Nat.pos_of_ne_zero e
theorem nI_rm {a d : Nat} (ha : a < 2 ^ 31) (h0 : 0 < d) (hd : d < 2 ^ 31) : nI a - nI (a / d) * nI d = nI (a % d) := by
  rw [← pk_div ha h0 hd]
  exact pk_rem ha h0 hd
def halfN (t : Nat) : Nat := lenN t - lenN t / 2
def tearA (w : AW) (s : Nat) : AW := addA (aS w 2 s (w.1 2 s / 10 ^ halfN (w.1 2 s))) (w.1 1 s - 1) (w.1 2 s % 10 ^ halfN (w.1 2 s)) (w.1 3 s)
theorem txt_Ok {b : AB} {w : AW} {s t : Nat} (ok : OkW b w) (ht : isTx t = true) : OkW b (aS w 2 s t) := by
  have hk : Kp b w (aS w 2 s t) ∨ True := Or.inr trivial
  refine ⟨ok.1, fun s' hs' => ?_, fun i hi => by rw [aS_n (by omega)]; exact ok.2.2.1 i hi, fun i hi h2 => by rw [aS_n (by omega)]; exact ok.2.2.2 i hi h2⟩
  have hs' : s' < w.1 0 1 := hs'
  have o := ok.2.1 s' hs'
  by_cases e : s' = s
  · subst e
    unfold OkS
    simp (disch := omega) only [aS_e, aS_n]
    exact ⟨ht, o.2⟩
  · refine OkS_of o (fun r _ _ => ?_)
    simp only [aS_r, e, and_false, if_false]
theorem sm_tear {k : Nat} {a : Int32} (A : AA) (ok : OkA k A) : ∃ r A', OkA (k + 1) A' ∧ CallX k (fun n => G103 n a) A r A' ∧ CallM (fun n => F233 n a) A r A' := by
  have ok1 := OkA_s ok
  have hb := OkA_b ok
  have kw := OkA_w ok
  have hD := ok.2.2.2.1.2.2.1 A.2.2.1.2.1 (Or.inl rfl)
  have hn := hD.2.1
  have no1 : ∀ T G, RC A T G → Ev (fun n => G80 n a T) (b2i false, T) → RG k G → Ep (fun n => G103 n a (T, G)) (fun z => z.1 = zI 0 ∧ RC A z.2.1 z.2.2 ∧ RG (k + 1) z.2.2) := by
    intro T G hc h1 hG
    refine ep_succ (fun n => G103e0 n ..) ?_
    simp only [G103b0]
    refine ep_bv h1 ?_
    simp only [if_eq_b2i, decide_eq_true_eq, decide_true, decide_false, Bool.not_eq_true, Bool.not_eq_true', Bool.not_true, Bool.not_false, decide_eq_false_iff_not, Bool.false_eq_true, not_false_eq_true, not_true_eq_false, if_true, if_false, ↓reduceIte, eq_self, Option.bind_some, Bool.true_and, Bool.false_and, Bool.and_true, Bool.and_false]
    exact ep_ret ⟨rfl, hc, RG_s hG⟩
  have no2 : ∀ S, Ev (fun n => F204 n a S) (b2i false, S) → Ev (fun n => F233 n a S) (zI 0, S) := by
    intro S h1
    refine ev_succ (fun n => F233e0 n ..) ?_
    simp only [F233b0]
    refine ev_bind h1 ?_
    simp only [if_eq_b2i, decide_eq_true_eq, decide_true, decide_false, Bool.not_eq_true, Bool.not_eq_true', Bool.not_true, Bool.not_false, decide_eq_false_iff_not, Bool.false_eq_true, not_false_eq_true, not_true_eq_false, if_true, if_false, ↓reduceIte, eq_self, Option.bind_some, Bool.true_and, Bool.false_and, Bool.and_true, Bool.and_false]
    exact ev_ret
  rcases i32_cases a with ⟨s, hx, rfl⟩ | hx
  · by_cases hs : s < A.2.2.1.2.1.1 0 1
    · have o := kw.2.1 s hs
      have h16 := OkW_16 hb kw s hs
      have hl := isTx_len o.1
      have ht := isTx_lt o.1
      by_cases hgo : A.2.2.1.2.1.1 1 s ≠ 0 ∧ 2 ≤ lenN (A.2.2.1.2.1.1 2 s) ∧ A.2.2.1.2.1.1 0 1 < 12
      · obtain ⟨g1, g2, g3⟩ := hgo
        obtain ⟨c, hc⟩ : ∃ c, A.2.2.1.2.1.1 1 s = c + 1 := ⟨A.2.2.1.2.1.1 1 s - 1, by omega⟩
        have hcc : c < A.2.2.1.1 0 0 := by have := o.2.2.2.1; omega
        have h9 := o.2.2.2.2.1
        obtain ⟨m, hm⟩ : ∃ m, m = halfN (A.2.2.1.2.1.1 2 s) := ⟨_, rfl⟩
        have hm1 : 1 ≤ m ∧ m < lenN (A.2.2.1.2.1.1 2 s) ∧ m ≤ 4 := by
          rw [hm]
          unfold halfN
          omega
        have hm' : lenN (A.2.2.1.2.1.1 2 s) - lenN (A.2.2.1.2.1.1 2 s) / 2 = m := hm.symm
        have hp := p10_le (k := m) (by omega)
        have hp0 := p10_pos m
        have td := tx_div o.1 hm1.2.1
        have tm := tx_mod o.1 hm1.1 (by omega)
        have hp00 : ¬ 10 ^ m = 0 := by omega
        have hte : tearA A.2.2.1.2.1 s = addA (aS A.2.2.1.2.1 2 s (A.2.2.1.2.1.1 2 s / 10 ^ m)) c (A.2.2.1.2.1.1 2 s % 10 ^ m) (A.2.2.1.2.1.1 3 s) := by
          unfold tearA
          rw [← hm, hc, Nat.add_sub_cancel]
        have hdlt : A.2.2.1.2.1.1 2 s / 10 ^ m ≤ A.2.2.1.2.1.1 2 s := Nat.div_le_self _ _
        refine ⟨nI (A.2.2.1.2.1.1 0 1), wA (kA A) (tearA A.2.2.1.2.1 s), OkA_wk ok ?_, ?_, ?_⟩
        · rw [hte]
          refine ⟨addA_Ok (txt_Ok kw td) hn tm hcc h9, ?_, ?_, fun i hi => ?_, ?_⟩
          · rw [addA_n]
            show A.2.2.1.2.1.1 0 1 + 1 ≤ 12
            omega
          · rw [addA_d]
            show A.2.2.1.2.1.1 0 0 ≤ _
            have := hD.2.2.1
            omega
          · rw [addA_r (by omega), addA_d]
            exact hD.2.2.2.1 i hi
          · rw [ctF_eq (P := fun x => !decide ((addA (aS A.2.2.1.2.1 2 s (A.2.2.1.2.1.1 2 s / 10 ^ m)) c (A.2.2.1.2.1.1 2 s % 10 ^ m) (A.2.2.1.2.1.1 3 s)).1 7 x = 0)) (Q := fun x => !decide (A.2.2.1.2.1.1 7 x = 0)) _ _ (fun i _ _ => by rw [addA_r (by omega), aS_n (by omega)])]
            exact hD.2.2.2.2
        · intro T G hR hG
          obtain ⟨r1, r2, r3, r4, r5, r6, r7, r8⟩ := (CD_w hR).2.2.2.1 s hs
          have h1 : T.1 95 1 = nI (A.2.2.1.2.1.1 0 1) := (CD_w hR).2.1
          have r1' : T.2.1 96 s = zI (A.2.2.1.2.1.1 1 s) := r1
          have r3' : T.2.1 98 s = nI (lenN (A.2.2.1.2.1.1 2 s)) := r3
          have hz : ¬ c + 1 = 0 := by omega
          have hl2 : ¬ lenN (A.2.2.1.2.1.1 2 s) < 2 := by omega
          refine ep_succ (fun n => G103e0 n ..) ?_
          simp only [G103b0]
          refine ep_bv (g80n ok hR hx) ?_
          simp (maxSteps := 1000000) (disch := omega) only [hs, if_eq_b2i, L0, L1, L2, L3, L4, L5, L6, L7, L8, L9, L10, L11, L12, L13, L16, L20, L31, L32, L40, L48, L57, L59, L60, L61, L91, L93, L97, L99, L100, L102, L103, L114, L122, L255, L300, L400, L402, L999, L2280, L2500, L99999, L63, L1431655765, L858993459, L252645135, ic_ge, ic_gt, ic_le, ic_lt, ic_eq, ic_ne, if_lt, if_ge, if_gt, if_le, if_eq, if_ne, if_lt_zI, if_ge_zI, ic_ne_m1, ic_eq_m1, ic_nn_m1, ic_ee_m1, if_ne_b2i, if_eq_b2i, b2i_z, decide_eq_true_eq, decide_true, decide_false, Bool.not_eq_true, Bool.not_eq_true', Bool.not_true, Bool.not_false, decide_eq_false_iff_not, Bool.false_eq_true, not_false_eq_true, not_true_eq_false, if_true, if_false, ↓reduceIte, eq_self, Option.bind_some, Bool.true_and, Bool.false_and, Bool.and_true, Bool.and_false, nI_add, nI_subN, nI_clamp, gdF, gdF2, gdP, gdP2, zI_cl, zI_s, Lm1, nI_n0, zI_n0, leF, or_false, false_or, or_self, r1', hc, r3', hl2, h1, g3]
          refine ep_bind (keepX ok hR) ?_
          rintro ⟨_, T1, G1⟩ ⟨hc1, hg1, hg2⟩
          have hc1 : RC (kA A) T1 G1 := hc1
          have cw1 : CW T1 95 A.2.2.1.2.1 := CD_w (A := kA A) hc1
          obtain ⟨s1, s2, s3, s4, s5, s6, s7, s8⟩ := cw1.2.2.2.1 s hs
          have s1' : T1.2.1 96 s = nI c := by
            have : T1.2.1 96 s = zI (A.2.2.1.2.1.1 1 s) := s1
            rw [this, hc, zI_s]
          have s2' : T1.2.1 97 s = nI (A.2.2.1.2.1.1 2 s) := s2
          have s3' : T1.2.1 98 s = nI (lenN (A.2.2.1.2.1.1 2 s)) := s3
          simp (maxSteps := 1000000) (disch := omega) only [L0, L1, L2, L3, L4, L5, L6, L7, L8, L9, L10, L11, L12, L13, L16, L20, L31, L32, L40, L48, L57, L59, L60, L61, L91, L93, L97, L99, L100, L102, L103, L114, L122, L255, L300, L400, L402, L999, L2280, L2500, L99999, L63, L1431655765, L858993459, L252645135, ic_ge, ic_gt, ic_le, ic_lt, ic_eq, ic_ne, if_lt, if_ge, if_gt, if_le, if_eq, if_ne, if_lt_zI, if_ge_zI, ic_ne_m1, ic_eq_m1, ic_nn_m1, ic_ee_m1, if_ne_b2i, if_eq_b2i, b2i_z, decide_eq_true_eq, decide_true, decide_false, Bool.not_eq_true, Bool.not_eq_true', Bool.not_true, Bool.not_false, decide_eq_false_iff_not, Bool.false_eq_true, not_false_eq_true, not_true_eq_false, if_true, if_false, ↓reduceIte, eq_self, Option.bind_some, Bool.true_and, Bool.false_and, Bool.and_true, Bool.and_false, nI_add, nI_subN, nI_clamp, gdF, gdF2, gdP, gdP2, zI_cl, zI_s, Lm1, nI_n0, zI_n0, leF, or_false, false_or, or_self, s1', s2', s3', nI_divN, hm', tens_n, nI_eqP, hp00, nI_rm]
          refine ep_bind (g50 cw1 (by omega) tm) ?_
          rintro ⟨z1, T2⟩ ⟨e1, e2, e3⟩
          have e1 : z1 = nI (A.2.2.1.2.1.1 0 1) := e1
          have e2 : CW T2 95 (addA A.2.2.1.2.1 c (A.2.2.1.2.1.1 2 s % 10 ^ m) 0) := e2
          have e3 : FrW 95 T1 T2 := e3
          subst e1
          have sn : s ≠ A.2.2.1.2.1.1 0 1 := by omega
          obtain ⟨_, _, _, _, t5, _⟩ := e2.2.2.2.1 s (by rw [addA_n]; omega)
          rw [addA_o (by omega) sn] at t5
          have t5' : T2.2.1 100 s = nI (A.2.2.1.2.1.1 3 s) := t5
          simp (maxSteps := 1000000) (disch := omega) only [L0, L1, L2, L3, L4, L5, L6, L7, L8, L9, L10, L11, L12, L13, L16, L20, L31, L32, L40, L48, L57, L59, L60, L61, L91, L93, L97, L99, L100, L102, L103, L114, L122, L255, L300, L400, L402, L999, L2280, L2500, L99999, L63, L1431655765, L858993459, L252645135, ic_ge, ic_gt, ic_le, ic_lt, ic_eq, ic_ne, if_lt, if_ge, if_gt, if_le, if_eq, if_ne, if_lt_zI, if_ge_zI, ic_ne_m1, ic_eq_m1, ic_nn_m1, ic_ee_m1, if_ne_b2i, if_eq_b2i, b2i_z, decide_eq_true_eq, decide_true, decide_false, Bool.not_eq_true, Bool.not_eq_true', Bool.not_true, Bool.not_false, decide_eq_false_iff_not, Bool.false_eq_true, not_false_eq_true, not_true_eq_false, if_true, if_false, ↓reduceIte, eq_self, Option.bind_some, Bool.true_and, Bool.false_and, Bool.and_true, Bool.and_false, nI_add, nI_subN, nI_clamp, gdF, gdF2, gdP, gdP2, zI_cl, zI_s, Lm1, nI_n0, zI_n0, leF, or_false, false_or, or_self, t5']
          refine ep_bind (g51 (p := 95) (by omega) td) ?_
          rintro ⟨_, T3⟩ ⟨u1, u2, u3, u4, u5, u6⟩
          have u4 : ∀ q j, ¬ ((q = 95 + 2 ∨ q = 95 + 3 ∨ q = 95 + 4) ∧ j = s) → T3.2.1 q j = (x_sA T2 100 (A.2.2.1.2.1.1 0 1) (nI (A.2.2.1.2.1.1 3 s))).2.1 q j := u4
          have u5 : T3.1 = T2.1 := u5
          have u6 : T3.2.2 = T2.2.2 := u6
          refine ep_ret ⟨rfl, RC_w hc1 ?_ (fun q qa qb => ⟨?_, ?_⟩) (fun q _ => ?_), ?_, ?_⟩
          · rw [hte]
            obtain ⟨v0, v1, v2, v3, v4, v5⟩ := e2
            have q100 : ∀ q j, q ≠ 100 → (x_sA T2 100 (A.2.2.1.2.1.1 0 1) (nI (A.2.2.1.2.1.1 3 s))).2.1 q j = T2.2.1 q j := fun q j h => by rw [x_rAn h]
            refine ⟨?_, ?_, ?_, fun s' hs' => ?_, fun i hi => ?_, fun i hi => ?_⟩
            · show T3.1 95 0 = _
              rw [u5, v0, addA_d, addA_d]
              rfl
            · show T3.1 95 1 = _
              rw [u5, v1, addA_n, addA_n]
              rfl
            · show T3.1 95 2 = _
              rw [u5]
              exact v2
            · rw [addA_n] at hs'
              have hs' : s' < A.2.2.1.2.1.1 0 1 + 1 := hs'
              obtain ⟨w1, w2, w3, w4, w5, w6, w7, w8⟩ := v3 s' (by rw [addA_n]; exact hs')
              by_cases en : s' = A.2.2.1.2.1.1 0 1
              · subst en
                obtain ⟨b1, b2, b3, b4, b5, b6⟩ := addA_1 (w := aS A.2.2.1.2.1 2 s (A.2.2.1.2.1.1 2 s / 10 ^ m)) (c := c) (t := A.2.2.1.2.1.1 2 s % 10 ^ m) (d := A.2.2.1.2.1.1 3 s)
                obtain ⟨a1, a2, a3, a4, a5, a6⟩ := addA_1 (w := A.2.2.1.2.1) (c := c) (t := A.2.2.1.2.1.1 2 s % 10 ^ m) (d := 0)
                have hh : (aS A.2.2.1.2.1 2 s (A.2.2.1.2.1.1 2 s / 10 ^ m)).1 0 1 = A.2.2.1.2.1.1 0 1 := rfl
                rw [hh] at b1 b2 b3 b4 b5 b6
                rw [b1, b2, b3, b4, b5, b6]
                rw [a1] at w1
                rw [a2] at w2 w3 w4
                rw [a4] at w6
                rw [a5] at w7
                rw [a6] at w8
                refine ⟨?_, ?_, ?_, ?_, ?_, ?_, ?_, ?_⟩
                · show T3.2.1 96 _ = _
                  rw [u4 96 _ (by omega), q100 96 _ (by decide)]
                  exact w1
                · show T3.2.1 97 _ = _
                  rw [u4 97 _ (by omega), q100 97 _ (by decide)]
                  exact w2
                · show T3.2.1 98 _ = _
                  rw [u4 98 _ (by omega), q100 98 _ (by decide)]
                  exact w3
                · show T3.2.1 99 _ = _
                  rw [u4 99 _ (by omega), q100 99 _ (by decide)]
                  exact w4
                · show T3.2.1 100 _ = _
                  rw [u4 100 _ (by omega), x_rAe]
                · show T3.2.1 101 _ = _
                  rw [u4 101 _ (by omega), q100 101 _ (by decide)]
                  exact w6
                · show T3.2.1 102 _ = _
                  rw [u4 102 _ (by omega), q100 102 _ (by decide)]
                  exact w7
                · show T3.2.1 103 _ = _
                  rw [u4 103 _ (by omega), q100 103 _ (by decide)]
                  exact w8
              · have en' : s' ≠ (aS A.2.2.1.2.1 2 s (A.2.2.1.2.1.1 2 s / 10 ^ m)).1 0 1 := en
                rw [addA_o (by omega) en] at w1 w2 w3 w4 w5 w6 w7 w8
                rw [addA_o (by omega) en', addA_o (by omega) en', addA_o (by omega) en', addA_o (by omega) en', addA_o (by omega) en', addA_o (by omega) en']
                have x100 : (x_sA T2 100 (A.2.2.1.2.1.1 0 1) (nI (A.2.2.1.2.1.1 3 s))).2.1 100 s' = T2.2.1 100 s' := x_rAi en
                by_cases es : s' = s
                · subst es
                  simp (disch := omega) only [aS_e, aS_n]
                  refine ⟨?_, u1, u2, u3, ?_, ?_, ?_, ?_⟩
                  · show T3.2.1 96 _ = _
                    rw [u4 96 _ (by omega), q100 96 _ (by decide)]
                    exact w1
                  · show T3.2.1 100 _ = _
                    rw [u4 100 _ (by omega), x100]
                    exact w5
                  · show T3.2.1 101 _ = _
                    rw [u4 101 _ (by omega), q100 101 _ (by decide)]
                    exact w6
                  · show T3.2.1 102 _ = _
                    rw [u4 102 _ (by omega), q100 102 _ (by decide)]
                    exact w7
                  · show T3.2.1 103 _ = _
                    rw [u4 103 _ (by omega), q100 103 _ (by decide)]
                    exact w8
                · simp (disch := omega) only [aS_i, aS_n]
                  refine ⟨?_, ?_, ?_, ?_, ?_, ?_, ?_, ?_⟩
                  · show T3.2.1 96 _ = _
                    rw [u4 96 _ (by omega), q100 96 _ (by decide)]
                    exact w1
                  · show T3.2.1 97 _ = _
                    rw [u4 97 _ (by omega), q100 97 _ (by decide)]
                    exact w2
                  · show T3.2.1 98 _ = _
                    rw [u4 98 _ (by omega), q100 98 _ (by decide)]
                    exact w3
                  · show T3.2.1 99 _ = _
                    rw [u4 99 _ (by omega), q100 99 _ (by decide)]
                    exact w4
                  · show T3.2.1 100 _ = _
                    rw [u4 100 _ (by omega), x100]
                    exact w5
                  · show T3.2.1 101 _ = _
                    rw [u4 101 _ (by omega), q100 101 _ (by decide)]
                    exact w6
                  · show T3.2.1 102 _ = _
                    rw [u4 102 _ (by omega), q100 102 _ (by decide)]
                    exact w7
                  · show T3.2.1 103 _ = _
                    rw [u4 103 _ (by omega), q100 103 _ (by decide)]
                    exact w8
            · show T3.2.1 104 i = _
              rw [u4 104 i (by omega), q100 104 _ (by decide), addA_r (by omega), aS_n (by omega)]
              have := v4 i hi
              rw [addA_r (by omega)] at this
              exact this
            · show T3.2.1 105 i = _
              rw [u4 105 i (by omega), q100 105 _ (by decide), addA_r (by omega), aS_n (by omega)]
              have := v5 i hi
              rw [addA_r (by omega)] at this
              exact this
          · rw [u5]
            exact (e3.1 q (by omega)).1
          · funext j
            rw [u4 q j (by omega), x_rAn (by omega)]
            rw [(e3.1 q (by omega)).2]
          · rw [u6, e3.2]
          · have hg1 : G1.2.1 ≤ G.2.1 + 11 := hg1
            have := hG.1
            show G1.2.1 ≤ _
            omega
          · have hg2 : G1.2.2 ≤ G.2.2 + 139 := hg2
            have := hG.2
            show G1.2.2 ≤ _
            omega
        · intro S hm0
          have hw := MD_w hm0
          obtain ⟨r1, r2, r3, r4, r5⟩ := hw.2.2.2.1 s hs
          have h1 : S.2.1 1 4 = nI (A.2.2.1.2.1.1 0 1) := hw.1
          have h12' : ¬ A.2.2.1.2.1.1 0 1 = 12 := by omega
          have h10 : ¬ A.2.2.1.2.1.1 2 s < 10 := by
            have := lenN_ge 1 (A.2.2.1.2.1.1 2 s / 10 ^ (lenN (A.2.2.1.2.1.1 2 s) - 2)) (by rw [(dl_div _ _ (isTx_iff.mp o.1).2.2).2]; omega)
            have h3 : A.2.2.1.2.1.1 2 s / 10 ^ (lenN (A.2.2.1.2.1.1 2 s) - 2) ≤ A.2.2.1.2.1.1 2 s := Nat.div_le_self _ _
            omega
          refine ep_succ (fun n => F233e0 n ..) ?_
          simp only [F233b0]
          refine ep_bv (f204n ok hm0 hx) ?_
          simp only [hs, if_eq_b2i, decide_eq_true_eq, decide_true, decide_false, Bool.not_eq_true, Bool.not_eq_true', Bool.not_true, Bool.not_false, decide_eq_false_iff_not, Bool.false_eq_true, not_false_eq_true, not_true_eq_false, if_true, if_false, ↓reduceIte, eq_self, Option.bind_some, Bool.true_and, Bool.false_and, Bool.and_true, Bool.and_false]
          refine ep_bv (f202 hw kw hs) ?_
          simp (maxSteps := 1000000) (disch := omega) only [g1, if_eq_b2i, L0, L1, L2, L3, L4, L5, L6, L7, L8, L9, L10, L11, L12, L13, L16, L20, L31, L32, L40, L48, L57, L59, L60, L61, L91, L93, L97, L99, L100, L102, L103, L114, L122, L255, L300, L400, L402, L999, L2280, L2500, L99999, L63, L1431655765, L858993459, L252645135, ic_ge, ic_gt, ic_le, ic_lt, ic_eq, ic_ne, if_lt, if_ge, if_gt, if_le, if_eq, if_ne, if_lt_zI, if_ge_zI, ic_ne_m1, ic_eq_m1, ic_nn_m1, ic_ee_m1, if_ne_b2i, if_eq_b2i, b2i_z, decide_eq_true_eq, decide_true, decide_false, Bool.not_eq_true, Bool.not_eq_true', Bool.not_true, Bool.not_false, decide_eq_false_iff_not, Bool.false_eq_true, not_false_eq_true, not_true_eq_false, if_true, if_false, ↓reduceIte, eq_self, Option.bind_some, Bool.true_and, Bool.false_and, Bool.and_true, Bool.and_false, nI_add, nI_subN, nI_clamp, gdF, gdF2, gdP, gdP2, zI_cl, zI_s, Lm1, nI_n0, zI_n0, leF, or_false, false_or, or_self, r2, h10, h1, h12']
          refine ep_bind (keepM ok hm0) ?_
          rintro ⟨_, S1⟩ hm1
          have hm1 : RM (kA A) S1 := hm1
          have hw1 : MW S1.2.1 A.2.2.1.2.1 := MD_w (A := kA A) hm1
          obtain ⟨s1, s2, s3, s4, s5⟩ := hw1.2.2.2.1 s hs
          obtain ⟨s10, s12⟩ := s1 g1
          rw [hc, Nat.add_sub_cancel] at s10
          simp (disch := omega) only [L0, L1, L2, L3, L4, L5, L6, L7, L8, L9, L10, L11, L12, L13, L16, L20, L31, L32, L40, L48, L57, L59, L60, L61, L91, L93, L97, L99, L100, L102, L103, L114, L122, L255, L300, L400, L402, L999, L2280, L2500, L99999, L63, L1431655765, L858993459, L252645135, ic_ge, ic_gt, ic_le, ic_lt, ic_eq, ic_ne, if_lt, if_ge, if_gt, if_le, if_eq, if_ne, if_lt_zI, if_ge_zI, ic_ne_m1, ic_eq_m1, ic_nn_m1, ic_ee_m1, if_ne_b2i, if_eq_b2i, b2i_z, decide_eq_true_eq, decide_true, decide_false, Bool.not_eq_true, Bool.not_eq_true', Bool.not_true, Bool.not_false, decide_eq_false_iff_not, Bool.false_eq_true, not_false_eq_true, not_true_eq_false, if_true, if_false, ↓reduceIte, eq_self, Option.bind_some, Bool.true_and, Bool.false_and, Bool.and_true, Bool.and_false, nI_add, nI_subN, nI_clamp, gdF, gdF2, gdP, gdP2, zI_cl, zI_s, Lm1, nI_n0, zI_n0, leF, or_false, false_or, or_self, s2]
          refine ep_bv (f217 (r := A.2.2.1.2.1.1 2 s) (by omega) S1) ?_
          simp (disch := omega) only [L0, L1, L2, L3, L4, L5, L6, L7, L8, L9, L10, L11, L12, L13, L16, L20, L31, L32, L40, L48, L57, L59, L60, L61, L91, L93, L97, L99, L100, L102, L103, L114, L122, L255, L300, L400, L402, L999, L2280, L2500, L99999, L63, L1431655765, L858993459, L252645135, ic_ge, ic_gt, ic_le, ic_lt, ic_eq, ic_ne, if_lt, if_ge, if_gt, if_le, if_eq, if_ne, if_lt_zI, if_ge_zI, ic_ne_m1, ic_eq_m1, ic_nn_m1, ic_ee_m1, if_ne_b2i, if_eq_b2i, b2i_z, decide_eq_true_eq, decide_true, decide_false, Bool.not_eq_true, Bool.not_eq_true', Bool.not_true, Bool.not_false, decide_eq_false_iff_not, Bool.false_eq_true, not_false_eq_true, not_true_eq_false, if_true, if_false, ↓reduceIte, eq_self, Option.bind_some, Bool.true_and, Bool.false_and, Bool.and_true, Bool.and_false, nI_add, nI_subN, nI_clamp, gdF, gdF2, gdP, gdP2, zI_cl, zI_s, Lm1, nI_n0, zI_n0, leF, or_false, false_or, or_self, nI_divN, hm']
          refine ep_bv (f228 (t := m) (by omega) S1) ?_
          rw [tenF_1]
          simp (maxSteps := 1000000) (disch := omega) only [L0, L1, L2, L3, L4, L5, L6, L7, L8, L9, L10, L11, L12, L13, L16, L20, L31, L32, L40, L48, L57, L59, L60, L61, L91, L93, L97, L99, L100, L102, L103, L114, L122, L255, L300, L400, L402, L999, L2280, L2500, L99999, L63, L1431655765, L858993459, L252645135, ic_ge, ic_gt, ic_le, ic_lt, ic_eq, ic_ne, if_lt, if_ge, if_gt, if_le, if_eq, if_ne, if_lt_zI, if_ge_zI, ic_ne_m1, ic_eq_m1, ic_nn_m1, ic_ee_m1, if_ne_b2i, if_eq_b2i, b2i_z, decide_eq_true_eq, decide_true, decide_false, Bool.not_eq_true, Bool.not_eq_true', Bool.not_true, Bool.not_false, decide_eq_false_iff_not, Bool.false_eq_true, not_false_eq_true, not_true_eq_false, if_true, if_false, ↓reduceIte, eq_self, Option.bind_some, Bool.true_and, Bool.false_and, Bool.and_true, Bool.and_false, nI_add, nI_subN, nI_clamp, gdF, gdF2, gdP, gdP2, zI_cl, zI_s, Lm1, nI_n0, zI_n0, leF, or_false, false_or, or_self, m_rA1, m_rA3, m_rAe, m_rAn, m_rAi, m_rI2, m_rIe, m_rIn, m_rL1, m_rL2, m_rLe, m_rLi, m_rLn, s2, s10, s12, nI_divN, nI_eqP, hp00, nI_rm]
          refine ep_bind (f232 (w := aS A.2.2.1.2.1 2 s (A.2.2.1.2.1.1 2 s / 10 ^ m)) (d := A.2.2.1.2.1.1 3 s) ?_ (show A.2.2.1.2.1.1 0 1 < 13 by omega)) ?_
          · obtain ⟨h0, h1, h2, h3, h4, h5⟩ := hw1
            refine ⟨?_, ?_, ?_, ?_, ?_, ?_⟩
            · simp (disch := omega) only [m_rA1, m_rA3, m_rAe, m_rAn, m_rAi, m_rI2, m_rIe, m_rIn, m_rL1, m_rL2, m_rLe, m_rLi, m_rLn, aS_n]
              exact h0
            · simp (disch := omega) only [m_rA1, m_rA3, m_rAe, m_rAn, m_rAi, m_rI2, m_rIe, m_rIn, m_rL1, m_rL2, m_rLe, m_rLi, m_rLn, aS_n]
              exact h1
            · simp (disch := omega) only [m_rA1, m_rA3, m_rAe, m_rAn, m_rAi, m_rI2, m_rIe, m_rIn, m_rL1, m_rL2, m_rLe, m_rLi, m_rLn]
              exact h2
            · intro s' hs'
              have hs' : s' < A.2.2.1.2.1.1 0 1 := hs'
              obtain ⟨p1, p2, p3, p4, p5⟩ := h3 s' hs'
              by_cases e : s' = s
              · subst e
                simp (disch := omega) only [m_rA1, m_rA3, m_rAe, m_rAn, m_rAi, m_rI2, m_rIe, m_rIn, m_rL1, m_rL2, m_rLe, m_rLi, m_rLn, aS_n, aS_e]
                exact ⟨p1, trivial, p3, p4, p5⟩
              · simp (disch := omega) only [m_rA1, m_rA3, m_rAe, m_rAn, m_rAi, m_rI2, m_rIe, m_rIn, m_rL1, m_rL2, m_rLe, m_rLi, m_rLn, aS_n, aS_i]
                exact ⟨p1, p2, p3, p4, p5⟩
            · intro k hk
              simp (disch := omega) only [m_rA1, m_rA3, m_rAe, m_rAn, m_rAi, m_rI2, m_rIe, m_rIn, m_rL1, m_rL2, m_rLe, m_rLi, m_rLn, aS_n]
              exact h4 k hk
            · exact MN_fr h5 (by simp (disch := omega) only [m_rA1, m_rA3, m_rAe, m_rAn, m_rAi, m_rI2, m_rIe, m_rIn, m_rL1, m_rL2, m_rLe, m_rLi, m_rLn]) (fun i => by simp (disch := omega) only [m_rA1, m_rA3, m_rAe, m_rAn, m_rAi, m_rI2, m_rIe, m_rIn, m_rL1, m_rL2, m_rLe, m_rLi, m_rLn]) (fun i => by simp (disch := omega) only [m_rA1, m_rA3, m_rAe, m_rAn, m_rAi, m_rI2, m_rIe, m_rIn, m_rL1, m_rL2, m_rLe, m_rLi, m_rLn]) (fun i => by simp (disch := omega) only [aS_n])
          · rintro ⟨z1, S2⟩ ⟨e1, e2, e3, e4⟩
            have e3 : S2.1 = S1.1 := e3
            refine ep_ret ⟨e1, RM_w (OkA_k ok) hm1 (by rw [hte]; exact e2) ⟨by rw [e3], by rw [e3], by rw [e3], by rw [e3]⟩ (fun k i hk => ?_)⟩
            rw [e4 k i (by omega), m_rAn (by omega)]
      · refine ⟨zI 0, A, ok1, fun T G hR hG => ?_, callM_id (fun S hm => ?_)⟩
        · obtain ⟨r1, r2, r3, r4, r5, r6, r7, r8⟩ := (CD_w hR).2.2.2.1 s hs
          have h1 : T.1 95 1 = nI (A.2.2.1.2.1.1 0 1) := (CD_w hR).2.1
          have r1' : T.2.1 96 s = zI (A.2.2.1.2.1.1 1 s) := r1
          have r3' : T.2.1 98 s = nI (lenN (A.2.2.1.2.1.1 2 s)) := r3
          refine ep_succ (fun n => G103e0 n ..) ?_
          simp only [G103b0]
          refine ep_bv (g80n ok hR hx) ?_
          by_cases g1 : A.2.2.1.2.1.1 1 s = 0
          · simp (maxSteps := 1000000) (disch := omega) only [hs, if_eq_b2i, L0, L1, L2, L3, L4, L5, L6, L7, L8, L9, L10, L11, L12, L13, L16, L20, L31, L32, L40, L48, L57, L59, L60, L61, L91, L93, L97, L99, L100, L102, L103, L114, L122, L255, L300, L400, L402, L999, L2280, L2500, L99999, L63, L1431655765, L858993459, L252645135, ic_ge, ic_gt, ic_le, ic_lt, ic_eq, ic_ne, if_lt, if_ge, if_gt, if_le, if_eq, if_ne, if_lt_zI, if_ge_zI, ic_ne_m1, ic_eq_m1, ic_nn_m1, ic_ee_m1, if_ne_b2i, if_eq_b2i, b2i_z, decide_eq_true_eq, decide_true, decide_false, Bool.not_eq_true, Bool.not_eq_true', Bool.not_true, Bool.not_false, decide_eq_false_iff_not, Bool.false_eq_true, not_false_eq_true, not_true_eq_false, if_true, if_false, ↓reduceIte, eq_self, Option.bind_some, Bool.true_and, Bool.false_and, Bool.and_true, Bool.and_false, nI_add, nI_subN, nI_clamp, gdF, gdF2, gdP, gdP2, zI_cl, zI_s, Lm1, nI_n0, zI_n0, leF, or_false, false_or, or_self, r1', g1]
            exact ep_ret ⟨rfl, hR, RG_s hG⟩
          · by_cases g2 : lenN (A.2.2.1.2.1.1 2 s) < 2
            · simp (maxSteps := 1000000) (disch := omega) only [hs, if_eq_b2i, L0, L1, L2, L3, L4, L5, L6, L7, L8, L9, L10, L11, L12, L13, L16, L20, L31, L32, L40, L48, L57, L59, L60, L61, L91, L93, L97, L99, L100, L102, L103, L114, L122, L255, L300, L400, L402, L999, L2280, L2500, L99999, L63, L1431655765, L858993459, L252645135, ic_ge, ic_gt, ic_le, ic_lt, ic_eq, ic_ne, if_lt, if_ge, if_gt, if_le, if_eq, if_ne, if_lt_zI, if_ge_zI, ic_ne_m1, ic_eq_m1, ic_nn_m1, ic_ee_m1, if_ne_b2i, if_eq_b2i, b2i_z, decide_eq_true_eq, decide_true, decide_false, Bool.not_eq_true, Bool.not_eq_true', Bool.not_true, Bool.not_false, decide_eq_false_iff_not, Bool.false_eq_true, not_false_eq_true, not_true_eq_false, if_true, if_false, ↓reduceIte, eq_self, Option.bind_some, Bool.true_and, Bool.false_and, Bool.and_true, Bool.and_false, nI_add, nI_subN, nI_clamp, gdF, gdF2, gdP, gdP2, zI_cl, zI_s, Lm1, nI_n0, zI_n0, leF, or_false, false_or, or_self, r1', g1, r3', g2]
              exact ep_ret ⟨rfl, hR, RG_s hG⟩
            · have g3 : ¬ A.2.2.1.2.1.1 0 1 < 12 := fun z => hgo ⟨g1, by omega, z⟩
              simp (maxSteps := 1000000) (disch := omega) only [hs, if_eq_b2i, L0, L1, L2, L3, L4, L5, L6, L7, L8, L9, L10, L11, L12, L13, L16, L20, L31, L32, L40, L48, L57, L59, L60, L61, L91, L93, L97, L99, L100, L102, L103, L114, L122, L255, L300, L400, L402, L999, L2280, L2500, L99999, L63, L1431655765, L858993459, L252645135, ic_ge, ic_gt, ic_le, ic_lt, ic_eq, ic_ne, if_lt, if_ge, if_gt, if_le, if_eq, if_ne, if_lt_zI, if_ge_zI, ic_ne_m1, ic_eq_m1, ic_nn_m1, ic_ee_m1, if_ne_b2i, if_eq_b2i, b2i_z, decide_eq_true_eq, decide_true, decide_false, Bool.not_eq_true, Bool.not_eq_true', Bool.not_true, Bool.not_false, decide_eq_false_iff_not, Bool.false_eq_true, not_false_eq_true, not_true_eq_false, if_true, if_false, ↓reduceIte, eq_self, Option.bind_some, Bool.true_and, Bool.false_and, Bool.and_true, Bool.and_false, nI_add, nI_subN, nI_clamp, gdF, gdF2, gdP, gdP2, zI_cl, zI_s, Lm1, nI_n0, zI_n0, leF, or_false, false_or, or_self, r1', g1, r3', g2, h1, g3]
              exact ep_ret ⟨rfl, hR, RG_s hG⟩
        · have hw := MD_w hm
          obtain ⟨r1, r2, r3, r4, r5⟩ := hw.2.2.2.1 s hs
          have h1 : S.2.1 1 4 = nI (A.2.2.1.2.1.1 0 1) := hw.1
          refine ev_succ (fun n => F233e0 n ..) ?_
          simp only [F233b0]
          refine ev_bind (f204n ok hm hx) ?_
          simp only [hs, if_eq_b2i, decide_eq_true_eq, decide_true, decide_false, Bool.not_eq_true, Bool.not_eq_true', Bool.not_true, Bool.not_false, decide_eq_false_iff_not, Bool.false_eq_true, not_false_eq_true, not_true_eq_false, if_true, if_false, ↓reduceIte, eq_self, Option.bind_some, Bool.true_and, Bool.false_and, Bool.and_true, Bool.and_false]
          refine ev_bind (f202 hw kw hs) ?_
          by_cases g1 : A.2.2.1.2.1.1 1 s = 0
          · simp only [g1, if_eq_b2i, decide_eq_true_eq, decide_true, decide_false, Bool.not_eq_true, Bool.not_eq_true', Bool.not_true, Bool.not_false, decide_eq_false_iff_not, Bool.false_eq_true, not_false_eq_true, not_true_eq_false, if_true, if_false, ↓reduceIte, eq_self, Option.bind_some, Bool.true_and, Bool.false_and, Bool.and_true, Bool.and_false]
            exact ev_ret
          · by_cases g2 : lenN (A.2.2.1.2.1.1 2 s) < 2
            · have h10 : A.2.2.1.2.1.1 2 s < 10 := lenN_lt 1 _ (by omega)
              simp (maxSteps := 1000000) (disch := omega) only [g1, if_eq_b2i, L0, L1, L2, L3, L4, L5, L6, L7, L8, L9, L10, L11, L12, L13, L16, L20, L31, L32, L40, L48, L57, L59, L60, L61, L91, L93, L97, L99, L100, L102, L103, L114, L122, L255, L300, L400, L402, L999, L2280, L2500, L99999, L63, L1431655765, L858993459, L252645135, ic_ge, ic_gt, ic_le, ic_lt, ic_eq, ic_ne, if_lt, if_ge, if_gt, if_le, if_eq, if_ne, if_lt_zI, if_ge_zI, ic_ne_m1, ic_eq_m1, ic_nn_m1, ic_ee_m1, if_ne_b2i, if_eq_b2i, b2i_z, decide_eq_true_eq, decide_true, decide_false, Bool.not_eq_true, Bool.not_eq_true', Bool.not_true, Bool.not_false, decide_eq_false_iff_not, Bool.false_eq_true, not_false_eq_true, not_true_eq_false, if_true, if_false, ↓reduceIte, eq_self, Option.bind_some, Bool.true_and, Bool.false_and, Bool.and_true, Bool.and_false, nI_add, nI_subN, nI_clamp, gdF, gdF2, gdP, gdP2, zI_cl, zI_s, Lm1, nI_n0, zI_n0, leF, or_false, false_or, or_self, r2, h10]
              exact ev_ret
            · have g3 : A.2.2.1.2.1.1 0 1 = 12 := by
                have : ¬ A.2.2.1.2.1.1 0 1 < 12 := fun z => hgo ⟨g1, by omega, z⟩
                omega
              by_cases h10 : A.2.2.1.2.1.1 2 s < 10
              · simp (maxSteps := 1000000) (disch := omega) only [g1, if_eq_b2i, L0, L1, L2, L3, L4, L5, L6, L7, L8, L9, L10, L11, L12, L13, L16, L20, L31, L32, L40, L48, L57, L59, L60, L61, L91, L93, L97, L99, L100, L102, L103, L114, L122, L255, L300, L400, L402, L999, L2280, L2500, L99999, L63, L1431655765, L858993459, L252645135, ic_ge, ic_gt, ic_le, ic_lt, ic_eq, ic_ne, if_lt, if_ge, if_gt, if_le, if_eq, if_ne, if_lt_zI, if_ge_zI, ic_ne_m1, ic_eq_m1, ic_nn_m1, ic_ee_m1, if_ne_b2i, if_eq_b2i, b2i_z, decide_eq_true_eq, decide_true, decide_false, Bool.not_eq_true, Bool.not_eq_true', Bool.not_true, Bool.not_false, decide_eq_false_iff_not, Bool.false_eq_true, not_false_eq_true, not_true_eq_false, if_true, if_false, ↓reduceIte, eq_self, Option.bind_some, Bool.true_and, Bool.false_and, Bool.and_true, Bool.and_false, nI_add, nI_subN, nI_clamp, gdF, gdF2, gdP, gdP2, zI_cl, zI_s, Lm1, nI_n0, zI_n0, leF, or_false, false_or, or_self, r2, h10]
                exact ev_ret
              · simp (maxSteps := 1000000) (disch := omega) only [g1, if_eq_b2i, L0, L1, L2, L3, L4, L5, L6, L7, L8, L9, L10, L11, L12, L13, L16, L20, L31, L32, L40, L48, L57, L59, L60, L61, L91, L93, L97, L99, L100, L102, L103, L114, L122, L255, L300, L400, L402, L999, L2280, L2500, L99999, L63, L1431655765, L858993459, L252645135, ic_ge, ic_gt, ic_le, ic_lt, ic_eq, ic_ne, if_lt, if_ge, if_gt, if_le, if_eq, if_ne, if_lt_zI, if_ge_zI, ic_ne_m1, ic_eq_m1, ic_nn_m1, ic_ee_m1, if_ne_b2i, if_eq_b2i, b2i_z, decide_eq_true_eq, decide_true, decide_false, Bool.not_eq_true, Bool.not_eq_true', Bool.not_true, Bool.not_false, decide_eq_false_iff_not, Bool.false_eq_true, not_false_eq_true, not_true_eq_false, if_true, if_false, ↓reduceIte, eq_self, Option.bind_some, Bool.true_and, Bool.false_and, Bool.and_true, Bool.and_false, nI_add, nI_subN, nI_clamp, gdF, gdF2, gdP, gdP2, zI_cl, zI_s, Lm1, nI_n0, zI_n0, leF, or_false, false_or, or_self, r2, h10, h1, g3]
                exact ev_ret
    · refine ⟨zI 0, A, ok1, fun T G hR hG => no1 T G hR ?_ hG, callM_id (fun S hm => no2 S ?_)⟩
      · have := g80n ok hR hx
        rw [decide_eq_false hs] at this
        exact this
      · have := f204n ok hm hx
        rw [decide_eq_false hs] at this
        exact this
  · exact ⟨zI 0, A, ok1, fun T G hR hG => no1 T G hR (g80m hx) hG, callM_id (fun S hm => no2 S (f204m hx))⟩
