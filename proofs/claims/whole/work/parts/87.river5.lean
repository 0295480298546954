/-! rivers told: the program's clauses, and all of them -/
theorem rv_Wd : WdB 2 0 rvW = true := by decide +kernel
theorem nbz : narrow .boolean (.int (nI 0)) = .int (nI 0) := rfl
section Gp
variable {T00 T : xS} {f : Nat → Nat} {L i n : Nat} {b : AB} {w : AW}
theorem g21 (hH : TH T00 f L) (hn : n ≤ 40) (h : RvT T00 T L i 0 b w) (ok : OkR n b w) (hi : i ≤ L) : Ep (fun N => G21 N (nI n) T) (RvY T00 L (claF f L n b w i)) := by
  have hL := hH.2.1
  obtain ⟨m, ht⟩ := h.1
  have hb := bk_b (f := f) hi
  obtain ⟨res, hres⟩ : ∃ res, res = claF f L n b w i := ⟨_, rfl⟩
  rw [← hres]
  refine ep_succ (fun n => G21e0 n ..) ?_
  simp only [G21b0]
  refine ep_bind (g22 (RvT_TH hH h) rv_Wd (by decide) (by decide) hi ht) ?_
  rintro ⟨z1, T1⟩ hz
  unfold claF at hres
  cases hw : wiF f L (bk f L i) rvW 0 with
  | none =>
    rw [hw] at hz hres
    obtain ⟨a1, a2⟩ := hz
    have a1 : z1 = zI 0 := a1
    have a2 : TP T1 T L (bk f L i) (bk f L i) (1 + 8 * bk f L i) := a2
    subst a1
    have e1 : am_ic .ne (zI 0) (-1) = false := by decide
    simp only [e1, decide_eq_true_eq, decide_true, decide_false, Bool.not_eq_true, Bool.not_eq_true', Bool.not_true, Bool.not_false, decide_eq_false_iff_not, Bool.false_eq_true, not_false_eq_true, not_true_eq_false, if_true, if_false, ↓reduceIte, eq_self, Option.bind_some, Bool.true_and, Bool.false_and, Bool.and_true, Bool.and_false]
    rw [hres]
    exact ep_ret ⟨(if_neg (show ¬ 1 + 8 * bk f L i = 0 by omega)).symm, _, fun _ => rfl, RvT_tp h a2⟩
  | some r =>
    rw [hw] at hz hres
    obtain ⟨w1, w2, w3⟩ := wi_b rvW 0 hw
    have w2 : r.1 < 0 + 8 := w2
    obtain ⟨a1, a2⟩ := hz
    have a1 : z1 = nI r.1 := a1
    have a2 : TP T1 T L (bk f L i + r.2) (bk f L i) 0 := a2
    subst a1
    have rv1 : RvT T00 T1 L (bk f L i + r.2) 0 b w := RvT_tp h a2
    have a3 : T1.1 65 3 = nI (bk f L i) := a2.2.2.1
    have e1 : am_ic .ne (nI r.1) (-1) = true := ic_nn_m1 (by omega)
    have hres : res = if 40 ≤ n ∨ ¬ (n = 0 ↔ r.1 = 0) ∨ fulB b w r.1 = true then (5 + 8 * bk f L i, b, w, bk f L i) else parF f L r.1 b w (bk f L i + r.2) := hres
    have wr : (40 ≤ n ∨ ¬ (n = 0 ↔ r.1 = 0) ∨ fulB b w r.1 = true) → Ep (fun N => (G36 N (nI (bk f L i)) (nI 4) T1).bind (fun z5 => if narrow .boolean (.int z5.1) = .int z5.1 then some (z5.1, z5.2) else none)) (RvY T00 L res) := by
      intro hc
      rw [if_pos hc] at hres
      rw [hres]
      refine ep_bind (g36 (TP_self a2)) ?_
      rintro ⟨z2, T2⟩ ⟨c1, c2⟩
      have c1 : z2 = nI 0 := c1
      have c2 : TP T2 T1 L (bk f L i + r.2) (bk f L i) (1 + 8 * bk f L i + 4) := c2
      subst c1
      simp only [nbz, decide_eq_true_eq, decide_true, decide_false, Bool.not_eq_true, Bool.not_eq_true', Bool.not_true, Bool.not_false, decide_eq_false_iff_not, Bool.false_eq_true, not_false_eq_true, not_true_eq_false, if_true, if_false, ↓reduceIte, eq_self, Option.bind_some, Bool.true_and, Bool.false_and, Bool.and_true, Bool.and_false]
      refine ep_ret ⟨(if_neg (show ¬ 5 + 8 * bk f L i = 0 by omega)).symm, bk f L i + r.2, fun z => absurd z (show ¬ 5 + 8 * bk f L i = 0 by omega), ?_⟩
      show RvT T00 T2 L (bk f L i + r.2) (5 + 8 * bk f L i) b w
      rw [show 5 + 8 * bk f L i = 1 + 8 * bk f L i + 4 by omega]
      exact RvT_tp rv1 c2
    have gf := g37 (k := r.1) (by omega) rv1 ok
    have nbY : ∀ (z : Int32 × xS) (P : Prop), RvZ T00 L res z → narrow .boolean (.int z.1) = .int z.1 := by
      intro z P hz
      rw [hz.1]
      exact nbI
    simp only [e1, if_true]
    by_cases h40 : 40 ≤ n
    · have e2 : am_ic .ge (nI n) 40 = true := by
        have := ic_ge (a := n) (b := 40) (by omega) (by decide)
        rw [decide_eq_true h40] at this
        exact this
      simp only [e2, if_true, a3, L4]
      exact wr (Or.inl h40)
    · have e2 : am_ic .ge (nI n) 40 = false := by
        have := ic_ge (a := n) (b := 40) (by omega) (by decide)
        rw [decide_eq_false h40] at this
        exact this
      simp only [e2, Bool.false_eq_true, if_false]
      by_cases n0 : n = 0
      · have e3 : am_if .ne (nI n) = false := by rw [if_ne (by omega), decide_eq_true n0]; rfl
        simp only [e3, Bool.false_eq_true, if_false]
        by_cases r0 : r.1 = 0
        · have e4 : am_if .ne (nI r.1) = false := by rw [if_ne (by omega), decide_eq_true r0]; rfl
          simp only [e4, Bool.false_eq_true, if_false]
          have hf0 : fulB b w r.1 = false := by rw [r0]; rfl
          rw [hf0] at gf
          refine ep_bv gf ?_
          have e5 : am_if .eq (b2i false) = true := by decide
          simp only [e5, if_true]
          rw [if_neg (fun z => by
            rcases z with z | z | z
            · exact h40 z
            · exact z ⟨fun _ => r0, fun _ => n0⟩
            · rw [hf0] at z
              exact absurd z (by decide)), r0] at hres
          refine ep_bind (g39 (b := b) (w := w) hH rv1 w3) ?_
          rintro ⟨z2, T2⟩ hz2
          rw [← hres] at hz2
          have nb := nbY _ True hz2
          simp only [nb, if_true]
          exact ep_ret (RvZ_Y hz2)
        · have e4 : am_if .ne (nI r.1) = true := by rw [if_ne (by omega), decide_eq_false r0]; rfl
          simp only [e4, if_true, a3, L4]
          exact wr (Or.inr (Or.inl (fun z => r0 (z.mp n0))))
      · have e3 : am_if .ne (nI n) = true := by rw [if_ne (by omega), decide_eq_false n0]; rfl
        simp only [e3, if_true]
        by_cases r0 : r.1 = 0
        · have e4 : am_if .ne (nI r.1) = false := by rw [if_ne (by omega), decide_eq_true r0]; rfl
          simp only [e4, Bool.false_eq_true, if_false, a3, L4]
          exact wr (Or.inr (Or.inl (fun z => n0 (z.mpr r0))))
        · have e4 : am_if .ne (nI r.1) = true := by rw [if_ne (by omega), decide_eq_false r0]; rfl
          simp only [e4, if_true]
          refine ep_bv gf ?_
          cases hfu : fulB b w r.1 with
          | true =>
            have e5 : am_if .eq (b2i true) = false := by decide
            simp only [e5, Bool.false_eq_true, if_false, a3, L4]
            exact wr (Or.inr (Or.inr hfu))
          | false =>
            have e5 : am_if .eq (b2i false) = true := by decide
            simp only [e5, if_true]
            rw [if_neg (fun z => by
              rcases z with z | z | z
              · exact h40 z
              · exact z ⟨fun q => absurd q n0, fun q => absurd q r0⟩
              · rw [hfu] at z
                exact absurd z (by decide))] at hres
            have ep : parF f L r.1 b w (bk f L i + r.2) = celF f L r.1 b w (bk f L i + r.2) := if_neg r0
            rw [ep] at hres
            have h2b := ok.2.2.2.2.2.2.2.2.1 n0
            refine ep_bind (g42 (k := r.1) hH (by omega) (by omega) rv1 ok (by omega) hfu w3) ?_
            rintro ⟨z2, T2⟩ hz2
            rw [← hres] at hz2
            have nb := nbY _ True hz2
            simp only [nb, if_true]
            exact ep_ret (RvZ_Y hz2)
def RvQ (T00 : xS) (res : Nat × AB × AW) (z : Int32 × xS) : Prop := z.1 = nI res.1 ∧ (res.1 = 0 → CB z.2 68 res.2.1 ∧ CW z.2 74 res.2.2 ∧ ∃ n, n ≠ 0 ∧ OkR n res.2.1 res.2.2) ∧ (∀ q, (q < 65 ∨ 84 < q) → z.2.1 q = T00.1 q ∧ z.2.2.1 q = T00.2.1 q) ∧ z.2.2.2 = T00.2.2
theorem g16l (hH : TH T00 f L) : ∀ (m n : Nat) (b : AB) (w : AW) (i : Nat) (T : xS), n + m = 41 → (m = 0 → n ≠ 0) → i ≤ L → OkR n b w → RvT T00 T L i 0 b w → Ep (fun N => G16f N 21 (nI n) T) (RvQ T00 (rvF f L m n b w i)) := by
  have hL := hH.2.1
  intro m
  induction m with
  | zero =>
    intro n b w i T hn hn0 hi ok h
    have e1 : 40 < n := by omega
    obtain ⟨mm, ht⟩ := h.1
    have t4 : T.1 65 4 = nI 0 := ht.2.2.2.1
    refine ep_succ (fun N => G16e21 N ..) ?_
    simp (disch := omega) only [G16b21, L0, L1, L2, L3, L4, L5, L6, L7, L8, L9, L10, L11, L12, L13, L16, L20, L31, L32, L40, L48, L57, L59, L60, L61, L91, L93, L97, L99, L100, L102, L103, L114, L122, L255, L300, L400, L402, L999, L2280, L2500, L99999, L63, L1431655765, L858993459, L252645135, ic_ge, ic_gt, ic_le, ic_lt, ic_eq, ic_ne, if_lt, if_ge, if_gt, if_le, if_eq, if_ne, if_lt_zI, if_ge_zI, ic_ne_m1, ic_eq_m1, ic_nn_m1, ic_ee_m1, if_ne_b2i, if_eq_b2i, b2i_z, decide_eq_true_eq, decide_true, decide_false, Bool.not_eq_true, Bool.not_eq_true', Bool.not_true, Bool.not_false, decide_eq_false_iff_not, Bool.false_eq_true, not_false_eq_true, not_true_eq_false, if_true, if_false, ↓reduceIte, eq_self, Option.bind_some, Bool.true_and, Bool.false_and, Bool.and_true, Bool.and_false, nI_add, nI_subN, nI_clamp, gdF, gdF2, gdP, gdP2, zI_cl, zI_s, Lm1, nI_n0, zI_n0, leF, or_false, false_or, or_self, e1]
    exact ep_ret ⟨t4, fun _ => ⟨h.2.1, h.2.2.1, n, hn0 rfl, ok⟩, h.2.2.2.1, h.2.2.2.2.2⟩
  | succ m ih =>
    intro n b w i T hn hn0 hi ok h
    have e1 : am_ic .gt (nI n) 40 = false := by
      have := ic_gt (a := n) (b := 40) (by omega) (by decide)
      rw [decide_eq_false (show ¬ 40 < n by omega)] at this
      exact this
    obtain ⟨c1, c2, c3⟩ := cla_b (f := f) ok hL hi
    obtain ⟨res, hres⟩ : ∃ res, res = rvF f L (m + 1) n b w i := ⟨_, rfl⟩
    rw [← hres]
    unfold rvF at hres
    refine ep_succ (fun N => G16e21 N ..) ?_
    simp only [G16b21, e1, Bool.false_eq_true, if_false]
    refine ep_bind (g21 hH (by omega) h ok hi) ?_
    rintro ⟨z1, T1⟩ ⟨a1, p, a2, a3⟩
    have a1 : z1 = if (claF f L n b w i).1 = 0 then nI 1 else nI 0 := a1
    have a3 : RvT T00 T1 L p (claF f L n b w i).1 (claF f L n b w i).2.1 (claF f L n b w i).2.2.1 := a3
    subst a1
    by_cases h0 : (claF f L n b w i).1 = 0
    · obtain ⟨n40, okn⟩ := c3 h0
      have ep := a2 h0
      subst ep
      rw [if_neg (fun z => z h0)] at hres
      rw [h0] at a3
      rw [if_pos h0]
      obtain ⟨mm, ht⟩ := a3.1
      have e2 : am_if .eq (nI 1) = false := by decide
      simp only [e2, Bool.false_eq_true, if_false]
      have hbk := bk_b (f := f) c2
      refine ep_bind (g52 (RvT_TH hH a3) c2 ht) ?_
      rintro ⟨z2, T2⟩ ⟨b1, b0, b2⟩
      have hg : goF f L (claF f L n b w i).2.2.2 = 0 ∨ goF f L (claF f L n b w i).2.2.2 = 1 ∨ goF f L (claF f L n b w i).2.2.2 = 2 := by
        unfold goF
        split
        · split
          · exact Or.inr (Or.inl rfl)
          · exact Or.inr (Or.inr rfl)
        · exact Or.inl rfl
      rcases hg with hg | hg | hg
      · obtain ⟨x1, x2⟩ := b0 hg
        have x1 : z2 = nI 0 := x1
        have x2 : TP T2 T1 L (bk f L (claF f L n b w i).2.2.2) mm 0 := x2
        subst x1
        rw [if_neg (show ¬ goF f L (claF f L n b w i).2.2.2 = 2 by omega), if_neg (show ¬ goF f L (claF f L n b w i).2.2.2 = 1 by omega)] at hres
        rw [hres]
        have e3 : am_if .ne (nI 0) = false := by decide
        simp only [e3, Bool.false_eq_true, if_false]
        have rv := RvT_tp a3 x2
        have t4 : T2.1 65 4 = nI 0 := x2.2.2.2.1
        exact ep_ret ⟨t4, fun _ => ⟨rv.2.1, rv.2.2.1, n + 1, by omega, okn⟩, rv.2.2.2.1, rv.2.2.2.2.2⟩
      · obtain ⟨x1, x2⟩ := b1 hg
        have x1 : z2 = nI 1 := x1
        have x2 : TP T2 T1 L (bk f L (claF f L n b w i).2.2.2 + 1) mm 0 := x2
        subst x1
        have hlt : bk f L (claF f L n b w i).2.2.2 < L := by
          unfold goF at hg
          refine Nat.lt_of_not_le (fun z => ?_)
          rw [if_neg (by omega)] at hg
          omega
        rw [if_neg (show ¬ goF f L (claF f L n b w i).2.2.2 = 2 by omega), if_pos hg] at hres
        rw [hres]
        have e3 : am_if .ne (nI 1) = true := by decide
        simp only [e3, if_true]
        have := ih (n + 1) (claF f L n b w i).2.1 (claF f L n b w i).2.2.1 (bk f L (claF f L n b w i).2.2.2 + 1) T2 (by omega) (fun _ => by omega) (by omega) okn (RvT_tp a3 x2)
        rw [← nI_add] at this
        exact this
      · obtain ⟨x1, x2⟩ := b2 hg
        have x1 : z2 = nI 0 := x1
        have x2 : TP T2 T1 L (bk f L (claF f L n b w i).2.2.2) mm (1 + 8 * bk f L (claF f L n b w i).2.2.2) := x2
        subst x1
        rw [if_pos hg] at hres
        rw [hres]
        have e3 : am_if .ne (nI 0) = false := by decide
        simp only [e3, Bool.false_eq_true, if_false]
        have rv := RvT_tp a3 x2
        have t4 : T2.1 65 4 = nI (1 + 8 * bk f L (claF f L n b w i).2.2.2) := x2.2.2.2.1
        refine ep_ret ⟨t4, fun z => ?_, rv.2.2.2.1, rv.2.2.2.2.2⟩
        have z : 1 + 8 * bk f L (claF f L n b w i).2.2.2 = 0 := z
        omega
    · rw [if_pos h0] at hres
      rw [if_neg h0, hres]
      obtain ⟨mm, ht⟩ := a3.1
      have t4 : T1.1 65 4 = nI (claF f L n b w i).1 := ht.2.2.2.1
      have e2 : am_if .eq (nI 0) = true := by decide
      simp only [e2, if_true]
      exact ep_ret ⟨t4, fun z => absurd z h0, a3.2.2.2.1, a3.2.2.2.2.2⟩
theorem OkR_0 : OkR 0 (stB 0) w0A := ⟨stB_Ok (by decide), ⟨by decide, fun s hs => absurd hs (Nat.not_lt_zero _), fun i hi => ⟨Nat.zero_le _, fun h => absurd rfl h⟩, fun _ _ _ => rfl⟩, rfl, Nat.zero_le _, rfl, (show netsN w0A ≤ 5 by decide), fun _ _ => rfl, fun s hs => absurd hs (Nat.not_lt_zero _), fun h => absurd rfl h, fun _ => ⟨rfl, rfl, rfl, fun _ => rfl⟩⟩
theorem g16 (hH : TH T f L) (hl : T.1 65 1 = nI L) : Ep (fun n => G16 n T) (RvQ T (rvF f L 41 0 (stB 0) w0A 0)) := by
  refine ep_succ (fun n => G16e0 n ..) ?_
  simp only [G16b0]
  have g17 : Ep (fun n => G17 n T) (fun z => TP z.2 T L 0 0 0) := by
    refine ep_succ (fun n => G17e0 n ..) ?_
    simp only [G17b0, L0]
    refine ep_ret ⟨?_, ?_, ?_, x_rIe, fun q hq => ?_, rfl⟩
    · rw [x_rIi (by decide), x_rIi (by decide), x_rIi (by decide)]
      exact hl
    · rw [x_rIi (by decide), x_rIi (by decide), x_rIe]
    · rw [x_rIi (by decide), x_rIe]
    · rw [x_rIn hq, x_rIn hq, x_rIn hq]
  refine ep_bind g17 ?_
  rintro ⟨_, T1⟩ a
  have a : TP T1 T L 0 0 0 := a
  simp only [L0]
  refine ep_bind (g18 (p := 68) (N := 0) (by decide)) ?_
  rintro ⟨_, T2⟩ ⟨b1, b2, b3, b4⟩
  have b2 : ∀ q, q ≠ 68 → T2.1 q = T1.1 q := b2
  have b3 : ∀ q, (q ≤ 68 ∨ 68 + 4 < q) → T2.2.1 q = T1.2.1 q := b3
  have b4 : T2.2.2 = T1.2.2 := b4
  refine ep_bind (g19 (p := 74)) ?_
  rintro ⟨_, T3⟩ ⟨c1, c2⟩
  have c2 : FrW 74 T2 T3 := c2
  have t65 : T3.1 65 = T1.1 65 := ((c2.1 65 (by omega)).1).trans (b2 65 (by decide))
  have aq := a.2.2.2.2.1
  have ar := a.2.2.2.2.2
  refine g16l hH 41 0 (stB 0) w0A 0 T3 (by omega) (fun z => absurd z (by decide)) (Nat.zero_le _) OkR_0 ⟨⟨0, by rw [t65]; exact a.1, by rw [t65]; exact a.2.1, by rw [t65]; exact a.2.2.1, by rw [t65]; exact a.2.2.2.1, fun _ _ => rfl, rfl⟩, CB_k b1 (c2.1 68 (by omega)).1 (fun q x y => (c2.1 q (by omega)).2), c1, fun q hq => ⟨?_, ?_⟩, ?_, ?_⟩
  · rw [(c2.1 q (by omega)).1, b2 q (by omega), aq q (by omega)]
  · rw [(c2.1 q (by omega)).2, b3 q (by omega), ar]
  · rw [(c2.1 66 (by omega)).2, b3 66 (by omega), ar]
  · rw [c2.2, b4, ar]
end Gp
