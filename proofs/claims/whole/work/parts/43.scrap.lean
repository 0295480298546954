def scrapA (w : AW) (s what : Nat) : Int32 := if what = 0 then zI (w.1 1 s) else if what = 1 then nI (w.1 2 s) else if what = 2 then (if w.1 1 s = 0 then nI 0 else nI (w.1 3 s)) else if what = 3 then nI (w.1 4 s) else if what = 4 then zI (w.1 5 s) else zI (w.1 6 s)
theorem sm_scrap {k : Nat} {a e : Int32} (A : AA) (ok : OkA k A) : ∃ r A', OkA (k + 1) A' ∧ CallT (fun n => G79 n a e) A r A' ∧ CallM (fun n => F203 n a e) A r A' := by
  have ok1 := OkA_s ok
  have kw := OkA_w ok
  have hn := kw.1
  rcases i32_cases a with ⟨s, hx, rfl⟩ | hx
  · by_cases hs : s < A.2.2.1.2.1.1 0 1
    · rcases swc e 5 (by decide) with ⟨j, hj, rfl⟩ | he
      · have o := kw.2.1 s hs
        have hof := o.2.2.2.2.2.2
        refine ⟨scrapA A.2.2.1.2.1 s j, A, ok1, callT_id (fun T G h => ?_), callM_id (fun S h => ?_)⟩
        · refine ev_succ (fun n => G79e0 n ..) ?_
          have hw := CD_w h
          obtain ⟨r1, r2, r3, r4, r5, r6, r7, r8⟩ := hw.2.2.2.1 s hs
          simp only [G79b0]
          refine ev_bind (g80n ok h hx) ?_
          have hj' : j = 0 ∨ j = 1 ∨ j = 2 ∨ j = 3 ∨ j = 4 ∨ j = 5 := by omega
          rcases hj' with rfl | rfl | rfl | rfl | rfl | rfl
          · simp (disch := omega) only [hs, if_ne_b2i, sw5, nI_eqP, L0, L1, L2, L3, L4, L5, L6, L7, L8, L9, L10, L11, L12, L13, L16, L20, L31, L32, L40, L48, L57, L59, L60, L61, L91, L93, L97, L99, L100, L102, L103, L114, L122, L255, L300, L400, L402, L999, L2280, L2500, L99999, L63, L1431655765, L858993459, L252645135, ic_ge, ic_gt, ic_le, ic_lt, ic_eq, ic_ne, if_lt, if_ge, if_gt, if_le, if_eq, if_ne, if_lt_zI, if_ge_zI, ic_ne_m1, ic_eq_m1, ic_nn_m1, ic_ee_m1, if_ne_b2i, if_eq_b2i, b2i_z, decide_eq_true_eq, decide_true, decide_false, Bool.not_eq_true, Bool.not_eq_true', Bool.not_true, Bool.not_false, decide_eq_false_iff_not, Bool.false_eq_true, not_false_eq_true, not_true_eq_false, if_true, if_false, ↓reduceIte, eq_self, Option.bind_some, Bool.true_and, Bool.false_and, Bool.and_true, Bool.and_false, nI_add, nI_subN, nI_clamp, gdF, gdF2, gdP, gdP2, zI_cl, zI_s, Lm1, nI_n0, zI_n0, leF, or_false, false_or, or_self, r1]
            exact ev_ret
          · simp (disch := omega) only [hs, if_ne_b2i, sw5, nI_eqP, L0, L1, L2, L3, L4, L5, L6, L7, L8, L9, L10, L11, L12, L13, L16, L20, L31, L32, L40, L48, L57, L59, L60, L61, L91, L93, L97, L99, L100, L102, L103, L114, L122, L255, L300, L400, L402, L999, L2280, L2500, L99999, L63, L1431655765, L858993459, L252645135, ic_ge, ic_gt, ic_le, ic_lt, ic_eq, ic_ne, if_lt, if_ge, if_gt, if_le, if_eq, if_ne, if_lt_zI, if_ge_zI, ic_ne_m1, ic_eq_m1, ic_nn_m1, ic_ee_m1, if_ne_b2i, if_eq_b2i, b2i_z, decide_eq_true_eq, decide_true, decide_false, Bool.not_eq_true, Bool.not_eq_true', Bool.not_true, Bool.not_false, decide_eq_false_iff_not, Bool.false_eq_true, not_false_eq_true, not_true_eq_false, if_true, if_false, ↓reduceIte, eq_self, Option.bind_some, Bool.true_and, Bool.false_and, Bool.and_true, Bool.and_false, nI_add, nI_subN, nI_clamp, gdF, gdF2, gdP, gdP2, zI_cl, zI_s, Lm1, nI_n0, zI_n0, leF, or_false, false_or, or_self, r2, show ¬ 1 = 0 by decide]
            exact ev_ret
          · simp (disch := omega) only [hs, if_ne_b2i, sw5, nI_eqP, L0, L1, L2, L3, L4, L5, L6, L7, L8, L9, L10, L11, L12, L13, L16, L20, L31, L32, L40, L48, L57, L59, L60, L61, L91, L93, L97, L99, L100, L102, L103, L114, L122, L255, L300, L400, L402, L999, L2280, L2500, L99999, L63, L1431655765, L858993459, L252645135, ic_ge, ic_gt, ic_le, ic_lt, ic_eq, ic_ne, if_lt, if_ge, if_gt, if_le, if_eq, if_ne, if_lt_zI, if_ge_zI, ic_ne_m1, ic_eq_m1, ic_nn_m1, ic_ee_m1, if_ne_b2i, if_eq_b2i, b2i_z, decide_eq_true_eq, decide_true, decide_false, Bool.not_eq_true, Bool.not_eq_true', Bool.not_true, Bool.not_false, decide_eq_false_iff_not, Bool.false_eq_true, not_false_eq_true, not_true_eq_false, if_true, if_false, ↓reduceIte, eq_self, Option.bind_some, Bool.true_and, Bool.false_and, Bool.and_true, Bool.and_false, nI_add, nI_subN, nI_clamp, gdF, gdF2, gdP, gdP2, zI_cl, zI_s, Lm1, nI_n0, zI_n0, leF, or_false, false_or, or_self, r5, show ¬ 2 = 0 by decide, show ¬ 2 = 1 by decide]
            show Ev _ (if A.2.2.1.2.1.1 1 s = 0 then nI 0 else nI (A.2.2.1.2.1.1 3 s), T)
            by_cases h0 : A.2.2.1.2.1.1 1 s = 0
            · rw [if_pos h0, hof h0]
              exact ev_ret
            · rw [if_neg h0]
              exact ev_ret
          · simp (disch := omega) only [hs, if_ne_b2i, sw5, nI_eqP, L0, L1, L2, L3, L4, L5, L6, L7, L8, L9, L10, L11, L12, L13, L16, L20, L31, L32, L40, L48, L57, L59, L60, L61, L91, L93, L97, L99, L100, L102, L103, L114, L122, L255, L300, L400, L402, L999, L2280, L2500, L99999, L63, L1431655765, L858993459, L252645135, ic_ge, ic_gt, ic_le, ic_lt, ic_eq, ic_ne, if_lt, if_ge, if_gt, if_le, if_eq, if_ne, if_lt_zI, if_ge_zI, ic_ne_m1, ic_eq_m1, ic_nn_m1, ic_ee_m1, if_ne_b2i, if_eq_b2i, b2i_z, decide_eq_true_eq, decide_true, decide_false, Bool.not_eq_true, Bool.not_eq_true', Bool.not_true, Bool.not_false, decide_eq_false_iff_not, Bool.false_eq_true, not_false_eq_true, not_true_eq_false, if_true, if_false, ↓reduceIte, eq_self, Option.bind_some, Bool.true_and, Bool.false_and, Bool.and_true, Bool.and_false, nI_add, nI_subN, nI_clamp, gdF, gdF2, gdP, gdP2, zI_cl, zI_s, Lm1, nI_n0, zI_n0, leF, or_false, false_or, or_self, r6, show ¬ 3 = 0 by decide, show ¬ 3 = 1 by decide, show ¬ 3 = 2 by decide]
            exact ev_ret
          · simp (disch := omega) only [hs, if_ne_b2i, sw5, nI_eqP, L0, L1, L2, L3, L4, L5, L6, L7, L8, L9, L10, L11, L12, L13, L16, L20, L31, L32, L40, L48, L57, L59, L60, L61, L91, L93, L97, L99, L100, L102, L103, L114, L122, L255, L300, L400, L402, L999, L2280, L2500, L99999, L63, L1431655765, L858993459, L252645135, ic_ge, ic_gt, ic_le, ic_lt, ic_eq, ic_ne, if_lt, if_ge, if_gt, if_le, if_eq, if_ne, if_lt_zI, if_ge_zI, ic_ne_m1, ic_eq_m1, ic_nn_m1, ic_ee_m1, if_ne_b2i, if_eq_b2i, b2i_z, decide_eq_true_eq, decide_true, decide_false, Bool.not_eq_true, Bool.not_eq_true', Bool.not_true, Bool.not_false, decide_eq_false_iff_not, Bool.false_eq_true, not_false_eq_true, not_true_eq_false, if_true, if_false, ↓reduceIte, eq_self, Option.bind_some, Bool.true_and, Bool.false_and, Bool.and_true, Bool.and_false, nI_add, nI_subN, nI_clamp, gdF, gdF2, gdP, gdP2, zI_cl, zI_s, Lm1, nI_n0, zI_n0, leF, or_false, false_or, or_self, r7, show ¬ 4 = 0 by decide, show ¬ 4 = 1 by decide, show ¬ 4 = 2 by decide, show ¬ 4 = 3 by decide]
            exact ev_ret
          · simp (disch := omega) only [hs, if_ne_b2i, sw5, nI_eqP, L0, L1, L2, L3, L4, L5, L6, L7, L8, L9, L10, L11, L12, L13, L16, L20, L31, L32, L40, L48, L57, L59, L60, L61, L91, L93, L97, L99, L100, L102, L103, L114, L122, L255, L300, L400, L402, L999, L2280, L2500, L99999, L63, L1431655765, L858993459, L252645135, ic_ge, ic_gt, ic_le, ic_lt, ic_eq, ic_ne, if_lt, if_ge, if_gt, if_le, if_eq, if_ne, if_lt_zI, if_ge_zI, ic_ne_m1, ic_eq_m1, ic_nn_m1, ic_ee_m1, if_ne_b2i, if_eq_b2i, b2i_z, decide_eq_true_eq, decide_true, decide_false, Bool.not_eq_true, Bool.not_eq_true', Bool.not_true, Bool.not_false, decide_eq_false_iff_not, Bool.false_eq_true, not_false_eq_true, not_true_eq_false, if_true, if_false, ↓reduceIte, eq_self, Option.bind_some, Bool.true_and, Bool.false_and, Bool.and_true, Bool.and_false, nI_add, nI_subN, nI_clamp, gdF, gdF2, gdP, gdP2, zI_cl, zI_s, Lm1, nI_n0, zI_n0, leF, or_false, false_or, or_self, r8, show ¬ 5 = 0 by decide, show ¬ 5 = 1 by decide, show ¬ 5 = 2 by decide, show ¬ 5 = 3 by decide, show ¬ 5 = 4 by decide]
            exact ev_ret
        · refine ev_succ (fun n => F203e0 n ..) ?_
          have hw := MD_w h
          obtain ⟨r1, r2, r3, r4, r5⟩ := hw.2.2.2.1 s hs
          simp only [F203b0]
          refine ev_bind (f204n ok h hx) ?_
          have hj' : j = 0 ∨ j = 1 ∨ j = 2 ∨ j = 3 ∨ j = 4 ∨ j = 5 := by omega
          rcases hj' with rfl | rfl | rfl | rfl | rfl | rfl
          · simp (disch := omega) only [hs, if_ne_b2i, sw5, nI_eqP, L0, L1, L2, L3, L4, L5, L6, L7, L8, L9, L10, L11, L12, L13, L16, L20, L31, L32, L40, L48, L57, L59, L60, L61, L91, L93, L97, L99, L100, L102, L103, L114, L122, L255, L300, L400, L402, L999, L2280, L2500, L99999, L63, L1431655765, L858993459, L252645135, ic_ge, ic_gt, ic_le, ic_lt, ic_eq, ic_ne, if_lt, if_ge, if_gt, if_le, if_eq, if_ne, if_lt_zI, if_ge_zI, ic_ne_m1, ic_eq_m1, ic_nn_m1, ic_ee_m1, if_ne_b2i, if_eq_b2i, b2i_z, decide_eq_true_eq, decide_true, decide_false, Bool.not_eq_true, Bool.not_eq_true', Bool.not_true, Bool.not_false, decide_eq_false_iff_not, Bool.false_eq_true, not_false_eq_true, not_true_eq_false, if_true, if_false, ↓reduceIte, eq_self, Option.bind_some, Bool.true_and, Bool.false_and, Bool.and_true, Bool.and_false, nI_add, nI_subN, nI_clamp, gdF, gdF2, gdP, gdP2, zI_cl, zI_s, Lm1, nI_n0, zI_n0, leF, or_false, false_or, or_self]
            refine ev_bind (f202 hw kw hs) ?_
            by_cases h0 : A.2.2.1.2.1.1 1 s = 0
            · simp only [h0, if_eq_b2i, decide_eq_true_eq, decide_true, decide_false, Bool.not_eq_true, Bool.not_eq_true', Bool.not_true, Bool.not_false, decide_eq_false_iff_not, Bool.false_eq_true, not_false_eq_true, not_true_eq_false, if_true, if_false, ↓reduceIte, eq_self, Option.bind_some, Bool.true_and, Bool.false_and, Bool.and_true, Bool.and_false]
              unfold scrapA
              simp only [h0, decide_eq_true_eq, decide_true, decide_false, Bool.not_eq_true, Bool.not_eq_true', Bool.not_true, Bool.not_false, decide_eq_false_iff_not, Bool.false_eq_true, not_false_eq_true, not_true_eq_false, if_true, if_false, ↓reduceIte, eq_self, Option.bind_some, Bool.true_and, Bool.false_and, Bool.and_true, Bool.and_false]
              exact ev_ret
            · simp (disch := omega) only [h0, if_eq_b2i, L0, L1, L2, L3, L4, L5, L6, L7, L8, L9, L10, L11, L12, L13, L16, L20, L31, L32, L40, L48, L57, L59, L60, L61, L91, L93, L97, L99, L100, L102, L103, L114, L122, L255, L300, L400, L402, L999, L2280, L2500, L99999, L63, L1431655765, L858993459, L252645135, ic_ge, ic_gt, ic_le, ic_lt, ic_eq, ic_ne, if_lt, if_ge, if_gt, if_le, if_eq, if_ne, if_lt_zI, if_ge_zI, ic_ne_m1, ic_eq_m1, ic_nn_m1, ic_ee_m1, if_ne_b2i, if_eq_b2i, b2i_z, decide_eq_true_eq, decide_true, decide_false, Bool.not_eq_true, Bool.not_eq_true', Bool.not_true, Bool.not_false, decide_eq_false_iff_not, Bool.false_eq_true, not_false_eq_true, not_true_eq_false, if_true, if_false, ↓reduceIte, eq_self, Option.bind_some, Bool.true_and, Bool.false_and, Bool.and_true, Bool.and_false, nI_add, nI_subN, nI_clamp, gdF, gdF2, gdP, gdP2, zI_cl, zI_s, Lm1, nI_n0, zI_n0, leF, or_false, false_or, or_self, (r1 h0).1]
              unfold scrapA
              obtain ⟨c, hc⟩ : ∃ c, A.2.2.1.2.1.1 1 s = c + 1 := ⟨A.2.2.1.2.1.1 1 s - 1, by omega⟩
              have hz : ¬ c + 1 = 0 := by omega
              simp only [hc, hz, zI_s, Nat.add_sub_cancel, decide_eq_true_eq, decide_true, decide_false, Bool.not_eq_true, Bool.not_eq_true', Bool.not_true, Bool.not_false, decide_eq_false_iff_not, Bool.false_eq_true, not_false_eq_true, not_true_eq_false, if_true, if_false, ↓reduceIte, eq_self, Option.bind_some, Bool.true_and, Bool.false_and, Bool.and_true, Bool.and_false]
              exact ev_ret
          · simp (disch := omega) only [hs, if_ne_b2i, sw5, nI_eqP, L0, L1, L2, L3, L4, L5, L6, L7, L8, L9, L10, L11, L12, L13, L16, L20, L31, L32, L40, L48, L57, L59, L60, L61, L91, L93, L97, L99, L100, L102, L103, L114, L122, L255, L300, L400, L402, L999, L2280, L2500, L99999, L63, L1431655765, L858993459, L252645135, ic_ge, ic_gt, ic_le, ic_lt, ic_eq, ic_ne, if_lt, if_ge, if_gt, if_le, if_eq, if_ne, if_lt_zI, if_ge_zI, ic_ne_m1, ic_eq_m1, ic_nn_m1, ic_ee_m1, if_ne_b2i, if_eq_b2i, b2i_z, decide_eq_true_eq, decide_true, decide_false, Bool.not_eq_true, Bool.not_eq_true', Bool.not_true, Bool.not_false, decide_eq_false_iff_not, Bool.false_eq_true, not_false_eq_true, not_true_eq_false, if_true, if_false, ↓reduceIte, eq_self, Option.bind_some, Bool.true_and, Bool.false_and, Bool.and_true, Bool.and_false, nI_add, nI_subN, nI_clamp, gdF, gdF2, gdP, gdP2, zI_cl, zI_s, Lm1, nI_n0, zI_n0, leF, or_false, false_or, or_self, r2, show ¬ 1 = 0 by decide]
            exact ev_ret
          · simp (disch := omega) only [hs, if_ne_b2i, sw5, nI_eqP, L0, L1, L2, L3, L4, L5, L6, L7, L8, L9, L10, L11, L12, L13, L16, L20, L31, L32, L40, L48, L57, L59, L60, L61, L91, L93, L97, L99, L100, L102, L103, L114, L122, L255, L300, L400, L402, L999, L2280, L2500, L99999, L63, L1431655765, L858993459, L252645135, ic_ge, ic_gt, ic_le, ic_lt, ic_eq, ic_ne, if_lt, if_ge, if_gt, if_le, if_eq, if_ne, if_lt_zI, if_ge_zI, ic_ne_m1, ic_eq_m1, ic_nn_m1, ic_ee_m1, if_ne_b2i, if_eq_b2i, b2i_z, decide_eq_true_eq, decide_true, decide_false, Bool.not_eq_true, Bool.not_eq_true', Bool.not_true, Bool.not_false, decide_eq_false_iff_not, Bool.false_eq_true, not_false_eq_true, not_true_eq_false, if_true, if_false, ↓reduceIte, eq_self, Option.bind_some, Bool.true_and, Bool.false_and, Bool.and_true, Bool.and_false, nI_add, nI_subN, nI_clamp, gdF, gdF2, gdP, gdP2, zI_cl, zI_s, Lm1, nI_n0, zI_n0, leF, or_false, false_or, or_self, show ¬ 2 = 0 by decide, show ¬ 2 = 1 by decide]
            refine ev_bind (f202 hw kw hs) ?_
            by_cases h0 : A.2.2.1.2.1.1 1 s = 0
            · simp only [h0, if_eq_b2i, decide_eq_true_eq, decide_true, decide_false, Bool.not_eq_true, Bool.not_eq_true', Bool.not_true, Bool.not_false, decide_eq_false_iff_not, Bool.false_eq_true, not_false_eq_true, not_true_eq_false, if_true, if_false, ↓reduceIte, eq_self, Option.bind_some, Bool.true_and, Bool.false_and, Bool.and_true, Bool.and_false]
              unfold scrapA
              simp only [h0, decide_eq_true_eq, decide_true, decide_false, Bool.not_eq_true, Bool.not_eq_true', Bool.not_true, Bool.not_false, decide_eq_false_iff_not, Bool.false_eq_true, not_false_eq_true, not_true_eq_false, if_true, if_false, ↓reduceIte, eq_self, Option.bind_some, Bool.true_and, Bool.false_and, Bool.and_true, Bool.and_false, show ¬ 2 = 0 by decide, show ¬ 2 = 1 by decide]
              exact ev_ret
            · simp (disch := omega) only [h0, if_eq_b2i, L0, L1, L2, L3, L4, L5, L6, L7, L8, L9, L10, L11, L12, L13, L16, L20, L31, L32, L40, L48, L57, L59, L60, L61, L91, L93, L97, L99, L100, L102, L103, L114, L122, L255, L300, L400, L402, L999, L2280, L2500, L99999, L63, L1431655765, L858993459, L252645135, ic_ge, ic_gt, ic_le, ic_lt, ic_eq, ic_ne, if_lt, if_ge, if_gt, if_le, if_eq, if_ne, if_lt_zI, if_ge_zI, ic_ne_m1, ic_eq_m1, ic_nn_m1, ic_ee_m1, if_ne_b2i, if_eq_b2i, b2i_z, decide_eq_true_eq, decide_true, decide_false, Bool.not_eq_true, Bool.not_eq_true', Bool.not_true, Bool.not_false, decide_eq_false_iff_not, Bool.false_eq_true, not_false_eq_true, not_true_eq_false, if_true, if_false, ↓reduceIte, eq_self, Option.bind_some, Bool.true_and, Bool.false_and, Bool.and_true, Bool.and_false, nI_add, nI_subN, nI_clamp, gdF, gdF2, gdP, gdP2, zI_cl, zI_s, Lm1, nI_n0, zI_n0, leF, or_false, false_or, or_self, (r1 h0).2]
              unfold scrapA
              obtain ⟨c, hc⟩ : ∃ c, A.2.2.1.2.1.1 1 s = c + 1 := ⟨A.2.2.1.2.1.1 1 s - 1, by omega⟩
              have hz : ¬ c + 1 = 0 := by omega
              simp only [hc, hz, zI_s, Nat.add_sub_cancel, decide_eq_true_eq, decide_true, decide_false, Bool.not_eq_true, Bool.not_eq_true', Bool.not_true, Bool.not_false, decide_eq_false_iff_not, Bool.false_eq_true, not_false_eq_true, not_true_eq_false, if_true, if_false, ↓reduceIte, eq_self, Option.bind_some, Bool.true_and, Bool.false_and, Bool.and_true, Bool.and_false, show ¬ 2 = 0 by decide, show ¬ 2 = 1 by decide]
              exact ev_ret
          · simp (disch := omega) only [hs, if_ne_b2i, sw5, nI_eqP, L0, L1, L2, L3, L4, L5, L6, L7, L8, L9, L10, L11, L12, L13, L16, L20, L31, L32, L40, L48, L57, L59, L60, L61, L91, L93, L97, L99, L100, L102, L103, L114, L122, L255, L300, L400, L402, L999, L2280, L2500, L99999, L63, L1431655765, L858993459, L252645135, ic_ge, ic_gt, ic_le, ic_lt, ic_eq, ic_ne, if_lt, if_ge, if_gt, if_le, if_eq, if_ne, if_lt_zI, if_ge_zI, ic_ne_m1, ic_eq_m1, ic_nn_m1, ic_ee_m1, if_ne_b2i, if_eq_b2i, b2i_z, decide_eq_true_eq, decide_true, decide_false, Bool.not_eq_true, Bool.not_eq_true', Bool.not_true, Bool.not_false, decide_eq_false_iff_not, Bool.false_eq_true, not_false_eq_true, not_true_eq_false, if_true, if_false, ↓reduceIte, eq_self, Option.bind_some, Bool.true_and, Bool.false_and, Bool.and_true, Bool.and_false, nI_add, nI_subN, nI_clamp, gdF, gdF2, gdP, gdP2, zI_cl, zI_s, Lm1, nI_n0, zI_n0, leF, or_false, false_or, or_self, r3, show ¬ 3 = 0 by decide, show ¬ 3 = 1 by decide, show ¬ 3 = 2 by decide]
            exact ev_ret
          · simp (disch := omega) only [hs, if_ne_b2i, sw5, nI_eqP, L0, L1, L2, L3, L4, L5, L6, L7, L8, L9, L10, L11, L12, L13, L16, L20, L31, L32, L40, L48, L57, L59, L60, L61, L91, L93, L97, L99, L100, L102, L103, L114, L122, L255, L300, L400, L402, L999, L2280, L2500, L99999, L63, L1431655765, L858993459, L252645135, ic_ge, ic_gt, ic_le, ic_lt, ic_eq, ic_ne, if_lt, if_ge, if_gt, if_le, if_eq, if_ne, if_lt_zI, if_ge_zI, ic_ne_m1, ic_eq_m1, ic_nn_m1, ic_ee_m1, if_ne_b2i, if_eq_b2i, b2i_z, decide_eq_true_eq, decide_true, decide_false, Bool.not_eq_true, Bool.not_eq_true', Bool.not_true, Bool.not_false, decide_eq_false_iff_not, Bool.false_eq_true, not_false_eq_true, not_true_eq_false, if_true, if_false, ↓reduceIte, eq_self, Option.bind_some, Bool.true_and, Bool.false_and, Bool.and_true, Bool.and_false, nI_add, nI_subN, nI_clamp, gdF, gdF2, gdP, gdP2, zI_cl, zI_s, Lm1, nI_n0, zI_n0, leF, or_false, false_or, or_self, r4, show ¬ 4 = 0 by decide, show ¬ 4 = 1 by decide, show ¬ 4 = 2 by decide, show ¬ 4 = 3 by decide]
            exact ev_ret
          · simp (disch := omega) only [hs, if_ne_b2i, sw5, nI_eqP, L0, L1, L2, L3, L4, L5, L6, L7, L8, L9, L10, L11, L12, L13, L16, L20, L31, L32, L40, L48, L57, L59, L60, L61, L91, L93, L97, L99, L100, L102, L103, L114, L122, L255, L300, L400, L402, L999, L2280, L2500, L99999, L63, L1431655765, L858993459, L252645135, ic_ge, ic_gt, ic_le, ic_lt, ic_eq, ic_ne, if_lt, if_ge, if_gt, if_le, if_eq, if_ne, if_lt_zI, if_ge_zI, ic_ne_m1, ic_eq_m1, ic_nn_m1, ic_ee_m1, if_ne_b2i, if_eq_b2i, b2i_z, decide_eq_true_eq, decide_true, decide_false, Bool.not_eq_true, Bool.not_eq_true', Bool.not_true, Bool.not_false, decide_eq_false_iff_not, Bool.false_eq_true, not_false_eq_true, not_true_eq_false, if_true, if_false, ↓reduceIte, eq_self, Option.bind_some, Bool.true_and, Bool.false_and, Bool.and_true, Bool.and_false, nI_add, nI_subN, nI_clamp, gdF, gdF2, gdP, gdP2, zI_cl, zI_s, Lm1, nI_n0, zI_n0, leF, or_false, false_or, or_self, r5, show ¬ 5 = 0 by decide, show ¬ 5 = 1 by decide, show ¬ 5 = 2 by decide, show ¬ 5 = 3 by decide, show ¬ 5 = 4 by decide]
            exact ev_ret
      · refine ⟨-2, A, ok1, callT_id (fun T G h => ?_), callM_id (fun S h => ?_)⟩
        · refine ev_succ (fun n => G79e0 n ..) ?_
          simp only [G79b0]
          refine ev_bind (g80n ok h hx) ?_
          simp only [hs, if_ne_b2i, decide_eq_true_eq, decide_true, decide_false, Bool.not_eq_true, Bool.not_eq_true', Bool.not_true, Bool.not_false, decide_eq_false_iff_not, Bool.false_eq_true, not_false_eq_true, not_true_eq_false, if_true, if_false, ↓reduceIte, eq_self, Option.bind_some, Bool.true_and, Bool.false_and, Bool.and_true, Bool.and_false, if_pos (show (e.toInt < 0 ∨ 5 < e.toInt) from he)]
          exact ev_ret
        · refine ev_succ (fun n => F203e0 n ..) ?_
          simp only [F203b0]
          refine ev_bind (f204n ok h hx) ?_
          simp only [hs, if_ne_b2i, decide_eq_true_eq, decide_true, decide_false, Bool.not_eq_true, Bool.not_eq_true', Bool.not_true, Bool.not_false, decide_eq_false_iff_not, Bool.false_eq_true, not_false_eq_true, not_true_eq_false, if_true, if_false, ↓reduceIte, eq_self, Option.bind_some, Bool.true_and, Bool.false_and, Bool.and_true, Bool.and_false, if_pos (show (e.toInt < 0 ∨ 5 < e.toInt) from he)]
          exact ev_ret
    · refine ⟨-2, A, ok1, callT_id (fun T G h => ?_), callM_id (fun S h => ?_)⟩
      · refine ev_succ (fun n => G79e0 n ..) ?_
        simp only [G79b0]
        refine ev_bind (g80n ok h hx) ?_
        simp only [hs, if_ne_b2i, decide_eq_true_eq, decide_true, decide_false, Bool.not_eq_true, Bool.not_eq_true', Bool.not_true, Bool.not_false, decide_eq_false_iff_not, Bool.false_eq_true, not_false_eq_true, not_true_eq_false, if_true, if_false, ↓reduceIte, eq_self, Option.bind_some, Bool.true_and, Bool.false_and, Bool.and_true, Bool.and_false]
        exact ev_ret
      · refine ev_succ (fun n => F203e0 n ..) ?_
        simp only [F203b0]
        refine ev_bind (f204n ok h hx) ?_
        simp only [hs, if_ne_b2i, decide_eq_true_eq, decide_true, decide_false, Bool.not_eq_true, Bool.not_eq_true', Bool.not_true, Bool.not_false, decide_eq_false_iff_not, Bool.false_eq_true, not_false_eq_true, not_true_eq_false, if_true, if_false, ↓reduceIte, eq_self, Option.bind_some, Bool.true_and, Bool.false_and, Bool.and_true, Bool.and_false]
        exact ev_ret
  · refine ⟨-2, A, ok1, callT_id (fun T G h => ?_), callM_id (fun S h => ?_)⟩
    · refine ev_succ (fun n => G79e0 n ..) ?_
      simp only [G79b0]
      refine ev_bind (g80m hx) ?_
      simp only [if_ne_b2i, decide_eq_true_eq, decide_true, decide_false, Bool.not_eq_true, Bool.not_eq_true', Bool.not_true, Bool.not_false, decide_eq_false_iff_not, Bool.false_eq_true, not_false_eq_true, not_true_eq_false, if_true, if_false, ↓reduceIte, eq_self, Option.bind_some, Bool.true_and, Bool.false_and, Bool.and_true, Bool.and_false]
      exact ev_ret
    · refine ev_succ (fun n => F203e0 n ..) ?_
      simp only [F203b0]
      refine ev_bind (f204m hx) ?_
      simp only [if_ne_b2i, decide_eq_true_eq, decide_true, decide_false, Bool.not_eq_true, Bool.not_eq_true', Bool.not_true, Bool.not_false, decide_eq_false_iff_not, Bool.false_eq_true, not_false_eq_true, not_true_eq_false, if_true, if_false, ↓reduceIte, eq_self, Option.bind_some, Bool.true_and, Bool.false_and, Bool.and_true, Bool.and_false]
      exact ev_ret
def prSum (w : AW) : Nat → Nat → Nat
  | 0, _ => 0
  | m + 1, j => w.1 8 j + prSum w m (j + 1)
theorem prSum_add {w : AW} : ∀ m k j, prSum w (m + k) j = prSum w m j + prSum w k (j + m)
  | 0, k, j => by
    rw [Nat.zero_add, Nat.add_zero]
    show _ = 0 + _
    rw [Nat.zero_add]
  | m + 1, k, j => by
    rw [show m + 1 + k = (m + k) + 1 by omega]
    show w.1 8 j + prSum w (m + k) (j + 1) = w.1 8 j + prSum w m (j + 1) + _
    rw [prSum_add m k (j + 1), show j + 1 + m = j + (m + 1) by omega]
    omega
theorem prSum_0 {w : AW} : ∀ m j, (∀ i, j ≤ i → i < j + m → w.1 8 i = 0) → prSum w m j = 0
  | 0, _, _ => rfl
  | m + 1, j, h => by
    show w.1 8 j + prSum w m (j + 1) = 0
    rw [h j (by omega) (by omega), prSum_0 m (j + 1) (fun i h1 h2 => h i (by omega) (by omega))]
theorem g141l {T : xS} {p : Nat} {w : AW} (hw : CW T p w) : ∀ m j x, j + m = 6 → Ev (fun n => G141f p n 4 (nI x) (nI j) T) (nI (x + prSum w m j), T) := by
  intro m
  induction m with
  | zero =>
    intro j x hj
    refine ev_succ (fun n => G141e4 p n ..) ?_
    have e : 6 ≤ j := by omega
    simp (disch := omega) only [G141b4, L0, L1, L2, L3, L4, L5, L6, L7, L8, L9, L10, L11, L12, L13, L16, L20, L31, L32, L40, L48, L57, L59, L60, L61, L91, L93, L97, L99, L100, L102, L103, L114, L122, L255, L300, L400, L402, L999, L2280, L2500, L99999, L63, L1431655765, L858993459, L252645135, ic_ge, ic_gt, ic_le, ic_lt, ic_eq, ic_ne, if_lt, if_ge, if_gt, if_le, if_eq, if_ne, if_lt_zI, if_ge_zI, ic_ne_m1, ic_eq_m1, ic_nn_m1, ic_ee_m1, if_ne_b2i, if_eq_b2i, b2i_z, decide_eq_true_eq, decide_true, decide_false, Bool.not_eq_true, Bool.not_eq_true', Bool.not_true, Bool.not_false, decide_eq_false_iff_not, Bool.false_eq_true, not_false_eq_true, not_true_eq_false, if_true, if_false, ↓reduceIte, eq_self, Option.bind_some, Bool.true_and, Bool.false_and, Bool.and_true, Bool.and_false, nI_add, nI_subN, nI_clamp, gdF, gdF2, gdP, gdP2, zI_cl, zI_s, Lm1, nI_n0, zI_n0, leF, or_false, false_or, or_self, e]
    exact ev_ret
  | succ m ih =>
    intro j x hj
    refine ev_succ (fun n => G141e4 p n ..) ?_
    have e : ¬ 6 ≤ j := by omega
    have h := hw.2.2.2.2.2 j (by omega)
    simp (disch := omega) only [G141b4, L0, L1, L2, L3, L4, L5, L6, L7, L8, L9, L10, L11, L12, L13, L16, L20, L31, L32, L40, L48, L57, L59, L60, L61, L91, L93, L97, L99, L100, L102, L103, L114, L122, L255, L300, L400, L402, L999, L2280, L2500, L99999, L63, L1431655765, L858993459, L252645135, ic_ge, ic_gt, ic_le, ic_lt, ic_eq, ic_ne, if_lt, if_ge, if_gt, if_le, if_eq, if_ne, if_lt_zI, if_ge_zI, ic_ne_m1, ic_eq_m1, ic_nn_m1, ic_ee_m1, if_ne_b2i, if_eq_b2i, b2i_z, decide_eq_true_eq, decide_true, decide_false, Bool.not_eq_true, Bool.not_eq_true', Bool.not_true, Bool.not_false, decide_eq_false_iff_not, Bool.false_eq_true, not_false_eq_true, not_true_eq_false, if_true, if_false, ↓reduceIte, eq_self, Option.bind_some, Bool.true_and, Bool.false_and, Bool.and_true, Bool.and_false, nI_add, nI_subN, nI_clamp, gdF, gdF2, gdP, gdP2, zI_cl, zI_s, Lm1, nI_n0, zI_n0, leF, or_false, false_or, or_self, e, h]
    refine ev_to (ih (j + 1) (x + w.1 8 j) (by omega)) ?_
    rw [Nat.add_assoc]
    rfl
theorem g141 {T : xS} {p : Nat} {w : AW} (hw : CW T p w) : Ev (fun n => G141 p n T) (nI (prSum w 6 0), T) := by
  refine ev_succ (fun n => G141e0 p n ..) ?_
  simp only [G141b0, L0]
  exact ev_to (g141l hw 6 0 0 (by omega)) (by rw [Nat.zero_add])
theorem f259l {S : mS} {b : AB} {w : AW} (hB : MB S.2.1 b) (hb : OkB b) (hw : MW S.2.1 w) : ∀ m j x, j + m = b 0 1 → Ev (fun n => F259f n 4 (nI x) (nI j) S) (nI (x + prSum w m j), S) := by
  have h6 := hb.2.1
  intro m
  induction m with
  | zero =>
    intro j x hj
    refine ev_succ (fun n => F259e4 n ..) ?_
    have e : b 0 1 ≤ j := by omega
    simp (disch := omega) only [F259b4, hB.2.1, L0, L1, L2, L3, L4, L5, L6, L7, L8, L9, L10, L11, L12, L13, L16, L20, L31, L32, L40, L48, L57, L59, L60, L61, L91, L93, L97, L99, L100, L102, L103, L114, L122, L255, L300, L400, L402, L999, L2280, L2500, L99999, L63, L1431655765, L858993459, L252645135, ic_ge, ic_gt, ic_le, ic_lt, ic_eq, ic_ne, if_lt, if_ge, if_gt, if_le, if_eq, if_ne, if_lt_zI, if_ge_zI, ic_ne_m1, ic_eq_m1, ic_nn_m1, ic_ee_m1, if_ne_b2i, if_eq_b2i, b2i_z, decide_eq_true_eq, decide_true, decide_false, Bool.not_eq_true, Bool.not_eq_true', Bool.not_true, Bool.not_false, decide_eq_false_iff_not, Bool.false_eq_true, not_false_eq_true, not_true_eq_false, if_true, if_false, ↓reduceIte, eq_self, Option.bind_some, Bool.true_and, Bool.false_and, Bool.and_true, Bool.and_false, nI_add, nI_subN, nI_clamp, gdF, gdF2, gdP, gdP2, zI_cl, zI_s, Lm1, nI_n0, zI_n0, leF, or_false, false_or, or_self, e]
    exact ev_ret
  | succ m ih =>
    intro j x hj
    refine ev_succ (fun n => F259e4 n ..) ?_
    have e : ¬ b 0 1 ≤ j := by omega
    have h := hw.2.2.2.2.1 j (by omega)
    simp (disch := omega) only [F259b4, hB.2.1, L0, L1, L2, L3, L4, L5, L6, L7, L8, L9, L10, L11, L12, L13, L16, L20, L31, L32, L40, L48, L57, L59, L60, L61, L91, L93, L97, L99, L100, L102, L103, L114, L122, L255, L300, L400, L402, L999, L2280, L2500, L99999, L63, L1431655765, L858993459, L252645135, ic_ge, ic_gt, ic_le, ic_lt, ic_eq, ic_ne, if_lt, if_ge, if_gt, if_le, if_eq, if_ne, if_lt_zI, if_ge_zI, ic_ne_m1, ic_eq_m1, ic_nn_m1, ic_ee_m1, if_ne_b2i, if_eq_b2i, b2i_z, decide_eq_true_eq, decide_true, decide_false, Bool.not_eq_true, Bool.not_eq_true', Bool.not_true, Bool.not_false, decide_eq_false_iff_not, Bool.false_eq_true, not_false_eq_true, not_true_eq_false, if_true, if_false, ↓reduceIte, eq_self, Option.bind_some, Bool.true_and, Bool.false_and, Bool.and_true, Bool.and_false, nI_add, nI_subN, nI_clamp, gdF, gdF2, gdP, gdP2, zI_cl, zI_s, Lm1, nI_n0, zI_n0, leF, or_false, false_or, or_self, e, h]
    refine ev_to (ih (j + 1) (x + w.1 8 j) (by omega)) ?_
    rw [Nat.add_assoc]
    rfl
theorem f259 {S : mS} {b : AB} {w : AW} (hB : MB S.2.1 b) (hb : OkB b) (hw : MW S.2.1 w) (ok : OkW b w) : Ev (fun n => F259 n S) (nI (prSum w 6 0), S) := by
  refine ev_succ (fun n => F259e0 n ..) ?_
  simp only [F259b0, L0]
  refine ev_to (f259l hB hb hw (b 0 1) 0 0 (by omega)) ?_
  have h6 := hb.2.1
  obtain ⟨j, hj⟩ : ∃ j, 6 = b 0 1 + j := ⟨6 - b 0 1, by omega⟩
  rw [Nat.zero_add, hj, prSum_add, prSum_0 j _ (fun i h1 h2 => ok.2.2.2 i (by omega) (by omega)), Nat.add_zero]
theorem g113l {T : xS} {p : Nat} {w : AW} (hw : CW T p w) (hn : w.1 0 1 ≤ 13) (hp : ∀ s, s < w.1 0 1 → w.1 1 s ≤ 16) : ∀ m s x, s + m = w.1 0 1 → Ev (fun n => G113f p n 4 (nI x) (nI s) T) (nI (bsF (fun s => !decide (w.1 1 s = 0)) m s x), T) := by
  intro m
  induction m with
  | zero =>
    intro s x hs
    refine ev_succ (fun n => G113e4 p n ..) ?_
    have e : w.1 0 1 ≤ s := by omega
    simp (disch := omega) only [G113b4, hw.2.1, L0, L1, L2, L3, L4, L5, L6, L7, L8, L9, L10, L11, L12, L13, L16, L20, L31, L32, L40, L48, L57, L59, L60, L61, L91, L93, L97, L99, L100, L102, L103, L114, L122, L255, L300, L400, L402, L999, L2280, L2500, L99999, L63, L1431655765, L858993459, L252645135, ic_ge, ic_gt, ic_le, ic_lt, ic_eq, ic_ne, if_lt, if_ge, if_gt, if_le, if_eq, if_ne, if_lt_zI, if_ge_zI, ic_ne_m1, ic_eq_m1, ic_nn_m1, ic_ee_m1, if_ne_b2i, if_eq_b2i, b2i_z, decide_eq_true_eq, decide_true, decide_false, Bool.not_eq_true, Bool.not_eq_true', Bool.not_true, Bool.not_false, decide_eq_false_iff_not, Bool.false_eq_true, not_false_eq_true, not_true_eq_false, if_true, if_false, ↓reduceIte, eq_self, Option.bind_some, Bool.true_and, Bool.false_and, Bool.and_true, Bool.and_false, nI_add, nI_subN, nI_clamp, gdF, gdF2, gdP, gdP2, zI_cl, zI_s, Lm1, nI_n0, zI_n0, leF, or_false, false_or, or_self, e]
    exact ev_ret
  | succ m ih =>
    intro s x hs
    refine ev_succ (fun n => G113e4 p n ..) ?_
    have e : ¬ w.1 0 1 ≤ s := by omega
    have hr := (hw.2.2.2.1 s (by omega)).1
    have h16 := hp s (by omega)
    simp (disch := omega) only [G113b4, hw.2.1, L0, L1, L2, L3, L4, L5, L6, L7, L8, L9, L10, L11, L12, L13, L16, L20, L31, L32, L40, L48, L57, L59, L60, L61, L91, L93, L97, L99, L100, L102, L103, L114, L122, L255, L300, L400, L402, L999, L2280, L2500, L99999, L63, L1431655765, L858993459, L252645135, ic_ge, ic_gt, ic_le, ic_lt, ic_eq, ic_ne, if_lt, if_ge, if_gt, if_le, if_eq, if_ne, if_lt_zI, if_ge_zI, ic_ne_m1, ic_eq_m1, ic_nn_m1, ic_ee_m1, if_ne_b2i, if_eq_b2i, b2i_z, decide_eq_true_eq, decide_true, decide_false, Bool.not_eq_true, Bool.not_eq_true', Bool.not_true, Bool.not_false, decide_eq_false_iff_not, Bool.false_eq_true, not_false_eq_true, not_true_eq_false, if_true, if_false, ↓reduceIte, eq_self, Option.bind_some, Bool.true_and, Bool.false_and, Bool.and_true, Bool.and_false, nI_add, nI_subN, nI_clamp, gdF, gdF2, gdP, gdP2, zI_cl, zI_s, Lm1, nI_n0, zI_n0, leF, or_false, false_or, or_self, e, hr, nI_shl, nx_or]
    unfold bsF
    by_cases h : w.1 1 s = 0
    · simp only [h, decide_eq_true_eq, decide_true, decide_false, Bool.not_eq_true, Bool.not_eq_true', Bool.not_true, Bool.not_false, decide_eq_false_iff_not, Bool.false_eq_true, not_false_eq_true, not_true_eq_false, if_true, if_false, ↓reduceIte, eq_self, Option.bind_some, Bool.true_and, Bool.false_and, Bool.and_true, Bool.and_false]
      exact ih (s + 1) x (by omega)
    · simp only [h, decide_eq_true_eq, decide_true, decide_false, Bool.not_eq_true, Bool.not_eq_true', Bool.not_true, Bool.not_false, decide_eq_false_iff_not, Bool.false_eq_true, not_false_eq_true, not_true_eq_false, if_true, if_false, ↓reduceIte, eq_self, Option.bind_some, Bool.true_and, Bool.false_and, Bool.and_true, Bool.and_false]
      exact ih (s + 1) _ (by omega)
theorem g113 {T : xS} {p : Nat} {w : AW} (hw : CW T p w) (hn : w.1 0 1 ≤ 13) (hp : ∀ s, s < w.1 0 1 → w.1 1 s ≤ 16) : Ev (fun n => G113 p n T) (nI (bsN (fun s => !decide (w.1 1 s = 0)) (w.1 0 1)), T) := by
  refine ev_succ (fun n => G113e0 p n ..) ?_
  simp only [G113b0, L0]
  exact g113l hw hn hp _ 0 0 (by omega)
theorem g38l {T : xS} {p : Nat} {w : AW} (hw : CW T p w) (h8 : ∀ i, i < 16 → w.1 7 i ≤ 8) : ∀ m j x, j + m = 16 → Ev (fun n => G38f p n 4 (nI x) (nI j) T) (nI (x + ctF (fun c => !decide (w.1 7 c = 0)) m j), T) := by
  intro m
  induction m with
  | zero =>
    intro j x hj
    refine ev_succ (fun n => G38e4 p n ..) ?_
    have e : 16 ≤ j := by omega
    simp (disch := omega) only [G38b4, L0, L1, L2, L3, L4, L5, L6, L7, L8, L9, L10, L11, L12, L13, L16, L20, L31, L32, L40, L48, L57, L59, L60, L61, L91, L93, L97, L99, L100, L102, L103, L114, L122, L255, L300, L400, L402, L999, L2280, L2500, L99999, L63, L1431655765, L858993459, L252645135, ic_ge, ic_gt, ic_le, ic_lt, ic_eq, ic_ne, if_lt, if_ge, if_gt, if_le, if_eq, if_ne, if_lt_zI, if_ge_zI, ic_ne_m1, ic_eq_m1, ic_nn_m1, ic_ee_m1, if_ne_b2i, if_eq_b2i, b2i_z, decide_eq_true_eq, decide_true, decide_false, Bool.not_eq_true, Bool.not_eq_true', Bool.not_true, Bool.not_false, decide_eq_false_iff_not, Bool.false_eq_true, not_false_eq_true, not_true_eq_false, if_true, if_false, ↓reduceIte, eq_self, Option.bind_some, Bool.true_and, Bool.false_and, Bool.and_true, Bool.and_false, nI_add, nI_subN, nI_clamp, gdF, gdF2, gdP, gdP2, zI_cl, zI_s, Lm1, nI_n0, zI_n0, leF, or_false, false_or, or_self, e]
    exact ev_ret
  | succ m ih =>
    intro j x hj
    refine ev_succ (fun n => G38e4 p n ..) ?_
    have e : ¬ 16 ≤ j := by omega
    have h := hw.2.2.2.2.1 j (by omega)
    have h8' := h8 j (by omega)
    simp (disch := omega) only [G38b4, L0, L1, L2, L3, L4, L5, L6, L7, L8, L9, L10, L11, L12, L13, L16, L20, L31, L32, L40, L48, L57, L59, L60, L61, L91, L93, L97, L99, L100, L102, L103, L114, L122, L255, L300, L400, L402, L999, L2280, L2500, L99999, L63, L1431655765, L858993459, L252645135, ic_ge, ic_gt, ic_le, ic_lt, ic_eq, ic_ne, if_lt, if_ge, if_gt, if_le, if_eq, if_ne, if_lt_zI, if_ge_zI, ic_ne_m1, ic_eq_m1, ic_nn_m1, ic_ee_m1, if_ne_b2i, if_eq_b2i, b2i_z, decide_eq_true_eq, decide_true, decide_false, Bool.not_eq_true, Bool.not_eq_true', Bool.not_true, Bool.not_false, decide_eq_false_iff_not, Bool.false_eq_true, not_false_eq_true, not_true_eq_false, if_true, if_false, ↓reduceIte, eq_self, Option.bind_some, Bool.true_and, Bool.false_and, Bool.and_true, Bool.and_false, nI_add, nI_subN, nI_clamp, gdF, gdF2, gdP, gdP2, zI_cl, zI_s, Lm1, nI_n0, zI_n0, leF, or_false, false_or, or_self, e, h]
    rw [ctF_s]
    by_cases h0 : w.1 7 j = 0
    · simp only [h0, decide_eq_true_eq, decide_true, decide_false, Bool.not_eq_true, Bool.not_eq_true', Bool.not_true, Bool.not_false, decide_eq_false_iff_not, Bool.false_eq_true, not_false_eq_true, not_true_eq_false, if_true, if_false, ↓reduceIte, eq_self, Option.bind_some, Bool.true_and, Bool.false_and, Bool.and_true, Bool.and_false, Nat.zero_add]
      exact ih (j + 1) x (by omega)
    · simp only [h0, decide_eq_true_eq, decide_true, decide_false, Bool.not_eq_true, Bool.not_eq_true', Bool.not_true, Bool.not_false, decide_eq_false_iff_not, Bool.false_eq_true, not_false_eq_true, not_true_eq_false, if_true, if_false, ↓reduceIte, eq_self, Option.bind_some, Bool.true_and, Bool.false_and, Bool.and_true, Bool.and_false]
      refine ev_to (ih (j + 1) (x + 1) (by omega)) ?_
      rw [Nat.add_assoc]
theorem g38 {T : xS} {p : Nat} {w : AW} (hw : CW T p w) (h8 : ∀ i, i < 16 → w.1 7 i ≤ 8) : Ev (fun n => G38 p n T) (nI (ctF (fun c => !decide (w.1 7 c = 0)) 16 0), T) := by
  refine ev_succ (fun n => G38e0 p n ..) ?_
  simp only [G38b0, L0]
  exact ev_to (g38l hw h8 16 0 0 (by omega)) (by rw [Nat.zero_add])
theorem sm_count {k : Nat} {e : Int32} (A : AA) (ok : OkA k A) : ∃ r A', OkA (k + 1) A' ∧ CallT (fun n => G148 n e) A r A' ∧ CallM (fun n => F264 n e) A r A' := by
  have ok1 := OkA_s ok
  have kw := OkA_w ok
  have hb := OkA_b ok
  rcases swc e 12 (by decide) with ⟨j, hj, rfl⟩ | he
  · have hj' : j = 0 ∨ j = 1 ∨ j = 2 ∨ j = 3 ∨ j = 4 ∨ j = 5 ∨ j = 6 ∨ j = 7 ∨ j = 8 ∨ j = 9 ∨ j = 10 ∨ j = 11 ∨ j = 12 := by omega
    rcases hj' with rfl | rfl | rfl | rfl | rfl | rfl | rfl | rfl | rfl | rfl | rfl | rfl | rfl
    · refine ⟨nI (A.2.2.1.1 0 0), A, ok1, callT_id (fun T G h => ?_), callM_id (fun S h => ?_)⟩
      · refine ev_succ (fun n => G148e0 n ..) ?_
        have hv : T.1 89 0 = nI (A.2.2.1.1 0 0) := h.2.2.1.1.1
        simp (disch := omega) only [G148b0, sw12, nI_eqP, L0, L1, L2, L3, L4, L5, L6, L7, L8, L9, L10, L11, L12, L13, L16, L20, L31, L32, L40, L48, L57, L59, L60, L61, L91, L93, L97, L99, L100, L102, L103, L114, L122, L255, L300, L400, L402, L999, L2280, L2500, L99999, L63, L1431655765, L858993459, L252645135, decide_eq_true_eq, decide_true, decide_false, Bool.not_eq_true, Bool.not_eq_true', Bool.not_true, Bool.not_false, decide_eq_false_iff_not, Bool.false_eq_true, not_false_eq_true, not_true_eq_false, if_true, if_false, ↓reduceIte, eq_self, Option.bind_some, Bool.true_and, Bool.false_and, Bool.and_true, Bool.and_false, hv]
        exact ev_ret
      · refine ev_succ (fun n => F264e0 n ..) ?_
        have hv : S.2.1 1 0 = nI (A.2.2.1.1 0 0) := h.2.2.1.1.1
        simp (disch := omega) only [F264b0, sw12, nI_eqP, L0, L1, L2, L3, L4, L5, L6, L7, L8, L9, L10, L11, L12, L13, L16, L20, L31, L32, L40, L48, L57, L59, L60, L61, L91, L93, L97, L99, L100, L102, L103, L114, L122, L255, L300, L400, L402, L999, L2280, L2500, L99999, L63, L1431655765, L858993459, L252645135, decide_eq_true_eq, decide_true, decide_false, Bool.not_eq_true, Bool.not_eq_true', Bool.not_true, Bool.not_false, decide_eq_false_iff_not, Bool.false_eq_true, not_false_eq_true, not_true_eq_false, if_true, if_false, ↓reduceIte, eq_self, Option.bind_some, Bool.true_and, Bool.false_and, Bool.and_true, Bool.and_false, hv]
        exact ev_ret
    · refine ⟨nI (A.2.2.1.1 0 1), A, ok1, callT_id (fun T G h => ?_), callM_id (fun S h => ?_)⟩
      · refine ev_succ (fun n => G148e0 n ..) ?_
        have hv : T.1 89 1 = nI (A.2.2.1.1 0 1) := h.2.2.1.1.2.1
        simp (disch := omega) only [G148b0, sw12, nI_eqP, L0, L1, L2, L3, L4, L5, L6, L7, L8, L9, L10, L11, L12, L13, L16, L20, L31, L32, L40, L48, L57, L59, L60, L61, L91, L93, L97, L99, L100, L102, L103, L114, L122, L255, L300, L400, L402, L999, L2280, L2500, L99999, L63, L1431655765, L858993459, L252645135, decide_eq_true_eq, decide_true, decide_false, Bool.not_eq_true, Bool.not_eq_true', Bool.not_true, Bool.not_false, decide_eq_false_iff_not, Bool.false_eq_true, not_false_eq_true, not_true_eq_false, if_true, if_false, ↓reduceIte, eq_self, Option.bind_some, Bool.true_and, Bool.false_and, Bool.and_true, Bool.and_false, hv, show ¬ 1 = 0 by decide]
        exact ev_ret
      · refine ev_succ (fun n => F264e0 n ..) ?_
        have hv : S.2.1 1 1 = nI (A.2.2.1.1 0 1) := h.2.2.1.1.2.1
        simp (disch := omega) only [F264b0, sw12, nI_eqP, L0, L1, L2, L3, L4, L5, L6, L7, L8, L9, L10, L11, L12, L13, L16, L20, L31, L32, L40, L48, L57, L59, L60, L61, L91, L93, L97, L99, L100, L102, L103, L114, L122, L255, L300, L400, L402, L999, L2280, L2500, L99999, L63, L1431655765, L858993459, L252645135, decide_eq_true_eq, decide_true, decide_false, Bool.not_eq_true, Bool.not_eq_true', Bool.not_true, Bool.not_false, decide_eq_false_iff_not, Bool.false_eq_true, not_false_eq_true, not_true_eq_false, if_true, if_false, ↓reduceIte, eq_self, Option.bind_some, Bool.true_and, Bool.false_and, Bool.and_true, Bool.and_false, hv, show ¬ 1 = 0 by decide]
        exact ev_ret
    · refine ⟨nI (A.2.2.1.1 0 2), A, ok1, callT_id (fun T G h => ?_), callM_id (fun S h => ?_)⟩
      · refine ev_succ (fun n => G148e0 n ..) ?_
        have hv : T.1 89 2 = nI (A.2.2.1.1 0 2) := h.2.2.1.1.2.2.1
        simp (disch := omega) only [G148b0, sw12, nI_eqP, L0, L1, L2, L3, L4, L5, L6, L7, L8, L9, L10, L11, L12, L13, L16, L20, L31, L32, L40, L48, L57, L59, L60, L61, L91, L93, L97, L99, L100, L102, L103, L114, L122, L255, L300, L400, L402, L999, L2280, L2500, L99999, L63, L1431655765, L858993459, L252645135, decide_eq_true_eq, decide_true, decide_false, Bool.not_eq_true, Bool.not_eq_true', Bool.not_true, Bool.not_false, decide_eq_false_iff_not, Bool.false_eq_true, not_false_eq_true, not_true_eq_false, if_true, if_false, ↓reduceIte, eq_self, Option.bind_some, Bool.true_and, Bool.false_and, Bool.and_true, Bool.and_false, hv, show ¬ 2 = 0 by decide, show ¬ 2 = 1 by decide]
        exact ev_ret
      · refine ev_succ (fun n => F264e0 n ..) ?_
        have hv : S.2.1 1 2 = nI (A.2.2.1.1 0 2) := h.2.2.1.1.2.2.1
        simp (disch := omega) only [F264b0, sw12, nI_eqP, L0, L1, L2, L3, L4, L5, L6, L7, L8, L9, L10, L11, L12, L13, L16, L20, L31, L32, L40, L48, L57, L59, L60, L61, L91, L93, L97, L99, L100, L102, L103, L114, L122, L255, L300, L400, L402, L999, L2280, L2500, L99999, L63, L1431655765, L858993459, L252645135, decide_eq_true_eq, decide_true, decide_false, Bool.not_eq_true, Bool.not_eq_true', Bool.not_true, Bool.not_false, decide_eq_false_iff_not, Bool.false_eq_true, not_false_eq_true, not_true_eq_false, if_true, if_false, ↓reduceIte, eq_self, Option.bind_some, Bool.true_and, Bool.false_and, Bool.and_true, Bool.and_false, hv, show ¬ 2 = 0 by decide, show ¬ 2 = 1 by decide]
        exact ev_ret
    · refine ⟨nI (ctF (fun c => !decide (A.2.2.1.2.1.1 7 c = 0)) 16 0), A, ok1, callT_id (fun T G h => ?_), callM_id (fun S h => ?_)⟩
      · refine ev_succ (fun n => G148e0 n ..) ?_
        simp (disch := omega) only [G148b0, sw12, nI_eqP, L0, L1, L2, L3, L4, L5, L6, L7, L8, L9, L10, L11, L12, L13, L16, L20, L31, L32, L40, L48, L57, L59, L60, L61, L91, L93, L97, L99, L100, L102, L103, L114, L122, L255, L300, L400, L402, L999, L2280, L2500, L99999, L63, L1431655765, L858993459, L252645135, decide_eq_true_eq, decide_true, decide_false, Bool.not_eq_true, Bool.not_eq_true', Bool.not_true, Bool.not_false, decide_eq_false_iff_not, Bool.false_eq_true, not_false_eq_true, not_true_eq_false, if_true, if_false, ↓reduceIte, eq_self, Option.bind_some, Bool.true_and, Bool.false_and, Bool.and_true, Bool.and_false, show ¬ 3 = 0 by decide, show ¬ 3 = 1 by decide, show ¬ 3 = 2 by decide]
        refine ev_bind (g38 (CD_w h) (fun i hi => (kw.2.2.1 i hi).1)) ?_
        exact ev_ret
      · refine ev_succ (fun n => F264e0 n ..) ?_
        obtain ⟨q, a, _, hv, hq, _⟩ := (MD_w h).2.2.2.2.2
        rw [hq] at hv
        simp (disch := omega) only [F264b0, sw12, nI_eqP, L0, L1, L2, L3, L4, L5, L6, L7, L8, L9, L10, L11, L12, L13, L16, L20, L31, L32, L40, L48, L57, L59, L60, L61, L91, L93, L97, L99, L100, L102, L103, L114, L122, L255, L300, L400, L402, L999, L2280, L2500, L99999, L63, L1431655765, L858993459, L252645135, decide_eq_true_eq, decide_true, decide_false, Bool.not_eq_true, Bool.not_eq_true', Bool.not_true, Bool.not_false, decide_eq_false_iff_not, Bool.false_eq_true, not_false_eq_true, not_true_eq_false, if_true, if_false, ↓reduceIte, eq_self, Option.bind_some, Bool.true_and, Bool.false_and, Bool.and_true, Bool.and_false, hv, show ¬ 3 = 0 by decide, show ¬ 3 = 1 by decide, show ¬ 3 = 2 by decide]
        exact ev_ret
    · refine ⟨nI (A.2.2.1.2.1.1 0 1), A, ok1, callT_id (fun T G h => ?_), callM_id (fun S h => ?_)⟩
      · refine ev_succ (fun n => G148e0 n ..) ?_
        have hv : T.1 95 1 = nI (A.2.2.1.2.1.1 0 1) := h.2.2.1.2.1.2.1
        simp (disch := omega) only [G148b0, sw12, nI_eqP, L0, L1, L2, L3, L4, L5, L6, L7, L8, L9, L10, L11, L12, L13, L16, L20, L31, L32, L40, L48, L57, L59, L60, L61, L91, L93, L97, L99, L100, L102, L103, L114, L122, L255, L300, L400, L402, L999, L2280, L2500, L99999, L63, L1431655765, L858993459, L252645135, decide_eq_true_eq, decide_true, decide_false, Bool.not_eq_true, Bool.not_eq_true', Bool.not_true, Bool.not_false, decide_eq_false_iff_not, Bool.false_eq_true, not_false_eq_true, not_true_eq_false, if_true, if_false, ↓reduceIte, eq_self, Option.bind_some, Bool.true_and, Bool.false_and, Bool.and_true, Bool.and_false, hv, show ¬ 4 = 0 by decide, show ¬ 4 = 1 by decide, show ¬ 4 = 2 by decide, show ¬ 4 = 3 by decide]
        exact ev_ret
      · refine ev_succ (fun n => F264e0 n ..) ?_
        have hv : S.2.1 1 4 = nI (A.2.2.1.2.1.1 0 1) := h.2.2.1.2.1.1
        simp (disch := omega) only [F264b0, sw12, nI_eqP, L0, L1, L2, L3, L4, L5, L6, L7, L8, L9, L10, L11, L12, L13, L16, L20, L31, L32, L40, L48, L57, L59, L60, L61, L91, L93, L97, L99, L100, L102, L103, L114, L122, L255, L300, L400, L402, L999, L2280, L2500, L99999, L63, L1431655765, L858993459, L252645135, decide_eq_true_eq, decide_true, decide_false, Bool.not_eq_true, Bool.not_eq_true', Bool.not_true, Bool.not_false, decide_eq_false_iff_not, Bool.false_eq_true, not_false_eq_true, not_true_eq_false, if_true, if_false, ↓reduceIte, eq_self, Option.bind_some, Bool.true_and, Bool.false_and, Bool.and_true, Bool.and_false, hv, show ¬ 4 = 0 by decide, show ¬ 4 = 1 by decide, show ¬ 4 = 2 by decide, show ¬ 4 = 3 by decide]
        exact ev_ret
    · refine ⟨nI A.2.1.1, A, ok1, callT_id (fun T G h => ?_), callM_id (fun S h => ?_)⟩
      · refine ev_succ (fun n => G148e0 n ..) ?_
        have hv : T.1 64 4 = nI A.2.1.1 := h.2.1.1
        simp (disch := omega) only [G148b0, sw12, nI_eqP, L0, L1, L2, L3, L4, L5, L6, L7, L8, L9, L10, L11, L12, L13, L16, L20, L31, L32, L40, L48, L57, L59, L60, L61, L91, L93, L97, L99, L100, L102, L103, L114, L122, L255, L300, L400, L402, L999, L2280, L2500, L99999, L63, L1431655765, L858993459, L252645135, decide_eq_true_eq, decide_true, decide_false, Bool.not_eq_true, Bool.not_eq_true', Bool.not_true, Bool.not_false, decide_eq_false_iff_not, Bool.false_eq_true, not_false_eq_true, not_true_eq_false, if_true, if_false, ↓reduceIte, eq_self, Option.bind_some, Bool.true_and, Bool.false_and, Bool.and_true, Bool.and_false, hv, show ¬ 5 = 0 by decide, show ¬ 5 = 1 by decide, show ¬ 5 = 2 by decide, show ¬ 5 = 3 by decide, show ¬ 5 = 4 by decide]
        exact ev_ret
      · refine ev_succ (fun n => F264e0 n ..) ?_
        have hv : S.1 30 = nI A.2.1.1 := h.2.1.1
        simp (disch := omega) only [F264b0, sw12, nI_eqP, L0, L1, L2, L3, L4, L5, L6, L7, L8, L9, L10, L11, L12, L13, L16, L20, L31, L32, L40, L48, L57, L59, L60, L61, L91, L93, L97, L99, L100, L102, L103, L114, L122, L255, L300, L400, L402, L999, L2280, L2500, L99999, L63, L1431655765, L858993459, L252645135, decide_eq_true_eq, decide_true, decide_false, Bool.not_eq_true, Bool.not_eq_true', Bool.not_true, Bool.not_false, decide_eq_false_iff_not, Bool.false_eq_true, not_false_eq_true, not_true_eq_false, if_true, if_false, ↓reduceIte, eq_self, Option.bind_some, Bool.true_and, Bool.false_and, Bool.and_true, Bool.and_false, hv, show ¬ 5 = 0 by decide, show ¬ 5 = 1 by decide, show ¬ 5 = 2 by decide, show ¬ 5 = 3 by decide, show ¬ 5 = 4 by decide]
        exact ev_ret
    · refine ⟨zI A.2.2.1.2.2.2.1, A, ok1, callT_id (fun T G h => ?_), callM_id (fun S h => ?_)⟩
      · refine ev_succ (fun n => G148e0 n ..) ?_
        have hv : T.1 88 3 = zI A.2.2.1.2.2.2.1 := h.2.2.1.2.2.2.1
        simp (disch := omega) only [G148b0, sw12, nI_eqP, L0, L1, L2, L3, L4, L5, L6, L7, L8, L9, L10, L11, L12, L13, L16, L20, L31, L32, L40, L48, L57, L59, L60, L61, L91, L93, L97, L99, L100, L102, L103, L114, L122, L255, L300, L400, L402, L999, L2280, L2500, L99999, L63, L1431655765, L858993459, L252645135, decide_eq_true_eq, decide_true, decide_false, Bool.not_eq_true, Bool.not_eq_true', Bool.not_true, Bool.not_false, decide_eq_false_iff_not, Bool.false_eq_true, not_false_eq_true, not_true_eq_false, if_true, if_false, ↓reduceIte, eq_self, Option.bind_some, Bool.true_and, Bool.false_and, Bool.and_true, Bool.and_false, hv, show ¬ 6 = 0 by decide, show ¬ 6 = 1 by decide, show ¬ 6 = 2 by decide, show ¬ 6 = 3 by decide, show ¬ 6 = 4 by decide, show ¬ 6 = 5 by decide]
        exact ev_ret
      · refine ev_succ (fun n => F264e0 n ..) ?_
        have hv : S.2.1 1 8 = zI A.2.2.1.2.2.2.1 := h.2.2.1.2.2.2.2.1
        simp (disch := omega) only [F264b0, sw12, nI_eqP, L0, L1, L2, L3, L4, L5, L6, L7, L8, L9, L10, L11, L12, L13, L16, L20, L31, L32, L40, L48, L57, L59, L60, L61, L91, L93, L97, L99, L100, L102, L103, L114, L122, L255, L300, L400, L402, L999, L2280, L2500, L99999, L63, L1431655765, L858993459, L252645135, decide_eq_true_eq, decide_true, decide_false, Bool.not_eq_true, Bool.not_eq_true', Bool.not_true, Bool.not_false, decide_eq_false_iff_not, Bool.false_eq_true, not_false_eq_true, not_true_eq_false, if_true, if_false, ↓reduceIte, eq_self, Option.bind_some, Bool.true_and, Bool.false_and, Bool.and_true, Bool.and_false, hv, show ¬ 6 = 0 by decide, show ¬ 6 = 1 by decide, show ¬ 6 = 2 by decide, show ¬ 6 = 3 by decide, show ¬ 6 = 4 by decide, show ¬ 6 = 5 by decide]
        exact ev_ret
    · refine ⟨nI (A.2.2.1.2.1.1 0 0), A, ok1, callT_id (fun T G h => ?_), callM_id (fun S h => ?_)⟩
      · refine ev_succ (fun n => G148e0 n ..) ?_
        have hv : T.1 95 0 = nI (A.2.2.1.2.1.1 0 0) := h.2.2.1.2.1.1
        simp (disch := omega) only [G148b0, sw12, nI_eqP, L0, L1, L2, L3, L4, L5, L6, L7, L8, L9, L10, L11, L12, L13, L16, L20, L31, L32, L40, L48, L57, L59, L60, L61, L91, L93, L97, L99, L100, L102, L103, L114, L122, L255, L300, L400, L402, L999, L2280, L2500, L99999, L63, L1431655765, L858993459, L252645135, decide_eq_true_eq, decide_true, decide_false, Bool.not_eq_true, Bool.not_eq_true', Bool.not_true, Bool.not_false, decide_eq_false_iff_not, Bool.false_eq_true, not_false_eq_true, not_true_eq_false, if_true, if_false, ↓reduceIte, eq_self, Option.bind_some, Bool.true_and, Bool.false_and, Bool.and_true, Bool.and_false, hv, show ¬ 7 = 0 by decide, show ¬ 7 = 1 by decide, show ¬ 7 = 2 by decide, show ¬ 7 = 3 by decide, show ¬ 7 = 4 by decide, show ¬ 7 = 5 by decide, show ¬ 7 = 6 by decide]
        exact ev_ret
      · refine ev_succ (fun n => F264e0 n ..) ?_
        have hv : S.2.1 1 6 = nI (A.2.2.1.2.1.1 0 0) := h.2.2.1.2.1.2.1
        simp (disch := omega) only [F264b0, sw12, nI_eqP, L0, L1, L2, L3, L4, L5, L6, L7, L8, L9, L10, L11, L12, L13, L16, L20, L31, L32, L40, L48, L57, L59, L60, L61, L91, L93, L97, L99, L100, L102, L103, L114, L122, L255, L300, L400, L402, L999, L2280, L2500, L99999, L63, L1431655765, L858993459, L252645135, decide_eq_true_eq, decide_true, decide_false, Bool.not_eq_true, Bool.not_eq_true', Bool.not_true, Bool.not_false, decide_eq_false_iff_not, Bool.false_eq_true, not_false_eq_true, not_true_eq_false, if_true, if_false, ↓reduceIte, eq_self, Option.bind_some, Bool.true_and, Bool.false_and, Bool.and_true, Bool.and_false, hv, show ¬ 7 = 0 by decide, show ¬ 7 = 1 by decide, show ¬ 7 = 2 by decide, show ¬ 7 = 3 by decide, show ¬ 7 = 4 by decide, show ¬ 7 = 5 by decide, show ¬ 7 = 6 by decide]
        exact ev_ret
    · refine ⟨nI (bsN (fun s => !decide (A.2.2.1.2.1.1 1 s = 0)) (A.2.2.1.2.1.1 0 1)), A, ok1, callT_id (fun T G h => ?_), callM_id (fun S h => ?_)⟩
      · refine ev_succ (fun n => G148e0 n ..) ?_
        simp (disch := omega) only [G148b0, sw12, nI_eqP, L0, L1, L2, L3, L4, L5, L6, L7, L8, L9, L10, L11, L12, L13, L16, L20, L31, L32, L40, L48, L57, L59, L60, L61, L91, L93, L97, L99, L100, L102, L103, L114, L122, L255, L300, L400, L402, L999, L2280, L2500, L99999, L63, L1431655765, L858993459, L252645135, decide_eq_true_eq, decide_true, decide_false, Bool.not_eq_true, Bool.not_eq_true', Bool.not_true, Bool.not_false, decide_eq_false_iff_not, Bool.false_eq_true, not_false_eq_true, not_true_eq_false, if_true, if_false, ↓reduceIte, eq_self, Option.bind_some, Bool.true_and, Bool.false_and, Bool.and_true, Bool.and_false, show ¬ 8 = 0 by decide, show ¬ 8 = 1 by decide, show ¬ 8 = 2 by decide, show ¬ 8 = 3 by decide, show ¬ 8 = 4 by decide, show ¬ 8 = 5 by decide, show ¬ 8 = 6 by decide, show ¬ 8 = 7 by decide]
        refine ev_bind (g113 (CD_w h) kw.1 (OkW_16 hb kw)) ?_
        exact ev_ret
      · refine ev_succ (fun n => F264e0 n ..) ?_
        simp (disch := omega) only [F264b0, sw12, nI_eqP, L0, L1, L2, L3, L4, L5, L6, L7, L8, L9, L10, L11, L12, L13, L16, L20, L31, L32, L40, L48, L57, L59, L60, L61, L91, L93, L97, L99, L100, L102, L103, L114, L122, L255, L300, L400, L402, L999, L2280, L2500, L99999, L63, L1431655765, L858993459, L252645135, decide_eq_true_eq, decide_true, decide_false, Bool.not_eq_true, Bool.not_eq_true', Bool.not_true, Bool.not_false, decide_eq_false_iff_not, Bool.false_eq_true, not_false_eq_true, not_true_eq_false, if_true, if_false, ↓reduceIte, eq_self, Option.bind_some, Bool.true_and, Bool.false_and, Bool.and_true, Bool.and_false, show ¬ 8 = 0 by decide, show ¬ 8 = 1 by decide, show ¬ 8 = 2 by decide, show ¬ 8 = 3 by decide, show ¬ 8 = 4 by decide, show ¬ 8 = 5 by decide, show ¬ 8 = 6 by decide, show ¬ 8 = 7 by decide]
        refine ev_bind (f213 (MD_w h) kw) ?_
        exact ev_ret
    · refine ⟨nI (prSum A.2.2.1.2.1 6 0), A, ok1, callT_id (fun T G h => ?_), callM_id (fun S h => ?_)⟩
      · refine ev_succ (fun n => G148e0 n ..) ?_
        simp (disch := omega) only [G148b0, sw12, nI_eqP, L0, L1, L2, L3, L4, L5, L6, L7, L8, L9, L10, L11, L12, L13, L16, L20, L31, L32, L40, L48, L57, L59, L60, L61, L91, L93, L97, L99, L100, L102, L103, L114, L122, L255, L300, L400, L402, L999, L2280, L2500, L99999, L63, L1431655765, L858993459, L252645135, decide_eq_true_eq, decide_true, decide_false, Bool.not_eq_true, Bool.not_eq_true', Bool.not_true, Bool.not_false, decide_eq_false_iff_not, Bool.false_eq_true, not_false_eq_true, not_true_eq_false, if_true, if_false, ↓reduceIte, eq_self, Option.bind_some, Bool.true_and, Bool.false_and, Bool.and_true, Bool.and_false, show ¬ 9 = 0 by decide, show ¬ 9 = 1 by decide, show ¬ 9 = 2 by decide, show ¬ 9 = 3 by decide, show ¬ 9 = 4 by decide, show ¬ 9 = 5 by decide, show ¬ 9 = 6 by decide, show ¬ 9 = 7 by decide, show ¬ 9 = 8 by decide]
        refine ev_bind (g141 (CD_w h)) ?_
        exact ev_ret
      · refine ev_succ (fun n => F264e0 n ..) ?_
        simp (disch := omega) only [F264b0, sw12, nI_eqP, L0, L1, L2, L3, L4, L5, L6, L7, L8, L9, L10, L11, L12, L13, L16, L20, L31, L32, L40, L48, L57, L59, L60, L61, L91, L93, L97, L99, L100, L102, L103, L114, L122, L255, L300, L400, L402, L999, L2280, L2500, L99999, L63, L1431655765, L858993459, L252645135, decide_eq_true_eq, decide_true, decide_false, Bool.not_eq_true, Bool.not_eq_true', Bool.not_true, Bool.not_false, decide_eq_false_iff_not, Bool.false_eq_true, not_false_eq_true, not_true_eq_false, if_true, if_false, ↓reduceIte, eq_self, Option.bind_some, Bool.true_and, Bool.false_and, Bool.and_true, Bool.and_false, show ¬ 9 = 0 by decide, show ¬ 9 = 1 by decide, show ¬ 9 = 2 by decide, show ¬ 9 = 3 by decide, show ¬ 9 = 4 by decide, show ¬ 9 = 5 by decide, show ¬ 9 = 6 by decide, show ¬ 9 = 7 by decide, show ¬ 9 = 8 by decide]
        refine ev_bind (f259 (MD_b h) hb (MD_w h) kw) ?_
        exact ev_ret
    · refine ⟨nI A.2.2.1.2.2.1.length, A, ok1, callT_id (fun T G h => ?_), callM_id (fun S h => ?_)⟩
      · refine ev_succ (fun n => G148e0 n ..) ?_
        obtain ⟨o, _, _, hv, _⟩ := h.2.2.1.2.2.1
        have hv : T.1 106 2 = nI A.2.2.1.2.2.1.length := hv
        simp (disch := omega) only [G148b0, sw12, nI_eqP, L0, L1, L2, L3, L4, L5, L6, L7, L8, L9, L10, L11, L12, L13, L16, L20, L31, L32, L40, L48, L57, L59, L60, L61, L91, L93, L97, L99, L100, L102, L103, L114, L122, L255, L300, L400, L402, L999, L2280, L2500, L99999, L63, L1431655765, L858993459, L252645135, decide_eq_true_eq, decide_true, decide_false, Bool.not_eq_true, Bool.not_eq_true', Bool.not_true, Bool.not_false, decide_eq_false_iff_not, Bool.false_eq_true, not_false_eq_true, not_true_eq_false, if_true, if_false, ↓reduceIte, eq_self, Option.bind_some, Bool.true_and, Bool.false_and, Bool.and_true, Bool.and_false, hv, show ¬ 10 = 0 by decide, show ¬ 10 = 1 by decide, show ¬ 10 = 2 by decide, show ¬ 10 = 3 by decide, show ¬ 10 = 4 by decide, show ¬ 10 = 5 by decide, show ¬ 10 = 6 by decide, show ¬ 10 = 7 by decide, show ¬ 10 = 8 by decide, show ¬ 10 = 9 by decide]
        exact ev_ret
      · refine ev_succ (fun n => F264e0 n ..) ?_
        have hv : S.1 47 = nI A.2.2.1.2.2.1.length := h.2.2.1.2.2.1
        simp (disch := omega) only [F264b0, sw12, nI_eqP, L0, L1, L2, L3, L4, L5, L6, L7, L8, L9, L10, L11, L12, L13, L16, L20, L31, L32, L40, L48, L57, L59, L60, L61, L91, L93, L97, L99, L100, L102, L103, L114, L122, L255, L300, L400, L402, L999, L2280, L2500, L99999, L63, L1431655765, L858993459, L252645135, decide_eq_true_eq, decide_true, decide_false, Bool.not_eq_true, Bool.not_eq_true', Bool.not_true, Bool.not_false, decide_eq_false_iff_not, Bool.false_eq_true, not_false_eq_true, not_true_eq_false, if_true, if_false, ↓reduceIte, eq_self, Option.bind_some, Bool.true_and, Bool.false_and, Bool.and_true, Bool.and_false, hv, show ¬ 10 = 0 by decide, show ¬ 10 = 1 by decide, show ¬ 10 = 2 by decide, show ¬ 10 = 3 by decide, show ¬ 10 = 4 by decide, show ¬ 10 = 5 by decide, show ¬ 10 = 6 by decide, show ¬ 10 = 7 by decide, show ¬ 10 = 8 by decide, show ¬ 10 = 9 by decide]
        exact ev_ret
    · refine ⟨nI A.2.2.1.2.2.2.2, A, ok1, callT_id (fun T G h => ?_), callM_id (fun S h => ?_)⟩
      · refine ev_succ (fun n => G148e0 n ..) ?_
        have hv : T.1 88 4 = nI A.2.2.1.2.2.2.2 := h.2.2.1.2.2.2.2
        simp (disch := omega) only [G148b0, sw12, nI_eqP, L0, L1, L2, L3, L4, L5, L6, L7, L8, L9, L10, L11, L12, L13, L16, L20, L31, L32, L40, L48, L57, L59, L60, L61, L91, L93, L97, L99, L100, L102, L103, L114, L122, L255, L300, L400, L402, L999, L2280, L2500, L99999, L63, L1431655765, L858993459, L252645135, decide_eq_true_eq, decide_true, decide_false, Bool.not_eq_true, Bool.not_eq_true', Bool.not_true, Bool.not_false, decide_eq_false_iff_not, Bool.false_eq_true, not_false_eq_true, not_true_eq_false, if_true, if_false, ↓reduceIte, eq_self, Option.bind_some, Bool.true_and, Bool.false_and, Bool.and_true, Bool.and_false, hv, show ¬ 11 = 0 by decide, show ¬ 11 = 1 by decide, show ¬ 11 = 2 by decide, show ¬ 11 = 3 by decide, show ¬ 11 = 4 by decide, show ¬ 11 = 5 by decide, show ¬ 11 = 6 by decide, show ¬ 11 = 7 by decide, show ¬ 11 = 8 by decide, show ¬ 11 = 9 by decide, show ¬ 11 = 10 by decide]
        exact ev_ret
      · refine ev_succ (fun n => F264e0 n ..) ?_
        have hv : S.2.1 1 7 = nI A.2.2.1.2.2.2.2 := h.2.2.1.2.2.2.2.2
        simp (disch := omega) only [F264b0, sw12, nI_eqP, L0, L1, L2, L3, L4, L5, L6, L7, L8, L9, L10, L11, L12, L13, L16, L20, L31, L32, L40, L48, L57, L59, L60, L61, L91, L93, L97, L99, L100, L102, L103, L114, L122, L255, L300, L400, L402, L999, L2280, L2500, L99999, L63, L1431655765, L858993459, L252645135, decide_eq_true_eq, decide_true, decide_false, Bool.not_eq_true, Bool.not_eq_true', Bool.not_true, Bool.not_false, decide_eq_false_iff_not, Bool.false_eq_true, not_false_eq_true, not_true_eq_false, if_true, if_false, ↓reduceIte, eq_self, Option.bind_some, Bool.true_and, Bool.false_and, Bool.and_true, Bool.and_false, hv, show ¬ 11 = 0 by decide, show ¬ 11 = 1 by decide, show ¬ 11 = 2 by decide, show ¬ 11 = 3 by decide, show ¬ 11 = 4 by decide, show ¬ 11 = 5 by decide, show ¬ 11 = 6 by decide, show ¬ 11 = 7 by decide, show ¬ 11 = 8 by decide, show ¬ 11 = 9 by decide, show ¬ 11 = 10 by decide]
        exact ev_ret
    · refine ⟨nI A.1.1, A, ok1, callT_id (fun T G h => ?_), callM_id (fun S h => ?_)⟩
      · refine ev_succ (fun n => G148e0 n ..) ?_
        have hv : T.1 65 1 = nI A.1.1 := h.1.1
        simp (disch := omega) only [G148b0, sw12, nI_eqP, L0, L1, L2, L3, L4, L5, L6, L7, L8, L9, L10, L11, L12, L13, L16, L20, L31, L32, L40, L48, L57, L59, L60, L61, L91, L93, L97, L99, L100, L102, L103, L114, L122, L255, L300, L400, L402, L999, L2280, L2500, L99999, L63, L1431655765, L858993459, L252645135, decide_eq_true_eq, decide_true, decide_false, Bool.not_eq_true, Bool.not_eq_true', Bool.not_true, Bool.not_false, decide_eq_false_iff_not, Bool.false_eq_true, not_false_eq_true, not_true_eq_false, if_true, if_false, ↓reduceIte, eq_self, Option.bind_some, Bool.true_and, Bool.false_and, Bool.and_true, Bool.and_false, hv, show ¬ 12 = 0 by decide, show ¬ 12 = 1 by decide, show ¬ 12 = 2 by decide, show ¬ 12 = 3 by decide, show ¬ 12 = 4 by decide, show ¬ 12 = 5 by decide, show ¬ 12 = 6 by decide, show ¬ 12 = 7 by decide, show ¬ 12 = 8 by decide, show ¬ 12 = 9 by decide, show ¬ 12 = 10 by decide, show ¬ 12 = 11 by decide]
        exact ev_ret
      · refine ev_succ (fun n => F264e0 n ..) ?_
        have hv : S.1 26 = nI A.1.1 := h.1.1
        simp (disch := omega) only [F264b0, sw12, nI_eqP, L0, L1, L2, L3, L4, L5, L6, L7, L8, L9, L10, L11, L12, L13, L16, L20, L31, L32, L40, L48, L57, L59, L60, L61, L91, L93, L97, L99, L100, L102, L103, L114, L122, L255, L300, L400, L402, L999, L2280, L2500, L99999, L63, L1431655765, L858993459, L252645135, decide_eq_true_eq, decide_true, decide_false, Bool.not_eq_true, Bool.not_eq_true', Bool.not_true, Bool.not_false, decide_eq_false_iff_not, Bool.false_eq_true, not_false_eq_true, not_true_eq_false, if_true, if_false, ↓reduceIte, eq_self, Option.bind_some, Bool.true_and, Bool.false_and, Bool.and_true, Bool.and_false, hv, show ¬ 12 = 0 by decide, show ¬ 12 = 1 by decide, show ¬ 12 = 2 by decide, show ¬ 12 = 3 by decide, show ¬ 12 = 4 by decide, show ¬ 12 = 5 by decide, show ¬ 12 = 6 by decide, show ¬ 12 = 7 by decide, show ¬ 12 = 8 by decide, show ¬ 12 = 9 by decide, show ¬ 12 = 10 by decide, show ¬ 12 = 11 by decide]
        exact ev_ret
  · refine ⟨zI 0, A, ok1, callT_id (fun T G h => ?_), callM_id (fun S h => ?_)⟩
    · refine ev_succ (fun n => G148e0 n ..) ?_
      simp only [G148b0, if_pos (show (e.toInt < 0 ∨ 12 < e.toInt) from he)]
      exact ev_ret
    · refine ev_succ (fun n => F264e0 n ..) ?_
      simp only [F264b0, if_pos (show (e.toInt < 0 ∨ 12 < e.toInt) from he)]
      exact ev_ret
