/-! who leaves is written down with the day; mouth -/
def Lv (w w' : AW) : Prop := ∀ s, w.1 1 s ≠ 0 → w'.1 1 s = 0 → w'.1 6 s = w.1 0 0 + 1
def Sl (b : AB) (w w' : AW) : Prop := St b w w' ∧ Lv w w'
section Lvs
variable {b : AB}
theorem Lv_same {w w' : AW} (h : ∀ s, w.1 1 s ≠ 0 → w'.1 1 s ≠ 0) : Lv w w' := fun s h1 h2 => absurd h2 (h s h1)
theorem Sl_rf {w : AW} : Sl b w w := ⟨St_rf, Lv_same (fun _ h => h)⟩
theorem Sl_tr {w1 w2 w3 : AW} (h : Sl b w1 w2) (h' : Sl b w2 w3) : Sl b w1 w3 := by
  refine ⟨St_tr h.1 h'.1, fun s h1 h3 => ?_⟩
  by_cases h2 : w2.1 1 s = 0
  · rw [h'.1.1.2.2.2.2 s h2 6 (by omega)]
    exact h.2 s h1 h2
  · rw [h'.2 s h2 h3, h.1.1.2.1 0]
theorem Lv_leave {w : AW} {s f h : Nat} : Lv w (leaveA w s f h) := by
  intro s' h1 h2
  by_cases e : s' = s
  · subst e
    exact leaveA_6
  · rw [leaveA_o e] at h2
    exact absurd h2 h1
theorem Lv_move {w : AW} {s c : Nat} : Lv w (moveA b w s c) := by
  refine Lv_same (fun s' h => ?_)
  unfold moveA
  split
  · rw [aS_n (by decide), aS_n (by decide), aS_n (by decide), aS_r]
    split
    · omega
    · exact h
  · rw [aS_n (by decide), aS_r]
    split
    · omega
    · exact h
theorem Lv_drift {w : AW} {s : Nat} : Lv w (driftA b s w) := by
  unfold driftA
  split
  · exact Lv_same (fun _ h => h)
  · split
    · exact Lv_same (fun _ h => h)
    · split
      · split
        · exact Lv_leave
        · exact Lv_move
      · exact Lv_same (fun s' h => by rw [aS_n (by decide)]; exact h)
theorem Lv_join {w : AW} {a j : Nat} : Lv w (joinA w a j) := by
  intro s h1 h2
  have := Lv_leave (w := aS w 2 a (w.1 2 a * 10 ^ lenN (w.1 2 j) + w.1 2 j)) (s := j) (f := 3) (h := a + 1) s (by rw [aS_n (by decide)]; exact h1) h2
  rw [aS_n (by decide)] at this
  exact this
theorem Lv_catch {w : AW} {s : Nat} : Lv w (catchA s w) := by
  unfold catchA
  split
  · exact Lv_leave
  · exact Lv_same (fun _ h => h)
theorem fold_Sl {f : Nat → AW → AW} (hf : ∀ i y, OkW b y → i < y.1 0 1 → Sl b y (f i y)) : ∀ (m j : Nat) (w : AW), OkW b w → j + m ≤ w.1 0 1 → Sl b w (fold f m j w)
  | 0, _, _, _, _ => Sl_rf
  | m + 1, j, w, ok, h => by
    have h1 := hf j w ok (by omega)
    have e := h1.1.1.2.1 1
    exact Sl_tr h1 (fold_Sl hf m (j + 1) (f j w) (h1.1.2 ok) (by rw [e]; omega))
theorem jnA_Sl {l : LW} {c : Nat} : ∀ (k : Nat) (w : AW), Sl b w (jnA l c k w)
  | 0, w => Sl_rf
  | k + 1, w => by
    unfold jnA
    cases h : j1A l c w with
    | none => exact Sl_rf
    | some w' =>
      refine Sl_tr ⟨j1A_St h, ?_⟩ (jnA_Sl k w')
      unfold j1A at h
      cases hf : fdA l w c (w.1 0 1) 0 with
      | none => rw [hf] at h; cases h
      | some p =>
        rw [hf] at h
        cases h
        exact Lv_join
theorem dayA_Sl {l : LW} {w : AW} (hb : OkB b) (ok : OkW b w) : Sl b w (catchesA (joinsA b l (driftsA b w))) := by
  have h1 : Sl b w (driftsA b w) := fold_Sl (fun i y oy hi => ⟨driftA_St hb (oy.2.1 i hi).2.2.2.1, Lv_drift⟩) _ 0 w ok (by omega)
  have h2 : Sl b (driftsA b w) (joinsA b l (driftsA b w)) := by
    unfold joinsA
    exact fold_inv (I := fun y => Sl b (driftsA b w) y) _ 0 _ (fun i y _ _ hy => Sl_tr hy (jnA_Sl 13 y)) Sl_rf
  have ok2 := h2.1.2 (h1.1.2 ok)
  have h3 : Sl b (joinsA b l (driftsA b w)) (catchesA (joinsA b l (driftsA b w))) := fold_Sl (fun i y oy hi => ⟨catchA_St, Lv_catch⟩) _ 0 _ ok2 (by omega)
  exact Sl_tr h1 (Sl_tr h2 h3)
theorem dayA_6 {l : LW} {w : AW} (hb : OkB b) (ok : OkW b w) {s : Nat} (h1 : w.1 1 s ≠ 0) (h2 : (dayA b l w).1 1 s = 0) : (dayA b l w).1 6 s = w.1 0 0 + 1 := by
  have h := (dayA_Sl (l := l) hb ok).2 s h1
  have e : ∀ r, r ≠ 0 → (dayA b l w).1 r s = (catchesA (joinsA b l (driftsA b w))).1 r s := by
    intro r hr
    show (morrowA _).1 r s = _
    unfold morrowA
    exact aS_n hr
  rw [e 6 (by decide)]
  rw [e 1 (by decide)] at h2
  exact h h2
end Lvs
def scF (P : Nat → Bool) : Nat → Nat → Nat → Option Nat × Nat
  | 0, _, q => (none, q)
  | m + 1, j, q => if P j = true then (if q = 0 then (some j, 0) else scF P m (j + 1) (q - 1)) else scF P m (j + 1) q
def arrB (w w' : AW) (s : Nat) : Bool := !decide (w.1 1 s = 0) && decide (w'.1 4 s = 1)
def ansA (v : Nat) (w w' : AW) (s : Nat) : Int32 := if v = 0 then nI s else if v = 1 then nI (w.1 0 0) else nI (w'.1 2 s)
def mthA (b : AB) (l : LW) (v : Nat) : Nat → AW → Nat → Option Int32
  | 0, _, _ => none
  | i + 1, w, q => (scF (arrB w (dayA b l w)) (w.1 0 1) 0 q).1.elim (mthA b l v i (dayA b l w) (scF (arrB w (dayA b l w)) (w.1 0 1) 0 q).2) (fun s => some (ansA v w (dayA b l w) s))
theorem sc_ge {P : Nat → Bool} : ∀ (m j q : Nat), ctF P m j ≤ q → scF P m j q = (none, q - ctF P m j)
  | 0, j, q, _ => rfl
  | m + 1, j, q, h => by
    unfold scF
    rw [ctF_s] at h ⊢
    by_cases hp : P j = true
    · rw [if_pos hp] at h ⊢
      rw [if_pos hp, if_neg (by omega), sc_ge m (j + 1) (q - 1) (by omega), show q - 1 - ctF P m (j + 1) = q - (1 + ctF P m (j + 1)) by omega]
    · rw [if_neg hp] at h ⊢
      rw [if_neg hp, sc_ge m (j + 1) q (by omega), Nat.zero_add]
theorem sc_some {P : Nat → Bool} : ∀ (m j q s : Nat), (scF P m j q).1 = some s → j ≤ s ∧ s < j + m ∧ P s = true
  | 0, j, q, s, h => by cases h
  | m + 1, j, q, s, h => by
    unfold scF at h
    by_cases hp : P j = true
    · rw [if_pos hp] at h
      by_cases hq : q = 0
      · rw [if_pos hq] at h
        cases h
        exact ⟨Nat.le_refl _, by omega, hp⟩
      · rw [if_neg hq] at h
        have := sc_some m (j + 1) (q - 1) s h
        exact ⟨by omega, by omega, this.2.2⟩
    · rw [if_neg hp] at h
      have := sc_some m (j + 1) q s h
      exact ⟨by omega, by omega, this.2.2⟩
theorem sc_le {P : Nat → Bool} : ∀ (m j q : Nat), (scF P m j q).2 ≤ q
  | 0, j, q => Nat.le_refl _
  | m + 1, j, q => by
    unfold scF
    split
    · split
      · exact Nat.zero_le _
      · have := sc_le (P := P) m (j + 1) (q - 1)
        omega
    · exact sc_le m (j + 1) q
def onN (w : AW) : Nat := ctF (fun s => !decide (w.1 1 s = 0)) (w.1 0 1) 0
theorem mth_ge {b : AB} {l : LW} (hb : OkB b) {v : Nat} : ∀ (i : Nat) (w : AW) (q : Nat), OkW b w → onN w ≤ q → mthA b l v i w q = none
  | 0, w, q, ok, h => rfl
  | i + 1, w, q, ok, h => by
    unfold mthA
    have hn := dayA_n (l := l) hb ok
    have ok' := dayA_Ok (l := l) hb ok
    have h1 : onN w = ctF (arrB w (dayA b l w)) (w.1 0 1) 0 + ctF (fun s => !decide (w.1 1 s = 0) && !decide ((dayA b l w).1 4 s = 1)) (w.1 0 1) 0 := by
      unfold onN
      refine ctF_pl _ _ (fun s _ _ => ?_)
      unfold arrB
      by_cases e1 : w.1 1 s = 0 <;> by_cases e2 : (dayA b l w).1 4 s = 1 <;> simp [e1, e2]
    have h2 : onN (dayA b l w) ≤ ctF (fun s => !decide (w.1 1 s = 0) && !decide ((dayA b l w).1 4 s = 1)) (w.1 0 1) 0 := by
      unfold onN
      rw [hn]
      refine ctF_le2 _ _ (fun s _ hs h => ?_)
      have h3 : (dayA b l w).1 1 s ≠ 0 := by simpa using h
      have h4 : w.1 1 s ≠ 0 := by
        intro e
        rw [dayA_off hb ok e (by decide) (by decide)] at h3
        exact h3 e
      have h5 : (dayA b l w).1 4 s ≠ 1 := by
        intro e
        exact h3 ((ok'.2.1 s (by rw [hn]; omega)).2.2.1.mpr (by omega))
      simp [h4, h5]
    rw [sc_ge _ _ _ (by omega)]
    exact mth_ge hb i (dayA b l w) _ ok' (by omega)
theorem onN_le {w : AW} : onN w ≤ w.1 0 1 := ctF_le _ _ _
section G112
variable {T0 : xS} {lo : Option Nat} {ln : Nat} {b : AB} {l : LW} {cc : Nat → Int32}
theorem ic_ne_b1 {x : Bool} : am_ic .ne (b2i x) (nI 1) = !x := by cases x <;> decide
theorem sc_s {P : Nat → Bool} {m j q : Nat} : scF P (m + 1) j q = if P j = true then (if q = 0 then (some j, 0) else scF P m (j + 1) (q - 1)) else scF P m (j + 1) q := rfl
theorem g112s {i : Nat} {w w' : AW} {T : xS} {R : Option Nat × Nat} (ok : OkW b w') (hn : w'.1 0 1 = w.1 0 1) (hi : i < 60) (hS : DS T0 T 110 lo ln b l cc w') {P : Int32 × xS → Prop} (hf : ∀ s, s < w.1 0 1 → arrB w w' s = true → R.1 = some s → P (nI s, T)) (hg : R.1 = none → Ep (fun n => G112f 110 lo ln n 4 (nI 0) (nI R.2) (nI (i + 1)) (nI 0) (nI 0) T) P) : ∀ (m s q : Nat), s + m = w.1 0 1 → q < 13 → R = scF (arrB w w') m s q → Ep (fun n => G112f 110 lo ln n 33 (nI 0) (nI q) (nI i) (nI (bsN (fun s => !decide (w.1 1 s = 0)) (w.1 0 1))) (nI s) T) P := by
  have hn13 := ok.1
  have hb4 : T.2.2.2 109 4 = some 110 := hS.1.2.2.1
  have hn1 : T.1 110 1 = nI (w.1 0 1) := by rw [hS.2.1.2.1, hn]
  intro m
  induction m with
  | zero =>
    intro s q hs hq e
    refine ep_succ (fun n => G112e33 110 lo ln n ..) ?_
    have e1 : w.1 0 1 ≤ s := by omega
    rw [e] at hg
    simp (disch := omega) only [G112b33, L0, L1, L2, L3, L4, L5, L6, L7, L8, L9, L10, L11, L12, L13, L16, L20, L31, L32, L40, L48, L57, L59, L60, L61, L91, L93, L97, L99, L100, L102, L103, L114, L122, L255, L300, L400, L402, L999, L2280, L2500, L99999, L63, L1431655765, L858993459, L252645135, ic_ge, ic_gt, ic_le, ic_lt, ic_eq, ic_ne, if_lt, if_ge, if_gt, if_le, if_eq, if_ne, if_lt_zI, if_ge_zI, ic_ne_m1, ic_eq_m1, ic_nn_m1, ic_ee_m1, if_ne_b2i, if_eq_b2i, b2i_z, decide_eq_true_eq, decide_true, decide_false, Bool.not_eq_true, Bool.not_eq_true', Bool.not_true, Bool.not_false, decide_eq_false_iff_not, Bool.false_eq_true, not_false_eq_true, not_true_eq_false, if_true, if_false, ↓reduceIte, eq_self, Option.bind_some, Bool.true_and, Bool.false_and, Bool.and_true, Bool.and_false, nI_add, nI_subN, nI_clamp, gdF, gdF2, gdP, gdP2, zI_cl, zI_s, Lm1, nI_n0, zI_n0, leF, or_false, false_or, or_self, hb4, hn1, e1]
    exact hg rfl
  | succ m ih =>
    intro s q hs hq e
    refine ep_succ (fun n => G112e33 110 lo ln n ..) ?_
    have e1 : ¬ w.1 0 1 ≤ s := by omega
    have hM : bsN (fun s => !decide (w.1 1 s = 0)) (w.1 0 1) < 2 ^ 13 := bsN_lt (by omega)
    have hbit := nI_bit (a := bsN (fun s => !decide (w.1 1 s = 0)) (w.1 0 1)) (s := s) (by omega) (by omega)
    rw [bsN_tb, decide_eq_true (show s < w.1 0 1 by omega), Bool.true_and] at hbit
    have r6 : T.2.1 116 s = nI (w'.1 4 s) := (hS.2.1.2.2.2.1 s (by omega)).2.2.2.2.2.1
    have h4 := (ok.2.1 s (by omega)).2.1
    rw [sc_s] at e
    by_cases h0 : w.1 1 s = 0
    · have ha : ¬ arrB w w' s = true := by
        unfold arrB
        simp only [h0, decide_eq_true_eq, decide_true, decide_false, Bool.not_eq_true, Bool.not_eq_true', Bool.not_true, Bool.not_false, decide_eq_false_iff_not, Bool.false_eq_true, not_false_eq_true, not_true_eq_false, if_true, if_false, ↓reduceIte, eq_self, Option.bind_some, Bool.true_and, Bool.false_and, Bool.and_true, Bool.and_false]
      rw [if_neg ha] at e
      simp (disch := omega) only [G112b33, L0, L1, L2, L3, L4, L5, L6, L7, L8, L9, L10, L11, L12, L13, L16, L20, L31, L32, L40, L48, L57, L59, L60, L61, L91, L93, L97, L99, L100, L102, L103, L114, L122, L255, L300, L400, L402, L999, L2280, L2500, L99999, L63, L1431655765, L858993459, L252645135, ic_ge, ic_gt, ic_le, ic_lt, ic_eq, ic_ne, if_lt, if_ge, if_gt, if_le, if_eq, if_ne, if_lt_zI, if_ge_zI, ic_ne_m1, ic_eq_m1, ic_nn_m1, ic_ee_m1, if_ne_b2i, if_eq_b2i, b2i_z, decide_eq_true_eq, decide_true, decide_false, Bool.not_eq_true, Bool.not_eq_true', Bool.not_true, Bool.not_false, decide_eq_false_iff_not, Bool.false_eq_true, not_false_eq_true, not_true_eq_false, if_true, if_false, ↓reduceIte, eq_self, Option.bind_some, Bool.true_and, Bool.false_and, Bool.and_true, Bool.and_false, nI_add, nI_subN, nI_clamp, gdF, gdF2, gdP, gdP2, zI_cl, zI_s, Lm1, nI_n0, zI_n0, leF, or_false, false_or, or_self, hb4, hn1, e1, hbit, h0, ic_ne_b1]
      exact ih (s + 1) q (by omega) hq e
    · by_cases h1 : w'.1 4 s = 1
      · have ha : arrB w w' s = true := by
          unfold arrB
          simp only [h0, h1, decide_eq_true_eq, decide_true, decide_false, Bool.not_eq_true, Bool.not_eq_true', Bool.not_true, Bool.not_false, decide_eq_false_iff_not, Bool.false_eq_true, not_false_eq_true, not_true_eq_false, if_true, if_false, ↓reduceIte, eq_self, Option.bind_some, Bool.true_and, Bool.false_and, Bool.and_true, Bool.and_false]
        rw [if_pos ha] at e
        by_cases hq0' : q = 0
        · rw [if_pos hq0'] at e
          simp (disch := omega) only [G112b33, L0, L1, L2, L3, L4, L5, L6, L7, L8, L9, L10, L11, L12, L13, L16, L20, L31, L32, L40, L48, L57, L59, L60, L61, L91, L93, L97, L99, L100, L102, L103, L114, L122, L255, L300, L400, L402, L999, L2280, L2500, L99999, L63, L1431655765, L858993459, L252645135, ic_ge, ic_gt, ic_le, ic_lt, ic_eq, ic_ne, if_lt, if_ge, if_gt, if_le, if_eq, if_ne, if_lt_zI, if_ge_zI, ic_ne_m1, ic_eq_m1, ic_nn_m1, ic_ee_m1, if_ne_b2i, if_eq_b2i, b2i_z, decide_eq_true_eq, decide_true, decide_false, Bool.not_eq_true, Bool.not_eq_true', Bool.not_true, Bool.not_false, decide_eq_false_iff_not, Bool.false_eq_true, not_false_eq_true, not_true_eq_false, if_true, if_false, ↓reduceIte, eq_self, Option.bind_some, Bool.true_and, Bool.false_and, Bool.and_true, Bool.and_false, nI_add, nI_subN, nI_clamp, gdF, gdF2, gdP, gdP2, zI_cl, zI_s, Lm1, nI_n0, zI_n0, leF, or_false, false_or, or_self, hb4, hn1, e1, hbit, h0, ic_ne_b1, r6, h1, hq0']
          exact ep_ret (hf s (by omega) ha (by rw [e]))
        · rw [if_neg hq0'] at e
          have hm1 : nI q + zI 0 = nI (q - 1) := by
            have h2 : nI q = nI (q - 1) + nI 1 := by rw [nI_add, Nat.sub_add_cancel (by omega)]
            rw [h2]
            have h3 : zI 0 = -(nI 1) := rfl
            rw [h3, ← Int32.sub_eq_add_neg]
            exact Int32.add_sub_cancel _ _
          simp (disch := omega) only [G112b33, L0, L1, L2, L3, L4, L5, L6, L7, L8, L9, L10, L11, L12, L13, L16, L20, L31, L32, L40, L48, L57, L59, L60, L61, L91, L93, L97, L99, L100, L102, L103, L114, L122, L255, L300, L400, L402, L999, L2280, L2500, L99999, L63, L1431655765, L858993459, L252645135, ic_ge, ic_gt, ic_le, ic_lt, ic_eq, ic_ne, if_lt, if_ge, if_gt, if_le, if_eq, if_ne, if_lt_zI, if_ge_zI, ic_ne_m1, ic_eq_m1, ic_nn_m1, ic_ee_m1, if_ne_b2i, if_eq_b2i, b2i_z, decide_eq_true_eq, decide_true, decide_false, Bool.not_eq_true, Bool.not_eq_true', Bool.not_true, Bool.not_false, decide_eq_false_iff_not, Bool.false_eq_true, not_false_eq_true, not_true_eq_false, if_true, if_false, ↓reduceIte, eq_self, Option.bind_some, Bool.true_and, Bool.false_and, Bool.and_true, Bool.and_false, nI_add, nI_subN, nI_clamp, gdF, gdF2, gdP, gdP2, zI_cl, zI_s, Lm1, nI_n0, zI_n0, leF, or_false, false_or, or_self, hb4, hn1, e1, hbit, h0, ic_ne_b1, r6, h1, hq0', hm1]
          exact ih (s + 1) (q - 1) (by omega) (by omega) e
      · have ha : ¬ arrB w w' s = true := by
          unfold arrB
          simp only [h0, h1, decide_eq_true_eq, decide_true, decide_false, Bool.not_eq_true, Bool.not_eq_true', Bool.not_true, Bool.not_false, decide_eq_false_iff_not, Bool.false_eq_true, not_false_eq_true, not_true_eq_false, if_true, if_false, ↓reduceIte, eq_self, Option.bind_some, Bool.true_and, Bool.false_and, Bool.and_true, Bool.and_false]
        rw [if_neg ha] at e
        simp (disch := omega) only [G112b33, L0, L1, L2, L3, L4, L5, L6, L7, L8, L9, L10, L11, L12, L13, L16, L20, L31, L32, L40, L48, L57, L59, L60, L61, L91, L93, L97, L99, L100, L102, L103, L114, L122, L255, L300, L400, L402, L999, L2280, L2500, L99999, L63, L1431655765, L858993459, L252645135, ic_ge, ic_gt, ic_le, ic_lt, ic_eq, ic_ne, if_lt, if_ge, if_gt, if_le, if_eq, if_ne, if_lt_zI, if_ge_zI, ic_ne_m1, ic_eq_m1, ic_nn_m1, ic_ee_m1, if_ne_b2i, if_eq_b2i, b2i_z, decide_eq_true_eq, decide_true, decide_false, Bool.not_eq_true, Bool.not_eq_true', Bool.not_true, Bool.not_false, decide_eq_false_iff_not, Bool.false_eq_true, not_false_eq_true, not_true_eq_false, if_true, if_false, ↓reduceIte, eq_self, Option.bind_some, Bool.true_and, Bool.false_and, Bool.and_true, Bool.and_false, nI_add, nI_subN, nI_clamp, gdF, gdF2, gdP, gdP2, zI_cl, zI_s, Lm1, nI_n0, zI_n0, leF, or_false, false_or, or_self, hb4, hn1, e1, hbit, h0, ic_ne_b1, r6, h1]
        exact ih (s + 1) q (by omega) hq e
theorem g112l (hb : OkB b) : ∀ (i j q : Nat) (T : xS) (w : AW), j + i = 60 → q < 13 → w.1 0 0 + i < 990 → DS T0 T 110 lo ln b l cc w → Ep (fun n => G112f 110 lo ln n 4 (nI 0) (nI q) (nI j) (nI 0) (nI 0) T) (fun z => ∃ w', DS T0 z.2 110 lo ln b l cc w' ∧ ((z.1 = zI 0 ∧ ∀ v, mthA b l v i w q = none) ∨ ∃ s w0, z.1 = nI s ∧ s < w'.1 0 1 ∧ w'.1 6 s = w0.1 0 0 + 1 ∧ ∀ v, mthA b l v i w q = some (ansA v w0 w' s))) := by
  intro i
  induction i with
  | zero =>
    intro j q T w hj hq hd hS
    refine ep_succ (fun n => G112e4 110 lo ln n ..) ?_
    have e : 60 ≤ j := by omega
    simp (disch := omega) only [G112b4, L0, L1, L2, L3, L4, L5, L6, L7, L8, L9, L10, L11, L12, L13, L16, L20, L31, L32, L40, L48, L57, L59, L60, L61, L91, L93, L97, L99, L100, L102, L103, L114, L122, L255, L300, L400, L402, L999, L2280, L2500, L99999, L63, L1431655765, L858993459, L252645135, ic_ge, ic_gt, ic_le, ic_lt, ic_eq, ic_ne, if_lt, if_ge, if_gt, if_le, if_eq, if_ne, if_lt_zI, if_ge_zI, ic_ne_m1, ic_eq_m1, ic_nn_m1, ic_ee_m1, if_ne_b2i, if_eq_b2i, b2i_z, decide_eq_true_eq, decide_true, decide_false, Bool.not_eq_true, Bool.not_eq_true', Bool.not_true, Bool.not_false, decide_eq_false_iff_not, Bool.false_eq_true, not_false_eq_true, not_true_eq_false, if_true, if_false, ↓reduceIte, eq_self, Option.bind_some, Bool.true_and, Bool.false_and, Bool.and_true, Bool.and_false, nI_add, nI_subN, nI_clamp, gdF, gdF2, gdP, gdP2, zI_cl, zI_s, Lm1, nI_n0, zI_n0, leF, or_false, false_or, or_self, e]
    exact ep_ret ⟨w, hS, Or.inl ⟨rfl, fun _ => rfl⟩⟩
  | succ i ih =>
    intro j q T w hj hq hd hS
    refine ep_succ (fun n => G112e4 110 lo ln n ..) ?_
    have e : ¬ 60 ≤ j := by omega
    have hb4 := hS.1.2.2.1
    have ok := hS.2.2.1
    simp (disch := omega) only [G112b4, L0, L1, L2, L3, L4, L5, L6, L7, L8, L9, L10, L11, L12, L13, L16, L20, L31, L32, L40, L48, L57, L59, L60, L61, L91, L93, L97, L99, L100, L102, L103, L114, L122, L255, L300, L400, L402, L999, L2280, L2500, L99999, L63, L1431655765, L858993459, L252645135, ic_ge, ic_gt, ic_le, ic_lt, ic_eq, ic_ne, if_lt, if_ge, if_gt, if_le, if_eq, if_ne, if_lt_zI, if_ge_zI, ic_ne_m1, ic_eq_m1, ic_nn_m1, ic_ee_m1, if_ne_b2i, if_eq_b2i, b2i_z, decide_eq_true_eq, decide_true, decide_false, Bool.not_eq_true, Bool.not_eq_true', Bool.not_true, Bool.not_false, decide_eq_false_iff_not, Bool.false_eq_true, not_false_eq_true, not_true_eq_false, if_true, if_false, ↓reduceIte, eq_self, Option.bind_some, Bool.true_and, Bool.false_and, Bool.and_true, Bool.and_false, nI_add, nI_subN, nI_clamp, gdF, gdF2, gdP, gdP2, zI_cl, zI_s, Lm1, nI_n0, zI_n0, leF, or_false, false_or, or_self, e, hb4]
    refine ep_bv (g113 hS.2.1 ok.1 (OkW_16 hb ok)) ?_
    have hM : bsN (fun s => !decide (w.1 1 s = 0)) (w.1 0 1) < 2 ^ 13 := bsN_lt ok.1
    by_cases h0 : bsN (fun s => !decide (w.1 1 s = 0)) (w.1 0 1) = 0
    · simp (disch := omega) only [L0, L1, L2, L3, L4, L5, L6, L7, L8, L9, L10, L11, L12, L13, L16, L20, L31, L32, L40, L48, L57, L59, L60, L61, L91, L93, L97, L99, L100, L102, L103, L114, L122, L255, L300, L400, L402, L999, L2280, L2500, L99999, L63, L1431655765, L858993459, L252645135, ic_ge, ic_gt, ic_le, ic_lt, ic_eq, ic_ne, if_lt, if_ge, if_gt, if_le, if_eq, if_ne, if_lt_zI, if_ge_zI, ic_ne_m1, ic_eq_m1, ic_nn_m1, ic_ee_m1, if_ne_b2i, if_eq_b2i, b2i_z, decide_eq_true_eq, decide_true, decide_false, Bool.not_eq_true, Bool.not_eq_true', Bool.not_true, Bool.not_false, decide_eq_false_iff_not, Bool.false_eq_true, not_false_eq_true, not_true_eq_false, if_true, if_false, ↓reduceIte, eq_self, Option.bind_some, Bool.true_and, Bool.false_and, Bool.and_true, Bool.and_false, nI_add, nI_subN, nI_clamp, gdF, gdF2, gdP, gdP2, zI_cl, zI_s, Lm1, nI_n0, zI_n0, leF, or_false, false_or, or_self, h0]
      refine ep_ret ⟨w, hS, Or.inl ⟨rfl, fun v => mth_ge hb _ w q ok ?_⟩⟩
      have : onN w = 0 := by
        refine ctF_0 _ _ (fun s _ hs => ?_)
        have h1 := bsN_tb (P := fun s => !decide (w.1 1 s = 0)) (n := w.1 0 1) (k := s)
        rw [h0, Nat.zero_testBit, decide_eq_true (show s < w.1 0 1 by omega), Bool.true_and] at h1
        exact h1.symm
      omega
    · simp (disch := omega) only [L0, L1, L2, L3, L4, L5, L6, L7, L8, L9, L10, L11, L12, L13, L16, L20, L31, L32, L40, L48, L57, L59, L60, L61, L91, L93, L97, L99, L100, L102, L103, L114, L122, L255, L300, L400, L402, L999, L2280, L2500, L99999, L63, L1431655765, L858993459, L252645135, ic_ge, ic_gt, ic_le, ic_lt, ic_eq, ic_ne, if_lt, if_ge, if_gt, if_le, if_eq, if_ne, if_lt_zI, if_ge_zI, ic_ne_m1, ic_eq_m1, ic_nn_m1, ic_ee_m1, if_ne_b2i, if_eq_b2i, b2i_z, decide_eq_true_eq, decide_true, decide_false, Bool.not_eq_true, Bool.not_eq_true', Bool.not_true, Bool.not_false, decide_eq_false_iff_not, Bool.false_eq_true, not_false_eq_true, not_true_eq_false, if_true, if_false, ↓reduceIte, eq_self, Option.bind_some, Bool.true_and, Bool.false_and, Bool.and_true, Bool.and_false, nI_add, nI_subN, nI_clamp, gdF, gdF2, gdP, gdP2, zI_cl, zI_s, Lm1, nI_n0, zI_n0, leF, or_false, false_or, or_self, h0]
      refine ep_bind (g86 (by omega) hS) ?_
      rintro ⟨_, T1⟩ h1
      have h1 : DS T0 T1 110 lo ln b l cc (dayA b l w) := h1
      have ok' := dayA_Ok (l := l) hb ok
      have hn := dayA_n (l := l) hb ok
      refine g112s ok' hn (by omega) h1 (fun s hs ha hf => ?_) (fun hf => ?_) (w.1 0 1) 0 q (by omega) hq rfl
      · unfold arrB at ha
        rw [Bool.and_eq_true, Bool.not_eq_true', decide_eq_false_iff_not, decide_eq_true_eq] at ha
        refine ⟨dayA b l w, h1, Or.inr ⟨s, w, rfl, by rw [hn]; exact hs, dayA_6 hb ok ha.1 ((ok'.2.1 s (by rw [hn]; exact hs)).2.2.1.mpr (by omega)), fun v => ?_⟩⟩
        unfold mthA
        rw [hf]
        rfl
      · have hq' := sc_le (P := arrB w (dayA b l w)) (w.1 0 1) 0 q
        refine ep_mono (ih (j + 1) _ T1 (dayA b l w) (by omega) (by omega) (by rw [dayA_d hb ok]; omega) h1) ?_
        rintro z ⟨w', a1, a2⟩
        refine ⟨w', a1, ?_⟩
        have e2 : ∀ v, mthA b l v (i + 1) w q = mthA b l v i (dayA b l w) (scF (arrB w (dayA b l w)) (w.1 0 1) 0 q).2 := by
          intro v
          show (scF (arrB w (dayA b l w)) (w.1 0 1) 0 q).1.elim _ _ = _
          rw [hf]
          rfl
        rcases a2 with ⟨c1, c2⟩ | ⟨s, w0, c1, c2, c3, c4⟩
        · exact Or.inl ⟨c1, fun v => by rw [e2]; exact c2 v⟩
        · exact Or.inr ⟨s, w0, c1, c2, c3, fun v => by rw [e2]; exact c4 v⟩
end G112
/-! the reference's -/
def rcF (P : Nat → Bool) (ans : Nat → Int32) (t : Nat) : Nat → Nat → Nat × Int32 → Nat × Int32
  | 0, _, p => p
  | m + 1, j, p => rcF P ans t m (j + 1) (if P j = true then (p.1 + 1, if p.1 = t then ans j else p.2) else p)
def rcD (b : AB) (l : LW) (v t : Nat) : Nat → AW → Nat × Int32 → Nat × Int32
  | 0, _, p => p
  | i + 1, w, p => rcD b l v t i (dayA b l w) (rcF (arrB w (dayA b l w)) (ansA v w (dayA b l w)) t (w.1 0 1) 0 p)
theorem rcF_a {P : Nat → Bool} {ans : Nat → Int32} {t : Nat} : ∀ (m j : Nat) (p : Nat × Int32), t < p.1 → (rcF P ans t m j p).2 = p.2 ∧ t < (rcF P ans t m j p).1
  | 0, j, p, h => ⟨rfl, h⟩
  | m + 1, j, p, h => by
    unfold rcF
    by_cases hp : P j = true
    · rw [if_pos hp, if_neg (by omega)]
      exact rcF_a m (j + 1) (p.1 + 1, p.2) (by show t < p.1 + 1; omega)
    · rw [if_neg hp]
      exact rcF_a m (j + 1) p h
theorem rcF_b {P : Nat → Bool} {ans : Nat → Int32} {t : Nat} : ∀ (m j : Nat) (p : Nat × Int32), p.1 ≤ t → ((scF P m j (t - p.1)).1 = none ∧ (rcF P ans t m j p).2 = p.2 ∧ (rcF P ans t m j p).1 ≤ t ∧ (scF P m j (t - p.1)).2 = t - (rcF P ans t m j p).1) ∨ ∃ s, (scF P m j (t - p.1)).1 = some s ∧ (rcF P ans t m j p).2 = ans s ∧ t < (rcF P ans t m j p).1
  | 0, j, p, h => Or.inl ⟨rfl, rfl, h, rfl⟩
  | m + 1, j, p, h => by
    unfold rcF scF
    by_cases hp : P j = true
    · rw [if_pos hp, if_pos hp]
      by_cases he : p.1 = t
      · rw [if_pos he, if_pos (by omega)]
        have := rcF_a (P := P) (ans := ans) (t := t) m (j + 1) (p.1 + 1, ans j) (by show t < p.1 + 1; omega)
        exact Or.inr ⟨j, rfl, this.1, this.2⟩
      · rw [if_neg he, if_neg (by omega)]
        have := rcF_b (P := P) (ans := ans) (t := t) m (j + 1) (p.1 + 1, p.2) (by show p.1 + 1 ≤ t; omega)
        rw [show t - (p.1 + 1, p.2).1 = t - p.1 - 1 by show t - (p.1 + 1) = _; omega] at this
        exact this
    · rw [if_neg hp, if_neg hp]
      exact rcF_b m (j + 1) p h
theorem rcF_l {P : Nat → Bool} {ans : Nat → Int32} {t : Nat} : ∀ (m j : Nat) (p : Nat × Int32), (rcF P ans t m j p).1 ≤ p.1 + m
  | 0, j, p => Nat.le_refl _
  | m + 1, j, p => by
    unfold rcF
    have := rcF_l (P := P) (ans := ans) (t := t) m (j + 1) (if P j = true then (p.1 + 1, if p.1 = t then ans j else p.2) else p)
    have h2 : (if P j = true then (p.1 + 1, if p.1 = t then ans j else p.2) else p).1 ≤ p.1 + 1 := by
      split
      · exact Nat.le_refl _
      · omega
    omega
theorem rcD_a {b : AB} {l : LW} {v t : Nat} : ∀ (i : Nat) (w : AW) (p : Nat × Int32), t < p.1 → (rcD b l v t i w p).2 = p.2
  | 0, w, p, h => rfl
  | i + 1, w, p, h => by
    unfold rcD
    have := rcF_a (P := arrB w (dayA b l w)) (ans := ansA v w (dayA b l w)) (t := t) (w.1 0 1) 0 p h
    rw [rcD_a i _ _ this.2, this.1]
theorem rcD_is {b : AB} {l : LW} {v t : Nat} : ∀ (i : Nat) (w : AW) (p : Nat × Int32), p.1 ≤ t → (rcD b l v t i w p).2 = (mthA b l v i w (t - p.1)).elim p.2 id
  | 0, w, p, h => rfl
  | i + 1, w, p, h => by
    unfold rcD mthA
    rcases rcF_b (P := arrB w (dayA b l w)) (ans := ansA v w (dayA b l w)) (t := t) (w.1 0 1) 0 p h with ⟨h1, h2, h3, h4⟩ | ⟨s, h1, h2, h3⟩
    · rw [rcD_is i _ _ h3, h1, h4, h2]
      rfl
    · rw [rcD_a i _ _ h3, h1, h2]
      rfl
theorem f244s {b : AB} {t v i : Nat} {w w' : AW} {S : mS} (hb : OkB b) (ok : OkW b w') (hn : w'.1 0 1 = w.1 0 1) (ht : t < 2 ^ 31) (hv : v ≤ 2) (hw : MW S.2.1 w') {P : Int32 × mS → Prop} : ∀ (m s : Nat) (p : Nat × Int32), s + m = w.1 0 1 → p.1 + m < 2000 → Ep (fun n => F244f n 38 (nI t) (nI v) (nI (rcF (arrB w w') (ansA v w w') t m s p).1) (rcF (arrB w w') (ansA v w w') t m s p).2 (nI (i + 1)) (nI 0) (nI 0) (nI 0) S) P → Ep (fun n => F244f n 68 (nI t) (nI v) (nI p.1) p.2 (nI i) (nI (bsN (fun s => !decide (w.1 1 s = 0)) (w.1 0 1))) (nI (w.1 0 0)) (nI s) S) P := by
  have hn13 := ok.1
  have hn1 : S.2.1 1 4 = nI (w.1 0 1) := by rw [hw.1, hn]
  intro m
  induction m with
  | zero =>
    intro s p hs hp h
    refine ep_succ (fun n => F244e68 n ..) ?_
    have e1 : w.1 0 1 ≤ s := by omega
    simp (disch := omega) only [F244b68, L0, L1, L2, L3, L4, L5, L6, L7, L8, L9, L10, L11, L12, L13, L16, L20, L31, L32, L40, L48, L57, L59, L60, L61, L91, L93, L97, L99, L100, L102, L103, L114, L122, L255, L300, L400, L402, L999, L2280, L2500, L99999, L63, L1431655765, L858993459, L252645135, ic_ge, ic_gt, ic_le, ic_lt, ic_eq, ic_ne, if_lt, if_ge, if_gt, if_le, if_eq, if_ne, if_lt_zI, if_ge_zI, ic_ne_m1, ic_eq_m1, ic_nn_m1, ic_ee_m1, if_ne_b2i, if_eq_b2i, b2i_z, decide_eq_true_eq, decide_true, decide_false, Bool.not_eq_true, Bool.not_eq_true', Bool.not_true, Bool.not_false, decide_eq_false_iff_not, Bool.false_eq_true, not_false_eq_true, not_true_eq_false, if_true, if_false, ↓reduceIte, eq_self, Option.bind_some, Bool.true_and, Bool.false_and, Bool.and_true, Bool.and_false, nI_add, nI_subN, nI_clamp, gdF, gdF2, gdP, gdP2, zI_cl, zI_s, Lm1, nI_n0, zI_n0, leF, or_false, false_or, or_self, hn1, e1]
    exact h
  | succ m ih =>
    intro s p hs hp h
    refine ep_succ (fun n => F244e68 n ..) ?_
    have e1 : ¬ w.1 0 1 ≤ s := by omega
    have hM : bsN (fun s => !decide (w.1 1 s = 0)) (w.1 0 1) < 2 ^ 13 := bsN_lt (by omega)
    have f1 := f199n (v := bsN (fun s => !decide (w.1 1 s = 0)) (w.1 0 1)) (s := s) (S := S) (by omega) (by omega)
    rw [bsN_tb, decide_eq_true (show s < w.1 0 1 by omega), Bool.true_and] at f1
    have h4 := (ok.2.1 s (by omega)).2.1
    obtain ⟨_, r11, r13, _, _⟩ := hw.2.2.2.1 s (by omega)
    simp (disch := omega) only [F244b68, L0, L1, L2, L3, L4, L5, L6, L7, L8, L9, L10, L11, L12, L13, L16, L20, L31, L32, L40, L48, L57, L59, L60, L61, L91, L93, L97, L99, L100, L102, L103, L114, L122, L255, L300, L400, L402, L999, L2280, L2500, L99999, L63, L1431655765, L858993459, L252645135, ic_ge, ic_gt, ic_le, ic_lt, ic_eq, ic_ne, if_lt, if_ge, if_gt, if_le, if_eq, if_ne, if_lt_zI, if_ge_zI, ic_ne_m1, ic_eq_m1, ic_nn_m1, ic_ee_m1, if_ne_b2i, if_eq_b2i, b2i_z, decide_eq_true_eq, decide_true, decide_false, Bool.not_eq_true, Bool.not_eq_true', Bool.not_true, Bool.not_false, decide_eq_false_iff_not, Bool.false_eq_true, not_false_eq_true, not_true_eq_false, if_true, if_false, ↓reduceIte, eq_self, Option.bind_some, Bool.true_and, Bool.false_and, Bool.and_true, Bool.and_false, nI_add, nI_subN, nI_clamp, gdF, gdF2, gdP, gdP2, zI_cl, zI_s, Lm1, nI_n0, zI_n0, leF, or_false, false_or, or_self, hn1, e1]
    refine ep_bv f1 ?_
    unfold rcF at h
    unfold arrB at h
    by_cases h0 : w.1 1 s = 0
    · simp only [h0, if_eq_b2i, decide_eq_true_eq, decide_true, decide_false, Bool.not_eq_true, Bool.not_eq_true', Bool.not_true, Bool.not_false, decide_eq_false_iff_not, Bool.false_eq_true, not_false_eq_true, not_true_eq_false, if_true, if_false, ↓reduceIte, eq_self, Option.bind_some, Bool.true_and, Bool.false_and, Bool.and_true, Bool.and_false]
      simp only [h0, decide_eq_true_eq, decide_true, decide_false, Bool.not_eq_true, Bool.not_eq_true', Bool.not_true, Bool.not_false, decide_eq_false_iff_not, Bool.false_eq_true, not_false_eq_true, not_true_eq_false, if_true, if_false, ↓reduceIte, eq_self, Option.bind_some, Bool.true_and, Bool.false_and, Bool.and_true, Bool.and_false] at h
      exact ih (s + 1) p (by omega) (by omega) h
    · by_cases h1 : w'.1 4 s = 1
      · simp only [h0, h1, decide_eq_true_eq, decide_true, decide_false, Bool.not_eq_true, Bool.not_eq_true', Bool.not_true, Bool.not_false, decide_eq_false_iff_not, Bool.false_eq_true, not_false_eq_true, not_true_eq_false, if_true, if_false, ↓reduceIte, eq_self, Option.bind_some, Bool.true_and, Bool.false_and, Bool.and_true, Bool.and_false] at h
        by_cases ht' : p.1 = t
        · have hv' : v = 0 ∨ v = 1 ∨ v = 2 := by omega
          rcases hv' with rfl | rfl | rfl
          · simp (disch := omega) only [h0, if_eq_b2i, L0, L1, L2, L3, L4, L5, L6, L7, L8, L9, L10, L11, L12, L13, L16, L20, L31, L32, L40, L48, L57, L59, L60, L61, L91, L93, L97, L99, L100, L102, L103, L114, L122, L255, L300, L400, L402, L999, L2280, L2500, L99999, L63, L1431655765, L858993459, L252645135, ic_ge, ic_gt, ic_le, ic_lt, ic_eq, ic_ne, if_lt, if_ge, if_gt, if_le, if_eq, if_ne, if_lt_zI, if_ge_zI, ic_ne_m1, ic_eq_m1, ic_nn_m1, ic_ee_m1, if_ne_b2i, if_eq_b2i, b2i_z, decide_eq_true_eq, decide_true, decide_false, Bool.not_eq_true, Bool.not_eq_true', Bool.not_true, Bool.not_false, decide_eq_false_iff_not, Bool.false_eq_true, not_false_eq_true, not_true_eq_false, if_true, if_false, ↓reduceIte, eq_self, Option.bind_some, Bool.true_and, Bool.false_and, Bool.and_true, Bool.and_false, nI_add, nI_subN, nI_clamp, gdF, gdF2, gdP, gdP2, zI_cl, zI_s, Lm1, nI_n0, zI_n0, leF, or_false, false_or, or_self, r13, h1, ht']
            simp only [ht', ↓reduceIte] at h
            exact ih (s + 1) (t + 1, nI s) (by omega) (by show t + 1 + m < 2000; omega) h
          · simp (disch := omega) only [h0, if_eq_b2i, L0, L1, L2, L3, L4, L5, L6, L7, L8, L9, L10, L11, L12, L13, L16, L20, L31, L32, L40, L48, L57, L59, L60, L61, L91, L93, L97, L99, L100, L102, L103, L114, L122, L255, L300, L400, L402, L999, L2280, L2500, L99999, L63, L1431655765, L858993459, L252645135, ic_ge, ic_gt, ic_le, ic_lt, ic_eq, ic_ne, if_lt, if_ge, if_gt, if_le, if_eq, if_ne, if_lt_zI, if_ge_zI, ic_ne_m1, ic_eq_m1, ic_nn_m1, ic_ee_m1, if_ne_b2i, if_eq_b2i, b2i_z, decide_eq_true_eq, decide_true, decide_false, Bool.not_eq_true, Bool.not_eq_true', Bool.not_true, Bool.not_false, decide_eq_false_iff_not, Bool.false_eq_true, not_false_eq_true, not_true_eq_false, if_true, if_false, ↓reduceIte, eq_self, Option.bind_some, Bool.true_and, Bool.false_and, Bool.and_true, Bool.and_false, nI_add, nI_subN, nI_clamp, gdF, gdF2, gdP, gdP2, zI_cl, zI_s, Lm1, nI_n0, zI_n0, leF, or_false, false_or, or_self, r13, h1, ht', Nat.one_ne_zero]
            simp only [ht', ↓reduceIte] at h
            exact ih (s + 1) (t + 1, nI (w.1 0 0)) (by omega) (by show t + 1 + m < 2000; omega) h
          · simp (disch := omega) only [h0, if_eq_b2i, L0, L1, L2, L3, L4, L5, L6, L7, L8, L9, L10, L11, L12, L13, L16, L20, L31, L32, L40, L48, L57, L59, L60, L61, L91, L93, L97, L99, L100, L102, L103, L114, L122, L255, L300, L400, L402, L999, L2280, L2500, L99999, L63, L1431655765, L858993459, L252645135, ic_ge, ic_gt, ic_le, ic_lt, ic_eq, ic_ne, if_lt, if_ge, if_gt, if_le, if_eq, if_ne, if_lt_zI, if_ge_zI, ic_ne_m1, ic_eq_m1, ic_nn_m1, ic_ee_m1, if_ne_b2i, if_eq_b2i, b2i_z, decide_eq_true_eq, decide_true, decide_false, Bool.not_eq_true, Bool.not_eq_true', Bool.not_true, Bool.not_false, decide_eq_false_iff_not, Bool.false_eq_true, not_false_eq_true, not_true_eq_false, if_true, if_false, ↓reduceIte, eq_self, Option.bind_some, Bool.true_and, Bool.false_and, Bool.and_true, Bool.and_false, nI_add, nI_subN, nI_clamp, gdF, gdF2, gdP, gdP2, zI_cl, zI_s, Lm1, nI_n0, zI_n0, leF, or_false, false_or, or_self, r13, r11, h1, ht', show ¬ 2 = 0 by decide, show ¬ 2 = 1 by decide]
            simp only [ht', ↓reduceIte] at h
            exact ih (s + 1) (t + 1, nI (w'.1 2 s)) (by omega) (by show t + 1 + m < 2000; omega) h
        · simp (disch := omega) only [h0, if_eq_b2i, L0, L1, L2, L3, L4, L5, L6, L7, L8, L9, L10, L11, L12, L13, L16, L20, L31, L32, L40, L48, L57, L59, L60, L61, L91, L93, L97, L99, L100, L102, L103, L114, L122, L255, L300, L400, L402, L999, L2280, L2500, L99999, L63, L1431655765, L858993459, L252645135, ic_ge, ic_gt, ic_le, ic_lt, ic_eq, ic_ne, if_lt, if_ge, if_gt, if_le, if_eq, if_ne, if_lt_zI, if_ge_zI, ic_ne_m1, ic_eq_m1, ic_nn_m1, ic_ee_m1, if_ne_b2i, if_eq_b2i, b2i_z, decide_eq_true_eq, decide_true, decide_false, Bool.not_eq_true, Bool.not_eq_true', Bool.not_true, Bool.not_false, decide_eq_false_iff_not, Bool.false_eq_true, not_false_eq_true, not_true_eq_false, if_true, if_false, ↓reduceIte, eq_self, Option.bind_some, Bool.true_and, Bool.false_and, Bool.and_true, Bool.and_false, nI_add, nI_subN, nI_clamp, gdF, gdF2, gdP, gdP2, zI_cl, zI_s, Lm1, nI_n0, zI_n0, leF, or_false, false_or, or_self, r13, h1, ht']
          simp only [ht', if_false] at h
          exact ih (s + 1) (p.1 + 1, p.2) (by omega) (by show p.1 + 1 + m < 2000; omega) h
      · simp (disch := omega) only [h0, if_eq_b2i, L0, L1, L2, L3, L4, L5, L6, L7, L8, L9, L10, L11, L12, L13, L16, L20, L31, L32, L40, L48, L57, L59, L60, L61, L91, L93, L97, L99, L100, L102, L103, L114, L122, L255, L300, L400, L402, L999, L2280, L2500, L99999, L63, L1431655765, L858993459, L252645135, ic_ge, ic_gt, ic_le, ic_lt, ic_eq, ic_ne, if_lt, if_ge, if_gt, if_le, if_eq, if_ne, if_lt_zI, if_ge_zI, ic_ne_m1, ic_eq_m1, ic_nn_m1, ic_ee_m1, if_ne_b2i, if_eq_b2i, b2i_z, decide_eq_true_eq, decide_true, decide_false, Bool.not_eq_true, Bool.not_eq_true', Bool.not_true, Bool.not_false, decide_eq_false_iff_not, Bool.false_eq_true, not_false_eq_true, not_true_eq_false, if_true, if_false, ↓reduceIte, eq_self, Option.bind_some, Bool.true_and, Bool.false_and, Bool.and_true, Bool.and_false, nI_add, nI_subN, nI_clamp, gdF, gdF2, gdP, gdP2, zI_cl, zI_s, Lm1, nI_n0, zI_n0, leF, or_false, false_or, or_self, r13, h1]
        simp only [h0, h1, decide_eq_true_eq, decide_true, decide_false, Bool.not_eq_true, Bool.not_eq_true', Bool.not_true, Bool.not_false, decide_eq_false_iff_not, Bool.false_eq_true, not_false_eq_true, not_true_eq_false, if_true, if_false, ↓reduceIte, eq_self, Option.bind_some, Bool.true_and, Bool.false_and, Bool.and_true, Bool.and_false] at h
        exact ih (s + 1) p (by omega) (by omega) h
theorem f244l {k : Nat} {A : AA} {S1 : mS} {b : AB} {l : LW} {t v : Nat} (ok : OkA k A) (hb : OkB b) (ht : t < 2 ^ 31) (hv : v ≤ 2) (h1 : RM A S1) (sv : Sv S1) : ∀ (i j : Nat) (w : AW) (p : Nat × Int32) (S : mS), j + i = 60 → p.1 ≤ 13 * j → w.1 0 0 + i < 990 → DM S S b l w → Hd S1 S → Ep (fun n => F244f n 38 (nI t) (nI v) (nI p.1) p.2 (nI j) (nI 0) (nI 0) (nI 0) S) (fun z => z.1 = (rcD b l v t i w p).2 ∧ RM A z.2) := by
  intro i
  induction i with
  | zero =>
    intro j w p S hj hp hd hD hH
    refine ep_succ (fun n => F244e38 n ..) ?_
    have e : 60 ≤ j := by omega
    simp (disch := omega) only [F244b38, L0, L1, L2, L3, L4, L5, L6, L7, L8, L9, L10, L11, L12, L13, L16, L20, L31, L32, L40, L48, L57, L59, L60, L61, L91, L93, L97, L99, L100, L102, L103, L114, L122, L255, L300, L400, L402, L999, L2280, L2500, L99999, L63, L1431655765, L858993459, L252645135, ic_ge, ic_gt, ic_le, ic_lt, ic_eq, ic_ne, if_lt, if_ge, if_gt, if_le, if_eq, if_ne, if_lt_zI, if_ge_zI, ic_ne_m1, ic_eq_m1, ic_nn_m1, ic_ee_m1, if_ne_b2i, if_eq_b2i, b2i_z, decide_eq_true_eq, decide_true, decide_false, Bool.not_eq_true, Bool.not_eq_true', Bool.not_true, Bool.not_false, decide_eq_false_iff_not, Bool.false_eq_true, not_false_eq_true, not_true_eq_false, if_true, if_false, ↓reduceIte, eq_self, Option.bind_some, Bool.true_and, Bool.false_and, Bool.and_true, Bool.and_false, nI_add, nI_subN, nI_clamp, gdF, gdF2, gdP, gdP2, zI_cl, zI_s, Lm1, nI_n0, zI_n0, leF, or_false, false_or, or_self, e]
    refine ep_bind (laysBack ok h1 sv hH) ?_
    rintro ⟨_, S4⟩ ⟨h4, hd4⟩
    exact ep_ret ⟨rfl, h4⟩
  | succ i ih =>
    intro j w p S hj hp hd hD hH
    refine ep_succ (fun n => F244e38 n ..) ?_
    have e : ¬ 60 ≤ j := by omega
    have okw := hD.2.2.2.1
    have hn13 := okw.1
    have h16 : S.2.1 1 6 = nI (w.1 0 0) := hD.2.2.1.2.1
    simp (disch := omega) only [F244b38, L0, L1, L2, L3, L4, L5, L6, L7, L8, L9, L10, L11, L12, L13, L16, L20, L31, L32, L40, L48, L57, L59, L60, L61, L91, L93, L97, L99, L100, L102, L103, L114, L122, L255, L300, L400, L402, L999, L2280, L2500, L99999, L63, L1431655765, L858993459, L252645135, ic_ge, ic_gt, ic_le, ic_lt, ic_eq, ic_ne, if_lt, if_ge, if_gt, if_le, if_eq, if_ne, if_lt_zI, if_ge_zI, ic_ne_m1, ic_eq_m1, ic_nn_m1, ic_ee_m1, if_ne_b2i, if_eq_b2i, b2i_z, decide_eq_true_eq, decide_true, decide_false, Bool.not_eq_true, Bool.not_eq_true', Bool.not_true, Bool.not_false, decide_eq_false_iff_not, Bool.false_eq_true, not_false_eq_true, not_true_eq_false, if_true, if_false, ↓reduceIte, eq_self, Option.bind_some, Bool.true_and, Bool.false_and, Bool.and_true, Bool.and_false, nI_add, nI_subN, nI_clamp, gdF, gdF2, gdP, gdP2, zI_cl, zI_s, Lm1, nI_n0, zI_n0, leF, or_false, false_or, or_self, e]
    refine ep_bv (f213 hD.2.2.1 okw) ?_
    refine ep_bind (f212 (by omega) hD) ?_
    rintro ⟨_, S3⟩ ⟨_, D3⟩
    have D3 : DM S S3 b l (dayA b l w) := D3
    simp only [h16]
    have ok' := dayA_Ok (l := l) hb okw
    have hn := dayA_n (l := l) hb okw
    have hl := rcF_l (P := arrB w (dayA b l w)) (ans := ansA v w (dayA b l w)) (t := t) (w.1 0 1) 0 p
    refine f244s hb ok' hn ht hv D3.2.2.1 (w.1 0 1) 0 p (by omega) (by omega) ?_
    have := ih (j + 1) (dayA b l w) (rcF (arrB w (dayA b l w)) (ansA v w (dayA b l w)) t (w.1 0 1) 0 p) S3 (by omega) (by omega) (by rw [dayA_d hb okw]; omega) (DM_rf D3) (FrM_H hH D3.2.2.2.2.2)
    exact this
theorem sm_mouth {k : Nat} {a1 a2 : Int32} (hk : k < 512) (A : AA) (ok : OkA k A) : ∃ r A', OkA (k + 1) A' ∧ CallX k (fun n => G111 n a1 a2) A r A' ∧ CallM (fun n => F244 n a1 a2) A r A' := by
  have ok1 := OkA_s ok
  have hb := OkA_b ok
  have kw := OkA_w ok
  have hday := (ok.2.2.2.1.2.2.1 A.2.2.1.2.1 (Or.inl rfl)).2.2.1
  have hn12 := (ok.2.2.2.1.2.2.1 A.2.2.1.2.1 (Or.inl rfl)).2.1
  by_cases hall : ¬ A.2.2.1.1 0 0 = 0 ∧ (∃ t, t < 2 ^ 31 ∧ a1 = nI t) ∧ (∃ j, j ≤ 2 ∧ a2 = nI j)
  · obtain ⟨h0, ⟨t, ht, rfl⟩, ⟨v, hv, rfl⟩⟩ := hall
    have in2 : inL (nI v).toInt64 0 2 = true := by
      have := inK (a := v) (k := 2) (by omega) (by decide)
      rw [decide_eq_true hv] at this
      exact this
    refine ⟨(mthA A.2.2.1.1 (lawA A.2.1.2 A.2.2.1.2.2.2.1) v 60 A.2.2.1.2.1 t).elim (-2) id, A, ok1, fun T G hR hG => ?_, fun S hS => ?_⟩
    · have hn1 : T.1 95 1 = nI (A.2.2.1.2.1.1 0 1) := (CD_w hR).2.1
      refine ep_succ (fun n => G111e0 n ..) ?_
      simp only [G111b0]
      refine ep_bv ((arg_R ok h0).1 T G hR) ?_
      by_cases htn : t < A.2.2.1.2.1.1 0 1
      · simp (disch := omega) only [L0, L1, L2, L3, L4, L5, L6, L7, L8, L9, L10, L11, L12, L13, L16, L20, L31, L32, L40, L48, L57, L59, L60, L61, L91, L93, L97, L99, L100, L102, L103, L114, L122, L255, L300, L400, L402, L999, L2280, L2500, L99999, L63, L1431655765, L858993459, L252645135, ic_ge, ic_gt, ic_le, ic_lt, ic_eq, ic_ne, if_lt, if_ge, if_gt, if_le, if_eq, if_ne, if_lt_zI, if_ge_zI, ic_ne_m1, ic_eq_m1, ic_nn_m1, ic_ee_m1, if_ne_b2i, if_eq_b2i, b2i_z, decide_eq_true_eq, decide_true, decide_false, Bool.not_eq_true, Bool.not_eq_true', Bool.not_true, Bool.not_false, decide_eq_false_iff_not, Bool.false_eq_true, not_false_eq_true, not_true_eq_false, if_true, if_false, ↓reduceIte, eq_self, Option.bind_some, Bool.true_and, Bool.false_and, Bool.and_true, Bool.and_false, nI_add, nI_subN, nI_clamp, gdF, gdF2, gdP, gdP2, zI_cl, zI_s, Lm1, nI_n0, zI_n0, leF, or_false, false_or, or_self, Nat.one_ne_zero, hv, hn1, htn]
        obtain ⟨lo, e1, e2, e3⟩ := g84 ok hR
        refine ep_bv e1 ?_
        simp only [e2, decide_eq_true_eq, decide_true, decide_false, Bool.not_eq_true, Bool.not_eq_true', Bool.not_true, Bool.not_false, decide_eq_false_iff_not, Bool.false_eq_true, not_false_eq_true, not_true_eq_false, if_true, if_false, ↓reduceIte, eq_self, Option.bind_some, Bool.true_and, Bool.false_and, Bool.and_true, Bool.and_false]
        refine ep_bind (g109 ok hR e3) ?_
        rintro ⟨_, T1⟩ ⟨d1, d2⟩
        have d1 : DS T1 T1 110 lo (lawN G lo) A.2.2.1.1 (lawA A.2.1.2 A.2.2.1.2.2.2.1) (fun f => nI (cf A.2.2.1.2.1 f)) A.2.2.1.2.1 := d1
        refine ep_bind (R := fun z => ∃ w', DS T1 z.2 110 lo (lawN G lo) A.2.2.1.1 (lawA A.2.1.2 A.2.2.1.2.2.2.1) (fun f => nI (cf A.2.2.1.2.1 f)) w' ∧ ((z.1 = zI 0 ∧ ∀ v, mthA A.2.2.1.1 (lawA A.2.1.2 A.2.2.1.2.2.2.1) v 60 A.2.2.1.2.1 t = none) ∨ ∃ s w0, z.1 = nI s ∧ s < w'.1 0 1 ∧ w'.1 6 s = w0.1 0 0 + 1 ∧ ∀ v, mthA A.2.2.1.1 (lawA A.2.1.2 A.2.2.1.2.2.2.1) v 60 A.2.2.1.2.1 t = some (ansA v w0 w' s))) ?_ ?_
        · refine ep_succ (fun n => G112e0 110 lo (lawN G lo) n ..) ?_
          simp only [G112b0, L0]
          exact g112l hb 60 0 t T1 A.2.2.1.2.1 (by decide) (by omega) (by omega) d1
        · rintro ⟨z1, T2⟩ ⟨w', a1, a2⟩
          have a1 : DS T1 T2 110 lo (lawN G lo) A.2.2.1.1 (lawA A.2.1.2 A.2.2.1.2.2.2.1) (fun f => nI (cf A.2.2.1.2.1 f)) w' := a1
          have hRf := RC_L hR (FrL_tr d2 (FrS_L' a1.2.2.2.2))
          have h42 : T2.2.2.2 109 4 = some 110 := a1.1.2.2.1
          rcases a2 with ⟨c1, c2⟩ | ⟨s, w0, c1, c2, c3, c4⟩
          · have c1 : z1 = zI 0 := c1
            subst c1
            simp (disch := omega) only [L0, L1, L2, L3, L4, L5, L6, L7, L8, L9, L10, L11, L12, L13, L16, L20, L31, L32, L40, L48, L57, L59, L60, L61, L91, L93, L97, L99, L100, L102, L103, L114, L122, L255, L300, L400, L402, L999, L2280, L2500, L99999, L63, L1431655765, L858993459, L252645135, ic_ge, ic_gt, ic_le, ic_lt, ic_eq, ic_ne, if_lt, if_ge, if_gt, if_le, if_eq, if_ne, if_lt_zI, if_ge_zI, ic_ne_m1, ic_eq_m1, ic_nn_m1, ic_ee_m1, if_ne_b2i, if_eq_b2i, b2i_z, decide_eq_true_eq, decide_true, decide_false, Bool.not_eq_true, Bool.not_eq_true', Bool.not_true, Bool.not_false, decide_eq_false_iff_not, Bool.false_eq_true, not_false_eq_true, not_true_eq_false, if_true, if_false, ↓reduceIte, eq_self, Option.bind_some, Bool.true_and, Bool.false_and, Bool.and_true, Bool.and_false, nI_add, nI_subN, nI_clamp, gdF, gdF2, gdP, gdP2, zI_cl, zI_s, Lm1, nI_n0, zI_n0, leF, or_false, false_or, or_self]
            rw [c2 v]
            exact ep_ret ⟨rfl, hRf, RG_s hG⟩
          · have c1 : z1 = nI s := c1
            subst c1
            have hn13 := a1.2.2.1.1
            have r2 : T2.2.1 112 s = nI (w'.1 2 s) := (a1.2.1.2.2.2.1 s c2).2.1
            have r6 : T2.2.1 118 s = zI (w'.1 6 s) := (a1.2.1.2.2.2.1 s c2).2.2.2.2.2.2.2
            rw [c3, zI_s] at r6
            rw [c4 v]
            have hv' : v = 0 ∨ v = 1 ∨ v = 2 := by omega
            rcases hv' with rfl | rfl | rfl
            · simp (disch := omega) only [L0, L1, L2, L3, L4, L5, L6, L7, L8, L9, L10, L11, L12, L13, L16, L20, L31, L32, L40, L48, L57, L59, L60, L61, L91, L93, L97, L99, L100, L102, L103, L114, L122, L255, L300, L400, L402, L999, L2280, L2500, L99999, L63, L1431655765, L858993459, L252645135, ic_ge, ic_gt, ic_le, ic_lt, ic_eq, ic_ne, if_lt, if_ge, if_gt, if_le, if_eq, if_ne, if_lt_zI, if_ge_zI, ic_ne_m1, ic_eq_m1, ic_nn_m1, ic_ee_m1, if_ne_b2i, if_eq_b2i, b2i_z, decide_eq_true_eq, decide_true, decide_false, Bool.not_eq_true, Bool.not_eq_true', Bool.not_true, Bool.not_false, decide_eq_false_iff_not, Bool.false_eq_true, not_false_eq_true, not_true_eq_false, if_true, if_false, ↓reduceIte, eq_self, Option.bind_some, Bool.true_and, Bool.false_and, Bool.and_true, Bool.and_false, nI_add, nI_subN, nI_clamp, gdF, gdF2, gdP, gdP2, zI_cl, zI_s, Lm1, nI_n0, zI_n0, leF, or_false, false_or, or_self, h42]
              exact ep_ret ⟨rfl, hRf, RG_s hG⟩
            · simp (disch := omega) only [L0, L1, L2, L3, L4, L5, L6, L7, L8, L9, L10, L11, L12, L13, L16, L20, L31, L32, L40, L48, L57, L59, L60, L61, L91, L93, L97, L99, L100, L102, L103, L114, L122, L255, L300, L400, L402, L999, L2280, L2500, L99999, L63, L1431655765, L858993459, L252645135, ic_ge, ic_gt, ic_le, ic_lt, ic_eq, ic_ne, if_lt, if_ge, if_gt, if_le, if_eq, if_ne, if_lt_zI, if_ge_zI, ic_ne_m1, ic_eq_m1, ic_nn_m1, ic_ee_m1, if_ne_b2i, if_eq_b2i, b2i_z, decide_eq_true_eq, decide_true, decide_false, Bool.not_eq_true, Bool.not_eq_true', Bool.not_true, Bool.not_false, decide_eq_false_iff_not, Bool.false_eq_true, not_false_eq_true, not_true_eq_false, if_true, if_false, ↓reduceIte, eq_self, Option.bind_some, Bool.true_and, Bool.false_and, Bool.and_true, Bool.and_false, nI_add, nI_subN, nI_clamp, gdF, gdF2, gdP, gdP2, zI_cl, zI_s, Lm1, nI_n0, zI_n0, leF, or_false, false_or, or_self, h42, r6, Nat.one_ne_zero]
              exact ep_ret ⟨rfl, hRf, RG_s hG⟩
            · simp (disch := omega) only [L0, L1, L2, L3, L4, L5, L6, L7, L8, L9, L10, L11, L12, L13, L16, L20, L31, L32, L40, L48, L57, L59, L60, L61, L91, L93, L97, L99, L100, L102, L103, L114, L122, L255, L300, L400, L402, L999, L2280, L2500, L99999, L63, L1431655765, L858993459, L252645135, ic_ge, ic_gt, ic_le, ic_lt, ic_eq, ic_ne, if_lt, if_ge, if_gt, if_le, if_eq, if_ne, if_lt_zI, if_ge_zI, ic_ne_m1, ic_eq_m1, ic_nn_m1, ic_ee_m1, if_ne_b2i, if_eq_b2i, b2i_z, decide_eq_true_eq, decide_true, decide_false, Bool.not_eq_true, Bool.not_eq_true', Bool.not_true, Bool.not_false, decide_eq_false_iff_not, Bool.false_eq_true, not_false_eq_true, not_true_eq_false, if_true, if_false, ↓reduceIte, eq_self, Option.bind_some, Bool.true_and, Bool.false_and, Bool.and_true, Bool.and_false, nI_add, nI_subN, nI_clamp, gdF, gdF2, gdP, gdP2, zI_cl, zI_s, Lm1, nI_n0, zI_n0, leF, or_false, false_or, or_self, h42, r2, show ¬ 2 = 0 by decide, show ¬ 2 = 1 by decide]
              exact ep_ret ⟨rfl, hRf, RG_s hG⟩
      · simp (disch := omega) only [L0, L1, L2, L3, L4, L5, L6, L7, L8, L9, L10, L11, L12, L13, L16, L20, L31, L32, L40, L48, L57, L59, L60, L61, L91, L93, L97, L99, L100, L102, L103, L114, L122, L255, L300, L400, L402, L999, L2280, L2500, L99999, L63, L1431655765, L858993459, L252645135, ic_ge, ic_gt, ic_le, ic_lt, ic_eq, ic_ne, if_lt, if_ge, if_gt, if_le, if_eq, if_ne, if_lt_zI, if_ge_zI, ic_ne_m1, ic_eq_m1, ic_nn_m1, ic_ee_m1, if_ne_b2i, if_eq_b2i, b2i_z, decide_eq_true_eq, decide_true, decide_false, Bool.not_eq_true, Bool.not_eq_true', Bool.not_true, Bool.not_false, decide_eq_false_iff_not, Bool.false_eq_true, not_false_eq_true, not_true_eq_false, if_true, if_false, ↓reduceIte, eq_self, Option.bind_some, Bool.true_and, Bool.false_and, Bool.and_true, Bool.and_false, nI_add, nI_subN, nI_clamp, gdF, gdF2, gdP, gdP2, zI_cl, zI_s, Lm1, nI_n0, zI_n0, leF, or_false, false_or, or_self, Nat.one_ne_zero, hv, hn1, htn]
        have hon := onN_le (w := A.2.2.1.2.1)
        rw [mth_ge hb 60 A.2.2.1.2.1 t kw (by omega)]
        exact ep_ret ⟨rfl, hR, RG_s hG⟩
    · refine ep_succ (fun n => F244e0 n ..) ?_
      simp only [F244b0]
      refine ep_bv ((arg_R ok h0).2 S hS) ?_
      simp (disch := omega) only [L0, L1, L2, L3, L4, L5, L6, L7, L8, L9, L10, L11, L12, L13, L16, L20, L31, L32, L40, L48, L57, L59, L60, L61, L91, L93, L97, L99, L100, L102, L103, L114, L122, L255, L300, L400, L402, L999, L2280, L2500, L99999, L63, L1431655765, L858993459, L252645135, ic_ge, ic_gt, ic_le, ic_lt, ic_eq, ic_ne, if_lt, if_ge, if_gt, if_le, if_eq, if_ne, if_lt_zI, if_ge_zI, ic_ne_m1, ic_eq_m1, ic_nn_m1, ic_ee_m1, if_ne_b2i, if_eq_b2i, b2i_z, decide_eq_true_eq, decide_true, decide_false, Bool.not_eq_true, Bool.not_eq_true', Bool.not_true, Bool.not_false, decide_eq_false_iff_not, Bool.false_eq_true, not_false_eq_true, not_true_eq_false, if_true, if_false, ↓reduceIte, eq_self, Option.bind_some, Bool.true_and, Bool.false_and, Bool.and_true, Bool.and_false, nI_add, nI_subN, nI_clamp, gdF, gdF2, gdP, gdP2, zI_cl, zI_s, Lm1, nI_n0, zI_n0, leF, or_false, false_or, or_self, Nat.one_ne_zero]
      refine ep_bv (f172 S) ?_
      have in2' : inL (nI v).toInt64 0 2 = true := in2
      rw [in2']
      simp only [if_ne_b2i, decide_eq_true_eq, decide_true, decide_false, Bool.not_eq_true, Bool.not_eq_true', Bool.not_true, Bool.not_false, decide_eq_false_iff_not, Bool.false_eq_true, not_false_eq_true, not_true_eq_false, if_true, if_false, ↓reduceIte, eq_self, Option.bind_some, Bool.true_and, Bool.false_and, Bool.and_true, Bool.and_false]
      refine ep_bind (keepsAll ok hS) ?_
      rintro ⟨_, S1⟩ ⟨h1, sv⟩
      have := f244l (A := A) (t := t) ok hb ht hv h1 sv 60 0 A.2.2.1.2.1 (0, -2) S1 (by decide) (by decide) (by omega) (DM_of ok h1) Hd_rf
      rw [rcD_is 60 A.2.2.1.2.1 (0, -2) (Nat.zero_le _)] at this
      exact this
  · refine ⟨zI 0, A, ok1, fun T G hR hG => ?_, callM_id (fun S hS => ?_)⟩
    · refine ep_succ (fun n => G111e0 n ..) ?_
      simp only [G111b0]
      by_cases h0 : A.2.2.1.1 0 0 = 0
      · refine ep_bv ((arg_R0 ok h0).1 T G hR) ?_
        simp (disch := omega) only [L0, L1, L2, L3, L4, L5, L6, L7, L8, L9, L10, L11, L12, L13, L16, L20, L31, L32, L40, L48, L57, L59, L60, L61, L91, L93, L97, L99, L100, L102, L103, L114, L122, L255, L300, L400, L402, L999, L2280, L2500, L99999, L63, L1431655765, L858993459, L252645135, ic_ge, ic_gt, ic_le, ic_lt, ic_eq, ic_ne, if_lt, if_ge, if_gt, if_le, if_eq, if_ne, if_lt_zI, if_ge_zI, ic_ne_m1, ic_eq_m1, ic_nn_m1, ic_ee_m1, if_ne_b2i, if_eq_b2i, b2i_z, decide_eq_true_eq, decide_true, decide_false, Bool.not_eq_true, Bool.not_eq_true', Bool.not_true, Bool.not_false, decide_eq_false_iff_not, Bool.false_eq_true, not_false_eq_true, not_true_eq_false, if_true, if_false, ↓reduceIte, eq_self, Option.bind_some, Bool.true_and, Bool.false_and, Bool.and_true, Bool.and_false, nI_add, nI_subN, nI_clamp, gdF, gdF2, gdP, gdP2, zI_cl, zI_s, Lm1, nI_n0, zI_n0, leF, or_false, false_or, or_self]
        exact ep_ret ⟨rfl, hR, RG_s hG⟩
      · refine ep_bv ((arg_R ok h0).1 T G hR) ?_
        have e1 : am_if .eq (nI 1) = false := by decide
        simp only [e1, decide_eq_true_eq, decide_true, decide_false, Bool.not_eq_true, Bool.not_eq_true', Bool.not_true, Bool.not_false, decide_eq_false_iff_not, Bool.false_eq_true, not_false_eq_true, not_true_eq_false, if_true, if_false, ↓reduceIte, eq_self, Option.bind_some, Bool.true_and, Bool.false_and, Bool.and_true, Bool.and_false]
        rcases i32_cases a1 with ⟨t, hx1, rfl⟩ | hx1
        · simp (disch := omega) only [L0, L1, L2, L3, L4, L5, L6, L7, L8, L9, L10, L11, L12, L13, L16, L20, L31, L32, L40, L48, L57, L59, L60, L61, L91, L93, L97, L99, L100, L102, L103, L114, L122, L255, L300, L400, L402, L999, L2280, L2500, L99999, L63, L1431655765, L858993459, L252645135, ic_ge, ic_gt, ic_le, ic_lt, ic_eq, ic_ne, if_lt, if_ge, if_gt, if_le, if_eq, if_ne, if_lt_zI, if_ge_zI, ic_ne_m1, ic_eq_m1, ic_nn_m1, ic_ee_m1, if_ne_b2i, if_eq_b2i, b2i_z, decide_eq_true_eq, decide_true, decide_false, Bool.not_eq_true, Bool.not_eq_true', Bool.not_true, Bool.not_false, decide_eq_false_iff_not, Bool.false_eq_true, not_false_eq_true, not_true_eq_false, if_true, if_false, ↓reduceIte, eq_self, Option.bind_some, Bool.true_and, Bool.false_and, Bool.and_true, Bool.and_false, nI_add, nI_subN, nI_clamp, gdF, gdF2, gdP, gdP2, zI_cl, zI_s, Lm1, nI_n0, zI_n0, leF, or_false, false_or, or_self]
          rcases arg_W a2 (v := 2) (by decide) with ⟨j, hj, rfl⟩ | ⟨h4 | ⟨h4, h5⟩, _⟩
          · exact absurd ⟨h0, ⟨t, hx1, rfl⟩, ⟨j, hj, rfl⟩⟩ hall
          · simp only [h4, decide_eq_true_eq, decide_true, decide_false, Bool.not_eq_true, Bool.not_eq_true', Bool.not_true, Bool.not_false, decide_eq_false_iff_not, Bool.false_eq_true, not_false_eq_true, not_true_eq_false, if_true, if_false, ↓reduceIte, eq_self, Option.bind_some, Bool.true_and, Bool.false_and, Bool.and_true, Bool.and_false]
            exact ep_ret ⟨rfl, hR, RG_s hG⟩
          · simp only [h4, h5, decide_eq_true_eq, decide_true, decide_false, Bool.not_eq_true, Bool.not_eq_true', Bool.not_true, Bool.not_false, decide_eq_false_iff_not, Bool.false_eq_true, not_false_eq_true, not_true_eq_false, if_true, if_false, ↓reduceIte, eq_self, Option.bind_some, Bool.true_and, Bool.false_and, Bool.and_true, Bool.and_false]
            exact ep_ret ⟨rfl, hR, RG_s hG⟩
        · simp only [(neg_if hx1).1, decide_eq_true_eq, decide_true, decide_false, Bool.not_eq_true, Bool.not_eq_true', Bool.not_true, Bool.not_false, decide_eq_false_iff_not, Bool.false_eq_true, not_false_eq_true, not_true_eq_false, if_true, if_false, ↓reduceIte, eq_self, Option.bind_some, Bool.true_and, Bool.false_and, Bool.and_true, Bool.and_false]
          exact ep_ret ⟨rfl, hR, RG_s hG⟩
    · refine ev_succ (fun n => F244e0 n ..) ?_
      simp only [F244b0]
      by_cases h0 : A.2.2.1.1 0 0 = 0
      · refine ev_bind ((arg_R0 ok h0).2 S hS) ?_
        simp (disch := omega) only [L0, L1, L2, L3, L4, L5, L6, L7, L8, L9, L10, L11, L12, L13, L16, L20, L31, L32, L40, L48, L57, L59, L60, L61, L91, L93, L97, L99, L100, L102, L103, L114, L122, L255, L300, L400, L402, L999, L2280, L2500, L99999, L63, L1431655765, L858993459, L252645135, ic_ge, ic_gt, ic_le, ic_lt, ic_eq, ic_ne, if_lt, if_ge, if_gt, if_le, if_eq, if_ne, if_lt_zI, if_ge_zI, ic_ne_m1, ic_eq_m1, ic_nn_m1, ic_ee_m1, if_ne_b2i, if_eq_b2i, b2i_z, decide_eq_true_eq, decide_true, decide_false, Bool.not_eq_true, Bool.not_eq_true', Bool.not_true, Bool.not_false, decide_eq_false_iff_not, Bool.false_eq_true, not_false_eq_true, not_true_eq_false, if_true, if_false, ↓reduceIte, eq_self, Option.bind_some, Bool.true_and, Bool.false_and, Bool.and_true, Bool.and_false, nI_add, nI_subN, nI_clamp, gdF, gdF2, gdP, gdP2, zI_cl, zI_s, Lm1, nI_n0, zI_n0, leF, or_false, false_or, or_self]
        exact ev_ret
      · refine ev_bind ((arg_R ok h0).2 S hS) ?_
        have e1 : am_if .eq (nI 1) = false := by decide
        simp only [e1, decide_eq_true_eq, decide_true, decide_false, Bool.not_eq_true, Bool.not_eq_true', Bool.not_true, Bool.not_false, decide_eq_false_iff_not, Bool.false_eq_true, not_false_eq_true, not_true_eq_false, if_true, if_false, ↓reduceIte, eq_self, Option.bind_some, Bool.true_and, Bool.false_and, Bool.and_true, Bool.and_false]
        rcases i32_cases a1 with ⟨t, hx1, rfl⟩ | hx1
        · simp (disch := omega) only [L0, L1, L2, L3, L4, L5, L6, L7, L8, L9, L10, L11, L12, L13, L16, L20, L31, L32, L40, L48, L57, L59, L60, L61, L91, L93, L97, L99, L100, L102, L103, L114, L122, L255, L300, L400, L402, L999, L2280, L2500, L99999, L63, L1431655765, L858993459, L252645135, ic_ge, ic_gt, ic_le, ic_lt, ic_eq, ic_ne, if_lt, if_ge, if_gt, if_le, if_eq, if_ne, if_lt_zI, if_ge_zI, ic_ne_m1, ic_eq_m1, ic_nn_m1, ic_ee_m1, if_ne_b2i, if_eq_b2i, b2i_z, decide_eq_true_eq, decide_true, decide_false, Bool.not_eq_true, Bool.not_eq_true', Bool.not_true, Bool.not_false, decide_eq_false_iff_not, Bool.false_eq_true, not_false_eq_true, not_true_eq_false, if_true, if_false, ↓reduceIte, eq_self, Option.bind_some, Bool.true_and, Bool.false_and, Bool.and_true, Bool.and_false, nI_add, nI_subN, nI_clamp, gdF, gdF2, gdP, gdP2, zI_cl, zI_s, Lm1, nI_n0, zI_n0, leF, or_false, false_or, or_self]
          refine ev_bind (f172 S) ?_
          rcases arg_W a2 (v := 2) (by decide) with ⟨j, hj, rfl⟩ | ⟨_, h5⟩
          · exact absurd ⟨h0, ⟨t, hx1, rfl⟩, ⟨j, hj, rfl⟩⟩ hall
          · have h5 : inL a2.toInt64 0 2 = false := h5
            rw [h5]
            simp only [if_ne_b2i, decide_eq_true_eq, decide_true, decide_false, Bool.not_eq_true, Bool.not_eq_true', Bool.not_true, Bool.not_false, decide_eq_false_iff_not, Bool.false_eq_true, not_false_eq_true, not_true_eq_false, if_true, if_false, ↓reduceIte, eq_self, Option.bind_some, Bool.true_and, Bool.false_and, Bool.and_true, Bool.and_false]
            exact ev_ret
        · simp only [(neg_if hx1).1, decide_eq_true_eq, decide_true, decide_false, Bool.not_eq_true, Bool.not_eq_true', Bool.not_true, Bool.not_false, decide_eq_false_iff_not, Bool.false_eq_true, not_false_eq_true, not_true_eq_false, if_true, if_false, ↓reduceIte, eq_self, Option.bind_some, Bool.true_and, Bool.false_and, Bool.and_true, Bool.and_false]
          exact ev_ret
