def G94b0 (l0 : Nat) (F : Nat → Int32 → xS → Option (Int32 × xS)) (n : Nat) (l1 : Int32) (S : xS) : Option (Int32 × xS) := (if ¬ (l1 < 0 ∨ 13 ≤ (l1).toNatClampNeg) then some (((S.2.1 (l0 + 2) (Int32.toNatClampNeg l1)) - (S.2.1 (l0 + 2) (Int32.toNatClampNeg l1)) / 10 * 10), S) else none)
def G94f (l0 : Nat) : Nat → Nat → Int32 → xS → Option (Int32 × xS)
  | 0, _, _, _ => none
  | n + 1, c, l1, S => G94b0 l0 (G94f l0 n) n l1 S
theorem G94e0 (l0 : Nat) (n : Nat) (l1 : Int32) (S : xS) : G94f l0 (n + 1) 0 l1 S = G94b0 l0 (G94f l0 n) n l1 S := rfl
def G94 (l0 : Nat) (n : Nat) (l1 : Int32) (S : xS) : Option (Int32 × xS) := G94f l0 n 0 l1 S
set_option maxRecDepth 20000 in
set_option maxHeartbeats 4000000 in
theorem G94l {xs : Nat → Int32} {L9 d : Nat} {G : gS} {h : Nat → va_E} {l0 : Nat} {Q : Option Value → AmH → Prop} {r0 : Int32} {S0 : xS} (h0 : wB G l0 = true) (hQ : Q (some (.int r0)) (xst S0 G h)) : ∀ n : Nat, (∀ (l1 : Int32) (S : xS), G94f l0 n 0 l1 S = some (r0, S0) → Go (am_X xs L9) (d + 0) 94 0 [.ref l0, .int l1] [] (xst S G h) Q) := by
  intro n
  induction n with
  | zero => exact fun l1 S hf => (by cases hf)
  | succ n ih =>
    intro l1 S hf
    rw [G94e0] at hf
    unfold G94b0 at hf
    refine r_aload_n fe_94_0 rfl ?_
    refine r_getf (v := .ref (l0 + 2)) fe_94_1 lf_9_25 (x_c (wk0 h0) (by decide)) (x_lt (wk0 h0) (by decide)) rfl ?_
    refine r_iload_n fe_94_4 rfl ?_
    by_cases hg1 : ¬ (l1 < 0 ∨ 13 ≤ (l1).toNatClampNeg)
    rotate_left
    · rw [if_neg hg1] at hf; cases hf
    rw [if_pos hg1] at hf
    refine r_iald (j := (Int32.toNatClampNeg l1)) (v := S.2.1 (l0 + 2) (Int32.toNatClampNeg l1)) fe_94_5 (x_c (wk2 h0) (by decide)) (x_lt (wk2 h0) (by decide)) (fun z => hg1 (Or.inl z)) rfl (fun z => hg1 (Or.inr z)) rfl ?_
    refine r_bipush (v := 10) fe_94_6 (by decide) ?_
    refine r_irem (v := ((S.2.1 (l0 + 2) (Int32.toNatClampNeg l1)) - (S.2.1 (l0 + 2) (Int32.toNatClampNeg l1)) / 10 * 10)) fe_94_8 (by decide) rfl ?_
    refine r_iret fe_94_9 ⟨rfl, by decide⟩ ?_
    exact dfin (P := fun r T => Q (some (.int r)) (xst T G h)) hf hQ
theorem G94c {xs : Nat → Int32} {L9 d : Nat} {G : gS} {h : Nat → va_E} {l0 : Nat} {n : Nat} {Q : Option Value → AmH → Prop} {r0 : Int32} {S0 S : xS} {l1 : Int32} (h0 : wB G l0 = true) (hf : G94 l0 n l1 S = some (r0, S0)) (hQ : Q (some (.int r0)) (xst S0 G h)) : Ca (am_X xs L9) (d + 0) 94 [.ref l0, .int l1] (xst S G h) Q := (G94l h0 hQ n) l1 S hf
def G95b0 (l0 : Nat) (F : Nat → Int32 → xS → Option (Int32 × xS)) (n : Nat) (l1 : Int32) (S : xS) : Option (Int32 × xS) := (if ¬ (l1 < 0 ∨ 13 ≤ (l1).toNatClampNeg) then (if am_if .ge ((S.2.1 (l0 + 3) (Int32.toNatClampNeg l1)) - 1) = true then (if ¬ (l1 < 0 ∨ 13 ≤ (l1).toNatClampNeg) then (if ¬ (((S.2.1 (l0 + 3) (Int32.toNatClampNeg l1)) - 1) < 0 ∨ 9 ≤ (((S.2.1 (l0 + 3) (Int32.toNatClampNeg l1)) - 1)).toNatClampNeg) then (if (am_tens.getD (Int32.toNatClampNeg ((S.2.1 (l0 + 3) (Int32.toNatClampNeg l1)) - 1)) 0) = 0 then none else some (((S.2.1 (l0 + 2) (Int32.toNatClampNeg l1)) / (am_tens.getD (Int32.toNatClampNeg ((S.2.1 (l0 + 3) (Int32.toNatClampNeg l1)) - 1)) 0)), S)) else none) else none) else some (0, S)) else none)
def G95f (l0 : Nat) : Nat → Nat → Int32 → xS → Option (Int32 × xS)
  | 0, _, _, _ => none
  | n + 1, c, l1, S => G95b0 l0 (G95f l0 n) n l1 S
theorem G95e0 (l0 : Nat) (n : Nat) (l1 : Int32) (S : xS) : G95f l0 (n + 1) 0 l1 S = G95b0 l0 (G95f l0 n) n l1 S := rfl
def G95 (l0 : Nat) (n : Nat) (l1 : Int32) (S : xS) : Option (Int32 × xS) := G95f l0 n 0 l1 S
set_option maxRecDepth 20000 in
set_option maxHeartbeats 4000000 in
theorem G95l {xs : Nat → Int32} {L9 d : Nat} {G : gS} {h : Nat → va_E} {l0 : Nat} {Q : Option Value → AmH → Prop} {r0 : Int32} {S0 : xS} (h0 : wB G l0 = true) (hQ : Q (some (.int r0)) (xst S0 G h)) : ∀ n : Nat, (∀ (l1 : Int32) (S : xS), G95f l0 n 0 l1 S = some (r0, S0) → Go (am_X xs L9) (d + 0) 95 0 [.ref l0, .int l1, .float 0] [] (xst S G h) Q) := by
  intro n
  induction n with
  | zero => exact fun l1 S hf => (by cases hf)
  | succ n ih =>
    intro l1 S hf
    rw [G95e0] at hf
    unfold G95b0 at hf
    refine r_aload_n fe_95_0 rfl ?_
    refine r_getf (v := .ref (l0 + 3)) fe_95_1 lf_9_28 (x_c (wk0 h0) (by decide)) (x_lt (wk0 h0) (by decide)) rfl ?_
    refine r_iload_n fe_95_4 rfl ?_
    by_cases hg1 : ¬ (l1 < 0 ∨ 13 ≤ (l1).toNatClampNeg)
    rotate_left
    · rw [if_neg hg1] at hf; cases hf
    rw [if_pos hg1] at hf
    refine r_iald (j := (Int32.toNatClampNeg l1)) (v := S.2.1 (l0 + 3) (Int32.toNatClampNeg l1)) fe_95_5 (x_c (wk3 h0) (by decide)) (x_lt (wk3 h0) (by decide)) (fun z => hg1 (Or.inl z)) rfl (fun z => hg1 (Or.inr z)) rfl ?_
    refine r_iconst (v := 1) fe_95_6 (by decide) ?_
    refine r_isub (v := ((S.2.1 (l0 + 3) (Int32.toNatClampNeg l1)) - 1)) fe_95_7 rfl ?_
    refine r_istore_n fe_95_8 (Nat.le_of_ble_eq_true rfl) rfl ?_
    refine r_iload_n fe_95_9 rfl ?_
    by_cases hb2 : am_if .ge ((S.2.1 (l0 + 3) (Int32.toNatClampNeg l1)) - 1) = true
    · rw [if_pos hb2] at hf
      refine r_if_t (t := 17) fe_95_10 (by decide) hb2 ?_
      refine r_aload_n fe_95_17 rfl ?_
      refine r_getf (v := .ref (l0 + 2)) fe_95_18 lf_9_25 (x_c (wk0 h0) (by decide)) (x_lt (wk0 h0) (by decide)) rfl ?_
      refine r_iload_n fe_95_21 rfl ?_
      by_cases hg3 : ¬ (l1 < 0 ∨ 13 ≤ (l1).toNatClampNeg)
      rotate_left
      · rw [if_neg hg3] at hf; cases hf
      rw [if_pos hg3] at hf
      refine r_iald (j := (Int32.toNatClampNeg l1)) (v := S.2.1 (l0 + 2) (Int32.toNatClampNeg l1)) fe_95_22 (x_c (wk2 h0) (by decide)) (x_lt (wk2 h0) (by decide)) (fun z => hg3 (Or.inl z)) rfl (fun z => hg3 (Or.inr z)) rfl ?_
      refine r_gets (v := .ref 1) fe_95_23 (by decide +kernel) ?_
      refine r_iload_n fe_95_26 rfl ?_
      by_cases hg4 : ¬ (((S.2.1 (l0 + 3) (Int32.toNatClampNeg l1)) - 1) < 0 ∨ 9 ≤ (((S.2.1 (l0 + 3) (Int32.toNatClampNeg l1)) - 1)).toNatClampNeg)
      rotate_left
      · rw [if_neg hg4] at hf; cases hf
      rw [if_pos hg4] at hf
      refine r_iald (j := (Int32.toNatClampNeg ((S.2.1 (l0 + 3) (Int32.toNatClampNeg l1)) - 1))) (v := am_tens.getD (Int32.toNatClampNeg ((S.2.1 (l0 + 3) (Int32.toNatClampNeg l1)) - 1)) 0) fe_95_27 x_c_1 x_lt1 (fun z => hg4 (Or.inl z)) rfl (fun z => hg4 (Or.inr z)) rfl ?_
      by_cases hz5 : (am_tens.getD (Int32.toNatClampNeg ((S.2.1 (l0 + 3) (Int32.toNatClampNeg l1)) - 1)) 0) = 0
      · rw [if_pos hz5] at hf; cases hf
      rw [if_neg hz5] at hf
      refine r_idiv (v := ((S.2.1 (l0 + 2) (Int32.toNatClampNeg l1)) / (am_tens.getD (Int32.toNatClampNeg ((S.2.1 (l0 + 3) (Int32.toNatClampNeg l1)) - 1)) 0))) fe_95_28 hz5 rfl ?_
      refine r_iret fe_95_29 ⟨rfl, by decide⟩ ?_
      exact dfin (P := fun r T => Q (some (.int r)) (xst T G h)) hf hQ
    · rw [if_neg hb2] at hf
      refine r_if_f (t := 17) fe_95_10 (by decide) (Bool.eq_false_iff.mpr hb2) ?_
      refine r_iconst (v := 0) fe_95_13 (by decide) ?_
      refine r_goto (t := 29) fe_95_14 (by decide) ?_
      refine r_iret fe_95_29 ⟨rfl, by decide⟩ ?_
      exact dfin (P := fun r T => Q (some (.int r)) (xst T G h)) hf hQ
theorem G95c {xs : Nat → Int32} {L9 d : Nat} {G : gS} {h : Nat → va_E} {l0 : Nat} {n : Nat} {Q : Option Value → AmH → Prop} {r0 : Int32} {S0 S : xS} {l1 : Int32} (h0 : wB G l0 = true) (hf : G95 l0 n l1 S = some (r0, S0)) (hQ : Q (some (.int r0)) (xst S0 G h)) : Ca (am_X xs L9) (d + 0) 95 [.ref l0, .int l1] (xst S G h) Q := (G95l h0 hQ n) l1 S hf
def G93b0 (wb : Nat) (lo : Option Nat) (ln : Nat) (F : Nat → Int32 → Int32 → Int32 → xS → Option (Int32 × xS)) (n : Nat) (l1 : Int32) (l2 : Int32) (l3 : Int32) (S : xS) : Option (Int32 × xS) := (if S.2.2.2 109 4 = some wb then (if ¬ (l1 < 0 ∨ 13 ≤ (l1).toNatClampNeg) then (if ¬ (l2 < 0 ∨ 13 ≤ (l2).toNatClampNeg) then (if am_ic .le ((S.2.1 (wb + 3) (Int32.toNatClampNeg l1)) + (S.2.1 (wb + 3) (Int32.toNatClampNeg l2))) 8 = true then (if S.2.2.2 109 5 = lo then (Option.elim lo ((G94 wb n l1 S).bind (fun z8 => (if z8.2.2.2.2 109 4 = some wb then ((G95 wb n l2 z8.2).bind (fun z11 => (if am_ic .ne z8.1 z11.1 = true then some (0, z11.2) else some (1, z11.2)))) else none))) (fun q7 => (if ¬ (l1 < 0 ∨ 13 ≤ (l1).toNatClampNeg) then ((some (x_sL S 121 0 (Int32.toInt64 (S.2.1 (wb + 3) (Int32.toNatClampNeg l1))))).bind (fun S15 => (if ¬ (l2 < 0 ∨ 13 ≤ (l2).toNatClampNeg) then ((some (x_sL S15 121 1 (Int32.toInt64 (S15.2.1 (wb + 3) (Int32.toNatClampNeg l2))))).bind (fun S20 => ((G94 wb n l1 S20).bind (fun z24 => ((some (x_sL z24.2 121 2 (Int32.toInt64 z24.1))).bind (fun S26 => (if S26.2.2.2 109 4 = some wb then ((G95 wb n l2 S26).bind (fun z29 => ((some (x_sL z29.2 121 3 (Int32.toInt64 z29.1))).bind (fun S31 => (if S31.2.2.2 109 4 = some wb then (if ¬ (l1 < 0 ∨ 13 ≤ (l1).toNatClampNeg) then (if ¬ (l2 < 0 ∨ 13 ≤ (l2).toNatClampNeg) then ((G92 n ((S31.2.1 (wb + 4) (Int32.toNatClampNeg l1)) &&& (S31.2.1 (wb + 4) (Int32.toNatClampNeg l2))) S31).bind (fun z36 => ((some (x_sL z36.2 121 4 (Int32.toInt64 z36.1))).bind (fun S38 => (if S38.2.2.2 109 4 = some wb then (if ¬ (l1 < 0 ∨ 13 ≤ (l1).toNatClampNeg) then ((some (x_sL S38 121 5 (Int32.toInt64 (S38.2.1 (wb + 1) (Int32.toNatClampNeg l1))))).bind (fun S42 => ((some (x_sL S42 121 6 (Int32.toInt64 (S42.1 wb 0)))).bind (fun S45 => ((some (x_sL S45 121 7 (Int32.toInt64 l1))).bind (fun S48 => ((some (x_sL S48 121 8 (Int32.toInt64 l2))).bind (fun S51 => ((some (x_sL S51 121 9 (Int32.toInt64 l3))).bind (fun S54 => (if ¬ (l1 < 0 ∨ 13 ≤ (l1).toNatClampNeg) then ((some (x_sL S54 121 10 (Int32.toInt64 (S54.2.1 (wb + 5) (Int32.toNatClampNeg l1))))).bind (fun S58 => (if S58.2.2.2 109 5 = (some q7) then ((G96 q7 ln n  S58).bind (fun z62 => (if narrow .boolean (.int z62.1) = .int z62.1 then some (z62.1, z62.2) else none))) else none))) else none))))))))))) else none) else none))))) else none) else none) else none))))) else none))))))) else none))) else none))) else none) else some (0, S)) else none) else none) else none)
def G93f (wb : Nat) (lo : Option Nat) (ln : Nat) : Nat → Nat → Int32 → Int32 → Int32 → xS → Option (Int32 × xS)
  | 0, _, _, _, _, _ => none
  | n + 1, c, l1, l2, l3, S => G93b0 wb lo ln (G93f wb lo ln n) n l1 l2 l3 S
theorem G93e0 (wb : Nat) (lo : Option Nat) (ln : Nat) (n : Nat) (l1 : Int32) (l2 : Int32) (l3 : Int32) (S : xS) : G93f wb lo ln (n + 1) 0 l1 l2 l3 S = G93b0 wb lo ln (G93f wb lo ln n) n l1 l2 l3 S := rfl
def G93 (wb : Nat) (lo : Option Nat) (ln : Nat) (n : Nat) (l1 : Int32) (l2 : Int32) (l3 : Int32) (S : xS) : Option (Int32 × xS) := G93f wb lo ln n 0 l1 l2 l3 S
set_option maxRecDepth 20000 in
set_option maxHeartbeats 4000000 in
theorem G93l {xs : Nat → Int32} {L9 d : Nat} {G : gS} {h : Nat → va_E} {wb : Nat} {lo : Option Nat} {ln : Nat} {Q : Option Value → AmH → Prop} {r0 : Int32} {S0 : xS} (hw : wB G wb = true) (hl : lwB G lo ln = true) (hQ : Q (some (.int r0)) (xst S0 G h)) : ∀ n : Nat, (∀ (l1 : Int32) (l2 : Int32) (l3 : Int32) (S : xS), G93f wb lo ln n 0 l1 l2 l3 S = some (r0, S0) → Go (am_X xs L9) (d + 2) 93 0 [.ref 109, .int l1, .int l2, .int l3] [] (xst S G h) Q) := by
  intro n
  induction n with
  | zero => exact fun l1 l2 l3 S hf => (by cases hf)
  | succ n ih =>
    intro l1 l2 l3 S hf
    rw [G93e0] at hf
    unfold G93b0 at hf
    refine r_aload_n fe_93_0 rfl ?_
    by_cases hm1 : S.2.2.2 109 4 = some wb
    rotate_left
    · rw [if_neg hm1] at hf; cases hf
    rw [if_pos hm1] at hf
    refine r_getf (v := .ref wb) fe_93_1 lf_7_31 (x_c xk_109 (by decide)) (x_lt xk_109 (by decide)) (by show some (va_rf _) = _; rw [hm1]; rfl) ?_
    refine r_getf (v := .ref (wb + 3)) fe_93_4 lf_7_128 (x_c (wk0 hw) (by decide)) (x_lt (wk0 hw) (by decide)) rfl ?_
    refine r_iload_n fe_93_7 rfl ?_
    by_cases hg2 : ¬ (l1 < 0 ∨ 13 ≤ (l1).toNatClampNeg)
    rotate_left
    · rw [if_neg hg2] at hf; cases hf
    rw [if_pos hg2] at hf
    refine r_iald (j := (Int32.toNatClampNeg l1)) (v := S.2.1 (wb + 3) (Int32.toNatClampNeg l1)) fe_93_8 (x_c (wk3 hw) (by decide)) (x_lt (wk3 hw) (by decide)) (fun z => hg2 (Or.inl z)) rfl (fun z => hg2 (Or.inr z)) rfl ?_
    refine r_aload_n fe_93_9 rfl ?_
    refine r_getf (v := .ref wb) fe_93_10 lf_7_31 (x_c xk_109 (by decide)) (x_lt xk_109 (by decide)) (by show some (va_rf _) = _; rw [hm1]; rfl) ?_
    refine r_getf (v := .ref (wb + 3)) fe_93_13 lf_7_128 (x_c (wk0 hw) (by decide)) (x_lt (wk0 hw) (by decide)) rfl ?_
    refine r_iload_n fe_93_16 rfl ?_
    by_cases hg3 : ¬ (l2 < 0 ∨ 13 ≤ (l2).toNatClampNeg)
    rotate_left
    · rw [if_neg hg3] at hf; cases hf
    rw [if_pos hg3] at hf
    refine r_iald (j := (Int32.toNatClampNeg l2)) (v := S.2.1 (wb + 3) (Int32.toNatClampNeg l2)) fe_93_17 (x_c (wk3 hw) (by decide)) (x_lt (wk3 hw) (by decide)) (fun z => hg3 (Or.inl z)) rfl (fun z => hg3 (Or.inr z)) rfl ?_
    refine r_iadd (v := ((S.2.1 (wb + 3) (Int32.toNatClampNeg l1)) + (S.2.1 (wb + 3) (Int32.toNatClampNeg l2)))) fe_93_18 rfl ?_
    refine r_bipush (v := 8) fe_93_19 (by decide) ?_
    by_cases hb4 : am_ic .le ((S.2.1 (wb + 3) (Int32.toNatClampNeg l1)) + (S.2.1 (wb + 3) (Int32.toNatClampNeg l2))) 8 = true
    · rw [if_pos hb4] at hf
      refine r_ic_t (t := 26) fe_93_21 (by decide) hb4 ?_
      refine r_aload_n fe_93_26 rfl ?_
      by_cases hm5 : S.2.2.2 109 5 = lo
      rotate_left
      · rw [if_neg hm5] at hf; cases hf
      rw [if_pos hm5] at hf
      cases hm6 : lo with
      | none =>
        rw [hm6, Option.elim_none] at hf
        refine r_getf (v := .null) fe_93_27 lf_7_34 (x_c xk_109 (by decide)) (x_lt xk_109 (by decide)) (by show some (va_rf _) = _; rw [hm5, hm6]; rfl) ?_
        refine r_ifnonnullN fe_93_30 ?_
        refine r_aload_n fe_93_33 rfl ?_
        refine r_getf (v := .ref wb) fe_93_34 lf_7_31 (x_c xk_109 (by decide)) (x_lt xk_109 (by decide)) (by show some (va_rf _) = _; rw [hm1]; rfl) ?_
        refine r_iload_n fe_93_37 rfl ?_
        refine r_callV (as := [.int l1]) (r := []) fe_93_38 lm_7_156 md_94 rfl rfl (Nat.le_of_ble_eq_true rfl) (x_c (wk0 hw) (by decide)) (x_lt (wk0 hw) (by decide)) (Nat.le_of_ble_eq_true rfl) (Nat.le_of_ble_eq_true rfl) ?_
        cases hc9 : G94 wb n l1 S with
        | none => rw [hc9] at hf; cases hf
        | some z8 =>
          rw [hc9, Option.bind_some] at hf
          refine G94c (r0 := z8.1) (S0 := z8.2) (h0 := hw) (hf := hc9) ?_
          refine r_aload_n fe_93_41 rfl ?_
          by_cases hm10 : z8.2.2.2.2 109 4 = some wb
          rotate_left
          · rw [if_neg hm10] at hf; cases hf
          rw [if_pos hm10] at hf
          refine r_getf (v := .ref wb) fe_93_42 lf_7_31 (x_c xk_109 (by decide)) (x_lt xk_109 (by decide)) (by show some (va_rf _) = _; rw [hm10]; rfl) ?_
          refine r_iload_n fe_93_45 rfl ?_
          refine r_callV (as := [.int l2]) (r := [.int z8.1]) fe_93_46 lm_7_159 md_95 rfl rfl (Nat.le_of_ble_eq_true rfl) (x_c (wk0 hw) (by decide)) (x_lt (wk0 hw) (by decide)) (Nat.le_of_ble_eq_true rfl) (Nat.le_of_ble_eq_true rfl) ?_
          cases hc12 : G95 wb n l2 z8.2 with
          | none => rw [hc12] at hf; cases hf
          | some z11 =>
            rw [hc12, Option.bind_some] at hf
            refine G95c (r0 := z11.1) (S0 := z11.2) (h0 := hw) (hf := hc12) ?_
            by_cases hb13 : am_ic .ne z8.1 z11.1 = true
            · rw [if_pos hb13] at hf
              refine r_ic_t (t := 56) fe_93_49 (by decide) hb13 ?_
              refine r_iconst (v := 0) fe_93_56 (by decide) ?_
              refine r_iret fe_93_57 ⟨rfl, by decide⟩ ?_
              exact dfin (P := fun r T => Q (some (.int r)) (xst T G h)) hf hQ
            · rw [if_neg hb13] at hf
              refine r_ic_f (t := 56) fe_93_49 (by decide) (Bool.eq_false_iff.mpr hb13) ?_
              refine r_iconst (v := 1) fe_93_52 (by decide) ?_
              refine r_goto (t := 57) fe_93_53 (by decide) ?_
              refine r_iret fe_93_57 ⟨rfl, by decide⟩ ?_
              exact dfin (P := fun r T => Q (some (.int r)) (xst T G h)) hf hQ
      | some q7 =>
        rw [hm6, Option.elim_some] at hf
        refine r_getf (v := .ref q7) fe_93_27 lf_7_34 (x_c xk_109 (by decide)) (x_lt xk_109 (by decide)) (by show some (va_rf _) = _; rw [hm5, hm6]; rfl) ?_
        refine r_ifnonnull (t := 58) fe_93_30 (by decide) ?_
        refine r_aload_n fe_93_58 rfl ?_
        refine r_getf (v := .ref 121) fe_93_59 lf_7_20 (x_c xk_109 (by decide)) (x_lt xk_109 (by decide)) rfl ?_
        refine r_iconst (v := 0) fe_93_62 (by decide) ?_
        refine r_aload_n fe_93_63 rfl ?_
        refine r_getf (v := .ref wb) fe_93_64 lf_7_31 (x_c xk_109 (by decide)) (x_lt xk_109 (by decide)) (by show some (va_rf _) = _; rw [hm1]; rfl) ?_
        refine r_getf (v := .ref (wb + 3)) fe_93_67 lf_7_128 (x_c (wk0 hw) (by decide)) (x_lt (wk0 hw) (by decide)) rfl ?_
        refine r_iload_n fe_93_70 rfl ?_
        by_cases hg14 : ¬ (l1 < 0 ∨ 13 ≤ (l1).toNatClampNeg)
        rotate_left
        · rw [if_neg hg14] at hf; cases hf
        rw [if_pos hg14] at hf
        refine r_iald (j := (Int32.toNatClampNeg l1)) (v := S.2.1 (wb + 3) (Int32.toNatClampNeg l1)) fe_93_71 (x_c (wk3 hw) (by decide)) (x_lt (wk3 hw) (by decide)) (fun z => hg14 (Or.inl z)) rfl (fun z => hg14 (Or.inr z)) rfl ?_
        refine r_i2l (v := (Int32.toInt64 (S.2.1 (wb + 3) (Int32.toNatClampNeg l1)))) fe_93_72 rfl ?_
        refine r_last (j := 0) fe_93_73 (x_h xk_121 (by decide)) (x_lt xk_121 (by decide)) (by decide) (by decide) (by decide) (by decide) ?_
        obtain ⟨S15, e16, hf⟩ := dbnd hf
        refine go_heap (h2 := xst S15 G h) ((x_uL xk_121).trans (by rw [e16])) ?_
        have hm17 : S15.2.2.2 109 4 = some wb := (congrArg (fun T => T.2.2.2 109 4) e16).trans hm1
        have hm18 : S15.2.2.2 109 5 = lo := (congrArg (fun T => T.2.2.2 109 5) e16).trans hm5
        refine r_aload_n fe_93_74 rfl ?_
        refine r_getf (v := .ref 121) fe_93_75 lf_7_20 (x_c xk_109 (by decide)) (x_lt xk_109 (by decide)) rfl ?_
        refine r_iconst (v := 1) fe_93_78 (by decide) ?_
        refine r_aload_n fe_93_79 rfl ?_
        refine r_getf (v := .ref wb) fe_93_80 lf_7_31 (x_c xk_109 (by decide)) (x_lt xk_109 (by decide)) (by show some (va_rf _) = _; rw [hm17]; rfl) ?_
        refine r_getf (v := .ref (wb + 3)) fe_93_83 lf_7_128 (x_c (wk0 hw) (by decide)) (x_lt (wk0 hw) (by decide)) rfl ?_
        refine r_iload_n fe_93_86 rfl ?_
        by_cases hg19 : ¬ (l2 < 0 ∨ 13 ≤ (l2).toNatClampNeg)
        rotate_left
        · rw [if_neg hg19] at hf; cases hf
        rw [if_pos hg19] at hf
        refine r_iald (j := (Int32.toNatClampNeg l2)) (v := S15.2.1 (wb + 3) (Int32.toNatClampNeg l2)) fe_93_87 (x_c (wk3 hw) (by decide)) (x_lt (wk3 hw) (by decide)) (fun z => hg19 (Or.inl z)) rfl (fun z => hg19 (Or.inr z)) rfl ?_
        refine r_i2l (v := (Int32.toInt64 (S15.2.1 (wb + 3) (Int32.toNatClampNeg l2)))) fe_93_88 rfl ?_
        refine r_last (j := 1) fe_93_89 (x_h xk_121 (by decide)) (x_lt xk_121 (by decide)) (by decide) (by decide) (by decide) (by decide) ?_
        obtain ⟨S20, e21, hf⟩ := dbnd hf
        refine go_heap (h2 := xst S20 G h) ((x_uL xk_121).trans (by rw [e21])) ?_
        have hm22 : S20.2.2.2 109 4 = some wb := (congrArg (fun T => T.2.2.2 109 4) e21).trans hm17
        have hm23 : S20.2.2.2 109 5 = lo := (congrArg (fun T => T.2.2.2 109 5) e21).trans hm18
        refine r_aload_n fe_93_90 rfl ?_
        refine r_getf (v := .ref 121) fe_93_91 lf_7_20 (x_c xk_109 (by decide)) (x_lt xk_109 (by decide)) rfl ?_
        refine r_iconst (v := 2) fe_93_94 (by decide) ?_
        refine r_aload_n fe_93_95 rfl ?_
        refine r_getf (v := .ref wb) fe_93_96 lf_7_31 (x_c xk_109 (by decide)) (x_lt xk_109 (by decide)) (by show some (va_rf _) = _; rw [hm22]; rfl) ?_
        refine r_iload_n fe_93_99 rfl ?_
        refine r_callV (as := [.int l1]) (r := [.int 2, .ref 121]) fe_93_100 lm_7_156 md_94 rfl rfl (Nat.le_of_ble_eq_true rfl) (x_c (wk0 hw) (by decide)) (x_lt (wk0 hw) (by decide)) (Nat.le_of_ble_eq_true rfl) (Nat.le_of_ble_eq_true rfl) ?_
        cases hc25 : G94 wb n l1 S20 with
        | none => rw [hc25] at hf; cases hf
        | some z24 =>
          rw [hc25, Option.bind_some] at hf
          refine G94c (r0 := z24.1) (S0 := z24.2) (h0 := hw) (hf := hc25) ?_
          refine r_i2l (v := (Int32.toInt64 z24.1)) fe_93_103 rfl ?_
          refine r_last (j := 2) fe_93_104 (x_h xk_121 (by decide)) (x_lt xk_121 (by decide)) (by decide) (by decide) (by decide) (by decide) ?_
          obtain ⟨S26, e27, hf⟩ := dbnd hf
          refine go_heap (h2 := xst S26 G h) ((x_uL xk_121).trans (by rw [e27])) ?_
          refine r_aload_n fe_93_105 rfl ?_
          refine r_getf (v := .ref 121) fe_93_106 lf_7_20 (x_c xk_109 (by decide)) (x_lt xk_109 (by decide)) rfl ?_
          refine r_iconst (v := 3) fe_93_109 (by decide) ?_
          refine r_aload_n fe_93_110 rfl ?_
          by_cases hm28 : S26.2.2.2 109 4 = some wb
          rotate_left
          · rw [if_neg hm28] at hf; cases hf
          rw [if_pos hm28] at hf
          refine r_getf (v := .ref wb) fe_93_111 lf_7_31 (x_c xk_109 (by decide)) (x_lt xk_109 (by decide)) (by show some (va_rf _) = _; rw [hm28]; rfl) ?_
          refine r_iload_n fe_93_114 rfl ?_
          refine r_callV (as := [.int l2]) (r := [.int 3, .ref 121]) fe_93_115 lm_7_159 md_95 rfl rfl (Nat.le_of_ble_eq_true rfl) (x_c (wk0 hw) (by decide)) (x_lt (wk0 hw) (by decide)) (Nat.le_of_ble_eq_true rfl) (Nat.le_of_ble_eq_true rfl) ?_
          cases hc30 : G95 wb n l2 S26 with
          | none => rw [hc30] at hf; cases hf
          | some z29 =>
            rw [hc30, Option.bind_some] at hf
            refine G95c (r0 := z29.1) (S0 := z29.2) (h0 := hw) (hf := hc30) ?_
            refine r_i2l (v := (Int32.toInt64 z29.1)) fe_93_118 rfl ?_
            refine r_last (j := 3) fe_93_119 (x_h xk_121 (by decide)) (x_lt xk_121 (by decide)) (by decide) (by decide) (by decide) (by decide) ?_
            obtain ⟨S31, e32, hf⟩ := dbnd hf
            refine go_heap (h2 := xst S31 G h) ((x_uL xk_121).trans (by rw [e32])) ?_
            refine r_aload_n fe_93_120 rfl ?_
            refine r_getf (v := .ref 121) fe_93_121 lf_7_20 (x_c xk_109 (by decide)) (x_lt xk_109 (by decide)) rfl ?_
            refine r_iconst (v := 4) fe_93_124 (by decide) ?_
            refine r_aload_n fe_93_125 rfl ?_
            by_cases hm33 : S31.2.2.2 109 4 = some wb
            rotate_left
            · rw [if_neg hm33] at hf; cases hf
            rw [if_pos hm33] at hf
            refine r_getf (v := .ref wb) fe_93_126 lf_7_31 (x_c xk_109 (by decide)) (x_lt xk_109 (by decide)) (by show some (va_rf _) = _; rw [hm33]; rfl) ?_
            refine r_getf (v := .ref (wb + 4)) fe_93_129 lf_7_162 (x_c (wk0 hw) (by decide)) (x_lt (wk0 hw) (by decide)) rfl ?_
            refine r_iload_n fe_93_132 rfl ?_
            by_cases hg34 : ¬ (l1 < 0 ∨ 13 ≤ (l1).toNatClampNeg)
            rotate_left
            · rw [if_neg hg34] at hf; cases hf
            rw [if_pos hg34] at hf
            refine r_iald (j := (Int32.toNatClampNeg l1)) (v := S31.2.1 (wb + 4) (Int32.toNatClampNeg l1)) fe_93_133 (x_c (wk4 hw) (by decide)) (x_lt (wk4 hw) (by decide)) (fun z => hg34 (Or.inl z)) rfl (fun z => hg34 (Or.inr z)) rfl ?_
            refine r_aload_n fe_93_134 rfl ?_
            refine r_getf (v := .ref wb) fe_93_135 lf_7_31 (x_c xk_109 (by decide)) (x_lt xk_109 (by decide)) (by show some (va_rf _) = _; rw [hm33]; rfl) ?_
            refine r_getf (v := .ref (wb + 4)) fe_93_138 lf_7_162 (x_c (wk0 hw) (by decide)) (x_lt (wk0 hw) (by decide)) rfl ?_
            refine r_iload_n fe_93_141 rfl ?_
            by_cases hg35 : ¬ (l2 < 0 ∨ 13 ≤ (l2).toNatClampNeg)
            rotate_left
            · rw [if_neg hg35] at hf; cases hf
            rw [if_pos hg35] at hf
            refine r_iald (j := (Int32.toNatClampNeg l2)) (v := S31.2.1 (wb + 4) (Int32.toNatClampNeg l2)) fe_93_142 (x_c (wk4 hw) (by decide)) (x_lt (wk4 hw) (by decide)) (fun z => hg35 (Or.inl z)) rfl (fun z => hg35 (Or.inr z)) rfl ?_
            refine r_iand (v := ((S31.2.1 (wb + 4) (Int32.toNatClampNeg l1)) &&& (S31.2.1 (wb + 4) (Int32.toNatClampNeg l2)))) fe_93_143 rfl ?_
            refine r_callS (as := [.int ((S31.2.1 (wb + 4) (Int32.toNatClampNeg l1)) &&& (S31.2.1 (wb + 4) (Int32.toNatClampNeg l2)))]) (r := [.int 4, .ref 121]) fe_93_144 lm_7_144 md_92 rfl rfl (Nat.le_of_ble_eq_true rfl) (Nat.le_of_ble_eq_true rfl) (Nat.le_of_ble_eq_true rfl) ?_
            cases hc37 : G92 n ((S31.2.1 (wb + 4) (Int32.toNatClampNeg l1)) &&& (S31.2.1 (wb + 4) (Int32.toNatClampNeg l2))) S31 with
            | none => rw [hc37] at hf; cases hf
            | some z36 =>
              rw [hc37, Option.bind_some] at hf
              refine G92c (r0 := z36.1) (S0 := z36.2)  (hf := hc37) ?_
              refine r_i2l (v := (Int32.toInt64 z36.1)) fe_93_147 rfl ?_
              refine r_last (j := 4) fe_93_148 (x_h xk_121 (by decide)) (x_lt xk_121 (by decide)) (by decide) (by decide) (by decide) (by decide) ?_
              obtain ⟨S38, e39, hf⟩ := dbnd hf
              refine go_heap (h2 := xst S38 G h) ((x_uL xk_121).trans (by rw [e39])) ?_
              refine r_aload_n fe_93_149 rfl ?_
              refine r_getf (v := .ref 121) fe_93_150 lf_7_20 (x_c xk_109 (by decide)) (x_lt xk_109 (by decide)) rfl ?_
              refine r_iconst (v := 5) fe_93_153 (by decide) ?_
              refine r_aload_n fe_93_154 rfl ?_
              by_cases hm40 : S38.2.2.2 109 4 = some wb
              rotate_left
              · rw [if_neg hm40] at hf; cases hf
              rw [if_pos hm40] at hf
              refine r_getf (v := .ref wb) fe_93_155 lf_7_31 (x_c xk_109 (by decide)) (x_lt xk_109 (by decide)) (by show some (va_rf _) = _; rw [hm40]; rfl) ?_
              refine r_getf (v := .ref (wb + 1)) fe_93_158 lf_7_80 (x_c (wk0 hw) (by decide)) (x_lt (wk0 hw) (by decide)) rfl ?_
              refine r_iload_n fe_93_161 rfl ?_
              by_cases hg41 : ¬ (l1 < 0 ∨ 13 ≤ (l1).toNatClampNeg)
              rotate_left
              · rw [if_neg hg41] at hf; cases hf
              rw [if_pos hg41] at hf
              refine r_iald (j := (Int32.toNatClampNeg l1)) (v := S38.2.1 (wb + 1) (Int32.toNatClampNeg l1)) fe_93_162 (x_c (wk1 hw) (by decide)) (x_lt (wk1 hw) (by decide)) (fun z => hg41 (Or.inl z)) rfl (fun z => hg41 (Or.inr z)) rfl ?_
              refine r_i2l (v := (Int32.toInt64 (S38.2.1 (wb + 1) (Int32.toNatClampNeg l1)))) fe_93_163 rfl ?_
              refine r_last (j := 5) fe_93_164 (x_h xk_121 (by decide)) (x_lt xk_121 (by decide)) (by decide) (by decide) (by decide) (by decide) ?_
              obtain ⟨S42, e43, hf⟩ := dbnd hf
              refine go_heap (h2 := xst S42 G h) ((x_uL xk_121).trans (by rw [e43])) ?_
              have hm44 : S42.2.2.2 109 4 = some wb := (congrArg (fun T => T.2.2.2 109 4) e43).trans hm40
              refine r_aload_n fe_93_165 rfl ?_
              refine r_getf (v := .ref 121) fe_93_166 lf_7_20 (x_c xk_109 (by decide)) (x_lt xk_109 (by decide)) rfl ?_
              refine r_bipush (v := 6) fe_93_169 (by decide) ?_
              refine r_aload_n fe_93_171 rfl ?_
              refine r_getf (v := .ref wb) fe_93_172 lf_7_31 (x_c xk_109 (by decide)) (x_lt xk_109 (by decide)) (by show some (va_rf _) = _; rw [hm44]; rfl) ?_
              refine r_getf (v := .int (S42.1 wb 0)) fe_93_175 lf_7_71 (x_c (wk0 hw) (by decide)) (x_lt (wk0 hw) (by decide)) rfl ?_
              refine r_i2l (v := (Int32.toInt64 (S42.1 wb 0))) fe_93_178 rfl ?_
              refine r_last (j := 6) fe_93_179 (x_h xk_121 (by decide)) (x_lt xk_121 (by decide)) (by decide) (by decide) (by decide) (by decide) ?_
              obtain ⟨S45, e46, hf⟩ := dbnd hf
              refine go_heap (h2 := xst S45 G h) ((x_uL xk_121).trans (by rw [e46])) ?_
              have hm47 : S45.2.2.2 109 4 = some wb := (congrArg (fun T => T.2.2.2 109 4) e46).trans hm44
              refine r_aload_n fe_93_180 rfl ?_
              refine r_getf (v := .ref 121) fe_93_181 lf_7_20 (x_c xk_109 (by decide)) (x_lt xk_109 (by decide)) rfl ?_
              refine r_bipush (v := 7) fe_93_184 (by decide) ?_
              refine r_iload_n fe_93_186 rfl ?_
              refine r_i2l (v := (Int32.toInt64 l1)) fe_93_187 rfl ?_
              refine r_last (j := 7) fe_93_188 (x_h xk_121 (by decide)) (x_lt xk_121 (by decide)) (by decide) (by decide) (by decide) (by decide) ?_
              obtain ⟨S48, e49, hf⟩ := dbnd hf
              refine go_heap (h2 := xst S48 G h) ((x_uL xk_121).trans (by rw [e49])) ?_
              have hm50 : S48.2.2.2 109 4 = some wb := (congrArg (fun T => T.2.2.2 109 4) e49).trans hm47
              refine r_aload_n fe_93_189 rfl ?_
              refine r_getf (v := .ref 121) fe_93_190 lf_7_20 (x_c xk_109 (by decide)) (x_lt xk_109 (by decide)) rfl ?_
              refine r_bipush (v := 8) fe_93_193 (by decide) ?_
              refine r_iload_n fe_93_195 rfl ?_
              refine r_i2l (v := (Int32.toInt64 l2)) fe_93_196 rfl ?_
              refine r_last (j := 8) fe_93_197 (x_h xk_121 (by decide)) (x_lt xk_121 (by decide)) (by decide) (by decide) (by decide) (by decide) ?_
              obtain ⟨S51, e52, hf⟩ := dbnd hf
              refine go_heap (h2 := xst S51 G h) ((x_uL xk_121).trans (by rw [e52])) ?_
              have hm53 : S51.2.2.2 109 4 = some wb := (congrArg (fun T => T.2.2.2 109 4) e52).trans hm50
              refine r_aload_n fe_93_198 rfl ?_
              refine r_getf (v := .ref 121) fe_93_199 lf_7_20 (x_c xk_109 (by decide)) (x_lt xk_109 (by decide)) rfl ?_
              refine r_bipush (v := 9) fe_93_202 (by decide) ?_
              refine r_iload_n fe_93_204 rfl ?_
              refine r_i2l (v := (Int32.toInt64 l3)) fe_93_205 rfl ?_
              refine r_last (j := 9) fe_93_206 (x_h xk_121 (by decide)) (x_lt xk_121 (by decide)) (by decide) (by decide) (by decide) (by decide) ?_
              obtain ⟨S54, e55, hf⟩ := dbnd hf
              refine go_heap (h2 := xst S54 G h) ((x_uL xk_121).trans (by rw [e55])) ?_
              have hm56 : S54.2.2.2 109 4 = some wb := (congrArg (fun T => T.2.2.2 109 4) e55).trans hm53
              refine r_aload_n fe_93_207 rfl ?_
              refine r_getf (v := .ref 121) fe_93_208 lf_7_20 (x_c xk_109 (by decide)) (x_lt xk_109 (by decide)) rfl ?_
              refine r_bipush (v := 10) fe_93_211 (by decide) ?_
              refine r_aload_n fe_93_213 rfl ?_
              refine r_getf (v := .ref wb) fe_93_214 lf_7_31 (x_c xk_109 (by decide)) (x_lt xk_109 (by decide)) (by show some (va_rf _) = _; rw [hm56]; rfl) ?_
              refine r_getf (v := .ref (wb + 5)) fe_93_217 lf_7_112 (x_c (wk0 hw) (by decide)) (x_lt (wk0 hw) (by decide)) rfl ?_
              refine r_iload_n fe_93_220 rfl ?_
              by_cases hg57 : ¬ (l1 < 0 ∨ 13 ≤ (l1).toNatClampNeg)
              rotate_left
              · rw [if_neg hg57] at hf; cases hf
              rw [if_pos hg57] at hf
              refine r_iald (j := (Int32.toNatClampNeg l1)) (v := S54.2.1 (wb + 5) (Int32.toNatClampNeg l1)) fe_93_221 (x_c (wk5 hw) (by decide)) (x_lt (wk5 hw) (by decide)) (fun z => hg57 (Or.inl z)) rfl (fun z => hg57 (Or.inr z)) rfl ?_
              refine r_i2l (v := (Int32.toInt64 (S54.2.1 (wb + 5) (Int32.toNatClampNeg l1)))) fe_93_222 rfl ?_
              refine r_last (j := 10) fe_93_223 (x_h xk_121 (by decide)) (x_lt xk_121 (by decide)) (by decide) (by decide) (by decide) (by decide) ?_
              obtain ⟨S58, e59, hf⟩ := dbnd hf
              refine go_heap (h2 := xst S58 G h) ((x_uL xk_121).trans (by rw [e59])) ?_
              have hm60 : S58.2.2.2 109 4 = some wb := (congrArg (fun T => T.2.2.2 109 4) e59).trans hm56
              refine r_aload_n fe_93_224 rfl ?_
              by_cases hm61 : S58.2.2.2 109 5 = (some q7)
              rotate_left
              · rw [if_neg hm61] at hf; cases hf
              rw [if_pos hm61] at hf
              refine r_getf (v := .ref q7) fe_93_225 lf_7_34 (x_c xk_109 (by decide)) (x_lt xk_109 (by decide)) (by show some (va_rf _) = _; first | (rw [hm61, hm6]; rfl; done) | (rw [hm61]; rfl; done)) ?_
              refine r_aload_n fe_93_228 rfl ?_
              refine r_getf (v := .ref 121) fe_93_229 lf_7_20 (x_c xk_109 (by decide)) (x_lt xk_109 (by decide)) rfl ?_
              refine r_aload_n fe_93_232 rfl ?_
              refine r_getf (v := .ref 122) fe_93_233 lf_7_24 (x_c xk_109 (by decide)) (x_lt xk_109 (by decide)) rfl ?_
              refine r_callV (as := [.ref 121, .ref 122]) (r := []) fe_93_236 lm_7_165 md_96 rfl rfl (Nat.le_of_ble_eq_true rfl) (x_c (lk0 (lw_s hl hm6)) (by decide)) (x_lt (lk0 (lw_s hl hm6)) (by decide)) (Nat.le_of_ble_eq_true rfl) (Nat.le_of_ble_eq_true rfl) ?_
              cases hc63 : G96 q7 ln n  S58 with
              | none => rw [hc63] at hf; cases hf
              | some z62 =>
                rw [hc63, Option.bind_some] at hf
                refine G96c (r0 := z62.1) (S0 := z62.2) (hq := (lw_s hl hm6)) (hf := hc63) ?_
                by_cases hz64 : narrow .boolean (.int z62.1) = .int z62.1
                rotate_left
                · rw [if_neg hz64] at hf; cases hf
                rw [if_pos hz64] at hf
                refine r_iret fe_93_239 ⟨hz64, by decide⟩ ?_
                exact dfin (P := fun r T => Q (some (.int r)) (xst T G h)) hf hQ
    · rw [if_neg hb4] at hf
      refine r_ic_f (t := 26) fe_93_21 (by decide) (Bool.eq_false_iff.mpr hb4) ?_
      refine r_iconst (v := 0) fe_93_24 (by decide) ?_
      refine r_iret fe_93_25 ⟨rfl, by decide⟩ ?_
      exact dfin (P := fun r T => Q (some (.int r)) (xst T G h)) hf hQ
theorem G93c {xs : Nat → Int32} {L9 d : Nat} {G : gS} {h : Nat → va_E} {wb : Nat} {lo : Option Nat} {ln : Nat} {n : Nat} {Q : Option Value → AmH → Prop} {r0 : Int32} {S0 S : xS} {l1 : Int32} {l2 : Int32} {l3 : Int32} (hw : wB G wb = true) (hl : lwB G lo ln = true) (hf : G93 wb lo ln n l1 l2 l3 S = some (r0, S0)) (hQ : Q (some (.int r0)) (xst S0 G h)) : Ca (am_X xs L9) (d + 2) 93 [.ref 109, .int l1, .int l2, .int l3] (xst S G h) Q := (G93l hw hl hQ n) l1 l2 l3 S hf
def G91b0 (wb : Nat) (lo : Option Nat) (ln : Nat) (F : Nat → Int32 → Int32 → Int32 → Int32 → xS → Option (Int32 × xS)) (n : Nat) (l1 : Int32) (l2 : Int32) (l3 : Int32) (l4 : Int32) (S : xS) : Option (Int32 × xS) := (if S.2.2.2 109 4 = some wb then ((G78 wb n l1 S).bind (fun z2 => ((G92 n z2.1 z2.2).bind (fun z4 => F 14 l1 z4.1 0 0 z4.2)))) else none)
def G91b14 (wb : Nat) (lo : Option Nat) (ln : Nat) (F : Nat → Int32 → Int32 → Int32 → Int32 → xS → Option (Int32 × xS)) (n : Nat) (l1 : Int32) (l2 : Int32) (l3 : Int32) (l4 : Int32) (S : xS) : Option (Int32 × xS) := (if S.2.2.2 109 4 = some wb then (if am_ic .ge l3 (S.1 wb 1) = true then some (0, S) else (if ¬ (l3 < 0 ∨ 13 ≤ (l3).toNatClampNeg) then (if am_ic .eq (S.2.1 (wb + 1) (Int32.toNatClampNeg l3)) l1 = true then F 46 l1 l2 l3 (l3 + 1) S else F 14 l1 l2 (l3 + 1) 0 S) else none)) else none)
def G91b46 (wb : Nat) (lo : Option Nat) (ln : Nat) (F : Nat → Int32 → Int32 → Int32 → Int32 → xS → Option (Int32 × xS)) (n : Nat) (l1 : Int32) (l2 : Int32) (l3 : Int32) (l4 : Int32) (S : xS) : Option (Int32 × xS) := (if S.2.2.2 109 4 = some wb then (if am_ic .ge l4 (S.1 wb 1) = true then F 14 l1 l2 (l3 + 1) 0 S else (if ¬ (l4 < 0 ∨ 13 ≤ (l4).toNatClampNeg) then (if am_ic .ne (S.2.1 (wb + 1) (Int32.toNatClampNeg l4)) l1 = true then F 46 l1 l2 l3 (l4 + 1) S else ((G93 wb lo ln n l3 l4 l2 S).bind (fun z14 => (if am_if .eq z14.1 = true then F 46 l1 l2 l3 (l4 + 1) z14.2 else (if z14.2.2.2.2 109 4 = some wb then ((G98 wb n l3 l4 z14.2).bind (fun z18 => some (1, (x_sI z18.2 109 8 ((z18.2.1 109 8) + 1))))) else none))))) else none)) else none)
def G91f (wb : Nat) (lo : Option Nat) (ln : Nat) : Nat → Nat → Int32 → Int32 → Int32 → Int32 → xS → Option (Int32 × xS)
  | 0, _, _, _, _, _, _ => none
  | n + 1, c, l1, l2, l3, l4, S => if c = 0 then G91b0 wb lo ln (G91f wb lo ln n) n l1 l2 l3 l4 S else if c = 14 then G91b14 wb lo ln (G91f wb lo ln n) n l1 l2 l3 l4 S else G91b46 wb lo ln (G91f wb lo ln n) n l1 l2 l3 l4 S
theorem G91e0 (wb : Nat) (lo : Option Nat) (ln : Nat) (n : Nat) (l1 : Int32) (l2 : Int32) (l3 : Int32) (l4 : Int32) (S : xS) : G91f wb lo ln (n + 1) 0 l1 l2 l3 l4 S = G91b0 wb lo ln (G91f wb lo ln n) n l1 l2 l3 l4 S := if_pos rfl
theorem G91e14 (wb : Nat) (lo : Option Nat) (ln : Nat) (n : Nat) (l1 : Int32) (l2 : Int32) (l3 : Int32) (l4 : Int32) (S : xS) : G91f wb lo ln (n + 1) 14 l1 l2 l3 l4 S = G91b14 wb lo ln (G91f wb lo ln n) n l1 l2 l3 l4 S := (if_neg (by decide)).trans (if_pos rfl)
theorem G91e46 (wb : Nat) (lo : Option Nat) (ln : Nat) (n : Nat) (l1 : Int32) (l2 : Int32) (l3 : Int32) (l4 : Int32) (S : xS) : G91f wb lo ln (n + 1) 46 l1 l2 l3 l4 S = G91b46 wb lo ln (G91f wb lo ln n) n l1 l2 l3 l4 S := (if_neg (by decide)).trans (if_neg (by decide))
def G91 (wb : Nat) (lo : Option Nat) (ln : Nat) (n : Nat) (l1 : Int32) (S : xS) : Option (Int32 × xS) := G91f wb lo ln n 0 l1 0 0 0 S
set_option maxRecDepth 20000 in
set_option maxHeartbeats 4000000 in
theorem G91l {xs : Nat → Int32} {L9 d : Nat} {G : gS} {h : Nat → va_E} {wb : Nat} {lo : Option Nat} {ln : Nat} {Q : Option Value → AmH → Prop} {r0 : Int32} {S0 : xS} (hw : wB G wb = true) (hl : lwB G lo ln = true) (hQ : Q (some (.int r0)) (xst S0 G h)) : ∀ n : Nat, (∀ (l1 : Int32) (l2 : Int32) (l3 : Int32) (l4 : Int32) (S : xS), G91f wb lo ln n 0 l1 l2 l3 l4 S = some (r0, S0) → Go (am_X xs L9) (d + 3) 91 0 [.ref 109, .int l1, .float 0, .float 0, .float 0] [] (xst S G h) Q) ∧ (∀ (l1 : Int32) (l2 : Int32) (l3 : Int32) (l4 : Int32) (S : xS), G91f wb lo ln n 14 l1 l2 l3 l4 S = some (r0, S0) → Go (am_X xs L9) (d + 3) 91 14 [.ref 109, .int l1, .int l2, .int l3, .float 0] [] (xst S G h) Q) ∧ (∀ (l1 : Int32) (l2 : Int32) (l3 : Int32) (l4 : Int32) (S : xS), G91f wb lo ln n 46 l1 l2 l3 l4 S = some (r0, S0) → Go (am_X xs L9) (d + 3) 91 46 [.ref 109, .int l1, .int l2, .int l3, .int l4] [] (xst S G h) Q) := by
  intro n
  induction n with
  | zero => exact ⟨fun l1 l2 l3 l4 S hf => (by cases hf), fun l1 l2 l3 l4 S hf => (by cases hf), fun l1 l2 l3 l4 S hf => (by cases hf)⟩
  | succ n ih =>
    refine ⟨?_, ?_, ?_⟩
    · intro l1 l2 l3 l4 S hf
      rw [G91e0] at hf
      unfold G91b0 at hf
      refine r_aload_n fe_91_0 rfl ?_
      by_cases hm1 : S.2.2.2 109 4 = some wb
      rotate_left
      · rw [if_neg hm1] at hf; cases hf
      rw [if_pos hm1] at hf
      refine r_getf (v := .ref wb) fe_91_1 lf_7_31 (x_c xk_109 (by decide)) (x_lt xk_109 (by decide)) (by show some (va_rf _) = _; rw [hm1]; rfl) ?_
      refine r_iload_n fe_91_4 rfl ?_
      refine r_callV (as := [.int l1]) (r := []) fe_91_5 lm_7_141 md_78 rfl rfl (Nat.le_of_ble_eq_true rfl) (x_c (wk0 hw) (by decide)) (x_lt (wk0 hw) (by decide)) (Nat.le_of_ble_eq_true rfl) (Nat.le_of_ble_eq_true rfl) ?_
      cases hc3 : G78 wb n l1 S with
      | none => rw [hc3] at hf; cases hf
      | some z2 =>
        rw [hc3, Option.bind_some] at hf
        refine G78c (r0 := z2.1) (S0 := z2.2) (h0 := hw) (hf := hc3) ?_
        refine r_callS (as := [.int z2.1]) (r := []) fe_91_8 lm_7_144 md_92 rfl rfl (Nat.le_of_ble_eq_true rfl) (Nat.le_of_ble_eq_true rfl) (Nat.le_of_ble_eq_true rfl) ?_
        cases hc5 : G92 n z2.1 z2.2 with
        | none => rw [hc5] at hf; cases hf
        | some z4 =>
          rw [hc5, Option.bind_some] at hf
          refine G92c (r0 := z4.1) (S0 := z4.2)  (hf := hc5) ?_
          refine r_istore_n fe_91_11 (Nat.le_of_ble_eq_true rfl) rfl ?_
          refine r_iconst (v := 0) fe_91_12 (by decide) ?_
          refine r_istore_n fe_91_13 (Nat.le_of_ble_eq_true rfl) rfl ?_
          refine go_weak (L0 := [.ref 109, .int l1, .int z4.1, .int 0, .float 0]) (lwk_c (Or.inl rfl) (lwk_c (Or.inl rfl) (lwk_c (Or.inl rfl) (lwk_c (Or.inl rfl) (lwk_c (Or.inl rfl) (lwk_rf [])))))) ?_
          exact ih.2.1 l1 z4.1 0 0 z4.2 hf
    · intro l1 l2 l3 l4 S hf
      rw [G91e14] at hf
      unfold G91b14 at hf
      refine r_iload_n fe_91_14 rfl ?_
      refine r_aload_n fe_91_15 rfl ?_
      by_cases hm6 : S.2.2.2 109 4 = some wb
      rotate_left
      · rw [if_neg hm6] at hf; cases hf
      rw [if_pos hm6] at hf
      refine r_getf (v := .ref wb) fe_91_16 lf_7_31 (x_c xk_109 (by decide)) (x_lt xk_109 (by decide)) (by show some (va_rf _) = _; rw [hm6]; rfl) ?_
      refine r_getf (v := .int (S.1 wb 1)) fe_91_19 lf_7_88 (x_c (wk0 hw) (by decide)) (x_lt (wk0 hw) (by decide)) rfl ?_
      by_cases hb7 : am_ic .ge l3 (S.1 wb 1) = true
      · rw [if_pos hb7] at hf
        refine r_ic_t (t := 117) fe_91_22 (by decide) hb7 ?_
        refine r_iconst (v := 0) fe_91_117 (by decide) ?_
        refine r_iret fe_91_118 ⟨rfl, by decide⟩ ?_
        exact dfin (P := fun r T => Q (some (.int r)) (xst T G h)) hf hQ
      · rw [if_neg hb7] at hf
        refine r_ic_f (t := 117) fe_91_22 (by decide) (Bool.eq_false_iff.mpr hb7) ?_
        refine r_aload_n fe_91_25 rfl ?_
        refine r_getf (v := .ref wb) fe_91_26 lf_7_31 (x_c xk_109 (by decide)) (x_lt xk_109 (by decide)) (by show some (va_rf _) = _; rw [hm6]; rfl) ?_
        refine r_getf (v := .ref (wb + 1)) fe_91_29 lf_7_80 (x_c (wk0 hw) (by decide)) (x_lt (wk0 hw) (by decide)) rfl ?_
        refine r_iload_n fe_91_32 rfl ?_
        by_cases hg8 : ¬ (l3 < 0 ∨ 13 ≤ (l3).toNatClampNeg)
        rotate_left
        · rw [if_neg hg8] at hf; cases hf
        rw [if_pos hg8] at hf
        refine r_iald (j := (Int32.toNatClampNeg l3)) (v := S.2.1 (wb + 1) (Int32.toNatClampNeg l3)) fe_91_33 (x_c (wk1 hw) (by decide)) (x_lt (wk1 hw) (by decide)) (fun z => hg8 (Or.inl z)) rfl (fun z => hg8 (Or.inr z)) rfl ?_
        refine r_iload_n fe_91_34 rfl ?_
        by_cases hb9 : am_ic .eq (S.2.1 (wb + 1) (Int32.toNatClampNeg l3)) l1 = true
        · rw [if_pos hb9] at hf
          refine r_ic_t (t := 41) fe_91_35 (by decide) hb9 ?_
          refine r_iload_n fe_91_41 rfl ?_
          refine r_iconst (v := 1) fe_91_42 (by decide) ?_
          refine r_iadd (v := (l3 + 1)) fe_91_43 rfl ?_
          refine r_istore fe_91_44 (Nat.le_of_ble_eq_true rfl) rfl ?_
          refine go_weak (L0 := [.ref 109, .int l1, .int l2, .int l3, .int (l3 + 1)]) (lwk_c (Or.inl rfl) (lwk_c (Or.inl rfl) (lwk_c (Or.inl rfl) (lwk_c (Or.inl rfl) (lwk_c (Or.inl rfl) (lwk_rf [])))))) ?_
          exact ih.2.2 l1 l2 l3 (l3 + 1) S hf
        · rw [if_neg hb9] at hf
          refine r_ic_f (t := 41) fe_91_35 (by decide) (Bool.eq_false_iff.mpr hb9) ?_
          refine r_goto (t := 111) fe_91_38 (by decide) ?_
          refine r_iinc (v := (l3 + 1)) fe_91_111 rfl rfl rfl ?_
          refine r_goto (t := 14) fe_91_114 (by decide) ?_
          refine go_weak (L0 := [.ref 109, .int l1, .int l2, .int (l3 + 1), .float 0]) (lwk_c (Or.inl rfl) (lwk_c (Or.inl rfl) (lwk_c (Or.inl rfl) (lwk_c (Or.inl rfl) (lwk_c (Or.inl rfl) (lwk_rf [])))))) ?_
          exact ih.2.1 l1 l2 (l3 + 1) 0 S hf
    · intro l1 l2 l3 l4 S hf
      rw [G91e46] at hf
      unfold G91b46 at hf
      refine r_iload fe_91_46 rfl ?_
      refine r_aload_n fe_91_48 rfl ?_
      by_cases hm10 : S.2.2.2 109 4 = some wb
      rotate_left
      · rw [if_neg hm10] at hf; cases hf
      rw [if_pos hm10] at hf
      refine r_getf (v := .ref wb) fe_91_49 lf_7_31 (x_c xk_109 (by decide)) (x_lt xk_109 (by decide)) (by show some (va_rf _) = _; rw [hm10]; rfl) ?_
      refine r_getf (v := .int (S.1 wb 1)) fe_91_52 lf_7_88 (x_c (wk0 hw) (by decide)) (x_lt (wk0 hw) (by decide)) rfl ?_
      by_cases hb11 : am_ic .ge l4 (S.1 wb 1) = true
      · rw [if_pos hb11] at hf
        refine r_ic_t (t := 111) fe_91_55 (by decide) hb11 ?_
        refine r_iinc (v := (l3 + 1)) fe_91_111 rfl rfl rfl ?_
        refine r_goto (t := 14) fe_91_114 (by decide) ?_
        refine go_weak (L0 := [.ref 109, .int l1, .int l2, .int (l3 + 1), .float 0]) (lwk_c (Or.inl rfl) (lwk_c (Or.inl rfl) (lwk_c (Or.inl rfl) (lwk_c (Or.inl rfl) (lwk_c (Or.inr rfl) (lwk_rf [])))))) ?_
        exact ih.2.1 l1 l2 (l3 + 1) 0 S hf
      · rw [if_neg hb11] at hf
        refine r_ic_f (t := 111) fe_91_55 (by decide) (Bool.eq_false_iff.mpr hb11) ?_
        refine r_aload_n fe_91_58 rfl ?_
        refine r_getf (v := .ref wb) fe_91_59 lf_7_31 (x_c xk_109 (by decide)) (x_lt xk_109 (by decide)) (by show some (va_rf _) = _; rw [hm10]; rfl) ?_
        refine r_getf (v := .ref (wb + 1)) fe_91_62 lf_7_80 (x_c (wk0 hw) (by decide)) (x_lt (wk0 hw) (by decide)) rfl ?_
        refine r_iload fe_91_65 rfl ?_
        by_cases hg12 : ¬ (l4 < 0 ∨ 13 ≤ (l4).toNatClampNeg)
        rotate_left
        · rw [if_neg hg12] at hf; cases hf
        rw [if_pos hg12] at hf
        refine r_iald (j := (Int32.toNatClampNeg l4)) (v := S.2.1 (wb + 1) (Int32.toNatClampNeg l4)) fe_91_67 (x_c (wk1 hw) (by decide)) (x_lt (wk1 hw) (by decide)) (fun z => hg12 (Or.inl z)) rfl (fun z => hg12 (Or.inr z)) rfl ?_
        refine r_iload_n fe_91_68 rfl ?_
        by_cases hb13 : am_ic .ne (S.2.1 (wb + 1) (Int32.toNatClampNeg l4)) l1 = true
        · rw [if_pos hb13] at hf
          refine r_ic_t (t := 105) fe_91_69 (by decide) hb13 ?_
          refine r_iinc (v := (l4 + 1)) fe_91_105 rfl rfl rfl ?_
          refine r_goto (t := 46) fe_91_108 (by decide) ?_
          refine go_weak (L0 := [.ref 109, .int l1, .int l2, .int l3, .int (l4 + 1)]) (lwk_c (Or.inl rfl) (lwk_c (Or.inl rfl) (lwk_c (Or.inl rfl) (lwk_c (Or.inl rfl) (lwk_c (Or.inl rfl) (lwk_rf [])))))) ?_
          exact ih.2.2 l1 l2 l3 (l4 + 1) S hf
        · rw [if_neg hb13] at hf
          refine r_ic_f (t := 105) fe_91_69 (by decide) (Bool.eq_false_iff.mpr hb13) ?_
          refine r_aload_n fe_91_72 rfl ?_
          refine r_iload_n fe_91_73 rfl ?_
          refine r_iload fe_91_74 rfl ?_
          refine r_iload_n fe_91_76 rfl ?_
          refine r_callV (as := [.int l3, .int l4, .int l2]) (r := []) fe_91_77 lm_7_149 md_93 rfl rfl (Nat.le_of_ble_eq_true rfl) (x_c xk_109 (by decide)) (x_lt xk_109 (by decide)) (Nat.le_of_ble_eq_true rfl) (Nat.le_of_ble_eq_true rfl) ?_
          cases hc15 : G93 wb lo ln n l3 l4 l2 S with
          | none => rw [hc15] at hf; cases hf
          | some z14 =>
            rw [hc15, Option.bind_some] at hf
            refine G93c (r0 := z14.1) (S0 := z14.2) (hw := hw) (hl := hl) (hf := hc15) ?_
            by_cases hb16 : am_if .eq z14.1 = true
            · rw [if_pos hb16] at hf
              refine r_if_t (t := 105) fe_91_80 (by decide) hb16 ?_
              refine r_iinc (v := (l4 + 1)) fe_91_105 rfl rfl rfl ?_
              refine r_goto (t := 46) fe_91_108 (by decide) ?_
              refine go_weak (L0 := [.ref 109, .int l1, .int l2, .int l3, .int (l4 + 1)]) (lwk_c (Or.inl rfl) (lwk_c (Or.inl rfl) (lwk_c (Or.inl rfl) (lwk_c (Or.inl rfl) (lwk_c (Or.inl rfl) (lwk_rf [])))))) ?_
              exact ih.2.2 l1 l2 l3 (l4 + 1) z14.2 hf
            · rw [if_neg hb16] at hf
              refine r_if_f (t := 105) fe_91_80 (by decide) (Bool.eq_false_iff.mpr hb16) ?_
              refine r_aload_n fe_91_83 rfl ?_
              by_cases hm17 : z14.2.2.2.2 109 4 = some wb
              rotate_left
              · rw [if_neg hm17] at hf; cases hf
              rw [if_pos hm17] at hf
              refine r_getf (v := .ref wb) fe_91_84 lf_7_31 (x_c xk_109 (by decide)) (x_lt xk_109 (by decide)) (by show some (va_rf _) = _; rw [hm17]; rfl) ?_
              refine r_iload_n fe_91_87 rfl ?_
              refine r_iload fe_91_88 rfl ?_
              refine r_callV (as := [.int l3, .int l4]) (r := []) fe_91_90 lm_7_153 md_98 rfl rfl (Nat.le_of_ble_eq_true rfl) (x_c (wk0 hw) (by decide)) (x_lt (wk0 hw) (by decide)) (Nat.le_of_ble_eq_true rfl) (Nat.le_of_ble_eq_true rfl) ?_
              cases hc19 : G98 wb n l3 l4 z14.2 with
              | none => rw [hc19] at hf; cases hf
              | some z18 =>
                rw [hc19, Option.bind_some] at hf
                refine G98c (r0 := z18.1) (S0 := z18.2) (h0 := hw) (hf := hc19) ?_
                refine r_aload_n fe_91_93 rfl ?_
                refine r_dup fe_91_94 rfl ?_
                refine r_getf (v := .int (z18.2.1 109 8)) fe_91_95 lf_7_45 (x_c xk_109 (by decide)) (x_lt xk_109 (by decide)) rfl ?_
                refine r_iconst (v := 1) fe_91_98 (by decide) ?_
                refine r_iadd (v := ((z18.2.1 109 8) + 1)) fe_91_99 rfl ?_
                refine r_putf fe_91_100 lf_7_45 (x_h xk_109 (by decide)) (x_lt xk_109 (by decide)) (by decide) (Nat.le_of_ble_eq_true rfl) rfl rfl (Or.inl rfl) ?_
                refine go_heap (x_uI (j := 8) (x := ((z18.2.1 109 8) + 1)) xk_109 (by decide)) ?_
                refine r_iconst (v := 1) fe_91_103 (by decide) ?_
                refine r_iret fe_91_104 ⟨rfl, by decide⟩ ?_
                exact dfin (P := fun r T => Q (some (.int r)) (xst T G h)) hf hQ
theorem G91c {xs : Nat → Int32} {L9 d : Nat} {G : gS} {h : Nat → va_E} {wb : Nat} {lo : Option Nat} {ln : Nat} {n : Nat} {Q : Option Value → AmH → Prop} {r0 : Int32} {S0 S : xS} {l1 : Int32} (hw : wB G wb = true) (hl : lwB G lo ln = true) (hf : G91 wb lo ln n l1 S = some (r0, S0)) (hQ : Q (some (.int r0)) (xst S0 G h)) : Ca (am_X xs L9) (d + 3) 91 [.ref 109, .int l1] (xst S G h) Q := (G91l hw hl hQ n).1 l1 0 0 0 S hf
def G86b0 (wb : Nat) (lo : Option Nat) (ln : Nat) (F : Nat → Int32 → Int32 → Int32 → Int32 → xS → Option (Unit × xS)) (n : Nat) (l1 : Int32) (l2 : Int32) (l3 : Int32) (l4 : Int32) (S : xS) : Option (Unit × xS) := (if S.2.2.2 109 3 = some 89 then F 10 0 0 0 0 S else none)
def G86b10 (wb : Nat) (lo : Option Nat) (ln : Nat) (F : Nat → Int32 → Int32 → Int32 → Int32 → xS → Option (Unit × xS)) (n : Nat) (l1 : Int32) (l2 : Int32) (l3 : Int32) (l4 : Int32) (S : xS) : Option (Unit × xS) := (if S.2.2.2 109 4 = some wb then (if am_ic .ge l1 (S.1 wb 1) = true then ((G90 wb n 2 S).bind (fun z4 => F 55 z4.1 0 0 0 z4.2)) else (if ¬ (l1 < 0 ∨ 13 ≤ (l1).toNatClampNeg) then (if am_if .lt (S.2.1 (wb + 1) (Int32.toNatClampNeg l1)) = true then F 10 (l1 + 1) 0 0 0 S else ((G87 wb lo ln n l1 S).bind (fun z8 => F 10 (l1 + 1) 0 0 0 z8.2))) else none)) else none)
def G86b55 (wb : Nat) (lo : Option Nat) (ln : Nat) (F : Nat → Int32 → Int32 → Int32 → Int32 → xS → Option (Unit × xS)) (n : Nat) (l1 : Int32) (l2 : Int32) (l3 : Int32) (l4 : Int32) (S : xS) : Option (Unit × xS) := (if am_ic .ge l2 16 = true then ((G99 wb lo ln n  S).bind (fun z11 => ((G100 wb lo ln n 1 z11.2).bind (fun z13 => some ((), z13.2))))) else (if am_if .eq (l1 >>> (l2 &&& 31)) = true then ((G99 wb lo ln n  S).bind (fun z16 => ((G100 wb lo ln n 1 z16.2).bind (fun z18 => some ((), z18.2))))) else (if am_ic .ne ((l1 >>> (l2 &&& 31)) &&& 1) 1 = true then F 85 l1 l2 0 0 S else F 85 l1 l2 1 0 S)))
def G86b85 (wb : Nat) (lo : Option Nat) (ln : Nat) (F : Nat → Int32 → Int32 → Int32 → Int32 → xS → Option (Unit × xS)) (n : Nat) (l1 : Int32) (l2 : Int32) (l3 : Int32) (l4 : Int32) (S : xS) : Option (Unit × xS) := (if am_ic .ge l4 13 = true then F 55 l1 (l2 + 1) 0 0 S else (if am_if .eq l3 = true then F 55 l1 (l2 + 1) 0 0 S else ((G91 wb lo ln n l2 S).bind (fun z23 => F 85 l1 l2 z23.1 (l4 + 1) z23.2))))
def G86f (wb : Nat) (lo : Option Nat) (ln : Nat) : Nat → Nat → Int32 → Int32 → Int32 → Int32 → xS → Option (Unit × xS)
  | 0, _, _, _, _, _, _ => none
  | n + 1, c, l1, l2, l3, l4, S => if c = 0 then G86b0 wb lo ln (G86f wb lo ln n) n l1 l2 l3 l4 S else if c = 10 then G86b10 wb lo ln (G86f wb lo ln n) n l1 l2 l3 l4 S else if c = 55 then G86b55 wb lo ln (G86f wb lo ln n) n l1 l2 l3 l4 S else G86b85 wb lo ln (G86f wb lo ln n) n l1 l2 l3 l4 S
theorem G86e0 (wb : Nat) (lo : Option Nat) (ln : Nat) (n : Nat) (l1 : Int32) (l2 : Int32) (l3 : Int32) (l4 : Int32) (S : xS) : G86f wb lo ln (n + 1) 0 l1 l2 l3 l4 S = G86b0 wb lo ln (G86f wb lo ln n) n l1 l2 l3 l4 S := if_pos rfl
theorem G86e10 (wb : Nat) (lo : Option Nat) (ln : Nat) (n : Nat) (l1 : Int32) (l2 : Int32) (l3 : Int32) (l4 : Int32) (S : xS) : G86f wb lo ln (n + 1) 10 l1 l2 l3 l4 S = G86b10 wb lo ln (G86f wb lo ln n) n l1 l2 l3 l4 S := (if_neg (by decide)).trans (if_pos rfl)
theorem G86e55 (wb : Nat) (lo : Option Nat) (ln : Nat) (n : Nat) (l1 : Int32) (l2 : Int32) (l3 : Int32) (l4 : Int32) (S : xS) : G86f wb lo ln (n + 1) 55 l1 l2 l3 l4 S = G86b55 wb lo ln (G86f wb lo ln n) n l1 l2 l3 l4 S := (if_neg (by decide)).trans ((if_neg (by decide)).trans (if_pos rfl))
theorem G86e85 (wb : Nat) (lo : Option Nat) (ln : Nat) (n : Nat) (l1 : Int32) (l2 : Int32) (l3 : Int32) (l4 : Int32) (S : xS) : G86f wb lo ln (n + 1) 85 l1 l2 l3 l4 S = G86b85 wb lo ln (G86f wb lo ln n) n l1 l2 l3 l4 S := (if_neg (by decide)).trans ((if_neg (by decide)).trans (if_neg (by decide)))
def G86 (wb : Nat) (lo : Option Nat) (ln : Nat) (n : Nat)  (S : xS) : Option (Unit × xS) := G86f wb lo ln n 0 0 0 0 0 S
set_option maxRecDepth 20000 in
set_option maxHeartbeats 4000000 in
theorem G86l {xs : Nat → Int32} {L9 d : Nat} {G : gS} {h : Nat → va_E} {wb : Nat} {lo : Option Nat} {ln : Nat} {Q : Option Value → AmH → Prop} {r0 : Unit} {S0 : xS} (hw : wB G wb = true) (hl : lwB G lo ln = true) (hQ : Q none (xst S0 G h)) : ∀ n : Nat, (∀ (l1 : Int32) (l2 : Int32) (l3 : Int32) (l4 : Int32) (S : xS), G86f wb lo ln n 0 l1 l2 l3 l4 S = some (r0, S0) → Go (am_X xs L9) (d + 4) 86 0 [.ref 109, .float 0, .float 0, .float 0, .float 0] [] (xst S G h) Q) ∧ (∀ (l1 : Int32) (l2 : Int32) (l3 : Int32) (l4 : Int32) (S : xS), G86f wb lo ln n 10 l1 l2 l3 l4 S = some (r0, S0) → Go (am_X xs L9) (d + 4) 86 10 [.ref 109, .int l1, .float 0, .float 0, .float 0] [] (xst S G h) Q) ∧ (∀ (l1 : Int32) (l2 : Int32) (l3 : Int32) (l4 : Int32) (S : xS), G86f wb lo ln n 55 l1 l2 l3 l4 S = some (r0, S0) → Go (am_X xs L9) (d + 4) 86 55 [.ref 109, .int l1, .int l2, .float 0, .float 0] [] (xst S G h) Q) ∧ (∀ (l1 : Int32) (l2 : Int32) (l3 : Int32) (l4 : Int32) (S : xS), G86f wb lo ln n 85 l1 l2 l3 l4 S = some (r0, S0) → Go (am_X xs L9) (d + 4) 86 85 [.ref 109, .int l1, .int l2, .int l3, .int l4] [] (xst S G h) Q) := by
  intro n
  induction n with
  | zero => exact ⟨fun l1 l2 l3 l4 S hf => (by cases hf), fun l1 l2 l3 l4 S hf => (by cases hf), fun l1 l2 l3 l4 S hf => (by cases hf), fun l1 l2 l3 l4 S hf => (by cases hf)⟩
  | succ n ih =>
    refine ⟨?_, ?_, ?_, ?_⟩
    · intro l1 l2 l3 l4 S hf
      rw [G86e0] at hf
      unfold G86b0 at hf
      refine r_aload_n fe_86_0 rfl ?_
      by_cases hm1 : S.2.2.2 109 3 = some 89
      rotate_left
      · rw [if_neg hm1] at hf; cases hf
      rw [if_pos hm1] at hf
      refine r_getf (v := .ref 89) fe_86_1 lf_7_27 (x_c xk_109 (by decide)) (x_lt xk_109 (by decide)) (by show some (va_rf _) = _; rw [hm1]; rfl) ?_
      refine r_ifnonnull (t := 8) fe_86_4 (by decide) ?_
      refine r_iconst (v := 0) fe_86_8 (by decide) ?_
      refine r_istore_n fe_86_9 (Nat.le_of_ble_eq_true rfl) rfl ?_
      refine go_weak (L0 := [.ref 109, .int 0, .float 0, .float 0, .float 0]) (lwk_c (Or.inl rfl) (lwk_c (Or.inl rfl) (lwk_c (Or.inl rfl) (lwk_c (Or.inl rfl) (lwk_c (Or.inl rfl) (lwk_rf [])))))) ?_
      exact ih.2.1 0 0 0 0 S hf
    · intro l1 l2 l3 l4 S hf
      rw [G86e10] at hf
      unfold G86b10 at hf
      refine r_iload_n fe_86_10 rfl ?_
      refine r_aload_n fe_86_11 rfl ?_
      by_cases hm2 : S.2.2.2 109 4 = some wb
      rotate_left
      · rw [if_neg hm2] at hf; cases hf
      rw [if_pos hm2] at hf
      refine r_getf (v := .ref wb) fe_86_12 lf_7_31 (x_c xk_109 (by decide)) (x_lt xk_109 (by decide)) (by show some (va_rf _) = _; rw [hm2]; rfl) ?_
      refine r_getf (v := .int (S.1 wb 1)) fe_86_15 lf_7_88 (x_c (wk0 hw) (by decide)) (x_lt (wk0 hw) (by decide)) rfl ?_
      by_cases hb3 : am_ic .ge l1 (S.1 wb 1) = true
      · rw [if_pos hb3] at hf
        refine r_ic_t (t := 44) fe_86_18 (by decide) hb3 ?_
        refine r_aload_n fe_86_44 rfl ?_
        refine r_getf (v := .ref wb) fe_86_45 lf_7_31 (x_c xk_109 (by decide)) (x_lt xk_109 (by decide)) (by show some (va_rf _) = _; rw [hm2]; rfl) ?_
        refine r_iconst (v := 2) fe_86_48 (by decide) ?_
        refine r_callV (as := [.int 2]) (r := []) fe_86_49 lm_7_60 md_90 rfl rfl (Nat.le_of_ble_eq_true rfl) (x_c (wk0 hw) (by decide)) (x_lt (wk0 hw) (by decide)) (Nat.le_of_ble_eq_true rfl) (Nat.le_of_ble_eq_true rfl) ?_
        cases hc5 : G90 wb n 2 S with
        | none => rw [hc5] at hf; cases hf
        | some z4 =>
          rw [hc5, Option.bind_some] at hf
          refine G90c (r0 := z4.1) (S0 := z4.2) (h0 := hw) (hf := hc5) ?_
          refine r_istore_n fe_86_52 (Nat.le_of_ble_eq_true rfl) rfl ?_
          refine r_iconst (v := 0) fe_86_53 (by decide) ?_
          refine r_istore_n fe_86_54 (Nat.le_of_ble_eq_true rfl) rfl ?_
          refine go_weak (L0 := [.ref 109, .int z4.1, .int 0, .float 0, .float 0]) (lwk_c (Or.inl rfl) (lwk_c (Or.inl rfl) (lwk_c (Or.inl rfl) (lwk_c (Or.inl rfl) (lwk_c (Or.inl rfl) (lwk_rf [])))))) ?_
          exact ih.2.2.1 z4.1 0 0 0 z4.2 hf
      · rw [if_neg hb3] at hf
        refine r_ic_f (t := 44) fe_86_18 (by decide) (Bool.eq_false_iff.mpr hb3) ?_
        refine r_aload_n fe_86_21 rfl ?_
        refine r_getf (v := .ref wb) fe_86_22 lf_7_31 (x_c xk_109 (by decide)) (x_lt xk_109 (by decide)) (by show some (va_rf _) = _; rw [hm2]; rfl) ?_
        refine r_getf (v := .ref (wb + 1)) fe_86_25 lf_7_80 (x_c (wk0 hw) (by decide)) (x_lt (wk0 hw) (by decide)) rfl ?_
        refine r_iload_n fe_86_28 rfl ?_
        by_cases hg6 : ¬ (l1 < 0 ∨ 13 ≤ (l1).toNatClampNeg)
        rotate_left
        · rw [if_neg hg6] at hf; cases hf
        rw [if_pos hg6] at hf
        refine r_iald (j := (Int32.toNatClampNeg l1)) (v := S.2.1 (wb + 1) (Int32.toNatClampNeg l1)) fe_86_29 (x_c (wk1 hw) (by decide)) (x_lt (wk1 hw) (by decide)) (fun z => hg6 (Or.inl z)) rfl (fun z => hg6 (Or.inr z)) rfl ?_
        by_cases hb7 : am_if .lt (S.2.1 (wb + 1) (Int32.toNatClampNeg l1)) = true
        · rw [if_pos hb7] at hf
          refine r_if_t (t := 38) fe_86_30 (by decide) hb7 ?_
          refine r_iinc (v := (l1 + 1)) fe_86_38 rfl rfl rfl ?_
          refine r_goto (t := 10) fe_86_41 (by decide) ?_
          refine go_weak (L0 := [.ref 109, .int (l1 + 1), .float 0, .float 0, .float 0]) (lwk_c (Or.inl rfl) (lwk_c (Or.inl rfl) (lwk_c (Or.inl rfl) (lwk_c (Or.inl rfl) (lwk_c (Or.inl rfl) (lwk_rf [])))))) ?_
          exact ih.2.1 (l1 + 1) 0 0 0 S hf
        · rw [if_neg hb7] at hf
          refine r_if_f (t := 38) fe_86_30 (by decide) (Bool.eq_false_iff.mpr hb7) ?_
          refine r_aload_n fe_86_33 rfl ?_
          refine r_iload_n fe_86_34 rfl ?_
          refine r_callV (as := [.int l1]) (r := []) fe_86_35 lm_7_94 md_87 rfl rfl (Nat.le_of_ble_eq_true rfl) (x_c xk_109 (by decide)) (x_lt xk_109 (by decide)) (Nat.le_of_ble_eq_true rfl) (Nat.le_of_ble_eq_true rfl) ?_
          cases hc9 : G87 wb lo ln n l1 S with
          | none => rw [hc9] at hf; cases hf
          | some z8 =>
            rw [hc9, Option.bind_some] at hf
            refine G87c (r0 := z8.1) (S0 := z8.2) (hw := hw) (hl := hl) (hf := hc9) ?_
            refine r_iinc (v := (l1 + 1)) fe_86_38 rfl rfl rfl ?_
            refine r_goto (t := 10) fe_86_41 (by decide) ?_
            refine go_weak (L0 := [.ref 109, .int (l1 + 1), .float 0, .float 0, .float 0]) (lwk_c (Or.inl rfl) (lwk_c (Or.inl rfl) (lwk_c (Or.inl rfl) (lwk_c (Or.inl rfl) (lwk_c (Or.inl rfl) (lwk_rf [])))))) ?_
            exact ih.2.1 (l1 + 1) 0 0 0 z8.2 hf
    · intro l1 l2 l3 l4 S hf
      rw [G86e55] at hf
      unfold G86b55 at hf
      refine r_iload_n fe_86_55 rfl ?_
      refine r_bipush (v := 16) fe_86_56 (by decide) ?_
      by_cases hb10 : am_ic .ge l2 16 = true
      · rw [if_pos hb10] at hf
        refine r_ic_t (t := 114) fe_86_58 (by decide) hb10 ?_
        refine r_aload_n fe_86_114 rfl ?_
        refine r_callV (as := []) (r := []) fe_86_115 lm_7_101 md_99 rfl rfl (Nat.le_of_ble_eq_true rfl) (x_c xk_109 (by decide)) (x_lt xk_109 (by decide)) (Nat.le_of_ble_eq_true rfl) (Nat.le_of_ble_eq_true rfl) ?_
        cases hc12 : G99 wb lo ln n  S with
        | none => rw [hc12] at hf; cases hf
        | some z11 =>
          rw [hc12, Option.bind_some] at hf
          refine G99c (r0 := z11.1) (S0 := z11.2) (hw := hw) (hl := hl) (hf := hc12) ?_
          refine r_aload_n fe_86_118 rfl ?_
          refine r_iconst (v := 1) fe_86_119 (by decide) ?_
          refine r_callV (as := [.int 1]) (r := []) fe_86_120 lm_7_64 md_100 rfl rfl (Nat.le_of_ble_eq_true rfl) (x_c xk_109 (by decide)) (x_lt xk_109 (by decide)) (Nat.le_of_ble_eq_true rfl) (Nat.le_of_ble_eq_true rfl) ?_
          cases hc14 : G100 wb lo ln n 1 z11.2 with
          | none => rw [hc14] at hf; cases hf
          | some z13 =>
            rw [hc14, Option.bind_some] at hf
            refine G100c (r0 := z13.1) (S0 := z13.2) (hw := hw) (hl := hl) (hf := hc14) ?_
            refine r_vret fe_86_123 ?_
            exact dfin (P := fun _ T => Q none (xst T G h)) hf hQ
      · rw [if_neg hb10] at hf
        refine r_ic_f (t := 114) fe_86_58 (by decide) (Bool.eq_false_iff.mpr hb10) ?_
        refine r_iload_n fe_86_61 rfl ?_
        refine r_iload_n fe_86_62 rfl ?_
        refine r_ishr (v := (l1 >>> (l2 &&& 31))) fe_86_63 rfl ?_
        by_cases hb15 : am_if .eq (l1 >>> (l2 &&& 31)) = true
        · rw [if_pos hb15] at hf
          refine r_if_t (t := 114) fe_86_64 (by decide) hb15 ?_
          refine r_aload_n fe_86_114 rfl ?_
          refine r_callV (as := []) (r := []) fe_86_115 lm_7_101 md_99 rfl rfl (Nat.le_of_ble_eq_true rfl) (x_c xk_109 (by decide)) (x_lt xk_109 (by decide)) (Nat.le_of_ble_eq_true rfl) (Nat.le_of_ble_eq_true rfl) ?_
          cases hc17 : G99 wb lo ln n  S with
          | none => rw [hc17] at hf; cases hf
          | some z16 =>
            rw [hc17, Option.bind_some] at hf
            refine G99c (r0 := z16.1) (S0 := z16.2) (hw := hw) (hl := hl) (hf := hc17) ?_
            refine r_aload_n fe_86_118 rfl ?_
            refine r_iconst (v := 1) fe_86_119 (by decide) ?_
            refine r_callV (as := [.int 1]) (r := []) fe_86_120 lm_7_64 md_100 rfl rfl (Nat.le_of_ble_eq_true rfl) (x_c xk_109 (by decide)) (x_lt xk_109 (by decide)) (Nat.le_of_ble_eq_true rfl) (Nat.le_of_ble_eq_true rfl) ?_
            cases hc19 : G100 wb lo ln n 1 z16.2 with
            | none => rw [hc19] at hf; cases hf
            | some z18 =>
              rw [hc19, Option.bind_some] at hf
              refine G100c (r0 := z18.1) (S0 := z18.2) (hw := hw) (hl := hl) (hf := hc19) ?_
              refine r_vret fe_86_123 ?_
              exact dfin (P := fun _ T => Q none (xst T G h)) hf hQ
        · rw [if_neg hb15] at hf
          refine r_if_f (t := 114) fe_86_64 (by decide) (Bool.eq_false_iff.mpr hb15) ?_
          refine r_iload_n fe_86_67 rfl ?_
          refine r_iload_n fe_86_68 rfl ?_
          refine r_ishr (v := (l1 >>> (l2 &&& 31))) fe_86_69 rfl ?_
          refine r_iconst (v := 1) fe_86_70 (by decide) ?_
          refine r_iand (v := ((l1 >>> (l2 &&& 31)) &&& 1)) fe_86_71 rfl ?_
          refine r_iconst (v := 1) fe_86_72 (by decide) ?_
          by_cases hb20 : am_ic .ne ((l1 >>> (l2 &&& 31)) &&& 1) 1 = true
          · rw [if_pos hb20] at hf
            refine r_ic_t (t := 80) fe_86_73 (by decide) hb20 ?_
            refine r_iconst (v := 0) fe_86_80 (by decide) ?_
            refine r_istore_n fe_86_81 (Nat.le_of_ble_eq_true rfl) rfl ?_
            refine r_iconst (v := 0) fe_86_82 (by decide) ?_
            refine r_istore fe_86_83 (Nat.le_of_ble_eq_true rfl) rfl ?_
            refine go_weak (L0 := [.ref 109, .int l1, .int l2, .int 0, .int 0]) (lwk_c (Or.inl rfl) (lwk_c (Or.inl rfl) (lwk_c (Or.inl rfl) (lwk_c (Or.inl rfl) (lwk_c (Or.inl rfl) (lwk_rf [])))))) ?_
            exact ih.2.2.2 l1 l2 0 0 S hf
          · rw [if_neg hb20] at hf
            refine r_ic_f (t := 80) fe_86_73 (by decide) (Bool.eq_false_iff.mpr hb20) ?_
            refine r_iconst (v := 1) fe_86_76 (by decide) ?_
            refine r_goto (t := 81) fe_86_77 (by decide) ?_
            refine r_istore_n fe_86_81 (Nat.le_of_ble_eq_true rfl) rfl ?_
            refine r_iconst (v := 0) fe_86_82 (by decide) ?_
            refine r_istore fe_86_83 (Nat.le_of_ble_eq_true rfl) rfl ?_
            refine go_weak (L0 := [.ref 109, .int l1, .int l2, .int 1, .int 0]) (lwk_c (Or.inl rfl) (lwk_c (Or.inl rfl) (lwk_c (Or.inl rfl) (lwk_c (Or.inl rfl) (lwk_c (Or.inl rfl) (lwk_rf [])))))) ?_
            exact ih.2.2.2 l1 l2 1 0 S hf
    · intro l1 l2 l3 l4 S hf
      rw [G86e85] at hf
      unfold G86b85 at hf
      refine r_iload fe_86_85 rfl ?_
      refine r_bipush (v := 13) fe_86_87 (by decide) ?_
      by_cases hb21 : am_ic .ge l4 13 = true
      · rw [if_pos hb21] at hf
        refine r_ic_t (t := 108) fe_86_89 (by decide) hb21 ?_
        refine r_iinc (v := (l2 + 1)) fe_86_108 rfl rfl rfl ?_
        refine r_goto (t := 55) fe_86_111 (by decide) ?_
        refine go_weak (L0 := [.ref 109, .int l1, .int (l2 + 1), .float 0, .float 0]) (lwk_c (Or.inl rfl) (lwk_c (Or.inl rfl) (lwk_c (Or.inl rfl) (lwk_c (Or.inr rfl) (lwk_c (Or.inr rfl) (lwk_rf [])))))) ?_
        exact ih.2.2.1 l1 (l2 + 1) 0 0 S hf
      · rw [if_neg hb21] at hf
        refine r_ic_f (t := 108) fe_86_89 (by decide) (Bool.eq_false_iff.mpr hb21) ?_
        refine r_iload_n fe_86_92 rfl ?_
        by_cases hb22 : am_if .eq l3 = true
        · rw [if_pos hb22] at hf
          refine r_if_t (t := 108) fe_86_93 (by decide) hb22 ?_
          refine r_iinc (v := (l2 + 1)) fe_86_108 rfl rfl rfl ?_
          refine r_goto (t := 55) fe_86_111 (by decide) ?_
          refine go_weak (L0 := [.ref 109, .int l1, .int (l2 + 1), .float 0, .float 0]) (lwk_c (Or.inl rfl) (lwk_c (Or.inl rfl) (lwk_c (Or.inl rfl) (lwk_c (Or.inr rfl) (lwk_c (Or.inr rfl) (lwk_rf [])))))) ?_
          exact ih.2.2.1 l1 (l2 + 1) 0 0 S hf
        · rw [if_neg hb22] at hf
          refine r_if_f (t := 108) fe_86_93 (by decide) (Bool.eq_false_iff.mpr hb22) ?_
          refine r_aload_n fe_86_96 rfl ?_
          refine r_iload_n fe_86_97 rfl ?_
          refine r_callV (as := [.int l2]) (r := []) fe_86_98 lm_7_97 md_91 rfl rfl (Nat.le_of_ble_eq_true rfl) (x_c xk_109 (by decide)) (x_lt xk_109 (by decide)) (Nat.le_of_ble_eq_true rfl) (Nat.le_of_ble_eq_true rfl) ?_
          cases hc24 : G91 wb lo ln n l2 S with
          | none => rw [hc24] at hf; cases hf
          | some z23 =>
            rw [hc24, Option.bind_some] at hf
            refine G91c (r0 := z23.1) (S0 := z23.2) (hw := hw) (hl := hl) (hf := hc24) ?_
            refine r_istore_n fe_86_101 (Nat.le_of_ble_eq_true rfl) rfl ?_
            refine r_iinc (v := (l4 + 1)) fe_86_102 rfl rfl rfl ?_
            refine r_goto (t := 85) fe_86_105 (by decide) ?_
            refine go_weak (L0 := [.ref 109, .int l1, .int l2, .int z23.1, .int (l4 + 1)]) (lwk_c (Or.inl rfl) (lwk_c (Or.inl rfl) (lwk_c (Or.inl rfl) (lwk_c (Or.inl rfl) (lwk_c (Or.inl rfl) (lwk_rf [])))))) ?_
            exact ih.2.2.2 l1 l2 z23.1 (l4 + 1) z23.2 hf
theorem G86c {xs : Nat → Int32} {L9 d : Nat} {G : gS} {h : Nat → va_E} {wb : Nat} {lo : Option Nat} {ln : Nat} {n : Nat} {Q : Option Value → AmH → Prop} {r0 : Unit} {S0 S : xS}  (hw : wB G wb = true) (hl : lwB G lo ln = true) (hf : G86 wb lo ln n  S = some (r0, S0)) (hQ : Q none (xst S0 G h)) : Ca (am_X xs L9) (d + 4) 86 [.ref 109] (xst S G h) Q := (G86l hw hl hQ n).1 0 0 0 0 S hf
def G81b0 (F : Nat → (xS × gS) → Option (Int32 × (xS × gS))) (n : Nat)  (U : (xS × gS)) : Option (Int32 × (xS × gS)) := ((G82 n  U.1).bind (fun z1 => (if am_if .eq z1.1 = true then some ((-1), (z1.2, U.2)) else (if am_ic .lt (z1.2.1 95 0) 999 = true then ((G83 106 95 n  (z1.2, U.2)).bind (fun z5 => ((G84 n  z5.2.1).bind (fun z7 => (if lwB z5.2.2 z7.1 (lawN z5.2.2 z7.1) = true then ((G85 89 95 z7.1 n  z7.2).bind (fun z10 => ((G86 95 z7.1 (lawN z5.2.2 z7.1) n  z10.2).bind (fun z12 => some ((((z12.2.1 109 6) + (z12.2.1 109 7)) + (z12.2.1 109 8)), (z12.2, z5.2.2)))))) else none))))) else some ((-1), (z1.2, U.2))))))
def G81f : Nat → Nat → (xS × gS) → Option (Int32 × (xS × gS))
  | 0, _, _ => none
  | n + 1, c, U => G81b0 (G81f n) n  U
theorem G81e0 (n : Nat)  (U : (xS × gS)) : G81f (n + 1) 0  U = G81b0 (G81f n) n  U := rfl
def G81 (n : Nat)  (U : (xS × gS)) : Option (Int32 × (xS × gS)) := G81f n 0  U
set_option maxRecDepth 20000 in
set_option maxHeartbeats 4000000 in
theorem G81l {xs : Nat → Int32} {L9 d : Nat} {h : Nat → va_E} {Q : Option Value → AmH → Prop} {r0 : Int32} {U0 : (xS × gS)} (hQ : Q (some (.int r0)) (xst U0.1 U0.2 h)) : ∀ n : Nat, (∀ (U : (xS × gS)), G81f n 0  U = some (r0, U0) → Go (am_X xs L9) (d + 5) 81 0 [.ref 64] [] (xst U.1 U.2 h) Q) := by
  intro n
  induction n with
  | zero => exact fun  U hf => (by cases hf)
  | succ n ih =>
    intro  U hf
    rw [G81e0] at hf
    unfold G81b0 at hf
    refine r_aload_n fe_81_0 rfl ?_
    refine r_callV (as := []) (r := []) fe_81_1 lm_11_169 md_82 rfl rfl (Nat.le_of_ble_eq_true rfl) (x_c xk_64 (by decide)) (x_lt xk_64 (by decide)) (Nat.le_of_ble_eq_true rfl) (Nat.le_of_ble_eq_true rfl) ?_
    cases hc2 : G82 n  U.1 with
    | none => rw [hc2] at hf; cases hf
    | some z1 =>
      rw [hc2, Option.bind_some] at hf
      refine G82c (r0 := z1.1) (S0 := z1.2)  (hf := hc2) ?_
      by_cases hb3 : am_if .eq z1.1 = true
      · rw [if_pos hb3] at hf
        refine r_if_t (t := 23) fe_81_4 (by decide) hb3 ?_
        refine r_iconst (v := -1) fe_81_23 (by decide) ?_
        refine r_iret fe_81_24 ⟨rfl, by decide⟩ ?_
        exact dfin (P := fun r T => Q (some (.int r)) (xst T.1 T.2 h)) hf hQ
      · rw [if_neg hb3] at hf
        refine r_if_f (t := 23) fe_81_4 (by decide) (Bool.eq_false_iff.mpr hb3) ?_
        refine r_aload_n fe_81_7 rfl ?_
        refine r_getf (v := .ref 88) fe_81_8 lf_11_43 (x_c xk_64 (by decide)) (x_lt xk_64 (by decide)) rfl ?_
        refine r_getf (v := .ref 95) fe_81_11 lf_11_94 (x_c xk_88 (by decide)) (x_lt xk_88 (by decide)) rfl ?_
        refine r_getf (v := .int (z1.2.1 95 0)) fe_81_14 lf_11_173 (x_c xk_95 (by decide)) (x_lt xk_95 (by decide)) rfl ?_
        refine r_sipush (v := 999) fe_81_17 (by decide) ?_
        by_cases hb4 : am_ic .lt (z1.2.1 95 0) 999 = true
        · rw [if_pos hb4] at hf
          refine r_ic_t (t := 25) fe_81_20 (by decide) hb4 ?_
          refine r_aload_n fe_81_25 rfl ?_
          refine r_getf (v := .ref 88) fe_81_26 lf_11_43 (x_c xk_64 (by decide)) (x_lt xk_64 (by decide)) rfl ?_
          refine r_getf (v := .ref 106) fe_81_29 lf_11_104 (x_c xk_88 (by decide)) (x_lt xk_88 (by decide)) rfl ?_
          refine r_aload_n fe_81_32 rfl ?_
          refine r_getf (v := .ref 88) fe_81_33 lf_11_43 (x_c xk_64 (by decide)) (x_lt xk_64 (by decide)) rfl ?_
          refine r_getf (v := .ref 95) fe_81_36 lf_11_94 (x_c xk_88 (by decide)) (x_lt xk_88 (by decide)) rfl ?_
          refine r_callV (as := [.ref 95]) (r := []) fe_81_39 lm_11_176 md_83 rfl rfl (Nat.le_of_ble_eq_true rfl) (x_c xk_106 (by decide)) (x_lt xk_106 (by decide)) (Nat.le_of_ble_eq_true rfl) (Nat.le_of_ble_eq_true rfl) ?_
          cases hc6 : G83 106 95 n  (z1.2, U.2) with
          | none => rw [hc6] at hf; cases hf
          | some z5 =>
            rw [hc6, Option.bind_some] at hf
            refine G83c (r0 := z5.1) (U0 := z5.2)  (hf := hc6) ?_
            refine r_aload_n fe_81_42 rfl ?_
            refine r_getf (v := .ref 109) fe_81_43 lf_11_54 (x_c xk_64 (by decide)) (x_lt xk_64 (by decide)) rfl ?_
            refine r_aload_n fe_81_46 rfl ?_
            refine r_getf (v := .ref 88) fe_81_47 lf_11_43 (x_c xk_64 (by decide)) (x_lt xk_64 (by decide)) rfl ?_
            refine r_getf (v := .ref 89) fe_81_50 lf_11_83 (x_c xk_88 (by decide)) (x_lt xk_88 (by decide)) rfl ?_
            refine r_aload_n fe_81_53 rfl ?_
            refine r_getf (v := .ref 88) fe_81_54 lf_11_43 (x_c xk_64 (by decide)) (x_lt xk_64 (by decide)) rfl ?_
            refine r_getf (v := .ref 95) fe_81_57 lf_11_94 (x_c xk_88 (by decide)) (x_lt xk_88 (by decide)) rfl ?_
            refine r_aload_n fe_81_60 rfl ?_
            refine r_callV (as := []) (r := [.ref 95, .ref 89, .ref 109]) fe_81_61 lm_11_179 md_84 rfl rfl (Nat.le_of_ble_eq_true rfl) (x_c xk_64 (by decide)) (x_lt xk_64 (by decide)) (Nat.le_of_ble_eq_true rfl) (Nat.le_of_ble_eq_true rfl) ?_
            cases hc8 : G84 n  z5.2.1 with
            | none => rw [hc8] at hf; cases hf
            | some z7 =>
              rw [hc8, Option.bind_some] at hf
              refine G84c (r0 := z7.1) (S0 := z7.2)  (hf := hc8) ?_
              by_cases hb9 : lwB z5.2.2 z7.1 (lawN z5.2.2 z7.1) = true
              rotate_left
              · rw [if_neg hb9] at hf; cases hf
              rw [if_pos hb9] at hf
              refine r_callV (as := [.ref 89, .ref 95, va_rf z7.1]) (r := []) fe_81_64 lm_11_182 md_85 rfl rfl (Nat.le_of_ble_eq_true rfl) (x_c xk_109 (by decide)) (x_lt xk_109 (by decide)) (Nat.le_of_ble_eq_true rfl) (by cases e9 : z7.1 <;> exact Nat.le_of_ble_eq_true rfl) ?_
              cases hc11 : G85 89 95 z7.1 n  z7.2 with
              | none => rw [hc11] at hf; cases hf
              | some z10 =>
                rw [hc11, Option.bind_some] at hf
                refine G85c (r0 := z10.1) (S0 := z10.2) (h1 := bS_89) (h2 := wS_95) (hf := hc11) ?_
                refine r_aload_n fe_81_67 rfl ?_
                refine r_getf (v := .ref 109) fe_81_68 lf_11_54 (x_c xk_64 (by decide)) (x_lt xk_64 (by decide)) rfl ?_
                refine r_callV (as := []) (r := []) fe_81_71 lm_11_186 md_86 rfl rfl (Nat.le_of_ble_eq_true rfl) (x_c xk_109 (by decide)) (x_lt xk_109 (by decide)) (Nat.le_of_ble_eq_true rfl) (Nat.le_of_ble_eq_true rfl) ?_
                cases hc13 : G86 95 z7.1 (lawN z5.2.2 z7.1) n  z10.2 with
                | none => rw [hc13] at hf; cases hf
                | some z12 =>
                  rw [hc13, Option.bind_some] at hf
                  refine G86c (r0 := z12.1) (S0 := z12.2) (hw := wS_95) (hl := hb9) (hf := hc13) ?_
                  refine r_aload_n fe_81_74 rfl ?_
                  refine r_getf (v := .ref 109) fe_81_75 lf_11_54 (x_c xk_64 (by decide)) (x_lt xk_64 (by decide)) rfl ?_
                  refine r_getf (v := .int (z12.2.1 109 6)) fe_81_78 lf_11_189 (x_c xk_109 (by decide)) (x_lt xk_109 (by decide)) rfl ?_
                  refine r_aload_n fe_81_81 rfl ?_
                  refine r_getf (v := .ref 109) fe_81_82 lf_11_54 (x_c xk_64 (by decide)) (x_lt xk_64 (by decide)) rfl ?_
                  refine r_getf (v := .int (z12.2.1 109 7)) fe_81_85 lf_11_192 (x_c xk_109 (by decide)) (x_lt xk_109 (by decide)) rfl ?_
                  refine r_iadd (v := ((z12.2.1 109 6) + (z12.2.1 109 7))) fe_81_88 rfl ?_
                  refine r_aload_n fe_81_89 rfl ?_
                  refine r_getf (v := .ref 109) fe_81_90 lf_11_54 (x_c xk_64 (by decide)) (x_lt xk_64 (by decide)) rfl ?_
                  refine r_getf (v := .int (z12.2.1 109 8)) fe_81_93 lf_11_195 (x_c xk_109 (by decide)) (x_lt xk_109 (by decide)) rfl ?_
                  refine r_iadd (v := (((z12.2.1 109 6) + (z12.2.1 109 7)) + (z12.2.1 109 8))) fe_81_96 rfl ?_
                  refine r_iret fe_81_97 ⟨rfl, by decide⟩ ?_
                  exact dfin (P := fun r T => Q (some (.int r)) (xst T.1 T.2 h)) hf hQ
        · rw [if_neg hb4] at hf
          refine r_ic_f (t := 25) fe_81_20 (by decide) (Bool.eq_false_iff.mpr hb4) ?_
          refine r_iconst (v := -1) fe_81_23 (by decide) ?_
          refine r_iret fe_81_24 ⟨rfl, by decide⟩ ?_
          exact dfin (P := fun r T => Q (some (.int r)) (xst T.1 T.2 h)) hf hQ
theorem G81c {xs : Nat → Int32} {L9 d : Nat} {h : Nat → va_E} {n : Nat} {Q : Option Value → AmH → Prop} {r0 : Int32} {U0 U : (xS × gS)}  (hf : G81 n  U = some (r0, U0)) (hQ : Q (some (.int r0)) (xst U0.1 U0.2 h)) : Ca (am_X xs L9) (d + 5) 81 [.ref 64] (xst U.1 U.2 h) Q := (G81l hQ n)  U hf
def G102b0 (F : Nat → Int32 → Int32 → Int32 → xS → Option (Int32 × xS)) (n : Nat) (l0 : Int32) (l1 : Int32) (l2 : Int32) (S : xS) : Option (Int32 × xS) := F 4 0 0 l0 S
def G102b4 (F : Nat → Int32 → Int32 → Int32 → xS → Option (Int32 × xS)) (n : Nat) (l0 : Int32) (l1 : Int32) (l2 : Int32) (S : xS) : Option (Int32 × xS) := (if am_if .le l2 = true then (if am_ic .le l1 8 = true then some (l1, S) else some (0, S)) else (if am_ic .gt l1 8 = true then (if am_ic .le l1 8 = true then some (l1, S) else some (0, S)) else (if am_ic .lt (l2 - l2 / 10 * 10) 1 = true then some (0, S) else (if am_ic .le (l2 - l2 / 10 * 10) 6 = true then F 4 0 (l1 + 1) (l2 / 10) S else some (0, S)))))
def G102f : Nat → Nat → Int32 → Int32 → Int32 → xS → Option (Int32 × xS)
  | 0, _, _, _, _, _ => none
  | n + 1, c, l0, l1, l2, S => if c = 0 then G102b0 (G102f n) n l0 l1 l2 S else G102b4 (G102f n) n l0 l1 l2 S
theorem G102e0 (n : Nat) (l0 : Int32) (l1 : Int32) (l2 : Int32) (S : xS) : G102f (n + 1) 0 l0 l1 l2 S = G102b0 (G102f n) n l0 l1 l2 S := if_pos rfl
theorem G102e4 (n : Nat) (l0 : Int32) (l1 : Int32) (l2 : Int32) (S : xS) : G102f (n + 1) 4 l0 l1 l2 S = G102b4 (G102f n) n l0 l1 l2 S := if_neg (by decide)
def G102 (n : Nat) (l0 : Int32) (S : xS) : Option (Int32 × xS) := G102f n 0 l0 0 0 S
set_option maxRecDepth 20000 in
set_option maxHeartbeats 4000000 in
theorem G102l {xs : Nat → Int32} {L9 d : Nat} {G : gS} {h : Nat → va_E} {Q : Option Value → AmH → Prop} {r0 : Int32} {S0 : xS} (hQ : Q (some (.int r0)) (xst S0 G h)) : ∀ n : Nat, (∀ (l0 : Int32) (l1 : Int32) (l2 : Int32) (S : xS), G102f n 0 l0 l1 l2 S = some (r0, S0) → Go (am_X xs L9) (d + 0) 102 0 [.int l0, .float 0, .float 0, .float 0] [] (xst S G h) Q) ∧ (∀ (l0 : Int32) (l1 : Int32) (l2 : Int32) (S : xS), G102f n 4 l0 l1 l2 S = some (r0, S0) → Go (am_X xs L9) (d + 0) 102 4 [.float 0, .int l1, .int l2, .float 0] [] (xst S G h) Q) := by
  intro n
  induction n with
  | zero => exact ⟨fun l0 l1 l2 S hf => (by cases hf), fun l0 l1 l2 S hf => (by cases hf)⟩
  | succ n ih =>
    refine ⟨?_, ?_⟩
    · intro l0 l1 l2 S hf
      rw [G102e0] at hf
      unfold G102b0 at hf
      refine r_iconst (v := 0) fe_102_0 (by decide) ?_
      refine r_istore_n fe_102_1 (Nat.le_of_ble_eq_true rfl) rfl ?_
      refine r_iload_n fe_102_2 rfl ?_
      refine r_istore_n fe_102_3 (Nat.le_of_ble_eq_true rfl) rfl ?_
      refine go_weak (L0 := [.float 0, .int 0, .int l0, .float 0]) (lwk_c (Or.inr rfl) (lwk_c (Or.inl rfl) (lwk_c (Or.inl rfl) (lwk_c (Or.inl rfl) (lwk_rf []))))) ?_
      exact ih.2 0 0 l0 S hf
    · intro l0 l1 l2 S hf
      rw [G102e4] at hf
      unfold G102b4 at hf
      refine r_iload_n fe_102_4 rfl ?_
      by_cases hb1 : am_if .le l2 = true
      · rw [if_pos hb1] at hf
        refine r_if_t (t := 43) fe_102_5 (by decide) hb1 ?_
        refine r_iload_n fe_102_43 rfl ?_
        refine r_bipush (v := 8) fe_102_44 (by decide) ?_
        by_cases hb2 : am_ic .le l1 8 = true
        · rw [if_pos hb2] at hf
          refine r_ic_t (t := 53) fe_102_46 (by decide) hb2 ?_
          refine r_iload_n fe_102_53 rfl ?_
          refine r_iret fe_102_54 ⟨rfl, by decide⟩ ?_
          exact dfin (P := fun r T => Q (some (.int r)) (xst T G h)) hf hQ
        · rw [if_neg hb2] at hf
          refine r_ic_f (t := 53) fe_102_46 (by decide) (Bool.eq_false_iff.mpr hb2) ?_
          refine r_iconst (v := 0) fe_102_49 (by decide) ?_
          refine r_goto (t := 54) fe_102_50 (by decide) ?_
          refine r_iret fe_102_54 ⟨rfl, by decide⟩ ?_
          exact dfin (P := fun r T => Q (some (.int r)) (xst T G h)) hf hQ
      · rw [if_neg hb1] at hf
        refine r_if_f (t := 43) fe_102_5 (by decide) (Bool.eq_false_iff.mpr hb1) ?_
        refine r_iload_n fe_102_8 rfl ?_
        refine r_bipush (v := 8) fe_102_9 (by decide) ?_
        by_cases hb3 : am_ic .gt l1 8 = true
        · rw [if_pos hb3] at hf
          refine r_ic_t (t := 43) fe_102_11 (by decide) hb3 ?_
          refine r_iload_n fe_102_43 rfl ?_
          refine r_bipush (v := 8) fe_102_44 (by decide) ?_
          by_cases hb4 : am_ic .le l1 8 = true
          · rw [if_pos hb4] at hf
            refine r_ic_t (t := 53) fe_102_46 (by decide) hb4 ?_
            refine r_iload_n fe_102_53 rfl ?_
            refine r_iret fe_102_54 ⟨rfl, by decide⟩ ?_
            exact dfin (P := fun r T => Q (some (.int r)) (xst T G h)) hf hQ
          · rw [if_neg hb4] at hf
            refine r_ic_f (t := 53) fe_102_46 (by decide) (Bool.eq_false_iff.mpr hb4) ?_
            refine r_iconst (v := 0) fe_102_49 (by decide) ?_
            refine r_goto (t := 54) fe_102_50 (by decide) ?_
            refine r_iret fe_102_54 ⟨rfl, by decide⟩ ?_
            exact dfin (P := fun r T => Q (some (.int r)) (xst T G h)) hf hQ
        · rw [if_neg hb3] at hf
          refine r_ic_f (t := 43) fe_102_11 (by decide) (Bool.eq_false_iff.mpr hb3) ?_
          refine r_iload_n fe_102_14 rfl ?_
          refine r_bipush (v := 10) fe_102_15 (by decide) ?_
          refine r_irem (v := (l2 - l2 / 10 * 10)) fe_102_17 (by decide) rfl ?_
          refine r_istore_n fe_102_18 (Nat.le_of_ble_eq_true rfl) rfl ?_
          refine r_iload_n fe_102_19 rfl ?_
          refine r_iconst (v := 1) fe_102_20 (by decide) ?_
          by_cases hb5 : am_ic .lt (l2 - l2 / 10 * 10) 1 = true
          · rw [if_pos hb5] at hf
            refine r_ic_t (t := 30) fe_102_21 (by decide) hb5 ?_
            refine r_iconst (v := 0) fe_102_30 (by decide) ?_
            refine r_iret fe_102_31 ⟨rfl, by decide⟩ ?_
            exact dfin (P := fun r T => Q (some (.int r)) (xst T G h)) hf hQ
          · rw [if_neg hb5] at hf
            refine r_ic_f (t := 30) fe_102_21 (by decide) (Bool.eq_false_iff.mpr hb5) ?_
            refine r_iload_n fe_102_24 rfl ?_
            refine r_bipush (v := 6) fe_102_25 (by decide) ?_
            by_cases hb6 : am_ic .le (l2 - l2 / 10 * 10) 6 = true
            · rw [if_pos hb6] at hf
              refine r_ic_t (t := 32) fe_102_27 (by decide) hb6 ?_
              refine r_iload_n fe_102_32 rfl ?_
              refine r_bipush (v := 10) fe_102_33 (by decide) ?_
              refine r_idiv (v := (l2 / 10)) fe_102_35 (by decide) rfl ?_
              refine r_istore_n fe_102_36 (Nat.le_of_ble_eq_true rfl) rfl ?_
              refine r_iinc (v := (l1 + 1)) fe_102_37 rfl rfl rfl ?_
              refine r_goto (t := 4) fe_102_40 (by decide) ?_
              refine go_weak (L0 := [.float 0, .int (l1 + 1), .int (l2 / 10), .float 0]) (lwk_c (Or.inl rfl) (lwk_c (Or.inl rfl) (lwk_c (Or.inl rfl) (lwk_c (Or.inr rfl) (lwk_rf []))))) ?_
              exact ih.2 0 (l1 + 1) (l2 / 10) S hf
            · rw [if_neg hb6] at hf
              refine r_ic_f (t := 32) fe_102_27 (by decide) (Bool.eq_false_iff.mpr hb6) ?_
              refine r_iconst (v := 0) fe_102_30 (by decide) ?_
              refine r_iret fe_102_31 ⟨rfl, by decide⟩ ?_
              exact dfin (P := fun r T => Q (some (.int r)) (xst T G h)) hf hQ
theorem G102c {xs : Nat → Int32} {L9 d : Nat} {G : gS} {h : Nat → va_E} {n : Nat} {Q : Option Value → AmH → Prop} {r0 : Int32} {S0 S : xS} {l0 : Int32} (hf : G102 n l0 S = some (r0, S0)) (hQ : Q (some (.int r0)) (xst S0 G h)) : Ca (am_X xs L9) (d + 0) 102 [.int l0] (xst S G h) Q := (G102l hQ n).1 l0 0 0 S hf
def G101b0 (F : Nat → Int32 → Int32 → (xS × gS) → Option (Int32 × (xS × gS))) (n : Nat) (l1 : Int32) (l2 : Int32) (U : (xS × gS)) : Option (Int32 × (xS × gS)) := ((G75 n l1 U.1).bind (fun z1 => (if am_if .eq z1.1 = true then some ((-1), (z1.2, U.2)) else ((G102 n l2 z1.2).bind (fun z4 => (if am_if .eq z4.1 = true then some ((-1), (z4.2, U.2)) else (if am_ic .lt (z4.2.1 95 1) 12 = true then ((G83 106 95 n  (z4.2, U.2)).bind (fun z8 => ((G50 95 n l1 l2 z8.2.1).bind (fun z10 => some (z10.1, (z10.2, z8.2.2)))))) else some ((-1), (z4.2, U.2)))))))))
def G101f : Nat → Nat → Int32 → Int32 → (xS × gS) → Option (Int32 × (xS × gS))
  | 0, _, _, _, _ => none
  | n + 1, c, l1, l2, U => G101b0 (G101f n) n l1 l2 U
theorem G101e0 (n : Nat) (l1 : Int32) (l2 : Int32) (U : (xS × gS)) : G101f (n + 1) 0 l1 l2 U = G101b0 (G101f n) n l1 l2 U := rfl
def G101 (n : Nat) (l1 : Int32) (l2 : Int32) (U : (xS × gS)) : Option (Int32 × (xS × gS)) := G101f n 0 l1 l2 U
set_option maxRecDepth 20000 in
set_option maxHeartbeats 4000000 in
theorem G101l {xs : Nat → Int32} {L9 d : Nat} {h : Nat → va_E} {Q : Option Value → AmH → Prop} {r0 : Int32} {U0 : (xS × gS)} (hQ : Q (some (.int r0)) (xst U0.1 U0.2 h)) : ∀ n : Nat, (∀ (l1 : Int32) (l2 : Int32) (U : (xS × gS)), G101f n 0 l1 l2 U = some (r0, U0) → Go (am_X xs L9) (d + 2) 101 0 [.ref 64, .int l1, .int l2] [] (xst U.1 U.2 h) Q) := by
  intro n
  induction n with
  | zero => exact fun l1 l2 U hf => (by cases hf)
  | succ n ih =>
    intro l1 l2 U hf
    rw [G101e0] at hf
    unfold G101b0 at hf
    refine r_aload_n fe_101_0 rfl ?_
    refine r_iload_n fe_101_1 rfl ?_
    refine r_callV (as := [.int l1]) (r := []) fe_101_2 lm_11_124 md_75 rfl rfl (Nat.le_of_ble_eq_true rfl) (x_c xk_64 (by decide)) (x_lt xk_64 (by decide)) (Nat.le_of_ble_eq_true rfl) (Nat.le_of_ble_eq_true rfl) ?_
    cases hc2 : G75 n l1 U.1 with
    | none => rw [hc2] at hf; cases hf
    | some z1 =>
      rw [hc2, Option.bind_some] at hf
      refine G75c (r0 := z1.1) (S0 := z1.2)  (hf := hc2) ?_
      by_cases hb3 : am_if .eq z1.1 = true
      · rw [if_pos hb3] at hf
        refine r_if_t (t := 30) fe_101_5 (by decide) hb3 ?_
        refine r_iconst (v := -1) fe_101_30 (by decide) ?_
        refine r_iret fe_101_31 ⟨rfl, by decide⟩ ?_
        exact dfin (P := fun r T => Q (some (.int r)) (xst T.1 T.2 h)) hf hQ
      · rw [if_neg hb3] at hf
        refine r_if_f (t := 30) fe_101_5 (by decide) (Bool.eq_false_iff.mpr hb3) ?_
        refine r_iload_n fe_101_8 rfl ?_
        refine r_callS (as := [.int l2]) (r := []) fe_101_9 lm_11_198 md_102 rfl rfl (Nat.le_of_ble_eq_true rfl) (Nat.le_of_ble_eq_true rfl) (Nat.le_of_ble_eq_true rfl) ?_
        cases hc5 : G102 n l2 z1.2 with
        | none => rw [hc5] at hf; cases hf
        | some z4 =>
          rw [hc5, Option.bind_some] at hf
          refine G102c (r0 := z4.1) (S0 := z4.2)  (hf := hc5) ?_
          by_cases hb6 : am_if .eq z4.1 = true
          · rw [if_pos hb6] at hf
            refine r_if_t (t := 30) fe_101_12 (by decide) hb6 ?_
            refine r_iconst (v := -1) fe_101_30 (by decide) ?_
            refine r_iret fe_101_31 ⟨rfl, by decide⟩ ?_
            exact dfin (P := fun r T => Q (some (.int r)) (xst T.1 T.2 h)) hf hQ
          · rw [if_neg hb6] at hf
            refine r_if_f (t := 30) fe_101_12 (by decide) (Bool.eq_false_iff.mpr hb6) ?_
            refine r_aload_n fe_101_15 rfl ?_
            refine r_getf (v := .ref 88) fe_101_16 lf_11_43 (x_c xk_64 (by decide)) (x_lt xk_64 (by decide)) rfl ?_
            refine r_getf (v := .ref 95) fe_101_19 lf_11_94 (x_c xk_88 (by decide)) (x_lt xk_88 (by decide)) rfl ?_
            refine r_getf (v := .int (z4.2.1 95 1)) fe_101_22 lf_11_113 (x_c xk_95 (by decide)) (x_lt xk_95 (by decide)) rfl ?_
            refine r_bipush (v := 12) fe_101_25 (by decide) ?_
            by_cases hb7 : am_ic .lt (z4.2.1 95 1) 12 = true
            · rw [if_pos hb7] at hf
              refine r_ic_t (t := 32) fe_101_27 (by decide) hb7 ?_
              refine r_aload_n fe_101_32 rfl ?_
              refine r_getf (v := .ref 88) fe_101_33 lf_11_43 (x_c xk_64 (by decide)) (x_lt xk_64 (by decide)) rfl ?_
              refine r_getf (v := .ref 106) fe_101_36 lf_11_104 (x_c xk_88 (by decide)) (x_lt xk_88 (by decide)) rfl ?_
              refine r_aload_n fe_101_39 rfl ?_
              refine r_getf (v := .ref 88) fe_101_40 lf_11_43 (x_c xk_64 (by decide)) (x_lt xk_64 (by decide)) rfl ?_
              refine r_getf (v := .ref 95) fe_101_43 lf_11_94 (x_c xk_88 (by decide)) (x_lt xk_88 (by decide)) rfl ?_
              refine r_callV (as := [.ref 95]) (r := []) fe_101_46 lm_11_176 md_83 rfl rfl (Nat.le_of_ble_eq_true rfl) (x_c xk_106 (by decide)) (x_lt xk_106 (by decide)) (Nat.le_of_ble_eq_true rfl) (Nat.le_of_ble_eq_true rfl) ?_
              cases hc9 : G83 106 95 n  (z4.2, U.2) with
              | none => rw [hc9] at hf; cases hf
              | some z8 =>
                rw [hc9, Option.bind_some] at hf
                refine G83c (r0 := z8.1) (U0 := z8.2)  (hf := hc9) ?_
                refine r_aload_n fe_101_49 rfl ?_
                refine r_getf (v := .ref 88) fe_101_50 lf_11_43 (x_c xk_64 (by decide)) (x_lt xk_64 (by decide)) rfl ?_
                refine r_getf (v := .ref 95) fe_101_53 lf_11_94 (x_c xk_88 (by decide)) (x_lt xk_88 (by decide)) rfl ?_
                refine r_iload_n fe_101_56 rfl ?_
                refine r_iload_n fe_101_57 rfl ?_
                refine r_callV (as := [.int l1, .int l2]) (r := []) fe_101_58 lm_11_201 md_50 rfl rfl (Nat.le_of_ble_eq_true rfl) (x_c xk_95 (by decide)) (x_lt xk_95 (by decide)) (Nat.le_of_ble_eq_true rfl) (Nat.le_of_ble_eq_true rfl) ?_
                cases hc11 : G50 95 n l1 l2 z8.2.1 with
                | none => rw [hc11] at hf; cases hf
                | some z10 =>
                  rw [hc11, Option.bind_some] at hf
                  refine G50c (r0 := z10.1) (S0 := z10.2) (h0 := wS_95) (hf := hc11) ?_
                  refine r_iret fe_101_61 ⟨rfl, by decide⟩ ?_
                  exact dfin (P := fun r T => Q (some (.int r)) (xst T.1 T.2 h)) hf hQ
            · rw [if_neg hb7] at hf
              refine r_ic_f (t := 32) fe_101_27 (by decide) (Bool.eq_false_iff.mpr hb7) ?_
              refine r_iconst (v := -1) fe_101_30 (by decide) ?_
              refine r_iret fe_101_31 ⟨rfl, by decide⟩ ?_
              exact dfin (P := fun r T => Q (some (.int r)) (xst T.1 T.2 h)) hf hQ
theorem G101c {xs : Nat → Int32} {L9 d : Nat} {h : Nat → va_E} {n : Nat} {Q : Option Value → AmH → Prop} {r0 : Int32} {U0 U : (xS × gS)} {l1 : Int32} {l2 : Int32} (hf : G101 n l1 l2 U = some (r0, U0)) (hQ : Q (some (.int r0)) (xst U0.1 U0.2 h)) : Ca (am_X xs L9) (d + 2) 101 [.ref 64, .int l1, .int l2] (xst U.1 U.2 h) Q := (G101l hQ n) l1 l2 U hf
def G103b0 (F : Nat → Int32 → (xS × gS) → Option (Int32 × (xS × gS))) (n : Nat) (l1 : Int32) (U : (xS × gS)) : Option (Int32 × (xS × gS)) := ((G80 n l1 U.1).bind (fun z1 => (if am_if .eq z1.1 = true then some ((-1), (z1.2, U.2)) else (if ¬ (l1 < 0 ∨ 13 ≤ (l1).toNatClampNeg) then (if am_if .lt (z1.2.2.1 96 (Int32.toNatClampNeg l1)) = true then some ((-1), (z1.2, U.2)) else (if ¬ (l1 < 0 ∨ 13 ≤ (l1).toNatClampNeg) then (if am_ic .lt (z1.2.2.1 98 (Int32.toNatClampNeg l1)) 2 = true then some ((-1), (z1.2, U.2)) else (if am_ic .lt (z1.2.1 95 1) 12 = true then ((G83 106 95 n  (z1.2, U.2)).bind (fun z9 => (if ¬ (l1 < 0 ∨ 13 ≤ (l1).toNatClampNeg) then (if ¬ (l1 < 0 ∨ 13 ≤ (l1).toNatClampNeg) then (if ¬ (l1 < 0 ∨ 13 ≤ (l1).toNatClampNeg) then (if ¬ (l1 < 0 ∨ 13 ≤ (l1).toNatClampNeg) then (if ¬ (((z9.2.1.2.1 98 (Int32.toNatClampNeg l1)) - ((z9.2.1.2.1 98 (Int32.toNatClampNeg l1)) / 2)) < 0 ∨ 9 ≤ (((z9.2.1.2.1 98 (Int32.toNatClampNeg l1)) - ((z9.2.1.2.1 98 (Int32.toNatClampNeg l1)) / 2))).toNatClampNeg) then (if (am_tens.getD (Int32.toNatClampNeg ((z9.2.1.2.1 98 (Int32.toNatClampNeg l1)) - ((z9.2.1.2.1 98 (Int32.toNatClampNeg l1)) / 2))) 0) = 0 then none else ((G50 95 n (z9.2.1.2.1 96 (Int32.toNatClampNeg l1)) ((z9.2.1.2.1 97 (Int32.toNatClampNeg l1)) - (z9.2.1.2.1 97 (Int32.toNatClampNeg l1)) / (am_tens.getD (Int32.toNatClampNeg ((z9.2.1.2.1 98 (Int32.toNatClampNeg l1)) - ((z9.2.1.2.1 98 (Int32.toNatClampNeg l1)) / 2))) 0) * (am_tens.getD (Int32.toNatClampNeg ((z9.2.1.2.1 98 (Int32.toNatClampNeg l1)) - ((z9.2.1.2.1 98 (Int32.toNatClampNeg l1)) / 2))) 0)) z9.2.1).bind (fun z17 => (if am_if .ge z17.1 = true then (if ¬ (l1 < 0 ∨ 13 ≤ (l1).toNatClampNeg) then (if ¬ (z17.1 < 0 ∨ 13 ≤ (z17.1).toNatClampNeg) then ((some (x_sA z17.2 100 (Int32.toNatClampNeg z17.1) (z17.2.2.1 100 (Int32.toNatClampNeg l1)))).bind (fun S22 => (if ¬ (((z9.2.1.2.1 98 (Int32.toNatClampNeg l1)) - ((z9.2.1.2.1 98 (Int32.toNatClampNeg l1)) / 2)) < 0 ∨ 9 ≤ (((z9.2.1.2.1 98 (Int32.toNatClampNeg l1)) - ((z9.2.1.2.1 98 (Int32.toNatClampNeg l1)) / 2))).toNatClampNeg) then (if (am_tens.getD (Int32.toNatClampNeg ((z9.2.1.2.1 98 (Int32.toNatClampNeg l1)) - ((z9.2.1.2.1 98 (Int32.toNatClampNeg l1)) / 2))) 0) = 0 then none else ((G51 95 n l1 ((z9.2.1.2.1 97 (Int32.toNatClampNeg l1)) / (am_tens.getD (Int32.toNatClampNeg ((z9.2.1.2.1 98 (Int32.toNatClampNeg l1)) - ((z9.2.1.2.1 98 (Int32.toNatClampNeg l1)) / 2))) 0)) S22).bind (fun z26 => some (z17.1, (z26.2, z9.2.2))))) else none))) else none) else none) else some ((-1), (z17.2, z9.2.2)))))) else none) else none) else none) else none) else none))) else some ((-1), (z1.2, U.2)))) else none)) else none))))
def G103f : Nat → Nat → Int32 → (xS × gS) → Option (Int32 × (xS × gS))
  | 0, _, _, _ => none
  | n + 1, c, l1, U => G103b0 (G103f n) n l1 U
theorem G103e0 (n : Nat) (l1 : Int32) (U : (xS × gS)) : G103f (n + 1) 0 l1 U = G103b0 (G103f n) n l1 U := rfl
def G103 (n : Nat) (l1 : Int32) (U : (xS × gS)) : Option (Int32 × (xS × gS)) := G103f n 0 l1 U
set_option maxRecDepth 20000 in
set_option maxHeartbeats 4000000 in
theorem G103l {xs : Nat → Int32} {L9 d : Nat} {h : Nat → va_E} {Q : Option Value → AmH → Prop} {r0 : Int32} {U0 : (xS × gS)} (hQ : Q (some (.int r0)) (xst U0.1 U0.2 h)) : ∀ n : Nat, (∀ (l1 : Int32) (U : (xS × gS)), G103f n 0 l1 U = some (r0, U0) → Go (am_X xs L9) (d + 2) 103 0 [.ref 64, .int l1, .float 0, .float 0, .float 0, .float 0] [] (xst U.1 U.2 h) Q) := by
  intro n
  induction n with
  | zero => exact fun l1 U hf => (by cases hf)
  | succ n ih =>
    intro l1 U hf
    rw [G103e0] at hf
    unfold G103b0 at hf
    refine r_aload_n fe_103_0 rfl ?_
    refine r_getf (v := .ref 88) fe_103_1 lf_11_43 (x_c xk_64 (by decide)) (x_lt xk_64 (by decide)) rfl ?_
    refine r_getf (v := .ref 95) fe_103_4 lf_11_94 (x_c xk_88 (by decide)) (x_lt xk_88 (by decide)) rfl ?_
    refine r_astore_n fe_103_7 (Nat.le_of_ble_eq_true rfl) rfl ?_
    refine r_aload_n fe_103_8 rfl ?_
    refine r_iload_n fe_103_9 rfl ?_
    refine r_callV (as := [.int l1]) (r := []) fe_103_10 lm_11_148 md_80 rfl rfl (Nat.le_of_ble_eq_true rfl) (x_c xk_64 (by decide)) (x_lt xk_64 (by decide)) (Nat.le_of_ble_eq_true rfl) (Nat.le_of_ble_eq_true rfl) ?_
    cases hc2 : G80 n l1 U.1 with
    | none => rw [hc2] at hf; cases hf
    | some z1 =>
      rw [hc2, Option.bind_some] at hf
      refine G80c (r0 := z1.1) (S0 := z1.2)  (hf := hc2) ?_
      by_cases hb3 : am_if .eq z1.1 = true
      · rw [if_pos hb3] at hf
        refine r_if_t (t := 44) fe_103_13 (by decide) hb3 ?_
        refine r_iconst (v := -1) fe_103_44 (by decide) ?_
        refine r_iret fe_103_45 ⟨rfl, by decide⟩ ?_
        exact dfin (P := fun r T => Q (some (.int r)) (xst T.1 T.2 h)) hf hQ
      · rw [if_neg hb3] at hf
        refine r_if_f (t := 44) fe_103_13 (by decide) (Bool.eq_false_iff.mpr hb3) ?_
        refine r_aload_n fe_103_16 rfl ?_
        refine r_getf (v := .ref 96) fe_103_17 lf_11_151 (x_c xk_95 (by decide)) (x_lt xk_95 (by decide)) rfl ?_
        refine r_iload_n fe_103_20 rfl ?_
        by_cases hg4 : ¬ (l1 < 0 ∨ 13 ≤ (l1).toNatClampNeg)
        rotate_left
        · rw [if_neg hg4] at hf; cases hf
        rw [if_pos hg4] at hf
        refine r_iald (j := (Int32.toNatClampNeg l1)) (v := z1.2.2.1 96 (Int32.toNatClampNeg l1)) fe_103_21 (x_c xk_96 (by decide)) (x_lt xk_96 (by decide)) (fun z => hg4 (Or.inl z)) rfl (fun z => hg4 (Or.inr z)) rfl ?_
        by_cases hb5 : am_if .lt (z1.2.2.1 96 (Int32.toNatClampNeg l1)) = true
        · rw [if_pos hb5] at hf
          refine r_if_t (t := 44) fe_103_22 (by decide) hb5 ?_
          refine r_iconst (v := -1) fe_103_44 (by decide) ?_
          refine r_iret fe_103_45 ⟨rfl, by decide⟩ ?_
          exact dfin (P := fun r T => Q (some (.int r)) (xst T.1 T.2 h)) hf hQ
        · rw [if_neg hb5] at hf
          refine r_if_f (t := 44) fe_103_22 (by decide) (Bool.eq_false_iff.mpr hb5) ?_
          refine r_aload_n fe_103_25 rfl ?_
          refine r_getf (v := .ref 98) fe_103_26 lf_11_205 (x_c xk_95 (by decide)) (x_lt xk_95 (by decide)) rfl ?_
          refine r_iload_n fe_103_29 rfl ?_
          by_cases hg6 : ¬ (l1 < 0 ∨ 13 ≤ (l1).toNatClampNeg)
          rotate_left
          · rw [if_neg hg6] at hf; cases hf
          rw [if_pos hg6] at hf
          refine r_iald (j := (Int32.toNatClampNeg l1)) (v := z1.2.2.1 98 (Int32.toNatClampNeg l1)) fe_103_30 (x_c xk_98 (by decide)) (x_lt xk_98 (by decide)) (fun z => hg6 (Or.inl z)) rfl (fun z => hg6 (Or.inr z)) rfl ?_
          refine r_iconst (v := 2) fe_103_31 (by decide) ?_
          by_cases hb7 : am_ic .lt (z1.2.2.1 98 (Int32.toNatClampNeg l1)) 2 = true
          · rw [if_pos hb7] at hf
            refine r_ic_t (t := 44) fe_103_32 (by decide) hb7 ?_
            refine r_iconst (v := -1) fe_103_44 (by decide) ?_
            refine r_iret fe_103_45 ⟨rfl, by decide⟩ ?_
            exact dfin (P := fun r T => Q (some (.int r)) (xst T.1 T.2 h)) hf hQ
          · rw [if_neg hb7] at hf
            refine r_ic_f (t := 44) fe_103_32 (by decide) (Bool.eq_false_iff.mpr hb7) ?_
            refine r_aload_n fe_103_35 rfl ?_
            refine r_getf (v := .int (z1.2.1 95 1)) fe_103_36 lf_11_113 (x_c xk_95 (by decide)) (x_lt xk_95 (by decide)) rfl ?_
            refine r_bipush (v := 12) fe_103_39 (by decide) ?_
            by_cases hb8 : am_ic .lt (z1.2.1 95 1) 12 = true
            · rw [if_pos hb8] at hf
              refine r_ic_t (t := 46) fe_103_41 (by decide) hb8 ?_
              refine r_aload_n fe_103_46 rfl ?_
              refine r_getf (v := .ref 88) fe_103_47 lf_11_43 (x_c xk_64 (by decide)) (x_lt xk_64 (by decide)) rfl ?_
              refine r_getf (v := .ref 106) fe_103_50 lf_11_104 (x_c xk_88 (by decide)) (x_lt xk_88 (by decide)) rfl ?_
              refine r_aload_n fe_103_53 rfl ?_
              refine r_callV (as := [.ref 95]) (r := []) fe_103_54 lm_11_176 md_83 rfl rfl (Nat.le_of_ble_eq_true rfl) (x_c xk_106 (by decide)) (x_lt xk_106 (by decide)) (Nat.le_of_ble_eq_true rfl) (Nat.le_of_ble_eq_true rfl) ?_
              cases hc10 : G83 106 95 n  (z1.2, U.2) with
              | none => rw [hc10] at hf; cases hf
              | some z9 =>
                rw [hc10, Option.bind_some] at hf
                refine G83c (r0 := z9.1) (U0 := z9.2)  (hf := hc10) ?_
                refine r_aload_n fe_103_57 rfl ?_
                refine r_getf (v := .ref 98) fe_103_58 lf_11_205 (x_c xk_95 (by decide)) (x_lt xk_95 (by decide)) rfl ?_
                refine r_iload_n fe_103_61 rfl ?_
                by_cases hg11 : ¬ (l1 < 0 ∨ 13 ≤ (l1).toNatClampNeg)
                rotate_left
                · rw [if_neg hg11] at hf; cases hf
                rw [if_pos hg11] at hf
                refine r_iald (j := (Int32.toNatClampNeg l1)) (v := z9.2.1.2.1 98 (Int32.toNatClampNeg l1)) fe_103_62 (x_c xk_98 (by decide)) (x_lt xk_98 (by decide)) (fun z => hg11 (Or.inl z)) rfl (fun z => hg11 (Or.inr z)) rfl ?_
                refine r_aload_n fe_103_63 rfl ?_
                refine r_getf (v := .ref 98) fe_103_64 lf_11_205 (x_c xk_95 (by decide)) (x_lt xk_95 (by decide)) rfl ?_
                refine r_iload_n fe_103_67 rfl ?_
                by_cases hg12 : ¬ (l1 < 0 ∨ 13 ≤ (l1).toNatClampNeg)
                rotate_left
                · rw [if_neg hg12] at hf; cases hf
                rw [if_pos hg12] at hf
                refine r_iald (j := (Int32.toNatClampNeg l1)) (v := z9.2.1.2.1 98 (Int32.toNatClampNeg l1)) fe_103_68 (x_c xk_98 (by decide)) (x_lt xk_98 (by decide)) (fun z => hg12 (Or.inl z)) rfl (fun z => hg12 (Or.inr z)) rfl ?_
                refine r_iconst (v := 2) fe_103_69 (by decide) ?_
                refine r_idiv (v := ((z9.2.1.2.1 98 (Int32.toNatClampNeg l1)) / 2)) fe_103_70 (by decide) rfl ?_
                refine r_isub (v := ((z9.2.1.2.1 98 (Int32.toNatClampNeg l1)) - ((z9.2.1.2.1 98 (Int32.toNatClampNeg l1)) / 2))) fe_103_71 rfl ?_
                refine r_istore_n fe_103_72 (Nat.le_of_ble_eq_true rfl) rfl ?_
                refine r_aload_n fe_103_73 rfl ?_
                refine r_getf (v := .ref 97) fe_103_74 lf_11_154 (x_c xk_95 (by decide)) (x_lt xk_95 (by decide)) rfl ?_
                refine r_iload_n fe_103_77 rfl ?_
                by_cases hg13 : ¬ (l1 < 0 ∨ 13 ≤ (l1).toNatClampNeg)
                rotate_left
                · rw [if_neg hg13] at hf; cases hf
                rw [if_pos hg13] at hf
                refine r_iald (j := (Int32.toNatClampNeg l1)) (v := z9.2.1.2.1 97 (Int32.toNatClampNeg l1)) fe_103_78 (x_c xk_97 (by decide)) (x_lt xk_97 (by decide)) (fun z => hg13 (Or.inl z)) rfl (fun z => hg13 (Or.inr z)) rfl ?_
                refine r_istore fe_103_79 (Nat.le_of_ble_eq_true rfl) rfl ?_
                refine r_aload_n fe_103_81 rfl ?_
                refine r_aload_n fe_103_82 rfl ?_
                refine r_getf (v := .ref 96) fe_103_83 lf_11_151 (x_c xk_95 (by decide)) (x_lt xk_95 (by decide)) rfl ?_
                refine r_iload_n fe_103_86 rfl ?_
                by_cases hg14 : ¬ (l1 < 0 ∨ 13 ≤ (l1).toNatClampNeg)
                rotate_left
                · rw [if_neg hg14] at hf; cases hf
                rw [if_pos hg14] at hf
                refine r_iald (j := (Int32.toNatClampNeg l1)) (v := z9.2.1.2.1 96 (Int32.toNatClampNeg l1)) fe_103_87 (x_c xk_96 (by decide)) (x_lt xk_96 (by decide)) (fun z => hg14 (Or.inl z)) rfl (fun z => hg14 (Or.inr z)) rfl ?_
                refine r_iload fe_103_88 rfl ?_
                refine r_gets (v := .ref 1) fe_103_90 (by decide +kernel) ?_
                refine r_iload_n fe_103_93 rfl ?_
                by_cases hg15 : ¬ (((z9.2.1.2.1 98 (Int32.toNatClampNeg l1)) - ((z9.2.1.2.1 98 (Int32.toNatClampNeg l1)) / 2)) < 0 ∨ 9 ≤ (((z9.2.1.2.1 98 (Int32.toNatClampNeg l1)) - ((z9.2.1.2.1 98 (Int32.toNatClampNeg l1)) / 2))).toNatClampNeg)
                rotate_left
                · rw [if_neg hg15] at hf; cases hf
                rw [if_pos hg15] at hf
                refine r_iald (j := (Int32.toNatClampNeg ((z9.2.1.2.1 98 (Int32.toNatClampNeg l1)) - ((z9.2.1.2.1 98 (Int32.toNatClampNeg l1)) / 2)))) (v := am_tens.getD (Int32.toNatClampNeg ((z9.2.1.2.1 98 (Int32.toNatClampNeg l1)) - ((z9.2.1.2.1 98 (Int32.toNatClampNeg l1)) / 2))) 0) fe_103_94 x_c_1 x_lt1 (fun z => hg15 (Or.inl z)) rfl (fun z => hg15 (Or.inr z)) rfl ?_
                by_cases hz16 : (am_tens.getD (Int32.toNatClampNeg ((z9.2.1.2.1 98 (Int32.toNatClampNeg l1)) - ((z9.2.1.2.1 98 (Int32.toNatClampNeg l1)) / 2))) 0) = 0
                · rw [if_pos hz16] at hf; cases hf
                rw [if_neg hz16] at hf
                refine r_irem (v := ((z9.2.1.2.1 97 (Int32.toNatClampNeg l1)) - (z9.2.1.2.1 97 (Int32.toNatClampNeg l1)) / (am_tens.getD (Int32.toNatClampNeg ((z9.2.1.2.1 98 (Int32.toNatClampNeg l1)) - ((z9.2.1.2.1 98 (Int32.toNatClampNeg l1)) / 2))) 0) * (am_tens.getD (Int32.toNatClampNeg ((z9.2.1.2.1 98 (Int32.toNatClampNeg l1)) - ((z9.2.1.2.1 98 (Int32.toNatClampNeg l1)) / 2))) 0))) fe_103_95 hz16 rfl ?_
                refine r_callV (as := [.int (z9.2.1.2.1 96 (Int32.toNatClampNeg l1)), .int ((z9.2.1.2.1 97 (Int32.toNatClampNeg l1)) - (z9.2.1.2.1 97 (Int32.toNatClampNeg l1)) / (am_tens.getD (Int32.toNatClampNeg ((z9.2.1.2.1 98 (Int32.toNatClampNeg l1)) - ((z9.2.1.2.1 98 (Int32.toNatClampNeg l1)) / 2))) 0) * (am_tens.getD (Int32.toNatClampNeg ((z9.2.1.2.1 98 (Int32.toNatClampNeg l1)) - ((z9.2.1.2.1 98 (Int32.toNatClampNeg l1)) / 2))) 0))]) (r := []) fe_103_96 lm_11_201 md_50 rfl rfl (Nat.le_of_ble_eq_true rfl) (x_c xk_95 (by decide)) (x_lt xk_95 (by decide)) (Nat.le_of_ble_eq_true rfl) (Nat.le_of_ble_eq_true rfl) ?_
                cases hc18 : G50 95 n (z9.2.1.2.1 96 (Int32.toNatClampNeg l1)) ((z9.2.1.2.1 97 (Int32.toNatClampNeg l1)) - (z9.2.1.2.1 97 (Int32.toNatClampNeg l1)) / (am_tens.getD (Int32.toNatClampNeg ((z9.2.1.2.1 98 (Int32.toNatClampNeg l1)) - ((z9.2.1.2.1 98 (Int32.toNatClampNeg l1)) / 2))) 0) * (am_tens.getD (Int32.toNatClampNeg ((z9.2.1.2.1 98 (Int32.toNatClampNeg l1)) - ((z9.2.1.2.1 98 (Int32.toNatClampNeg l1)) / 2))) 0)) z9.2.1 with
                | none => rw [hc18] at hf; cases hf
                | some z17 =>
                  rw [hc18, Option.bind_some] at hf
                  refine G50c (r0 := z17.1) (S0 := z17.2) (h0 := wS_95) (hf := hc18) ?_
                  refine r_istore fe_103_99 (Nat.le_of_ble_eq_true rfl) rfl ?_
                  refine r_iload fe_103_101 rfl ?_
                  by_cases hb19 : am_if .ge z17.1 = true
                  · rw [if_pos hb19] at hf
                    refine r_if_t (t := 108) fe_103_103 (by decide) hb19 ?_
                    refine r_aload_n fe_103_108 rfl ?_
                    refine r_getf (v := .ref 100) fe_103_109 lf_11_157 (x_c xk_95 (by decide)) (x_lt xk_95 (by decide)) rfl ?_
                    refine r_iload fe_103_112 rfl ?_
                    refine r_aload_n fe_103_114 rfl ?_
                    refine r_getf (v := .ref 100) fe_103_115 lf_11_157 (x_c xk_95 (by decide)) (x_lt xk_95 (by decide)) rfl ?_
                    refine r_iload_n fe_103_118 rfl ?_
                    by_cases hg20 : ¬ (l1 < 0 ∨ 13 ≤ (l1).toNatClampNeg)
                    rotate_left
                    · rw [if_neg hg20] at hf; cases hf
                    rw [if_pos hg20] at hf
                    refine r_iald (j := (Int32.toNatClampNeg l1)) (v := z17.2.2.1 100 (Int32.toNatClampNeg l1)) fe_103_119 (x_c xk_100 (by decide)) (x_lt xk_100 (by decide)) (fun z => hg20 (Or.inl z)) rfl (fun z => hg20 (Or.inr z)) rfl ?_
                    by_cases hg21 : ¬ (z17.1 < 0 ∨ 13 ≤ (z17.1).toNatClampNeg)
                    rotate_left
                    · rw [if_neg hg21] at hf; cases hf
                    rw [if_pos hg21] at hf
                    refine r_iast (j := (Int32.toNatClampNeg z17.1)) fe_103_120 (x_h xk_100 (by decide)) (x_lt xk_100 (by decide)) (by decide) (fun z => hg21 (Or.inl z)) rfl (fun z => hg21 (Or.inr z)) ?_
                    obtain ⟨S22, e23, hf⟩ := dbnd hf
                    refine go_heap (h2 := xst S22 z9.2.2 h) ((x_uA xk_100).trans (by rw [e23])) ?_
                    refine r_aload_n fe_103_121 rfl ?_
                    refine r_iload_n fe_103_122 rfl ?_
                    refine r_iload fe_103_123 rfl ?_
                    refine r_gets (v := .ref 1) fe_103_125 (by decide +kernel) ?_
                    refine r_iload_n fe_103_128 rfl ?_
                    by_cases hg24 : ¬ (((z9.2.1.2.1 98 (Int32.toNatClampNeg l1)) - ((z9.2.1.2.1 98 (Int32.toNatClampNeg l1)) / 2)) < 0 ∨ 9 ≤ (((z9.2.1.2.1 98 (Int32.toNatClampNeg l1)) - ((z9.2.1.2.1 98 (Int32.toNatClampNeg l1)) / 2))).toNatClampNeg)
                    rotate_left
                    · rw [if_neg hg24] at hf; cases hf
                    rw [if_pos hg24] at hf
                    refine r_iald (j := (Int32.toNatClampNeg ((z9.2.1.2.1 98 (Int32.toNatClampNeg l1)) - ((z9.2.1.2.1 98 (Int32.toNatClampNeg l1)) / 2)))) (v := am_tens.getD (Int32.toNatClampNeg ((z9.2.1.2.1 98 (Int32.toNatClampNeg l1)) - ((z9.2.1.2.1 98 (Int32.toNatClampNeg l1)) / 2))) 0) fe_103_129 x_c_1 x_lt1 (fun z => hg24 (Or.inl z)) rfl (fun z => hg24 (Or.inr z)) rfl ?_
                    by_cases hz25 : (am_tens.getD (Int32.toNatClampNeg ((z9.2.1.2.1 98 (Int32.toNatClampNeg l1)) - ((z9.2.1.2.1 98 (Int32.toNatClampNeg l1)) / 2))) 0) = 0
                    · rw [if_pos hz25] at hf; cases hf
                    rw [if_neg hz25] at hf
                    refine r_idiv (v := ((z9.2.1.2.1 97 (Int32.toNatClampNeg l1)) / (am_tens.getD (Int32.toNatClampNeg ((z9.2.1.2.1 98 (Int32.toNatClampNeg l1)) - ((z9.2.1.2.1 98 (Int32.toNatClampNeg l1)) / 2))) 0))) fe_103_130 hz25 rfl ?_
                    refine r_callV (as := [.int l1, .int ((z9.2.1.2.1 97 (Int32.toNatClampNeg l1)) / (am_tens.getD (Int32.toNatClampNeg ((z9.2.1.2.1 98 (Int32.toNatClampNeg l1)) - ((z9.2.1.2.1 98 (Int32.toNatClampNeg l1)) / 2))) 0))]) (r := []) fe_103_131 lm_11_211 md_51 rfl rfl (Nat.le_of_ble_eq_true rfl) (x_c xk_95 (by decide)) (x_lt xk_95 (by decide)) (Nat.le_of_ble_eq_true rfl) (Nat.le_of_ble_eq_true rfl) ?_
                    cases hc27 : G51 95 n l1 ((z9.2.1.2.1 97 (Int32.toNatClampNeg l1)) / (am_tens.getD (Int32.toNatClampNeg ((z9.2.1.2.1 98 (Int32.toNatClampNeg l1)) - ((z9.2.1.2.1 98 (Int32.toNatClampNeg l1)) / 2))) 0)) S22 with
                    | none => rw [hc27] at hf; cases hf
                    | some z26 =>
                      rw [hc27, Option.bind_some] at hf
                      refine G51c (r0 := z26.1) (S0 := z26.2) (h0 := wS_95) (hf := hc27) ?_
                      refine r_iload fe_103_134 rfl ?_
                      refine r_iret fe_103_136 ⟨rfl, by decide⟩ ?_
                      exact dfin (P := fun r T => Q (some (.int r)) (xst T.1 T.2 h)) hf hQ
                  · rw [if_neg hb19] at hf
                    refine r_if_f (t := 108) fe_103_103 (by decide) (Bool.eq_false_iff.mpr hb19) ?_
                    refine r_iconst (v := -1) fe_103_106 (by decide) ?_
                    refine r_iret fe_103_107 ⟨rfl, by decide⟩ ?_
                    exact dfin (P := fun r T => Q (some (.int r)) (xst T.1 T.2 h)) hf hQ
            · rw [if_neg hb8] at hf
              refine r_ic_f (t := 46) fe_103_41 (by decide) (Bool.eq_false_iff.mpr hb8) ?_
              refine r_iconst (v := -1) fe_103_44 (by decide) ?_
              refine r_iret fe_103_45 ⟨rfl, by decide⟩ ?_
              exact dfin (P := fun r T => Q (some (.int r)) (xst T.1 T.2 h)) hf hQ
theorem G103c {xs : Nat → Int32} {L9 d : Nat} {h : Nat → va_E} {n : Nat} {Q : Option Value → AmH → Prop} {r0 : Int32} {U0 U : (xS × gS)} {l1 : Int32} (hf : G103 n l1 U = some (r0, U0)) (hQ : Q (some (.int r0)) (xst U0.1 U0.2 h)) : Ca (am_X xs L9) (d + 2) 103 [.ref 64, .int l1] (xst U.1 U.2 h) Q := (G103l hQ n) l1 U hf
def G104b0 (F : Nat → Int32 → Int32 → (xS × gS) → Option (Int32 × (xS × gS))) (n : Nat) (l1 : Int32) (l2 : Int32) (U : (xS × gS)) : Option (Int32 × (xS × gS)) := (if am_if .eq l2 = true then ((G75 n l1 U.1).bind (fun z2 => (if am_if .eq z2.1 = true then some (0, (z2.2, U.2)) else ((G77 n l1 z2.2).bind (fun z5 => (if am_if .eq z5.1 = true then some (0, (z5.2, U.2)) else ((G77 n l1 z5.2).bind (fun z8 => (if am_ic .ne z8.1 2 = true then ((G83 106 95 n  (z8.2, U.2)).bind (fun z11 => (if ¬ (l1 < 0 ∨ 16 ≤ (l1).toNatClampNeg) then some (1, ((x_sI z11.2.1 95 2 ((z11.2.1.1 95 2) ^^^ (1 <<< ((z11.2.1.2.1 93 (Int32.toNatClampNeg l1)) &&& 31)))), z11.2.2)) else none))) else some (0, (z8.2, U.2))))))))))) else ((G75 n l1 U.1).bind (fun z14 => (if am_if .eq z14.1 = true then some (0, (z14.2, U.2)) else ((G77 n l1 z14.2).bind (fun z17 => (if am_if .eq z17.1 = true then some (0, (z17.2, U.2)) else ((G77 n l1 z17.2).bind (fun z20 => (if am_ic .ne z20.1 1 = true then ((G83 106 95 n  (z20.2, U.2)).bind (fun z23 => (if ¬ (l1 < 0 ∨ 16 ≤ (l1).toNatClampNeg) then some (1, ((x_sI z23.2.1 95 2 ((z23.2.1.1 95 2) ^^^ (1 <<< ((z23.2.1.2.1 93 (Int32.toNatClampNeg l1)) &&& 31)))), z23.2.2)) else none))) else some (0, (z20.2, U.2))))))))))))
def G104f : Nat → Nat → Int32 → Int32 → (xS × gS) → Option (Int32 × (xS × gS))
  | 0, _, _, _, _ => none
  | n + 1, c, l1, l2, U => G104b0 (G104f n) n l1 l2 U
theorem G104e0 (n : Nat) (l1 : Int32) (l2 : Int32) (U : (xS × gS)) : G104f (n + 1) 0 l1 l2 U = G104b0 (G104f n) n l1 l2 U := rfl
def G104 (n : Nat) (l1 : Int32) (l2 : Int32) (U : (xS × gS)) : Option (Int32 × (xS × gS)) := G104f n 0 l1 l2 U
set_option maxRecDepth 20000 in
set_option maxHeartbeats 4000000 in
theorem G104l {xs : Nat → Int32} {L9 d : Nat} {h : Nat → va_E} {Q : Option Value → AmH → Prop} {r0 : Int32} {U0 : (xS × gS)} (hQ : Q (some (.int r0)) (xst U0.1 U0.2 h)) : ∀ n : Nat, (∀ (l1 : Int32) (l2 : Int32) (U : (xS × gS)), G104f n 0 l1 l2 U = some (r0, U0) → Go (am_X xs L9) (d + 2) 104 0 [.ref 64, .int l1, .int l2, .float 0] [] (xst U.1 U.2 h) Q) := by
  intro n
  induction n with
  | zero => exact fun l1 l2 U hf => (by cases hf)
  | succ n ih =>
    intro l1 l2 U hf
    rw [G104e0] at hf
    unfold G104b0 at hf
    refine r_iload_n fe_104_0 rfl ?_
    by_cases hb1 : am_if .eq l2 = true
    · rw [if_pos hb1] at hf
      refine r_if_t (t := 8) fe_104_1 (by decide) hb1 ?_
      refine r_iconst (v := 2) fe_104_8 (by decide) ?_
      refine r_istore_n fe_104_9 (Nat.le_of_ble_eq_true rfl) rfl ?_
      refine r_aload_n fe_104_10 rfl ?_
      refine r_iload_n fe_104_11 rfl ?_
      refine r_callV (as := [.int l1]) (r := []) fe_104_12 lm_11_124 md_75 rfl rfl (Nat.le_of_ble_eq_true rfl) (x_c xk_64 (by decide)) (x_lt xk_64 (by decide)) (Nat.le_of_ble_eq_true rfl) (Nat.le_of_ble_eq_true rfl) ?_
      cases hc3 : G75 n l1 U.1 with
      | none => rw [hc3] at hf; cases hf
      | some z2 =>
        rw [hc3, Option.bind_some] at hf
        refine G75c (r0 := z2.1) (S0 := z2.2)  (hf := hc3) ?_
        by_cases hb4 : am_if .eq z2.1 = true
        · rw [if_pos hb4] at hf
          refine r_if_t (t := 35) fe_104_15 (by decide) hb4 ?_
          refine r_iconst (v := 0) fe_104_35 (by decide) ?_
          refine r_iret fe_104_36 ⟨rfl, by decide⟩ ?_
          exact dfin (P := fun r T => Q (some (.int r)) (xst T.1 T.2 h)) hf hQ
        · rw [if_neg hb4] at hf
          refine r_if_f (t := 35) fe_104_15 (by decide) (Bool.eq_false_iff.mpr hb4) ?_
          refine r_aload_n fe_104_18 rfl ?_
          refine r_iload_n fe_104_19 rfl ?_
          refine r_callV (as := [.int l1]) (r := []) fe_104_20 lm_11_139 md_77 rfl rfl (Nat.le_of_ble_eq_true rfl) (x_c xk_64 (by decide)) (x_lt xk_64 (by decide)) (Nat.le_of_ble_eq_true rfl) (Nat.le_of_ble_eq_true rfl) ?_
          cases hc6 : G77 n l1 z2.2 with
          | none => rw [hc6] at hf; cases hf
          | some z5 =>
            rw [hc6, Option.bind_some] at hf
            refine G77c (r0 := z5.1) (S0 := z5.2)  (hf := hc6) ?_
            by_cases hb7 : am_if .eq z5.1 = true
            · rw [if_pos hb7] at hf
              refine r_if_t (t := 35) fe_104_23 (by decide) hb7 ?_
              refine r_iconst (v := 0) fe_104_35 (by decide) ?_
              refine r_iret fe_104_36 ⟨rfl, by decide⟩ ?_
              exact dfin (P := fun r T => Q (some (.int r)) (xst T.1 T.2 h)) hf hQ
            · rw [if_neg hb7] at hf
              refine r_if_f (t := 35) fe_104_23 (by decide) (Bool.eq_false_iff.mpr hb7) ?_
              refine r_aload_n fe_104_26 rfl ?_
              refine r_iload_n fe_104_27 rfl ?_
              refine r_callV (as := [.int l1]) (r := []) fe_104_28 lm_11_139 md_77 rfl rfl (Nat.le_of_ble_eq_true rfl) (x_c xk_64 (by decide)) (x_lt xk_64 (by decide)) (Nat.le_of_ble_eq_true rfl) (Nat.le_of_ble_eq_true rfl) ?_
              cases hc9 : G77 n l1 z5.2 with
              | none => rw [hc9] at hf; cases hf
              | some z8 =>
                rw [hc9, Option.bind_some] at hf
                refine G77c (r0 := z8.1) (S0 := z8.2)  (hf := hc9) ?_
                refine r_iload_n fe_104_31 rfl ?_
                by_cases hb10 : am_ic .ne z8.1 2 = true
                · rw [if_pos hb10] at hf
                  refine r_ic_t (t := 37) fe_104_32 (by decide) hb10 ?_
                  refine r_aload_n fe_104_37 rfl ?_
                  refine r_getf (v := .ref 88) fe_104_38 lf_11_43 (x_c xk_64 (by decide)) (x_lt xk_64 (by decide)) rfl ?_
                  refine r_getf (v := .ref 106) fe_104_41 lf_11_104 (x_c xk_88 (by decide)) (x_lt xk_88 (by decide)) rfl ?_
                  refine r_aload_n fe_104_44 rfl ?_
                  refine r_getf (v := .ref 88) fe_104_45 lf_11_43 (x_c xk_64 (by decide)) (x_lt xk_64 (by decide)) rfl ?_
                  refine r_getf (v := .ref 95) fe_104_48 lf_11_94 (x_c xk_88 (by decide)) (x_lt xk_88 (by decide)) rfl ?_
                  refine r_callV (as := [.ref 95]) (r := []) fe_104_51 lm_11_176 md_83 rfl rfl (Nat.le_of_ble_eq_true rfl) (x_c xk_106 (by decide)) (x_lt xk_106 (by decide)) (Nat.le_of_ble_eq_true rfl) (Nat.le_of_ble_eq_true rfl) ?_
                  cases hc12 : G83 106 95 n  (z8.2, U.2) with
                  | none => rw [hc12] at hf; cases hf
                  | some z11 =>
                    rw [hc12, Option.bind_some] at hf
                    refine G83c (r0 := z11.1) (U0 := z11.2)  (hf := hc12) ?_
                    refine r_aload_n fe_104_54 rfl ?_
                    refine r_getf (v := .ref 88) fe_104_55 lf_11_43 (x_c xk_64 (by decide)) (x_lt xk_64 (by decide)) rfl ?_
                    refine r_getf (v := .ref 95) fe_104_58 lf_11_94 (x_c xk_88 (by decide)) (x_lt xk_88 (by decide)) rfl ?_
                    refine r_dup fe_104_61 rfl ?_
                    refine r_getf (v := .int (z11.2.1.1 95 2)) fe_104_62 lf_11_215 (x_c xk_95 (by decide)) (x_lt xk_95 (by decide)) rfl ?_
                    refine r_iconst (v := 1) fe_104_65 (by decide) ?_
                    refine r_aload_n fe_104_66 rfl ?_
                    refine r_getf (v := .ref 88) fe_104_67 lf_11_43 (x_c xk_64 (by decide)) (x_lt xk_64 (by decide)) rfl ?_
                    refine r_getf (v := .ref 89) fe_104_70 lf_11_83 (x_c xk_88 (by decide)) (x_lt xk_88 (by decide)) rfl ?_
                    refine r_getf (v := .ref 93) fe_104_73 lf_11_218 (x_c xk_89 (by decide)) (x_lt xk_89 (by decide)) rfl ?_
                    refine r_iload_n fe_104_76 rfl ?_
                    by_cases hg13 : ¬ (l1 < 0 ∨ 16 ≤ (l1).toNatClampNeg)
                    rotate_left
                    · rw [if_neg hg13] at hf; cases hf
                    rw [if_pos hg13] at hf
                    refine r_iald (j := (Int32.toNatClampNeg l1)) (v := z11.2.1.2.1 93 (Int32.toNatClampNeg l1)) fe_104_77 (x_c xk_93 (by decide)) (x_lt xk_93 (by decide)) (fun z => hg13 (Or.inl z)) rfl (fun z => hg13 (Or.inr z)) rfl ?_
                    refine r_ishl (v := (1 <<< ((z11.2.1.2.1 93 (Int32.toNatClampNeg l1)) &&& 31))) fe_104_78 rfl ?_
                    refine r_ixor (v := ((z11.2.1.1 95 2) ^^^ (1 <<< ((z11.2.1.2.1 93 (Int32.toNatClampNeg l1)) &&& 31)))) fe_104_79 rfl ?_
                    refine r_putf fe_104_80 lf_11_215 (x_h xk_95 (by decide)) (x_lt xk_95 (by decide)) (by decide) (Nat.le_of_ble_eq_true rfl) rfl rfl (Or.inl rfl) ?_
                    refine go_heap (x_uI (j := 2) (x := ((z11.2.1.1 95 2) ^^^ (1 <<< ((z11.2.1.2.1 93 (Int32.toNatClampNeg l1)) &&& 31)))) xk_95 (by decide)) ?_
                    refine r_iconst (v := 1) fe_104_83 (by decide) ?_
                    refine r_iret fe_104_84 ⟨rfl, by decide⟩ ?_
                    exact dfin (P := fun r T => Q (some (.int r)) (xst T.1 T.2 h)) hf hQ
                · rw [if_neg hb10] at hf
                  refine r_ic_f (t := 37) fe_104_32 (by decide) (Bool.eq_false_iff.mpr hb10) ?_
                  refine r_iconst (v := 0) fe_104_35 (by decide) ?_
                  refine r_iret fe_104_36 ⟨rfl, by decide⟩ ?_
                  exact dfin (P := fun r T => Q (some (.int r)) (xst T.1 T.2 h)) hf hQ
    · rw [if_neg hb1] at hf
      refine r_if_f (t := 8) fe_104_1 (by decide) (Bool.eq_false_iff.mpr hb1) ?_
      refine r_iconst (v := 1) fe_104_4 (by decide) ?_
      refine r_goto (t := 9) fe_104_5 (by decide) ?_
      refine r_istore_n fe_104_9 (Nat.le_of_ble_eq_true rfl) rfl ?_
      refine r_aload_n fe_104_10 rfl ?_
      refine r_iload_n fe_104_11 rfl ?_
      refine r_callV (as := [.int l1]) (r := []) fe_104_12 lm_11_124 md_75 rfl rfl (Nat.le_of_ble_eq_true rfl) (x_c xk_64 (by decide)) (x_lt xk_64 (by decide)) (Nat.le_of_ble_eq_true rfl) (Nat.le_of_ble_eq_true rfl) ?_
      cases hc15 : G75 n l1 U.1 with
      | none => rw [hc15] at hf; cases hf
      | some z14 =>
        rw [hc15, Option.bind_some] at hf
        refine G75c (r0 := z14.1) (S0 := z14.2)  (hf := hc15) ?_
        by_cases hb16 : am_if .eq z14.1 = true
        · rw [if_pos hb16] at hf
          refine r_if_t (t := 35) fe_104_15 (by decide) hb16 ?_
          refine r_iconst (v := 0) fe_104_35 (by decide) ?_
          refine r_iret fe_104_36 ⟨rfl, by decide⟩ ?_
          exact dfin (P := fun r T => Q (some (.int r)) (xst T.1 T.2 h)) hf hQ
        · rw [if_neg hb16] at hf
          refine r_if_f (t := 35) fe_104_15 (by decide) (Bool.eq_false_iff.mpr hb16) ?_
          refine r_aload_n fe_104_18 rfl ?_
          refine r_iload_n fe_104_19 rfl ?_
          refine r_callV (as := [.int l1]) (r := []) fe_104_20 lm_11_139 md_77 rfl rfl (Nat.le_of_ble_eq_true rfl) (x_c xk_64 (by decide)) (x_lt xk_64 (by decide)) (Nat.le_of_ble_eq_true rfl) (Nat.le_of_ble_eq_true rfl) ?_
          cases hc18 : G77 n l1 z14.2 with
          | none => rw [hc18] at hf; cases hf
          | some z17 =>
            rw [hc18, Option.bind_some] at hf
            refine G77c (r0 := z17.1) (S0 := z17.2)  (hf := hc18) ?_
            by_cases hb19 : am_if .eq z17.1 = true
            · rw [if_pos hb19] at hf
              refine r_if_t (t := 35) fe_104_23 (by decide) hb19 ?_
              refine r_iconst (v := 0) fe_104_35 (by decide) ?_
              refine r_iret fe_104_36 ⟨rfl, by decide⟩ ?_
              exact dfin (P := fun r T => Q (some (.int r)) (xst T.1 T.2 h)) hf hQ
            · rw [if_neg hb19] at hf
              refine r_if_f (t := 35) fe_104_23 (by decide) (Bool.eq_false_iff.mpr hb19) ?_
              refine r_aload_n fe_104_26 rfl ?_
              refine r_iload_n fe_104_27 rfl ?_
              refine r_callV (as := [.int l1]) (r := []) fe_104_28 lm_11_139 md_77 rfl rfl (Nat.le_of_ble_eq_true rfl) (x_c xk_64 (by decide)) (x_lt xk_64 (by decide)) (Nat.le_of_ble_eq_true rfl) (Nat.le_of_ble_eq_true rfl) ?_
              cases hc21 : G77 n l1 z17.2 with
              | none => rw [hc21] at hf; cases hf
              | some z20 =>
                rw [hc21, Option.bind_some] at hf
                refine G77c (r0 := z20.1) (S0 := z20.2)  (hf := hc21) ?_
                refine r_iload_n fe_104_31 rfl ?_
                by_cases hb22 : am_ic .ne z20.1 1 = true
                · rw [if_pos hb22] at hf
                  refine r_ic_t (t := 37) fe_104_32 (by decide) hb22 ?_
                  refine r_aload_n fe_104_37 rfl ?_
                  refine r_getf (v := .ref 88) fe_104_38 lf_11_43 (x_c xk_64 (by decide)) (x_lt xk_64 (by decide)) rfl ?_
                  refine r_getf (v := .ref 106) fe_104_41 lf_11_104 (x_c xk_88 (by decide)) (x_lt xk_88 (by decide)) rfl ?_
                  refine r_aload_n fe_104_44 rfl ?_
                  refine r_getf (v := .ref 88) fe_104_45 lf_11_43 (x_c xk_64 (by decide)) (x_lt xk_64 (by decide)) rfl ?_
                  refine r_getf (v := .ref 95) fe_104_48 lf_11_94 (x_c xk_88 (by decide)) (x_lt xk_88 (by decide)) rfl ?_
                  refine r_callV (as := [.ref 95]) (r := []) fe_104_51 lm_11_176 md_83 rfl rfl (Nat.le_of_ble_eq_true rfl) (x_c xk_106 (by decide)) (x_lt xk_106 (by decide)) (Nat.le_of_ble_eq_true rfl) (Nat.le_of_ble_eq_true rfl) ?_
                  cases hc24 : G83 106 95 n  (z20.2, U.2) with
                  | none => rw [hc24] at hf; cases hf
                  | some z23 =>
                    rw [hc24, Option.bind_some] at hf
                    refine G83c (r0 := z23.1) (U0 := z23.2)  (hf := hc24) ?_
                    refine r_aload_n fe_104_54 rfl ?_
                    refine r_getf (v := .ref 88) fe_104_55 lf_11_43 (x_c xk_64 (by decide)) (x_lt xk_64 (by decide)) rfl ?_
                    refine r_getf (v := .ref 95) fe_104_58 lf_11_94 (x_c xk_88 (by decide)) (x_lt xk_88 (by decide)) rfl ?_
                    refine r_dup fe_104_61 rfl ?_
                    refine r_getf (v := .int (z23.2.1.1 95 2)) fe_104_62 lf_11_215 (x_c xk_95 (by decide)) (x_lt xk_95 (by decide)) rfl ?_
                    refine r_iconst (v := 1) fe_104_65 (by decide) ?_
                    refine r_aload_n fe_104_66 rfl ?_
                    refine r_getf (v := .ref 88) fe_104_67 lf_11_43 (x_c xk_64 (by decide)) (x_lt xk_64 (by decide)) rfl ?_
                    refine r_getf (v := .ref 89) fe_104_70 lf_11_83 (x_c xk_88 (by decide)) (x_lt xk_88 (by decide)) rfl ?_
                    refine r_getf (v := .ref 93) fe_104_73 lf_11_218 (x_c xk_89 (by decide)) (x_lt xk_89 (by decide)) rfl ?_
                    refine r_iload_n fe_104_76 rfl ?_
                    by_cases hg25 : ¬ (l1 < 0 ∨ 16 ≤ (l1).toNatClampNeg)
                    rotate_left
                    · rw [if_neg hg25] at hf; cases hf
                    rw [if_pos hg25] at hf
                    refine r_iald (j := (Int32.toNatClampNeg l1)) (v := z23.2.1.2.1 93 (Int32.toNatClampNeg l1)) fe_104_77 (x_c xk_93 (by decide)) (x_lt xk_93 (by decide)) (fun z => hg25 (Or.inl z)) rfl (fun z => hg25 (Or.inr z)) rfl ?_
                    refine r_ishl (v := (1 <<< ((z23.2.1.2.1 93 (Int32.toNatClampNeg l1)) &&& 31))) fe_104_78 rfl ?_
                    refine r_ixor (v := ((z23.2.1.1 95 2) ^^^ (1 <<< ((z23.2.1.2.1 93 (Int32.toNatClampNeg l1)) &&& 31)))) fe_104_79 rfl ?_
                    refine r_putf fe_104_80 lf_11_215 (x_h xk_95 (by decide)) (x_lt xk_95 (by decide)) (by decide) (Nat.le_of_ble_eq_true rfl) rfl rfl (Or.inl rfl) ?_
                    refine go_heap (x_uI (j := 2) (x := ((z23.2.1.1 95 2) ^^^ (1 <<< ((z23.2.1.2.1 93 (Int32.toNatClampNeg l1)) &&& 31)))) xk_95 (by decide)) ?_
                    refine r_iconst (v := 1) fe_104_83 (by decide) ?_
                    refine r_iret fe_104_84 ⟨rfl, by decide⟩ ?_
                    exact dfin (P := fun r T => Q (some (.int r)) (xst T.1 T.2 h)) hf hQ
                · rw [if_neg hb22] at hf
                  refine r_ic_f (t := 37) fe_104_32 (by decide) (Bool.eq_false_iff.mpr hb22) ?_
                  refine r_iconst (v := 0) fe_104_35 (by decide) ?_
                  refine r_iret fe_104_36 ⟨rfl, by decide⟩ ?_
                  exact dfin (P := fun r T => Q (some (.int r)) (xst T.1 T.2 h)) hf hQ
theorem G104c {xs : Nat → Int32} {L9 d : Nat} {h : Nat → va_E} {n : Nat} {Q : Option Value → AmH → Prop} {r0 : Int32} {U0 U : (xS × gS)} {l1 : Int32} {l2 : Int32} (hf : G104 n l1 l2 U = some (r0, U0)) (hQ : Q (some (.int r0)) (xst U0.1 U0.2 h)) : Ca (am_X xs L9) (d + 2) 104 [.ref 64, .int l1, .int l2] (xst U.1 U.2 h) Q := (G104l hQ n) l1 l2 U hf
def G105b0 (F : Nat → Int32 → Int32 → (xS × gS) → Option (Int32 × (xS × gS))) (n : Nat) (l1 : Int32) (l2 : Int32) (U : (xS × gS)) : Option (Int32 × (xS × gS)) := ((G75 n l1 U.1).bind (fun z1 => (if am_if .eq z1.1 = true then some ((-1), (z1.2, U.2)) else (if am_if .lt l2 = true then some ((-1), (z1.2, U.2)) else (if am_ic .le l2 8 = true then (if ¬ (l1 < 0 ∨ 16 ≤ (l1).toNatClampNeg) then (if am_ic .eq (z1.2.2.1 104 (Int32.toNatClampNeg l1)) l2 = true then some ((-1), (z1.2, U.2)) else (if am_if .ne (z1.2.2.1 104 (Int32.toNatClampNeg l1)) = true then ((G83 106 95 n  (z1.2, U.2)).bind (fun z9 => (if ¬ (l1 < 0 ∨ 16 ≤ (l1).toNatClampNeg) then ((some (x_sA z9.2.1 104 (Int32.toNatClampNeg l1) l2)).bind (fun S12 => some ((z1.2.2.1 104 (Int32.toNatClampNeg l1)), (S12, z9.2.2)))) else none))) else ((G38 95 n  z1.2).bind (fun z14 => (if am_ic .lt z14.1 5 = true then ((G83 106 95 n  (z14.2, U.2)).bind (fun z17 => (if ¬ (l1 < 0 ∨ 16 ≤ (l1).toNatClampNeg) then ((some (x_sA z17.2.1 104 (Int32.toNatClampNeg l1) l2)).bind (fun S20 => some ((z1.2.2.1 104 (Int32.toNatClampNeg l1)), (S20, z17.2.2)))) else none))) else some ((-1), (z14.2, U.2))))))) else none) else some ((-1), (z1.2, U.2)))))))
def G105f : Nat → Nat → Int32 → Int32 → (xS × gS) → Option (Int32 × (xS × gS))
  | 0, _, _, _, _ => none
  | n + 1, c, l1, l2, U => G105b0 (G105f n) n l1 l2 U
theorem G105e0 (n : Nat) (l1 : Int32) (l2 : Int32) (U : (xS × gS)) : G105f (n + 1) 0 l1 l2 U = G105b0 (G105f n) n l1 l2 U := rfl
def G105 (n : Nat) (l1 : Int32) (l2 : Int32) (U : (xS × gS)) : Option (Int32 × (xS × gS)) := G105f n 0 l1 l2 U
set_option maxRecDepth 20000 in
set_option maxHeartbeats 4000000 in
theorem G105l {xs : Nat → Int32} {L9 d : Nat} {h : Nat → va_E} {Q : Option Value → AmH → Prop} {r0 : Int32} {U0 : (xS × gS)} (hQ : Q (some (.int r0)) (xst U0.1 U0.2 h)) : ∀ n : Nat, (∀ (l1 : Int32) (l2 : Int32) (U : (xS × gS)), G105f n 0 l1 l2 U = some (r0, U0) → Go (am_X xs L9) (d + 2) 105 0 [.ref 64, .int l1, .int l2, .float 0] [] (xst U.1 U.2 h) Q) := by
  intro n
  induction n with
  | zero => exact fun l1 l2 U hf => (by cases hf)
  | succ n ih =>
    intro l1 l2 U hf
    rw [G105e0] at hf
    unfold G105b0 at hf
    refine r_aload_n fe_105_0 rfl ?_
    refine r_iload_n fe_105_1 rfl ?_
    refine r_callV (as := [.int l1]) (r := []) fe_105_2 lm_11_124 md_75 rfl rfl (Nat.le_of_ble_eq_true rfl) (x_c xk_64 (by decide)) (x_lt xk_64 (by decide)) (Nat.le_of_ble_eq_true rfl) (Nat.le_of_ble_eq_true rfl) ?_
    cases hc2 : G75 n l1 U.1 with
    | none => rw [hc2] at hf; cases hf
    | some z1 =>
      rw [hc2, Option.bind_some] at hf
      refine G75c (r0 := z1.1) (S0 := z1.2)  (hf := hc2) ?_
      by_cases hb3 : am_if .eq z1.1 = true
      · rw [if_pos hb3] at hf
        refine r_if_t (t := 18) fe_105_5 (by decide) hb3 ?_
        refine r_iconst (v := -1) fe_105_18 (by decide) ?_
        refine r_iret fe_105_19 ⟨rfl, by decide⟩ ?_
        exact dfin (P := fun r T => Q (some (.int r)) (xst T.1 T.2 h)) hf hQ
      · rw [if_neg hb3] at hf
        refine r_if_f (t := 18) fe_105_5 (by decide) (Bool.eq_false_iff.mpr hb3) ?_
        refine r_iload_n fe_105_8 rfl ?_
        by_cases hb4 : am_if .lt l2 = true
        · rw [if_pos hb4] at hf
          refine r_if_t (t := 18) fe_105_9 (by decide) hb4 ?_
          refine r_iconst (v := -1) fe_105_18 (by decide) ?_
          refine r_iret fe_105_19 ⟨rfl, by decide⟩ ?_
          exact dfin (P := fun r T => Q (some (.int r)) (xst T.1 T.2 h)) hf hQ
        · rw [if_neg hb4] at hf
          refine r_if_f (t := 18) fe_105_9 (by decide) (Bool.eq_false_iff.mpr hb4) ?_
          refine r_iload_n fe_105_12 rfl ?_
          refine r_bipush (v := 8) fe_105_13 (by decide) ?_
          by_cases hb5 : am_ic .le l2 8 = true
          · rw [if_pos hb5] at hf
            refine r_ic_t (t := 20) fe_105_15 (by decide) hb5 ?_
            refine r_aload_n fe_105_20 rfl ?_
            refine r_getf (v := .ref 88) fe_105_21 lf_11_43 (x_c xk_64 (by decide)) (x_lt xk_64 (by decide)) rfl ?_
            refine r_getf (v := .ref 95) fe_105_24 lf_11_94 (x_c xk_88 (by decide)) (x_lt xk_88 (by decide)) rfl ?_
            refine r_getf (v := .ref 104) fe_105_27 lf_11_142 (x_c xk_95 (by decide)) (x_lt xk_95 (by decide)) rfl ?_
            refine r_iload_n fe_105_30 rfl ?_
            by_cases hg6 : ¬ (l1 < 0 ∨ 16 ≤ (l1).toNatClampNeg)
            rotate_left
            · rw [if_neg hg6] at hf; cases hf
            rw [if_pos hg6] at hf
            refine r_iald (j := (Int32.toNatClampNeg l1)) (v := z1.2.2.1 104 (Int32.toNatClampNeg l1)) fe_105_31 (x_c xk_104 (by decide)) (x_lt xk_104 (by decide)) (fun z => hg6 (Or.inl z)) rfl (fun z => hg6 (Or.inr z)) rfl ?_
            refine r_istore_n fe_105_32 (Nat.le_of_ble_eq_true rfl) rfl ?_
            refine r_iload_n fe_105_33 rfl ?_
            refine r_iload_n fe_105_34 rfl ?_
            by_cases hb7 : am_ic .eq (z1.2.2.1 104 (Int32.toNatClampNeg l1)) l2 = true
            · rw [if_pos hb7] at hf
              refine r_ic_t (t := 56) fe_105_35 (by decide) hb7 ?_
              refine r_iconst (v := -1) fe_105_56 (by decide) ?_
              refine r_iret fe_105_57 ⟨rfl, by decide⟩ ?_
              exact dfin (P := fun r T => Q (some (.int r)) (xst T.1 T.2 h)) hf hQ
            · rw [if_neg hb7] at hf
              refine r_ic_f (t := 56) fe_105_35 (by decide) (Bool.eq_false_iff.mpr hb7) ?_
              refine r_iload_n fe_105_38 rfl ?_
              by_cases hb8 : am_if .ne (z1.2.2.1 104 (Int32.toNatClampNeg l1)) = true
              · rw [if_pos hb8] at hf
                refine r_if_t (t := 58) fe_105_39 (by decide) hb8 ?_
                refine r_aload_n fe_105_58 rfl ?_
                refine r_getf (v := .ref 88) fe_105_59 lf_11_43 (x_c xk_64 (by decide)) (x_lt xk_64 (by decide)) rfl ?_
                refine r_getf (v := .ref 106) fe_105_62 lf_11_104 (x_c xk_88 (by decide)) (x_lt xk_88 (by decide)) rfl ?_
                refine r_aload_n fe_105_65 rfl ?_
                refine r_getf (v := .ref 88) fe_105_66 lf_11_43 (x_c xk_64 (by decide)) (x_lt xk_64 (by decide)) rfl ?_
                refine r_getf (v := .ref 95) fe_105_69 lf_11_94 (x_c xk_88 (by decide)) (x_lt xk_88 (by decide)) rfl ?_
                refine r_callV (as := [.ref 95]) (r := []) fe_105_72 lm_11_176 md_83 rfl rfl (Nat.le_of_ble_eq_true rfl) (x_c xk_106 (by decide)) (x_lt xk_106 (by decide)) (Nat.le_of_ble_eq_true rfl) (Nat.le_of_ble_eq_true rfl) ?_
                cases hc10 : G83 106 95 n  (z1.2, U.2) with
                | none => rw [hc10] at hf; cases hf
                | some z9 =>
                  rw [hc10, Option.bind_some] at hf
                  refine G83c (r0 := z9.1) (U0 := z9.2)  (hf := hc10) ?_
                  refine r_aload_n fe_105_75 rfl ?_
                  refine r_getf (v := .ref 88) fe_105_76 lf_11_43 (x_c xk_64 (by decide)) (x_lt xk_64 (by decide)) rfl ?_
                  refine r_getf (v := .ref 95) fe_105_79 lf_11_94 (x_c xk_88 (by decide)) (x_lt xk_88 (by decide)) rfl ?_
                  refine r_getf (v := .ref 104) fe_105_82 lf_11_142 (x_c xk_95 (by decide)) (x_lt xk_95 (by decide)) rfl ?_
                  refine r_iload_n fe_105_85 rfl ?_
                  refine r_iload_n fe_105_86 rfl ?_
                  by_cases hg11 : ¬ (l1 < 0 ∨ 16 ≤ (l1).toNatClampNeg)
                  rotate_left
                  · rw [if_neg hg11] at hf; cases hf
                  rw [if_pos hg11] at hf
                  refine r_iast (j := (Int32.toNatClampNeg l1)) fe_105_87 (x_h xk_104 (by decide)) (x_lt xk_104 (by decide)) (by decide) (fun z => hg11 (Or.inl z)) rfl (fun z => hg11 (Or.inr z)) ?_
                  obtain ⟨S12, e13, hf⟩ := dbnd hf
                  refine go_heap (h2 := xst S12 z9.2.2 h) ((x_uA xk_104).trans (by rw [e13])) ?_
                  refine r_iload_n fe_105_88 rfl ?_
                  refine r_iret fe_105_89 ⟨rfl, by decide⟩ ?_
                  exact dfin (P := fun r T => Q (some (.int r)) (xst T.1 T.2 h)) hf hQ
              · rw [if_neg hb8] at hf
                refine r_if_f (t := 58) fe_105_39 (by decide) (Bool.eq_false_iff.mpr hb8) ?_
                refine r_aload_n fe_105_42 rfl ?_
                refine r_getf (v := .ref 88) fe_105_43 lf_11_43 (x_c xk_64 (by decide)) (x_lt xk_64 (by decide)) rfl ?_
                refine r_getf (v := .ref 95) fe_105_46 lf_11_94 (x_c xk_88 (by decide)) (x_lt xk_88 (by decide)) rfl ?_
                refine r_callV (as := []) (r := []) fe_105_49 lm_11_221 md_38 rfl rfl (Nat.le_of_ble_eq_true rfl) (x_c xk_95 (by decide)) (x_lt xk_95 (by decide)) (Nat.le_of_ble_eq_true rfl) (Nat.le_of_ble_eq_true rfl) ?_
                cases hc15 : G38 95 n  z1.2 with
                | none => rw [hc15] at hf; cases hf
                | some z14 =>
                  rw [hc15, Option.bind_some] at hf
                  refine G38c (r0 := z14.1) (S0 := z14.2) (h0 := wS_95) (hf := hc15) ?_
                  refine r_iconst (v := 5) fe_105_52 (by decide) ?_
                  by_cases hb16 : am_ic .lt z14.1 5 = true
                  · rw [if_pos hb16] at hf
                    refine r_ic_t (t := 58) fe_105_53 (by decide) hb16 ?_
                    refine r_aload_n fe_105_58 rfl ?_
                    refine r_getf (v := .ref 88) fe_105_59 lf_11_43 (x_c xk_64 (by decide)) (x_lt xk_64 (by decide)) rfl ?_
                    refine r_getf (v := .ref 106) fe_105_62 lf_11_104 (x_c xk_88 (by decide)) (x_lt xk_88 (by decide)) rfl ?_
                    refine r_aload_n fe_105_65 rfl ?_
                    refine r_getf (v := .ref 88) fe_105_66 lf_11_43 (x_c xk_64 (by decide)) (x_lt xk_64 (by decide)) rfl ?_
                    refine r_getf (v := .ref 95) fe_105_69 lf_11_94 (x_c xk_88 (by decide)) (x_lt xk_88 (by decide)) rfl ?_
                    refine r_callV (as := [.ref 95]) (r := []) fe_105_72 lm_11_176 md_83 rfl rfl (Nat.le_of_ble_eq_true rfl) (x_c xk_106 (by decide)) (x_lt xk_106 (by decide)) (Nat.le_of_ble_eq_true rfl) (Nat.le_of_ble_eq_true rfl) ?_
                    cases hc18 : G83 106 95 n  (z14.2, U.2) with
                    | none => rw [hc18] at hf; cases hf
                    | some z17 =>
                      rw [hc18, Option.bind_some] at hf
                      refine G83c (r0 := z17.1) (U0 := z17.2)  (hf := hc18) ?_
                      refine r_aload_n fe_105_75 rfl ?_
                      refine r_getf (v := .ref 88) fe_105_76 lf_11_43 (x_c xk_64 (by decide)) (x_lt xk_64 (by decide)) rfl ?_
                      refine r_getf (v := .ref 95) fe_105_79 lf_11_94 (x_c xk_88 (by decide)) (x_lt xk_88 (by decide)) rfl ?_
                      refine r_getf (v := .ref 104) fe_105_82 lf_11_142 (x_c xk_95 (by decide)) (x_lt xk_95 (by decide)) rfl ?_
                      refine r_iload_n fe_105_85 rfl ?_
                      refine r_iload_n fe_105_86 rfl ?_
                      by_cases hg19 : ¬ (l1 < 0 ∨ 16 ≤ (l1).toNatClampNeg)
                      rotate_left
                      · rw [if_neg hg19] at hf; cases hf
                      rw [if_pos hg19] at hf
                      refine r_iast (j := (Int32.toNatClampNeg l1)) fe_105_87 (x_h xk_104 (by decide)) (x_lt xk_104 (by decide)) (by decide) (fun z => hg19 (Or.inl z)) rfl (fun z => hg19 (Or.inr z)) ?_
                      obtain ⟨S20, e21, hf⟩ := dbnd hf
                      refine go_heap (h2 := xst S20 z17.2.2 h) ((x_uA xk_104).trans (by rw [e21])) ?_
                      refine r_iload_n fe_105_88 rfl ?_
                      refine r_iret fe_105_89 ⟨rfl, by decide⟩ ?_
                      exact dfin (P := fun r T => Q (some (.int r)) (xst T.1 T.2 h)) hf hQ
                  · rw [if_neg hb16] at hf
                    refine r_ic_f (t := 58) fe_105_53 (by decide) (Bool.eq_false_iff.mpr hb16) ?_
                    refine r_iconst (v := -1) fe_105_56 (by decide) ?_
                    refine r_iret fe_105_57 ⟨rfl, by decide⟩ ?_
                    exact dfin (P := fun r T => Q (some (.int r)) (xst T.1 T.2 h)) hf hQ
          · rw [if_neg hb5] at hf
            refine r_ic_f (t := 20) fe_105_15 (by decide) (Bool.eq_false_iff.mpr hb5) ?_
            refine r_iconst (v := -1) fe_105_18 (by decide) ?_
            refine r_iret fe_105_19 ⟨rfl, by decide⟩ ?_
            exact dfin (P := fun r T => Q (some (.int r)) (xst T.1 T.2 h)) hf hQ
theorem G105c {xs : Nat → Int32} {L9 d : Nat} {h : Nat → va_E} {n : Nat} {Q : Option Value → AmH → Prop} {r0 : Int32} {U0 U : (xS × gS)} {l1 : Int32} {l2 : Int32} (hf : G105 n l1 l2 U = some (r0, U0)) (hQ : Q (some (.int r0)) (xst U0.1 U0.2 h)) : Ca (am_X xs L9) (d + 2) 105 [.ref 64, .int l1, .int l2] (xst U.1 U.2 h) Q := (G105l hQ n) l1 l2 U hf
def G107b0 (l0 : Nat) (l1 : Nat) (F : Nat → (xS × gS) → Option (Unit × (xS × gS))) (n : Nat)  (U : (xS × gS)) : Option (Unit × (xS × gS)) := (if pB U.2 l0 = true then (if am_if .ne (U.1.1 l0 2) = true then ((some (x_sI U.1 l0 2 ((U.1.1 l0 2) - 1))).bind (fun S3 => (if ¬ ((((S3.1 l0 1) + (S3.1 l0 2)) - ((S3.1 l0 1) + (S3.1 l0 2)) / 20 * 20) < 0 ∨ 20 ≤ ((((S3.1 l0 1) + (S3.1 l0 2)) - ((S3.1 l0 1) + (S3.1 l0 2)) / 20 * 20)).toNatClampNeg) then (Option.elim (S3.2.2.2 (l0 + 1) (Int32.toNatClampNeg (((S3.1 l0 1) + (S3.1 l0 2)) - ((S3.1 l0 1) + (S3.1 l0 2)) / 20 * 20))) (some ((), (S3, U.2))) (fun q7 => (if wB U.2 l1 = true then (if wB U.2 q7 = true then ((G54 l1 q7 n  S3).bind (fun z10 => some ((), (z10.2, U.2)))) else none) else none))) else none))) else some ((), (U.1, U.2))) else none)
def G107f (l0 : Nat) (l1 : Nat) : Nat → Nat → (xS × gS) → Option (Unit × (xS × gS))
  | 0, _, _ => none
  | n + 1, c, U => G107b0 l0 l1 (G107f l0 l1 n) n  U
theorem G107e0 (l0 : Nat) (l1 : Nat) (n : Nat)  (U : (xS × gS)) : G107f l0 l1 (n + 1) 0  U = G107b0 l0 l1 (G107f l0 l1 n) n  U := rfl
def G107 (l0 : Nat) (l1 : Nat) (n : Nat)  (U : (xS × gS)) : Option (Unit × (xS × gS)) := G107f l0 l1 n 0  U
set_option maxRecDepth 20000 in
set_option maxHeartbeats 4000000 in
theorem G107l {xs : Nat → Int32} {L9 d : Nat} {h : Nat → va_E} {l0 : Nat} {l1 : Nat} {Q : Option Value → AmH → Prop} {r0 : Unit} {U0 : (xS × gS)} (hQ : Q none (xst U0.1 U0.2 h)) : ∀ n : Nat, (∀ (U : (xS × gS)), G107f l0 l1 n 0  U = some (r0, U0) → Go (am_X xs L9) (d + 1) 107 0 [.ref l0, .ref l1, .float 0] [] (xst U.1 U.2 h) Q) := by
  intro n
  induction n with
  | zero => exact fun  U hf => (by cases hf)
  | succ n ih =>
    intro  U hf
    rw [G107e0] at hf
    unfold G107b0 at hf
    refine r_aload_n fe_107_0 rfl ?_
    by_cases hb1 : pB U.2 l0 = true
    rotate_left
    · rw [if_neg hb1] at hf; cases hf
    rw [if_pos hb1] at hf
    refine r_getf (v := .int (U.1.1 l0 2)) fe_107_1 lf_4_21 (x_c (pk0 hb1) (by decide)) (x_lt (pk0 hb1) (by decide)) rfl ?_
    by_cases hb2 : am_if .ne (U.1.1 l0 2) = true
    · rw [if_pos hb2] at hf
      refine r_if_t (t := 8) fe_107_4 (by decide) hb2 ?_
      refine r_aload_n fe_107_8 rfl ?_
      refine r_dup fe_107_9 rfl ?_
      refine r_getf (v := .int (U.1.1 l0 2)) fe_107_10 lf_4_21 (x_c (pk0 hb1) (by decide)) (x_lt (pk0 hb1) (by decide)) rfl ?_
      refine r_iconst (v := 1) fe_107_13 (by decide) ?_
      refine r_isub (v := ((U.1.1 l0 2) - 1)) fe_107_14 rfl ?_
      refine r_putf fe_107_15 lf_4_21 (x_h (pk0 hb1) (by decide)) (x_lt (pk0 hb1) (by decide)) (x_k6 (pk0 hb1) (by decide)) (Nat.le_of_ble_eq_true rfl) rfl rfl (Or.inl rfl) ?_
      obtain ⟨S3, e4, hf⟩ := dbnd hf
      refine go_heap (h2 := xst S3 U.2 h) ((x_uI (j := 2) (x := ((U.1.1 l0 2) - 1)) (pk0 hb1) (by decide)).trans (by rw [e4])) ?_
      refine r_aload_n fe_107_18 rfl ?_
      refine r_getf (v := .ref (l0 + 1)) fe_107_19 lf_4_11 (x_c (pk0 hb1) (by decide)) (x_lt (pk0 hb1) (by decide)) rfl ?_
      refine r_aload_n fe_107_22 rfl ?_
      refine r_getf (v := .int (S3.1 l0 1)) fe_107_23 lf_4_17 (x_c (pk0 hb1) (by decide)) (x_lt (pk0 hb1) (by decide)) rfl ?_
      refine r_aload_n fe_107_26 rfl ?_
      refine r_getf (v := .int (S3.1 l0 2)) fe_107_27 lf_4_21 (x_c (pk0 hb1) (by decide)) (x_lt (pk0 hb1) (by decide)) rfl ?_
      refine r_iadd (v := ((S3.1 l0 1) + (S3.1 l0 2))) fe_107_30 rfl ?_
      refine r_bipush (v := 20) fe_107_31 (by decide) ?_
      refine r_irem (v := (((S3.1 l0 1) + (S3.1 l0 2)) - ((S3.1 l0 1) + (S3.1 l0 2)) / 20 * 20)) fe_107_33 (by decide) rfl ?_
      by_cases hg5 : ¬ ((((S3.1 l0 1) + (S3.1 l0 2)) - ((S3.1 l0 1) + (S3.1 l0 2)) / 20 * 20) < 0 ∨ 20 ≤ ((((S3.1 l0 1) + (S3.1 l0 2)) - ((S3.1 l0 1) + (S3.1 l0 2)) / 20 * 20)).toNatClampNeg)
      rotate_left
      · rw [if_neg hg5] at hf; cases hf
      rw [if_pos hg5] at hf
      cases hm6 : S3.2.2.2 (l0 + 1) (Int32.toNatClampNeg (((S3.1 l0 1) + (S3.1 l0 2)) - ((S3.1 l0 1) + (S3.1 l0 2)) / 20 * 20)) with
      | none =>
        rw [hm6, Option.elim_none] at hf
        refine r_aald (j := (Int32.toNatClampNeg (((S3.1 l0 1) + (S3.1 l0 2)) - ((S3.1 l0 1) + (S3.1 l0 2)) / 20 * 20))) (v := .null) fe_107_34 (x_c (pk1 hb1) (by decide)) (x_lt (pk1 hb1) (by decide)) (x_k6 (pk1 hb1) (by decide)) (by decide) (fun z => hg5 (Or.inl z)) rfl (fun z => hg5 (Or.inr z)) (by rw [hm6]; rfl) ?_
        refine r_astore_nN fe_107_35 (Nat.le_of_ble_eq_true rfl) rfl ?_
        refine r_aload_nN fe_107_36 rfl ?_
        refine r_ifnullN (t := 45) fe_107_37 (by decide) ?_
        refine r_vret fe_107_45 ?_
        exact dfin (P := fun _ T => Q none (xst T.1 T.2 h)) hf hQ
      | some q7 =>
        rw [hm6, Option.elim_some] at hf
        refine r_aald (j := (Int32.toNatClampNeg (((S3.1 l0 1) + (S3.1 l0 2)) - ((S3.1 l0 1) + (S3.1 l0 2)) / 20 * 20))) (v := .ref q7) fe_107_34 (x_c (pk1 hb1) (by decide)) (x_lt (pk1 hb1) (by decide)) (x_k6 (pk1 hb1) (by decide)) (by decide) (fun z => hg5 (Or.inl z)) rfl (fun z => hg5 (Or.inr z)) (by rw [hm6]; rfl) ?_
        refine r_astore_n fe_107_35 (Nat.le_of_ble_eq_true rfl) rfl ?_
        refine r_aload_n fe_107_36 rfl ?_
        refine r_ifnull fe_107_37 ?_
        refine r_aload_n fe_107_40 rfl ?_
        refine r_aload_n fe_107_41 rfl ?_
        by_cases hb8 : wB U.2 l1 = true
        rotate_left
        · rw [if_neg hb8] at hf; cases hf
        rw [if_pos hb8] at hf
        by_cases hb9 : wB U.2 q7 = true
        rotate_left
        · rw [if_neg hb9] at hf; cases hf
        rw [if_pos hb9] at hf
        refine r_callV (as := [.ref q7]) (r := []) fe_107_42 lm_4_25 md_54 rfl rfl (Nat.le_of_ble_eq_true rfl) (x_c (wk0 hb8) (by decide)) (x_lt (wk0 hb8) (by decide)) (Nat.le_of_ble_eq_true rfl) (Nat.le_of_ble_eq_true rfl) ?_
        cases hc11 : G54 l1 q7 n  S3 with
        | none => rw [hc11] at hf; cases hf
        | some z10 =>
          rw [hc11, Option.bind_some] at hf
          refine G54c (r0 := z10.1) (S0 := z10.2) (h0 := hb8) (h1 := hb9) (hf := hc11) ?_
          refine r_vret fe_107_45 ?_
          exact dfin (P := fun _ T => Q none (xst T.1 T.2 h)) hf hQ
    · rw [if_neg hb2] at hf
      refine r_if_f (t := 8) fe_107_4 (by decide) (Bool.eq_false_iff.mpr hb2) ?_
      refine r_vret fe_107_7 ?_
      exact dfin (P := fun _ T => Q none (xst T.1 T.2 h)) hf hQ
theorem G107c {xs : Nat → Int32} {L9 d : Nat} {h : Nat → va_E} {l0 : Nat} {l1 : Nat} {n : Nat} {Q : Option Value → AmH → Prop} {r0 : Unit} {U0 U : (xS × gS)}  (hf : G107 l0 l1 n  U = some (r0, U0)) (hQ : Q none (xst U0.1 U0.2 h)) : Ca (am_X xs L9) (d + 1) 107 [.ref l0, .ref l1] (xst U.1 U.2 h) Q := (G107l hQ n)  U hf
def G106b0 (F : Nat → (xS × gS) → Option (Int32 × (xS × gS))) (n : Nat)  (U : (xS × gS)) : Option (Int32 × (xS × gS)) := (if am_if .ne (U.1.1 106 2) = true then ((G107 106 95 n  (U.1, U.2)).bind (fun z2 => some ((z2.2.1.1 106 2), (z2.2.1, z2.2.2)))) else some ((-2), (U.1, U.2)))
def G106f : Nat → Nat → (xS × gS) → Option (Int32 × (xS × gS))
  | 0, _, _ => none
  | n + 1, c, U => G106b0 (G106f n) n  U
theorem G106e0 (n : Nat)  (U : (xS × gS)) : G106f (n + 1) 0  U = G106b0 (G106f n) n  U := rfl
def G106 (n : Nat)  (U : (xS × gS)) : Option (Int32 × (xS × gS)) := G106f n 0  U
set_option maxRecDepth 20000 in
set_option maxHeartbeats 4000000 in
theorem G106l {xs : Nat → Int32} {L9 d : Nat} {h : Nat → va_E} {Q : Option Value → AmH → Prop} {r0 : Int32} {U0 : (xS × gS)} (hQ : Q (some (.int r0)) (xst U0.1 U0.2 h)) : ∀ n : Nat, (∀ (U : (xS × gS)), G106f n 0  U = some (r0, U0) → Go (am_X xs L9) (d + 2) 106 0 [.ref 64] [] (xst U.1 U.2 h) Q) := by
  intro n
  induction n with
  | zero => exact fun  U hf => (by cases hf)
  | succ n ih =>
    intro  U hf
    rw [G106e0] at hf
    unfold G106b0 at hf
    refine r_aload_n fe_106_0 rfl ?_
    refine r_getf (v := .ref 88) fe_106_1 lf_11_43 (x_c xk_64 (by decide)) (x_lt xk_64 (by decide)) rfl ?_
    refine r_getf (v := .ref 106) fe_106_4 lf_11_104 (x_c xk_88 (by decide)) (x_lt xk_88 (by decide)) rfl ?_
    refine r_getf (v := .int (U.1.1 106 2)) fe_106_7 lf_11_225 (x_c xk_106 (by decide)) (x_lt xk_106 (by decide)) rfl ?_
    by_cases hb1 : am_if .ne (U.1.1 106 2) = true
    · rw [if_pos hb1] at hf
      refine r_if_t (t := 16) fe_106_10 (by decide) hb1 ?_
      refine r_aload_n fe_106_16 rfl ?_
      refine r_getf (v := .ref 88) fe_106_17 lf_11_43 (x_c xk_64 (by decide)) (x_lt xk_64 (by decide)) rfl ?_
      refine r_getf (v := .ref 106) fe_106_20 lf_11_104 (x_c xk_88 (by decide)) (x_lt xk_88 (by decide)) rfl ?_
      refine r_aload_n fe_106_23 rfl ?_
      refine r_getf (v := .ref 88) fe_106_24 lf_11_43 (x_c xk_64 (by decide)) (x_lt xk_64 (by decide)) rfl ?_
      refine r_getf (v := .ref 95) fe_106_27 lf_11_94 (x_c xk_88 (by decide)) (x_lt xk_88 (by decide)) rfl ?_
      refine r_callV (as := [.ref 95]) (r := []) fe_106_30 lm_11_228 md_107 rfl rfl (Nat.le_of_ble_eq_true rfl) (x_c xk_106 (by decide)) (x_lt xk_106 (by decide)) (Nat.le_of_ble_eq_true rfl) (Nat.le_of_ble_eq_true rfl) ?_
      cases hc3 : G107 106 95 n  (U.1, U.2) with
      | none => rw [hc3] at hf; cases hf
      | some z2 =>
        rw [hc3, Option.bind_some] at hf
        refine G107c (r0 := z2.1) (U0 := z2.2)  (hf := hc3) ?_
        refine r_aload_n fe_106_33 rfl ?_
        refine r_getf (v := .ref 88) fe_106_34 lf_11_43 (x_c xk_64 (by decide)) (x_lt xk_64 (by decide)) rfl ?_
        refine r_getf (v := .ref 106) fe_106_37 lf_11_104 (x_c xk_88 (by decide)) (x_lt xk_88 (by decide)) rfl ?_
        refine r_getf (v := .int (z2.2.1.1 106 2)) fe_106_40 lf_11_225 (x_c xk_106 (by decide)) (x_lt xk_106 (by decide)) rfl ?_
        refine r_iret fe_106_43 ⟨rfl, by decide⟩ ?_
        exact dfin (P := fun r T => Q (some (.int r)) (xst T.1 T.2 h)) hf hQ
    · rw [if_neg hb1] at hf
      refine r_if_f (t := 16) fe_106_10 (by decide) (Bool.eq_false_iff.mpr hb1) ?_
      refine r_bipush (v := -2) fe_106_13 (by decide) ?_
      refine r_iret fe_106_15 ⟨rfl, by decide⟩ ?_
      exact dfin (P := fun r T => Q (some (.int r)) (xst T.1 T.2 h)) hf hQ
theorem G106c {xs : Nat → Int32} {L9 d : Nat} {h : Nat → va_E} {n : Nat} {Q : Option Value → AmH → Prop} {r0 : Int32} {U0 U : (xS × gS)}  (hf : G106 n  U = some (r0, U0)) (hQ : Q (some (.int r0)) (xst U0.1 U0.2 h)) : Ca (am_X xs L9) (d + 2) 106 [.ref 64] (xst U.1 U.2 h) Q := (G106l hQ n)  U hf
def G109b0 (l2 : Option Nat) (F : Nat → xS → Option (Unit × xS)) (n : Nat)  (S : xS) : Option (Unit × xS) := ((G54 110 95 n  S).bind (fun z1 => ((G85 89 110 l2 n  z1.2).bind (fun z3 => some ((), z3.2)))))
def G109f (l2 : Option Nat) : Nat → Nat → xS → Option (Unit × xS)
  | 0, _, _ => none
  | n + 1, c, S => G109b0 l2 (G109f l2 n) n  S
theorem G109e0 (l2 : Option Nat) (n : Nat)  (S : xS) : G109f l2 (n + 1) 0  S = G109b0 l2 (G109f l2 n) n  S := rfl
def G109 (l2 : Option Nat) (n : Nat)  (S : xS) : Option (Unit × xS) := G109f l2 n 0  S
set_option maxRecDepth 20000 in
set_option maxHeartbeats 4000000 in
theorem G109l {xs : Nat → Int32} {L9 d : Nat} {G : gS} {h : Nat → va_E} {l2 : Option Nat} {Q : Option Value → AmH → Prop} {r0 : Unit} {S0 : xS} (hQ : Q none (xst S0 G h)) : ∀ n : Nat, (∀ (S : xS), G109f l2 n 0  S = some (r0, S0) → Go (am_X xs L9) (d + 1) 109 0 [.ref 109, .ref 88, va_rf l2] [] (xst S G h) Q) := by
  intro n
  induction n with
  | zero => exact fun  S hf => (by cases hf)
  | succ n ih =>
    intro  S hf
    rw [G109e0] at hf
    unfold G109b0 at hf
    refine r_aload_n fe_109_0 rfl ?_
    refine r_getf (v := .ref 110) fe_109_1 lf_7_12 (x_c xk_109 (by decide)) (x_lt xk_109 (by decide)) rfl ?_
    refine r_aload_n fe_109_4 rfl ?_
    refine r_getf (v := .ref 95) fe_109_5 lf_7_48 (x_c xk_88 (by decide)) (x_lt xk_88 (by decide)) rfl ?_
    refine r_callV (as := [.ref 95]) (r := []) fe_109_8 lm_7_51 md_54 rfl rfl (Nat.le_of_ble_eq_true rfl) (x_c xk_110 (by decide)) (x_lt xk_110 (by decide)) (Nat.le_of_ble_eq_true rfl) (Nat.le_of_ble_eq_true rfl) ?_
    cases hc2 : G54 110 95 n  S with
    | none => rw [hc2] at hf; cases hf
    | some z1 =>
      rw [hc2, Option.bind_some] at hf
      refine G54c (r0 := z1.1) (S0 := z1.2) (h0 := wS_110) (h1 := wS_95) (hf := hc2) ?_
      refine r_aload_n fe_109_11 rfl ?_
      refine r_aload_n fe_109_12 rfl ?_
      refine r_getf (v := .ref 89) fe_109_13 lf_7_55 (x_c xk_88 (by decide)) (x_lt xk_88 (by decide)) rfl ?_
      refine r_aload_n fe_109_16 rfl ?_
      refine r_getf (v := .ref 110) fe_109_17 lf_7_12 (x_c xk_109 (by decide)) (x_lt xk_109 (by decide)) rfl ?_
      refine r_aload_nO fe_109_20 rfl ?_
      refine r_callV (as := [.ref 89, .ref 110, va_rf l2]) (r := []) fe_109_21 lm_7_56 md_85 rfl rfl (Nat.le_of_ble_eq_true rfl) (x_c xk_109 (by decide)) (x_lt xk_109 (by decide)) (Nat.le_of_ble_eq_true rfl) (by cases e9 : l2 <;> exact Nat.le_of_ble_eq_true rfl) ?_
      cases hc4 : G85 89 110 l2 n  z1.2 with
      | none => rw [hc4] at hf; cases hf
      | some z3 =>
        rw [hc4, Option.bind_some] at hf
        refine G85c (r0 := z3.1) (S0 := z3.2) (h1 := bS_89) (h2 := wS_110) (hf := hc4) ?_
        refine r_vret fe_109_24 ?_
        exact dfin (P := fun _ T => Q none (xst T G h)) hf hQ
theorem G109c {xs : Nat → Int32} {L9 d : Nat} {G : gS} {h : Nat → va_E} {l2 : Option Nat} {n : Nat} {Q : Option Value → AmH → Prop} {r0 : Unit} {S0 S : xS}  (hf : G109 l2 n  S = some (r0, S0)) (hQ : Q none (xst S0 G h)) : Ca (am_X xs L9) (d + 1) 109 [.ref 109, .ref 88, va_rf l2] (xst S G h) Q := by cases l2 <;> exact (G109l hQ n)  S hf
