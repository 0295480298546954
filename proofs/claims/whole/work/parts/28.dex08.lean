def G152b0 (F : Nat → Int32 → (xS × gS) → Option (Int32 × (xS × gS))) (n : Nat) (l1 : Int32) (U : (xS × gS)) : Option (Int32 × (xS × gS)) := (if am_if .lt l1 = true then some ((-1), (U.1, U.2)) else (if am_ic .ge l1 4 = true then some ((-1), (U.1, U.2)) else (if ¬ (l1 < 0 ∨ 4 ≤ (l1).toNatClampNeg) then (Option.elim (U.1.2.2.2 108 (Int32.toNatClampNeg l1)) (some ((-1), (U.1, U.2))) (fun q5 => (if ¬ (l1 < 0 ∨ 4 ≤ (l1).toNatClampNeg) then ((G150 88 q5 n  (U.1, U.2)).bind (fun z9 => some ((z9.2.1.1 95 0), (z9.2.1, z9.2.2)))) else none))) else none)))
def G152f : Nat → Nat → Int32 → (xS × gS) → Option (Int32 × (xS × gS))
  | 0, _, _, _ => none
  | n + 1, c, l1, U => G152b0 (G152f n) n l1 U
theorem G152e0 (n : Nat) (l1 : Int32) (U : (xS × gS)) : G152f (n + 1) 0 l1 U = G152b0 (G152f n) n l1 U := rfl
def G152 (n : Nat) (l1 : Int32) (U : (xS × gS)) : Option (Int32 × (xS × gS)) := G152f n 0 l1 U
set_option maxRecDepth 20000 in
set_option maxHeartbeats 4000000 in
theorem G152l {xs : Nat → Int32} {L9 d : Nat} {h : Nat → va_E} {Q : Option Value → AmH → Prop} {r0 : Int32} {U0 : (xS × gS)} (hQ : Q (some (.int r0)) (xst U0.1 U0.2 h)) : ∀ n : Nat, (∀ (l1 : Int32) (U : (xS × gS)), G152f n 0 l1 U = some (r0, U0) → Go (am_X xs L9) (d + 4) 152 0 [.ref 64, .int l1] [] (xst U.1 U.2 h) Q) := by
  intro n
  induction n with
  | zero => exact fun l1 U hf => (by cases hf)
  | succ n ih =>
    intro l1 U hf
    rw [G152e0] at hf
    unfold G152b0 at hf
    refine r_iload_n fe_152_0 rfl ?_
    by_cases hb1 : am_if .lt l1 = true
    · rw [if_pos hb1] at hf
      refine r_if_t (t := 18) fe_152_1 (by decide) hb1 ?_
      refine r_iconst (v := -1) fe_152_18 (by decide) ?_
      refine r_iret fe_152_19 ⟨rfl, by decide⟩ ?_
      exact dfin (P := fun r T => Q (some (.int r)) (xst T.1 T.2 h)) hf hQ
    · rw [if_neg hb1] at hf
      refine r_if_f (t := 18) fe_152_1 (by decide) (Bool.eq_false_iff.mpr hb1) ?_
      refine r_iload_n fe_152_4 rfl ?_
      refine r_iconst (v := 4) fe_152_5 (by decide) ?_
      by_cases hb2 : am_ic .ge l1 4 = true
      · rw [if_pos hb2] at hf
        refine r_ic_t (t := 18) fe_152_6 (by decide) hb2 ?_
        refine r_iconst (v := -1) fe_152_18 (by decide) ?_
        refine r_iret fe_152_19 ⟨rfl, by decide⟩ ?_
        exact dfin (P := fun r T => Q (some (.int r)) (xst T.1 T.2 h)) hf hQ
      · rw [if_neg hb2] at hf
        refine r_ic_f (t := 18) fe_152_6 (by decide) (Bool.eq_false_iff.mpr hb2) ?_
        refine r_aload_n fe_152_9 rfl ?_
        refine r_getf (v := .ref 108) fe_152_10 lf_11_47 (x_c xk_64 (by decide)) (x_lt xk_64 (by decide)) rfl ?_
        refine r_iload_n fe_152_13 rfl ?_
        by_cases hg3 : ¬ (l1 < 0 ∨ 4 ≤ (l1).toNatClampNeg)
        rotate_left
        · rw [if_neg hg3] at hf; cases hf
        rw [if_pos hg3] at hf
        cases hm4 : U.1.2.2.2 108 (Int32.toNatClampNeg l1) with
        | none =>
          rw [hm4, Option.elim_none] at hf
          refine r_aald (j := (Int32.toNatClampNeg l1)) (v := .null) fe_152_14 (x_c xk_108 (by decide)) (x_lt xk_108 (by decide)) (by decide) (by decide) (fun z => hg3 (Or.inl z)) rfl (fun z => hg3 (Or.inr z)) (by rw [hm4]; rfl) ?_
          refine r_ifnonnullN fe_152_15 ?_
          refine r_iconst (v := -1) fe_152_18 (by decide) ?_
          refine r_iret fe_152_19 ⟨rfl, by decide⟩ ?_
          exact dfin (P := fun r T => Q (some (.int r)) (xst T.1 T.2 h)) hf hQ
        | some q5 =>
          rw [hm4, Option.elim_some] at hf
          refine r_aald (j := (Int32.toNatClampNeg l1)) (v := .ref q5) fe_152_14 (x_c xk_108 (by decide)) (x_lt xk_108 (by decide)) (by decide) (by decide) (fun z => hg3 (Or.inl z)) rfl (fun z => hg3 (Or.inr z)) (by rw [hm4]; rfl) ?_
          refine r_ifnonnull (t := 20) fe_152_15 (by decide) ?_
          refine r_aload_n fe_152_20 rfl ?_
          refine r_getf (v := .ref 88) fe_152_21 lf_11_43 (x_c xk_64 (by decide)) (x_lt xk_64 (by decide)) rfl ?_
          refine r_aload_n fe_152_24 rfl ?_
          refine r_getf (v := .ref 108) fe_152_25 lf_11_47 (x_c xk_64 (by decide)) (x_lt xk_64 (by decide)) rfl ?_
          refine r_iload_n fe_152_28 rfl ?_
          by_cases hg6 : ¬ (l1 < 0 ∨ 4 ≤ (l1).toNatClampNeg)
          rotate_left
          · rw [if_neg hg6] at hf; cases hf
          rw [if_pos hg6] at hf
          refine r_aald (j := (Int32.toNatClampNeg l1)) (v := .ref q5) fe_152_29 (x_c xk_108 (by decide)) (x_lt xk_108 (by decide)) (by decide) (by decide) (fun z => hg6 (Or.inl z)) rfl (fun z => hg6 (Or.inr z)) (by rw [hm4]; rfl) ?_
          refine r_callV (as := [.ref q5]) (r := []) fe_152_30 lm_11_307 md_150 rfl rfl (Nat.le_of_ble_eq_true rfl) (x_c xk_88 (by decide)) (x_lt xk_88 (by decide)) (Nat.le_of_ble_eq_true rfl) (Nat.le_of_ble_eq_true rfl) ?_
          cases hc10 : G150 88 q5 n  (U.1, U.2) with
          | none => rw [hc10] at hf; cases hf
          | some z9 =>
            rw [hc10, Option.bind_some] at hf
            refine G150c (r0 := z9.1) (U0 := z9.2)  (hf := hc10) ?_
            refine r_aload_n fe_152_33 rfl ?_
            refine r_getf (v := .ref 88) fe_152_34 lf_11_43 (x_c xk_64 (by decide)) (x_lt xk_64 (by decide)) rfl ?_
            refine r_getf (v := .ref 95) fe_152_37 lf_11_94 (x_c xk_88 (by decide)) (x_lt xk_88 (by decide)) rfl ?_
            refine r_getf (v := .int (z9.2.1.1 95 0)) fe_152_40 lf_11_173 (x_c xk_95 (by decide)) (x_lt xk_95 (by decide)) rfl ?_
            refine r_iret fe_152_43 ⟨rfl, by decide⟩ ?_
            exact dfin (P := fun r T => Q (some (.int r)) (xst T.1 T.2 h)) hf hQ
theorem G152c {xs : Nat → Int32} {L9 d : Nat} {h : Nat → va_E} {n : Nat} {Q : Option Value → AmH → Prop} {r0 : Int32} {U0 U : (xS × gS)} {l1 : Int32} (hf : G152 n l1 U = some (r0, U0)) (hQ : Q (some (.int r0)) (xst U0.1 U0.2 h)) : Ca (am_X xs L9) (d + 4) 152 [.ref 64, .int l1] (xst U.1 U.2 h) Q := (G152l hQ n) l1 U hf
