def G110b0 (wb : Nat) (lo : Option Nat) (ln : Nat) (F : Nat → Int32 → Int32 → Int32 → xS → Option (Unit × xS)) (n : Nat) (l1 : Int32) (l2 : Int32) (l3 : Int32) (S : xS) : Option (Unit × xS) := F 2 l1 l2 0 S
def G110b2 (wb : Nat) (lo : Option Nat) (ln : Nat) (F : Nat → Int32 → Int32 → Int32 → xS → Option (Unit × xS)) (n : Nat) (l1 : Int32) (l2 : Int32) (l3 : Int32) (S : xS) : Option (Unit × xS) := (if am_ic .ge l3 l2 = true then some ((), S) else (if S.2.2.2 109 4 = some wb then (if ¬ (l1 < 0 ∨ 13 ≤ (l1).toNatClampNeg) then (if am_if .lt (S.2.1 (wb + 1) (Int32.toNatClampNeg l1)) = true then some ((), S) else ((G86 wb lo ln n  S).bind (fun z5 => F 2 l1 l2 (l3 + 1) z5.2))) else none) else none))
def G110f (wb : Nat) (lo : Option Nat) (ln : Nat) : Nat → Nat → Int32 → Int32 → Int32 → xS → Option (Unit × xS)
  | 0, _, _, _, _, _ => none
  | n + 1, c, l1, l2, l3, S => if c = 0 then G110b0 wb lo ln (G110f wb lo ln n) n l1 l2 l3 S else G110b2 wb lo ln (G110f wb lo ln n) n l1 l2 l3 S
theorem G110e0 (wb : Nat) (lo : Option Nat) (ln : Nat) (n : Nat) (l1 : Int32) (l2 : Int32) (l3 : Int32) (S : xS) : G110f wb lo ln (n + 1) 0 l1 l2 l3 S = G110b0 wb lo ln (G110f wb lo ln n) n l1 l2 l3 S := if_pos rfl
theorem G110e2 (wb : Nat) (lo : Option Nat) (ln : Nat) (n : Nat) (l1 : Int32) (l2 : Int32) (l3 : Int32) (S : xS) : G110f wb lo ln (n + 1) 2 l1 l2 l3 S = G110b2 wb lo ln (G110f wb lo ln n) n l1 l2 l3 S := if_neg (by decide)
def G110 (wb : Nat) (lo : Option Nat) (ln : Nat) (n : Nat) (l1 : Int32) (l2 : Int32) (S : xS) : Option (Unit × xS) := G110f wb lo ln n 0 l1 l2 0 S
set_option maxRecDepth 20000 in
set_option maxHeartbeats 4000000 in
theorem G110l {xs : Nat → Int32} {L9 d : Nat} {G : gS} {h : Nat → va_E} {wb : Nat} {lo : Option Nat} {ln : Nat} {Q : Option Value → AmH → Prop} {r0 : Unit} {S0 : xS} (hw : wB G wb = true) (hl : lwB G lo ln = true) (hQ : Q none (xst S0 G h)) : ∀ n : Nat, (∀ (l1 : Int32) (l2 : Int32) (l3 : Int32) (S : xS), G110f wb lo ln n 0 l1 l2 l3 S = some (r0, S0) → Go (am_X xs L9) (d + 5) 110 0 [.ref 109, .int l1, .int l2, .float 0] [] (xst S G h) Q) ∧ (∀ (l1 : Int32) (l2 : Int32) (l3 : Int32) (S : xS), G110f wb lo ln n 2 l1 l2 l3 S = some (r0, S0) → Go (am_X xs L9) (d + 5) 110 2 [.ref 109, .int l1, .int l2, .int l3] [] (xst S G h) Q) := by
  intro n
  induction n with
  | zero => exact ⟨fun l1 l2 l3 S hf => (by cases hf), fun l1 l2 l3 S hf => (by cases hf)⟩
  | succ n ih =>
    refine ⟨?_, ?_⟩
    · intro l1 l2 l3 S hf
      rw [G110e0] at hf
      unfold G110b0 at hf
      refine r_iconst (v := 0) fe_110_0 (by decide) ?_
      refine r_istore_n fe_110_1 (Nat.le_of_ble_eq_true rfl) rfl ?_
      refine go_weak (L0 := [.ref 109, .int l1, .int l2, .int 0]) (lwk_c (Or.inl rfl) (lwk_c (Or.inl rfl) (lwk_c (Or.inl rfl) (lwk_c (Or.inl rfl) (lwk_rf []))))) ?_
      exact ih.2 l1 l2 0 S hf
    · intro l1 l2 l3 S hf
      rw [G110e2] at hf
      unfold G110b2 at hf
      refine r_iload_n fe_110_2 rfl ?_
      refine r_iload_n fe_110_3 rfl ?_
      by_cases hb1 : am_ic .ge l3 l2 = true
      · rw [if_pos hb1] at hf
        refine r_ic_t (t := 29) fe_110_4 (by decide) hb1 ?_
        refine r_vret fe_110_29 ?_
        exact dfin (P := fun _ T => Q none (xst T G h)) hf hQ
      · rw [if_neg hb1] at hf
        refine r_ic_f (t := 29) fe_110_4 (by decide) (Bool.eq_false_iff.mpr hb1) ?_
        refine r_aload_n fe_110_7 rfl ?_
        by_cases hm2 : S.2.2.2 109 4 = some wb
        rotate_left
        · rw [if_neg hm2] at hf; cases hf
        rw [if_pos hm2] at hf
        refine r_getf (v := .ref wb) fe_110_8 lf_7_31 (x_c xk_109 (by decide)) (x_lt xk_109 (by decide)) (by show some (va_rf _) = _; rw [hm2]; rfl) ?_
        refine r_getf (v := .ref (wb + 1)) fe_110_11 lf_7_80 (x_c (wk0 hw) (by decide)) (x_lt (wk0 hw) (by decide)) rfl ?_
        refine r_iload_n fe_110_14 rfl ?_
        by_cases hg3 : ¬ (l1 < 0 ∨ 13 ≤ (l1).toNatClampNeg)
        rotate_left
        · rw [if_neg hg3] at hf; cases hf
        rw [if_pos hg3] at hf
        refine r_iald (j := (Int32.toNatClampNeg l1)) (v := S.2.1 (wb + 1) (Int32.toNatClampNeg l1)) fe_110_15 (x_c (wk1 hw) (by decide)) (x_lt (wk1 hw) (by decide)) (fun z => hg3 (Or.inl z)) rfl (fun z => hg3 (Or.inr z)) rfl ?_
        by_cases hb4 : am_if .lt (S.2.1 (wb + 1) (Int32.toNatClampNeg l1)) = true
        · rw [if_pos hb4] at hf
          refine r_if_t (t := 29) fe_110_16 (by decide) hb4 ?_
          refine r_vret fe_110_29 ?_
          exact dfin (P := fun _ T => Q none (xst T G h)) hf hQ
        · rw [if_neg hb4] at hf
          refine r_if_f (t := 29) fe_110_16 (by decide) (Bool.eq_false_iff.mpr hb4) ?_
          refine r_aload_n fe_110_19 rfl ?_
          refine r_callV (as := []) (r := []) fe_110_20 lm_7_68 md_86 rfl rfl (Nat.le_of_ble_eq_true rfl) (x_c xk_109 (by decide)) (x_lt xk_109 (by decide)) (Nat.le_of_ble_eq_true rfl) (Nat.le_of_ble_eq_true rfl) ?_
          cases hc6 : G86 wb lo ln n  S with
          | none => rw [hc6] at hf; cases hf
          | some z5 =>
            rw [hc6, Option.bind_some] at hf
            refine G86c (r0 := z5.1) (S0 := z5.2) (hw := hw) (hl := hl) (hf := hc6) ?_
            refine r_iinc (v := (l3 + 1)) fe_110_23 rfl rfl rfl ?_
            refine r_goto (t := 2) fe_110_26 (by decide) ?_
            refine go_weak (L0 := [.ref 109, .int l1, .int l2, .int (l3 + 1)]) (lwk_c (Or.inl rfl) (lwk_c (Or.inl rfl) (lwk_c (Or.inl rfl) (lwk_c (Or.inl rfl) (lwk_rf []))))) ?_
            exact ih.2 l1 l2 (l3 + 1) z5.2 hf
theorem G110c {xs : Nat → Int32} {L9 d : Nat} {G : gS} {h : Nat → va_E} {wb : Nat} {lo : Option Nat} {ln : Nat} {n : Nat} {Q : Option Value → AmH → Prop} {r0 : Unit} {S0 S : xS} {l1 : Int32} {l2 : Int32} (hw : wB G wb = true) (hl : lwB G lo ln = true) (hf : G110 wb lo ln n l1 l2 S = some (r0, S0)) (hQ : Q none (xst S0 G h)) : Ca (am_X xs L9) (d + 5) 110 [.ref 109, .int l1, .int l2] (xst S G h) Q := (G110l hw hl hQ n).1 l1 l2 0 S hf
def G108b0 (F : Nat → Int32 → Int32 → Int32 → (xS × gS) → Option (Int32 × (xS × gS))) (n : Nat) (l1 : Int32) (l2 : Int32) (l3 : Int32) (U : (xS × gS)) : Option (Int32 × (xS × gS)) := ((G80 n l1 U.1).bind (fun z1 => (if am_if .eq z1.1 = true then some ((-2), (z1.2, U.2)) else (if am_if .lt l2 = true then some ((-2), (z1.2, U.2)) else (if am_ic .gt l2 60 = true then some ((-2), (z1.2, U.2)) else (if am_if .lt l3 = true then some ((-2), (z1.2, U.2)) else (if am_ic .le l3 2 = true then ((G84 n  z1.2).bind (fun z8 => (if lwB U.2 z8.1 (lawN U.2 z8.1) = true then ((G109 z8.1 n  z8.2).bind (fun z11 => ((G110 110 z8.1 (lawN U.2 z8.1) n l1 l2 z11.2).bind (fun z13 => (if z13.2.2.2.2 109 4 = some 110 then (if am_if .ne l3 = true then (if am_ic .ne l3 1 = true then (if ¬ (l1 < 0 ∨ 13 ≤ (l1).toNatClampNeg) then some ((z13.2.2.1 116 (Int32.toNatClampNeg l1)), (z13.2, U.2)) else none) else (if ¬ (l1 < 0 ∨ 13 ≤ (l1).toNatClampNeg) then some ((z13.2.2.1 112 (Int32.toNatClampNeg l1)), (z13.2, U.2)) else none)) else (if ¬ (l1 < 0 ∨ 13 ≤ (l1).toNatClampNeg) then some ((z13.2.2.1 111 (Int32.toNatClampNeg l1)), (z13.2, U.2)) else none)) else none))))) else none))) else some ((-2), (z1.2, U.2)))))))))
def G108f : Nat → Nat → Int32 → Int32 → Int32 → (xS × gS) → Option (Int32 × (xS × gS))
  | 0, _, _, _, _, _ => none
  | n + 1, c, l1, l2, l3, U => G108b0 (G108f n) n l1 l2 l3 U
theorem G108e0 (n : Nat) (l1 : Int32) (l2 : Int32) (l3 : Int32) (U : (xS × gS)) : G108f (n + 1) 0 l1 l2 l3 U = G108b0 (G108f n) n l1 l2 l3 U := rfl
def G108 (n : Nat) (l1 : Int32) (l2 : Int32) (l3 : Int32) (U : (xS × gS)) : Option (Int32 × (xS × gS)) := G108f n 0 l1 l2 l3 U
set_option maxRecDepth 20000 in
set_option maxHeartbeats 4000000 in
theorem G108l {xs : Nat → Int32} {L9 d : Nat} {h : Nat → va_E} {Q : Option Value → AmH → Prop} {r0 : Int32} {U0 : (xS × gS)} (hQ : Q (some (.int r0)) (xst U0.1 U0.2 h)) : ∀ n : Nat, (∀ (l1 : Int32) (l2 : Int32) (l3 : Int32) (U : (xS × gS)), G108f n 0 l1 l2 l3 U = some (r0, U0) → Go (am_X xs L9) (d + 6) 108 0 [.ref 64, .int l1, .int l2, .int l3, .float 0] [] (xst U.1 U.2 h) Q) := by
  intro n
  induction n with
  | zero => exact fun l1 l2 l3 U hf => (by cases hf)
  | succ n ih =>
    intro l1 l2 l3 U hf
    rw [G108e0] at hf
    unfold G108b0 at hf
    refine r_aload_n fe_108_0 rfl ?_
    refine r_iload_n fe_108_1 rfl ?_
    refine r_callV (as := [.int l1]) (r := []) fe_108_2 lm_11_148 md_80 rfl rfl (Nat.le_of_ble_eq_true rfl) (x_c xk_64 (by decide)) (x_lt xk_64 (by decide)) (Nat.le_of_ble_eq_true rfl) (Nat.le_of_ble_eq_true rfl) ?_
    cases hc2 : G80 n l1 U.1 with
    | none => rw [hc2] at hf; cases hf
    | some z1 =>
      rw [hc2, Option.bind_some] at hf
      refine G80c (r0 := z1.1) (S0 := z1.2)  (hf := hc2) ?_
      by_cases hb3 : am_if .eq z1.1 = true
      · rw [if_pos hb3] at hf
        refine r_if_t (t := 27) fe_108_5 (by decide) hb3 ?_
        refine r_bipush (v := -2) fe_108_27 (by decide) ?_
        refine r_iret fe_108_29 ⟨rfl, by decide⟩ ?_
        exact dfin (P := fun r T => Q (some (.int r)) (xst T.1 T.2 h)) hf hQ
      · rw [if_neg hb3] at hf
        refine r_if_f (t := 27) fe_108_5 (by decide) (Bool.eq_false_iff.mpr hb3) ?_
        refine r_iload_n fe_108_8 rfl ?_
        by_cases hb4 : am_if .lt l2 = true
        · rw [if_pos hb4] at hf
          refine r_if_t (t := 27) fe_108_9 (by decide) hb4 ?_
          refine r_bipush (v := -2) fe_108_27 (by decide) ?_
          refine r_iret fe_108_29 ⟨rfl, by decide⟩ ?_
          exact dfin (P := fun r T => Q (some (.int r)) (xst T.1 T.2 h)) hf hQ
        · rw [if_neg hb4] at hf
          refine r_if_f (t := 27) fe_108_9 (by decide) (Bool.eq_false_iff.mpr hb4) ?_
          refine r_iload_n fe_108_12 rfl ?_
          refine r_bipush (v := 60) fe_108_13 (by decide) ?_
          by_cases hb5 : am_ic .gt l2 60 = true
          · rw [if_pos hb5] at hf
            refine r_ic_t (t := 27) fe_108_15 (by decide) hb5 ?_
            refine r_bipush (v := -2) fe_108_27 (by decide) ?_
            refine r_iret fe_108_29 ⟨rfl, by decide⟩ ?_
            exact dfin (P := fun r T => Q (some (.int r)) (xst T.1 T.2 h)) hf hQ
          · rw [if_neg hb5] at hf
            refine r_ic_f (t := 27) fe_108_15 (by decide) (Bool.eq_false_iff.mpr hb5) ?_
            refine r_iload_n fe_108_18 rfl ?_
            by_cases hb6 : am_if .lt l3 = true
            · rw [if_pos hb6] at hf
              refine r_if_t (t := 27) fe_108_19 (by decide) hb6 ?_
              refine r_bipush (v := -2) fe_108_27 (by decide) ?_
              refine r_iret fe_108_29 ⟨rfl, by decide⟩ ?_
              exact dfin (P := fun r T => Q (some (.int r)) (xst T.1 T.2 h)) hf hQ
            · rw [if_neg hb6] at hf
              refine r_if_f (t := 27) fe_108_19 (by decide) (Bool.eq_false_iff.mpr hb6) ?_
              refine r_iload_n fe_108_22 rfl ?_
              refine r_iconst (v := 2) fe_108_23 (by decide) ?_
              by_cases hb7 : am_ic .le l3 2 = true
              · rw [if_pos hb7] at hf
                refine r_ic_t (t := 30) fe_108_24 (by decide) hb7 ?_
                refine r_aload_n fe_108_30 rfl ?_
                refine r_getf (v := .ref 109) fe_108_31 lf_11_54 (x_c xk_64 (by decide)) (x_lt xk_64 (by decide)) rfl ?_
                refine r_aload_n fe_108_34 rfl ?_
                refine r_getf (v := .ref 88) fe_108_35 lf_11_43 (x_c xk_64 (by decide)) (x_lt xk_64 (by decide)) rfl ?_
                refine r_aload_n fe_108_38 rfl ?_
                refine r_callV (as := []) (r := [.ref 88, .ref 109]) fe_108_39 lm_11_179 md_84 rfl rfl (Nat.le_of_ble_eq_true rfl) (x_c xk_64 (by decide)) (x_lt xk_64 (by decide)) (Nat.le_of_ble_eq_true rfl) (Nat.le_of_ble_eq_true rfl) ?_
                cases hc9 : G84 n  z1.2 with
                | none => rw [hc9] at hf; cases hf
                | some z8 =>
                  rw [hc9, Option.bind_some] at hf
                  refine G84c (r0 := z8.1) (S0 := z8.2)  (hf := hc9) ?_
                  by_cases hb10 : lwB U.2 z8.1 (lawN U.2 z8.1) = true
                  rotate_left
                  · rw [if_neg hb10] at hf; cases hf
                  rw [if_pos hb10] at hf
                  refine r_callV (as := [.ref 88, va_rf z8.1]) (r := []) fe_108_42 lm_11_231 md_109 rfl rfl (Nat.le_of_ble_eq_true rfl) (x_c xk_109 (by decide)) (x_lt xk_109 (by decide)) (Nat.le_of_ble_eq_true rfl) (by cases e9 : z8.1 <;> exact Nat.le_of_ble_eq_true rfl) ?_
                  cases hc12 : G109 z8.1 n  z8.2 with
                  | none => rw [hc12] at hf; cases hf
                  | some z11 =>
                    rw [hc12, Option.bind_some] at hf
                    refine G109c (r0 := z11.1) (S0 := z11.2)  (hf := hc12) ?_
                    refine r_aload_n fe_108_45 rfl ?_
                    refine r_getf (v := .ref 109) fe_108_46 lf_11_54 (x_c xk_64 (by decide)) (x_lt xk_64 (by decide)) rfl ?_
                    refine r_iload_n fe_108_49 rfl ?_
                    refine r_iload_n fe_108_50 rfl ?_
                    refine r_callV (as := [.int l1, .int l2]) (r := []) fe_108_51 lm_11_235 md_110 rfl rfl (Nat.le_of_ble_eq_true rfl) (x_c xk_109 (by decide)) (x_lt xk_109 (by decide)) (Nat.le_of_ble_eq_true rfl) (Nat.le_of_ble_eq_true rfl) ?_
                    cases hc14 : G110 110 z8.1 (lawN U.2 z8.1) n l1 l2 z11.2 with
                    | none => rw [hc14] at hf; cases hf
                    | some z13 =>
                      rw [hc14, Option.bind_some] at hf
                      refine G110c (r0 := z13.1) (S0 := z13.2) (hw := wS_110) (hl := hb10) (hf := hc14) ?_
                      refine r_aload_n fe_108_54 rfl ?_
                      refine r_getf (v := .ref 109) fe_108_55 lf_11_54 (x_c xk_64 (by decide)) (x_lt xk_64 (by decide)) rfl ?_
                      by_cases hm15 : z13.2.2.2.2 109 4 = some 110
                      rotate_left
                      · rw [if_neg hm15] at hf; cases hf
                      rw [if_pos hm15] at hf
                      refine r_getf (v := .ref 110) fe_108_58 lf_11_238 (x_c xk_109 (by decide)) (x_lt xk_109 (by decide)) (by show some (va_rf _) = _; rw [hm15]; rfl) ?_
                      refine r_astore fe_108_61 (Nat.le_of_ble_eq_true rfl) rfl ?_
                      refine r_iload_n fe_108_63 rfl ?_
                      by_cases hb16 : am_if .ne l3 = true
                      · rw [if_pos hb16] at hf
                        refine r_if_t (t := 75) fe_108_64 (by decide) hb16 ?_
                        refine r_iload_n fe_108_75 rfl ?_
                        refine r_iconst (v := 1) fe_108_76 (by decide) ?_
                        by_cases hb17 : am_ic .ne l3 1 = true
                        · rw [if_pos hb17] at hf
                          refine r_ic_t (t := 90) fe_108_77 (by decide) hb17 ?_
                          refine r_aload fe_108_90 rfl ?_
                          refine r_getf (v := .ref 116) fe_108_92 lf_11_160 (x_c xk_110 (by decide)) (x_lt xk_110 (by decide)) rfl ?_
                          refine r_iload_n fe_108_95 rfl ?_
                          by_cases hg18 : ¬ (l1 < 0 ∨ 13 ≤ (l1).toNatClampNeg)
                          rotate_left
                          · rw [if_neg hg18] at hf; cases hf
                          rw [if_pos hg18] at hf
                          refine r_iald (j := (Int32.toNatClampNeg l1)) (v := z13.2.2.1 116 (Int32.toNatClampNeg l1)) fe_108_96 (x_c xk_116 (by decide)) (x_lt xk_116 (by decide)) (fun z => hg18 (Or.inl z)) rfl (fun z => hg18 (Or.inr z)) rfl ?_
                          refine r_iret fe_108_97 ⟨rfl, by decide⟩ ?_
                          exact dfin (P := fun r T => Q (some (.int r)) (xst T.1 T.2 h)) hf hQ
                        · rw [if_neg hb17] at hf
                          refine r_ic_f (t := 90) fe_108_77 (by decide) (Bool.eq_false_iff.mpr hb17) ?_
                          refine r_aload fe_108_80 rfl ?_
                          refine r_getf (v := .ref 112) fe_108_82 lf_11_154 (x_c xk_110 (by decide)) (x_lt xk_110 (by decide)) rfl ?_
                          refine r_iload_n fe_108_85 rfl ?_
                          by_cases hg19 : ¬ (l1 < 0 ∨ 13 ≤ (l1).toNatClampNeg)
                          rotate_left
                          · rw [if_neg hg19] at hf; cases hf
                          rw [if_pos hg19] at hf
                          refine r_iald (j := (Int32.toNatClampNeg l1)) (v := z13.2.2.1 112 (Int32.toNatClampNeg l1)) fe_108_86 (x_c xk_112 (by decide)) (x_lt xk_112 (by decide)) (fun z => hg19 (Or.inl z)) rfl (fun z => hg19 (Or.inr z)) rfl ?_
                          refine r_goto (t := 97) fe_108_87 (by decide) ?_
                          refine r_iret fe_108_97 ⟨rfl, by decide⟩ ?_
                          exact dfin (P := fun r T => Q (some (.int r)) (xst T.1 T.2 h)) hf hQ
                      · rw [if_neg hb16] at hf
                        refine r_if_f (t := 75) fe_108_64 (by decide) (Bool.eq_false_iff.mpr hb16) ?_
                        refine r_aload fe_108_67 rfl ?_
                        refine r_getf (v := .ref 111) fe_108_69 lf_11_151 (x_c xk_110 (by decide)) (x_lt xk_110 (by decide)) rfl ?_
                        refine r_iload_n fe_108_72 rfl ?_
                        by_cases hg20 : ¬ (l1 < 0 ∨ 13 ≤ (l1).toNatClampNeg)
                        rotate_left
                        · rw [if_neg hg20] at hf; cases hf
                        rw [if_pos hg20] at hf
                        refine r_iald (j := (Int32.toNatClampNeg l1)) (v := z13.2.2.1 111 (Int32.toNatClampNeg l1)) fe_108_73 (x_c xk_111 (by decide)) (x_lt xk_111 (by decide)) (fun z => hg20 (Or.inl z)) rfl (fun z => hg20 (Or.inr z)) rfl ?_
                        refine r_iret fe_108_74 ⟨rfl, by decide⟩ ?_
                        exact dfin (P := fun r T => Q (some (.int r)) (xst T.1 T.2 h)) hf hQ
              · rw [if_neg hb7] at hf
                refine r_ic_f (t := 30) fe_108_24 (by decide) (Bool.eq_false_iff.mpr hb7) ?_
                refine r_bipush (v := -2) fe_108_27 (by decide) ?_
                refine r_iret fe_108_29 ⟨rfl, by decide⟩ ?_
                exact dfin (P := fun r T => Q (some (.int r)) (xst T.1 T.2 h)) hf hQ
theorem G108c {xs : Nat → Int32} {L9 d : Nat} {h : Nat → va_E} {n : Nat} {Q : Option Value → AmH → Prop} {r0 : Int32} {U0 U : (xS × gS)} {l1 : Int32} {l2 : Int32} {l3 : Int32} (hf : G108 n l1 l2 l3 U = some (r0, U0)) (hQ : Q (some (.int r0)) (xst U0.1 U0.2 h)) : Ca (am_X xs L9) (d + 6) 108 [.ref 64, .int l1, .int l2, .int l3] (xst U.1 U.2 h) Q := (G108l hQ n) l1 l2 l3 U hf
def G113b0 (l0 : Nat) (F : Nat → Int32 → Int32 → xS → Option (Int32 × xS)) (n : Nat) (l1 : Int32) (l2 : Int32) (S : xS) : Option (Int32 × xS) := F 4 0 0 S
def G113b4 (l0 : Nat) (F : Nat → Int32 → Int32 → xS → Option (Int32 × xS)) (n : Nat) (l1 : Int32) (l2 : Int32) (S : xS) : Option (Int32 × xS) := (if am_ic .ge l2 (S.1 l0 1) = true then some (l1, S) else (if ¬ (l2 < 0 ∨ 13 ≤ (l2).toNatClampNeg) then (if am_if .lt (S.2.1 (l0 + 1) (Int32.toNatClampNeg l2)) = true then F 4 l1 (l2 + 1) S else F 4 (l1 ||| (1 <<< (l2 &&& 31))) (l2 + 1) S) else none))
def G113f (l0 : Nat) : Nat → Nat → Int32 → Int32 → xS → Option (Int32 × xS)
  | 0, _, _, _, _ => none
  | n + 1, c, l1, l2, S => if c = 0 then G113b0 l0 (G113f l0 n) n l1 l2 S else G113b4 l0 (G113f l0 n) n l1 l2 S
theorem G113e0 (l0 : Nat) (n : Nat) (l1 : Int32) (l2 : Int32) (S : xS) : G113f l0 (n + 1) 0 l1 l2 S = G113b0 l0 (G113f l0 n) n l1 l2 S := if_pos rfl
theorem G113e4 (l0 : Nat) (n : Nat) (l1 : Int32) (l2 : Int32) (S : xS) : G113f l0 (n + 1) 4 l1 l2 S = G113b4 l0 (G113f l0 n) n l1 l2 S := if_neg (by decide)
def G113 (l0 : Nat) (n : Nat)  (S : xS) : Option (Int32 × xS) := G113f l0 n 0 0 0 S
set_option maxRecDepth 20000 in
set_option maxHeartbeats 4000000 in
theorem G113l {xs : Nat → Int32} {L9 d : Nat} {G : gS} {h : Nat → va_E} {l0 : Nat} {Q : Option Value → AmH → Prop} {r0 : Int32} {S0 : xS} (h0 : wB G l0 = true) (hQ : Q (some (.int r0)) (xst S0 G h)) : ∀ n : Nat, (∀ (l1 : Int32) (l2 : Int32) (S : xS), G113f l0 n 0 l1 l2 S = some (r0, S0) → Go (am_X xs L9) (d + 0) 113 0 [.ref l0, .float 0, .float 0] [] (xst S G h) Q) ∧ (∀ (l1 : Int32) (l2 : Int32) (S : xS), G113f l0 n 4 l1 l2 S = some (r0, S0) → Go (am_X xs L9) (d + 0) 113 4 [.ref l0, .int l1, .int l2] [] (xst S G h) Q) := by
  intro n
  induction n with
  | zero => exact ⟨fun l1 l2 S hf => (by cases hf), fun l1 l2 S hf => (by cases hf)⟩
  | succ n ih =>
    refine ⟨?_, ?_⟩
    · intro l1 l2 S hf
      rw [G113e0] at hf
      unfold G113b0 at hf
      refine r_iconst (v := 0) fe_113_0 (by decide) ?_
      refine r_istore_n fe_113_1 (Nat.le_of_ble_eq_true rfl) rfl ?_
      refine r_iconst (v := 0) fe_113_2 (by decide) ?_
      refine r_istore_n fe_113_3 (Nat.le_of_ble_eq_true rfl) rfl ?_
      refine go_weak (L0 := [.ref l0, .int 0, .int 0]) (lwk_c (Or.inl rfl) (lwk_c (Or.inl rfl) (lwk_c (Or.inl rfl) (lwk_rf [])))) ?_
      exact ih.2 0 0 S hf
    · intro l1 l2 S hf
      rw [G113e4] at hf
      unfold G113b4 at hf
      refine r_iload_n fe_113_4 rfl ?_
      refine r_aload_n fe_113_5 rfl ?_
      refine r_getf (v := .int (S.1 l0 1)) fe_113_6 lf_9_15 (x_c (wk0 h0) (by decide)) (x_lt (wk0 h0) (by decide)) rfl ?_
      by_cases hb1 : am_ic .ge l2 (S.1 l0 1) = true
      · rw [if_pos hb1] at hf
        refine r_ic_t (t := 33) fe_113_9 (by decide) hb1 ?_
        refine r_iload_n fe_113_33 rfl ?_
        refine r_iret fe_113_34 ⟨rfl, by decide⟩ ?_
        exact dfin (P := fun r T => Q (some (.int r)) (xst T G h)) hf hQ
      · rw [if_neg hb1] at hf
        refine r_ic_f (t := 33) fe_113_9 (by decide) (Bool.eq_false_iff.mpr hb1) ?_
        refine r_aload_n fe_113_12 rfl ?_
        refine r_getf (v := .ref (l0 + 1)) fe_113_13 lf_9_21 (x_c (wk0 h0) (by decide)) (x_lt (wk0 h0) (by decide)) rfl ?_
        refine r_iload_n fe_113_16 rfl ?_
        by_cases hg2 : ¬ (l2 < 0 ∨ 13 ≤ (l2).toNatClampNeg)
        rotate_left
        · rw [if_neg hg2] at hf; cases hf
        rw [if_pos hg2] at hf
        refine r_iald (j := (Int32.toNatClampNeg l2)) (v := S.2.1 (l0 + 1) (Int32.toNatClampNeg l2)) fe_113_17 (x_c (wk1 h0) (by decide)) (x_lt (wk1 h0) (by decide)) (fun z => hg2 (Or.inl z)) rfl (fun z => hg2 (Or.inr z)) rfl ?_
        by_cases hb3 : am_if .lt (S.2.1 (l0 + 1) (Int32.toNatClampNeg l2)) = true
        · rw [if_pos hb3] at hf
          refine r_if_t (t := 27) fe_113_18 (by decide) hb3 ?_
          refine r_iinc (v := (l2 + 1)) fe_113_27 rfl rfl rfl ?_
          refine r_goto (t := 4) fe_113_30 (by decide) ?_
          refine go_weak (L0 := [.ref l0, .int l1, .int (l2 + 1)]) (lwk_c (Or.inl rfl) (lwk_c (Or.inl rfl) (lwk_c (Or.inl rfl) (lwk_rf [])))) ?_
          exact ih.2 l1 (l2 + 1) S hf
        · rw [if_neg hb3] at hf
          refine r_if_f (t := 27) fe_113_18 (by decide) (Bool.eq_false_iff.mpr hb3) ?_
          refine r_iload_n fe_113_21 rfl ?_
          refine r_iconst (v := 1) fe_113_22 (by decide) ?_
          refine r_iload_n fe_113_23 rfl ?_
          refine r_ishl (v := (1 <<< (l2 &&& 31))) fe_113_24 rfl ?_
          refine r_ior (v := (l1 ||| (1 <<< (l2 &&& 31)))) fe_113_25 rfl ?_
          refine r_istore_n fe_113_26 (Nat.le_of_ble_eq_true rfl) rfl ?_
          refine r_iinc (v := (l2 + 1)) fe_113_27 rfl rfl rfl ?_
          refine r_goto (t := 4) fe_113_30 (by decide) ?_
          refine go_weak (L0 := [.ref l0, .int (l1 ||| (1 <<< (l2 &&& 31))), .int (l2 + 1)]) (lwk_c (Or.inl rfl) (lwk_c (Or.inl rfl) (lwk_c (Or.inl rfl) (lwk_rf [])))) ?_
          exact ih.2 (l1 ||| (1 <<< (l2 &&& 31))) (l2 + 1) S hf
theorem G113c {xs : Nat → Int32} {L9 d : Nat} {G : gS} {h : Nat → va_E} {l0 : Nat} {n : Nat} {Q : Option Value → AmH → Prop} {r0 : Int32} {S0 S : xS}  (h0 : wB G l0 = true) (hf : G113 l0 n  S = some (r0, S0)) (hQ : Q (some (.int r0)) (xst S0 G h)) : Ca (am_X xs L9) (d + 0) 113 [.ref l0] (xst S G h) Q := (G113l h0 hQ n).1 0 0 S hf
def G112b0 (wb : Nat) (lo : Option Nat) (ln : Nat) (F : Nat → Int32 → Int32 → Int32 → Int32 → Int32 → xS → Option (Int32 × xS)) (n : Nat) (l1 : Int32) (l2 : Int32) (l3 : Int32) (l4 : Int32) (l5 : Int32) (S : xS) : Option (Int32 × xS) := F 4 0 l1 0 0 0 S
def G112b4 (wb : Nat) (lo : Option Nat) (ln : Nat) (F : Nat → Int32 → Int32 → Int32 → Int32 → Int32 → xS → Option (Int32 × xS)) (n : Nat) (l1 : Int32) (l2 : Int32) (l3 : Int32) (l4 : Int32) (l5 : Int32) (S : xS) : Option (Int32 × xS) := (if am_ic .ge l3 60 = true then some ((-1), S) else (if S.2.2.2 109 4 = some wb then ((G113 wb n  S).bind (fun z3 => (if am_if .ne z3.1 = true then ((G86 wb lo ln n  z3.2).bind (fun z6 => F 33 0 l2 l3 z3.1 0 z6.2)) else some ((-1), z3.2)))) else none))
def G112b33 (wb : Nat) (lo : Option Nat) (ln : Nat) (F : Nat → Int32 → Int32 → Int32 → Int32 → Int32 → xS → Option (Int32 × xS)) (n : Nat) (l1 : Int32) (l2 : Int32) (l3 : Int32) (l4 : Int32) (l5 : Int32) (S : xS) : Option (Int32 × xS) := (if S.2.2.2 109 4 = some wb then (if am_ic .ge l5 (S.1 wb 1) = true then F 4 0 l2 (l3 + 1) 0 0 S else (if am_ic .ne ((l4 >>> (l5 &&& 31)) &&& 1) 1 = true then F 33 0 l2 l3 l4 (l5 + 1) S else (if ¬ (l5 < 0 ∨ 13 ≤ (l5).toNatClampNeg) then (if am_ic .ne (S.2.1 (wb + 6) (Int32.toNatClampNeg l5)) 1 = true then F 33 0 l2 l3 l4 (l5 + 1) S else (if am_if .ne l2 = true then F 33 0 (l2 + (-1)) l3 l4 (l5 + 1) S else some (l5, S))) else none))) else none)
def G112f (wb : Nat) (lo : Option Nat) (ln : Nat) : Nat → Nat → Int32 → Int32 → Int32 → Int32 → Int32 → xS → Option (Int32 × xS)
  | 0, _, _, _, _, _, _, _ => none
  | n + 1, c, l1, l2, l3, l4, l5, S => if c = 0 then G112b0 wb lo ln (G112f wb lo ln n) n l1 l2 l3 l4 l5 S else if c = 4 then G112b4 wb lo ln (G112f wb lo ln n) n l1 l2 l3 l4 l5 S else G112b33 wb lo ln (G112f wb lo ln n) n l1 l2 l3 l4 l5 S
theorem G112e0 (wb : Nat) (lo : Option Nat) (ln : Nat) (n : Nat) (l1 : Int32) (l2 : Int32) (l3 : Int32) (l4 : Int32) (l5 : Int32) (S : xS) : G112f wb lo ln (n + 1) 0 l1 l2 l3 l4 l5 S = G112b0 wb lo ln (G112f wb lo ln n) n l1 l2 l3 l4 l5 S := if_pos rfl
theorem G112e4 (wb : Nat) (lo : Option Nat) (ln : Nat) (n : Nat) (l1 : Int32) (l2 : Int32) (l3 : Int32) (l4 : Int32) (l5 : Int32) (S : xS) : G112f wb lo ln (n + 1) 4 l1 l2 l3 l4 l5 S = G112b4 wb lo ln (G112f wb lo ln n) n l1 l2 l3 l4 l5 S := (if_neg (by decide)).trans (if_pos rfl)
theorem G112e33 (wb : Nat) (lo : Option Nat) (ln : Nat) (n : Nat) (l1 : Int32) (l2 : Int32) (l3 : Int32) (l4 : Int32) (l5 : Int32) (S : xS) : G112f wb lo ln (n + 1) 33 l1 l2 l3 l4 l5 S = G112b33 wb lo ln (G112f wb lo ln n) n l1 l2 l3 l4 l5 S := (if_neg (by decide)).trans (if_neg (by decide))
def G112 (wb : Nat) (lo : Option Nat) (ln : Nat) (n : Nat) (l1 : Int32) (S : xS) : Option (Int32 × xS) := G112f wb lo ln n 0 l1 0 0 0 0 S
set_option maxRecDepth 20000 in
set_option maxHeartbeats 4000000 in
theorem G112l {xs : Nat → Int32} {L9 d : Nat} {G : gS} {h : Nat → va_E} {wb : Nat} {lo : Option Nat} {ln : Nat} {Q : Option Value → AmH → Prop} {r0 : Int32} {S0 : xS} (hw : wB G wb = true) (hl : lwB G lo ln = true) (hQ : Q (some (.int r0)) (xst S0 G h)) : ∀ n : Nat, (∀ (l1 : Int32) (l2 : Int32) (l3 : Int32) (l4 : Int32) (l5 : Int32) (S : xS), G112f wb lo ln n 0 l1 l2 l3 l4 l5 S = some (r0, S0) → Go (am_X xs L9) (d + 5) 112 0 [.ref 109, .int l1, .float 0, .float 0, .float 0, .float 0] [] (xst S G h) Q) ∧ (∀ (l1 : Int32) (l2 : Int32) (l3 : Int32) (l4 : Int32) (l5 : Int32) (S : xS), G112f wb lo ln n 4 l1 l2 l3 l4 l5 S = some (r0, S0) → Go (am_X xs L9) (d + 5) 112 4 [.ref 109, .float 0, .int l2, .int l3, .float 0, .float 0] [] (xst S G h) Q) ∧ (∀ (l1 : Int32) (l2 : Int32) (l3 : Int32) (l4 : Int32) (l5 : Int32) (S : xS), G112f wb lo ln n 33 l1 l2 l3 l4 l5 S = some (r0, S0) → Go (am_X xs L9) (d + 5) 112 33 [.ref 109, .float 0, .int l2, .int l3, .int l4, .int l5] [] (xst S G h) Q) := by
  intro n
  induction n with
  | zero => exact ⟨fun l1 l2 l3 l4 l5 S hf => (by cases hf), fun l1 l2 l3 l4 l5 S hf => (by cases hf), fun l1 l2 l3 l4 l5 S hf => (by cases hf)⟩
  | succ n ih =>
    refine ⟨?_, ?_, ?_⟩
    · intro l1 l2 l3 l4 l5 S hf
      rw [G112e0] at hf
      unfold G112b0 at hf
      refine r_iload_n fe_112_0 rfl ?_
      refine r_istore_n fe_112_1 (Nat.le_of_ble_eq_true rfl) rfl ?_
      refine r_iconst (v := 0) fe_112_2 (by decide) ?_
      refine r_istore_n fe_112_3 (Nat.le_of_ble_eq_true rfl) rfl ?_
      refine go_weak (L0 := [.ref 109, .float 0, .int l1, .int 0, .float 0, .float 0]) (lwk_c (Or.inl rfl) (lwk_c (Or.inr rfl) (lwk_c (Or.inl rfl) (lwk_c (Or.inl rfl) (lwk_c (Or.inl rfl) (lwk_c (Or.inl rfl) (lwk_rf []))))))) ?_
      exact ih.2.1 0 l1 0 0 0 S hf
    · intro l1 l2 l3 l4 l5 S hf
      rw [G112e4] at hf
      unfold G112b4 at hf
      refine r_iload_n fe_112_4 rfl ?_
      refine r_bipush (v := 60) fe_112_5 (by decide) ?_
      by_cases hb1 : am_ic .ge l3 60 = true
      · rw [if_pos hb1] at hf
        refine r_ic_t (t := 92) fe_112_7 (by decide) hb1 ?_
        refine r_iconst (v := -1) fe_112_92 (by decide) ?_
        refine r_iret fe_112_93 ⟨rfl, by decide⟩ ?_
        exact dfin (P := fun r T => Q (some (.int r)) (xst T G h)) hf hQ
      · rw [if_neg hb1] at hf
        refine r_ic_f (t := 92) fe_112_7 (by decide) (Bool.eq_false_iff.mpr hb1) ?_
        refine r_aload_n fe_112_10 rfl ?_
        by_cases hm2 : S.2.2.2 109 4 = some wb
        rotate_left
        · rw [if_neg hm2] at hf; cases hf
        rw [if_pos hm2] at hf
        refine r_getf (v := .ref wb) fe_112_11 lf_7_31 (x_c xk_109 (by decide)) (x_lt xk_109 (by decide)) (by show some (va_rf _) = _; rw [hm2]; rfl) ?_
        refine r_callV (as := []) (r := []) fe_112_14 lm_7_84 md_113 rfl rfl (Nat.le_of_ble_eq_true rfl) (x_c (wk0 hw) (by decide)) (x_lt (wk0 hw) (by decide)) (Nat.le_of_ble_eq_true rfl) (Nat.le_of_ble_eq_true rfl) ?_
        cases hc4 : G113 wb n  S with
        | none => rw [hc4] at hf; cases hf
        | some z3 =>
          rw [hc4, Option.bind_some] at hf
          refine G113c (r0 := z3.1) (S0 := z3.2) (h0 := hw) (hf := hc4) ?_
          refine r_istore fe_112_17 (Nat.le_of_ble_eq_true rfl) rfl ?_
          refine r_iload fe_112_19 rfl ?_
          by_cases hb5 : am_if .ne z3.1 = true
          · rw [if_pos hb5] at hf
            refine r_if_t (t := 26) fe_112_21 (by decide) hb5 ?_
            refine r_aload_n fe_112_26 rfl ?_
            refine r_callV (as := []) (r := []) fe_112_27 lm_7_68 md_86 rfl rfl (Nat.le_of_ble_eq_true rfl) (x_c xk_109 (by decide)) (x_lt xk_109 (by decide)) (Nat.le_of_ble_eq_true rfl) (Nat.le_of_ble_eq_true rfl) ?_
            cases hc7 : G86 wb lo ln n  z3.2 with
            | none => rw [hc7] at hf; cases hf
            | some z6 =>
              rw [hc7, Option.bind_some] at hf
              refine G86c (r0 := z6.1) (S0 := z6.2) (hw := hw) (hl := hl) (hf := hc7) ?_
              refine r_iconst (v := 0) fe_112_30 (by decide) ?_
              refine r_istore fe_112_31 (Nat.le_of_ble_eq_true rfl) rfl ?_
              refine go_weak (L0 := [.ref 109, .float 0, .int l2, .int l3, .int z3.1, .int 0]) (lwk_c (Or.inl rfl) (lwk_c (Or.inl rfl) (lwk_c (Or.inl rfl) (lwk_c (Or.inl rfl) (lwk_c (Or.inl rfl) (lwk_c (Or.inl rfl) (lwk_rf []))))))) ?_
              exact ih.2.2 0 l2 l3 z3.1 0 z6.2 hf
          · rw [if_neg hb5] at hf
            refine r_if_f (t := 26) fe_112_21 (by decide) (Bool.eq_false_iff.mpr hb5) ?_
            refine r_iconst (v := -1) fe_112_24 (by decide) ?_
            refine r_iret fe_112_25 ⟨rfl, by decide⟩ ?_
            exact dfin (P := fun r T => Q (some (.int r)) (xst T G h)) hf hQ
    · intro l1 l2 l3 l4 l5 S hf
      rw [G112e33] at hf
      unfold G112b33 at hf
      refine r_iload fe_112_33 rfl ?_
      refine r_aload_n fe_112_35 rfl ?_
      by_cases hm8 : S.2.2.2 109 4 = some wb
      rotate_left
      · rw [if_neg hm8] at hf; cases hf
      rw [if_pos hm8] at hf
      refine r_getf (v := .ref wb) fe_112_36 lf_7_31 (x_c xk_109 (by decide)) (x_lt xk_109 (by decide)) (by show some (va_rf _) = _; rw [hm8]; rfl) ?_
      refine r_getf (v := .int (S.1 wb 1)) fe_112_39 lf_7_88 (x_c (wk0 hw) (by decide)) (x_lt (wk0 hw) (by decide)) rfl ?_
      by_cases hb9 : am_ic .ge l5 (S.1 wb 1) = true
      · rw [if_pos hb9] at hf
        refine r_ic_t (t := 86) fe_112_42 (by decide) hb9 ?_
        refine r_iinc (v := (l3 + 1)) fe_112_86 rfl rfl rfl ?_
        refine r_goto (t := 4) fe_112_89 (by decide) ?_
        refine go_weak (L0 := [.ref 109, .float 0, .int l2, .int (l3 + 1), .float 0, .float 0]) (lwk_c (Or.inl rfl) (lwk_c (Or.inl rfl) (lwk_c (Or.inl rfl) (lwk_c (Or.inl rfl) (lwk_c (Or.inr rfl) (lwk_c (Or.inr rfl) (lwk_rf []))))))) ?_
        exact ih.2.1 0 l2 (l3 + 1) 0 0 S hf
      · rw [if_neg hb9] at hf
        refine r_ic_f (t := 86) fe_112_42 (by decide) (Bool.eq_false_iff.mpr hb9) ?_
        refine r_iload fe_112_45 rfl ?_
        refine r_iload fe_112_47 rfl ?_
        refine r_ishr (v := (l4 >>> (l5 &&& 31))) fe_112_49 rfl ?_
        refine r_iconst (v := 1) fe_112_50 (by decide) ?_
        refine r_iand (v := ((l4 >>> (l5 &&& 31)) &&& 1)) fe_112_51 rfl ?_
        refine r_iconst (v := 1) fe_112_52 (by decide) ?_
        by_cases hb10 : am_ic .ne ((l4 >>> (l5 &&& 31)) &&& 1) 1 = true
        · rw [if_pos hb10] at hf
          refine r_ic_t (t := 80) fe_112_53 (by decide) hb10 ?_
          refine r_iinc (v := (l5 + 1)) fe_112_80 rfl rfl rfl ?_
          refine r_goto (t := 33) fe_112_83 (by decide) ?_
          refine go_weak (L0 := [.ref 109, .float 0, .int l2, .int l3, .int l4, .int (l5 + 1)]) (lwk_c (Or.inl rfl) (lwk_c (Or.inl rfl) (lwk_c (Or.inl rfl) (lwk_c (Or.inl rfl) (lwk_c (Or.inl rfl) (lwk_c (Or.inl rfl) (lwk_rf []))))))) ?_
          exact ih.2.2 0 l2 l3 l4 (l5 + 1) S hf
        · rw [if_neg hb10] at hf
          refine r_ic_f (t := 80) fe_112_53 (by decide) (Bool.eq_false_iff.mpr hb10) ?_
          refine r_aload_n fe_112_56 rfl ?_
          refine r_getf (v := .ref wb) fe_112_57 lf_7_31 (x_c xk_109 (by decide)) (x_lt xk_109 (by decide)) (by show some (va_rf _) = _; rw [hm8]; rfl) ?_
          refine r_getf (v := .ref (wb + 6)) fe_112_60 lf_7_91 (x_c (wk0 hw) (by decide)) (x_lt (wk0 hw) (by decide)) rfl ?_
          refine r_iload fe_112_63 rfl ?_
          by_cases hg11 : ¬ (l5 < 0 ∨ 13 ≤ (l5).toNatClampNeg)
          rotate_left
          · rw [if_neg hg11] at hf; cases hf
          rw [if_pos hg11] at hf
          refine r_iald (j := (Int32.toNatClampNeg l5)) (v := S.2.1 (wb + 6) (Int32.toNatClampNeg l5)) fe_112_65 (x_c (wk6 hw) (by decide)) (x_lt (wk6 hw) (by decide)) (fun z => hg11 (Or.inl z)) rfl (fun z => hg11 (Or.inr z)) rfl ?_
          refine r_iconst (v := 1) fe_112_66 (by decide) ?_
          by_cases hb12 : am_ic .ne (S.2.1 (wb + 6) (Int32.toNatClampNeg l5)) 1 = true
          · rw [if_pos hb12] at hf
            refine r_ic_t (t := 80) fe_112_67 (by decide) hb12 ?_
            refine r_iinc (v := (l5 + 1)) fe_112_80 rfl rfl rfl ?_
            refine r_goto (t := 33) fe_112_83 (by decide) ?_
            refine go_weak (L0 := [.ref 109, .float 0, .int l2, .int l3, .int l4, .int (l5 + 1)]) (lwk_c (Or.inl rfl) (lwk_c (Or.inl rfl) (lwk_c (Or.inl rfl) (lwk_c (Or.inl rfl) (lwk_c (Or.inl rfl) (lwk_c (Or.inl rfl) (lwk_rf []))))))) ?_
            exact ih.2.2 0 l2 l3 l4 (l5 + 1) S hf
          · rw [if_neg hb12] at hf
            refine r_ic_f (t := 80) fe_112_67 (by decide) (Bool.eq_false_iff.mpr hb12) ?_
            refine r_iload_n fe_112_70 rfl ?_
            by_cases hb13 : am_if .ne l2 = true
            · rw [if_pos hb13] at hf
              refine r_if_t (t := 77) fe_112_71 (by decide) hb13 ?_
              refine r_iinc (v := (l2 + (-1))) fe_112_77 rfl rfl rfl ?_
              refine r_iinc (v := (l5 + 1)) fe_112_80 rfl rfl rfl ?_
              refine r_goto (t := 33) fe_112_83 (by decide) ?_
              refine go_weak (L0 := [.ref 109, .float 0, .int (l2 + (-1)), .int l3, .int l4, .int (l5 + 1)]) (lwk_c (Or.inl rfl) (lwk_c (Or.inl rfl) (lwk_c (Or.inl rfl) (lwk_c (Or.inl rfl) (lwk_c (Or.inl rfl) (lwk_c (Or.inl rfl) (lwk_rf []))))))) ?_
              exact ih.2.2 0 (l2 + (-1)) l3 l4 (l5 + 1) S hf
            · rw [if_neg hb13] at hf
              refine r_if_f (t := 77) fe_112_71 (by decide) (Bool.eq_false_iff.mpr hb13) ?_
              refine r_iload fe_112_74 rfl ?_
              refine r_iret fe_112_76 ⟨rfl, by decide⟩ ?_
              exact dfin (P := fun r T => Q (some (.int r)) (xst T G h)) hf hQ
theorem G112c {xs : Nat → Int32} {L9 d : Nat} {G : gS} {h : Nat → va_E} {wb : Nat} {lo : Option Nat} {ln : Nat} {n : Nat} {Q : Option Value → AmH → Prop} {r0 : Int32} {S0 S : xS} {l1 : Int32} (hw : wB G wb = true) (hl : lwB G lo ln = true) (hf : G112 wb lo ln n l1 S = some (r0, S0)) (hQ : Q (some (.int r0)) (xst S0 G h)) : Ca (am_X xs L9) (d + 5) 112 [.ref 109, .int l1] (xst S G h) Q := (G112l hw hl hQ n).1 l1 0 0 0 0 S hf
def G111b0 (F : Nat → Int32 → Int32 → (xS × gS) → Option (Int32 × (xS × gS))) (n : Nat) (l1 : Int32) (l2 : Int32) (U : (xS × gS)) : Option (Int32 × (xS × gS)) := ((G82 n  U.1).bind (fun z1 => (if am_if .eq z1.1 = true then some ((-1), (z1.2, U.2)) else (if am_if .lt l1 = true then some ((-1), (z1.2, U.2)) else (if am_if .lt l2 = true then some ((-1), (z1.2, U.2)) else (if am_ic .le l2 2 = true then (if am_ic .lt l1 (z1.2.1 95 1) = true then ((G84 n  z1.2).bind (fun z8 => (if lwB U.2 z8.1 (lawN U.2 z8.1) = true then ((G109 z8.1 n  z8.2).bind (fun z11 => ((G112 110 z8.1 (lawN U.2 z8.1) n l1 z11.2).bind (fun z13 => (if am_if .ge z13.1 = true then (if am_if .ne l2 = true then (if am_ic .ne l2 1 = true then (if z13.2.2.2.2 109 4 = some 110 then (if ¬ (z13.1 < 0 ∨ 13 ≤ (z13.1).toNatClampNeg) then some ((z13.2.2.1 112 (Int32.toNatClampNeg z13.1)), (z13.2, U.2)) else none) else none) else (if z13.2.2.2.2 109 4 = some 110 then (if ¬ (z13.1 < 0 ∨ 13 ≤ (z13.1).toNatClampNeg) then some ((z13.2.2.1 118 (Int32.toNatClampNeg z13.1)), (z13.2, U.2)) else none) else none)) else some (z13.1, (z13.2, U.2))) else some ((-2), (z13.2, U.2))))))) else none))) else some ((-2), (z1.2, U.2))) else some ((-1), (z1.2, U.2))))))))
def G111f : Nat → Nat → Int32 → Int32 → (xS × gS) → Option (Int32 × (xS × gS))
  | 0, _, _, _, _ => none
  | n + 1, c, l1, l2, U => G111b0 (G111f n) n l1 l2 U
theorem G111e0 (n : Nat) (l1 : Int32) (l2 : Int32) (U : (xS × gS)) : G111f (n + 1) 0 l1 l2 U = G111b0 (G111f n) n l1 l2 U := rfl
def G111 (n : Nat) (l1 : Int32) (l2 : Int32) (U : (xS × gS)) : Option (Int32 × (xS × gS)) := G111f n 0 l1 l2 U
set_option maxRecDepth 20000 in
set_option maxHeartbeats 4000000 in
theorem G111l {xs : Nat → Int32} {L9 d : Nat} {h : Nat → va_E} {Q : Option Value → AmH → Prop} {r0 : Int32} {U0 : (xS × gS)} (hQ : Q (some (.int r0)) (xst U0.1 U0.2 h)) : ∀ n : Nat, (∀ (l1 : Int32) (l2 : Int32) (U : (xS × gS)), G111f n 0 l1 l2 U = some (r0, U0) → Go (am_X xs L9) (d + 6) 111 0 [.ref 64, .int l1, .int l2, .float 0] [] (xst U.1 U.2 h) Q) := by
  intro n
  induction n with
  | zero => exact fun l1 l2 U hf => (by cases hf)
  | succ n ih =>
    intro l1 l2 U hf
    rw [G111e0] at hf
    unfold G111b0 at hf
    refine r_aload_n fe_111_0 rfl ?_
    refine r_callV (as := []) (r := []) fe_111_1 lm_11_169 md_82 rfl rfl (Nat.le_of_ble_eq_true rfl) (x_c xk_64 (by decide)) (x_lt xk_64 (by decide)) (Nat.le_of_ble_eq_true rfl) (Nat.le_of_ble_eq_true rfl) ?_
    cases hc2 : G82 n  U.1 with
    | none => rw [hc2] at hf; cases hf
    | some z1 =>
      rw [hc2, Option.bind_some] at hf
      refine G82c (r0 := z1.1) (S0 := z1.2)  (hf := hc2) ?_
      by_cases hb3 : am_if .eq z1.1 = true
      · rw [if_pos hb3] at hf
        refine r_if_t (t := 20) fe_111_4 (by decide) hb3 ?_
        refine r_iconst (v := -1) fe_111_20 (by decide) ?_
        refine r_iret fe_111_21 ⟨rfl, by decide⟩ ?_
        exact dfin (P := fun r T => Q (some (.int r)) (xst T.1 T.2 h)) hf hQ
      · rw [if_neg hb3] at hf
        refine r_if_f (t := 20) fe_111_4 (by decide) (Bool.eq_false_iff.mpr hb3) ?_
        refine r_iload_n fe_111_7 rfl ?_
        by_cases hb4 : am_if .lt l1 = true
        · rw [if_pos hb4] at hf
          refine r_if_t (t := 20) fe_111_8 (by decide) hb4 ?_
          refine r_iconst (v := -1) fe_111_20 (by decide) ?_
          refine r_iret fe_111_21 ⟨rfl, by decide⟩ ?_
          exact dfin (P := fun r T => Q (some (.int r)) (xst T.1 T.2 h)) hf hQ
        · rw [if_neg hb4] at hf
          refine r_if_f (t := 20) fe_111_8 (by decide) (Bool.eq_false_iff.mpr hb4) ?_
          refine r_iload_n fe_111_11 rfl ?_
          by_cases hb5 : am_if .lt l2 = true
          · rw [if_pos hb5] at hf
            refine r_if_t (t := 20) fe_111_12 (by decide) hb5 ?_
            refine r_iconst (v := -1) fe_111_20 (by decide) ?_
            refine r_iret fe_111_21 ⟨rfl, by decide⟩ ?_
            exact dfin (P := fun r T => Q (some (.int r)) (xst T.1 T.2 h)) hf hQ
          · rw [if_neg hb5] at hf
            refine r_if_f (t := 20) fe_111_12 (by decide) (Bool.eq_false_iff.mpr hb5) ?_
            refine r_iload_n fe_111_15 rfl ?_
            refine r_iconst (v := 2) fe_111_16 (by decide) ?_
            by_cases hb6 : am_ic .le l2 2 = true
            · rw [if_pos hb6] at hf
              refine r_ic_t (t := 22) fe_111_17 (by decide) hb6 ?_
              refine r_iload_n fe_111_22 rfl ?_
              refine r_aload_n fe_111_23 rfl ?_
              refine r_getf (v := .ref 88) fe_111_24 lf_11_43 (x_c xk_64 (by decide)) (x_lt xk_64 (by decide)) rfl ?_
              refine r_getf (v := .ref 95) fe_111_27 lf_11_94 (x_c xk_88 (by decide)) (x_lt xk_88 (by decide)) rfl ?_
              refine r_getf (v := .int (z1.2.1 95 1)) fe_111_30 lf_11_113 (x_c xk_95 (by decide)) (x_lt xk_95 (by decide)) rfl ?_
              by_cases hb7 : am_ic .lt l1 (z1.2.1 95 1) = true
              · rw [if_pos hb7] at hf
                refine r_ic_t (t := 39) fe_111_33 (by decide) hb7 ?_
                refine r_aload_n fe_111_39 rfl ?_
                refine r_getf (v := .ref 109) fe_111_40 lf_11_54 (x_c xk_64 (by decide)) (x_lt xk_64 (by decide)) rfl ?_
                refine r_aload_n fe_111_43 rfl ?_
                refine r_getf (v := .ref 88) fe_111_44 lf_11_43 (x_c xk_64 (by decide)) (x_lt xk_64 (by decide)) rfl ?_
                refine r_aload_n fe_111_47 rfl ?_
                refine r_callV (as := []) (r := [.ref 88, .ref 109]) fe_111_48 lm_11_179 md_84 rfl rfl (Nat.le_of_ble_eq_true rfl) (x_c xk_64 (by decide)) (x_lt xk_64 (by decide)) (Nat.le_of_ble_eq_true rfl) (Nat.le_of_ble_eq_true rfl) ?_
                cases hc9 : G84 n  z1.2 with
                | none => rw [hc9] at hf; cases hf
                | some z8 =>
                  rw [hc9, Option.bind_some] at hf
                  refine G84c (r0 := z8.1) (S0 := z8.2)  (hf := hc9) ?_
                  by_cases hb10 : lwB U.2 z8.1 (lawN U.2 z8.1) = true
                  rotate_left
                  · rw [if_neg hb10] at hf; cases hf
                  rw [if_pos hb10] at hf
                  refine r_callV (as := [.ref 88, va_rf z8.1]) (r := []) fe_111_51 lm_11_231 md_109 rfl rfl (Nat.le_of_ble_eq_true rfl) (x_c xk_109 (by decide)) (x_lt xk_109 (by decide)) (Nat.le_of_ble_eq_true rfl) (by cases e9 : z8.1 <;> exact Nat.le_of_ble_eq_true rfl) ?_
                  cases hc12 : G109 z8.1 n  z8.2 with
                  | none => rw [hc12] at hf; cases hf
                  | some z11 =>
                    rw [hc12, Option.bind_some] at hf
                    refine G109c (r0 := z11.1) (S0 := z11.2)  (hf := hc12) ?_
                    refine r_aload_n fe_111_54 rfl ?_
                    refine r_getf (v := .ref 109) fe_111_55 lf_11_54 (x_c xk_64 (by decide)) (x_lt xk_64 (by decide)) rfl ?_
                    refine r_iload_n fe_111_58 rfl ?_
                    refine r_callV (as := [.int l1]) (r := []) fe_111_59 lm_11_239 md_112 rfl rfl (Nat.le_of_ble_eq_true rfl) (x_c xk_109 (by decide)) (x_lt xk_109 (by decide)) (Nat.le_of_ble_eq_true rfl) (Nat.le_of_ble_eq_true rfl) ?_
                    cases hc14 : G112 110 z8.1 (lawN U.2 z8.1) n l1 z11.2 with
                    | none => rw [hc14] at hf; cases hf
                    | some z13 =>
                      rw [hc14, Option.bind_some] at hf
                      refine G112c (r0 := z13.1) (S0 := z13.2) (hw := wS_110) (hl := hb10) (hf := hc14) ?_
                      refine r_istore_n fe_111_62 (Nat.le_of_ble_eq_true rfl) rfl ?_
                      refine r_iload_n fe_111_63 rfl ?_
                      by_cases hb15 : am_if .ge z13.1 = true
                      · rw [if_pos hb15] at hf
                        refine r_if_t (t := 70) fe_111_64 (by decide) hb15 ?_
                        refine r_iload_n fe_111_70 rfl ?_
                        by_cases hb16 : am_if .ne l2 = true
                        · rw [if_pos hb16] at hf
                          refine r_if_t (t := 76) fe_111_71 (by decide) hb16 ?_
                          refine r_iload_n fe_111_76 rfl ?_
                          refine r_iconst (v := 1) fe_111_77 (by decide) ?_
                          by_cases hb17 : am_ic .ne l2 1 = true
                          · rw [if_pos hb17] at hf
                            refine r_ic_t (t := 96) fe_111_78 (by decide) hb17 ?_
                            refine r_aload_n fe_111_96 rfl ?_
                            refine r_getf (v := .ref 109) fe_111_97 lf_11_54 (x_c xk_64 (by decide)) (x_lt xk_64 (by decide)) rfl ?_
                            by_cases hm18 : z13.2.2.2.2 109 4 = some 110
                            rotate_left
                            · rw [if_neg hm18] at hf; cases hf
                            rw [if_pos hm18] at hf
                            refine r_getf (v := .ref 110) fe_111_100 lf_11_238 (x_c xk_109 (by decide)) (x_lt xk_109 (by decide)) (by show some (va_rf _) = _; rw [hm18]; rfl) ?_
                            refine r_getf (v := .ref 112) fe_111_103 lf_11_154 (x_c xk_110 (by decide)) (x_lt xk_110 (by decide)) rfl ?_
                            refine r_iload_n fe_111_106 rfl ?_
                            by_cases hg19 : ¬ (z13.1 < 0 ∨ 13 ≤ (z13.1).toNatClampNeg)
                            rotate_left
                            · rw [if_neg hg19] at hf; cases hf
                            rw [if_pos hg19] at hf
                            refine r_iald (j := (Int32.toNatClampNeg z13.1)) (v := z13.2.2.1 112 (Int32.toNatClampNeg z13.1)) fe_111_107 (x_c xk_112 (by decide)) (x_lt xk_112 (by decide)) (fun z => hg19 (Or.inl z)) rfl (fun z => hg19 (Or.inr z)) rfl ?_
                            refine r_iret fe_111_108 ⟨rfl, by decide⟩ ?_
                            exact dfin (P := fun r T => Q (some (.int r)) (xst T.1 T.2 h)) hf hQ
                          · rw [if_neg hb17] at hf
                            refine r_ic_f (t := 96) fe_111_78 (by decide) (Bool.eq_false_iff.mpr hb17) ?_
                            refine r_aload_n fe_111_81 rfl ?_
                            refine r_getf (v := .ref 109) fe_111_82 lf_11_54 (x_c xk_64 (by decide)) (x_lt xk_64 (by decide)) rfl ?_
                            by_cases hm20 : z13.2.2.2.2 109 4 = some 110
                            rotate_left
                            · rw [if_neg hm20] at hf; cases hf
                            rw [if_pos hm20] at hf
                            refine r_getf (v := .ref 110) fe_111_85 lf_11_238 (x_c xk_109 (by decide)) (x_lt xk_109 (by decide)) (by show some (va_rf _) = _; rw [hm20]; rfl) ?_
                            refine r_getf (v := .ref 118) fe_111_88 lf_11_166 (x_c xk_110 (by decide)) (x_lt xk_110 (by decide)) rfl ?_
                            refine r_iload_n fe_111_91 rfl ?_
                            by_cases hg21 : ¬ (z13.1 < 0 ∨ 13 ≤ (z13.1).toNatClampNeg)
                            rotate_left
                            · rw [if_neg hg21] at hf; cases hf
                            rw [if_pos hg21] at hf
                            refine r_iald (j := (Int32.toNatClampNeg z13.1)) (v := z13.2.2.1 118 (Int32.toNatClampNeg z13.1)) fe_111_92 (x_c xk_118 (by decide)) (x_lt xk_118 (by decide)) (fun z => hg21 (Or.inl z)) rfl (fun z => hg21 (Or.inr z)) rfl ?_
                            refine r_goto (t := 108) fe_111_93 (by decide) ?_
                            refine r_iret fe_111_108 ⟨rfl, by decide⟩ ?_
                            exact dfin (P := fun r T => Q (some (.int r)) (xst T.1 T.2 h)) hf hQ
                        · rw [if_neg hb16] at hf
                          refine r_if_f (t := 76) fe_111_71 (by decide) (Bool.eq_false_iff.mpr hb16) ?_
                          refine r_iload_n fe_111_74 rfl ?_
                          refine r_iret fe_111_75 ⟨rfl, by decide⟩ ?_
                          exact dfin (P := fun r T => Q (some (.int r)) (xst T.1 T.2 h)) hf hQ
                      · rw [if_neg hb15] at hf
                        refine r_if_f (t := 70) fe_111_64 (by decide) (Bool.eq_false_iff.mpr hb15) ?_
                        refine r_bipush (v := -2) fe_111_67 (by decide) ?_
                        refine r_iret fe_111_69 ⟨rfl, by decide⟩ ?_
                        exact dfin (P := fun r T => Q (some (.int r)) (xst T.1 T.2 h)) hf hQ
              · rw [if_neg hb7] at hf
                refine r_ic_f (t := 39) fe_111_33 (by decide) (Bool.eq_false_iff.mpr hb7) ?_
                refine r_bipush (v := -2) fe_111_36 (by decide) ?_
                refine r_iret fe_111_38 ⟨rfl, by decide⟩ ?_
                exact dfin (P := fun r T => Q (some (.int r)) (xst T.1 T.2 h)) hf hQ
            · rw [if_neg hb6] at hf
              refine r_ic_f (t := 22) fe_111_17 (by decide) (Bool.eq_false_iff.mpr hb6) ?_
              refine r_iconst (v := -1) fe_111_20 (by decide) ?_
              refine r_iret fe_111_21 ⟨rfl, by decide⟩ ?_
              exact dfin (P := fun r T => Q (some (.int r)) (xst T.1 T.2 h)) hf hQ
theorem G111c {xs : Nat → Int32} {L9 d : Nat} {h : Nat → va_E} {n : Nat} {Q : Option Value → AmH → Prop} {r0 : Int32} {U0 U : (xS × gS)} {l1 : Int32} {l2 : Int32} (hf : G111 n l1 l2 U = some (r0, U0)) (hQ : Q (some (.int r0)) (xst U0.1 U0.2 h)) : Ca (am_X xs L9) (d + 6) 111 [.ref 64, .int l1, .int l2] (xst U.1 U.2 h) Q := (G111l hQ n) l1 l2 U hf
def G117b0 (F : Nat → Int32 → xS → Option (Int32 × xS)) (n : Nat) (l0 : Int32) (S : xS) : Option (Int32 × xS) := (if am_if .gt ((l0 ^^^ (-1)) &&& (l0 - 1)) = true then (if am_ic .le ((l0 ^^^ (-1)) &&& (l0 - 1)) 65536 = true then (if am_ic .le ((l0 ^^^ (-1)) &&& (l0 - 1)) 256 = true then (if am_ic .le ((l0 ^^^ (-1)) &&& (l0 - 1)) 16 = true then (if am_ic .le ((l0 ^^^ (-1)) &&& (l0 - 1)) 4 = true then some ((1 + (Int32.toUInt32 ((l0 ^^^ (-1)) &&& (l0 - 1)) >>> (Int32.toUInt32 1 &&& Int32.toUInt32 31)).toInt32), S) else some ((3 + (Int32.toUInt32 ((Int32.toUInt32 ((l0 ^^^ (-1)) &&& (l0 - 1)) >>> (Int32.toUInt32 2 &&& Int32.toUInt32 31)).toInt32) >>> (Int32.toUInt32 1 &&& Int32.toUInt32 31)).toInt32), S)) else (if am_ic .le ((Int32.toUInt32 ((l0 ^^^ (-1)) &&& (l0 - 1)) >>> (Int32.toUInt32 4 &&& Int32.toUInt32 31)).toInt32) 4 = true then some ((5 + (Int32.toUInt32 ((Int32.toUInt32 ((l0 ^^^ (-1)) &&& (l0 - 1)) >>> (Int32.toUInt32 4 &&& Int32.toUInt32 31)).toInt32) >>> (Int32.toUInt32 1 &&& Int32.toUInt32 31)).toInt32), S) else some ((7 + (Int32.toUInt32 ((Int32.toUInt32 ((Int32.toUInt32 ((l0 ^^^ (-1)) &&& (l0 - 1)) >>> (Int32.toUInt32 4 &&& Int32.toUInt32 31)).toInt32) >>> (Int32.toUInt32 2 &&& Int32.toUInt32 31)).toInt32) >>> (Int32.toUInt32 1 &&& Int32.toUInt32 31)).toInt32), S))) else (if am_ic .le ((Int32.toUInt32 ((l0 ^^^ (-1)) &&& (l0 - 1)) >>> (Int32.toUInt32 8 &&& Int32.toUInt32 31)).toInt32) 16 = true then (if am_ic .le ((Int32.toUInt32 ((l0 ^^^ (-1)) &&& (l0 - 1)) >>> (Int32.toUInt32 8 &&& Int32.toUInt32 31)).toInt32) 4 = true then some ((9 + (Int32.toUInt32 ((Int32.toUInt32 ((l0 ^^^ (-1)) &&& (l0 - 1)) >>> (Int32.toUInt32 8 &&& Int32.toUInt32 31)).toInt32) >>> (Int32.toUInt32 1 &&& Int32.toUInt32 31)).toInt32), S) else some ((11 + (Int32.toUInt32 ((Int32.toUInt32 ((Int32.toUInt32 ((l0 ^^^ (-1)) &&& (l0 - 1)) >>> (Int32.toUInt32 8 &&& Int32.toUInt32 31)).toInt32) >>> (Int32.toUInt32 2 &&& Int32.toUInt32 31)).toInt32) >>> (Int32.toUInt32 1 &&& Int32.toUInt32 31)).toInt32), S)) else (if am_ic .le ((Int32.toUInt32 ((Int32.toUInt32 ((l0 ^^^ (-1)) &&& (l0 - 1)) >>> (Int32.toUInt32 8 &&& Int32.toUInt32 31)).toInt32) >>> (Int32.toUInt32 4 &&& Int32.toUInt32 31)).toInt32) 4 = true then some ((13 + (Int32.toUInt32 ((Int32.toUInt32 ((Int32.toUInt32 ((l0 ^^^ (-1)) &&& (l0 - 1)) >>> (Int32.toUInt32 8 &&& Int32.toUInt32 31)).toInt32) >>> (Int32.toUInt32 4 &&& Int32.toUInt32 31)).toInt32) >>> (Int32.toUInt32 1 &&& Int32.toUInt32 31)).toInt32), S) else some ((15 + (Int32.toUInt32 ((Int32.toUInt32 ((Int32.toUInt32 ((Int32.toUInt32 ((l0 ^^^ (-1)) &&& (l0 - 1)) >>> (Int32.toUInt32 8 &&& Int32.toUInt32 31)).toInt32) >>> (Int32.toUInt32 4 &&& Int32.toUInt32 31)).toInt32) >>> (Int32.toUInt32 2 &&& Int32.toUInt32 31)).toInt32) >>> (Int32.toUInt32 1 &&& Int32.toUInt32 31)).toInt32), S)))) else (if am_ic .le ((Int32.toUInt32 ((l0 ^^^ (-1)) &&& (l0 - 1)) >>> (Int32.toUInt32 16 &&& Int32.toUInt32 31)).toInt32) 256 = true then (if am_ic .le ((Int32.toUInt32 ((l0 ^^^ (-1)) &&& (l0 - 1)) >>> (Int32.toUInt32 16 &&& Int32.toUInt32 31)).toInt32) 16 = true then (if am_ic .le ((Int32.toUInt32 ((l0 ^^^ (-1)) &&& (l0 - 1)) >>> (Int32.toUInt32 16 &&& Int32.toUInt32 31)).toInt32) 4 = true then some ((17 + (Int32.toUInt32 ((Int32.toUInt32 ((l0 ^^^ (-1)) &&& (l0 - 1)) >>> (Int32.toUInt32 16 &&& Int32.toUInt32 31)).toInt32) >>> (Int32.toUInt32 1 &&& Int32.toUInt32 31)).toInt32), S) else some ((19 + (Int32.toUInt32 ((Int32.toUInt32 ((Int32.toUInt32 ((l0 ^^^ (-1)) &&& (l0 - 1)) >>> (Int32.toUInt32 16 &&& Int32.toUInt32 31)).toInt32) >>> (Int32.toUInt32 2 &&& Int32.toUInt32 31)).toInt32) >>> (Int32.toUInt32 1 &&& Int32.toUInt32 31)).toInt32), S)) else (if am_ic .le ((Int32.toUInt32 ((Int32.toUInt32 ((l0 ^^^ (-1)) &&& (l0 - 1)) >>> (Int32.toUInt32 16 &&& Int32.toUInt32 31)).toInt32) >>> (Int32.toUInt32 4 &&& Int32.toUInt32 31)).toInt32) 4 = true then some ((21 + (Int32.toUInt32 ((Int32.toUInt32 ((Int32.toUInt32 ((l0 ^^^ (-1)) &&& (l0 - 1)) >>> (Int32.toUInt32 16 &&& Int32.toUInt32 31)).toInt32) >>> (Int32.toUInt32 4 &&& Int32.toUInt32 31)).toInt32) >>> (Int32.toUInt32 1 &&& Int32.toUInt32 31)).toInt32), S) else some ((23 + (Int32.toUInt32 ((Int32.toUInt32 ((Int32.toUInt32 ((Int32.toUInt32 ((l0 ^^^ (-1)) &&& (l0 - 1)) >>> (Int32.toUInt32 16 &&& Int32.toUInt32 31)).toInt32) >>> (Int32.toUInt32 4 &&& Int32.toUInt32 31)).toInt32) >>> (Int32.toUInt32 2 &&& Int32.toUInt32 31)).toInt32) >>> (Int32.toUInt32 1 &&& Int32.toUInt32 31)).toInt32), S))) else (if am_ic .le ((Int32.toUInt32 ((Int32.toUInt32 ((l0 ^^^ (-1)) &&& (l0 - 1)) >>> (Int32.toUInt32 16 &&& Int32.toUInt32 31)).toInt32) >>> (Int32.toUInt32 8 &&& Int32.toUInt32 31)).toInt32) 16 = true then (if am_ic .le ((Int32.toUInt32 ((Int32.toUInt32 ((l0 ^^^ (-1)) &&& (l0 - 1)) >>> (Int32.toUInt32 16 &&& Int32.toUInt32 31)).toInt32) >>> (Int32.toUInt32 8 &&& Int32.toUInt32 31)).toInt32) 4 = true then some ((25 + (Int32.toUInt32 ((Int32.toUInt32 ((Int32.toUInt32 ((l0 ^^^ (-1)) &&& (l0 - 1)) >>> (Int32.toUInt32 16 &&& Int32.toUInt32 31)).toInt32) >>> (Int32.toUInt32 8 &&& Int32.toUInt32 31)).toInt32) >>> (Int32.toUInt32 1 &&& Int32.toUInt32 31)).toInt32), S) else some ((27 + (Int32.toUInt32 ((Int32.toUInt32 ((Int32.toUInt32 ((Int32.toUInt32 ((l0 ^^^ (-1)) &&& (l0 - 1)) >>> (Int32.toUInt32 16 &&& Int32.toUInt32 31)).toInt32) >>> (Int32.toUInt32 8 &&& Int32.toUInt32 31)).toInt32) >>> (Int32.toUInt32 2 &&& Int32.toUInt32 31)).toInt32) >>> (Int32.toUInt32 1 &&& Int32.toUInt32 31)).toInt32), S)) else (if am_ic .le ((Int32.toUInt32 ((Int32.toUInt32 ((Int32.toUInt32 ((l0 ^^^ (-1)) &&& (l0 - 1)) >>> (Int32.toUInt32 16 &&& Int32.toUInt32 31)).toInt32) >>> (Int32.toUInt32 8 &&& Int32.toUInt32 31)).toInt32) >>> (Int32.toUInt32 4 &&& Int32.toUInt32 31)).toInt32) 4 = true then some ((29 + (Int32.toUInt32 ((Int32.toUInt32 ((Int32.toUInt32 ((Int32.toUInt32 ((l0 ^^^ (-1)) &&& (l0 - 1)) >>> (Int32.toUInt32 16 &&& Int32.toUInt32 31)).toInt32) >>> (Int32.toUInt32 8 &&& Int32.toUInt32 31)).toInt32) >>> (Int32.toUInt32 4 &&& Int32.toUInt32 31)).toInt32) >>> (Int32.toUInt32 1 &&& Int32.toUInt32 31)).toInt32), S) else some ((31 + (Int32.toUInt32 ((Int32.toUInt32 ((Int32.toUInt32 ((Int32.toUInt32 ((Int32.toUInt32 ((l0 ^^^ (-1)) &&& (l0 - 1)) >>> (Int32.toUInt32 16 &&& Int32.toUInt32 31)).toInt32) >>> (Int32.toUInt32 8 &&& Int32.toUInt32 31)).toInt32) >>> (Int32.toUInt32 4 &&& Int32.toUInt32 31)).toInt32) >>> (Int32.toUInt32 2 &&& Int32.toUInt32 31)).toInt32) >>> (Int32.toUInt32 1 &&& Int32.toUInt32 31)).toInt32), S))))) else some ((((l0 ^^^ (-1)) &&& (l0 - 1)) &&& 32), S))
def G117f : Nat → Nat → Int32 → xS → Option (Int32 × xS)
  | 0, _, _, _ => none
  | n + 1, c, l0, S => G117b0 (G117f n) n l0 S
theorem G117e0 (n : Nat) (l0 : Int32) (S : xS) : G117f (n + 1) 0 l0 S = G117b0 (G117f n) n l0 S := rfl
def G117 (n : Nat) (l0 : Int32) (S : xS) : Option (Int32 × xS) := G117f n 0 l0 S
set_option maxRecDepth 20000 in
set_option maxHeartbeats 4000000 in
theorem G117l {xs : Nat → Int32} {L9 d : Nat} {G : gS} {h : Nat → va_E} {Q : Option Value → AmH → Prop} {r0 : Int32} {S0 : xS} (hQ : Q (some (.int r0)) (xst S0 G h)) : ∀ n : Nat, (∀ (l0 : Int32) (S : xS), G117f n 0 l0 S = some (r0, S0) → Go (am_X xs L9) (d + 0) 117 0 [.int l0, .float 0] [] (xst S G h) Q) := by
  intro n
  induction n with
  | zero => exact fun l0 S hf => (by cases hf)
  | succ n ih =>
    intro l0 S hf
    rw [G117e0] at hf
    unfold G117b0 at hf
    refine r_iload_n fe_117_0 rfl ?_
    refine r_iconst (v := -1) fe_117_1 (by decide) ?_
    refine r_ixor (v := (l0 ^^^ (-1))) fe_117_2 rfl ?_
    refine r_iload_n fe_117_3 rfl ?_
    refine r_iconst (v := 1) fe_117_4 (by decide) ?_
    refine r_isub (v := (l0 - 1)) fe_117_5 rfl ?_
    refine r_iand (v := ((l0 ^^^ (-1)) &&& (l0 - 1))) fe_117_6 rfl ?_
    refine r_istore_n fe_117_7 (Nat.le_of_ble_eq_true rfl) rfl ?_
    refine r_iload_n fe_117_8 rfl ?_
    by_cases hb1 : am_if .gt ((l0 ^^^ (-1)) &&& (l0 - 1)) = true
    · rw [if_pos hb1] at hf
      refine r_if_t (t := 17) fe_117_9 (by decide) hb1 ?_
      refine r_iconst (v := 1) fe_117_17 (by decide) ?_
      refine r_istore_n fe_117_18 (Nat.le_of_ble_eq_true rfl) rfl ?_
      refine r_iload_n fe_117_19 rfl ?_
      refine r_ldc_w fe_117_20 lk_15_264 ?_
      by_cases hb2 : am_ic .le ((l0 ^^^ (-1)) &&& (l0 - 1)) 65536 = true
      · rw [if_pos hb2] at hf
        refine r_ic_t (t := 34) fe_117_23 (by decide) hb2 ?_
        refine r_iload_n fe_117_34 rfl ?_
        refine r_sipush (v := 256) fe_117_35 (by decide) ?_
        by_cases hb3 : am_ic .le ((l0 ^^^ (-1)) &&& (l0 - 1)) 256 = true
        · rw [if_pos hb3] at hf
          refine r_ic_t (t := 49) fe_117_38 (by decide) hb3 ?_
          refine r_iload_n fe_117_49 rfl ?_
          refine r_bipush (v := 16) fe_117_50 (by decide) ?_
          by_cases hb4 : am_ic .le ((l0 ^^^ (-1)) &&& (l0 - 1)) 16 = true
          · rw [if_pos hb4] at hf
            refine r_ic_t (t := 62) fe_117_52 (by decide) hb4 ?_
            refine r_iload_n fe_117_62 rfl ?_
            refine r_iconst (v := 4) fe_117_63 (by decide) ?_
            by_cases hb5 : am_ic .le ((l0 ^^^ (-1)) &&& (l0 - 1)) 4 = true
            · rw [if_pos hb5] at hf
              refine r_ic_t (t := 74) fe_117_64 (by decide) hb5 ?_
              refine r_iload_n fe_117_74 rfl ?_
              refine r_iload_n fe_117_75 rfl ?_
              refine r_iconst (v := 1) fe_117_76 (by decide) ?_
              refine r_iushr (v := (Int32.toUInt32 ((l0 ^^^ (-1)) &&& (l0 - 1)) >>> (Int32.toUInt32 1 &&& Int32.toUInt32 31)).toInt32) fe_117_77 rfl ?_
              refine r_iadd (v := (1 + (Int32.toUInt32 ((l0 ^^^ (-1)) &&& (l0 - 1)) >>> (Int32.toUInt32 1 &&& Int32.toUInt32 31)).toInt32)) fe_117_78 rfl ?_
              refine r_iret fe_117_79 ⟨rfl, by decide⟩ ?_
              exact dfin (P := fun r T => Q (some (.int r)) (xst T G h)) hf hQ
            · rw [if_neg hb5] at hf
              refine r_ic_f (t := 74) fe_117_64 (by decide) (Bool.eq_false_iff.mpr hb5) ?_
              refine r_iinc (v := 3) fe_117_67 rfl (by decide) rfl ?_
              refine r_iload_n fe_117_70 rfl ?_
              refine r_iconst (v := 2) fe_117_71 (by decide) ?_
              refine r_iushr (v := (Int32.toUInt32 ((l0 ^^^ (-1)) &&& (l0 - 1)) >>> (Int32.toUInt32 2 &&& Int32.toUInt32 31)).toInt32) fe_117_72 rfl ?_
              refine r_istore_n fe_117_73 (Nat.le_of_ble_eq_true rfl) rfl ?_
              refine r_iload_n fe_117_74 rfl ?_
              refine r_iload_n fe_117_75 rfl ?_
              refine r_iconst (v := 1) fe_117_76 (by decide) ?_
              refine r_iushr (v := (Int32.toUInt32 ((Int32.toUInt32 ((l0 ^^^ (-1)) &&& (l0 - 1)) >>> (Int32.toUInt32 2 &&& Int32.toUInt32 31)).toInt32) >>> (Int32.toUInt32 1 &&& Int32.toUInt32 31)).toInt32) fe_117_77 rfl ?_
              refine r_iadd (v := (3 + (Int32.toUInt32 ((Int32.toUInt32 ((l0 ^^^ (-1)) &&& (l0 - 1)) >>> (Int32.toUInt32 2 &&& Int32.toUInt32 31)).toInt32) >>> (Int32.toUInt32 1 &&& Int32.toUInt32 31)).toInt32)) fe_117_78 rfl ?_
              refine r_iret fe_117_79 ⟨rfl, by decide⟩ ?_
              exact dfin (P := fun r T => Q (some (.int r)) (xst T G h)) hf hQ
          · rw [if_neg hb4] at hf
            refine r_ic_f (t := 62) fe_117_52 (by decide) (Bool.eq_false_iff.mpr hb4) ?_
            refine r_iinc (v := 5) fe_117_55 rfl (by decide) rfl ?_
            refine r_iload_n fe_117_58 rfl ?_
            refine r_iconst (v := 4) fe_117_59 (by decide) ?_
            refine r_iushr (v := (Int32.toUInt32 ((l0 ^^^ (-1)) &&& (l0 - 1)) >>> (Int32.toUInt32 4 &&& Int32.toUInt32 31)).toInt32) fe_117_60 rfl ?_
            refine r_istore_n fe_117_61 (Nat.le_of_ble_eq_true rfl) rfl ?_
            refine r_iload_n fe_117_62 rfl ?_
            refine r_iconst (v := 4) fe_117_63 (by decide) ?_
            by_cases hb6 : am_ic .le ((Int32.toUInt32 ((l0 ^^^ (-1)) &&& (l0 - 1)) >>> (Int32.toUInt32 4 &&& Int32.toUInt32 31)).toInt32) 4 = true
            · rw [if_pos hb6] at hf
              refine r_ic_t (t := 74) fe_117_64 (by decide) hb6 ?_
              refine r_iload_n fe_117_74 rfl ?_
              refine r_iload_n fe_117_75 rfl ?_
              refine r_iconst (v := 1) fe_117_76 (by decide) ?_
              refine r_iushr (v := (Int32.toUInt32 ((Int32.toUInt32 ((l0 ^^^ (-1)) &&& (l0 - 1)) >>> (Int32.toUInt32 4 &&& Int32.toUInt32 31)).toInt32) >>> (Int32.toUInt32 1 &&& Int32.toUInt32 31)).toInt32) fe_117_77 rfl ?_
              refine r_iadd (v := (5 + (Int32.toUInt32 ((Int32.toUInt32 ((l0 ^^^ (-1)) &&& (l0 - 1)) >>> (Int32.toUInt32 4 &&& Int32.toUInt32 31)).toInt32) >>> (Int32.toUInt32 1 &&& Int32.toUInt32 31)).toInt32)) fe_117_78 rfl ?_
              refine r_iret fe_117_79 ⟨rfl, by decide⟩ ?_
              exact dfin (P := fun r T => Q (some (.int r)) (xst T G h)) hf hQ
            · rw [if_neg hb6] at hf
              refine r_ic_f (t := 74) fe_117_64 (by decide) (Bool.eq_false_iff.mpr hb6) ?_
              refine r_iinc (v := 7) fe_117_67 rfl (by decide) rfl ?_
              refine r_iload_n fe_117_70 rfl ?_
              refine r_iconst (v := 2) fe_117_71 (by decide) ?_
              refine r_iushr (v := (Int32.toUInt32 ((Int32.toUInt32 ((l0 ^^^ (-1)) &&& (l0 - 1)) >>> (Int32.toUInt32 4 &&& Int32.toUInt32 31)).toInt32) >>> (Int32.toUInt32 2 &&& Int32.toUInt32 31)).toInt32) fe_117_72 rfl ?_
              refine r_istore_n fe_117_73 (Nat.le_of_ble_eq_true rfl) rfl ?_
              refine r_iload_n fe_117_74 rfl ?_
              refine r_iload_n fe_117_75 rfl ?_
              refine r_iconst (v := 1) fe_117_76 (by decide) ?_
              refine r_iushr (v := (Int32.toUInt32 ((Int32.toUInt32 ((Int32.toUInt32 ((l0 ^^^ (-1)) &&& (l0 - 1)) >>> (Int32.toUInt32 4 &&& Int32.toUInt32 31)).toInt32) >>> (Int32.toUInt32 2 &&& Int32.toUInt32 31)).toInt32) >>> (Int32.toUInt32 1 &&& Int32.toUInt32 31)).toInt32) fe_117_77 rfl ?_
              refine r_iadd (v := (7 + (Int32.toUInt32 ((Int32.toUInt32 ((Int32.toUInt32 ((l0 ^^^ (-1)) &&& (l0 - 1)) >>> (Int32.toUInt32 4 &&& Int32.toUInt32 31)).toInt32) >>> (Int32.toUInt32 2 &&& Int32.toUInt32 31)).toInt32) >>> (Int32.toUInt32 1 &&& Int32.toUInt32 31)).toInt32)) fe_117_78 rfl ?_
              refine r_iret fe_117_79 ⟨rfl, by decide⟩ ?_
              exact dfin (P := fun r T => Q (some (.int r)) (xst T G h)) hf hQ
        · rw [if_neg hb3] at hf
          refine r_ic_f (t := 49) fe_117_38 (by decide) (Bool.eq_false_iff.mpr hb3) ?_
          refine r_iinc (v := 9) fe_117_41 rfl (by decide) rfl ?_
          refine r_iload_n fe_117_44 rfl ?_
          refine r_bipush (v := 8) fe_117_45 (by decide) ?_
          refine r_iushr (v := (Int32.toUInt32 ((l0 ^^^ (-1)) &&& (l0 - 1)) >>> (Int32.toUInt32 8 &&& Int32.toUInt32 31)).toInt32) fe_117_47 rfl ?_
          refine r_istore_n fe_117_48 (Nat.le_of_ble_eq_true rfl) rfl ?_
          refine r_iload_n fe_117_49 rfl ?_
          refine r_bipush (v := 16) fe_117_50 (by decide) ?_
          by_cases hb7 : am_ic .le ((Int32.toUInt32 ((l0 ^^^ (-1)) &&& (l0 - 1)) >>> (Int32.toUInt32 8 &&& Int32.toUInt32 31)).toInt32) 16 = true
          · rw [if_pos hb7] at hf
            refine r_ic_t (t := 62) fe_117_52 (by decide) hb7 ?_
            refine r_iload_n fe_117_62 rfl ?_
            refine r_iconst (v := 4) fe_117_63 (by decide) ?_
            by_cases hb8 : am_ic .le ((Int32.toUInt32 ((l0 ^^^ (-1)) &&& (l0 - 1)) >>> (Int32.toUInt32 8 &&& Int32.toUInt32 31)).toInt32) 4 = true
            · rw [if_pos hb8] at hf
              refine r_ic_t (t := 74) fe_117_64 (by decide) hb8 ?_
              refine r_iload_n fe_117_74 rfl ?_
              refine r_iload_n fe_117_75 rfl ?_
              refine r_iconst (v := 1) fe_117_76 (by decide) ?_
              refine r_iushr (v := (Int32.toUInt32 ((Int32.toUInt32 ((l0 ^^^ (-1)) &&& (l0 - 1)) >>> (Int32.toUInt32 8 &&& Int32.toUInt32 31)).toInt32) >>> (Int32.toUInt32 1 &&& Int32.toUInt32 31)).toInt32) fe_117_77 rfl ?_
              refine r_iadd (v := (9 + (Int32.toUInt32 ((Int32.toUInt32 ((l0 ^^^ (-1)) &&& (l0 - 1)) >>> (Int32.toUInt32 8 &&& Int32.toUInt32 31)).toInt32) >>> (Int32.toUInt32 1 &&& Int32.toUInt32 31)).toInt32)) fe_117_78 rfl ?_
              refine r_iret fe_117_79 ⟨rfl, by decide⟩ ?_
              exact dfin (P := fun r T => Q (some (.int r)) (xst T G h)) hf hQ
            · rw [if_neg hb8] at hf
              refine r_ic_f (t := 74) fe_117_64 (by decide) (Bool.eq_false_iff.mpr hb8) ?_
              refine r_iinc (v := 11) fe_117_67 rfl (by decide) rfl ?_
              refine r_iload_n fe_117_70 rfl ?_
              refine r_iconst (v := 2) fe_117_71 (by decide) ?_
              refine r_iushr (v := (Int32.toUInt32 ((Int32.toUInt32 ((l0 ^^^ (-1)) &&& (l0 - 1)) >>> (Int32.toUInt32 8 &&& Int32.toUInt32 31)).toInt32) >>> (Int32.toUInt32 2 &&& Int32.toUInt32 31)).toInt32) fe_117_72 rfl ?_
              refine r_istore_n fe_117_73 (Nat.le_of_ble_eq_true rfl) rfl ?_
              refine r_iload_n fe_117_74 rfl ?_
              refine r_iload_n fe_117_75 rfl ?_
              refine r_iconst (v := 1) fe_117_76 (by decide) ?_
              refine r_iushr (v := (Int32.toUInt32 ((Int32.toUInt32 ((Int32.toUInt32 ((l0 ^^^ (-1)) &&& (l0 - 1)) >>> (Int32.toUInt32 8 &&& Int32.toUInt32 31)).toInt32) >>> (Int32.toUInt32 2 &&& Int32.toUInt32 31)).toInt32) >>> (Int32.toUInt32 1 &&& Int32.toUInt32 31)).toInt32) fe_117_77 rfl ?_
              refine r_iadd (v := (11 + (Int32.toUInt32 ((Int32.toUInt32 ((Int32.toUInt32 ((l0 ^^^ (-1)) &&& (l0 - 1)) >>> (Int32.toUInt32 8 &&& Int32.toUInt32 31)).toInt32) >>> (Int32.toUInt32 2 &&& Int32.toUInt32 31)).toInt32) >>> (Int32.toUInt32 1 &&& Int32.toUInt32 31)).toInt32)) fe_117_78 rfl ?_
              refine r_iret fe_117_79 ⟨rfl, by decide⟩ ?_
              exact dfin (P := fun r T => Q (some (.int r)) (xst T G h)) hf hQ
          · rw [if_neg hb7] at hf
            refine r_ic_f (t := 62) fe_117_52 (by decide) (Bool.eq_false_iff.mpr hb7) ?_
            refine r_iinc (v := 13) fe_117_55 rfl (by decide) rfl ?_
            refine r_iload_n fe_117_58 rfl ?_
            refine r_iconst (v := 4) fe_117_59 (by decide) ?_
            refine r_iushr (v := (Int32.toUInt32 ((Int32.toUInt32 ((l0 ^^^ (-1)) &&& (l0 - 1)) >>> (Int32.toUInt32 8 &&& Int32.toUInt32 31)).toInt32) >>> (Int32.toUInt32 4 &&& Int32.toUInt32 31)).toInt32) fe_117_60 rfl ?_
            refine r_istore_n fe_117_61 (Nat.le_of_ble_eq_true rfl) rfl ?_
            refine r_iload_n fe_117_62 rfl ?_
            refine r_iconst (v := 4) fe_117_63 (by decide) ?_
            by_cases hb9 : am_ic .le ((Int32.toUInt32 ((Int32.toUInt32 ((l0 ^^^ (-1)) &&& (l0 - 1)) >>> (Int32.toUInt32 8 &&& Int32.toUInt32 31)).toInt32) >>> (Int32.toUInt32 4 &&& Int32.toUInt32 31)).toInt32) 4 = true
            · rw [if_pos hb9] at hf
              refine r_ic_t (t := 74) fe_117_64 (by decide) hb9 ?_
              refine r_iload_n fe_117_74 rfl ?_
              refine r_iload_n fe_117_75 rfl ?_
              refine r_iconst (v := 1) fe_117_76 (by decide) ?_
              refine r_iushr (v := (Int32.toUInt32 ((Int32.toUInt32 ((Int32.toUInt32 ((l0 ^^^ (-1)) &&& (l0 - 1)) >>> (Int32.toUInt32 8 &&& Int32.toUInt32 31)).toInt32) >>> (Int32.toUInt32 4 &&& Int32.toUInt32 31)).toInt32) >>> (Int32.toUInt32 1 &&& Int32.toUInt32 31)).toInt32) fe_117_77 rfl ?_
              refine r_iadd (v := (13 + (Int32.toUInt32 ((Int32.toUInt32 ((Int32.toUInt32 ((l0 ^^^ (-1)) &&& (l0 - 1)) >>> (Int32.toUInt32 8 &&& Int32.toUInt32 31)).toInt32) >>> (Int32.toUInt32 4 &&& Int32.toUInt32 31)).toInt32) >>> (Int32.toUInt32 1 &&& Int32.toUInt32 31)).toInt32)) fe_117_78 rfl ?_
              refine r_iret fe_117_79 ⟨rfl, by decide⟩ ?_
              exact dfin (P := fun r T => Q (some (.int r)) (xst T G h)) hf hQ
            · rw [if_neg hb9] at hf
              refine r_ic_f (t := 74) fe_117_64 (by decide) (Bool.eq_false_iff.mpr hb9) ?_
              refine r_iinc (v := 15) fe_117_67 rfl (by decide) rfl ?_
              refine r_iload_n fe_117_70 rfl ?_
              refine r_iconst (v := 2) fe_117_71 (by decide) ?_
              refine r_iushr (v := (Int32.toUInt32 ((Int32.toUInt32 ((Int32.toUInt32 ((l0 ^^^ (-1)) &&& (l0 - 1)) >>> (Int32.toUInt32 8 &&& Int32.toUInt32 31)).toInt32) >>> (Int32.toUInt32 4 &&& Int32.toUInt32 31)).toInt32) >>> (Int32.toUInt32 2 &&& Int32.toUInt32 31)).toInt32) fe_117_72 rfl ?_
              refine r_istore_n fe_117_73 (Nat.le_of_ble_eq_true rfl) rfl ?_
              refine r_iload_n fe_117_74 rfl ?_
              refine r_iload_n fe_117_75 rfl ?_
              refine r_iconst (v := 1) fe_117_76 (by decide) ?_
              refine r_iushr (v := (Int32.toUInt32 ((Int32.toUInt32 ((Int32.toUInt32 ((Int32.toUInt32 ((l0 ^^^ (-1)) &&& (l0 - 1)) >>> (Int32.toUInt32 8 &&& Int32.toUInt32 31)).toInt32) >>> (Int32.toUInt32 4 &&& Int32.toUInt32 31)).toInt32) >>> (Int32.toUInt32 2 &&& Int32.toUInt32 31)).toInt32) >>> (Int32.toUInt32 1 &&& Int32.toUInt32 31)).toInt32) fe_117_77 rfl ?_
              refine r_iadd (v := (15 + (Int32.toUInt32 ((Int32.toUInt32 ((Int32.toUInt32 ((Int32.toUInt32 ((l0 ^^^ (-1)) &&& (l0 - 1)) >>> (Int32.toUInt32 8 &&& Int32.toUInt32 31)).toInt32) >>> (Int32.toUInt32 4 &&& Int32.toUInt32 31)).toInt32) >>> (Int32.toUInt32 2 &&& Int32.toUInt32 31)).toInt32) >>> (Int32.toUInt32 1 &&& Int32.toUInt32 31)).toInt32)) fe_117_78 rfl ?_
              refine r_iret fe_117_79 ⟨rfl, by decide⟩ ?_
              exact dfin (P := fun r T => Q (some (.int r)) (xst T G h)) hf hQ
      · rw [if_neg hb2] at hf
        refine r_ic_f (t := 34) fe_117_23 (by decide) (Bool.eq_false_iff.mpr hb2) ?_
        refine r_iinc (v := 17) fe_117_26 rfl (by decide) rfl ?_
        refine r_iload_n fe_117_29 rfl ?_
        refine r_bipush (v := 16) fe_117_30 (by decide) ?_
        refine r_iushr (v := (Int32.toUInt32 ((l0 ^^^ (-1)) &&& (l0 - 1)) >>> (Int32.toUInt32 16 &&& Int32.toUInt32 31)).toInt32) fe_117_32 rfl ?_
        refine r_istore_n fe_117_33 (Nat.le_of_ble_eq_true rfl) rfl ?_
        refine r_iload_n fe_117_34 rfl ?_
        refine r_sipush (v := 256) fe_117_35 (by decide) ?_
        by_cases hb10 : am_ic .le ((Int32.toUInt32 ((l0 ^^^ (-1)) &&& (l0 - 1)) >>> (Int32.toUInt32 16 &&& Int32.toUInt32 31)).toInt32) 256 = true
        · rw [if_pos hb10] at hf
          refine r_ic_t (t := 49) fe_117_38 (by decide) hb10 ?_
          refine r_iload_n fe_117_49 rfl ?_
          refine r_bipush (v := 16) fe_117_50 (by decide) ?_
          by_cases hb11 : am_ic .le ((Int32.toUInt32 ((l0 ^^^ (-1)) &&& (l0 - 1)) >>> (Int32.toUInt32 16 &&& Int32.toUInt32 31)).toInt32) 16 = true
          · rw [if_pos hb11] at hf
            refine r_ic_t (t := 62) fe_117_52 (by decide) hb11 ?_
            refine r_iload_n fe_117_62 rfl ?_
            refine r_iconst (v := 4) fe_117_63 (by decide) ?_
            by_cases hb12 : am_ic .le ((Int32.toUInt32 ((l0 ^^^ (-1)) &&& (l0 - 1)) >>> (Int32.toUInt32 16 &&& Int32.toUInt32 31)).toInt32) 4 = true
            · rw [if_pos hb12] at hf
              refine r_ic_t (t := 74) fe_117_64 (by decide) hb12 ?_
              refine r_iload_n fe_117_74 rfl ?_
              refine r_iload_n fe_117_75 rfl ?_
              refine r_iconst (v := 1) fe_117_76 (by decide) ?_
              refine r_iushr (v := (Int32.toUInt32 ((Int32.toUInt32 ((l0 ^^^ (-1)) &&& (l0 - 1)) >>> (Int32.toUInt32 16 &&& Int32.toUInt32 31)).toInt32) >>> (Int32.toUInt32 1 &&& Int32.toUInt32 31)).toInt32) fe_117_77 rfl ?_
              refine r_iadd (v := (17 + (Int32.toUInt32 ((Int32.toUInt32 ((l0 ^^^ (-1)) &&& (l0 - 1)) >>> (Int32.toUInt32 16 &&& Int32.toUInt32 31)).toInt32) >>> (Int32.toUInt32 1 &&& Int32.toUInt32 31)).toInt32)) fe_117_78 rfl ?_
              refine r_iret fe_117_79 ⟨rfl, by decide⟩ ?_
              exact dfin (P := fun r T => Q (some (.int r)) (xst T G h)) hf hQ
            · rw [if_neg hb12] at hf
              refine r_ic_f (t := 74) fe_117_64 (by decide) (Bool.eq_false_iff.mpr hb12) ?_
              refine r_iinc (v := 19) fe_117_67 rfl (by decide) rfl ?_
              refine r_iload_n fe_117_70 rfl ?_
              refine r_iconst (v := 2) fe_117_71 (by decide) ?_
              refine r_iushr (v := (Int32.toUInt32 ((Int32.toUInt32 ((l0 ^^^ (-1)) &&& (l0 - 1)) >>> (Int32.toUInt32 16 &&& Int32.toUInt32 31)).toInt32) >>> (Int32.toUInt32 2 &&& Int32.toUInt32 31)).toInt32) fe_117_72 rfl ?_
              refine r_istore_n fe_117_73 (Nat.le_of_ble_eq_true rfl) rfl ?_
              refine r_iload_n fe_117_74 rfl ?_
              refine r_iload_n fe_117_75 rfl ?_
              refine r_iconst (v := 1) fe_117_76 (by decide) ?_
              refine r_iushr (v := (Int32.toUInt32 ((Int32.toUInt32 ((Int32.toUInt32 ((l0 ^^^ (-1)) &&& (l0 - 1)) >>> (Int32.toUInt32 16 &&& Int32.toUInt32 31)).toInt32) >>> (Int32.toUInt32 2 &&& Int32.toUInt32 31)).toInt32) >>> (Int32.toUInt32 1 &&& Int32.toUInt32 31)).toInt32) fe_117_77 rfl ?_
              refine r_iadd (v := (19 + (Int32.toUInt32 ((Int32.toUInt32 ((Int32.toUInt32 ((l0 ^^^ (-1)) &&& (l0 - 1)) >>> (Int32.toUInt32 16 &&& Int32.toUInt32 31)).toInt32) >>> (Int32.toUInt32 2 &&& Int32.toUInt32 31)).toInt32) >>> (Int32.toUInt32 1 &&& Int32.toUInt32 31)).toInt32)) fe_117_78 rfl ?_
              refine r_iret fe_117_79 ⟨rfl, by decide⟩ ?_
              exact dfin (P := fun r T => Q (some (.int r)) (xst T G h)) hf hQ
          · rw [if_neg hb11] at hf
            refine r_ic_f (t := 62) fe_117_52 (by decide) (Bool.eq_false_iff.mpr hb11) ?_
            refine r_iinc (v := 21) fe_117_55 rfl (by decide) rfl ?_
            refine r_iload_n fe_117_58 rfl ?_
            refine r_iconst (v := 4) fe_117_59 (by decide) ?_
            refine r_iushr (v := (Int32.toUInt32 ((Int32.toUInt32 ((l0 ^^^ (-1)) &&& (l0 - 1)) >>> (Int32.toUInt32 16 &&& Int32.toUInt32 31)).toInt32) >>> (Int32.toUInt32 4 &&& Int32.toUInt32 31)).toInt32) fe_117_60 rfl ?_
            refine r_istore_n fe_117_61 (Nat.le_of_ble_eq_true rfl) rfl ?_
            refine r_iload_n fe_117_62 rfl ?_
            refine r_iconst (v := 4) fe_117_63 (by decide) ?_
            by_cases hb13 : am_ic .le ((Int32.toUInt32 ((Int32.toUInt32 ((l0 ^^^ (-1)) &&& (l0 - 1)) >>> (Int32.toUInt32 16 &&& Int32.toUInt32 31)).toInt32) >>> (Int32.toUInt32 4 &&& Int32.toUInt32 31)).toInt32) 4 = true
            · rw [if_pos hb13] at hf
              refine r_ic_t (t := 74) fe_117_64 (by decide) hb13 ?_
              refine r_iload_n fe_117_74 rfl ?_
              refine r_iload_n fe_117_75 rfl ?_
              refine r_iconst (v := 1) fe_117_76 (by decide) ?_
              refine r_iushr (v := (Int32.toUInt32 ((Int32.toUInt32 ((Int32.toUInt32 ((l0 ^^^ (-1)) &&& (l0 - 1)) >>> (Int32.toUInt32 16 &&& Int32.toUInt32 31)).toInt32) >>> (Int32.toUInt32 4 &&& Int32.toUInt32 31)).toInt32) >>> (Int32.toUInt32 1 &&& Int32.toUInt32 31)).toInt32) fe_117_77 rfl ?_
              refine r_iadd (v := (21 + (Int32.toUInt32 ((Int32.toUInt32 ((Int32.toUInt32 ((l0 ^^^ (-1)) &&& (l0 - 1)) >>> (Int32.toUInt32 16 &&& Int32.toUInt32 31)).toInt32) >>> (Int32.toUInt32 4 &&& Int32.toUInt32 31)).toInt32) >>> (Int32.toUInt32 1 &&& Int32.toUInt32 31)).toInt32)) fe_117_78 rfl ?_
              refine r_iret fe_117_79 ⟨rfl, by decide⟩ ?_
              exact dfin (P := fun r T => Q (some (.int r)) (xst T G h)) hf hQ
            · rw [if_neg hb13] at hf
              refine r_ic_f (t := 74) fe_117_64 (by decide) (Bool.eq_false_iff.mpr hb13) ?_
              refine r_iinc (v := 23) fe_117_67 rfl (by decide) rfl ?_
              refine r_iload_n fe_117_70 rfl ?_
              refine r_iconst (v := 2) fe_117_71 (by decide) ?_
              refine r_iushr (v := (Int32.toUInt32 ((Int32.toUInt32 ((Int32.toUInt32 ((l0 ^^^ (-1)) &&& (l0 - 1)) >>> (Int32.toUInt32 16 &&& Int32.toUInt32 31)).toInt32) >>> (Int32.toUInt32 4 &&& Int32.toUInt32 31)).toInt32) >>> (Int32.toUInt32 2 &&& Int32.toUInt32 31)).toInt32) fe_117_72 rfl ?_
              refine r_istore_n fe_117_73 (Nat.le_of_ble_eq_true rfl) rfl ?_
              refine r_iload_n fe_117_74 rfl ?_
              refine r_iload_n fe_117_75 rfl ?_
              refine r_iconst (v := 1) fe_117_76 (by decide) ?_
              refine r_iushr (v := (Int32.toUInt32 ((Int32.toUInt32 ((Int32.toUInt32 ((Int32.toUInt32 ((l0 ^^^ (-1)) &&& (l0 - 1)) >>> (Int32.toUInt32 16 &&& Int32.toUInt32 31)).toInt32) >>> (Int32.toUInt32 4 &&& Int32.toUInt32 31)).toInt32) >>> (Int32.toUInt32 2 &&& Int32.toUInt32 31)).toInt32) >>> (Int32.toUInt32 1 &&& Int32.toUInt32 31)).toInt32) fe_117_77 rfl ?_
              refine r_iadd (v := (23 + (Int32.toUInt32 ((Int32.toUInt32 ((Int32.toUInt32 ((Int32.toUInt32 ((l0 ^^^ (-1)) &&& (l0 - 1)) >>> (Int32.toUInt32 16 &&& Int32.toUInt32 31)).toInt32) >>> (Int32.toUInt32 4 &&& Int32.toUInt32 31)).toInt32) >>> (Int32.toUInt32 2 &&& Int32.toUInt32 31)).toInt32) >>> (Int32.toUInt32 1 &&& Int32.toUInt32 31)).toInt32)) fe_117_78 rfl ?_
              refine r_iret fe_117_79 ⟨rfl, by decide⟩ ?_
              exact dfin (P := fun r T => Q (some (.int r)) (xst T G h)) hf hQ
        · rw [if_neg hb10] at hf
          refine r_ic_f (t := 49) fe_117_38 (by decide) (Bool.eq_false_iff.mpr hb10) ?_
          refine r_iinc (v := 25) fe_117_41 rfl (by decide) rfl ?_
          refine r_iload_n fe_117_44 rfl ?_
          refine r_bipush (v := 8) fe_117_45 (by decide) ?_
          refine r_iushr (v := (Int32.toUInt32 ((Int32.toUInt32 ((l0 ^^^ (-1)) &&& (l0 - 1)) >>> (Int32.toUInt32 16 &&& Int32.toUInt32 31)).toInt32) >>> (Int32.toUInt32 8 &&& Int32.toUInt32 31)).toInt32) fe_117_47 rfl ?_
          refine r_istore_n fe_117_48 (Nat.le_of_ble_eq_true rfl) rfl ?_
          refine r_iload_n fe_117_49 rfl ?_
          refine r_bipush (v := 16) fe_117_50 (by decide) ?_
          by_cases hb14 : am_ic .le ((Int32.toUInt32 ((Int32.toUInt32 ((l0 ^^^ (-1)) &&& (l0 - 1)) >>> (Int32.toUInt32 16 &&& Int32.toUInt32 31)).toInt32) >>> (Int32.toUInt32 8 &&& Int32.toUInt32 31)).toInt32) 16 = true
          · rw [if_pos hb14] at hf
            refine r_ic_t (t := 62) fe_117_52 (by decide) hb14 ?_
            refine r_iload_n fe_117_62 rfl ?_
            refine r_iconst (v := 4) fe_117_63 (by decide) ?_
            by_cases hb15 : am_ic .le ((Int32.toUInt32 ((Int32.toUInt32 ((l0 ^^^ (-1)) &&& (l0 - 1)) >>> (Int32.toUInt32 16 &&& Int32.toUInt32 31)).toInt32) >>> (Int32.toUInt32 8 &&& Int32.toUInt32 31)).toInt32) 4 = true
            · rw [if_pos hb15] at hf
              refine r_ic_t (t := 74) fe_117_64 (by decide) hb15 ?_
              refine r_iload_n fe_117_74 rfl ?_
              refine r_iload_n fe_117_75 rfl ?_
              refine r_iconst (v := 1) fe_117_76 (by decide) ?_
              refine r_iushr (v := (Int32.toUInt32 ((Int32.toUInt32 ((Int32.toUInt32 ((l0 ^^^ (-1)) &&& (l0 - 1)) >>> (Int32.toUInt32 16 &&& Int32.toUInt32 31)).toInt32) >>> (Int32.toUInt32 8 &&& Int32.toUInt32 31)).toInt32) >>> (Int32.toUInt32 1 &&& Int32.toUInt32 31)).toInt32) fe_117_77 rfl ?_
              refine r_iadd (v := (25 + (Int32.toUInt32 ((Int32.toUInt32 ((Int32.toUInt32 ((l0 ^^^ (-1)) &&& (l0 - 1)) >>> (Int32.toUInt32 16 &&& Int32.toUInt32 31)).toInt32) >>> (Int32.toUInt32 8 &&& Int32.toUInt32 31)).toInt32) >>> (Int32.toUInt32 1 &&& Int32.toUInt32 31)).toInt32)) fe_117_78 rfl ?_
              refine r_iret fe_117_79 ⟨rfl, by decide⟩ ?_
              exact dfin (P := fun r T => Q (some (.int r)) (xst T G h)) hf hQ
            · rw [if_neg hb15] at hf
              refine r_ic_f (t := 74) fe_117_64 (by decide) (Bool.eq_false_iff.mpr hb15) ?_
              refine r_iinc (v := 27) fe_117_67 rfl (by decide) rfl ?_
              refine r_iload_n fe_117_70 rfl ?_
              refine r_iconst (v := 2) fe_117_71 (by decide) ?_
              refine r_iushr (v := (Int32.toUInt32 ((Int32.toUInt32 ((Int32.toUInt32 ((l0 ^^^ (-1)) &&& (l0 - 1)) >>> (Int32.toUInt32 16 &&& Int32.toUInt32 31)).toInt32) >>> (Int32.toUInt32 8 &&& Int32.toUInt32 31)).toInt32) >>> (Int32.toUInt32 2 &&& Int32.toUInt32 31)).toInt32) fe_117_72 rfl ?_
              refine r_istore_n fe_117_73 (Nat.le_of_ble_eq_true rfl) rfl ?_
              refine r_iload_n fe_117_74 rfl ?_
              refine r_iload_n fe_117_75 rfl ?_
              refine r_iconst (v := 1) fe_117_76 (by decide) ?_
              refine r_iushr (v := (Int32.toUInt32 ((Int32.toUInt32 ((Int32.toUInt32 ((Int32.toUInt32 ((l0 ^^^ (-1)) &&& (l0 - 1)) >>> (Int32.toUInt32 16 &&& Int32.toUInt32 31)).toInt32) >>> (Int32.toUInt32 8 &&& Int32.toUInt32 31)).toInt32) >>> (Int32.toUInt32 2 &&& Int32.toUInt32 31)).toInt32) >>> (Int32.toUInt32 1 &&& Int32.toUInt32 31)).toInt32) fe_117_77 rfl ?_
              refine r_iadd (v := (27 + (Int32.toUInt32 ((Int32.toUInt32 ((Int32.toUInt32 ((Int32.toUInt32 ((l0 ^^^ (-1)) &&& (l0 - 1)) >>> (Int32.toUInt32 16 &&& Int32.toUInt32 31)).toInt32) >>> (Int32.toUInt32 8 &&& Int32.toUInt32 31)).toInt32) >>> (Int32.toUInt32 2 &&& Int32.toUInt32 31)).toInt32) >>> (Int32.toUInt32 1 &&& Int32.toUInt32 31)).toInt32)) fe_117_78 rfl ?_
              refine r_iret fe_117_79 ⟨rfl, by decide⟩ ?_
              exact dfin (P := fun r T => Q (some (.int r)) (xst T G h)) hf hQ
          · rw [if_neg hb14] at hf
            refine r_ic_f (t := 62) fe_117_52 (by decide) (Bool.eq_false_iff.mpr hb14) ?_
            refine r_iinc (v := 29) fe_117_55 rfl (by decide) rfl ?_
            refine r_iload_n fe_117_58 rfl ?_
            refine r_iconst (v := 4) fe_117_59 (by decide) ?_
            refine r_iushr (v := (Int32.toUInt32 ((Int32.toUInt32 ((Int32.toUInt32 ((l0 ^^^ (-1)) &&& (l0 - 1)) >>> (Int32.toUInt32 16 &&& Int32.toUInt32 31)).toInt32) >>> (Int32.toUInt32 8 &&& Int32.toUInt32 31)).toInt32) >>> (Int32.toUInt32 4 &&& Int32.toUInt32 31)).toInt32) fe_117_60 rfl ?_
            refine r_istore_n fe_117_61 (Nat.le_of_ble_eq_true rfl) rfl ?_
            refine r_iload_n fe_117_62 rfl ?_
            refine r_iconst (v := 4) fe_117_63 (by decide) ?_
            by_cases hb16 : am_ic .le ((Int32.toUInt32 ((Int32.toUInt32 ((Int32.toUInt32 ((l0 ^^^ (-1)) &&& (l0 - 1)) >>> (Int32.toUInt32 16 &&& Int32.toUInt32 31)).toInt32) >>> (Int32.toUInt32 8 &&& Int32.toUInt32 31)).toInt32) >>> (Int32.toUInt32 4 &&& Int32.toUInt32 31)).toInt32) 4 = true
            · rw [if_pos hb16] at hf
              refine r_ic_t (t := 74) fe_117_64 (by decide) hb16 ?_
              refine r_iload_n fe_117_74 rfl ?_
              refine r_iload_n fe_117_75 rfl ?_
              refine r_iconst (v := 1) fe_117_76 (by decide) ?_
              refine r_iushr (v := (Int32.toUInt32 ((Int32.toUInt32 ((Int32.toUInt32 ((Int32.toUInt32 ((l0 ^^^ (-1)) &&& (l0 - 1)) >>> (Int32.toUInt32 16 &&& Int32.toUInt32 31)).toInt32) >>> (Int32.toUInt32 8 &&& Int32.toUInt32 31)).toInt32) >>> (Int32.toUInt32 4 &&& Int32.toUInt32 31)).toInt32) >>> (Int32.toUInt32 1 &&& Int32.toUInt32 31)).toInt32) fe_117_77 rfl ?_
              refine r_iadd (v := (29 + (Int32.toUInt32 ((Int32.toUInt32 ((Int32.toUInt32 ((Int32.toUInt32 ((l0 ^^^ (-1)) &&& (l0 - 1)) >>> (Int32.toUInt32 16 &&& Int32.toUInt32 31)).toInt32) >>> (Int32.toUInt32 8 &&& Int32.toUInt32 31)).toInt32) >>> (Int32.toUInt32 4 &&& Int32.toUInt32 31)).toInt32) >>> (Int32.toUInt32 1 &&& Int32.toUInt32 31)).toInt32)) fe_117_78 rfl ?_
              refine r_iret fe_117_79 ⟨rfl, by decide⟩ ?_
              exact dfin (P := fun r T => Q (some (.int r)) (xst T G h)) hf hQ
            · rw [if_neg hb16] at hf
              refine r_ic_f (t := 74) fe_117_64 (by decide) (Bool.eq_false_iff.mpr hb16) ?_
              refine r_iinc (v := 31) fe_117_67 rfl (by decide) rfl ?_
              refine r_iload_n fe_117_70 rfl ?_
              refine r_iconst (v := 2) fe_117_71 (by decide) ?_
              refine r_iushr (v := (Int32.toUInt32 ((Int32.toUInt32 ((Int32.toUInt32 ((Int32.toUInt32 ((l0 ^^^ (-1)) &&& (l0 - 1)) >>> (Int32.toUInt32 16 &&& Int32.toUInt32 31)).toInt32) >>> (Int32.toUInt32 8 &&& Int32.toUInt32 31)).toInt32) >>> (Int32.toUInt32 4 &&& Int32.toUInt32 31)).toInt32) >>> (Int32.toUInt32 2 &&& Int32.toUInt32 31)).toInt32) fe_117_72 rfl ?_
              refine r_istore_n fe_117_73 (Nat.le_of_ble_eq_true rfl) rfl ?_
              refine r_iload_n fe_117_74 rfl ?_
              refine r_iload_n fe_117_75 rfl ?_
              refine r_iconst (v := 1) fe_117_76 (by decide) ?_
              refine r_iushr (v := (Int32.toUInt32 ((Int32.toUInt32 ((Int32.toUInt32 ((Int32.toUInt32 ((Int32.toUInt32 ((l0 ^^^ (-1)) &&& (l0 - 1)) >>> (Int32.toUInt32 16 &&& Int32.toUInt32 31)).toInt32) >>> (Int32.toUInt32 8 &&& Int32.toUInt32 31)).toInt32) >>> (Int32.toUInt32 4 &&& Int32.toUInt32 31)).toInt32) >>> (Int32.toUInt32 2 &&& Int32.toUInt32 31)).toInt32) >>> (Int32.toUInt32 1 &&& Int32.toUInt32 31)).toInt32) fe_117_77 rfl ?_
              refine r_iadd (v := (31 + (Int32.toUInt32 ((Int32.toUInt32 ((Int32.toUInt32 ((Int32.toUInt32 ((Int32.toUInt32 ((l0 ^^^ (-1)) &&& (l0 - 1)) >>> (Int32.toUInt32 16 &&& Int32.toUInt32 31)).toInt32) >>> (Int32.toUInt32 8 &&& Int32.toUInt32 31)).toInt32) >>> (Int32.toUInt32 4 &&& Int32.toUInt32 31)).toInt32) >>> (Int32.toUInt32 2 &&& Int32.toUInt32 31)).toInt32) >>> (Int32.toUInt32 1 &&& Int32.toUInt32 31)).toInt32)) fe_117_78 rfl ?_
              refine r_iret fe_117_79 ⟨rfl, by decide⟩ ?_
              exact dfin (P := fun r T => Q (some (.int r)) (xst T G h)) hf hQ
    · rw [if_neg hb1] at hf
      refine r_if_f (t := 17) fe_117_9 (by decide) (Bool.eq_false_iff.mpr hb1) ?_
      refine r_iload_n fe_117_12 rfl ?_
      refine r_bipush (v := 32) fe_117_13 (by decide) ?_
      refine r_iand (v := (((l0 ^^^ (-1)) &&& (l0 - 1)) &&& 32)) fe_117_15 rfl ?_
      refine r_iret fe_117_16 ⟨rfl, by decide⟩ ?_
      exact dfin (P := fun r T => Q (some (.int r)) (xst T G h)) hf hQ
theorem G117c {xs : Nat → Int32} {L9 d : Nat} {G : gS} {h : Nat → va_E} {n : Nat} {Q : Option Value → AmH → Prop} {r0 : Int32} {S0 S : xS} {l0 : Int32} (hf : G117 n l0 S = some (r0, S0)) (hQ : Q (some (.int r0)) (xst S0 G h)) : Ca (am_X xs L9) (d + 0) 117 [.int l0] (xst S G h) Q := (G117l hQ n) l0 S hf
def G118b0 (F : Nat → Int32 → xS → Option (Int32 × xS)) (n : Nat) (l0 : Int32) (S : xS) : Option (Int32 × xS) := (if am_if .ne l0 = true then ((G117 n l0 S).bind (fun z2 => (if am_if .ne (l0 &&& (l0 - 1)) = true then ((G117 n (l0 &&& (l0 - 1)) z2.2).bind (fun z5 => some ((((if 16 < z5.1 then 16 else z5.1) * 17) + (if 16 < z2.1 then 16 else z2.1)), z5.2))) else some ((((if 16 < 16 then 16 else 16) * 17) + (if 16 < z2.1 then 16 else z2.1)), z2.2)))) else some (288, S))
def G118f : Nat → Nat → Int32 → xS → Option (Int32 × xS)
  | 0, _, _, _ => none
  | n + 1, c, l0, S => G118b0 (G118f n) n l0 S
theorem G118e0 (n : Nat) (l0 : Int32) (S : xS) : G118f (n + 1) 0 l0 S = G118b0 (G118f n) n l0 S := rfl
def G118 (n : Nat) (l0 : Int32) (S : xS) : Option (Int32 × xS) := G118f n 0 l0 S
set_option maxRecDepth 20000 in
set_option maxHeartbeats 4000000 in
theorem G118l {xs : Nat → Int32} {L9 d : Nat} {G : gS} {h : Nat → va_E} {Q : Option Value → AmH → Prop} {r0 : Int32} {S0 : xS} (hQ : Q (some (.int r0)) (xst S0 G h)) : ∀ n : Nat, (∀ (l0 : Int32) (S : xS), G118f n 0 l0 S = some (r0, S0) → Go (am_X xs L9) (d + 1) 118 0 [.int l0, .float 0, .float 0, .float 0] [] (xst S G h) Q) := by
  intro n
  induction n with
  | zero => exact fun l0 S hf => (by cases hf)
  | succ n ih =>
    intro l0 S hf
    rw [G118e0] at hf
    unfold G118b0 at hf
    refine r_iload_n fe_118_0 rfl ?_
    by_cases hb1 : am_if .ne l0 = true
    · rw [if_pos hb1] at hf
      refine r_if_t (t := 8) fe_118_1 (by decide) hb1 ?_
      refine r_iload_n fe_118_8 rfl ?_
      refine r_callS (as := [.int l0]) (r := []) fe_118_9 lm_2_62 md_117 rfl rfl (Nat.le_of_ble_eq_true rfl) (Nat.le_of_ble_eq_true rfl) (Nat.le_of_ble_eq_true rfl) ?_
      cases hc3 : G117 n l0 S with
      | none => rw [hc3] at hf; cases hf
      | some z2 =>
        rw [hc3, Option.bind_some] at hf
        refine G117c (r0 := z2.1) (S0 := z2.2)  (hf := hc3) ?_
        refine r_istore_n fe_118_12 (Nat.le_of_ble_eq_true rfl) rfl ?_
        refine r_iload_n fe_118_13 rfl ?_
        refine r_iload_n fe_118_14 rfl ?_
        refine r_iconst (v := 1) fe_118_15 (by decide) ?_
        refine r_isub (v := (l0 - 1)) fe_118_16 rfl ?_
        refine r_iand (v := (l0 &&& (l0 - 1))) fe_118_17 rfl ?_
        refine r_istore_n fe_118_18 (Nat.le_of_ble_eq_true rfl) rfl ?_
        refine r_iload_n fe_118_19 rfl ?_
        by_cases hb4 : am_if .ne (l0 &&& (l0 - 1)) = true
        · rw [if_pos hb4] at hf
          refine r_if_t (t := 28) fe_118_20 (by decide) hb4 ?_
          refine r_iload_n fe_118_28 rfl ?_
          refine r_callS (as := [.int (l0 &&& (l0 - 1))]) (r := []) fe_118_29 lm_2_62 md_117 rfl rfl (Nat.le_of_ble_eq_true rfl) (Nat.le_of_ble_eq_true rfl) (Nat.le_of_ble_eq_true rfl) ?_
          cases hc6 : G117 n (l0 &&& (l0 - 1)) z2.2 with
          | none => rw [hc6] at hf; cases hf
          | some z5 =>
            rw [hc6, Option.bind_some] at hf
            refine G117c (r0 := z5.1) (S0 := z5.2)  (hf := hc6) ?_
            refine r_istore_n fe_118_32 (Nat.le_of_ble_eq_true rfl) rfl ?_
            refine r_iload_n fe_118_33 rfl ?_
            refine r_bipush (v := 16) fe_118_34 (by decide) ?_
            refine r_min (v := (if 16 < z5.1 then 16 else z5.1)) fe_118_36 lm_2_70 (Nat.le_of_ble_eq_true rfl) rfl ?_
            refine r_bipush (v := 17) fe_118_39 (by decide) ?_
            refine r_imul (v := ((if 16 < z5.1 then 16 else z5.1) * 17)) fe_118_41 rfl ?_
            refine r_iload_n fe_118_42 rfl ?_
            refine r_bipush (v := 16) fe_118_43 (by decide) ?_
            refine r_min (v := (if 16 < z2.1 then 16 else z2.1)) fe_118_45 lm_2_70 (Nat.le_of_ble_eq_true rfl) rfl ?_
            refine r_iadd (v := (((if 16 < z5.1 then 16 else z5.1) * 17) + (if 16 < z2.1 then 16 else z2.1))) fe_118_48 rfl ?_
            refine r_iret fe_118_49 ⟨rfl, by decide⟩ ?_
            exact dfin (P := fun r T => Q (some (.int r)) (xst T G h)) hf hQ
        · rw [if_neg hb4] at hf
          refine r_if_f (t := 28) fe_118_20 (by decide) (Bool.eq_false_iff.mpr hb4) ?_
          refine r_bipush (v := 16) fe_118_23 (by decide) ?_
          refine r_goto (t := 32) fe_118_25 (by decide) ?_
          refine r_istore_n fe_118_32 (Nat.le_of_ble_eq_true rfl) rfl ?_
          refine r_iload_n fe_118_33 rfl ?_
          refine r_bipush (v := 16) fe_118_34 (by decide) ?_
          refine r_min (v := (if 16 < 16 then 16 else 16)) fe_118_36 lm_2_70 (Nat.le_of_ble_eq_true rfl) rfl ?_
          refine r_bipush (v := 17) fe_118_39 (by decide) ?_
          refine r_imul (v := ((if 16 < 16 then 16 else 16) * 17)) fe_118_41 rfl ?_
          refine r_iload_n fe_118_42 rfl ?_
          refine r_bipush (v := 16) fe_118_43 (by decide) ?_
          refine r_min (v := (if 16 < z2.1 then 16 else z2.1)) fe_118_45 lm_2_70 (Nat.le_of_ble_eq_true rfl) rfl ?_
          refine r_iadd (v := (((if 16 < 16 then 16 else 16) * 17) + (if 16 < z2.1 then 16 else z2.1))) fe_118_48 rfl ?_
          refine r_iret fe_118_49 ⟨rfl, by decide⟩ ?_
          exact dfin (P := fun r T => Q (some (.int r)) (xst T G h)) hf hQ
    · rw [if_neg hb1] at hf
      refine r_if_f (t := 8) fe_118_1 (by decide) (Bool.eq_false_iff.mpr hb1) ?_
      refine r_sipush (v := 288) fe_118_4 (by decide) ?_
      refine r_iret fe_118_7 ⟨rfl, by decide⟩ ?_
      exact dfin (P := fun r T => Q (some (.int r)) (xst T G h)) hf hQ
theorem G118c {xs : Nat → Int32} {L9 d : Nat} {G : gS} {h : Nat → va_E} {n : Nat} {Q : Option Value → AmH → Prop} {r0 : Int32} {S0 S : xS} {l0 : Int32} (hf : G118 n l0 S = some (r0, S0)) (hQ : Q (some (.int r0)) (xst S0 G h)) : Ca (am_X xs L9) (d + 1) 118 [.int l0] (xst S G h) Q := (G118l hQ n) l0 S hf
def G119b0 (F : Nat → Int32 → Int32 → xS → Option (Unit × xS)) (n : Nat) (l1 : Int32) (l2 : Int32) (S : xS) : Option (Unit × xS) := (if am_ic .ge l2 3 = true then some ((), S) else ((G118 n l1 S).bind (fun z2 => (if ¬ (z2.1 < 0 ∨ 289 ≤ (z2.1).toNatClampNeg) then ((some (x_sA z2.2 124 (Int32.toNatClampNeg z2.1) (z2.2.1 123 1))).bind (fun S5 => some ((), S5))) else none))))
def G119f : Nat → Nat → Int32 → Int32 → xS → Option (Unit × xS)
  | 0, _, _, _, _ => none
  | n + 1, c, l1, l2, S => G119b0 (G119f n) n l1 l2 S
theorem G119e0 (n : Nat) (l1 : Int32) (l2 : Int32) (S : xS) : G119f (n + 1) 0 l1 l2 S = G119b0 (G119f n) n l1 l2 S := rfl
def G119 (n : Nat) (l1 : Int32) (l2 : Int32) (S : xS) : Option (Unit × xS) := G119f n 0 l1 l2 S
set_option maxRecDepth 20000 in
set_option maxHeartbeats 4000000 in
theorem G119l {xs : Nat → Int32} {L9 d : Nat} {G : gS} {h : Nat → va_E} {Q : Option Value → AmH → Prop} {r0 : Unit} {S0 : xS} (hQ : Q none (xst S0 G h)) : ∀ n : Nat, (∀ (l1 : Int32) (l2 : Int32) (S : xS), G119f n 0 l1 l2 S = some (r0, S0) → Go (am_X xs L9) (d + 2) 119 0 [.ref 123, .int l1, .int l2] [] (xst S G h) Q) := by
  intro n
  induction n with
  | zero => exact fun l1 l2 S hf => (by cases hf)
  | succ n ih =>
    intro l1 l2 S hf
    rw [G119e0] at hf
    unfold G119b0 at hf
    refine r_iload_n fe_119_0 rfl ?_
    refine r_iconst (v := 3) fe_119_1 (by decide) ?_
    by_cases hb1 : am_ic .ge l2 3 = true
    · rw [if_pos hb1] at hf
      refine r_ic_t (t := 18) fe_119_2 (by decide) hb1 ?_
      refine r_vret fe_119_18 ?_
      exact dfin (P := fun _ T => Q none (xst T G h)) hf hQ
    · rw [if_neg hb1] at hf
      refine r_ic_f (t := 18) fe_119_2 (by decide) (Bool.eq_false_iff.mpr hb1) ?_
      refine r_aload_n fe_119_5 rfl ?_
      refine r_getf (v := .ref 124) fe_119_6 lf_2_11 (x_c xk_123 (by decide)) (x_lt xk_123 (by decide)) rfl ?_
      refine r_iload_n fe_119_9 rfl ?_
      refine r_callS (as := [.int l1]) (r := [.ref 124]) fe_119_10 lm_2_67 md_118 rfl rfl (Nat.le_of_ble_eq_true rfl) (Nat.le_of_ble_eq_true rfl) (Nat.le_of_ble_eq_true rfl) ?_
      cases hc3 : G118 n l1 S with
      | none => rw [hc3] at hf; cases hf
      | some z2 =>
        rw [hc3, Option.bind_some] at hf
        refine G118c (r0 := z2.1) (S0 := z2.2)  (hf := hc3) ?_
        refine r_aload_n fe_119_13 rfl ?_
        refine r_getf (v := .int (z2.2.1 123 1)) fe_119_14 lf_2_15 (x_c xk_123 (by decide)) (x_lt xk_123 (by decide)) rfl ?_
        by_cases hg4 : ¬ (z2.1 < 0 ∨ 289 ≤ (z2.1).toNatClampNeg)
        rotate_left
        · rw [if_neg hg4] at hf; cases hf
        rw [if_pos hg4] at hf
        refine r_iast (j := (Int32.toNatClampNeg z2.1)) fe_119_17 (x_h xk_124 (by decide)) (x_lt xk_124 (by decide)) (by decide) (fun z => hg4 (Or.inl z)) rfl (fun z => hg4 (Or.inr z)) ?_
        obtain ⟨S5, e6, hf⟩ := dbnd hf
        refine go_heap (h2 := xst S5 G h) ((x_uA xk_124).trans (by rw [e6])) ?_
        refine r_vret fe_119_18 ?_
        exact dfin (P := fun _ T => Q none (xst T G h)) hf hQ
theorem G119c {xs : Nat → Int32} {L9 d : Nat} {G : gS} {h : Nat → va_E} {n : Nat} {Q : Option Value → AmH → Prop} {r0 : Unit} {S0 S : xS} {l1 : Int32} {l2 : Int32} (hf : G119 n l1 l2 S = some (r0, S0)) (hQ : Q none (xst S0 G h)) : Ca (am_X xs L9) (d + 2) 119 [.ref 123, .int l1, .int l2] (xst S G h) Q := (G119l hQ n) l1 l2 S hf
def G116b0 (F : Nat → Int32 → Int32 → Int32 → Int32 → xS → Option (Int32 × xS)) (n : Nat) (l1 : Int32) (l2 : Int32) (l3 : Int32) (l4 : Int32) (S : xS) : Option (Int32 × xS) := F 5 l1 l2 l1 0 S
def G116b5 (F : Nat → Int32 → Int32 → Int32 → Int32 → xS → Option (Int32 × xS)) (n : Nat) (l1 : Int32) (l2 : Int32) (l3 : Int32) (l4 : Int32) (S : xS) : Option (Int32 × xS) := (if am_ic .ge l4 3 = true then some (0, S) else (if am_if .eq l3 = true then some (0, S) else ((G117 n l3 S).bind (fun z3 => ((G118 n (l1 &&& ((1 <<< (z3.1 &&& 31)) ^^^ (-1))) z3.2).bind (fun z5 => (if ¬ (z5.1 < 0 ∨ 289 ≤ (z5.1).toNatClampNeg) then (if am_if .ne (((z5.2.2.1 124 (Int32.toNatClampNeg z5.1)) >>> (z3.1 &&& 31)) &&& 1) = true then F 5 l1 l2 (l3 &&& (l3 - 1)) (l4 + 1) (x_sI z5.2 123 1 (z5.2.2.1 124 (Int32.toNatClampNeg z5.1))) else ((G119 n l1 l2 (x_sI z5.2 123 1 (z5.2.2.1 124 (Int32.toNatClampNeg z5.1)))).bind (fun z9 => some (1, z9.2)))) else none)))))))
def G116f : Nat → Nat → Int32 → Int32 → Int32 → Int32 → xS → Option (Int32 × xS)
  | 0, _, _, _, _, _, _ => none
  | n + 1, c, l1, l2, l3, l4, S => if c = 0 then G116b0 (G116f n) n l1 l2 l3 l4 S else G116b5 (G116f n) n l1 l2 l3 l4 S
theorem G116e0 (n : Nat) (l1 : Int32) (l2 : Int32) (l3 : Int32) (l4 : Int32) (S : xS) : G116f (n + 1) 0 l1 l2 l3 l4 S = G116b0 (G116f n) n l1 l2 l3 l4 S := if_pos rfl
theorem G116e5 (n : Nat) (l1 : Int32) (l2 : Int32) (l3 : Int32) (l4 : Int32) (S : xS) : G116f (n + 1) 5 l1 l2 l3 l4 S = G116b5 (G116f n) n l1 l2 l3 l4 S := if_neg (by decide)
def G116 (n : Nat) (l1 : Int32) (l2 : Int32) (S : xS) : Option (Int32 × xS) := G116f n 0 l1 l2 0 0 S
set_option maxRecDepth 20000 in
set_option maxHeartbeats 4000000 in
theorem G116l {xs : Nat → Int32} {L9 d : Nat} {G : gS} {h : Nat → va_E} {Q : Option Value → AmH → Prop} {r0 : Int32} {S0 : xS} (hQ : Q (some (.int r0)) (xst S0 G h)) : ∀ n : Nat, (∀ (l1 : Int32) (l2 : Int32) (l3 : Int32) (l4 : Int32) (S : xS), G116f n 0 l1 l2 l3 l4 S = some (r0, S0) → Go (am_X xs L9) (d + 3) 116 0 [.ref 123, .int l1, .int l2, .float 0, .float 0, .float 0, .float 0] [] (xst S G h) Q) ∧ (∀ (l1 : Int32) (l2 : Int32) (l3 : Int32) (l4 : Int32) (S : xS), G116f n 5 l1 l2 l3 l4 S = some (r0, S0) → Go (am_X xs L9) (d + 3) 116 5 [.ref 123, .int l1, .int l2, .int l3, .int l4, .float 0, .float 0] [] (xst S G h) Q) := by
  intro n
  induction n with
  | zero => exact ⟨fun l1 l2 l3 l4 S hf => (by cases hf), fun l1 l2 l3 l4 S hf => (by cases hf)⟩
  | succ n ih =>
    refine ⟨?_, ?_⟩
    · intro l1 l2 l3 l4 S hf
      rw [G116e0] at hf
      unfold G116b0 at hf
      refine r_iload_n fe_116_0 rfl ?_
      refine r_istore_n fe_116_1 (Nat.le_of_ble_eq_true rfl) rfl ?_
      refine r_iconst (v := 0) fe_116_2 (by decide) ?_
      refine r_istore fe_116_3 (Nat.le_of_ble_eq_true rfl) rfl ?_
      refine go_weak (L0 := [.ref 123, .int l1, .int l2, .int l1, .int 0, .float 0, .float 0]) (lwk_c (Or.inl rfl) (lwk_c (Or.inl rfl) (lwk_c (Or.inl rfl) (lwk_c (Or.inl rfl) (lwk_c (Or.inl rfl) (lwk_c (Or.inl rfl) (lwk_c (Or.inl rfl) (lwk_rf [])))))))) ?_
      exact ih.2 l1 l2 l1 0 S hf
    · intro l1 l2 l3 l4 S hf
      rw [G116e5] at hf
      unfold G116b5 at hf
      refine r_iload fe_116_5 rfl ?_
      refine r_iconst (v := 3) fe_116_7 (by decide) ?_
      by_cases hb1 : am_ic .ge l4 3 = true
      · rw [if_pos hb1] at hf
        refine r_ic_t (t := 77) fe_116_8 (by decide) hb1 ?_
        refine r_iconst (v := 0) fe_116_77 (by decide) ?_
        refine r_iret fe_116_78 ⟨rfl, by decide⟩ ?_
        exact dfin (P := fun r T => Q (some (.int r)) (xst T G h)) hf hQ
      · rw [if_neg hb1] at hf
        refine r_ic_f (t := 77) fe_116_8 (by decide) (Bool.eq_false_iff.mpr hb1) ?_
        refine r_iload_n fe_116_11 rfl ?_
        by_cases hb2 : am_if .eq l3 = true
        · rw [if_pos hb2] at hf
          refine r_if_t (t := 77) fe_116_12 (by decide) hb2 ?_
          refine r_iconst (v := 0) fe_116_77 (by decide) ?_
          refine r_iret fe_116_78 ⟨rfl, by decide⟩ ?_
          exact dfin (P := fun r T => Q (some (.int r)) (xst T G h)) hf hQ
        · rw [if_neg hb2] at hf
          refine r_if_f (t := 77) fe_116_12 (by decide) (Bool.eq_false_iff.mpr hb2) ?_
          refine r_iload_n fe_116_15 rfl ?_
          refine r_callS (as := [.int l3]) (r := []) fe_116_16 lm_2_62 md_117 rfl rfl (Nat.le_of_ble_eq_true rfl) (Nat.le_of_ble_eq_true rfl) (Nat.le_of_ble_eq_true rfl) ?_
          cases hc4 : G117 n l3 S with
          | none => rw [hc4] at hf; cases hf
          | some z3 =>
            rw [hc4, Option.bind_some] at hf
            refine G117c (r0 := z3.1) (S0 := z3.2)  (hf := hc4) ?_
            refine r_istore fe_116_19 (Nat.le_of_ble_eq_true rfl) rfl ?_
            refine r_iload_n fe_116_21 rfl ?_
            refine r_iload_n fe_116_22 rfl ?_
            refine r_iconst (v := 1) fe_116_23 (by decide) ?_
            refine r_isub (v := (l3 - 1)) fe_116_24 rfl ?_
            refine r_iand (v := (l3 &&& (l3 - 1))) fe_116_25 rfl ?_
            refine r_istore_n fe_116_26 (Nat.le_of_ble_eq_true rfl) rfl ?_
            refine r_iload_n fe_116_27 rfl ?_
            refine r_iconst (v := 1) fe_116_28 (by decide) ?_
            refine r_iload fe_116_29 rfl ?_
            refine r_ishl (v := (1 <<< (z3.1 &&& 31))) fe_116_31 rfl ?_
            refine r_iconst (v := -1) fe_116_32 (by decide) ?_
            refine r_ixor (v := ((1 <<< (z3.1 &&& 31)) ^^^ (-1))) fe_116_33 rfl ?_
            refine r_iand (v := (l1 &&& ((1 <<< (z3.1 &&& 31)) ^^^ (-1)))) fe_116_34 rfl ?_
            refine r_istore fe_116_35 (Nat.le_of_ble_eq_true rfl) rfl ?_
            refine r_aload_n fe_116_37 rfl ?_
            refine r_aload_n fe_116_38 rfl ?_
            refine r_getf (v := .ref 124) fe_116_39 lf_2_11 (x_c xk_123 (by decide)) (x_lt xk_123 (by decide)) rfl ?_
            refine r_iload fe_116_42 rfl ?_
            refine r_callS (as := [.int (l1 &&& ((1 <<< (z3.1 &&& 31)) ^^^ (-1)))]) (r := [.ref 124, .ref 123]) fe_116_44 lm_2_67 md_118 rfl rfl (Nat.le_of_ble_eq_true rfl) (Nat.le_of_ble_eq_true rfl) (Nat.le_of_ble_eq_true rfl) ?_
            cases hc6 : G118 n (l1 &&& ((1 <<< (z3.1 &&& 31)) ^^^ (-1))) z3.2 with
            | none => rw [hc6] at hf; cases hf
            | some z5 =>
              rw [hc6, Option.bind_some] at hf
              refine G118c (r0 := z5.1) (S0 := z5.2)  (hf := hc6) ?_
              by_cases hg7 : ¬ (z5.1 < 0 ∨ 289 ≤ (z5.1).toNatClampNeg)
              rotate_left
              · rw [if_neg hg7] at hf; cases hf
              rw [if_pos hg7] at hf
              refine r_iald (j := (Int32.toNatClampNeg z5.1)) (v := z5.2.2.1 124 (Int32.toNatClampNeg z5.1)) fe_116_47 (x_c xk_124 (by decide)) (x_lt xk_124 (by decide)) (fun z => hg7 (Or.inl z)) rfl (fun z => hg7 (Or.inr z)) rfl ?_
              refine r_putf fe_116_48 lf_2_15 (x_h xk_123 (by decide)) (x_lt xk_123 (by decide)) (by decide) (Nat.le_of_ble_eq_true rfl) rfl rfl (Or.inl rfl) ?_
              refine go_heap (x_uI (j := 1) (x := (z5.2.2.1 124 (Int32.toNatClampNeg z5.1))) xk_123 (by decide)) ?_
              refine r_aload_n fe_116_51 rfl ?_
              refine r_getf (v := .int (z5.2.2.1 124 (Int32.toNatClampNeg z5.1))) fe_116_52 lf_2_15 (x_c xk_123 (by decide)) (x_lt xk_123 (by decide)) rfl ?_
              refine r_iload fe_116_55 rfl ?_
              refine r_ishr (v := ((z5.2.2.1 124 (Int32.toNatClampNeg z5.1)) >>> (z3.1 &&& 31))) fe_116_57 rfl ?_
              refine r_iconst (v := 1) fe_116_58 (by decide) ?_
              refine r_iand (v := (((z5.2.2.1 124 (Int32.toNatClampNeg z5.1)) >>> (z3.1 &&& 31)) &&& 1)) fe_116_59 rfl ?_
              by_cases hb8 : am_if .ne (((z5.2.2.1 124 (Int32.toNatClampNeg z5.1)) >>> (z3.1 &&& 31)) &&& 1) = true
              · rw [if_pos hb8] at hf
                refine r_if_t (t := 71) fe_116_60 (by decide) hb8 ?_
                refine r_iinc (v := (l4 + 1)) fe_116_71 rfl rfl rfl ?_
                refine r_goto (t := 5) fe_116_74 (by decide) ?_
                refine go_weak (L0 := [.ref 123, .int l1, .int l2, .int (l3 &&& (l3 - 1)), .int (l4 + 1), .float 0, .float 0]) (lwk_c (Or.inl rfl) (lwk_c (Or.inl rfl) (lwk_c (Or.inl rfl) (lwk_c (Or.inl rfl) (lwk_c (Or.inl rfl) (lwk_c (Or.inr rfl) (lwk_c (Or.inr rfl) (lwk_rf [])))))))) ?_
                exact ih.2 l1 l2 (l3 &&& (l3 - 1)) (l4 + 1) (x_sI z5.2 123 1 (z5.2.2.1 124 (Int32.toNatClampNeg z5.1))) hf
              · rw [if_neg hb8] at hf
                refine r_if_f (t := 71) fe_116_60 (by decide) (Bool.eq_false_iff.mpr hb8) ?_
                refine r_aload_n fe_116_63 rfl ?_
                refine r_iload_n fe_116_64 rfl ?_
                refine r_iload_n fe_116_65 rfl ?_
                refine r_callV (as := [.int l1, .int l2]) (r := []) fe_116_66 lm_2_53 md_119 rfl rfl (Nat.le_of_ble_eq_true rfl) (x_c xk_123 (by decide)) (x_lt xk_123 (by decide)) (Nat.le_of_ble_eq_true rfl) (Nat.le_of_ble_eq_true rfl) ?_
                cases hc10 : G119 n l1 l2 (x_sI z5.2 123 1 (z5.2.2.1 124 (Int32.toNatClampNeg z5.1))) with
                | none => rw [hc10] at hf; cases hf
                | some z9 =>
                  rw [hc10, Option.bind_some] at hf
                  refine G119c (r0 := z9.1) (S0 := z9.2)  (hf := hc10) ?_
                  refine r_iconst (v := 1) fe_116_69 (by decide) ?_
                  refine r_iret fe_116_70 ⟨rfl, by decide⟩ ?_
                  exact dfin (P := fun r T => Q (some (.int r)) (xst T G h)) hf hQ
theorem G116c {xs : Nat → Int32} {L9 d : Nat} {G : gS} {h : Nat → va_E} {n : Nat} {Q : Option Value → AmH → Prop} {r0 : Int32} {S0 S : xS} {l1 : Int32} {l2 : Int32} (hf : G116 n l1 l2 S = some (r0, S0)) (hQ : Q (some (.int r0)) (xst S0 G h)) : Ca (am_X xs L9) (d + 3) 116 [.ref 123, .int l1, .int l2] (xst S G h) Q := (G116l hQ n).1 l1 l2 0 0 S hf
def G122b0 (l0 : Nat) (F : Nat → Int32 → Int32 → Int32 → xS → Option (Int32 × xS)) (n : Nat) (l1 : Int32) (l2 : Int32) (l3 : Int32) (S : xS) : Option (Int32 × xS) := F 4 0 l1 0 S
def G122b4 (l0 : Nat) (F : Nat → Int32 → Int32 → Int32 → xS → Option (Int32 × xS)) (n : Nat) (l1 : Int32) (l2 : Int32) (l3 : Int32) (S : xS) : Option (Int32 × xS) := (if am_ic .ge l3 13 = true then (if ¬ (l2 < 0 ∨ 13 ≤ (l2).toNatClampNeg) then some ((S.2.1 (l0 + 6) (Int32.toNatClampNeg l2)), S) else none) else (if ¬ (l2 < 0 ∨ 13 ≤ (l2).toNatClampNeg) then (if am_ic .ne (S.2.1 (l0 + 6) (Int32.toNatClampNeg l2)) 3 = true then (if ¬ (l2 < 0 ∨ 13 ≤ (l2).toNatClampNeg) then some ((S.2.1 (l0 + 6) (Int32.toNatClampNeg l2)), S) else none) else (if ¬ (l2 < 0 ∨ 13 ≤ (l2).toNatClampNeg) then (if am_if .lt (S.2.1 (l0 + 7) (Int32.toNatClampNeg l2)) = true then (if ¬ (l2 < 0 ∨ 13 ≤ (l2).toNatClampNeg) then some ((S.2.1 (l0 + 6) (Int32.toNatClampNeg l2)), S) else none) else (if ¬ (l2 < 0 ∨ 13 ≤ (l2).toNatClampNeg) then F 4 0 (S.2.1 (l0 + 7) (Int32.toNatClampNeg l2)) (l3 + 1) S else none)) else none)) else none))
def G122f (l0 : Nat) : Nat → Nat → Int32 → Int32 → Int32 → xS → Option (Int32 × xS)
  | 0, _, _, _, _, _ => none
  | n + 1, c, l1, l2, l3, S => if c = 0 then G122b0 l0 (G122f l0 n) n l1 l2 l3 S else G122b4 l0 (G122f l0 n) n l1 l2 l3 S
theorem G122e0 (l0 : Nat) (n : Nat) (l1 : Int32) (l2 : Int32) (l3 : Int32) (S : xS) : G122f l0 (n + 1) 0 l1 l2 l3 S = G122b0 l0 (G122f l0 n) n l1 l2 l3 S := if_pos rfl
theorem G122e4 (l0 : Nat) (n : Nat) (l1 : Int32) (l2 : Int32) (l3 : Int32) (S : xS) : G122f l0 (n + 1) 4 l1 l2 l3 S = G122b4 l0 (G122f l0 n) n l1 l2 l3 S := if_neg (by decide)
def G122 (l0 : Nat) (n : Nat) (l1 : Int32) (S : xS) : Option (Int32 × xS) := G122f l0 n 0 l1 0 0 S
set_option maxRecDepth 20000 in
set_option maxHeartbeats 4000000 in
theorem G122l {xs : Nat → Int32} {L9 d : Nat} {G : gS} {h : Nat → va_E} {l0 : Nat} {Q : Option Value → AmH → Prop} {r0 : Int32} {S0 : xS} (h0 : wB G l0 = true) (hQ : Q (some (.int r0)) (xst S0 G h)) : ∀ n : Nat, (∀ (l1 : Int32) (l2 : Int32) (l3 : Int32) (S : xS), G122f l0 n 0 l1 l2 l3 S = some (r0, S0) → Go (am_X xs L9) (d + 0) 122 0 [.ref l0, .int l1, .float 0, .float 0] [] (xst S G h) Q) ∧ (∀ (l1 : Int32) (l2 : Int32) (l3 : Int32) (S : xS), G122f l0 n 4 l1 l2 l3 S = some (r0, S0) → Go (am_X xs L9) (d + 0) 122 4 [.ref l0, .float 0, .int l2, .int l3] [] (xst S G h) Q) := by
  intro n
  induction n with
  | zero => exact ⟨fun l1 l2 l3 S hf => (by cases hf), fun l1 l2 l3 S hf => (by cases hf)⟩
  | succ n ih =>
    refine ⟨?_, ?_⟩
    · intro l1 l2 l3 S hf
      rw [G122e0] at hf
      unfold G122b0 at hf
      refine r_iload_n fe_122_0 rfl ?_
      refine r_istore_n fe_122_1 (Nat.le_of_ble_eq_true rfl) rfl ?_
      refine r_iconst (v := 0) fe_122_2 (by decide) ?_
      refine r_istore_n fe_122_3 (Nat.le_of_ble_eq_true rfl) rfl ?_
      refine go_weak (L0 := [.ref l0, .float 0, .int l1, .int 0]) (lwk_c (Or.inl rfl) (lwk_c (Or.inr rfl) (lwk_c (Or.inl rfl) (lwk_c (Or.inl rfl) (lwk_rf []))))) ?_
      exact ih.2 0 l1 0 S hf
    · intro l1 l2 l3 S hf
      rw [G122e4] at hf
      unfold G122b4 at hf
      refine r_iload_n fe_122_4 rfl ?_
      refine r_bipush (v := 13) fe_122_5 (by decide) ?_
      by_cases hb1 : am_ic .ge l3 13 = true
      · rw [if_pos hb1] at hf
        refine r_ic_t (t := 42) fe_122_7 (by decide) hb1 ?_
        refine r_aload_n fe_122_42 rfl ?_
        refine r_getf (v := .ref (l0 + 6)) fe_122_43 lf_9_37 (x_c (wk0 h0) (by decide)) (x_lt (wk0 h0) (by decide)) rfl ?_
        refine r_iload_n fe_122_46 rfl ?_
        by_cases hg2 : ¬ (l2 < 0 ∨ 13 ≤ (l2).toNatClampNeg)
        rotate_left
        · rw [if_neg hg2] at hf; cases hf
        rw [if_pos hg2] at hf
        refine r_iald (j := (Int32.toNatClampNeg l2)) (v := S.2.1 (l0 + 6) (Int32.toNatClampNeg l2)) fe_122_47 (x_c (wk6 h0) (by decide)) (x_lt (wk6 h0) (by decide)) (fun z => hg2 (Or.inl z)) rfl (fun z => hg2 (Or.inr z)) rfl ?_
        refine r_iret fe_122_48 ⟨rfl, by decide⟩ ?_
        exact dfin (P := fun r T => Q (some (.int r)) (xst T G h)) hf hQ
      · rw [if_neg hb1] at hf
        refine r_ic_f (t := 42) fe_122_7 (by decide) (Bool.eq_false_iff.mpr hb1) ?_
        refine r_aload_n fe_122_10 rfl ?_
        refine r_getf (v := .ref (l0 + 6)) fe_122_11 lf_9_37 (x_c (wk0 h0) (by decide)) (x_lt (wk0 h0) (by decide)) rfl ?_
        refine r_iload_n fe_122_14 rfl ?_
        by_cases hg3 : ¬ (l2 < 0 ∨ 13 ≤ (l2).toNatClampNeg)
        rotate_left
        · rw [if_neg hg3] at hf; cases hf
        rw [if_pos hg3] at hf
        refine r_iald (j := (Int32.toNatClampNeg l2)) (v := S.2.1 (l0 + 6) (Int32.toNatClampNeg l2)) fe_122_15 (x_c (wk6 h0) (by decide)) (x_lt (wk6 h0) (by decide)) (fun z => hg3 (Or.inl z)) rfl (fun z => hg3 (Or.inr z)) rfl ?_
        refine r_iconst (v := 3) fe_122_16 (by decide) ?_
        by_cases hb4 : am_ic .ne (S.2.1 (l0 + 6) (Int32.toNatClampNeg l2)) 3 = true
        · rw [if_pos hb4] at hf
          refine r_ic_t (t := 42) fe_122_17 (by decide) hb4 ?_
          refine r_aload_n fe_122_42 rfl ?_
          refine r_getf (v := .ref (l0 + 6)) fe_122_43 lf_9_37 (x_c (wk0 h0) (by decide)) (x_lt (wk0 h0) (by decide)) rfl ?_
          refine r_iload_n fe_122_46 rfl ?_
          by_cases hg5 : ¬ (l2 < 0 ∨ 13 ≤ (l2).toNatClampNeg)
          rotate_left
          · rw [if_neg hg5] at hf; cases hf
          rw [if_pos hg5] at hf
          refine r_iald (j := (Int32.toNatClampNeg l2)) (v := S.2.1 (l0 + 6) (Int32.toNatClampNeg l2)) fe_122_47 (x_c (wk6 h0) (by decide)) (x_lt (wk6 h0) (by decide)) (fun z => hg5 (Or.inl z)) rfl (fun z => hg5 (Or.inr z)) rfl ?_
          refine r_iret fe_122_48 ⟨rfl, by decide⟩ ?_
          exact dfin (P := fun r T => Q (some (.int r)) (xst T G h)) hf hQ
        · rw [if_neg hb4] at hf
          refine r_ic_f (t := 42) fe_122_17 (by decide) (Bool.eq_false_iff.mpr hb4) ?_
          refine r_aload_n fe_122_20 rfl ?_
          refine r_getf (v := .ref (l0 + 7)) fe_122_21 lf_9_40 (x_c (wk0 h0) (by decide)) (x_lt (wk0 h0) (by decide)) rfl ?_
          refine r_iload_n fe_122_24 rfl ?_
          by_cases hg6 : ¬ (l2 < 0 ∨ 13 ≤ (l2).toNatClampNeg)
          rotate_left
          · rw [if_neg hg6] at hf; cases hf
          rw [if_pos hg6] at hf
          refine r_iald (j := (Int32.toNatClampNeg l2)) (v := S.2.1 (l0 + 7) (Int32.toNatClampNeg l2)) fe_122_25 (x_c (wk7 h0) (by decide)) (x_lt (wk7 h0) (by decide)) (fun z => hg6 (Or.inl z)) rfl (fun z => hg6 (Or.inr z)) rfl ?_
          by_cases hb7 : am_if .lt (S.2.1 (l0 + 7) (Int32.toNatClampNeg l2)) = true
          · rw [if_pos hb7] at hf
            refine r_if_t (t := 42) fe_122_26 (by decide) hb7 ?_
            refine r_aload_n fe_122_42 rfl ?_
            refine r_getf (v := .ref (l0 + 6)) fe_122_43 lf_9_37 (x_c (wk0 h0) (by decide)) (x_lt (wk0 h0) (by decide)) rfl ?_
            refine r_iload_n fe_122_46 rfl ?_
            by_cases hg8 : ¬ (l2 < 0 ∨ 13 ≤ (l2).toNatClampNeg)
            rotate_left
            · rw [if_neg hg8] at hf; cases hf
            rw [if_pos hg8] at hf
            refine r_iald (j := (Int32.toNatClampNeg l2)) (v := S.2.1 (l0 + 6) (Int32.toNatClampNeg l2)) fe_122_47 (x_c (wk6 h0) (by decide)) (x_lt (wk6 h0) (by decide)) (fun z => hg8 (Or.inl z)) rfl (fun z => hg8 (Or.inr z)) rfl ?_
            refine r_iret fe_122_48 ⟨rfl, by decide⟩ ?_
            exact dfin (P := fun r T => Q (some (.int r)) (xst T G h)) hf hQ
          · rw [if_neg hb7] at hf
            refine r_if_f (t := 42) fe_122_26 (by decide) (Bool.eq_false_iff.mpr hb7) ?_
            refine r_aload_n fe_122_29 rfl ?_
            refine r_getf (v := .ref (l0 + 7)) fe_122_30 lf_9_40 (x_c (wk0 h0) (by decide)) (x_lt (wk0 h0) (by decide)) rfl ?_
            refine r_iload_n fe_122_33 rfl ?_
            by_cases hg9 : ¬ (l2 < 0 ∨ 13 ≤ (l2).toNatClampNeg)
            rotate_left
            · rw [if_neg hg9] at hf; cases hf
            rw [if_pos hg9] at hf
            refine r_iald (j := (Int32.toNatClampNeg l2)) (v := S.2.1 (l0 + 7) (Int32.toNatClampNeg l2)) fe_122_34 (x_c (wk7 h0) (by decide)) (x_lt (wk7 h0) (by decide)) (fun z => hg9 (Or.inl z)) rfl (fun z => hg9 (Or.inr z)) rfl ?_
            refine r_istore_n fe_122_35 (Nat.le_of_ble_eq_true rfl) rfl ?_
            refine r_iinc (v := (l3 + 1)) fe_122_36 rfl rfl rfl ?_
            refine r_goto (t := 4) fe_122_39 (by decide) ?_
            refine go_weak (L0 := [.ref l0, .float 0, .int (S.2.1 (l0 + 7) (Int32.toNatClampNeg l2)), .int (l3 + 1)]) (lwk_c (Or.inl rfl) (lwk_c (Or.inl rfl) (lwk_c (Or.inl rfl) (lwk_c (Or.inl rfl) (lwk_rf []))))) ?_
            exact ih.2 0 (S.2.1 (l0 + 7) (Int32.toNatClampNeg l2)) (l3 + 1) S hf
theorem G122c {xs : Nat → Int32} {L9 d : Nat} {G : gS} {h : Nat → va_E} {l0 : Nat} {n : Nat} {Q : Option Value → AmH → Prop} {r0 : Int32} {S0 S : xS} {l1 : Int32} (h0 : wB G l0 = true) (hf : G122 l0 n l1 S = some (r0, S0)) (hQ : Q (some (.int r0)) (xst S0 G h)) : Ca (am_X xs L9) (d + 0) 122 [.ref l0, .int l1] (xst S G h) Q := (G122l h0 hQ n).1 l1 0 0 S hf
def G121b0 (l0 : Nat) (F : Nat → Int32 → Int32 → Int32 → xS → Option (Int32 × xS)) (n : Nat) (l1 : Int32) (l2 : Int32) (l3 : Int32) (S : xS) : Option (Int32 × xS) := F 4 l1 0 0 S
def G121b4 (l0 : Nat) (F : Nat → Int32 → Int32 → Int32 → xS → Option (Int32 × xS)) (n : Nat) (l1 : Int32) (l2 : Int32) (l3 : Int32) (S : xS) : Option (Int32 × xS) := (if am_ic .ge l3 (S.1 l0 1) = true then (if narrow .boolean (.int l2) = .int l2 then some (l2, S) else none) else (if am_ic .ne ((l1 >>> (l3 &&& 31)) &&& 1) 1 = true then F 4 l1 l2 (l3 + 1) S else ((G122 l0 n l3 S).bind (fun z4 => (if am_ic .ne z4.1 1 = true then (if am_if .ne z4.1 = true then F 4 l1 (l2 ||| 0) (l3 + 1) z4.2 else F 4 l1 (l2 ||| 1) (l3 + 1) z4.2) else some (0, z4.2))))))
def G121f (l0 : Nat) : Nat → Nat → Int32 → Int32 → Int32 → xS → Option (Int32 × xS)
  | 0, _, _, _, _, _ => none
  | n + 1, c, l1, l2, l3, S => if c = 0 then G121b0 l0 (G121f l0 n) n l1 l2 l3 S else G121b4 l0 (G121f l0 n) n l1 l2 l3 S
theorem G121e0 (l0 : Nat) (n : Nat) (l1 : Int32) (l2 : Int32) (l3 : Int32) (S : xS) : G121f l0 (n + 1) 0 l1 l2 l3 S = G121b0 l0 (G121f l0 n) n l1 l2 l3 S := if_pos rfl
theorem G121e4 (l0 : Nat) (n : Nat) (l1 : Int32) (l2 : Int32) (l3 : Int32) (S : xS) : G121f l0 (n + 1) 4 l1 l2 l3 S = G121b4 l0 (G121f l0 n) n l1 l2 l3 S := if_neg (by decide)
def G121 (l0 : Nat) (n : Nat) (l1 : Int32) (S : xS) : Option (Int32 × xS) := G121f l0 n 0 l1 0 0 S
set_option maxRecDepth 20000 in
set_option maxHeartbeats 4000000 in
theorem G121l {xs : Nat → Int32} {L9 d : Nat} {G : gS} {h : Nat → va_E} {l0 : Nat} {Q : Option Value → AmH → Prop} {r0 : Int32} {S0 : xS} (h0 : wB G l0 = true) (hQ : Q (some (.int r0)) (xst S0 G h)) : ∀ n : Nat, (∀ (l1 : Int32) (l2 : Int32) (l3 : Int32) (S : xS), G121f l0 n 0 l1 l2 l3 S = some (r0, S0) → Go (am_X xs L9) (d + 1) 121 0 [.ref l0, .int l1, .float 0, .float 0, .float 0] [] (xst S G h) Q) ∧ (∀ (l1 : Int32) (l2 : Int32) (l3 : Int32) (S : xS), G121f l0 n 4 l1 l2 l3 S = some (r0, S0) → Go (am_X xs L9) (d + 1) 121 4 [.ref l0, .int l1, .int l2, .int l3, .float 0] [] (xst S G h) Q) := by
  intro n
  induction n with
  | zero => exact ⟨fun l1 l2 l3 S hf => (by cases hf), fun l1 l2 l3 S hf => (by cases hf)⟩
  | succ n ih =>
    refine ⟨?_, ?_⟩
    · intro l1 l2 l3 S hf
      rw [G121e0] at hf
      unfold G121b0 at hf
      refine r_iconst (v := 0) fe_121_0 (by decide) ?_
      refine r_istore_n fe_121_1 (Nat.le_of_ble_eq_true rfl) rfl ?_
      refine r_iconst (v := 0) fe_121_2 (by decide) ?_
      refine r_istore_n fe_121_3 (Nat.le_of_ble_eq_true rfl) rfl ?_
      refine go_weak (L0 := [.ref l0, .int l1, .int 0, .int 0, .float 0]) (lwk_c (Or.inl rfl) (lwk_c (Or.inl rfl) (lwk_c (Or.inl rfl) (lwk_c (Or.inl rfl) (lwk_c (Or.inl rfl) (lwk_rf [])))))) ?_
      exact ih.2 l1 0 0 S hf
    · intro l1 l2 l3 S hf
      rw [G121e4] at hf
      unfold G121b4 at hf
      refine r_iload_n fe_121_4 rfl ?_
      refine r_aload_n fe_121_5 rfl ?_
      refine r_getf (v := .int (S.1 l0 1)) fe_121_6 lf_2_87 (x_c (wk0 h0) (by decide)) (x_lt (wk0 h0) (by decide)) rfl ?_
      by_cases hb1 : am_ic .ge l3 (S.1 l0 1) = true
      · rw [if_pos hb1] at hf
        refine r_ic_t (t := 55) fe_121_9 (by decide) hb1 ?_
        refine r_iload_n fe_121_55 rfl ?_
        by_cases hz2 : narrow .boolean (.int l2) = .int l2
        rotate_left
        · rw [if_neg hz2] at hf; cases hf
        rw [if_pos hz2] at hf
        refine r_iret fe_121_56 ⟨hz2, by decide⟩ ?_
        exact dfin (P := fun r T => Q (some (.int r)) (xst T G h)) hf hQ
      · rw [if_neg hb1] at hf
        refine r_ic_f (t := 55) fe_121_9 (by decide) (Bool.eq_false_iff.mpr hb1) ?_
        refine r_iload_n fe_121_12 rfl ?_
        refine r_iload_n fe_121_13 rfl ?_
        refine r_ishr (v := (l1 >>> (l3 &&& 31))) fe_121_14 rfl ?_
        refine r_iconst (v := 1) fe_121_15 (by decide) ?_
        refine r_iand (v := ((l1 >>> (l3 &&& 31)) &&& 1)) fe_121_16 rfl ?_
        refine r_iconst (v := 1) fe_121_17 (by decide) ?_
        by_cases hb3 : am_ic .ne ((l1 >>> (l3 &&& 31)) &&& 1) 1 = true
        · rw [if_pos hb3] at hf
          refine r_ic_t (t := 49) fe_121_18 (by decide) hb3 ?_
          refine r_iinc (v := (l3 + 1)) fe_121_49 rfl rfl rfl ?_
          refine r_goto (t := 4) fe_121_52 (by decide) ?_
          refine go_weak (L0 := [.ref l0, .int l1, .int l2, .int (l3 + 1), .float 0]) (lwk_c (Or.inl rfl) (lwk_c (Or.inl rfl) (lwk_c (Or.inl rfl) (lwk_c (Or.inl rfl) (lwk_c (Or.inl rfl) (lwk_rf [])))))) ?_
          exact ih.2 l1 l2 (l3 + 1) S hf
        · rw [if_neg hb3] at hf
          refine r_ic_f (t := 49) fe_121_18 (by decide) (Bool.eq_false_iff.mpr hb3) ?_
          refine r_aload_n fe_121_21 rfl ?_
          refine r_iload_n fe_121_22 rfl ?_
          refine r_callV (as := [.int l3]) (r := []) fe_121_23 lm_2_90 md_122 rfl rfl (Nat.le_of_ble_eq_true rfl) (x_c (wk0 h0) (by decide)) (x_lt (wk0 h0) (by decide)) (Nat.le_of_ble_eq_true rfl) (Nat.le_of_ble_eq_true rfl) ?_
          cases hc5 : G122 l0 n l3 S with
          | none => rw [hc5] at hf; cases hf
          | some z4 =>
            rw [hc5, Option.bind_some] at hf
            refine G122c (r0 := z4.1) (S0 := z4.2) (h0 := h0) (hf := hc5) ?_
            refine r_istore fe_121_26 (Nat.le_of_ble_eq_true rfl) rfl ?_
            refine r_iload fe_121_28 rfl ?_
            refine r_iconst (v := 1) fe_121_30 (by decide) ?_
            by_cases hb6 : am_ic .ne z4.1 1 = true
            · rw [if_pos hb6] at hf
              refine r_ic_t (t := 36) fe_121_31 (by decide) hb6 ?_
              refine r_iload_n fe_121_36 rfl ?_
              refine r_iload fe_121_37 rfl ?_
              by_cases hb7 : am_if .ne z4.1 = true
              · rw [if_pos hb7] at hf
                refine r_if_t (t := 46) fe_121_39 (by decide) hb7 ?_
                refine r_iconst (v := 0) fe_121_46 (by decide) ?_
                refine r_ior (v := (l2 ||| 0)) fe_121_47 rfl ?_
                refine r_istore_n fe_121_48 (Nat.le_of_ble_eq_true rfl) rfl ?_
                refine r_iinc (v := (l3 + 1)) fe_121_49 rfl rfl rfl ?_
                refine r_goto (t := 4) fe_121_52 (by decide) ?_
                refine go_weak (L0 := [.ref l0, .int l1, .int (l2 ||| 0), .int (l3 + 1), .float 0]) (lwk_c (Or.inl rfl) (lwk_c (Or.inl rfl) (lwk_c (Or.inl rfl) (lwk_c (Or.inl rfl) (lwk_c (Or.inr rfl) (lwk_rf [])))))) ?_
                exact ih.2 l1 (l2 ||| 0) (l3 + 1) z4.2 hf
              · rw [if_neg hb7] at hf
                refine r_if_f (t := 46) fe_121_39 (by decide) (Bool.eq_false_iff.mpr hb7) ?_
                refine r_iconst (v := 1) fe_121_42 (by decide) ?_
                refine r_goto (t := 47) fe_121_43 (by decide) ?_
                refine r_ior (v := (l2 ||| 1)) fe_121_47 rfl ?_
                refine r_istore_n fe_121_48 (Nat.le_of_ble_eq_true rfl) rfl ?_
                refine r_iinc (v := (l3 + 1)) fe_121_49 rfl rfl rfl ?_
                refine r_goto (t := 4) fe_121_52 (by decide) ?_
                refine go_weak (L0 := [.ref l0, .int l1, .int (l2 ||| 1), .int (l3 + 1), .float 0]) (lwk_c (Or.inl rfl) (lwk_c (Or.inl rfl) (lwk_c (Or.inl rfl) (lwk_c (Or.inl rfl) (lwk_c (Or.inr rfl) (lwk_rf [])))))) ?_
                exact ih.2 l1 (l2 ||| 1) (l3 + 1) z4.2 hf
            · rw [if_neg hb6] at hf
              refine r_ic_f (t := 36) fe_121_31 (by decide) (Bool.eq_false_iff.mpr hb6) ?_
              refine r_iconst (v := 0) fe_121_34 (by decide) ?_
              refine r_iret fe_121_35 ⟨rfl, by decide⟩ ?_
              exact dfin (P := fun r T => Q (some (.int r)) (xst T G h)) hf hQ
theorem G121c {xs : Nat → Int32} {L9 d : Nat} {G : gS} {h : Nat → va_E} {l0 : Nat} {n : Nat} {Q : Option Value → AmH → Prop} {r0 : Int32} {S0 S : xS} {l1 : Int32} (h0 : wB G l0 = true) (hf : G121 l0 n l1 S = some (r0, S0)) (hQ : Q (some (.int r0)) (xst S0 G h)) : Ca (am_X xs L9) (d + 1) 121 [.ref l0, .int l1] (xst S G h) Q := (G121l h0 hQ n).1 l1 0 0 S hf
def G120b0 (wb : Nat) (lo : Option Nat) (ln : Nat) (F : Nat → Int32 → Int32 → Int32 → xS → Option (Int32 × xS)) (n : Nat) (l2 : Int32) (l3 : Int32) (l5 : Int32) (S : xS) : Option (Int32 × xS) := (if S.2.2.2 109 4 = some wb then F 9 l2 l3 0 S else none)
def G120b9 (wb : Nat) (lo : Option Nat) (ln : Nat) (F : Nat → Int32 → Int32 → Int32 → xS → Option (Int32 × xS)) (n : Nat) (l2 : Int32) (l3 : Int32) (l5 : Int32) (S : xS) : Option (Int32 × xS) := (if am_ic .ge l5 16 = true then F 49 0 l3 0 (x_sI S 123 1 0) else (if am_ic .ne ((l2 >>> (l5 &&& 31)) &&& 1) 1 = true then F 9 l2 l3 (l5 + 1) S else (if ¬ (l5 < 0 ∨ 16 ≤ (l5).toNatClampNeg) then ((some (x_sA S (wb + 9) (Int32.toNatClampNeg l5) 1)).bind (fun S5 => F 9 l2 l3 (l5 + 1) S5)) else none)))
def G120b49 (wb : Nat) (lo : Option Nat) (ln : Nat) (F : Nat → Int32 → Int32 → Int32 → xS → Option (Int32 × xS)) (n : Nat) (l2 : Int32) (l3 : Int32) (l5 : Int32) (S : xS) : Option (Int32 × xS) := (if am_ic .ge l5 60 = true then F 93 0 l3 0 S else ((G121 wb n l3 S).bind (fun z8 => (if am_if .eq z8.1 = true then F 93 0 l3 0 z8.2 else ((G86 wb lo ln n  z8.2).bind (fun z11 => ((G90 wb n 1 z11.2).bind (fun z13 => F 49 0 l3 (l5 + 1) (x_sI z13.2 123 1 ((z11.2.1 123 1) ||| z13.1))))))))))
def G120b93 (wb : Nat) (lo : Option Nat) (ln : Nat) (F : Nat → Int32 → Int32 → Int32 → xS → Option (Int32 × xS)) (n : Nat) (l2 : Int32) (l3 : Int32) (l5 : Int32) (S : xS) : Option (Int32 × xS) := (if am_ic .ge l5 (S.1 wb 1) = true then some (1, S) else (if am_ic .ne ((l3 >>> (l5 &&& 31)) &&& 1) 1 = true then F 93 0 l3 (l5 + 1) S else ((G122 wb n l5 S).bind (fun z17 => (if am_ic .eq z17.1 2 = true then F 93 0 l3 (l5 + 1) z17.2 else some (0, z17.2))))))
def G120f (wb : Nat) (lo : Option Nat) (ln : Nat) : Nat → Nat → Int32 → Int32 → Int32 → xS → Option (Int32 × xS)
  | 0, _, _, _, _, _ => none
  | n + 1, c, l2, l3, l5, S => if c = 0 then G120b0 wb lo ln (G120f wb lo ln n) n l2 l3 l5 S else if c = 9 then G120b9 wb lo ln (G120f wb lo ln n) n l2 l3 l5 S else if c = 49 then G120b49 wb lo ln (G120f wb lo ln n) n l2 l3 l5 S else G120b93 wb lo ln (G120f wb lo ln n) n l2 l3 l5 S
theorem G120e0 (wb : Nat) (lo : Option Nat) (ln : Nat) (n : Nat) (l2 : Int32) (l3 : Int32) (l5 : Int32) (S : xS) : G120f wb lo ln (n + 1) 0 l2 l3 l5 S = G120b0 wb lo ln (G120f wb lo ln n) n l2 l3 l5 S := if_pos rfl
theorem G120e9 (wb : Nat) (lo : Option Nat) (ln : Nat) (n : Nat) (l2 : Int32) (l3 : Int32) (l5 : Int32) (S : xS) : G120f wb lo ln (n + 1) 9 l2 l3 l5 S = G120b9 wb lo ln (G120f wb lo ln n) n l2 l3 l5 S := (if_neg (by decide)).trans (if_pos rfl)
theorem G120e49 (wb : Nat) (lo : Option Nat) (ln : Nat) (n : Nat) (l2 : Int32) (l3 : Int32) (l5 : Int32) (S : xS) : G120f wb lo ln (n + 1) 49 l2 l3 l5 S = G120b49 wb lo ln (G120f wb lo ln n) n l2 l3 l5 S := (if_neg (by decide)).trans ((if_neg (by decide)).trans (if_pos rfl))
theorem G120e93 (wb : Nat) (lo : Option Nat) (ln : Nat) (n : Nat) (l2 : Int32) (l3 : Int32) (l5 : Int32) (S : xS) : G120f wb lo ln (n + 1) 93 l2 l3 l5 S = G120b93 wb lo ln (G120f wb lo ln n) n l2 l3 l5 S := (if_neg (by decide)).trans ((if_neg (by decide)).trans (if_neg (by decide)))
def G120 (wb : Nat) (lo : Option Nat) (ln : Nat) (n : Nat) (l2 : Int32) (l3 : Int32) (S : xS) : Option (Int32 × xS) := G120f wb lo ln n 0 l2 l3 0 S
set_option maxRecDepth 20000 in
set_option maxHeartbeats 4000000 in
theorem G120l {xs : Nat → Int32} {L9 d : Nat} {G : gS} {h : Nat → va_E} {wb : Nat} {lo : Option Nat} {ln : Nat} {Q : Option Value → AmH → Prop} {r0 : Int32} {S0 : xS} (hw : wB G wb = true) (hl : lwB G lo ln = true) (hQ : Q (some (.int r0)) (xst S0 G h)) : ∀ n : Nat, (∀ (l2 : Int32) (l3 : Int32) (l5 : Int32) (S : xS), G120f wb lo ln n 0 l2 l3 l5 S = some (r0, S0) → Go (am_X xs L9) (d + 5) 120 0 [.ref 123, .ref 109, .int l2, .int l3, .float 0, .float 0] [] (xst S G h) Q) ∧ (∀ (l2 : Int32) (l3 : Int32) (l5 : Int32) (S : xS), G120f wb lo ln n 9 l2 l3 l5 S = some (r0, S0) → Go (am_X xs L9) (d + 5) 120 9 [.ref 123, .ref 109, .int l2, .int l3, .ref wb, .int l5] [] (xst S G h) Q) ∧ (∀ (l2 : Int32) (l3 : Int32) (l5 : Int32) (S : xS), G120f wb lo ln n 49 l2 l3 l5 S = some (r0, S0) → Go (am_X xs L9) (d + 5) 120 49 [.ref 123, .ref 109, .float 0, .int l3, .ref wb, .int l5] [] (xst S G h) Q) ∧ (∀ (l2 : Int32) (l3 : Int32) (l5 : Int32) (S : xS), G120f wb lo ln n 93 l2 l3 l5 S = some (r0, S0) → Go (am_X xs L9) (d + 5) 120 93 [.float 0, .float 0, .float 0, .int l3, .ref wb, .int l5] [] (xst S G h) Q) := by
  intro n
  induction n with
  | zero => exact ⟨fun l2 l3 l5 S hf => (by cases hf), fun l2 l3 l5 S hf => (by cases hf), fun l2 l3 l5 S hf => (by cases hf), fun l2 l3 l5 S hf => (by cases hf)⟩
  | succ n ih =>
    refine ⟨?_, ?_, ?_, ?_⟩
    · intro l2 l3 l5 S hf
      rw [G120e0] at hf
      unfold G120b0 at hf
      refine r_aload_n fe_120_0 rfl ?_
      by_cases hm1 : S.2.2.2 109 4 = some wb
      rotate_left
      · rw [if_neg hm1] at hf; cases hf
      rw [if_pos hm1] at hf
      refine r_getf (v := .ref wb) fe_120_1 lf_2_76 (x_c xk_109 (by decide)) (x_lt xk_109 (by decide)) (by show some (va_rf _) = _; rw [hm1]; rfl) ?_
      refine r_astore fe_120_4 (Nat.le_of_ble_eq_true rfl) rfl ?_
      refine r_iconst (v := 0) fe_120_6 (by decide) ?_
      refine r_istore fe_120_7 (Nat.le_of_ble_eq_true rfl) rfl ?_
      refine go_weak (L0 := [.ref 123, .ref 109, .int l2, .int l3, .ref wb, .int 0]) (lwk_c (Or.inl rfl) (lwk_c (Or.inl rfl) (lwk_c (Or.inl rfl) (lwk_c (Or.inl rfl) (lwk_c (Or.inl rfl) (lwk_c (Or.inl rfl) (lwk_rf []))))))) ?_
      exact ih.2.1 l2 l3 0 S hf
    · intro l2 l3 l5 S hf
      rw [G120e9] at hf
      unfold G120b9 at hf
      refine r_iload fe_120_9 rfl ?_
      refine r_bipush (v := 16) fe_120_11 (by decide) ?_
      by_cases hb2 : am_ic .ge l5 16 = true
      · rw [if_pos hb2] at hf
        refine r_ic_t (t := 41) fe_120_13 (by decide) hb2 ?_
        refine r_aload_n fe_120_41 rfl ?_
        refine r_iconst (v := 0) fe_120_42 (by decide) ?_
        refine r_putf fe_120_43 lf_2_15 (x_h xk_123 (by decide)) (x_lt xk_123 (by decide)) (by decide) (Nat.le_of_ble_eq_true rfl) rfl rfl (Or.inl rfl) ?_
        refine go_heap (x_uI (j := 1) (x := 0) xk_123 (by decide)) ?_
        refine r_iconst (v := 0) fe_120_46 (by decide) ?_
        refine r_istore fe_120_47 (Nat.le_of_ble_eq_true rfl) rfl ?_
        refine go_weak (L0 := [.ref 123, .ref 109, .float 0, .int l3, .ref wb, .int 0]) (lwk_c (Or.inl rfl) (lwk_c (Or.inl rfl) (lwk_c (Or.inr rfl) (lwk_c (Or.inl rfl) (lwk_c (Or.inl rfl) (lwk_c (Or.inl rfl) (lwk_rf []))))))) ?_
        exact ih.2.2.1 0 l3 0 (x_sI S 123 1 0) hf
      · rw [if_neg hb2] at hf
        refine r_ic_f (t := 41) fe_120_13 (by decide) (Bool.eq_false_iff.mpr hb2) ?_
        refine r_iload_n fe_120_16 rfl ?_
        refine r_iload fe_120_17 rfl ?_
        refine r_ishr (v := (l2 >>> (l5 &&& 31))) fe_120_19 rfl ?_
        refine r_iconst (v := 1) fe_120_20 (by decide) ?_
        refine r_iand (v := ((l2 >>> (l5 &&& 31)) &&& 1)) fe_120_21 rfl ?_
        refine r_iconst (v := 1) fe_120_22 (by decide) ?_
        by_cases hb3 : am_ic .ne ((l2 >>> (l5 &&& 31)) &&& 1) 1 = true
        · rw [if_pos hb3] at hf
          refine r_ic_t (t := 35) fe_120_23 (by decide) hb3 ?_
          refine r_iinc (v := (l5 + 1)) fe_120_35 rfl rfl rfl ?_
          refine r_goto (t := 9) fe_120_38 (by decide) ?_
          refine go_weak (L0 := [.ref 123, .ref 109, .int l2, .int l3, .ref wb, .int (l5 + 1)]) (lwk_c (Or.inl rfl) (lwk_c (Or.inl rfl) (lwk_c (Or.inl rfl) (lwk_c (Or.inl rfl) (lwk_c (Or.inl rfl) (lwk_c (Or.inl rfl) (lwk_rf []))))))) ?_
          exact ih.2.1 l2 l3 (l5 + 1) S hf
        · rw [if_neg hb3] at hf
          refine r_ic_f (t := 35) fe_120_23 (by decide) (Bool.eq_false_iff.mpr hb3) ?_
          refine r_aload fe_120_26 rfl ?_
          refine r_getf (v := .ref (wb + 9)) fe_120_28 lf_2_34 (x_c (wk0 hw) (by decide)) (x_lt (wk0 hw) (by decide)) rfl ?_
          refine r_iload fe_120_31 rfl ?_
          refine r_iconst (v := 1) fe_120_33 (by decide) ?_
          by_cases hg4 : ¬ (l5 < 0 ∨ 16 ≤ (l5).toNatClampNeg)
          rotate_left
          · rw [if_neg hg4] at hf; cases hf
          rw [if_pos hg4] at hf
          refine r_iast (j := (Int32.toNatClampNeg l5)) fe_120_34 (x_h (wk9 hw) (by decide)) (x_lt (wk9 hw) (by decide)) (x_k6 (wk9 hw) (by decide)) (fun z => hg4 (Or.inl z)) rfl (fun z => hg4 (Or.inr z)) ?_
          obtain ⟨S5, e6, hf⟩ := dbnd hf
          refine go_heap (h2 := xst S5 G h) ((x_uA (wk9 hw)).trans (by rw [e6])) ?_
          refine r_iinc (v := (l5 + 1)) fe_120_35 rfl rfl rfl ?_
          refine r_goto (t := 9) fe_120_38 (by decide) ?_
          refine go_weak (L0 := [.ref 123, .ref 109, .int l2, .int l3, .ref wb, .int (l5 + 1)]) (lwk_c (Or.inl rfl) (lwk_c (Or.inl rfl) (lwk_c (Or.inl rfl) (lwk_c (Or.inl rfl) (lwk_c (Or.inl rfl) (lwk_c (Or.inl rfl) (lwk_rf []))))))) ?_
          exact ih.2.1 l2 l3 (l5 + 1) S5 hf
    · intro l2 l3 l5 S hf
      rw [G120e49] at hf
      unfold G120b49 at hf
      refine r_iload fe_120_49 rfl ?_
      refine r_bipush (v := 60) fe_120_51 (by decide) ?_
      by_cases hb7 : am_ic .ge l5 60 = true
      · rw [if_pos hb7] at hf
        refine r_ic_t (t := 90) fe_120_53 (by decide) hb7 ?_
        refine r_iconst (v := 0) fe_120_90 (by decide) ?_
        refine r_istore fe_120_91 (Nat.le_of_ble_eq_true rfl) rfl ?_
        refine go_weak (L0 := [.float 0, .float 0, .float 0, .int l3, .ref wb, .int 0]) (lwk_c (Or.inr rfl) (lwk_c (Or.inr rfl) (lwk_c (Or.inl rfl) (lwk_c (Or.inl rfl) (lwk_c (Or.inl rfl) (lwk_c (Or.inl rfl) (lwk_rf []))))))) ?_
        exact ih.2.2.2 0 l3 0 S hf
      · rw [if_neg hb7] at hf
        refine r_ic_f (t := 90) fe_120_53 (by decide) (Bool.eq_false_iff.mpr hb7) ?_
        refine r_aload fe_120_56 rfl ?_
        refine r_iload_n fe_120_58 rfl ?_
        refine r_callS (as := [.ref wb, .int l3]) (r := []) fe_120_59 lm_2_77 md_121 rfl rfl (Nat.le_of_ble_eq_true rfl) (Nat.le_of_ble_eq_true rfl) (Nat.le_of_ble_eq_true rfl) ?_
        cases hc9 : G121 wb n l3 S with
        | none => rw [hc9] at hf; cases hf
        | some z8 =>
          rw [hc9, Option.bind_some] at hf
          refine G121c (r0 := z8.1) (S0 := z8.2) (h0 := hw) (hf := hc9) ?_
          by_cases hb10 : am_if .eq z8.1 = true
          · rw [if_pos hb10] at hf
            refine r_if_t (t := 90) fe_120_62 (by decide) hb10 ?_
            refine r_iconst (v := 0) fe_120_90 (by decide) ?_
            refine r_istore fe_120_91 (Nat.le_of_ble_eq_true rfl) rfl ?_
            refine go_weak (L0 := [.float 0, .float 0, .float 0, .int l3, .ref wb, .int 0]) (lwk_c (Or.inr rfl) (lwk_c (Or.inr rfl) (lwk_c (Or.inl rfl) (lwk_c (Or.inl rfl) (lwk_c (Or.inl rfl) (lwk_c (Or.inl rfl) (lwk_rf []))))))) ?_
            exact ih.2.2.2 0 l3 0 z8.2 hf
          · rw [if_neg hb10] at hf
            refine r_if_f (t := 90) fe_120_62 (by decide) (Bool.eq_false_iff.mpr hb10) ?_
            refine r_aload_n fe_120_65 rfl ?_
            refine r_callV (as := []) (r := []) fe_120_66 lm_2_81 md_86 rfl rfl (Nat.le_of_ble_eq_true rfl) (x_c xk_109 (by decide)) (x_lt xk_109 (by decide)) (Nat.le_of_ble_eq_true rfl) (Nat.le_of_ble_eq_true rfl) ?_
            cases hc12 : G86 wb lo ln n  z8.2 with
            | none => rw [hc12] at hf; cases hf
            | some z11 =>
              rw [hc12, Option.bind_some] at hf
              refine G86c (r0 := z11.1) (S0 := z11.2) (hw := hw) (hl := hl) (hf := hc12) ?_
              refine r_aload_n fe_120_69 rfl ?_
              refine r_dup fe_120_70 rfl ?_
              refine r_getf (v := .int (z11.2.1 123 1)) fe_120_71 lf_2_15 (x_c xk_123 (by decide)) (x_lt xk_123 (by decide)) rfl ?_
              refine r_aload fe_120_74 rfl ?_
              refine r_iconst (v := 1) fe_120_76 (by decide) ?_
              refine r_callV (as := [.int 1]) (r := [.int (z11.2.1 123 1), .ref 123]) fe_120_77 lm_2_84 md_90 rfl rfl (Nat.le_of_ble_eq_true rfl) (x_c (wk0 hw) (by decide)) (x_lt (wk0 hw) (by decide)) (Nat.le_of_ble_eq_true rfl) (Nat.le_of_ble_eq_true rfl) ?_
              cases hc14 : G90 wb n 1 z11.2 with
              | none => rw [hc14] at hf; cases hf
              | some z13 =>
                rw [hc14, Option.bind_some] at hf
                refine G90c (r0 := z13.1) (S0 := z13.2) (h0 := hw) (hf := hc14) ?_
                refine r_ior (v := ((z11.2.1 123 1) ||| z13.1)) fe_120_80 rfl ?_
                refine r_putf fe_120_81 lf_2_15 (x_h xk_123 (by decide)) (x_lt xk_123 (by decide)) (by decide) (Nat.le_of_ble_eq_true rfl) rfl rfl (Or.inl rfl) ?_
                refine go_heap (x_uI (j := 1) (x := ((z11.2.1 123 1) ||| z13.1)) xk_123 (by decide)) ?_
                refine r_iinc (v := (l5 + 1)) fe_120_84 rfl rfl rfl ?_
                refine r_goto (t := 49) fe_120_87 (by decide) ?_
                refine go_weak (L0 := [.ref 123, .ref 109, .float 0, .int l3, .ref wb, .int (l5 + 1)]) (lwk_c (Or.inl rfl) (lwk_c (Or.inl rfl) (lwk_c (Or.inl rfl) (lwk_c (Or.inl rfl) (lwk_c (Or.inl rfl) (lwk_c (Or.inl rfl) (lwk_rf []))))))) ?_
                exact ih.2.2.1 0 l3 (l5 + 1) (x_sI z13.2 123 1 ((z11.2.1 123 1) ||| z13.1)) hf
    · intro l2 l3 l5 S hf
      rw [G120e93] at hf
      unfold G120b93 at hf
      refine r_iload fe_120_93 rfl ?_
      refine r_aload fe_120_95 rfl ?_
      refine r_getf (v := .int (S.1 wb 1)) fe_120_97 lf_2_87 (x_c (wk0 hw) (by decide)) (x_lt (wk0 hw) (by decide)) rfl ?_
      by_cases hb15 : am_ic .ge l5 (S.1 wb 1) = true
      · rw [if_pos hb15] at hf
        refine r_ic_t (t := 132) fe_120_100 (by decide) hb15 ?_
        refine r_iconst (v := 1) fe_120_132 (by decide) ?_
        refine r_iret fe_120_133 ⟨rfl, by decide⟩ ?_
        exact dfin (P := fun r T => Q (some (.int r)) (xst T G h)) hf hQ
      · rw [if_neg hb15] at hf
        refine r_ic_f (t := 132) fe_120_100 (by decide) (Bool.eq_false_iff.mpr hb15) ?_
        refine r_iload_n fe_120_103 rfl ?_
        refine r_iload fe_120_104 rfl ?_
        refine r_ishr (v := (l3 >>> (l5 &&& 31))) fe_120_106 rfl ?_
        refine r_iconst (v := 1) fe_120_107 (by decide) ?_
        refine r_iand (v := ((l3 >>> (l5 &&& 31)) &&& 1)) fe_120_108 rfl ?_
        refine r_iconst (v := 1) fe_120_109 (by decide) ?_
        by_cases hb16 : am_ic .ne ((l3 >>> (l5 &&& 31)) &&& 1) 1 = true
        · rw [if_pos hb16] at hf
          refine r_ic_t (t := 126) fe_120_110 (by decide) hb16 ?_
          refine r_iinc (v := (l5 + 1)) fe_120_126 rfl rfl rfl ?_
          refine r_goto (t := 93) fe_120_129 (by decide) ?_
          refine go_weak (L0 := [.float 0, .float 0, .float 0, .int l3, .ref wb, .int (l5 + 1)]) (lwk_c (Or.inl rfl) (lwk_c (Or.inl rfl) (lwk_c (Or.inl rfl) (lwk_c (Or.inl rfl) (lwk_c (Or.inl rfl) (lwk_c (Or.inl rfl) (lwk_rf []))))))) ?_
          exact ih.2.2.2 0 l3 (l5 + 1) S hf
        · rw [if_neg hb16] at hf
          refine r_ic_f (t := 126) fe_120_110 (by decide) (Bool.eq_false_iff.mpr hb16) ?_
          refine r_aload fe_120_113 rfl ?_
          refine r_iload fe_120_115 rfl ?_
          refine r_callV (as := [.int l5]) (r := []) fe_120_117 lm_2_90 md_122 rfl rfl (Nat.le_of_ble_eq_true rfl) (x_c (wk0 hw) (by decide)) (x_lt (wk0 hw) (by decide)) (Nat.le_of_ble_eq_true rfl) (Nat.le_of_ble_eq_true rfl) ?_
          cases hc18 : G122 wb n l5 S with
          | none => rw [hc18] at hf; cases hf
          | some z17 =>
            rw [hc18, Option.bind_some] at hf
            refine G122c (r0 := z17.1) (S0 := z17.2) (h0 := hw) (hf := hc18) ?_
            refine r_iconst (v := 2) fe_120_120 (by decide) ?_
            by_cases hb19 : am_ic .eq z17.1 2 = true
            · rw [if_pos hb19] at hf
              refine r_ic_t (t := 126) fe_120_121 (by decide) hb19 ?_
              refine r_iinc (v := (l5 + 1)) fe_120_126 rfl rfl rfl ?_
              refine r_goto (t := 93) fe_120_129 (by decide) ?_
              refine go_weak (L0 := [.float 0, .float 0, .float 0, .int l3, .ref wb, .int (l5 + 1)]) (lwk_c (Or.inl rfl) (lwk_c (Or.inl rfl) (lwk_c (Or.inl rfl) (lwk_c (Or.inl rfl) (lwk_c (Or.inl rfl) (lwk_c (Or.inl rfl) (lwk_rf []))))))) ?_
              exact ih.2.2.2 0 l3 (l5 + 1) z17.2 hf
            · rw [if_neg hb19] at hf
              refine r_ic_f (t := 126) fe_120_121 (by decide) (Bool.eq_false_iff.mpr hb19) ?_
              refine r_iconst (v := 0) fe_120_124 (by decide) ?_
              refine r_iret fe_120_125 ⟨rfl, by decide⟩ ?_
              exact dfin (P := fun r T => Q (some (.int r)) (xst T G h)) hf hQ
theorem G120c {xs : Nat → Int32} {L9 d : Nat} {G : gS} {h : Nat → va_E} {wb : Nat} {lo : Option Nat} {ln : Nat} {n : Nat} {Q : Option Value → AmH → Prop} {r0 : Int32} {S0 S : xS} {l2 : Int32} {l3 : Int32} (hw : wB G wb = true) (hl : lwB G lo ln = true) (hf : G120 wb lo ln n l2 l3 S = some (r0, S0)) (hQ : Q (some (.int r0)) (xst S0 G h)) : Ca (am_X xs L9) (d + 5) 120 [.ref 123, .ref 109, .int l2, .int l3] (xst S G h) Q := (G120l hw hl hQ n).1 l2 l3 0 S hf
def G123b0 (F : Nat → Int32 → xS → Option (Int32 × xS)) (n : Nat) (l0 : Int32) (S : xS) : Option (Int32 × xS) := (if am_if .ne l0 = true then ((G117 n (l0 &&& (-l0)) S).bind (fun z2 => some (((l0 + (l0 &&& (-l0))) ||| ((l0 ^^^ (l0 + (l0 &&& (-l0)))) >>> ((2 + z2.1) &&& 31))), z2.2))) else some (65536, S))
def G123f : Nat → Nat → Int32 → xS → Option (Int32 × xS)
  | 0, _, _, _ => none
  | n + 1, c, l0, S => G123b0 (G123f n) n l0 S
theorem G123e0 (n : Nat) (l0 : Int32) (S : xS) : G123f (n + 1) 0 l0 S = G123b0 (G123f n) n l0 S := rfl
def G123 (n : Nat) (l0 : Int32) (S : xS) : Option (Int32 × xS) := G123f n 0 l0 S
set_option maxRecDepth 20000 in
set_option maxHeartbeats 4000000 in
theorem G123l {xs : Nat → Int32} {L9 d : Nat} {G : gS} {h : Nat → va_E} {Q : Option Value → AmH → Prop} {r0 : Int32} {S0 : xS} (hQ : Q (some (.int r0)) (xst S0 G h)) : ∀ n : Nat, (∀ (l0 : Int32) (S : xS), G123f n 0 l0 S = some (r0, S0) → Go (am_X xs L9) (d + 1) 123 0 [.int l0, .float 0, .float 0] [] (xst S G h) Q) := by
  intro n
  induction n with
  | zero => exact fun l0 S hf => (by cases hf)
  | succ n ih =>
    intro l0 S hf
    rw [G123e0] at hf
    unfold G123b0 at hf
    refine r_iload_n fe_123_0 rfl ?_
    by_cases hb1 : am_if .ne l0 = true
    · rw [if_pos hb1] at hf
      refine r_if_t (t := 7) fe_123_1 (by decide) hb1 ?_
      refine r_iload_n fe_123_7 rfl ?_
      refine r_iload_n fe_123_8 rfl ?_
      refine r_ineg (v := (-l0)) fe_123_9 rfl ?_
      refine r_iand (v := (l0 &&& (-l0))) fe_123_10 rfl ?_
      refine r_istore_n fe_123_11 (Nat.le_of_ble_eq_true rfl) rfl ?_
      refine r_iload_n fe_123_12 rfl ?_
      refine r_iload_n fe_123_13 rfl ?_
      refine r_iadd (v := (l0 + (l0 &&& (-l0)))) fe_123_14 rfl ?_
      refine r_istore_n fe_123_15 (Nat.le_of_ble_eq_true rfl) rfl ?_
      refine r_iload_n fe_123_16 rfl ?_
      refine r_iload_n fe_123_17 rfl ?_
      refine r_iload_n fe_123_18 rfl ?_
      refine r_ixor (v := (l0 ^^^ (l0 + (l0 &&& (-l0))))) fe_123_19 rfl ?_
      refine r_iconst (v := 2) fe_123_20 (by decide) ?_
      refine r_iload_n fe_123_21 rfl ?_
      refine r_callS (as := [.int (l0 &&& (-l0))]) (r := [.int 2, .int (l0 ^^^ (l0 + (l0 &&& (-l0)))), .int (l0 + (l0 &&& (-l0)))]) fe_123_22 lm_2_62 md_117 rfl rfl (Nat.le_of_ble_eq_true rfl) (Nat.le_of_ble_eq_true rfl) (Nat.le_of_ble_eq_true rfl) ?_
      cases hc3 : G117 n (l0 &&& (-l0)) S with
      | none => rw [hc3] at hf; cases hf
      | some z2 =>
        rw [hc3, Option.bind_some] at hf
        refine G117c (r0 := z2.1) (S0 := z2.2)  (hf := hc3) ?_
        refine r_iadd (v := (2 + z2.1)) fe_123_25 rfl ?_
        refine r_ishr (v := ((l0 ^^^ (l0 + (l0 &&& (-l0)))) >>> ((2 + z2.1) &&& 31))) fe_123_26 rfl ?_
        refine r_ior (v := ((l0 + (l0 &&& (-l0))) ||| ((l0 ^^^ (l0 + (l0 &&& (-l0)))) >>> ((2 + z2.1) &&& 31)))) fe_123_27 rfl ?_
        refine r_iret fe_123_28 ⟨rfl, by decide⟩ ?_
        exact dfin (P := fun r T => Q (some (.int r)) (xst T G h)) hf hQ
    · rw [if_neg hb1] at hf
      refine r_if_f (t := 7) fe_123_1 (by decide) (Bool.eq_false_iff.mpr hb1) ?_
      refine r_ldc fe_123_4 lk_2_61 ?_
      refine r_iret fe_123_6 ⟨rfl, by decide⟩ ?_
      exact dfin (P := fun r T => Q (some (.int r)) (xst T G h)) hf hQ
theorem G123c {xs : Nat → Int32} {L9 d : Nat} {G : gS} {h : Nat → va_E} {n : Nat} {Q : Option Value → AmH → Prop} {r0 : Int32} {S0 S : xS} {l0 : Int32} (hf : G123 n l0 S = some (r0, S0)) (hQ : Q (some (.int r0)) (xst S0 G h)) : Ca (am_X xs L9) (d + 1) 123 [.int l0] (xst S G h) Q := (G123l hQ n) l0 S hf
def G115b0 (l3 : Option Nat) (ln : Nat) (F : Nat → Int32 → Int32 → Int32 → Int32 → Int32 → xS → Option (Int32 × xS)) (n : Nat) (l4 : Int32) (l5 : Int32) (l6 : Int32) (l7 : Int32) (l8 : Int32) (S : xS) : Option (Int32 × xS) := F 6 l4 0 0 0 0 S
def G115b6 (l3 : Option Nat) (ln : Nat) (F : Nat → Int32 → Int32 → Int32 → Int32 → Int32 → xS → Option (Int32 × xS)) (n : Nat) (l4 : Int32) (l5 : Int32) (l6 : Int32) (l7 : Int32) (l8 : Int32) (S : xS) : Option (Int32 × xS) := (if am_ic .ge l6 (S.1 89 0) = true then F 53 l4 l5 0 0 0 S else (if ¬ (l6 < 0 ∨ 16 ≤ (l6).toNatClampNeg) then (if am_if .ne (S.2.1 104 (Int32.toNatClampNeg l6)) = true then F 6 l4 (l5 ||| 0) (l6 + 1) 0 0 S else F 6 l4 (l5 ||| (1 <<< (l6 &&& 31))) (l6 + 1) 0 0 S) else none))
def G115b53 (l3 : Option Nat) (ln : Nat) (F : Nat → Int32 → Int32 → Int32 → Int32 → Int32 → xS → Option (Int32 × xS)) (n : Nat) (l4 : Int32) (l5 : Int32) (l6 : Int32) (l7 : Int32) (l8 : Int32) (S : xS) : Option (Int32 × xS) := (if am_ic .gt l6 3 = true then some ((-1), S) else F 70 l4 l5 l6 ((1 <<< (l6 &&& 31)) - 1) 0 S)
def G115b70 (l3 : Option Nat) (ln : Nat) (F : Nat → Int32 → Int32 → Int32 → Int32 → Int32 → xS → Option (Int32 × xS)) (n : Nat) (l4 : Int32) (l5 : Int32) (l6 : Int32) (l7 : Int32) (l8 : Int32) (S : xS) : Option (Int32 × xS) := (if am_ic .ge l8 560 = true then F 53 l4 l5 (l6 + 1) 0 0 S else (if am_if .ne (l7 >>> ((S.1 89 0) &&& 31)) = true then F 53 l4 l5 (l6 + 1) 0 0 S else (if am_if .ne (l7 &&& (l5 ^^^ (-1))) = true then ((G123 n l7 S).bind (fun z8 => F 70 l4 l5 l6 z8.1 (l8 + 1) z8.2)) else ((G116 n l7 l6 S).bind (fun z10 => (if am_if .ne z10.1 = true then ((G123 n l7 z10.2).bind (fun z13 => F 70 l4 l5 l6 z13.1 (l8 + 1) z13.2)) else ((G109 l3 n  z10.2).bind (fun z15 => ((G120 110 l3 ln n l7 l4 z15.2).bind (fun z17 => (if am_if .eq z17.1 = true then ((G119 n l7 l6 z17.2).bind (fun z20 => ((G123 n l7 z20.2).bind (fun z22 => F 70 l4 l5 l6 z22.1 (l8 + 1) z22.2)))) else some (l7, z17.2))))))))))))
def G115f (l3 : Option Nat) (ln : Nat) : Nat → Nat → Int32 → Int32 → Int32 → Int32 → Int32 → xS → Option (Int32 × xS)
  | 0, _, _, _, _, _, _, _ => none
  | n + 1, c, l4, l5, l6, l7, l8, S => if c = 0 then G115b0 l3 ln (G115f l3 ln n) n l4 l5 l6 l7 l8 S else if c = 6 then G115b6 l3 ln (G115f l3 ln n) n l4 l5 l6 l7 l8 S else if c = 53 then G115b53 l3 ln (G115f l3 ln n) n l4 l5 l6 l7 l8 S else G115b70 l3 ln (G115f l3 ln n) n l4 l5 l6 l7 l8 S
theorem G115e0 (l3 : Option Nat) (ln : Nat) (n : Nat) (l4 : Int32) (l5 : Int32) (l6 : Int32) (l7 : Int32) (l8 : Int32) (S : xS) : G115f l3 ln (n + 1) 0 l4 l5 l6 l7 l8 S = G115b0 l3 ln (G115f l3 ln n) n l4 l5 l6 l7 l8 S := if_pos rfl
theorem G115e6 (l3 : Option Nat) (ln : Nat) (n : Nat) (l4 : Int32) (l5 : Int32) (l6 : Int32) (l7 : Int32) (l8 : Int32) (S : xS) : G115f l3 ln (n + 1) 6 l4 l5 l6 l7 l8 S = G115b6 l3 ln (G115f l3 ln n) n l4 l5 l6 l7 l8 S := (if_neg (by decide)).trans (if_pos rfl)
theorem G115e53 (l3 : Option Nat) (ln : Nat) (n : Nat) (l4 : Int32) (l5 : Int32) (l6 : Int32) (l7 : Int32) (l8 : Int32) (S : xS) : G115f l3 ln (n + 1) 53 l4 l5 l6 l7 l8 S = G115b53 l3 ln (G115f l3 ln n) n l4 l5 l6 l7 l8 S := (if_neg (by decide)).trans ((if_neg (by decide)).trans (if_pos rfl))
theorem G115e70 (l3 : Option Nat) (ln : Nat) (n : Nat) (l4 : Int32) (l5 : Int32) (l6 : Int32) (l7 : Int32) (l8 : Int32) (S : xS) : G115f l3 ln (n + 1) 70 l4 l5 l6 l7 l8 S = G115b70 l3 ln (G115f l3 ln n) n l4 l5 l6 l7 l8 S := (if_neg (by decide)).trans ((if_neg (by decide)).trans (if_neg (by decide)))
def G115 (l3 : Option Nat) (ln : Nat) (n : Nat) (l4 : Int32) (S : xS) : Option (Int32 × xS) := G115f l3 ln n 0 l4 0 0 0 0 S
set_option maxRecDepth 20000 in
set_option maxHeartbeats 4000000 in
theorem G115l {xs : Nat → Int32} {L9 d : Nat} {G : gS} {h : Nat → va_E} {l3 : Option Nat} {ln : Nat} {Q : Option Value → AmH → Prop} {r0 : Int32} {S0 : xS} (hl : lwB G l3 ln = true) (hQ : Q (some (.int r0)) (xst S0 G h)) : ∀ n : Nat, (∀ (l4 : Int32) (l5 : Int32) (l6 : Int32) (l7 : Int32) (l8 : Int32) (S : xS), G115f l3 ln n 0 l4 l5 l6 l7 l8 S = some (r0, S0) → Go (am_X xs L9) (d + 6) 115 0 [.ref 123, .ref 109, .ref 88, va_rf l3, .int l4, .float 0, .float 0, .float 0, .float 0] [] (xst S G h) Q) ∧ (∀ (l4 : Int32) (l5 : Int32) (l6 : Int32) (l7 : Int32) (l8 : Int32) (S : xS), G115f l3 ln n 6 l4 l5 l6 l7 l8 S = some (r0, S0) → Go (am_X xs L9) (d + 6) 115 6 [.ref 123, .ref 109, .ref 88, va_rf l3, .int l4, .int l5, .int l6, .float 0, .float 0] [] (xst S G h) Q) ∧ (∀ (l4 : Int32) (l5 : Int32) (l6 : Int32) (l7 : Int32) (l8 : Int32) (S : xS), G115f l3 ln n 53 l4 l5 l6 l7 l8 S = some (r0, S0) → Go (am_X xs L9) (d + 6) 115 53 [.ref 123, .ref 109, .ref 88, va_rf l3, .int l4, .int l5, .int l6, .float 0, .float 0] [] (xst S G h) Q) ∧ (∀ (l4 : Int32) (l5 : Int32) (l6 : Int32) (l7 : Int32) (l8 : Int32) (S : xS), G115f l3 ln n 70 l4 l5 l6 l7 l8 S = some (r0, S0) → Go (am_X xs L9) (d + 6) 115 70 [.ref 123, .ref 109, .ref 88, va_rf l3, .int l4, .int l5, .int l6, .int l7, .int l8] [] (xst S G h) Q) := by
  intro n
  induction n with
  | zero => exact ⟨fun l4 l5 l6 l7 l8 S hf => (by cases hf), fun l4 l5 l6 l7 l8 S hf => (by cases hf), fun l4 l5 l6 l7 l8 S hf => (by cases hf), fun l4 l5 l6 l7 l8 S hf => (by cases hf)⟩
  | succ n ih =>
    refine ⟨?_, ?_, ?_, ?_⟩
    · intro l4 l5 l6 l7 l8 S hf
      rw [G115e0] at hf
      unfold G115b0 at hf
      refine r_iconst (v := 0) fe_115_0 (by decide) ?_
      refine r_istore fe_115_1 (Nat.le_of_ble_eq_true rfl) rfl ?_
      refine r_iconst (v := 0) fe_115_3 (by decide) ?_
      refine r_istore fe_115_4 (Nat.le_of_ble_eq_true rfl) rfl ?_
      refine go_weak (L0 := [.ref 123, .ref 109, .ref 88, va_rf l3, .int l4, .int 0, .int 0, .float 0, .float 0]) (lwk_c (Or.inl rfl) (lwk_c (Or.inl rfl) (lwk_c (Or.inl rfl) (lwk_c (Or.inl rfl) (lwk_c (Or.inl rfl) (lwk_c (Or.inl rfl) (lwk_c (Or.inl rfl) (lwk_c (Or.inl rfl) (lwk_c (Or.inl rfl) (lwk_rf [])))))))))) ?_
      exact ih.2.1 l4 0 0 0 0 S hf
    · intro l4 l5 l6 l7 l8 S hf
      rw [G115e6] at hf
      unfold G115b6 at hf
      refine r_iload fe_115_6 rfl ?_
      refine r_aload_n fe_115_8 rfl ?_
      refine r_getf (v := .ref 89) fe_115_9 lf_2_19 (x_c xk_88 (by decide)) (x_lt xk_88 (by decide)) rfl ?_
      refine r_getf (v := .int (S.1 89 0)) fe_115_12 lf_2_25 (x_c xk_89 (by decide)) (x_lt xk_89 (by decide)) rfl ?_
      by_cases hb1 : am_ic .ge l6 (S.1 89 0) = true
      · rw [if_pos hb1] at hf
        refine r_ic_t (t := 50) fe_115_15 (by decide) hb1 ?_
        refine r_iconst (v := 0) fe_115_50 (by decide) ?_
        refine r_istore fe_115_51 (Nat.le_of_ble_eq_true rfl) rfl ?_
        refine go_weak (L0 := [.ref 123, .ref 109, .ref 88, va_rf l3, .int l4, .int l5, .int 0, .float 0, .float 0]) (lwk_c (Or.inl rfl) (lwk_c (Or.inl rfl) (lwk_c (Or.inl rfl) (lwk_c (Or.inl rfl) (lwk_c (Or.inl rfl) (lwk_c (Or.inl rfl) (lwk_c (Or.inl rfl) (lwk_c (Or.inl rfl) (lwk_c (Or.inl rfl) (lwk_rf [])))))))))) ?_
        exact ih.2.2.1 l4 l5 0 0 0 S hf
      · rw [if_neg hb1] at hf
        refine r_ic_f (t := 50) fe_115_15 (by decide) (Bool.eq_false_iff.mpr hb1) ?_
        refine r_iload fe_115_18 rfl ?_
        refine r_aload_n fe_115_20 rfl ?_
        refine r_getf (v := .ref 95) fe_115_21 lf_2_30 (x_c xk_88 (by decide)) (x_lt xk_88 (by decide)) rfl ?_
        refine r_getf (v := .ref 104) fe_115_24 lf_2_34 (x_c xk_95 (by decide)) (x_lt xk_95 (by decide)) rfl ?_
        refine r_iload fe_115_27 rfl ?_
        by_cases hg2 : ¬ (l6 < 0 ∨ 16 ≤ (l6).toNatClampNeg)
        rotate_left
        · rw [if_neg hg2] at hf; cases hf
        rw [if_pos hg2] at hf
        refine r_iald (j := (Int32.toNatClampNeg l6)) (v := S.2.1 104 (Int32.toNatClampNeg l6)) fe_115_29 (x_c xk_104 (by decide)) (x_lt xk_104 (by decide)) (fun z => hg2 (Or.inl z)) rfl (fun z => hg2 (Or.inr z)) rfl ?_
        by_cases hb3 : am_if .ne (S.2.1 104 (Int32.toNatClampNeg l6)) = true
        · rw [if_pos hb3] at hf
          refine r_if_t (t := 40) fe_115_30 (by decide) hb3 ?_
          refine r_iconst (v := 0) fe_115_40 (by decide) ?_
          refine r_ior (v := (l5 ||| 0)) fe_115_41 rfl ?_
          refine r_istore fe_115_42 (Nat.le_of_ble_eq_true rfl) rfl ?_
          refine r_iinc (v := (l6 + 1)) fe_115_44 rfl rfl rfl ?_
          refine r_goto (t := 6) fe_115_47 (by decide) ?_
          refine go_weak (L0 := [.ref 123, .ref 109, .ref 88, va_rf l3, .int l4, .int (l5 ||| 0), .int (l6 + 1), .float 0, .float 0]) (lwk_c (Or.inl rfl) (lwk_c (Or.inl rfl) (lwk_c (Or.inl rfl) (lwk_c (Or.inl rfl) (lwk_c (Or.inl rfl) (lwk_c (Or.inl rfl) (lwk_c (Or.inl rfl) (lwk_c (Or.inl rfl) (lwk_c (Or.inl rfl) (lwk_rf [])))))))))) ?_
          exact ih.2.1 l4 (l5 ||| 0) (l6 + 1) 0 0 S hf
        · rw [if_neg hb3] at hf
          refine r_if_f (t := 40) fe_115_30 (by decide) (Bool.eq_false_iff.mpr hb3) ?_
          refine r_iconst (v := 1) fe_115_33 (by decide) ?_
          refine r_iload fe_115_34 rfl ?_
          refine r_ishl (v := (1 <<< (l6 &&& 31))) fe_115_36 rfl ?_
          refine r_goto (t := 41) fe_115_37 (by decide) ?_
          refine r_ior (v := (l5 ||| (1 <<< (l6 &&& 31)))) fe_115_41 rfl ?_
          refine r_istore fe_115_42 (Nat.le_of_ble_eq_true rfl) rfl ?_
          refine r_iinc (v := (l6 + 1)) fe_115_44 rfl rfl rfl ?_
          refine r_goto (t := 6) fe_115_47 (by decide) ?_
          refine go_weak (L0 := [.ref 123, .ref 109, .ref 88, va_rf l3, .int l4, .int (l5 ||| (1 <<< (l6 &&& 31))), .int (l6 + 1), .float 0, .float 0]) (lwk_c (Or.inl rfl) (lwk_c (Or.inl rfl) (lwk_c (Or.inl rfl) (lwk_c (Or.inl rfl) (lwk_c (Or.inl rfl) (lwk_c (Or.inl rfl) (lwk_c (Or.inl rfl) (lwk_c (Or.inl rfl) (lwk_c (Or.inl rfl) (lwk_rf [])))))))))) ?_
          exact ih.2.1 l4 (l5 ||| (1 <<< (l6 &&& 31))) (l6 + 1) 0 0 S hf
    · intro l4 l5 l6 l7 l8 S hf
      rw [G115e53] at hf
      unfold G115b53 at hf
      refine r_iload fe_115_53 rfl ?_
      refine r_iconst (v := 3) fe_115_55 (by decide) ?_
      by_cases hb4 : am_ic .gt l6 3 = true
      · rw [if_pos hb4] at hf
        refine r_ic_t (t := 160) fe_115_56 (by decide) hb4 ?_
        refine r_iconst (v := -1) fe_115_160 (by decide) ?_
        refine r_iret fe_115_161 ⟨rfl, by decide⟩ ?_
        exact dfin (P := fun r T => Q (some (.int r)) (xst T G h)) hf hQ
      · rw [if_neg hb4] at hf
        refine r_ic_f (t := 160) fe_115_56 (by decide) (Bool.eq_false_iff.mpr hb4) ?_
        refine r_iconst (v := 1) fe_115_59 (by decide) ?_
        refine r_iload fe_115_60 rfl ?_
        refine r_ishl (v := (1 <<< (l6 &&& 31))) fe_115_62 rfl ?_
        refine r_iconst (v := 1) fe_115_63 (by decide) ?_
        refine r_isub (v := ((1 <<< (l6 &&& 31)) - 1)) fe_115_64 rfl ?_
        refine r_istore fe_115_65 (Nat.le_of_ble_eq_true rfl) rfl ?_
        refine r_iconst (v := 0) fe_115_67 (by decide) ?_
        refine r_istore fe_115_68 (Nat.le_of_ble_eq_true rfl) rfl ?_
        refine go_weak (L0 := [.ref 123, .ref 109, .ref 88, va_rf l3, .int l4, .int l5, .int l6, .int ((1 <<< (l6 &&& 31)) - 1), .int 0]) (lwk_c (Or.inl rfl) (lwk_c (Or.inl rfl) (lwk_c (Or.inl rfl) (lwk_c (Or.inl rfl) (lwk_c (Or.inl rfl) (lwk_c (Or.inl rfl) (lwk_c (Or.inl rfl) (lwk_c (Or.inl rfl) (lwk_c (Or.inl rfl) (lwk_rf [])))))))))) ?_
        exact ih.2.2.2 l4 l5 l6 ((1 <<< (l6 &&& 31)) - 1) 0 S hf
    · intro l4 l5 l6 l7 l8 S hf
      rw [G115e70] at hf
      unfold G115b70 at hf
      refine r_iload fe_115_70 rfl ?_
      refine r_sipush (v := 560) fe_115_72 (by decide) ?_
      by_cases hb5 : am_ic .ge l8 560 = true
      · rw [if_pos hb5] at hf
        refine r_ic_t (t := 154) fe_115_75 (by decide) hb5 ?_
        refine r_iinc (v := (l6 + 1)) fe_115_154 rfl rfl rfl ?_
        refine r_goto (t := 53) fe_115_157 (by decide) ?_
        refine go_weak (L0 := [.ref 123, .ref 109, .ref 88, va_rf l3, .int l4, .int l5, .int (l6 + 1), .float 0, .float 0]) (lwk_c (Or.inl rfl) (lwk_c (Or.inl rfl) (lwk_c (Or.inl rfl) (lwk_c (Or.inl rfl) (lwk_c (Or.inl rfl) (lwk_c (Or.inl rfl) (lwk_c (Or.inl rfl) (lwk_c (Or.inr rfl) (lwk_c (Or.inr rfl) (lwk_rf [])))))))))) ?_
        exact ih.2.2.1 l4 l5 (l6 + 1) 0 0 S hf
      · rw [if_neg hb5] at hf
        refine r_ic_f (t := 154) fe_115_75 (by decide) (Bool.eq_false_iff.mpr hb5) ?_
        refine r_iload fe_115_78 rfl ?_
        refine r_aload_n fe_115_80 rfl ?_
        refine r_getf (v := .ref 89) fe_115_81 lf_2_19 (x_c xk_88 (by decide)) (x_lt xk_88 (by decide)) rfl ?_
        refine r_getf (v := .int (S.1 89 0)) fe_115_84 lf_2_25 (x_c xk_89 (by decide)) (x_lt xk_89 (by decide)) rfl ?_
        refine r_ishr (v := (l7 >>> ((S.1 89 0) &&& 31))) fe_115_87 rfl ?_
        by_cases hb6 : am_if .ne (l7 >>> ((S.1 89 0) &&& 31)) = true
        · rw [if_pos hb6] at hf
          refine r_if_t (t := 154) fe_115_88 (by decide) hb6 ?_
          refine r_iinc (v := (l6 + 1)) fe_115_154 rfl rfl rfl ?_
          refine r_goto (t := 53) fe_115_157 (by decide) ?_
          refine go_weak (L0 := [.ref 123, .ref 109, .ref 88, va_rf l3, .int l4, .int l5, .int (l6 + 1), .float 0, .float 0]) (lwk_c (Or.inl rfl) (lwk_c (Or.inl rfl) (lwk_c (Or.inl rfl) (lwk_c (Or.inl rfl) (lwk_c (Or.inl rfl) (lwk_c (Or.inl rfl) (lwk_c (Or.inl rfl) (lwk_c (Or.inr rfl) (lwk_c (Or.inr rfl) (lwk_rf [])))))))))) ?_
          exact ih.2.2.1 l4 l5 (l6 + 1) 0 0 S hf
        · rw [if_neg hb6] at hf
          refine r_if_f (t := 154) fe_115_88 (by decide) (Bool.eq_false_iff.mpr hb6) ?_
          refine r_iload fe_115_91 rfl ?_
          refine r_iload fe_115_93 rfl ?_
          refine r_iconst (v := -1) fe_115_95 (by decide) ?_
          refine r_ixor (v := (l5 ^^^ (-1))) fe_115_96 rfl ?_
          refine r_iand (v := (l7 &&& (l5 ^^^ (-1)))) fe_115_97 rfl ?_
          by_cases hb7 : am_if .ne (l7 &&& (l5 ^^^ (-1))) = true
          · rw [if_pos hb7] at hf
            refine r_if_t (t := 141) fe_115_98 (by decide) hb7 ?_
            refine r_iload fe_115_141 rfl ?_
            refine r_callS (as := [.int l7]) (r := []) fe_115_143 lm_2_57 md_123 rfl rfl (Nat.le_of_ble_eq_true rfl) (Nat.le_of_ble_eq_true rfl) (Nat.le_of_ble_eq_true rfl) ?_
            cases hc9 : G123 n l7 S with
            | none => rw [hc9] at hf; cases hf
            | some z8 =>
              rw [hc9, Option.bind_some] at hf
              refine G123c (r0 := z8.1) (S0 := z8.2)  (hf := hc9) ?_
              refine r_istore fe_115_146 (Nat.le_of_ble_eq_true rfl) rfl ?_
              refine r_iinc (v := (l8 + 1)) fe_115_148 rfl rfl rfl ?_
              refine r_goto (t := 70) fe_115_151 (by decide) ?_
              refine go_weak (L0 := [.ref 123, .ref 109, .ref 88, va_rf l3, .int l4, .int l5, .int l6, .int z8.1, .int (l8 + 1)]) (lwk_c (Or.inl rfl) (lwk_c (Or.inl rfl) (lwk_c (Or.inl rfl) (lwk_c (Or.inl rfl) (lwk_c (Or.inl rfl) (lwk_c (Or.inl rfl) (lwk_c (Or.inl rfl) (lwk_c (Or.inl rfl) (lwk_c (Or.inl rfl) (lwk_rf [])))))))))) ?_
              exact ih.2.2.2 l4 l5 l6 z8.1 (l8 + 1) z8.2 hf
          · rw [if_neg hb7] at hf
            refine r_if_f (t := 141) fe_115_98 (by decide) (Bool.eq_false_iff.mpr hb7) ?_
            refine r_aload_n fe_115_101 rfl ?_
            refine r_iload fe_115_102 rfl ?_
            refine r_iload fe_115_104 rfl ?_
            refine r_callV (as := [.int l7, .int l6]) (r := []) fe_115_106 lm_2_39 md_116 rfl rfl (Nat.le_of_ble_eq_true rfl) (x_c xk_123 (by decide)) (x_lt xk_123 (by decide)) (Nat.le_of_ble_eq_true rfl) (Nat.le_of_ble_eq_true rfl) ?_
            cases hc11 : G116 n l7 l6 S with
            | none => rw [hc11] at hf; cases hf
            | some z10 =>
              rw [hc11, Option.bind_some] at hf
              refine G116c (r0 := z10.1) (S0 := z10.2)  (hf := hc11) ?_
              by_cases hb12 : am_if .ne z10.1 = true
              · rw [if_pos hb12] at hf
                refine r_if_t (t := 141) fe_115_109 (by decide) hb12 ?_
                refine r_iload fe_115_141 rfl ?_
                refine r_callS (as := [.int l7]) (r := []) fe_115_143 lm_2_57 md_123 rfl rfl (Nat.le_of_ble_eq_true rfl) (Nat.le_of_ble_eq_true rfl) (Nat.le_of_ble_eq_true rfl) ?_
                cases hc14 : G123 n l7 z10.2 with
                | none => rw [hc14] at hf; cases hf
                | some z13 =>
                  rw [hc14, Option.bind_some] at hf
                  refine G123c (r0 := z13.1) (S0 := z13.2)  (hf := hc14) ?_
                  refine r_istore fe_115_146 (Nat.le_of_ble_eq_true rfl) rfl ?_
                  refine r_iinc (v := (l8 + 1)) fe_115_148 rfl rfl rfl ?_
                  refine r_goto (t := 70) fe_115_151 (by decide) ?_
                  refine go_weak (L0 := [.ref 123, .ref 109, .ref 88, va_rf l3, .int l4, .int l5, .int l6, .int z13.1, .int (l8 + 1)]) (lwk_c (Or.inl rfl) (lwk_c (Or.inl rfl) (lwk_c (Or.inl rfl) (lwk_c (Or.inl rfl) (lwk_c (Or.inl rfl) (lwk_c (Or.inl rfl) (lwk_c (Or.inl rfl) (lwk_c (Or.inl rfl) (lwk_c (Or.inl rfl) (lwk_rf [])))))))))) ?_
                  exact ih.2.2.2 l4 l5 l6 z13.1 (l8 + 1) z13.2 hf
              · rw [if_neg hb12] at hf
                refine r_if_f (t := 141) fe_115_109 (by decide) (Bool.eq_false_iff.mpr hb12) ?_
                refine r_aload_n fe_115_112 rfl ?_
                refine r_aload_n fe_115_113 rfl ?_
                refine r_aload_nO fe_115_114 rfl ?_
                refine r_callV (as := [.ref 88, va_rf l3]) (r := []) fe_115_115 lm_2_43 md_109 rfl rfl (Nat.le_of_ble_eq_true rfl) (x_c xk_109 (by decide)) (x_lt xk_109 (by decide)) (Nat.le_of_ble_eq_true rfl) (by cases e9 : l3 <;> exact Nat.le_of_ble_eq_true rfl) ?_
                cases hc16 : G109 l3 n  z10.2 with
                | none => rw [hc16] at hf; cases hf
                | some z15 =>
                  rw [hc16, Option.bind_some] at hf
                  refine G109c (r0 := z15.1) (S0 := z15.2)  (hf := hc16) ?_
                  refine r_aload_n fe_115_118 rfl ?_
                  refine r_aload_n fe_115_119 rfl ?_
                  refine r_iload fe_115_120 rfl ?_
                  refine r_iload fe_115_122 rfl ?_
                  refine r_callV (as := [.ref 109, .int l7, .int l4]) (r := []) fe_115_124 lm_2_49 md_120 rfl rfl (Nat.le_of_ble_eq_true rfl) (x_c xk_123 (by decide)) (x_lt xk_123 (by decide)) (Nat.le_of_ble_eq_true rfl) (Nat.le_of_ble_eq_true rfl) ?_
                  cases hc18 : G120 110 l3 ln n l7 l4 z15.2 with
                  | none => rw [hc18] at hf; cases hf
                  | some z17 =>
                    rw [hc18, Option.bind_some] at hf
                    refine G120c (r0 := z17.1) (S0 := z17.2) (hw := wS_110) (hl := hl) (hf := hc18) ?_
                    by_cases hb19 : am_if .eq z17.1 = true
                    · rw [if_pos hb19] at hf
                      refine r_if_t (t := 133) fe_115_127 (by decide) hb19 ?_
                      refine r_aload_n fe_115_133 rfl ?_
                      refine r_iload fe_115_134 rfl ?_
                      refine r_iload fe_115_136 rfl ?_
                      refine r_callV (as := [.int l7, .int l6]) (r := []) fe_115_138 lm_2_53 md_119 rfl rfl (Nat.le_of_ble_eq_true rfl) (x_c xk_123 (by decide)) (x_lt xk_123 (by decide)) (Nat.le_of_ble_eq_true rfl) (Nat.le_of_ble_eq_true rfl) ?_
                      cases hc21 : G119 n l7 l6 z17.2 with
                      | none => rw [hc21] at hf; cases hf
                      | some z20 =>
                        rw [hc21, Option.bind_some] at hf
                        refine G119c (r0 := z20.1) (S0 := z20.2)  (hf := hc21) ?_
                        refine r_iload fe_115_141 rfl ?_
                        refine r_callS (as := [.int l7]) (r := []) fe_115_143 lm_2_57 md_123 rfl rfl (Nat.le_of_ble_eq_true rfl) (Nat.le_of_ble_eq_true rfl) (Nat.le_of_ble_eq_true rfl) ?_
                        cases hc23 : G123 n l7 z20.2 with
                        | none => rw [hc23] at hf; cases hf
                        | some z22 =>
                          rw [hc23, Option.bind_some] at hf
                          refine G123c (r0 := z22.1) (S0 := z22.2)  (hf := hc23) ?_
                          refine r_istore fe_115_146 (Nat.le_of_ble_eq_true rfl) rfl ?_
                          refine r_iinc (v := (l8 + 1)) fe_115_148 rfl rfl rfl ?_
                          refine r_goto (t := 70) fe_115_151 (by decide) ?_
                          refine go_weak (L0 := [.ref 123, .ref 109, .ref 88, va_rf l3, .int l4, .int l5, .int l6, .int z22.1, .int (l8 + 1)]) (lwk_c (Or.inl rfl) (lwk_c (Or.inl rfl) (lwk_c (Or.inl rfl) (lwk_c (Or.inl rfl) (lwk_c (Or.inl rfl) (lwk_c (Or.inl rfl) (lwk_c (Or.inl rfl) (lwk_c (Or.inl rfl) (lwk_c (Or.inl rfl) (lwk_rf [])))))))))) ?_
                          exact ih.2.2.2 l4 l5 l6 z22.1 (l8 + 1) z22.2 hf
                    · rw [if_neg hb19] at hf
                      refine r_if_f (t := 133) fe_115_127 (by decide) (Bool.eq_false_iff.mpr hb19) ?_
                      refine r_iload fe_115_130 rfl ?_
                      refine r_iret fe_115_132 ⟨rfl, by decide⟩ ?_
                      exact dfin (P := fun r T => Q (some (.int r)) (xst T G h)) hf hQ
theorem G115c {xs : Nat → Int32} {L9 d : Nat} {G : gS} {h : Nat → va_E} {l3 : Option Nat} {ln : Nat} {n : Nat} {Q : Option Value → AmH → Prop} {r0 : Int32} {S0 S : xS} {l4 : Int32} (hl : lwB G l3 ln = true) (hf : G115 l3 ln n l4 S = some (r0, S0)) (hQ : Q (some (.int r0)) (xst S0 G h)) : Ca (am_X xs L9) (d + 6) 115 [.ref 123, .ref 109, .ref 88, va_rf l3, .int l4] (xst S G h) Q := by cases l3 <;> exact (G115l hl hQ n).1 l4 0 0 0 0 S hf
