def G114b0 (F : Nat → Int32 → Int32 → (xS × gS) → Option (Int32 × (xS × gS))) (n : Nat) (l1 : Int32) (l2 : Int32) (U : (xS × gS)) : Option (Int32 × (xS × gS)) := ((G82 n  U.1).bind (fun z1 => (if am_if .eq z1.1 = true then some ((-1), (z1.2, U.2)) else (if am_if .lt l2 = true then some ((-1), (z1.2, U.2)) else (if am_ic .gt l2 1 = true then some ((-1), (z1.2, U.2)) else ((G113 95 n  z1.2).bind (fun z6 => (if am_if .eq (l1 &&& (z6.1 ^^^ (-1))) = true then ((G84 n  z6.2).bind (fun z9 => (if lwB U.2 z9.1 (lawN U.2 z9.1) = true then ((G115 z9.1 (lawN U.2 z9.1) n l1 z9.2).bind (fun z12 => (if am_if .ge z12.1 = true then (if am_if .ne l2 = true then some (z12.1, (z12.2, U.2)) else ((G92 n z12.1 z12.2).bind (fun z16 => some (z16.1, (z16.2, U.2))))) else some ((-2), (z12.2, U.2))))) else none))) else some ((-1), (z6.2, U.2))))))))))
def G114f : Nat → Nat → Int32 → Int32 → (xS × gS) → Option (Int32 × (xS × gS))
  | 0, _, _, _, _ => none
  | n + 1, c, l1, l2, U => G114b0 (G114f n) n l1 l2 U
theorem G114e0 (n : Nat) (l1 : Int32) (l2 : Int32) (U : (xS × gS)) : G114f (n + 1) 0 l1 l2 U = G114b0 (G114f n) n l1 l2 U := rfl
def G114 (n : Nat) (l1 : Int32) (l2 : Int32) (U : (xS × gS)) : Option (Int32 × (xS × gS)) := G114f n 0 l1 l2 U
set_option maxRecDepth 20000 in
set_option maxHeartbeats 4000000 in
theorem G114l {xs : Nat → Int32} {L9 d : Nat} {h : Nat → va_E} {Q : Option Value → AmH → Prop} {r0 : Int32} {U0 : (xS × gS)} (hQ : Q (some (.int r0)) (xst U0.1 U0.2 h)) : ∀ n : Nat, (∀ (l1 : Int32) (l2 : Int32) (U : (xS × gS)), G114f n 0 l1 l2 U = some (r0, U0) → Go (am_X xs L9) (d + 7) 114 0 [.ref 64, .int l1, .int l2, .float 0] [] (xst U.1 U.2 h) Q) := by
  intro n
  induction n with
  | zero => exact fun l1 l2 U hf => (by cases hf)
  | succ n ih =>
    intro l1 l2 U hf
    rw [G114e0] at hf
    unfold G114b0 at hf
    refine r_aload_n fe_114_0 rfl ?_
    refine r_callV (as := []) (r := []) fe_114_1 lm_11_169 md_82 rfl rfl (Nat.le_of_ble_eq_true rfl) (x_c xk_64 (by decide)) (x_lt xk_64 (by decide)) (Nat.le_of_ble_eq_true rfl) (Nat.le_of_ble_eq_true rfl) ?_
    cases hc2 : G82 n  U.1 with
    | none => rw [hc2] at hf; cases hf
    | some z1 =>
      rw [hc2, Option.bind_some] at hf
      refine G82c (r0 := z1.1) (S0 := z1.2)  (hf := hc2) ?_
      by_cases hb3 : am_if .eq z1.1 = true
      · rw [if_pos hb3] at hf
        refine r_if_t (t := 33) fe_114_4 (by decide) hb3 ?_
        refine r_iconst (v := -1) fe_114_33 (by decide) ?_
        refine r_iret fe_114_34 ⟨rfl, by decide⟩ ?_
        exact dfin (P := fun r T => Q (some (.int r)) (xst T.1 T.2 h)) hf hQ
      · rw [if_neg hb3] at hf
        refine r_if_f (t := 33) fe_114_4 (by decide) (Bool.eq_false_iff.mpr hb3) ?_
        refine r_iload_n fe_114_7 rfl ?_
        by_cases hb4 : am_if .lt l2 = true
        · rw [if_pos hb4] at hf
          refine r_if_t (t := 33) fe_114_8 (by decide) hb4 ?_
          refine r_iconst (v := -1) fe_114_33 (by decide) ?_
          refine r_iret fe_114_34 ⟨rfl, by decide⟩ ?_
          exact dfin (P := fun r T => Q (some (.int r)) (xst T.1 T.2 h)) hf hQ
        · rw [if_neg hb4] at hf
          refine r_if_f (t := 33) fe_114_8 (by decide) (Bool.eq_false_iff.mpr hb4) ?_
          refine r_iload_n fe_114_11 rfl ?_
          refine r_iconst (v := 1) fe_114_12 (by decide) ?_
          by_cases hb5 : am_ic .gt l2 1 = true
          · rw [if_pos hb5] at hf
            refine r_ic_t (t := 33) fe_114_13 (by decide) hb5 ?_
            refine r_iconst (v := -1) fe_114_33 (by decide) ?_
            refine r_iret fe_114_34 ⟨rfl, by decide⟩ ?_
            exact dfin (P := fun r T => Q (some (.int r)) (xst T.1 T.2 h)) hf hQ
          · rw [if_neg hb5] at hf
            refine r_ic_f (t := 33) fe_114_13 (by decide) (Bool.eq_false_iff.mpr hb5) ?_
            refine r_iload_n fe_114_16 rfl ?_
            refine r_aload_n fe_114_17 rfl ?_
            refine r_getf (v := .ref 88) fe_114_18 lf_11_43 (x_c xk_64 (by decide)) (x_lt xk_64 (by decide)) rfl ?_
            refine r_getf (v := .ref 95) fe_114_21 lf_11_94 (x_c xk_88 (by decide)) (x_lt xk_88 (by decide)) rfl ?_
            refine r_callV (as := []) (r := [.int l1]) fe_114_24 lm_11_242 md_113 rfl rfl (Nat.le_of_ble_eq_true rfl) (x_c xk_95 (by decide)) (x_lt xk_95 (by decide)) (Nat.le_of_ble_eq_true rfl) (Nat.le_of_ble_eq_true rfl) ?_
            cases hc7 : G113 95 n  z1.2 with
            | none => rw [hc7] at hf; cases hf
            | some z6 =>
              rw [hc7, Option.bind_some] at hf
              refine G113c (r0 := z6.1) (S0 := z6.2) (h0 := wS_95) (hf := hc7) ?_
              refine r_iconst (v := -1) fe_114_27 (by decide) ?_
              refine r_ixor (v := (z6.1 ^^^ (-1))) fe_114_28 rfl ?_
              refine r_iand (v := (l1 &&& (z6.1 ^^^ (-1)))) fe_114_29 rfl ?_
              by_cases hb8 : am_if .eq (l1 &&& (z6.1 ^^^ (-1))) = true
              · rw [if_pos hb8] at hf
                refine r_if_t (t := 35) fe_114_30 (by decide) hb8 ?_
                refine r_aload_n fe_114_35 rfl ?_
                refine r_getf (v := .ref 123) fe_114_36 lf_11_61 (x_c xk_64 (by decide)) (x_lt xk_64 (by decide)) rfl ?_
                refine r_aload_n fe_114_39 rfl ?_
                refine r_getf (v := .ref 109) fe_114_40 lf_11_54 (x_c xk_64 (by decide)) (x_lt xk_64 (by decide)) rfl ?_
                refine r_aload_n fe_114_43 rfl ?_
                refine r_getf (v := .ref 88) fe_114_44 lf_11_43 (x_c xk_64 (by decide)) (x_lt xk_64 (by decide)) rfl ?_
                refine r_aload_n fe_114_47 rfl ?_
                refine r_callV (as := []) (r := [.ref 88, .ref 109, .ref 123]) fe_114_48 lm_11_179 md_84 rfl rfl (Nat.le_of_ble_eq_true rfl) (x_c xk_64 (by decide)) (x_lt xk_64 (by decide)) (Nat.le_of_ble_eq_true rfl) (Nat.le_of_ble_eq_true rfl) ?_
                cases hc10 : G84 n  z6.2 with
                | none => rw [hc10] at hf; cases hf
                | some z9 =>
                  rw [hc10, Option.bind_some] at hf
                  refine G84c (r0 := z9.1) (S0 := z9.2)  (hf := hc10) ?_
                  by_cases hb11 : lwB U.2 z9.1 (lawN U.2 z9.1) = true
                  rotate_left
                  · rw [if_neg hb11] at hf; cases hf
                  rw [if_pos hb11] at hf
                  refine r_iload_n fe_114_51 rfl ?_
                  refine r_callV (as := [.ref 109, .ref 88, va_rf z9.1, .int l1]) (r := []) fe_114_52 lm_11_245 md_115 rfl rfl (Nat.le_of_ble_eq_true rfl) (x_c xk_123 (by decide)) (x_lt xk_123 (by decide)) (Nat.le_of_ble_eq_true rfl) (by cases e9 : z9.1 <;> exact Nat.le_of_ble_eq_true rfl) ?_
                  cases hc13 : G115 z9.1 (lawN U.2 z9.1) n l1 z9.2 with
                  | none => rw [hc13] at hf; cases hf
                  | some z12 =>
                    rw [hc13, Option.bind_some] at hf
                    refine G115c (r0 := z12.1) (S0 := z12.2) (hl := hb11) (hf := hc13) ?_
                    refine r_istore_n fe_114_55 (Nat.le_of_ble_eq_true rfl) rfl ?_
                    refine r_iload_n fe_114_56 rfl ?_
                    by_cases hb14 : am_if .ge z12.1 = true
                    · rw [if_pos hb14] at hf
                      refine r_if_t (t := 63) fe_114_57 (by decide) hb14 ?_
                      refine r_iload_n fe_114_63 rfl ?_
                      by_cases hb15 : am_if .ne l2 = true
                      · rw [if_pos hb15] at hf
                        refine r_if_t (t := 74) fe_114_64 (by decide) hb15 ?_
                        refine r_iload_n fe_114_74 rfl ?_
                        refine r_iret fe_114_75 ⟨rfl, by decide⟩ ?_
                        exact dfin (P := fun r T => Q (some (.int r)) (xst T.1 T.2 h)) hf hQ
                      · rw [if_neg hb15] at hf
                        refine r_if_f (t := 74) fe_114_64 (by decide) (Bool.eq_false_iff.mpr hb15) ?_
                        refine r_iload_n fe_114_67 rfl ?_
                        refine r_callS (as := [.int z12.1]) (r := []) fe_114_68 lm_11_249 md_92 rfl rfl (Nat.le_of_ble_eq_true rfl) (Nat.le_of_ble_eq_true rfl) (Nat.le_of_ble_eq_true rfl) ?_
                        cases hc17 : G92 n z12.1 z12.2 with
                        | none => rw [hc17] at hf; cases hf
                        | some z16 =>
                          rw [hc17, Option.bind_some] at hf
                          refine G92c (r0 := z16.1) (S0 := z16.2)  (hf := hc17) ?_
                          refine r_goto (t := 75) fe_114_71 (by decide) ?_
                          refine r_iret fe_114_75 ⟨rfl, by decide⟩ ?_
                          exact dfin (P := fun r T => Q (some (.int r)) (xst T.1 T.2 h)) hf hQ
                    · rw [if_neg hb14] at hf
                      refine r_if_f (t := 63) fe_114_57 (by decide) (Bool.eq_false_iff.mpr hb14) ?_
                      refine r_bipush (v := -2) fe_114_60 (by decide) ?_
                      refine r_iret fe_114_62 ⟨rfl, by decide⟩ ?_
                      exact dfin (P := fun r T => Q (some (.int r)) (xst T.1 T.2 h)) hf hQ
              · rw [if_neg hb8] at hf
                refine r_if_f (t := 35) fe_114_30 (by decide) (Bool.eq_false_iff.mpr hb8) ?_
                refine r_iconst (v := -1) fe_114_33 (by decide) ?_
                refine r_iret fe_114_34 ⟨rfl, by decide⟩ ?_
                exact dfin (P := fun r T => Q (some (.int r)) (xst T.1 T.2 h)) hf hQ
theorem G114c {xs : Nat → Int32} {L9 d : Nat} {h : Nat → va_E} {n : Nat} {Q : Option Value → AmH → Prop} {r0 : Int32} {U0 U : (xS × gS)} {l1 : Int32} {l2 : Int32} (hf : G114 n l1 l2 U = some (r0, U0)) (hQ : Q (some (.int r0)) (xst U0.1 U0.2 h)) : Ca (am_X xs L9) (d + 7) 114 [.ref 64, .int l1, .int l2] (xst U.1 U.2 h) Q := (G114l hQ n) l1 l2 U hf
def G125b0 (F : Nat → Int32 → xS → Option (Int32 × xS)) (n : Nat) (l0 : Int32) (S : xS) : Option (Int32 × xS) := (if am_ic .lt l0 1 = true then some (0, S) else (if am_ic .gt l0 60 = true then some (0, S) else some (1, S)))
def G125f : Nat → Nat → Int32 → xS → Option (Int32 × xS)
  | 0, _, _, _ => none
  | n + 1, c, l0, S => G125b0 (G125f n) n l0 S
theorem G125e0 (n : Nat) (l0 : Int32) (S : xS) : G125f (n + 1) 0 l0 S = G125b0 (G125f n) n l0 S := rfl
def G125 (n : Nat) (l0 : Int32) (S : xS) : Option (Int32 × xS) := G125f n 0 l0 S
set_option maxRecDepth 20000 in
set_option maxHeartbeats 4000000 in
theorem G125l {xs : Nat → Int32} {L9 d : Nat} {G : gS} {h : Nat → va_E} {Q : Option Value → AmH → Prop} {r0 : Int32} {S0 : xS} (hQ : Q (some (.int r0)) (xst S0 G h)) : ∀ n : Nat, (∀ (l0 : Int32) (S : xS), G125f n 0 l0 S = some (r0, S0) → Go (am_X xs L9) (d + 0) 125 0 [.int l0] [] (xst S G h) Q) := by
  intro n
  induction n with
  | zero => exact fun l0 S hf => (by cases hf)
  | succ n ih =>
    intro l0 S hf
    rw [G125e0] at hf
    unfold G125b0 at hf
    refine r_iload_n fe_125_0 rfl ?_
    refine r_iconst (v := 1) fe_125_1 (by decide) ?_
    by_cases hb1 : am_ic .lt l0 1 = true
    · rw [if_pos hb1] at hf
      refine r_ic_t (t := 15) fe_125_2 (by decide) hb1 ?_
      refine r_iconst (v := 0) fe_125_15 (by decide) ?_
      refine r_iret fe_125_16 ⟨rfl, by decide⟩ ?_
      exact dfin (P := fun r T => Q (some (.int r)) (xst T G h)) hf hQ
    · rw [if_neg hb1] at hf
      refine r_ic_f (t := 15) fe_125_2 (by decide) (Bool.eq_false_iff.mpr hb1) ?_
      refine r_iload_n fe_125_5 rfl ?_
      refine r_bipush (v := 60) fe_125_6 (by decide) ?_
      by_cases hb2 : am_ic .gt l0 60 = true
      · rw [if_pos hb2] at hf
        refine r_ic_t (t := 15) fe_125_8 (by decide) hb2 ?_
        refine r_iconst (v := 0) fe_125_15 (by decide) ?_
        refine r_iret fe_125_16 ⟨rfl, by decide⟩ ?_
        exact dfin (P := fun r T => Q (some (.int r)) (xst T G h)) hf hQ
      · rw [if_neg hb2] at hf
        refine r_ic_f (t := 15) fe_125_8 (by decide) (Bool.eq_false_iff.mpr hb2) ?_
        refine r_iconst (v := 1) fe_125_11 (by decide) ?_
        refine r_goto (t := 16) fe_125_12 (by decide) ?_
        refine r_iret fe_125_16 ⟨rfl, by decide⟩ ?_
        exact dfin (P := fun r T => Q (some (.int r)) (xst T G h)) hf hQ
theorem G125c {xs : Nat → Int32} {L9 d : Nat} {G : gS} {h : Nat → va_E} {n : Nat} {Q : Option Value → AmH → Prop} {r0 : Int32} {S0 S : xS} {l0 : Int32} (hf : G125 n l0 S = some (r0, S0)) (hQ : Q (some (.int r0)) (xst S0 G h)) : Ca (am_X xs L9) (d + 0) 125 [.int l0] (xst S G h) Q := (G125l hQ n) l0 S hf
def G124b0 (F : Nat → Int32 → Int32 → Int32 → Int32 → Int32 → Int32 → Int32 → (xS × gS) → Option (Int32 × (xS × gS))) (n : Nat) (l1 : Int32) (l2 : Int32) (l3 : Int32) (l4 : Int32) (l5 : Int32) (l6 : Int32) (l7 : Int32) (U : (xS × gS)) : Option (Int32 × (xS × gS)) := ((G75 n l2 U.1).bind (fun z1 => (if am_if .eq z1.1 = true then some ((-1), (z1.2, U.2)) else ((G102 n l1 z1.2).bind (fun z4 => (if am_if .eq z4.1 = true then some ((-1), (z4.2, U.2)) else ((G125 n l3 z4.2).bind (fun z7 => (if am_if .eq z7.1 = true then some ((-1), (z7.2, U.2)) else (if am_if .lt l4 = true then some ((-1), (z7.2, U.2)) else (if am_ic .le l4 1 = true then F 45 l1 l2 l3 l4 (-2) 0 0 (z7.2, U.2) else some ((-1), (z7.2, U.2)))))))))))))
def G124b45 (F : Nat → Int32 → Int32 → Int32 → Int32 → Int32 → Int32 → Int32 → (xS × gS) → Option (Int32 × (xS × gS))) (n : Nat) (l1 : Int32) (l2 : Int32) (l3 : Int32) (l4 : Int32) (l5 : Int32) (l6 : Int32) (l7 : Int32) (U : (xS × gS)) : Option (Int32 × (xS × gS)) := (if am_ic .ge l7 (U.1.1 89 0) = true then (if am_if .ne l4 = true then some (l5, (U.1, U.2)) else some (l6, (U.1, U.2))) else ((G84 n  U.1).bind (fun z14 => (if lwB U.2 z14.1 (lawN U.2 z14.1) = true then ((G109 z14.1 n  z14.2).bind (fun z17 => (if z17.2.2.2.2 109 4 = some 110 then ((G50 110 n l7 l1 z17.2).bind (fun z20 => (if am_if .ge z20.1 = true then ((G110 110 z14.1 (lawN U.2 z14.1) n z20.1 l3 z20.2).bind (fun z23 => (if z23.2.2.2.2 109 4 = some 110 then (if ¬ (z20.1 < 0 ∨ 13 ≤ (z20.1).toNatClampNeg) then (if am_ic .ne (z23.2.2.1 111 (Int32.toNatClampNeg z20.1)) l2 = true then F 45 l1 l2 l3 l4 l5 l6 (l7 + 1) (z23.2, U.2) else (if am_if .ne l6 = true then F 45 l1 l2 l3 l4 l5 (l6 + 1) (l7 + 1) (z23.2, U.2) else F 45 l1 l2 l3 l4 l7 (l6 + 1) (l7 + 1) (z23.2, U.2))) else none) else none))) else F 45 l1 l2 l3 l4 l5 l6 (l7 + 1) (z20.2, U.2)))) else none))) else none))))
def G124f : Nat → Nat → Int32 → Int32 → Int32 → Int32 → Int32 → Int32 → Int32 → (xS × gS) → Option (Int32 × (xS × gS))
  | 0, _, _, _, _, _, _, _, _, _ => none
  | n + 1, c, l1, l2, l3, l4, l5, l6, l7, U => if c = 0 then G124b0 (G124f n) n l1 l2 l3 l4 l5 l6 l7 U else G124b45 (G124f n) n l1 l2 l3 l4 l5 l6 l7 U
theorem G124e0 (n : Nat) (l1 : Int32) (l2 : Int32) (l3 : Int32) (l4 : Int32) (l5 : Int32) (l6 : Int32) (l7 : Int32) (U : (xS × gS)) : G124f (n + 1) 0 l1 l2 l3 l4 l5 l6 l7 U = G124b0 (G124f n) n l1 l2 l3 l4 l5 l6 l7 U := if_pos rfl
theorem G124e45 (n : Nat) (l1 : Int32) (l2 : Int32) (l3 : Int32) (l4 : Int32) (l5 : Int32) (l6 : Int32) (l7 : Int32) (U : (xS × gS)) : G124f (n + 1) 45 l1 l2 l3 l4 l5 l6 l7 U = G124b45 (G124f n) n l1 l2 l3 l4 l5 l6 l7 U := if_neg (by decide)
def G124 (n : Nat) (l1 : Int32) (l2 : Int32) (l3 : Int32) (l4 : Int32) (U : (xS × gS)) : Option (Int32 × (xS × gS)) := G124f n 0 l1 l2 l3 l4 0 0 0 U
set_option maxRecDepth 20000 in
set_option maxHeartbeats 4000000 in
theorem G124l {xs : Nat → Int32} {L9 d : Nat} {h : Nat → va_E} {Q : Option Value → AmH → Prop} {r0 : Int32} {U0 : (xS × gS)} (hQ : Q (some (.int r0)) (xst U0.1 U0.2 h)) : ∀ n : Nat, (∀ (l1 : Int32) (l2 : Int32) (l3 : Int32) (l4 : Int32) (l5 : Int32) (l6 : Int32) (l7 : Int32) (U : (xS × gS)), G124f n 0 l1 l2 l3 l4 l5 l6 l7 U = some (r0, U0) → Go (am_X xs L9) (d + 6) 124 0 [.ref 64, .int l1, .int l2, .int l3, .int l4, .float 0, .float 0, .float 0, .float 0] [] (xst U.1 U.2 h) Q) ∧ (∀ (l1 : Int32) (l2 : Int32) (l3 : Int32) (l4 : Int32) (l5 : Int32) (l6 : Int32) (l7 : Int32) (U : (xS × gS)), G124f n 45 l1 l2 l3 l4 l5 l6 l7 U = some (r0, U0) → Go (am_X xs L9) (d + 6) 124 45 [.ref 64, .int l1, .int l2, .int l3, .int l4, .int l5, .int l6, .int l7, .float 0] [] (xst U.1 U.2 h) Q) := by
  intro n
  induction n with
  | zero => exact ⟨fun l1 l2 l3 l4 l5 l6 l7 U hf => (by cases hf), fun l1 l2 l3 l4 l5 l6 l7 U hf => (by cases hf)⟩
  | succ n ih =>
    refine ⟨?_, ?_⟩
    · intro l1 l2 l3 l4 l5 l6 l7 U hf
      rw [G124e0] at hf
      unfold G124b0 at hf
      refine r_aload_n fe_124_0 rfl ?_
      refine r_iload_n fe_124_1 rfl ?_
      refine r_callV (as := [.int l2]) (r := []) fe_124_2 lm_11_124 md_75 rfl rfl (Nat.le_of_ble_eq_true rfl) (x_c xk_64 (by decide)) (x_lt xk_64 (by decide)) (Nat.le_of_ble_eq_true rfl) (Nat.le_of_ble_eq_true rfl) ?_
      cases hc2 : G75 n l2 U.1 with
      | none => rw [hc2] at hf; cases hf
      | some z1 =>
        rw [hc2, Option.bind_some] at hf
        refine G75c (r0 := z1.1) (S0 := z1.2)  (hf := hc2) ?_
        by_cases hb3 : am_if .eq z1.1 = true
        · rw [if_pos hb3] at hf
          refine r_if_t (t := 33) fe_124_5 (by decide) hb3 ?_
          refine r_iconst (v := -1) fe_124_33 (by decide) ?_
          refine r_iret fe_124_34 ⟨rfl, by decide⟩ ?_
          exact dfin (P := fun r T => Q (some (.int r)) (xst T.1 T.2 h)) hf hQ
        · rw [if_neg hb3] at hf
          refine r_if_f (t := 33) fe_124_5 (by decide) (Bool.eq_false_iff.mpr hb3) ?_
          refine r_iload_n fe_124_8 rfl ?_
          refine r_callS (as := [.int l1]) (r := []) fe_124_9 lm_11_198 md_102 rfl rfl (Nat.le_of_ble_eq_true rfl) (Nat.le_of_ble_eq_true rfl) (Nat.le_of_ble_eq_true rfl) ?_
          cases hc5 : G102 n l1 z1.2 with
          | none => rw [hc5] at hf; cases hf
          | some z4 =>
            rw [hc5, Option.bind_some] at hf
            refine G102c (r0 := z4.1) (S0 := z4.2)  (hf := hc5) ?_
            by_cases hb6 : am_if .eq z4.1 = true
            · rw [if_pos hb6] at hf
              refine r_if_t (t := 33) fe_124_12 (by decide) hb6 ?_
              refine r_iconst (v := -1) fe_124_33 (by decide) ?_
              refine r_iret fe_124_34 ⟨rfl, by decide⟩ ?_
              exact dfin (P := fun r T => Q (some (.int r)) (xst T.1 T.2 h)) hf hQ
            · rw [if_neg hb6] at hf
              refine r_if_f (t := 33) fe_124_12 (by decide) (Bool.eq_false_iff.mpr hb6) ?_
              refine r_iload_n fe_124_15 rfl ?_
              refine r_callS (as := [.int l3]) (r := []) fe_124_16 lm_11_254 md_125 rfl rfl (Nat.le_of_ble_eq_true rfl) (Nat.le_of_ble_eq_true rfl) (Nat.le_of_ble_eq_true rfl) ?_
              cases hc8 : G125 n l3 z4.2 with
              | none => rw [hc8] at hf; cases hf
              | some z7 =>
                rw [hc8, Option.bind_some] at hf
                refine G125c (r0 := z7.1) (S0 := z7.2)  (hf := hc8) ?_
                by_cases hb9 : am_if .eq z7.1 = true
                · rw [if_pos hb9] at hf
                  refine r_if_t (t := 33) fe_124_19 (by decide) hb9 ?_
                  refine r_iconst (v := -1) fe_124_33 (by decide) ?_
                  refine r_iret fe_124_34 ⟨rfl, by decide⟩ ?_
                  exact dfin (P := fun r T => Q (some (.int r)) (xst T.1 T.2 h)) hf hQ
                · rw [if_neg hb9] at hf
                  refine r_if_f (t := 33) fe_124_19 (by decide) (Bool.eq_false_iff.mpr hb9) ?_
                  refine r_iload fe_124_22 rfl ?_
                  by_cases hb10 : am_if .lt l4 = true
                  · rw [if_pos hb10] at hf
                    refine r_if_t (t := 33) fe_124_24 (by decide) hb10 ?_
                    refine r_iconst (v := -1) fe_124_33 (by decide) ?_
                    refine r_iret fe_124_34 ⟨rfl, by decide⟩ ?_
                    exact dfin (P := fun r T => Q (some (.int r)) (xst T.1 T.2 h)) hf hQ
                  · rw [if_neg hb10] at hf
                    refine r_if_f (t := 33) fe_124_24 (by decide) (Bool.eq_false_iff.mpr hb10) ?_
                    refine r_iload fe_124_27 rfl ?_
                    refine r_iconst (v := 1) fe_124_29 (by decide) ?_
                    by_cases hb11 : am_ic .le l4 1 = true
                    · rw [if_pos hb11] at hf
                      refine r_ic_t (t := 35) fe_124_30 (by decide) hb11 ?_
                      refine r_bipush (v := -2) fe_124_35 (by decide) ?_
                      refine r_istore fe_124_37 (Nat.le_of_ble_eq_true rfl) rfl ?_
                      refine r_iconst (v := 0) fe_124_39 (by decide) ?_
                      refine r_istore fe_124_40 (Nat.le_of_ble_eq_true rfl) rfl ?_
                      refine r_iconst (v := 0) fe_124_42 (by decide) ?_
                      refine r_istore fe_124_43 (Nat.le_of_ble_eq_true rfl) rfl ?_
                      refine go_weak (L0 := [.ref 64, .int l1, .int l2, .int l3, .int l4, .int (-2), .int 0, .int 0, .float 0]) (lwk_c (Or.inl rfl) (lwk_c (Or.inl rfl) (lwk_c (Or.inl rfl) (lwk_c (Or.inl rfl) (lwk_c (Or.inl rfl) (lwk_c (Or.inl rfl) (lwk_c (Or.inl rfl) (lwk_c (Or.inl rfl) (lwk_c (Or.inl rfl) (lwk_rf [])))))))))) ?_
                      exact ih.2 l1 l2 l3 l4 (-2) 0 0 (z7.2, U.2) hf
                    · rw [if_neg hb11] at hf
                      refine r_ic_f (t := 35) fe_124_30 (by decide) (Bool.eq_false_iff.mpr hb11) ?_
                      refine r_iconst (v := -1) fe_124_33 (by decide) ?_
                      refine r_iret fe_124_34 ⟨rfl, by decide⟩ ?_
                      exact dfin (P := fun r T => Q (some (.int r)) (xst T.1 T.2 h)) hf hQ
    · intro l1 l2 l3 l4 l5 l6 l7 U hf
      rw [G124e45] at hf
      unfold G124b45 at hf
      refine r_iload fe_124_45 rfl ?_
      refine r_aload_n fe_124_47 rfl ?_
      refine r_getf (v := .ref 88) fe_124_48 lf_11_43 (x_c xk_64 (by decide)) (x_lt xk_64 (by decide)) rfl ?_
      refine r_getf (v := .ref 89) fe_124_51 lf_11_83 (x_c xk_88 (by decide)) (x_lt xk_88 (by decide)) rfl ?_
      refine r_getf (v := .int (U.1.1 89 0)) fe_124_54 lf_11_257 (x_c xk_89 (by decide)) (x_lt xk_89 (by decide)) rfl ?_
      by_cases hb12 : am_ic .ge l7 (U.1.1 89 0) = true
      · rw [if_pos hb12] at hf
        refine r_ic_t (t := 148) fe_124_57 (by decide) hb12 ?_
        refine r_iload fe_124_148 rfl ?_
        by_cases hb13 : am_if .ne l4 = true
        · rw [if_pos hb13] at hf
          refine r_if_t (t := 158) fe_124_150 (by decide) hb13 ?_
          refine r_iload fe_124_158 rfl ?_
          refine r_iret fe_124_160 ⟨rfl, by decide⟩ ?_
          exact dfin (P := fun r T => Q (some (.int r)) (xst T.1 T.2 h)) hf hQ
        · rw [if_neg hb13] at hf
          refine r_if_f (t := 158) fe_124_150 (by decide) (Bool.eq_false_iff.mpr hb13) ?_
          refine r_iload fe_124_153 rfl ?_
          refine r_goto (t := 160) fe_124_155 (by decide) ?_
          refine r_iret fe_124_160 ⟨rfl, by decide⟩ ?_
          exact dfin (P := fun r T => Q (some (.int r)) (xst T.1 T.2 h)) hf hQ
      · rw [if_neg hb12] at hf
        refine r_ic_f (t := 148) fe_124_57 (by decide) (Bool.eq_false_iff.mpr hb12) ?_
        refine r_aload_n fe_124_60 rfl ?_
        refine r_getf (v := .ref 109) fe_124_61 lf_11_54 (x_c xk_64 (by decide)) (x_lt xk_64 (by decide)) rfl ?_
        refine r_aload_n fe_124_64 rfl ?_
        refine r_getf (v := .ref 88) fe_124_65 lf_11_43 (x_c xk_64 (by decide)) (x_lt xk_64 (by decide)) rfl ?_
        refine r_aload_n fe_124_68 rfl ?_
        refine r_callV (as := []) (r := [.ref 88, .ref 109]) fe_124_69 lm_11_179 md_84 rfl rfl (Nat.le_of_ble_eq_true rfl) (x_c xk_64 (by decide)) (x_lt xk_64 (by decide)) (Nat.le_of_ble_eq_true rfl) (Nat.le_of_ble_eq_true rfl) ?_
        cases hc15 : G84 n  U.1 with
        | none => rw [hc15] at hf; cases hf
        | some z14 =>
          rw [hc15, Option.bind_some] at hf
          refine G84c (r0 := z14.1) (S0 := z14.2)  (hf := hc15) ?_
          by_cases hb16 : lwB U.2 z14.1 (lawN U.2 z14.1) = true
          rotate_left
          · rw [if_neg hb16] at hf; cases hf
          rw [if_pos hb16] at hf
          refine r_callV (as := [.ref 88, va_rf z14.1]) (r := []) fe_124_72 lm_11_231 md_109 rfl rfl (Nat.le_of_ble_eq_true rfl) (x_c xk_109 (by decide)) (x_lt xk_109 (by decide)) (Nat.le_of_ble_eq_true rfl) (by cases e9 : z14.1 <;> exact Nat.le_of_ble_eq_true rfl) ?_
          cases hc18 : G109 z14.1 n  z14.2 with
          | none => rw [hc18] at hf; cases hf
          | some z17 =>
            rw [hc18, Option.bind_some] at hf
            refine G109c (r0 := z17.1) (S0 := z17.2)  (hf := hc18) ?_
            refine r_aload_n fe_124_75 rfl ?_
            refine r_getf (v := .ref 109) fe_124_76 lf_11_54 (x_c xk_64 (by decide)) (x_lt xk_64 (by decide)) rfl ?_
            by_cases hm19 : z17.2.2.2.2 109 4 = some 110
            rotate_left
            · rw [if_neg hm19] at hf; cases hf
            rw [if_pos hm19] at hf
            refine r_getf (v := .ref 110) fe_124_79 lf_11_238 (x_c xk_109 (by decide)) (x_lt xk_109 (by decide)) (by show some (va_rf _) = _; rw [hm19]; rfl) ?_
            refine r_iload fe_124_82 rfl ?_
            refine r_iload_n fe_124_84 rfl ?_
            refine r_callV (as := [.int l7, .int l1]) (r := []) fe_124_85 lm_11_201 md_50 rfl rfl (Nat.le_of_ble_eq_true rfl) (x_c xk_110 (by decide)) (x_lt xk_110 (by decide)) (Nat.le_of_ble_eq_true rfl) (Nat.le_of_ble_eq_true rfl) ?_
            cases hc21 : G50 110 n l7 l1 z17.2 with
            | none => rw [hc21] at hf; cases hf
            | some z20 =>
              rw [hc21, Option.bind_some] at hf
              refine G50c (r0 := z20.1) (S0 := z20.2) (h0 := wS_110) (hf := hc21) ?_
              refine r_istore fe_124_88 (Nat.le_of_ble_eq_true rfl) rfl ?_
              refine r_iload fe_124_90 rfl ?_
              by_cases hb22 : am_if .ge z20.1 = true
              · rw [if_pos hb22] at hf
                refine r_if_t (t := 98) fe_124_92 (by decide) hb22 ?_
                refine r_aload_n fe_124_98 rfl ?_
                refine r_getf (v := .ref 109) fe_124_99 lf_11_54 (x_c xk_64 (by decide)) (x_lt xk_64 (by decide)) rfl ?_
                refine r_iload fe_124_102 rfl ?_
                refine r_iload_n fe_124_104 rfl ?_
                refine r_callV (as := [.int z20.1, .int l3]) (r := []) fe_124_105 lm_11_235 md_110 rfl rfl (Nat.le_of_ble_eq_true rfl) (x_c xk_109 (by decide)) (x_lt xk_109 (by decide)) (Nat.le_of_ble_eq_true rfl) (Nat.le_of_ble_eq_true rfl) ?_
                cases hc24 : G110 110 z14.1 (lawN U.2 z14.1) n z20.1 l3 z20.2 with
                | none => rw [hc24] at hf; cases hf
                | some z23 =>
                  rw [hc24, Option.bind_some] at hf
                  refine G110c (r0 := z23.1) (S0 := z23.2) (hw := wS_110) (hl := hb16) (hf := hc24) ?_
                  refine r_aload_n fe_124_108 rfl ?_
                  refine r_getf (v := .ref 109) fe_124_109 lf_11_54 (x_c xk_64 (by decide)) (x_lt xk_64 (by decide)) rfl ?_
                  by_cases hm25 : z23.2.2.2.2 109 4 = some 110
                  rotate_left
                  · rw [if_neg hm25] at hf; cases hf
                  rw [if_pos hm25] at hf
                  refine r_getf (v := .ref 110) fe_124_112 lf_11_238 (x_c xk_109 (by decide)) (x_lt xk_109 (by decide)) (by show some (va_rf _) = _; rw [hm25]; rfl) ?_
                  refine r_getf (v := .ref 111) fe_124_115 lf_11_151 (x_c xk_110 (by decide)) (x_lt xk_110 (by decide)) rfl ?_
                  refine r_iload fe_124_118 rfl ?_
                  by_cases hg26 : ¬ (z20.1 < 0 ∨ 13 ≤ (z20.1).toNatClampNeg)
                  rotate_left
                  · rw [if_neg hg26] at hf; cases hf
                  rw [if_pos hg26] at hf
                  refine r_iald (j := (Int32.toNatClampNeg z20.1)) (v := z23.2.2.1 111 (Int32.toNatClampNeg z20.1)) fe_124_120 (x_c xk_111 (by decide)) (x_lt xk_111 (by decide)) (fun z => hg26 (Or.inl z)) rfl (fun z => hg26 (Or.inr z)) rfl ?_
                  refine r_iload_n fe_124_121 rfl ?_
                  by_cases hb27 : am_ic .ne (z23.2.2.1 111 (Int32.toNatClampNeg z20.1)) l2 = true
                  · rw [if_pos hb27] at hf
                    refine r_ic_t (t := 142) fe_124_122 (by decide) hb27 ?_
                    refine r_iinc (v := (l7 + 1)) fe_124_142 rfl rfl rfl ?_
                    refine r_goto (t := 45) fe_124_145 (by decide) ?_
                    refine go_weak (L0 := [.ref 64, .int l1, .int l2, .int l3, .int l4, .int l5, .int l6, .int (l7 + 1), .float 0]) (lwk_c (Or.inl rfl) (lwk_c (Or.inl rfl) (lwk_c (Or.inl rfl) (lwk_c (Or.inl rfl) (lwk_c (Or.inl rfl) (lwk_c (Or.inl rfl) (lwk_c (Or.inl rfl) (lwk_c (Or.inl rfl) (lwk_c (Or.inr rfl) (lwk_rf [])))))))))) ?_
                    exact ih.2 l1 l2 l3 l4 l5 l6 (l7 + 1) (z23.2, U.2) hf
                  · rw [if_neg hb27] at hf
                    refine r_ic_f (t := 142) fe_124_122 (by decide) (Bool.eq_false_iff.mpr hb27) ?_
                    refine r_iload fe_124_125 rfl ?_
                    by_cases hb28 : am_if .ne l6 = true
                    · rw [if_pos hb28] at hf
                      refine r_if_t (t := 135) fe_124_127 (by decide) hb28 ?_
                      refine r_iload fe_124_135 rfl ?_
                      refine r_istore fe_124_137 (Nat.le_of_ble_eq_true rfl) rfl ?_
                      refine r_iinc (v := (l6 + 1)) fe_124_139 rfl rfl rfl ?_
                      refine r_iinc (v := (l7 + 1)) fe_124_142 rfl rfl rfl ?_
                      refine r_goto (t := 45) fe_124_145 (by decide) ?_
                      refine go_weak (L0 := [.ref 64, .int l1, .int l2, .int l3, .int l4, .int l5, .int (l6 + 1), .int (l7 + 1), .float 0]) (lwk_c (Or.inl rfl) (lwk_c (Or.inl rfl) (lwk_c (Or.inl rfl) (lwk_c (Or.inl rfl) (lwk_c (Or.inl rfl) (lwk_c (Or.inl rfl) (lwk_c (Or.inl rfl) (lwk_c (Or.inl rfl) (lwk_c (Or.inr rfl) (lwk_rf [])))))))))) ?_
                      exact ih.2 l1 l2 l3 l4 l5 (l6 + 1) (l7 + 1) (z23.2, U.2) hf
                    · rw [if_neg hb28] at hf
                      refine r_if_f (t := 135) fe_124_127 (by decide) (Bool.eq_false_iff.mpr hb28) ?_
                      refine r_iload fe_124_130 rfl ?_
                      refine r_goto (t := 137) fe_124_132 (by decide) ?_
                      refine r_istore fe_124_137 (Nat.le_of_ble_eq_true rfl) rfl ?_
                      refine r_iinc (v := (l6 + 1)) fe_124_139 rfl rfl rfl ?_
                      refine r_iinc (v := (l7 + 1)) fe_124_142 rfl rfl rfl ?_
                      refine r_goto (t := 45) fe_124_145 (by decide) ?_
                      refine go_weak (L0 := [.ref 64, .int l1, .int l2, .int l3, .int l4, .int l7, .int (l6 + 1), .int (l7 + 1), .float 0]) (lwk_c (Or.inl rfl) (lwk_c (Or.inl rfl) (lwk_c (Or.inl rfl) (lwk_c (Or.inl rfl) (lwk_c (Or.inl rfl) (lwk_c (Or.inl rfl) (lwk_c (Or.inl rfl) (lwk_c (Or.inl rfl) (lwk_c (Or.inr rfl) (lwk_rf [])))))))))) ?_
                      exact ih.2 l1 l2 l3 l4 l7 (l6 + 1) (l7 + 1) (z23.2, U.2) hf
              · rw [if_neg hb22] at hf
                refine r_if_f (t := 98) fe_124_92 (by decide) (Bool.eq_false_iff.mpr hb22) ?_
                refine r_goto (t := 142) fe_124_95 (by decide) ?_
                refine r_iinc (v := (l7 + 1)) fe_124_142 rfl rfl rfl ?_
                refine r_goto (t := 45) fe_124_145 (by decide) ?_
                refine go_weak (L0 := [.ref 64, .int l1, .int l2, .int l3, .int l4, .int l5, .int l6, .int (l7 + 1), .float 0]) (lwk_c (Or.inl rfl) (lwk_c (Or.inl rfl) (lwk_c (Or.inl rfl) (lwk_c (Or.inl rfl) (lwk_c (Or.inl rfl) (lwk_c (Or.inl rfl) (lwk_c (Or.inl rfl) (lwk_c (Or.inl rfl) (lwk_c (Or.inr rfl) (lwk_rf [])))))))))) ?_
                exact ih.2 l1 l2 l3 l4 l5 l6 (l7 + 1) (z20.2, U.2) hf
theorem G124c {xs : Nat → Int32} {L9 d : Nat} {h : Nat → va_E} {n : Nat} {Q : Option Value → AmH → Prop} {r0 : Int32} {U0 U : (xS × gS)} {l1 : Int32} {l2 : Int32} {l3 : Int32} {l4 : Int32} (hf : G124 n l1 l2 l3 l4 U = some (r0, U0)) (hQ : Q (some (.int r0)) (xst U0.1 U0.2 h)) : Ca (am_X xs L9) (d + 6) 124 [.ref 64, .int l1, .int l2, .int l3, .int l4] (xst U.1 U.2 h) Q := (G124l hQ n).1 l1 l2 l3 l4 0 0 0 U hf
def G129b0 (F : Nat → Int32 → Int32 → Int32 → xS → Option (Int32 × xS)) (n : Nat) (l1 : Int32) (l2 : Int32) (l3 : Int32) (S : xS) : Option (Int32 × xS) := (if am_if .ne ((l1 >>> (l3 &&& 31)) &&& 1) = true then some (0, S) else (if am_if .lt l2 = true then some (1, S) else (if ¬ (l2 < 0 ∨ 8 ≤ (l2).toNatClampNeg) then (if ¬ (l3 < 0 ∨ 8 ≤ (l3).toNatClampNeg) then (if am_ic .ne (S.2.1 128 (Int32.toNatClampNeg l2)) (S.2.1 127 (Int32.toNatClampNeg l3)) = true then some (0, S) else some (1, S)) else none) else none)))
def G129f : Nat → Nat → Int32 → Int32 → Int32 → xS → Option (Int32 × xS)
  | 0, _, _, _, _, _ => none
  | n + 1, c, l1, l2, l3, S => G129b0 (G129f n) n l1 l2 l3 S
theorem G129e0 (n : Nat) (l1 : Int32) (l2 : Int32) (l3 : Int32) (S : xS) : G129f (n + 1) 0 l1 l2 l3 S = G129b0 (G129f n) n l1 l2 l3 S := rfl
def G129 (n : Nat) (l1 : Int32) (l2 : Int32) (l3 : Int32) (S : xS) : Option (Int32 × xS) := G129f n 0 l1 l2 l3 S
set_option maxRecDepth 20000 in
set_option maxHeartbeats 4000000 in
theorem G129l {xs : Nat → Int32} {L9 d : Nat} {G : gS} {h : Nat → va_E} {Q : Option Value → AmH → Prop} {r0 : Int32} {S0 : xS} (hQ : Q (some (.int r0)) (xst S0 G h)) : ∀ n : Nat, (∀ (l1 : Int32) (l2 : Int32) (l3 : Int32) (S : xS), G129f n 0 l1 l2 l3 S = some (r0, S0) → Go (am_X xs L9) (d + 0) 129 0 [.ref 125, .int l1, .int l2, .int l3] [] (xst S G h) Q) := by
  intro n
  induction n with
  | zero => exact fun l1 l2 l3 S hf => (by cases hf)
  | succ n ih =>
    intro l1 l2 l3 S hf
    rw [G129e0] at hf
    unfold G129b0 at hf
    refine r_iload_n fe_129_0 rfl ?_
    refine r_iload_n fe_129_1 rfl ?_
    refine r_ishr (v := (l1 >>> (l3 &&& 31))) fe_129_2 rfl ?_
    refine r_iconst (v := 1) fe_129_3 (by decide) ?_
    refine r_iand (v := ((l1 >>> (l3 &&& 31)) &&& 1)) fe_129_4 rfl ?_
    by_cases hb1 : am_if .ne ((l1 >>> (l3 &&& 31)) &&& 1) = true
    · rw [if_pos hb1] at hf
      refine r_if_t (t := 31) fe_129_5 (by decide) hb1 ?_
      refine r_iconst (v := 0) fe_129_31 (by decide) ?_
      refine r_iret fe_129_32 ⟨rfl, by decide⟩ ?_
      exact dfin (P := fun r T => Q (some (.int r)) (xst T G h)) hf hQ
    · rw [if_neg hb1] at hf
      refine r_if_f (t := 31) fe_129_5 (by decide) (Bool.eq_false_iff.mpr hb1) ?_
      refine r_iload_n fe_129_8 rfl ?_
      by_cases hb2 : am_if .lt l2 = true
      · rw [if_pos hb2] at hf
        refine r_if_t (t := 27) fe_129_9 (by decide) hb2 ?_
        refine r_iconst (v := 1) fe_129_27 (by decide) ?_
        refine r_goto (t := 32) fe_129_28 (by decide) ?_
        refine r_iret fe_129_32 ⟨rfl, by decide⟩ ?_
        exact dfin (P := fun r T => Q (some (.int r)) (xst T G h)) hf hQ
      · rw [if_neg hb2] at hf
        refine r_if_f (t := 27) fe_129_9 (by decide) (Bool.eq_false_iff.mpr hb2) ?_
        refine r_aload_n fe_129_12 rfl ?_
        refine r_getf (v := .ref 128) fe_129_13 lf_3_18 (x_c xk_125 (by decide)) (x_lt xk_125 (by decide)) rfl ?_
        refine r_iload_n fe_129_16 rfl ?_
        by_cases hg3 : ¬ (l2 < 0 ∨ 8 ≤ (l2).toNatClampNeg)
        rotate_left
        · rw [if_neg hg3] at hf; cases hf
        rw [if_pos hg3] at hf
        refine r_iald (j := (Int32.toNatClampNeg l2)) (v := S.2.1 128 (Int32.toNatClampNeg l2)) fe_129_17 (x_c xk_128 (by decide)) (x_lt xk_128 (by decide)) (fun z => hg3 (Or.inl z)) rfl (fun z => hg3 (Or.inr z)) rfl ?_
        refine r_aload_n fe_129_18 rfl ?_
        refine r_getf (v := .ref 127) fe_129_19 lf_3_15 (x_c xk_125 (by decide)) (x_lt xk_125 (by decide)) rfl ?_
        refine r_iload_n fe_129_22 rfl ?_
        by_cases hg4 : ¬ (l3 < 0 ∨ 8 ≤ (l3).toNatClampNeg)
        rotate_left
        · rw [if_neg hg4] at hf; cases hf
        rw [if_pos hg4] at hf
        refine r_iald (j := (Int32.toNatClampNeg l3)) (v := S.2.1 127 (Int32.toNatClampNeg l3)) fe_129_23 (x_c xk_127 (by decide)) (x_lt xk_127 (by decide)) (fun z => hg4 (Or.inl z)) rfl (fun z => hg4 (Or.inr z)) rfl ?_
        by_cases hb5 : am_ic .ne (S.2.1 128 (Int32.toNatClampNeg l2)) (S.2.1 127 (Int32.toNatClampNeg l3)) = true
        · rw [if_pos hb5] at hf
          refine r_ic_t (t := 31) fe_129_24 (by decide) hb5 ?_
          refine r_iconst (v := 0) fe_129_31 (by decide) ?_
          refine r_iret fe_129_32 ⟨rfl, by decide⟩ ?_
          exact dfin (P := fun r T => Q (some (.int r)) (xst T G h)) hf hQ
        · rw [if_neg hb5] at hf
          refine r_ic_f (t := 31) fe_129_24 (by decide) (Bool.eq_false_iff.mpr hb5) ?_
          refine r_iconst (v := 1) fe_129_27 (by decide) ?_
          refine r_goto (t := 32) fe_129_28 (by decide) ?_
          refine r_iret fe_129_32 ⟨rfl, by decide⟩ ?_
          exact dfin (P := fun r T => Q (some (.int r)) (xst T G h)) hf hQ
theorem G129c {xs : Nat → Int32} {L9 d : Nat} {G : gS} {h : Nat → va_E} {n : Nat} {Q : Option Value → AmH → Prop} {r0 : Int32} {S0 S : xS} {l1 : Int32} {l2 : Int32} {l3 : Int32} (hf : G129 n l1 l2 l3 S = some (r0, S0)) (hQ : Q (some (.int r0)) (xst S0 G h)) : Ca (am_X xs L9) (d + 0) 129 [.ref 125, .int l1, .int l2, .int l3] (xst S G h) Q := (G129l hQ n) l1 l2 l3 S hf
def G128b0 (F : Nat → Int32 → Int32 → Int32 → Int32 → xS → Option (Int32 × xS)) (n : Nat) (l1 : Int32) (l2 : Int32) (l3 : Int32) (l4 : Int32) (S : xS) : Option (Int32 × xS) := F 5 l1 l2 0 0 S
def G128b5 (F : Nat → Int32 → Int32 → Int32 → Int32 → xS → Option (Int32 × xS)) (n : Nat) (l1 : Int32) (l2 : Int32) (l3 : Int32) (l4 : Int32) (S : xS) : Option (Int32 × xS) := (if am_ic .ge l4 (S.1 125 4) = true then some (l3, S) else ((G129 n l1 l2 l4 S).bind (fun z2 => (if am_if .eq z2.1 = true then F 5 l1 l2 l3 (l4 + 1) z2.2 else (if ¬ ((((l1 ||| (1 <<< (l4 &&& 31))) * 8) + l4) < 0 ∨ 2048 ≤ ((((l1 ||| (1 <<< (l4 &&& 31))) * 8) + l4)).toNatClampNeg) then F 5 l1 l2 (l3 + (z2.2.2.1 129 (Int32.toNatClampNeg (((l1 ||| (1 <<< (l4 &&& 31))) * 8) + l4)))) (l4 + 1) z2.2 else none)))))
def G128f : Nat → Nat → Int32 → Int32 → Int32 → Int32 → xS → Option (Int32 × xS)
  | 0, _, _, _, _, _, _ => none
  | n + 1, c, l1, l2, l3, l4, S => if c = 0 then G128b0 (G128f n) n l1 l2 l3 l4 S else G128b5 (G128f n) n l1 l2 l3 l4 S
theorem G128e0 (n : Nat) (l1 : Int32) (l2 : Int32) (l3 : Int32) (l4 : Int32) (S : xS) : G128f (n + 1) 0 l1 l2 l3 l4 S = G128b0 (G128f n) n l1 l2 l3 l4 S := if_pos rfl
theorem G128e5 (n : Nat) (l1 : Int32) (l2 : Int32) (l3 : Int32) (l4 : Int32) (S : xS) : G128f (n + 1) 5 l1 l2 l3 l4 S = G128b5 (G128f n) n l1 l2 l3 l4 S := if_neg (by decide)
def G128 (n : Nat) (l1 : Int32) (l2 : Int32) (S : xS) : Option (Int32 × xS) := G128f n 0 l1 l2 0 0 S
set_option maxRecDepth 20000 in
set_option maxHeartbeats 4000000 in
theorem G128l {xs : Nat → Int32} {L9 d : Nat} {G : gS} {h : Nat → va_E} {Q : Option Value → AmH → Prop} {r0 : Int32} {S0 : xS} (hQ : Q (some (.int r0)) (xst S0 G h)) : ∀ n : Nat, (∀ (l1 : Int32) (l2 : Int32) (l3 : Int32) (l4 : Int32) (S : xS), G128f n 0 l1 l2 l3 l4 S = some (r0, S0) → Go (am_X xs L9) (d + 1) 128 0 [.ref 125, .int l1, .int l2, .float 0, .float 0] [] (xst S G h) Q) ∧ (∀ (l1 : Int32) (l2 : Int32) (l3 : Int32) (l4 : Int32) (S : xS), G128f n 5 l1 l2 l3 l4 S = some (r0, S0) → Go (am_X xs L9) (d + 1) 128 5 [.ref 125, .int l1, .int l2, .int l3, .int l4] [] (xst S G h) Q) := by
  intro n
  induction n with
  | zero => exact ⟨fun l1 l2 l3 l4 S hf => (by cases hf), fun l1 l2 l3 l4 S hf => (by cases hf)⟩
  | succ n ih =>
    refine ⟨?_, ?_⟩
    · intro l1 l2 l3 l4 S hf
      rw [G128e0] at hf
      unfold G128b0 at hf
      refine r_iconst (v := 0) fe_128_0 (by decide) ?_
      refine r_istore_n fe_128_1 (Nat.le_of_ble_eq_true rfl) rfl ?_
      refine r_iconst (v := 0) fe_128_2 (by decide) ?_
      refine r_istore fe_128_3 (Nat.le_of_ble_eq_true rfl) rfl ?_
      refine go_weak (L0 := [.ref 125, .int l1, .int l2, .int 0, .int 0]) (lwk_c (Or.inl rfl) (lwk_c (Or.inl rfl) (lwk_c (Or.inl rfl) (lwk_c (Or.inl rfl) (lwk_c (Or.inl rfl) (lwk_rf [])))))) ?_
      exact ih.2 l1 l2 0 0 S hf
    · intro l1 l2 l3 l4 S hf
      rw [G128e5] at hf
      unfold G128b5 at hf
      refine r_iload fe_128_5 rfl ?_
      refine r_aload_n fe_128_7 rfl ?_
      refine r_getf (v := .int (S.1 125 4)) fe_128_8 lf_3_24 (x_c xk_125 (by decide)) (x_lt xk_125 (by decide)) rfl ?_
      by_cases hb1 : am_ic .ge l4 (S.1 125 4) = true
      · rw [if_pos hb1] at hf
        refine r_ic_t (t := 51) fe_128_11 (by decide) hb1 ?_
        refine r_iload_n fe_128_51 rfl ?_
        refine r_iret fe_128_52 ⟨rfl, by decide⟩ ?_
        exact dfin (P := fun r T => Q (some (.int r)) (xst T G h)) hf hQ
      · rw [if_neg hb1] at hf
        refine r_ic_f (t := 51) fe_128_11 (by decide) (Bool.eq_false_iff.mpr hb1) ?_
        refine r_aload_n fe_128_14 rfl ?_
        refine r_iload_n fe_128_15 rfl ?_
        refine r_iload_n fe_128_16 rfl ?_
        refine r_iload fe_128_17 rfl ?_
        refine r_callV (as := [.int l1, .int l2, .int l4]) (r := []) fe_128_19 lm_3_44 md_129 rfl rfl (Nat.le_of_ble_eq_true rfl) (x_c xk_125 (by decide)) (x_lt xk_125 (by decide)) (Nat.le_of_ble_eq_true rfl) (Nat.le_of_ble_eq_true rfl) ?_
        cases hc3 : G129 n l1 l2 l4 S with
        | none => rw [hc3] at hf; cases hf
        | some z2 =>
          rw [hc3, Option.bind_some] at hf
          refine G129c (r0 := z2.1) (S0 := z2.2)  (hf := hc3) ?_
          by_cases hb4 : am_if .eq z2.1 = true
          · rw [if_pos hb4] at hf
            refine r_if_t (t := 45) fe_128_22 (by decide) hb4 ?_
            refine r_iinc (v := (l4 + 1)) fe_128_45 rfl rfl rfl ?_
            refine r_goto (t := 5) fe_128_48 (by decide) ?_
            refine go_weak (L0 := [.ref 125, .int l1, .int l2, .int l3, .int (l4 + 1)]) (lwk_c (Or.inl rfl) (lwk_c (Or.inl rfl) (lwk_c (Or.inl rfl) (lwk_c (Or.inl rfl) (lwk_c (Or.inl rfl) (lwk_rf [])))))) ?_
            exact ih.2 l1 l2 l3 (l4 + 1) z2.2 hf
          · rw [if_neg hb4] at hf
            refine r_if_f (t := 45) fe_128_22 (by decide) (Bool.eq_false_iff.mpr hb4) ?_
            refine r_iload_n fe_128_25 rfl ?_
            refine r_aload_n fe_128_26 rfl ?_
            refine r_getf (v := .ref 129) fe_128_27 lf_3_21 (x_c xk_125 (by decide)) (x_lt xk_125 (by decide)) rfl ?_
            refine r_iload_n fe_128_30 rfl ?_
            refine r_iconst (v := 1) fe_128_31 (by decide) ?_
            refine r_iload fe_128_32 rfl ?_
            refine r_ishl (v := (1 <<< (l4 &&& 31))) fe_128_34 rfl ?_
            refine r_ior (v := (l1 ||| (1 <<< (l4 &&& 31)))) fe_128_35 rfl ?_
            refine r_bipush (v := 8) fe_128_36 (by decide) ?_
            refine r_imul (v := ((l1 ||| (1 <<< (l4 &&& 31))) * 8)) fe_128_38 rfl ?_
            refine r_iload fe_128_39 rfl ?_
            refine r_iadd (v := (((l1 ||| (1 <<< (l4 &&& 31))) * 8) + l4)) fe_128_41 rfl ?_
            by_cases hg5 : ¬ ((((l1 ||| (1 <<< (l4 &&& 31))) * 8) + l4) < 0 ∨ 2048 ≤ ((((l1 ||| (1 <<< (l4 &&& 31))) * 8) + l4)).toNatClampNeg)
            rotate_left
            · rw [if_neg hg5] at hf; cases hf
            rw [if_pos hg5] at hf
            refine r_iald (j := (Int32.toNatClampNeg (((l1 ||| (1 <<< (l4 &&& 31))) * 8) + l4))) (v := z2.2.2.1 129 (Int32.toNatClampNeg (((l1 ||| (1 <<< (l4 &&& 31))) * 8) + l4))) fe_128_42 (x_c xk_129 (by decide)) (x_lt xk_129 (by decide)) (fun z => hg5 (Or.inl z)) rfl (fun z => hg5 (Or.inr z)) rfl ?_
            refine r_iadd (v := (l3 + (z2.2.2.1 129 (Int32.toNatClampNeg (((l1 ||| (1 <<< (l4 &&& 31))) * 8) + l4))))) fe_128_43 rfl ?_
            refine r_istore_n fe_128_44 (Nat.le_of_ble_eq_true rfl) rfl ?_
            refine r_iinc (v := (l4 + 1)) fe_128_45 rfl rfl rfl ?_
            refine r_goto (t := 5) fe_128_48 (by decide) ?_
            refine go_weak (L0 := [.ref 125, .int l1, .int l2, .int (l3 + (z2.2.2.1 129 (Int32.toNatClampNeg (((l1 ||| (1 <<< (l4 &&& 31))) * 8) + l4)))), .int (l4 + 1)]) (lwk_c (Or.inl rfl) (lwk_c (Or.inl rfl) (lwk_c (Or.inl rfl) (lwk_c (Or.inl rfl) (lwk_c (Or.inl rfl) (lwk_rf [])))))) ?_
            exact ih.2 l1 l2 (l3 + (z2.2.2.1 129 (Int32.toNatClampNeg (((l1 ||| (1 <<< (l4 &&& 31))) * 8) + l4)))) (l4 + 1) z2.2 hf
theorem G128c {xs : Nat → Int32} {L9 d : Nat} {G : gS} {h : Nat → va_E} {n : Nat} {Q : Option Value → AmH → Prop} {r0 : Int32} {S0 S : xS} {l1 : Int32} {l2 : Int32} (hf : G128 n l1 l2 S = some (r0, S0)) (hQ : Q (some (.int r0)) (xst S0 G h)) : Ca (am_X xs L9) (d + 1) 128 [.ref 125, .int l1, .int l2] (xst S G h) Q := (G128l hQ n).1 l1 l2 0 0 S hf
def G130b0 (F : Nat → xS → Option (Int32 × xS)) (n : Nat)  (S : xS) : Option (Int32 × xS) := (if am_if .ne (S.1 125 4) = true then ((G128 n 0 (-1) S).bind (fun z2 => some (z2.1, z2.2))) else some (1, S))
def G130f : Nat → Nat → xS → Option (Int32 × xS)
  | 0, _, _ => none
  | n + 1, c, S => G130b0 (G130f n) n  S
theorem G130e0 (n : Nat)  (S : xS) : G130f (n + 1) 0  S = G130b0 (G130f n) n  S := rfl
def G130 (n : Nat)  (S : xS) : Option (Int32 × xS) := G130f n 0  S
set_option maxRecDepth 20000 in
set_option maxHeartbeats 4000000 in
theorem G130l {xs : Nat → Int32} {L9 d : Nat} {G : gS} {h : Nat → va_E} {Q : Option Value → AmH → Prop} {r0 : Int32} {S0 : xS} (hQ : Q (some (.int r0)) (xst S0 G h)) : ∀ n : Nat, (∀ (S : xS), G130f n 0  S = some (r0, S0) → Go (am_X xs L9) (d + 2) 130 0 [.ref 125] [] (xst S G h) Q) := by
  intro n
  induction n with
  | zero => exact fun  S hf => (by cases hf)
  | succ n ih =>
    intro  S hf
    rw [G130e0] at hf
    unfold G130b0 at hf
    refine r_aload_n fe_130_0 rfl ?_
    refine r_getf (v := .int (S.1 125 4)) fe_130_1 lf_3_24 (x_c xk_125 (by decide)) (x_lt xk_125 (by decide)) rfl ?_
    by_cases hb1 : am_if .ne (S.1 125 4) = true
    · rw [if_pos hb1] at hf
      refine r_if_t (t := 11) fe_130_4 (by decide) hb1 ?_
      refine r_aload_n fe_130_11 rfl ?_
      refine r_iconst (v := 0) fe_130_12 (by decide) ?_
      refine r_iconst (v := -1) fe_130_13 (by decide) ?_
      refine r_callV (as := [.int 0, .int (-1)]) (r := []) fe_130_14 lm_3_40 md_128 rfl rfl (Nat.le_of_ble_eq_true rfl) (x_c xk_125 (by decide)) (x_lt xk_125 (by decide)) (Nat.le_of_ble_eq_true rfl) (Nat.le_of_ble_eq_true rfl) ?_
      cases hc3 : G128 n 0 (-1) S with
      | none => rw [hc3] at hf; cases hf
      | some z2 =>
        rw [hc3, Option.bind_some] at hf
        refine G128c (r0 := z2.1) (S0 := z2.2)  (hf := hc3) ?_
        refine r_iret fe_130_17 ⟨rfl, by decide⟩ ?_
        exact dfin (P := fun r T => Q (some (.int r)) (xst T G h)) hf hQ
    · rw [if_neg hb1] at hf
      refine r_if_f (t := 11) fe_130_4 (by decide) (Bool.eq_false_iff.mpr hb1) ?_
      refine r_iconst (v := 1) fe_130_7 (by decide) ?_
      refine r_goto (t := 17) fe_130_8 (by decide) ?_
      refine r_iret fe_130_17 ⟨rfl, by decide⟩ ?_
      exact dfin (P := fun r T => Q (some (.int r)) (xst T G h)) hf hQ
theorem G130c {xs : Nat → Int32} {L9 d : Nat} {G : gS} {h : Nat → va_E} {n : Nat} {Q : Option Value → AmH → Prop} {r0 : Int32} {S0 S : xS}  (hf : G130 n  S = some (r0, S0)) (hQ : Q (some (.int r0)) (xst S0 G h)) : Ca (am_X xs L9) (d + 2) 130 [.ref 125] (xst S G h) Q := (G130l hQ n)  S hf
def G132b0 (F : Nat → Int32 → Int32 → Int32 → xS → Option (Int32 × xS)) (n : Nat) (l1 : Int32) (l2 : Int32) (l3 : Int32) (S : xS) : Option (Int32 × xS) := F 2 l1 l2 0 S
def G132b2 (F : Nat → Int32 → Int32 → Int32 → xS → Option (Int32 × xS)) (n : Nat) (l1 : Int32) (l2 : Int32) (l3 : Int32) (S : xS) : Option (Int32 × xS) := (if am_ic .ge l3 (S.1 125 4) = true then some ((-1), S) else ((G129 n l1 l2 l3 S).bind (fun z2 => (if am_if .eq z2.1 = true then F 2 l1 l2 (l3 + 1) z2.2 else (if ¬ ((((l1 ||| (1 <<< (l3 &&& 31))) * 8) + l3) < 0 ∨ 2048 ≤ ((((l1 ||| (1 <<< (l3 &&& 31))) * 8) + l3)).toNatClampNeg) then (if am_if .le (z2.2.2.1 129 (Int32.toNatClampNeg (((l1 ||| (1 <<< (l3 &&& 31))) * 8) + l3))) = true then F 2 l1 l2 (l3 + 1) z2.2 else some (l3, z2.2)) else none)))))
def G132f : Nat → Nat → Int32 → Int32 → Int32 → xS → Option (Int32 × xS)
  | 0, _, _, _, _, _ => none
  | n + 1, c, l1, l2, l3, S => if c = 0 then G132b0 (G132f n) n l1 l2 l3 S else G132b2 (G132f n) n l1 l2 l3 S
theorem G132e0 (n : Nat) (l1 : Int32) (l2 : Int32) (l3 : Int32) (S : xS) : G132f (n + 1) 0 l1 l2 l3 S = G132b0 (G132f n) n l1 l2 l3 S := if_pos rfl
theorem G132e2 (n : Nat) (l1 : Int32) (l2 : Int32) (l3 : Int32) (S : xS) : G132f (n + 1) 2 l1 l2 l3 S = G132b2 (G132f n) n l1 l2 l3 S := if_neg (by decide)
def G132 (n : Nat) (l1 : Int32) (l2 : Int32) (S : xS) : Option (Int32 × xS) := G132f n 0 l1 l2 0 S
set_option maxRecDepth 20000 in
set_option maxHeartbeats 4000000 in
theorem G132l {xs : Nat → Int32} {L9 d : Nat} {G : gS} {h : Nat → va_E} {Q : Option Value → AmH → Prop} {r0 : Int32} {S0 : xS} (hQ : Q (some (.int r0)) (xst S0 G h)) : ∀ n : Nat, (∀ (l1 : Int32) (l2 : Int32) (l3 : Int32) (S : xS), G132f n 0 l1 l2 l3 S = some (r0, S0) → Go (am_X xs L9) (d + 1) 132 0 [.ref 125, .int l1, .int l2, .float 0] [] (xst S G h) Q) ∧ (∀ (l1 : Int32) (l2 : Int32) (l3 : Int32) (S : xS), G132f n 2 l1 l2 l3 S = some (r0, S0) → Go (am_X xs L9) (d + 1) 132 2 [.ref 125, .int l1, .int l2, .int l3] [] (xst S G h) Q) := by
  intro n
  induction n with
  | zero => exact ⟨fun l1 l2 l3 S hf => (by cases hf), fun l1 l2 l3 S hf => (by cases hf)⟩
  | succ n ih =>
    refine ⟨?_, ?_⟩
    · intro l1 l2 l3 S hf
      rw [G132e0] at hf
      unfold G132b0 at hf
      refine r_iconst (v := 0) fe_132_0 (by decide) ?_
      refine r_istore_n fe_132_1 (Nat.le_of_ble_eq_true rfl) rfl ?_
      refine go_weak (L0 := [.ref 125, .int l1, .int l2, .int 0]) (lwk_c (Or.inl rfl) (lwk_c (Or.inl rfl) (lwk_c (Or.inl rfl) (lwk_c (Or.inl rfl) (lwk_rf []))))) ?_
      exact ih.2 l1 l2 0 S hf
    · intro l1 l2 l3 S hf
      rw [G132e2] at hf
      unfold G132b2 at hf
      refine r_iload_n fe_132_2 rfl ?_
      refine r_aload_n fe_132_3 rfl ?_
      refine r_getf (v := .int (S.1 125 4)) fe_132_4 lf_3_24 (x_c xk_125 (by decide)) (x_lt xk_125 (by decide)) rfl ?_
      by_cases hb1 : am_ic .ge l3 (S.1 125 4) = true
      · rw [if_pos hb1] at hf
        refine r_ic_t (t := 46) fe_132_7 (by decide) hb1 ?_
        refine r_iconst (v := -1) fe_132_46 (by decide) ?_
        refine r_iret fe_132_47 ⟨rfl, by decide⟩ ?_
        exact dfin (P := fun r T => Q (some (.int r)) (xst T G h)) hf hQ
      · rw [if_neg hb1] at hf
        refine r_ic_f (t := 46) fe_132_7 (by decide) (Bool.eq_false_iff.mpr hb1) ?_
        refine r_aload_n fe_132_10 rfl ?_
        refine r_iload_n fe_132_11 rfl ?_
        refine r_iload_n fe_132_12 rfl ?_
        refine r_iload_n fe_132_13 rfl ?_
        refine r_callV (as := [.int l1, .int l2, .int l3]) (r := []) fe_132_14 lm_3_44 md_129 rfl rfl (Nat.le_of_ble_eq_true rfl) (x_c xk_125 (by decide)) (x_lt xk_125 (by decide)) (Nat.le_of_ble_eq_true rfl) (Nat.le_of_ble_eq_true rfl) ?_
        cases hc3 : G129 n l1 l2 l3 S with
        | none => rw [hc3] at hf; cases hf
        | some z2 =>
          rw [hc3, Option.bind_some] at hf
          refine G129c (r0 := z2.1) (S0 := z2.2)  (hf := hc3) ?_
          by_cases hb4 : am_if .eq z2.1 = true
          · rw [if_pos hb4] at hf
            refine r_if_t (t := 40) fe_132_17 (by decide) hb4 ?_
            refine r_iinc (v := (l3 + 1)) fe_132_40 rfl rfl rfl ?_
            refine r_goto (t := 2) fe_132_43 (by decide) ?_
            refine go_weak (L0 := [.ref 125, .int l1, .int l2, .int (l3 + 1)]) (lwk_c (Or.inl rfl) (lwk_c (Or.inl rfl) (lwk_c (Or.inl rfl) (lwk_c (Or.inl rfl) (lwk_rf []))))) ?_
            exact ih.2 l1 l2 (l3 + 1) z2.2 hf
          · rw [if_neg hb4] at hf
            refine r_if_f (t := 40) fe_132_17 (by decide) (Bool.eq_false_iff.mpr hb4) ?_
            refine r_aload_n fe_132_20 rfl ?_
            refine r_getf (v := .ref 129) fe_132_21 lf_3_21 (x_c xk_125 (by decide)) (x_lt xk_125 (by decide)) rfl ?_
            refine r_iload_n fe_132_24 rfl ?_
            refine r_iconst (v := 1) fe_132_25 (by decide) ?_
            refine r_iload_n fe_132_26 rfl ?_
            refine r_ishl (v := (1 <<< (l3 &&& 31))) fe_132_27 rfl ?_
            refine r_ior (v := (l1 ||| (1 <<< (l3 &&& 31)))) fe_132_28 rfl ?_
            refine r_bipush (v := 8) fe_132_29 (by decide) ?_
            refine r_imul (v := ((l1 ||| (1 <<< (l3 &&& 31))) * 8)) fe_132_31 rfl ?_
            refine r_iload_n fe_132_32 rfl ?_
            refine r_iadd (v := (((l1 ||| (1 <<< (l3 &&& 31))) * 8) + l3)) fe_132_33 rfl ?_
            by_cases hg5 : ¬ ((((l1 ||| (1 <<< (l3 &&& 31))) * 8) + l3) < 0 ∨ 2048 ≤ ((((l1 ||| (1 <<< (l3 &&& 31))) * 8) + l3)).toNatClampNeg)
            rotate_left
            · rw [if_neg hg5] at hf; cases hf
            rw [if_pos hg5] at hf
            refine r_iald (j := (Int32.toNatClampNeg (((l1 ||| (1 <<< (l3 &&& 31))) * 8) + l3))) (v := z2.2.2.1 129 (Int32.toNatClampNeg (((l1 ||| (1 <<< (l3 &&& 31))) * 8) + l3))) fe_132_34 (x_c xk_129 (by decide)) (x_lt xk_129 (by decide)) (fun z => hg5 (Or.inl z)) rfl (fun z => hg5 (Or.inr z)) rfl ?_
            by_cases hb6 : am_if .le (z2.2.2.1 129 (Int32.toNatClampNeg (((l1 ||| (1 <<< (l3 &&& 31))) * 8) + l3))) = true
            · rw [if_pos hb6] at hf
              refine r_if_t (t := 40) fe_132_35 (by decide) hb6 ?_
              refine r_iinc (v := (l3 + 1)) fe_132_40 rfl rfl rfl ?_
              refine r_goto (t := 2) fe_132_43 (by decide) ?_
              refine go_weak (L0 := [.ref 125, .int l1, .int l2, .int (l3 + 1)]) (lwk_c (Or.inl rfl) (lwk_c (Or.inl rfl) (lwk_c (Or.inl rfl) (lwk_c (Or.inl rfl) (lwk_rf []))))) ?_
              exact ih.2 l1 l2 (l3 + 1) z2.2 hf
            · rw [if_neg hb6] at hf
              refine r_if_f (t := 40) fe_132_35 (by decide) (Bool.eq_false_iff.mpr hb6) ?_
              refine r_iload_n fe_132_38 rfl ?_
              refine r_iret fe_132_39 ⟨rfl, by decide⟩ ?_
              exact dfin (P := fun r T => Q (some (.int r)) (xst T G h)) hf hQ
theorem G132c {xs : Nat → Int32} {L9 d : Nat} {G : gS} {h : Nat → va_E} {n : Nat} {Q : Option Value → AmH → Prop} {r0 : Int32} {S0 S : xS} {l1 : Int32} {l2 : Int32} (hf : G132 n l1 l2 S = some (r0, S0)) (hQ : Q (some (.int r0)) (xst S0 G h)) : Ca (am_X xs L9) (d + 1) 132 [.ref 125, .int l1, .int l2] (xst S G h) Q := (G132l hQ n).1 l1 l2 0 S hf
def G131b0 (F : Nat → Int32 → Int32 → Int32 → Int32 → xS → Option (Int32 × xS)) (n : Nat) (l1 : Int32) (l2 : Int32) (l3 : Int32) (l4 : Int32) (S : xS) : Option (Int32 × xS) := (if am_ic .lt l1 (S.1 125 4) = true then F 17 l1 0 (-1) 0 S else some ((-1), S))
def G131b17 (F : Nat → Int32 → Int32 → Int32 → Int32 → xS → Option (Int32 × xS)) (n : Nat) (l1 : Int32) (l2 : Int32) (l3 : Int32) (l4 : Int32) (S : xS) : Option (Int32 × xS) := (if am_ic .gt l4 l1 = true then (if am_if .ge l3 = true then (if ¬ (l3 < 0 ∨ 8 ≤ (l3).toNatClampNeg) then some ((S.2.1 126 (Int32.toNatClampNeg l3)), S) else none) else some ((-1), S)) else ((G132 n l2 l3 S).bind (fun z5 => (if am_if .ge z5.1 = true then F 17 l1 (l2 ||| (1 <<< (z5.1 &&& 31))) z5.1 (l4 + 1) z5.2 else some ((-1), z5.2)))))
def G131f : Nat → Nat → Int32 → Int32 → Int32 → Int32 → xS → Option (Int32 × xS)
  | 0, _, _, _, _, _, _ => none
  | n + 1, c, l1, l2, l3, l4, S => if c = 0 then G131b0 (G131f n) n l1 l2 l3 l4 S else G131b17 (G131f n) n l1 l2 l3 l4 S
theorem G131e0 (n : Nat) (l1 : Int32) (l2 : Int32) (l3 : Int32) (l4 : Int32) (S : xS) : G131f (n + 1) 0 l1 l2 l3 l4 S = G131b0 (G131f n) n l1 l2 l3 l4 S := if_pos rfl
theorem G131e17 (n : Nat) (l1 : Int32) (l2 : Int32) (l3 : Int32) (l4 : Int32) (S : xS) : G131f (n + 1) 17 l1 l2 l3 l4 S = G131b17 (G131f n) n l1 l2 l3 l4 S := if_neg (by decide)
def G131 (n : Nat) (l1 : Int32) (S : xS) : Option (Int32 × xS) := G131f n 0 l1 0 0 0 S
set_option maxRecDepth 20000 in
set_option maxHeartbeats 4000000 in
theorem G131l {xs : Nat → Int32} {L9 d : Nat} {G : gS} {h : Nat → va_E} {Q : Option Value → AmH → Prop} {r0 : Int32} {S0 : xS} (hQ : Q (some (.int r0)) (xst S0 G h)) : ∀ n : Nat, (∀ (l1 : Int32) (l2 : Int32) (l3 : Int32) (l4 : Int32) (S : xS), G131f n 0 l1 l2 l3 l4 S = some (r0, S0) → Go (am_X xs L9) (d + 2) 131 0 [.ref 125, .int l1, .float 0, .float 0, .float 0] [] (xst S G h) Q) ∧ (∀ (l1 : Int32) (l2 : Int32) (l3 : Int32) (l4 : Int32) (S : xS), G131f n 17 l1 l2 l3 l4 S = some (r0, S0) → Go (am_X xs L9) (d + 2) 131 17 [.ref 125, .int l1, .int l2, .int l3, .int l4] [] (xst S G h) Q) := by
  intro n
  induction n with
  | zero => exact ⟨fun l1 l2 l3 l4 S hf => (by cases hf), fun l1 l2 l3 l4 S hf => (by cases hf)⟩
  | succ n ih =>
    refine ⟨?_, ?_⟩
    · intro l1 l2 l3 l4 S hf
      rw [G131e0] at hf
      unfold G131b0 at hf
      refine r_iload_n fe_131_0 rfl ?_
      refine r_aload_n fe_131_1 rfl ?_
      refine r_getf (v := .int (S.1 125 4)) fe_131_2 lf_3_24 (x_c xk_125 (by decide)) (x_lt xk_125 (by decide)) rfl ?_
      by_cases hb1 : am_ic .lt l1 (S.1 125 4) = true
      · rw [if_pos hb1] at hf
        refine r_ic_t (t := 10) fe_131_5 (by decide) hb1 ?_
        refine r_iconst (v := 0) fe_131_10 (by decide) ?_
        refine r_istore_n fe_131_11 (Nat.le_of_ble_eq_true rfl) rfl ?_
        refine r_iconst (v := -1) fe_131_12 (by decide) ?_
        refine r_istore_n fe_131_13 (Nat.le_of_ble_eq_true rfl) rfl ?_
        refine r_iconst (v := 0) fe_131_14 (by decide) ?_
        refine r_istore fe_131_15 (Nat.le_of_ble_eq_true rfl) rfl ?_
        refine go_weak (L0 := [.ref 125, .int l1, .int 0, .int (-1), .int 0]) (lwk_c (Or.inl rfl) (lwk_c (Or.inl rfl) (lwk_c (Or.inl rfl) (lwk_c (Or.inl rfl) (lwk_c (Or.inl rfl) (lwk_rf [])))))) ?_
        exact ih.2 l1 0 (-1) 0 S hf
      · rw [if_neg hb1] at hf
        refine r_ic_f (t := 10) fe_131_5 (by decide) (Bool.eq_false_iff.mpr hb1) ?_
        refine r_iconst (v := -1) fe_131_8 (by decide) ?_
        refine r_iret fe_131_9 ⟨rfl, by decide⟩ ?_
        exact dfin (P := fun r T => Q (some (.int r)) (xst T G h)) hf hQ
    · intro l1 l2 l3 l4 S hf
      rw [G131e17] at hf
      unfold G131b17 at hf
      refine r_iload fe_131_17 rfl ?_
      refine r_iload_n fe_131_19 rfl ?_
      by_cases hb2 : am_ic .gt l4 l1 = true
      · rw [if_pos hb2] at hf
        refine r_ic_t (t := 48) fe_131_20 (by decide) hb2 ?_
        refine r_iload_n fe_131_48 rfl ?_
        by_cases hb3 : am_if .ge l3 = true
        · rw [if_pos hb3] at hf
          refine r_if_t (t := 56) fe_131_49 (by decide) hb3 ?_
          refine r_aload_n fe_131_56 rfl ?_
          refine r_getf (v := .ref 126) fe_131_57 lf_3_9 (x_c xk_125 (by decide)) (x_lt xk_125 (by decide)) rfl ?_
          refine r_iload_n fe_131_60 rfl ?_
          by_cases hg4 : ¬ (l3 < 0 ∨ 8 ≤ (l3).toNatClampNeg)
          rotate_left
          · rw [if_neg hg4] at hf; cases hf
          rw [if_pos hg4] at hf
          refine r_iald (j := (Int32.toNatClampNeg l3)) (v := S.2.1 126 (Int32.toNatClampNeg l3)) fe_131_61 (x_c xk_126 (by decide)) (x_lt xk_126 (by decide)) (fun z => hg4 (Or.inl z)) rfl (fun z => hg4 (Or.inr z)) rfl ?_
          refine r_iret fe_131_62 ⟨rfl, by decide⟩ ?_
          exact dfin (P := fun r T => Q (some (.int r)) (xst T G h)) hf hQ
        · rw [if_neg hb3] at hf
          refine r_if_f (t := 56) fe_131_49 (by decide) (Bool.eq_false_iff.mpr hb3) ?_
          refine r_iconst (v := -1) fe_131_52 (by decide) ?_
          refine r_goto (t := 62) fe_131_53 (by decide) ?_
          refine r_iret fe_131_62 ⟨rfl, by decide⟩ ?_
          exact dfin (P := fun r T => Q (some (.int r)) (xst T G h)) hf hQ
      · rw [if_neg hb2] at hf
        refine r_ic_f (t := 48) fe_131_20 (by decide) (Bool.eq_false_iff.mpr hb2) ?_
        refine r_aload_n fe_131_23 rfl ?_
        refine r_iload_n fe_131_24 rfl ?_
        refine r_iload_n fe_131_25 rfl ?_
        refine r_callV (as := [.int l2, .int l3]) (r := []) fe_131_26 lm_3_48 md_132 rfl rfl (Nat.le_of_ble_eq_true rfl) (x_c xk_125 (by decide)) (x_lt xk_125 (by decide)) (Nat.le_of_ble_eq_true rfl) (Nat.le_of_ble_eq_true rfl) ?_
        cases hc6 : G132 n l2 l3 S with
        | none => rw [hc6] at hf; cases hf
        | some z5 =>
          rw [hc6, Option.bind_some] at hf
          refine G132c (r0 := z5.1) (S0 := z5.2)  (hf := hc6) ?_
          refine r_istore_n fe_131_29 (Nat.le_of_ble_eq_true rfl) rfl ?_
          refine r_iload_n fe_131_30 rfl ?_
          by_cases hb7 : am_if .ge z5.1 = true
          · rw [if_pos hb7] at hf
            refine r_if_t (t := 36) fe_131_31 (by decide) hb7 ?_
            refine r_iload_n fe_131_36 rfl ?_
            refine r_iconst (v := 1) fe_131_37 (by decide) ?_
            refine r_iload_n fe_131_38 rfl ?_
            refine r_ishl (v := (1 <<< (z5.1 &&& 31))) fe_131_39 rfl ?_
            refine r_ior (v := (l2 ||| (1 <<< (z5.1 &&& 31)))) fe_131_40 rfl ?_
            refine r_istore_n fe_131_41 (Nat.le_of_ble_eq_true rfl) rfl ?_
            refine r_iinc (v := (l4 + 1)) fe_131_42 rfl rfl rfl ?_
            refine r_goto (t := 17) fe_131_45 (by decide) ?_
            refine go_weak (L0 := [.ref 125, .int l1, .int (l2 ||| (1 <<< (z5.1 &&& 31))), .int z5.1, .int (l4 + 1)]) (lwk_c (Or.inl rfl) (lwk_c (Or.inl rfl) (lwk_c (Or.inl rfl) (lwk_c (Or.inl rfl) (lwk_c (Or.inl rfl) (lwk_rf [])))))) ?_
            exact ih.2 l1 (l2 ||| (1 <<< (z5.1 &&& 31))) z5.1 (l4 + 1) z5.2 hf
          · rw [if_neg hb7] at hf
            refine r_if_f (t := 36) fe_131_31 (by decide) (Bool.eq_false_iff.mpr hb7) ?_
            refine r_iconst (v := -1) fe_131_34 (by decide) ?_
            refine r_iret fe_131_35 ⟨rfl, by decide⟩ ?_
            exact dfin (P := fun r T => Q (some (.int r)) (xst T G h)) hf hQ
theorem G131c {xs : Nat → Int32} {L9 d : Nat} {G : gS} {h : Nat → va_E} {n : Nat} {Q : Option Value → AmH → Prop} {r0 : Int32} {S0 S : xS} {l1 : Int32} (hf : G131 n l1 S = some (r0, S0)) (hQ : Q (some (.int r0)) (xst S0 G h)) : Ca (am_X xs L9) (d + 2) 131 [.ref 125, .int l1] (xst S G h) Q := (G131l hQ n).1 l1 0 0 0 S hf
def G127b0 (l1 : Nat) (F : Nat → Int32 → Int32 → Int32 → Int32 → xS → Option (Unit × xS)) (n : Nat) (l2 : Int32) (l3 : Int32) (l4 : Int32) (l5 : Int32) (S : xS) : Option (Unit × xS) := F 7 l2 0 0 0 (x_sI S 125 4 0)
def G127b7 (l1 : Nat) (F : Nat → Int32 → Int32 → Int32 → Int32 → xS → Option (Unit × xS)) (n : Nat) (l2 : Int32) (l3 : Int32) (l4 : Int32) (l5 : Int32) (S : xS) : Option (Unit × xS) := (if am_ic .ge l3 (S.1 l1 1) = true then F 99 0 ((1 <<< ((S.1 125 4) &&& 31)) - 1) ((1 <<< ((S.1 125 4) &&& 31)) - 1) 0 S else (if am_ic .ne ((l2 >>> (l3 &&& 31)) &&& 1) 1 = true then F 7 l2 (l3 + 1) 0 0 S else (if am_ic .ge (S.1 125 4) 8 = true then F 7 l2 (l3 + 1) 0 0 S else (if ¬ ((S.1 125 4) < 0 ∨ 8 ≤ ((S.1 125 4)).toNatClampNeg) then ((some (x_sA S 126 (Int32.toNatClampNeg (S.1 125 4)) l3)).bind (fun S5 => ((G95 l1 n l3 S5).bind (fun z7 => (if ¬ ((S5.1 125 4) < 0 ∨ 8 ≤ ((S5.1 125 4)).toNatClampNeg) then ((some (x_sA z7.2 127 (Int32.toNatClampNeg (S5.1 125 4)) z7.1)).bind (fun S10 => ((G94 l1 n l3 S10).bind (fun z12 => (if ¬ ((S10.1 125 4) < 0 ∨ 8 ≤ ((S10.1 125 4)).toNatClampNeg) then ((some (x_sA z12.2 128 (Int32.toNatClampNeg (S10.1 125 4)) z12.1)).bind (fun S15 => F 7 l2 (l3 + 1) 0 0 (x_sI S15 125 4 ((S15.1 125 4) + 1)))) else none))))) else none))))) else none))))
def G127b99 (l1 : Nat) (F : Nat → Int32 → Int32 → Int32 → Int32 → xS → Option (Unit × xS)) (n : Nat) (l2 : Int32) (l3 : Int32) (l4 : Int32) (l5 : Int32) (S : xS) : Option (Unit × xS) := (if am_if .le l4 = true then some ((), S) else F 107 0 l3 l4 0 S)
def G127b107 (l1 : Nat) (F : Nat → Int32 → Int32 → Int32 → Int32 → xS → Option (Unit × xS)) (n : Nat) (l2 : Int32) (l3 : Int32) (l4 : Int32) (l5 : Int32) (S : xS) : Option (Unit × xS) := (if am_ic .ge l5 (S.1 125 4) = true then F 99 0 l3 (l4 + (-1)) 0 S else (if am_ic .ne ((l4 >>> (l5 &&& 31)) &&& 1) 1 = true then F 107 0 l3 l4 (l5 + 1) S else (if am_ic .ne l4 l3 = true then ((G128 n l4 l5 S).bind (fun z21 => (if ¬ (((l4 * 8) + l5) < 0 ∨ 2048 ≤ (((l4 * 8) + l5)).toNatClampNeg) then ((some (x_sA z21.2 129 (Int32.toNatClampNeg ((l4 * 8) + l5)) z21.1)).bind (fun S24 => F 107 0 l3 l4 (l5 + 1) S24)) else none))) else (if ¬ (((l4 * 8) + l5) < 0 ∨ 2048 ≤ (((l4 * 8) + l5)).toNatClampNeg) then ((some (x_sA S 129 (Int32.toNatClampNeg ((l4 * 8) + l5)) 1)).bind (fun S27 => F 107 0 l3 l4 (l5 + 1) S27)) else none))))
def G127f (l1 : Nat) : Nat → Nat → Int32 → Int32 → Int32 → Int32 → xS → Option (Unit × xS)
  | 0, _, _, _, _, _, _ => none
  | n + 1, c, l2, l3, l4, l5, S => if c = 0 then G127b0 l1 (G127f l1 n) n l2 l3 l4 l5 S else if c = 7 then G127b7 l1 (G127f l1 n) n l2 l3 l4 l5 S else if c = 99 then G127b99 l1 (G127f l1 n) n l2 l3 l4 l5 S else G127b107 l1 (G127f l1 n) n l2 l3 l4 l5 S
theorem G127e0 (l1 : Nat) (n : Nat) (l2 : Int32) (l3 : Int32) (l4 : Int32) (l5 : Int32) (S : xS) : G127f l1 (n + 1) 0 l2 l3 l4 l5 S = G127b0 l1 (G127f l1 n) n l2 l3 l4 l5 S := if_pos rfl
theorem G127e7 (l1 : Nat) (n : Nat) (l2 : Int32) (l3 : Int32) (l4 : Int32) (l5 : Int32) (S : xS) : G127f l1 (n + 1) 7 l2 l3 l4 l5 S = G127b7 l1 (G127f l1 n) n l2 l3 l4 l5 S := (if_neg (by decide)).trans (if_pos rfl)
theorem G127e99 (l1 : Nat) (n : Nat) (l2 : Int32) (l3 : Int32) (l4 : Int32) (l5 : Int32) (S : xS) : G127f l1 (n + 1) 99 l2 l3 l4 l5 S = G127b99 l1 (G127f l1 n) n l2 l3 l4 l5 S := (if_neg (by decide)).trans ((if_neg (by decide)).trans (if_pos rfl))
theorem G127e107 (l1 : Nat) (n : Nat) (l2 : Int32) (l3 : Int32) (l4 : Int32) (l5 : Int32) (S : xS) : G127f l1 (n + 1) 107 l2 l3 l4 l5 S = G127b107 l1 (G127f l1 n) n l2 l3 l4 l5 S := (if_neg (by decide)).trans ((if_neg (by decide)).trans (if_neg (by decide)))
def G127 (l1 : Nat) (n : Nat) (l2 : Int32) (S : xS) : Option (Unit × xS) := G127f l1 n 0 l2 0 0 0 S
set_option maxRecDepth 20000 in
set_option maxHeartbeats 4000000 in
theorem G127l {xs : Nat → Int32} {L9 d : Nat} {G : gS} {h : Nat → va_E} {l1 : Nat} {Q : Option Value → AmH → Prop} {r0 : Unit} {S0 : xS} (h1 : wB G l1 = true) (hQ : Q none (xst S0 G h)) : ∀ n : Nat, (∀ (l2 : Int32) (l3 : Int32) (l4 : Int32) (l5 : Int32) (S : xS), G127f l1 n 0 l2 l3 l4 l5 S = some (r0, S0) → Go (am_X xs L9) (d + 2) 127 0 [.ref 125, .ref l1, .int l2, .float 0, .float 0, .float 0] [] (xst S G h) Q) ∧ (∀ (l2 : Int32) (l3 : Int32) (l4 : Int32) (l5 : Int32) (S : xS), G127f l1 n 7 l2 l3 l4 l5 S = some (r0, S0) → Go (am_X xs L9) (d + 2) 127 7 [.ref 125, .ref l1, .int l2, .int l3, .float 0, .float 0] [] (xst S G h) Q) ∧ (∀ (l2 : Int32) (l3 : Int32) (l4 : Int32) (l5 : Int32) (S : xS), G127f l1 n 99 l2 l3 l4 l5 S = some (r0, S0) → Go (am_X xs L9) (d + 2) 127 99 [.ref 125, .float 0, .float 0, .int l3, .int l4, .float 0] [] (xst S G h) Q) ∧ (∀ (l2 : Int32) (l3 : Int32) (l4 : Int32) (l5 : Int32) (S : xS), G127f l1 n 107 l2 l3 l4 l5 S = some (r0, S0) → Go (am_X xs L9) (d + 2) 127 107 [.ref 125, .float 0, .float 0, .int l3, .int l4, .int l5] [] (xst S G h) Q) := by
  intro n
  induction n with
  | zero => exact ⟨fun l2 l3 l4 l5 S hf => (by cases hf), fun l2 l3 l4 l5 S hf => (by cases hf), fun l2 l3 l4 l5 S hf => (by cases hf), fun l2 l3 l4 l5 S hf => (by cases hf)⟩
  | succ n ih =>
    refine ⟨?_, ?_, ?_, ?_⟩
    · intro l2 l3 l4 l5 S hf
      rw [G127e0] at hf
      unfold G127b0 at hf
      refine r_aload_n fe_127_0 rfl ?_
      refine r_iconst (v := 0) fe_127_1 (by decide) ?_
      refine r_putf fe_127_2 lf_3_24 (x_h xk_125 (by decide)) (x_lt xk_125 (by decide)) (by decide) (Nat.le_of_ble_eq_true rfl) rfl rfl (Or.inl rfl) ?_
      refine go_heap (x_uI (j := 4) (x := 0) xk_125 (by decide)) ?_
      refine r_iconst (v := 0) fe_127_5 (by decide) ?_
      refine r_istore_n fe_127_6 (Nat.le_of_ble_eq_true rfl) rfl ?_
      refine go_weak (L0 := [.ref 125, .ref l1, .int l2, .int 0, .float 0, .float 0]) (lwk_c (Or.inl rfl) (lwk_c (Or.inl rfl) (lwk_c (Or.inl rfl) (lwk_c (Or.inl rfl) (lwk_c (Or.inl rfl) (lwk_c (Or.inl rfl) (lwk_rf []))))))) ?_
      exact ih.2.1 l2 0 0 0 (x_sI S 125 4 0) hf
    · intro l2 l3 l4 l5 S hf
      rw [G127e7] at hf
      unfold G127b7 at hf
      refine r_iload_n fe_127_7 rfl ?_
      refine r_aload_n fe_127_8 rfl ?_
      refine r_getf (v := .int (S.1 l1 1)) fe_127_9 lf_3_28 (x_c (wk0 h1) (by decide)) (x_lt (wk0 h1) (by decide)) rfl ?_
      by_cases hb1 : am_ic .ge l3 (S.1 l1 1) = true
      · rw [if_pos hb1] at hf
        refine r_ic_t (t := 87) fe_127_12 (by decide) hb1 ?_
        refine r_iconst (v := 1) fe_127_87 (by decide) ?_
        refine r_aload_n fe_127_88 rfl ?_
        refine r_getf (v := .int (S.1 125 4)) fe_127_89 lf_3_24 (x_c xk_125 (by decide)) (x_lt xk_125 (by decide)) rfl ?_
        refine r_ishl (v := (1 <<< ((S.1 125 4) &&& 31))) fe_127_92 rfl ?_
        refine r_iconst (v := 1) fe_127_93 (by decide) ?_
        refine r_isub (v := ((1 <<< ((S.1 125 4) &&& 31)) - 1)) fe_127_94 rfl ?_
        refine r_istore_n fe_127_95 (Nat.le_of_ble_eq_true rfl) rfl ?_
        refine r_iload_n fe_127_96 rfl ?_
        refine r_istore fe_127_97 (Nat.le_of_ble_eq_true rfl) rfl ?_
        refine go_weak (L0 := [.ref 125, .float 0, .float 0, .int ((1 <<< ((S.1 125 4) &&& 31)) - 1), .int ((1 <<< ((S.1 125 4) &&& 31)) - 1), .float 0]) (lwk_c (Or.inl rfl) (lwk_c (Or.inr rfl) (lwk_c (Or.inr rfl) (lwk_c (Or.inl rfl) (lwk_c (Or.inl rfl) (lwk_c (Or.inl rfl) (lwk_rf []))))))) ?_
        exact ih.2.2.1 0 ((1 <<< ((S.1 125 4) &&& 31)) - 1) ((1 <<< ((S.1 125 4) &&& 31)) - 1) 0 S hf
      · rw [if_neg hb1] at hf
        refine r_ic_f (t := 87) fe_127_12 (by decide) (Bool.eq_false_iff.mpr hb1) ?_
        refine r_iload_n fe_127_15 rfl ?_
        refine r_iload_n fe_127_16 rfl ?_
        refine r_ishr (v := (l2 >>> (l3 &&& 31))) fe_127_17 rfl ?_
        refine r_iconst (v := 1) fe_127_18 (by decide) ?_
        refine r_iand (v := ((l2 >>> (l3 &&& 31)) &&& 1)) fe_127_19 rfl ?_
        refine r_iconst (v := 1) fe_127_20 (by decide) ?_
        by_cases hb2 : am_ic .ne ((l2 >>> (l3 &&& 31)) &&& 1) 1 = true
        · rw [if_pos hb2] at hf
          refine r_ic_t (t := 81) fe_127_21 (by decide) hb2 ?_
          refine r_iinc (v := (l3 + 1)) fe_127_81 rfl rfl rfl ?_
          refine r_goto (t := 7) fe_127_84 (by decide) ?_
          refine go_weak (L0 := [.ref 125, .ref l1, .int l2, .int (l3 + 1), .float 0, .float 0]) (lwk_c (Or.inl rfl) (lwk_c (Or.inl rfl) (lwk_c (Or.inl rfl) (lwk_c (Or.inl rfl) (lwk_c (Or.inl rfl) (lwk_c (Or.inl rfl) (lwk_rf []))))))) ?_
          exact ih.2.1 l2 (l3 + 1) 0 0 S hf
        · rw [if_neg hb2] at hf
          refine r_ic_f (t := 81) fe_127_21 (by decide) (Bool.eq_false_iff.mpr hb2) ?_
          refine r_aload_n fe_127_24 rfl ?_
          refine r_getf (v := .int (S.1 125 4)) fe_127_25 lf_3_24 (x_c xk_125 (by decide)) (x_lt xk_125 (by decide)) rfl ?_
          refine r_bipush (v := 8) fe_127_28 (by decide) ?_
          by_cases hb3 : am_ic .ge (S.1 125 4) 8 = true
          · rw [if_pos hb3] at hf
            refine r_ic_t (t := 81) fe_127_30 (by decide) hb3 ?_
            refine r_iinc (v := (l3 + 1)) fe_127_81 rfl rfl rfl ?_
            refine r_goto (t := 7) fe_127_84 (by decide) ?_
            refine go_weak (L0 := [.ref 125, .ref l1, .int l2, .int (l3 + 1), .float 0, .float 0]) (lwk_c (Or.inl rfl) (lwk_c (Or.inl rfl) (lwk_c (Or.inl rfl) (lwk_c (Or.inl rfl) (lwk_c (Or.inl rfl) (lwk_c (Or.inl rfl) (lwk_rf []))))))) ?_
            exact ih.2.1 l2 (l3 + 1) 0 0 S hf
          · rw [if_neg hb3] at hf
            refine r_ic_f (t := 81) fe_127_30 (by decide) (Bool.eq_false_iff.mpr hb3) ?_
            refine r_aload_n fe_127_33 rfl ?_
            refine r_getf (v := .ref 126) fe_127_34 lf_3_9 (x_c xk_125 (by decide)) (x_lt xk_125 (by decide)) rfl ?_
            refine r_aload_n fe_127_37 rfl ?_
            refine r_getf (v := .int (S.1 125 4)) fe_127_38 lf_3_24 (x_c xk_125 (by decide)) (x_lt xk_125 (by decide)) rfl ?_
            refine r_iload_n fe_127_41 rfl ?_
            by_cases hg4 : ¬ ((S.1 125 4) < 0 ∨ 8 ≤ ((S.1 125 4)).toNatClampNeg)
            rotate_left
            · rw [if_neg hg4] at hf; cases hf
            rw [if_pos hg4] at hf
            refine r_iast (j := (Int32.toNatClampNeg (S.1 125 4))) fe_127_42 (x_h xk_126 (by decide)) (x_lt xk_126 (by decide)) (by decide) (fun z => hg4 (Or.inl z)) rfl (fun z => hg4 (Or.inr z)) ?_
            obtain ⟨S5, e6, hf⟩ := dbnd hf
            refine go_heap (h2 := xst S5 G h) ((x_uA xk_126).trans (by rw [e6])) ?_
            refine r_aload_n fe_127_43 rfl ?_
            refine r_getf (v := .ref 127) fe_127_44 lf_3_15 (x_c xk_125 (by decide)) (x_lt xk_125 (by decide)) rfl ?_
            refine r_aload_n fe_127_47 rfl ?_
            refine r_getf (v := .int (S5.1 125 4)) fe_127_48 lf_3_24 (x_c xk_125 (by decide)) (x_lt xk_125 (by decide)) rfl ?_
            refine r_aload_n fe_127_51 rfl ?_
            refine r_iload_n fe_127_52 rfl ?_
            refine r_callV (as := [.int l3]) (r := [.int (S5.1 125 4), .ref 127]) fe_127_53 lm_3_33 md_95 rfl rfl (Nat.le_of_ble_eq_true rfl) (x_c (wk0 h1) (by decide)) (x_lt (wk0 h1) (by decide)) (Nat.le_of_ble_eq_true rfl) (Nat.le_of_ble_eq_true rfl) ?_
            cases hc8 : G95 l1 n l3 S5 with
            | none => rw [hc8] at hf; cases hf
            | some z7 =>
              rw [hc8, Option.bind_some] at hf
              refine G95c (r0 := z7.1) (S0 := z7.2) (h0 := h1) (hf := hc8) ?_
              by_cases hg9 : ¬ ((S5.1 125 4) < 0 ∨ 8 ≤ ((S5.1 125 4)).toNatClampNeg)
              rotate_left
              · rw [if_neg hg9] at hf; cases hf
              rw [if_pos hg9] at hf
              refine r_iast (j := (Int32.toNatClampNeg (S5.1 125 4))) fe_127_56 (x_h xk_127 (by decide)) (x_lt xk_127 (by decide)) (by decide) (fun z => hg9 (Or.inl z)) rfl (fun z => hg9 (Or.inr z)) ?_
              obtain ⟨S10, e11, hf⟩ := dbnd hf
              refine go_heap (h2 := xst S10 G h) ((x_uA xk_127).trans (by rw [e11])) ?_
              refine r_aload_n fe_127_57 rfl ?_
              refine r_getf (v := .ref 128) fe_127_58 lf_3_18 (x_c xk_125 (by decide)) (x_lt xk_125 (by decide)) rfl ?_
              refine r_aload_n fe_127_61 rfl ?_
              refine r_getf (v := .int (S10.1 125 4)) fe_127_62 lf_3_24 (x_c xk_125 (by decide)) (x_lt xk_125 (by decide)) rfl ?_
              refine r_aload_n fe_127_65 rfl ?_
              refine r_iload_n fe_127_66 rfl ?_
              refine r_callV (as := [.int l3]) (r := [.int (S10.1 125 4), .ref 128]) fe_127_67 lm_3_37 md_94 rfl rfl (Nat.le_of_ble_eq_true rfl) (x_c (wk0 h1) (by decide)) (x_lt (wk0 h1) (by decide)) (Nat.le_of_ble_eq_true rfl) (Nat.le_of_ble_eq_true rfl) ?_
              cases hc13 : G94 l1 n l3 S10 with
              | none => rw [hc13] at hf; cases hf
              | some z12 =>
                rw [hc13, Option.bind_some] at hf
                refine G94c (r0 := z12.1) (S0 := z12.2) (h0 := h1) (hf := hc13) ?_
                by_cases hg14 : ¬ ((S10.1 125 4) < 0 ∨ 8 ≤ ((S10.1 125 4)).toNatClampNeg)
                rotate_left
                · rw [if_neg hg14] at hf; cases hf
                rw [if_pos hg14] at hf
                refine r_iast (j := (Int32.toNatClampNeg (S10.1 125 4))) fe_127_70 (x_h xk_128 (by decide)) (x_lt xk_128 (by decide)) (by decide) (fun z => hg14 (Or.inl z)) rfl (fun z => hg14 (Or.inr z)) ?_
                obtain ⟨S15, e16, hf⟩ := dbnd hf
                refine go_heap (h2 := xst S15 G h) ((x_uA xk_128).trans (by rw [e16])) ?_
                refine r_aload_n fe_127_71 rfl ?_
                refine r_dup fe_127_72 rfl ?_
                refine r_getf (v := .int (S15.1 125 4)) fe_127_73 lf_3_24 (x_c xk_125 (by decide)) (x_lt xk_125 (by decide)) rfl ?_
                refine r_iconst (v := 1) fe_127_76 (by decide) ?_
                refine r_iadd (v := ((S15.1 125 4) + 1)) fe_127_77 rfl ?_
                refine r_putf fe_127_78 lf_3_24 (x_h xk_125 (by decide)) (x_lt xk_125 (by decide)) (by decide) (Nat.le_of_ble_eq_true rfl) rfl rfl (Or.inl rfl) ?_
                refine go_heap (x_uI (j := 4) (x := ((S15.1 125 4) + 1)) xk_125 (by decide)) ?_
                refine r_iinc (v := (l3 + 1)) fe_127_81 rfl rfl rfl ?_
                refine r_goto (t := 7) fe_127_84 (by decide) ?_
                refine go_weak (L0 := [.ref 125, .ref l1, .int l2, .int (l3 + 1), .float 0, .float 0]) (lwk_c (Or.inl rfl) (lwk_c (Or.inl rfl) (lwk_c (Or.inl rfl) (lwk_c (Or.inl rfl) (lwk_c (Or.inl rfl) (lwk_c (Or.inl rfl) (lwk_rf []))))))) ?_
                exact ih.2.1 l2 (l3 + 1) 0 0 (x_sI S15 125 4 ((S15.1 125 4) + 1)) hf
    · intro l2 l3 l4 l5 S hf
      rw [G127e99] at hf
      unfold G127b99 at hf
      refine r_iload fe_127_99 rfl ?_
      by_cases hb17 : am_if .le l4 = true
      · rw [if_pos hb17] at hf
        refine r_if_t (t := 170) fe_127_101 (by decide) hb17 ?_
        refine r_vret fe_127_170 ?_
        exact dfin (P := fun _ T => Q none (xst T G h)) hf hQ
      · rw [if_neg hb17] at hf
        refine r_if_f (t := 170) fe_127_101 (by decide) (Bool.eq_false_iff.mpr hb17) ?_
        refine r_iconst (v := 0) fe_127_104 (by decide) ?_
        refine r_istore fe_127_105 (Nat.le_of_ble_eq_true rfl) rfl ?_
        refine go_weak (L0 := [.ref 125, .float 0, .float 0, .int l3, .int l4, .int 0]) (lwk_c (Or.inl rfl) (lwk_c (Or.inl rfl) (lwk_c (Or.inl rfl) (lwk_c (Or.inl rfl) (lwk_c (Or.inl rfl) (lwk_c (Or.inl rfl) (lwk_rf []))))))) ?_
        exact ih.2.2.2 0 l3 l4 0 S hf
    · intro l2 l3 l4 l5 S hf
      rw [G127e107] at hf
      unfold G127b107 at hf
      refine r_iload fe_127_107 rfl ?_
      refine r_aload_n fe_127_109 rfl ?_
      refine r_getf (v := .int (S.1 125 4)) fe_127_110 lf_3_24 (x_c xk_125 (by decide)) (x_lt xk_125 (by decide)) rfl ?_
      by_cases hb18 : am_ic .ge l5 (S.1 125 4) = true
      · rw [if_pos hb18] at hf
        refine r_ic_t (t := 164) fe_127_113 (by decide) hb18 ?_
        refine r_iinc (v := (l4 + (-1))) fe_127_164 rfl rfl rfl ?_
        refine r_goto (t := 99) fe_127_167 (by decide) ?_
        refine go_weak (L0 := [.ref 125, .float 0, .float 0, .int l3, .int (l4 + (-1)), .float 0]) (lwk_c (Or.inl rfl) (lwk_c (Or.inl rfl) (lwk_c (Or.inl rfl) (lwk_c (Or.inl rfl) (lwk_c (Or.inl rfl) (lwk_c (Or.inr rfl) (lwk_rf []))))))) ?_
        exact ih.2.2.1 0 l3 (l4 + (-1)) 0 S hf
      · rw [if_neg hb18] at hf
        refine r_ic_f (t := 164) fe_127_113 (by decide) (Bool.eq_false_iff.mpr hb18) ?_
        refine r_iload fe_127_116 rfl ?_
        refine r_iload fe_127_118 rfl ?_
        refine r_ishr (v := (l4 >>> (l5 &&& 31))) fe_127_120 rfl ?_
        refine r_iconst (v := 1) fe_127_121 (by decide) ?_
        refine r_iand (v := ((l4 >>> (l5 &&& 31)) &&& 1)) fe_127_122 rfl ?_
        refine r_iconst (v := 1) fe_127_123 (by decide) ?_
        by_cases hb19 : am_ic .ne ((l4 >>> (l5 &&& 31)) &&& 1) 1 = true
        · rw [if_pos hb19] at hf
          refine r_ic_t (t := 158) fe_127_124 (by decide) hb19 ?_
          refine r_iinc (v := (l5 + 1)) fe_127_158 rfl rfl rfl ?_
          refine r_goto (t := 107) fe_127_161 (by decide) ?_
          refine go_weak (L0 := [.ref 125, .float 0, .float 0, .int l3, .int l4, .int (l5 + 1)]) (lwk_c (Or.inl rfl) (lwk_c (Or.inl rfl) (lwk_c (Or.inl rfl) (lwk_c (Or.inl rfl) (lwk_c (Or.inl rfl) (lwk_c (Or.inl rfl) (lwk_rf []))))))) ?_
          exact ih.2.2.2 0 l3 l4 (l5 + 1) S hf
        · rw [if_neg hb19] at hf
          refine r_ic_f (t := 158) fe_127_124 (by decide) (Bool.eq_false_iff.mpr hb19) ?_
          refine r_aload_n fe_127_127 rfl ?_
          refine r_getf (v := .ref 129) fe_127_128 lf_3_21 (x_c xk_125 (by decide)) (x_lt xk_125 (by decide)) rfl ?_
          refine r_iload fe_127_131 rfl ?_
          refine r_bipush (v := 8) fe_127_133 (by decide) ?_
          refine r_imul (v := (l4 * 8)) fe_127_135 rfl ?_
          refine r_iload fe_127_136 rfl ?_
          refine r_iadd (v := ((l4 * 8) + l5)) fe_127_138 rfl ?_
          refine r_iload fe_127_139 rfl ?_
          refine r_iload_n fe_127_141 rfl ?_
          by_cases hb20 : am_ic .ne l4 l3 = true
          · rw [if_pos hb20] at hf
            refine r_ic_t (t := 149) fe_127_142 (by decide) hb20 ?_
            refine r_aload_n fe_127_149 rfl ?_
            refine r_iload fe_127_150 rfl ?_
            refine r_iload fe_127_152 rfl ?_
            refine r_callV (as := [.int l4, .int l5]) (r := [.int ((l4 * 8) + l5), .ref 129]) fe_127_154 lm_3_40 md_128 rfl rfl (Nat.le_of_ble_eq_true rfl) (x_c xk_125 (by decide)) (x_lt xk_125 (by decide)) (Nat.le_of_ble_eq_true rfl) (Nat.le_of_ble_eq_true rfl) ?_
            cases hc22 : G128 n l4 l5 S with
            | none => rw [hc22] at hf; cases hf
            | some z21 =>
              rw [hc22, Option.bind_some] at hf
              refine G128c (r0 := z21.1) (S0 := z21.2)  (hf := hc22) ?_
              by_cases hg23 : ¬ (((l4 * 8) + l5) < 0 ∨ 2048 ≤ (((l4 * 8) + l5)).toNatClampNeg)
              rotate_left
              · rw [if_neg hg23] at hf; cases hf
              rw [if_pos hg23] at hf
              refine r_iast (j := (Int32.toNatClampNeg ((l4 * 8) + l5))) fe_127_157 (x_h xk_129 (by decide)) (x_lt xk_129 (by decide)) (by decide) (fun z => hg23 (Or.inl z)) rfl (fun z => hg23 (Or.inr z)) ?_
              obtain ⟨S24, e25, hf⟩ := dbnd hf
              refine go_heap (h2 := xst S24 G h) ((x_uA xk_129).trans (by rw [e25])) ?_
              refine r_iinc (v := (l5 + 1)) fe_127_158 rfl rfl rfl ?_
              refine r_goto (t := 107) fe_127_161 (by decide) ?_
              refine go_weak (L0 := [.ref 125, .float 0, .float 0, .int l3, .int l4, .int (l5 + 1)]) (lwk_c (Or.inl rfl) (lwk_c (Or.inl rfl) (lwk_c (Or.inl rfl) (lwk_c (Or.inl rfl) (lwk_c (Or.inl rfl) (lwk_c (Or.inl rfl) (lwk_rf []))))))) ?_
              exact ih.2.2.2 0 l3 l4 (l5 + 1) S24 hf
          · rw [if_neg hb20] at hf
            refine r_ic_f (t := 149) fe_127_142 (by decide) (Bool.eq_false_iff.mpr hb20) ?_
            refine r_iconst (v := 1) fe_127_145 (by decide) ?_
            refine r_goto (t := 157) fe_127_146 (by decide) ?_
            by_cases hg26 : ¬ (((l4 * 8) + l5) < 0 ∨ 2048 ≤ (((l4 * 8) + l5)).toNatClampNeg)
            rotate_left
            · rw [if_neg hg26] at hf; cases hf
            rw [if_pos hg26] at hf
            refine r_iast (j := (Int32.toNatClampNeg ((l4 * 8) + l5))) fe_127_157 (x_h xk_129 (by decide)) (x_lt xk_129 (by decide)) (by decide) (fun z => hg26 (Or.inl z)) rfl (fun z => hg26 (Or.inr z)) ?_
            obtain ⟨S27, e28, hf⟩ := dbnd hf
            refine go_heap (h2 := xst S27 G h) ((x_uA xk_129).trans (by rw [e28])) ?_
            refine r_iinc (v := (l5 + 1)) fe_127_158 rfl rfl rfl ?_
            refine r_goto (t := 107) fe_127_161 (by decide) ?_
            refine go_weak (L0 := [.ref 125, .float 0, .float 0, .int l3, .int l4, .int (l5 + 1)]) (lwk_c (Or.inl rfl) (lwk_c (Or.inl rfl) (lwk_c (Or.inl rfl) (lwk_c (Or.inl rfl) (lwk_c (Or.inl rfl) (lwk_c (Or.inl rfl) (lwk_rf []))))))) ?_
            exact ih.2.2.2 0 l3 l4 (l5 + 1) S27 hf
theorem G127c {xs : Nat → Int32} {L9 d : Nat} {G : gS} {h : Nat → va_E} {l1 : Nat} {n : Nat} {Q : Option Value → AmH → Prop} {r0 : Unit} {S0 S : xS} {l2 : Int32} (h1 : wB G l1 = true) (hf : G127 l1 n l2 S = some (r0, S0)) (hQ : Q none (xst S0 G h)) : Ca (am_X xs L9) (d + 2) 127 [.ref 125, .ref l1, .int l2] (xst S G h) Q := (G127l h1 hQ n).1 l2 0 0 0 S hf
def G126b0 (F : Nat → Int32 → Int32 → xS → Option (Int32 × xS)) (n : Nat) (l1 : Int32) (l2 : Int32) (S : xS) : Option (Int32 × xS) := ((G82 n  S).bind (fun z1 => (if am_if .eq z1.1 = true then some ((-1), z1.2) else (if am_if .lt l2 = true then some ((-1), z1.2) else (if am_ic .le l2 12 = true then (if am_if .ne (l1 &&& (((1 <<< ((z1.2.1 95 1) &&& 31)) - 1) ^^^ (-1))) = true then some ((-1), z1.2) else ((G92 n l1 z1.2).bind (fun z7 => (if am_ic .le z7.1 8 = true then ((G127 95 n l1 z7.2).bind (fun z10 => (if am_if .ne l2 = true then ((G131 n (l2 - 1) z10.2).bind (fun z13 => (if am_if .ge z13.1 = true then some (z13.1, z13.2) else some ((-2), z13.2)))) else ((G130 n  z10.2).bind (fun z16 => some (z16.1, z16.2)))))) else some ((-1), z7.2))))) else some ((-1), z1.2))))))
def G126f : Nat → Nat → Int32 → Int32 → xS → Option (Int32 × xS)
  | 0, _, _, _, _ => none
  | n + 1, c, l1, l2, S => G126b0 (G126f n) n l1 l2 S
theorem G126e0 (n : Nat) (l1 : Int32) (l2 : Int32) (S : xS) : G126f (n + 1) 0 l1 l2 S = G126b0 (G126f n) n l1 l2 S := rfl
def G126 (n : Nat) (l1 : Int32) (l2 : Int32) (S : xS) : Option (Int32 × xS) := G126f n 0 l1 l2 S
set_option maxRecDepth 20000 in
set_option maxHeartbeats 4000000 in
theorem G126l {xs : Nat → Int32} {L9 d : Nat} {G : gS} {h : Nat → va_E} {Q : Option Value → AmH → Prop} {r0 : Int32} {S0 : xS} (hQ : Q (some (.int r0)) (xst S0 G h)) : ∀ n : Nat, (∀ (l1 : Int32) (l2 : Int32) (S : xS), G126f n 0 l1 l2 S = some (r0, S0) → Go (am_X xs L9) (d + 3) 126 0 [.ref 64, .int l1, .int l2, .float 0, .float 0] [] (xst S G h) Q) := by
  intro n
  induction n with
  | zero => exact fun l1 l2 S hf => (by cases hf)
  | succ n ih =>
    intro l1 l2 S hf
    rw [G126e0] at hf
    unfold G126b0 at hf
    refine r_aload_n fe_126_0 rfl ?_
    refine r_callV (as := []) (r := []) fe_126_1 lm_11_169 md_82 rfl rfl (Nat.le_of_ble_eq_true rfl) (x_c xk_64 (by decide)) (x_lt xk_64 (by decide)) (Nat.le_of_ble_eq_true rfl) (Nat.le_of_ble_eq_true rfl) ?_
    cases hc2 : G82 n  S with
    | none => rw [hc2] at hf; cases hf
    | some z1 =>
      rw [hc2, Option.bind_some] at hf
      refine G82c (r0 := z1.1) (S0 := z1.2)  (hf := hc2) ?_
      by_cases hb3 : am_if .eq z1.1 = true
      · rw [if_pos hb3] at hf
        refine r_if_t (t := 17) fe_126_4 (by decide) hb3 ?_
        refine r_iconst (v := -1) fe_126_17 (by decide) ?_
        refine r_iret fe_126_18 ⟨rfl, by decide⟩ ?_
        exact dfin (P := fun r T => Q (some (.int r)) (xst T G h)) hf hQ
      · rw [if_neg hb3] at hf
        refine r_if_f (t := 17) fe_126_4 (by decide) (Bool.eq_false_iff.mpr hb3) ?_
        refine r_iload_n fe_126_7 rfl ?_
        by_cases hb4 : am_if .lt l2 = true
        · rw [if_pos hb4] at hf
          refine r_if_t (t := 17) fe_126_8 (by decide) hb4 ?_
          refine r_iconst (v := -1) fe_126_17 (by decide) ?_
          refine r_iret fe_126_18 ⟨rfl, by decide⟩ ?_
          exact dfin (P := fun r T => Q (some (.int r)) (xst T G h)) hf hQ
        · rw [if_neg hb4] at hf
          refine r_if_f (t := 17) fe_126_8 (by decide) (Bool.eq_false_iff.mpr hb4) ?_
          refine r_iload_n fe_126_11 rfl ?_
          refine r_bipush (v := 12) fe_126_12 (by decide) ?_
          by_cases hb5 : am_ic .le l2 12 = true
          · rw [if_pos hb5] at hf
            refine r_ic_t (t := 19) fe_126_14 (by decide) hb5 ?_
            refine r_iconst (v := 1) fe_126_19 (by decide) ?_
            refine r_aload_n fe_126_20 rfl ?_
            refine r_getf (v := .ref 88) fe_126_21 lf_11_43 (x_c xk_64 (by decide)) (x_lt xk_64 (by decide)) rfl ?_
            refine r_getf (v := .ref 95) fe_126_24 lf_11_94 (x_c xk_88 (by decide)) (x_lt xk_88 (by decide)) rfl ?_
            refine r_getf (v := .int (z1.2.1 95 1)) fe_126_27 lf_11_113 (x_c xk_95 (by decide)) (x_lt xk_95 (by decide)) rfl ?_
            refine r_ishl (v := (1 <<< ((z1.2.1 95 1) &&& 31))) fe_126_30 rfl ?_
            refine r_iconst (v := 1) fe_126_31 (by decide) ?_
            refine r_isub (v := ((1 <<< ((z1.2.1 95 1) &&& 31)) - 1)) fe_126_32 rfl ?_
            refine r_istore_n fe_126_33 (Nat.le_of_ble_eq_true rfl) rfl ?_
            refine r_iload_n fe_126_34 rfl ?_
            refine r_iload_n fe_126_35 rfl ?_
            refine r_iconst (v := -1) fe_126_36 (by decide) ?_
            refine r_ixor (v := (((1 <<< ((z1.2.1 95 1) &&& 31)) - 1) ^^^ (-1))) fe_126_37 rfl ?_
            refine r_iand (v := (l1 &&& (((1 <<< ((z1.2.1 95 1) &&& 31)) - 1) ^^^ (-1)))) fe_126_38 rfl ?_
            by_cases hb6 : am_if .ne (l1 &&& (((1 <<< ((z1.2.1 95 1) &&& 31)) - 1) ^^^ (-1))) = true
            · rw [if_pos hb6] at hf
              refine r_if_t (t := 51) fe_126_39 (by decide) hb6 ?_
              refine r_iconst (v := -1) fe_126_51 (by decide) ?_
              refine r_iret fe_126_52 ⟨rfl, by decide⟩ ?_
              exact dfin (P := fun r T => Q (some (.int r)) (xst T G h)) hf hQ
            · rw [if_neg hb6] at hf
              refine r_if_f (t := 51) fe_126_39 (by decide) (Bool.eq_false_iff.mpr hb6) ?_
              refine r_iload_n fe_126_42 rfl ?_
              refine r_callS (as := [.int l1]) (r := []) fe_126_43 lm_11_249 md_92 rfl rfl (Nat.le_of_ble_eq_true rfl) (Nat.le_of_ble_eq_true rfl) (Nat.le_of_ble_eq_true rfl) ?_
              cases hc8 : G92 n l1 z1.2 with
              | none => rw [hc8] at hf; cases hf
              | some z7 =>
                rw [hc8, Option.bind_some] at hf
                refine G92c (r0 := z7.1) (S0 := z7.2)  (hf := hc8) ?_
                refine r_bipush (v := 8) fe_126_46 (by decide) ?_
                by_cases hb9 : am_ic .le z7.1 8 = true
                · rw [if_pos hb9] at hf
                  refine r_ic_t (t := 53) fe_126_48 (by decide) hb9 ?_
                  refine r_aload_n fe_126_53 rfl ?_
                  refine r_getf (v := .ref 125) fe_126_54 lf_11_68 (x_c xk_64 (by decide)) (x_lt xk_64 (by decide)) rfl ?_
                  refine r_aload_n fe_126_57 rfl ?_
                  refine r_getf (v := .ref 88) fe_126_58 lf_11_43 (x_c xk_64 (by decide)) (x_lt xk_64 (by decide)) rfl ?_
                  refine r_getf (v := .ref 95) fe_126_61 lf_11_94 (x_c xk_88 (by decide)) (x_lt xk_88 (by decide)) rfl ?_
                  refine r_iload_n fe_126_64 rfl ?_
                  refine r_callV (as := [.ref 95, .int l1]) (r := []) fe_126_65 lm_11_260 md_127 rfl rfl (Nat.le_of_ble_eq_true rfl) (x_c xk_125 (by decide)) (x_lt xk_125 (by decide)) (Nat.le_of_ble_eq_true rfl) (Nat.le_of_ble_eq_true rfl) ?_
                  cases hc11 : G127 95 n l1 z7.2 with
                  | none => rw [hc11] at hf; cases hf
                  | some z10 =>
                    rw [hc11, Option.bind_some] at hf
                    refine G127c (r0 := z10.1) (S0 := z10.2) (h1 := wS_95) (hf := hc11) ?_
                    refine r_iload_n fe_126_68 rfl ?_
                    by_cases hb12 : am_if .ne l2 = true
                    · rw [if_pos hb12] at hf
                      refine r_if_t (t := 80) fe_126_69 (by decide) hb12 ?_
                      refine r_aload_n fe_126_80 rfl ?_
                      refine r_getf (v := .ref 125) fe_126_81 lf_11_68 (x_c xk_64 (by decide)) (x_lt xk_64 (by decide)) rfl ?_
                      refine r_iload_n fe_126_84 rfl ?_
                      refine r_iconst (v := 1) fe_126_85 (by decide) ?_
                      refine r_isub (v := (l2 - 1)) fe_126_86 rfl ?_
                      refine r_callV (as := [.int (l2 - 1)]) (r := []) fe_126_87 lm_11_267 md_131 rfl rfl (Nat.le_of_ble_eq_true rfl) (x_c xk_125 (by decide)) (x_lt xk_125 (by decide)) (Nat.le_of_ble_eq_true rfl) (Nat.le_of_ble_eq_true rfl) ?_
                      cases hc14 : G131 n (l2 - 1) z10.2 with
                      | none => rw [hc14] at hf; cases hf
                      | some z13 =>
                        rw [hc14, Option.bind_some] at hf
                        refine G131c (r0 := z13.1) (S0 := z13.2)  (hf := hc14) ?_
                        refine r_istore fe_126_90 (Nat.le_of_ble_eq_true rfl) rfl ?_
                        refine r_iload fe_126_92 rfl ?_
                        by_cases hb15 : am_if .ge z13.1 = true
                        · rw [if_pos hb15] at hf
                          refine r_if_t (t := 102) fe_126_94 (by decide) hb15 ?_
                          refine r_iload fe_126_102 rfl ?_
                          refine r_iret fe_126_104 ⟨rfl, by decide⟩ ?_
                          exact dfin (P := fun r T => Q (some (.int r)) (xst T G h)) hf hQ
                        · rw [if_neg hb15] at hf
                          refine r_if_f (t := 102) fe_126_94 (by decide) (Bool.eq_false_iff.mpr hb15) ?_
                          refine r_bipush (v := -2) fe_126_97 (by decide) ?_
                          refine r_goto (t := 104) fe_126_99 (by decide) ?_
                          refine r_iret fe_126_104 ⟨rfl, by decide⟩ ?_
                          exact dfin (P := fun r T => Q (some (.int r)) (xst T G h)) hf hQ
                    · rw [if_neg hb12] at hf
                      refine r_if_f (t := 80) fe_126_69 (by decide) (Bool.eq_false_iff.mpr hb12) ?_
                      refine r_aload_n fe_126_72 rfl ?_
                      refine r_getf (v := .ref 125) fe_126_73 lf_11_68 (x_c xk_64 (by decide)) (x_lt xk_64 (by decide)) rfl ?_
                      refine r_callV (as := []) (r := []) fe_126_76 lm_11_264 md_130 rfl rfl (Nat.le_of_ble_eq_true rfl) (x_c xk_125 (by decide)) (x_lt xk_125 (by decide)) (Nat.le_of_ble_eq_true rfl) (Nat.le_of_ble_eq_true rfl) ?_
                      cases hc17 : G130 n  z10.2 with
                      | none => rw [hc17] at hf; cases hf
                      | some z16 =>
                        rw [hc17, Option.bind_some] at hf
                        refine G130c (r0 := z16.1) (S0 := z16.2)  (hf := hc17) ?_
                        refine r_iret fe_126_79 ⟨rfl, by decide⟩ ?_
                        exact dfin (P := fun r T => Q (some (.int r)) (xst T G h)) hf hQ
                · rw [if_neg hb9] at hf
                  refine r_ic_f (t := 53) fe_126_48 (by decide) (Bool.eq_false_iff.mpr hb9) ?_
                  refine r_iconst (v := -1) fe_126_51 (by decide) ?_
                  refine r_iret fe_126_52 ⟨rfl, by decide⟩ ?_
                  exact dfin (P := fun r T => Q (some (.int r)) (xst T G h)) hf hQ
          · rw [if_neg hb5] at hf
            refine r_ic_f (t := 19) fe_126_14 (by decide) (Bool.eq_false_iff.mpr hb5) ?_
            refine r_iconst (v := -1) fe_126_17 (by decide) ?_
            refine r_iret fe_126_18 ⟨rfl, by decide⟩ ?_
            exact dfin (P := fun r T => Q (some (.int r)) (xst T G h)) hf hQ
theorem G126c {xs : Nat → Int32} {L9 d : Nat} {G : gS} {h : Nat → va_E} {n : Nat} {Q : Option Value → AmH → Prop} {r0 : Int32} {S0 S : xS} {l1 : Int32} {l2 : Int32} (hf : G126 n l1 l2 S = some (r0, S0)) (hQ : Q (some (.int r0)) (xst S0 G h)) : Ca (am_X xs L9) (d + 3) 126 [.ref 64, .int l1, .int l2] (xst S G h) Q := (G126l hQ n) l1 l2 S hf
def G134b0 (F : Nat → Int32 → Int32 → Int32 → Int32 → Int32 → Int32 → Int32 → Int32 → Int32 → Int32 → xS → Option (Int32 × xS)) (n : Nat) (l1 : Int32) (l2 : Int32) (l3 : Int32) (l4 : Int32) (l5 : Int32) (l6 : Int32) (l7 : Int32) (l8 : Int32) (l9 : Int32) (l10 : Int32) (S : xS) : Option (Int32 × xS) := ((G102 n l3 S).bind (fun z1 => F 24 0 l2 l3 z1.1 l1 0 0 0 0 0 z1.2))
def G134b24 (F : Nat → Int32 → Int32 → Int32 → Int32 → Int32 → Int32 → Int32 → Int32 → Int32 → Int32 → xS → Option (Int32 × xS)) (n : Nat) (l1 : Int32) (l2 : Int32) (l3 : Int32) (l4 : Int32) (l5 : Int32) (l6 : Int32) (l7 : Int32) (l8 : Int32) (l9 : Int32) (l10 : Int32) (S : xS) : Option (Int32 × xS) := (if am_ic .gt l10 20 = true then some (l9, S) else (if am_if .lt l5 = true then some (l9, S) else (if am_ic .ne l5 l2 = true then F 64 0 l2 l3 l4 l5 l6 l7 l8 l9 l10 S else (if ¬ (l8 < 0 ∨ 9 ≤ (l8).toNatClampNeg) then (if (am_tens.getD (Int32.toNatClampNeg l8) 0) = 0 then none else (if am_ic .ne (l3 - l3 / (am_tens.getD (Int32.toNatClampNeg l8) 0) * (am_tens.getD (Int32.toNatClampNeg l8) 0)) l7 = true then F 64 0 l2 l3 l4 l5 l6 l7 l8 l9 l10 S else F 64 0 l2 l3 l4 l5 l6 l7 l8 (l9 ||| (1 <<< (l10 &&& 31))) l10 S)) else none))))
def G134b64 (F : Nat → Int32 → Int32 → Int32 → Int32 → Int32 → Int32 → Int32 → Int32 → Int32 → Int32 → xS → Option (Int32 × xS)) (n : Nat) (l1 : Int32) (l2 : Int32) (l3 : Int32) (l4 : Int32) (l5 : Int32) (l6 : Int32) (l7 : Int32) (l8 : Int32) (l9 : Int32) (l10 : Int32) (S : xS) : Option (Int32 × xS) := ((G77 n l5 S).bind (fun z9 => (if am_ic .ne z9.1 2 = true then (if am_if .le l6 = true then (if ¬ (l5 < 0 ∨ 16 ≤ (l5).toNatClampNeg) then (if am_if .ge (z9.2.2.1 90 (Int32.toNatClampNeg l5)) = true then (if ¬ ((z9.2.2.1 90 (Int32.toNatClampNeg l5)) < 0 ∨ 16 ≤ ((z9.2.2.1 90 (Int32.toNatClampNeg l5))).toNatClampNeg) then (if am_if .ge (z9.2.2.1 90 (Int32.toNatClampNeg l5)) = true then ((G76 89 n (z9.2.2.1 90 (Int32.toNatClampNeg l5)) z9.2).bind (fun z17 => (if am_if .le z17.1 = true then F 185 0 l2 l3 l4 (z9.2.2.1 90 (Int32.toNatClampNeg l5)) (z9.2.2.1 91 (Int32.toNatClampNeg (z9.2.2.1 90 (Int32.toNatClampNeg l5)))) l7 l8 l9 l10 z17.2 else (if am_ic .ge l4 8 = true then F 185 0 l2 l3 l4 (z9.2.2.1 90 (Int32.toNatClampNeg l5)) (z9.2.2.1 91 (Int32.toNatClampNeg (z9.2.2.1 90 (Int32.toNatClampNeg l5)))) l7 l8 l9 l10 z17.2 else (if am_ic .lt (l8 + 1) l4 = true then F 185 0 l2 l3 l4 (z9.2.2.1 90 (Int32.toNatClampNeg l5)) (z9.2.2.1 91 (Int32.toNatClampNeg (z9.2.2.1 90 (Int32.toNatClampNeg l5)))) ((l7 * 10) + z17.1) (l8 + 1) l9 l10 z17.2 else some (l9, z17.2)))))) else F 185 0 l2 l3 l4 (z9.2.2.1 90 (Int32.toNatClampNeg l5)) (z9.2.2.1 91 (Int32.toNatClampNeg (z9.2.2.1 90 (Int32.toNatClampNeg l5)))) l7 l8 l9 l10 z9.2) else none) else (if am_if .ge (z9.2.2.1 90 (Int32.toNatClampNeg l5)) = true then ((G76 89 n (z9.2.2.1 90 (Int32.toNatClampNeg l5)) z9.2).bind (fun z23 => (if am_if .le z23.1 = true then F 185 0 l2 l3 l4 (z9.2.2.1 90 (Int32.toNatClampNeg l5)) 0 l7 l8 l9 l10 z23.2 else (if am_ic .ge l4 8 = true then F 185 0 l2 l3 l4 (z9.2.2.1 90 (Int32.toNatClampNeg l5)) 0 l7 l8 l9 l10 z23.2 else (if am_ic .lt (l8 + 1) l4 = true then F 185 0 l2 l3 l4 (z9.2.2.1 90 (Int32.toNatClampNeg l5)) 0 ((l7 * 10) + z23.1) (l8 + 1) l9 l10 z23.2 else some (l9, z23.2)))))) else F 185 0 l2 l3 l4 (z9.2.2.1 90 (Int32.toNatClampNeg l5)) 0 l7 l8 l9 l10 z9.2)) else none) else F 185 0 l2 l3 l4 l5 (l6 + (-1)) l7 l8 l9 l10 z9.2) else F 185 0 l2 l3 l4 l5 l6 l7 l8 l9 l10 z9.2)))
def G134b185 (F : Nat → Int32 → Int32 → Int32 → Int32 → Int32 → Int32 → Int32 → Int32 → Int32 → Int32 → xS → Option (Int32 × xS)) (n : Nat) (l1 : Int32) (l2 : Int32) (l3 : Int32) (l4 : Int32) (l5 : Int32) (l6 : Int32) (l7 : Int32) (l8 : Int32) (l9 : Int32) (l10 : Int32) (S : xS) : Option (Int32 × xS) := F 24 0 l2 l3 l4 l5 l6 l7 l8 l9 (l10 + 1) S
def G134f : Nat → Nat → Int32 → Int32 → Int32 → Int32 → Int32 → Int32 → Int32 → Int32 → Int32 → Int32 → xS → Option (Int32 × xS)
  | 0, _, _, _, _, _, _, _, _, _, _, _, _ => none
  | n + 1, c, l1, l2, l3, l4, l5, l6, l7, l8, l9, l10, S => if c = 0 then G134b0 (G134f n) n l1 l2 l3 l4 l5 l6 l7 l8 l9 l10 S else if c = 24 then G134b24 (G134f n) n l1 l2 l3 l4 l5 l6 l7 l8 l9 l10 S else if c = 64 then G134b64 (G134f n) n l1 l2 l3 l4 l5 l6 l7 l8 l9 l10 S else G134b185 (G134f n) n l1 l2 l3 l4 l5 l6 l7 l8 l9 l10 S
theorem G134e0 (n : Nat) (l1 : Int32) (l2 : Int32) (l3 : Int32) (l4 : Int32) (l5 : Int32) (l6 : Int32) (l7 : Int32) (l8 : Int32) (l9 : Int32) (l10 : Int32) (S : xS) : G134f (n + 1) 0 l1 l2 l3 l4 l5 l6 l7 l8 l9 l10 S = G134b0 (G134f n) n l1 l2 l3 l4 l5 l6 l7 l8 l9 l10 S := if_pos rfl
theorem G134e24 (n : Nat) (l1 : Int32) (l2 : Int32) (l3 : Int32) (l4 : Int32) (l5 : Int32) (l6 : Int32) (l7 : Int32) (l8 : Int32) (l9 : Int32) (l10 : Int32) (S : xS) : G134f (n + 1) 24 l1 l2 l3 l4 l5 l6 l7 l8 l9 l10 S = G134b24 (G134f n) n l1 l2 l3 l4 l5 l6 l7 l8 l9 l10 S := (if_neg (by decide)).trans (if_pos rfl)
theorem G134e64 (n : Nat) (l1 : Int32) (l2 : Int32) (l3 : Int32) (l4 : Int32) (l5 : Int32) (l6 : Int32) (l7 : Int32) (l8 : Int32) (l9 : Int32) (l10 : Int32) (S : xS) : G134f (n + 1) 64 l1 l2 l3 l4 l5 l6 l7 l8 l9 l10 S = G134b64 (G134f n) n l1 l2 l3 l4 l5 l6 l7 l8 l9 l10 S := (if_neg (by decide)).trans ((if_neg (by decide)).trans (if_pos rfl))
theorem G134e185 (n : Nat) (l1 : Int32) (l2 : Int32) (l3 : Int32) (l4 : Int32) (l5 : Int32) (l6 : Int32) (l7 : Int32) (l8 : Int32) (l9 : Int32) (l10 : Int32) (S : xS) : G134f (n + 1) 185 l1 l2 l3 l4 l5 l6 l7 l8 l9 l10 S = G134b185 (G134f n) n l1 l2 l3 l4 l5 l6 l7 l8 l9 l10 S := (if_neg (by decide)).trans ((if_neg (by decide)).trans (if_neg (by decide)))
def G134 (n : Nat) (l1 : Int32) (l2 : Int32) (l3 : Int32) (S : xS) : Option (Int32 × xS) := G134f n 0 l1 l2 l3 0 0 0 0 0 0 0 S
set_option maxRecDepth 20000 in
set_option maxHeartbeats 4000000 in
theorem G134l {xs : Nat → Int32} {L9 d : Nat} {G : gS} {h : Nat → va_E} {Q : Option Value → AmH → Prop} {r0 : Int32} {S0 : xS} (hQ : Q (some (.int r0)) (xst S0 G h)) : ∀ n : Nat, (∀ (l1 : Int32) (l2 : Int32) (l3 : Int32) (l4 : Int32) (l5 : Int32) (l6 : Int32) (l7 : Int32) (l8 : Int32) (l9 : Int32) (l10 : Int32) (S : xS), G134f n 0 l1 l2 l3 l4 l5 l6 l7 l8 l9 l10 S = some (r0, S0) → Go (am_X xs L9) (d + 1) 134 0 [.ref 64, .int l1, .int l2, .int l3, .float 0, .float 0, .float 0, .float 0, .float 0, .float 0, .float 0, .float 0] [] (xst S G h) Q) ∧ (∀ (l1 : Int32) (l2 : Int32) (l3 : Int32) (l4 : Int32) (l5 : Int32) (l6 : Int32) (l7 : Int32) (l8 : Int32) (l9 : Int32) (l10 : Int32) (S : xS), G134f n 24 l1 l2 l3 l4 l5 l6 l7 l8 l9 l10 S = some (r0, S0) → Go (am_X xs L9) (d + 1) 134 24 [.ref 64, .float 0, .int l2, .int l3, .int l4, .int l5, .int l6, .int l7, .int l8, .int l9, .int l10, .float 0] [] (xst S G h) Q) ∧ (∀ (l1 : Int32) (l2 : Int32) (l3 : Int32) (l4 : Int32) (l5 : Int32) (l6 : Int32) (l7 : Int32) (l8 : Int32) (l9 : Int32) (l10 : Int32) (S : xS), G134f n 64 l1 l2 l3 l4 l5 l6 l7 l8 l9 l10 S = some (r0, S0) → Go (am_X xs L9) (d + 1) 134 64 [.ref 64, .float 0, .int l2, .int l3, .int l4, .int l5, .int l6, .int l7, .int l8, .int l9, .int l10, .float 0] [] (xst S G h) Q) ∧ (∀ (l1 : Int32) (l2 : Int32) (l3 : Int32) (l4 : Int32) (l5 : Int32) (l6 : Int32) (l7 : Int32) (l8 : Int32) (l9 : Int32) (l10 : Int32) (S : xS), G134f n 185 l1 l2 l3 l4 l5 l6 l7 l8 l9 l10 S = some (r0, S0) → Go (am_X xs L9) (d + 1) 134 185 [.ref 64, .float 0, .int l2, .int l3, .int l4, .int l5, .int l6, .int l7, .int l8, .int l9, .int l10, .float 0] [] (xst S G h) Q) := by
  intro n
  induction n with
  | zero => exact ⟨fun l1 l2 l3 l4 l5 l6 l7 l8 l9 l10 S hf => (by cases hf), fun l1 l2 l3 l4 l5 l6 l7 l8 l9 l10 S hf => (by cases hf), fun l1 l2 l3 l4 l5 l6 l7 l8 l9 l10 S hf => (by cases hf), fun l1 l2 l3 l4 l5 l6 l7 l8 l9 l10 S hf => (by cases hf)⟩
  | succ n ih =>
    refine ⟨?_, ?_, ?_, ?_⟩
    · intro l1 l2 l3 l4 l5 l6 l7 l8 l9 l10 S hf
      rw [G134e0] at hf
      unfold G134b0 at hf
      refine r_iload_n fe_134_0 rfl ?_
      refine r_callS (as := [.int l3]) (r := []) fe_134_1 lm_11_198 md_102 rfl rfl (Nat.le_of_ble_eq_true rfl) (Nat.le_of_ble_eq_true rfl) (Nat.le_of_ble_eq_true rfl) ?_
      cases hc2 : G102 n l3 S with
      | none => rw [hc2] at hf; cases hf
      | some z1 =>
        rw [hc2, Option.bind_some] at hf
        refine G102c (r0 := z1.1) (S0 := z1.2)  (hf := hc2) ?_
        refine r_istore fe_134_4 (Nat.le_of_ble_eq_true rfl) rfl ?_
        refine r_iload_n fe_134_6 rfl ?_
        refine r_istore fe_134_7 (Nat.le_of_ble_eq_true rfl) rfl ?_
        refine r_iconst (v := 0) fe_134_9 (by decide) ?_
        refine r_istore fe_134_10 (Nat.le_of_ble_eq_true rfl) rfl ?_
        refine r_iconst (v := 0) fe_134_12 (by decide) ?_
        refine r_istore fe_134_13 (Nat.le_of_ble_eq_true rfl) rfl ?_
        refine r_iconst (v := 0) fe_134_15 (by decide) ?_
        refine r_istore fe_134_16 (Nat.le_of_ble_eq_true rfl) rfl ?_
        refine r_iconst (v := 0) fe_134_18 (by decide) ?_
        refine r_istore fe_134_19 (Nat.le_of_ble_eq_true rfl) rfl ?_
        refine r_iconst (v := 0) fe_134_21 (by decide) ?_
        refine r_istore fe_134_22 (Nat.le_of_ble_eq_true rfl) rfl ?_
        refine go_weak (L0 := [.ref 64, .float 0, .int l2, .int l3, .int z1.1, .int l1, .int 0, .int 0, .int 0, .int 0, .int 0, .float 0]) (lwk_c (Or.inl rfl) (lwk_c (Or.inr rfl) (lwk_c (Or.inl rfl) (lwk_c (Or.inl rfl) (lwk_c (Or.inl rfl) (lwk_c (Or.inl rfl) (lwk_c (Or.inl rfl) (lwk_c (Or.inl rfl) (lwk_c (Or.inl rfl) (lwk_c (Or.inl rfl) (lwk_c (Or.inl rfl) (lwk_c (Or.inl rfl) (lwk_rf []))))))))))))) ?_
        exact ih.2.1 0 l2 l3 z1.1 l1 0 0 0 0 0 z1.2 hf
    · intro l1 l2 l3 l4 l5 l6 l7 l8 l9 l10 S hf
      rw [G134e24] at hf
      unfold G134b24 at hf
      refine r_iload fe_134_24 rfl ?_
      refine r_bipush (v := 20) fe_134_26 (by decide) ?_
      by_cases hb3 : am_ic .gt l10 20 = true
      · rw [if_pos hb3] at hf
        refine r_ic_t (t := 191) fe_134_28 (by decide) hb3 ?_
        refine r_iload fe_134_191 rfl ?_
        refine r_iret fe_134_193 ⟨rfl, by decide⟩ ?_
        exact dfin (P := fun r T => Q (some (.int r)) (xst T G h)) hf hQ
      · rw [if_neg hb3] at hf
        refine r_ic_f (t := 191) fe_134_28 (by decide) (Bool.eq_false_iff.mpr hb3) ?_
        refine r_iload fe_134_31 rfl ?_
        by_cases hb4 : am_if .lt l5 = true
        · rw [if_pos hb4] at hf
          refine r_if_t (t := 191) fe_134_33 (by decide) hb4 ?_
          refine r_iload fe_134_191 rfl ?_
          refine r_iret fe_134_193 ⟨rfl, by decide⟩ ?_
          exact dfin (P := fun r T => Q (some (.int r)) (xst T G h)) hf hQ
        · rw [if_neg hb4] at hf
          refine r_if_f (t := 191) fe_134_33 (by decide) (Bool.eq_false_iff.mpr hb4) ?_
          refine r_iload fe_134_36 rfl ?_
          refine r_iload_n fe_134_38 rfl ?_
          by_cases hb5 : am_ic .ne l5 l2 = true
          · rw [if_pos hb5] at hf
            refine r_ic_t (t := 64) fe_134_39 (by decide) hb5 ?_
            refine go_weak (L0 := [.ref 64, .float 0, .int l2, .int l3, .int l4, .int l5, .int l6, .int l7, .int l8, .int l9, .int l10, .float 0]) (lwk_c (Or.inl rfl) (lwk_c (Or.inl rfl) (lwk_c (Or.inl rfl) (lwk_c (Or.inl rfl) (lwk_c (Or.inl rfl) (lwk_c (Or.inl rfl) (lwk_c (Or.inl rfl) (lwk_c (Or.inl rfl) (lwk_c (Or.inl rfl) (lwk_c (Or.inl rfl) (lwk_c (Or.inl rfl) (lwk_c (Or.inl rfl) (lwk_rf []))))))))))))) ?_
            exact ih.2.2.1 0 l2 l3 l4 l5 l6 l7 l8 l9 l10 S hf
          · rw [if_neg hb5] at hf
            refine r_ic_f (t := 64) fe_134_39 (by decide) (Bool.eq_false_iff.mpr hb5) ?_
            refine r_iload_n fe_134_42 rfl ?_
            refine r_gets (v := .ref 1) fe_134_43 (by decide +kernel) ?_
            refine r_iload fe_134_46 rfl ?_
            by_cases hg6 : ¬ (l8 < 0 ∨ 9 ≤ (l8).toNatClampNeg)
            rotate_left
            · rw [if_neg hg6] at hf; cases hf
            rw [if_pos hg6] at hf
            refine r_iald (j := (Int32.toNatClampNeg l8)) (v := am_tens.getD (Int32.toNatClampNeg l8) 0) fe_134_48 x_c_1 x_lt1 (fun z => hg6 (Or.inl z)) rfl (fun z => hg6 (Or.inr z)) rfl ?_
            by_cases hz7 : (am_tens.getD (Int32.toNatClampNeg l8) 0) = 0
            · rw [if_pos hz7] at hf; cases hf
            rw [if_neg hz7] at hf
            refine r_irem (v := (l3 - l3 / (am_tens.getD (Int32.toNatClampNeg l8) 0) * (am_tens.getD (Int32.toNatClampNeg l8) 0))) fe_134_49 hz7 rfl ?_
            refine r_iload fe_134_50 rfl ?_
            by_cases hb8 : am_ic .ne (l3 - l3 / (am_tens.getD (Int32.toNatClampNeg l8) 0) * (am_tens.getD (Int32.toNatClampNeg l8) 0)) l7 = true
            · rw [if_pos hb8] at hf
              refine r_ic_t (t := 64) fe_134_52 (by decide) hb8 ?_
              refine go_weak (L0 := [.ref 64, .float 0, .int l2, .int l3, .int l4, .int l5, .int l6, .int l7, .int l8, .int l9, .int l10, .float 0]) (lwk_c (Or.inl rfl) (lwk_c (Or.inl rfl) (lwk_c (Or.inl rfl) (lwk_c (Or.inl rfl) (lwk_c (Or.inl rfl) (lwk_c (Or.inl rfl) (lwk_c (Or.inl rfl) (lwk_c (Or.inl rfl) (lwk_c (Or.inl rfl) (lwk_c (Or.inl rfl) (lwk_c (Or.inl rfl) (lwk_c (Or.inl rfl) (lwk_rf []))))))))))))) ?_
              exact ih.2.2.1 0 l2 l3 l4 l5 l6 l7 l8 l9 l10 S hf
            · rw [if_neg hb8] at hf
              refine r_ic_f (t := 64) fe_134_52 (by decide) (Bool.eq_false_iff.mpr hb8) ?_
              refine r_iload fe_134_55 rfl ?_
              refine r_iconst (v := 1) fe_134_57 (by decide) ?_
              refine r_iload fe_134_58 rfl ?_
              refine r_ishl (v := (1 <<< (l10 &&& 31))) fe_134_60 rfl ?_
              refine r_ior (v := (l9 ||| (1 <<< (l10 &&& 31)))) fe_134_61 rfl ?_
              refine r_istore fe_134_62 (Nat.le_of_ble_eq_true rfl) rfl ?_
              refine go_weak (L0 := [.ref 64, .float 0, .int l2, .int l3, .int l4, .int l5, .int l6, .int l7, .int l8, .int (l9 ||| (1 <<< (l10 &&& 31))), .int l10, .float 0]) (lwk_c (Or.inl rfl) (lwk_c (Or.inl rfl) (lwk_c (Or.inl rfl) (lwk_c (Or.inl rfl) (lwk_c (Or.inl rfl) (lwk_c (Or.inl rfl) (lwk_c (Or.inl rfl) (lwk_c (Or.inl rfl) (lwk_c (Or.inl rfl) (lwk_c (Or.inl rfl) (lwk_c (Or.inl rfl) (lwk_c (Or.inl rfl) (lwk_rf []))))))))))))) ?_
              exact ih.2.2.1 0 l2 l3 l4 l5 l6 l7 l8 (l9 ||| (1 <<< (l10 &&& 31))) l10 S hf
    · intro l1 l2 l3 l4 l5 l6 l7 l8 l9 l10 S hf
      rw [G134e64] at hf
      unfold G134b64 at hf
      refine r_aload_n fe_134_64 rfl ?_
      refine r_iload fe_134_65 rfl ?_
      refine r_callV (as := [.int l5]) (r := []) fe_134_67 lm_11_139 md_77 rfl rfl (Nat.le_of_ble_eq_true rfl) (x_c xk_64 (by decide)) (x_lt xk_64 (by decide)) (Nat.le_of_ble_eq_true rfl) (Nat.le_of_ble_eq_true rfl) ?_
      cases hc10 : G77 n l5 S with
      | none => rw [hc10] at hf; cases hf
      | some z9 =>
        rw [hc10, Option.bind_some] at hf
        refine G77c (r0 := z9.1) (S0 := z9.2)  (hf := hc10) ?_
        refine r_iconst (v := 2) fe_134_70 (by decide) ?_
        by_cases hb11 : am_ic .ne z9.1 2 = true
        · rw [if_pos hb11] at hf
          refine r_ic_t (t := 77) fe_134_71 (by decide) hb11 ?_
          refine r_iload fe_134_77 rfl ?_
          by_cases hb12 : am_if .le l6 = true
          · rw [if_pos hb12] at hf
            refine r_if_t (t := 88) fe_134_79 (by decide) hb12 ?_
            refine r_aload_n fe_134_88 rfl ?_
            refine r_getf (v := .ref 88) fe_134_89 lf_11_43 (x_c xk_64 (by decide)) (x_lt xk_64 (by decide)) rfl ?_
            refine r_getf (v := .ref 89) fe_134_92 lf_11_83 (x_c xk_88 (by decide)) (x_lt xk_88 (by decide)) rfl ?_
            refine r_getf (v := .ref 90) fe_134_95 lf_11_128 (x_c xk_89 (by decide)) (x_lt xk_89 (by decide)) rfl ?_
            refine r_iload fe_134_98 rfl ?_
            by_cases hg13 : ¬ (l5 < 0 ∨ 16 ≤ (l5).toNatClampNeg)
            rotate_left
            · rw [if_neg hg13] at hf; cases hf
            rw [if_pos hg13] at hf
            refine r_iald (j := (Int32.toNatClampNeg l5)) (v := z9.2.2.1 90 (Int32.toNatClampNeg l5)) fe_134_100 (x_c xk_90 (by decide)) (x_lt xk_90 (by decide)) (fun z => hg13 (Or.inl z)) rfl (fun z => hg13 (Or.inr z)) rfl ?_
            refine r_istore fe_134_101 (Nat.le_of_ble_eq_true rfl) rfl ?_
            refine r_iload fe_134_103 rfl ?_
            by_cases hb14 : am_if .ge (z9.2.2.1 90 (Int32.toNatClampNeg l5)) = true
            · rw [if_pos hb14] at hf
              refine r_if_t (t := 112) fe_134_105 (by decide) hb14 ?_
              refine r_aload_n fe_134_112 rfl ?_
              refine r_getf (v := .ref 88) fe_134_113 lf_11_43 (x_c xk_64 (by decide)) (x_lt xk_64 (by decide)) rfl ?_
              refine r_getf (v := .ref 89) fe_134_116 lf_11_83 (x_c xk_88 (by decide)) (x_lt xk_88 (by decide)) rfl ?_
              refine r_getf (v := .ref 91) fe_134_119 lf_11_132 (x_c xk_89 (by decide)) (x_lt xk_89 (by decide)) rfl ?_
              refine r_iload fe_134_122 rfl ?_
              by_cases hg15 : ¬ ((z9.2.2.1 90 (Int32.toNatClampNeg l5)) < 0 ∨ 16 ≤ ((z9.2.2.1 90 (Int32.toNatClampNeg l5))).toNatClampNeg)
              rotate_left
              · rw [if_neg hg15] at hf; cases hf
              rw [if_pos hg15] at hf
              refine r_iald (j := (Int32.toNatClampNeg (z9.2.2.1 90 (Int32.toNatClampNeg l5)))) (v := z9.2.2.1 91 (Int32.toNatClampNeg (z9.2.2.1 90 (Int32.toNatClampNeg l5)))) fe_134_124 (x_c xk_91 (by decide)) (x_lt xk_91 (by decide)) (fun z => hg15 (Or.inl z)) rfl (fun z => hg15 (Or.inr z)) rfl ?_
              refine r_istore fe_134_125 (Nat.le_of_ble_eq_true rfl) rfl ?_
              refine r_iload fe_134_127 rfl ?_
              by_cases hb16 : am_if .ge (z9.2.2.1 90 (Int32.toNatClampNeg l5)) = true
              · rw [if_pos hb16] at hf
                refine r_if_t (t := 136) fe_134_129 (by decide) hb16 ?_
                refine r_aload_n fe_134_136 rfl ?_
                refine r_getf (v := .ref 88) fe_134_137 lf_11_43 (x_c xk_64 (by decide)) (x_lt xk_64 (by decide)) rfl ?_
                refine r_getf (v := .ref 89) fe_134_140 lf_11_83 (x_c xk_88 (by decide)) (x_lt xk_88 (by decide)) rfl ?_
                refine r_iload fe_134_143 rfl ?_
                refine r_callV (as := [.int (z9.2.2.1 90 (Int32.toNatClampNeg l5))]) (r := []) fe_134_145 lm_11_135 md_76 rfl rfl (Nat.le_of_ble_eq_true rfl) (x_c xk_89 (by decide)) (x_lt xk_89 (by decide)) (Nat.le_of_ble_eq_true rfl) (Nat.le_of_ble_eq_true rfl) ?_
                cases hc18 : G76 89 n (z9.2.2.1 90 (Int32.toNatClampNeg l5)) z9.2 with
                | none => rw [hc18] at hf; cases hf
                | some z17 =>
                  rw [hc18, Option.bind_some] at hf
                  refine G76c (r0 := z17.1) (S0 := z17.2) (h0 := bS_89) (hf := hc18) ?_
                  refine r_istore fe_134_148 (Nat.le_of_ble_eq_true rfl) rfl ?_
                  refine r_iload fe_134_150 rfl ?_
                  by_cases hb19 : am_if .le z17.1 = true
                  · rw [if_pos hb19] at hf
                    refine r_if_t (t := 185) fe_134_152 (by decide) hb19 ?_
                    refine go_weak (L0 := [.ref 64, .float 0, .int l2, .int l3, .int l4, .int (z9.2.2.1 90 (Int32.toNatClampNeg l5)), .int (z9.2.2.1 91 (Int32.toNatClampNeg (z9.2.2.1 90 (Int32.toNatClampNeg l5)))), .int l7, .int l8, .int l9, .int l10, .float 0]) (lwk_c (Or.inl rfl) (lwk_c (Or.inl rfl) (lwk_c (Or.inl rfl) (lwk_c (Or.inl rfl) (lwk_c (Or.inl rfl) (lwk_c (Or.inl rfl) (lwk_c (Or.inl rfl) (lwk_c (Or.inl rfl) (lwk_c (Or.inl rfl) (lwk_c (Or.inl rfl) (lwk_c (Or.inl rfl) (lwk_c (Or.inr rfl) (lwk_rf []))))))))))))) ?_
                    exact ih.2.2.2 0 l2 l3 l4 (z9.2.2.1 90 (Int32.toNatClampNeg l5)) (z9.2.2.1 91 (Int32.toNatClampNeg (z9.2.2.1 90 (Int32.toNatClampNeg l5)))) l7 l8 l9 l10 z17.2 hf
                  · rw [if_neg hb19] at hf
                    refine r_if_f (t := 185) fe_134_152 (by decide) (Bool.eq_false_iff.mpr hb19) ?_
                    refine r_iload fe_134_155 rfl ?_
                    refine r_bipush (v := 8) fe_134_157 (by decide) ?_
                    by_cases hb20 : am_ic .ge l4 8 = true
                    · rw [if_pos hb20] at hf
                      refine r_ic_t (t := 185) fe_134_159 (by decide) hb20 ?_
                      refine go_weak (L0 := [.ref 64, .float 0, .int l2, .int l3, .int l4, .int (z9.2.2.1 90 (Int32.toNatClampNeg l5)), .int (z9.2.2.1 91 (Int32.toNatClampNeg (z9.2.2.1 90 (Int32.toNatClampNeg l5)))), .int l7, .int l8, .int l9, .int l10, .float 0]) (lwk_c (Or.inl rfl) (lwk_c (Or.inl rfl) (lwk_c (Or.inl rfl) (lwk_c (Or.inl rfl) (lwk_c (Or.inl rfl) (lwk_c (Or.inl rfl) (lwk_c (Or.inl rfl) (lwk_c (Or.inl rfl) (lwk_c (Or.inl rfl) (lwk_c (Or.inl rfl) (lwk_c (Or.inl rfl) (lwk_c (Or.inr rfl) (lwk_rf []))))))))))))) ?_
                      exact ih.2.2.2 0 l2 l3 l4 (z9.2.2.1 90 (Int32.toNatClampNeg l5)) (z9.2.2.1 91 (Int32.toNatClampNeg (z9.2.2.1 90 (Int32.toNatClampNeg l5)))) l7 l8 l9 l10 z17.2 hf
                    · rw [if_neg hb20] at hf
                      refine r_ic_f (t := 185) fe_134_159 (by decide) (Bool.eq_false_iff.mpr hb20) ?_
                      refine r_iload fe_134_162 rfl ?_
                      refine r_bipush (v := 10) fe_134_164 (by decide) ?_
                      refine r_imul (v := (l7 * 10)) fe_134_166 rfl ?_
                      refine r_iload fe_134_167 rfl ?_
                      refine r_iadd (v := ((l7 * 10) + z17.1)) fe_134_169 rfl ?_
                      refine r_istore fe_134_170 (Nat.le_of_ble_eq_true rfl) rfl ?_
                      refine r_iinc (v := (l8 + 1)) fe_134_172 rfl rfl rfl ?_
                      refine r_iload fe_134_175 rfl ?_
                      refine r_iload fe_134_177 rfl ?_
                      by_cases hb21 : am_ic .lt (l8 + 1) l4 = true
                      · rw [if_pos hb21] at hf
                        refine r_ic_t (t := 185) fe_134_179 (by decide) hb21 ?_
                        refine go_weak (L0 := [.ref 64, .float 0, .int l2, .int l3, .int l4, .int (z9.2.2.1 90 (Int32.toNatClampNeg l5)), .int (z9.2.2.1 91 (Int32.toNatClampNeg (z9.2.2.1 90 (Int32.toNatClampNeg l5)))), .int ((l7 * 10) + z17.1), .int (l8 + 1), .int l9, .int l10, .float 0]) (lwk_c (Or.inl rfl) (lwk_c (Or.inl rfl) (lwk_c (Or.inl rfl) (lwk_c (Or.inl rfl) (lwk_c (Or.inl rfl) (lwk_c (Or.inl rfl) (lwk_c (Or.inl rfl) (lwk_c (Or.inl rfl) (lwk_c (Or.inl rfl) (lwk_c (Or.inl rfl) (lwk_c (Or.inl rfl) (lwk_c (Or.inr rfl) (lwk_rf []))))))))))))) ?_
                        exact ih.2.2.2 0 l2 l3 l4 (z9.2.2.1 90 (Int32.toNatClampNeg l5)) (z9.2.2.1 91 (Int32.toNatClampNeg (z9.2.2.1 90 (Int32.toNatClampNeg l5)))) ((l7 * 10) + z17.1) (l8 + 1) l9 l10 z17.2 hf
                      · rw [if_neg hb21] at hf
                        refine r_ic_f (t := 185) fe_134_179 (by decide) (Bool.eq_false_iff.mpr hb21) ?_
                        refine r_goto (t := 191) fe_134_182 (by decide) ?_
                        refine r_iload fe_134_191 rfl ?_
                        refine r_iret fe_134_193 ⟨rfl, by decide⟩ ?_
                        exact dfin (P := fun r T => Q (some (.int r)) (xst T G h)) hf hQ
              · rw [if_neg hb16] at hf
                refine r_if_f (t := 136) fe_134_129 (by decide) (Bool.eq_false_iff.mpr hb16) ?_
                refine r_iconst (v := 0) fe_134_132 (by decide) ?_
                refine r_goto (t := 148) fe_134_133 (by decide) ?_
                refine r_istore fe_134_148 (Nat.le_of_ble_eq_true rfl) rfl ?_
                refine r_iload fe_134_150 rfl ?_
                refine r_if_t (t := 185) fe_134_152 (by decide) (by decide) ?_
                refine go_weak (L0 := [.ref 64, .float 0, .int l2, .int l3, .int l4, .int (z9.2.2.1 90 (Int32.toNatClampNeg l5)), .int (z9.2.2.1 91 (Int32.toNatClampNeg (z9.2.2.1 90 (Int32.toNatClampNeg l5)))), .int l7, .int l8, .int l9, .int l10, .float 0]) (lwk_c (Or.inl rfl) (lwk_c (Or.inl rfl) (lwk_c (Or.inl rfl) (lwk_c (Or.inl rfl) (lwk_c (Or.inl rfl) (lwk_c (Or.inl rfl) (lwk_c (Or.inl rfl) (lwk_c (Or.inl rfl) (lwk_c (Or.inl rfl) (lwk_c (Or.inl rfl) (lwk_c (Or.inl rfl) (lwk_c (Or.inr rfl) (lwk_rf []))))))))))))) ?_
                exact ih.2.2.2 0 l2 l3 l4 (z9.2.2.1 90 (Int32.toNatClampNeg l5)) (z9.2.2.1 91 (Int32.toNatClampNeg (z9.2.2.1 90 (Int32.toNatClampNeg l5)))) l7 l8 l9 l10 z9.2 hf
            · rw [if_neg hb14] at hf
              refine r_if_f (t := 112) fe_134_105 (by decide) (Bool.eq_false_iff.mpr hb14) ?_
              refine r_iconst (v := 0) fe_134_108 (by decide) ?_
              refine r_goto (t := 125) fe_134_109 (by decide) ?_
              refine r_istore fe_134_125 (Nat.le_of_ble_eq_true rfl) rfl ?_
              refine r_iload fe_134_127 rfl ?_
              by_cases hb22 : am_if .ge (z9.2.2.1 90 (Int32.toNatClampNeg l5)) = true
              · rw [if_pos hb22] at hf
                refine r_if_t (t := 136) fe_134_129 (by decide) hb22 ?_
                refine r_aload_n fe_134_136 rfl ?_
                refine r_getf (v := .ref 88) fe_134_137 lf_11_43 (x_c xk_64 (by decide)) (x_lt xk_64 (by decide)) rfl ?_
                refine r_getf (v := .ref 89) fe_134_140 lf_11_83 (x_c xk_88 (by decide)) (x_lt xk_88 (by decide)) rfl ?_
                refine r_iload fe_134_143 rfl ?_
                refine r_callV (as := [.int (z9.2.2.1 90 (Int32.toNatClampNeg l5))]) (r := []) fe_134_145 lm_11_135 md_76 rfl rfl (Nat.le_of_ble_eq_true rfl) (x_c xk_89 (by decide)) (x_lt xk_89 (by decide)) (Nat.le_of_ble_eq_true rfl) (Nat.le_of_ble_eq_true rfl) ?_
                cases hc24 : G76 89 n (z9.2.2.1 90 (Int32.toNatClampNeg l5)) z9.2 with
                | none => rw [hc24] at hf; cases hf
                | some z23 =>
                  rw [hc24, Option.bind_some] at hf
                  refine G76c (r0 := z23.1) (S0 := z23.2) (h0 := bS_89) (hf := hc24) ?_
                  refine r_istore fe_134_148 (Nat.le_of_ble_eq_true rfl) rfl ?_
                  refine r_iload fe_134_150 rfl ?_
                  by_cases hb25 : am_if .le z23.1 = true
                  · rw [if_pos hb25] at hf
                    refine r_if_t (t := 185) fe_134_152 (by decide) hb25 ?_
                    refine go_weak (L0 := [.ref 64, .float 0, .int l2, .int l3, .int l4, .int (z9.2.2.1 90 (Int32.toNatClampNeg l5)), .int 0, .int l7, .int l8, .int l9, .int l10, .float 0]) (lwk_c (Or.inl rfl) (lwk_c (Or.inl rfl) (lwk_c (Or.inl rfl) (lwk_c (Or.inl rfl) (lwk_c (Or.inl rfl) (lwk_c (Or.inl rfl) (lwk_c (Or.inl rfl) (lwk_c (Or.inl rfl) (lwk_c (Or.inl rfl) (lwk_c (Or.inl rfl) (lwk_c (Or.inl rfl) (lwk_c (Or.inr rfl) (lwk_rf []))))))))))))) ?_
                    exact ih.2.2.2 0 l2 l3 l4 (z9.2.2.1 90 (Int32.toNatClampNeg l5)) 0 l7 l8 l9 l10 z23.2 hf
                  · rw [if_neg hb25] at hf
                    refine r_if_f (t := 185) fe_134_152 (by decide) (Bool.eq_false_iff.mpr hb25) ?_
                    refine r_iload fe_134_155 rfl ?_
                    refine r_bipush (v := 8) fe_134_157 (by decide) ?_
                    by_cases hb26 : am_ic .ge l4 8 = true
                    · rw [if_pos hb26] at hf
                      refine r_ic_t (t := 185) fe_134_159 (by decide) hb26 ?_
                      refine go_weak (L0 := [.ref 64, .float 0, .int l2, .int l3, .int l4, .int (z9.2.2.1 90 (Int32.toNatClampNeg l5)), .int 0, .int l7, .int l8, .int l9, .int l10, .float 0]) (lwk_c (Or.inl rfl) (lwk_c (Or.inl rfl) (lwk_c (Or.inl rfl) (lwk_c (Or.inl rfl) (lwk_c (Or.inl rfl) (lwk_c (Or.inl rfl) (lwk_c (Or.inl rfl) (lwk_c (Or.inl rfl) (lwk_c (Or.inl rfl) (lwk_c (Or.inl rfl) (lwk_c (Or.inl rfl) (lwk_c (Or.inr rfl) (lwk_rf []))))))))))))) ?_
                      exact ih.2.2.2 0 l2 l3 l4 (z9.2.2.1 90 (Int32.toNatClampNeg l5)) 0 l7 l8 l9 l10 z23.2 hf
                    · rw [if_neg hb26] at hf
                      refine r_ic_f (t := 185) fe_134_159 (by decide) (Bool.eq_false_iff.mpr hb26) ?_
                      refine r_iload fe_134_162 rfl ?_
                      refine r_bipush (v := 10) fe_134_164 (by decide) ?_
                      refine r_imul (v := (l7 * 10)) fe_134_166 rfl ?_
                      refine r_iload fe_134_167 rfl ?_
                      refine r_iadd (v := ((l7 * 10) + z23.1)) fe_134_169 rfl ?_
                      refine r_istore fe_134_170 (Nat.le_of_ble_eq_true rfl) rfl ?_
                      refine r_iinc (v := (l8 + 1)) fe_134_172 rfl rfl rfl ?_
                      refine r_iload fe_134_175 rfl ?_
                      refine r_iload fe_134_177 rfl ?_
                      by_cases hb27 : am_ic .lt (l8 + 1) l4 = true
                      · rw [if_pos hb27] at hf
                        refine r_ic_t (t := 185) fe_134_179 (by decide) hb27 ?_
                        refine go_weak (L0 := [.ref 64, .float 0, .int l2, .int l3, .int l4, .int (z9.2.2.1 90 (Int32.toNatClampNeg l5)), .int 0, .int ((l7 * 10) + z23.1), .int (l8 + 1), .int l9, .int l10, .float 0]) (lwk_c (Or.inl rfl) (lwk_c (Or.inl rfl) (lwk_c (Or.inl rfl) (lwk_c (Or.inl rfl) (lwk_c (Or.inl rfl) (lwk_c (Or.inl rfl) (lwk_c (Or.inl rfl) (lwk_c (Or.inl rfl) (lwk_c (Or.inl rfl) (lwk_c (Or.inl rfl) (lwk_c (Or.inl rfl) (lwk_c (Or.inr rfl) (lwk_rf []))))))))))))) ?_
                        exact ih.2.2.2 0 l2 l3 l4 (z9.2.2.1 90 (Int32.toNatClampNeg l5)) 0 ((l7 * 10) + z23.1) (l8 + 1) l9 l10 z23.2 hf
                      · rw [if_neg hb27] at hf
                        refine r_ic_f (t := 185) fe_134_179 (by decide) (Bool.eq_false_iff.mpr hb27) ?_
                        refine r_goto (t := 191) fe_134_182 (by decide) ?_
                        refine r_iload fe_134_191 rfl ?_
                        refine r_iret fe_134_193 ⟨rfl, by decide⟩ ?_
                        exact dfin (P := fun r T => Q (some (.int r)) (xst T G h)) hf hQ
              · rw [if_neg hb22] at hf
                refine r_if_f (t := 136) fe_134_129 (by decide) (Bool.eq_false_iff.mpr hb22) ?_
                refine r_iconst (v := 0) fe_134_132 (by decide) ?_
                refine r_goto (t := 148) fe_134_133 (by decide) ?_
                refine r_istore fe_134_148 (Nat.le_of_ble_eq_true rfl) rfl ?_
                refine r_iload fe_134_150 rfl ?_
                refine r_if_t (t := 185) fe_134_152 (by decide) (by decide) ?_
                refine go_weak (L0 := [.ref 64, .float 0, .int l2, .int l3, .int l4, .int (z9.2.2.1 90 (Int32.toNatClampNeg l5)), .int 0, .int l7, .int l8, .int l9, .int l10, .float 0]) (lwk_c (Or.inl rfl) (lwk_c (Or.inl rfl) (lwk_c (Or.inl rfl) (lwk_c (Or.inl rfl) (lwk_c (Or.inl rfl) (lwk_c (Or.inl rfl) (lwk_c (Or.inl rfl) (lwk_c (Or.inl rfl) (lwk_c (Or.inl rfl) (lwk_c (Or.inl rfl) (lwk_c (Or.inl rfl) (lwk_c (Or.inr rfl) (lwk_rf []))))))))))))) ?_
                exact ih.2.2.2 0 l2 l3 l4 (z9.2.2.1 90 (Int32.toNatClampNeg l5)) 0 l7 l8 l9 l10 z9.2 hf
          · rw [if_neg hb12] at hf
            refine r_if_f (t := 88) fe_134_79 (by decide) (Bool.eq_false_iff.mpr hb12) ?_
            refine r_iinc (v := (l6 + (-1))) fe_134_82 rfl rfl rfl ?_
            refine r_goto (t := 185) fe_134_85 (by decide) ?_
            refine go_weak (L0 := [.ref 64, .float 0, .int l2, .int l3, .int l4, .int l5, .int (l6 + (-1)), .int l7, .int l8, .int l9, .int l10, .float 0]) (lwk_c (Or.inl rfl) (lwk_c (Or.inl rfl) (lwk_c (Or.inl rfl) (lwk_c (Or.inl rfl) (lwk_c (Or.inl rfl) (lwk_c (Or.inl rfl) (lwk_c (Or.inl rfl) (lwk_c (Or.inl rfl) (lwk_c (Or.inl rfl) (lwk_c (Or.inl rfl) (lwk_c (Or.inl rfl) (lwk_c (Or.inl rfl) (lwk_rf []))))))))))))) ?_
            exact ih.2.2.2 0 l2 l3 l4 l5 (l6 + (-1)) l7 l8 l9 l10 z9.2 hf
        · rw [if_neg hb11] at hf
          refine r_ic_f (t := 77) fe_134_71 (by decide) (Bool.eq_false_iff.mpr hb11) ?_
          refine r_goto (t := 185) fe_134_74 (by decide) ?_
          refine go_weak (L0 := [.ref 64, .float 0, .int l2, .int l3, .int l4, .int l5, .int l6, .int l7, .int l8, .int l9, .int l10, .float 0]) (lwk_c (Or.inl rfl) (lwk_c (Or.inl rfl) (lwk_c (Or.inl rfl) (lwk_c (Or.inl rfl) (lwk_c (Or.inl rfl) (lwk_c (Or.inl rfl) (lwk_c (Or.inl rfl) (lwk_c (Or.inl rfl) (lwk_c (Or.inl rfl) (lwk_c (Or.inl rfl) (lwk_c (Or.inl rfl) (lwk_c (Or.inl rfl) (lwk_rf []))))))))))))) ?_
          exact ih.2.2.2 0 l2 l3 l4 l5 l6 l7 l8 l9 l10 z9.2 hf
    · intro l1 l2 l3 l4 l5 l6 l7 l8 l9 l10 S hf
      rw [G134e185] at hf
      unfold G134b185 at hf
      refine r_iinc (v := (l10 + 1)) fe_134_185 rfl rfl rfl ?_
      refine r_goto (t := 24) fe_134_188 (by decide) ?_
      refine go_weak (L0 := [.ref 64, .float 0, .int l2, .int l3, .int l4, .int l5, .int l6, .int l7, .int l8, .int l9, .int (l10 + 1), .float 0]) (lwk_c (Or.inl rfl) (lwk_c (Or.inl rfl) (lwk_c (Or.inl rfl) (lwk_c (Or.inl rfl) (lwk_c (Or.inl rfl) (lwk_c (Or.inl rfl) (lwk_c (Or.inl rfl) (lwk_c (Or.inl rfl) (lwk_c (Or.inl rfl) (lwk_c (Or.inl rfl) (lwk_c (Or.inl rfl) (lwk_c (Or.inl rfl) (lwk_rf []))))))))))))) ?_
      exact ih.2.1 0 l2 l3 l4 l5 l6 l7 l8 l9 (l10 + 1) S hf
theorem G134c {xs : Nat → Int32} {L9 d : Nat} {G : gS} {h : Nat → va_E} {n : Nat} {Q : Option Value → AmH → Prop} {r0 : Int32} {S0 S : xS} {l1 : Int32} {l2 : Int32} {l3 : Int32} (hf : G134 n l1 l2 l3 S = some (r0, S0)) (hQ : Q (some (.int r0)) (xst S0 G h)) : Ca (am_X xs L9) (d + 1) 134 [.ref 64, .int l1, .int l2, .int l3] (xst S G h) Q := (G134l hQ n).1 l1 l2 l3 0 0 0 0 0 0 0 S hf
def G133b0 (F : Nat → Int32 → Int32 → Int32 → Int32 → Int32 → Int32 → Int32 → xS → Option (Int32 × xS)) (n : Nat) (l1 : Int32) (l2 : Int32) (l3 : Int32) (l4 : Int32) (l5 : Int32) (l6 : Int32) (l7 : Int32) (S : xS) : Option (Int32 × xS) := ((G75 n l2 S).bind (fun z1 => (if am_if .eq z1.1 = true then some ((-1), z1.2) else ((G102 n l1 z1.2).bind (fun z4 => (if am_if .eq z4.1 = true then some ((-1), z4.2) else (if am_if .lt l3 = true then some ((-1), z4.2) else (if am_ic .le l3 2 = true then F 40 l1 l2 l3 0 (-2) (-2) 0 z4.2 else some ((-1), z4.2)))))))))
def G133b40 (F : Nat → Int32 → Int32 → Int32 → Int32 → Int32 → Int32 → Int32 → xS → Option (Int32 × xS)) (n : Nat) (l1 : Int32) (l2 : Int32) (l3 : Int32) (l4 : Int32) (l5 : Int32) (l6 : Int32) (l7 : Int32) (S : xS) : Option (Int32 × xS) := (if am_ic .ge l7 (S.1 89 0) = true then (if am_if .ne l3 = true then (if am_ic .ne l3 1 = true then some (l6, S) else some (l5, S)) else some (l4, S)) else ((G134 n l7 l2 l1 S).bind (fun z12 => ((G92 n z12.1 z12.2).bind (fun z14 => ((G117 n z12.1 z14.2).bind (fun z16 => (if am_if .eq z12.1 = true then F 40 l1 l2 l3 (l4 + z14.1) l5 l6 (l7 + 1) z16.2 else (if am_if .lt l6 = true then F 40 l1 l2 l3 (l4 + z14.1) l7 z16.1 (l7 + 1) z16.2 else (if am_ic .ge z16.1 l6 = true then F 40 l1 l2 l3 (l4 + z14.1) l5 l6 (l7 + 1) z16.2 else F 40 l1 l2 l3 (l4 + z14.1) l7 z16.1 (l7 + 1) z16.2))))))))))
def G133f : Nat → Nat → Int32 → Int32 → Int32 → Int32 → Int32 → Int32 → Int32 → xS → Option (Int32 × xS)
  | 0, _, _, _, _, _, _, _, _, _ => none
  | n + 1, c, l1, l2, l3, l4, l5, l6, l7, S => if c = 0 then G133b0 (G133f n) n l1 l2 l3 l4 l5 l6 l7 S else G133b40 (G133f n) n l1 l2 l3 l4 l5 l6 l7 S
theorem G133e0 (n : Nat) (l1 : Int32) (l2 : Int32) (l3 : Int32) (l4 : Int32) (l5 : Int32) (l6 : Int32) (l7 : Int32) (S : xS) : G133f (n + 1) 0 l1 l2 l3 l4 l5 l6 l7 S = G133b0 (G133f n) n l1 l2 l3 l4 l5 l6 l7 S := if_pos rfl
theorem G133e40 (n : Nat) (l1 : Int32) (l2 : Int32) (l3 : Int32) (l4 : Int32) (l5 : Int32) (l6 : Int32) (l7 : Int32) (S : xS) : G133f (n + 1) 40 l1 l2 l3 l4 l5 l6 l7 S = G133b40 (G133f n) n l1 l2 l3 l4 l5 l6 l7 S := if_neg (by decide)
def G133 (n : Nat) (l1 : Int32) (l2 : Int32) (l3 : Int32) (S : xS) : Option (Int32 × xS) := G133f n 0 l1 l2 l3 0 0 0 0 S
set_option maxRecDepth 20000 in
set_option maxHeartbeats 4000000 in
theorem G133l {xs : Nat → Int32} {L9 d : Nat} {G : gS} {h : Nat → va_E} {Q : Option Value → AmH → Prop} {r0 : Int32} {S0 : xS} (hQ : Q (some (.int r0)) (xst S0 G h)) : ∀ n : Nat, (∀ (l1 : Int32) (l2 : Int32) (l3 : Int32) (l4 : Int32) (l5 : Int32) (l6 : Int32) (l7 : Int32) (S : xS), G133f n 0 l1 l2 l3 l4 l5 l6 l7 S = some (r0, S0) → Go (am_X xs L9) (d + 2) 133 0 [.ref 64, .int l1, .int l2, .int l3, .float 0, .float 0, .float 0, .float 0, .float 0, .float 0] [] (xst S G h) Q) ∧ (∀ (l1 : Int32) (l2 : Int32) (l3 : Int32) (l4 : Int32) (l5 : Int32) (l6 : Int32) (l7 : Int32) (S : xS), G133f n 40 l1 l2 l3 l4 l5 l6 l7 S = some (r0, S0) → Go (am_X xs L9) (d + 2) 133 40 [.ref 64, .int l1, .int l2, .int l3, .int l4, .int l5, .int l6, .int l7, .float 0, .float 0] [] (xst S G h) Q) := by
  intro n
  induction n with
  | zero => exact ⟨fun l1 l2 l3 l4 l5 l6 l7 S hf => (by cases hf), fun l1 l2 l3 l4 l5 l6 l7 S hf => (by cases hf)⟩
  | succ n ih =>
    refine ⟨?_, ?_⟩
    · intro l1 l2 l3 l4 l5 l6 l7 S hf
      rw [G133e0] at hf
      unfold G133b0 at hf
      refine r_aload_n fe_133_0 rfl ?_
      refine r_iload_n fe_133_1 rfl ?_
      refine r_callV (as := [.int l2]) (r := []) fe_133_2 lm_11_124 md_75 rfl rfl (Nat.le_of_ble_eq_true rfl) (x_c xk_64 (by decide)) (x_lt xk_64 (by decide)) (Nat.le_of_ble_eq_true rfl) (Nat.le_of_ble_eq_true rfl) ?_
      cases hc2 : G75 n l2 S with
      | none => rw [hc2] at hf; cases hf
      | some z1 =>
        rw [hc2, Option.bind_some] at hf
        refine G75c (r0 := z1.1) (S0 := z1.2)  (hf := hc2) ?_
        by_cases hb3 : am_if .eq z1.1 = true
        · rw [if_pos hb3] at hf
          refine r_if_t (t := 24) fe_133_5 (by decide) hb3 ?_
          refine r_iconst (v := -1) fe_133_24 (by decide) ?_
          refine r_iret fe_133_25 ⟨rfl, by decide⟩ ?_
          exact dfin (P := fun r T => Q (some (.int r)) (xst T G h)) hf hQ
        · rw [if_neg hb3] at hf
          refine r_if_f (t := 24) fe_133_5 (by decide) (Bool.eq_false_iff.mpr hb3) ?_
          refine r_iload_n fe_133_8 rfl ?_
          refine r_callS (as := [.int l1]) (r := []) fe_133_9 lm_11_198 md_102 rfl rfl (Nat.le_of_ble_eq_true rfl) (Nat.le_of_ble_eq_true rfl) (Nat.le_of_ble_eq_true rfl) ?_
          cases hc5 : G102 n l1 z1.2 with
          | none => rw [hc5] at hf; cases hf
          | some z4 =>
            rw [hc5, Option.bind_some] at hf
            refine G102c (r0 := z4.1) (S0 := z4.2)  (hf := hc5) ?_
            by_cases hb6 : am_if .eq z4.1 = true
            · rw [if_pos hb6] at hf
              refine r_if_t (t := 24) fe_133_12 (by decide) hb6 ?_
              refine r_iconst (v := -1) fe_133_24 (by decide) ?_
              refine r_iret fe_133_25 ⟨rfl, by decide⟩ ?_
              exact dfin (P := fun r T => Q (some (.int r)) (xst T G h)) hf hQ
            · rw [if_neg hb6] at hf
              refine r_if_f (t := 24) fe_133_12 (by decide) (Bool.eq_false_iff.mpr hb6) ?_
              refine r_iload_n fe_133_15 rfl ?_
              by_cases hb7 : am_if .lt l3 = true
              · rw [if_pos hb7] at hf
                refine r_if_t (t := 24) fe_133_16 (by decide) hb7 ?_
                refine r_iconst (v := -1) fe_133_24 (by decide) ?_
                refine r_iret fe_133_25 ⟨rfl, by decide⟩ ?_
                exact dfin (P := fun r T => Q (some (.int r)) (xst T G h)) hf hQ
              · rw [if_neg hb7] at hf
                refine r_if_f (t := 24) fe_133_16 (by decide) (Bool.eq_false_iff.mpr hb7) ?_
                refine r_iload_n fe_133_19 rfl ?_
                refine r_iconst (v := 2) fe_133_20 (by decide) ?_
                by_cases hb8 : am_ic .le l3 2 = true
                · rw [if_pos hb8] at hf
                  refine r_ic_t (t := 26) fe_133_21 (by decide) hb8 ?_
                  refine r_iconst (v := 0) fe_133_26 (by decide) ?_
                  refine r_istore fe_133_27 (Nat.le_of_ble_eq_true rfl) rfl ?_
                  refine r_bipush (v := -2) fe_133_29 (by decide) ?_
                  refine r_istore fe_133_31 (Nat.le_of_ble_eq_true rfl) rfl ?_
                  refine r_bipush (v := -2) fe_133_33 (by decide) ?_
                  refine r_istore fe_133_35 (Nat.le_of_ble_eq_true rfl) rfl ?_
                  refine r_iconst (v := 0) fe_133_37 (by decide) ?_
                  refine r_istore fe_133_38 (Nat.le_of_ble_eq_true rfl) rfl ?_
                  refine go_weak (L0 := [.ref 64, .int l1, .int l2, .int l3, .int 0, .int (-2), .int (-2), .int 0, .float 0, .float 0]) (lwk_c (Or.inl rfl) (lwk_c (Or.inl rfl) (lwk_c (Or.inl rfl) (lwk_c (Or.inl rfl) (lwk_c (Or.inl rfl) (lwk_c (Or.inl rfl) (lwk_c (Or.inl rfl) (lwk_c (Or.inl rfl) (lwk_c (Or.inl rfl) (lwk_c (Or.inl rfl) (lwk_rf []))))))))))) ?_
                  exact ih.2 l1 l2 l3 0 (-2) (-2) 0 z4.2 hf
                · rw [if_neg hb8] at hf
                  refine r_ic_f (t := 26) fe_133_21 (by decide) (Bool.eq_false_iff.mpr hb8) ?_
                  refine r_iconst (v := -1) fe_133_24 (by decide) ?_
                  refine r_iret fe_133_25 ⟨rfl, by decide⟩ ?_
                  exact dfin (P := fun r T => Q (some (.int r)) (xst T G h)) hf hQ
    · intro l1 l2 l3 l4 l5 l6 l7 S hf
      rw [G133e40] at hf
      unfold G133b40 at hf
      refine r_iload fe_133_40 rfl ?_
      refine r_aload_n fe_133_42 rfl ?_
      refine r_getf (v := .ref 88) fe_133_43 lf_11_43 (x_c xk_64 (by decide)) (x_lt xk_64 (by decide)) rfl ?_
      refine r_getf (v := .ref 89) fe_133_46 lf_11_83 (x_c xk_88 (by decide)) (x_lt xk_88 (by decide)) rfl ?_
      refine r_getf (v := .int (S.1 89 0)) fe_133_49 lf_11_257 (x_c xk_89 (by decide)) (x_lt xk_89 (by decide)) rfl ?_
      by_cases hb9 : am_ic .ge l7 (S.1 89 0) = true
      · rw [if_pos hb9] at hf
        refine r_ic_t (t := 113) fe_133_52 (by decide) hb9 ?_
        refine r_iload_n fe_133_113 rfl ?_
        by_cases hb10 : am_if .ne l3 = true
        · rw [if_pos hb10] at hf
          refine r_if_t (t := 120) fe_133_114 (by decide) hb10 ?_
          refine r_iload_n fe_133_120 rfl ?_
          refine r_iconst (v := 1) fe_133_121 (by decide) ?_
          by_cases hb11 : am_ic .ne l3 1 = true
          · rw [if_pos hb11] at hf
            refine r_ic_t (t := 130) fe_133_122 (by decide) hb11 ?_
            refine r_iload fe_133_130 rfl ?_
            refine r_iret fe_133_132 ⟨rfl, by decide⟩ ?_
            exact dfin (P := fun r T => Q (some (.int r)) (xst T G h)) hf hQ
          · rw [if_neg hb11] at hf
            refine r_ic_f (t := 130) fe_133_122 (by decide) (Bool.eq_false_iff.mpr hb11) ?_
            refine r_iload fe_133_125 rfl ?_
            refine r_goto (t := 132) fe_133_127 (by decide) ?_
            refine r_iret fe_133_132 ⟨rfl, by decide⟩ ?_
            exact dfin (P := fun r T => Q (some (.int r)) (xst T G h)) hf hQ
        · rw [if_neg hb10] at hf
          refine r_if_f (t := 120) fe_133_114 (by decide) (Bool.eq_false_iff.mpr hb10) ?_
          refine r_iload fe_133_117 rfl ?_
          refine r_iret fe_133_119 ⟨rfl, by decide⟩ ?_
          exact dfin (P := fun r T => Q (some (.int r)) (xst T G h)) hf hQ
      · rw [if_neg hb9] at hf
        refine r_ic_f (t := 113) fe_133_52 (by decide) (Bool.eq_false_iff.mpr hb9) ?_
        refine r_aload_n fe_133_55 rfl ?_
        refine r_iload fe_133_56 rfl ?_
        refine r_iload_n fe_133_58 rfl ?_
        refine r_iload_n fe_133_59 rfl ?_
        refine r_callV (as := [.int l7, .int l2, .int l1]) (r := []) fe_133_60 lm_11_270 md_134 rfl rfl (Nat.le_of_ble_eq_true rfl) (x_c xk_64 (by decide)) (x_lt xk_64 (by decide)) (Nat.le_of_ble_eq_true rfl) (Nat.le_of_ble_eq_true rfl) ?_
        cases hc13 : G134 n l7 l2 l1 S with
        | none => rw [hc13] at hf; cases hf
        | some z12 =>
          rw [hc13, Option.bind_some] at hf
          refine G134c (r0 := z12.1) (S0 := z12.2)  (hf := hc13) ?_
          refine r_istore fe_133_63 (Nat.le_of_ble_eq_true rfl) rfl ?_
          refine r_iload fe_133_65 rfl ?_
          refine r_iload fe_133_67 rfl ?_
          refine r_callS (as := [.int z12.1]) (r := [.int l4]) fe_133_69 lm_11_249 md_92 rfl rfl (Nat.le_of_ble_eq_true rfl) (Nat.le_of_ble_eq_true rfl) (Nat.le_of_ble_eq_true rfl) ?_
          cases hc15 : G92 n z12.1 z12.2 with
          | none => rw [hc15] at hf; cases hf
          | some z14 =>
            rw [hc15, Option.bind_some] at hf
            refine G92c (r0 := z14.1) (S0 := z14.2)  (hf := hc15) ?_
            refine r_iadd (v := (l4 + z14.1)) fe_133_72 rfl ?_
            refine r_istore fe_133_73 (Nat.le_of_ble_eq_true rfl) rfl ?_
            refine r_iload fe_133_75 rfl ?_
            refine r_callS (as := [.int z12.1]) (r := []) fe_133_77 lm_11_274 md_117 rfl rfl (Nat.le_of_ble_eq_true rfl) (Nat.le_of_ble_eq_true rfl) (Nat.le_of_ble_eq_true rfl) ?_
            cases hc17 : G117 n z12.1 z14.2 with
            | none => rw [hc17] at hf; cases hf
            | some z16 =>
              rw [hc17, Option.bind_some] at hf
              refine G117c (r0 := z16.1) (S0 := z16.2)  (hf := hc17) ?_
              refine r_istore fe_133_80 (Nat.le_of_ble_eq_true rfl) rfl ?_
              refine r_iload fe_133_82 rfl ?_
              by_cases hb18 : am_if .eq z12.1 = true
              · rw [if_pos hb18] at hf
                refine r_if_t (t := 107) fe_133_84 (by decide) hb18 ?_
                refine r_iinc (v := (l7 + 1)) fe_133_107 rfl rfl rfl ?_
                refine r_goto (t := 40) fe_133_110 (by decide) ?_
                refine go_weak (L0 := [.ref 64, .int l1, .int l2, .int l3, .int (l4 + z14.1), .int l5, .int l6, .int (l7 + 1), .float 0, .float 0]) (lwk_c (Or.inl rfl) (lwk_c (Or.inl rfl) (lwk_c (Or.inl rfl) (lwk_c (Or.inl rfl) (lwk_c (Or.inl rfl) (lwk_c (Or.inl rfl) (lwk_c (Or.inl rfl) (lwk_c (Or.inl rfl) (lwk_c (Or.inr rfl) (lwk_c (Or.inr rfl) (lwk_rf []))))))))))) ?_
                exact ih.2 l1 l2 l3 (l4 + z14.1) l5 l6 (l7 + 1) z16.2 hf
              · rw [if_neg hb18] at hf
                refine r_if_f (t := 107) fe_133_84 (by decide) (Bool.eq_false_iff.mpr hb18) ?_
                refine r_iload fe_133_87 rfl ?_
                by_cases hb19 : am_if .lt l6 = true
                · rw [if_pos hb19] at hf
                  refine r_if_t (t := 99) fe_133_89 (by decide) hb19 ?_
                  refine r_iload fe_133_99 rfl ?_
                  refine r_istore fe_133_101 (Nat.le_of_ble_eq_true rfl) rfl ?_
                  refine r_iload fe_133_103 rfl ?_
                  refine r_istore fe_133_105 (Nat.le_of_ble_eq_true rfl) rfl ?_
                  refine r_iinc (v := (l7 + 1)) fe_133_107 rfl rfl rfl ?_
                  refine r_goto (t := 40) fe_133_110 (by decide) ?_
                  refine go_weak (L0 := [.ref 64, .int l1, .int l2, .int l3, .int (l4 + z14.1), .int l7, .int z16.1, .int (l7 + 1), .float 0, .float 0]) (lwk_c (Or.inl rfl) (lwk_c (Or.inl rfl) (lwk_c (Or.inl rfl) (lwk_c (Or.inl rfl) (lwk_c (Or.inl rfl) (lwk_c (Or.inl rfl) (lwk_c (Or.inl rfl) (lwk_c (Or.inl rfl) (lwk_c (Or.inr rfl) (lwk_c (Or.inr rfl) (lwk_rf []))))))))))) ?_
                  exact ih.2 l1 l2 l3 (l4 + z14.1) l7 z16.1 (l7 + 1) z16.2 hf
                · rw [if_neg hb19] at hf
                  refine r_if_f (t := 99) fe_133_89 (by decide) (Bool.eq_false_iff.mpr hb19) ?_
                  refine r_iload fe_133_92 rfl ?_
                  refine r_iload fe_133_94 rfl ?_
                  by_cases hb20 : am_ic .ge z16.1 l6 = true
                  · rw [if_pos hb20] at hf
                    refine r_ic_t (t := 107) fe_133_96 (by decide) hb20 ?_
                    refine r_iinc (v := (l7 + 1)) fe_133_107 rfl rfl rfl ?_
                    refine r_goto (t := 40) fe_133_110 (by decide) ?_
                    refine go_weak (L0 := [.ref 64, .int l1, .int l2, .int l3, .int (l4 + z14.1), .int l5, .int l6, .int (l7 + 1), .float 0, .float 0]) (lwk_c (Or.inl rfl) (lwk_c (Or.inl rfl) (lwk_c (Or.inl rfl) (lwk_c (Or.inl rfl) (lwk_c (Or.inl rfl) (lwk_c (Or.inl rfl) (lwk_c (Or.inl rfl) (lwk_c (Or.inl rfl) (lwk_c (Or.inr rfl) (lwk_c (Or.inr rfl) (lwk_rf []))))))))))) ?_
                    exact ih.2 l1 l2 l3 (l4 + z14.1) l5 l6 (l7 + 1) z16.2 hf
                  · rw [if_neg hb20] at hf
                    refine r_ic_f (t := 107) fe_133_96 (by decide) (Bool.eq_false_iff.mpr hb20) ?_
                    refine r_iload fe_133_99 rfl ?_
                    refine r_istore fe_133_101 (Nat.le_of_ble_eq_true rfl) rfl ?_
                    refine r_iload fe_133_103 rfl ?_
                    refine r_istore fe_133_105 (Nat.le_of_ble_eq_true rfl) rfl ?_
                    refine r_iinc (v := (l7 + 1)) fe_133_107 rfl rfl rfl ?_
                    refine r_goto (t := 40) fe_133_110 (by decide) ?_
                    refine go_weak (L0 := [.ref 64, .int l1, .int l2, .int l3, .int (l4 + z14.1), .int l7, .int z16.1, .int (l7 + 1), .float 0, .float 0]) (lwk_c (Or.inl rfl) (lwk_c (Or.inl rfl) (lwk_c (Or.inl rfl) (lwk_c (Or.inl rfl) (lwk_c (Or.inl rfl) (lwk_c (Or.inl rfl) (lwk_c (Or.inl rfl) (lwk_c (Or.inl rfl) (lwk_c (Or.inr rfl) (lwk_c (Or.inr rfl) (lwk_rf []))))))))))) ?_
                    exact ih.2 l1 l2 l3 (l4 + z14.1) l7 z16.1 (l7 + 1) z16.2 hf
theorem G133c {xs : Nat → Int32} {L9 d : Nat} {G : gS} {h : Nat → va_E} {n : Nat} {Q : Option Value → AmH → Prop} {r0 : Int32} {S0 S : xS} {l1 : Int32} {l2 : Int32} {l3 : Int32} (hf : G133 n l1 l2 l3 S = some (r0, S0)) (hQ : Q (some (.int r0)) (xst S0 G h)) : Ca (am_X xs L9) (d + 2) 133 [.ref 64, .int l1, .int l2, .int l3] (xst S G h) Q := (G133l hQ n).1 l1 l2 l3 0 0 0 0 S hf
def G136b0 (wb : Nat) (lo : Option Nat) (ln : Nat) (F : Nat → Int32 → Int32 → xS → Option (Unit × xS)) (n : Nat) (l1 : Int32) (l2 : Int32) (S : xS) : Option (Unit × xS) := F 2 l1 0 S
def G136b2 (wb : Nat) (lo : Option Nat) (ln : Nat) (F : Nat → Int32 → Int32 → xS → Option (Unit × xS)) (n : Nat) (l1 : Int32) (l2 : Int32) (S : xS) : Option (Unit × xS) := (if am_ic .ge l2 l1 = true then some ((), S) else (if S.2.2.2 109 4 = some wb then ((G90 wb n 1 S).bind (fun z3 => (if am_if .ne z3.1 = true then ((G86 wb lo ln n  z3.2).bind (fun z6 => F 2 l1 (l2 + 1) z6.2)) else ((G100 wb lo ln n (l1 - l2) z3.2).bind (fun z8 => some ((), z8.2)))))) else none))
def G136f (wb : Nat) (lo : Option Nat) (ln : Nat) : Nat → Nat → Int32 → Int32 → xS → Option (Unit × xS)
  | 0, _, _, _, _ => none
  | n + 1, c, l1, l2, S => if c = 0 then G136b0 wb lo ln (G136f wb lo ln n) n l1 l2 S else G136b2 wb lo ln (G136f wb lo ln n) n l1 l2 S
theorem G136e0 (wb : Nat) (lo : Option Nat) (ln : Nat) (n : Nat) (l1 : Int32) (l2 : Int32) (S : xS) : G136f wb lo ln (n + 1) 0 l1 l2 S = G136b0 wb lo ln (G136f wb lo ln n) n l1 l2 S := if_pos rfl
theorem G136e2 (wb : Nat) (lo : Option Nat) (ln : Nat) (n : Nat) (l1 : Int32) (l2 : Int32) (S : xS) : G136f wb lo ln (n + 1) 2 l1 l2 S = G136b2 wb lo ln (G136f wb lo ln n) n l1 l2 S := if_neg (by decide)
def G136 (wb : Nat) (lo : Option Nat) (ln : Nat) (n : Nat) (l1 : Int32) (S : xS) : Option (Unit × xS) := G136f wb lo ln n 0 l1 0 S
set_option maxRecDepth 20000 in
set_option maxHeartbeats 4000000 in
theorem G136l {xs : Nat → Int32} {L9 d : Nat} {G : gS} {h : Nat → va_E} {wb : Nat} {lo : Option Nat} {ln : Nat} {Q : Option Value → AmH → Prop} {r0 : Unit} {S0 : xS} (hw : wB G wb = true) (hl : lwB G lo ln = true) (hQ : Q none (xst S0 G h)) : ∀ n : Nat, (∀ (l1 : Int32) (l2 : Int32) (S : xS), G136f wb lo ln n 0 l1 l2 S = some (r0, S0) → Go (am_X xs L9) (d + 5) 136 0 [.ref 109, .int l1, .float 0] [] (xst S G h) Q) ∧ (∀ (l1 : Int32) (l2 : Int32) (S : xS), G136f wb lo ln n 2 l1 l2 S = some (r0, S0) → Go (am_X xs L9) (d + 5) 136 2 [.ref 109, .int l1, .int l2] [] (xst S G h) Q) := by
  intro n
  induction n with
  | zero => exact ⟨fun l1 l2 S hf => (by cases hf), fun l1 l2 S hf => (by cases hf)⟩
  | succ n ih =>
    refine ⟨?_, ?_⟩
    · intro l1 l2 S hf
      rw [G136e0] at hf
      unfold G136b0 at hf
      refine r_iconst (v := 0) fe_136_0 (by decide) ?_
      refine r_istore_n fe_136_1 (Nat.le_of_ble_eq_true rfl) rfl ?_
      refine go_weak (L0 := [.ref 109, .int l1, .int 0]) (lwk_c (Or.inl rfl) (lwk_c (Or.inl rfl) (lwk_c (Or.inl rfl) (lwk_rf [])))) ?_
      exact ih.2 l1 0 S hf
    · intro l1 l2 S hf
      rw [G136e2] at hf
      unfold G136b2 at hf
      refine r_iload_n fe_136_2 rfl ?_
      refine r_iload_n fe_136_3 rfl ?_
      by_cases hb1 : am_ic .ge l2 l1 = true
      · rw [if_pos hb1] at hf
        refine r_ic_t (t := 36) fe_136_4 (by decide) hb1 ?_
        refine r_vret fe_136_36 ?_
        exact dfin (P := fun _ T => Q none (xst T G h)) hf hQ
      · rw [if_neg hb1] at hf
        refine r_ic_f (t := 36) fe_136_4 (by decide) (Bool.eq_false_iff.mpr hb1) ?_
        refine r_aload_n fe_136_7 rfl ?_
        by_cases hm2 : S.2.2.2 109 4 = some wb
        rotate_left
        · rw [if_neg hm2] at hf; cases hf
        rw [if_pos hm2] at hf
        refine r_getf (v := .ref wb) fe_136_8 lf_7_31 (x_c xk_109 (by decide)) (x_lt xk_109 (by decide)) (by show some (va_rf _) = _; rw [hm2]; rfl) ?_
        refine r_iconst (v := 1) fe_136_11 (by decide) ?_
        refine r_callV (as := [.int 1]) (r := []) fe_136_12 lm_7_60 md_90 rfl rfl (Nat.le_of_ble_eq_true rfl) (x_c (wk0 hw) (by decide)) (x_lt (wk0 hw) (by decide)) (Nat.le_of_ble_eq_true rfl) (Nat.le_of_ble_eq_true rfl) ?_
        cases hc4 : G90 wb n 1 S with
        | none => rw [hc4] at hf; cases hf
        | some z3 =>
          rw [hc4, Option.bind_some] at hf
          refine G90c (r0 := z3.1) (S0 := z3.2) (h0 := hw) (hf := hc4) ?_
          by_cases hb5 : am_if .ne z3.1 = true
          · rw [if_pos hb5] at hf
            refine r_if_t (t := 26) fe_136_15 (by decide) hb5 ?_
            refine r_aload_n fe_136_26 rfl ?_
            refine r_callV (as := []) (r := []) fe_136_27 lm_7_68 md_86 rfl rfl (Nat.le_of_ble_eq_true rfl) (x_c xk_109 (by decide)) (x_lt xk_109 (by decide)) (Nat.le_of_ble_eq_true rfl) (Nat.le_of_ble_eq_true rfl) ?_
            cases hc7 : G86 wb lo ln n  z3.2 with
            | none => rw [hc7] at hf; cases hf
            | some z6 =>
              rw [hc7, Option.bind_some] at hf
              refine G86c (r0 := z6.1) (S0 := z6.2) (hw := hw) (hl := hl) (hf := hc7) ?_
              refine r_iinc (v := (l2 + 1)) fe_136_30 rfl rfl rfl ?_
              refine r_goto (t := 2) fe_136_33 (by decide) ?_
              refine go_weak (L0 := [.ref 109, .int l1, .int (l2 + 1)]) (lwk_c (Or.inl rfl) (lwk_c (Or.inl rfl) (lwk_c (Or.inl rfl) (lwk_rf [])))) ?_
              exact ih.2 l1 (l2 + 1) z6.2 hf
          · rw [if_neg hb5] at hf
            refine r_if_f (t := 26) fe_136_15 (by decide) (Bool.eq_false_iff.mpr hb5) ?_
            refine r_aload_n fe_136_18 rfl ?_
            refine r_iload_n fe_136_19 rfl ?_
            refine r_iload_n fe_136_20 rfl ?_
            refine r_isub (v := (l1 - l2)) fe_136_21 rfl ?_
            refine r_callV (as := [.int (l1 - l2)]) (r := []) fe_136_22 lm_7_64 md_100 rfl rfl (Nat.le_of_ble_eq_true rfl) (x_c xk_109 (by decide)) (x_lt xk_109 (by decide)) (Nat.le_of_ble_eq_true rfl) (Nat.le_of_ble_eq_true rfl) ?_
            cases hc9 : G100 wb lo ln n (l1 - l2) z3.2 with
            | none => rw [hc9] at hf; cases hf
            | some z8 =>
              rw [hc9, Option.bind_some] at hf
              refine G100c (r0 := z8.1) (S0 := z8.2) (hw := hw) (hl := hl) (hf := hc9) ?_
              refine r_vret fe_136_25 ?_
              exact dfin (P := fun _ T => Q none (xst T G h)) hf hQ
theorem G136c {xs : Nat → Int32} {L9 d : Nat} {G : gS} {h : Nat → va_E} {wb : Nat} {lo : Option Nat} {ln : Nat} {n : Nat} {Q : Option Value → AmH → Prop} {r0 : Unit} {S0 S : xS} {l1 : Int32} (hw : wB G wb = true) (hl : lwB G lo ln = true) (hf : G136 wb lo ln n l1 S = some (r0, S0)) (hQ : Q none (xst S0 G h)) : Ca (am_X xs L9) (d + 5) 136 [.ref 109, .int l1] (xst S G h) Q := (G136l hw hl hQ n).1 l1 0 S hf
def G137b0 (l0 : Nat) (F : Nat → Int32 → Int32 → Int32 → xS → Option (Int32 × xS)) (n : Nat) (l1 : Int32) (l2 : Int32) (l3 : Int32) (S : xS) : Option (Int32 × xS) := F 4 l1 0 0 S
def G137b4 (l0 : Nat) (F : Nat → Int32 → Int32 → Int32 → xS → Option (Int32 × xS)) (n : Nat) (l1 : Int32) (l2 : Int32) (l3 : Int32) (S : xS) : Option (Int32 × xS) := (if am_ic .ge l3 (S.1 l0 1) = true then some (l2, S) else (if ¬ (l3 < 0 ∨ 13 ≤ (l3).toNatClampNeg) then (if am_ic .ne (S.2.1 (l0 + 6) (Int32.toNatClampNeg l3)) l1 = true then F 4 l1 l2 (l3 + 1) S else F 4 l1 (l2 + 1) (l3 + 1) S) else none))
def G137f (l0 : Nat) : Nat → Nat → Int32 → Int32 → Int32 → xS → Option (Int32 × xS)
  | 0, _, _, _, _, _ => none
  | n + 1, c, l1, l2, l3, S => if c = 0 then G137b0 l0 (G137f l0 n) n l1 l2 l3 S else G137b4 l0 (G137f l0 n) n l1 l2 l3 S
theorem G137e0 (l0 : Nat) (n : Nat) (l1 : Int32) (l2 : Int32) (l3 : Int32) (S : xS) : G137f l0 (n + 1) 0 l1 l2 l3 S = G137b0 l0 (G137f l0 n) n l1 l2 l3 S := if_pos rfl
theorem G137e4 (l0 : Nat) (n : Nat) (l1 : Int32) (l2 : Int32) (l3 : Int32) (S : xS) : G137f l0 (n + 1) 4 l1 l2 l3 S = G137b4 l0 (G137f l0 n) n l1 l2 l3 S := if_neg (by decide)
def G137 (l0 : Nat) (n : Nat) (l1 : Int32) (S : xS) : Option (Int32 × xS) := G137f l0 n 0 l1 0 0 S
set_option maxRecDepth 20000 in
set_option maxHeartbeats 4000000 in
theorem G137l {xs : Nat → Int32} {L9 d : Nat} {G : gS} {h : Nat → va_E} {l0 : Nat} {Q : Option Value → AmH → Prop} {r0 : Int32} {S0 : xS} (h0 : wB G l0 = true) (hQ : Q (some (.int r0)) (xst S0 G h)) : ∀ n : Nat, (∀ (l1 : Int32) (l2 : Int32) (l3 : Int32) (S : xS), G137f l0 n 0 l1 l2 l3 S = some (r0, S0) → Go (am_X xs L9) (d + 0) 137 0 [.ref l0, .int l1, .float 0, .float 0] [] (xst S G h) Q) ∧ (∀ (l1 : Int32) (l2 : Int32) (l3 : Int32) (S : xS), G137f l0 n 4 l1 l2 l3 S = some (r0, S0) → Go (am_X xs L9) (d + 0) 137 4 [.ref l0, .int l1, .int l2, .int l3] [] (xst S G h) Q) := by
  intro n
  induction n with
  | zero => exact ⟨fun l1 l2 l3 S hf => (by cases hf), fun l1 l2 l3 S hf => (by cases hf)⟩
  | succ n ih =>
    refine ⟨?_, ?_⟩
    · intro l1 l2 l3 S hf
      rw [G137e0] at hf
      unfold G137b0 at hf
      refine r_iconst (v := 0) fe_137_0 (by decide) ?_
      refine r_istore_n fe_137_1 (Nat.le_of_ble_eq_true rfl) rfl ?_
      refine r_iconst (v := 0) fe_137_2 (by decide) ?_
      refine r_istore_n fe_137_3 (Nat.le_of_ble_eq_true rfl) rfl ?_
      refine go_weak (L0 := [.ref l0, .int l1, .int 0, .int 0]) (lwk_c (Or.inl rfl) (lwk_c (Or.inl rfl) (lwk_c (Or.inl rfl) (lwk_c (Or.inl rfl) (lwk_rf []))))) ?_
      exact ih.2 l1 0 0 S hf
    · intro l1 l2 l3 S hf
      rw [G137e4] at hf
      unfold G137b4 at hf
      refine r_iload_n fe_137_4 rfl ?_
      refine r_aload_n fe_137_5 rfl ?_
      refine r_getf (v := .int (S.1 l0 1)) fe_137_6 lf_9_15 (x_c (wk0 h0) (by decide)) (x_lt (wk0 h0) (by decide)) rfl ?_
      by_cases hb1 : am_ic .ge l3 (S.1 l0 1) = true
      · rw [if_pos hb1] at hf
        refine r_ic_t (t := 31) fe_137_9 (by decide) hb1 ?_
        refine r_iload_n fe_137_31 rfl ?_
        refine r_iret fe_137_32 ⟨rfl, by decide⟩ ?_
        exact dfin (P := fun r T => Q (some (.int r)) (xst T G h)) hf hQ
      · rw [if_neg hb1] at hf
        refine r_ic_f (t := 31) fe_137_9 (by decide) (Bool.eq_false_iff.mpr hb1) ?_
        refine r_aload_n fe_137_12 rfl ?_
        refine r_getf (v := .ref (l0 + 6)) fe_137_13 lf_9_37 (x_c (wk0 h0) (by decide)) (x_lt (wk0 h0) (by decide)) rfl ?_
        refine r_iload_n fe_137_16 rfl ?_
        by_cases hg2 : ¬ (l3 < 0 ∨ 13 ≤ (l3).toNatClampNeg)
        rotate_left
        · rw [if_neg hg2] at hf; cases hf
        rw [if_pos hg2] at hf
        refine r_iald (j := (Int32.toNatClampNeg l3)) (v := S.2.1 (l0 + 6) (Int32.toNatClampNeg l3)) fe_137_17 (x_c (wk6 h0) (by decide)) (x_lt (wk6 h0) (by decide)) (fun z => hg2 (Or.inl z)) rfl (fun z => hg2 (Or.inr z)) rfl ?_
        refine r_iload_n fe_137_18 rfl ?_
        by_cases hb3 : am_ic .ne (S.2.1 (l0 + 6) (Int32.toNatClampNeg l3)) l1 = true
        · rw [if_pos hb3] at hf
          refine r_ic_t (t := 25) fe_137_19 (by decide) hb3 ?_
          refine r_iinc (v := (l3 + 1)) fe_137_25 rfl rfl rfl ?_
          refine r_goto (t := 4) fe_137_28 (by decide) ?_
          refine go_weak (L0 := [.ref l0, .int l1, .int l2, .int (l3 + 1)]) (lwk_c (Or.inl rfl) (lwk_c (Or.inl rfl) (lwk_c (Or.inl rfl) (lwk_c (Or.inl rfl) (lwk_rf []))))) ?_
          exact ih.2 l1 l2 (l3 + 1) S hf
        · rw [if_neg hb3] at hf
          refine r_ic_f (t := 25) fe_137_19 (by decide) (Bool.eq_false_iff.mpr hb3) ?_
          refine r_iinc (v := (l2 + 1)) fe_137_22 rfl rfl rfl ?_
          refine r_iinc (v := (l3 + 1)) fe_137_25 rfl rfl rfl ?_
          refine r_goto (t := 4) fe_137_28 (by decide) ?_
          refine go_weak (L0 := [.ref l0, .int l1, .int (l2 + 1), .int (l3 + 1)]) (lwk_c (Or.inl rfl) (lwk_c (Or.inl rfl) (lwk_c (Or.inl rfl) (lwk_c (Or.inl rfl) (lwk_rf []))))) ?_
          exact ih.2 l1 (l2 + 1) (l3 + 1) S hf
theorem G137c {xs : Nat → Int32} {L9 d : Nat} {G : gS} {h : Nat → va_E} {l0 : Nat} {n : Nat} {Q : Option Value → AmH → Prop} {r0 : Int32} {S0 S : xS} {l1 : Int32} (h0 : wB G l0 = true) (hf : G137 l0 n l1 S = some (r0, S0)) (hQ : Q (some (.int r0)) (xst S0 G h)) : Ca (am_X xs L9) (d + 0) 137 [.ref l0, .int l1] (xst S G h) Q := (G137l h0 hQ n).1 l1 0 0 S hf
