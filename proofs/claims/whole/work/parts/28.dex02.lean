def G64b0 (F : Nat → xS → Option (Int32 × xS)) (n : Nat)  (S : xS) : Option (Int32 × xS) := ((G23 n  S).bind (fun z1 => (if am_ic .lt z1.1 48 = true then ((G22 n 8 z1.2).bind (fun z4 => (if am_ic .ne z4.1 (-1) = true then ((G65 n (z4.2.1 65 3) z4.2).bind (fun z7 => (if am_if .ne z7.1 = true then ((G62 n ((-1) - z4.1) z7.2).bind (fun z10 => some (1, z10.2))) else some (0, z7.2)))) else some (0, z4.2)))) else (if am_ic .gt z1.1 57 = true then ((G22 n 8 z1.2).bind (fun z13 => (if am_ic .ne z13.1 (-1) = true then ((G65 n (z13.2.1 65 3) z13.2).bind (fun z16 => (if am_if .ne z16.1 = true then ((G62 n ((-1) - z13.1) z16.2).bind (fun z19 => some (1, z19.2))) else some (0, z16.2)))) else some (0, z13.2)))) else ((G41 n  z1.2).bind (fun z21 => (if am_ic .ne z21.1 (-1) = true then ((G65 n (z21.2.1 65 3) z21.2).bind (fun z24 => (if am_if .ne z24.1 = true then ((G62 n z21.1 z24.2).bind (fun z27 => some (1, z27.2))) else some (0, z24.2)))) else some (0, z21.2))))))))
def G64f : Nat → Nat → xS → Option (Int32 × xS)
  | 0, _, _ => none
  | n + 1, c, S => G64b0 (G64f n) n  S
theorem G64e0 (n : Nat)  (S : xS) : G64f (n + 1) 0  S = G64b0 (G64f n) n  S := rfl
def G64 (n : Nat)  (S : xS) : Option (Int32 × xS) := G64f n 0  S
set_option maxRecDepth 20000 in
set_option maxHeartbeats 4000000 in
theorem G64l {xs : Nat → Int32} {L9 d : Nat} {G : gS} {h : Nat → va_E} {Q : Option Value → AmH → Prop} {r0 : Int32} {S0 : xS} (hQ : Q (some (.int r0)) (xst S0 G h)) : ∀ n : Nat, (∀ (S : xS), G64f n 0  S = some (r0, S0) → Go (am_X xs L9) (d + 6) 64 0 [.ref 85, .ref 65, .float 0, .float 0, .float 0] [] (xst S G h) Q) := by
  intro n
  induction n with
  | zero => exact fun  S hf => (by cases hf)
  | succ n ih =>
    intro  S hf
    rw [G64e0] at hf
    unfold G64b0 at hf
    refine r_aload_n fe_64_0 rfl ?_
    refine r_callV (as := []) (r := []) fe_64_1 lm_6_80 md_23 rfl rfl (Nat.le_of_ble_eq_true rfl) (x_c xk_65 (by decide)) (x_lt xk_65 (by decide)) (Nat.le_of_ble_eq_true rfl) (Nat.le_of_ble_eq_true rfl) ?_
    cases hc2 : G23 n  S with
    | none => rw [hc2] at hf; cases hf
    | some z1 =>
      rw [hc2, Option.bind_some] at hf
      refine G23c (r0 := z1.1) (S0 := z1.2)  (hf := hc2) ?_
      refine r_istore_n fe_64_4 (Nat.le_of_ble_eq_true rfl) rfl ?_
      refine r_iload_n fe_64_5 rfl ?_
      refine r_bipush (v := 48) fe_64_6 (by decide) ?_
      by_cases hb3 : am_ic .lt z1.1 48 = true
      · rw [if_pos hb3] at hf
        refine r_ic_t (t := 29) fe_64_8 (by decide) hb3 ?_
        refine r_aload_n fe_64_29 rfl ?_
        refine r_ldcS fe_64_30 lk_6_117 ?_
        refine r_callV (as := [.ref 8]) (r := []) fe_64_32 lm_6_40 md_22 rfl rfl (Nat.le_of_ble_eq_true rfl) (x_c xk_65 (by decide)) (x_lt xk_65 (by decide)) (Nat.le_of_ble_eq_true rfl) (Nat.le_of_ble_eq_true rfl) ?_
        cases hc5 : G22 n 8 z1.2 with
        | none => rw [hc5] at hf; cases hf
        | some z4 =>
          rw [hc5, Option.bind_some] at hf
          refine G22c (r0 := z4.1) (S0 := z4.2)  (hf := hc5) ?_
          refine r_istore fe_64_35 (Nat.le_of_ble_eq_true rfl) rfl ?_
          refine r_iload fe_64_37 rfl ?_
          refine r_iconst (v := -1) fe_64_39 (by decide) ?_
          by_cases hb6 : am_ic .ne z4.1 (-1) = true
          · rw [if_pos hb6] at hf
            refine r_ic_t (t := 45) fe_64_40 (by decide) hb6 ?_
            refine r_iconst (v := -1) fe_64_45 (by decide) ?_
            refine r_iload fe_64_46 rfl ?_
            refine r_isub (v := ((-1) - z4.1)) fe_64_48 rfl ?_
            refine r_istore_n fe_64_49 (Nat.le_of_ble_eq_true rfl) rfl ?_
            refine r_aload_n fe_64_50 rfl ?_
            refine r_aload_n fe_64_51 rfl ?_
            refine r_aload_n fe_64_52 rfl ?_
            refine r_getf (v := .int (z4.2.1 65 3)) fe_64_53 lf_6_44 (x_c xk_65 (by decide)) (x_lt xk_65 (by decide)) rfl ?_
            refine r_callV (as := [.ref 65, .int (z4.2.1 65 3)]) (r := []) fe_64_56 lm_6_97 md_65 rfl rfl (Nat.le_of_ble_eq_true rfl) (x_c xk_85 (by decide)) (x_lt xk_85 (by decide)) (Nat.le_of_ble_eq_true rfl) (Nat.le_of_ble_eq_true rfl) ?_
            cases hc8 : G65 n (z4.2.1 65 3) z4.2 with
            | none => rw [hc8] at hf; cases hf
            | some z7 =>
              rw [hc8, Option.bind_some] at hf
              refine G65c (r0 := z7.1) (S0 := z7.2)  (hf := hc8) ?_
              by_cases hb9 : am_if .ne z7.1 = true
              · rw [if_pos hb9] at hf
                refine r_if_t (t := 64) fe_64_59 (by decide) hb9 ?_
                refine r_aload_n fe_64_64 rfl ?_
                refine r_iload_n fe_64_65 rfl ?_
                refine r_callV (as := [.int ((-1) - z4.1)]) (r := []) fe_64_66 lm_6_55 md_62 rfl rfl (Nat.le_of_ble_eq_true rfl) (x_c xk_85 (by decide)) (x_lt xk_85 (by decide)) (Nat.le_of_ble_eq_true rfl) (Nat.le_of_ble_eq_true rfl) ?_
                cases hc11 : G62 n ((-1) - z4.1) z7.2 with
                | none => rw [hc11] at hf; cases hf
                | some z10 =>
                  rw [hc11, Option.bind_some] at hf
                  refine G62c (r0 := z10.1) (S0 := z10.2)  (hf := hc11) ?_
                  refine r_iconst (v := 1) fe_64_69 (by decide) ?_
                  refine r_iret fe_64_70 ⟨rfl, by decide⟩ ?_
                  exact dfin (P := fun r T => Q (some (.int r)) (xst T G h)) hf hQ
              · rw [if_neg hb9] at hf
                refine r_if_f (t := 64) fe_64_59 (by decide) (Bool.eq_false_iff.mpr hb9) ?_
                refine r_iconst (v := 0) fe_64_62 (by decide) ?_
                refine r_iret fe_64_63 ⟨rfl, by decide⟩ ?_
                exact dfin (P := fun r T => Q (some (.int r)) (xst T G h)) hf hQ
          · rw [if_neg hb6] at hf
            refine r_ic_f (t := 45) fe_64_40 (by decide) (Bool.eq_false_iff.mpr hb6) ?_
            refine r_iconst (v := 0) fe_64_43 (by decide) ?_
            refine r_iret fe_64_44 ⟨rfl, by decide⟩ ?_
            exact dfin (P := fun r T => Q (some (.int r)) (xst T G h)) hf hQ
      · rw [if_neg hb3] at hf
        refine r_ic_f (t := 29) fe_64_8 (by decide) (Bool.eq_false_iff.mpr hb3) ?_
        refine r_iload_n fe_64_11 rfl ?_
        refine r_bipush (v := 57) fe_64_12 (by decide) ?_
        by_cases hb12 : am_ic .gt z1.1 57 = true
        · rw [if_pos hb12] at hf
          refine r_ic_t (t := 29) fe_64_14 (by decide) hb12 ?_
          refine r_aload_n fe_64_29 rfl ?_
          refine r_ldcS fe_64_30 lk_6_117 ?_
          refine r_callV (as := [.ref 8]) (r := []) fe_64_32 lm_6_40 md_22 rfl rfl (Nat.le_of_ble_eq_true rfl) (x_c xk_65 (by decide)) (x_lt xk_65 (by decide)) (Nat.le_of_ble_eq_true rfl) (Nat.le_of_ble_eq_true rfl) ?_
          cases hc14 : G22 n 8 z1.2 with
          | none => rw [hc14] at hf; cases hf
          | some z13 =>
            rw [hc14, Option.bind_some] at hf
            refine G22c (r0 := z13.1) (S0 := z13.2)  (hf := hc14) ?_
            refine r_istore fe_64_35 (Nat.le_of_ble_eq_true rfl) rfl ?_
            refine r_iload fe_64_37 rfl ?_
            refine r_iconst (v := -1) fe_64_39 (by decide) ?_
            by_cases hb15 : am_ic .ne z13.1 (-1) = true
            · rw [if_pos hb15] at hf
              refine r_ic_t (t := 45) fe_64_40 (by decide) hb15 ?_
              refine r_iconst (v := -1) fe_64_45 (by decide) ?_
              refine r_iload fe_64_46 rfl ?_
              refine r_isub (v := ((-1) - z13.1)) fe_64_48 rfl ?_
              refine r_istore_n fe_64_49 (Nat.le_of_ble_eq_true rfl) rfl ?_
              refine r_aload_n fe_64_50 rfl ?_
              refine r_aload_n fe_64_51 rfl ?_
              refine r_aload_n fe_64_52 rfl ?_
              refine r_getf (v := .int (z13.2.1 65 3)) fe_64_53 lf_6_44 (x_c xk_65 (by decide)) (x_lt xk_65 (by decide)) rfl ?_
              refine r_callV (as := [.ref 65, .int (z13.2.1 65 3)]) (r := []) fe_64_56 lm_6_97 md_65 rfl rfl (Nat.le_of_ble_eq_true rfl) (x_c xk_85 (by decide)) (x_lt xk_85 (by decide)) (Nat.le_of_ble_eq_true rfl) (Nat.le_of_ble_eq_true rfl) ?_
              cases hc17 : G65 n (z13.2.1 65 3) z13.2 with
              | none => rw [hc17] at hf; cases hf
              | some z16 =>
                rw [hc17, Option.bind_some] at hf
                refine G65c (r0 := z16.1) (S0 := z16.2)  (hf := hc17) ?_
                by_cases hb18 : am_if .ne z16.1 = true
                · rw [if_pos hb18] at hf
                  refine r_if_t (t := 64) fe_64_59 (by decide) hb18 ?_
                  refine r_aload_n fe_64_64 rfl ?_
                  refine r_iload_n fe_64_65 rfl ?_
                  refine r_callV (as := [.int ((-1) - z13.1)]) (r := []) fe_64_66 lm_6_55 md_62 rfl rfl (Nat.le_of_ble_eq_true rfl) (x_c xk_85 (by decide)) (x_lt xk_85 (by decide)) (Nat.le_of_ble_eq_true rfl) (Nat.le_of_ble_eq_true rfl) ?_
                  cases hc20 : G62 n ((-1) - z13.1) z16.2 with
                  | none => rw [hc20] at hf; cases hf
                  | some z19 =>
                    rw [hc20, Option.bind_some] at hf
                    refine G62c (r0 := z19.1) (S0 := z19.2)  (hf := hc20) ?_
                    refine r_iconst (v := 1) fe_64_69 (by decide) ?_
                    refine r_iret fe_64_70 ⟨rfl, by decide⟩ ?_
                    exact dfin (P := fun r T => Q (some (.int r)) (xst T G h)) hf hQ
                · rw [if_neg hb18] at hf
                  refine r_if_f (t := 64) fe_64_59 (by decide) (Bool.eq_false_iff.mpr hb18) ?_
                  refine r_iconst (v := 0) fe_64_62 (by decide) ?_
                  refine r_iret fe_64_63 ⟨rfl, by decide⟩ ?_
                  exact dfin (P := fun r T => Q (some (.int r)) (xst T G h)) hf hQ
            · rw [if_neg hb15] at hf
              refine r_ic_f (t := 45) fe_64_40 (by decide) (Bool.eq_false_iff.mpr hb15) ?_
              refine r_iconst (v := 0) fe_64_43 (by decide) ?_
              refine r_iret fe_64_44 ⟨rfl, by decide⟩ ?_
              exact dfin (P := fun r T => Q (some (.int r)) (xst T G h)) hf hQ
        · rw [if_neg hb12] at hf
          refine r_ic_f (t := 29) fe_64_14 (by decide) (Bool.eq_false_iff.mpr hb12) ?_
          refine r_aload_n fe_64_17 rfl ?_
          refine r_callV (as := []) (r := []) fe_64_18 lm_6_114 md_41 rfl rfl (Nat.le_of_ble_eq_true rfl) (x_c xk_65 (by decide)) (x_lt xk_65 (by decide)) (Nat.le_of_ble_eq_true rfl) (Nat.le_of_ble_eq_true rfl) ?_
          cases hc22 : G41 n  z1.2 with
          | none => rw [hc22] at hf; cases hf
          | some z21 =>
            rw [hc22, Option.bind_some] at hf
            refine G41c (r0 := z21.1) (S0 := z21.2)  (hf := hc22) ?_
            refine r_istore_n fe_64_21 (Nat.le_of_ble_eq_true rfl) rfl ?_
            refine r_iload_n fe_64_22 rfl ?_
            refine r_iconst (v := -1) fe_64_23 (by decide) ?_
            by_cases hb23 : am_ic .ne z21.1 (-1) = true
            · rw [if_pos hb23] at hf
              refine r_ic_t (t := 50) fe_64_24 (by decide) hb23 ?_
              refine r_aload_n fe_64_50 rfl ?_
              refine r_aload_n fe_64_51 rfl ?_
              refine r_aload_n fe_64_52 rfl ?_
              refine r_getf (v := .int (z21.2.1 65 3)) fe_64_53 lf_6_44 (x_c xk_65 (by decide)) (x_lt xk_65 (by decide)) rfl ?_
              refine r_callV (as := [.ref 65, .int (z21.2.1 65 3)]) (r := []) fe_64_56 lm_6_97 md_65 rfl rfl (Nat.le_of_ble_eq_true rfl) (x_c xk_85 (by decide)) (x_lt xk_85 (by decide)) (Nat.le_of_ble_eq_true rfl) (Nat.le_of_ble_eq_true rfl) ?_
              cases hc25 : G65 n (z21.2.1 65 3) z21.2 with
              | none => rw [hc25] at hf; cases hf
              | some z24 =>
                rw [hc25, Option.bind_some] at hf
                refine G65c (r0 := z24.1) (S0 := z24.2)  (hf := hc25) ?_
                by_cases hb26 : am_if .ne z24.1 = true
                · rw [if_pos hb26] at hf
                  refine r_if_t (t := 64) fe_64_59 (by decide) hb26 ?_
                  refine r_aload_n fe_64_64 rfl ?_
                  refine r_iload_n fe_64_65 rfl ?_
                  refine r_callV (as := [.int z21.1]) (r := []) fe_64_66 lm_6_55 md_62 rfl rfl (Nat.le_of_ble_eq_true rfl) (x_c xk_85 (by decide)) (x_lt xk_85 (by decide)) (Nat.le_of_ble_eq_true rfl) (Nat.le_of_ble_eq_true rfl) ?_
                  cases hc28 : G62 n z21.1 z24.2 with
                  | none => rw [hc28] at hf; cases hf
                  | some z27 =>
                    rw [hc28, Option.bind_some] at hf
                    refine G62c (r0 := z27.1) (S0 := z27.2)  (hf := hc28) ?_
                    refine r_iconst (v := 1) fe_64_69 (by decide) ?_
                    refine r_iret fe_64_70 ⟨rfl, by decide⟩ ?_
                    exact dfin (P := fun r T => Q (some (.int r)) (xst T G h)) hf hQ
                · rw [if_neg hb26] at hf
                  refine r_if_f (t := 64) fe_64_59 (by decide) (Bool.eq_false_iff.mpr hb26) ?_
                  refine r_iconst (v := 0) fe_64_62 (by decide) ?_
                  refine r_iret fe_64_63 ⟨rfl, by decide⟩ ?_
                  exact dfin (P := fun r T => Q (some (.int r)) (xst T G h)) hf hQ
            · rw [if_neg hb23] at hf
              refine r_ic_f (t := 50) fe_64_24 (by decide) (Bool.eq_false_iff.mpr hb23) ?_
              refine r_iconst (v := 0) fe_64_27 (by decide) ?_
              refine r_iret fe_64_28 ⟨rfl, by decide⟩ ?_
              exact dfin (P := fun r T => Q (some (.int r)) (xst T G h)) hf hQ
theorem G64c {xs : Nat → Int32} {L9 d : Nat} {G : gS} {h : Nat → va_E} {n : Nat} {Q : Option Value → AmH → Prop} {r0 : Int32} {S0 S : xS}  (hf : G64 n  S = some (r0, S0)) (hQ : Q (some (.int r0)) (xst S0 G h)) : Ca (am_X xs L9) (d + 6) 64 [.ref 85, .ref 65] (xst S G h) Q := (G64l hQ n)  S hf
def G66b0 (F : Nat → Int32 → xS → Option (Int32 × xS)) (n : Nat) (l0 : Int32) (S : xS) : Option (Int32 × xS) := (if l0 = 37 then some ((-16), S) else (if l0 = 42 then some ((-14), S) else (if l0 = 47 then some ((-15), S) else some (0, S))))
def G66f : Nat → Nat → Int32 → xS → Option (Int32 × xS)
  | 0, _, _, _ => none
  | n + 1, c, l0, S => G66b0 (G66f n) n l0 S
theorem G66e0 (n : Nat) (l0 : Int32) (S : xS) : G66f (n + 1) 0 l0 S = G66b0 (G66f n) n l0 S := rfl
def G66 (n : Nat) (l0 : Int32) (S : xS) : Option (Int32 × xS) := G66f n 0 l0 S
set_option maxRecDepth 20000 in
set_option maxHeartbeats 4000000 in
theorem G66l {xs : Nat → Int32} {L9 d : Nat} {G : gS} {h : Nat → va_E} {Q : Option Value → AmH → Prop} {r0 : Int32} {S0 : xS} (hQ : Q (some (.int r0)) (xst S0 G h)) : ∀ n : Nat, (∀ (l0 : Int32) (S : xS), G66f n 0 l0 S = some (r0, S0) → Go (am_X xs L9) (d + 0) 66 0 [.int l0] [] (xst S G h) Q) := by
  intro n
  induction n with
  | zero => exact fun l0 S hf => (by cases hf)
  | succ n ih =>
    intro l0 S hf
    rw [G66e0] at hf
    unfold G66b0 at hf
    refine r_iload_n fe_66_0 rfl ?_
    by_cases hx1 : l0 = 37
    · rw [if_pos hx1] at hf
      refine r_lkp (t := 42) fe_66_1 (by decide) (by rw [hx1]; decide) ?_
      refine r_bipush (v := -16) fe_66_42 (by decide) ?_
      refine r_iret fe_66_44 ⟨rfl, by decide⟩ ?_
      exact dfin (P := fun r T => Q (some (.int r)) (xst T G h)) hf hQ
    · rw [if_neg hx1] at hf
      by_cases hx2 : l0 = 42
      · rw [if_pos hx2] at hf
        refine r_lkp (t := 36) fe_66_1 (by decide) (by rw [hx2]; decide) ?_
        refine r_bipush (v := -14) fe_66_36 (by decide) ?_
        refine r_iret fe_66_38 ⟨rfl, by decide⟩ ?_
        exact dfin (P := fun r T => Q (some (.int r)) (xst T G h)) hf hQ
      · rw [if_neg hx2] at hf
        by_cases hx3 : l0 = 47
        · rw [if_pos hx3] at hf
          refine r_lkp (t := 39) fe_66_1 (by decide) (by rw [hx3]; decide) ?_
          refine r_bipush (v := -15) fe_66_39 (by decide) ?_
          refine r_iret fe_66_41 ⟨rfl, by decide⟩ ?_
          exact dfin (P := fun r T => Q (some (.int r)) (xst T G h)) hf hQ
        · rw [if_neg hx3] at hf
          refine r_lkp (t := 45) fe_66_1 (by decide) (by show am_tg _ (Op.lookupswitch.offset [(37, 41), (42, 35), (47, 38)] 44 (l0).toInt) = _; rw [lv_osw hx1 (by decide), lv_osw hx2 (by decide), lv_osw hx3 (by decide)]; rfl) ?_
          refine r_iconst (v := 0) fe_66_45 (by decide) ?_
          refine r_iret fe_66_46 ⟨rfl, by decide⟩ ?_
          exact dfin (P := fun r T => Q (some (.int r)) (xst T G h)) hf hQ
theorem G66c {xs : Nat → Int32} {L9 d : Nat} {G : gS} {h : Nat → va_E} {n : Nat} {Q : Option Value → AmH → Prop} {r0 : Int32} {S0 S : xS} {l0 : Int32} (hf : G66 n l0 S = some (r0, S0)) (hQ : Q (some (.int r0)) (xst S0 G h)) : Ca (am_X xs L9) (d + 0) 66 [.int l0] (xst S G h) Q := (G66l hQ n) l0 S hf
def G67b0 (F : Nat → Int32 → xS → Option (Int32 × xS)) (n : Nat) (l0 : Int32) (S : xS) : Option (Int32 × xS) := (if l0 = 43 then some ((-12), S) else (if l0 = 45 then some ((-13), S) else some (0, S)))
def G67f : Nat → Nat → Int32 → xS → Option (Int32 × xS)
  | 0, _, _, _ => none
  | n + 1, c, l0, S => G67b0 (G67f n) n l0 S
theorem G67e0 (n : Nat) (l0 : Int32) (S : xS) : G67f (n + 1) 0 l0 S = G67b0 (G67f n) n l0 S := rfl
def G67 (n : Nat) (l0 : Int32) (S : xS) : Option (Int32 × xS) := G67f n 0 l0 S
set_option maxRecDepth 20000 in
set_option maxHeartbeats 4000000 in
theorem G67l {xs : Nat → Int32} {L9 d : Nat} {G : gS} {h : Nat → va_E} {Q : Option Value → AmH → Prop} {r0 : Int32} {S0 : xS} (hQ : Q (some (.int r0)) (xst S0 G h)) : ∀ n : Nat, (∀ (l0 : Int32) (S : xS), G67f n 0 l0 S = some (r0, S0) → Go (am_X xs L9) (d + 0) 67 0 [.int l0] [] (xst S G h) Q) := by
  intro n
  induction n with
  | zero => exact fun l0 S hf => (by cases hf)
  | succ n ih =>
    intro l0 S hf
    rw [G67e0] at hf
    unfold G67b0 at hf
    refine r_iload_n fe_67_0 rfl ?_
    by_cases hx1 : l0 = 43
    · rw [if_pos hx1] at hf
      refine r_lkp (t := 28) fe_67_1 (by decide) (by rw [hx1]; decide) ?_
      refine r_bipush (v := -12) fe_67_28 (by decide) ?_
      refine r_iret fe_67_30 ⟨rfl, by decide⟩ ?_
      exact dfin (P := fun r T => Q (some (.int r)) (xst T G h)) hf hQ
    · rw [if_neg hx1] at hf
      by_cases hx2 : l0 = 45
      · rw [if_pos hx2] at hf
        refine r_lkp (t := 31) fe_67_1 (by decide) (by rw [hx2]; decide) ?_
        refine r_bipush (v := -13) fe_67_31 (by decide) ?_
        refine r_iret fe_67_33 ⟨rfl, by decide⟩ ?_
        exact dfin (P := fun r T => Q (some (.int r)) (xst T G h)) hf hQ
      · rw [if_neg hx2] at hf
        refine r_lkp (t := 34) fe_67_1 (by decide) (by show am_tg _ (Op.lookupswitch.offset [(43, 27), (45, 30)] 33 (l0).toInt) = _; rw [lv_osw hx1 (by decide), lv_osw hx2 (by decide)]; rfl) ?_
        refine r_iconst (v := 0) fe_67_34 (by decide) ?_
        refine r_iret fe_67_35 ⟨rfl, by decide⟩ ?_
        exact dfin (P := fun r T => Q (some (.int r)) (xst T G h)) hf hQ
theorem G67c {xs : Nat → Int32} {L9 d : Nat} {G : gS} {h : Nat → va_E} {n : Nat} {Q : Option Value → AmH → Prop} {r0 : Int32} {S0 S : xS} {l0 : Int32} (hf : G67 n l0 S = some (r0, S0)) (hQ : Q (some (.int r0)) (xst S0 G h)) : Ca (am_X xs L9) (d + 0) 67 [.int l0] (xst S G h) Q := (G67l hQ n) l0 S hf
def G63b0 (F : Nat → Int32 → Int32 → Int32 → xS → Option (Int32 × xS)) (n : Nat) (l2 : Int32) (l3 : Int32) (l4 : Int32) (S : xS) : Option (Int32 × xS) := F 7 0 0 0 S
def G63b7 (F : Nat → Int32 → Int32 → Int32 → xS → Option (Int32 × xS)) (n : Nat) (l2 : Int32) (l3 : Int32) (l4 : Int32) (S : xS) : Option (Int32 × xS) := (if am_ic .gt l4 60 = true then ((G36 n (S.1 65 2) 3 S).bind (fun z2 => (if narrow .boolean (.int z2.1) = .int z2.1 then some (z2.1, z2.2) else none))) else ((G64 n  S).bind (fun z5 => (if am_if .ne z5.1 = true then (if am_if .eq l3 = true then ((G23 n  z5.2).bind (fun z9 => ((G66 n z9.1 z9.2).bind (fun z11 => (if am_if .ne z11.1 = true then F 7 l2 z11.1 (l4 + 1) (x_sI z11.2 65 2 ((z11.2.1 65 2) + 1)) else (if am_if .eq l2 = true then ((G23 n  z11.2).bind (fun z15 => ((G67 n z15.1 z15.2).bind (fun z17 => (if am_if .ne z17.1 = true then F 7 z17.1 z11.1 (l4 + 1) (x_sI z17.2 65 2 ((z17.2.1 65 2) + 1)) else some (1, z17.2)))))) else ((G62 n l2 z11.2).bind (fun z20 => ((G23 n  z20.2).bind (fun z22 => ((G67 n z22.1 z22.2).bind (fun z24 => (if am_if .ne z24.1 = true then F 7 z24.1 z11.1 (l4 + 1) (x_sI z24.2 65 2 ((z24.2.1 65 2) + 1)) else some (1, z24.2)))))))))))))) else ((G62 n l3 z5.2).bind (fun z27 => ((G23 n  z27.2).bind (fun z29 => ((G66 n z29.1 z29.2).bind (fun z31 => (if am_if .ne z31.1 = true then F 7 l2 z31.1 (l4 + 1) (x_sI z31.2 65 2 ((z31.2.1 65 2) + 1)) else (if am_if .eq l2 = true then ((G23 n  z31.2).bind (fun z35 => ((G67 n z35.1 z35.2).bind (fun z37 => (if am_if .ne z37.1 = true then F 7 z37.1 z31.1 (l4 + 1) (x_sI z37.2 65 2 ((z37.2.1 65 2) + 1)) else some (1, z37.2)))))) else ((G62 n l2 z31.2).bind (fun z40 => ((G23 n  z40.2).bind (fun z42 => ((G67 n z42.1 z42.2).bind (fun z44 => (if am_if .ne z44.1 = true then F 7 z44.1 z31.1 (l4 + 1) (x_sI z44.2 65 2 ((z44.2.1 65 2) + 1)) else some (1, z44.2))))))))))))))))) else some (0, z5.2)))))
def G63f : Nat → Nat → Int32 → Int32 → Int32 → xS → Option (Int32 × xS)
  | 0, _, _, _, _, _ => none
  | n + 1, c, l2, l3, l4, S => if c = 0 then G63b0 (G63f n) n l2 l3 l4 S else G63b7 (G63f n) n l2 l3 l4 S
theorem G63e0 (n : Nat) (l2 : Int32) (l3 : Int32) (l4 : Int32) (S : xS) : G63f (n + 1) 0 l2 l3 l4 S = G63b0 (G63f n) n l2 l3 l4 S := if_pos rfl
theorem G63e7 (n : Nat) (l2 : Int32) (l3 : Int32) (l4 : Int32) (S : xS) : G63f (n + 1) 7 l2 l3 l4 S = G63b7 (G63f n) n l2 l3 l4 S := if_neg (by decide)
def G63 (n : Nat)  (S : xS) : Option (Int32 × xS) := G63f n 0 0 0 0 S
set_option maxRecDepth 20000 in
set_option maxHeartbeats 4000000 in
theorem G63l {xs : Nat → Int32} {L9 d : Nat} {G : gS} {h : Nat → va_E} {Q : Option Value → AmH → Prop} {r0 : Int32} {S0 : xS} (hQ : Q (some (.int r0)) (xst S0 G h)) : ∀ n : Nat, (∀ (l2 : Int32) (l3 : Int32) (l4 : Int32) (S : xS), G63f n 0 l2 l3 l4 S = some (r0, S0) → Go (am_X xs L9) (d + 7) 63 0 [.ref 85, .ref 65, .float 0, .float 0, .float 0] [] (xst S G h) Q) ∧ (∀ (l2 : Int32) (l3 : Int32) (l4 : Int32) (S : xS), G63f n 7 l2 l3 l4 S = some (r0, S0) → Go (am_X xs L9) (d + 7) 63 7 [.ref 85, .ref 65, .int l2, .int l3, .int l4] [] (xst S G h) Q) := by
  intro n
  induction n with
  | zero => exact ⟨fun l2 l3 l4 S hf => (by cases hf), fun l2 l3 l4 S hf => (by cases hf)⟩
  | succ n ih =>
    refine ⟨?_, ?_⟩
    · intro l2 l3 l4 S hf
      rw [G63e0] at hf
      unfold G63b0 at hf
      refine r_iconst (v := 0) fe_63_0 (by decide) ?_
      refine r_istore_n fe_63_1 (Nat.le_of_ble_eq_true rfl) rfl ?_
      refine r_iconst (v := 0) fe_63_2 (by decide) ?_
      refine r_istore_n fe_63_3 (Nat.le_of_ble_eq_true rfl) rfl ?_
      refine r_iconst (v := 0) fe_63_4 (by decide) ?_
      refine r_istore fe_63_5 (Nat.le_of_ble_eq_true rfl) rfl ?_
      refine go_weak (L0 := [.ref 85, .ref 65, .int 0, .int 0, .int 0]) (lwk_c (Or.inl rfl) (lwk_c (Or.inl rfl) (lwk_c (Or.inl rfl) (lwk_c (Or.inl rfl) (lwk_c (Or.inl rfl) (lwk_rf [])))))) ?_
      exact ih.2 0 0 0 S hf
    · intro l2 l3 l4 S hf
      rw [G63e7] at hf
      unfold G63b7 at hf
      refine r_iload fe_63_7 rfl ?_
      refine r_bipush (v := 60) fe_63_9 (by decide) ?_
      by_cases hb1 : am_ic .gt l4 60 = true
      · rw [if_pos hb1] at hf
        refine r_ic_t (t := 84) fe_63_11 (by decide) hb1 ?_
        refine r_aload_n fe_63_84 rfl ?_
        refine r_aload_n fe_63_85 rfl ?_
        refine r_getf (v := .int (S.1 65 2)) fe_63_86 lf_6_77 (x_c xk_65 (by decide)) (x_lt xk_65 (by decide)) rfl ?_
        refine r_iconst (v := 3) fe_63_89 (by decide) ?_
        refine r_callV (as := [.int (S.1 65 2), .int 3]) (r := []) fe_63_90 lm_6_47 md_36 rfl rfl (Nat.le_of_ble_eq_true rfl) (x_c xk_65 (by decide)) (x_lt xk_65 (by decide)) (Nat.le_of_ble_eq_true rfl) (Nat.le_of_ble_eq_true rfl) ?_
        cases hc3 : G36 n (S.1 65 2) 3 S with
        | none => rw [hc3] at hf; cases hf
        | some z2 =>
          rw [hc3, Option.bind_some] at hf
          refine G36c (r0 := z2.1) (S0 := z2.2)  (hf := hc3) ?_
          by_cases hz4 : narrow .boolean (.int z2.1) = .int z2.1
          rotate_left
          · rw [if_neg hz4] at hf; cases hf
          rw [if_pos hz4] at hf
          refine r_iret fe_63_93 ⟨hz4, by decide⟩ ?_
          exact dfin (P := fun r T => Q (some (.int r)) (xst T G h)) hf hQ
      · rw [if_neg hb1] at hf
        refine r_ic_f (t := 84) fe_63_11 (by decide) (Bool.eq_false_iff.mpr hb1) ?_
        refine r_aload_n fe_63_14 rfl ?_
        refine r_aload_n fe_63_15 rfl ?_
        refine r_callV (as := [.ref 65]) (r := []) fe_63_16 lm_6_104 md_64 rfl rfl (Nat.le_of_ble_eq_true rfl) (x_c xk_85 (by decide)) (x_lt xk_85 (by decide)) (Nat.le_of_ble_eq_true rfl) (Nat.le_of_ble_eq_true rfl) ?_
        cases hc6 : G64 n  S with
        | none => rw [hc6] at hf; cases hf
        | some z5 =>
          rw [hc6, Option.bind_some] at hf
          refine G64c (r0 := z5.1) (S0 := z5.2)  (hf := hc6) ?_
          by_cases hb7 : am_if .ne z5.1 = true
          · rw [if_pos hb7] at hf
            refine r_if_t (t := 24) fe_63_19 (by decide) hb7 ?_
            refine r_iload_n fe_63_24 rfl ?_
            by_cases hb8 : am_if .eq l3 = true
            · rw [if_pos hb8] at hf
              refine r_if_t (t := 33) fe_63_25 (by decide) hb8 ?_
              refine r_aload_n fe_63_33 rfl ?_
              refine r_callV (as := []) (r := []) fe_63_34 lm_6_80 md_23 rfl rfl (Nat.le_of_ble_eq_true rfl) (x_c xk_65 (by decide)) (x_lt xk_65 (by decide)) (Nat.le_of_ble_eq_true rfl) (Nat.le_of_ble_eq_true rfl) ?_
              cases hc10 : G23 n  z5.2 with
              | none => rw [hc10] at hf; cases hf
              | some z9 =>
                rw [hc10, Option.bind_some] at hf
                refine G23c (r0 := z9.1) (S0 := z9.2)  (hf := hc10) ?_
                refine r_callS (as := [.int z9.1]) (r := []) fe_63_37 lm_6_107 md_66 rfl rfl (Nat.le_of_ble_eq_true rfl) (Nat.le_of_ble_eq_true rfl) (Nat.le_of_ble_eq_true rfl) ?_
                cases hc12 : G66 n z9.1 z9.2 with
                | none => rw [hc12] at hf; cases hf
                | some z11 =>
                  rw [hc12, Option.bind_some] at hf
                  refine G66c (r0 := z11.1) (S0 := z11.2)  (hf := hc12) ?_
                  refine r_istore_n fe_63_40 (Nat.le_of_ble_eq_true rfl) rfl ?_
                  refine r_iload_n fe_63_41 rfl ?_
                  by_cases hb13 : am_if .ne z11.1 = true
                  · rw [if_pos hb13] at hf
                    refine r_if_t (t := 68) fe_63_42 (by decide) hb13 ?_
                    refine r_aload_n fe_63_68 rfl ?_
                    refine r_dup fe_63_69 rfl ?_
                    refine r_getf (v := .int (z11.2.1 65 2)) fe_63_70 lf_6_77 (x_c xk_65 (by decide)) (x_lt xk_65 (by decide)) rfl ?_
                    refine r_iconst (v := 1) fe_63_73 (by decide) ?_
                    refine r_iadd (v := ((z11.2.1 65 2) + 1)) fe_63_74 rfl ?_
                    refine r_putf fe_63_75 lf_6_77 (x_h xk_65 (by decide)) (x_lt xk_65 (by decide)) (by decide) (Nat.le_of_ble_eq_true rfl) rfl rfl (Or.inl rfl) ?_
                    refine go_heap (x_uI (j := 2) (x := ((z11.2.1 65 2) + 1)) xk_65 (by decide)) ?_
                    refine r_iinc (v := (l4 + 1)) fe_63_78 rfl rfl rfl ?_
                    refine r_goto (t := 7) fe_63_81 (by decide) ?_
                    refine go_weak (L0 := [.ref 85, .ref 65, .int l2, .int z11.1, .int (l4 + 1)]) (lwk_c (Or.inl rfl) (lwk_c (Or.inl rfl) (lwk_c (Or.inl rfl) (lwk_c (Or.inl rfl) (lwk_c (Or.inl rfl) (lwk_rf [])))))) ?_
                    exact ih.2 l2 z11.1 (l4 + 1) (x_sI z11.2 65 2 ((z11.2.1 65 2) + 1)) hf
                  · rw [if_neg hb13] at hf
                    refine r_if_f (t := 68) fe_63_42 (by decide) (Bool.eq_false_iff.mpr hb13) ?_
                    refine r_iload_n fe_63_45 rfl ?_
                    by_cases hb14 : am_if .eq l2 = true
                    · rw [if_pos hb14] at hf
                      refine r_if_t (t := 54) fe_63_46 (by decide) hb14 ?_
                      refine r_aload_n fe_63_54 rfl ?_
                      refine r_callV (as := []) (r := []) fe_63_55 lm_6_80 md_23 rfl rfl (Nat.le_of_ble_eq_true rfl) (x_c xk_65 (by decide)) (x_lt xk_65 (by decide)) (Nat.le_of_ble_eq_true rfl) (Nat.le_of_ble_eq_true rfl) ?_
                      cases hc16 : G23 n  z11.2 with
                      | none => rw [hc16] at hf; cases hf
                      | some z15 =>
                        rw [hc16, Option.bind_some] at hf
                        refine G23c (r0 := z15.1) (S0 := z15.2)  (hf := hc16) ?_
                        refine r_callS (as := [.int z15.1]) (r := []) fe_63_58 lm_6_111 md_67 rfl rfl (Nat.le_of_ble_eq_true rfl) (Nat.le_of_ble_eq_true rfl) (Nat.le_of_ble_eq_true rfl) ?_
                        cases hc18 : G67 n z15.1 z15.2 with
                        | none => rw [hc18] at hf; cases hf
                        | some z17 =>
                          rw [hc18, Option.bind_some] at hf
                          refine G67c (r0 := z17.1) (S0 := z17.2)  (hf := hc18) ?_
                          refine r_istore_n fe_63_61 (Nat.le_of_ble_eq_true rfl) rfl ?_
                          refine r_iload_n fe_63_62 rfl ?_
                          by_cases hb19 : am_if .ne z17.1 = true
                          · rw [if_pos hb19] at hf
                            refine r_if_t (t := 68) fe_63_63 (by decide) hb19 ?_
                            refine r_aload_n fe_63_68 rfl ?_
                            refine r_dup fe_63_69 rfl ?_
                            refine r_getf (v := .int (z17.2.1 65 2)) fe_63_70 lf_6_77 (x_c xk_65 (by decide)) (x_lt xk_65 (by decide)) rfl ?_
                            refine r_iconst (v := 1) fe_63_73 (by decide) ?_
                            refine r_iadd (v := ((z17.2.1 65 2) + 1)) fe_63_74 rfl ?_
                            refine r_putf fe_63_75 lf_6_77 (x_h xk_65 (by decide)) (x_lt xk_65 (by decide)) (by decide) (Nat.le_of_ble_eq_true rfl) rfl rfl (Or.inl rfl) ?_
                            refine go_heap (x_uI (j := 2) (x := ((z17.2.1 65 2) + 1)) xk_65 (by decide)) ?_
                            refine r_iinc (v := (l4 + 1)) fe_63_78 rfl rfl rfl ?_
                            refine r_goto (t := 7) fe_63_81 (by decide) ?_
                            refine go_weak (L0 := [.ref 85, .ref 65, .int z17.1, .int z11.1, .int (l4 + 1)]) (lwk_c (Or.inl rfl) (lwk_c (Or.inl rfl) (lwk_c (Or.inl rfl) (lwk_c (Or.inl rfl) (lwk_c (Or.inl rfl) (lwk_rf [])))))) ?_
                            exact ih.2 z17.1 z11.1 (l4 + 1) (x_sI z17.2 65 2 ((z17.2.1 65 2) + 1)) hf
                          · rw [if_neg hb19] at hf
                            refine r_if_f (t := 68) fe_63_63 (by decide) (Bool.eq_false_iff.mpr hb19) ?_
                            refine r_iconst (v := 1) fe_63_66 (by decide) ?_
                            refine r_iret fe_63_67 ⟨rfl, by decide⟩ ?_
                            exact dfin (P := fun r T => Q (some (.int r)) (xst T G h)) hf hQ
                    · rw [if_neg hb14] at hf
                      refine r_if_f (t := 54) fe_63_46 (by decide) (Bool.eq_false_iff.mpr hb14) ?_
                      refine r_aload_n fe_63_49 rfl ?_
                      refine r_iload_n fe_63_50 rfl ?_
                      refine r_callV (as := [.int l2]) (r := []) fe_63_51 lm_6_55 md_62 rfl rfl (Nat.le_of_ble_eq_true rfl) (x_c xk_85 (by decide)) (x_lt xk_85 (by decide)) (Nat.le_of_ble_eq_true rfl) (Nat.le_of_ble_eq_true rfl) ?_
                      cases hc21 : G62 n l2 z11.2 with
                      | none => rw [hc21] at hf; cases hf
                      | some z20 =>
                        rw [hc21, Option.bind_some] at hf
                        refine G62c (r0 := z20.1) (S0 := z20.2)  (hf := hc21) ?_
                        refine r_aload_n fe_63_54 rfl ?_
                        refine r_callV (as := []) (r := []) fe_63_55 lm_6_80 md_23 rfl rfl (Nat.le_of_ble_eq_true rfl) (x_c xk_65 (by decide)) (x_lt xk_65 (by decide)) (Nat.le_of_ble_eq_true rfl) (Nat.le_of_ble_eq_true rfl) ?_
                        cases hc23 : G23 n  z20.2 with
                        | none => rw [hc23] at hf; cases hf
                        | some z22 =>
                          rw [hc23, Option.bind_some] at hf
                          refine G23c (r0 := z22.1) (S0 := z22.2)  (hf := hc23) ?_
                          refine r_callS (as := [.int z22.1]) (r := []) fe_63_58 lm_6_111 md_67 rfl rfl (Nat.le_of_ble_eq_true rfl) (Nat.le_of_ble_eq_true rfl) (Nat.le_of_ble_eq_true rfl) ?_
                          cases hc25 : G67 n z22.1 z22.2 with
                          | none => rw [hc25] at hf; cases hf
                          | some z24 =>
                            rw [hc25, Option.bind_some] at hf
                            refine G67c (r0 := z24.1) (S0 := z24.2)  (hf := hc25) ?_
                            refine r_istore_n fe_63_61 (Nat.le_of_ble_eq_true rfl) rfl ?_
                            refine r_iload_n fe_63_62 rfl ?_
                            by_cases hb26 : am_if .ne z24.1 = true
                            · rw [if_pos hb26] at hf
                              refine r_if_t (t := 68) fe_63_63 (by decide) hb26 ?_
                              refine r_aload_n fe_63_68 rfl ?_
                              refine r_dup fe_63_69 rfl ?_
                              refine r_getf (v := .int (z24.2.1 65 2)) fe_63_70 lf_6_77 (x_c xk_65 (by decide)) (x_lt xk_65 (by decide)) rfl ?_
                              refine r_iconst (v := 1) fe_63_73 (by decide) ?_
                              refine r_iadd (v := ((z24.2.1 65 2) + 1)) fe_63_74 rfl ?_
                              refine r_putf fe_63_75 lf_6_77 (x_h xk_65 (by decide)) (x_lt xk_65 (by decide)) (by decide) (Nat.le_of_ble_eq_true rfl) rfl rfl (Or.inl rfl) ?_
                              refine go_heap (x_uI (j := 2) (x := ((z24.2.1 65 2) + 1)) xk_65 (by decide)) ?_
                              refine r_iinc (v := (l4 + 1)) fe_63_78 rfl rfl rfl ?_
                              refine r_goto (t := 7) fe_63_81 (by decide) ?_
                              refine go_weak (L0 := [.ref 85, .ref 65, .int z24.1, .int z11.1, .int (l4 + 1)]) (lwk_c (Or.inl rfl) (lwk_c (Or.inl rfl) (lwk_c (Or.inl rfl) (lwk_c (Or.inl rfl) (lwk_c (Or.inl rfl) (lwk_rf [])))))) ?_
                              exact ih.2 z24.1 z11.1 (l4 + 1) (x_sI z24.2 65 2 ((z24.2.1 65 2) + 1)) hf
                            · rw [if_neg hb26] at hf
                              refine r_if_f (t := 68) fe_63_63 (by decide) (Bool.eq_false_iff.mpr hb26) ?_
                              refine r_iconst (v := 1) fe_63_66 (by decide) ?_
                              refine r_iret fe_63_67 ⟨rfl, by decide⟩ ?_
                              exact dfin (P := fun r T => Q (some (.int r)) (xst T G h)) hf hQ
            · rw [if_neg hb8] at hf
              refine r_if_f (t := 33) fe_63_25 (by decide) (Bool.eq_false_iff.mpr hb8) ?_
              refine r_aload_n fe_63_28 rfl ?_
              refine r_iload_n fe_63_29 rfl ?_
              refine r_callV (as := [.int l3]) (r := []) fe_63_30 lm_6_55 md_62 rfl rfl (Nat.le_of_ble_eq_true rfl) (x_c xk_85 (by decide)) (x_lt xk_85 (by decide)) (Nat.le_of_ble_eq_true rfl) (Nat.le_of_ble_eq_true rfl) ?_
              cases hc28 : G62 n l3 z5.2 with
              | none => rw [hc28] at hf; cases hf
              | some z27 =>
                rw [hc28, Option.bind_some] at hf
                refine G62c (r0 := z27.1) (S0 := z27.2)  (hf := hc28) ?_
                refine r_aload_n fe_63_33 rfl ?_
                refine r_callV (as := []) (r := []) fe_63_34 lm_6_80 md_23 rfl rfl (Nat.le_of_ble_eq_true rfl) (x_c xk_65 (by decide)) (x_lt xk_65 (by decide)) (Nat.le_of_ble_eq_true rfl) (Nat.le_of_ble_eq_true rfl) ?_
                cases hc30 : G23 n  z27.2 with
                | none => rw [hc30] at hf; cases hf
                | some z29 =>
                  rw [hc30, Option.bind_some] at hf
                  refine G23c (r0 := z29.1) (S0 := z29.2)  (hf := hc30) ?_
                  refine r_callS (as := [.int z29.1]) (r := []) fe_63_37 lm_6_107 md_66 rfl rfl (Nat.le_of_ble_eq_true rfl) (Nat.le_of_ble_eq_true rfl) (Nat.le_of_ble_eq_true rfl) ?_
                  cases hc32 : G66 n z29.1 z29.2 with
                  | none => rw [hc32] at hf; cases hf
                  | some z31 =>
                    rw [hc32, Option.bind_some] at hf
                    refine G66c (r0 := z31.1) (S0 := z31.2)  (hf := hc32) ?_
                    refine r_istore_n fe_63_40 (Nat.le_of_ble_eq_true rfl) rfl ?_
                    refine r_iload_n fe_63_41 rfl ?_
                    by_cases hb33 : am_if .ne z31.1 = true
                    · rw [if_pos hb33] at hf
                      refine r_if_t (t := 68) fe_63_42 (by decide) hb33 ?_
                      refine r_aload_n fe_63_68 rfl ?_
                      refine r_dup fe_63_69 rfl ?_
                      refine r_getf (v := .int (z31.2.1 65 2)) fe_63_70 lf_6_77 (x_c xk_65 (by decide)) (x_lt xk_65 (by decide)) rfl ?_
                      refine r_iconst (v := 1) fe_63_73 (by decide) ?_
                      refine r_iadd (v := ((z31.2.1 65 2) + 1)) fe_63_74 rfl ?_
                      refine r_putf fe_63_75 lf_6_77 (x_h xk_65 (by decide)) (x_lt xk_65 (by decide)) (by decide) (Nat.le_of_ble_eq_true rfl) rfl rfl (Or.inl rfl) ?_
                      refine go_heap (x_uI (j := 2) (x := ((z31.2.1 65 2) + 1)) xk_65 (by decide)) ?_
                      refine r_iinc (v := (l4 + 1)) fe_63_78 rfl rfl rfl ?_
                      refine r_goto (t := 7) fe_63_81 (by decide) ?_
                      refine go_weak (L0 := [.ref 85, .ref 65, .int l2, .int z31.1, .int (l4 + 1)]) (lwk_c (Or.inl rfl) (lwk_c (Or.inl rfl) (lwk_c (Or.inl rfl) (lwk_c (Or.inl rfl) (lwk_c (Or.inl rfl) (lwk_rf [])))))) ?_
                      exact ih.2 l2 z31.1 (l4 + 1) (x_sI z31.2 65 2 ((z31.2.1 65 2) + 1)) hf
                    · rw [if_neg hb33] at hf
                      refine r_if_f (t := 68) fe_63_42 (by decide) (Bool.eq_false_iff.mpr hb33) ?_
                      refine r_iload_n fe_63_45 rfl ?_
                      by_cases hb34 : am_if .eq l2 = true
                      · rw [if_pos hb34] at hf
                        refine r_if_t (t := 54) fe_63_46 (by decide) hb34 ?_
                        refine r_aload_n fe_63_54 rfl ?_
                        refine r_callV (as := []) (r := []) fe_63_55 lm_6_80 md_23 rfl rfl (Nat.le_of_ble_eq_true rfl) (x_c xk_65 (by decide)) (x_lt xk_65 (by decide)) (Nat.le_of_ble_eq_true rfl) (Nat.le_of_ble_eq_true rfl) ?_
                        cases hc36 : G23 n  z31.2 with
                        | none => rw [hc36] at hf; cases hf
                        | some z35 =>
                          rw [hc36, Option.bind_some] at hf
                          refine G23c (r0 := z35.1) (S0 := z35.2)  (hf := hc36) ?_
                          refine r_callS (as := [.int z35.1]) (r := []) fe_63_58 lm_6_111 md_67 rfl rfl (Nat.le_of_ble_eq_true rfl) (Nat.le_of_ble_eq_true rfl) (Nat.le_of_ble_eq_true rfl) ?_
                          cases hc38 : G67 n z35.1 z35.2 with
                          | none => rw [hc38] at hf; cases hf
                          | some z37 =>
                            rw [hc38, Option.bind_some] at hf
                            refine G67c (r0 := z37.1) (S0 := z37.2)  (hf := hc38) ?_
                            refine r_istore_n fe_63_61 (Nat.le_of_ble_eq_true rfl) rfl ?_
                            refine r_iload_n fe_63_62 rfl ?_
                            by_cases hb39 : am_if .ne z37.1 = true
                            · rw [if_pos hb39] at hf
                              refine r_if_t (t := 68) fe_63_63 (by decide) hb39 ?_
                              refine r_aload_n fe_63_68 rfl ?_
                              refine r_dup fe_63_69 rfl ?_
                              refine r_getf (v := .int (z37.2.1 65 2)) fe_63_70 lf_6_77 (x_c xk_65 (by decide)) (x_lt xk_65 (by decide)) rfl ?_
                              refine r_iconst (v := 1) fe_63_73 (by decide) ?_
                              refine r_iadd (v := ((z37.2.1 65 2) + 1)) fe_63_74 rfl ?_
                              refine r_putf fe_63_75 lf_6_77 (x_h xk_65 (by decide)) (x_lt xk_65 (by decide)) (by decide) (Nat.le_of_ble_eq_true rfl) rfl rfl (Or.inl rfl) ?_
                              refine go_heap (x_uI (j := 2) (x := ((z37.2.1 65 2) + 1)) xk_65 (by decide)) ?_
                              refine r_iinc (v := (l4 + 1)) fe_63_78 rfl rfl rfl ?_
                              refine r_goto (t := 7) fe_63_81 (by decide) ?_
                              refine go_weak (L0 := [.ref 85, .ref 65, .int z37.1, .int z31.1, .int (l4 + 1)]) (lwk_c (Or.inl rfl) (lwk_c (Or.inl rfl) (lwk_c (Or.inl rfl) (lwk_c (Or.inl rfl) (lwk_c (Or.inl rfl) (lwk_rf [])))))) ?_
                              exact ih.2 z37.1 z31.1 (l4 + 1) (x_sI z37.2 65 2 ((z37.2.1 65 2) + 1)) hf
                            · rw [if_neg hb39] at hf
                              refine r_if_f (t := 68) fe_63_63 (by decide) (Bool.eq_false_iff.mpr hb39) ?_
                              refine r_iconst (v := 1) fe_63_66 (by decide) ?_
                              refine r_iret fe_63_67 ⟨rfl, by decide⟩ ?_
                              exact dfin (P := fun r T => Q (some (.int r)) (xst T G h)) hf hQ
                      · rw [if_neg hb34] at hf
                        refine r_if_f (t := 54) fe_63_46 (by decide) (Bool.eq_false_iff.mpr hb34) ?_
                        refine r_aload_n fe_63_49 rfl ?_
                        refine r_iload_n fe_63_50 rfl ?_
                        refine r_callV (as := [.int l2]) (r := []) fe_63_51 lm_6_55 md_62 rfl rfl (Nat.le_of_ble_eq_true rfl) (x_c xk_85 (by decide)) (x_lt xk_85 (by decide)) (Nat.le_of_ble_eq_true rfl) (Nat.le_of_ble_eq_true rfl) ?_
                        cases hc41 : G62 n l2 z31.2 with
                        | none => rw [hc41] at hf; cases hf
                        | some z40 =>
                          rw [hc41, Option.bind_some] at hf
                          refine G62c (r0 := z40.1) (S0 := z40.2)  (hf := hc41) ?_
                          refine r_aload_n fe_63_54 rfl ?_
                          refine r_callV (as := []) (r := []) fe_63_55 lm_6_80 md_23 rfl rfl (Nat.le_of_ble_eq_true rfl) (x_c xk_65 (by decide)) (x_lt xk_65 (by decide)) (Nat.le_of_ble_eq_true rfl) (Nat.le_of_ble_eq_true rfl) ?_
                          cases hc43 : G23 n  z40.2 with
                          | none => rw [hc43] at hf; cases hf
                          | some z42 =>
                            rw [hc43, Option.bind_some] at hf
                            refine G23c (r0 := z42.1) (S0 := z42.2)  (hf := hc43) ?_
                            refine r_callS (as := [.int z42.1]) (r := []) fe_63_58 lm_6_111 md_67 rfl rfl (Nat.le_of_ble_eq_true rfl) (Nat.le_of_ble_eq_true rfl) (Nat.le_of_ble_eq_true rfl) ?_
                            cases hc45 : G67 n z42.1 z42.2 with
                            | none => rw [hc45] at hf; cases hf
                            | some z44 =>
                              rw [hc45, Option.bind_some] at hf
                              refine G67c (r0 := z44.1) (S0 := z44.2)  (hf := hc45) ?_
                              refine r_istore_n fe_63_61 (Nat.le_of_ble_eq_true rfl) rfl ?_
                              refine r_iload_n fe_63_62 rfl ?_
                              by_cases hb46 : am_if .ne z44.1 = true
                              · rw [if_pos hb46] at hf
                                refine r_if_t (t := 68) fe_63_63 (by decide) hb46 ?_
                                refine r_aload_n fe_63_68 rfl ?_
                                refine r_dup fe_63_69 rfl ?_
                                refine r_getf (v := .int (z44.2.1 65 2)) fe_63_70 lf_6_77 (x_c xk_65 (by decide)) (x_lt xk_65 (by decide)) rfl ?_
                                refine r_iconst (v := 1) fe_63_73 (by decide) ?_
                                refine r_iadd (v := ((z44.2.1 65 2) + 1)) fe_63_74 rfl ?_
                                refine r_putf fe_63_75 lf_6_77 (x_h xk_65 (by decide)) (x_lt xk_65 (by decide)) (by decide) (Nat.le_of_ble_eq_true rfl) rfl rfl (Or.inl rfl) ?_
                                refine go_heap (x_uI (j := 2) (x := ((z44.2.1 65 2) + 1)) xk_65 (by decide)) ?_
                                refine r_iinc (v := (l4 + 1)) fe_63_78 rfl rfl rfl ?_
                                refine r_goto (t := 7) fe_63_81 (by decide) ?_
                                refine go_weak (L0 := [.ref 85, .ref 65, .int z44.1, .int z31.1, .int (l4 + 1)]) (lwk_c (Or.inl rfl) (lwk_c (Or.inl rfl) (lwk_c (Or.inl rfl) (lwk_c (Or.inl rfl) (lwk_c (Or.inl rfl) (lwk_rf [])))))) ?_
                                exact ih.2 z44.1 z31.1 (l4 + 1) (x_sI z44.2 65 2 ((z44.2.1 65 2) + 1)) hf
                              · rw [if_neg hb46] at hf
                                refine r_if_f (t := 68) fe_63_63 (by decide) (Bool.eq_false_iff.mpr hb46) ?_
                                refine r_iconst (v := 1) fe_63_66 (by decide) ?_
                                refine r_iret fe_63_67 ⟨rfl, by decide⟩ ?_
                                exact dfin (P := fun r T => Q (some (.int r)) (xst T G h)) hf hQ
          · rw [if_neg hb7] at hf
            refine r_if_f (t := 24) fe_63_19 (by decide) (Bool.eq_false_iff.mpr hb7) ?_
            refine r_iconst (v := 0) fe_63_22 (by decide) ?_
            refine r_iret fe_63_23 ⟨rfl, by decide⟩ ?_
            exact dfin (P := fun r T => Q (some (.int r)) (xst T G h)) hf hQ
theorem G63c {xs : Nat → Int32} {L9 d : Nat} {G : gS} {h : Nat → va_E} {n : Nat} {Q : Option Value → AmH → Prop} {r0 : Int32} {S0 S : xS}  (hf : G63 n  S = some (r0, S0)) (hQ : Q (some (.int r0)) (xst S0 G h)) : Ca (am_X xs L9) (d + 7) 63 [.ref 85, .ref 65] (xst S G h) Q := (G63l hQ n).1 0 0 0 S hf
def G58b0 (R0 : Int32 → xS → Option (Int32 × xS)) (R1 : Int32 → xS → Option (Int32 × xS)) (R2 : Int32 → xS → Option (Int32 × xS)) (F : Nat → Int32 → Int32 → Int32 → Int32 → xS → Option (Int32 × xS)) (n : Nat) (l2 : Int32) (l3 : Int32) (l4 : Int32) (l5 : Int32) (S : xS) : Option (Int32 × xS) := F 8 l2 0 0 0 S
def G58b8 (R0 : Int32 → xS → Option (Int32 × xS)) (R1 : Int32 → xS → Option (Int32 × xS)) (R2 : Int32 → xS → Option (Int32 × xS)) (F : Nat → Int32 → Int32 → Int32 → Int32 → xS → Option (Int32 × xS)) (n : Nat) (l2 : Int32) (l3 : Int32) (l4 : Int32) (l5 : Int32) (S : xS) : Option (Int32 × xS) := (if am_ic .gt l5 60 = true then ((G36 n (S.1 65 2) 3 S).bind (fun z2 => (if narrow .boolean (.int z2.1) = .int z2.1 then some (z2.1, z2.2) else none))) else ((R1 l2 S).bind (fun z5 => (if am_if .ne z5.1 = true then (if am_if .eq l3 = true then ((G61 n 10 z5.2).bind (fun z9 => (if am_if .ne z9.1 = true then F 8 l2 z9.1 l4 (l5 + 1) z9.2 else (if am_if .eq l4 = true then ((G61 n 12 z9.2).bind (fun z13 => (if am_if .ne z13.1 = true then F 8 l2 z9.1 z13.1 (l5 + 1) z13.2 else some (1, z13.2)))) else ((G62 n (-23) z9.2).bind (fun z16 => ((G61 n 12 z16.2).bind (fun z18 => (if am_if .ne z18.1 = true then F 8 l2 z9.1 z18.1 (l5 + 1) z18.2 else some (1, z18.2)))))))))) else ((G62 n (-22) z5.2).bind (fun z21 => ((G61 n 10 z21.2).bind (fun z23 => (if am_if .ne z23.1 = true then F 8 l2 z23.1 l4 (l5 + 1) z23.2 else (if am_if .eq l4 = true then ((G61 n 12 z23.2).bind (fun z27 => (if am_if .ne z27.1 = true then F 8 l2 z23.1 z27.1 (l5 + 1) z27.2 else some (1, z27.2)))) else ((G62 n (-23) z23.2).bind (fun z30 => ((G61 n 12 z30.2).bind (fun z32 => (if am_if .ne z32.1 = true then F 8 l2 z23.1 z32.1 (l5 + 1) z32.2 else some (1, z32.2))))))))))))) else some (0, z5.2)))))
def G58f (R0 : Int32 → xS → Option (Int32 × xS)) (R1 : Int32 → xS → Option (Int32 × xS)) (R2 : Int32 → xS → Option (Int32 × xS)) : Nat → Nat → Int32 → Int32 → Int32 → Int32 → xS → Option (Int32 × xS)
  | 0, _, _, _, _, _, _ => none
  | n + 1, c, l2, l3, l4, l5, S => if c = 0 then G58b0 R0 R1 R2 (G58f R0 R1 R2 n) n l2 l3 l4 l5 S else G58b8 R0 R1 R2 (G58f R0 R1 R2 n) n l2 l3 l4 l5 S
theorem G58e0 (R0 : Int32 → xS → Option (Int32 × xS)) (R1 : Int32 → xS → Option (Int32 × xS)) (R2 : Int32 → xS → Option (Int32 × xS)) (n : Nat) (l2 : Int32) (l3 : Int32) (l4 : Int32) (l5 : Int32) (S : xS) : G58f R0 R1 R2 (n + 1) 0 l2 l3 l4 l5 S = G58b0 R0 R1 R2 (G58f R0 R1 R2 n) n l2 l3 l4 l5 S := if_pos rfl
theorem G58e8 (R0 : Int32 → xS → Option (Int32 × xS)) (R1 : Int32 → xS → Option (Int32 × xS)) (R2 : Int32 → xS → Option (Int32 × xS)) (n : Nat) (l2 : Int32) (l3 : Int32) (l4 : Int32) (l5 : Int32) (S : xS) : G58f R0 R1 R2 (n + 1) 8 l2 l3 l4 l5 S = G58b8 R0 R1 R2 (G58f R0 R1 R2 n) n l2 l3 l4 l5 S := if_neg (by decide)
def G58 (R0 : Int32 → xS → Option (Int32 × xS)) (R1 : Int32 → xS → Option (Int32 × xS)) (R2 : Int32 → xS → Option (Int32 × xS)) (n : Nat) (l2 : Int32) (S : xS) : Option (Int32 × xS) := G58f R0 R1 R2 n 0 l2 0 0 0 S
set_option maxRecDepth 20000 in
set_option maxHeartbeats 4000000 in
theorem G58l {xs : Nat → Int32} {L9 d : Nat} {G : gS} {h : Nat → va_E} {R0 : Int32 → xS → Option (Int32 × xS)} {R1 : Int32 → xS → Option (Int32 × xS)} {R2 : Int32 → xS → Option (Int32 × xS)} {Q : Option Value → AmH → Prop} {r0 : Int32} {S0 : xS} (hR0 : ∀ (l2 : Int32) (S S0 : xS) (r0 : Int32) (Q : Option Value → AmH → Prop), R0 l2 S = some (r0, S0) → Q (some (.int r0)) (xst S0 G h) → Ca (am_X xs L9) (d + 7) 58 [.ref 85, .ref 65, .int l2] (xst S G h) Q) (hR1 : ∀ (l2 : Int32) (S S0 : xS) (r0 : Int32) (Q : Option Value → AmH → Prop), R1 l2 S = some (r0, S0) → Q (some (.int r0)) (xst S0 G h) → Ca (am_X xs L9) (d + 7) 59 [.ref 85, .ref 65, .int l2] (xst S G h) Q) (hR2 : ∀ (l2 : Int32) (S S0 : xS) (r0 : Int32) (Q : Option Value → AmH → Prop), R2 l2 S = some (r0, S0) → Q (some (.int r0)) (xst S0 G h) → Ca (am_X xs L9) (d + 7) 60 [.ref 85, .ref 65, .int l2] (xst S G h) Q) (hQ : Q (some (.int r0)) (xst S0 G h)) : ∀ n : Nat, (∀ (l2 : Int32) (l3 : Int32) (l4 : Int32) (l5 : Int32) (S : xS), G58f R0 R1 R2 n 0 l2 l3 l4 l5 S = some (r0, S0) → Go (am_X xs L9) (d + 8) 58 0 [.ref 85, .ref 65, .int l2, .float 0, .float 0, .float 0] [] (xst S G h) Q) ∧ (∀ (l2 : Int32) (l3 : Int32) (l4 : Int32) (l5 : Int32) (S : xS), G58f R0 R1 R2 n 8 l2 l3 l4 l5 S = some (r0, S0) → Go (am_X xs L9) (d + 8) 58 8 [.ref 85, .ref 65, .int l2, .int l3, .int l4, .int l5] [] (xst S G h) Q) := by
  intro n
  induction n with
  | zero => exact ⟨fun l2 l3 l4 l5 S hf => (by cases hf), fun l2 l3 l4 l5 S hf => (by cases hf)⟩
  | succ n ih =>
    refine ⟨?_, ?_⟩
    · intro l2 l3 l4 l5 S hf
      rw [G58e0] at hf
      unfold G58b0 at hf
      refine r_iconst (v := 0) fe_58_0 (by decide) ?_
      refine r_istore_n fe_58_1 (Nat.le_of_ble_eq_true rfl) rfl ?_
      refine r_iconst (v := 0) fe_58_2 (by decide) ?_
      refine r_istore fe_58_3 (Nat.le_of_ble_eq_true rfl) rfl ?_
      refine r_iconst (v := 0) fe_58_5 (by decide) ?_
      refine r_istore fe_58_6 (Nat.le_of_ble_eq_true rfl) rfl ?_
      refine go_weak (L0 := [.ref 85, .ref 65, .int l2, .int 0, .int 0, .int 0]) (lwk_c (Or.inl rfl) (lwk_c (Or.inl rfl) (lwk_c (Or.inl rfl) (lwk_c (Or.inl rfl) (lwk_c (Or.inl rfl) (lwk_c (Or.inl rfl) (lwk_rf []))))))) ?_
      exact ih.2 l2 0 0 0 S hf
    · intro l2 l3 l4 l5 S hf
      rw [G58e8] at hf
      unfold G58b8 at hf
      refine r_iload fe_58_8 rfl ?_
      refine r_bipush (v := 60) fe_58_10 (by decide) ?_
      by_cases hb1 : am_ic .gt l5 60 = true
      · rw [if_pos hb1] at hf
        refine r_ic_t (t := 79) fe_58_12 (by decide) hb1 ?_
        refine r_aload_n fe_58_79 rfl ?_
        refine r_aload_n fe_58_80 rfl ?_
        refine r_getf (v := .int (S.1 65 2)) fe_58_81 lf_6_77 (x_c xk_65 (by decide)) (x_lt xk_65 (by decide)) rfl ?_
        refine r_iconst (v := 3) fe_58_84 (by decide) ?_
        refine r_callV (as := [.int (S.1 65 2), .int 3]) (r := []) fe_58_85 lm_6_47 md_36 rfl rfl (Nat.le_of_ble_eq_true rfl) (x_c xk_65 (by decide)) (x_lt xk_65 (by decide)) (Nat.le_of_ble_eq_true rfl) (Nat.le_of_ble_eq_true rfl) ?_
        cases hc3 : G36 n (S.1 65 2) 3 S with
        | none => rw [hc3] at hf; cases hf
        | some z2 =>
          rw [hc3, Option.bind_some] at hf
          refine G36c (r0 := z2.1) (S0 := z2.2)  (hf := hc3) ?_
          by_cases hz4 : narrow .boolean (.int z2.1) = .int z2.1
          rotate_left
          · rw [if_neg hz4] at hf; cases hf
          rw [if_pos hz4] at hf
          refine r_iret fe_58_88 ⟨hz4, by decide⟩ ?_
          exact dfin (P := fun r T => Q (some (.int r)) (xst T G h)) hf hQ
      · rw [if_neg hb1] at hf
        refine r_ic_f (t := 79) fe_58_12 (by decide) (Bool.eq_false_iff.mpr hb1) ?_
        refine r_aload_n fe_58_15 rfl ?_
        refine r_aload_n fe_58_16 rfl ?_
        refine r_iload_n fe_58_17 rfl ?_
        refine r_callV (as := [.ref 65, .int l2]) (r := []) fe_58_18 lm_6_66 md_59 rfl rfl (Nat.le_of_ble_eq_true rfl) (x_c xk_85 (by decide)) (x_lt xk_85 (by decide)) (Nat.le_of_ble_eq_true rfl) (Nat.le_of_ble_eq_true rfl) ?_
        cases hc6 : R1 l2 S with
        | none => rw [hc6] at hf; cases hf
        | some z5 =>
          rw [hc6, Option.bind_some] at hf
          refine hR1 _ _ z5.2 z5.1 _ hc6 ?_
          by_cases hb7 : am_if .ne z5.1 = true
          · rw [if_pos hb7] at hf
            refine r_if_t (t := 26) fe_58_21 (by decide) hb7 ?_
            refine r_iload_n fe_58_26 rfl ?_
            by_cases hb8 : am_if .eq l3 = true
            · rw [if_pos hb8] at hf
              refine r_if_t (t := 36) fe_58_27 (by decide) hb8 ?_
              refine r_aload_n fe_58_36 rfl ?_
              refine r_ldcS fe_58_37 lk_6_69 ?_
              refine r_callV (as := [.ref 10]) (r := []) fe_58_39 lm_6_71 md_61 rfl rfl (Nat.le_of_ble_eq_true rfl) (x_c xk_65 (by decide)) (x_lt xk_65 (by decide)) (Nat.le_of_ble_eq_true rfl) (Nat.le_of_ble_eq_true rfl) ?_
              cases hc10 : G61 n 10 z5.2 with
              | none => rw [hc10] at hf; cases hf
              | some z9 =>
                rw [hc10, Option.bind_some] at hf
                refine G61c (r0 := z9.1) (S0 := z9.2)  (hf := hc10) ?_
                refine r_istore_n fe_58_42 (Nat.le_of_ble_eq_true rfl) rfl ?_
                refine r_iload_n fe_58_43 rfl ?_
                by_cases hb11 : am_if .ne z9.1 = true
                · rw [if_pos hb11] at hf
                  refine r_if_t (t := 73) fe_58_44 (by decide) hb11 ?_
                  refine r_iinc (v := (l5 + 1)) fe_58_73 rfl rfl rfl ?_
                  refine r_goto (t := 8) fe_58_76 (by decide) ?_
                  refine go_weak (L0 := [.ref 85, .ref 65, .int l2, .int z9.1, .int l4, .int (l5 + 1)]) (lwk_c (Or.inl rfl) (lwk_c (Or.inl rfl) (lwk_c (Or.inl rfl) (lwk_c (Or.inl rfl) (lwk_c (Or.inl rfl) (lwk_c (Or.inl rfl) (lwk_rf []))))))) ?_
                  exact ih.2 l2 z9.1 l4 (l5 + 1) z9.2 hf
                · rw [if_neg hb11] at hf
                  refine r_if_f (t := 73) fe_58_44 (by decide) (Bool.eq_false_iff.mpr hb11) ?_
                  refine r_iload fe_58_47 rfl ?_
                  by_cases hb12 : am_if .eq l4 = true
                  · rw [if_pos hb12] at hf
                    refine r_if_t (t := 58) fe_58_49 (by decide) hb12 ?_
                    refine r_aload_n fe_58_58 rfl ?_
                    refine r_ldcS fe_58_59 lk_6_75 ?_
                    refine r_callV (as := [.ref 12]) (r := []) fe_58_61 lm_6_71 md_61 rfl rfl (Nat.le_of_ble_eq_true rfl) (x_c xk_65 (by decide)) (x_lt xk_65 (by decide)) (Nat.le_of_ble_eq_true rfl) (Nat.le_of_ble_eq_true rfl) ?_
                    cases hc14 : G61 n 12 z9.2 with
                    | none => rw [hc14] at hf; cases hf
                    | some z13 =>
                      rw [hc14, Option.bind_some] at hf
                      refine G61c (r0 := z13.1) (S0 := z13.2)  (hf := hc14) ?_
                      refine r_istore fe_58_64 (Nat.le_of_ble_eq_true rfl) rfl ?_
                      refine r_iload fe_58_66 rfl ?_
                      by_cases hb15 : am_if .ne z13.1 = true
                      · rw [if_pos hb15] at hf
                        refine r_if_t (t := 73) fe_58_68 (by decide) hb15 ?_
                        refine r_iinc (v := (l5 + 1)) fe_58_73 rfl rfl rfl ?_
                        refine r_goto (t := 8) fe_58_76 (by decide) ?_
                        refine go_weak (L0 := [.ref 85, .ref 65, .int l2, .int z9.1, .int z13.1, .int (l5 + 1)]) (lwk_c (Or.inl rfl) (lwk_c (Or.inl rfl) (lwk_c (Or.inl rfl) (lwk_c (Or.inl rfl) (lwk_c (Or.inl rfl) (lwk_c (Or.inl rfl) (lwk_rf []))))))) ?_
                        exact ih.2 l2 z9.1 z13.1 (l5 + 1) z13.2 hf
                      · rw [if_neg hb15] at hf
                        refine r_if_f (t := 73) fe_58_68 (by decide) (Bool.eq_false_iff.mpr hb15) ?_
                        refine r_iconst (v := 1) fe_58_71 (by decide) ?_
                        refine r_iret fe_58_72 ⟨rfl, by decide⟩ ?_
                        exact dfin (P := fun r T => Q (some (.int r)) (xst T G h)) hf hQ
                  · rw [if_neg hb12] at hf
                    refine r_if_f (t := 58) fe_58_49 (by decide) (Bool.eq_false_iff.mpr hb12) ?_
                    refine r_aload_n fe_58_52 rfl ?_
                    refine r_bipush (v := -23) fe_58_53 (by decide) ?_
                    refine r_callV (as := [.int (-23)]) (r := []) fe_58_55 lm_6_55 md_62 rfl rfl (Nat.le_of_ble_eq_true rfl) (x_c xk_85 (by decide)) (x_lt xk_85 (by decide)) (Nat.le_of_ble_eq_true rfl) (Nat.le_of_ble_eq_true rfl) ?_
                    cases hc17 : G62 n (-23) z9.2 with
                    | none => rw [hc17] at hf; cases hf
                    | some z16 =>
                      rw [hc17, Option.bind_some] at hf
                      refine G62c (r0 := z16.1) (S0 := z16.2)  (hf := hc17) ?_
                      refine r_aload_n fe_58_58 rfl ?_
                      refine r_ldcS fe_58_59 lk_6_75 ?_
                      refine r_callV (as := [.ref 12]) (r := []) fe_58_61 lm_6_71 md_61 rfl rfl (Nat.le_of_ble_eq_true rfl) (x_c xk_65 (by decide)) (x_lt xk_65 (by decide)) (Nat.le_of_ble_eq_true rfl) (Nat.le_of_ble_eq_true rfl) ?_
                      cases hc19 : G61 n 12 z16.2 with
                      | none => rw [hc19] at hf; cases hf
                      | some z18 =>
                        rw [hc19, Option.bind_some] at hf
                        refine G61c (r0 := z18.1) (S0 := z18.2)  (hf := hc19) ?_
                        refine r_istore fe_58_64 (Nat.le_of_ble_eq_true rfl) rfl ?_
                        refine r_iload fe_58_66 rfl ?_
                        by_cases hb20 : am_if .ne z18.1 = true
                        · rw [if_pos hb20] at hf
                          refine r_if_t (t := 73) fe_58_68 (by decide) hb20 ?_
                          refine r_iinc (v := (l5 + 1)) fe_58_73 rfl rfl rfl ?_
                          refine r_goto (t := 8) fe_58_76 (by decide) ?_
                          refine go_weak (L0 := [.ref 85, .ref 65, .int l2, .int z9.1, .int z18.1, .int (l5 + 1)]) (lwk_c (Or.inl rfl) (lwk_c (Or.inl rfl) (lwk_c (Or.inl rfl) (lwk_c (Or.inl rfl) (lwk_c (Or.inl rfl) (lwk_c (Or.inl rfl) (lwk_rf []))))))) ?_
                          exact ih.2 l2 z9.1 z18.1 (l5 + 1) z18.2 hf
                        · rw [if_neg hb20] at hf
                          refine r_if_f (t := 73) fe_58_68 (by decide) (Bool.eq_false_iff.mpr hb20) ?_
                          refine r_iconst (v := 1) fe_58_71 (by decide) ?_
                          refine r_iret fe_58_72 ⟨rfl, by decide⟩ ?_
                          exact dfin (P := fun r T => Q (some (.int r)) (xst T G h)) hf hQ
            · rw [if_neg hb8] at hf
              refine r_if_f (t := 36) fe_58_27 (by decide) (Bool.eq_false_iff.mpr hb8) ?_
              refine r_aload_n fe_58_30 rfl ?_
              refine r_bipush (v := -22) fe_58_31 (by decide) ?_
              refine r_callV (as := [.int (-22)]) (r := []) fe_58_33 lm_6_55 md_62 rfl rfl (Nat.le_of_ble_eq_true rfl) (x_c xk_85 (by decide)) (x_lt xk_85 (by decide)) (Nat.le_of_ble_eq_true rfl) (Nat.le_of_ble_eq_true rfl) ?_
              cases hc22 : G62 n (-22) z5.2 with
              | none => rw [hc22] at hf; cases hf
              | some z21 =>
                rw [hc22, Option.bind_some] at hf
                refine G62c (r0 := z21.1) (S0 := z21.2)  (hf := hc22) ?_
                refine r_aload_n fe_58_36 rfl ?_
                refine r_ldcS fe_58_37 lk_6_69 ?_
                refine r_callV (as := [.ref 10]) (r := []) fe_58_39 lm_6_71 md_61 rfl rfl (Nat.le_of_ble_eq_true rfl) (x_c xk_65 (by decide)) (x_lt xk_65 (by decide)) (Nat.le_of_ble_eq_true rfl) (Nat.le_of_ble_eq_true rfl) ?_
                cases hc24 : G61 n 10 z21.2 with
                | none => rw [hc24] at hf; cases hf
                | some z23 =>
                  rw [hc24, Option.bind_some] at hf
                  refine G61c (r0 := z23.1) (S0 := z23.2)  (hf := hc24) ?_
                  refine r_istore_n fe_58_42 (Nat.le_of_ble_eq_true rfl) rfl ?_
                  refine r_iload_n fe_58_43 rfl ?_
                  by_cases hb25 : am_if .ne z23.1 = true
                  · rw [if_pos hb25] at hf
                    refine r_if_t (t := 73) fe_58_44 (by decide) hb25 ?_
                    refine r_iinc (v := (l5 + 1)) fe_58_73 rfl rfl rfl ?_
                    refine r_goto (t := 8) fe_58_76 (by decide) ?_
                    refine go_weak (L0 := [.ref 85, .ref 65, .int l2, .int z23.1, .int l4, .int (l5 + 1)]) (lwk_c (Or.inl rfl) (lwk_c (Or.inl rfl) (lwk_c (Or.inl rfl) (lwk_c (Or.inl rfl) (lwk_c (Or.inl rfl) (lwk_c (Or.inl rfl) (lwk_rf []))))))) ?_
                    exact ih.2 l2 z23.1 l4 (l5 + 1) z23.2 hf
                  · rw [if_neg hb25] at hf
                    refine r_if_f (t := 73) fe_58_44 (by decide) (Bool.eq_false_iff.mpr hb25) ?_
                    refine r_iload fe_58_47 rfl ?_
                    by_cases hb26 : am_if .eq l4 = true
                    · rw [if_pos hb26] at hf
                      refine r_if_t (t := 58) fe_58_49 (by decide) hb26 ?_
                      refine r_aload_n fe_58_58 rfl ?_
                      refine r_ldcS fe_58_59 lk_6_75 ?_
                      refine r_callV (as := [.ref 12]) (r := []) fe_58_61 lm_6_71 md_61 rfl rfl (Nat.le_of_ble_eq_true rfl) (x_c xk_65 (by decide)) (x_lt xk_65 (by decide)) (Nat.le_of_ble_eq_true rfl) (Nat.le_of_ble_eq_true rfl) ?_
                      cases hc28 : G61 n 12 z23.2 with
                      | none => rw [hc28] at hf; cases hf
                      | some z27 =>
                        rw [hc28, Option.bind_some] at hf
                        refine G61c (r0 := z27.1) (S0 := z27.2)  (hf := hc28) ?_
                        refine r_istore fe_58_64 (Nat.le_of_ble_eq_true rfl) rfl ?_
                        refine r_iload fe_58_66 rfl ?_
                        by_cases hb29 : am_if .ne z27.1 = true
                        · rw [if_pos hb29] at hf
                          refine r_if_t (t := 73) fe_58_68 (by decide) hb29 ?_
                          refine r_iinc (v := (l5 + 1)) fe_58_73 rfl rfl rfl ?_
                          refine r_goto (t := 8) fe_58_76 (by decide) ?_
                          refine go_weak (L0 := [.ref 85, .ref 65, .int l2, .int z23.1, .int z27.1, .int (l5 + 1)]) (lwk_c (Or.inl rfl) (lwk_c (Or.inl rfl) (lwk_c (Or.inl rfl) (lwk_c (Or.inl rfl) (lwk_c (Or.inl rfl) (lwk_c (Or.inl rfl) (lwk_rf []))))))) ?_
                          exact ih.2 l2 z23.1 z27.1 (l5 + 1) z27.2 hf
                        · rw [if_neg hb29] at hf
                          refine r_if_f (t := 73) fe_58_68 (by decide) (Bool.eq_false_iff.mpr hb29) ?_
                          refine r_iconst (v := 1) fe_58_71 (by decide) ?_
                          refine r_iret fe_58_72 ⟨rfl, by decide⟩ ?_
                          exact dfin (P := fun r T => Q (some (.int r)) (xst T G h)) hf hQ
                    · rw [if_neg hb26] at hf
                      refine r_if_f (t := 58) fe_58_49 (by decide) (Bool.eq_false_iff.mpr hb26) ?_
                      refine r_aload_n fe_58_52 rfl ?_
                      refine r_bipush (v := -23) fe_58_53 (by decide) ?_
                      refine r_callV (as := [.int (-23)]) (r := []) fe_58_55 lm_6_55 md_62 rfl rfl (Nat.le_of_ble_eq_true rfl) (x_c xk_85 (by decide)) (x_lt xk_85 (by decide)) (Nat.le_of_ble_eq_true rfl) (Nat.le_of_ble_eq_true rfl) ?_
                      cases hc31 : G62 n (-23) z23.2 with
                      | none => rw [hc31] at hf; cases hf
                      | some z30 =>
                        rw [hc31, Option.bind_some] at hf
                        refine G62c (r0 := z30.1) (S0 := z30.2)  (hf := hc31) ?_
                        refine r_aload_n fe_58_58 rfl ?_
                        refine r_ldcS fe_58_59 lk_6_75 ?_
                        refine r_callV (as := [.ref 12]) (r := []) fe_58_61 lm_6_71 md_61 rfl rfl (Nat.le_of_ble_eq_true rfl) (x_c xk_65 (by decide)) (x_lt xk_65 (by decide)) (Nat.le_of_ble_eq_true rfl) (Nat.le_of_ble_eq_true rfl) ?_
                        cases hc33 : G61 n 12 z30.2 with
                        | none => rw [hc33] at hf; cases hf
                        | some z32 =>
                          rw [hc33, Option.bind_some] at hf
                          refine G61c (r0 := z32.1) (S0 := z32.2)  (hf := hc33) ?_
                          refine r_istore fe_58_64 (Nat.le_of_ble_eq_true rfl) rfl ?_
                          refine r_iload fe_58_66 rfl ?_
                          by_cases hb34 : am_if .ne z32.1 = true
                          · rw [if_pos hb34] at hf
                            refine r_if_t (t := 73) fe_58_68 (by decide) hb34 ?_
                            refine r_iinc (v := (l5 + 1)) fe_58_73 rfl rfl rfl ?_
                            refine r_goto (t := 8) fe_58_76 (by decide) ?_
                            refine go_weak (L0 := [.ref 85, .ref 65, .int l2, .int z23.1, .int z32.1, .int (l5 + 1)]) (lwk_c (Or.inl rfl) (lwk_c (Or.inl rfl) (lwk_c (Or.inl rfl) (lwk_c (Or.inl rfl) (lwk_c (Or.inl rfl) (lwk_c (Or.inl rfl) (lwk_rf []))))))) ?_
                            exact ih.2 l2 z23.1 z32.1 (l5 + 1) z32.2 hf
                          · rw [if_neg hb34] at hf
                            refine r_if_f (t := 73) fe_58_68 (by decide) (Bool.eq_false_iff.mpr hb34) ?_
                            refine r_iconst (v := 1) fe_58_71 (by decide) ?_
                            refine r_iret fe_58_72 ⟨rfl, by decide⟩ ?_
                            exact dfin (P := fun r T => Q (some (.int r)) (xst T G h)) hf hQ
          · rw [if_neg hb7] at hf
            refine r_if_f (t := 26) fe_58_21 (by decide) (Bool.eq_false_iff.mpr hb7) ?_
            refine r_iconst (v := 0) fe_58_24 (by decide) ?_
            refine r_iret fe_58_25 ⟨rfl, by decide⟩ ?_
            exact dfin (P := fun r T => Q (some (.int r)) (xst T G h)) hf hQ
theorem G58c {xs : Nat → Int32} {L9 d : Nat} {G : gS} {h : Nat → va_E} {R0 : Int32 → xS → Option (Int32 × xS)} {R1 : Int32 → xS → Option (Int32 × xS)} {R2 : Int32 → xS → Option (Int32 × xS)} {n : Nat} {Q : Option Value → AmH → Prop} {r0 : Int32} {S0 S : xS} {l2 : Int32} (hR0 : ∀ (l2 : Int32) (S S0 : xS) (r0 : Int32) (Q : Option Value → AmH → Prop), R0 l2 S = some (r0, S0) → Q (some (.int r0)) (xst S0 G h) → Ca (am_X xs L9) (d + 7) 58 [.ref 85, .ref 65, .int l2] (xst S G h) Q) (hR1 : ∀ (l2 : Int32) (S S0 : xS) (r0 : Int32) (Q : Option Value → AmH → Prop), R1 l2 S = some (r0, S0) → Q (some (.int r0)) (xst S0 G h) → Ca (am_X xs L9) (d + 7) 59 [.ref 85, .ref 65, .int l2] (xst S G h) Q) (hR2 : ∀ (l2 : Int32) (S S0 : xS) (r0 : Int32) (Q : Option Value → AmH → Prop), R2 l2 S = some (r0, S0) → Q (some (.int r0)) (xst S0 G h) → Ca (am_X xs L9) (d + 7) 60 [.ref 85, .ref 65, .int l2] (xst S G h) Q) (hf : G58 R0 R1 R2 n l2 S = some (r0, S0)) (hQ : Q (some (.int r0)) (xst S0 G h)) : Ca (am_X xs L9) (d + 8) 58 [.ref 85, .ref 65, .int l2] (xst S G h) Q := (G58l hR0 hR1 hR2 hQ n).1 l2 0 0 0 S hf
def G59b0 (R0 : Int32 → xS → Option (Int32 × xS)) (R1 : Int32 → xS → Option (Int32 × xS)) (R2 : Int32 → xS → Option (Int32 × xS)) (F : Nat → Int32 → xS → Option (Int32 × xS)) (n : Nat) (l2 : Int32) (S : xS) : Option (Int32 × xS) := ((G23 n  S).bind (fun z1 => (if am_ic .ne z1.1 91 = true then ((G61 n 6 z1.2).bind (fun z4 => (if am_if .eq z4.1 = true then ((G63 n  z4.2).bind (fun z7 => (if am_if .ne z7.1 = true then ((G68 n  z7.2).bind (fun z10 => (if am_ic .eq z10.1 (-1) = true then some (0, z10.2) else ((G63 n  z10.2).bind (fun z13 => (if am_if .ne z13.1 = true then ((G62 n z10.1 z13.2).bind (fun z16 => some (1, z16.2))) else some (0, z13.2))))))) else some (0, z7.2)))) else (if am_ic .lt l2 10 = true then ((R1 (l2 + 1) z4.2).bind (fun z19 => (if am_if .ne z19.1 = true then ((G62 n (-24) z19.2).bind (fun z22 => some (1, z22.2))) else some (0, z19.2)))) else ((G36 n (z4.2.1 65 3) 2 z4.2).bind (fun z24 => (if narrow .boolean (.int z24.1) = .int z24.1 then some (z24.1, z24.2) else none))))))) else ((R2 l2 z1.2).bind (fun z27 => (if narrow .boolean (.int z27.1) = .int z27.1 then some (z27.1, z27.2) else none))))))
def G59f (R0 : Int32 → xS → Option (Int32 × xS)) (R1 : Int32 → xS → Option (Int32 × xS)) (R2 : Int32 → xS → Option (Int32 × xS)) : Nat → Nat → Int32 → xS → Option (Int32 × xS)
  | 0, _, _, _ => none
  | n + 1, c, l2, S => G59b0 R0 R1 R2 (G59f R0 R1 R2 n) n l2 S
theorem G59e0 (R0 : Int32 → xS → Option (Int32 × xS)) (R1 : Int32 → xS → Option (Int32 × xS)) (R2 : Int32 → xS → Option (Int32 × xS)) (n : Nat) (l2 : Int32) (S : xS) : G59f R0 R1 R2 (n + 1) 0 l2 S = G59b0 R0 R1 R2 (G59f R0 R1 R2 n) n l2 S := rfl
def G59 (R0 : Int32 → xS → Option (Int32 × xS)) (R1 : Int32 → xS → Option (Int32 × xS)) (R2 : Int32 → xS → Option (Int32 × xS)) (n : Nat) (l2 : Int32) (S : xS) : Option (Int32 × xS) := G59f R0 R1 R2 n 0 l2 S
set_option maxRecDepth 20000 in
set_option maxHeartbeats 4000000 in
theorem G59l {xs : Nat → Int32} {L9 d : Nat} {G : gS} {h : Nat → va_E} {R0 : Int32 → xS → Option (Int32 × xS)} {R1 : Int32 → xS → Option (Int32 × xS)} {R2 : Int32 → xS → Option (Int32 × xS)} {Q : Option Value → AmH → Prop} {r0 : Int32} {S0 : xS} (hR0 : ∀ (l2 : Int32) (S S0 : xS) (r0 : Int32) (Q : Option Value → AmH → Prop), R0 l2 S = some (r0, S0) → Q (some (.int r0)) (xst S0 G h) → Ca (am_X xs L9) (d + 7) 58 [.ref 85, .ref 65, .int l2] (xst S G h) Q) (hR1 : ∀ (l2 : Int32) (S S0 : xS) (r0 : Int32) (Q : Option Value → AmH → Prop), R1 l2 S = some (r0, S0) → Q (some (.int r0)) (xst S0 G h) → Ca (am_X xs L9) (d + 7) 59 [.ref 85, .ref 65, .int l2] (xst S G h) Q) (hR2 : ∀ (l2 : Int32) (S S0 : xS) (r0 : Int32) (Q : Option Value → AmH → Prop), R2 l2 S = some (r0, S0) → Q (some (.int r0)) (xst S0 G h) → Ca (am_X xs L9) (d + 7) 60 [.ref 85, .ref 65, .int l2] (xst S G h) Q) (hQ : Q (some (.int r0)) (xst S0 G h)) : ∀ n : Nat, (∀ (l2 : Int32) (S : xS), G59f R0 R1 R2 n 0 l2 S = some (r0, S0) → Go (am_X xs L9) (d + 8) 59 0 [.ref 85, .ref 65, .int l2, .float 0] [] (xst S G h) Q) := by
  intro n
  induction n with
  | zero => exact fun l2 S hf => (by cases hf)
  | succ n ih =>
    intro l2 S hf
    rw [G59e0] at hf
    unfold G59b0 at hf
    refine r_aload_n fe_59_0 rfl ?_
    refine r_callV (as := []) (r := []) fe_59_1 lm_6_80 md_23 rfl rfl (Nat.le_of_ble_eq_true rfl) (x_c xk_65 (by decide)) (x_lt xk_65 (by decide)) (Nat.le_of_ble_eq_true rfl) (Nat.le_of_ble_eq_true rfl) ?_
    cases hc2 : G23 n  S with
    | none => rw [hc2] at hf; cases hf
    | some z1 =>
      rw [hc2, Option.bind_some] at hf
      refine G23c (r0 := z1.1) (S0 := z1.2)  (hf := hc2) ?_
      refine r_bipush (v := 91) fe_59_4 (by decide) ?_
      by_cases hb3 : am_ic .ne z1.1 91 = true
      · rw [if_pos hb3] at hf
        refine r_ic_t (t := 16) fe_59_6 (by decide) hb3 ?_
        refine r_aload_n fe_59_16 rfl ?_
        refine r_ldcS fe_59_17 lk_6_87 ?_
        refine r_callV (as := [.ref 6]) (r := []) fe_59_19 lm_6_71 md_61 rfl rfl (Nat.le_of_ble_eq_true rfl) (x_c xk_65 (by decide)) (x_lt xk_65 (by decide)) (Nat.le_of_ble_eq_true rfl) (Nat.le_of_ble_eq_true rfl) ?_
        cases hc5 : G61 n 6 z1.2 with
        | none => rw [hc5] at hf; cases hf
        | some z4 =>
          rw [hc5, Option.bind_some] at hf
          refine G61c (r0 := z4.1) (S0 := z4.2)  (hf := hc5) ?_
          by_cases hb6 : am_if .eq z4.1 = true
          · rw [if_pos hb6] at hf
            refine r_if_t (t := 62) fe_59_22 (by decide) hb6 ?_
            refine r_aload_n fe_59_62 rfl ?_
            refine r_aload_n fe_59_63 rfl ?_
            refine r_callV (as := [.ref 65]) (r := []) fe_59_64 lm_6_89 md_63 rfl rfl (Nat.le_of_ble_eq_true rfl) (x_c xk_85 (by decide)) (x_lt xk_85 (by decide)) (Nat.le_of_ble_eq_true rfl) (Nat.le_of_ble_eq_true rfl) ?_
            cases hc8 : G63 n  z4.2 with
            | none => rw [hc8] at hf; cases hf
            | some z7 =>
              rw [hc8, Option.bind_some] at hf
              refine G63c (r0 := z7.1) (S0 := z7.2)  (hf := hc8) ?_
              by_cases hb9 : am_if .ne z7.1 = true
              · rw [if_pos hb9] at hf
                refine r_if_t (t := 72) fe_59_67 (by decide) hb9 ?_
                refine r_aload_n fe_59_72 rfl ?_
                refine r_aload_n fe_59_73 rfl ?_
                refine r_callV (as := [.ref 65]) (r := []) fe_59_74 lm_6_93 md_68 rfl rfl (Nat.le_of_ble_eq_true rfl) (x_c xk_85 (by decide)) (x_lt xk_85 (by decide)) (Nat.le_of_ble_eq_true rfl) (Nat.le_of_ble_eq_true rfl) ?_
                cases hc11 : G68 n  z7.2 with
                | none => rw [hc11] at hf; cases hf
                | some z10 =>
                  rw [hc11, Option.bind_some] at hf
                  refine G68c (r0 := z10.1) (S0 := z10.2)  (hf := hc11) ?_
                  refine r_istore_n fe_59_77 (Nat.le_of_ble_eq_true rfl) rfl ?_
                  refine r_iload_n fe_59_78 rfl ?_
                  refine r_iconst (v := -1) fe_59_79 (by decide) ?_
                  by_cases hb12 : am_ic .eq z10.1 (-1) = true
                  · rw [if_pos hb12] at hf
                    refine r_ic_t (t := 91) fe_59_80 (by decide) hb12 ?_
                    refine r_iconst (v := 0) fe_59_91 (by decide) ?_
                    refine r_iret fe_59_92 ⟨rfl, by decide⟩ ?_
                    exact dfin (P := fun r T => Q (some (.int r)) (xst T G h)) hf hQ
                  · rw [if_neg hb12] at hf
                    refine r_ic_f (t := 91) fe_59_80 (by decide) (Bool.eq_false_iff.mpr hb12) ?_
                    refine r_aload_n fe_59_83 rfl ?_
                    refine r_aload_n fe_59_84 rfl ?_
                    refine r_callV (as := [.ref 65]) (r := []) fe_59_85 lm_6_89 md_63 rfl rfl (Nat.le_of_ble_eq_true rfl) (x_c xk_85 (by decide)) (x_lt xk_85 (by decide)) (Nat.le_of_ble_eq_true rfl) (Nat.le_of_ble_eq_true rfl) ?_
                    cases hc14 : G63 n  z10.2 with
                    | none => rw [hc14] at hf; cases hf
                    | some z13 =>
                      rw [hc14, Option.bind_some] at hf
                      refine G63c (r0 := z13.1) (S0 := z13.2)  (hf := hc14) ?_
                      by_cases hb15 : am_if .ne z13.1 = true
                      · rw [if_pos hb15] at hf
                        refine r_if_t (t := 93) fe_59_88 (by decide) hb15 ?_
                        refine r_aload_n fe_59_93 rfl ?_
                        refine r_iload_n fe_59_94 rfl ?_
                        refine r_callV (as := [.int z10.1]) (r := []) fe_59_95 lm_6_55 md_62 rfl rfl (Nat.le_of_ble_eq_true rfl) (x_c xk_85 (by decide)) (x_lt xk_85 (by decide)) (Nat.le_of_ble_eq_true rfl) (Nat.le_of_ble_eq_true rfl) ?_
                        cases hc17 : G62 n z10.1 z13.2 with
                        | none => rw [hc17] at hf; cases hf
                        | some z16 =>
                          rw [hc17, Option.bind_some] at hf
                          refine G62c (r0 := z16.1) (S0 := z16.2)  (hf := hc17) ?_
                          refine r_iconst (v := 1) fe_59_98 (by decide) ?_
                          refine r_iret fe_59_99 ⟨rfl, by decide⟩ ?_
                          exact dfin (P := fun r T => Q (some (.int r)) (xst T G h)) hf hQ
                      · rw [if_neg hb15] at hf
                        refine r_if_f (t := 93) fe_59_88 (by decide) (Bool.eq_false_iff.mpr hb15) ?_
                        refine r_iconst (v := 0) fe_59_91 (by decide) ?_
                        refine r_iret fe_59_92 ⟨rfl, by decide⟩ ?_
                        exact dfin (P := fun r T => Q (some (.int r)) (xst T G h)) hf hQ
              · rw [if_neg hb9] at hf
                refine r_if_f (t := 72) fe_59_67 (by decide) (Bool.eq_false_iff.mpr hb9) ?_
                refine r_iconst (v := 0) fe_59_70 (by decide) ?_
                refine r_iret fe_59_71 ⟨rfl, by decide⟩ ?_
                exact dfin (P := fun r T => Q (some (.int r)) (xst T G h)) hf hQ
          · rw [if_neg hb6] at hf
            refine r_if_f (t := 62) fe_59_22 (by decide) (Bool.eq_false_iff.mpr hb6) ?_
            refine r_iload_n fe_59_25 rfl ?_
            refine r_bipush (v := 10) fe_59_26 (by decide) ?_
            by_cases hb18 : am_ic .lt l2 10 = true
            · rw [if_pos hb18] at hf
              refine r_ic_t (t := 41) fe_59_28 (by decide) hb18 ?_
              refine r_aload_n fe_59_41 rfl ?_
              refine r_aload_n fe_59_42 rfl ?_
              refine r_iload_n fe_59_43 rfl ?_
              refine r_iconst (v := 1) fe_59_44 (by decide) ?_
              refine r_iadd (v := (l2 + 1)) fe_59_45 rfl ?_
              refine r_callV (as := [.ref 65, .int (l2 + 1)]) (r := []) fe_59_46 lm_6_66 md_59 rfl rfl (Nat.le_of_ble_eq_true rfl) (x_c xk_85 (by decide)) (x_lt xk_85 (by decide)) (Nat.le_of_ble_eq_true rfl) (Nat.le_of_ble_eq_true rfl) ?_
              cases hc20 : R1 (l2 + 1) z4.2 with
              | none => rw [hc20] at hf; cases hf
              | some z19 =>
                rw [hc20, Option.bind_some] at hf
                refine hR1 _ _ z19.2 z19.1 _ hc20 ?_
                by_cases hb21 : am_if .ne z19.1 = true
                · rw [if_pos hb21] at hf
                  refine r_if_t (t := 54) fe_59_49 (by decide) hb21 ?_
                  refine r_aload_n fe_59_54 rfl ?_
                  refine r_bipush (v := -24) fe_59_55 (by decide) ?_
                  refine r_callV (as := [.int (-24)]) (r := []) fe_59_57 lm_6_55 md_62 rfl rfl (Nat.le_of_ble_eq_true rfl) (x_c xk_85 (by decide)) (x_lt xk_85 (by decide)) (Nat.le_of_ble_eq_true rfl) (Nat.le_of_ble_eq_true rfl) ?_
                  cases hc23 : G62 n (-24) z19.2 with
                  | none => rw [hc23] at hf; cases hf
                  | some z22 =>
                    rw [hc23, Option.bind_some] at hf
                    refine G62c (r0 := z22.1) (S0 := z22.2)  (hf := hc23) ?_
                    refine r_iconst (v := 1) fe_59_60 (by decide) ?_
                    refine r_iret fe_59_61 ⟨rfl, by decide⟩ ?_
                    exact dfin (P := fun r T => Q (some (.int r)) (xst T G h)) hf hQ
                · rw [if_neg hb21] at hf
                  refine r_if_f (t := 54) fe_59_49 (by decide) (Bool.eq_false_iff.mpr hb21) ?_
                  refine r_iconst (v := 0) fe_59_52 (by decide) ?_
                  refine r_iret fe_59_53 ⟨rfl, by decide⟩ ?_
                  exact dfin (P := fun r T => Q (some (.int r)) (xst T G h)) hf hQ
            · rw [if_neg hb18] at hf
              refine r_ic_f (t := 41) fe_59_28 (by decide) (Bool.eq_false_iff.mpr hb18) ?_
              refine r_aload_n fe_59_31 rfl ?_
              refine r_aload_n fe_59_32 rfl ?_
              refine r_getf (v := .int (z4.2.1 65 3)) fe_59_33 lf_6_44 (x_c xk_65 (by decide)) (x_lt xk_65 (by decide)) rfl ?_
              refine r_iconst (v := 2) fe_59_36 (by decide) ?_
              refine r_callV (as := [.int (z4.2.1 65 3), .int 2]) (r := []) fe_59_37 lm_6_47 md_36 rfl rfl (Nat.le_of_ble_eq_true rfl) (x_c xk_65 (by decide)) (x_lt xk_65 (by decide)) (Nat.le_of_ble_eq_true rfl) (Nat.le_of_ble_eq_true rfl) ?_
              cases hc25 : G36 n (z4.2.1 65 3) 2 z4.2 with
              | none => rw [hc25] at hf; cases hf
              | some z24 =>
                rw [hc25, Option.bind_some] at hf
                refine G36c (r0 := z24.1) (S0 := z24.2)  (hf := hc25) ?_
                by_cases hz26 : narrow .boolean (.int z24.1) = .int z24.1
                rotate_left
                · rw [if_neg hz26] at hf; cases hf
                rw [if_pos hz26] at hf
                refine r_iret fe_59_40 ⟨hz26, by decide⟩ ?_
                exact dfin (P := fun r T => Q (some (.int r)) (xst T G h)) hf hQ
      · rw [if_neg hb3] at hf
        refine r_ic_f (t := 16) fe_59_6 (by decide) (Bool.eq_false_iff.mpr hb3) ?_
        refine r_aload_n fe_59_9 rfl ?_
        refine r_aload_n fe_59_10 rfl ?_
        refine r_iload_n fe_59_11 rfl ?_
        refine r_callV (as := [.ref 65, .int l2]) (r := []) fe_59_12 lm_6_84 md_60 rfl rfl (Nat.le_of_ble_eq_true rfl) (x_c xk_85 (by decide)) (x_lt xk_85 (by decide)) (Nat.le_of_ble_eq_true rfl) (Nat.le_of_ble_eq_true rfl) ?_
        cases hc28 : R2 l2 z1.2 with
        | none => rw [hc28] at hf; cases hf
        | some z27 =>
          rw [hc28, Option.bind_some] at hf
          refine hR2 _ _ z27.2 z27.1 _ hc28 ?_
          by_cases hz29 : narrow .boolean (.int z27.1) = .int z27.1
          rotate_left
          · rw [if_neg hz29] at hf; cases hf
          rw [if_pos hz29] at hf
          refine r_iret fe_59_15 ⟨hz29, by decide⟩ ?_
          exact dfin (P := fun r T => Q (some (.int r)) (xst T G h)) hf hQ
theorem G59c {xs : Nat → Int32} {L9 d : Nat} {G : gS} {h : Nat → va_E} {R0 : Int32 → xS → Option (Int32 × xS)} {R1 : Int32 → xS → Option (Int32 × xS)} {R2 : Int32 → xS → Option (Int32 × xS)} {n : Nat} {Q : Option Value → AmH → Prop} {r0 : Int32} {S0 S : xS} {l2 : Int32} (hR0 : ∀ (l2 : Int32) (S S0 : xS) (r0 : Int32) (Q : Option Value → AmH → Prop), R0 l2 S = some (r0, S0) → Q (some (.int r0)) (xst S0 G h) → Ca (am_X xs L9) (d + 7) 58 [.ref 85, .ref 65, .int l2] (xst S G h) Q) (hR1 : ∀ (l2 : Int32) (S S0 : xS) (r0 : Int32) (Q : Option Value → AmH → Prop), R1 l2 S = some (r0, S0) → Q (some (.int r0)) (xst S0 G h) → Ca (am_X xs L9) (d + 7) 59 [.ref 85, .ref 65, .int l2] (xst S G h) Q) (hR2 : ∀ (l2 : Int32) (S S0 : xS) (r0 : Int32) (Q : Option Value → AmH → Prop), R2 l2 S = some (r0, S0) → Q (some (.int r0)) (xst S0 G h) → Ca (am_X xs L9) (d + 7) 60 [.ref 85, .ref 65, .int l2] (xst S G h) Q) (hf : G59 R0 R1 R2 n l2 S = some (r0, S0)) (hQ : Q (some (.int r0)) (xst S0 G h)) : Ca (am_X xs L9) (d + 8) 59 [.ref 85, .ref 65, .int l2] (xst S G h) Q := (G59l hR0 hR1 hR2 hQ n) l2 S hf
def G60b0 (R0 : Int32 → xS → Option (Int32 × xS)) (R1 : Int32 → xS → Option (Int32 × xS)) (R2 : Int32 → xS → Option (Int32 × xS)) (F : Nat → Int32 → xS → Option (Int32 × xS)) (n : Nat) (l2 : Int32) (S : xS) : Option (Int32 × xS) := (if am_ic .lt l2 10 = true then ((R0 (l2 + 1) (x_sI S 65 2 ((S.1 65 2) + 1))).bind (fun z2 => (if am_if .ne z2.1 = true then ((G23 n  z2.2).bind (fun z5 => (if am_ic .eq z5.1 93 = true then some (1, (x_sI z5.2 65 2 ((z5.2.1 65 2) + 1))) else ((G36 n (z5.2.1 65 2) 0 z5.2).bind (fun z8 => (if narrow .boolean (.int z8.1) = .int z8.1 then some (z8.1, z8.2) else none)))))) else some (0, z2.2)))) else ((G36 n (S.1 65 2) 2 S).bind (fun z11 => (if narrow .boolean (.int z11.1) = .int z11.1 then some (z11.1, z11.2) else none))))
def G60f (R0 : Int32 → xS → Option (Int32 × xS)) (R1 : Int32 → xS → Option (Int32 × xS)) (R2 : Int32 → xS → Option (Int32 × xS)) : Nat → Nat → Int32 → xS → Option (Int32 × xS)
  | 0, _, _, _ => none
  | n + 1, c, l2, S => G60b0 R0 R1 R2 (G60f R0 R1 R2 n) n l2 S
theorem G60e0 (R0 : Int32 → xS → Option (Int32 × xS)) (R1 : Int32 → xS → Option (Int32 × xS)) (R2 : Int32 → xS → Option (Int32 × xS)) (n : Nat) (l2 : Int32) (S : xS) : G60f R0 R1 R2 (n + 1) 0 l2 S = G60b0 R0 R1 R2 (G60f R0 R1 R2 n) n l2 S := rfl
def G60 (R0 : Int32 → xS → Option (Int32 × xS)) (R1 : Int32 → xS → Option (Int32 × xS)) (R2 : Int32 → xS → Option (Int32 × xS)) (n : Nat) (l2 : Int32) (S : xS) : Option (Int32 × xS) := G60f R0 R1 R2 n 0 l2 S
set_option maxRecDepth 20000 in
set_option maxHeartbeats 4000000 in
theorem G60l {xs : Nat → Int32} {L9 d : Nat} {G : gS} {h : Nat → va_E} {R0 : Int32 → xS → Option (Int32 × xS)} {R1 : Int32 → xS → Option (Int32 × xS)} {R2 : Int32 → xS → Option (Int32 × xS)} {Q : Option Value → AmH → Prop} {r0 : Int32} {S0 : xS} (hR0 : ∀ (l2 : Int32) (S S0 : xS) (r0 : Int32) (Q : Option Value → AmH → Prop), R0 l2 S = some (r0, S0) → Q (some (.int r0)) (xst S0 G h) → Ca (am_X xs L9) (d + 7) 58 [.ref 85, .ref 65, .int l2] (xst S G h) Q) (hR1 : ∀ (l2 : Int32) (S S0 : xS) (r0 : Int32) (Q : Option Value → AmH → Prop), R1 l2 S = some (r0, S0) → Q (some (.int r0)) (xst S0 G h) → Ca (am_X xs L9) (d + 7) 59 [.ref 85, .ref 65, .int l2] (xst S G h) Q) (hR2 : ∀ (l2 : Int32) (S S0 : xS) (r0 : Int32) (Q : Option Value → AmH → Prop), R2 l2 S = some (r0, S0) → Q (some (.int r0)) (xst S0 G h) → Ca (am_X xs L9) (d + 7) 60 [.ref 85, .ref 65, .int l2] (xst S G h) Q) (hQ : Q (some (.int r0)) (xst S0 G h)) : ∀ n : Nat, (∀ (l2 : Int32) (S : xS), G60f R0 R1 R2 n 0 l2 S = some (r0, S0) → Go (am_X xs L9) (d + 8) 60 0 [.ref 85, .ref 65, .int l2] [] (xst S G h) Q) := by
  intro n
  induction n with
  | zero => exact fun l2 S hf => (by cases hf)
  | succ n ih =>
    intro l2 S hf
    rw [G60e0] at hf
    unfold G60b0 at hf
    refine r_iload_n fe_60_0 rfl ?_
    refine r_bipush (v := 10) fe_60_1 (by decide) ?_
    by_cases hb1 : am_ic .lt l2 10 = true
    · rw [if_pos hb1] at hf
      refine r_ic_t (t := 16) fe_60_3 (by decide) hb1 ?_
      refine r_aload_n fe_60_16 rfl ?_
      refine r_dup fe_60_17 rfl ?_
      refine r_getf (v := .int (S.1 65 2)) fe_60_18 lf_6_77 (x_c xk_65 (by decide)) (x_lt xk_65 (by decide)) rfl ?_
      refine r_iconst (v := 1) fe_60_21 (by decide) ?_
      refine r_iadd (v := ((S.1 65 2) + 1)) fe_60_22 rfl ?_
      refine r_putf fe_60_23 lf_6_77 (x_h xk_65 (by decide)) (x_lt xk_65 (by decide)) (by decide) (Nat.le_of_ble_eq_true rfl) rfl rfl (Or.inl rfl) ?_
      refine go_heap (x_uI (j := 2) (x := ((S.1 65 2) + 1)) xk_65 (by decide)) ?_
      refine r_aload_n fe_60_26 rfl ?_
      refine r_aload_n fe_60_27 rfl ?_
      refine r_iload_n fe_60_28 rfl ?_
      refine r_iconst (v := 1) fe_60_29 (by decide) ?_
      refine r_iadd (v := (l2 + 1)) fe_60_30 rfl ?_
      refine r_callV (as := [.ref 65, .int (l2 + 1)]) (r := []) fe_60_31 lm_6_51 md_58 rfl rfl (Nat.le_of_ble_eq_true rfl) (x_c xk_85 (by decide)) (x_lt xk_85 (by decide)) (Nat.le_of_ble_eq_true rfl) (Nat.le_of_ble_eq_true rfl) ?_
      cases hc3 : R0 (l2 + 1) (x_sI S 65 2 ((S.1 65 2) + 1)) with
      | none => rw [hc3] at hf; cases hf
      | some z2 =>
        rw [hc3, Option.bind_some] at hf
        refine hR0 _ _ z2.2 z2.1 _ hc3 ?_
        by_cases hb4 : am_if .ne z2.1 = true
        · rw [if_pos hb4] at hf
          refine r_if_t (t := 39) fe_60_34 (by decide) hb4 ?_
          refine r_aload_n fe_60_39 rfl ?_
          refine r_callV (as := []) (r := []) fe_60_40 lm_6_80 md_23 rfl rfl (Nat.le_of_ble_eq_true rfl) (x_c xk_65 (by decide)) (x_lt xk_65 (by decide)) (Nat.le_of_ble_eq_true rfl) (Nat.le_of_ble_eq_true rfl) ?_
          cases hc6 : G23 n  z2.2 with
          | none => rw [hc6] at hf; cases hf
          | some z5 =>
            rw [hc6, Option.bind_some] at hf
            refine G23c (r0 := z5.1) (S0 := z5.2)  (hf := hc6) ?_
            refine r_bipush (v := 93) fe_60_43 (by decide) ?_
            by_cases hb7 : am_ic .eq z5.1 93 = true
            · rw [if_pos hb7] at hf
              refine r_ic_t (t := 58) fe_60_45 (by decide) hb7 ?_
              refine r_aload_n fe_60_58 rfl ?_
              refine r_dup fe_60_59 rfl ?_
              refine r_getf (v := .int (z5.2.1 65 2)) fe_60_60 lf_6_77 (x_c xk_65 (by decide)) (x_lt xk_65 (by decide)) rfl ?_
              refine r_iconst (v := 1) fe_60_63 (by decide) ?_
              refine r_iadd (v := ((z5.2.1 65 2) + 1)) fe_60_64 rfl ?_
              refine r_putf fe_60_65 lf_6_77 (x_h xk_65 (by decide)) (x_lt xk_65 (by decide)) (by decide) (Nat.le_of_ble_eq_true rfl) rfl rfl (Or.inl rfl) ?_
              refine go_heap (x_uI (j := 2) (x := ((z5.2.1 65 2) + 1)) xk_65 (by decide)) ?_
              refine r_iconst (v := 1) fe_60_68 (by decide) ?_
              refine r_iret fe_60_69 ⟨rfl, by decide⟩ ?_
              exact dfin (P := fun r T => Q (some (.int r)) (xst T G h)) hf hQ
            · rw [if_neg hb7] at hf
              refine r_ic_f (t := 58) fe_60_45 (by decide) (Bool.eq_false_iff.mpr hb7) ?_
              refine r_aload_n fe_60_48 rfl ?_
              refine r_aload_n fe_60_49 rfl ?_
              refine r_getf (v := .int (z5.2.1 65 2)) fe_60_50 lf_6_77 (x_c xk_65 (by decide)) (x_lt xk_65 (by decide)) rfl ?_
              refine r_iconst (v := 0) fe_60_53 (by decide) ?_
              refine r_callV (as := [.int (z5.2.1 65 2), .int 0]) (r := []) fe_60_54 lm_6_47 md_36 rfl rfl (Nat.le_of_ble_eq_true rfl) (x_c xk_65 (by decide)) (x_lt xk_65 (by decide)) (Nat.le_of_ble_eq_true rfl) (Nat.le_of_ble_eq_true rfl) ?_
              cases hc9 : G36 n (z5.2.1 65 2) 0 z5.2 with
              | none => rw [hc9] at hf; cases hf
              | some z8 =>
                rw [hc9, Option.bind_some] at hf
                refine G36c (r0 := z8.1) (S0 := z8.2)  (hf := hc9) ?_
                by_cases hz10 : narrow .boolean (.int z8.1) = .int z8.1
                rotate_left
                · rw [if_neg hz10] at hf; cases hf
                rw [if_pos hz10] at hf
                refine r_iret fe_60_57 ⟨hz10, by decide⟩ ?_
                exact dfin (P := fun r T => Q (some (.int r)) (xst T G h)) hf hQ
        · rw [if_neg hb4] at hf
          refine r_if_f (t := 39) fe_60_34 (by decide) (Bool.eq_false_iff.mpr hb4) ?_
          refine r_iconst (v := 0) fe_60_37 (by decide) ?_
          refine r_iret fe_60_38 ⟨rfl, by decide⟩ ?_
          exact dfin (P := fun r T => Q (some (.int r)) (xst T G h)) hf hQ
    · rw [if_neg hb1] at hf
      refine r_ic_f (t := 16) fe_60_3 (by decide) (Bool.eq_false_iff.mpr hb1) ?_
      refine r_aload_n fe_60_6 rfl ?_
      refine r_aload_n fe_60_7 rfl ?_
      refine r_getf (v := .int (S.1 65 2)) fe_60_8 lf_6_77 (x_c xk_65 (by decide)) (x_lt xk_65 (by decide)) rfl ?_
      refine r_iconst (v := 2) fe_60_11 (by decide) ?_
      refine r_callV (as := [.int (S.1 65 2), .int 2]) (r := []) fe_60_12 lm_6_47 md_36 rfl rfl (Nat.le_of_ble_eq_true rfl) (x_c xk_65 (by decide)) (x_lt xk_65 (by decide)) (Nat.le_of_ble_eq_true rfl) (Nat.le_of_ble_eq_true rfl) ?_
      cases hc12 : G36 n (S.1 65 2) 2 S with
      | none => rw [hc12] at hf; cases hf
      | some z11 =>
        rw [hc12, Option.bind_some] at hf
        refine G36c (r0 := z11.1) (S0 := z11.2)  (hf := hc12) ?_
        by_cases hz13 : narrow .boolean (.int z11.1) = .int z11.1
        rotate_left
        · rw [if_neg hz13] at hf; cases hf
        rw [if_pos hz13] at hf
        refine r_iret fe_60_15 ⟨hz13, by decide⟩ ?_
        exact dfin (P := fun r T => Q (some (.int r)) (xst T G h)) hf hQ
theorem G60c {xs : Nat → Int32} {L9 d : Nat} {G : gS} {h : Nat → va_E} {R0 : Int32 → xS → Option (Int32 × xS)} {R1 : Int32 → xS → Option (Int32 × xS)} {R2 : Int32 → xS → Option (Int32 × xS)} {n : Nat} {Q : Option Value → AmH → Prop} {r0 : Int32} {S0 S : xS} {l2 : Int32} (hR0 : ∀ (l2 : Int32) (S S0 : xS) (r0 : Int32) (Q : Option Value → AmH → Prop), R0 l2 S = some (r0, S0) → Q (some (.int r0)) (xst S0 G h) → Ca (am_X xs L9) (d + 7) 58 [.ref 85, .ref 65, .int l2] (xst S G h) Q) (hR1 : ∀ (l2 : Int32) (S S0 : xS) (r0 : Int32) (Q : Option Value → AmH → Prop), R1 l2 S = some (r0, S0) → Q (some (.int r0)) (xst S0 G h) → Ca (am_X xs L9) (d + 7) 59 [.ref 85, .ref 65, .int l2] (xst S G h) Q) (hR2 : ∀ (l2 : Int32) (S S0 : xS) (r0 : Int32) (Q : Option Value → AmH → Prop), R2 l2 S = some (r0, S0) → Q (some (.int r0)) (xst S0 G h) → Ca (am_X xs L9) (d + 7) 60 [.ref 85, .ref 65, .int l2] (xst S G h) Q) (hf : G60 R0 R1 R2 n l2 S = some (r0, S0)) (hQ : Q (some (.int r0)) (xst S0 G h)) : Ca (am_X xs L9) (d + 8) 60 [.ref 85, .ref 65, .int l2] (xst S G h) Q := (G60l hR0 hR1 hR2 hQ n) l2 S hf
def GR (n : Nat) : Nat → Nat → Int32 → xS → Option (Int32 × xS)
  | 0, _, _, _ => none
  | e + 1, i, l2, S => if i = 0 then G58 (GR n e 0) (GR n e 1) (GR n e 2) n l2 S else if i = 1 then G59 (GR n e 0) (GR n e 1) (GR n e 2) n l2 S else G60 (GR n e 0) (GR n e 1) (GR n e 2) n l2 S
theorem GRl {xs : Nat → Int32} {L9 d n : Nat} {G : gS} {h : Nat → va_E} : ∀ e : Nat, (∀ (l2 : Int32) (S S0 : xS) (r0 : Int32) (Q : Option Value → AmH → Prop), GR n e 0 l2 S = some (r0, S0) → Q (some (.int r0)) (xst S0 G h) → Ca (am_X xs L9) (d + e + 7) 58 [.ref 85, .ref 65, .int l2] (xst S G h) Q) ∧ (∀ (l2 : Int32) (S S0 : xS) (r0 : Int32) (Q : Option Value → AmH → Prop), GR n e 1 l2 S = some (r0, S0) → Q (some (.int r0)) (xst S0 G h) → Ca (am_X xs L9) (d + e + 7) 59 [.ref 85, .ref 65, .int l2] (xst S G h) Q) ∧ (∀ (l2 : Int32) (S S0 : xS) (r0 : Int32) (Q : Option Value → AmH → Prop), GR n e 2 l2 S = some (r0, S0) → Q (some (.int r0)) (xst S0 G h) → Ca (am_X xs L9) (d + e + 7) 60 [.ref 85, .ref 65, .int l2] (xst S G h) Q) := by
  intro e
  induction e with
  | zero => exact ⟨fun l2 S S0 r0 Q hf => (by cases hf), fun l2 S S0 r0 Q hf => (by cases hf), fun l2 S S0 r0 Q hf => (by cases hf)⟩
  | succ e ih =>
    obtain ⟨h0, h1, h2⟩ := ih
    have ed : d + (e + 1) + 7 = d + e + 7 + 1 := by omega
    rw [ed]
    refine ⟨fun l2 S S0 r0 Q hf hQ => ?_, fun l2 S S0 r0 Q hf hQ => ?_, fun l2 S S0 r0 Q hf hQ => ?_⟩
    · exact G58c (d := d + e) h0 h1 h2 (hf := hf) hQ
    · exact G59c (d := d + e) h0 h1 h2 (hf := hf) hQ
    · exact G60c (d := d + e) h0 h1 h2 (hf := hf) hQ
theorem GRc0 {xs : Nat → Int32} {L9 d n : Nat} {G : gS} {h : Nat → va_E} {l2 : Int32} {S S0 : xS} {r0 : Int32} {Q : Option Value → AmH → Prop} (hf : GR n 48 0 l2 S = some (r0, S0)) (hQ : Q (some (.int r0)) (xst S0 G h)) : Ca (am_X xs L9) (d + 55) 58 [.ref 85, .ref 65, .int l2] (xst S G h) Q := (GRl 48).1 l2 S S0 r0 Q hf hQ
theorem GRc1 {xs : Nat → Int32} {L9 d n : Nat} {G : gS} {h : Nat → va_E} {l2 : Int32} {S S0 : xS} {r0 : Int32} {Q : Option Value → AmH → Prop} (hf : GR n 48 1 l2 S = some (r0, S0)) (hQ : Q (some (.int r0)) (xst S0 G h)) : Ca (am_X xs L9) (d + 55) 59 [.ref 85, .ref 65, .int l2] (xst S G h) Q := (GRl 48).2.1 l2 S S0 r0 Q hf hQ
theorem GRc2 {xs : Nat → Int32} {L9 d n : Nat} {G : gS} {h : Nat → va_E} {l2 : Int32} {S S0 : xS} {r0 : Int32} {Q : Option Value → AmH → Prop} (hf : GR n 48 2 l2 S = some (r0, S0)) (hQ : Q (some (.int r0)) (xst S0 G h)) : Ca (am_X xs L9) (d + 55) 60 [.ref 85, .ref 65, .int l2] (xst S G h) Q := (GRl 48).2.2 l2 S S0 r0 Q hf hQ
def G57b0 (F : Nat → Int32 → xS → Option (Int32 × xS)) (n : Nat) (l2 : Int32) (S : xS) : Option (Int32 × xS) := ((G17 n  S).bind (fun z1 => F 16 0 (x_sI (x_sI z1.2 85 1 0) 85 2 0)))
def G57b16 (F : Nat → Int32 → xS → Option (Int32 × xS)) (n : Nat) (l2 : Int32) (S : xS) : Option (Int32 × xS) := (if am_ic .gt l2 12 = true then some ((S.1 65 4), S) else ((G22 n 4 S).bind (fun z4 => (if am_ic .ne z4.1 (-1) = true then (if am_ic .ne l2 12 = true then ((GR n 48 0 0 z4.2).bind (fun z8 => (if am_if .ne z8.1 = true then (if am_if .le l2 = true then ((G52 n  z8.2).bind (fun z12 => (if am_if .ne z12.1 = true then F 16 (l2 + 1) z12.2 else some ((z12.2.1 65 4), z12.2)))) else ((G62 n (-23) z8.2).bind (fun z15 => ((G52 n  z15.2).bind (fun z17 => (if am_if .ne z17.1 = true then F 16 (l2 + 1) z17.2 else some ((z17.2.1 65 4), z17.2))))))) else some ((z8.2.1 65 4), z8.2)))) else ((G36 n (z4.2.1 65 3) 4 z4.2).bind (fun z20 => some ((z20.2.1 65 4), z20.2)))) else some ((z4.2.1 65 4), z4.2)))))
def G57f : Nat → Nat → Int32 → xS → Option (Int32 × xS)
  | 0, _, _, _ => none
  | n + 1, c, l2, S => if c = 0 then G57b0 (G57f n) n l2 S else G57b16 (G57f n) n l2 S
theorem G57e0 (n : Nat) (l2 : Int32) (S : xS) : G57f (n + 1) 0 l2 S = G57b0 (G57f n) n l2 S := if_pos rfl
theorem G57e16 (n : Nat) (l2 : Int32) (S : xS) : G57f (n + 1) 16 l2 S = G57b16 (G57f n) n l2 S := if_neg (by decide)
def G57 (n : Nat)  (S : xS) : Option (Int32 × xS) := G57f n 0 0 S
set_option maxRecDepth 20000 in
set_option maxHeartbeats 4000000 in
theorem G57l {xs : Nat → Int32} {L9 d : Nat} {G : gS} {h : Nat → va_E} {Q : Option Value → AmH → Prop} {r0 : Int32} {S0 : xS} (hQ : Q (some (.int r0)) (xst S0 G h)) : ∀ n : Nat, (∀ (l2 : Int32) (S : xS), G57f n 0 l2 S = some (r0, S0) → Go (am_X xs L9) (d + 56) 57 0 [.ref 85, .ref 65, .float 0] [] (xst S G h) Q) ∧ (∀ (l2 : Int32) (S : xS), G57f n 16 l2 S = some (r0, S0) → Go (am_X xs L9) (d + 56) 57 16 [.ref 85, .ref 65, .int l2] [] (xst S G h) Q) := by
  intro n
  induction n with
  | zero => exact ⟨fun l2 S hf => (by cases hf), fun l2 S hf => (by cases hf)⟩
  | succ n ih =>
    refine ⟨?_, ?_⟩
    · intro l2 S hf
      rw [G57e0] at hf
      unfold G57b0 at hf
      refine r_aload_n fe_57_0 rfl ?_
      refine r_callV (as := []) (r := []) fe_57_1 lm_6_33 md_17 rfl rfl (Nat.le_of_ble_eq_true rfl) (x_c xk_65 (by decide)) (x_lt xk_65 (by decide)) (Nat.le_of_ble_eq_true rfl) (Nat.le_of_ble_eq_true rfl) ?_
      cases hc2 : G17 n  S with
      | none => rw [hc2] at hf; cases hf
      | some z1 =>
        rw [hc2, Option.bind_some] at hf
        refine G17c (r0 := z1.1) (S0 := z1.2)  (hf := hc2) ?_
        refine r_aload_n fe_57_4 rfl ?_
        refine r_iconst (v := 0) fe_57_5 (by decide) ?_
        refine r_putf fe_57_6 lf_6_15 (x_h xk_85 (by decide)) (x_lt xk_85 (by decide)) (by decide) (Nat.le_of_ble_eq_true rfl) rfl rfl (Or.inl rfl) ?_
        refine go_heap (x_uI (j := 1) (x := 0) xk_85 (by decide)) ?_
        refine r_aload_n fe_57_9 rfl ?_
        refine r_iconst (v := 0) fe_57_10 (by decide) ?_
        refine r_putf fe_57_11 lf_6_19 (x_h xk_85 (by decide)) (x_lt xk_85 (by decide)) (by decide) (Nat.le_of_ble_eq_true rfl) rfl rfl (Or.inl rfl) ?_
        refine go_heap (x_uI (j := 2) (x := 0) xk_85 (by decide)) ?_
        refine r_iconst (v := 0) fe_57_14 (by decide) ?_
        refine r_istore_n fe_57_15 (Nat.le_of_ble_eq_true rfl) rfl ?_
        refine go_weak (L0 := [.ref 85, .ref 65, .int 0]) (lwk_c (Or.inl rfl) (lwk_c (Or.inl rfl) (lwk_c (Or.inl rfl) (lwk_rf [])))) ?_
        exact ih.2 0 (x_sI (x_sI z1.2 85 1 0) 85 2 0) hf
    · intro l2 S hf
      rw [G57e16] at hf
      unfold G57b16 at hf
      refine r_iload_n fe_57_16 rfl ?_
      refine r_bipush (v := 12) fe_57_17 (by decide) ?_
      by_cases hb3 : am_ic .gt l2 12 = true
      · rw [if_pos hb3] at hf
        refine r_ic_t (t := 92) fe_57_19 (by decide) hb3 ?_
        refine r_aload_n fe_57_92 rfl ?_
        refine r_getf (v := .int (S.1 65 4)) fe_57_93 lf_6_63 (x_c xk_65 (by decide)) (x_lt xk_65 (by decide)) rfl ?_
        refine r_iret fe_57_96 ⟨rfl, by decide⟩ ?_
        exact dfin (P := fun r T => Q (some (.int r)) (xst T G h)) hf hQ
      · rw [if_neg hb3] at hf
        refine r_ic_f (t := 92) fe_57_19 (by decide) (Bool.eq_false_iff.mpr hb3) ?_
        refine r_aload_n fe_57_22 rfl ?_
        refine r_ldcS fe_57_23 lk_6_38 ?_
        refine r_callV (as := [.ref 4]) (r := []) fe_57_25 lm_6_40 md_22 rfl rfl (Nat.le_of_ble_eq_true rfl) (x_c xk_65 (by decide)) (x_lt xk_65 (by decide)) (Nat.le_of_ble_eq_true rfl) (Nat.le_of_ble_eq_true rfl) ?_
        cases hc5 : G22 n 4 S with
        | none => rw [hc5] at hf; cases hf
        | some z4 =>
          rw [hc5, Option.bind_some] at hf
          refine G22c (r0 := z4.1) (S0 := z4.2)  (hf := hc5) ?_
          refine r_iconst (v := -1) fe_57_28 (by decide) ?_
          by_cases hb6 : am_ic .ne z4.1 (-1) = true
          · rw [if_pos hb6] at hf
            refine r_ic_t (t := 35) fe_57_29 (by decide) hb6 ?_
            refine r_iload_n fe_57_35 rfl ?_
            refine r_bipush (v := 12) fe_57_36 (by decide) ?_
            by_cases hb7 : am_ic .ne l2 12 = true
            · rw [if_pos hb7] at hf
              refine r_ic_t (t := 54) fe_57_38 (by decide) hb7 ?_
              refine r_aload_n fe_57_54 rfl ?_
              refine r_aload_n fe_57_55 rfl ?_
              refine r_iconst (v := 0) fe_57_56 (by decide) ?_
              refine r_callV (as := [.ref 65, .int 0]) (r := []) fe_57_57 lm_6_51 md_58 rfl rfl (Nat.le_of_ble_eq_true rfl) (x_c xk_85 (by decide)) (x_lt xk_85 (by decide)) (Nat.le_of_ble_eq_true rfl) (Nat.le_of_ble_eq_true rfl) ?_
              cases hc9 : GR n 48 0 0 z4.2 with
              | none => rw [hc9] at hf; cases hf
              | some z8 =>
                rw [hc9, Option.bind_some] at hf
                refine GRc0 (r0 := z8.1) (S0 := z8.2) hc9 ?_
                by_cases hb10 : am_if .ne z8.1 = true
                · rw [if_pos hb10] at hf
                  refine r_if_t (t := 66) fe_57_60 (by decide) hb10 ?_
                  refine r_iload_n fe_57_66 rfl ?_
                  by_cases hb11 : am_if .le l2 = true
                  · rw [if_pos hb11] at hf
                    refine r_if_t (t := 76) fe_57_67 (by decide) hb11 ?_
                    refine r_aload_n fe_57_76 rfl ?_
                    refine r_callV (as := []) (r := []) fe_57_77 lm_6_59 md_52 rfl rfl (Nat.le_of_ble_eq_true rfl) (x_c xk_65 (by decide)) (x_lt xk_65 (by decide)) (Nat.le_of_ble_eq_true rfl) (Nat.le_of_ble_eq_true rfl) ?_
                    cases hc13 : G52 n  z8.2 with
                    | none => rw [hc13] at hf; cases hf
                    | some z12 =>
                      rw [hc13, Option.bind_some] at hf
                      refine G52c (r0 := z12.1) (S0 := z12.2)  (hf := hc13) ?_
                      by_cases hb14 : am_if .ne z12.1 = true
                      · rw [if_pos hb14] at hf
                        refine r_if_t (t := 86) fe_57_80 (by decide) hb14 ?_
                        refine r_iinc (v := (l2 + 1)) fe_57_86 rfl rfl rfl ?_
                        refine r_goto (t := 16) fe_57_89 (by decide) ?_
                        refine go_weak (L0 := [.ref 85, .ref 65, .int (l2 + 1)]) (lwk_c (Or.inl rfl) (lwk_c (Or.inl rfl) (lwk_c (Or.inl rfl) (lwk_rf [])))) ?_
                        exact ih.2 (l2 + 1) z12.2 hf
                      · rw [if_neg hb14] at hf
                        refine r_if_f (t := 86) fe_57_80 (by decide) (Bool.eq_false_iff.mpr hb14) ?_
                        refine r_goto (t := 92) fe_57_83 (by decide) ?_
                        refine r_aload_n fe_57_92 rfl ?_
                        refine r_getf (v := .int (z12.2.1 65 4)) fe_57_93 lf_6_63 (x_c xk_65 (by decide)) (x_lt xk_65 (by decide)) rfl ?_
                        refine r_iret fe_57_96 ⟨rfl, by decide⟩ ?_
                        exact dfin (P := fun r T => Q (some (.int r)) (xst T G h)) hf hQ
                  · rw [if_neg hb11] at hf
                    refine r_if_f (t := 76) fe_57_67 (by decide) (Bool.eq_false_iff.mpr hb11) ?_
                    refine r_aload_n fe_57_70 rfl ?_
                    refine r_bipush (v := -23) fe_57_71 (by decide) ?_
                    refine r_callV (as := [.int (-23)]) (r := []) fe_57_73 lm_6_55 md_62 rfl rfl (Nat.le_of_ble_eq_true rfl) (x_c xk_85 (by decide)) (x_lt xk_85 (by decide)) (Nat.le_of_ble_eq_true rfl) (Nat.le_of_ble_eq_true rfl) ?_
                    cases hc16 : G62 n (-23) z8.2 with
                    | none => rw [hc16] at hf; cases hf
                    | some z15 =>
                      rw [hc16, Option.bind_some] at hf
                      refine G62c (r0 := z15.1) (S0 := z15.2)  (hf := hc16) ?_
                      refine r_aload_n fe_57_76 rfl ?_
                      refine r_callV (as := []) (r := []) fe_57_77 lm_6_59 md_52 rfl rfl (Nat.le_of_ble_eq_true rfl) (x_c xk_65 (by decide)) (x_lt xk_65 (by decide)) (Nat.le_of_ble_eq_true rfl) (Nat.le_of_ble_eq_true rfl) ?_
                      cases hc18 : G52 n  z15.2 with
                      | none => rw [hc18] at hf; cases hf
                      | some z17 =>
                        rw [hc18, Option.bind_some] at hf
                        refine G52c (r0 := z17.1) (S0 := z17.2)  (hf := hc18) ?_
                        by_cases hb19 : am_if .ne z17.1 = true
                        · rw [if_pos hb19] at hf
                          refine r_if_t (t := 86) fe_57_80 (by decide) hb19 ?_
                          refine r_iinc (v := (l2 + 1)) fe_57_86 rfl rfl rfl ?_
                          refine r_goto (t := 16) fe_57_89 (by decide) ?_
                          refine go_weak (L0 := [.ref 85, .ref 65, .int (l2 + 1)]) (lwk_c (Or.inl rfl) (lwk_c (Or.inl rfl) (lwk_c (Or.inl rfl) (lwk_rf [])))) ?_
                          exact ih.2 (l2 + 1) z17.2 hf
                        · rw [if_neg hb19] at hf
                          refine r_if_f (t := 86) fe_57_80 (by decide) (Bool.eq_false_iff.mpr hb19) ?_
                          refine r_goto (t := 92) fe_57_83 (by decide) ?_
                          refine r_aload_n fe_57_92 rfl ?_
                          refine r_getf (v := .int (z17.2.1 65 4)) fe_57_93 lf_6_63 (x_c xk_65 (by decide)) (x_lt xk_65 (by decide)) rfl ?_
                          refine r_iret fe_57_96 ⟨rfl, by decide⟩ ?_
                          exact dfin (P := fun r T => Q (some (.int r)) (xst T G h)) hf hQ
                · rw [if_neg hb10] at hf
                  refine r_if_f (t := 66) fe_57_60 (by decide) (Bool.eq_false_iff.mpr hb10) ?_
                  refine r_goto (t := 92) fe_57_63 (by decide) ?_
                  refine r_aload_n fe_57_92 rfl ?_
                  refine r_getf (v := .int (z8.2.1 65 4)) fe_57_93 lf_6_63 (x_c xk_65 (by decide)) (x_lt xk_65 (by decide)) rfl ?_
                  refine r_iret fe_57_96 ⟨rfl, by decide⟩ ?_
                  exact dfin (P := fun r T => Q (some (.int r)) (xst T G h)) hf hQ
            · rw [if_neg hb7] at hf
              refine r_ic_f (t := 54) fe_57_38 (by decide) (Bool.eq_false_iff.mpr hb7) ?_
              refine r_aload_n fe_57_41 rfl ?_
              refine r_aload_n fe_57_42 rfl ?_
              refine r_getf (v := .int (z4.2.1 65 3)) fe_57_43 lf_6_44 (x_c xk_65 (by decide)) (x_lt xk_65 (by decide)) rfl ?_
              refine r_iconst (v := 4) fe_57_46 (by decide) ?_
              refine r_callV (as := [.int (z4.2.1 65 3), .int 4]) (r := []) fe_57_47 lm_6_47 md_36 rfl rfl (Nat.le_of_ble_eq_true rfl) (x_c xk_65 (by decide)) (x_lt xk_65 (by decide)) (Nat.le_of_ble_eq_true rfl) (Nat.le_of_ble_eq_true rfl) ?_
              cases hc21 : G36 n (z4.2.1 65 3) 4 z4.2 with
              | none => rw [hc21] at hf; cases hf
              | some z20 =>
                rw [hc21, Option.bind_some] at hf
                refine G36c (r0 := z20.1) (S0 := z20.2)  (hf := hc21) ?_
                refine r_pop fe_57_50 rfl ?_
                refine r_goto (t := 92) fe_57_51 (by decide) ?_
                refine r_aload_n fe_57_92 rfl ?_
                refine r_getf (v := .int (z20.2.1 65 4)) fe_57_93 lf_6_63 (x_c xk_65 (by decide)) (x_lt xk_65 (by decide)) rfl ?_
                refine r_iret fe_57_96 ⟨rfl, by decide⟩ ?_
                exact dfin (P := fun r T => Q (some (.int r)) (xst T G h)) hf hQ
          · rw [if_neg hb6] at hf
            refine r_ic_f (t := 35) fe_57_29 (by decide) (Bool.eq_false_iff.mpr hb6) ?_
            refine r_goto (t := 92) fe_57_32 (by decide) ?_
            refine r_aload_n fe_57_92 rfl ?_
            refine r_getf (v := .int (z4.2.1 65 4)) fe_57_93 lf_6_63 (x_c xk_65 (by decide)) (x_lt xk_65 (by decide)) rfl ?_
            refine r_iret fe_57_96 ⟨rfl, by decide⟩ ?_
            exact dfin (P := fun r T => Q (some (.int r)) (xst T G h)) hf hQ
theorem G57c {xs : Nat → Int32} {L9 d : Nat} {G : gS} {h : Nat → va_E} {n : Nat} {Q : Option Value → AmH → Prop} {r0 : Int32} {S0 S : xS}  (hf : G57 n  S = some (r0, S0)) (hQ : Q (some (.int r0)) (xst S0 G h)) : Ca (am_X xs L9) (d + 56) 57 [.ref 85, .ref 65] (xst S G h) Q := (G57l hQ n).1 0 S hf
def G56b0 (F : Nat → (xS × gS) → Option (Int32 × (xS × gS))) (n : Nat)  (U : (xS × gS)) : Option (Int32 × (xS × gS)) := (if am_ic .lt (U.1.1 64 4) 6 = true then ((G57 n  U.1).bind (fun z2 => (if am_if .eq z2.1 = true then ((G69 n  ((x_sI z2.2 65 1 0), U.2)).bind (fun z5 => (if ¬ ((z2.2.1 64 4) < 0 ∨ 6 ≤ ((z2.2.1 64 4)).toNatClampNeg) then (if lB z5.2.2 z5.1 (x_kd z5.2.2 (z5.1 + 1)).2 = true then ((some (x_sQ z5.2.1 87 (Int32.toNatClampNeg (z2.2.1 64 4)) (some z5.1))).bind (fun S9 => some ((((S9.1 64 4) + 1) - 1), ((x_sI S9 64 4 ((S9.1 64 4) + 1)), z5.2.2)))) else none) else none))) else some (((-2) - z2.1), ((x_sI z2.2 65 1 0), U.2))))) else some ((-1), (U.1, U.2)))
def G56f : Nat → Nat → (xS × gS) → Option (Int32 × (xS × gS))
  | 0, _, _ => none
  | n + 1, c, U => G56b0 (G56f n) n  U
theorem G56e0 (n : Nat)  (U : (xS × gS)) : G56f (n + 1) 0  U = G56b0 (G56f n) n  U := rfl
def G56 (n : Nat)  (U : (xS × gS)) : Option (Int32 × (xS × gS)) := G56f n 0  U
set_option maxRecDepth 20000 in
set_option maxHeartbeats 4000000 in
theorem G56l {xs : Nat → Int32} {L9 d : Nat} {h : Nat → va_E} {Q : Option Value → AmH → Prop} {r0 : Int32} {U0 : (xS × gS)} (hQ : Q (some (.int r0)) (xst U0.1 U0.2 h)) : ∀ n : Nat, (∀ (U : (xS × gS)), G56f n 0  U = some (r0, U0) → Go (am_X xs L9) (d + 57) 56 0 [.ref 64, .float 0] [] (xst U.1 U.2 h) Q) := by
  intro n
  induction n with
  | zero => exact fun  U hf => (by cases hf)
  | succ n ih =>
    intro  U hf
    rw [G56e0] at hf
    unfold G56b0 at hf
    refine r_aload_n fe_56_0 rfl ?_
    refine r_getf (v := .int (U.1.1 64 4)) fe_56_1 lf_11_36 (x_c xk_64 (by decide)) (x_lt xk_64 (by decide)) rfl ?_
    refine r_bipush (v := 6) fe_56_4 (by decide) ?_
    by_cases hb1 : am_ic .lt (U.1.1 64 4) 6 = true
    · rw [if_pos hb1] at hf
      refine r_ic_t (t := 11) fe_56_6 (by decide) hb1 ?_
      refine r_aload_n fe_56_11 rfl ?_
      refine r_getf (v := .ref 85) fe_56_12 lf_11_26 (x_c xk_64 (by decide)) (x_lt xk_64 (by decide)) rfl ?_
      refine r_aload_n fe_56_15 rfl ?_
      refine r_getf (v := .ref 65) fe_56_16 lf_11_12 (x_c xk_64 (by decide)) (x_lt xk_64 (by decide)) rfl ?_
      refine r_callV (as := [.ref 65]) (r := []) fe_56_19 lm_11_116 md_57 rfl rfl (Nat.le_of_ble_eq_true rfl) (x_c xk_85 (by decide)) (x_lt xk_85 (by decide)) (Nat.le_of_ble_eq_true rfl) (Nat.le_of_ble_eq_true rfl) ?_
      cases hc3 : G57 n  U.1 with
      | none => rw [hc3] at hf; cases hf
      | some z2 =>
        rw [hc3, Option.bind_some] at hf
        refine G57c (r0 := z2.1) (S0 := z2.2)  (hf := hc3) ?_
        refine r_istore_n fe_56_22 (Nat.le_of_ble_eq_true rfl) rfl ?_
        refine r_aload_n fe_56_23 rfl ?_
        refine r_getf (v := .ref 65) fe_56_24 lf_11_12 (x_c xk_64 (by decide)) (x_lt xk_64 (by decide)) rfl ?_
        refine r_iconst (v := 0) fe_56_27 (by decide) ?_
        refine r_putf fe_56_28 lf_11_72 (x_h xk_65 (by decide)) (x_lt xk_65 (by decide)) (by decide) (Nat.le_of_ble_eq_true rfl) rfl rfl (Or.inl rfl) ?_
        refine go_heap (x_uI (j := 1) (x := 0) xk_65 (by decide)) ?_
        refine r_iload_n fe_56_31 rfl ?_
        by_cases hb4 : am_if .eq z2.1 = true
        · rw [if_pos hb4] at hf
          refine r_if_t (t := 40) fe_56_32 (by decide) hb4 ?_
          refine r_aload_n fe_56_40 rfl ?_
          refine r_getf (v := .ref 87) fe_56_41 lf_11_32 (x_c xk_64 (by decide)) (x_lt xk_64 (by decide)) rfl ?_
          refine r_aload_n fe_56_44 rfl ?_
          refine r_getf (v := .int (z2.2.1 64 4)) fe_56_45 lf_11_36 (x_c xk_64 (by decide)) (x_lt xk_64 (by decide)) rfl ?_
          refine r_aload_n fe_56_48 rfl ?_
          refine r_getf (v := .ref 85) fe_56_49 lf_11_26 (x_c xk_64 (by decide)) (x_lt xk_64 (by decide)) rfl ?_
          refine r_callV (as := []) (r := [.int (z2.2.1 64 4), .ref 87]) fe_56_52 lm_11_117 md_69 rfl rfl (Nat.le_of_ble_eq_true rfl) (x_c xk_85 (by decide)) (x_lt xk_85 (by decide)) (Nat.le_of_ble_eq_true rfl) (Nat.le_of_ble_eq_true rfl) ?_
          cases hc6 : G69 n  ((x_sI z2.2 65 1 0), U.2) with
          | none => rw [hc6] at hf; cases hf
          | some z5 =>
            rw [hc6, Option.bind_some] at hf
            refine G69c (r0 := z5.1) (U0 := z5.2)  (hf := hc6) ?_
            by_cases hg7 : ¬ ((z2.2.1 64 4) < 0 ∨ 6 ≤ ((z2.2.1 64 4)).toNatClampNeg)
            rotate_left
            · rw [if_neg hg7] at hf; cases hf
            rw [if_pos hg7] at hf
            by_cases hb8 : lB z5.2.2 z5.1 (x_kd z5.2.2 (z5.1 + 1)).2 = true
            rotate_left
            · rw [if_neg hb8] at hf; cases hf
            rw [if_pos hb8] at hf
            refine r_aast (j := (Int32.toNatClampNeg (z2.2.1 64 4))) fe_56_55 (x_h xk_87 (by decide)) (x_h (lk0 hb8) (by decide)) (x_lt xk_87 (by decide)) (by decide) (x_lt (lk0 hb8) (by decide)) (x_k6 (lk0 hb8) (by decide)) (by decide) (fun z => hg7 (Or.inl z)) rfl (fun z => hg7 (Or.inr z)) ?_
            obtain ⟨S9, e10, hf⟩ := dbnd hf
            refine go_heap (h2 := xst S9 z5.2.2 h) ((x_uQ (j := (Int32.toNatClampNeg (z2.2.1 64 4))) (v := some z5.1) xk_87 (by decide)).trans (by rw [e10])) ?_
            refine r_aload_n fe_56_56 rfl ?_
            refine r_dup fe_56_57 rfl ?_
            refine r_getf (v := .int (S9.1 64 4)) fe_56_58 lf_11_36 (x_c xk_64 (by decide)) (x_lt xk_64 (by decide)) rfl ?_
            refine r_iconst (v := 1) fe_56_61 (by decide) ?_
            refine r_iadd (v := ((S9.1 64 4) + 1)) fe_56_62 rfl ?_
            refine r_putf fe_56_63 lf_11_36 (x_h xk_64 (by decide)) (x_lt xk_64 (by decide)) (by decide) (Nat.le_of_ble_eq_true rfl) rfl rfl (Or.inl rfl) ?_
            refine go_heap (x_uI (j := 4) (x := ((S9.1 64 4) + 1)) xk_64 (by decide)) ?_
            refine r_aload_n fe_56_66 rfl ?_
            refine r_getf (v := .int ((S9.1 64 4) + 1)) fe_56_67 lf_11_36 (x_c xk_64 (by decide)) (x_lt xk_64 (by decide)) rfl ?_
            refine r_iconst (v := 1) fe_56_70 (by decide) ?_
            refine r_isub (v := (((S9.1 64 4) + 1) - 1)) fe_56_71 rfl ?_
            refine r_iret fe_56_72 ⟨rfl, by decide⟩ ?_
            exact dfin (P := fun r T => Q (some (.int r)) (xst T.1 T.2 h)) hf hQ
        · rw [if_neg hb4] at hf
          refine r_if_f (t := 40) fe_56_32 (by decide) (Bool.eq_false_iff.mpr hb4) ?_
          refine r_bipush (v := -2) fe_56_35 (by decide) ?_
          refine r_iload_n fe_56_37 rfl ?_
          refine r_isub (v := ((-2) - z2.1)) fe_56_38 rfl ?_
          refine r_iret fe_56_39 ⟨rfl, by decide⟩ ?_
          exact dfin (P := fun r T => Q (some (.int r)) (xst T.1 T.2 h)) hf hQ
    · rw [if_neg hb1] at hf
      refine r_ic_f (t := 11) fe_56_6 (by decide) (Bool.eq_false_iff.mpr hb1) ?_
      refine r_iconst (v := -1) fe_56_9 (by decide) ?_
      refine r_iret fe_56_10 ⟨rfl, by decide⟩ ?_
      exact dfin (P := fun r T => Q (some (.int r)) (xst T.1 T.2 h)) hf hQ
theorem G56c {xs : Nat → Int32} {L9 d : Nat} {h : Nat → va_E} {n : Nat} {Q : Option Value → AmH → Prop} {r0 : Int32} {U0 U : (xS × gS)}  (hf : G56 n  U = some (r0, U0)) (hQ : Q (some (.int r0)) (xst U0.1 U0.2 h)) : Ca (am_X xs L9) (d + 57) 56 [.ref 64] (xst U.1 U.2 h) Q := (G56l hQ n)  U hf
def G73b0 (F : Nat → Int32 → xS → Option (Int32 × xS)) (n : Nat) (l1 : Int32) (S : xS) : Option (Int32 × xS) := (if am_ic .lt l1 (-1) = true then some ((-2), S) else (if am_ic .lt l1 (S.1 64 4) = true then some ((S.1 88 3), (x_sI S 88 3 l1)) else some ((-2), S)))
def G73f : Nat → Nat → Int32 → xS → Option (Int32 × xS)
  | 0, _, _, _ => none
  | n + 1, c, l1, S => G73b0 (G73f n) n l1 S
theorem G73e0 (n : Nat) (l1 : Int32) (S : xS) : G73f (n + 1) 0 l1 S = G73b0 (G73f n) n l1 S := rfl
def G73 (n : Nat) (l1 : Int32) (S : xS) : Option (Int32 × xS) := G73f n 0 l1 S
set_option maxRecDepth 20000 in
set_option maxHeartbeats 4000000 in
theorem G73l {xs : Nat → Int32} {L9 d : Nat} {G : gS} {h : Nat → va_E} {Q : Option Value → AmH → Prop} {r0 : Int32} {S0 : xS} (hQ : Q (some (.int r0)) (xst S0 G h)) : ∀ n : Nat, (∀ (l1 : Int32) (S : xS), G73f n 0 l1 S = some (r0, S0) → Go (am_X xs L9) (d + 0) 73 0 [.ref 64, .int l1, .float 0] [] (xst S G h) Q) := by
  intro n
  induction n with
  | zero => exact fun l1 S hf => (by cases hf)
  | succ n ih =>
    intro l1 S hf
    rw [G73e0] at hf
    unfold G73b0 at hf
    refine r_iload_n fe_73_0 rfl ?_
    refine r_iconst (v := -1) fe_73_1 (by decide) ?_
    by_cases hb1 : am_ic .lt l1 (-1) = true
    · rw [if_pos hb1] at hf
      refine r_ic_t (t := 13) fe_73_2 (by decide) hb1 ?_
      refine r_bipush (v := -2) fe_73_13 (by decide) ?_
      refine r_iret fe_73_15 ⟨rfl, by decide⟩ ?_
      exact dfin (P := fun r T => Q (some (.int r)) (xst T G h)) hf hQ
    · rw [if_neg hb1] at hf
      refine r_ic_f (t := 13) fe_73_2 (by decide) (Bool.eq_false_iff.mpr hb1) ?_
      refine r_iload_n fe_73_5 rfl ?_
      refine r_aload_n fe_73_6 rfl ?_
      refine r_getf (v := .int (S.1 64 4)) fe_73_7 lf_11_36 (x_c xk_64 (by decide)) (x_lt xk_64 (by decide)) rfl ?_
      by_cases hb2 : am_ic .lt l1 (S.1 64 4) = true
      · rw [if_pos hb2] at hf
        refine r_ic_t (t := 16) fe_73_10 (by decide) hb2 ?_
        refine r_aload_n fe_73_16 rfl ?_
        refine r_getf (v := .ref 88) fe_73_17 lf_11_43 (x_c xk_64 (by decide)) (x_lt xk_64 (by decide)) rfl ?_
        refine r_getf (v := .int (S.1 88 3)) fe_73_20 lf_11_121 (x_c xk_88 (by decide)) (x_lt xk_88 (by decide)) rfl ?_
        refine r_istore_n fe_73_23 (Nat.le_of_ble_eq_true rfl) rfl ?_
        refine r_aload_n fe_73_24 rfl ?_
        refine r_getf (v := .ref 88) fe_73_25 lf_11_43 (x_c xk_64 (by decide)) (x_lt xk_64 (by decide)) rfl ?_
        refine r_iload_n fe_73_28 rfl ?_
        refine r_putf fe_73_29 lf_11_121 (x_h xk_88 (by decide)) (x_lt xk_88 (by decide)) (by decide) (Nat.le_of_ble_eq_true rfl) rfl rfl (Or.inl rfl) ?_
        refine go_heap (x_uI (j := 3) (x := l1) xk_88 (by decide)) ?_
        refine r_iload_n fe_73_32 rfl ?_
        refine r_iret fe_73_33 ⟨rfl, by decide⟩ ?_
        exact dfin (P := fun r T => Q (some (.int r)) (xst T G h)) hf hQ
      · rw [if_neg hb2] at hf
        refine r_ic_f (t := 16) fe_73_10 (by decide) (Bool.eq_false_iff.mpr hb2) ?_
        refine r_bipush (v := -2) fe_73_13 (by decide) ?_
        refine r_iret fe_73_15 ⟨rfl, by decide⟩ ?_
        exact dfin (P := fun r T => Q (some (.int r)) (xst T G h)) hf hQ
theorem G73c {xs : Nat → Int32} {L9 d : Nat} {G : gS} {h : Nat → va_E} {n : Nat} {Q : Option Value → AmH → Prop} {r0 : Int32} {S0 S : xS} {l1 : Int32} (hf : G73 n l1 S = some (r0, S0)) (hQ : Q (some (.int r0)) (xst S0 G h)) : Ca (am_X xs L9) (d + 0) 73 [.ref 64, .int l1] (xst S G h) Q := (G73l hQ n) l1 S hf
def G75b0 (F : Nat → Int32 → xS → Option (Int32 × xS)) (n : Nat) (l1 : Int32) (S : xS) : Option (Int32 × xS) := (if am_if .lt l1 = true then some (0, S) else (if am_ic .ge l1 (S.1 89 0) = true then some (0, S) else some (1, S)))
def G75f : Nat → Nat → Int32 → xS → Option (Int32 × xS)
  | 0, _, _, _ => none
  | n + 1, c, l1, S => G75b0 (G75f n) n l1 S
theorem G75e0 (n : Nat) (l1 : Int32) (S : xS) : G75f (n + 1) 0 l1 S = G75b0 (G75f n) n l1 S := rfl
def G75 (n : Nat) (l1 : Int32) (S : xS) : Option (Int32 × xS) := G75f n 0 l1 S
set_option maxRecDepth 20000 in
set_option maxHeartbeats 4000000 in
theorem G75l {xs : Nat → Int32} {L9 d : Nat} {G : gS} {h : Nat → va_E} {Q : Option Value → AmH → Prop} {r0 : Int32} {S0 : xS} (hQ : Q (some (.int r0)) (xst S0 G h)) : ∀ n : Nat, (∀ (l1 : Int32) (S : xS), G75f n 0 l1 S = some (r0, S0) → Go (am_X xs L9) (d + 0) 75 0 [.ref 64, .int l1] [] (xst S G h) Q) := by
  intro n
  induction n with
  | zero => exact fun l1 S hf => (by cases hf)
  | succ n ih =>
    intro l1 S hf
    rw [G75e0] at hf
    unfold G75b0 at hf
    refine r_iload_n fe_75_0 rfl ?_
    by_cases hb1 : am_if .lt l1 = true
    · rw [if_pos hb1] at hf
      refine r_if_t (t := 22) fe_75_1 (by decide) hb1 ?_
      refine r_iconst (v := 0) fe_75_22 (by decide) ?_
      refine r_iret fe_75_23 ⟨rfl, by decide⟩ ?_
      exact dfin (P := fun r T => Q (some (.int r)) (xst T G h)) hf hQ
    · rw [if_neg hb1] at hf
      refine r_if_f (t := 22) fe_75_1 (by decide) (Bool.eq_false_iff.mpr hb1) ?_
      refine r_iload_n fe_75_4 rfl ?_
      refine r_aload_n fe_75_5 rfl ?_
      refine r_getf (v := .ref 88) fe_75_6 lf_11_43 (x_c xk_64 (by decide)) (x_lt xk_64 (by decide)) rfl ?_
      refine r_getf (v := .ref 89) fe_75_9 lf_11_83 (x_c xk_88 (by decide)) (x_lt xk_88 (by decide)) rfl ?_
      refine r_getf (v := .int (S.1 89 0)) fe_75_12 lf_11_257 (x_c xk_89 (by decide)) (x_lt xk_89 (by decide)) rfl ?_
      by_cases hb2 : am_ic .ge l1 (S.1 89 0) = true
      · rw [if_pos hb2] at hf
        refine r_ic_t (t := 22) fe_75_15 (by decide) hb2 ?_
        refine r_iconst (v := 0) fe_75_22 (by decide) ?_
        refine r_iret fe_75_23 ⟨rfl, by decide⟩ ?_
        exact dfin (P := fun r T => Q (some (.int r)) (xst T G h)) hf hQ
      · rw [if_neg hb2] at hf
        refine r_ic_f (t := 22) fe_75_15 (by decide) (Bool.eq_false_iff.mpr hb2) ?_
        refine r_iconst (v := 1) fe_75_18 (by decide) ?_
        refine r_goto (t := 23) fe_75_19 (by decide) ?_
        refine r_iret fe_75_23 ⟨rfl, by decide⟩ ?_
        exact dfin (P := fun r T => Q (some (.int r)) (xst T G h)) hf hQ
theorem G75c {xs : Nat → Int32} {L9 d : Nat} {G : gS} {h : Nat → va_E} {n : Nat} {Q : Option Value → AmH → Prop} {r0 : Int32} {S0 S : xS} {l1 : Int32} (hf : G75 n l1 S = some (r0, S0)) (hQ : Q (some (.int r0)) (xst S0 G h)) : Ca (am_X xs L9) (d + 0) 75 [.ref 64, .int l1] (xst S G h) Q := (G75l hQ n) l1 S hf
def G76b0 (l0 : Nat) (F : Nat → Int32 → xS → Option (Int32 × xS)) (n : Nat) (l1 : Int32) (S : xS) : Option (Int32 × xS) := (if ¬ (l1 < 0 ∨ 16 ≤ (l1).toNatClampNeg) then (if am_if .ge (S.2.1 (l0 + 3) (Int32.toNatClampNeg l1)) = true then (if ¬ ((S.2.1 (l0 + 3) (Int32.toNatClampNeg l1)) < 0 ∨ 6 ≤ ((S.2.1 (l0 + 3) (Int32.toNatClampNeg l1))).toNatClampNeg) then some ((S.2.1 (l0 + 5) (Int32.toNatClampNeg (S.2.1 (l0 + 3) (Int32.toNatClampNeg l1)))), S) else none) else some (0, S)) else none)
def G76f (l0 : Nat) : Nat → Nat → Int32 → xS → Option (Int32 × xS)
  | 0, _, _, _ => none
  | n + 1, c, l1, S => G76b0 l0 (G76f l0 n) n l1 S
theorem G76e0 (l0 : Nat) (n : Nat) (l1 : Int32) (S : xS) : G76f l0 (n + 1) 0 l1 S = G76b0 l0 (G76f l0 n) n l1 S := rfl
def G76 (l0 : Nat) (n : Nat) (l1 : Int32) (S : xS) : Option (Int32 × xS) := G76f l0 n 0 l1 S
set_option maxRecDepth 20000 in
set_option maxHeartbeats 4000000 in
theorem G76l {xs : Nat → Int32} {L9 d : Nat} {G : gS} {h : Nat → va_E} {l0 : Nat} {Q : Option Value → AmH → Prop} {r0 : Int32} {S0 : xS} (h0 : bB G l0 = true) (hQ : Q (some (.int r0)) (xst S0 G h)) : ∀ n : Nat, (∀ (l1 : Int32) (S : xS), G76f l0 n 0 l1 S = some (r0, S0) → Go (am_X xs L9) (d + 0) 76 0 [.ref l0, .int l1, .float 0] [] (xst S G h) Q) := by
  intro n
  induction n with
  | zero => exact fun l1 S hf => (by cases hf)
  | succ n ih =>
    intro l1 S hf
    rw [G76e0] at hf
    unfold G76b0 at hf
    refine r_aload_n fe_76_0 rfl ?_
    refine r_getf (v := .ref (l0 + 3)) fe_76_1 lf_0_28 (x_c (bk0 h0) (by decide)) (x_lt (bk0 h0) (by decide)) rfl ?_
    refine r_iload_n fe_76_4 rfl ?_
    by_cases hg1 : ¬ (l1 < 0 ∨ 16 ≤ (l1).toNatClampNeg)
    rotate_left
    · rw [if_neg hg1] at hf; cases hf
    rw [if_pos hg1] at hf
    refine r_iald (j := (Int32.toNatClampNeg l1)) (v := S.2.1 (l0 + 3) (Int32.toNatClampNeg l1)) fe_76_5 (x_c (bk3 h0) (by decide)) (x_lt (bk3 h0) (by decide)) (fun z => hg1 (Or.inl z)) rfl (fun z => hg1 (Or.inr z)) rfl ?_
    refine r_istore_n fe_76_6 (Nat.le_of_ble_eq_true rfl) rfl ?_
    refine r_iload_n fe_76_7 rfl ?_
    by_cases hb2 : am_if .ge (S.2.1 (l0 + 3) (Int32.toNatClampNeg l1)) = true
    · rw [if_pos hb2] at hf
      refine r_if_t (t := 15) fe_76_8 (by decide) hb2 ?_
      refine r_aload_n fe_76_15 rfl ?_
      refine r_getf (v := .ref (l0 + 5)) fe_76_16 lf_0_34 (x_c (bk0 h0) (by decide)) (x_lt (bk0 h0) (by decide)) rfl ?_
      refine r_iload_n fe_76_19 rfl ?_
      by_cases hg3 : ¬ ((S.2.1 (l0 + 3) (Int32.toNatClampNeg l1)) < 0 ∨ 6 ≤ ((S.2.1 (l0 + 3) (Int32.toNatClampNeg l1))).toNatClampNeg)
      rotate_left
      · rw [if_neg hg3] at hf; cases hf
      rw [if_pos hg3] at hf
      refine r_iald (j := (Int32.toNatClampNeg (S.2.1 (l0 + 3) (Int32.toNatClampNeg l1)))) (v := S.2.1 (l0 + 5) (Int32.toNatClampNeg (S.2.1 (l0 + 3) (Int32.toNatClampNeg l1)))) fe_76_20 (x_c (bk5 h0) (by decide)) (x_lt (bk5 h0) (by decide)) (fun z => hg3 (Or.inl z)) rfl (fun z => hg3 (Or.inr z)) rfl ?_
      refine r_iret fe_76_21 ⟨rfl, by decide⟩ ?_
      exact dfin (P := fun r T => Q (some (.int r)) (xst T G h)) hf hQ
    · rw [if_neg hb2] at hf
      refine r_if_f (t := 15) fe_76_8 (by decide) (Bool.eq_false_iff.mpr hb2) ?_
      refine r_iconst (v := 0) fe_76_11 (by decide) ?_
      refine r_goto (t := 21) fe_76_12 (by decide) ?_
      refine r_iret fe_76_21 ⟨rfl, by decide⟩ ?_
      exact dfin (P := fun r T => Q (some (.int r)) (xst T G h)) hf hQ
theorem G76c {xs : Nat → Int32} {L9 d : Nat} {G : gS} {h : Nat → va_E} {l0 : Nat} {n : Nat} {Q : Option Value → AmH → Prop} {r0 : Int32} {S0 S : xS} {l1 : Int32} (h0 : bB G l0 = true) (hf : G76 l0 n l1 S = some (r0, S0)) (hQ : Q (some (.int r0)) (xst S0 G h)) : Ca (am_X xs L9) (d + 0) 76 [.ref l0, .int l1] (xst S G h) Q := (G76l h0 hQ n) l1 S hf
def G77b0 (F : Nat → Int32 → xS → Option (Int32 × xS)) (n : Nat) (l1 : Int32) (S : xS) : Option (Int32 × xS) := (if ¬ (l1 < 0 ∨ 16 ≤ (l1).toNatClampNeg) then (if am_if .ge (S.2.1 93 (Int32.toNatClampNeg l1)) = true then some ((1 + (((S.1 95 2) >>> ((S.2.1 93 (Int32.toNatClampNeg l1)) &&& 31)) &&& 1)), S) else some (0, S)) else none)
def G77f : Nat → Nat → Int32 → xS → Option (Int32 × xS)
  | 0, _, _, _ => none
  | n + 1, c, l1, S => G77b0 (G77f n) n l1 S
theorem G77e0 (n : Nat) (l1 : Int32) (S : xS) : G77f (n + 1) 0 l1 S = G77b0 (G77f n) n l1 S := rfl
def G77 (n : Nat) (l1 : Int32) (S : xS) : Option (Int32 × xS) := G77f n 0 l1 S
set_option maxRecDepth 20000 in
set_option maxHeartbeats 4000000 in
theorem G77l {xs : Nat → Int32} {L9 d : Nat} {G : gS} {h : Nat → va_E} {Q : Option Value → AmH → Prop} {r0 : Int32} {S0 : xS} (hQ : Q (some (.int r0)) (xst S0 G h)) : ∀ n : Nat, (∀ (l1 : Int32) (S : xS), G77f n 0 l1 S = some (r0, S0) → Go (am_X xs L9) (d + 0) 77 0 [.ref 64, .int l1, .float 0] [] (xst S G h) Q) := by
  intro n
  induction n with
  | zero => exact fun l1 S hf => (by cases hf)
  | succ n ih =>
    intro l1 S hf
    rw [G77e0] at hf
    unfold G77b0 at hf
    refine r_aload_n fe_77_0 rfl ?_
    refine r_getf (v := .ref 88) fe_77_1 lf_11_43 (x_c xk_64 (by decide)) (x_lt xk_64 (by decide)) rfl ?_
    refine r_getf (v := .ref 89) fe_77_4 lf_11_83 (x_c xk_88 (by decide)) (x_lt xk_88 (by decide)) rfl ?_
    refine r_getf (v := .ref 93) fe_77_7 lf_11_218 (x_c xk_89 (by decide)) (x_lt xk_89 (by decide)) rfl ?_
    refine r_iload_n fe_77_10 rfl ?_
    by_cases hg1 : ¬ (l1 < 0 ∨ 16 ≤ (l1).toNatClampNeg)
    rotate_left
    · rw [if_neg hg1] at hf; cases hf
    rw [if_pos hg1] at hf
    refine r_iald (j := (Int32.toNatClampNeg l1)) (v := S.2.1 93 (Int32.toNatClampNeg l1)) fe_77_11 (x_c xk_93 (by decide)) (x_lt xk_93 (by decide)) (fun z => hg1 (Or.inl z)) rfl (fun z => hg1 (Or.inr z)) rfl ?_
    refine r_istore_n fe_77_12 (Nat.le_of_ble_eq_true rfl) rfl ?_
    refine r_iload_n fe_77_13 rfl ?_
    by_cases hb2 : am_if .ge (S.2.1 93 (Int32.toNatClampNeg l1)) = true
    · rw [if_pos hb2] at hf
      refine r_if_t (t := 19) fe_77_14 (by decide) hb2 ?_
      refine r_iconst (v := 1) fe_77_19 (by decide) ?_
      refine r_aload_n fe_77_20 rfl ?_
      refine r_getf (v := .ref 88) fe_77_21 lf_11_43 (x_c xk_64 (by decide)) (x_lt xk_64 (by decide)) rfl ?_
      refine r_getf (v := .ref 95) fe_77_24 lf_11_94 (x_c xk_88 (by decide)) (x_lt xk_88 (by decide)) rfl ?_
      refine r_getf (v := .int (S.1 95 2)) fe_77_27 lf_11_215 (x_c xk_95 (by decide)) (x_lt xk_95 (by decide)) rfl ?_
      refine r_iload_n fe_77_30 rfl ?_
      refine r_ishr (v := ((S.1 95 2) >>> ((S.2.1 93 (Int32.toNatClampNeg l1)) &&& 31))) fe_77_31 rfl ?_
      refine r_iconst (v := 1) fe_77_32 (by decide) ?_
      refine r_iand (v := (((S.1 95 2) >>> ((S.2.1 93 (Int32.toNatClampNeg l1)) &&& 31)) &&& 1)) fe_77_33 rfl ?_
      refine r_iadd (v := (1 + (((S.1 95 2) >>> ((S.2.1 93 (Int32.toNatClampNeg l1)) &&& 31)) &&& 1))) fe_77_34 rfl ?_
      refine r_iret fe_77_35 ⟨rfl, by decide⟩ ?_
      exact dfin (P := fun r T => Q (some (.int r)) (xst T G h)) hf hQ
    · rw [if_neg hb2] at hf
      refine r_if_f (t := 19) fe_77_14 (by decide) (Bool.eq_false_iff.mpr hb2) ?_
      refine r_iconst (v := 0) fe_77_17 (by decide) ?_
      refine r_iret fe_77_18 ⟨rfl, by decide⟩ ?_
      exact dfin (P := fun r T => Q (some (.int r)) (xst T G h)) hf hQ
theorem G77c {xs : Nat → Int32} {L9 d : Nat} {G : gS} {h : Nat → va_E} {n : Nat} {Q : Option Value → AmH → Prop} {r0 : Int32} {S0 S : xS} {l1 : Int32} (hf : G77 n l1 S = some (r0, S0)) (hQ : Q (some (.int r0)) (xst S0 G h)) : Ca (am_X xs L9) (d + 0) 77 [.ref 64, .int l1] (xst S G h) Q := (G77l hQ n) l1 S hf
def G78b0 (l0 : Nat) (F : Nat → Int32 → Int32 → Int32 → xS → Option (Int32 × xS)) (n : Nat) (l1 : Int32) (l2 : Int32) (l3 : Int32) (S : xS) : Option (Int32 × xS) := F 4 l1 0 0 S
def G78b4 (l0 : Nat) (F : Nat → Int32 → Int32 → Int32 → xS → Option (Int32 × xS)) (n : Nat) (l1 : Int32) (l2 : Int32) (l3 : Int32) (S : xS) : Option (Int32 × xS) := (if am_ic .ge l3 (S.1 l0 1) = true then some (l2, S) else (if ¬ (l3 < 0 ∨ 13 ≤ (l3).toNatClampNeg) then (if am_ic .ne (S.2.1 (l0 + 1) (Int32.toNatClampNeg l3)) l1 = true then F 4 l1 l2 (l3 + 1) S else F 4 l1 (l2 ||| (1 <<< (l3 &&& 31))) (l3 + 1) S) else none))
def G78f (l0 : Nat) : Nat → Nat → Int32 → Int32 → Int32 → xS → Option (Int32 × xS)
  | 0, _, _, _, _, _ => none
  | n + 1, c, l1, l2, l3, S => if c = 0 then G78b0 l0 (G78f l0 n) n l1 l2 l3 S else G78b4 l0 (G78f l0 n) n l1 l2 l3 S
theorem G78e0 (l0 : Nat) (n : Nat) (l1 : Int32) (l2 : Int32) (l3 : Int32) (S : xS) : G78f l0 (n + 1) 0 l1 l2 l3 S = G78b0 l0 (G78f l0 n) n l1 l2 l3 S := if_pos rfl
theorem G78e4 (l0 : Nat) (n : Nat) (l1 : Int32) (l2 : Int32) (l3 : Int32) (S : xS) : G78f l0 (n + 1) 4 l1 l2 l3 S = G78b4 l0 (G78f l0 n) n l1 l2 l3 S := if_neg (by decide)
def G78 (l0 : Nat) (n : Nat) (l1 : Int32) (S : xS) : Option (Int32 × xS) := G78f l0 n 0 l1 0 0 S
set_option maxRecDepth 20000 in
set_option maxHeartbeats 4000000 in
theorem G78l {xs : Nat → Int32} {L9 d : Nat} {G : gS} {h : Nat → va_E} {l0 : Nat} {Q : Option Value → AmH → Prop} {r0 : Int32} {S0 : xS} (h0 : wB G l0 = true) (hQ : Q (some (.int r0)) (xst S0 G h)) : ∀ n : Nat, (∀ (l1 : Int32) (l2 : Int32) (l3 : Int32) (S : xS), G78f l0 n 0 l1 l2 l3 S = some (r0, S0) → Go (am_X xs L9) (d + 0) 78 0 [.ref l0, .int l1, .float 0, .float 0] [] (xst S G h) Q) ∧ (∀ (l1 : Int32) (l2 : Int32) (l3 : Int32) (S : xS), G78f l0 n 4 l1 l2 l3 S = some (r0, S0) → Go (am_X xs L9) (d + 0) 78 4 [.ref l0, .int l1, .int l2, .int l3] [] (xst S G h) Q) := by
  intro n
  induction n with
  | zero => exact ⟨fun l1 l2 l3 S hf => (by cases hf), fun l1 l2 l3 S hf => (by cases hf)⟩
  | succ n ih =>
    refine ⟨?_, ?_⟩
    · intro l1 l2 l3 S hf
      rw [G78e0] at hf
      unfold G78b0 at hf
      refine r_iconst (v := 0) fe_78_0 (by decide) ?_
      refine r_istore_n fe_78_1 (Nat.le_of_ble_eq_true rfl) rfl ?_
      refine r_iconst (v := 0) fe_78_2 (by decide) ?_
      refine r_istore_n fe_78_3 (Nat.le_of_ble_eq_true rfl) rfl ?_
      refine go_weak (L0 := [.ref l0, .int l1, .int 0, .int 0]) (lwk_c (Or.inl rfl) (lwk_c (Or.inl rfl) (lwk_c (Or.inl rfl) (lwk_c (Or.inl rfl) (lwk_rf []))))) ?_
      exact ih.2 l1 0 0 S hf
    · intro l1 l2 l3 S hf
      rw [G78e4] at hf
      unfold G78b4 at hf
      refine r_iload_n fe_78_4 rfl ?_
      refine r_aload_n fe_78_5 rfl ?_
      refine r_getf (v := .int (S.1 l0 1)) fe_78_6 lf_9_15 (x_c (wk0 h0) (by decide)) (x_lt (wk0 h0) (by decide)) rfl ?_
      by_cases hb1 : am_ic .ge l3 (S.1 l0 1) = true
      · rw [if_pos hb1] at hf
        refine r_ic_t (t := 34) fe_78_9 (by decide) hb1 ?_
        refine r_iload_n fe_78_34 rfl ?_
        refine r_iret fe_78_35 ⟨rfl, by decide⟩ ?_
        exact dfin (P := fun r T => Q (some (.int r)) (xst T G h)) hf hQ
      · rw [if_neg hb1] at hf
        refine r_ic_f (t := 34) fe_78_9 (by decide) (Bool.eq_false_iff.mpr hb1) ?_
        refine r_aload_n fe_78_12 rfl ?_
        refine r_getf (v := .ref (l0 + 1)) fe_78_13 lf_9_21 (x_c (wk0 h0) (by decide)) (x_lt (wk0 h0) (by decide)) rfl ?_
        refine r_iload_n fe_78_16 rfl ?_
        by_cases hg2 : ¬ (l3 < 0 ∨ 13 ≤ (l3).toNatClampNeg)
        rotate_left
        · rw [if_neg hg2] at hf; cases hf
        rw [if_pos hg2] at hf
        refine r_iald (j := (Int32.toNatClampNeg l3)) (v := S.2.1 (l0 + 1) (Int32.toNatClampNeg l3)) fe_78_17 (x_c (wk1 h0) (by decide)) (x_lt (wk1 h0) (by decide)) (fun z => hg2 (Or.inl z)) rfl (fun z => hg2 (Or.inr z)) rfl ?_
        refine r_iload_n fe_78_18 rfl ?_
        by_cases hb3 : am_ic .ne (S.2.1 (l0 + 1) (Int32.toNatClampNeg l3)) l1 = true
        · rw [if_pos hb3] at hf
          refine r_ic_t (t := 28) fe_78_19 (by decide) hb3 ?_
          refine r_iinc (v := (l3 + 1)) fe_78_28 rfl rfl rfl ?_
          refine r_goto (t := 4) fe_78_31 (by decide) ?_
          refine go_weak (L0 := [.ref l0, .int l1, .int l2, .int (l3 + 1)]) (lwk_c (Or.inl rfl) (lwk_c (Or.inl rfl) (lwk_c (Or.inl rfl) (lwk_c (Or.inl rfl) (lwk_rf []))))) ?_
          exact ih.2 l1 l2 (l3 + 1) S hf
        · rw [if_neg hb3] at hf
          refine r_ic_f (t := 28) fe_78_19 (by decide) (Bool.eq_false_iff.mpr hb3) ?_
          refine r_iload_n fe_78_22 rfl ?_
          refine r_iconst (v := 1) fe_78_23 (by decide) ?_
          refine r_iload_n fe_78_24 rfl ?_
          refine r_ishl (v := (1 <<< (l3 &&& 31))) fe_78_25 rfl ?_
          refine r_ior (v := (l2 ||| (1 <<< (l3 &&& 31)))) fe_78_26 rfl ?_
          refine r_istore_n fe_78_27 (Nat.le_of_ble_eq_true rfl) rfl ?_
          refine r_iinc (v := (l3 + 1)) fe_78_28 rfl rfl rfl ?_
          refine r_goto (t := 4) fe_78_31 (by decide) ?_
          refine go_weak (L0 := [.ref l0, .int l1, .int (l2 ||| (1 <<< (l3 &&& 31))), .int (l3 + 1)]) (lwk_c (Or.inl rfl) (lwk_c (Or.inl rfl) (lwk_c (Or.inl rfl) (lwk_c (Or.inl rfl) (lwk_rf []))))) ?_
          exact ih.2 l1 (l2 ||| (1 <<< (l3 &&& 31))) (l3 + 1) S hf
theorem G78c {xs : Nat → Int32} {L9 d : Nat} {G : gS} {h : Nat → va_E} {l0 : Nat} {n : Nat} {Q : Option Value → AmH → Prop} {r0 : Int32} {S0 S : xS} {l1 : Int32} (h0 : wB G l0 = true) (hf : G78 l0 n l1 S = some (r0, S0)) (hQ : Q (some (.int r0)) (xst S0 G h)) : Ca (am_X xs L9) (d + 0) 78 [.ref l0, .int l1] (xst S G h) Q := (G78l h0 hQ n).1 l1 0 0 S hf
def G74b0 (F : Nat → Int32 → Int32 → xS → Option (Int32 × xS)) (n : Nat) (l1 : Int32) (l2 : Int32) (S : xS) : Option (Int32 × xS) := ((G75 n l1 S).bind (fun z1 => (if am_if .ne z1.1 = true then (if ((l2).toInt < 0 ∨ 5 < (l2).toInt) then some ((-2), z1.2) else (if l2 = 0 then (if ¬ (l1 < 0 ∨ 16 ≤ (l1).toNatClampNeg) then some ((z1.2.2.1 90 (Int32.toNatClampNeg l1)), z1.2) else none) else (if l2 = 1 then (if ¬ (l1 < 0 ∨ 16 ≤ (l1).toNatClampNeg) then some ((z1.2.2.1 91 (Int32.toNatClampNeg l1)), z1.2) else none) else (if l2 = 2 then ((G76 89 n l1 z1.2).bind (fun z10 => some (z10.1, z10.2))) else (if l2 = 3 then ((G77 n l1 z1.2).bind (fun z13 => some (z13.1, z13.2))) else (if l2 = 4 then (if ¬ (l1 < 0 ∨ 16 ≤ (l1).toNatClampNeg) then some ((z1.2.2.1 104 (Int32.toNatClampNeg l1)), z1.2) else none) else (if l2 = 5 then ((G78 95 n l1 z1.2).bind (fun z18 => some (z18.1, z18.2))) else none))))))) else some ((-2), z1.2))))
def G74f : Nat → Nat → Int32 → Int32 → xS → Option (Int32 × xS)
  | 0, _, _, _, _ => none
  | n + 1, c, l1, l2, S => G74b0 (G74f n) n l1 l2 S
theorem G74e0 (n : Nat) (l1 : Int32) (l2 : Int32) (S : xS) : G74f (n + 1) 0 l1 l2 S = G74b0 (G74f n) n l1 l2 S := rfl
def G74 (n : Nat) (l1 : Int32) (l2 : Int32) (S : xS) : Option (Int32 × xS) := G74f n 0 l1 l2 S
set_option maxRecDepth 20000 in
set_option maxHeartbeats 4000000 in
theorem G74l {xs : Nat → Int32} {L9 d : Nat} {G : gS} {h : Nat → va_E} {Q : Option Value → AmH → Prop} {r0 : Int32} {S0 : xS} (hQ : Q (some (.int r0)) (xst S0 G h)) : ∀ n : Nat, (∀ (l1 : Int32) (l2 : Int32) (S : xS), G74f n 0 l1 l2 S = some (r0, S0) → Go (am_X xs L9) (d + 1) 74 0 [.ref 64, .int l1, .int l2] [] (xst S G h) Q) := by
  intro n
  induction n with
  | zero => exact fun l1 l2 S hf => (by cases hf)
  | succ n ih =>
    intro l1 l2 S hf
    rw [G74e0] at hf
    unfold G74b0 at hf
    refine r_aload_n fe_74_0 rfl ?_
    refine r_iload_n fe_74_1 rfl ?_
    refine r_callV (as := [.int l1]) (r := []) fe_74_2 lm_11_124 md_75 rfl rfl (Nat.le_of_ble_eq_true rfl) (x_c xk_64 (by decide)) (x_lt xk_64 (by decide)) (Nat.le_of_ble_eq_true rfl) (Nat.le_of_ble_eq_true rfl) ?_
    cases hc2 : G75 n l1 S with
    | none => rw [hc2] at hf; cases hf
    | some z1 =>
      rw [hc2, Option.bind_some] at hf
      refine G75c (r0 := z1.1) (S0 := z1.2)  (hf := hc2) ?_
      by_cases hb3 : am_if .ne z1.1 = true
      · rw [if_pos hb3] at hf
        refine r_if_t (t := 11) fe_74_5 (by decide) hb3 ?_
        refine r_iload_n fe_74_11 rfl ?_
        by_cases hs4 : ((l2).toInt < 0 ∨ 5 < (l2).toInt)
        · rw [if_pos hs4] at hf
          refine r_tabO (t := 121) fe_74_12 hs4 (by decide) ?_
          refine r_bipush (v := -2) fe_74_121 (by decide) ?_
          refine r_iret fe_74_123 ⟨rfl, by decide⟩ ?_
          exact dfin (P := fun r T => Q (some (.int r)) (xst T G h)) hf hQ
        · rw [if_neg hs4] at hf
          by_cases hx5 : l2 = 0
          · rw [if_pos hx5] at hf
            refine r_tabI (off := 40) (t := 52) fe_74_12 hs4 (by rw [hx5]; decide) (by decide) ?_
            refine r_aload_n fe_74_52 rfl ?_
            refine r_getf (v := .ref 88) fe_74_53 lf_11_43 (x_c xk_64 (by decide)) (x_lt xk_64 (by decide)) rfl ?_
            refine r_getf (v := .ref 89) fe_74_56 lf_11_83 (x_c xk_88 (by decide)) (x_lt xk_88 (by decide)) rfl ?_
            refine r_getf (v := .ref 90) fe_74_59 lf_11_128 (x_c xk_89 (by decide)) (x_lt xk_89 (by decide)) rfl ?_
            refine r_iload_n fe_74_62 rfl ?_
            by_cases hg6 : ¬ (l1 < 0 ∨ 16 ≤ (l1).toNatClampNeg)
            rotate_left
            · rw [if_neg hg6] at hf; cases hf
            rw [if_pos hg6] at hf
            refine r_iald (j := (Int32.toNatClampNeg l1)) (v := z1.2.2.1 90 (Int32.toNatClampNeg l1)) fe_74_63 (x_c xk_90 (by decide)) (x_lt xk_90 (by decide)) (fun z => hg6 (Or.inl z)) rfl (fun z => hg6 (Or.inr z)) rfl ?_
            refine r_iret fe_74_64 ⟨rfl, by decide⟩ ?_
            exact dfin (P := fun r T => Q (some (.int r)) (xst T G h)) hf hQ
          · rw [if_neg hx5] at hf
            by_cases hx7 : l2 = 1
            · rw [if_pos hx7] at hf
              refine r_tabI (off := 53) (t := 65) fe_74_12 hs4 (by rw [hx7]; decide) (by decide) ?_
              refine r_aload_n fe_74_65 rfl ?_
              refine r_getf (v := .ref 88) fe_74_66 lf_11_43 (x_c xk_64 (by decide)) (x_lt xk_64 (by decide)) rfl ?_
              refine r_getf (v := .ref 89) fe_74_69 lf_11_83 (x_c xk_88 (by decide)) (x_lt xk_88 (by decide)) rfl ?_
              refine r_getf (v := .ref 91) fe_74_72 lf_11_132 (x_c xk_89 (by decide)) (x_lt xk_89 (by decide)) rfl ?_
              refine r_iload_n fe_74_75 rfl ?_
              by_cases hg8 : ¬ (l1 < 0 ∨ 16 ≤ (l1).toNatClampNeg)
              rotate_left
              · rw [if_neg hg8] at hf; cases hf
              rw [if_pos hg8] at hf
              refine r_iald (j := (Int32.toNatClampNeg l1)) (v := z1.2.2.1 91 (Int32.toNatClampNeg l1)) fe_74_76 (x_c xk_91 (by decide)) (x_lt xk_91 (by decide)) (fun z => hg8 (Or.inl z)) rfl (fun z => hg8 (Or.inr z)) rfl ?_
              refine r_iret fe_74_77 ⟨rfl, by decide⟩ ?_
              exact dfin (P := fun r T => Q (some (.int r)) (xst T G h)) hf hQ
            · rw [if_neg hx7] at hf
              by_cases hx9 : l2 = 2
              · rw [if_pos hx9] at hf
                refine r_tabI (off := 66) (t := 78) fe_74_12 hs4 (by rw [hx9]; decide) (by decide) ?_
                refine r_aload_n fe_74_78 rfl ?_
                refine r_getf (v := .ref 88) fe_74_79 lf_11_43 (x_c xk_64 (by decide)) (x_lt xk_64 (by decide)) rfl ?_
                refine r_getf (v := .ref 89) fe_74_82 lf_11_83 (x_c xk_88 (by decide)) (x_lt xk_88 (by decide)) rfl ?_
                refine r_iload_n fe_74_85 rfl ?_
                refine r_callV (as := [.int l1]) (r := []) fe_74_86 lm_11_135 md_76 rfl rfl (Nat.le_of_ble_eq_true rfl) (x_c xk_89 (by decide)) (x_lt xk_89 (by decide)) (Nat.le_of_ble_eq_true rfl) (Nat.le_of_ble_eq_true rfl) ?_
                cases hc11 : G76 89 n l1 z1.2 with
                | none => rw [hc11] at hf; cases hf
                | some z10 =>
                  rw [hc11, Option.bind_some] at hf
                  refine G76c (r0 := z10.1) (S0 := z10.2) (h0 := bS_89) (hf := hc11) ?_
                  refine r_iret fe_74_89 ⟨rfl, by decide⟩ ?_
                  exact dfin (P := fun r T => Q (some (.int r)) (xst T G h)) hf hQ
              · rw [if_neg hx9] at hf
                by_cases hx12 : l2 = 3
                · rw [if_pos hx12] at hf
                  refine r_tabI (off := 78) (t := 90) fe_74_12 hs4 (by rw [hx12]; decide) (by decide) ?_
                  refine r_aload_n fe_74_90 rfl ?_
                  refine r_iload_n fe_74_91 rfl ?_
                  refine r_callV (as := [.int l1]) (r := []) fe_74_92 lm_11_139 md_77 rfl rfl (Nat.le_of_ble_eq_true rfl) (x_c xk_64 (by decide)) (x_lt xk_64 (by decide)) (Nat.le_of_ble_eq_true rfl) (Nat.le_of_ble_eq_true rfl) ?_
                  cases hc14 : G77 n l1 z1.2 with
                  | none => rw [hc14] at hf; cases hf
                  | some z13 =>
                    rw [hc14, Option.bind_some] at hf
                    refine G77c (r0 := z13.1) (S0 := z13.2)  (hf := hc14) ?_
                    refine r_iret fe_74_95 ⟨rfl, by decide⟩ ?_
                    exact dfin (P := fun r T => Q (some (.int r)) (xst T G h)) hf hQ
                · rw [if_neg hx12] at hf
                  by_cases hx15 : l2 = 4
                  · rw [if_pos hx15] at hf
                    refine r_tabI (off := 84) (t := 96) fe_74_12 hs4 (by rw [hx15]; decide) (by decide) ?_
                    refine r_aload_n fe_74_96 rfl ?_
                    refine r_getf (v := .ref 88) fe_74_97 lf_11_43 (x_c xk_64 (by decide)) (x_lt xk_64 (by decide)) rfl ?_
                    refine r_getf (v := .ref 95) fe_74_100 lf_11_94 (x_c xk_88 (by decide)) (x_lt xk_88 (by decide)) rfl ?_
                    refine r_getf (v := .ref 104) fe_74_103 lf_11_142 (x_c xk_95 (by decide)) (x_lt xk_95 (by decide)) rfl ?_
                    refine r_iload_n fe_74_106 rfl ?_
                    by_cases hg16 : ¬ (l1 < 0 ∨ 16 ≤ (l1).toNatClampNeg)
                    rotate_left
                    · rw [if_neg hg16] at hf; cases hf
                    rw [if_pos hg16] at hf
                    refine r_iald (j := (Int32.toNatClampNeg l1)) (v := z1.2.2.1 104 (Int32.toNatClampNeg l1)) fe_74_107 (x_c xk_104 (by decide)) (x_lt xk_104 (by decide)) (fun z => hg16 (Or.inl z)) rfl (fun z => hg16 (Or.inr z)) rfl ?_
                    refine r_iret fe_74_108 ⟨rfl, by decide⟩ ?_
                    exact dfin (P := fun r T => Q (some (.int r)) (xst T G h)) hf hQ
                  · rw [if_neg hx15] at hf
                    by_cases hx17 : l2 = 5
                    · rw [if_pos hx17] at hf
                      refine r_tabI (off := 97) (t := 109) fe_74_12 hs4 (by rw [hx17]; decide) (by decide) ?_
                      refine r_aload_n fe_74_109 rfl ?_
                      refine r_getf (v := .ref 88) fe_74_110 lf_11_43 (x_c xk_64 (by decide)) (x_lt xk_64 (by decide)) rfl ?_
                      refine r_getf (v := .ref 95) fe_74_113 lf_11_94 (x_c xk_88 (by decide)) (x_lt xk_88 (by decide)) rfl ?_
                      refine r_iload_n fe_74_116 rfl ?_
                      refine r_callV (as := [.int l1]) (r := []) fe_74_117 lm_11_145 md_78 rfl rfl (Nat.le_of_ble_eq_true rfl) (x_c xk_95 (by decide)) (x_lt xk_95 (by decide)) (Nat.le_of_ble_eq_true rfl) (Nat.le_of_ble_eq_true rfl) ?_
                      cases hc19 : G78 95 n l1 z1.2 with
                      | none => rw [hc19] at hf; cases hf
                      | some z18 =>
                        rw [hc19, Option.bind_some] at hf
                        refine G78c (r0 := z18.1) (S0 := z18.2) (h0 := wS_95) (hf := hc19) ?_
                        refine r_iret fe_74_120 ⟨rfl, by decide⟩ ?_
                        exact dfin (P := fun r T => Q (some (.int r)) (xst T G h)) hf hQ
                    · rw [if_neg hx17] at hf
                      cases hf
      · rw [if_neg hb3] at hf
        refine r_if_f (t := 11) fe_74_5 (by decide) (Bool.eq_false_iff.mpr hb3) ?_
        refine r_bipush (v := -2) fe_74_8 (by decide) ?_
        refine r_iret fe_74_10 ⟨rfl, by decide⟩ ?_
        exact dfin (P := fun r T => Q (some (.int r)) (xst T G h)) hf hQ
theorem G74c {xs : Nat → Int32} {L9 d : Nat} {G : gS} {h : Nat → va_E} {n : Nat} {Q : Option Value → AmH → Prop} {r0 : Int32} {S0 S : xS} {l1 : Int32} {l2 : Int32} (hf : G74 n l1 l2 S = some (r0, S0)) (hQ : Q (some (.int r0)) (xst S0 G h)) : Ca (am_X xs L9) (d + 1) 74 [.ref 64, .int l1, .int l2] (xst S G h) Q := (G74l hQ n) l1 l2 S hf
def G80b0 (F : Nat → Int32 → xS → Option (Int32 × xS)) (n : Nat) (l1 : Int32) (S : xS) : Option (Int32 × xS) := (if am_if .lt l1 = true then some (0, S) else (if am_ic .ge l1 (S.1 95 1) = true then some (0, S) else some (1, S)))
def G80f : Nat → Nat → Int32 → xS → Option (Int32 × xS)
  | 0, _, _, _ => none
  | n + 1, c, l1, S => G80b0 (G80f n) n l1 S
theorem G80e0 (n : Nat) (l1 : Int32) (S : xS) : G80f (n + 1) 0 l1 S = G80b0 (G80f n) n l1 S := rfl
def G80 (n : Nat) (l1 : Int32) (S : xS) : Option (Int32 × xS) := G80f n 0 l1 S
set_option maxRecDepth 20000 in
set_option maxHeartbeats 4000000 in
theorem G80l {xs : Nat → Int32} {L9 d : Nat} {G : gS} {h : Nat → va_E} {Q : Option Value → AmH → Prop} {r0 : Int32} {S0 : xS} (hQ : Q (some (.int r0)) (xst S0 G h)) : ∀ n : Nat, (∀ (l1 : Int32) (S : xS), G80f n 0 l1 S = some (r0, S0) → Go (am_X xs L9) (d + 0) 80 0 [.ref 64, .int l1] [] (xst S G h) Q) := by
  intro n
  induction n with
  | zero => exact fun l1 S hf => (by cases hf)
  | succ n ih =>
    intro l1 S hf
    rw [G80e0] at hf
    unfold G80b0 at hf
    refine r_iload_n fe_80_0 rfl ?_
    by_cases hb1 : am_if .lt l1 = true
    · rw [if_pos hb1] at hf
      refine r_if_t (t := 22) fe_80_1 (by decide) hb1 ?_
      refine r_iconst (v := 0) fe_80_22 (by decide) ?_
      refine r_iret fe_80_23 ⟨rfl, by decide⟩ ?_
      exact dfin (P := fun r T => Q (some (.int r)) (xst T G h)) hf hQ
    · rw [if_neg hb1] at hf
      refine r_if_f (t := 22) fe_80_1 (by decide) (Bool.eq_false_iff.mpr hb1) ?_
      refine r_iload_n fe_80_4 rfl ?_
      refine r_aload_n fe_80_5 rfl ?_
      refine r_getf (v := .ref 88) fe_80_6 lf_11_43 (x_c xk_64 (by decide)) (x_lt xk_64 (by decide)) rfl ?_
      refine r_getf (v := .ref 95) fe_80_9 lf_11_94 (x_c xk_88 (by decide)) (x_lt xk_88 (by decide)) rfl ?_
      refine r_getf (v := .int (S.1 95 1)) fe_80_12 lf_11_113 (x_c xk_95 (by decide)) (x_lt xk_95 (by decide)) rfl ?_
      by_cases hb2 : am_ic .ge l1 (S.1 95 1) = true
      · rw [if_pos hb2] at hf
        refine r_ic_t (t := 22) fe_80_15 (by decide) hb2 ?_
        refine r_iconst (v := 0) fe_80_22 (by decide) ?_
        refine r_iret fe_80_23 ⟨rfl, by decide⟩ ?_
        exact dfin (P := fun r T => Q (some (.int r)) (xst T G h)) hf hQ
      · rw [if_neg hb2] at hf
        refine r_ic_f (t := 22) fe_80_15 (by decide) (Bool.eq_false_iff.mpr hb2) ?_
        refine r_iconst (v := 1) fe_80_18 (by decide) ?_
        refine r_goto (t := 23) fe_80_19 (by decide) ?_
        refine r_iret fe_80_23 ⟨rfl, by decide⟩ ?_
        exact dfin (P := fun r T => Q (some (.int r)) (xst T G h)) hf hQ
theorem G80c {xs : Nat → Int32} {L9 d : Nat} {G : gS} {h : Nat → va_E} {n : Nat} {Q : Option Value → AmH → Prop} {r0 : Int32} {S0 S : xS} {l1 : Int32} (hf : G80 n l1 S = some (r0, S0)) (hQ : Q (some (.int r0)) (xst S0 G h)) : Ca (am_X xs L9) (d + 0) 80 [.ref 64, .int l1] (xst S G h) Q := (G80l hQ n) l1 S hf
def G79b0 (F : Nat → Int32 → Int32 → xS → Option (Int32 × xS)) (n : Nat) (l1 : Int32) (l2 : Int32) (S : xS) : Option (Int32 × xS) := ((G80 n l1 S).bind (fun z1 => (if am_if .ne z1.1 = true then (if ((l2).toInt < 0 ∨ 5 < (l2).toInt) then some ((-2), z1.2) else (if l2 = 0 then (if ¬ (l1 < 0 ∨ 13 ≤ (l1).toNatClampNeg) then some ((z1.2.2.1 96 (Int32.toNatClampNeg l1)), z1.2) else none) else (if l2 = 1 then (if ¬ (l1 < 0 ∨ 13 ≤ (l1).toNatClampNeg) then some ((z1.2.2.1 97 (Int32.toNatClampNeg l1)), z1.2) else none) else (if l2 = 2 then (if ¬ (l1 < 0 ∨ 13 ≤ (l1).toNatClampNeg) then some ((z1.2.2.1 100 (Int32.toNatClampNeg l1)), z1.2) else none) else (if l2 = 3 then (if ¬ (l1 < 0 ∨ 13 ≤ (l1).toNatClampNeg) then some ((z1.2.2.1 101 (Int32.toNatClampNeg l1)), z1.2) else none) else (if l2 = 4 then (if ¬ (l1 < 0 ∨ 13 ≤ (l1).toNatClampNeg) then some ((z1.2.2.1 102 (Int32.toNatClampNeg l1)), z1.2) else none) else (if l2 = 5 then (if ¬ (l1 < 0 ∨ 13 ≤ (l1).toNatClampNeg) then some ((z1.2.2.1 103 (Int32.toNatClampNeg l1)), z1.2) else none) else none))))))) else some ((-2), z1.2))))
def G79f : Nat → Nat → Int32 → Int32 → xS → Option (Int32 × xS)
  | 0, _, _, _, _ => none
  | n + 1, c, l1, l2, S => G79b0 (G79f n) n l1 l2 S
theorem G79e0 (n : Nat) (l1 : Int32) (l2 : Int32) (S : xS) : G79f (n + 1) 0 l1 l2 S = G79b0 (G79f n) n l1 l2 S := rfl
def G79 (n : Nat) (l1 : Int32) (l2 : Int32) (S : xS) : Option (Int32 × xS) := G79f n 0 l1 l2 S
set_option maxRecDepth 20000 in
set_option maxHeartbeats 4000000 in
theorem G79l {xs : Nat → Int32} {L9 d : Nat} {G : gS} {h : Nat → va_E} {Q : Option Value → AmH → Prop} {r0 : Int32} {S0 : xS} (hQ : Q (some (.int r0)) (xst S0 G h)) : ∀ n : Nat, (∀ (l1 : Int32) (l2 : Int32) (S : xS), G79f n 0 l1 l2 S = some (r0, S0) → Go (am_X xs L9) (d + 1) 79 0 [.ref 64, .int l1, .int l2, .float 0] [] (xst S G h) Q) := by
  intro n
  induction n with
  | zero => exact fun l1 l2 S hf => (by cases hf)
  | succ n ih =>
    intro l1 l2 S hf
    rw [G79e0] at hf
    unfold G79b0 at hf
    refine r_aload_n fe_79_0 rfl ?_
    refine r_iload_n fe_79_1 rfl ?_
    refine r_callV (as := [.int l1]) (r := []) fe_79_2 lm_11_148 md_80 rfl rfl (Nat.le_of_ble_eq_true rfl) (x_c xk_64 (by decide)) (x_lt xk_64 (by decide)) (Nat.le_of_ble_eq_true rfl) (Nat.le_of_ble_eq_true rfl) ?_
    cases hc2 : G80 n l1 S with
    | none => rw [hc2] at hf; cases hf
    | some z1 =>
      rw [hc2, Option.bind_some] at hf
      refine G80c (r0 := z1.1) (S0 := z1.2)  (hf := hc2) ?_
      by_cases hb3 : am_if .ne z1.1 = true
      · rw [if_pos hb3] at hf
        refine r_if_t (t := 11) fe_79_5 (by decide) hb3 ?_
        refine r_aload_n fe_79_11 rfl ?_
        refine r_getf (v := .ref 88) fe_79_12 lf_11_43 (x_c xk_64 (by decide)) (x_lt xk_64 (by decide)) rfl ?_
        refine r_getf (v := .ref 95) fe_79_15 lf_11_94 (x_c xk_88 (by decide)) (x_lt xk_88 (by decide)) rfl ?_
        refine r_astore_n fe_79_18 (Nat.le_of_ble_eq_true rfl) rfl ?_
        refine r_iload_n fe_79_19 rfl ?_
        by_cases hs4 : ((l2).toInt < 0 ∨ 5 < (l2).toInt)
        · rw [if_pos hs4] at hf
          refine r_tabO (t := 102) fe_79_20 hs4 (by decide) ?_
          refine r_bipush (v := -2) fe_79_102 (by decide) ?_
          refine r_iret fe_79_104 ⟨rfl, by decide⟩ ?_
          exact dfin (P := fun r T => Q (some (.int r)) (xst T G h)) hf hQ
        · rw [if_neg hs4] at hf
          by_cases hx5 : l2 = 0
          · rw [if_pos hx5] at hf
            refine r_tabI (off := 40) (t := 60) fe_79_20 hs4 (by rw [hx5]; decide) (by decide) ?_
            refine r_aload_n fe_79_60 rfl ?_
            refine r_getf (v := .ref 96) fe_79_61 lf_11_151 (x_c xk_95 (by decide)) (x_lt xk_95 (by decide)) rfl ?_
            refine r_iload_n fe_79_64 rfl ?_
            by_cases hg6 : ¬ (l1 < 0 ∨ 13 ≤ (l1).toNatClampNeg)
            rotate_left
            · rw [if_neg hg6] at hf; cases hf
            rw [if_pos hg6] at hf
            refine r_iald (j := (Int32.toNatClampNeg l1)) (v := z1.2.2.1 96 (Int32.toNatClampNeg l1)) fe_79_65 (x_c xk_96 (by decide)) (x_lt xk_96 (by decide)) (fun z => hg6 (Or.inl z)) rfl (fun z => hg6 (Or.inr z)) rfl ?_
            refine r_iret fe_79_66 ⟨rfl, by decide⟩ ?_
            exact dfin (P := fun r T => Q (some (.int r)) (xst T G h)) hf hQ
          · rw [if_neg hx5] at hf
            by_cases hx7 : l2 = 1
            · rw [if_pos hx7] at hf
              refine r_tabI (off := 47) (t := 67) fe_79_20 hs4 (by rw [hx7]; decide) (by decide) ?_
              refine r_aload_n fe_79_67 rfl ?_
              refine r_getf (v := .ref 97) fe_79_68 lf_11_154 (x_c xk_95 (by decide)) (x_lt xk_95 (by decide)) rfl ?_
              refine r_iload_n fe_79_71 rfl ?_
              by_cases hg8 : ¬ (l1 < 0 ∨ 13 ≤ (l1).toNatClampNeg)
              rotate_left
              · rw [if_neg hg8] at hf; cases hf
              rw [if_pos hg8] at hf
              refine r_iald (j := (Int32.toNatClampNeg l1)) (v := z1.2.2.1 97 (Int32.toNatClampNeg l1)) fe_79_72 (x_c xk_97 (by decide)) (x_lt xk_97 (by decide)) (fun z => hg8 (Or.inl z)) rfl (fun z => hg8 (Or.inr z)) rfl ?_
              refine r_iret fe_79_73 ⟨rfl, by decide⟩ ?_
              exact dfin (P := fun r T => Q (some (.int r)) (xst T G h)) hf hQ
            · rw [if_neg hx7] at hf
              by_cases hx9 : l2 = 2
              · rw [if_pos hx9] at hf
                refine r_tabI (off := 54) (t := 74) fe_79_20 hs4 (by rw [hx9]; decide) (by decide) ?_
                refine r_aload_n fe_79_74 rfl ?_
                refine r_getf (v := .ref 100) fe_79_75 lf_11_157 (x_c xk_95 (by decide)) (x_lt xk_95 (by decide)) rfl ?_
                refine r_iload_n fe_79_78 rfl ?_
                by_cases hg10 : ¬ (l1 < 0 ∨ 13 ≤ (l1).toNatClampNeg)
                rotate_left
                · rw [if_neg hg10] at hf; cases hf
                rw [if_pos hg10] at hf
                refine r_iald (j := (Int32.toNatClampNeg l1)) (v := z1.2.2.1 100 (Int32.toNatClampNeg l1)) fe_79_79 (x_c xk_100 (by decide)) (x_lt xk_100 (by decide)) (fun z => hg10 (Or.inl z)) rfl (fun z => hg10 (Or.inr z)) rfl ?_
                refine r_iret fe_79_80 ⟨rfl, by decide⟩ ?_
                exact dfin (P := fun r T => Q (some (.int r)) (xst T G h)) hf hQ
              · rw [if_neg hx9] at hf
                by_cases hx11 : l2 = 3
                · rw [if_pos hx11] at hf
                  refine r_tabI (off := 61) (t := 81) fe_79_20 hs4 (by rw [hx11]; decide) (by decide) ?_
                  refine r_aload_n fe_79_81 rfl ?_
                  refine r_getf (v := .ref 101) fe_79_82 lf_11_160 (x_c xk_95 (by decide)) (x_lt xk_95 (by decide)) rfl ?_
                  refine r_iload_n fe_79_85 rfl ?_
                  by_cases hg12 : ¬ (l1 < 0 ∨ 13 ≤ (l1).toNatClampNeg)
                  rotate_left
                  · rw [if_neg hg12] at hf; cases hf
                  rw [if_pos hg12] at hf
                  refine r_iald (j := (Int32.toNatClampNeg l1)) (v := z1.2.2.1 101 (Int32.toNatClampNeg l1)) fe_79_86 (x_c xk_101 (by decide)) (x_lt xk_101 (by decide)) (fun z => hg12 (Or.inl z)) rfl (fun z => hg12 (Or.inr z)) rfl ?_
                  refine r_iret fe_79_87 ⟨rfl, by decide⟩ ?_
                  exact dfin (P := fun r T => Q (some (.int r)) (xst T G h)) hf hQ
                · rw [if_neg hx11] at hf
                  by_cases hx13 : l2 = 4
                  · rw [if_pos hx13] at hf
                    refine r_tabI (off := 68) (t := 88) fe_79_20 hs4 (by rw [hx13]; decide) (by decide) ?_
                    refine r_aload_n fe_79_88 rfl ?_
                    refine r_getf (v := .ref 102) fe_79_89 lf_11_163 (x_c xk_95 (by decide)) (x_lt xk_95 (by decide)) rfl ?_
                    refine r_iload_n fe_79_92 rfl ?_
                    by_cases hg14 : ¬ (l1 < 0 ∨ 13 ≤ (l1).toNatClampNeg)
                    rotate_left
                    · rw [if_neg hg14] at hf; cases hf
                    rw [if_pos hg14] at hf
                    refine r_iald (j := (Int32.toNatClampNeg l1)) (v := z1.2.2.1 102 (Int32.toNatClampNeg l1)) fe_79_93 (x_c xk_102 (by decide)) (x_lt xk_102 (by decide)) (fun z => hg14 (Or.inl z)) rfl (fun z => hg14 (Or.inr z)) rfl ?_
                    refine r_iret fe_79_94 ⟨rfl, by decide⟩ ?_
                    exact dfin (P := fun r T => Q (some (.int r)) (xst T G h)) hf hQ
                  · rw [if_neg hx13] at hf
                    by_cases hx15 : l2 = 5
                    · rw [if_pos hx15] at hf
                      refine r_tabI (off := 75) (t := 95) fe_79_20 hs4 (by rw [hx15]; decide) (by decide) ?_
                      refine r_aload_n fe_79_95 rfl ?_
                      refine r_getf (v := .ref 103) fe_79_96 lf_11_166 (x_c xk_95 (by decide)) (x_lt xk_95 (by decide)) rfl ?_
                      refine r_iload_n fe_79_99 rfl ?_
                      by_cases hg16 : ¬ (l1 < 0 ∨ 13 ≤ (l1).toNatClampNeg)
                      rotate_left
                      · rw [if_neg hg16] at hf; cases hf
                      rw [if_pos hg16] at hf
                      refine r_iald (j := (Int32.toNatClampNeg l1)) (v := z1.2.2.1 103 (Int32.toNatClampNeg l1)) fe_79_100 (x_c xk_103 (by decide)) (x_lt xk_103 (by decide)) (fun z => hg16 (Or.inl z)) rfl (fun z => hg16 (Or.inr z)) rfl ?_
                      refine r_iret fe_79_101 ⟨rfl, by decide⟩ ?_
                      exact dfin (P := fun r T => Q (some (.int r)) (xst T G h)) hf hQ
                    · rw [if_neg hx15] at hf
                      cases hf
      · rw [if_neg hb3] at hf
        refine r_if_f (t := 11) fe_79_5 (by decide) (Bool.eq_false_iff.mpr hb3) ?_
        refine r_bipush (v := -2) fe_79_8 (by decide) ?_
        refine r_iret fe_79_10 ⟨rfl, by decide⟩ ?_
        exact dfin (P := fun r T => Q (some (.int r)) (xst T G h)) hf hQ
theorem G79c {xs : Nat → Int32} {L9 d : Nat} {G : gS} {h : Nat → va_E} {n : Nat} {Q : Option Value → AmH → Prop} {r0 : Int32} {S0 S : xS} {l1 : Int32} {l2 : Int32} (hf : G79 n l1 l2 S = some (r0, S0)) (hQ : Q (some (.int r0)) (xst S0 G h)) : Ca (am_X xs L9) (d + 1) 79 [.ref 64, .int l1, .int l2] (xst S G h) Q := (G79l hQ n) l1 l2 S hf
