def G13b0 (F : Nat → Int32 → Int32 → xS → Option (Unit × xS)) (n : Nat) (l1 : Int32) (l2 : Int32) (S : xS) : Option (Unit × xS) := F 3 l1 24 S
def G13b3 (F : Nat → Int32 → Int32 → xS → Option (Unit × xS)) (n : Nat) (l1 : Int32) (l2 : Int32) (S : xS) : Option (Unit × xS) := (if am_if .lt l2 = true then some ((), S) else (if am_ic .ge (S.1 65 1) 400 = true then some ((), S) else (if ¬ ((S.1 65 1) < 0 ∨ 400 ≤ ((S.1 65 1)).toNatClampNeg) then ((some (x_sA S 66 (Int32.toNatClampNeg (S.1 65 1)) ((Int32.toUInt32 l1 >>> (Int32.toUInt32 l2 &&& Int32.toUInt32 31)).toInt32 &&& 255))).bind (fun S4 => F 3 l1 (l2 + (-8)) (x_sI S4 65 1 ((S4.1 65 1) + 1)))) else none)))
def G13f : Nat → Nat → Int32 → Int32 → xS → Option (Unit × xS)
  | 0, _, _, _, _ => none
  | n + 1, c, l1, l2, S => if c = 0 then G13b0 (G13f n) n l1 l2 S else G13b3 (G13f n) n l1 l2 S
theorem G13e0 (n : Nat) (l1 : Int32) (l2 : Int32) (S : xS) : G13f (n + 1) 0 l1 l2 S = G13b0 (G13f n) n l1 l2 S := if_pos rfl
theorem G13e3 (n : Nat) (l1 : Int32) (l2 : Int32) (S : xS) : G13f (n + 1) 3 l1 l2 S = G13b3 (G13f n) n l1 l2 S := if_neg (by decide)
def G13 (n : Nat) (l1 : Int32) (S : xS) : Option (Unit × xS) := G13f n 0 l1 0 S
set_option maxRecDepth 20000 in
set_option maxHeartbeats 4000000 in
theorem G13l {xs : Nat → Int32} {L9 d : Nat} {G : gS} {h : Nat → va_E} {Q : Option Value → AmH → Prop} {r0 : Unit} {S0 : xS} (hQ : Q none (xst S0 G h)) : ∀ n : Nat, (∀ (l1 : Int32) (l2 : Int32) (S : xS), G13f n 0 l1 l2 S = some (r0, S0) → Go (am_X xs L9) (d + 0) 13 0 [.ref 65, .int l1, .float 0] [] (xst S G h) Q) ∧ (∀ (l1 : Int32) (l2 : Int32) (S : xS), G13f n 3 l1 l2 S = some (r0, S0) → Go (am_X xs L9) (d + 0) 13 3 [.ref 65, .int l1, .int l2] [] (xst S G h) Q) := by
  intro n
  induction n with
  | zero => exact ⟨fun l1 l2 S hf => (by cases hf), fun l1 l2 S hf => (by cases hf)⟩
  | succ n ih =>
    refine ⟨?_, ?_⟩
    · intro l1 l2 S hf
      rw [G13e0] at hf
      unfold G13b0 at hf
      refine r_bipush (v := 24) fe_13_0 (by decide) ?_
      refine r_istore_n fe_13_2 (Nat.le_of_ble_eq_true rfl) rfl ?_
      refine go_weak (L0 := [.ref 65, .int l1, .int 24]) (lwk_c (Or.inl rfl) (lwk_c (Or.inl rfl) (lwk_c (Or.inl rfl) (lwk_rf [])))) ?_
      exact ih.2 l1 24 S hf
    · intro l1 l2 S hf
      rw [G13e3] at hf
      unfold G13b3 at hf
      refine r_iload_n fe_13_3 rfl ?_
      by_cases hb1 : am_if .lt l2 = true
      · rw [if_pos hb1] at hf
        refine r_if_t (t := 49) fe_13_4 (by decide) hb1 ?_
        refine r_vret fe_13_49 ?_
        exact dfin (P := fun _ T => Q none (xst T G h)) hf hQ
      · rw [if_neg hb1] at hf
        refine r_if_f (t := 49) fe_13_4 (by decide) (Bool.eq_false_iff.mpr hb1) ?_
        refine r_aload_n fe_13_7 rfl ?_
        refine r_getf (v := .int (S.1 65 1)) fe_13_8 lf_8_15 (x_c xk_65 (by decide)) (x_lt xk_65 (by decide)) rfl ?_
        refine r_sipush (v := 400) fe_13_11 (by decide) ?_
        by_cases hb2 : am_ic .ge (S.1 65 1) 400 = true
        · rw [if_pos hb2] at hf
          refine r_ic_t (t := 49) fe_13_14 (by decide) hb2 ?_
          refine r_vret fe_13_49 ?_
          exact dfin (P := fun _ T => Q none (xst T G h)) hf hQ
        · rw [if_neg hb2] at hf
          refine r_ic_f (t := 49) fe_13_14 (by decide) (Bool.eq_false_iff.mpr hb2) ?_
          refine r_aload_n fe_13_17 rfl ?_
          refine r_getf (v := .ref 66) fe_13_18 lf_8_9 (x_c xk_65 (by decide)) (x_lt xk_65 (by decide)) rfl ?_
          refine r_aload_n fe_13_21 rfl ?_
          refine r_getf (v := .int (S.1 65 1)) fe_13_22 lf_8_15 (x_c xk_65 (by decide)) (x_lt xk_65 (by decide)) rfl ?_
          refine r_iload_n fe_13_25 rfl ?_
          refine r_iload_n fe_13_26 rfl ?_
          refine r_iushr (v := (Int32.toUInt32 l1 >>> (Int32.toUInt32 l2 &&& Int32.toUInt32 31)).toInt32) fe_13_27 rfl ?_
          refine r_sipush (v := 255) fe_13_28 (by decide) ?_
          refine r_iand (v := ((Int32.toUInt32 l1 >>> (Int32.toUInt32 l2 &&& Int32.toUInt32 31)).toInt32 &&& 255)) fe_13_31 rfl ?_
          by_cases hg3 : ¬ ((S.1 65 1) < 0 ∨ 400 ≤ ((S.1 65 1)).toNatClampNeg)
          rotate_left
          · rw [if_neg hg3] at hf; cases hf
          rw [if_pos hg3] at hf
          refine r_iast (j := (Int32.toNatClampNeg (S.1 65 1))) fe_13_32 (x_h xk_66 (by decide)) (x_lt xk_66 (by decide)) (by decide) (fun z => hg3 (Or.inl z)) rfl (fun z => hg3 (Or.inr z)) ?_
          obtain ⟨S4, e5, hf⟩ := dbnd hf
          refine go_heap (h2 := xst S4 G h) ((x_uA xk_66).trans (by rw [e5])) ?_
          refine r_aload_n fe_13_33 rfl ?_
          refine r_dup fe_13_34 rfl ?_
          refine r_getf (v := .int (S4.1 65 1)) fe_13_35 lf_8_15 (x_c xk_65 (by decide)) (x_lt xk_65 (by decide)) rfl ?_
          refine r_iconst (v := 1) fe_13_38 (by decide) ?_
          refine r_iadd (v := ((S4.1 65 1) + 1)) fe_13_39 rfl ?_
          refine r_putf fe_13_40 lf_8_15 (x_h xk_65 (by decide)) (x_lt xk_65 (by decide)) (by decide) (Nat.le_of_ble_eq_true rfl) rfl rfl (Or.inl rfl) ?_
          refine go_heap (x_uI (j := 1) (x := ((S4.1 65 1) + 1)) xk_65 (by decide)) ?_
          refine r_iinc (v := (l2 + (-8))) fe_13_43 rfl rfl rfl ?_
          refine r_goto (t := 3) fe_13_46 (by decide) ?_
          refine go_weak (L0 := [.ref 65, .int l1, .int (l2 + (-8))]) (lwk_c (Or.inl rfl) (lwk_c (Or.inl rfl) (lwk_c (Or.inl rfl) (lwk_rf [])))) ?_
          exact ih.2 l1 (l2 + (-8)) (x_sI S4 65 1 ((S4.1 65 1) + 1)) hf
theorem G13c {xs : Nat → Int32} {L9 d : Nat} {G : gS} {h : Nat → va_E} {n : Nat} {Q : Option Value → AmH → Prop} {r0 : Unit} {S0 S : xS} {l1 : Int32} (hf : G13 n l1 S = some (r0, S0)) (hQ : Q none (xst S0 G h)) : Ca (am_X xs L9) (d + 0) 13 [.ref 65, .int l1] (xst S G h) Q := (G13l hQ n).1 l1 0 S hf
def G12b0 (F : Nat → Int32 → Int32 → Int32 → Int32 → Int32 → xS → Option (Int32 × xS)) (n : Nat) (l1 : Int32) (l2 : Int32) (l3 : Int32) (l4 : Int32) (l5 : Int32) (S : xS) : Option (Int32 × xS) := (if am_ic .le ((S.1 65 1) + 20) 400 = true then ((G13 n l1 S).bind (fun z2 => ((G13 n l2 z2.2).bind (fun z4 => ((G13 n l3 z4.2).bind (fun z6 => ((G13 n l4 z6.2).bind (fun z8 => ((G13 n l5 z8.2).bind (fun z10 => some ((z10.2.1 65 1), z10.2))))))))))) else some ((-1), S))
def G12f : Nat → Nat → Int32 → Int32 → Int32 → Int32 → Int32 → xS → Option (Int32 × xS)
  | 0, _, _, _, _, _, _, _ => none
  | n + 1, c, l1, l2, l3, l4, l5, S => G12b0 (G12f n) n l1 l2 l3 l4 l5 S
theorem G12e0 (n : Nat) (l1 : Int32) (l2 : Int32) (l3 : Int32) (l4 : Int32) (l5 : Int32) (S : xS) : G12f (n + 1) 0 l1 l2 l3 l4 l5 S = G12b0 (G12f n) n l1 l2 l3 l4 l5 S := rfl
def G12 (n : Nat) (l1 : Int32) (l2 : Int32) (l3 : Int32) (l4 : Int32) (l5 : Int32) (S : xS) : Option (Int32 × xS) := G12f n 0 l1 l2 l3 l4 l5 S
set_option maxRecDepth 20000 in
set_option maxHeartbeats 4000000 in
theorem G12l {xs : Nat → Int32} {L9 d : Nat} {G : gS} {h : Nat → va_E} {Q : Option Value → AmH → Prop} {r0 : Int32} {S0 : xS} (hQ : Q (some (.int r0)) (xst S0 G h)) : ∀ n : Nat, (∀ (l1 : Int32) (l2 : Int32) (l3 : Int32) (l4 : Int32) (l5 : Int32) (S : xS), G12f n 0 l1 l2 l3 l4 l5 S = some (r0, S0) → Go (am_X xs L9) (d + 1) 12 0 [.ref 64, .int l1, .int l2, .int l3, .int l4, .int l5] [] (xst S G h) Q) := by
  intro n
  induction n with
  | zero => exact fun l1 l2 l3 l4 l5 S hf => (by cases hf)
  | succ n ih =>
    intro l1 l2 l3 l4 l5 S hf
    rw [G12e0] at hf
    unfold G12b0 at hf
    refine r_aload_n fe_12_0 rfl ?_
    refine r_getf (v := .ref 65) fe_12_1 lf_11_12 (x_c xk_64 (by decide)) (x_lt xk_64 (by decide)) rfl ?_
    refine r_getf (v := .int (S.1 65 1)) fe_12_4 lf_11_72 (x_c xk_65 (by decide)) (x_lt xk_65 (by decide)) rfl ?_
    refine r_bipush (v := 20) fe_12_7 (by decide) ?_
    refine r_iadd (v := ((S.1 65 1) + 20)) fe_12_9 rfl ?_
    refine r_sipush (v := 400) fe_12_10 (by decide) ?_
    by_cases hb1 : am_ic .le ((S.1 65 1) + 20) 400 = true
    · rw [if_pos hb1] at hf
      refine r_ic_t (t := 18) fe_12_13 (by decide) hb1 ?_
      refine r_aload_n fe_12_18 rfl ?_
      refine r_getf (v := .ref 65) fe_12_19 lf_11_12 (x_c xk_64 (by decide)) (x_lt xk_64 (by decide)) rfl ?_
      refine r_iload_n fe_12_22 rfl ?_
      refine r_callV (as := [.int l1]) (r := []) fe_12_23 lm_11_75 md_13 rfl rfl (Nat.le_of_ble_eq_true rfl) (x_c xk_65 (by decide)) (x_lt xk_65 (by decide)) (Nat.le_of_ble_eq_true rfl) (Nat.le_of_ble_eq_true rfl) ?_
      cases hc3 : G13 n l1 S with
      | none => rw [hc3] at hf; cases hf
      | some z2 =>
        rw [hc3, Option.bind_some] at hf
        refine G13c (r0 := z2.1) (S0 := z2.2)  (hf := hc3) ?_
        refine r_aload_n fe_12_26 rfl ?_
        refine r_getf (v := .ref 65) fe_12_27 lf_11_12 (x_c xk_64 (by decide)) (x_lt xk_64 (by decide)) rfl ?_
        refine r_iload_n fe_12_30 rfl ?_
        refine r_callV (as := [.int l2]) (r := []) fe_12_31 lm_11_75 md_13 rfl rfl (Nat.le_of_ble_eq_true rfl) (x_c xk_65 (by decide)) (x_lt xk_65 (by decide)) (Nat.le_of_ble_eq_true rfl) (Nat.le_of_ble_eq_true rfl) ?_
        cases hc5 : G13 n l2 z2.2 with
        | none => rw [hc5] at hf; cases hf
        | some z4 =>
          rw [hc5, Option.bind_some] at hf
          refine G13c (r0 := z4.1) (S0 := z4.2)  (hf := hc5) ?_
          refine r_aload_n fe_12_34 rfl ?_
          refine r_getf (v := .ref 65) fe_12_35 lf_11_12 (x_c xk_64 (by decide)) (x_lt xk_64 (by decide)) rfl ?_
          refine r_iload_n fe_12_38 rfl ?_
          refine r_callV (as := [.int l3]) (r := []) fe_12_39 lm_11_75 md_13 rfl rfl (Nat.le_of_ble_eq_true rfl) (x_c xk_65 (by decide)) (x_lt xk_65 (by decide)) (Nat.le_of_ble_eq_true rfl) (Nat.le_of_ble_eq_true rfl) ?_
          cases hc7 : G13 n l3 z4.2 with
          | none => rw [hc7] at hf; cases hf
          | some z6 =>
            rw [hc7, Option.bind_some] at hf
            refine G13c (r0 := z6.1) (S0 := z6.2)  (hf := hc7) ?_
            refine r_aload_n fe_12_42 rfl ?_
            refine r_getf (v := .ref 65) fe_12_43 lf_11_12 (x_c xk_64 (by decide)) (x_lt xk_64 (by decide)) rfl ?_
            refine r_iload fe_12_46 rfl ?_
            refine r_callV (as := [.int l4]) (r := []) fe_12_48 lm_11_75 md_13 rfl rfl (Nat.le_of_ble_eq_true rfl) (x_c xk_65 (by decide)) (x_lt xk_65 (by decide)) (Nat.le_of_ble_eq_true rfl) (Nat.le_of_ble_eq_true rfl) ?_
            cases hc9 : G13 n l4 z6.2 with
            | none => rw [hc9] at hf; cases hf
            | some z8 =>
              rw [hc9, Option.bind_some] at hf
              refine G13c (r0 := z8.1) (S0 := z8.2)  (hf := hc9) ?_
              refine r_aload_n fe_12_51 rfl ?_
              refine r_getf (v := .ref 65) fe_12_52 lf_11_12 (x_c xk_64 (by decide)) (x_lt xk_64 (by decide)) rfl ?_
              refine r_iload fe_12_55 rfl ?_
              refine r_callV (as := [.int l5]) (r := []) fe_12_57 lm_11_75 md_13 rfl rfl (Nat.le_of_ble_eq_true rfl) (x_c xk_65 (by decide)) (x_lt xk_65 (by decide)) (Nat.le_of_ble_eq_true rfl) (Nat.le_of_ble_eq_true rfl) ?_
              cases hc11 : G13 n l5 z8.2 with
              | none => rw [hc11] at hf; cases hf
              | some z10 =>
                rw [hc11, Option.bind_some] at hf
                refine G13c (r0 := z10.1) (S0 := z10.2)  (hf := hc11) ?_
                refine r_aload_n fe_12_60 rfl ?_
                refine r_getf (v := .ref 65) fe_12_61 lf_11_12 (x_c xk_64 (by decide)) (x_lt xk_64 (by decide)) rfl ?_
                refine r_getf (v := .int (z10.2.1 65 1)) fe_12_64 lf_11_72 (x_c xk_65 (by decide)) (x_lt xk_65 (by decide)) rfl ?_
                refine r_iret fe_12_67 ⟨rfl, by decide⟩ ?_
                exact dfin (P := fun r T => Q (some (.int r)) (xst T G h)) hf hQ
    · rw [if_neg hb1] at hf
      refine r_ic_f (t := 18) fe_12_13 (by decide) (Bool.eq_false_iff.mpr hb1) ?_
      refine r_iconst (v := -1) fe_12_16 (by decide) ?_
      refine r_iret fe_12_17 ⟨rfl, by decide⟩ ?_
      exact dfin (P := fun r T => Q (some (.int r)) (xst T G h)) hf hQ
theorem G12c {xs : Nat → Int32} {L9 d : Nat} {G : gS} {h : Nat → va_E} {n : Nat} {Q : Option Value → AmH → Prop} {r0 : Int32} {S0 S : xS} {l1 : Int32} {l2 : Int32} {l3 : Int32} {l4 : Int32} {l5 : Int32} (hf : G12 n l1 l2 l3 l4 l5 S = some (r0, S0)) (hQ : Q (some (.int r0)) (xst S0 G h)) : Ca (am_X xs L9) (d + 1) 12 [.ref 64, .int l1, .int l2, .int l3, .int l4, .int l5] (xst S G h) Q := (G12l hQ n) l1 l2 l3 l4 l5 S hf
def G14b0 (F : Nat → Int32 → xS → Option (Int32 × xS)) (n : Nat) (l1 : Int32) (S : xS) : Option (Int32 × xS) := (if am_if .lt l1 = true then some ((-1), S) else (if am_ic .le l1 (S.1 65 1) = true then some (l1, (x_sI S 65 1 l1)) else some ((-1), S)))
def G14f : Nat → Nat → Int32 → xS → Option (Int32 × xS)
  | 0, _, _, _ => none
  | n + 1, c, l1, S => G14b0 (G14f n) n l1 S
theorem G14e0 (n : Nat) (l1 : Int32) (S : xS) : G14f (n + 1) 0 l1 S = G14b0 (G14f n) n l1 S := rfl
def G14 (n : Nat) (l1 : Int32) (S : xS) : Option (Int32 × xS) := G14f n 0 l1 S
set_option maxRecDepth 20000 in
set_option maxHeartbeats 4000000 in
theorem G14l {xs : Nat → Int32} {L9 d : Nat} {G : gS} {h : Nat → va_E} {Q : Option Value → AmH → Prop} {r0 : Int32} {S0 : xS} (hQ : Q (some (.int r0)) (xst S0 G h)) : ∀ n : Nat, (∀ (l1 : Int32) (S : xS), G14f n 0 l1 S = some (r0, S0) → Go (am_X xs L9) (d + 0) 14 0 [.ref 64, .int l1] [] (xst S G h) Q) := by
  intro n
  induction n with
  | zero => exact fun l1 S hf => (by cases hf)
  | succ n ih =>
    intro l1 S hf
    rw [G14e0] at hf
    unfold G14b0 at hf
    refine r_iload_n fe_14_0 rfl ?_
    by_cases hb1 : am_if .lt l1 = true
    · rw [if_pos hb1] at hf
      refine r_if_t (t := 15) fe_14_1 (by decide) hb1 ?_
      refine r_iconst (v := -1) fe_14_15 (by decide) ?_
      refine r_iret fe_14_16 ⟨rfl, by decide⟩ ?_
      exact dfin (P := fun r T => Q (some (.int r)) (xst T G h)) hf hQ
    · rw [if_neg hb1] at hf
      refine r_if_f (t := 15) fe_14_1 (by decide) (Bool.eq_false_iff.mpr hb1) ?_
      refine r_iload_n fe_14_4 rfl ?_
      refine r_aload_n fe_14_5 rfl ?_
      refine r_getf (v := .ref 65) fe_14_6 lf_11_12 (x_c xk_64 (by decide)) (x_lt xk_64 (by decide)) rfl ?_
      refine r_getf (v := .int (S.1 65 1)) fe_14_9 lf_11_72 (x_c xk_65 (by decide)) (x_lt xk_65 (by decide)) rfl ?_
      by_cases hb2 : am_ic .le l1 (S.1 65 1) = true
      · rw [if_pos hb2] at hf
        refine r_ic_t (t := 17) fe_14_12 (by decide) hb2 ?_
        refine r_aload_n fe_14_17 rfl ?_
        refine r_getf (v := .ref 65) fe_14_18 lf_11_12 (x_c xk_64 (by decide)) (x_lt xk_64 (by decide)) rfl ?_
        refine r_iload_n fe_14_21 rfl ?_
        refine r_putf fe_14_22 lf_11_72 (x_h xk_65 (by decide)) (x_lt xk_65 (by decide)) (by decide) (Nat.le_of_ble_eq_true rfl) rfl rfl (Or.inl rfl) ?_
        refine go_heap (x_uI (j := 1) (x := l1) xk_65 (by decide)) ?_
        refine r_iload_n fe_14_25 rfl ?_
        refine r_iret fe_14_26 ⟨rfl, by decide⟩ ?_
        exact dfin (P := fun r T => Q (some (.int r)) (xst T G h)) hf hQ
      · rw [if_neg hb2] at hf
        refine r_ic_f (t := 17) fe_14_12 (by decide) (Bool.eq_false_iff.mpr hb2) ?_
        refine r_iconst (v := -1) fe_14_15 (by decide) ?_
        refine r_iret fe_14_16 ⟨rfl, by decide⟩ ?_
        exact dfin (P := fun r T => Q (some (.int r)) (xst T G h)) hf hQ
theorem G14c {xs : Nat → Int32} {L9 d : Nat} {G : gS} {h : Nat → va_E} {n : Nat} {Q : Option Value → AmH → Prop} {r0 : Int32} {S0 S : xS} {l1 : Int32} (hf : G14 n l1 S = some (r0, S0)) (hQ : Q (some (.int r0)) (xst S0 G h)) : Ca (am_X xs L9) (d + 0) 14 [.ref 64, .int l1] (xst S G h) Q := (G14l hQ n) l1 S hf
def G17b0 (F : Nat → xS → Option (Unit × xS)) (n : Nat)  (S : xS) : Option (Unit × xS) := some ((), (x_sI (x_sI (x_sI S 65 2 0) 65 3 0) 65 4 0))
def G17f : Nat → Nat → xS → Option (Unit × xS)
  | 0, _, _ => none
  | n + 1, c, S => G17b0 (G17f n) n  S
theorem G17e0 (n : Nat)  (S : xS) : G17f (n + 1) 0  S = G17b0 (G17f n) n  S := rfl
def G17 (n : Nat)  (S : xS) : Option (Unit × xS) := G17f n 0  S
set_option maxRecDepth 20000 in
set_option maxHeartbeats 4000000 in
theorem G17l {xs : Nat → Int32} {L9 d : Nat} {G : gS} {h : Nat → va_E} {Q : Option Value → AmH → Prop} {r0 : Unit} {S0 : xS} (hQ : Q none (xst S0 G h)) : ∀ n : Nat, (∀ (S : xS), G17f n 0  S = some (r0, S0) → Go (am_X xs L9) (d + 0) 17 0 [.ref 65] [] (xst S G h) Q) := by
  intro n
  induction n with
  | zero => exact fun  S hf => (by cases hf)
  | succ n ih =>
    intro  S hf
    rw [G17e0] at hf
    unfold G17b0 at hf
    refine r_aload_n fe_17_0 rfl ?_
    refine r_iconst (v := 0) fe_17_1 (by decide) ?_
    refine r_putf fe_17_2 lf_8_19 (x_h xk_65 (by decide)) (x_lt xk_65 (by decide)) (by decide) (Nat.le_of_ble_eq_true rfl) rfl rfl (Or.inl rfl) ?_
    refine go_heap (x_uI (j := 2) (x := 0) xk_65 (by decide)) ?_
    refine r_aload_n fe_17_5 rfl ?_
    refine r_iconst (v := 0) fe_17_6 (by decide) ?_
    refine r_putf fe_17_7 lf_8_22 (x_h xk_65 (by decide)) (x_lt xk_65 (by decide)) (by decide) (Nat.le_of_ble_eq_true rfl) rfl rfl (Or.inl rfl) ?_
    refine go_heap (x_uI (j := 3) (x := 0) xk_65 (by decide)) ?_
    refine r_aload_n fe_17_10 rfl ?_
    refine r_iconst (v := 0) fe_17_11 (by decide) ?_
    refine r_putf fe_17_12 lf_8_25 (x_h xk_65 (by decide)) (x_lt xk_65 (by decide)) (by decide) (Nat.le_of_ble_eq_true rfl) rfl rfl (Or.inl rfl) ?_
    refine go_heap (x_uI (j := 4) (x := 0) xk_65 (by decide)) ?_
    refine r_vret fe_17_15 ?_
    exact dfin (P := fun _ T => Q none (xst T G h)) hf hQ
theorem G17c {xs : Nat → Int32} {L9 d : Nat} {G : gS} {h : Nat → va_E} {n : Nat} {Q : Option Value → AmH → Prop} {r0 : Unit} {S0 S : xS}  (hf : G17 n  S = some (r0, S0)) (hQ : Q none (xst S0 G h)) : Ca (am_X xs L9) (d + 0) 17 [.ref 65] (xst S G h) Q := (G17l hQ n)  S hf
def G18b0 (l0 : Nat) (F : Nat → Int32 → Int32 → xS → Option (Unit × xS)) (n : Nat) (l1 : Int32) (l2 : Int32) (S : xS) : Option (Unit × xS) := ((some (x_sI S l0 0 l1)).bind (fun S1 => ((some (x_sI S1 l0 1 0)).bind (fun S3 => ((some (x_sI S3 l0 2 0)).bind (fun S5 => F 17 l1 0 S5))))))
def G18b17 (l0 : Nat) (F : Nat → Int32 → Int32 → xS → Option (Unit × xS)) (n : Nat) (l1 : Int32) (l2 : Int32) (S : xS) : Option (Unit × xS) := (if am_ic .ge l2 16 = true then some ((), S) else (if am_ic .ge (l2 + 1) l1 = true then (if ¬ (l2 < 0 ∨ 16 ≤ (l2).toNatClampNeg) then ((some (x_sA S (l0 + 1) (Int32.toNatClampNeg l2) (-1))).bind (fun S10 => (if ¬ (l2 < 0 ∨ 16 ≤ (l2).toNatClampNeg) then ((some (x_sA S10 (l0 + 2) (Int32.toNatClampNeg l2) 0)).bind (fun S13 => (if ¬ (l2 < 0 ∨ 16 ≤ (l2).toNatClampNeg) then ((some (x_sA S13 (l0 + 3) (Int32.toNatClampNeg l2) (-1))).bind (fun S16 => (if ¬ (l2 < 0 ∨ 16 ≤ (l2).toNatClampNeg) then ((some (x_sA S16 (l0 + 4) (Int32.toNatClampNeg l2) (-1))).bind (fun S19 => F 17 l1 (l2 + 1) S19)) else none))) else none))) else none))) else none) else (if ¬ (l2 < 0 ∨ 16 ≤ (l2).toNatClampNeg) then ((some (x_sA S (l0 + 1) (Int32.toNatClampNeg l2) (l2 + 1))).bind (fun S22 => (if ¬ (l2 < 0 ∨ 16 ≤ (l2).toNatClampNeg) then ((some (x_sA S22 (l0 + 2) (Int32.toNatClampNeg l2) 0)).bind (fun S25 => (if ¬ (l2 < 0 ∨ 16 ≤ (l2).toNatClampNeg) then ((some (x_sA S25 (l0 + 3) (Int32.toNatClampNeg l2) (-1))).bind (fun S28 => (if ¬ (l2 < 0 ∨ 16 ≤ (l2).toNatClampNeg) then ((some (x_sA S28 (l0 + 4) (Int32.toNatClampNeg l2) (-1))).bind (fun S31 => F 17 l1 (l2 + 1) S31)) else none))) else none))) else none))) else none)))
def G18f (l0 : Nat) : Nat → Nat → Int32 → Int32 → xS → Option (Unit × xS)
  | 0, _, _, _, _ => none
  | n + 1, c, l1, l2, S => if c = 0 then G18b0 l0 (G18f l0 n) n l1 l2 S else G18b17 l0 (G18f l0 n) n l1 l2 S
theorem G18e0 (l0 : Nat) (n : Nat) (l1 : Int32) (l2 : Int32) (S : xS) : G18f l0 (n + 1) 0 l1 l2 S = G18b0 l0 (G18f l0 n) n l1 l2 S := if_pos rfl
theorem G18e17 (l0 : Nat) (n : Nat) (l1 : Int32) (l2 : Int32) (S : xS) : G18f l0 (n + 1) 17 l1 l2 S = G18b17 l0 (G18f l0 n) n l1 l2 S := if_neg (by decide)
def G18 (l0 : Nat) (n : Nat) (l1 : Int32) (S : xS) : Option (Unit × xS) := G18f l0 n 0 l1 0 S
set_option maxRecDepth 20000 in
set_option maxHeartbeats 4000000 in
theorem G18l {xs : Nat → Int32} {L9 d : Nat} {G : gS} {h : Nat → va_E} {l0 : Nat} {Q : Option Value → AmH → Prop} {r0 : Unit} {S0 : xS} (h0 : bB G l0 = true) (hQ : Q none (xst S0 G h)) : ∀ n : Nat, (∀ (l1 : Int32) (l2 : Int32) (S : xS), G18f l0 n 0 l1 l2 S = some (r0, S0) → Go (am_X xs L9) (d + 0) 18 0 [.ref l0, .int l1, .float 0] [] (xst S G h) Q) ∧ (∀ (l1 : Int32) (l2 : Int32) (S : xS), G18f l0 n 17 l1 l2 S = some (r0, S0) → Go (am_X xs L9) (d + 0) 18 17 [.ref l0, .int l1, .int l2] [] (xst S G h) Q) := by
  intro n
  induction n with
  | zero => exact ⟨fun l1 l2 S hf => (by cases hf), fun l1 l2 S hf => (by cases hf)⟩
  | succ n ih =>
    refine ⟨?_, ?_⟩
    · intro l1 l2 S hf
      rw [G18e0] at hf
      unfold G18b0 at hf
      refine r_aload_n fe_18_0 rfl ?_
      refine r_iload_n fe_18_1 rfl ?_
      refine r_putf fe_18_2 lf_0_9 (x_h (bk0 h0) (by decide)) (x_lt (bk0 h0) (by decide)) (x_k6 (bk0 h0) (by decide)) (Nat.le_of_ble_eq_true rfl) rfl rfl (Or.inl rfl) ?_
      obtain ⟨S1, e2, hf⟩ := dbnd hf
      refine go_heap (h2 := xst S1 G h) ((x_uI (j := 0) (x := l1) (bk0 h0) (by decide)).trans (by rw [e2])) ?_
      refine r_aload_n fe_18_5 rfl ?_
      refine r_iconst (v := 0) fe_18_6 (by decide) ?_
      refine r_putf fe_18_7 lf_0_15 (x_h (bk0 h0) (by decide)) (x_lt (bk0 h0) (by decide)) (x_k6 (bk0 h0) (by decide)) (Nat.le_of_ble_eq_true rfl) rfl rfl (Or.inl rfl) ?_
      obtain ⟨S3, e4, hf⟩ := dbnd hf
      refine go_heap (h2 := xst S3 G h) ((x_uI (j := 1) (x := 0) (bk0 h0) (by decide)).trans (by rw [e4])) ?_
      refine r_aload_n fe_18_10 rfl ?_
      refine r_iconst (v := 0) fe_18_11 (by decide) ?_
      refine r_putf fe_18_12 lf_0_18 (x_h (bk0 h0) (by decide)) (x_lt (bk0 h0) (by decide)) (x_k6 (bk0 h0) (by decide)) (Nat.le_of_ble_eq_true rfl) rfl rfl (Or.inl rfl) ?_
      obtain ⟨S5, e6, hf⟩ := dbnd hf
      refine go_heap (h2 := xst S5 G h) ((x_uI (j := 2) (x := 0) (bk0 h0) (by decide)).trans (by rw [e6])) ?_
      refine r_iconst (v := 0) fe_18_15 (by decide) ?_
      refine r_istore_n fe_18_16 (Nat.le_of_ble_eq_true rfl) rfl ?_
      refine go_weak (L0 := [.ref l0, .int l1, .int 0]) (lwk_c (Or.inl rfl) (lwk_c (Or.inl rfl) (lwk_c (Or.inl rfl) (lwk_rf [])))) ?_
      exact ih.2 l1 0 S5 hf
    · intro l1 l2 S hf
      rw [G18e17] at hf
      unfold G18b17 at hf
      refine r_iload_n fe_18_17 rfl ?_
      refine r_bipush (v := 16) fe_18_18 (by decide) ?_
      by_cases hb7 : am_ic .ge l2 16 = true
      · rw [if_pos hb7] at hf
        refine r_ic_t (t := 70) fe_18_20 (by decide) hb7 ?_
        refine r_vret fe_18_70 ?_
        exact dfin (P := fun _ T => Q none (xst T G h)) hf hQ
      · rw [if_neg hb7] at hf
        refine r_ic_f (t := 70) fe_18_20 (by decide) (Bool.eq_false_iff.mpr hb7) ?_
        refine r_aload_n fe_18_23 rfl ?_
        refine r_getf (v := .ref (l0 + 1)) fe_18_24 lf_0_21 (x_c (bk0 h0) (by decide)) (x_lt (bk0 h0) (by decide)) rfl ?_
        refine r_iload_n fe_18_27 rfl ?_
        refine r_iload_n fe_18_28 rfl ?_
        refine r_iconst (v := 1) fe_18_29 (by decide) ?_
        refine r_iadd (v := (l2 + 1)) fe_18_30 rfl ?_
        refine r_iload_n fe_18_31 rfl ?_
        by_cases hb8 : am_ic .ge (l2 + 1) l1 = true
        · rw [if_pos hb8] at hf
          refine r_ic_t (t := 41) fe_18_32 (by decide) hb8 ?_
          refine r_iconst (v := -1) fe_18_41 (by decide) ?_
          by_cases hg9 : ¬ (l2 < 0 ∨ 16 ≤ (l2).toNatClampNeg)
          rotate_left
          · rw [if_neg hg9] at hf; cases hf
          rw [if_pos hg9] at hf
          refine r_iast (j := (Int32.toNatClampNeg l2)) fe_18_42 (x_h (bk1 h0) (by decide)) (x_lt (bk1 h0) (by decide)) (x_k6 (bk1 h0) (by decide)) (fun z => hg9 (Or.inl z)) rfl (fun z => hg9 (Or.inr z)) ?_
          obtain ⟨S10, e11, hf⟩ := dbnd hf
          refine go_heap (h2 := xst S10 G h) ((x_uA (bk1 h0)).trans (by rw [e11])) ?_
          refine r_aload_n fe_18_43 rfl ?_
          refine r_getf (v := .ref (l0 + 2)) fe_18_44 lf_0_25 (x_c (bk0 h0) (by decide)) (x_lt (bk0 h0) (by decide)) rfl ?_
          refine r_iload_n fe_18_47 rfl ?_
          refine r_iconst (v := 0) fe_18_48 (by decide) ?_
          by_cases hg12 : ¬ (l2 < 0 ∨ 16 ≤ (l2).toNatClampNeg)
          rotate_left
          · rw [if_neg hg12] at hf; cases hf
          rw [if_pos hg12] at hf
          refine r_iast (j := (Int32.toNatClampNeg l2)) fe_18_49 (x_h (bk2 h0) (by decide)) (x_lt (bk2 h0) (by decide)) (x_k6 (bk2 h0) (by decide)) (fun z => hg12 (Or.inl z)) rfl (fun z => hg12 (Or.inr z)) ?_
          obtain ⟨S13, e14, hf⟩ := dbnd hf
          refine go_heap (h2 := xst S13 G h) ((x_uA (bk2 h0)).trans (by rw [e14])) ?_
          refine r_aload_n fe_18_50 rfl ?_
          refine r_getf (v := .ref (l0 + 3)) fe_18_51 lf_0_28 (x_c (bk0 h0) (by decide)) (x_lt (bk0 h0) (by decide)) rfl ?_
          refine r_iload_n fe_18_54 rfl ?_
          refine r_iconst (v := -1) fe_18_55 (by decide) ?_
          by_cases hg15 : ¬ (l2 < 0 ∨ 16 ≤ (l2).toNatClampNeg)
          rotate_left
          · rw [if_neg hg15] at hf; cases hf
          rw [if_pos hg15] at hf
          refine r_iast (j := (Int32.toNatClampNeg l2)) fe_18_56 (x_h (bk3 h0) (by decide)) (x_lt (bk3 h0) (by decide)) (x_k6 (bk3 h0) (by decide)) (fun z => hg15 (Or.inl z)) rfl (fun z => hg15 (Or.inr z)) ?_
          obtain ⟨S16, e17, hf⟩ := dbnd hf
          refine go_heap (h2 := xst S16 G h) ((x_uA (bk3 h0)).trans (by rw [e17])) ?_
          refine r_aload_n fe_18_57 rfl ?_
          refine r_getf (v := .ref (l0 + 4)) fe_18_58 lf_0_31 (x_c (bk0 h0) (by decide)) (x_lt (bk0 h0) (by decide)) rfl ?_
          refine r_iload_n fe_18_61 rfl ?_
          refine r_iconst (v := -1) fe_18_62 (by decide) ?_
          by_cases hg18 : ¬ (l2 < 0 ∨ 16 ≤ (l2).toNatClampNeg)
          rotate_left
          · rw [if_neg hg18] at hf; cases hf
          rw [if_pos hg18] at hf
          refine r_iast (j := (Int32.toNatClampNeg l2)) fe_18_63 (x_h (bk4 h0) (by decide)) (x_lt (bk4 h0) (by decide)) (x_k6 (bk4 h0) (by decide)) (fun z => hg18 (Or.inl z)) rfl (fun z => hg18 (Or.inr z)) ?_
          obtain ⟨S19, e20, hf⟩ := dbnd hf
          refine go_heap (h2 := xst S19 G h) ((x_uA (bk4 h0)).trans (by rw [e20])) ?_
          refine r_iinc (v := (l2 + 1)) fe_18_64 rfl rfl rfl ?_
          refine r_goto (t := 17) fe_18_67 (by decide) ?_
          refine go_weak (L0 := [.ref l0, .int l1, .int (l2 + 1)]) (lwk_c (Or.inl rfl) (lwk_c (Or.inl rfl) (lwk_c (Or.inl rfl) (lwk_rf [])))) ?_
          exact ih.2 l1 (l2 + 1) S19 hf
        · rw [if_neg hb8] at hf
          refine r_ic_f (t := 41) fe_18_32 (by decide) (Bool.eq_false_iff.mpr hb8) ?_
          refine r_iload_n fe_18_35 rfl ?_
          refine r_iconst (v := 1) fe_18_36 (by decide) ?_
          refine r_iadd (v := (l2 + 1)) fe_18_37 rfl ?_
          refine r_goto (t := 42) fe_18_38 (by decide) ?_
          by_cases hg21 : ¬ (l2 < 0 ∨ 16 ≤ (l2).toNatClampNeg)
          rotate_left
          · rw [if_neg hg21] at hf; cases hf
          rw [if_pos hg21] at hf
          refine r_iast (j := (Int32.toNatClampNeg l2)) fe_18_42 (x_h (bk1 h0) (by decide)) (x_lt (bk1 h0) (by decide)) (x_k6 (bk1 h0) (by decide)) (fun z => hg21 (Or.inl z)) rfl (fun z => hg21 (Or.inr z)) ?_
          obtain ⟨S22, e23, hf⟩ := dbnd hf
          refine go_heap (h2 := xst S22 G h) ((x_uA (bk1 h0)).trans (by rw [e23])) ?_
          refine r_aload_n fe_18_43 rfl ?_
          refine r_getf (v := .ref (l0 + 2)) fe_18_44 lf_0_25 (x_c (bk0 h0) (by decide)) (x_lt (bk0 h0) (by decide)) rfl ?_
          refine r_iload_n fe_18_47 rfl ?_
          refine r_iconst (v := 0) fe_18_48 (by decide) ?_
          by_cases hg24 : ¬ (l2 < 0 ∨ 16 ≤ (l2).toNatClampNeg)
          rotate_left
          · rw [if_neg hg24] at hf; cases hf
          rw [if_pos hg24] at hf
          refine r_iast (j := (Int32.toNatClampNeg l2)) fe_18_49 (x_h (bk2 h0) (by decide)) (x_lt (bk2 h0) (by decide)) (x_k6 (bk2 h0) (by decide)) (fun z => hg24 (Or.inl z)) rfl (fun z => hg24 (Or.inr z)) ?_
          obtain ⟨S25, e26, hf⟩ := dbnd hf
          refine go_heap (h2 := xst S25 G h) ((x_uA (bk2 h0)).trans (by rw [e26])) ?_
          refine r_aload_n fe_18_50 rfl ?_
          refine r_getf (v := .ref (l0 + 3)) fe_18_51 lf_0_28 (x_c (bk0 h0) (by decide)) (x_lt (bk0 h0) (by decide)) rfl ?_
          refine r_iload_n fe_18_54 rfl ?_
          refine r_iconst (v := -1) fe_18_55 (by decide) ?_
          by_cases hg27 : ¬ (l2 < 0 ∨ 16 ≤ (l2).toNatClampNeg)
          rotate_left
          · rw [if_neg hg27] at hf; cases hf
          rw [if_pos hg27] at hf
          refine r_iast (j := (Int32.toNatClampNeg l2)) fe_18_56 (x_h (bk3 h0) (by decide)) (x_lt (bk3 h0) (by decide)) (x_k6 (bk3 h0) (by decide)) (fun z => hg27 (Or.inl z)) rfl (fun z => hg27 (Or.inr z)) ?_
          obtain ⟨S28, e29, hf⟩ := dbnd hf
          refine go_heap (h2 := xst S28 G h) ((x_uA (bk3 h0)).trans (by rw [e29])) ?_
          refine r_aload_n fe_18_57 rfl ?_
          refine r_getf (v := .ref (l0 + 4)) fe_18_58 lf_0_31 (x_c (bk0 h0) (by decide)) (x_lt (bk0 h0) (by decide)) rfl ?_
          refine r_iload_n fe_18_61 rfl ?_
          refine r_iconst (v := -1) fe_18_62 (by decide) ?_
          by_cases hg30 : ¬ (l2 < 0 ∨ 16 ≤ (l2).toNatClampNeg)
          rotate_left
          · rw [if_neg hg30] at hf; cases hf
          rw [if_pos hg30] at hf
          refine r_iast (j := (Int32.toNatClampNeg l2)) fe_18_63 (x_h (bk4 h0) (by decide)) (x_lt (bk4 h0) (by decide)) (x_k6 (bk4 h0) (by decide)) (fun z => hg30 (Or.inl z)) rfl (fun z => hg30 (Or.inr z)) ?_
          obtain ⟨S31, e32, hf⟩ := dbnd hf
          refine go_heap (h2 := xst S31 G h) ((x_uA (bk4 h0)).trans (by rw [e32])) ?_
          refine r_iinc (v := (l2 + 1)) fe_18_64 rfl rfl rfl ?_
          refine r_goto (t := 17) fe_18_67 (by decide) ?_
          refine go_weak (L0 := [.ref l0, .int l1, .int (l2 + 1)]) (lwk_c (Or.inl rfl) (lwk_c (Or.inl rfl) (lwk_c (Or.inl rfl) (lwk_rf [])))) ?_
          exact ih.2 l1 (l2 + 1) S31 hf
theorem G18c {xs : Nat → Int32} {L9 d : Nat} {G : gS} {h : Nat → va_E} {l0 : Nat} {n : Nat} {Q : Option Value → AmH → Prop} {r0 : Unit} {S0 S : xS} {l1 : Int32} (h0 : bB G l0 = true) (hf : G18 l0 n l1 S = some (r0, S0)) (hQ : Q none (xst S0 G h)) : Ca (am_X xs L9) (d + 0) 18 [.ref l0, .int l1] (xst S G h) Q := (G18l h0 hQ n).1 l1 0 S hf
def G20b0 (l0 : Nat) (n0 : Nat) (F : Nat → Int32 → Int32 → Int32 → xS → Option (Unit × xS)) (n : Nat) (l1 : Int32) (l2 : Int32) (l3 : Int32) (S : xS) : Option (Unit × xS) := F 5 l1 0 (Int32.ofNat n0) S
def G20b5 (l0 : Nat) (n0 : Nat) (F : Nat → Int32 → Int32 → Int32 → xS → Option (Unit × xS)) (n : Nat) (l1 : Int32) (l2 : Int32) (l3 : Int32) (S : xS) : Option (Unit × xS) := (if am_ic .ge l2 l3 = true then some ((), S) else (if ¬ (l2 < 0 ∨ n0 ≤ (l2).toNatClampNeg) then ((some (x_sA S l0 (Int32.toNatClampNeg l2) l1)).bind (fun S3 => F 5 l1 (l2 + 1) l3 S3)) else none))
def G20f (l0 : Nat) (n0 : Nat) : Nat → Nat → Int32 → Int32 → Int32 → xS → Option (Unit × xS)
  | 0, _, _, _, _, _ => none
  | n + 1, c, l1, l2, l3, S => if c = 0 then G20b0 l0 n0 (G20f l0 n0 n) n l1 l2 l3 S else G20b5 l0 n0 (G20f l0 n0 n) n l1 l2 l3 S
theorem G20e0 (l0 : Nat) (n0 : Nat) (n : Nat) (l1 : Int32) (l2 : Int32) (l3 : Int32) (S : xS) : G20f l0 n0 (n + 1) 0 l1 l2 l3 S = G20b0 l0 n0 (G20f l0 n0 n) n l1 l2 l3 S := if_pos rfl
theorem G20e5 (l0 : Nat) (n0 : Nat) (n : Nat) (l1 : Int32) (l2 : Int32) (l3 : Int32) (S : xS) : G20f l0 n0 (n + 1) 5 l1 l2 l3 S = G20b5 l0 n0 (G20f l0 n0 n) n l1 l2 l3 S := if_neg (by decide)
def G20 (l0 : Nat) (n0 : Nat) (n : Nat) (l1 : Int32) (S : xS) : Option (Unit × xS) := G20f l0 n0 n 0 l1 0 0 S
set_option maxRecDepth 20000 in
set_option maxHeartbeats 4000000 in
theorem G20l {xs : Nat → Int32} {L9 d : Nat} {G : gS} {h : Nat → va_E} {l0 : Nat} {n0 : Nat} {Q : Option Value → AmH → Prop} {r0 : Unit} {S0 : xS} (h0 : x_kd G l0 = (1, n0)) (hQ : Q none (xst S0 G h)) : ∀ n : Nat, (∀ (l1 : Int32) (l2 : Int32) (l3 : Int32) (S : xS), G20f l0 n0 n 0 l1 l2 l3 S = some (r0, S0) → Go (am_X xs L9) (d + 0) 20 0 [.ref l0, .int l1, .float 0, .float 0] [] (xst S G h) Q) ∧ (∀ (l1 : Int32) (l2 : Int32) (l3 : Int32) (S : xS), G20f l0 n0 n 5 l1 l2 l3 S = some (r0, S0) → Go (am_X xs L9) (d + 0) 20 5 [.ref l0, .int l1, .int l2, .int l3] [] (xst S G h) Q) := by
  intro n
  induction n with
  | zero => exact ⟨fun l1 l2 l3 S hf => (by cases hf), fun l1 l2 l3 S hf => (by cases hf)⟩
  | succ n ih =>
    refine ⟨?_, ?_⟩
    · intro l1 l2 l3 S hf
      rw [G20e0] at hf
      unfold G20b0 at hf
      refine r_iconst (v := 0) fe_20_0 (by decide) ?_
      refine r_istore_n fe_20_1 (Nat.le_of_ble_eq_true rfl) rfl ?_
      refine r_aload_n fe_20_2 rfl ?_
      refine r_alen (v := (Int32.ofNat n0)) fe_20_3 (x_c h0 (Nat.succ_ne_zero _)) (x_lt h0 (Nat.succ_ne_zero _)) (by decide) rfl ?_
      refine r_istore_n fe_20_4 (Nat.le_of_ble_eq_true rfl) rfl ?_
      refine go_weak (L0 := [.ref l0, .int l1, .int 0, .int (Int32.ofNat n0)]) (lwk_c (Or.inl rfl) (lwk_c (Or.inl rfl) (lwk_c (Or.inl rfl) (lwk_c (Or.inl rfl) (lwk_rf []))))) ?_
      exact ih.2 l1 0 (Int32.ofNat n0) S hf
    · intro l1 l2 l3 S hf
      rw [G20e5] at hf
      unfold G20b5 at hf
      refine r_iload_n fe_20_5 rfl ?_
      refine r_iload_n fe_20_6 rfl ?_
      by_cases hb1 : am_ic .ge l2 l3 = true
      · rw [if_pos hb1] at hf
        refine r_ic_t (t := 20) fe_20_7 (by decide) hb1 ?_
        refine r_vret fe_20_20 ?_
        exact dfin (P := fun _ T => Q none (xst T G h)) hf hQ
      · rw [if_neg hb1] at hf
        refine r_ic_f (t := 20) fe_20_7 (by decide) (Bool.eq_false_iff.mpr hb1) ?_
        refine r_aload_n fe_20_10 rfl ?_
        refine r_iload_n fe_20_11 rfl ?_
        refine r_iload_n fe_20_12 rfl ?_
        by_cases hg2 : ¬ (l2 < 0 ∨ n0 ≤ (l2).toNatClampNeg)
        rotate_left
        · rw [if_neg hg2] at hf; cases hf
        rw [if_pos hg2] at hf
        refine r_iast (j := (Int32.toNatClampNeg l2)) fe_20_13 (x_h h0 (Nat.succ_ne_zero _)) (x_lt h0 (Nat.succ_ne_zero _)) (x_k6 h0 (Nat.succ_ne_zero _)) (fun z => hg2 (Or.inl z)) rfl (fun z => hg2 (Or.inr z)) ?_
        obtain ⟨S3, e4, hf⟩ := dbnd hf
        refine go_heap (h2 := xst S3 G h) ((x_uA h0).trans (by rw [e4])) ?_
        refine r_iinc (v := (l2 + 1)) fe_20_14 rfl rfl rfl ?_
        refine r_goto (t := 5) fe_20_17 (by decide) ?_
        refine go_weak (L0 := [.ref l0, .int l1, .int (l2 + 1), .int l3]) (lwk_c (Or.inl rfl) (lwk_c (Or.inl rfl) (lwk_c (Or.inl rfl) (lwk_c (Or.inl rfl) (lwk_rf []))))) ?_
        exact ih.2 l1 (l2 + 1) l3 S3 hf
theorem G20c {xs : Nat → Int32} {L9 d : Nat} {G : gS} {h : Nat → va_E} {l0 : Nat} {n0 : Nat} {n : Nat} {Q : Option Value → AmH → Prop} {r0 : Unit} {S0 S : xS} {l1 : Int32} (h0 : x_kd G l0 = (1, n0)) (hf : G20 l0 n0 n l1 S = some (r0, S0)) (hQ : Q none (xst S0 G h)) : Ca (am_X xs L9) (d + 0) 20 [.ref l0, .int l1] (xst S G h) Q := (G20l h0 hQ n).1 l1 0 0 S hf
def G19b0 (l0 : Nat) (F : Nat → xS → Option (Unit × xS)) (n : Nat)  (S : xS) : Option (Unit × xS) := ((some (x_sI S l0 0 0)).bind (fun S1 => ((some (x_sI S1 l0 1 0)).bind (fun S3 => ((some (x_sI S3 l0 2 0)).bind (fun S5 => ((G20 (l0 + 9) 16 n 0 S5).bind (fun z7 => ((G20 (l0 + 10) 6 n 0 z7.2).bind (fun z9 => some ((), z9.2)))))))))))
def G19f (l0 : Nat) : Nat → Nat → xS → Option (Unit × xS)
  | 0, _, _ => none
  | n + 1, c, S => G19b0 l0 (G19f l0 n) n  S
theorem G19e0 (l0 : Nat) (n : Nat)  (S : xS) : G19f l0 (n + 1) 0  S = G19b0 l0 (G19f l0 n) n  S := rfl
def G19 (l0 : Nat) (n : Nat)  (S : xS) : Option (Unit × xS) := G19f l0 n 0  S
set_option maxRecDepth 20000 in
set_option maxHeartbeats 4000000 in
theorem G19l {xs : Nat → Int32} {L9 d : Nat} {G : gS} {h : Nat → va_E} {l0 : Nat} {Q : Option Value → AmH → Prop} {r0 : Unit} {S0 : xS} (h0 : wB G l0 = true) (hQ : Q none (xst S0 G h)) : ∀ n : Nat, (∀ (S : xS), G19f l0 n 0  S = some (r0, S0) → Go (am_X xs L9) (d + 1) 19 0 [.ref l0] [] (xst S G h) Q) := by
  intro n
  induction n with
  | zero => exact fun  S hf => (by cases hf)
  | succ n ih =>
    intro  S hf
    rw [G19e0] at hf
    unfold G19b0 at hf
    refine r_aload_n fe_19_0 rfl ?_
    refine r_iconst (v := 0) fe_19_1 (by decide) ?_
    refine r_putf fe_19_2 lf_9_9 (x_h (wk0 h0) (by decide)) (x_lt (wk0 h0) (by decide)) (x_k6 (wk0 h0) (by decide)) (Nat.le_of_ble_eq_true rfl) rfl rfl (Or.inl rfl) ?_
    obtain ⟨S1, e2, hf⟩ := dbnd hf
    refine go_heap (h2 := xst S1 G h) ((x_uI (j := 0) (x := 0) (wk0 h0) (by decide)).trans (by rw [e2])) ?_
    refine r_aload_n fe_19_5 rfl ?_
    refine r_iconst (v := 0) fe_19_6 (by decide) ?_
    refine r_putf fe_19_7 lf_9_15 (x_h (wk0 h0) (by decide)) (x_lt (wk0 h0) (by decide)) (x_k6 (wk0 h0) (by decide)) (Nat.le_of_ble_eq_true rfl) rfl rfl (Or.inl rfl) ?_
    obtain ⟨S3, e4, hf⟩ := dbnd hf
    refine go_heap (h2 := xst S3 G h) ((x_uI (j := 1) (x := 0) (wk0 h0) (by decide)).trans (by rw [e4])) ?_
    refine r_aload_n fe_19_10 rfl ?_
    refine r_iconst (v := 0) fe_19_11 (by decide) ?_
    refine r_putf fe_19_12 lf_9_18 (x_h (wk0 h0) (by decide)) (x_lt (wk0 h0) (by decide)) (x_k6 (wk0 h0) (by decide)) (Nat.le_of_ble_eq_true rfl) rfl rfl (Or.inl rfl) ?_
    obtain ⟨S5, e6, hf⟩ := dbnd hf
    refine go_heap (h2 := xst S5 G h) ((x_uI (j := 2) (x := 0) (wk0 h0) (by decide)).trans (by rw [e6])) ?_
    refine r_aload_n fe_19_15 rfl ?_
    refine r_getf (v := .ref (l0 + 9)) fe_19_16 lf_9_46 (x_c (wk0 h0) (by decide)) (x_lt (wk0 h0) (by decide)) rfl ?_
    refine r_iconst (v := 0) fe_19_19 (by decide) ?_
    refine r_callS (as := [.ref (l0 + 9), .int 0]) (r := []) fe_19_20 lm_9_52 md_20 rfl rfl (Nat.le_of_ble_eq_true rfl) (Nat.le_of_ble_eq_true rfl) (Nat.le_of_ble_eq_true rfl) ?_
    cases hc8 : G20 (l0 + 9) 16 n 0 S5 with
    | none => rw [hc8] at hf; cases hf
    | some z7 =>
      rw [hc8, Option.bind_some] at hf
      refine G20c (r0 := z7.1) (S0 := z7.2) (h0 := (wk9 h0)) (hf := hc8) ?_
      refine r_aload_n fe_19_23 rfl ?_
      refine r_getf (v := .ref (l0 + 10)) fe_19_24 lf_9_49 (x_c (wk0 h0) (by decide)) (x_lt (wk0 h0) (by decide)) rfl ?_
      refine r_iconst (v := 0) fe_19_27 (by decide) ?_
      refine r_callS (as := [.ref (l0 + 10), .int 0]) (r := []) fe_19_28 lm_9_52 md_20 rfl rfl (Nat.le_of_ble_eq_true rfl) (Nat.le_of_ble_eq_true rfl) (Nat.le_of_ble_eq_true rfl) ?_
      cases hc10 : G20 (l0 + 10) 6 n 0 z7.2 with
      | none => rw [hc10] at hf; cases hf
      | some z9 =>
        rw [hc10, Option.bind_some] at hf
        refine G20c (r0 := z9.1) (S0 := z9.2) (h0 := (wk10 h0)) (hf := hc10) ?_
        refine r_vret fe_19_31 ?_
        exact dfin (P := fun _ T => Q none (xst T G h)) hf hQ
theorem G19c {xs : Nat → Int32} {L9 d : Nat} {G : gS} {h : Nat → va_E} {l0 : Nat} {n : Nat} {Q : Option Value → AmH → Prop} {r0 : Unit} {S0 S : xS}  (h0 : wB G l0 = true) (hf : G19 l0 n  S = some (r0, S0)) (hQ : Q none (xst S0 G h)) : Ca (am_X xs L9) (d + 1) 19 [.ref l0] (xst S G h) Q := (G19l h0 hQ n)  S hf
def G36b0 (F : Nat → Int32 → Int32 → xS → Option (Int32 × xS)) (n : Nat) (l1 : Int32) (l2 : Int32) (S : xS) : Option (Int32 × xS) := (if am_if .ne (S.1 65 4) = true then some (0, S) else some (0, (x_sI S 65 4 ((1 + (8 * l1)) + l2))))
def G36f : Nat → Nat → Int32 → Int32 → xS → Option (Int32 × xS)
  | 0, _, _, _, _ => none
  | n + 1, c, l1, l2, S => G36b0 (G36f n) n l1 l2 S
theorem G36e0 (n : Nat) (l1 : Int32) (l2 : Int32) (S : xS) : G36f (n + 1) 0 l1 l2 S = G36b0 (G36f n) n l1 l2 S := rfl
def G36 (n : Nat) (l1 : Int32) (l2 : Int32) (S : xS) : Option (Int32 × xS) := G36f n 0 l1 l2 S
set_option maxRecDepth 20000 in
set_option maxHeartbeats 4000000 in
theorem G36l {xs : Nat → Int32} {L9 d : Nat} {G : gS} {h : Nat → va_E} {Q : Option Value → AmH → Prop} {r0 : Int32} {S0 : xS} (hQ : Q (some (.int r0)) (xst S0 G h)) : ∀ n : Nat, (∀ (l1 : Int32) (l2 : Int32) (S : xS), G36f n 0 l1 l2 S = some (r0, S0) → Go (am_X xs L9) (d + 0) 36 0 [.ref 65, .int l1, .int l2] [] (xst S G h) Q) := by
  intro n
  induction n with
  | zero => exact fun l1 l2 S hf => (by cases hf)
  | succ n ih =>
    intro l1 l2 S hf
    rw [G36e0] at hf
    unfold G36b0 at hf
    refine r_aload_n fe_36_0 rfl ?_
    refine r_getf (v := .int (S.1 65 4)) fe_36_1 lf_8_25 (x_c xk_65 (by decide)) (x_lt xk_65 (by decide)) rfl ?_
    by_cases hb1 : am_if .ne (S.1 65 4) = true
    · rw [if_pos hb1] at hf
      refine r_if_t (t := 19) fe_36_4 (by decide) hb1 ?_
      refine r_iconst (v := 0) fe_36_19 (by decide) ?_
      refine r_iret fe_36_20 ⟨rfl, by decide⟩ ?_
      exact dfin (P := fun r T => Q (some (.int r)) (xst T G h)) hf hQ
    · rw [if_neg hb1] at hf
      refine r_if_f (t := 19) fe_36_4 (by decide) (Bool.eq_false_iff.mpr hb1) ?_
      refine r_aload_n fe_36_7 rfl ?_
      refine r_iconst (v := 1) fe_36_8 (by decide) ?_
      refine r_bipush (v := 8) fe_36_9 (by decide) ?_
      refine r_iload_n fe_36_11 rfl ?_
      refine r_imul (v := (8 * l1)) fe_36_12 rfl ?_
      refine r_iadd (v := (1 + (8 * l1))) fe_36_13 rfl ?_
      refine r_iload_n fe_36_14 rfl ?_
      refine r_iadd (v := ((1 + (8 * l1)) + l2)) fe_36_15 rfl ?_
      refine r_putf fe_36_16 lf_8_25 (x_h xk_65 (by decide)) (x_lt xk_65 (by decide)) (by decide) (Nat.le_of_ble_eq_true rfl) rfl rfl (Or.inl rfl) ?_
      refine go_heap (x_uI (j := 4) (x := ((1 + (8 * l1)) + l2)) xk_65 (by decide)) ?_
      refine r_iconst (v := 0) fe_36_19 (by decide) ?_
      refine r_iret fe_36_20 ⟨rfl, by decide⟩ ?_
      exact dfin (P := fun r T => Q (some (.int r)) (xst T G h)) hf hQ
theorem G36c {xs : Nat → Int32} {L9 d : Nat} {G : gS} {h : Nat → va_E} {n : Nat} {Q : Option Value → AmH → Prop} {r0 : Int32} {S0 S : xS} {l1 : Int32} {l2 : Int32} (hf : G36 n l1 l2 S = some (r0, S0)) (hQ : Q (some (.int r0)) (xst S0 G h)) : Ca (am_X xs L9) (d + 0) 36 [.ref 65, .int l1, .int l2] (xst S G h) Q := (G36l hQ n) l1 l2 S hf
def G23b0 (F : Nat → xS → Option (Int32 × xS)) (n : Nat)  (S : xS) : Option (Int32 × xS) := (if am_ic .ge (S.1 65 2) (S.1 65 1) = true then (if am_ic .ge (S.1 65 2) (S.1 65 1) = true then some ((-1), S) else (if ¬ ((S.1 65 2) < 0 ∨ 400 ≤ ((S.1 65 2)).toNatClampNeg) then some ((S.2.1 66 (Int32.toNatClampNeg (S.1 65 2))), S) else none)) else (if ¬ ((S.1 65 2) < 0 ∨ 400 ≤ ((S.1 65 2)).toNatClampNeg) then (if am_ic .ne (S.2.1 66 (Int32.toNatClampNeg (S.1 65 2))) 32 = true then (if am_ic .ge (S.1 65 2) (S.1 65 1) = true then some ((-1), S) else (if ¬ ((S.1 65 2) < 0 ∨ 400 ≤ ((S.1 65 2)).toNatClampNeg) then some ((S.2.1 66 (Int32.toNatClampNeg (S.1 65 2))), S) else none)) else F 0 (x_sI S 65 2 ((S.1 65 2) + 1))) else none))
def G23f : Nat → Nat → xS → Option (Int32 × xS)
  | 0, _, _ => none
  | n + 1, c, S => G23b0 (G23f n) n  S
theorem G23e0 (n : Nat)  (S : xS) : G23f (n + 1) 0  S = G23b0 (G23f n) n  S := rfl
def G23 (n : Nat)  (S : xS) : Option (Int32 × xS) := G23f n 0  S
set_option maxRecDepth 20000 in
set_option maxHeartbeats 4000000 in
theorem G23l {xs : Nat → Int32} {L9 d : Nat} {G : gS} {h : Nat → va_E} {Q : Option Value → AmH → Prop} {r0 : Int32} {S0 : xS} (hQ : Q (some (.int r0)) (xst S0 G h)) : ∀ n : Nat, (∀ (S : xS), G23f n 0  S = some (r0, S0) → Go (am_X xs L9) (d + 0) 23 0 [.ref 65] [] (xst S G h) Q) := by
  intro n
  induction n with
  | zero => exact fun  S hf => (by cases hf)
  | succ n ih =>
    intro  S hf
    rw [G23e0] at hf
    unfold G23b0 at hf
    refine r_aload_n fe_23_0 rfl ?_
    refine r_getf (v := .int (S.1 65 2)) fe_23_1 lf_8_19 (x_c xk_65 (by decide)) (x_lt xk_65 (by decide)) rfl ?_
    refine r_aload_n fe_23_4 rfl ?_
    refine r_getf (v := .int (S.1 65 1)) fe_23_5 lf_8_15 (x_c xk_65 (by decide)) (x_lt xk_65 (by decide)) rfl ?_
    by_cases hb1 : am_ic .ge (S.1 65 2) (S.1 65 1) = true
    · rw [if_pos hb1] at hf
      refine r_ic_t (t := 38) fe_23_8 (by decide) hb1 ?_
      refine r_aload_n fe_23_38 rfl ?_
      refine r_getf (v := .int (S.1 65 2)) fe_23_39 lf_8_19 (x_c xk_65 (by decide)) (x_lt xk_65 (by decide)) rfl ?_
      refine r_aload_n fe_23_42 rfl ?_
      refine r_getf (v := .int (S.1 65 1)) fe_23_43 lf_8_15 (x_c xk_65 (by decide)) (x_lt xk_65 (by decide)) rfl ?_
      by_cases hb2 : am_ic .ge (S.1 65 2) (S.1 65 1) = true
      · rw [if_pos hb2] at hf
        refine r_ic_t (t := 61) fe_23_46 (by decide) hb2 ?_
        refine r_iconst (v := -1) fe_23_61 (by decide) ?_
        refine r_iret fe_23_62 ⟨rfl, by decide⟩ ?_
        exact dfin (P := fun r T => Q (some (.int r)) (xst T G h)) hf hQ
      · rw [if_neg hb2] at hf
        refine r_ic_f (t := 61) fe_23_46 (by decide) (Bool.eq_false_iff.mpr hb2) ?_
        refine r_aload_n fe_23_49 rfl ?_
        refine r_getf (v := .ref 66) fe_23_50 lf_8_9 (x_c xk_65 (by decide)) (x_lt xk_65 (by decide)) rfl ?_
        refine r_aload_n fe_23_53 rfl ?_
        refine r_getf (v := .int (S.1 65 2)) fe_23_54 lf_8_19 (x_c xk_65 (by decide)) (x_lt xk_65 (by decide)) rfl ?_
        by_cases hg3 : ¬ ((S.1 65 2) < 0 ∨ 400 ≤ ((S.1 65 2)).toNatClampNeg)
        rotate_left
        · rw [if_neg hg3] at hf; cases hf
        rw [if_pos hg3] at hf
        refine r_iald (j := (Int32.toNatClampNeg (S.1 65 2))) (v := S.2.1 66 (Int32.toNatClampNeg (S.1 65 2))) fe_23_57 (x_c xk_66 (by decide)) (x_lt xk_66 (by decide)) (fun z => hg3 (Or.inl z)) rfl (fun z => hg3 (Or.inr z)) rfl ?_
        refine r_goto (t := 62) fe_23_58 (by decide) ?_
        refine r_iret fe_23_62 ⟨rfl, by decide⟩ ?_
        exact dfin (P := fun r T => Q (some (.int r)) (xst T G h)) hf hQ
    · rw [if_neg hb1] at hf
      refine r_ic_f (t := 38) fe_23_8 (by decide) (Bool.eq_false_iff.mpr hb1) ?_
      refine r_aload_n fe_23_11 rfl ?_
      refine r_getf (v := .ref 66) fe_23_12 lf_8_9 (x_c xk_65 (by decide)) (x_lt xk_65 (by decide)) rfl ?_
      refine r_aload_n fe_23_15 rfl ?_
      refine r_getf (v := .int (S.1 65 2)) fe_23_16 lf_8_19 (x_c xk_65 (by decide)) (x_lt xk_65 (by decide)) rfl ?_
      by_cases hg4 : ¬ ((S.1 65 2) < 0 ∨ 400 ≤ ((S.1 65 2)).toNatClampNeg)
      rotate_left
      · rw [if_neg hg4] at hf; cases hf
      rw [if_pos hg4] at hf
      refine r_iald (j := (Int32.toNatClampNeg (S.1 65 2))) (v := S.2.1 66 (Int32.toNatClampNeg (S.1 65 2))) fe_23_19 (x_c xk_66 (by decide)) (x_lt xk_66 (by decide)) (fun z => hg4 (Or.inl z)) rfl (fun z => hg4 (Or.inr z)) rfl ?_
      refine r_bipush (v := 32) fe_23_20 (by decide) ?_
      by_cases hb5 : am_ic .ne (S.2.1 66 (Int32.toNatClampNeg (S.1 65 2))) 32 = true
      · rw [if_pos hb5] at hf
        refine r_ic_t (t := 38) fe_23_22 (by decide) hb5 ?_
        refine r_aload_n fe_23_38 rfl ?_
        refine r_getf (v := .int (S.1 65 2)) fe_23_39 lf_8_19 (x_c xk_65 (by decide)) (x_lt xk_65 (by decide)) rfl ?_
        refine r_aload_n fe_23_42 rfl ?_
        refine r_getf (v := .int (S.1 65 1)) fe_23_43 lf_8_15 (x_c xk_65 (by decide)) (x_lt xk_65 (by decide)) rfl ?_
        by_cases hb6 : am_ic .ge (S.1 65 2) (S.1 65 1) = true
        · rw [if_pos hb6] at hf
          refine r_ic_t (t := 61) fe_23_46 (by decide) hb6 ?_
          refine r_iconst (v := -1) fe_23_61 (by decide) ?_
          refine r_iret fe_23_62 ⟨rfl, by decide⟩ ?_
          exact dfin (P := fun r T => Q (some (.int r)) (xst T G h)) hf hQ
        · rw [if_neg hb6] at hf
          refine r_ic_f (t := 61) fe_23_46 (by decide) (Bool.eq_false_iff.mpr hb6) ?_
          refine r_aload_n fe_23_49 rfl ?_
          refine r_getf (v := .ref 66) fe_23_50 lf_8_9 (x_c xk_65 (by decide)) (x_lt xk_65 (by decide)) rfl ?_
          refine r_aload_n fe_23_53 rfl ?_
          refine r_getf (v := .int (S.1 65 2)) fe_23_54 lf_8_19 (x_c xk_65 (by decide)) (x_lt xk_65 (by decide)) rfl ?_
          by_cases hg7 : ¬ ((S.1 65 2) < 0 ∨ 400 ≤ ((S.1 65 2)).toNatClampNeg)
          rotate_left
          · rw [if_neg hg7] at hf; cases hf
          rw [if_pos hg7] at hf
          refine r_iald (j := (Int32.toNatClampNeg (S.1 65 2))) (v := S.2.1 66 (Int32.toNatClampNeg (S.1 65 2))) fe_23_57 (x_c xk_66 (by decide)) (x_lt xk_66 (by decide)) (fun z => hg7 (Or.inl z)) rfl (fun z => hg7 (Or.inr z)) rfl ?_
          refine r_goto (t := 62) fe_23_58 (by decide) ?_
          refine r_iret fe_23_62 ⟨rfl, by decide⟩ ?_
          exact dfin (P := fun r T => Q (some (.int r)) (xst T G h)) hf hQ
      · rw [if_neg hb5] at hf
        refine r_ic_f (t := 38) fe_23_22 (by decide) (Bool.eq_false_iff.mpr hb5) ?_
        refine r_aload_n fe_23_25 rfl ?_
        refine r_dup fe_23_26 rfl ?_
        refine r_getf (v := .int (S.1 65 2)) fe_23_27 lf_8_19 (x_c xk_65 (by decide)) (x_lt xk_65 (by decide)) rfl ?_
        refine r_iconst (v := 1) fe_23_30 (by decide) ?_
        refine r_iadd (v := ((S.1 65 2) + 1)) fe_23_31 rfl ?_
        refine r_putf fe_23_32 lf_8_19 (x_h xk_65 (by decide)) (x_lt xk_65 (by decide)) (by decide) (Nat.le_of_ble_eq_true rfl) rfl rfl (Or.inl rfl) ?_
        refine go_heap (x_uI (j := 2) (x := ((S.1 65 2) + 1)) xk_65 (by decide)) ?_
        refine r_goto (t := 0) fe_23_35 (by decide) ?_
        refine go_weak (L0 := [.ref 65]) (lwk_c (Or.inl rfl) (lwk_rf [])) ?_
        exact ih  (x_sI S 65 2 ((S.1 65 2) + 1)) hf
theorem G23c {xs : Nat → Int32} {L9 d : Nat} {G : gS} {h : Nat → va_E} {n : Nat} {Q : Option Value → AmH → Prop} {r0 : Int32} {S0 S : xS}  (hf : G23 n  S = some (r0, S0)) (hQ : Q (some (.int r0)) (xst S0 G h)) : Ca (am_X xs L9) (d + 0) 23 [.ref 65] (xst S G h) Q := (G23l hQ n)  S hf
def G52b0 (F : Nat → xS → Option (Int32 × xS)) (n : Nat)  (S : xS) : Option (Int32 × xS) := ((G23 n  S).bind (fun z1 => (if am_ic .ne z1.1 59 = true then (if am_ic .eq z1.1 (-1) = true then some (0, z1.2) else ((G36 n (z1.2.1 65 2) 0 z1.2).bind (fun z5 => (if am_if .eq z5.1 = true then some (0, z5.2) else some (1, z5.2))))) else some (1, (x_sI z1.2 65 2 ((z1.2.1 65 2) + 1))))))
def G52f : Nat → Nat → xS → Option (Int32 × xS)
  | 0, _, _ => none
  | n + 1, c, S => G52b0 (G52f n) n  S
theorem G52e0 (n : Nat)  (S : xS) : G52f (n + 1) 0  S = G52b0 (G52f n) n  S := rfl
def G52 (n : Nat)  (S : xS) : Option (Int32 × xS) := G52f n 0  S
set_option maxRecDepth 20000 in
set_option maxHeartbeats 4000000 in
theorem G52l {xs : Nat → Int32} {L9 d : Nat} {G : gS} {h : Nat → va_E} {Q : Option Value → AmH → Prop} {r0 : Int32} {S0 : xS} (hQ : Q (some (.int r0)) (xst S0 G h)) : ∀ n : Nat, (∀ (S : xS), G52f n 0  S = some (r0, S0) → Go (am_X xs L9) (d + 1) 52 0 [.ref 65, .float 0] [] (xst S G h) Q) := by
  intro n
  induction n with
  | zero => exact fun  S hf => (by cases hf)
  | succ n ih =>
    intro  S hf
    rw [G52e0] at hf
    unfold G52b0 at hf
    refine r_aload_n fe_52_0 rfl ?_
    refine r_callV (as := []) (r := []) fe_52_1 lm_8_28 md_23 rfl rfl (Nat.le_of_ble_eq_true rfl) (x_c xk_65 (by decide)) (x_lt xk_65 (by decide)) (Nat.le_of_ble_eq_true rfl) (Nat.le_of_ble_eq_true rfl) ?_
    cases hc2 : G23 n  S with
    | none => rw [hc2] at hf; cases hf
    | some z1 =>
      rw [hc2, Option.bind_some] at hf
      refine G23c (r0 := z1.1) (S0 := z1.2)  (hf := hc2) ?_
      refine r_istore_n fe_52_4 (Nat.le_of_ble_eq_true rfl) rfl ?_
      refine r_iload_n fe_52_5 rfl ?_
      refine r_bipush (v := 59) fe_52_6 (by decide) ?_
      by_cases hb3 : am_ic .ne z1.1 59 = true
      · rw [if_pos hb3] at hf
        refine r_ic_t (t := 23) fe_52_8 (by decide) hb3 ?_
        refine r_iload_n fe_52_23 rfl ?_
        refine r_iconst (v := -1) fe_52_24 (by decide) ?_
        by_cases hb4 : am_ic .eq z1.1 (-1) = true
        · rw [if_pos hb4] at hf
          refine r_ic_t (t := 44) fe_52_25 (by decide) hb4 ?_
          refine r_iconst (v := 0) fe_52_44 (by decide) ?_
          refine r_iret fe_52_45 ⟨rfl, by decide⟩ ?_
          exact dfin (P := fun r T => Q (some (.int r)) (xst T G h)) hf hQ
        · rw [if_neg hb4] at hf
          refine r_ic_f (t := 44) fe_52_25 (by decide) (Bool.eq_false_iff.mpr hb4) ?_
          refine r_aload_n fe_52_28 rfl ?_
          refine r_aload_n fe_52_29 rfl ?_
          refine r_getf (v := .int (z1.2.1 65 2)) fe_52_30 lf_8_19 (x_c xk_65 (by decide)) (x_lt xk_65 (by decide)) rfl ?_
          refine r_iconst (v := 0) fe_52_33 (by decide) ?_
          refine r_callV (as := [.int (z1.2.1 65 2), .int 0]) (r := []) fe_52_34 lm_8_32 md_36 rfl rfl (Nat.le_of_ble_eq_true rfl) (x_c xk_65 (by decide)) (x_lt xk_65 (by decide)) (Nat.le_of_ble_eq_true rfl) (Nat.le_of_ble_eq_true rfl) ?_
          cases hc6 : G36 n (z1.2.1 65 2) 0 z1.2 with
          | none => rw [hc6] at hf; cases hf
          | some z5 =>
            rw [hc6, Option.bind_some] at hf
            refine G36c (r0 := z5.1) (S0 := z5.2)  (hf := hc6) ?_
            by_cases hb7 : am_if .eq z5.1 = true
            · rw [if_pos hb7] at hf
              refine r_if_t (t := 44) fe_52_37 (by decide) hb7 ?_
              refine r_iconst (v := 0) fe_52_44 (by decide) ?_
              refine r_iret fe_52_45 ⟨rfl, by decide⟩ ?_
              exact dfin (P := fun r T => Q (some (.int r)) (xst T G h)) hf hQ
            · rw [if_neg hb7] at hf
              refine r_if_f (t := 44) fe_52_37 (by decide) (Bool.eq_false_iff.mpr hb7) ?_
              refine r_iconst (v := 1) fe_52_40 (by decide) ?_
              refine r_goto (t := 45) fe_52_41 (by decide) ?_
              refine r_iret fe_52_45 ⟨rfl, by decide⟩ ?_
              exact dfin (P := fun r T => Q (some (.int r)) (xst T G h)) hf hQ
      · rw [if_neg hb3] at hf
        refine r_ic_f (t := 23) fe_52_8 (by decide) (Bool.eq_false_iff.mpr hb3) ?_
        refine r_aload_n fe_52_11 rfl ?_
        refine r_dup fe_52_12 rfl ?_
        refine r_getf (v := .int (z1.2.1 65 2)) fe_52_13 lf_8_19 (x_c xk_65 (by decide)) (x_lt xk_65 (by decide)) rfl ?_
        refine r_iconst (v := 1) fe_52_16 (by decide) ?_
        refine r_iadd (v := ((z1.2.1 65 2) + 1)) fe_52_17 rfl ?_
        refine r_putf fe_52_18 lf_8_19 (x_h xk_65 (by decide)) (x_lt xk_65 (by decide)) (by decide) (Nat.le_of_ble_eq_true rfl) rfl rfl (Or.inl rfl) ?_
        refine go_heap (x_uI (j := 2) (x := ((z1.2.1 65 2) + 1)) xk_65 (by decide)) ?_
        refine r_iconst (v := 1) fe_52_21 (by decide) ?_
        refine r_iret fe_52_22 ⟨rfl, by decide⟩ ?_
        exact dfin (P := fun r T => Q (some (.int r)) (xst T G h)) hf hQ
theorem G52c {xs : Nat → Int32} {L9 d : Nat} {G : gS} {h : Nat → va_E} {n : Nat} {Q : Option Value → AmH → Prop} {r0 : Int32} {S0 S : xS}  (hf : G52 n  S = some (r0, S0)) (hQ : Q (some (.int r0)) (xst S0 G h)) : Ca (am_X xs L9) (d + 1) 52 [.ref 65] (xst S G h) Q := (G52l hQ n)  S hf
def G38b0 (l0 : Nat) (F : Nat → Int32 → Int32 → xS → Option (Int32 × xS)) (n : Nat) (l1 : Int32) (l2 : Int32) (S : xS) : Option (Int32 × xS) := F 4 0 0 S
def G38b4 (l0 : Nat) (F : Nat → Int32 → Int32 → xS → Option (Int32 × xS)) (n : Nat) (l1 : Int32) (l2 : Int32) (S : xS) : Option (Int32 × xS) := (if am_ic .ge l2 16 = true then some (l1, S) else (if ¬ (l2 < 0 ∨ 16 ≤ (l2).toNatClampNeg) then (if am_if .le (S.2.1 (l0 + 9) (Int32.toNatClampNeg l2)) = true then F 4 l1 (l2 + 1) S else F 4 (l1 + 1) (l2 + 1) S) else none))
def G38f (l0 : Nat) : Nat → Nat → Int32 → Int32 → xS → Option (Int32 × xS)
  | 0, _, _, _, _ => none
  | n + 1, c, l1, l2, S => if c = 0 then G38b0 l0 (G38f l0 n) n l1 l2 S else G38b4 l0 (G38f l0 n) n l1 l2 S
theorem G38e0 (l0 : Nat) (n : Nat) (l1 : Int32) (l2 : Int32) (S : xS) : G38f l0 (n + 1) 0 l1 l2 S = G38b0 l0 (G38f l0 n) n l1 l2 S := if_pos rfl
theorem G38e4 (l0 : Nat) (n : Nat) (l1 : Int32) (l2 : Int32) (S : xS) : G38f l0 (n + 1) 4 l1 l2 S = G38b4 l0 (G38f l0 n) n l1 l2 S := if_neg (by decide)
def G38 (l0 : Nat) (n : Nat)  (S : xS) : Option (Int32 × xS) := G38f l0 n 0 0 0 S
set_option maxRecDepth 20000 in
set_option maxHeartbeats 4000000 in
theorem G38l {xs : Nat → Int32} {L9 d : Nat} {G : gS} {h : Nat → va_E} {l0 : Nat} {Q : Option Value → AmH → Prop} {r0 : Int32} {S0 : xS} (h0 : wB G l0 = true) (hQ : Q (some (.int r0)) (xst S0 G h)) : ∀ n : Nat, (∀ (l1 : Int32) (l2 : Int32) (S : xS), G38f l0 n 0 l1 l2 S = some (r0, S0) → Go (am_X xs L9) (d + 0) 38 0 [.ref l0, .float 0, .float 0] [] (xst S G h) Q) ∧ (∀ (l1 : Int32) (l2 : Int32) (S : xS), G38f l0 n 4 l1 l2 S = some (r0, S0) → Go (am_X xs L9) (d + 0) 38 4 [.ref l0, .int l1, .int l2] [] (xst S G h) Q) := by
  intro n
  induction n with
  | zero => exact ⟨fun l1 l2 S hf => (by cases hf), fun l1 l2 S hf => (by cases hf)⟩
  | succ n ih =>
    refine ⟨?_, ?_⟩
    · intro l1 l2 S hf
      rw [G38e0] at hf
      unfold G38b0 at hf
      refine r_iconst (v := 0) fe_38_0 (by decide) ?_
      refine r_istore_n fe_38_1 (Nat.le_of_ble_eq_true rfl) rfl ?_
      refine r_iconst (v := 0) fe_38_2 (by decide) ?_
      refine r_istore_n fe_38_3 (Nat.le_of_ble_eq_true rfl) rfl ?_
      refine go_weak (L0 := [.ref l0, .int 0, .int 0]) (lwk_c (Or.inl rfl) (lwk_c (Or.inl rfl) (lwk_c (Or.inl rfl) (lwk_rf [])))) ?_
      exact ih.2 0 0 S hf
    · intro l1 l2 S hf
      rw [G38e4] at hf
      unfold G38b4 at hf
      refine r_iload_n fe_38_4 rfl ?_
      refine r_bipush (v := 16) fe_38_5 (by decide) ?_
      by_cases hb1 : am_ic .ge l2 16 = true
      · rw [if_pos hb1] at hf
        refine r_ic_t (t := 28) fe_38_7 (by decide) hb1 ?_
        refine r_iload_n fe_38_28 rfl ?_
        refine r_iret fe_38_29 ⟨rfl, by decide⟩ ?_
        exact dfin (P := fun r T => Q (some (.int r)) (xst T G h)) hf hQ
      · rw [if_neg hb1] at hf
        refine r_ic_f (t := 28) fe_38_7 (by decide) (Bool.eq_false_iff.mpr hb1) ?_
        refine r_aload_n fe_38_10 rfl ?_
        refine r_getf (v := .ref (l0 + 9)) fe_38_11 lf_9_46 (x_c (wk0 h0) (by decide)) (x_lt (wk0 h0) (by decide)) rfl ?_
        refine r_iload_n fe_38_14 rfl ?_
        by_cases hg2 : ¬ (l2 < 0 ∨ 16 ≤ (l2).toNatClampNeg)
        rotate_left
        · rw [if_neg hg2] at hf; cases hf
        rw [if_pos hg2] at hf
        refine r_iald (j := (Int32.toNatClampNeg l2)) (v := S.2.1 (l0 + 9) (Int32.toNatClampNeg l2)) fe_38_15 (x_c (wk9 h0) (by decide)) (x_lt (wk9 h0) (by decide)) (fun z => hg2 (Or.inl z)) rfl (fun z => hg2 (Or.inr z)) rfl ?_
        by_cases hb3 : am_if .le (S.2.1 (l0 + 9) (Int32.toNatClampNeg l2)) = true
        · rw [if_pos hb3] at hf
          refine r_if_t (t := 22) fe_38_16 (by decide) hb3 ?_
          refine r_iinc (v := (l2 + 1)) fe_38_22 rfl rfl rfl ?_
          refine r_goto (t := 4) fe_38_25 (by decide) ?_
          refine go_weak (L0 := [.ref l0, .int l1, .int (l2 + 1)]) (lwk_c (Or.inl rfl) (lwk_c (Or.inl rfl) (lwk_c (Or.inl rfl) (lwk_rf [])))) ?_
          exact ih.2 l1 (l2 + 1) S hf
        · rw [if_neg hb3] at hf
          refine r_if_f (t := 22) fe_38_16 (by decide) (Bool.eq_false_iff.mpr hb3) ?_
          refine r_iinc (v := (l1 + 1)) fe_38_19 rfl rfl rfl ?_
          refine r_iinc (v := (l2 + 1)) fe_38_22 rfl rfl rfl ?_
          refine r_goto (t := 4) fe_38_25 (by decide) ?_
          refine go_weak (L0 := [.ref l0, .int (l1 + 1), .int (l2 + 1)]) (lwk_c (Or.inl rfl) (lwk_c (Or.inl rfl) (lwk_c (Or.inl rfl) (lwk_rf [])))) ?_
          exact ih.2 (l1 + 1) (l2 + 1) S hf
theorem G38c {xs : Nat → Int32} {L9 d : Nat} {G : gS} {h : Nat → va_E} {l0 : Nat} {n : Nat} {Q : Option Value → AmH → Prop} {r0 : Int32} {S0 S : xS}  (h0 : wB G l0 = true) (hf : G38 l0 n  S = some (r0, S0)) (hQ : Q (some (.int r0)) (xst S0 G h)) : Ca (am_X xs L9) (d + 0) 38 [.ref l0] (xst S G h) Q := (G38l h0 hQ n).1 0 0 S hf
def G37b0 (F : Nat → Int32 → xS → Option (Int32 × xS)) (n : Nat) (l1 : Int32) (S : xS) : Option (Int32 × xS) := (if ((l1).toInt < 4 ∨ 7 < (l1).toInt) then some (0, S) else (if l1 = 4 then (if am_ic .lt (S.1 68 1) 6 = true then some (0, S) else some (1, S)) else (if l1 = 5 then (if am_ic .lt (S.1 68 2) 4 = true then some (0, S) else some (1, S)) else (if l1 = 6 then ((G38 74 n  S).bind (fun z7 => (if am_ic .lt z7.1 5 = true then some (0, z7.2) else some (1, z7.2)))) else (if l1 = 7 then (if am_ic .lt (S.1 74 1) 10 = true then some (0, S) else some (1, S)) else none)))))
def G37f : Nat → Nat → Int32 → xS → Option (Int32 × xS)
  | 0, _, _, _ => none
  | n + 1, c, l1, S => G37b0 (G37f n) n l1 S
theorem G37e0 (n : Nat) (l1 : Int32) (S : xS) : G37f (n + 1) 0 l1 S = G37b0 (G37f n) n l1 S := rfl
def G37 (n : Nat) (l1 : Int32) (S : xS) : Option (Int32 × xS) := G37f n 0 l1 S
set_option maxRecDepth 20000 in
set_option maxHeartbeats 4000000 in
theorem G37l {xs : Nat → Int32} {L9 d : Nat} {G : gS} {h : Nat → va_E} {Q : Option Value → AmH → Prop} {r0 : Int32} {S0 : xS} (hQ : Q (some (.int r0)) (xst S0 G h)) : ∀ n : Nat, (∀ (l1 : Int32) (S : xS), G37f n 0 l1 S = some (r0, S0) → Go (am_X xs L9) (d + 1) 37 0 [.ref 67, .int l1] [] (xst S G h) Q) := by
  intro n
  induction n with
  | zero => exact fun l1 S hf => (by cases hf)
  | succ n ih =>
    intro l1 S hf
    rw [G37e0] at hf
    unfold G37b0 at hf
    refine r_iload_n fe_37_0 rfl ?_
    by_cases hs1 : ((l1).toInt < 4 ∨ 7 < (l1).toInt)
    · rw [if_pos hs1] at hf
      refine r_tabO (t := 102) fe_37_1 hs1 (by decide) ?_
      refine r_iconst (v := 0) fe_37_102 (by decide) ?_
      refine r_iret fe_37_103 ⟨rfl, by decide⟩ ?_
      exact dfin (P := fun r T => Q (some (.int r)) (xst T G h)) hf hQ
    · rw [if_neg hs1] at hf
      by_cases hx2 : l1 = 4
      · rw [if_pos hx2] at hf
        refine r_tabI (off := 31) (t := 32) fe_37_1 hs1 (by rw [hx2]; decide) (by decide) ?_
        refine r_aload_n fe_37_32 rfl ?_
        refine r_getf (v := .ref 68) fe_37_33 lf_5_12 (x_c xk_67 (by decide)) (x_lt xk_67 (by decide)) rfl ?_
        refine r_getf (v := .int (S.1 68 1)) fe_37_36 lf_5_120 (x_c xk_68 (by decide)) (x_lt xk_68 (by decide)) rfl ?_
        refine r_bipush (v := 6) fe_37_39 (by decide) ?_
        by_cases hb3 : am_ic .lt (S.1 68 1) 6 = true
        · rw [if_pos hb3] at hf
          refine r_ic_t (t := 48) fe_37_41 (by decide) hb3 ?_
          refine r_iconst (v := 0) fe_37_48 (by decide) ?_
          refine r_iret fe_37_49 ⟨rfl, by decide⟩ ?_
          exact dfin (P := fun r T => Q (some (.int r)) (xst T G h)) hf hQ
        · rw [if_neg hb3] at hf
          refine r_ic_f (t := 48) fe_37_41 (by decide) (Bool.eq_false_iff.mpr hb3) ?_
          refine r_iconst (v := 1) fe_37_44 (by decide) ?_
          refine r_goto (t := 49) fe_37_45 (by decide) ?_
          refine r_iret fe_37_49 ⟨rfl, by decide⟩ ?_
          exact dfin (P := fun r T => Q (some (.int r)) (xst T G h)) hf hQ
      · rw [if_neg hx2] at hf
        by_cases hx4 : l1 = 5
        · rw [if_pos hx4] at hf
          refine r_tabI (off := 49) (t := 50) fe_37_1 hs1 (by rw [hx4]; decide) (by decide) ?_
          refine r_aload_n fe_37_50 rfl ?_
          refine r_getf (v := .ref 68) fe_37_51 lf_5_12 (x_c xk_67 (by decide)) (x_lt xk_67 (by decide)) rfl ?_
          refine r_getf (v := .int (S.1 68 2)) fe_37_54 lf_5_123 (x_c xk_68 (by decide)) (x_lt xk_68 (by decide)) rfl ?_
          refine r_iconst (v := 4) fe_37_57 (by decide) ?_
          by_cases hb5 : am_ic .lt (S.1 68 2) 4 = true
          · rw [if_pos hb5] at hf
            refine r_ic_t (t := 65) fe_37_58 (by decide) hb5 ?_
            refine r_iconst (v := 0) fe_37_65 (by decide) ?_
            refine r_iret fe_37_66 ⟨rfl, by decide⟩ ?_
            exact dfin (P := fun r T => Q (some (.int r)) (xst T G h)) hf hQ
          · rw [if_neg hb5] at hf
            refine r_ic_f (t := 65) fe_37_58 (by decide) (Bool.eq_false_iff.mpr hb5) ?_
            refine r_iconst (v := 1) fe_37_61 (by decide) ?_
            refine r_goto (t := 66) fe_37_62 (by decide) ?_
            refine r_iret fe_37_66 ⟨rfl, by decide⟩ ?_
            exact dfin (P := fun r T => Q (some (.int r)) (xst T G h)) hf hQ
        · rw [if_neg hx4] at hf
          by_cases hx6 : l1 = 6
          · rw [if_pos hx6] at hf
            refine r_tabI (off := 66) (t := 67) fe_37_1 hs1 (by rw [hx6]; decide) (by decide) ?_
            refine r_aload_n fe_37_67 rfl ?_
            refine r_getf (v := .ref 74) fe_37_68 lf_5_21 (x_c xk_67 (by decide)) (x_lt xk_67 (by decide)) rfl ?_
            refine r_callV (as := []) (r := []) fe_37_71 lm_5_126 md_38 rfl rfl (Nat.le_of_ble_eq_true rfl) (x_c xk_74 (by decide)) (x_lt xk_74 (by decide)) (Nat.le_of_ble_eq_true rfl) (Nat.le_of_ble_eq_true rfl) ?_
            cases hc8 : G38 74 n  S with
            | none => rw [hc8] at hf; cases hf
            | some z7 =>
              rw [hc8, Option.bind_some] at hf
              refine G38c (r0 := z7.1) (S0 := z7.2) (h0 := wS_74) (hf := hc8) ?_
              refine r_iconst (v := 5) fe_37_74 (by decide) ?_
              by_cases hb9 : am_ic .lt z7.1 5 = true
              · rw [if_pos hb9] at hf
                refine r_ic_t (t := 82) fe_37_75 (by decide) hb9 ?_
                refine r_iconst (v := 0) fe_37_82 (by decide) ?_
                refine r_iret fe_37_83 ⟨rfl, by decide⟩ ?_
                exact dfin (P := fun r T => Q (some (.int r)) (xst T G h)) hf hQ
              · rw [if_neg hb9] at hf
                refine r_ic_f (t := 82) fe_37_75 (by decide) (Bool.eq_false_iff.mpr hb9) ?_
                refine r_iconst (v := 1) fe_37_78 (by decide) ?_
                refine r_goto (t := 83) fe_37_79 (by decide) ?_
                refine r_iret fe_37_83 ⟨rfl, by decide⟩ ?_
                exact dfin (P := fun r T => Q (some (.int r)) (xst T G h)) hf hQ
          · rw [if_neg hx6] at hf
            by_cases hx10 : l1 = 7
            · rw [if_pos hx10] at hf
              refine r_tabI (off := 83) (t := 84) fe_37_1 hs1 (by rw [hx10]; decide) (by decide) ?_
              refine r_aload_n fe_37_84 rfl ?_
              refine r_getf (v := .ref 74) fe_37_85 lf_5_21 (x_c xk_67 (by decide)) (x_lt xk_67 (by decide)) rfl ?_
              refine r_getf (v := .int (S.1 74 1)) fe_37_88 lf_5_130 (x_c xk_74 (by decide)) (x_lt xk_74 (by decide)) rfl ?_
              refine r_bipush (v := 10) fe_37_91 (by decide) ?_
              by_cases hb11 : am_ic .lt (S.1 74 1) 10 = true
              · rw [if_pos hb11] at hf
                refine r_ic_t (t := 100) fe_37_93 (by decide) hb11 ?_
                refine r_iconst (v := 0) fe_37_100 (by decide) ?_
                refine r_iret fe_37_101 ⟨rfl, by decide⟩ ?_
                exact dfin (P := fun r T => Q (some (.int r)) (xst T G h)) hf hQ
              · rw [if_neg hb11] at hf
                refine r_ic_f (t := 100) fe_37_93 (by decide) (Bool.eq_false_iff.mpr hb11) ?_
                refine r_iconst (v := 1) fe_37_96 (by decide) ?_
                refine r_goto (t := 101) fe_37_97 (by decide) ?_
                refine r_iret fe_37_101 ⟨rfl, by decide⟩ ?_
                exact dfin (P := fun r T => Q (some (.int r)) (xst T G h)) hf hQ
            · rw [if_neg hx10] at hf
              cases hf
theorem G37c {xs : Nat → Int32} {L9 d : Nat} {G : gS} {h : Nat → va_E} {n : Nat} {Q : Option Value → AmH → Prop} {r0 : Int32} {S0 S : xS} {l1 : Int32} (hf : G37 n l1 S = some (r0, S0)) (hQ : Q (some (.int r0)) (xst S0 G h)) : Ca (am_X xs L9) (d + 1) 37 [.ref 67, .int l1] (xst S G h) Q := (G37l hQ n) l1 S hf
def G41b0 (F : Nat → Int32 → Int32 → xS → Option (Int32 × xS)) (n : Nat) (l1 : Int32) (l2 : Int32) (S : xS) : Option (Int32 × xS) := ((G23 n  S).bind (fun z1 => F 17 0 0 (x_sI z1.2 65 3 (z1.2.1 65 2))))
def G41b17 (F : Nat → Int32 → Int32 → xS → Option (Int32 × xS)) (n : Nat) (l1 : Int32) (l2 : Int32) (S : xS) : Option (Int32 × xS) := (if am_ic .ge (S.1 65 2) (S.1 65 1) = true then (if am_if .eq l2 = true then (if am_if .ne l2 = true then ((G36 n (S.1 65 3) 1 S).bind (fun z6 => some ((-1), z6.2))) else ((G36 n (S.1 65 3) 0 S).bind (fun z8 => some ((-1), z8.2)))) else (if am_ic .le l2 5 = true then some (l1, S) else (if am_if .ne l2 = true then ((G36 n (S.1 65 3) 1 S).bind (fun z12 => some ((-1), z12.2))) else ((G36 n (S.1 65 3) 0 S).bind (fun z14 => some ((-1), z14.2)))))) else (if ¬ ((S.1 65 2) < 0 ∨ 400 ≤ ((S.1 65 2)).toNatClampNeg) then (if am_ic .lt (S.2.1 66 (Int32.toNatClampNeg (S.1 65 2))) 48 = true then (if am_if .eq l2 = true then (if am_if .ne l2 = true then ((G36 n (S.1 65 3) 1 S).bind (fun z20 => some ((-1), z20.2))) else ((G36 n (S.1 65 3) 0 S).bind (fun z22 => some ((-1), z22.2)))) else (if am_ic .le l2 5 = true then some (l1, S) else (if am_if .ne l2 = true then ((G36 n (S.1 65 3) 1 S).bind (fun z26 => some ((-1), z26.2))) else ((G36 n (S.1 65 3) 0 S).bind (fun z28 => some ((-1), z28.2)))))) else (if ¬ ((S.1 65 2) < 0 ∨ 400 ≤ ((S.1 65 2)).toNatClampNeg) then (if am_ic .gt (S.2.1 66 (Int32.toNatClampNeg (S.1 65 2))) 57 = true then (if am_if .eq l2 = true then (if am_if .ne l2 = true then ((G36 n (S.1 65 3) 1 S).bind (fun z34 => some ((-1), z34.2))) else ((G36 n (S.1 65 3) 0 S).bind (fun z36 => some ((-1), z36.2)))) else (if am_ic .le l2 5 = true then some (l1, S) else (if am_if .ne l2 = true then ((G36 n (S.1 65 3) 1 S).bind (fun z40 => some ((-1), z40.2))) else ((G36 n (S.1 65 3) 0 S).bind (fun z42 => some ((-1), z42.2)))))) else (if am_ic .ge l2 5 = true then F 17 l1 (l2 + 1) (x_sI S 65 2 ((S.1 65 2) + 1)) else (if ¬ ((S.1 65 2) < 0 ∨ 400 ≤ ((S.1 65 2)).toNatClampNeg) then F 17 (((l1 * 10) + (S.2.1 66 (Int32.toNatClampNeg (S.1 65 2)))) - 48) (l2 + 1) (x_sI S 65 2 ((S.1 65 2) + 1)) else none))) else none)) else none))
def G41f : Nat → Nat → Int32 → Int32 → xS → Option (Int32 × xS)
  | 0, _, _, _, _ => none
  | n + 1, c, l1, l2, S => if c = 0 then G41b0 (G41f n) n l1 l2 S else G41b17 (G41f n) n l1 l2 S
theorem G41e0 (n : Nat) (l1 : Int32) (l2 : Int32) (S : xS) : G41f (n + 1) 0 l1 l2 S = G41b0 (G41f n) n l1 l2 S := if_pos rfl
theorem G41e17 (n : Nat) (l1 : Int32) (l2 : Int32) (S : xS) : G41f (n + 1) 17 l1 l2 S = G41b17 (G41f n) n l1 l2 S := if_neg (by decide)
def G41 (n : Nat)  (S : xS) : Option (Int32 × xS) := G41f n 0 0 0 S
set_option maxRecDepth 20000 in
set_option maxHeartbeats 4000000 in
theorem G41l {xs : Nat → Int32} {L9 d : Nat} {G : gS} {h : Nat → va_E} {Q : Option Value → AmH → Prop} {r0 : Int32} {S0 : xS} (hQ : Q (some (.int r0)) (xst S0 G h)) : ∀ n : Nat, (∀ (l1 : Int32) (l2 : Int32) (S : xS), G41f n 0 l1 l2 S = some (r0, S0) → Go (am_X xs L9) (d + 1) 41 0 [.ref 65, .float 0, .float 0] [] (xst S G h) Q) ∧ (∀ (l1 : Int32) (l2 : Int32) (S : xS), G41f n 17 l1 l2 S = some (r0, S0) → Go (am_X xs L9) (d + 1) 41 17 [.ref 65, .int l1, .int l2] [] (xst S G h) Q) := by
  intro n
  induction n with
  | zero => exact ⟨fun l1 l2 S hf => (by cases hf), fun l1 l2 S hf => (by cases hf)⟩
  | succ n ih =>
    refine ⟨?_, ?_⟩
    · intro l1 l2 S hf
      rw [G41e0] at hf
      unfold G41b0 at hf
      refine r_aload_n fe_41_0 rfl ?_
      refine r_callV (as := []) (r := []) fe_41_1 lm_8_28 md_23 rfl rfl (Nat.le_of_ble_eq_true rfl) (x_c xk_65 (by decide)) (x_lt xk_65 (by decide)) (Nat.le_of_ble_eq_true rfl) (Nat.le_of_ble_eq_true rfl) ?_
      cases hc2 : G23 n  S with
      | none => rw [hc2] at hf; cases hf
      | some z1 =>
        rw [hc2, Option.bind_some] at hf
        refine G23c (r0 := z1.1) (S0 := z1.2)  (hf := hc2) ?_
        refine r_pop fe_41_4 rfl ?_
        refine r_aload_n fe_41_5 rfl ?_
        refine r_aload_n fe_41_6 rfl ?_
        refine r_getf (v := .int (z1.2.1 65 2)) fe_41_7 lf_8_19 (x_c xk_65 (by decide)) (x_lt xk_65 (by decide)) rfl ?_
        refine r_putf fe_41_10 lf_8_22 (x_h xk_65 (by decide)) (x_lt xk_65 (by decide)) (by decide) (Nat.le_of_ble_eq_true rfl) rfl rfl (Or.inl rfl) ?_
        refine go_heap (x_uI (j := 3) (x := (z1.2.1 65 2)) xk_65 (by decide)) ?_
        refine r_iconst (v := 0) fe_41_13 (by decide) ?_
        refine r_istore_n fe_41_14 (Nat.le_of_ble_eq_true rfl) rfl ?_
        refine r_iconst (v := 0) fe_41_15 (by decide) ?_
        refine r_istore_n fe_41_16 (Nat.le_of_ble_eq_true rfl) rfl ?_
        refine go_weak (L0 := [.ref 65, .int 0, .int 0]) (lwk_c (Or.inl rfl) (lwk_c (Or.inl rfl) (lwk_c (Or.inl rfl) (lwk_rf [])))) ?_
        exact ih.2 0 0 (x_sI z1.2 65 3 (z1.2.1 65 2)) hf
    · intro l1 l2 S hf
      rw [G41e17] at hf
      unfold G41b17 at hf
      refine r_aload_n fe_41_17 rfl ?_
      refine r_getf (v := .int (S.1 65 2)) fe_41_18 lf_8_19 (x_c xk_65 (by decide)) (x_lt xk_65 (by decide)) rfl ?_
      refine r_aload_n fe_41_21 rfl ?_
      refine r_getf (v := .int (S.1 65 1)) fe_41_22 lf_8_15 (x_c xk_65 (by decide)) (x_lt xk_65 (by decide)) rfl ?_
      by_cases hb3 : am_ic .ge (S.1 65 2) (S.1 65 1) = true
      · rw [if_pos hb3] at hf
        refine r_ic_t (t := 99) fe_41_25 (by decide) hb3 ?_
        refine r_iload_n fe_41_99 rfl ?_
        by_cases hb4 : am_if .eq l2 = true
        · rw [if_pos hb4] at hf
          refine r_if_t (t := 108) fe_41_100 (by decide) hb4 ?_
          refine r_aload_n fe_41_108 rfl ?_
          refine r_aload_n fe_41_109 rfl ?_
          refine r_getf (v := .int (S.1 65 3)) fe_41_110 lf_8_22 (x_c xk_65 (by decide)) (x_lt xk_65 (by decide)) rfl ?_
          refine r_iload_n fe_41_113 rfl ?_
          by_cases hb5 : am_if .ne l2 = true
          · rw [if_pos hb5] at hf
            refine r_if_t (t := 121) fe_41_114 (by decide) hb5 ?_
            refine r_iconst (v := 1) fe_41_121 (by decide) ?_
            refine r_callV (as := [.int (S.1 65 3), .int 1]) (r := []) fe_41_122 lm_8_32 md_36 rfl rfl (Nat.le_of_ble_eq_true rfl) (x_c xk_65 (by decide)) (x_lt xk_65 (by decide)) (Nat.le_of_ble_eq_true rfl) (Nat.le_of_ble_eq_true rfl) ?_
            cases hc7 : G36 n (S.1 65 3) 1 S with
            | none => rw [hc7] at hf; cases hf
            | some z6 =>
              rw [hc7, Option.bind_some] at hf
              refine G36c (r0 := z6.1) (S0 := z6.2)  (hf := hc7) ?_
              refine r_pop fe_41_125 rfl ?_
              refine r_iconst (v := -1) fe_41_126 (by decide) ?_
              refine r_iret fe_41_127 ⟨rfl, by decide⟩ ?_
              exact dfin (P := fun r T => Q (some (.int r)) (xst T G h)) hf hQ
          · rw [if_neg hb5] at hf
            refine r_if_f (t := 121) fe_41_114 (by decide) (Bool.eq_false_iff.mpr hb5) ?_
            refine r_iconst (v := 0) fe_41_117 (by decide) ?_
            refine r_goto (t := 122) fe_41_118 (by decide) ?_
            refine r_callV (as := [.int (S.1 65 3), .int 0]) (r := []) fe_41_122 lm_8_32 md_36 rfl rfl (Nat.le_of_ble_eq_true rfl) (x_c xk_65 (by decide)) (x_lt xk_65 (by decide)) (Nat.le_of_ble_eq_true rfl) (Nat.le_of_ble_eq_true rfl) ?_
            cases hc9 : G36 n (S.1 65 3) 0 S with
            | none => rw [hc9] at hf; cases hf
            | some z8 =>
              rw [hc9, Option.bind_some] at hf
              refine G36c (r0 := z8.1) (S0 := z8.2)  (hf := hc9) ?_
              refine r_pop fe_41_125 rfl ?_
              refine r_iconst (v := -1) fe_41_126 (by decide) ?_
              refine r_iret fe_41_127 ⟨rfl, by decide⟩ ?_
              exact dfin (P := fun r T => Q (some (.int r)) (xst T G h)) hf hQ
        · rw [if_neg hb4] at hf
          refine r_if_f (t := 108) fe_41_100 (by decide) (Bool.eq_false_iff.mpr hb4) ?_
          refine r_iload_n fe_41_103 rfl ?_
          refine r_iconst (v := 5) fe_41_104 (by decide) ?_
          by_cases hb10 : am_ic .le l2 5 = true
          · rw [if_pos hb10] at hf
            refine r_ic_t (t := 128) fe_41_105 (by decide) hb10 ?_
            refine r_iload_n fe_41_128 rfl ?_
            refine r_iret fe_41_129 ⟨rfl, by decide⟩ ?_
            exact dfin (P := fun r T => Q (some (.int r)) (xst T G h)) hf hQ
          · rw [if_neg hb10] at hf
            refine r_ic_f (t := 128) fe_41_105 (by decide) (Bool.eq_false_iff.mpr hb10) ?_
            refine r_aload_n fe_41_108 rfl ?_
            refine r_aload_n fe_41_109 rfl ?_
            refine r_getf (v := .int (S.1 65 3)) fe_41_110 lf_8_22 (x_c xk_65 (by decide)) (x_lt xk_65 (by decide)) rfl ?_
            refine r_iload_n fe_41_113 rfl ?_
            by_cases hb11 : am_if .ne l2 = true
            · rw [if_pos hb11] at hf
              refine r_if_t (t := 121) fe_41_114 (by decide) hb11 ?_
              refine r_iconst (v := 1) fe_41_121 (by decide) ?_
              refine r_callV (as := [.int (S.1 65 3), .int 1]) (r := []) fe_41_122 lm_8_32 md_36 rfl rfl (Nat.le_of_ble_eq_true rfl) (x_c xk_65 (by decide)) (x_lt xk_65 (by decide)) (Nat.le_of_ble_eq_true rfl) (Nat.le_of_ble_eq_true rfl) ?_
              cases hc13 : G36 n (S.1 65 3) 1 S with
              | none => rw [hc13] at hf; cases hf
              | some z12 =>
                rw [hc13, Option.bind_some] at hf
                refine G36c (r0 := z12.1) (S0 := z12.2)  (hf := hc13) ?_
                refine r_pop fe_41_125 rfl ?_
                refine r_iconst (v := -1) fe_41_126 (by decide) ?_
                refine r_iret fe_41_127 ⟨rfl, by decide⟩ ?_
                exact dfin (P := fun r T => Q (some (.int r)) (xst T G h)) hf hQ
            · rw [if_neg hb11] at hf
              refine r_if_f (t := 121) fe_41_114 (by decide) (Bool.eq_false_iff.mpr hb11) ?_
              refine r_iconst (v := 0) fe_41_117 (by decide) ?_
              refine r_goto (t := 122) fe_41_118 (by decide) ?_
              refine r_callV (as := [.int (S.1 65 3), .int 0]) (r := []) fe_41_122 lm_8_32 md_36 rfl rfl (Nat.le_of_ble_eq_true rfl) (x_c xk_65 (by decide)) (x_lt xk_65 (by decide)) (Nat.le_of_ble_eq_true rfl) (Nat.le_of_ble_eq_true rfl) ?_
              cases hc15 : G36 n (S.1 65 3) 0 S with
              | none => rw [hc15] at hf; cases hf
              | some z14 =>
                rw [hc15, Option.bind_some] at hf
                refine G36c (r0 := z14.1) (S0 := z14.2)  (hf := hc15) ?_
                refine r_pop fe_41_125 rfl ?_
                refine r_iconst (v := -1) fe_41_126 (by decide) ?_
                refine r_iret fe_41_127 ⟨rfl, by decide⟩ ?_
                exact dfin (P := fun r T => Q (some (.int r)) (xst T G h)) hf hQ
      · rw [if_neg hb3] at hf
        refine r_ic_f (t := 99) fe_41_25 (by decide) (Bool.eq_false_iff.mpr hb3) ?_
        refine r_aload_n fe_41_28 rfl ?_
        refine r_getf (v := .ref 66) fe_41_29 lf_8_9 (x_c xk_65 (by decide)) (x_lt xk_65 (by decide)) rfl ?_
        refine r_aload_n fe_41_32 rfl ?_
        refine r_getf (v := .int (S.1 65 2)) fe_41_33 lf_8_19 (x_c xk_65 (by decide)) (x_lt xk_65 (by decide)) rfl ?_
        by_cases hg16 : ¬ ((S.1 65 2) < 0 ∨ 400 ≤ ((S.1 65 2)).toNatClampNeg)
        rotate_left
        · rw [if_neg hg16] at hf; cases hf
        rw [if_pos hg16] at hf
        refine r_iald (j := (Int32.toNatClampNeg (S.1 65 2))) (v := S.2.1 66 (Int32.toNatClampNeg (S.1 65 2))) fe_41_36 (x_c xk_66 (by decide)) (x_lt xk_66 (by decide)) (fun z => hg16 (Or.inl z)) rfl (fun z => hg16 (Or.inr z)) rfl ?_
        refine r_bipush (v := 48) fe_41_37 (by decide) ?_
        by_cases hb17 : am_ic .lt (S.2.1 66 (Int32.toNatClampNeg (S.1 65 2))) 48 = true
        · rw [if_pos hb17] at hf
          refine r_ic_t (t := 99) fe_41_39 (by decide) hb17 ?_
          refine r_iload_n fe_41_99 rfl ?_
          by_cases hb18 : am_if .eq l2 = true
          · rw [if_pos hb18] at hf
            refine r_if_t (t := 108) fe_41_100 (by decide) hb18 ?_
            refine r_aload_n fe_41_108 rfl ?_
            refine r_aload_n fe_41_109 rfl ?_
            refine r_getf (v := .int (S.1 65 3)) fe_41_110 lf_8_22 (x_c xk_65 (by decide)) (x_lt xk_65 (by decide)) rfl ?_
            refine r_iload_n fe_41_113 rfl ?_
            by_cases hb19 : am_if .ne l2 = true
            · rw [if_pos hb19] at hf
              refine r_if_t (t := 121) fe_41_114 (by decide) hb19 ?_
              refine r_iconst (v := 1) fe_41_121 (by decide) ?_
              refine r_callV (as := [.int (S.1 65 3), .int 1]) (r := []) fe_41_122 lm_8_32 md_36 rfl rfl (Nat.le_of_ble_eq_true rfl) (x_c xk_65 (by decide)) (x_lt xk_65 (by decide)) (Nat.le_of_ble_eq_true rfl) (Nat.le_of_ble_eq_true rfl) ?_
              cases hc21 : G36 n (S.1 65 3) 1 S with
              | none => rw [hc21] at hf; cases hf
              | some z20 =>
                rw [hc21, Option.bind_some] at hf
                refine G36c (r0 := z20.1) (S0 := z20.2)  (hf := hc21) ?_
                refine r_pop fe_41_125 rfl ?_
                refine r_iconst (v := -1) fe_41_126 (by decide) ?_
                refine r_iret fe_41_127 ⟨rfl, by decide⟩ ?_
                exact dfin (P := fun r T => Q (some (.int r)) (xst T G h)) hf hQ
            · rw [if_neg hb19] at hf
              refine r_if_f (t := 121) fe_41_114 (by decide) (Bool.eq_false_iff.mpr hb19) ?_
              refine r_iconst (v := 0) fe_41_117 (by decide) ?_
              refine r_goto (t := 122) fe_41_118 (by decide) ?_
              refine r_callV (as := [.int (S.1 65 3), .int 0]) (r := []) fe_41_122 lm_8_32 md_36 rfl rfl (Nat.le_of_ble_eq_true rfl) (x_c xk_65 (by decide)) (x_lt xk_65 (by decide)) (Nat.le_of_ble_eq_true rfl) (Nat.le_of_ble_eq_true rfl) ?_
              cases hc23 : G36 n (S.1 65 3) 0 S with
              | none => rw [hc23] at hf; cases hf
              | some z22 =>
                rw [hc23, Option.bind_some] at hf
                refine G36c (r0 := z22.1) (S0 := z22.2)  (hf := hc23) ?_
                refine r_pop fe_41_125 rfl ?_
                refine r_iconst (v := -1) fe_41_126 (by decide) ?_
                refine r_iret fe_41_127 ⟨rfl, by decide⟩ ?_
                exact dfin (P := fun r T => Q (some (.int r)) (xst T G h)) hf hQ
          · rw [if_neg hb18] at hf
            refine r_if_f (t := 108) fe_41_100 (by decide) (Bool.eq_false_iff.mpr hb18) ?_
            refine r_iload_n fe_41_103 rfl ?_
            refine r_iconst (v := 5) fe_41_104 (by decide) ?_
            by_cases hb24 : am_ic .le l2 5 = true
            · rw [if_pos hb24] at hf
              refine r_ic_t (t := 128) fe_41_105 (by decide) hb24 ?_
              refine r_iload_n fe_41_128 rfl ?_
              refine r_iret fe_41_129 ⟨rfl, by decide⟩ ?_
              exact dfin (P := fun r T => Q (some (.int r)) (xst T G h)) hf hQ
            · rw [if_neg hb24] at hf
              refine r_ic_f (t := 128) fe_41_105 (by decide) (Bool.eq_false_iff.mpr hb24) ?_
              refine r_aload_n fe_41_108 rfl ?_
              refine r_aload_n fe_41_109 rfl ?_
              refine r_getf (v := .int (S.1 65 3)) fe_41_110 lf_8_22 (x_c xk_65 (by decide)) (x_lt xk_65 (by decide)) rfl ?_
              refine r_iload_n fe_41_113 rfl ?_
              by_cases hb25 : am_if .ne l2 = true
              · rw [if_pos hb25] at hf
                refine r_if_t (t := 121) fe_41_114 (by decide) hb25 ?_
                refine r_iconst (v := 1) fe_41_121 (by decide) ?_
                refine r_callV (as := [.int (S.1 65 3), .int 1]) (r := []) fe_41_122 lm_8_32 md_36 rfl rfl (Nat.le_of_ble_eq_true rfl) (x_c xk_65 (by decide)) (x_lt xk_65 (by decide)) (Nat.le_of_ble_eq_true rfl) (Nat.le_of_ble_eq_true rfl) ?_
                cases hc27 : G36 n (S.1 65 3) 1 S with
                | none => rw [hc27] at hf; cases hf
                | some z26 =>
                  rw [hc27, Option.bind_some] at hf
                  refine G36c (r0 := z26.1) (S0 := z26.2)  (hf := hc27) ?_
                  refine r_pop fe_41_125 rfl ?_
                  refine r_iconst (v := -1) fe_41_126 (by decide) ?_
                  refine r_iret fe_41_127 ⟨rfl, by decide⟩ ?_
                  exact dfin (P := fun r T => Q (some (.int r)) (xst T G h)) hf hQ
              · rw [if_neg hb25] at hf
                refine r_if_f (t := 121) fe_41_114 (by decide) (Bool.eq_false_iff.mpr hb25) ?_
                refine r_iconst (v := 0) fe_41_117 (by decide) ?_
                refine r_goto (t := 122) fe_41_118 (by decide) ?_
                refine r_callV (as := [.int (S.1 65 3), .int 0]) (r := []) fe_41_122 lm_8_32 md_36 rfl rfl (Nat.le_of_ble_eq_true rfl) (x_c xk_65 (by decide)) (x_lt xk_65 (by decide)) (Nat.le_of_ble_eq_true rfl) (Nat.le_of_ble_eq_true rfl) ?_
                cases hc29 : G36 n (S.1 65 3) 0 S with
                | none => rw [hc29] at hf; cases hf
                | some z28 =>
                  rw [hc29, Option.bind_some] at hf
                  refine G36c (r0 := z28.1) (S0 := z28.2)  (hf := hc29) ?_
                  refine r_pop fe_41_125 rfl ?_
                  refine r_iconst (v := -1) fe_41_126 (by decide) ?_
                  refine r_iret fe_41_127 ⟨rfl, by decide⟩ ?_
                  exact dfin (P := fun r T => Q (some (.int r)) (xst T G h)) hf hQ
        · rw [if_neg hb17] at hf
          refine r_ic_f (t := 99) fe_41_39 (by decide) (Bool.eq_false_iff.mpr hb17) ?_
          refine r_aload_n fe_41_42 rfl ?_
          refine r_getf (v := .ref 66) fe_41_43 lf_8_9 (x_c xk_65 (by decide)) (x_lt xk_65 (by decide)) rfl ?_
          refine r_aload_n fe_41_46 rfl ?_
          refine r_getf (v := .int (S.1 65 2)) fe_41_47 lf_8_19 (x_c xk_65 (by decide)) (x_lt xk_65 (by decide)) rfl ?_
          by_cases hg30 : ¬ ((S.1 65 2) < 0 ∨ 400 ≤ ((S.1 65 2)).toNatClampNeg)
          rotate_left
          · rw [if_neg hg30] at hf; cases hf
          rw [if_pos hg30] at hf
          refine r_iald (j := (Int32.toNatClampNeg (S.1 65 2))) (v := S.2.1 66 (Int32.toNatClampNeg (S.1 65 2))) fe_41_50 (x_c xk_66 (by decide)) (x_lt xk_66 (by decide)) (fun z => hg30 (Or.inl z)) rfl (fun z => hg30 (Or.inr z)) rfl ?_
          refine r_bipush (v := 57) fe_41_51 (by decide) ?_
          by_cases hb31 : am_ic .gt (S.2.1 66 (Int32.toNatClampNeg (S.1 65 2))) 57 = true
          · rw [if_pos hb31] at hf
            refine r_ic_t (t := 99) fe_41_53 (by decide) hb31 ?_
            refine r_iload_n fe_41_99 rfl ?_
            by_cases hb32 : am_if .eq l2 = true
            · rw [if_pos hb32] at hf
              refine r_if_t (t := 108) fe_41_100 (by decide) hb32 ?_
              refine r_aload_n fe_41_108 rfl ?_
              refine r_aload_n fe_41_109 rfl ?_
              refine r_getf (v := .int (S.1 65 3)) fe_41_110 lf_8_22 (x_c xk_65 (by decide)) (x_lt xk_65 (by decide)) rfl ?_
              refine r_iload_n fe_41_113 rfl ?_
              by_cases hb33 : am_if .ne l2 = true
              · rw [if_pos hb33] at hf
                refine r_if_t (t := 121) fe_41_114 (by decide) hb33 ?_
                refine r_iconst (v := 1) fe_41_121 (by decide) ?_
                refine r_callV (as := [.int (S.1 65 3), .int 1]) (r := []) fe_41_122 lm_8_32 md_36 rfl rfl (Nat.le_of_ble_eq_true rfl) (x_c xk_65 (by decide)) (x_lt xk_65 (by decide)) (Nat.le_of_ble_eq_true rfl) (Nat.le_of_ble_eq_true rfl) ?_
                cases hc35 : G36 n (S.1 65 3) 1 S with
                | none => rw [hc35] at hf; cases hf
                | some z34 =>
                  rw [hc35, Option.bind_some] at hf
                  refine G36c (r0 := z34.1) (S0 := z34.2)  (hf := hc35) ?_
                  refine r_pop fe_41_125 rfl ?_
                  refine r_iconst (v := -1) fe_41_126 (by decide) ?_
                  refine r_iret fe_41_127 ⟨rfl, by decide⟩ ?_
                  exact dfin (P := fun r T => Q (some (.int r)) (xst T G h)) hf hQ
              · rw [if_neg hb33] at hf
                refine r_if_f (t := 121) fe_41_114 (by decide) (Bool.eq_false_iff.mpr hb33) ?_
                refine r_iconst (v := 0) fe_41_117 (by decide) ?_
                refine r_goto (t := 122) fe_41_118 (by decide) ?_
                refine r_callV (as := [.int (S.1 65 3), .int 0]) (r := []) fe_41_122 lm_8_32 md_36 rfl rfl (Nat.le_of_ble_eq_true rfl) (x_c xk_65 (by decide)) (x_lt xk_65 (by decide)) (Nat.le_of_ble_eq_true rfl) (Nat.le_of_ble_eq_true rfl) ?_
                cases hc37 : G36 n (S.1 65 3) 0 S with
                | none => rw [hc37] at hf; cases hf
                | some z36 =>
                  rw [hc37, Option.bind_some] at hf
                  refine G36c (r0 := z36.1) (S0 := z36.2)  (hf := hc37) ?_
                  refine r_pop fe_41_125 rfl ?_
                  refine r_iconst (v := -1) fe_41_126 (by decide) ?_
                  refine r_iret fe_41_127 ⟨rfl, by decide⟩ ?_
                  exact dfin (P := fun r T => Q (some (.int r)) (xst T G h)) hf hQ
            · rw [if_neg hb32] at hf
              refine r_if_f (t := 108) fe_41_100 (by decide) (Bool.eq_false_iff.mpr hb32) ?_
              refine r_iload_n fe_41_103 rfl ?_
              refine r_iconst (v := 5) fe_41_104 (by decide) ?_
              by_cases hb38 : am_ic .le l2 5 = true
              · rw [if_pos hb38] at hf
                refine r_ic_t (t := 128) fe_41_105 (by decide) hb38 ?_
                refine r_iload_n fe_41_128 rfl ?_
                refine r_iret fe_41_129 ⟨rfl, by decide⟩ ?_
                exact dfin (P := fun r T => Q (some (.int r)) (xst T G h)) hf hQ
              · rw [if_neg hb38] at hf
                refine r_ic_f (t := 128) fe_41_105 (by decide) (Bool.eq_false_iff.mpr hb38) ?_
                refine r_aload_n fe_41_108 rfl ?_
                refine r_aload_n fe_41_109 rfl ?_
                refine r_getf (v := .int (S.1 65 3)) fe_41_110 lf_8_22 (x_c xk_65 (by decide)) (x_lt xk_65 (by decide)) rfl ?_
                refine r_iload_n fe_41_113 rfl ?_
                by_cases hb39 : am_if .ne l2 = true
                · rw [if_pos hb39] at hf
                  refine r_if_t (t := 121) fe_41_114 (by decide) hb39 ?_
                  refine r_iconst (v := 1) fe_41_121 (by decide) ?_
                  refine r_callV (as := [.int (S.1 65 3), .int 1]) (r := []) fe_41_122 lm_8_32 md_36 rfl rfl (Nat.le_of_ble_eq_true rfl) (x_c xk_65 (by decide)) (x_lt xk_65 (by decide)) (Nat.le_of_ble_eq_true rfl) (Nat.le_of_ble_eq_true rfl) ?_
                  cases hc41 : G36 n (S.1 65 3) 1 S with
                  | none => rw [hc41] at hf; cases hf
                  | some z40 =>
                    rw [hc41, Option.bind_some] at hf
                    refine G36c (r0 := z40.1) (S0 := z40.2)  (hf := hc41) ?_
                    refine r_pop fe_41_125 rfl ?_
                    refine r_iconst (v := -1) fe_41_126 (by decide) ?_
                    refine r_iret fe_41_127 ⟨rfl, by decide⟩ ?_
                    exact dfin (P := fun r T => Q (some (.int r)) (xst T G h)) hf hQ
                · rw [if_neg hb39] at hf
                  refine r_if_f (t := 121) fe_41_114 (by decide) (Bool.eq_false_iff.mpr hb39) ?_
                  refine r_iconst (v := 0) fe_41_117 (by decide) ?_
                  refine r_goto (t := 122) fe_41_118 (by decide) ?_
                  refine r_callV (as := [.int (S.1 65 3), .int 0]) (r := []) fe_41_122 lm_8_32 md_36 rfl rfl (Nat.le_of_ble_eq_true rfl) (x_c xk_65 (by decide)) (x_lt xk_65 (by decide)) (Nat.le_of_ble_eq_true rfl) (Nat.le_of_ble_eq_true rfl) ?_
                  cases hc43 : G36 n (S.1 65 3) 0 S with
                  | none => rw [hc43] at hf; cases hf
                  | some z42 =>
                    rw [hc43, Option.bind_some] at hf
                    refine G36c (r0 := z42.1) (S0 := z42.2)  (hf := hc43) ?_
                    refine r_pop fe_41_125 rfl ?_
                    refine r_iconst (v := -1) fe_41_126 (by decide) ?_
                    refine r_iret fe_41_127 ⟨rfl, by decide⟩ ?_
                    exact dfin (P := fun r T => Q (some (.int r)) (xst T G h)) hf hQ
          · rw [if_neg hb31] at hf
            refine r_ic_f (t := 99) fe_41_53 (by decide) (Bool.eq_false_iff.mpr hb31) ?_
            refine r_iload_n fe_41_56 rfl ?_
            refine r_iconst (v := 5) fe_41_57 (by decide) ?_
            by_cases hb44 : am_ic .ge l2 5 = true
            · rw [if_pos hb44] at hf
              refine r_ic_t (t := 81) fe_41_58 (by decide) hb44 ?_
              refine r_iload_n fe_41_81 rfl ?_
              refine r_istore_n fe_41_82 (Nat.le_of_ble_eq_true rfl) rfl ?_
              refine r_iinc (v := (l2 + 1)) fe_41_83 rfl rfl rfl ?_
              refine r_aload_n fe_41_86 rfl ?_
              refine r_dup fe_41_87 rfl ?_
              refine r_getf (v := .int (S.1 65 2)) fe_41_88 lf_8_19 (x_c xk_65 (by decide)) (x_lt xk_65 (by decide)) rfl ?_
              refine r_iconst (v := 1) fe_41_91 (by decide) ?_
              refine r_iadd (v := ((S.1 65 2) + 1)) fe_41_92 rfl ?_
              refine r_putf fe_41_93 lf_8_19 (x_h xk_65 (by decide)) (x_lt xk_65 (by decide)) (by decide) (Nat.le_of_ble_eq_true rfl) rfl rfl (Or.inl rfl) ?_
              refine go_heap (x_uI (j := 2) (x := ((S.1 65 2) + 1)) xk_65 (by decide)) ?_
              refine r_goto (t := 17) fe_41_96 (by decide) ?_
              refine go_weak (L0 := [.ref 65, .int l1, .int (l2 + 1)]) (lwk_c (Or.inl rfl) (lwk_c (Or.inl rfl) (lwk_c (Or.inl rfl) (lwk_rf [])))) ?_
              exact ih.2 l1 (l2 + 1) (x_sI S 65 2 ((S.1 65 2) + 1)) hf
            · rw [if_neg hb44] at hf
              refine r_ic_f (t := 81) fe_41_58 (by decide) (Bool.eq_false_iff.mpr hb44) ?_
              refine r_iload_n fe_41_61 rfl ?_
              refine r_bipush (v := 10) fe_41_62 (by decide) ?_
              refine r_imul (v := (l1 * 10)) fe_41_64 rfl ?_
              refine r_aload_n fe_41_65 rfl ?_
              refine r_getf (v := .ref 66) fe_41_66 lf_8_9 (x_c xk_65 (by decide)) (x_lt xk_65 (by decide)) rfl ?_
              refine r_aload_n fe_41_69 rfl ?_
              refine r_getf (v := .int (S.1 65 2)) fe_41_70 lf_8_19 (x_c xk_65 (by decide)) (x_lt xk_65 (by decide)) rfl ?_
              by_cases hg45 : ¬ ((S.1 65 2) < 0 ∨ 400 ≤ ((S.1 65 2)).toNatClampNeg)
              rotate_left
              · rw [if_neg hg45] at hf; cases hf
              rw [if_pos hg45] at hf
              refine r_iald (j := (Int32.toNatClampNeg (S.1 65 2))) (v := S.2.1 66 (Int32.toNatClampNeg (S.1 65 2))) fe_41_73 (x_c xk_66 (by decide)) (x_lt xk_66 (by decide)) (fun z => hg45 (Or.inl z)) rfl (fun z => hg45 (Or.inr z)) rfl ?_
              refine r_iadd (v := ((l1 * 10) + (S.2.1 66 (Int32.toNatClampNeg (S.1 65 2))))) fe_41_74 rfl ?_
              refine r_bipush (v := 48) fe_41_75 (by decide) ?_
              refine r_isub (v := (((l1 * 10) + (S.2.1 66 (Int32.toNatClampNeg (S.1 65 2)))) - 48)) fe_41_77 rfl ?_
              refine r_goto (t := 82) fe_41_78 (by decide) ?_
              refine r_istore_n fe_41_82 (Nat.le_of_ble_eq_true rfl) rfl ?_
              refine r_iinc (v := (l2 + 1)) fe_41_83 rfl rfl rfl ?_
              refine r_aload_n fe_41_86 rfl ?_
              refine r_dup fe_41_87 rfl ?_
              refine r_getf (v := .int (S.1 65 2)) fe_41_88 lf_8_19 (x_c xk_65 (by decide)) (x_lt xk_65 (by decide)) rfl ?_
              refine r_iconst (v := 1) fe_41_91 (by decide) ?_
              refine r_iadd (v := ((S.1 65 2) + 1)) fe_41_92 rfl ?_
              refine r_putf fe_41_93 lf_8_19 (x_h xk_65 (by decide)) (x_lt xk_65 (by decide)) (by decide) (Nat.le_of_ble_eq_true rfl) rfl rfl (Or.inl rfl) ?_
              refine go_heap (x_uI (j := 2) (x := ((S.1 65 2) + 1)) xk_65 (by decide)) ?_
              refine r_goto (t := 17) fe_41_96 (by decide) ?_
              refine go_weak (L0 := [.ref 65, .int (((l1 * 10) + (S.2.1 66 (Int32.toNatClampNeg (S.1 65 2)))) - 48), .int (l2 + 1)]) (lwk_c (Or.inl rfl) (lwk_c (Or.inl rfl) (lwk_c (Or.inl rfl) (lwk_rf [])))) ?_
              exact ih.2 (((l1 * 10) + (S.2.1 66 (Int32.toNatClampNeg (S.1 65 2)))) - 48) (l2 + 1) (x_sI S 65 2 ((S.1 65 2) + 1)) hf
theorem G41c {xs : Nat → Int32} {L9 d : Nat} {G : gS} {h : Nat → va_E} {n : Nat} {Q : Option Value → AmH → Prop} {r0 : Int32} {S0 S : xS}  (hf : G41 n  S = some (r0, S0)) (hQ : Q (some (.int r0)) (xst S0 G h)) : Ca (am_X xs L9) (d + 1) 41 [.ref 65] (xst S G h) Q := (G41l hQ n).1 0 0 S hf
def G40b0 (F : Nat → Int32 → Int32 → xS → Option (Int32 × xS)) (n : Nat) (l1 : Int32) (l2 : Int32) (S : xS) : Option (Int32 × xS) := ((G41 n  S).bind (fun z1 => (if am_ic .eq z1.1 (-1) = true then some (z1.1, z1.2) else (if am_ic .lt z1.1 l1 = true then ((G36 n (z1.2.1 65 3) 1 z1.2).bind (fun z5 => some ((-1), z5.2))) else (if am_ic .le z1.1 l2 = true then some (z1.1, z1.2) else ((G36 n (z1.2.1 65 3) 1 z1.2).bind (fun z8 => some ((-1), z8.2))))))))
def G40f : Nat → Nat → Int32 → Int32 → xS → Option (Int32 × xS)
  | 0, _, _, _, _ => none
  | n + 1, c, l1, l2, S => G40b0 (G40f n) n l1 l2 S
theorem G40e0 (n : Nat) (l1 : Int32) (l2 : Int32) (S : xS) : G40f (n + 1) 0 l1 l2 S = G40b0 (G40f n) n l1 l2 S := rfl
def G40 (n : Nat) (l1 : Int32) (l2 : Int32) (S : xS) : Option (Int32 × xS) := G40f n 0 l1 l2 S
set_option maxRecDepth 20000 in
set_option maxHeartbeats 4000000 in
theorem G40l {xs : Nat → Int32} {L9 d : Nat} {G : gS} {h : Nat → va_E} {Q : Option Value → AmH → Prop} {r0 : Int32} {S0 : xS} (hQ : Q (some (.int r0)) (xst S0 G h)) : ∀ n : Nat, (∀ (l1 : Int32) (l2 : Int32) (S : xS), G40f n 0 l1 l2 S = some (r0, S0) → Go (am_X xs L9) (d + 2) 40 0 [.ref 65, .int l1, .int l2, .float 0] [] (xst S G h) Q) := by
  intro n
  induction n with
  | zero => exact fun l1 l2 S hf => (by cases hf)
  | succ n ih =>
    intro l1 l2 S hf
    rw [G40e0] at hf
    unfold G40b0 at hf
    refine r_aload_n fe_40_0 rfl ?_
    refine r_callV (as := []) (r := []) fe_40_1 lm_8_36 md_41 rfl rfl (Nat.le_of_ble_eq_true rfl) (x_c xk_65 (by decide)) (x_lt xk_65 (by decide)) (Nat.le_of_ble_eq_true rfl) (Nat.le_of_ble_eq_true rfl) ?_
    cases hc2 : G41 n  S with
    | none => rw [hc2] at hf; cases hf
    | some z1 =>
      rw [hc2, Option.bind_some] at hf
      refine G41c (r0 := z1.1) (S0 := z1.2)  (hf := hc2) ?_
      refine r_istore_n fe_40_4 (Nat.le_of_ble_eq_true rfl) rfl ?_
      refine r_iload_n fe_40_5 rfl ?_
      refine r_iconst (v := -1) fe_40_6 (by decide) ?_
      by_cases hb3 : am_ic .eq z1.1 (-1) = true
      · rw [if_pos hb3] at hf
        refine r_ic_t (t := 32) fe_40_7 (by decide) hb3 ?_
        refine r_iload_n fe_40_32 rfl ?_
        refine r_iret fe_40_33 ⟨rfl, by decide⟩ ?_
        exact dfin (P := fun r T => Q (some (.int r)) (xst T G h)) hf hQ
      · rw [if_neg hb3] at hf
        refine r_ic_f (t := 32) fe_40_7 (by decide) (Bool.eq_false_iff.mpr hb3) ?_
        refine r_iload_n fe_40_10 rfl ?_
        refine r_iload_n fe_40_11 rfl ?_
        by_cases hb4 : am_ic .lt z1.1 l1 = true
        · rw [if_pos hb4] at hf
          refine r_ic_t (t := 20) fe_40_12 (by decide) hb4 ?_
          refine r_aload_n fe_40_20 rfl ?_
          refine r_aload_n fe_40_21 rfl ?_
          refine r_getf (v := .int (z1.2.1 65 3)) fe_40_22 lf_8_22 (x_c xk_65 (by decide)) (x_lt xk_65 (by decide)) rfl ?_
          refine r_iconst (v := 1) fe_40_25 (by decide) ?_
          refine r_callV (as := [.int (z1.2.1 65 3), .int 1]) (r := []) fe_40_26 lm_8_32 md_36 rfl rfl (Nat.le_of_ble_eq_true rfl) (x_c xk_65 (by decide)) (x_lt xk_65 (by decide)) (Nat.le_of_ble_eq_true rfl) (Nat.le_of_ble_eq_true rfl) ?_
          cases hc6 : G36 n (z1.2.1 65 3) 1 z1.2 with
          | none => rw [hc6] at hf; cases hf
          | some z5 =>
            rw [hc6, Option.bind_some] at hf
            refine G36c (r0 := z5.1) (S0 := z5.2)  (hf := hc6) ?_
            refine r_pop fe_40_29 rfl ?_
            refine r_iconst (v := -1) fe_40_30 (by decide) ?_
            refine r_iret fe_40_31 ⟨rfl, by decide⟩ ?_
            exact dfin (P := fun r T => Q (some (.int r)) (xst T G h)) hf hQ
        · rw [if_neg hb4] at hf
          refine r_ic_f (t := 20) fe_40_12 (by decide) (Bool.eq_false_iff.mpr hb4) ?_
          refine r_iload_n fe_40_15 rfl ?_
          refine r_iload_n fe_40_16 rfl ?_
          by_cases hb7 : am_ic .le z1.1 l2 = true
          · rw [if_pos hb7] at hf
            refine r_ic_t (t := 32) fe_40_17 (by decide) hb7 ?_
            refine r_iload_n fe_40_32 rfl ?_
            refine r_iret fe_40_33 ⟨rfl, by decide⟩ ?_
            exact dfin (P := fun r T => Q (some (.int r)) (xst T G h)) hf hQ
          · rw [if_neg hb7] at hf
            refine r_ic_f (t := 32) fe_40_17 (by decide) (Bool.eq_false_iff.mpr hb7) ?_
            refine r_aload_n fe_40_20 rfl ?_
            refine r_aload_n fe_40_21 rfl ?_
            refine r_getf (v := .int (z1.2.1 65 3)) fe_40_22 lf_8_22 (x_c xk_65 (by decide)) (x_lt xk_65 (by decide)) rfl ?_
            refine r_iconst (v := 1) fe_40_25 (by decide) ?_
            refine r_callV (as := [.int (z1.2.1 65 3), .int 1]) (r := []) fe_40_26 lm_8_32 md_36 rfl rfl (Nat.le_of_ble_eq_true rfl) (x_c xk_65 (by decide)) (x_lt xk_65 (by decide)) (Nat.le_of_ble_eq_true rfl) (Nat.le_of_ble_eq_true rfl) ?_
            cases hc9 : G36 n (z1.2.1 65 3) 1 z1.2 with
            | none => rw [hc9] at hf; cases hf
            | some z8 =>
              rw [hc9, Option.bind_some] at hf
              refine G36c (r0 := z8.1) (S0 := z8.2)  (hf := hc9) ?_
              refine r_pop fe_40_29 rfl ?_
              refine r_iconst (v := -1) fe_40_30 (by decide) ?_
              refine r_iret fe_40_31 ⟨rfl, by decide⟩ ?_
              exact dfin (P := fun r T => Q (some (.int r)) (xst T G h)) hf hQ
theorem G40c {xs : Nat → Int32} {L9 d : Nat} {G : gS} {h : Nat → va_E} {n : Nat} {Q : Option Value → AmH → Prop} {r0 : Int32} {S0 S : xS} {l1 : Int32} {l2 : Int32} (hf : G40 n l1 l2 S = some (r0, S0)) (hQ : Q (some (.int r0)) (xst S0 G h)) : Ca (am_X xs L9) (d + 2) 40 [.ref 65, .int l1, .int l2] (xst S G h) Q := (G40l hQ n) l1 l2 S hf
def G39b0 (F : Nat → xS → Option (Int32 × xS)) (n : Nat)  (S : xS) : Option (Int32 × xS) := ((G40 n 2 16 S).bind (fun z1 => (if am_ic .ne z1.1 (-1) = true then ((G18 68 n z1.1 z1.2).bind (fun z4 => some (1, z4.2))) else some (0, z1.2))))
def G39f : Nat → Nat → xS → Option (Int32 × xS)
  | 0, _, _ => none
  | n + 1, c, S => G39b0 (G39f n) n  S
theorem G39e0 (n : Nat)  (S : xS) : G39f (n + 1) 0  S = G39b0 (G39f n) n  S := rfl
def G39 (n : Nat)  (S : xS) : Option (Int32 × xS) := G39f n 0  S
set_option maxRecDepth 20000 in
set_option maxHeartbeats 4000000 in
theorem G39l {xs : Nat → Int32} {L9 d : Nat} {G : gS} {h : Nat → va_E} {Q : Option Value → AmH → Prop} {r0 : Int32} {S0 : xS} (hQ : Q (some (.int r0)) (xst S0 G h)) : ∀ n : Nat, (∀ (S : xS), G39f n 0  S = some (r0, S0) → Go (am_X xs L9) (d + 3) 39 0 [.ref 67, .ref 65, .float 0] [] (xst S G h) Q) := by
  intro n
  induction n with
  | zero => exact fun  S hf => (by cases hf)
  | succ n ih =>
    intro  S hf
    rw [G39e0] at hf
    unfold G39b0 at hf
    refine r_aload_n fe_39_0 rfl ?_
    refine r_iconst (v := 2) fe_39_1 (by decide) ?_
    refine r_bipush (v := 16) fe_39_2 (by decide) ?_
    refine r_callV (as := [.int 2, .int 16]) (r := []) fe_39_4 lm_5_72 md_40 rfl rfl (Nat.le_of_ble_eq_true rfl) (x_c xk_65 (by decide)) (x_lt xk_65 (by decide)) (Nat.le_of_ble_eq_true rfl) (Nat.le_of_ble_eq_true rfl) ?_
    cases hc2 : G40 n 2 16 S with
    | none => rw [hc2] at hf; cases hf
    | some z1 =>
      rw [hc2, Option.bind_some] at hf
      refine G40c (r0 := z1.1) (S0 := z1.2)  (hf := hc2) ?_
      refine r_istore_n fe_39_7 (Nat.le_of_ble_eq_true rfl) rfl ?_
      refine r_iload_n fe_39_8 rfl ?_
      refine r_iconst (v := -1) fe_39_9 (by decide) ?_
      by_cases hb3 : am_ic .ne z1.1 (-1) = true
      · rw [if_pos hb3] at hf
        refine r_ic_t (t := 15) fe_39_10 (by decide) hb3 ?_
        refine r_aload_n fe_39_15 rfl ?_
        refine r_getf (v := .ref 68) fe_39_16 lf_5_12 (x_c xk_67 (by decide)) (x_lt xk_67 (by decide)) rfl ?_
        refine r_iload_n fe_39_19 rfl ?_
        refine r_callV (as := [.int z1.1]) (r := []) fe_39_20 lm_5_30 md_18 rfl rfl (Nat.le_of_ble_eq_true rfl) (x_c xk_68 (by decide)) (x_lt xk_68 (by decide)) (Nat.le_of_ble_eq_true rfl) (Nat.le_of_ble_eq_true rfl) ?_
        cases hc5 : G18 68 n z1.1 z1.2 with
        | none => rw [hc5] at hf; cases hf
        | some z4 =>
          rw [hc5, Option.bind_some] at hf
          refine G18c (r0 := z4.1) (S0 := z4.2) (h0 := bS_68) (hf := hc5) ?_
          refine r_iconst (v := 1) fe_39_23 (by decide) ?_
          refine r_iret fe_39_24 ⟨rfl, by decide⟩ ?_
          exact dfin (P := fun r T => Q (some (.int r)) (xst T G h)) hf hQ
      · rw [if_neg hb3] at hf
        refine r_ic_f (t := 15) fe_39_10 (by decide) (Bool.eq_false_iff.mpr hb3) ?_
        refine r_iconst (v := 0) fe_39_13 (by decide) ?_
        refine r_iret fe_39_14 ⟨rfl, by decide⟩ ?_
        exact dfin (P := fun r T => Q (some (.int r)) (xst T G h)) hf hQ
theorem G39c {xs : Nat → Int32} {L9 d : Nat} {G : gS} {h : Nat → va_E} {n : Nat} {Q : Option Value → AmH → Prop} {r0 : Int32} {S0 S : xS}  (hf : G39 n  S = some (r0, S0)) (hQ : Q (some (.int r0)) (xst S0 G h)) : Ca (am_X xs L9) (d + 3) 39 [.ref 67, .ref 65] (xst S G h) Q := (G39l hQ n)  S hf
def G43b0 (F : Nat → Int32 → Int32 → xS → Option (Int32 × xS)) (n : Nat) (l1 : Int32) (l2 : Int32) (S : xS) : Option (Int32 × xS) := (if ((l1).toInt < 4 ∨ 6 < (l1).toInt) then some (0, S) else (if l1 = 4 then (if ¬ (l2 < 0 ∨ 16 ≤ (l2).toNatClampNeg) then (if am_if .lt (S.2.1 71 (Int32.toNatClampNeg l2)) = true then some (0, S) else some (1, S)) else none) else (if l1 = 5 then (if ¬ (l2 < 0 ∨ 16 ≤ (l2).toNatClampNeg) then (if am_if .lt (S.2.1 72 (Int32.toNatClampNeg l2)) = true then some (0, S) else some (1, S)) else none) else (if l1 = 6 then (if ¬ (l2 < 0 ∨ 16 ≤ (l2).toNatClampNeg) then (if am_if .le (S.2.1 83 (Int32.toNatClampNeg l2)) = true then some (0, S) else some (1, S)) else none) else none))))
def G43f : Nat → Nat → Int32 → Int32 → xS → Option (Int32 × xS)
  | 0, _, _, _, _ => none
  | n + 1, c, l1, l2, S => G43b0 (G43f n) n l1 l2 S
theorem G43e0 (n : Nat) (l1 : Int32) (l2 : Int32) (S : xS) : G43f (n + 1) 0 l1 l2 S = G43b0 (G43f n) n l1 l2 S := rfl
def G43 (n : Nat) (l1 : Int32) (l2 : Int32) (S : xS) : Option (Int32 × xS) := G43f n 0 l1 l2 S
set_option maxRecDepth 20000 in
set_option maxHeartbeats 4000000 in
theorem G43l {xs : Nat → Int32} {L9 d : Nat} {G : gS} {h : Nat → va_E} {Q : Option Value → AmH → Prop} {r0 : Int32} {S0 : xS} (hQ : Q (some (.int r0)) (xst S0 G h)) : ∀ n : Nat, (∀ (l1 : Int32) (l2 : Int32) (S : xS), G43f n 0 l1 l2 S = some (r0, S0) → Go (am_X xs L9) (d + 0) 43 0 [.ref 67, .int l1, .int l2] [] (xst S G h) Q) := by
  intro n
  induction n with
  | zero => exact fun l1 l2 S hf => (by cases hf)
  | succ n ih =>
    intro l1 l2 S hf
    rw [G43e0] at hf
    unfold G43b0 at hf
    refine r_iload_n fe_43_0 rfl ?_
    by_cases hs1 : ((l1).toInt < 4 ∨ 6 < (l1).toInt)
    · rw [if_pos hs1] at hf
      refine r_tabO (t := 82) fe_43_1 hs1 (by decide) ?_
      refine r_iconst (v := 0) fe_43_82 (by decide) ?_
      refine r_iret fe_43_83 ⟨rfl, by decide⟩ ?_
      exact dfin (P := fun r T => Q (some (.int r)) (xst T G h)) hf hQ
    · rw [if_neg hs1] at hf
      by_cases hx2 : l1 = 4
      · rw [if_pos hx2] at hf
        refine r_tabI (off := 27) (t := 28) fe_43_1 hs1 (by rw [hx2]; decide) (by decide) ?_
        refine r_aload_n fe_43_28 rfl ?_
        refine r_getf (v := .ref 68) fe_43_29 lf_5_12 (x_c xk_67 (by decide)) (x_lt xk_67 (by decide)) rfl ?_
        refine r_getf (v := .ref 71) fe_43_32 lf_5_114 (x_c xk_68 (by decide)) (x_lt xk_68 (by decide)) rfl ?_
        refine r_iload_n fe_43_35 rfl ?_
        by_cases hg3 : ¬ (l2 < 0 ∨ 16 ≤ (l2).toNatClampNeg)
        rotate_left
        · rw [if_neg hg3] at hf; cases hf
        rw [if_pos hg3] at hf
        refine r_iald (j := (Int32.toNatClampNeg l2)) (v := S.2.1 71 (Int32.toNatClampNeg l2)) fe_43_36 (x_c xk_71 (by decide)) (x_lt xk_71 (by decide)) (fun z => hg3 (Or.inl z)) rfl (fun z => hg3 (Or.inr z)) rfl ?_
        by_cases hb4 : am_if .lt (S.2.1 71 (Int32.toNatClampNeg l2)) = true
        · rw [if_pos hb4] at hf
          refine r_if_t (t := 44) fe_43_37 (by decide) hb4 ?_
          refine r_iconst (v := 0) fe_43_44 (by decide) ?_
          refine r_iret fe_43_45 ⟨rfl, by decide⟩ ?_
          exact dfin (P := fun r T => Q (some (.int r)) (xst T G h)) hf hQ
        · rw [if_neg hb4] at hf
          refine r_if_f (t := 44) fe_43_37 (by decide) (Bool.eq_false_iff.mpr hb4) ?_
          refine r_iconst (v := 1) fe_43_40 (by decide) ?_
          refine r_goto (t := 45) fe_43_41 (by decide) ?_
          refine r_iret fe_43_45 ⟨rfl, by decide⟩ ?_
          exact dfin (P := fun r T => Q (some (.int r)) (xst T G h)) hf hQ
      · rw [if_neg hx2] at hf
        by_cases hx5 : l1 = 5
        · rw [if_pos hx5] at hf
          refine r_tabI (off := 45) (t := 46) fe_43_1 hs1 (by rw [hx5]; decide) (by decide) ?_
          refine r_aload_n fe_43_46 rfl ?_
          refine r_getf (v := .ref 68) fe_43_47 lf_5_12 (x_c xk_67 (by decide)) (x_lt xk_67 (by decide)) rfl ?_
          refine r_getf (v := .ref 72) fe_43_50 lf_5_117 (x_c xk_68 (by decide)) (x_lt xk_68 (by decide)) rfl ?_
          refine r_iload_n fe_43_53 rfl ?_
          by_cases hg6 : ¬ (l2 < 0 ∨ 16 ≤ (l2).toNatClampNeg)
          rotate_left
          · rw [if_neg hg6] at hf; cases hf
          rw [if_pos hg6] at hf
          refine r_iald (j := (Int32.toNatClampNeg l2)) (v := S.2.1 72 (Int32.toNatClampNeg l2)) fe_43_54 (x_c xk_72 (by decide)) (x_lt xk_72 (by decide)) (fun z => hg6 (Or.inl z)) rfl (fun z => hg6 (Or.inr z)) rfl ?_
          by_cases hb7 : am_if .lt (S.2.1 72 (Int32.toNatClampNeg l2)) = true
          · rw [if_pos hb7] at hf
            refine r_if_t (t := 62) fe_43_55 (by decide) hb7 ?_
            refine r_iconst (v := 0) fe_43_62 (by decide) ?_
            refine r_iret fe_43_63 ⟨rfl, by decide⟩ ?_
            exact dfin (P := fun r T => Q (some (.int r)) (xst T G h)) hf hQ
          · rw [if_neg hb7] at hf
            refine r_if_f (t := 62) fe_43_55 (by decide) (Bool.eq_false_iff.mpr hb7) ?_
            refine r_iconst (v := 1) fe_43_58 (by decide) ?_
            refine r_goto (t := 63) fe_43_59 (by decide) ?_
            refine r_iret fe_43_63 ⟨rfl, by decide⟩ ?_
            exact dfin (P := fun r T => Q (some (.int r)) (xst T G h)) hf hQ
        · rw [if_neg hx5] at hf
          by_cases hx8 : l1 = 6
          · rw [if_pos hx8] at hf
            refine r_tabI (off := 63) (t := 64) fe_43_1 hs1 (by rw [hx8]; decide) (by decide) ?_
            refine r_aload_n fe_43_64 rfl ?_
            refine r_getf (v := .ref 74) fe_43_65 lf_5_21 (x_c xk_67 (by decide)) (x_lt xk_67 (by decide)) rfl ?_
            refine r_getf (v := .ref 83) fe_43_68 lf_5_108 (x_c xk_74 (by decide)) (x_lt xk_74 (by decide)) rfl ?_
            refine r_iload_n fe_43_71 rfl ?_
            by_cases hg9 : ¬ (l2 < 0 ∨ 16 ≤ (l2).toNatClampNeg)
            rotate_left
            · rw [if_neg hg9] at hf; cases hf
            rw [if_pos hg9] at hf
            refine r_iald (j := (Int32.toNatClampNeg l2)) (v := S.2.1 83 (Int32.toNatClampNeg l2)) fe_43_72 (x_c xk_83 (by decide)) (x_lt xk_83 (by decide)) (fun z => hg9 (Or.inl z)) rfl (fun z => hg9 (Or.inr z)) rfl ?_
            by_cases hb10 : am_if .le (S.2.1 83 (Int32.toNatClampNeg l2)) = true
            · rw [if_pos hb10] at hf
              refine r_if_t (t := 80) fe_43_73 (by decide) hb10 ?_
              refine r_iconst (v := 0) fe_43_80 (by decide) ?_
              refine r_iret fe_43_81 ⟨rfl, by decide⟩ ?_
              exact dfin (P := fun r T => Q (some (.int r)) (xst T G h)) hf hQ
            · rw [if_neg hb10] at hf
              refine r_if_f (t := 80) fe_43_73 (by decide) (Bool.eq_false_iff.mpr hb10) ?_
              refine r_iconst (v := 1) fe_43_76 (by decide) ?_
              refine r_goto (t := 81) fe_43_77 (by decide) ?_
              refine r_iret fe_43_81 ⟨rfl, by decide⟩ ?_
              exact dfin (P := fun r T => Q (some (.int r)) (xst T G h)) hf hQ
          · rw [if_neg hx8] at hf
            cases hf
theorem G43c {xs : Nat → Int32} {L9 d : Nat} {G : gS} {h : Nat → va_E} {n : Nat} {Q : Option Value → AmH → Prop} {r0 : Int32} {S0 S : xS} {l1 : Int32} {l2 : Int32} (hf : G43 n l1 l2 S = some (r0, S0)) (hQ : Q (some (.int r0)) (xst S0 G h)) : Ca (am_X xs L9) (d + 0) 43 [.ref 67, .int l1, .int l2] (xst S G h) Q := (G43l hQ n) l1 l2 S hf
def G46b0 (F : Nat → Int32 → xS → Option (Int32 × xS)) (n : Nat) (l1 : Int32) (S : xS) : Option (Int32 × xS) := (if am_ic .ge l1 (S.1 65 1) = true then some (0, S) else (if ¬ (l1 < 0 ∨ 400 ≤ (l1).toNatClampNeg) then (if am_ic .lt (S.2.1 66 (Int32.toNatClampNeg l1)) 97 = true then some (0, S) else (if ¬ (l1 < 0 ∨ 400 ≤ (l1).toNatClampNeg) then (if am_ic .gt (S.2.1 66 (Int32.toNatClampNeg l1)) 122 = true then some (0, S) else some (1, S)) else none)) else none))
def G46f : Nat → Nat → Int32 → xS → Option (Int32 × xS)
  | 0, _, _, _ => none
  | n + 1, c, l1, S => G46b0 (G46f n) n l1 S
theorem G46e0 (n : Nat) (l1 : Int32) (S : xS) : G46f (n + 1) 0 l1 S = G46b0 (G46f n) n l1 S := rfl
def G46 (n : Nat) (l1 : Int32) (S : xS) : Option (Int32 × xS) := G46f n 0 l1 S
set_option maxRecDepth 20000 in
set_option maxHeartbeats 4000000 in
theorem G46l {xs : Nat → Int32} {L9 d : Nat} {G : gS} {h : Nat → va_E} {Q : Option Value → AmH → Prop} {r0 : Int32} {S0 : xS} (hQ : Q (some (.int r0)) (xst S0 G h)) : ∀ n : Nat, (∀ (l1 : Int32) (S : xS), G46f n 0 l1 S = some (r0, S0) → Go (am_X xs L9) (d + 0) 46 0 [.ref 65, .int l1] [] (xst S G h) Q) := by
  intro n
  induction n with
  | zero => exact fun l1 S hf => (by cases hf)
  | succ n ih =>
    intro l1 S hf
    rw [G46e0] at hf
    unfold G46b0 at hf
    refine r_iload_n fe_46_0 rfl ?_
    refine r_aload_n fe_46_1 rfl ?_
    refine r_getf (v := .int (S.1 65 1)) fe_46_2 lf_8_15 (x_c xk_65 (by decide)) (x_lt xk_65 (by decide)) rfl ?_
    by_cases hb1 : am_ic .ge l1 (S.1 65 1) = true
    · rw [if_pos hb1] at hf
      refine r_ic_t (t := 34) fe_46_5 (by decide) hb1 ?_
      refine r_iconst (v := 0) fe_46_34 (by decide) ?_
      refine r_iret fe_46_35 ⟨rfl, by decide⟩ ?_
      exact dfin (P := fun r T => Q (some (.int r)) (xst T G h)) hf hQ
    · rw [if_neg hb1] at hf
      refine r_ic_f (t := 34) fe_46_5 (by decide) (Bool.eq_false_iff.mpr hb1) ?_
      refine r_aload_n fe_46_8 rfl ?_
      refine r_getf (v := .ref 66) fe_46_9 lf_8_9 (x_c xk_65 (by decide)) (x_lt xk_65 (by decide)) rfl ?_
      refine r_iload_n fe_46_12 rfl ?_
      by_cases hg2 : ¬ (l1 < 0 ∨ 400 ≤ (l1).toNatClampNeg)
      rotate_left
      · rw [if_neg hg2] at hf; cases hf
      rw [if_pos hg2] at hf
      refine r_iald (j := (Int32.toNatClampNeg l1)) (v := S.2.1 66 (Int32.toNatClampNeg l1)) fe_46_13 (x_c xk_66 (by decide)) (x_lt xk_66 (by decide)) (fun z => hg2 (Or.inl z)) rfl (fun z => hg2 (Or.inr z)) rfl ?_
      refine r_bipush (v := 97) fe_46_14 (by decide) ?_
      by_cases hb3 : am_ic .lt (S.2.1 66 (Int32.toNatClampNeg l1)) 97 = true
      · rw [if_pos hb3] at hf
        refine r_ic_t (t := 34) fe_46_16 (by decide) hb3 ?_
        refine r_iconst (v := 0) fe_46_34 (by decide) ?_
        refine r_iret fe_46_35 ⟨rfl, by decide⟩ ?_
        exact dfin (P := fun r T => Q (some (.int r)) (xst T G h)) hf hQ
      · rw [if_neg hb3] at hf
        refine r_ic_f (t := 34) fe_46_16 (by decide) (Bool.eq_false_iff.mpr hb3) ?_
        refine r_aload_n fe_46_19 rfl ?_
        refine r_getf (v := .ref 66) fe_46_20 lf_8_9 (x_c xk_65 (by decide)) (x_lt xk_65 (by decide)) rfl ?_
        refine r_iload_n fe_46_23 rfl ?_
        by_cases hg4 : ¬ (l1 < 0 ∨ 400 ≤ (l1).toNatClampNeg)
        rotate_left
        · rw [if_neg hg4] at hf; cases hf
        rw [if_pos hg4] at hf
        refine r_iald (j := (Int32.toNatClampNeg l1)) (v := S.2.1 66 (Int32.toNatClampNeg l1)) fe_46_24 (x_c xk_66 (by decide)) (x_lt xk_66 (by decide)) (fun z => hg4 (Or.inl z)) rfl (fun z => hg4 (Or.inr z)) rfl ?_
        refine r_bipush (v := 122) fe_46_25 (by decide) ?_
        by_cases hb5 : am_ic .gt (S.2.1 66 (Int32.toNatClampNeg l1)) 122 = true
        · rw [if_pos hb5] at hf
          refine r_ic_t (t := 34) fe_46_27 (by decide) hb5 ?_
          refine r_iconst (v := 0) fe_46_34 (by decide) ?_
          refine r_iret fe_46_35 ⟨rfl, by decide⟩ ?_
          exact dfin (P := fun r T => Q (some (.int r)) (xst T G h)) hf hQ
        · rw [if_neg hb5] at hf
          refine r_ic_f (t := 34) fe_46_27 (by decide) (Bool.eq_false_iff.mpr hb5) ?_
          refine r_iconst (v := 1) fe_46_30 (by decide) ?_
          refine r_goto (t := 35) fe_46_31 (by decide) ?_
          refine r_iret fe_46_35 ⟨rfl, by decide⟩ ?_
          exact dfin (P := fun r T => Q (some (.int r)) (xst T G h)) hf hQ
theorem G46c {xs : Nat → Int32} {L9 d : Nat} {G : gS} {h : Nat → va_E} {n : Nat} {Q : Option Value → AmH → Prop} {r0 : Int32} {S0 S : xS} {l1 : Int32} (hf : G46 n l1 S = some (r0, S0)) (hQ : Q (some (.int r0)) (xst S0 G h)) : Ca (am_X xs L9) (d + 0) 46 [.ref 65, .int l1] (xst S G h) Q := (G46l hQ n) l1 S hf
def G45b0 (F : Nat → Int32 → Int32 → Int32 → xS → Option (Int32 × xS)) (n : Nat) (l1 : Int32) (l2 : Int32) (l3 : Int32) (S : xS) : Option (Int32 × xS) := ((G23 n  S).bind (fun z1 => ((G46 n (z1.2.1 65 2) z1.2).bind (fun z3 => (if am_if .ne z3.1 = true then F 32 l1 0 0 z3.2 else ((G36 n (z3.2.1 65 2) 0 z3.2).bind (fun z6 => some ((-1), z6.2))))))))
def G45b32 (F : Nat → Int32 → Int32 → Int32 → xS → Option (Int32 × xS)) (n : Nat) (l1 : Int32) (l2 : Int32) (l3 : Int32) (S : xS) : Option (Int32 × xS) := (if am_ic .gt l3 l1 = true then some (l2, S) else ((G46 n (S.1 65 2) S).bind (fun z9 => (if am_if .eq z9.1 = true then some (l2, z9.2) else (if am_ic .eq l3 l1 = true then ((G36 n (z9.2.1 65 2) 0 z9.2).bind (fun z13 => some ((-1), z13.2))) else (if ¬ ((z9.2.1 65 2) < 0 ∨ 400 ≤ ((z9.2.1 65 2)).toNatClampNeg) then (if am_ic .lt (z9.2.2.1 66 (Int32.toNatClampNeg (z9.2.1 65 2))) 103 = true then (if ¬ ((z9.2.1 65 2) < 0 ∨ 400 ≤ ((z9.2.1 65 2)).toNatClampNeg) then F 32 l1 ((((l2 * 10) + (z9.2.2.1 66 (Int32.toNatClampNeg (z9.2.1 65 2)))) - 97) + 1) (l3 + 1) (x_sI z9.2 65 2 ((z9.2.1 65 2) + 1)) else none) else ((G36 n (z9.2.1 65 2) 0 z9.2).bind (fun z18 => some ((-1), z18.2)))) else none))))))
def G45f : Nat → Nat → Int32 → Int32 → Int32 → xS → Option (Int32 × xS)
  | 0, _, _, _, _, _ => none
  | n + 1, c, l1, l2, l3, S => if c = 0 then G45b0 (G45f n) n l1 l2 l3 S else G45b32 (G45f n) n l1 l2 l3 S
theorem G45e0 (n : Nat) (l1 : Int32) (l2 : Int32) (l3 : Int32) (S : xS) : G45f (n + 1) 0 l1 l2 l3 S = G45b0 (G45f n) n l1 l2 l3 S := if_pos rfl
theorem G45e32 (n : Nat) (l1 : Int32) (l2 : Int32) (l3 : Int32) (S : xS) : G45f (n + 1) 32 l1 l2 l3 S = G45b32 (G45f n) n l1 l2 l3 S := if_neg (by decide)
def G45 (n : Nat) (l1 : Int32) (S : xS) : Option (Int32 × xS) := G45f n 0 l1 0 0 S
set_option maxRecDepth 20000 in
set_option maxHeartbeats 4000000 in
theorem G45l {xs : Nat → Int32} {L9 d : Nat} {G : gS} {h : Nat → va_E} {Q : Option Value → AmH → Prop} {r0 : Int32} {S0 : xS} (hQ : Q (some (.int r0)) (xst S0 G h)) : ∀ n : Nat, (∀ (l1 : Int32) (l2 : Int32) (l3 : Int32) (S : xS), G45f n 0 l1 l2 l3 S = some (r0, S0) → Go (am_X xs L9) (d + 1) 45 0 [.ref 65, .int l1, .float 0, .float 0] [] (xst S G h) Q) ∧ (∀ (l1 : Int32) (l2 : Int32) (l3 : Int32) (S : xS), G45f n 32 l1 l2 l3 S = some (r0, S0) → Go (am_X xs L9) (d + 1) 45 32 [.ref 65, .int l1, .int l2, .int l3] [] (xst S G h) Q) := by
  intro n
  induction n with
  | zero => exact ⟨fun l1 l2 l3 S hf => (by cases hf), fun l1 l2 l3 S hf => (by cases hf)⟩
  | succ n ih =>
    refine ⟨?_, ?_⟩
    · intro l1 l2 l3 S hf
      rw [G45e0] at hf
      unfold G45b0 at hf
      refine r_aload_n fe_45_0 rfl ?_
      refine r_callV (as := []) (r := []) fe_45_1 lm_8_28 md_23 rfl rfl (Nat.le_of_ble_eq_true rfl) (x_c xk_65 (by decide)) (x_lt xk_65 (by decide)) (Nat.le_of_ble_eq_true rfl) (Nat.le_of_ble_eq_true rfl) ?_
      cases hc2 : G23 n  S with
      | none => rw [hc2] at hf; cases hf
      | some z1 =>
        rw [hc2, Option.bind_some] at hf
        refine G23c (r0 := z1.1) (S0 := z1.2)  (hf := hc2) ?_
        refine r_pop fe_45_4 rfl ?_
        refine r_aload_n fe_45_5 rfl ?_
        refine r_aload_n fe_45_6 rfl ?_
        refine r_getf (v := .int (z1.2.1 65 2)) fe_45_7 lf_8_19 (x_c xk_65 (by decide)) (x_lt xk_65 (by decide)) rfl ?_
        refine r_callV (as := [.int (z1.2.1 65 2)]) (r := []) fe_45_10 lm_8_39 md_46 rfl rfl (Nat.le_of_ble_eq_true rfl) (x_c xk_65 (by decide)) (x_lt xk_65 (by decide)) (Nat.le_of_ble_eq_true rfl) (Nat.le_of_ble_eq_true rfl) ?_
        cases hc4 : G46 n (z1.2.1 65 2) z1.2 with
        | none => rw [hc4] at hf; cases hf
        | some z3 =>
          rw [hc4, Option.bind_some] at hf
          refine G46c (r0 := z3.1) (S0 := z3.2)  (hf := hc4) ?_
          by_cases hb5 : am_if .ne z3.1 = true
          · rw [if_pos hb5] at hf
            refine r_if_t (t := 28) fe_45_13 (by decide) hb5 ?_
            refine r_iconst (v := 0) fe_45_28 (by decide) ?_
            refine r_istore_n fe_45_29 (Nat.le_of_ble_eq_true rfl) rfl ?_
            refine r_iconst (v := 0) fe_45_30 (by decide) ?_
            refine r_istore_n fe_45_31 (Nat.le_of_ble_eq_true rfl) rfl ?_
            refine go_weak (L0 := [.ref 65, .int l1, .int 0, .int 0]) (lwk_c (Or.inl rfl) (lwk_c (Or.inl rfl) (lwk_c (Or.inl rfl) (lwk_c (Or.inl rfl) (lwk_rf []))))) ?_
            exact ih.2 l1 0 0 z3.2 hf
          · rw [if_neg hb5] at hf
            refine r_if_f (t := 28) fe_45_13 (by decide) (Bool.eq_false_iff.mpr hb5) ?_
            refine r_aload_n fe_45_16 rfl ?_
            refine r_aload_n fe_45_17 rfl ?_
            refine r_getf (v := .int (z3.2.1 65 2)) fe_45_18 lf_8_19 (x_c xk_65 (by decide)) (x_lt xk_65 (by decide)) rfl ?_
            refine r_iconst (v := 0) fe_45_21 (by decide) ?_
            refine r_callV (as := [.int (z3.2.1 65 2), .int 0]) (r := []) fe_45_22 lm_8_32 md_36 rfl rfl (Nat.le_of_ble_eq_true rfl) (x_c xk_65 (by decide)) (x_lt xk_65 (by decide)) (Nat.le_of_ble_eq_true rfl) (Nat.le_of_ble_eq_true rfl) ?_
            cases hc7 : G36 n (z3.2.1 65 2) 0 z3.2 with
            | none => rw [hc7] at hf; cases hf
            | some z6 =>
              rw [hc7, Option.bind_some] at hf
              refine G36c (r0 := z6.1) (S0 := z6.2)  (hf := hc7) ?_
              refine r_pop fe_45_25 rfl ?_
              refine r_iconst (v := -1) fe_45_26 (by decide) ?_
              refine r_iret fe_45_27 ⟨rfl, by decide⟩ ?_
              exact dfin (P := fun r T => Q (some (.int r)) (xst T G h)) hf hQ
    · intro l1 l2 l3 S hf
      rw [G45e32] at hf
      unfold G45b32 at hf
      refine r_iload_n fe_45_32 rfl ?_
      refine r_iload_n fe_45_33 rfl ?_
      by_cases hb8 : am_ic .gt l3 l1 = true
      · rw [if_pos hb8] at hf
        refine r_ic_t (t := 115) fe_45_34 (by decide) hb8 ?_
        refine r_iload_n fe_45_115 rfl ?_
        refine r_iret fe_45_116 ⟨rfl, by decide⟩ ?_
        exact dfin (P := fun r T => Q (some (.int r)) (xst T G h)) hf hQ
      · rw [if_neg hb8] at hf
        refine r_ic_f (t := 115) fe_45_34 (by decide) (Bool.eq_false_iff.mpr hb8) ?_
        refine r_aload_n fe_45_37 rfl ?_
        refine r_aload_n fe_45_38 rfl ?_
        refine r_getf (v := .int (S.1 65 2)) fe_45_39 lf_8_19 (x_c xk_65 (by decide)) (x_lt xk_65 (by decide)) rfl ?_
        refine r_callV (as := [.int (S.1 65 2)]) (r := []) fe_45_42 lm_8_39 md_46 rfl rfl (Nat.le_of_ble_eq_true rfl) (x_c xk_65 (by decide)) (x_lt xk_65 (by decide)) (Nat.le_of_ble_eq_true rfl) (Nat.le_of_ble_eq_true rfl) ?_
        cases hc10 : G46 n (S.1 65 2) S with
        | none => rw [hc10] at hf; cases hf
        | some z9 =>
          rw [hc10, Option.bind_some] at hf
          refine G46c (r0 := z9.1) (S0 := z9.2)  (hf := hc10) ?_
          by_cases hb11 : am_if .eq z9.1 = true
          · rw [if_pos hb11] at hf
            refine r_if_t (t := 115) fe_45_45 (by decide) hb11 ?_
            refine r_iload_n fe_45_115 rfl ?_
            refine r_iret fe_45_116 ⟨rfl, by decide⟩ ?_
            exact dfin (P := fun r T => Q (some (.int r)) (xst T G h)) hf hQ
          · rw [if_neg hb11] at hf
            refine r_if_f (t := 115) fe_45_45 (by decide) (Bool.eq_false_iff.mpr hb11) ?_
            refine r_iload_n fe_45_48 rfl ?_
            refine r_iload_n fe_45_49 rfl ?_
            by_cases hb12 : am_ic .eq l3 l1 = true
            · rw [if_pos hb12] at hf
              refine r_ic_t (t := 67) fe_45_50 (by decide) hb12 ?_
              refine r_aload_n fe_45_67 rfl ?_
              refine r_aload_n fe_45_68 rfl ?_
              refine r_getf (v := .int (z9.2.1 65 2)) fe_45_69 lf_8_19 (x_c xk_65 (by decide)) (x_lt xk_65 (by decide)) rfl ?_
              refine r_iconst (v := 0) fe_45_72 (by decide) ?_
              refine r_callV (as := [.int (z9.2.1 65 2), .int 0]) (r := []) fe_45_73 lm_8_32 md_36 rfl rfl (Nat.le_of_ble_eq_true rfl) (x_c xk_65 (by decide)) (x_lt xk_65 (by decide)) (Nat.le_of_ble_eq_true rfl) (Nat.le_of_ble_eq_true rfl) ?_
              cases hc14 : G36 n (z9.2.1 65 2) 0 z9.2 with
              | none => rw [hc14] at hf; cases hf
              | some z13 =>
                rw [hc14, Option.bind_some] at hf
                refine G36c (r0 := z13.1) (S0 := z13.2)  (hf := hc14) ?_
                refine r_pop fe_45_76 rfl ?_
                refine r_iconst (v := -1) fe_45_77 (by decide) ?_
                refine r_iret fe_45_78 ⟨rfl, by decide⟩ ?_
                exact dfin (P := fun r T => Q (some (.int r)) (xst T G h)) hf hQ
            · rw [if_neg hb12] at hf
              refine r_ic_f (t := 67) fe_45_50 (by decide) (Bool.eq_false_iff.mpr hb12) ?_
              refine r_aload_n fe_45_53 rfl ?_
              refine r_getf (v := .ref 66) fe_45_54 lf_8_9 (x_c xk_65 (by decide)) (x_lt xk_65 (by decide)) rfl ?_
              refine r_aload_n fe_45_57 rfl ?_
              refine r_getf (v := .int (z9.2.1 65 2)) fe_45_58 lf_8_19 (x_c xk_65 (by decide)) (x_lt xk_65 (by decide)) rfl ?_
              by_cases hg15 : ¬ ((z9.2.1 65 2) < 0 ∨ 400 ≤ ((z9.2.1 65 2)).toNatClampNeg)
              rotate_left
              · rw [if_neg hg15] at hf; cases hf
              rw [if_pos hg15] at hf
              refine r_iald (j := (Int32.toNatClampNeg (z9.2.1 65 2))) (v := z9.2.2.1 66 (Int32.toNatClampNeg (z9.2.1 65 2))) fe_45_61 (x_c xk_66 (by decide)) (x_lt xk_66 (by decide)) (fun z => hg15 (Or.inl z)) rfl (fun z => hg15 (Or.inr z)) rfl ?_
              refine r_bipush (v := 103) fe_45_62 (by decide) ?_
              by_cases hb16 : am_ic .lt (z9.2.2.1 66 (Int32.toNatClampNeg (z9.2.1 65 2))) 103 = true
              · rw [if_pos hb16] at hf
                refine r_ic_t (t := 79) fe_45_64 (by decide) hb16 ?_
                refine r_iload_n fe_45_79 rfl ?_
                refine r_bipush (v := 10) fe_45_80 (by decide) ?_
                refine r_imul (v := (l2 * 10)) fe_45_82 rfl ?_
                refine r_aload_n fe_45_83 rfl ?_
                refine r_getf (v := .ref 66) fe_45_84 lf_8_9 (x_c xk_65 (by decide)) (x_lt xk_65 (by decide)) rfl ?_
                refine r_aload_n fe_45_87 rfl ?_
                refine r_getf (v := .int (z9.2.1 65 2)) fe_45_88 lf_8_19 (x_c xk_65 (by decide)) (x_lt xk_65 (by decide)) rfl ?_
                by_cases hg17 : ¬ ((z9.2.1 65 2) < 0 ∨ 400 ≤ ((z9.2.1 65 2)).toNatClampNeg)
                rotate_left
                · rw [if_neg hg17] at hf; cases hf
                rw [if_pos hg17] at hf
                refine r_iald (j := (Int32.toNatClampNeg (z9.2.1 65 2))) (v := z9.2.2.1 66 (Int32.toNatClampNeg (z9.2.1 65 2))) fe_45_91 (x_c xk_66 (by decide)) (x_lt xk_66 (by decide)) (fun z => hg17 (Or.inl z)) rfl (fun z => hg17 (Or.inr z)) rfl ?_
                refine r_iadd (v := ((l2 * 10) + (z9.2.2.1 66 (Int32.toNatClampNeg (z9.2.1 65 2))))) fe_45_92 rfl ?_
                refine r_bipush (v := 97) fe_45_93 (by decide) ?_
                refine r_isub (v := (((l2 * 10) + (z9.2.2.1 66 (Int32.toNatClampNeg (z9.2.1 65 2)))) - 97)) fe_45_95 rfl ?_
                refine r_iconst (v := 1) fe_45_96 (by decide) ?_
                refine r_iadd (v := ((((l2 * 10) + (z9.2.2.1 66 (Int32.toNatClampNeg (z9.2.1 65 2)))) - 97) + 1)) fe_45_97 rfl ?_
                refine r_istore_n fe_45_98 (Nat.le_of_ble_eq_true rfl) rfl ?_
                refine r_aload_n fe_45_99 rfl ?_
                refine r_dup fe_45_100 rfl ?_
                refine r_getf (v := .int (z9.2.1 65 2)) fe_45_101 lf_8_19 (x_c xk_65 (by decide)) (x_lt xk_65 (by decide)) rfl ?_
                refine r_iconst (v := 1) fe_45_104 (by decide) ?_
                refine r_iadd (v := ((z9.2.1 65 2) + 1)) fe_45_105 rfl ?_
                refine r_putf fe_45_106 lf_8_19 (x_h xk_65 (by decide)) (x_lt xk_65 (by decide)) (by decide) (Nat.le_of_ble_eq_true rfl) rfl rfl (Or.inl rfl) ?_
                refine go_heap (x_uI (j := 2) (x := ((z9.2.1 65 2) + 1)) xk_65 (by decide)) ?_
                refine r_iinc (v := (l3 + 1)) fe_45_109 rfl rfl rfl ?_
                refine r_goto (t := 32) fe_45_112 (by decide) ?_
                refine go_weak (L0 := [.ref 65, .int l1, .int ((((l2 * 10) + (z9.2.2.1 66 (Int32.toNatClampNeg (z9.2.1 65 2)))) - 97) + 1), .int (l3 + 1)]) (lwk_c (Or.inl rfl) (lwk_c (Or.inl rfl) (lwk_c (Or.inl rfl) (lwk_c (Or.inl rfl) (lwk_rf []))))) ?_
                exact ih.2 l1 ((((l2 * 10) + (z9.2.2.1 66 (Int32.toNatClampNeg (z9.2.1 65 2)))) - 97) + 1) (l3 + 1) (x_sI z9.2 65 2 ((z9.2.1 65 2) + 1)) hf
              · rw [if_neg hb16] at hf
                refine r_ic_f (t := 79) fe_45_64 (by decide) (Bool.eq_false_iff.mpr hb16) ?_
                refine r_aload_n fe_45_67 rfl ?_
                refine r_aload_n fe_45_68 rfl ?_
                refine r_getf (v := .int (z9.2.1 65 2)) fe_45_69 lf_8_19 (x_c xk_65 (by decide)) (x_lt xk_65 (by decide)) rfl ?_
                refine r_iconst (v := 0) fe_45_72 (by decide) ?_
                refine r_callV (as := [.int (z9.2.1 65 2), .int 0]) (r := []) fe_45_73 lm_8_32 md_36 rfl rfl (Nat.le_of_ble_eq_true rfl) (x_c xk_65 (by decide)) (x_lt xk_65 (by decide)) (Nat.le_of_ble_eq_true rfl) (Nat.le_of_ble_eq_true rfl) ?_
                cases hc19 : G36 n (z9.2.1 65 2) 0 z9.2 with
                | none => rw [hc19] at hf; cases hf
                | some z18 =>
                  rw [hc19, Option.bind_some] at hf
                  refine G36c (r0 := z18.1) (S0 := z18.2)  (hf := hc19) ?_
                  refine r_pop fe_45_76 rfl ?_
                  refine r_iconst (v := -1) fe_45_77 (by decide) ?_
                  refine r_iret fe_45_78 ⟨rfl, by decide⟩ ?_
                  exact dfin (P := fun r T => Q (some (.int r)) (xst T G h)) hf hQ
theorem G45c {xs : Nat → Int32} {L9 d : Nat} {G : gS} {h : Nat → va_E} {n : Nat} {Q : Option Value → AmH → Prop} {r0 : Int32} {S0 S : xS} {l1 : Int32} (hf : G45 n l1 S = some (r0, S0)) (hQ : Q (some (.int r0)) (xst S0 G h)) : Ca (am_X xs L9) (d + 1) 45 [.ref 65, .int l1] (xst S G h) Q := (G45l hQ n).1 l1 0 0 S hf
def G44b0 (F : Nat → Int32 → xS → Option (Int32 × xS)) (n : Nat) (l2 : Int32) (S : xS) : Option (Int32 × xS) := (if ((l2).toInt < 1 ∨ 7 < (l2).toInt) then some (0, S) else (if l2 = 1 then ((G40 n 0 ((S.1 68 0) - 1) S).bind (fun z3 => some (z3.1, z3.2))) else (if l2 = 2 then some (0, S) else (if l2 = 3 then ((G40 n 1 9 S).bind (fun z7 => some (z7.1, z7.2))) else (if l2 = 4 then ((G45 n 1 S).bind (fun z10 => some (z10.1, z10.2))) else (if l2 = 5 then some (0, S) else (if l2 = 6 then ((G40 n 1 8 S).bind (fun z14 => some (z14.1, z14.2))) else (if l2 = 7 then ((G45 n 8 S).bind (fun z17 => some (z17.1, z17.2))) else none))))))))
def G44f : Nat → Nat → Int32 → xS → Option (Int32 × xS)
  | 0, _, _, _ => none
  | n + 1, c, l2, S => G44b0 (G44f n) n l2 S
theorem G44e0 (n : Nat) (l2 : Int32) (S : xS) : G44f (n + 1) 0 l2 S = G44b0 (G44f n) n l2 S := rfl
def G44 (n : Nat) (l2 : Int32) (S : xS) : Option (Int32 × xS) := G44f n 0 l2 S
set_option maxRecDepth 20000 in
set_option maxHeartbeats 4000000 in
theorem G44l {xs : Nat → Int32} {L9 d : Nat} {G : gS} {h : Nat → va_E} {Q : Option Value → AmH → Prop} {r0 : Int32} {S0 : xS} (hQ : Q (some (.int r0)) (xst S0 G h)) : ∀ n : Nat, (∀ (l2 : Int32) (S : xS), G44f n 0 l2 S = some (r0, S0) → Go (am_X xs L9) (d + 3) 44 0 [.ref 67, .ref 65, .int l2] [] (xst S G h) Q) := by
  intro n
  induction n with
  | zero => exact fun l2 S hf => (by cases hf)
  | succ n ih =>
    intro l2 S hf
    rw [G44e0] at hf
    unfold G44b0 at hf
    refine r_iload_n fe_44_0 rfl ?_
    by_cases hs1 : ((l2).toInt < 1 ∨ 7 < (l2).toInt)
    · rw [if_pos hs1] at hf
      refine r_tabO (t := 88) fe_44_1 hs1 (by decide) ?_
      refine r_iconst (v := 0) fe_44_88 (by decide) ?_
      refine r_iret fe_44_89 ⟨rfl, by decide⟩ ?_
      exact dfin (P := fun r T => Q (some (.int r)) (xst T G h)) hf hQ
    · rw [if_neg hs1] at hf
      by_cases hx2 : l2 = 1
      · rw [if_pos hx2] at hf
        refine r_tabI (off := 43) (t := 44) fe_44_1 hs1 (by rw [hx2]; decide) (by decide) ?_
        refine r_aload_n fe_44_44 rfl ?_
        refine r_iconst (v := 0) fe_44_45 (by decide) ?_
        refine r_aload_n fe_44_46 rfl ?_
        refine r_getf (v := .ref 68) fe_44_47 lf_5_12 (x_c xk_67 (by decide)) (x_lt xk_67 (by decide)) rfl ?_
        refine r_getf (v := .int (S.1 68 0)) fe_44_50 lf_5_76 (x_c xk_68 (by decide)) (x_lt xk_68 (by decide)) rfl ?_
        refine r_iconst (v := 1) fe_44_53 (by decide) ?_
        refine r_isub (v := ((S.1 68 0) - 1)) fe_44_54 rfl ?_
        refine r_callV (as := [.int 0, .int ((S.1 68 0) - 1)]) (r := []) fe_44_55 lm_5_72 md_40 rfl rfl (Nat.le_of_ble_eq_true rfl) (x_c xk_65 (by decide)) (x_lt xk_65 (by decide)) (Nat.le_of_ble_eq_true rfl) (Nat.le_of_ble_eq_true rfl) ?_
        cases hc4 : G40 n 0 ((S.1 68 0) - 1) S with
        | none => rw [hc4] at hf; cases hf
        | some z3 =>
          rw [hc4, Option.bind_some] at hf
          refine G40c (r0 := z3.1) (S0 := z3.2)  (hf := hc4) ?_
          refine r_iret fe_44_58 ⟨rfl, by decide⟩ ?_
          exact dfin (P := fun r T => Q (some (.int r)) (xst T G h)) hf hQ
      · rw [if_neg hx2] at hf
        by_cases hx5 : l2 = 2
        · rw [if_pos hx5] at hf
          refine r_tabI (off := 87) (t := 88) fe_44_1 hs1 (by rw [hx5]; decide) (by decide) ?_
          refine r_iconst (v := 0) fe_44_88 (by decide) ?_
          refine r_iret fe_44_89 ⟨rfl, by decide⟩ ?_
          exact dfin (P := fun r T => Q (some (.int r)) (xst T G h)) hf hQ
        · rw [if_neg hx5] at hf
          by_cases hx6 : l2 = 3
          · rw [if_pos hx6] at hf
            refine r_tabI (off := 58) (t := 59) fe_44_1 hs1 (by rw [hx6]; decide) (by decide) ?_
            refine r_aload_n fe_44_59 rfl ?_
            refine r_iconst (v := 1) fe_44_60 (by decide) ?_
            refine r_bipush (v := 9) fe_44_61 (by decide) ?_
            refine r_callV (as := [.int 1, .int 9]) (r := []) fe_44_63 lm_5_72 md_40 rfl rfl (Nat.le_of_ble_eq_true rfl) (x_c xk_65 (by decide)) (x_lt xk_65 (by decide)) (Nat.le_of_ble_eq_true rfl) (Nat.le_of_ble_eq_true rfl) ?_
            cases hc8 : G40 n 1 9 S with
            | none => rw [hc8] at hf; cases hf
            | some z7 =>
              rw [hc8, Option.bind_some] at hf
              refine G40c (r0 := z7.1) (S0 := z7.2)  (hf := hc8) ?_
              refine r_iret fe_44_66 ⟨rfl, by decide⟩ ?_
              exact dfin (P := fun r T => Q (some (.int r)) (xst T G h)) hf hQ
          · rw [if_neg hx6] at hf
            by_cases hx9 : l2 = 4
            · rw [if_pos hx9] at hf
              refine r_tabI (off := 66) (t := 67) fe_44_1 hs1 (by rw [hx9]; decide) (by decide) ?_
              refine r_aload_n fe_44_67 rfl ?_
              refine r_iconst (v := 1) fe_44_68 (by decide) ?_
              refine r_callV (as := [.int 1]) (r := []) fe_44_69 lm_5_90 md_45 rfl rfl (Nat.le_of_ble_eq_true rfl) (x_c xk_65 (by decide)) (x_lt xk_65 (by decide)) (Nat.le_of_ble_eq_true rfl) (Nat.le_of_ble_eq_true rfl) ?_
              cases hc11 : G45 n 1 S with
              | none => rw [hc11] at hf; cases hf
              | some z10 =>
                rw [hc11, Option.bind_some] at hf
                refine G45c (r0 := z10.1) (S0 := z10.2)  (hf := hc11) ?_
                refine r_iret fe_44_72 ⟨rfl, by decide⟩ ?_
                exact dfin (P := fun r T => Q (some (.int r)) (xst T G h)) hf hQ
            · rw [if_neg hx9] at hf
              by_cases hx12 : l2 = 5
              · rw [if_pos hx12] at hf
                refine r_tabI (off := 87) (t := 88) fe_44_1 hs1 (by rw [hx12]; decide) (by decide) ?_
                refine r_iconst (v := 0) fe_44_88 (by decide) ?_
                refine r_iret fe_44_89 ⟨rfl, by decide⟩ ?_
                exact dfin (P := fun r T => Q (some (.int r)) (xst T G h)) hf hQ
              · rw [if_neg hx12] at hf
                by_cases hx13 : l2 = 6
                · rw [if_pos hx13] at hf
                  refine r_tabI (off := 72) (t := 73) fe_44_1 hs1 (by rw [hx13]; decide) (by decide) ?_
                  refine r_aload_n fe_44_73 rfl ?_
                  refine r_iconst (v := 1) fe_44_74 (by decide) ?_
                  refine r_bipush (v := 8) fe_44_75 (by decide) ?_
                  refine r_callV (as := [.int 1, .int 8]) (r := []) fe_44_77 lm_5_72 md_40 rfl rfl (Nat.le_of_ble_eq_true rfl) (x_c xk_65 (by decide)) (x_lt xk_65 (by decide)) (Nat.le_of_ble_eq_true rfl) (Nat.le_of_ble_eq_true rfl) ?_
                  cases hc15 : G40 n 1 8 S with
                  | none => rw [hc15] at hf; cases hf
                  | some z14 =>
                    rw [hc15, Option.bind_some] at hf
                    refine G40c (r0 := z14.1) (S0 := z14.2)  (hf := hc15) ?_
                    refine r_iret fe_44_80 ⟨rfl, by decide⟩ ?_
                    exact dfin (P := fun r T => Q (some (.int r)) (xst T G h)) hf hQ
                · rw [if_neg hx13] at hf
                  by_cases hx16 : l2 = 7
                  · rw [if_pos hx16] at hf
                    refine r_tabI (off := 80) (t := 81) fe_44_1 hs1 (by rw [hx16]; decide) (by decide) ?_
                    refine r_aload_n fe_44_81 rfl ?_
                    refine r_bipush (v := 8) fe_44_82 (by decide) ?_
                    refine r_callV (as := [.int 8]) (r := []) fe_44_84 lm_5_90 md_45 rfl rfl (Nat.le_of_ble_eq_true rfl) (x_c xk_65 (by decide)) (x_lt xk_65 (by decide)) (Nat.le_of_ble_eq_true rfl) (Nat.le_of_ble_eq_true rfl) ?_
                    cases hc18 : G45 n 8 S with
                    | none => rw [hc18] at hf; cases hf
                    | some z17 =>
                      rw [hc18, Option.bind_some] at hf
                      refine G45c (r0 := z17.1) (S0 := z17.2)  (hf := hc18) ?_
                      refine r_iret fe_44_87 ⟨rfl, by decide⟩ ?_
                      exact dfin (P := fun r T => Q (some (.int r)) (xst T G h)) hf hQ
                  · rw [if_neg hx16] at hf
                    cases hf
theorem G44c {xs : Nat → Int32} {L9 d : Nat} {G : gS} {h : Nat → va_E} {n : Nat} {Q : Option Value → AmH → Prop} {r0 : Int32} {S0 S : xS} {l2 : Int32} (hf : G44 n l2 S = some (r0, S0)) (hQ : Q (some (.int r0)) (xst S0 G h)) : Ca (am_X xs L9) (d + 3) 44 [.ref 67, .ref 65, .int l2] (xst S G h) Q := (G44l hQ n) l2 S hf
def G48b0 (l0 : Nat) (F : Nat → Int32 → Int32 → xS → Option (Unit × xS)) (n : Nat) (l1 : Int32) (l2 : Int32) (S : xS) : Option (Unit × xS) := (if am_ic .ge (S.1 l0 1) 6 = true then some ((), S) else (if ¬ (l1 < 0 ∨ 16 ≤ (l1).toNatClampNeg) then ((some (x_sA S (l0 + 3) (Int32.toNatClampNeg l1) (S.1 l0 1))).bind (fun S3 => (if ¬ ((S3.1 l0 1) < 0 ∨ 6 ≤ ((S3.1 l0 1)).toNatClampNeg) then ((some (x_sA S3 (l0 + 5) (Int32.toNatClampNeg (S3.1 l0 1)) l2)).bind (fun S6 => ((some (x_sI S6 l0 1 ((S6.1 l0 1) + 1))).bind (fun S8 => some ((), S8))))) else none))) else none))
def G48f (l0 : Nat) : Nat → Nat → Int32 → Int32 → xS → Option (Unit × xS)
  | 0, _, _, _, _ => none
  | n + 1, c, l1, l2, S => G48b0 l0 (G48f l0 n) n l1 l2 S
theorem G48e0 (l0 : Nat) (n : Nat) (l1 : Int32) (l2 : Int32) (S : xS) : G48f l0 (n + 1) 0 l1 l2 S = G48b0 l0 (G48f l0 n) n l1 l2 S := rfl
def G48 (l0 : Nat) (n : Nat) (l1 : Int32) (l2 : Int32) (S : xS) : Option (Unit × xS) := G48f l0 n 0 l1 l2 S
set_option maxRecDepth 20000 in
set_option maxHeartbeats 4000000 in
theorem G48l {xs : Nat → Int32} {L9 d : Nat} {G : gS} {h : Nat → va_E} {l0 : Nat} {Q : Option Value → AmH → Prop} {r0 : Unit} {S0 : xS} (h0 : bB G l0 = true) (hQ : Q none (xst S0 G h)) : ∀ n : Nat, (∀ (l1 : Int32) (l2 : Int32) (S : xS), G48f l0 n 0 l1 l2 S = some (r0, S0) → Go (am_X xs L9) (d + 0) 48 0 [.ref l0, .int l1, .int l2] [] (xst S G h) Q) := by
  intro n
  induction n with
  | zero => exact fun l1 l2 S hf => (by cases hf)
  | succ n ih =>
    intro l1 l2 S hf
    rw [G48e0] at hf
    unfold G48b0 at hf
    refine r_aload_n fe_48_0 rfl ?_
    refine r_getf (v := .int (S.1 l0 1)) fe_48_1 lf_0_15 (x_c (bk0 h0) (by decide)) (x_lt (bk0 h0) (by decide)) rfl ?_
    refine r_bipush (v := 6) fe_48_4 (by decide) ?_
    by_cases hb1 : am_ic .ge (S.1 l0 1) 6 = true
    · rw [if_pos hb1] at hf
      refine r_ic_t (t := 39) fe_48_6 (by decide) hb1 ?_
      refine r_vret fe_48_39 ?_
      exact dfin (P := fun _ T => Q none (xst T G h)) hf hQ
    · rw [if_neg hb1] at hf
      refine r_ic_f (t := 39) fe_48_6 (by decide) (Bool.eq_false_iff.mpr hb1) ?_
      refine r_aload_n fe_48_9 rfl ?_
      refine r_getf (v := .ref (l0 + 3)) fe_48_10 lf_0_28 (x_c (bk0 h0) (by decide)) (x_lt (bk0 h0) (by decide)) rfl ?_
      refine r_iload_n fe_48_13 rfl ?_
      refine r_aload_n fe_48_14 rfl ?_
      refine r_getf (v := .int (S.1 l0 1)) fe_48_15 lf_0_15 (x_c (bk0 h0) (by decide)) (x_lt (bk0 h0) (by decide)) rfl ?_
      by_cases hg2 : ¬ (l1 < 0 ∨ 16 ≤ (l1).toNatClampNeg)
      rotate_left
      · rw [if_neg hg2] at hf; cases hf
      rw [if_pos hg2] at hf
      refine r_iast (j := (Int32.toNatClampNeg l1)) fe_48_18 (x_h (bk3 h0) (by decide)) (x_lt (bk3 h0) (by decide)) (x_k6 (bk3 h0) (by decide)) (fun z => hg2 (Or.inl z)) rfl (fun z => hg2 (Or.inr z)) ?_
      obtain ⟨S3, e4, hf⟩ := dbnd hf
      refine go_heap (h2 := xst S3 G h) ((x_uA (bk3 h0)).trans (by rw [e4])) ?_
      refine r_aload_n fe_48_19 rfl ?_
      refine r_getf (v := .ref (l0 + 5)) fe_48_20 lf_0_34 (x_c (bk0 h0) (by decide)) (x_lt (bk0 h0) (by decide)) rfl ?_
      refine r_aload_n fe_48_23 rfl ?_
      refine r_getf (v := .int (S3.1 l0 1)) fe_48_24 lf_0_15 (x_c (bk0 h0) (by decide)) (x_lt (bk0 h0) (by decide)) rfl ?_
      refine r_iload_n fe_48_27 rfl ?_
      by_cases hg5 : ¬ ((S3.1 l0 1) < 0 ∨ 6 ≤ ((S3.1 l0 1)).toNatClampNeg)
      rotate_left
      · rw [if_neg hg5] at hf; cases hf
      rw [if_pos hg5] at hf
      refine r_iast (j := (Int32.toNatClampNeg (S3.1 l0 1))) fe_48_28 (x_h (bk5 h0) (by decide)) (x_lt (bk5 h0) (by decide)) (x_k6 (bk5 h0) (by decide)) (fun z => hg5 (Or.inl z)) rfl (fun z => hg5 (Or.inr z)) ?_
      obtain ⟨S6, e7, hf⟩ := dbnd hf
      refine go_heap (h2 := xst S6 G h) ((x_uA (bk5 h0)).trans (by rw [e7])) ?_
      refine r_aload_n fe_48_29 rfl ?_
      refine r_dup fe_48_30 rfl ?_
      refine r_getf (v := .int (S6.1 l0 1)) fe_48_31 lf_0_15 (x_c (bk0 h0) (by decide)) (x_lt (bk0 h0) (by decide)) rfl ?_
      refine r_iconst (v := 1) fe_48_34 (by decide) ?_
      refine r_iadd (v := ((S6.1 l0 1) + 1)) fe_48_35 rfl ?_
      refine r_putf fe_48_36 lf_0_15 (x_h (bk0 h0) (by decide)) (x_lt (bk0 h0) (by decide)) (x_k6 (bk0 h0) (by decide)) (Nat.le_of_ble_eq_true rfl) rfl rfl (Or.inl rfl) ?_
      obtain ⟨S8, e9, hf⟩ := dbnd hf
      refine go_heap (h2 := xst S8 G h) ((x_uI (j := 1) (x := ((S6.1 l0 1) + 1)) (bk0 h0) (by decide)).trans (by rw [e9])) ?_
      refine r_vret fe_48_39 ?_
      exact dfin (P := fun _ T => Q none (xst T G h)) hf hQ
theorem G48c {xs : Nat → Int32} {L9 d : Nat} {G : gS} {h : Nat → va_E} {l0 : Nat} {n : Nat} {Q : Option Value → AmH → Prop} {r0 : Unit} {S0 S : xS} {l1 : Int32} {l2 : Int32} (h0 : bB G l0 = true) (hf : G48 l0 n l1 l2 S = some (r0, S0)) (hQ : Q none (xst S0 G h)) : Ca (am_X xs L9) (d + 0) 48 [.ref l0, .int l1, .int l2] (xst S G h) Q := (G48l h0 hQ n) l1 l2 S hf
def G49b0 (l0 : Nat) (F : Nat → Int32 → xS → Option (Unit × xS)) (n : Nat) (l1 : Int32) (S : xS) : Option (Unit × xS) := (if am_ic .ge (S.1 l0 2) 4 = true then some ((), S) else (if ¬ (l1 < 0 ∨ 16 ≤ (l1).toNatClampNeg) then ((some (x_sA S (l0 + 4) (Int32.toNatClampNeg l1) (S.1 l0 2))).bind (fun S3 => ((some (x_sI S3 l0 2 ((S3.1 l0 2) + 1))).bind (fun S5 => some ((), S5))))) else none))
def G49f (l0 : Nat) : Nat → Nat → Int32 → xS → Option (Unit × xS)
  | 0, _, _, _ => none
  | n + 1, c, l1, S => G49b0 l0 (G49f l0 n) n l1 S
theorem G49e0 (l0 : Nat) (n : Nat) (l1 : Int32) (S : xS) : G49f l0 (n + 1) 0 l1 S = G49b0 l0 (G49f l0 n) n l1 S := rfl
def G49 (l0 : Nat) (n : Nat) (l1 : Int32) (S : xS) : Option (Unit × xS) := G49f l0 n 0 l1 S
set_option maxRecDepth 20000 in
set_option maxHeartbeats 4000000 in
theorem G49l {xs : Nat → Int32} {L9 d : Nat} {G : gS} {h : Nat → va_E} {l0 : Nat} {Q : Option Value → AmH → Prop} {r0 : Unit} {S0 : xS} (h0 : bB G l0 = true) (hQ : Q none (xst S0 G h)) : ∀ n : Nat, (∀ (l1 : Int32) (S : xS), G49f l0 n 0 l1 S = some (r0, S0) → Go (am_X xs L9) (d + 0) 49 0 [.ref l0, .int l1] [] (xst S G h) Q) := by
  intro n
  induction n with
  | zero => exact fun l1 S hf => (by cases hf)
  | succ n ih =>
    intro l1 S hf
    rw [G49e0] at hf
    unfold G49b0 at hf
    refine r_aload_n fe_49_0 rfl ?_
    refine r_getf (v := .int (S.1 l0 2)) fe_49_1 lf_0_18 (x_c (bk0 h0) (by decide)) (x_lt (bk0 h0) (by decide)) rfl ?_
    refine r_iconst (v := 4) fe_49_4 (by decide) ?_
    by_cases hb1 : am_ic .ge (S.1 l0 2) 4 = true
    · rw [if_pos hb1] at hf
      refine r_ic_t (t := 28) fe_49_5 (by decide) hb1 ?_
      refine r_vret fe_49_28 ?_
      exact dfin (P := fun _ T => Q none (xst T G h)) hf hQ
    · rw [if_neg hb1] at hf
      refine r_ic_f (t := 28) fe_49_5 (by decide) (Bool.eq_false_iff.mpr hb1) ?_
      refine r_aload_n fe_49_8 rfl ?_
      refine r_getf (v := .ref (l0 + 4)) fe_49_9 lf_0_31 (x_c (bk0 h0) (by decide)) (x_lt (bk0 h0) (by decide)) rfl ?_
      refine r_iload_n fe_49_12 rfl ?_
      refine r_aload_n fe_49_13 rfl ?_
      refine r_getf (v := .int (S.1 l0 2)) fe_49_14 lf_0_18 (x_c (bk0 h0) (by decide)) (x_lt (bk0 h0) (by decide)) rfl ?_
      by_cases hg2 : ¬ (l1 < 0 ∨ 16 ≤ (l1).toNatClampNeg)
      rotate_left
      · rw [if_neg hg2] at hf; cases hf
      rw [if_pos hg2] at hf
      refine r_iast (j := (Int32.toNatClampNeg l1)) fe_49_17 (x_h (bk4 h0) (by decide)) (x_lt (bk4 h0) (by decide)) (x_k6 (bk4 h0) (by decide)) (fun z => hg2 (Or.inl z)) rfl (fun z => hg2 (Or.inr z)) ?_
      obtain ⟨S3, e4, hf⟩ := dbnd hf
      refine go_heap (h2 := xst S3 G h) ((x_uA (bk4 h0)).trans (by rw [e4])) ?_
      refine r_aload_n fe_49_18 rfl ?_
      refine r_dup fe_49_19 rfl ?_
      refine r_getf (v := .int (S3.1 l0 2)) fe_49_20 lf_0_18 (x_c (bk0 h0) (by decide)) (x_lt (bk0 h0) (by decide)) rfl ?_
      refine r_iconst (v := 1) fe_49_23 (by decide) ?_
      refine r_iadd (v := ((S3.1 l0 2) + 1)) fe_49_24 rfl ?_
      refine r_putf fe_49_25 lf_0_18 (x_h (bk0 h0) (by decide)) (x_lt (bk0 h0) (by decide)) (x_k6 (bk0 h0) (by decide)) (Nat.le_of_ble_eq_true rfl) rfl rfl (Or.inl rfl) ?_
      obtain ⟨S5, e6, hf⟩ := dbnd hf
      refine go_heap (h2 := xst S5 G h) ((x_uI (j := 2) (x := ((S3.1 l0 2) + 1)) (bk0 h0) (by decide)).trans (by rw [e6])) ?_
      refine r_vret fe_49_28 ?_
      exact dfin (P := fun _ T => Q none (xst T G h)) hf hQ
theorem G49c {xs : Nat → Int32} {L9 d : Nat} {G : gS} {h : Nat → va_E} {l0 : Nat} {n : Nat} {Q : Option Value → AmH → Prop} {r0 : Unit} {S0 S : xS} {l1 : Int32} (h0 : bB G l0 = true) (hf : G49 l0 n l1 S = some (r0, S0)) (hQ : Q none (xst S0 G h)) : Ca (am_X xs L9) (d + 0) 49 [.ref l0, .int l1] (xst S G h) Q := (G49l h0 hQ n) l1 S hf
def G51b0 (l0 : Nat) (F : Nat → Int32 → Int32 → Int32 → Int32 → xS → Option (Unit × xS)) (n : Nat) (l1 : Int32) (l2 : Int32) (l3 : Int32) (l4 : Int32) (S : xS) : Option (Unit × xS) := (if ¬ (l1 < 0 ∨ 13 ≤ (l1).toNatClampNeg) then ((some (x_sA S (l0 + 2) (Int32.toNatClampNeg l1) l2)).bind (fun S2 => (if ¬ (l1 < 0 ∨ 13 ≤ (l1).toNatClampNeg) then ((some (x_sA S2 (l0 + 3) (Int32.toNatClampNeg l1) 0)).bind (fun S5 => (if ¬ (l1 < 0 ∨ 13 ≤ (l1).toNatClampNeg) then ((some (x_sA S5 (l0 + 4) (Int32.toNatClampNeg l1) 0)).bind (fun S8 => F 26 l1 0 l2 0 S8)) else none))) else none))) else none)
def G51b26 (l0 : Nat) (F : Nat → Int32 → Int32 → Int32 → Int32 → xS → Option (Unit × xS)) (n : Nat) (l1 : Int32) (l2 : Int32) (l3 : Int32) (l4 : Int32) (S : xS) : Option (Unit × xS) := (if am_ic .ge l4 8 = true then some ((), S) else (if am_if .le l3 = true then some ((), S) else (if ¬ (l1 < 0 ∨ 13 ≤ (l1).toNatClampNeg) then (if ¬ (l1 < 0 ∨ 13 ≤ (l1).toNatClampNeg) then ((some (x_sA S (l0 + 4) (Int32.toNatClampNeg l1) ((S.2.1 (l0 + 4) (Int32.toNatClampNeg l1)) ||| (1 <<< ((l3 - l3 / 10 * 10) &&& 31))))).bind (fun S14 => (if ¬ (l1 < 0 ∨ 13 ≤ (l1).toNatClampNeg) then (if ¬ (l1 < 0 ∨ 13 ≤ (l1).toNatClampNeg) then ((some (x_sA S14 (l0 + 3) (Int32.toNatClampNeg l1) ((S14.2.1 (l0 + 3) (Int32.toNatClampNeg l1)) + 1))).bind (fun S18 => F 26 l1 0 (l3 / 10) (l4 + 1) S18)) else none) else none))) else none) else none)))
def G51f (l0 : Nat) : Nat → Nat → Int32 → Int32 → Int32 → Int32 → xS → Option (Unit × xS)
  | 0, _, _, _, _, _, _ => none
  | n + 1, c, l1, l2, l3, l4, S => if c = 0 then G51b0 l0 (G51f l0 n) n l1 l2 l3 l4 S else G51b26 l0 (G51f l0 n) n l1 l2 l3 l4 S
theorem G51e0 (l0 : Nat) (n : Nat) (l1 : Int32) (l2 : Int32) (l3 : Int32) (l4 : Int32) (S : xS) : G51f l0 (n + 1) 0 l1 l2 l3 l4 S = G51b0 l0 (G51f l0 n) n l1 l2 l3 l4 S := if_pos rfl
theorem G51e26 (l0 : Nat) (n : Nat) (l1 : Int32) (l2 : Int32) (l3 : Int32) (l4 : Int32) (S : xS) : G51f l0 (n + 1) 26 l1 l2 l3 l4 S = G51b26 l0 (G51f l0 n) n l1 l2 l3 l4 S := if_neg (by decide)
def G51 (l0 : Nat) (n : Nat) (l1 : Int32) (l2 : Int32) (S : xS) : Option (Unit × xS) := G51f l0 n 0 l1 l2 0 0 S
set_option maxRecDepth 20000 in
set_option maxHeartbeats 4000000 in
theorem G51l {xs : Nat → Int32} {L9 d : Nat} {G : gS} {h : Nat → va_E} {l0 : Nat} {Q : Option Value → AmH → Prop} {r0 : Unit} {S0 : xS} (h0 : wB G l0 = true) (hQ : Q none (xst S0 G h)) : ∀ n : Nat, (∀ (l1 : Int32) (l2 : Int32) (l3 : Int32) (l4 : Int32) (S : xS), G51f l0 n 0 l1 l2 l3 l4 S = some (r0, S0) → Go (am_X xs L9) (d + 0) 51 0 [.ref l0, .int l1, .int l2, .float 0, .float 0] [] (xst S G h) Q) ∧ (∀ (l1 : Int32) (l2 : Int32) (l3 : Int32) (l4 : Int32) (S : xS), G51f l0 n 26 l1 l2 l3 l4 S = some (r0, S0) → Go (am_X xs L9) (d + 0) 51 26 [.ref l0, .int l1, .float 0, .int l3, .int l4] [] (xst S G h) Q) := by
  intro n
  induction n with
  | zero => exact ⟨fun l1 l2 l3 l4 S hf => (by cases hf), fun l1 l2 l3 l4 S hf => (by cases hf)⟩
  | succ n ih =>
    refine ⟨?_, ?_⟩
    · intro l1 l2 l3 l4 S hf
      rw [G51e0] at hf
      unfold G51b0 at hf
      refine r_aload_n fe_51_0 rfl ?_
      refine r_getf (v := .ref (l0 + 2)) fe_51_1 lf_9_25 (x_c (wk0 h0) (by decide)) (x_lt (wk0 h0) (by decide)) rfl ?_
      refine r_iload_n fe_51_4 rfl ?_
      refine r_iload_n fe_51_5 rfl ?_
      by_cases hg1 : ¬ (l1 < 0 ∨ 13 ≤ (l1).toNatClampNeg)
      rotate_left
      · rw [if_neg hg1] at hf; cases hf
      rw [if_pos hg1] at hf
      refine r_iast (j := (Int32.toNatClampNeg l1)) fe_51_6 (x_h (wk2 h0) (by decide)) (x_lt (wk2 h0) (by decide)) (x_k6 (wk2 h0) (by decide)) (fun z => hg1 (Or.inl z)) rfl (fun z => hg1 (Or.inr z)) ?_
      obtain ⟨S2, e3, hf⟩ := dbnd hf
      refine go_heap (h2 := xst S2 G h) ((x_uA (wk2 h0)).trans (by rw [e3])) ?_
      refine r_aload_n fe_51_7 rfl ?_
      refine r_getf (v := .ref (l0 + 3)) fe_51_8 lf_9_28 (x_c (wk0 h0) (by decide)) (x_lt (wk0 h0) (by decide)) rfl ?_
      refine r_iload_n fe_51_11 rfl ?_
      refine r_iconst (v := 0) fe_51_12 (by decide) ?_
      by_cases hg4 : ¬ (l1 < 0 ∨ 13 ≤ (l1).toNatClampNeg)
      rotate_left
      · rw [if_neg hg4] at hf; cases hf
      rw [if_pos hg4] at hf
      refine r_iast (j := (Int32.toNatClampNeg l1)) fe_51_13 (x_h (wk3 h0) (by decide)) (x_lt (wk3 h0) (by decide)) (x_k6 (wk3 h0) (by decide)) (fun z => hg4 (Or.inl z)) rfl (fun z => hg4 (Or.inr z)) ?_
      obtain ⟨S5, e6, hf⟩ := dbnd hf
      refine go_heap (h2 := xst S5 G h) ((x_uA (wk3 h0)).trans (by rw [e6])) ?_
      refine r_aload_n fe_51_14 rfl ?_
      refine r_getf (v := .ref (l0 + 4)) fe_51_15 lf_9_31 (x_c (wk0 h0) (by decide)) (x_lt (wk0 h0) (by decide)) rfl ?_
      refine r_iload_n fe_51_18 rfl ?_
      refine r_iconst (v := 0) fe_51_19 (by decide) ?_
      by_cases hg7 : ¬ (l1 < 0 ∨ 13 ≤ (l1).toNatClampNeg)
      rotate_left
      · rw [if_neg hg7] at hf; cases hf
      rw [if_pos hg7] at hf
      refine r_iast (j := (Int32.toNatClampNeg l1)) fe_51_20 (x_h (wk4 h0) (by decide)) (x_lt (wk4 h0) (by decide)) (x_k6 (wk4 h0) (by decide)) (fun z => hg7 (Or.inl z)) rfl (fun z => hg7 (Or.inr z)) ?_
      obtain ⟨S8, e9, hf⟩ := dbnd hf
      refine go_heap (h2 := xst S8 G h) ((x_uA (wk4 h0)).trans (by rw [e9])) ?_
      refine r_iload_n fe_51_21 rfl ?_
      refine r_istore_n fe_51_22 (Nat.le_of_ble_eq_true rfl) rfl ?_
      refine r_iconst (v := 0) fe_51_23 (by decide) ?_
      refine r_istore fe_51_24 (Nat.le_of_ble_eq_true rfl) rfl ?_
      refine go_weak (L0 := [.ref l0, .int l1, .float 0, .int l2, .int 0]) (lwk_c (Or.inl rfl) (lwk_c (Or.inl rfl) (lwk_c (Or.inr rfl) (lwk_c (Or.inl rfl) (lwk_c (Or.inl rfl) (lwk_rf [])))))) ?_
      exact ih.2 l1 0 l2 0 S8 hf
    · intro l1 l2 l3 l4 S hf
      rw [G51e26] at hf
      unfold G51b26 at hf
      refine r_iload fe_51_26 rfl ?_
      refine r_bipush (v := 8) fe_51_28 (by decide) ?_
      by_cases hb10 : am_ic .ge l4 8 = true
      · rw [if_pos hb10] at hf
        refine r_ic_t (t := 73) fe_51_30 (by decide) hb10 ?_
        refine r_vret fe_51_73 ?_
        exact dfin (P := fun _ T => Q none (xst T G h)) hf hQ
      · rw [if_neg hb10] at hf
        refine r_ic_f (t := 73) fe_51_30 (by decide) (Bool.eq_false_iff.mpr hb10) ?_
        refine r_iload_n fe_51_33 rfl ?_
        by_cases hb11 : am_if .le l3 = true
        · rw [if_pos hb11] at hf
          refine r_if_t (t := 73) fe_51_34 (by decide) hb11 ?_
          refine r_vret fe_51_73 ?_
          exact dfin (P := fun _ T => Q none (xst T G h)) hf hQ
        · rw [if_neg hb11] at hf
          refine r_if_f (t := 73) fe_51_34 (by decide) (Bool.eq_false_iff.mpr hb11) ?_
          refine r_aload_n fe_51_37 rfl ?_
          refine r_getf (v := .ref (l0 + 4)) fe_51_38 lf_9_31 (x_c (wk0 h0) (by decide)) (x_lt (wk0 h0) (by decide)) rfl ?_
          refine r_iload_n fe_51_41 rfl ?_
          refine r_dup2 fe_51_42 ⟨rfl, rfl⟩ ?_
          by_cases hg12 : ¬ (l1 < 0 ∨ 13 ≤ (l1).toNatClampNeg)
          rotate_left
          · rw [if_neg hg12] at hf; cases hf
          rw [if_pos hg12] at hf
          refine r_iald (j := (Int32.toNatClampNeg l1)) (v := S.2.1 (l0 + 4) (Int32.toNatClampNeg l1)) fe_51_43 (x_c (wk4 h0) (by decide)) (x_lt (wk4 h0) (by decide)) (fun z => hg12 (Or.inl z)) rfl (fun z => hg12 (Or.inr z)) rfl ?_
          refine r_iconst (v := 1) fe_51_44 (by decide) ?_
          refine r_iload_n fe_51_45 rfl ?_
          refine r_bipush (v := 10) fe_51_46 (by decide) ?_
          refine r_irem (v := (l3 - l3 / 10 * 10)) fe_51_48 (by decide) rfl ?_
          refine r_ishl (v := (1 <<< ((l3 - l3 / 10 * 10) &&& 31))) fe_51_49 rfl ?_
          refine r_ior (v := ((S.2.1 (l0 + 4) (Int32.toNatClampNeg l1)) ||| (1 <<< ((l3 - l3 / 10 * 10) &&& 31)))) fe_51_50 rfl ?_
          by_cases hg13 : ¬ (l1 < 0 ∨ 13 ≤ (l1).toNatClampNeg)
          rotate_left
          · rw [if_neg hg13] at hf; cases hf
          rw [if_pos hg13] at hf
          refine r_iast (j := (Int32.toNatClampNeg l1)) fe_51_51 (x_h (wk4 h0) (by decide)) (x_lt (wk4 h0) (by decide)) (x_k6 (wk4 h0) (by decide)) (fun z => hg13 (Or.inl z)) rfl (fun z => hg13 (Or.inr z)) ?_
          obtain ⟨S14, e15, hf⟩ := dbnd hf
          refine go_heap (h2 := xst S14 G h) ((x_uA (wk4 h0)).trans (by rw [e15])) ?_
          refine r_aload_n fe_51_52 rfl ?_
          refine r_getf (v := .ref (l0 + 3)) fe_51_53 lf_9_28 (x_c (wk0 h0) (by decide)) (x_lt (wk0 h0) (by decide)) rfl ?_
          refine r_iload_n fe_51_56 rfl ?_
          refine r_dup2 fe_51_57 ⟨rfl, rfl⟩ ?_
          by_cases hg16 : ¬ (l1 < 0 ∨ 13 ≤ (l1).toNatClampNeg)
          rotate_left
          · rw [if_neg hg16] at hf; cases hf
          rw [if_pos hg16] at hf
          refine r_iald (j := (Int32.toNatClampNeg l1)) (v := S14.2.1 (l0 + 3) (Int32.toNatClampNeg l1)) fe_51_58 (x_c (wk3 h0) (by decide)) (x_lt (wk3 h0) (by decide)) (fun z => hg16 (Or.inl z)) rfl (fun z => hg16 (Or.inr z)) rfl ?_
          refine r_iconst (v := 1) fe_51_59 (by decide) ?_
          refine r_iadd (v := ((S14.2.1 (l0 + 3) (Int32.toNatClampNeg l1)) + 1)) fe_51_60 rfl ?_
          by_cases hg17 : ¬ (l1 < 0 ∨ 13 ≤ (l1).toNatClampNeg)
          rotate_left
          · rw [if_neg hg17] at hf; cases hf
          rw [if_pos hg17] at hf
          refine r_iast (j := (Int32.toNatClampNeg l1)) fe_51_61 (x_h (wk3 h0) (by decide)) (x_lt (wk3 h0) (by decide)) (x_k6 (wk3 h0) (by decide)) (fun z => hg17 (Or.inl z)) rfl (fun z => hg17 (Or.inr z)) ?_
          obtain ⟨S18, e19, hf⟩ := dbnd hf
          refine go_heap (h2 := xst S18 G h) ((x_uA (wk3 h0)).trans (by rw [e19])) ?_
          refine r_iload_n fe_51_62 rfl ?_
          refine r_bipush (v := 10) fe_51_63 (by decide) ?_
          refine r_idiv (v := (l3 / 10)) fe_51_65 (by decide) rfl ?_
          refine r_istore_n fe_51_66 (Nat.le_of_ble_eq_true rfl) rfl ?_
          refine r_iinc (v := (l4 + 1)) fe_51_67 rfl rfl rfl ?_
          refine r_goto (t := 26) fe_51_70 (by decide) ?_
          refine go_weak (L0 := [.ref l0, .int l1, .float 0, .int (l3 / 10), .int (l4 + 1)]) (lwk_c (Or.inl rfl) (lwk_c (Or.inl rfl) (lwk_c (Or.inl rfl) (lwk_c (Or.inl rfl) (lwk_c (Or.inl rfl) (lwk_rf [])))))) ?_
          exact ih.2 l1 0 (l3 / 10) (l4 + 1) S18 hf
theorem G51c {xs : Nat → Int32} {L9 d : Nat} {G : gS} {h : Nat → va_E} {l0 : Nat} {n : Nat} {Q : Option Value → AmH → Prop} {r0 : Unit} {S0 S : xS} {l1 : Int32} {l2 : Int32} (h0 : wB G l0 = true) (hf : G51 l0 n l1 l2 S = some (r0, S0)) (hQ : Q none (xst S0 G h)) : Ca (am_X xs L9) (d + 0) 51 [.ref l0, .int l1, .int l2] (xst S G h) Q := (G51l h0 hQ n).1 l1 l2 0 0 S hf
