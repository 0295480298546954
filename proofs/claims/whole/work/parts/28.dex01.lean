def G50b0 (l0 : Nat) (F : Nat → Int32 → Int32 → xS → Option (Int32 × xS)) (n : Nat) (l1 : Int32) (l2 : Int32) (S : xS) : Option (Int32 × xS) := (if am_ic .lt (S.1 l0 1) 13 = true then ((some (x_sI S l0 1 ((S.1 l0 1) + 1))).bind (fun S2 => (if ¬ ((S.1 l0 1) < 0 ∨ 13 ≤ ((S.1 l0 1)).toNatClampNeg) then ((some (x_sA S2 (l0 + 1) (Int32.toNatClampNeg (S.1 l0 1)) l1)).bind (fun S5 => (if ¬ ((S.1 l0 1) < 0 ∨ 13 ≤ ((S.1 l0 1)).toNatClampNeg) then ((some (x_sA S5 (l0 + 5) (Int32.toNatClampNeg (S.1 l0 1)) 0)).bind (fun S8 => (if ¬ ((S.1 l0 1) < 0 ∨ 13 ≤ ((S.1 l0 1)).toNatClampNeg) then ((some (x_sA S8 (l0 + 6) (Int32.toNatClampNeg (S.1 l0 1)) 0)).bind (fun S11 => (if ¬ ((S.1 l0 1) < 0 ∨ 13 ≤ ((S.1 l0 1)).toNatClampNeg) then ((some (x_sA S11 (l0 + 7) (Int32.toNatClampNeg (S.1 l0 1)) (-1))).bind (fun S14 => (if ¬ ((S.1 l0 1) < 0 ∨ 13 ≤ ((S.1 l0 1)).toNatClampNeg) then ((some (x_sA S14 (l0 + 8) (Int32.toNatClampNeg (S.1 l0 1)) (-1))).bind (fun S17 => ((G51 l0 n (S.1 l0 1) l2 S17).bind (fun z19 => some ((S.1 l0 1), z19.2))))) else none))) else none))) else none))) else none))) else none))) else some ((-1), S))
def G50f (l0 : Nat) : Nat → Nat → Int32 → Int32 → xS → Option (Int32 × xS)
  | 0, _, _, _, _ => none
  | n + 1, c, l1, l2, S => G50b0 l0 (G50f l0 n) n l1 l2 S
theorem G50e0 (l0 : Nat) (n : Nat) (l1 : Int32) (l2 : Int32) (S : xS) : G50f l0 (n + 1) 0 l1 l2 S = G50b0 l0 (G50f l0 n) n l1 l2 S := rfl
def G50 (l0 : Nat) (n : Nat) (l1 : Int32) (l2 : Int32) (S : xS) : Option (Int32 × xS) := G50f l0 n 0 l1 l2 S
set_option maxRecDepth 20000 in
set_option maxHeartbeats 4000000 in
theorem G50l {xs : Nat → Int32} {L9 d : Nat} {G : gS} {h : Nat → va_E} {l0 : Nat} {Q : Option Value → AmH → Prop} {r0 : Int32} {S0 : xS} (h0 : wB G l0 = true) (hQ : Q (some (.int r0)) (xst S0 G h)) : ∀ n : Nat, (∀ (l1 : Int32) (l2 : Int32) (S : xS), G50f l0 n 0 l1 l2 S = some (r0, S0) → Go (am_X xs L9) (d + 1) 50 0 [.ref l0, .int l1, .int l2, .float 0] [] (xst S G h) Q) := by
  intro n
  induction n with
  | zero => exact fun l1 l2 S hf => (by cases hf)
  | succ n ih =>
    intro l1 l2 S hf
    rw [G50e0] at hf
    unfold G50b0 at hf
    refine r_aload_n fe_50_0 rfl ?_
    refine r_getf (v := .int (S.1 l0 1)) fe_50_1 lf_9_15 (x_c (wk0 h0) (by decide)) (x_lt (wk0 h0) (by decide)) rfl ?_
    refine r_istore_n fe_50_4 (Nat.le_of_ble_eq_true rfl) rfl ?_
    refine r_iload_n fe_50_5 rfl ?_
    refine r_bipush (v := 13) fe_50_6 (by decide) ?_
    by_cases hb1 : am_ic .lt (S.1 l0 1) 13 = true
    · rw [if_pos hb1] at hf
      refine r_ic_t (t := 13) fe_50_8 (by decide) hb1 ?_
      refine r_aload_n fe_50_13 rfl ?_
      refine r_dup fe_50_14 rfl ?_
      refine r_getf (v := .int (S.1 l0 1)) fe_50_15 lf_9_15 (x_c (wk0 h0) (by decide)) (x_lt (wk0 h0) (by decide)) rfl ?_
      refine r_iconst (v := 1) fe_50_18 (by decide) ?_
      refine r_iadd (v := ((S.1 l0 1) + 1)) fe_50_19 rfl ?_
      refine r_putf fe_50_20 lf_9_15 (x_h (wk0 h0) (by decide)) (x_lt (wk0 h0) (by decide)) (x_k6 (wk0 h0) (by decide)) (Nat.le_of_ble_eq_true rfl) rfl rfl (Or.inl rfl) ?_
      obtain ⟨S2, e3, hf⟩ := dbnd hf
      refine go_heap (h2 := xst S2 G h) ((x_uI (j := 1) (x := ((S.1 l0 1) + 1)) (wk0 h0) (by decide)).trans (by rw [e3])) ?_
      refine r_aload_n fe_50_23 rfl ?_
      refine r_getf (v := .ref (l0 + 1)) fe_50_24 lf_9_21 (x_c (wk0 h0) (by decide)) (x_lt (wk0 h0) (by decide)) rfl ?_
      refine r_iload_n fe_50_27 rfl ?_
      refine r_iload_n fe_50_28 rfl ?_
      by_cases hg4 : ¬ ((S.1 l0 1) < 0 ∨ 13 ≤ ((S.1 l0 1)).toNatClampNeg)
      rotate_left
      · rw [if_neg hg4] at hf; cases hf
      rw [if_pos hg4] at hf
      refine r_iast (j := (Int32.toNatClampNeg (S.1 l0 1))) fe_50_29 (x_h (wk1 h0) (by decide)) (x_lt (wk1 h0) (by decide)) (x_k6 (wk1 h0) (by decide)) (fun z => hg4 (Or.inl z)) rfl (fun z => hg4 (Or.inr z)) ?_
      obtain ⟨S5, e6, hf⟩ := dbnd hf
      refine go_heap (h2 := xst S5 G h) ((x_uA (wk1 h0)).trans (by rw [e6])) ?_
      refine r_aload_n fe_50_30 rfl ?_
      refine r_getf (v := .ref (l0 + 5)) fe_50_31 lf_9_34 (x_c (wk0 h0) (by decide)) (x_lt (wk0 h0) (by decide)) rfl ?_
      refine r_iload_n fe_50_34 rfl ?_
      refine r_iconst (v := 0) fe_50_35 (by decide) ?_
      by_cases hg7 : ¬ ((S.1 l0 1) < 0 ∨ 13 ≤ ((S.1 l0 1)).toNatClampNeg)
      rotate_left
      · rw [if_neg hg7] at hf; cases hf
      rw [if_pos hg7] at hf
      refine r_iast (j := (Int32.toNatClampNeg (S.1 l0 1))) fe_50_36 (x_h (wk5 h0) (by decide)) (x_lt (wk5 h0) (by decide)) (x_k6 (wk5 h0) (by decide)) (fun z => hg7 (Or.inl z)) rfl (fun z => hg7 (Or.inr z)) ?_
      obtain ⟨S8, e9, hf⟩ := dbnd hf
      refine go_heap (h2 := xst S8 G h) ((x_uA (wk5 h0)).trans (by rw [e9])) ?_
      refine r_aload_n fe_50_37 rfl ?_
      refine r_getf (v := .ref (l0 + 6)) fe_50_38 lf_9_37 (x_c (wk0 h0) (by decide)) (x_lt (wk0 h0) (by decide)) rfl ?_
      refine r_iload_n fe_50_41 rfl ?_
      refine r_iconst (v := 0) fe_50_42 (by decide) ?_
      by_cases hg10 : ¬ ((S.1 l0 1) < 0 ∨ 13 ≤ ((S.1 l0 1)).toNatClampNeg)
      rotate_left
      · rw [if_neg hg10] at hf; cases hf
      rw [if_pos hg10] at hf
      refine r_iast (j := (Int32.toNatClampNeg (S.1 l0 1))) fe_50_43 (x_h (wk6 h0) (by decide)) (x_lt (wk6 h0) (by decide)) (x_k6 (wk6 h0) (by decide)) (fun z => hg10 (Or.inl z)) rfl (fun z => hg10 (Or.inr z)) ?_
      obtain ⟨S11, e12, hf⟩ := dbnd hf
      refine go_heap (h2 := xst S11 G h) ((x_uA (wk6 h0)).trans (by rw [e12])) ?_
      refine r_aload_n fe_50_44 rfl ?_
      refine r_getf (v := .ref (l0 + 7)) fe_50_45 lf_9_40 (x_c (wk0 h0) (by decide)) (x_lt (wk0 h0) (by decide)) rfl ?_
      refine r_iload_n fe_50_48 rfl ?_
      refine r_iconst (v := -1) fe_50_49 (by decide) ?_
      by_cases hg13 : ¬ ((S.1 l0 1) < 0 ∨ 13 ≤ ((S.1 l0 1)).toNatClampNeg)
      rotate_left
      · rw [if_neg hg13] at hf; cases hf
      rw [if_pos hg13] at hf
      refine r_iast (j := (Int32.toNatClampNeg (S.1 l0 1))) fe_50_50 (x_h (wk7 h0) (by decide)) (x_lt (wk7 h0) (by decide)) (x_k6 (wk7 h0) (by decide)) (fun z => hg13 (Or.inl z)) rfl (fun z => hg13 (Or.inr z)) ?_
      obtain ⟨S14, e15, hf⟩ := dbnd hf
      refine go_heap (h2 := xst S14 G h) ((x_uA (wk7 h0)).trans (by rw [e15])) ?_
      refine r_aload_n fe_50_51 rfl ?_
      refine r_getf (v := .ref (l0 + 8)) fe_50_52 lf_9_43 (x_c (wk0 h0) (by decide)) (x_lt (wk0 h0) (by decide)) rfl ?_
      refine r_iload_n fe_50_55 rfl ?_
      refine r_iconst (v := -1) fe_50_56 (by decide) ?_
      by_cases hg16 : ¬ ((S.1 l0 1) < 0 ∨ 13 ≤ ((S.1 l0 1)).toNatClampNeg)
      rotate_left
      · rw [if_neg hg16] at hf; cases hf
      rw [if_pos hg16] at hf
      refine r_iast (j := (Int32.toNatClampNeg (S.1 l0 1))) fe_50_57 (x_h (wk8 h0) (by decide)) (x_lt (wk8 h0) (by decide)) (x_k6 (wk8 h0) (by decide)) (fun z => hg16 (Or.inl z)) rfl (fun z => hg16 (Or.inr z)) ?_
      obtain ⟨S17, e18, hf⟩ := dbnd hf
      refine go_heap (h2 := xst S17 G h) ((x_uA (wk8 h0)).trans (by rw [e18])) ?_
      refine r_aload_n fe_50_58 rfl ?_
      refine r_iload_n fe_50_59 rfl ?_
      refine r_iload_n fe_50_60 rfl ?_
      refine r_callV (as := [.int (S.1 l0 1), .int l2]) (r := []) fe_50_61 lm_9_64 md_51 rfl rfl (Nat.le_of_ble_eq_true rfl) (x_c (wk0 h0) (by decide)) (x_lt (wk0 h0) (by decide)) (Nat.le_of_ble_eq_true rfl) (Nat.le_of_ble_eq_true rfl) ?_
      cases hc20 : G51 l0 n (S.1 l0 1) l2 S17 with
      | none => rw [hc20] at hf; cases hf
      | some z19 =>
        rw [hc20, Option.bind_some] at hf
        refine G51c (r0 := z19.1) (S0 := z19.2) (h0 := h0) (hf := hc20) ?_
        refine r_iload_n fe_50_64 rfl ?_
        refine r_iret fe_50_65 ⟨rfl, by decide⟩ ?_
        exact dfin (P := fun r T => Q (some (.int r)) (xst T G h)) hf hQ
    · rw [if_neg hb1] at hf
      refine r_ic_f (t := 13) fe_50_8 (by decide) (Bool.eq_false_iff.mpr hb1) ?_
      refine r_iconst (v := -1) fe_50_11 (by decide) ?_
      refine r_iret fe_50_12 ⟨rfl, by decide⟩ ?_
      exact dfin (P := fun r T => Q (some (.int r)) (xst T G h)) hf hQ
theorem G50c {xs : Nat → Int32} {L9 d : Nat} {G : gS} {h : Nat → va_E} {l0 : Nat} {n : Nat} {Q : Option Value → AmH → Prop} {r0 : Int32} {S0 S : xS} {l1 : Int32} {l2 : Int32} (h0 : wB G l0 = true) (hf : G50 l0 n l1 l2 S = some (r0, S0)) (hQ : Q (some (.int r0)) (xst S0 G h)) : Ca (am_X xs L9) (d + 1) 50 [.ref l0, .int l1, .int l2] (xst S G h) Q := (G50l h0 hQ n) l1 l2 S hf
def G47b0 (F : Nat → Int32 → Int32 → Int32 → xS → Option (Unit × xS)) (n : Nat) (l1 : Int32) (l2 : Int32) (l3 : Int32) (S : xS) : Option (Unit × xS) := (if ((l1).toInt < 1 ∨ 6 < (l1).toInt) then ((G50 74 n l2 l3 S).bind (fun z2 => some ((), z2.2))) else (if l1 = 1 then (if ¬ (l2 < 0 ∨ 16 ≤ (l2).toNatClampNeg) then ((some (x_sA S 69 (Int32.toNatClampNeg l2) l3)).bind (fun S6 => some ((), S6))) else none) else (if l1 = 2 then (if ¬ (l2 < 0 ∨ 16 ≤ (l2).toNatClampNeg) then ((some (x_sA S 69 (Int32.toNatClampNeg l2) (-1))).bind (fun S10 => some ((), S10))) else none) else (if l1 = 3 then (if ¬ (l2 < 0 ∨ 16 ≤ (l2).toNatClampNeg) then ((some (x_sA S 70 (Int32.toNatClampNeg l2) l3)).bind (fun S14 => some ((), S14))) else none) else (if l1 = 4 then ((G48 68 n l2 l3 S).bind (fun z17 => some ((), z17.2))) else (if l1 = 5 then ((G49 68 n l2 S).bind (fun z20 => some ((), z20.2))) else (if l1 = 6 then (if ¬ (l2 < 0 ∨ 16 ≤ (l2).toNatClampNeg) then ((some (x_sA S 83 (Int32.toNatClampNeg l2) l3)).bind (fun S24 => some ((), S24))) else none) else none)))))))
def G47f : Nat → Nat → Int32 → Int32 → Int32 → xS → Option (Unit × xS)
  | 0, _, _, _, _, _ => none
  | n + 1, c, l1, l2, l3, S => G47b0 (G47f n) n l1 l2 l3 S
theorem G47e0 (n : Nat) (l1 : Int32) (l2 : Int32) (l3 : Int32) (S : xS) : G47f (n + 1) 0 l1 l2 l3 S = G47b0 (G47f n) n l1 l2 l3 S := rfl
def G47 (n : Nat) (l1 : Int32) (l2 : Int32) (l3 : Int32) (S : xS) : Option (Unit × xS) := G47f n 0 l1 l2 l3 S
set_option maxRecDepth 20000 in
set_option maxHeartbeats 4000000 in
theorem G47l {xs : Nat → Int32} {L9 d : Nat} {G : gS} {h : Nat → va_E} {Q : Option Value → AmH → Prop} {r0 : Unit} {S0 : xS} (hQ : Q none (xst S0 G h)) : ∀ n : Nat, (∀ (l1 : Int32) (l2 : Int32) (l3 : Int32) (S : xS), G47f n 0 l1 l2 l3 S = some (r0, S0) → Go (am_X xs L9) (d + 2) 47 0 [.ref 67, .int l1, .int l2, .int l3] [] (xst S G h) Q) := by
  intro n
  induction n with
  | zero => exact fun l1 l2 l3 S hf => (by cases hf)
  | succ n ih =>
    intro l1 l2 l3 S hf
    rw [G47e0] at hf
    unfold G47b0 at hf
    refine r_iload_n fe_47_0 rfl ?_
    by_cases hs1 : ((l1).toInt < 1 ∨ 6 < (l1).toInt)
    · rw [if_pos hs1] at hf
      refine r_tabO (t := 115) fe_47_1 hs1 (by decide) ?_
      refine r_aload_n fe_47_115 rfl ?_
      refine r_getf (v := .ref 74) fe_47_116 lf_5_21 (x_c xk_67 (by decide)) (x_lt xk_67 (by decide)) rfl ?_
      refine r_iload_n fe_47_119 rfl ?_
      refine r_iload_n fe_47_120 rfl ?_
      refine r_callV (as := [.int l2, .int l3]) (r := []) fe_47_121 lm_5_111 md_50 rfl rfl (Nat.le_of_ble_eq_true rfl) (x_c xk_74 (by decide)) (x_lt xk_74 (by decide)) (Nat.le_of_ble_eq_true rfl) (Nat.le_of_ble_eq_true rfl) ?_
      cases hc3 : G50 74 n l2 l3 S with
      | none => rw [hc3] at hf; cases hf
      | some z2 =>
        rw [hc3, Option.bind_some] at hf
        refine G50c (r0 := z2.1) (S0 := z2.2) (h0 := wS_74) (hf := hc3) ?_
        refine r_pop fe_47_124 rfl ?_
        refine r_vret fe_47_125 ?_
        exact dfin (P := fun _ T => Q none (xst T G h)) hf hQ
    · rw [if_neg hs1] at hf
      by_cases hx4 : l1 = 1
      · rw [if_pos hx4] at hf
        refine r_tabI (off := 39) (t := 40) fe_47_1 hs1 (by rw [hx4]; decide) (by decide) ?_
        refine r_aload_n fe_47_40 rfl ?_
        refine r_getf (v := .ref 68) fe_47_41 lf_5_12 (x_c xk_67 (by decide)) (x_lt xk_67 (by decide)) rfl ?_
        refine r_getf (v := .ref 69) fe_47_44 lf_5_94 (x_c xk_68 (by decide)) (x_lt xk_68 (by decide)) rfl ?_
        refine r_iload_n fe_47_47 rfl ?_
        refine r_iload_n fe_47_48 rfl ?_
        by_cases hg5 : ¬ (l2 < 0 ∨ 16 ≤ (l2).toNatClampNeg)
        rotate_left
        · rw [if_neg hg5] at hf; cases hf
        rw [if_pos hg5] at hf
        refine r_iast (j := (Int32.toNatClampNeg l2)) fe_47_49 (x_h xk_69 (by decide)) (x_lt xk_69 (by decide)) (by decide) (fun z => hg5 (Or.inl z)) rfl (fun z => hg5 (Or.inr z)) ?_
        obtain ⟨S6, e7, hf⟩ := dbnd hf
        refine go_heap (h2 := xst S6 G h) ((x_uA xk_69).trans (by rw [e7])) ?_
        refine r_goto (t := 125) fe_47_50 (by decide) ?_
        refine r_vret fe_47_125 ?_
        exact dfin (P := fun _ T => Q none (xst T G h)) hf hQ
      · rw [if_neg hx4] at hf
        by_cases hx8 : l1 = 2
        · rw [if_pos hx8] at hf
          refine r_tabI (off := 52) (t := 53) fe_47_1 hs1 (by rw [hx8]; decide) (by decide) ?_
          refine r_aload_n fe_47_53 rfl ?_
          refine r_getf (v := .ref 68) fe_47_54 lf_5_12 (x_c xk_67 (by decide)) (x_lt xk_67 (by decide)) rfl ?_
          refine r_getf (v := .ref 69) fe_47_57 lf_5_94 (x_c xk_68 (by decide)) (x_lt xk_68 (by decide)) rfl ?_
          refine r_iload_n fe_47_60 rfl ?_
          refine r_iconst (v := -1) fe_47_61 (by decide) ?_
          by_cases hg9 : ¬ (l2 < 0 ∨ 16 ≤ (l2).toNatClampNeg)
          rotate_left
          · rw [if_neg hg9] at hf; cases hf
          rw [if_pos hg9] at hf
          refine r_iast (j := (Int32.toNatClampNeg l2)) fe_47_62 (x_h xk_69 (by decide)) (x_lt xk_69 (by decide)) (by decide) (fun z => hg9 (Or.inl z)) rfl (fun z => hg9 (Or.inr z)) ?_
          obtain ⟨S10, e11, hf⟩ := dbnd hf
          refine go_heap (h2 := xst S10 G h) ((x_uA xk_69).trans (by rw [e11])) ?_
          refine r_goto (t := 125) fe_47_63 (by decide) ?_
          refine r_vret fe_47_125 ?_
          exact dfin (P := fun _ T => Q none (xst T G h)) hf hQ
        · rw [if_neg hx8] at hf
          by_cases hx12 : l1 = 3
          · rw [if_pos hx12] at hf
            refine r_tabI (off := 65) (t := 66) fe_47_1 hs1 (by rw [hx12]; decide) (by decide) ?_
            refine r_aload_n fe_47_66 rfl ?_
            refine r_getf (v := .ref 68) fe_47_67 lf_5_12 (x_c xk_67 (by decide)) (x_lt xk_67 (by decide)) rfl ?_
            refine r_getf (v := .ref 70) fe_47_70 lf_5_98 (x_c xk_68 (by decide)) (x_lt xk_68 (by decide)) rfl ?_
            refine r_iload_n fe_47_73 rfl ?_
            refine r_iload_n fe_47_74 rfl ?_
            by_cases hg13 : ¬ (l2 < 0 ∨ 16 ≤ (l2).toNatClampNeg)
            rotate_left
            · rw [if_neg hg13] at hf; cases hf
            rw [if_pos hg13] at hf
            refine r_iast (j := (Int32.toNatClampNeg l2)) fe_47_75 (x_h xk_70 (by decide)) (x_lt xk_70 (by decide)) (by decide) (fun z => hg13 (Or.inl z)) rfl (fun z => hg13 (Or.inr z)) ?_
            obtain ⟨S14, e15, hf⟩ := dbnd hf
            refine go_heap (h2 := xst S14 G h) ((x_uA xk_70).trans (by rw [e15])) ?_
            refine r_goto (t := 125) fe_47_76 (by decide) ?_
            refine r_vret fe_47_125 ?_
            exact dfin (P := fun _ T => Q none (xst T G h)) hf hQ
          · rw [if_neg hx12] at hf
            by_cases hx16 : l1 = 4
            · rw [if_pos hx16] at hf
              refine r_tabI (off := 78) (t := 79) fe_47_1 hs1 (by rw [hx16]; decide) (by decide) ?_
              refine r_aload_n fe_47_79 rfl ?_
              refine r_getf (v := .ref 68) fe_47_80 lf_5_12 (x_c xk_67 (by decide)) (x_lt xk_67 (by decide)) rfl ?_
              refine r_iload_n fe_47_83 rfl ?_
              refine r_iload_n fe_47_84 rfl ?_
              refine r_callV (as := [.int l2, .int l3]) (r := []) fe_47_85 lm_5_101 md_48 rfl rfl (Nat.le_of_ble_eq_true rfl) (x_c xk_68 (by decide)) (x_lt xk_68 (by decide)) (Nat.le_of_ble_eq_true rfl) (Nat.le_of_ble_eq_true rfl) ?_
              cases hc18 : G48 68 n l2 l3 S with
              | none => rw [hc18] at hf; cases hf
              | some z17 =>
                rw [hc18, Option.bind_some] at hf
                refine G48c (r0 := z17.1) (S0 := z17.2) (h0 := bS_68) (hf := hc18) ?_
                refine r_goto (t := 125) fe_47_88 (by decide) ?_
                refine r_vret fe_47_125 ?_
                exact dfin (P := fun _ T => Q none (xst T G h)) hf hQ
            · rw [if_neg hx16] at hf
              by_cases hx19 : l1 = 5
              · rw [if_pos hx19] at hf
                refine r_tabI (off := 90) (t := 91) fe_47_1 hs1 (by rw [hx19]; decide) (by decide) ?_
                refine r_aload_n fe_47_91 rfl ?_
                refine r_getf (v := .ref 68) fe_47_92 lf_5_12 (x_c xk_67 (by decide)) (x_lt xk_67 (by decide)) rfl ?_
                refine r_iload_n fe_47_95 rfl ?_
                refine r_callV (as := [.int l2]) (r := []) fe_47_96 lm_5_105 md_49 rfl rfl (Nat.le_of_ble_eq_true rfl) (x_c xk_68 (by decide)) (x_lt xk_68 (by decide)) (Nat.le_of_ble_eq_true rfl) (Nat.le_of_ble_eq_true rfl) ?_
                cases hc21 : G49 68 n l2 S with
                | none => rw [hc21] at hf; cases hf
                | some z20 =>
                  rw [hc21, Option.bind_some] at hf
                  refine G49c (r0 := z20.1) (S0 := z20.2) (h0 := bS_68) (hf := hc21) ?_
                  refine r_goto (t := 125) fe_47_99 (by decide) ?_
                  refine r_vret fe_47_125 ?_
                  exact dfin (P := fun _ T => Q none (xst T G h)) hf hQ
              · rw [if_neg hx19] at hf
                by_cases hx22 : l1 = 6
                · rw [if_pos hx22] at hf
                  refine r_tabI (off := 101) (t := 102) fe_47_1 hs1 (by rw [hx22]; decide) (by decide) ?_
                  refine r_aload_n fe_47_102 rfl ?_
                  refine r_getf (v := .ref 74) fe_47_103 lf_5_21 (x_c xk_67 (by decide)) (x_lt xk_67 (by decide)) rfl ?_
                  refine r_getf (v := .ref 83) fe_47_106 lf_5_108 (x_c xk_74 (by decide)) (x_lt xk_74 (by decide)) rfl ?_
                  refine r_iload_n fe_47_109 rfl ?_
                  refine r_iload_n fe_47_110 rfl ?_
                  by_cases hg23 : ¬ (l2 < 0 ∨ 16 ≤ (l2).toNatClampNeg)
                  rotate_left
                  · rw [if_neg hg23] at hf; cases hf
                  rw [if_pos hg23] at hf
                  refine r_iast (j := (Int32.toNatClampNeg l2)) fe_47_111 (x_h xk_83 (by decide)) (x_lt xk_83 (by decide)) (by decide) (fun z => hg23 (Or.inl z)) rfl (fun z => hg23 (Or.inr z)) ?_
                  obtain ⟨S24, e25, hf⟩ := dbnd hf
                  refine go_heap (h2 := xst S24 G h) ((x_uA xk_83).trans (by rw [e25])) ?_
                  refine r_goto (t := 125) fe_47_112 (by decide) ?_
                  refine r_vret fe_47_125 ?_
                  exact dfin (P := fun _ T => Q none (xst T G h)) hf hQ
                · rw [if_neg hx22] at hf
                  cases hf
theorem G47c {xs : Nat → Int32} {L9 d : Nat} {G : gS} {h : Nat → va_E} {n : Nat} {Q : Option Value → AmH → Prop} {r0 : Unit} {S0 S : xS} {l1 : Int32} {l2 : Int32} {l3 : Int32} (hf : G47 n l1 l2 l3 S = some (r0, S0)) (hQ : Q none (xst S0 G h)) : Ca (am_X xs L9) (d + 2) 47 [.ref 67, .int l1, .int l2, .int l3] (xst S G h) Q := (G47l hQ n) l1 l2 l3 S hf
def G42b0 (F : Nat → Int32 → xS → Option (Int32 × xS)) (n : Nat) (l2 : Int32) (S : xS) : Option (Int32 × xS) := ((G40 n 0 ((S.1 68 0) - 1) S).bind (fun z1 => (if am_ic .ne z1.1 (-1) = true then ((G43 n l2 z1.1 z1.2).bind (fun z4 => (if am_if .eq z4.1 = true then ((G44 n l2 z4.2).bind (fun z7 => (if am_ic .ne z7.1 (-1) = true then (if am_ic .ne l2 1 = true then ((G47 n l2 z1.1 z7.1 z7.2).bind (fun z11 => some (1, z11.2))) else (if am_ic .ne z7.1 z1.1 = true then ((G47 n l2 z1.1 z7.1 z7.2).bind (fun z14 => some (1, z14.2))) else ((G36 n (z7.2.1 65 3) 1 z7.2).bind (fun z16 => (if narrow .boolean (.int z16.1) = .int z16.1 then some (z16.1, z16.2) else none))))) else some (0, z7.2)))) else ((G36 n (z4.2.1 65 3) 1 z4.2).bind (fun z19 => (if narrow .boolean (.int z19.1) = .int z19.1 then some (z19.1, z19.2) else none)))))) else some (0, z1.2))))
def G42f : Nat → Nat → Int32 → xS → Option (Int32 × xS)
  | 0, _, _, _ => none
  | n + 1, c, l2, S => G42b0 (G42f n) n l2 S
theorem G42e0 (n : Nat) (l2 : Int32) (S : xS) : G42f (n + 1) 0 l2 S = G42b0 (G42f n) n l2 S := rfl
def G42 (n : Nat) (l2 : Int32) (S : xS) : Option (Int32 × xS) := G42f n 0 l2 S
set_option maxRecDepth 20000 in
set_option maxHeartbeats 4000000 in
theorem G42l {xs : Nat → Int32} {L9 d : Nat} {G : gS} {h : Nat → va_E} {Q : Option Value → AmH → Prop} {r0 : Int32} {S0 : xS} (hQ : Q (some (.int r0)) (xst S0 G h)) : ∀ n : Nat, (∀ (l2 : Int32) (S : xS), G42f n 0 l2 S = some (r0, S0) → Go (am_X xs L9) (d + 4) 42 0 [.ref 67, .ref 65, .int l2, .float 0, .float 0] [] (xst S G h) Q) := by
  intro n
  induction n with
  | zero => exact fun l2 S hf => (by cases hf)
  | succ n ih =>
    intro l2 S hf
    rw [G42e0] at hf
    unfold G42b0 at hf
    refine r_aload_n fe_42_0 rfl ?_
    refine r_iconst (v := 0) fe_42_1 (by decide) ?_
    refine r_aload_n fe_42_2 rfl ?_
    refine r_getf (v := .ref 68) fe_42_3 lf_5_12 (x_c xk_67 (by decide)) (x_lt xk_67 (by decide)) rfl ?_
    refine r_getf (v := .int (S.1 68 0)) fe_42_6 lf_5_76 (x_c xk_68 (by decide)) (x_lt xk_68 (by decide)) rfl ?_
    refine r_iconst (v := 1) fe_42_9 (by decide) ?_
    refine r_isub (v := ((S.1 68 0) - 1)) fe_42_10 rfl ?_
    refine r_callV (as := [.int 0, .int ((S.1 68 0) - 1)]) (r := []) fe_42_11 lm_5_72 md_40 rfl rfl (Nat.le_of_ble_eq_true rfl) (x_c xk_65 (by decide)) (x_lt xk_65 (by decide)) (Nat.le_of_ble_eq_true rfl) (Nat.le_of_ble_eq_true rfl) ?_
    cases hc2 : G40 n 0 ((S.1 68 0) - 1) S with
    | none => rw [hc2] at hf; cases hf
    | some z1 =>
      rw [hc2, Option.bind_some] at hf
      refine G40c (r0 := z1.1) (S0 := z1.2)  (hf := hc2) ?_
      refine r_istore_n fe_42_14 (Nat.le_of_ble_eq_true rfl) rfl ?_
      refine r_iload_n fe_42_15 rfl ?_
      refine r_iconst (v := -1) fe_42_16 (by decide) ?_
      by_cases hb3 : am_ic .ne z1.1 (-1) = true
      · rw [if_pos hb3] at hf
        refine r_ic_t (t := 22) fe_42_17 (by decide) hb3 ?_
        refine r_aload_n fe_42_22 rfl ?_
        refine r_iload_n fe_42_23 rfl ?_
        refine r_iload_n fe_42_24 rfl ?_
        refine r_callV (as := [.int l2, .int z1.1]) (r := []) fe_42_25 lm_5_79 md_43 rfl rfl (Nat.le_of_ble_eq_true rfl) (x_c xk_67 (by decide)) (x_lt xk_67 (by decide)) (Nat.le_of_ble_eq_true rfl) (Nat.le_of_ble_eq_true rfl) ?_
        cases hc5 : G43 n l2 z1.1 z1.2 with
        | none => rw [hc5] at hf; cases hf
        | some z4 =>
          rw [hc5, Option.bind_some] at hf
          refine G43c (r0 := z4.1) (S0 := z4.2)  (hf := hc5) ?_
          by_cases hb6 : am_if .eq z4.1 = true
          · rw [if_pos hb6] at hf
            refine r_if_t (t := 41) fe_42_28 (by decide) hb6 ?_
            refine r_aload_n fe_42_41 rfl ?_
            refine r_aload_n fe_42_42 rfl ?_
            refine r_iload_n fe_42_43 rfl ?_
            refine r_callV (as := [.ref 65, .int l2]) (r := []) fe_42_44 lm_5_82 md_44 rfl rfl (Nat.le_of_ble_eq_true rfl) (x_c xk_67 (by decide)) (x_lt xk_67 (by decide)) (Nat.le_of_ble_eq_true rfl) (Nat.le_of_ble_eq_true rfl) ?_
            cases hc8 : G44 n l2 z4.2 with
            | none => rw [hc8] at hf; cases hf
            | some z7 =>
              rw [hc8, Option.bind_some] at hf
              refine G44c (r0 := z7.1) (S0 := z7.2)  (hf := hc8) ?_
              refine r_istore fe_42_47 (Nat.le_of_ble_eq_true rfl) rfl ?_
              refine r_iload fe_42_49 rfl ?_
              refine r_iconst (v := -1) fe_42_51 (by decide) ?_
              by_cases hb9 : am_ic .ne z7.1 (-1) = true
              · rw [if_pos hb9] at hf
                refine r_ic_t (t := 57) fe_42_52 (by decide) hb9 ?_
                refine r_iload_n fe_42_57 rfl ?_
                refine r_iconst (v := 1) fe_42_58 (by decide) ?_
                by_cases hb10 : am_ic .ne l2 1 = true
                · rw [if_pos hb10] at hf
                  refine r_ic_t (t := 78) fe_42_59 (by decide) hb10 ?_
                  refine r_aload_n fe_42_78 rfl ?_
                  refine r_iload_n fe_42_79 rfl ?_
                  refine r_iload_n fe_42_80 rfl ?_
                  refine r_iload fe_42_81 rfl ?_
                  refine r_callV (as := [.int l2, .int z1.1, .int z7.1]) (r := []) fe_42_83 lm_5_86 md_47 rfl rfl (Nat.le_of_ble_eq_true rfl) (x_c xk_67 (by decide)) (x_lt xk_67 (by decide)) (Nat.le_of_ble_eq_true rfl) (Nat.le_of_ble_eq_true rfl) ?_
                  cases hc12 : G47 n l2 z1.1 z7.1 z7.2 with
                  | none => rw [hc12] at hf; cases hf
                  | some z11 =>
                    rw [hc12, Option.bind_some] at hf
                    refine G47c (r0 := z11.1) (S0 := z11.2)  (hf := hc12) ?_
                    refine r_iconst (v := 1) fe_42_86 (by decide) ?_
                    refine r_iret fe_42_87 ⟨rfl, by decide⟩ ?_
                    exact dfin (P := fun r T => Q (some (.int r)) (xst T G h)) hf hQ
                · rw [if_neg hb10] at hf
                  refine r_ic_f (t := 78) fe_42_59 (by decide) (Bool.eq_false_iff.mpr hb10) ?_
                  refine r_iload fe_42_62 rfl ?_
                  refine r_iload_n fe_42_64 rfl ?_
                  by_cases hb13 : am_ic .ne z7.1 z1.1 = true
                  · rw [if_pos hb13] at hf
                    refine r_ic_t (t := 78) fe_42_65 (by decide) hb13 ?_
                    refine r_aload_n fe_42_78 rfl ?_
                    refine r_iload_n fe_42_79 rfl ?_
                    refine r_iload_n fe_42_80 rfl ?_
                    refine r_iload fe_42_81 rfl ?_
                    refine r_callV (as := [.int l2, .int z1.1, .int z7.1]) (r := []) fe_42_83 lm_5_86 md_47 rfl rfl (Nat.le_of_ble_eq_true rfl) (x_c xk_67 (by decide)) (x_lt xk_67 (by decide)) (Nat.le_of_ble_eq_true rfl) (Nat.le_of_ble_eq_true rfl) ?_
                    cases hc15 : G47 n l2 z1.1 z7.1 z7.2 with
                    | none => rw [hc15] at hf; cases hf
                    | some z14 =>
                      rw [hc15, Option.bind_some] at hf
                      refine G47c (r0 := z14.1) (S0 := z14.2)  (hf := hc15) ?_
                      refine r_iconst (v := 1) fe_42_86 (by decide) ?_
                      refine r_iret fe_42_87 ⟨rfl, by decide⟩ ?_
                      exact dfin (P := fun r T => Q (some (.int r)) (xst T G h)) hf hQ
                  · rw [if_neg hb13] at hf
                    refine r_ic_f (t := 78) fe_42_65 (by decide) (Bool.eq_false_iff.mpr hb13) ?_
                    refine r_aload_n fe_42_68 rfl ?_
                    refine r_aload_n fe_42_69 rfl ?_
                    refine r_getf (v := .int (z7.2.1 65 3)) fe_42_70 lf_5_58 (x_c xk_65 (by decide)) (x_lt xk_65 (by decide)) rfl ?_
                    refine r_iconst (v := 1) fe_42_73 (by decide) ?_
                    refine r_callV (as := [.int (z7.2.1 65 3), .int 1]) (r := []) fe_42_74 lm_5_61 md_36 rfl rfl (Nat.le_of_ble_eq_true rfl) (x_c xk_65 (by decide)) (x_lt xk_65 (by decide)) (Nat.le_of_ble_eq_true rfl) (Nat.le_of_ble_eq_true rfl) ?_
                    cases hc17 : G36 n (z7.2.1 65 3) 1 z7.2 with
                    | none => rw [hc17] at hf; cases hf
                    | some z16 =>
                      rw [hc17, Option.bind_some] at hf
                      refine G36c (r0 := z16.1) (S0 := z16.2)  (hf := hc17) ?_
                      by_cases hz18 : narrow .boolean (.int z16.1) = .int z16.1
                      rotate_left
                      · rw [if_neg hz18] at hf; cases hf
                      rw [if_pos hz18] at hf
                      refine r_iret fe_42_77 ⟨hz18, by decide⟩ ?_
                      exact dfin (P := fun r T => Q (some (.int r)) (xst T G h)) hf hQ
              · rw [if_neg hb9] at hf
                refine r_ic_f (t := 57) fe_42_52 (by decide) (Bool.eq_false_iff.mpr hb9) ?_
                refine r_iconst (v := 0) fe_42_55 (by decide) ?_
                refine r_iret fe_42_56 ⟨rfl, by decide⟩ ?_
                exact dfin (P := fun r T => Q (some (.int r)) (xst T G h)) hf hQ
          · rw [if_neg hb6] at hf
            refine r_if_f (t := 41) fe_42_28 (by decide) (Bool.eq_false_iff.mpr hb6) ?_
            refine r_aload_n fe_42_31 rfl ?_
            refine r_aload_n fe_42_32 rfl ?_
            refine r_getf (v := .int (z4.2.1 65 3)) fe_42_33 lf_5_58 (x_c xk_65 (by decide)) (x_lt xk_65 (by decide)) rfl ?_
            refine r_iconst (v := 1) fe_42_36 (by decide) ?_
            refine r_callV (as := [.int (z4.2.1 65 3), .int 1]) (r := []) fe_42_37 lm_5_61 md_36 rfl rfl (Nat.le_of_ble_eq_true rfl) (x_c xk_65 (by decide)) (x_lt xk_65 (by decide)) (Nat.le_of_ble_eq_true rfl) (Nat.le_of_ble_eq_true rfl) ?_
            cases hc20 : G36 n (z4.2.1 65 3) 1 z4.2 with
            | none => rw [hc20] at hf; cases hf
            | some z19 =>
              rw [hc20, Option.bind_some] at hf
              refine G36c (r0 := z19.1) (S0 := z19.2)  (hf := hc20) ?_
              by_cases hz21 : narrow .boolean (.int z19.1) = .int z19.1
              rotate_left
              · rw [if_neg hz21] at hf; cases hf
              rw [if_pos hz21] at hf
              refine r_iret fe_42_40 ⟨hz21, by decide⟩ ?_
              exact dfin (P := fun r T => Q (some (.int r)) (xst T G h)) hf hQ
      · rw [if_neg hb3] at hf
        refine r_ic_f (t := 22) fe_42_17 (by decide) (Bool.eq_false_iff.mpr hb3) ?_
        refine r_iconst (v := 0) fe_42_20 (by decide) ?_
        refine r_iret fe_42_21 ⟨rfl, by decide⟩ ?_
        exact dfin (P := fun r T => Q (some (.int r)) (xst T G h)) hf hQ
theorem G42c {xs : Nat → Int32} {L9 d : Nat} {G : gS} {h : Nat → va_E} {n : Nat} {Q : Option Value → AmH → Prop} {r0 : Int32} {S0 S : xS} {l2 : Int32} (hf : G42 n l2 S = some (r0, S0)) (hQ : Q (some (.int r0)) (xst S0 G h)) : Ca (am_X xs L9) (d + 4) 42 [.ref 67, .ref 65, .int l2] (xst S G h) Q := (G42l hQ n) l2 S hf
def G35b0 (F : Nat → Nat → Int32 → Int32 → Int32 → xS → Option (Int32 × xS)) (n : Nat) (l1 : Nat) (l2 : Int32) (l3 : Int32) (l5 : Int32) (S : xS) : Option (Int32 × xS) := (if am_ic .gt (((S.1 65 2) + l3) - l2) (S.1 65 1) = true then some (0, S) else (if am_ic .ge (((S.1 65 2) + l3) - l2) (S.1 65 1) = true then F 57 l1 l2 l3 l2 S else (if ¬ ((((S.1 65 2) + l3) - l2) < 0 ∨ 400 ≤ ((((S.1 65 2) + l3) - l2)).toNatClampNeg) then (if am_ic .lt (S.2.1 66 (Int32.toNatClampNeg (((S.1 65 2) + l3) - l2))) 97 = true then F 57 l1 l2 l3 l2 S else (if ¬ ((((S.1 65 2) + l3) - l2) < 0 ∨ 400 ≤ ((((S.1 65 2) + l3) - l2)).toNatClampNeg) then (if am_ic .gt (S.2.1 66 (Int32.toNatClampNeg (((S.1 65 2) + l3) - l2))) 122 = true then F 57 l1 l2 l3 l2 S else some (0, S)) else none)) else none)))
def G35b57 (F : Nat → Nat → Int32 → Int32 → Int32 → xS → Option (Int32 × xS)) (n : Nat) (l1 : Nat) (l2 : Int32) (l3 : Int32) (l5 : Int32) (S : xS) : Option (Int32 × xS) := (if am_ic .ge l5 l3 = true then some (1, S) else (if sB l1 = true then (if ¬ (l5 < 0 ∨ (sTx l1).length ≤ (l5).toNatClampNeg) then (if ¬ ((((S.1 65 2) + l5) - l2) < 0 ∨ 400 ≤ ((((S.1 65 2) + l5) - l2)).toNatClampNeg) then (if am_ic .eq (sCh l1 (Int32.toNatClampNeg l5)) (S.2.1 66 (Int32.toNatClampNeg (((S.1 65 2) + l5) - l2))) = true then F 57 l1 l2 l3 (l5 + 1) S else some (0, S)) else none) else none) else none))
def G35f : Nat → Nat → Nat → Int32 → Int32 → Int32 → xS → Option (Int32 × xS)
  | 0, _, _, _, _, _, _ => none
  | n + 1, c, l1, l2, l3, l5, S => if c = 0 then G35b0 (G35f n) n l1 l2 l3 l5 S else G35b57 (G35f n) n l1 l2 l3 l5 S
theorem G35e0 (n : Nat) (l1 : Nat) (l2 : Int32) (l3 : Int32) (l5 : Int32) (S : xS) : G35f (n + 1) 0 l1 l2 l3 l5 S = G35b0 (G35f n) n l1 l2 l3 l5 S := if_pos rfl
theorem G35e57 (n : Nat) (l1 : Nat) (l2 : Int32) (l3 : Int32) (l5 : Int32) (S : xS) : G35f (n + 1) 57 l1 l2 l3 l5 S = G35b57 (G35f n) n l1 l2 l3 l5 S := if_neg (by decide)
def G35 (n : Nat) (l1 : Nat) (l2 : Int32) (l3 : Int32) (S : xS) : Option (Int32 × xS) := G35f n 0 l1 l2 l3 0 S
set_option maxRecDepth 20000 in
set_option maxHeartbeats 4000000 in
theorem G35l {xs : Nat → Int32} {L9 d : Nat} {G : gS} {h : Nat → va_E} {Q : Option Value → AmH → Prop} {r0 : Int32} {S0 : xS} (hQ : Q (some (.int r0)) (xst S0 G h)) : ∀ n : Nat, (∀ (l1 : Nat) (l2 : Int32) (l3 : Int32) (l5 : Int32) (S : xS), G35f n 0 l1 l2 l3 l5 S = some (r0, S0) → Go (am_X xs L9) (d + 4) 35 0 [.ref 65, .ref l1, .int l2, .int l3, .float 0, .float 0] [] (xst S G h) Q) ∧ (∀ (l1 : Nat) (l2 : Int32) (l3 : Int32) (l5 : Int32) (S : xS), G35f n 57 l1 l2 l3 l5 S = some (r0, S0) → Go (am_X xs L9) (d + 4) 35 57 [.ref 65, .ref l1, .int l2, .int l3, .float 0, .int l5] [] (xst S G h) Q) := by
  intro n
  induction n with
  | zero => exact ⟨fun l1 l2 l3 l5 S hf => (by cases hf), fun l1 l2 l3 l5 S hf => (by cases hf)⟩
  | succ n ih =>
    refine ⟨?_, ?_⟩
    · intro l1 l2 l3 l5 S hf
      rw [G35e0] at hf
      unfold G35b0 at hf
      refine r_aload_n fe_35_0 rfl ?_
      refine r_getf (v := .int (S.1 65 2)) fe_35_1 lf_8_19 (x_c xk_65 (by decide)) (x_lt xk_65 (by decide)) rfl ?_
      refine r_iload_n fe_35_4 rfl ?_
      refine r_iadd (v := ((S.1 65 2) + l3)) fe_35_5 rfl ?_
      refine r_iload_n fe_35_6 rfl ?_
      refine r_isub (v := (((S.1 65 2) + l3) - l2)) fe_35_7 rfl ?_
      refine r_istore fe_35_8 (Nat.le_of_ble_eq_true rfl) rfl ?_
      refine r_iload fe_35_10 rfl ?_
      refine r_aload_n fe_35_12 rfl ?_
      refine r_getf (v := .int (S.1 65 1)) fe_35_13 lf_8_15 (x_c xk_65 (by decide)) (x_lt xk_65 (by decide)) rfl ?_
      by_cases hb1 : am_ic .gt (((S.1 65 2) + l3) - l2) (S.1 65 1) = true
      · rw [if_pos hb1] at hf
        refine r_ic_t (t := 52) fe_35_16 (by decide) hb1 ?_
        refine r_iconst (v := 0) fe_35_52 (by decide) ?_
        refine r_iret fe_35_53 ⟨rfl, by decide⟩ ?_
        exact dfin (P := fun r T => Q (some (.int r)) (xst T G h)) hf hQ
      · rw [if_neg hb1] at hf
        refine r_ic_f (t := 52) fe_35_16 (by decide) (Bool.eq_false_iff.mpr hb1) ?_
        refine r_iload fe_35_19 rfl ?_
        refine r_aload_n fe_35_21 rfl ?_
        refine r_getf (v := .int (S.1 65 1)) fe_35_22 lf_8_15 (x_c xk_65 (by decide)) (x_lt xk_65 (by decide)) rfl ?_
        by_cases hb2 : am_ic .ge (((S.1 65 2) + l3) - l2) (S.1 65 1) = true
        · rw [if_pos hb2] at hf
          refine r_ic_t (t := 54) fe_35_25 (by decide) hb2 ?_
          refine r_iload_n fe_35_54 rfl ?_
          refine r_istore fe_35_55 (Nat.le_of_ble_eq_true rfl) rfl ?_
          refine go_weak (L0 := [.ref 65, .ref l1, .int l2, .int l3, .float 0, .int l2]) (lwk_c (Or.inl rfl) (lwk_c (Or.inl rfl) (lwk_c (Or.inl rfl) (lwk_c (Or.inl rfl) (lwk_c (Or.inr rfl) (lwk_c (Or.inl rfl) (lwk_rf []))))))) ?_
          exact ih.2 l1 l2 l3 l2 S hf
        · rw [if_neg hb2] at hf
          refine r_ic_f (t := 54) fe_35_25 (by decide) (Bool.eq_false_iff.mpr hb2) ?_
          refine r_aload_n fe_35_28 rfl ?_
          refine r_getf (v := .ref 66) fe_35_29 lf_8_9 (x_c xk_65 (by decide)) (x_lt xk_65 (by decide)) rfl ?_
          refine r_iload fe_35_32 rfl ?_
          by_cases hg3 : ¬ ((((S.1 65 2) + l3) - l2) < 0 ∨ 400 ≤ ((((S.1 65 2) + l3) - l2)).toNatClampNeg)
          rotate_left
          · rw [if_neg hg3] at hf; cases hf
          rw [if_pos hg3] at hf
          refine r_iald (j := (Int32.toNatClampNeg (((S.1 65 2) + l3) - l2))) (v := S.2.1 66 (Int32.toNatClampNeg (((S.1 65 2) + l3) - l2))) fe_35_34 (x_c xk_66 (by decide)) (x_lt xk_66 (by decide)) (fun z => hg3 (Or.inl z)) rfl (fun z => hg3 (Or.inr z)) rfl ?_
          refine r_bipush (v := 97) fe_35_35 (by decide) ?_
          by_cases hb4 : am_ic .lt (S.2.1 66 (Int32.toNatClampNeg (((S.1 65 2) + l3) - l2))) 97 = true
          · rw [if_pos hb4] at hf
            refine r_ic_t (t := 54) fe_35_37 (by decide) hb4 ?_
            refine r_iload_n fe_35_54 rfl ?_
            refine r_istore fe_35_55 (Nat.le_of_ble_eq_true rfl) rfl ?_
            refine go_weak (L0 := [.ref 65, .ref l1, .int l2, .int l3, .float 0, .int l2]) (lwk_c (Or.inl rfl) (lwk_c (Or.inl rfl) (lwk_c (Or.inl rfl) (lwk_c (Or.inl rfl) (lwk_c (Or.inr rfl) (lwk_c (Or.inl rfl) (lwk_rf []))))))) ?_
            exact ih.2 l1 l2 l3 l2 S hf
          · rw [if_neg hb4] at hf
            refine r_ic_f (t := 54) fe_35_37 (by decide) (Bool.eq_false_iff.mpr hb4) ?_
            refine r_aload_n fe_35_40 rfl ?_
            refine r_getf (v := .ref 66) fe_35_41 lf_8_9 (x_c xk_65 (by decide)) (x_lt xk_65 (by decide)) rfl ?_
            refine r_iload fe_35_44 rfl ?_
            by_cases hg5 : ¬ ((((S.1 65 2) + l3) - l2) < 0 ∨ 400 ≤ ((((S.1 65 2) + l3) - l2)).toNatClampNeg)
            rotate_left
            · rw [if_neg hg5] at hf; cases hf
            rw [if_pos hg5] at hf
            refine r_iald (j := (Int32.toNatClampNeg (((S.1 65 2) + l3) - l2))) (v := S.2.1 66 (Int32.toNatClampNeg (((S.1 65 2) + l3) - l2))) fe_35_46 (x_c xk_66 (by decide)) (x_lt xk_66 (by decide)) (fun z => hg5 (Or.inl z)) rfl (fun z => hg5 (Or.inr z)) rfl ?_
            refine r_bipush (v := 122) fe_35_47 (by decide) ?_
            by_cases hb6 : am_ic .gt (S.2.1 66 (Int32.toNatClampNeg (((S.1 65 2) + l3) - l2))) 122 = true
            · rw [if_pos hb6] at hf
              refine r_ic_t (t := 54) fe_35_49 (by decide) hb6 ?_
              refine r_iload_n fe_35_54 rfl ?_
              refine r_istore fe_35_55 (Nat.le_of_ble_eq_true rfl) rfl ?_
              refine go_weak (L0 := [.ref 65, .ref l1, .int l2, .int l3, .float 0, .int l2]) (lwk_c (Or.inl rfl) (lwk_c (Or.inl rfl) (lwk_c (Or.inl rfl) (lwk_c (Or.inl rfl) (lwk_c (Or.inr rfl) (lwk_c (Or.inl rfl) (lwk_rf []))))))) ?_
              exact ih.2 l1 l2 l3 l2 S hf
            · rw [if_neg hb6] at hf
              refine r_ic_f (t := 54) fe_35_49 (by decide) (Bool.eq_false_iff.mpr hb6) ?_
              refine r_iconst (v := 0) fe_35_52 (by decide) ?_
              refine r_iret fe_35_53 ⟨rfl, by decide⟩ ?_
              exact dfin (P := fun r T => Q (some (.int r)) (xst T G h)) hf hQ
    · intro l1 l2 l3 l5 S hf
      rw [G35e57] at hf
      unfold G35b57 at hf
      refine r_iload fe_35_57 rfl ?_
      refine r_iload_n fe_35_59 rfl ?_
      by_cases hb7 : am_ic .ge l5 l3 = true
      · rw [if_pos hb7] at hf
        refine r_ic_t (t := 94) fe_35_60 (by decide) hb7 ?_
        refine r_iconst (v := 1) fe_35_94 (by decide) ?_
        refine r_iret fe_35_95 ⟨rfl, by decide⟩ ?_
        exact dfin (P := fun r T => Q (some (.int r)) (xst T G h)) hf hQ
      · rw [if_neg hb7] at hf
        refine r_ic_f (t := 94) fe_35_60 (by decide) (Bool.eq_false_iff.mpr hb7) ?_
        refine r_aload_n fe_35_63 rfl ?_
        refine r_iload fe_35_64 rfl ?_
        by_cases hs8 : sB l1 = true
        rotate_left
        · rw [if_neg hs8] at hf; cases hf
        rw [if_pos hs8] at hf
        by_cases hg9 : ¬ (l5 < 0 ∨ (sTx l1).length ≤ (l5).toNatClampNeg)
        rotate_left
        · rw [if_neg hg9] at hf; cases hf
        rw [if_pos hg9] at hf
        refine r_callV (as := [.int l5]) (r := []) fe_35_66 lm_8_47 md_26 rfl rfl (Nat.le_of_ble_eq_true rfl) (s_c (sB_ok hs8)) (xs_lt (sB_ok hs8)) (Nat.le_of_ble_eq_true rfl) (Nat.le_of_ble_eq_true rfl) ?_
        refine c_charAt (sB_ok hs8) x_64 hg9 ?_
        refine r_aload_n fe_35_69 rfl ?_
        refine r_getf (v := .ref 66) fe_35_70 lf_8_9 (x_c xk_65 (by decide)) (x_lt xk_65 (by decide)) rfl ?_
        refine r_aload_n fe_35_73 rfl ?_
        refine r_getf (v := .int (S.1 65 2)) fe_35_74 lf_8_19 (x_c xk_65 (by decide)) (x_lt xk_65 (by decide)) rfl ?_
        refine r_iload fe_35_77 rfl ?_
        refine r_iadd (v := ((S.1 65 2) + l5)) fe_35_79 rfl ?_
        refine r_iload_n fe_35_80 rfl ?_
        refine r_isub (v := (((S.1 65 2) + l5) - l2)) fe_35_81 rfl ?_
        by_cases hg10 : ¬ ((((S.1 65 2) + l5) - l2) < 0 ∨ 400 ≤ ((((S.1 65 2) + l5) - l2)).toNatClampNeg)
        rotate_left
        · rw [if_neg hg10] at hf; cases hf
        rw [if_pos hg10] at hf
        refine r_iald (j := (Int32.toNatClampNeg (((S.1 65 2) + l5) - l2))) (v := S.2.1 66 (Int32.toNatClampNeg (((S.1 65 2) + l5) - l2))) fe_35_82 (x_c xk_66 (by decide)) (x_lt xk_66 (by decide)) (fun z => hg10 (Or.inl z)) rfl (fun z => hg10 (Or.inr z)) rfl ?_
        by_cases hb11 : am_ic .eq (sCh l1 (Int32.toNatClampNeg l5)) (S.2.1 66 (Int32.toNatClampNeg (((S.1 65 2) + l5) - l2))) = true
        · rw [if_pos hb11] at hf
          refine r_ic_t (t := 88) fe_35_83 (by decide) hb11 ?_
          refine r_iinc (v := (l5 + 1)) fe_35_88 rfl rfl rfl ?_
          refine r_goto (t := 57) fe_35_91 (by decide) ?_
          refine go_weak (L0 := [.ref 65, .ref l1, .int l2, .int l3, .float 0, .int (l5 + 1)]) (lwk_c (Or.inl rfl) (lwk_c (Or.inl rfl) (lwk_c (Or.inl rfl) (lwk_c (Or.inl rfl) (lwk_c (Or.inl rfl) (lwk_c (Or.inl rfl) (lwk_rf []))))))) ?_
          exact ih.2 l1 l2 l3 (l5 + 1) S hf
        · rw [if_neg hb11] at hf
          refine r_ic_f (t := 88) fe_35_83 (by decide) (Bool.eq_false_iff.mpr hb11) ?_
          refine r_iconst (v := 0) fe_35_86 (by decide) ?_
          refine r_iret fe_35_87 ⟨rfl, by decide⟩ ?_
          exact dfin (P := fun r T => Q (some (.int r)) (xst T G h)) hf hQ
theorem G35c {xs : Nat → Int32} {L9 d : Nat} {G : gS} {h : Nat → va_E} {n : Nat} {Q : Option Value → AmH → Prop} {r0 : Int32} {S0 S : xS} {l1 : Nat} {l2 : Int32} {l3 : Int32} (hf : G35 n l1 l2 l3 S = some (r0, S0)) (hQ : Q (some (.int r0)) (xst S0 G h)) : Ca (am_X xs L9) (d + 4) 35 [.ref 65, .ref l1, .int l2, .int l3] (xst S G h) Q := (G35l hQ n).1 l1 l2 l3 0 S hf
def G22b0 (F : Nat → Nat → Int32 → Int32 → Int32 → xS → Option (Int32 × xS)) (n : Nat) (l1 : Nat) (l2 : Int32) (l3 : Int32) (l4 : Int32) (S : xS) : Option (Int32 × xS) := ((G23 n  S).bind (fun z1 => F 20 l1 0 0 0 (x_sI z1.2 65 3 (z1.2.1 65 2))))
def G22b20 (F : Nat → Nat → Int32 → Int32 → Int32 → xS → Option (Int32 × xS)) (n : Nat) (l1 : Nat) (l2 : Int32) (l3 : Int32) (l4 : Int32) (S : xS) : Option (Int32 × xS) := (if sB l1 = true then (if am_ic .gt l4 (nI (sTx l1).length) = true then ((G36 n (S.1 65 3) 0 S).bind (fun z5 => some ((-1), z5.2))) else (if sB l1 = true then (if am_ic .eq l4 (nI (sTx l1).length) = true then ((G35 n l1 l3 l4 S).bind (fun z9 => (if am_if .eq z9.1 = true then F 20 l1 (l2 + 1) (l4 + 1) (l4 + 1) z9.2 else some (l2, (x_sI z9.2 65 2 ((z9.2.1 65 2) + (l4 - l3))))))) else (if sB l1 = true then (if ¬ (l4 < 0 ∨ (sTx l1).length ≤ (l4).toNatClampNeg) then (if am_ic .ne (sCh l1 (Int32.toNatClampNeg l4)) 32 = true then F 20 l1 l2 l3 (l4 + 1) S else ((G35 n l1 l3 l4 S).bind (fun z15 => (if am_if .eq z15.1 = true then F 20 l1 (l2 + 1) (l4 + 1) (l4 + 1) z15.2 else some (l2, (x_sI z15.2 65 2 ((z15.2.1 65 2) + (l4 - l3)))))))) else none) else none)) else none)) else none)
def G22f : Nat → Nat → Nat → Int32 → Int32 → Int32 → xS → Option (Int32 × xS)
  | 0, _, _, _, _, _, _ => none
  | n + 1, c, l1, l2, l3, l4, S => if c = 0 then G22b0 (G22f n) n l1 l2 l3 l4 S else G22b20 (G22f n) n l1 l2 l3 l4 S
theorem G22e0 (n : Nat) (l1 : Nat) (l2 : Int32) (l3 : Int32) (l4 : Int32) (S : xS) : G22f (n + 1) 0 l1 l2 l3 l4 S = G22b0 (G22f n) n l1 l2 l3 l4 S := if_pos rfl
theorem G22e20 (n : Nat) (l1 : Nat) (l2 : Int32) (l3 : Int32) (l4 : Int32) (S : xS) : G22f (n + 1) 20 l1 l2 l3 l4 S = G22b20 (G22f n) n l1 l2 l3 l4 S := if_neg (by decide)
def G22 (n : Nat) (l1 : Nat) (S : xS) : Option (Int32 × xS) := G22f n 0 l1 0 0 0 S
set_option maxRecDepth 20000 in
set_option maxHeartbeats 4000000 in
theorem G22l {xs : Nat → Int32} {L9 d : Nat} {G : gS} {h : Nat → va_E} {Q : Option Value → AmH → Prop} {r0 : Int32} {S0 : xS} (hQ : Q (some (.int r0)) (xst S0 G h)) : ∀ n : Nat, (∀ (l1 : Nat) (l2 : Int32) (l3 : Int32) (l4 : Int32) (S : xS), G22f n 0 l1 l2 l3 l4 S = some (r0, S0) → Go (am_X xs L9) (d + 5) 22 0 [.ref 65, .ref l1, .float 0, .float 0, .float 0] [] (xst S G h) Q) ∧ (∀ (l1 : Nat) (l2 : Int32) (l3 : Int32) (l4 : Int32) (S : xS), G22f n 20 l1 l2 l3 l4 S = some (r0, S0) → Go (am_X xs L9) (d + 5) 22 20 [.ref 65, .ref l1, .int l2, .int l3, .int l4] [] (xst S G h) Q) := by
  intro n
  induction n with
  | zero => exact ⟨fun l1 l2 l3 l4 S hf => (by cases hf), fun l1 l2 l3 l4 S hf => (by cases hf)⟩
  | succ n ih =>
    refine ⟨?_, ?_⟩
    · intro l1 l2 l3 l4 S hf
      rw [G22e0] at hf
      unfold G22b0 at hf
      refine r_aload_n fe_22_0 rfl ?_
      refine r_callV (as := []) (r := []) fe_22_1 lm_8_28 md_23 rfl rfl (Nat.le_of_ble_eq_true rfl) (x_c xk_65 (by decide)) (x_lt xk_65 (by decide)) (Nat.le_of_ble_eq_true rfl) (Nat.le_of_ble_eq_true rfl) ?_
      cases hc2 : G23 n  S with
      | none => rw [hc2] at hf; cases hf
      | some z1 =>
        rw [hc2, Option.bind_some] at hf
        refine G23c (r0 := z1.1) (S0 := z1.2)  (hf := hc2) ?_
        refine r_pop fe_22_4 rfl ?_
        refine r_aload_n fe_22_5 rfl ?_
        refine r_aload_n fe_22_6 rfl ?_
        refine r_getf (v := .int (z1.2.1 65 2)) fe_22_7 lf_8_19 (x_c xk_65 (by decide)) (x_lt xk_65 (by decide)) rfl ?_
        refine r_putf fe_22_10 lf_8_22 (x_h xk_65 (by decide)) (x_lt xk_65 (by decide)) (by decide) (Nat.le_of_ble_eq_true rfl) rfl rfl (Or.inl rfl) ?_
        refine go_heap (x_uI (j := 3) (x := (z1.2.1 65 2)) xk_65 (by decide)) ?_
        refine r_iconst (v := 0) fe_22_13 (by decide) ?_
        refine r_istore_n fe_22_14 (Nat.le_of_ble_eq_true rfl) rfl ?_
        refine r_iconst (v := 0) fe_22_15 (by decide) ?_
        refine r_istore_n fe_22_16 (Nat.le_of_ble_eq_true rfl) rfl ?_
        refine r_iconst (v := 0) fe_22_17 (by decide) ?_
        refine r_istore fe_22_18 (Nat.le_of_ble_eq_true rfl) rfl ?_
        refine go_weak (L0 := [.ref 65, .ref l1, .int 0, .int 0, .int 0]) (lwk_c (Or.inl rfl) (lwk_c (Or.inl rfl) (lwk_c (Or.inl rfl) (lwk_c (Or.inl rfl) (lwk_c (Or.inl rfl) (lwk_rf [])))))) ?_
        exact ih.2 l1 0 0 0 (x_sI z1.2 65 3 (z1.2.1 65 2)) hf
    · intro l1 l2 l3 l4 S hf
      rw [G22e20] at hf
      unfold G22b20 at hf
      refine r_iload fe_22_20 rfl ?_
      refine r_aload_n fe_22_22 rfl ?_
      by_cases hs3 : sB l1 = true
      rotate_left
      · rw [if_neg hs3] at hf; cases hf
      rw [if_pos hs3] at hf
      refine r_callV (as := []) (r := [.int l4]) fe_22_23 lm_8_43 md_24 rfl rfl (Nat.le_of_ble_eq_true rfl) (s_c (sB_ok hs3)) (xs_lt (sB_ok hs3)) (Nat.le_of_ble_eq_true rfl) (Nat.le_of_ble_eq_true rfl) ?_
      refine c_strlen (sB_ok hs3) x_64 ?_
      by_cases hb4 : am_ic .gt l4 (nI (sTx l1).length) = true
      · rw [if_pos hb4] at hf
        refine r_ic_t (t := 89) fe_22_26 (by decide) hb4 ?_
        refine r_aload_n fe_22_89 rfl ?_
        refine r_aload_n fe_22_90 rfl ?_
        refine r_getf (v := .int (S.1 65 3)) fe_22_91 lf_8_22 (x_c xk_65 (by decide)) (x_lt xk_65 (by decide)) rfl ?_
        refine r_iconst (v := 0) fe_22_94 (by decide) ?_
        refine r_callV (as := [.int (S.1 65 3), .int 0]) (r := []) fe_22_95 lm_8_32 md_36 rfl rfl (Nat.le_of_ble_eq_true rfl) (x_c xk_65 (by decide)) (x_lt xk_65 (by decide)) (Nat.le_of_ble_eq_true rfl) (Nat.le_of_ble_eq_true rfl) ?_
        cases hc6 : G36 n (S.1 65 3) 0 S with
        | none => rw [hc6] at hf; cases hf
        | some z5 =>
          rw [hc6, Option.bind_some] at hf
          refine G36c (r0 := z5.1) (S0 := z5.2)  (hf := hc6) ?_
          refine r_pop fe_22_98 rfl ?_
          refine r_iconst (v := -1) fe_22_99 (by decide) ?_
          refine r_iret fe_22_100 ⟨rfl, by decide⟩ ?_
          exact dfin (P := fun r T => Q (some (.int r)) (xst T G h)) hf hQ
      · rw [if_neg hb4] at hf
        refine r_ic_f (t := 89) fe_22_26 (by decide) (Bool.eq_false_iff.mpr hb4) ?_
        refine r_iload fe_22_29 rfl ?_
        refine r_aload_n fe_22_31 rfl ?_
        by_cases hs7 : sB l1 = true
        rotate_left
        · rw [if_neg hs7] at hf; cases hf
        rw [if_pos hs7] at hf
        refine r_callV (as := []) (r := [.int l4]) fe_22_32 lm_8_43 md_24 rfl rfl (Nat.le_of_ble_eq_true rfl) (s_c (sB_ok hs7)) (xs_lt (sB_ok hs7)) (Nat.le_of_ble_eq_true rfl) (Nat.le_of_ble_eq_true rfl) ?_
        refine c_strlen (sB_ok hs7) x_64 ?_
        by_cases hb8 : am_ic .eq l4 (nI (sTx l1).length) = true
        · rw [if_pos hb8] at hf
          refine r_ic_t (t := 49) fe_22_35 (by decide) hb8 ?_
          refine r_aload_n fe_22_49 rfl ?_
          refine r_aload_n fe_22_50 rfl ?_
          refine r_iload_n fe_22_51 rfl ?_
          refine r_iload fe_22_52 rfl ?_
          refine r_callV (as := [.ref l1, .int l3, .int l4]) (r := []) fe_22_54 lm_8_51 md_35 rfl rfl (Nat.le_of_ble_eq_true rfl) (x_c xk_65 (by decide)) (x_lt xk_65 (by decide)) (Nat.le_of_ble_eq_true rfl) (Nat.le_of_ble_eq_true rfl) ?_
          cases hc10 : G35 n l1 l3 l4 S with
          | none => rw [hc10] at hf; cases hf
          | some z9 =>
            rw [hc10, Option.bind_some] at hf
            refine G35c (r0 := z9.1) (S0 := z9.2)  (hf := hc10) ?_
            by_cases hb11 : am_if .eq z9.1 = true
            · rw [if_pos hb11] at hf
              refine r_if_t (t := 75) fe_22_57 (by decide) hb11 ?_
              refine r_iinc (v := (l2 + 1)) fe_22_75 rfl rfl rfl ?_
              refine r_iload fe_22_78 rfl ?_
              refine r_iconst (v := 1) fe_22_80 (by decide) ?_
              refine r_iadd (v := (l4 + 1)) fe_22_81 rfl ?_
              refine r_istore_n fe_22_82 (Nat.le_of_ble_eq_true rfl) rfl ?_
              refine r_iinc (v := (l4 + 1)) fe_22_83 rfl rfl rfl ?_
              refine r_goto (t := 20) fe_22_86 (by decide) ?_
              refine go_weak (L0 := [.ref 65, .ref l1, .int (l2 + 1), .int (l4 + 1), .int (l4 + 1)]) (lwk_c (Or.inl rfl) (lwk_c (Or.inl rfl) (lwk_c (Or.inl rfl) (lwk_c (Or.inl rfl) (lwk_c (Or.inl rfl) (lwk_rf [])))))) ?_
              exact ih.2 l1 (l2 + 1) (l4 + 1) (l4 + 1) z9.2 hf
            · rw [if_neg hb11] at hf
              refine r_if_f (t := 75) fe_22_57 (by decide) (Bool.eq_false_iff.mpr hb11) ?_
              refine r_aload_n fe_22_60 rfl ?_
              refine r_dup fe_22_61 rfl ?_
              refine r_getf (v := .int (z9.2.1 65 2)) fe_22_62 lf_8_19 (x_c xk_65 (by decide)) (x_lt xk_65 (by decide)) rfl ?_
              refine r_iload fe_22_65 rfl ?_
              refine r_iload_n fe_22_67 rfl ?_
              refine r_isub (v := (l4 - l3)) fe_22_68 rfl ?_
              refine r_iadd (v := ((z9.2.1 65 2) + (l4 - l3))) fe_22_69 rfl ?_
              refine r_putf fe_22_70 lf_8_19 (x_h xk_65 (by decide)) (x_lt xk_65 (by decide)) (by decide) (Nat.le_of_ble_eq_true rfl) rfl rfl (Or.inl rfl) ?_
              refine go_heap (x_uI (j := 2) (x := ((z9.2.1 65 2) + (l4 - l3))) xk_65 (by decide)) ?_
              refine r_iload_n fe_22_73 rfl ?_
              refine r_iret fe_22_74 ⟨rfl, by decide⟩ ?_
              exact dfin (P := fun r T => Q (some (.int r)) (xst T G h)) hf hQ
        · rw [if_neg hb8] at hf
          refine r_ic_f (t := 49) fe_22_35 (by decide) (Bool.eq_false_iff.mpr hb8) ?_
          refine r_aload_n fe_22_38 rfl ?_
          refine r_iload fe_22_39 rfl ?_
          by_cases hs12 : sB l1 = true
          rotate_left
          · rw [if_neg hs12] at hf; cases hf
          rw [if_pos hs12] at hf
          by_cases hg13 : ¬ (l4 < 0 ∨ (sTx l1).length ≤ (l4).toNatClampNeg)
          rotate_left
          · rw [if_neg hg13] at hf; cases hf
          rw [if_pos hg13] at hf
          refine r_callV (as := [.int l4]) (r := []) fe_22_41 lm_8_47 md_26 rfl rfl (Nat.le_of_ble_eq_true rfl) (s_c (sB_ok hs12)) (xs_lt (sB_ok hs12)) (Nat.le_of_ble_eq_true rfl) (Nat.le_of_ble_eq_true rfl) ?_
          refine c_charAt (sB_ok hs12) x_64 hg13 ?_
          refine r_bipush (v := 32) fe_22_44 (by decide) ?_
          by_cases hb14 : am_ic .ne (sCh l1 (Int32.toNatClampNeg l4)) 32 = true
          · rw [if_pos hb14] at hf
            refine r_ic_t (t := 83) fe_22_46 (by decide) hb14 ?_
            refine r_iinc (v := (l4 + 1)) fe_22_83 rfl rfl rfl ?_
            refine r_goto (t := 20) fe_22_86 (by decide) ?_
            refine go_weak (L0 := [.ref 65, .ref l1, .int l2, .int l3, .int (l4 + 1)]) (lwk_c (Or.inl rfl) (lwk_c (Or.inl rfl) (lwk_c (Or.inl rfl) (lwk_c (Or.inl rfl) (lwk_c (Or.inl rfl) (lwk_rf [])))))) ?_
            exact ih.2 l1 l2 l3 (l4 + 1) S hf
          · rw [if_neg hb14] at hf
            refine r_ic_f (t := 83) fe_22_46 (by decide) (Bool.eq_false_iff.mpr hb14) ?_
            refine r_aload_n fe_22_49 rfl ?_
            refine r_aload_n fe_22_50 rfl ?_
            refine r_iload_n fe_22_51 rfl ?_
            refine r_iload fe_22_52 rfl ?_
            refine r_callV (as := [.ref l1, .int l3, .int l4]) (r := []) fe_22_54 lm_8_51 md_35 rfl rfl (Nat.le_of_ble_eq_true rfl) (x_c xk_65 (by decide)) (x_lt xk_65 (by decide)) (Nat.le_of_ble_eq_true rfl) (Nat.le_of_ble_eq_true rfl) ?_
            cases hc16 : G35 n l1 l3 l4 S with
            | none => rw [hc16] at hf; cases hf
            | some z15 =>
              rw [hc16, Option.bind_some] at hf
              refine G35c (r0 := z15.1) (S0 := z15.2)  (hf := hc16) ?_
              by_cases hb17 : am_if .eq z15.1 = true
              · rw [if_pos hb17] at hf
                refine r_if_t (t := 75) fe_22_57 (by decide) hb17 ?_
                refine r_iinc (v := (l2 + 1)) fe_22_75 rfl rfl rfl ?_
                refine r_iload fe_22_78 rfl ?_
                refine r_iconst (v := 1) fe_22_80 (by decide) ?_
                refine r_iadd (v := (l4 + 1)) fe_22_81 rfl ?_
                refine r_istore_n fe_22_82 (Nat.le_of_ble_eq_true rfl) rfl ?_
                refine r_iinc (v := (l4 + 1)) fe_22_83 rfl rfl rfl ?_
                refine r_goto (t := 20) fe_22_86 (by decide) ?_
                refine go_weak (L0 := [.ref 65, .ref l1, .int (l2 + 1), .int (l4 + 1), .int (l4 + 1)]) (lwk_c (Or.inl rfl) (lwk_c (Or.inl rfl) (lwk_c (Or.inl rfl) (lwk_c (Or.inl rfl) (lwk_c (Or.inl rfl) (lwk_rf [])))))) ?_
                exact ih.2 l1 (l2 + 1) (l4 + 1) (l4 + 1) z15.2 hf
              · rw [if_neg hb17] at hf
                refine r_if_f (t := 75) fe_22_57 (by decide) (Bool.eq_false_iff.mpr hb17) ?_
                refine r_aload_n fe_22_60 rfl ?_
                refine r_dup fe_22_61 rfl ?_
                refine r_getf (v := .int (z15.2.1 65 2)) fe_22_62 lf_8_19 (x_c xk_65 (by decide)) (x_lt xk_65 (by decide)) rfl ?_
                refine r_iload fe_22_65 rfl ?_
                refine r_iload_n fe_22_67 rfl ?_
                refine r_isub (v := (l4 - l3)) fe_22_68 rfl ?_
                refine r_iadd (v := ((z15.2.1 65 2) + (l4 - l3))) fe_22_69 rfl ?_
                refine r_putf fe_22_70 lf_8_19 (x_h xk_65 (by decide)) (x_lt xk_65 (by decide)) (by decide) (Nat.le_of_ble_eq_true rfl) rfl rfl (Or.inl rfl) ?_
                refine go_heap (x_uI (j := 2) (x := ((z15.2.1 65 2) + (l4 - l3))) xk_65 (by decide)) ?_
                refine r_iload_n fe_22_73 rfl ?_
                refine r_iret fe_22_74 ⟨rfl, by decide⟩ ?_
                exact dfin (P := fun r T => Q (some (.int r)) (xst T G h)) hf hQ
theorem G22c {xs : Nat → Int32} {L9 d : Nat} {G : gS} {h : Nat → va_E} {n : Nat} {Q : Option Value → AmH → Prop} {r0 : Int32} {S0 S : xS} {l1 : Nat} (hf : G22 n l1 S = some (r0, S0)) (hQ : Q (some (.int r0)) (xst S0 G h)) : Ca (am_X xs L9) (d + 5) 22 [.ref 65, .ref l1] (xst S G h) Q := (G22l hQ n).1 l1 0 0 0 S hf
def G21b0 (F : Nat → Int32 → xS → Option (Int32 × xS)) (n : Nat) (l2 : Int32) (S : xS) : Option (Int32 × xS) := ((G22 n 2 S).bind (fun z1 => (if am_ic .ne z1.1 (-1) = true then (if am_ic .ge l2 40 = true then ((G36 n (z1.2.1 65 3) 4 z1.2).bind (fun z5 => (if narrow .boolean (.int z5.1) = .int z5.1 then some (z5.1, z5.2) else none))) else (if am_if .ne l2 = true then (if am_if .ne z1.1 = true then ((G37 n z1.1 z1.2).bind (fun z10 => (if am_if .eq z10.1 = true then (if am_if .ne z1.1 = true then ((G42 n z1.1 z10.2).bind (fun z14 => (if narrow .boolean (.int z14.1) = .int z14.1 then some (z14.1, z14.2) else none))) else ((G39 n  z10.2).bind (fun z17 => (if narrow .boolean (.int z17.1) = .int z17.1 then some (z17.1, z17.2) else none)))) else ((G36 n (z10.2.1 65 3) 4 z10.2).bind (fun z20 => (if narrow .boolean (.int z20.1) = .int z20.1 then some (z20.1, z20.2) else none)))))) else ((G36 n (z1.2.1 65 3) 4 z1.2).bind (fun z23 => (if narrow .boolean (.int z23.1) = .int z23.1 then some (z23.1, z23.2) else none)))) else (if am_if .ne z1.1 = true then ((G36 n (z1.2.1 65 3) 4 z1.2).bind (fun z27 => (if narrow .boolean (.int z27.1) = .int z27.1 then some (z27.1, z27.2) else none))) else ((G37 n z1.1 z1.2).bind (fun z30 => (if am_if .eq z30.1 = true then (if am_if .ne z1.1 = true then ((G42 n z1.1 z30.2).bind (fun z34 => (if narrow .boolean (.int z34.1) = .int z34.1 then some (z34.1, z34.2) else none))) else ((G39 n  z30.2).bind (fun z37 => (if narrow .boolean (.int z37.1) = .int z37.1 then some (z37.1, z37.2) else none)))) else ((G36 n (z30.2.1 65 3) 4 z30.2).bind (fun z40 => (if narrow .boolean (.int z40.1) = .int z40.1 then some (z40.1, z40.2) else none))))))))) else some (0, z1.2))))
def G21f : Nat → Nat → Int32 → xS → Option (Int32 × xS)
  | 0, _, _, _ => none
  | n + 1, c, l2, S => G21b0 (G21f n) n l2 S
theorem G21e0 (n : Nat) (l2 : Int32) (S : xS) : G21f (n + 1) 0 l2 S = G21b0 (G21f n) n l2 S := rfl
def G21 (n : Nat) (l2 : Int32) (S : xS) : Option (Int32 × xS) := G21f n 0 l2 S
set_option maxRecDepth 20000 in
set_option maxHeartbeats 4000000 in
theorem G21l {xs : Nat → Int32} {L9 d : Nat} {G : gS} {h : Nat → va_E} {Q : Option Value → AmH → Prop} {r0 : Int32} {S0 : xS} (hQ : Q (some (.int r0)) (xst S0 G h)) : ∀ n : Nat, (∀ (l2 : Int32) (S : xS), G21f n 0 l2 S = some (r0, S0) → Go (am_X xs L9) (d + 6) 21 0 [.ref 67, .ref 65, .int l2, .float 0] [] (xst S G h) Q) := by
  intro n
  induction n with
  | zero => exact fun l2 S hf => (by cases hf)
  | succ n ih =>
    intro l2 S hf
    rw [G21e0] at hf
    unfold G21b0 at hf
    refine r_aload_n fe_21_0 rfl ?_
    refine r_ldcS fe_21_1 lk_5_48 ?_
    refine r_callV (as := [.ref 2]) (r := []) fe_21_3 lm_5_50 md_22 rfl rfl (Nat.le_of_ble_eq_true rfl) (x_c xk_65 (by decide)) (x_lt xk_65 (by decide)) (Nat.le_of_ble_eq_true rfl) (Nat.le_of_ble_eq_true rfl) ?_
    cases hc2 : G22 n 2 S with
    | none => rw [hc2] at hf; cases hf
    | some z1 =>
      rw [hc2, Option.bind_some] at hf
      refine G22c (r0 := z1.1) (S0 := z1.2)  (hf := hc2) ?_
      refine r_istore_n fe_21_6 (Nat.le_of_ble_eq_true rfl) rfl ?_
      refine r_iload_n fe_21_7 rfl ?_
      refine r_iconst (v := -1) fe_21_8 (by decide) ?_
      by_cases hb3 : am_ic .ne z1.1 (-1) = true
      · rw [if_pos hb3] at hf
        refine r_ic_t (t := 14) fe_21_9 (by decide) hb3 ?_
        refine r_iload_n fe_21_14 rfl ?_
        refine r_bipush (v := 40) fe_21_15 (by decide) ?_
        by_cases hb4 : am_ic .ge l2 40 = true
        · rw [if_pos hb4] at hf
          refine r_ic_t (t := 49) fe_21_17 (by decide) hb4 ?_
          refine r_aload_n fe_21_49 rfl ?_
          refine r_aload_n fe_21_50 rfl ?_
          refine r_getf (v := .int (z1.2.1 65 3)) fe_21_51 lf_5_58 (x_c xk_65 (by decide)) (x_lt xk_65 (by decide)) rfl ?_
          refine r_iconst (v := 4) fe_21_54 (by decide) ?_
          refine r_callV (as := [.int (z1.2.1 65 3), .int 4]) (r := []) fe_21_55 lm_5_61 md_36 rfl rfl (Nat.le_of_ble_eq_true rfl) (x_c xk_65 (by decide)) (x_lt xk_65 (by decide)) (Nat.le_of_ble_eq_true rfl) (Nat.le_of_ble_eq_true rfl) ?_
          cases hc6 : G36 n (z1.2.1 65 3) 4 z1.2 with
          | none => rw [hc6] at hf; cases hf
          | some z5 =>
            rw [hc6, Option.bind_some] at hf
            refine G36c (r0 := z5.1) (S0 := z5.2)  (hf := hc6) ?_
            by_cases hz7 : narrow .boolean (.int z5.1) = .int z5.1
            rotate_left
            · rw [if_neg hz7] at hf; cases hf
            rw [if_pos hz7] at hf
            refine r_iret fe_21_58 ⟨hz7, by decide⟩ ?_
            exact dfin (P := fun r T => Q (some (.int r)) (xst T G h)) hf hQ
        · rw [if_neg hb4] at hf
          refine r_ic_f (t := 49) fe_21_17 (by decide) (Bool.eq_false_iff.mpr hb4) ?_
          refine r_iload_n fe_21_20 rfl ?_
          by_cases hb8 : am_if .ne l2 = true
          · rw [if_pos hb8] at hf
            refine r_if_t (t := 28) fe_21_21 (by decide) hb8 ?_
            refine r_iconst (v := 0) fe_21_28 (by decide) ?_
            refine r_iload_n fe_21_29 rfl ?_
            by_cases hb9 : am_if .ne z1.1 = true
            · rw [if_pos hb9] at hf
              refine r_if_t (t := 37) fe_21_30 (by decide) hb9 ?_
              refine r_iconst (v := 0) fe_21_37 (by decide) ?_
              refine r_ic_f (t := 49) fe_21_38 (by decide) (by decide) ?_
              refine r_aload_n fe_21_41 rfl ?_
              refine r_iload_n fe_21_42 rfl ?_
              refine r_callV (as := [.int z1.1]) (r := []) fe_21_43 lm_5_54 md_37 rfl rfl (Nat.le_of_ble_eq_true rfl) (x_c xk_67 (by decide)) (x_lt xk_67 (by decide)) (Nat.le_of_ble_eq_true rfl) (Nat.le_of_ble_eq_true rfl) ?_
              cases hc11 : G37 n z1.1 z1.2 with
              | none => rw [hc11] at hf; cases hf
              | some z10 =>
                rw [hc11, Option.bind_some] at hf
                refine G37c (r0 := z10.1) (S0 := z10.2)  (hf := hc11) ?_
                by_cases hb12 : am_if .eq z10.1 = true
                · rw [if_pos hb12] at hf
                  refine r_if_t (t := 59) fe_21_46 (by decide) hb12 ?_
                  refine r_iload_n fe_21_59 rfl ?_
                  by_cases hb13 : am_if .ne z1.1 = true
                  · rw [if_pos hb13] at hf
                    refine r_if_t (t := 71) fe_21_60 (by decide) hb13 ?_
                    refine r_aload_n fe_21_71 rfl ?_
                    refine r_aload_n fe_21_72 rfl ?_
                    refine r_iload_n fe_21_73 rfl ?_
                    refine r_callV (as := [.ref 65, .int z1.1]) (r := []) fe_21_74 lm_5_69 md_42 rfl rfl (Nat.le_of_ble_eq_true rfl) (x_c xk_67 (by decide)) (x_lt xk_67 (by decide)) (Nat.le_of_ble_eq_true rfl) (Nat.le_of_ble_eq_true rfl) ?_
                    cases hc15 : G42 n z1.1 z10.2 with
                    | none => rw [hc15] at hf; cases hf
                    | some z14 =>
                      rw [hc15, Option.bind_some] at hf
                      refine G42c (r0 := z14.1) (S0 := z14.2)  (hf := hc15) ?_
                      by_cases hz16 : narrow .boolean (.int z14.1) = .int z14.1
                      rotate_left
                      · rw [if_neg hz16] at hf; cases hf
                      rw [if_pos hz16] at hf
                      refine r_iret fe_21_77 ⟨hz16, by decide⟩ ?_
                      exact dfin (P := fun r T => Q (some (.int r)) (xst T G h)) hf hQ
                  · rw [if_neg hb13] at hf
                    refine r_if_f (t := 71) fe_21_60 (by decide) (Bool.eq_false_iff.mpr hb13) ?_
                    refine r_aload_n fe_21_63 rfl ?_
                    refine r_aload_n fe_21_64 rfl ?_
                    refine r_callV (as := [.ref 65]) (r := []) fe_21_65 lm_5_65 md_39 rfl rfl (Nat.le_of_ble_eq_true rfl) (x_c xk_67 (by decide)) (x_lt xk_67 (by decide)) (Nat.le_of_ble_eq_true rfl) (Nat.le_of_ble_eq_true rfl) ?_
                    cases hc18 : G39 n  z10.2 with
                    | none => rw [hc18] at hf; cases hf
                    | some z17 =>
                      rw [hc18, Option.bind_some] at hf
                      refine G39c (r0 := z17.1) (S0 := z17.2)  (hf := hc18) ?_
                      refine r_goto (t := 77) fe_21_68 (by decide) ?_
                      by_cases hz19 : narrow .boolean (.int z17.1) = .int z17.1
                      rotate_left
                      · rw [if_neg hz19] at hf; cases hf
                      rw [if_pos hz19] at hf
                      refine r_iret fe_21_77 ⟨hz19, by decide⟩ ?_
                      exact dfin (P := fun r T => Q (some (.int r)) (xst T G h)) hf hQ
                · rw [if_neg hb12] at hf
                  refine r_if_f (t := 59) fe_21_46 (by decide) (Bool.eq_false_iff.mpr hb12) ?_
                  refine r_aload_n fe_21_49 rfl ?_
                  refine r_aload_n fe_21_50 rfl ?_
                  refine r_getf (v := .int (z10.2.1 65 3)) fe_21_51 lf_5_58 (x_c xk_65 (by decide)) (x_lt xk_65 (by decide)) rfl ?_
                  refine r_iconst (v := 4) fe_21_54 (by decide) ?_
                  refine r_callV (as := [.int (z10.2.1 65 3), .int 4]) (r := []) fe_21_55 lm_5_61 md_36 rfl rfl (Nat.le_of_ble_eq_true rfl) (x_c xk_65 (by decide)) (x_lt xk_65 (by decide)) (Nat.le_of_ble_eq_true rfl) (Nat.le_of_ble_eq_true rfl) ?_
                  cases hc21 : G36 n (z10.2.1 65 3) 4 z10.2 with
                  | none => rw [hc21] at hf; cases hf
                  | some z20 =>
                    rw [hc21, Option.bind_some] at hf
                    refine G36c (r0 := z20.1) (S0 := z20.2)  (hf := hc21) ?_
                    by_cases hz22 : narrow .boolean (.int z20.1) = .int z20.1
                    rotate_left
                    · rw [if_neg hz22] at hf; cases hf
                    rw [if_pos hz22] at hf
                    refine r_iret fe_21_58 ⟨hz22, by decide⟩ ?_
                    exact dfin (P := fun r T => Q (some (.int r)) (xst T G h)) hf hQ
            · rw [if_neg hb9] at hf
              refine r_if_f (t := 37) fe_21_30 (by decide) (Bool.eq_false_iff.mpr hb9) ?_
              refine r_iconst (v := 1) fe_21_33 (by decide) ?_
              refine r_goto (t := 38) fe_21_34 (by decide) ?_
              refine r_ic_t (t := 49) fe_21_38 (by decide) (by decide) ?_
              refine r_aload_n fe_21_49 rfl ?_
              refine r_aload_n fe_21_50 rfl ?_
              refine r_getf (v := .int (z1.2.1 65 3)) fe_21_51 lf_5_58 (x_c xk_65 (by decide)) (x_lt xk_65 (by decide)) rfl ?_
              refine r_iconst (v := 4) fe_21_54 (by decide) ?_
              refine r_callV (as := [.int (z1.2.1 65 3), .int 4]) (r := []) fe_21_55 lm_5_61 md_36 rfl rfl (Nat.le_of_ble_eq_true rfl) (x_c xk_65 (by decide)) (x_lt xk_65 (by decide)) (Nat.le_of_ble_eq_true rfl) (Nat.le_of_ble_eq_true rfl) ?_
              cases hc24 : G36 n (z1.2.1 65 3) 4 z1.2 with
              | none => rw [hc24] at hf; cases hf
              | some z23 =>
                rw [hc24, Option.bind_some] at hf
                refine G36c (r0 := z23.1) (S0 := z23.2)  (hf := hc24) ?_
                by_cases hz25 : narrow .boolean (.int z23.1) = .int z23.1
                rotate_left
                · rw [if_neg hz25] at hf; cases hf
                rw [if_pos hz25] at hf
                refine r_iret fe_21_58 ⟨hz25, by decide⟩ ?_
                exact dfin (P := fun r T => Q (some (.int r)) (xst T G h)) hf hQ
          · rw [if_neg hb8] at hf
            refine r_if_f (t := 28) fe_21_21 (by decide) (Bool.eq_false_iff.mpr hb8) ?_
            refine r_iconst (v := 1) fe_21_24 (by decide) ?_
            refine r_goto (t := 29) fe_21_25 (by decide) ?_
            refine r_iload_n fe_21_29 rfl ?_
            by_cases hb26 : am_if .ne z1.1 = true
            · rw [if_pos hb26] at hf
              refine r_if_t (t := 37) fe_21_30 (by decide) hb26 ?_
              refine r_iconst (v := 0) fe_21_37 (by decide) ?_
              refine r_ic_t (t := 49) fe_21_38 (by decide) (by decide) ?_
              refine r_aload_n fe_21_49 rfl ?_
              refine r_aload_n fe_21_50 rfl ?_
              refine r_getf (v := .int (z1.2.1 65 3)) fe_21_51 lf_5_58 (x_c xk_65 (by decide)) (x_lt xk_65 (by decide)) rfl ?_
              refine r_iconst (v := 4) fe_21_54 (by decide) ?_
              refine r_callV (as := [.int (z1.2.1 65 3), .int 4]) (r := []) fe_21_55 lm_5_61 md_36 rfl rfl (Nat.le_of_ble_eq_true rfl) (x_c xk_65 (by decide)) (x_lt xk_65 (by decide)) (Nat.le_of_ble_eq_true rfl) (Nat.le_of_ble_eq_true rfl) ?_
              cases hc28 : G36 n (z1.2.1 65 3) 4 z1.2 with
              | none => rw [hc28] at hf; cases hf
              | some z27 =>
                rw [hc28, Option.bind_some] at hf
                refine G36c (r0 := z27.1) (S0 := z27.2)  (hf := hc28) ?_
                by_cases hz29 : narrow .boolean (.int z27.1) = .int z27.1
                rotate_left
                · rw [if_neg hz29] at hf; cases hf
                rw [if_pos hz29] at hf
                refine r_iret fe_21_58 ⟨hz29, by decide⟩ ?_
                exact dfin (P := fun r T => Q (some (.int r)) (xst T G h)) hf hQ
            · rw [if_neg hb26] at hf
              refine r_if_f (t := 37) fe_21_30 (by decide) (Bool.eq_false_iff.mpr hb26) ?_
              refine r_iconst (v := 1) fe_21_33 (by decide) ?_
              refine r_goto (t := 38) fe_21_34 (by decide) ?_
              refine r_ic_f (t := 49) fe_21_38 (by decide) (by decide) ?_
              refine r_aload_n fe_21_41 rfl ?_
              refine r_iload_n fe_21_42 rfl ?_
              refine r_callV (as := [.int z1.1]) (r := []) fe_21_43 lm_5_54 md_37 rfl rfl (Nat.le_of_ble_eq_true rfl) (x_c xk_67 (by decide)) (x_lt xk_67 (by decide)) (Nat.le_of_ble_eq_true rfl) (Nat.le_of_ble_eq_true rfl) ?_
              cases hc31 : G37 n z1.1 z1.2 with
              | none => rw [hc31] at hf; cases hf
              | some z30 =>
                rw [hc31, Option.bind_some] at hf
                refine G37c (r0 := z30.1) (S0 := z30.2)  (hf := hc31) ?_
                by_cases hb32 : am_if .eq z30.1 = true
                · rw [if_pos hb32] at hf
                  refine r_if_t (t := 59) fe_21_46 (by decide) hb32 ?_
                  refine r_iload_n fe_21_59 rfl ?_
                  by_cases hb33 : am_if .ne z1.1 = true
                  · rw [if_pos hb33] at hf
                    refine r_if_t (t := 71) fe_21_60 (by decide) hb33 ?_
                    refine r_aload_n fe_21_71 rfl ?_
                    refine r_aload_n fe_21_72 rfl ?_
                    refine r_iload_n fe_21_73 rfl ?_
                    refine r_callV (as := [.ref 65, .int z1.1]) (r := []) fe_21_74 lm_5_69 md_42 rfl rfl (Nat.le_of_ble_eq_true rfl) (x_c xk_67 (by decide)) (x_lt xk_67 (by decide)) (Nat.le_of_ble_eq_true rfl) (Nat.le_of_ble_eq_true rfl) ?_
                    cases hc35 : G42 n z1.1 z30.2 with
                    | none => rw [hc35] at hf; cases hf
                    | some z34 =>
                      rw [hc35, Option.bind_some] at hf
                      refine G42c (r0 := z34.1) (S0 := z34.2)  (hf := hc35) ?_
                      by_cases hz36 : narrow .boolean (.int z34.1) = .int z34.1
                      rotate_left
                      · rw [if_neg hz36] at hf; cases hf
                      rw [if_pos hz36] at hf
                      refine r_iret fe_21_77 ⟨hz36, by decide⟩ ?_
                      exact dfin (P := fun r T => Q (some (.int r)) (xst T G h)) hf hQ
                  · rw [if_neg hb33] at hf
                    refine r_if_f (t := 71) fe_21_60 (by decide) (Bool.eq_false_iff.mpr hb33) ?_
                    refine r_aload_n fe_21_63 rfl ?_
                    refine r_aload_n fe_21_64 rfl ?_
                    refine r_callV (as := [.ref 65]) (r := []) fe_21_65 lm_5_65 md_39 rfl rfl (Nat.le_of_ble_eq_true rfl) (x_c xk_67 (by decide)) (x_lt xk_67 (by decide)) (Nat.le_of_ble_eq_true rfl) (Nat.le_of_ble_eq_true rfl) ?_
                    cases hc38 : G39 n  z30.2 with
                    | none => rw [hc38] at hf; cases hf
                    | some z37 =>
                      rw [hc38, Option.bind_some] at hf
                      refine G39c (r0 := z37.1) (S0 := z37.2)  (hf := hc38) ?_
                      refine r_goto (t := 77) fe_21_68 (by decide) ?_
                      by_cases hz39 : narrow .boolean (.int z37.1) = .int z37.1
                      rotate_left
                      · rw [if_neg hz39] at hf; cases hf
                      rw [if_pos hz39] at hf
                      refine r_iret fe_21_77 ⟨hz39, by decide⟩ ?_
                      exact dfin (P := fun r T => Q (some (.int r)) (xst T G h)) hf hQ
                · rw [if_neg hb32] at hf
                  refine r_if_f (t := 59) fe_21_46 (by decide) (Bool.eq_false_iff.mpr hb32) ?_
                  refine r_aload_n fe_21_49 rfl ?_
                  refine r_aload_n fe_21_50 rfl ?_
                  refine r_getf (v := .int (z30.2.1 65 3)) fe_21_51 lf_5_58 (x_c xk_65 (by decide)) (x_lt xk_65 (by decide)) rfl ?_
                  refine r_iconst (v := 4) fe_21_54 (by decide) ?_
                  refine r_callV (as := [.int (z30.2.1 65 3), .int 4]) (r := []) fe_21_55 lm_5_61 md_36 rfl rfl (Nat.le_of_ble_eq_true rfl) (x_c xk_65 (by decide)) (x_lt xk_65 (by decide)) (Nat.le_of_ble_eq_true rfl) (Nat.le_of_ble_eq_true rfl) ?_
                  cases hc41 : G36 n (z30.2.1 65 3) 4 z30.2 with
                  | none => rw [hc41] at hf; cases hf
                  | some z40 =>
                    rw [hc41, Option.bind_some] at hf
                    refine G36c (r0 := z40.1) (S0 := z40.2)  (hf := hc41) ?_
                    by_cases hz42 : narrow .boolean (.int z40.1) = .int z40.1
                    rotate_left
                    · rw [if_neg hz42] at hf; cases hf
                    rw [if_pos hz42] at hf
                    refine r_iret fe_21_58 ⟨hz42, by decide⟩ ?_
                    exact dfin (P := fun r T => Q (some (.int r)) (xst T G h)) hf hQ
      · rw [if_neg hb3] at hf
        refine r_ic_f (t := 14) fe_21_9 (by decide) (Bool.eq_false_iff.mpr hb3) ?_
        refine r_iconst (v := 0) fe_21_12 (by decide) ?_
        refine r_iret fe_21_13 ⟨rfl, by decide⟩ ?_
        exact dfin (P := fun r T => Q (some (.int r)) (xst T G h)) hf hQ
theorem G21c {xs : Nat → Int32} {L9 d : Nat} {G : gS} {h : Nat → va_E} {n : Nat} {Q : Option Value → AmH → Prop} {r0 : Int32} {S0 S : xS} {l2 : Int32} (hf : G21 n l2 S = some (r0, S0)) (hQ : Q (some (.int r0)) (xst S0 G h)) : Ca (am_X xs L9) (d + 6) 21 [.ref 67, .ref 65, .int l2] (xst S G h) Q := (G21l hQ n) l2 S hf
def G16b0 (F : Nat → Int32 → xS → Option (Int32 × xS)) (n : Nat) (l2 : Int32) (S : xS) : Option (Int32 × xS) := ((G17 n  S).bind (fun z1 => ((G18 68 n 0 z1.2).bind (fun z3 => ((G19 74 n  z3.2).bind (fun z5 => F 21 0 z5.2))))))
def G16b21 (F : Nat → Int32 → xS → Option (Int32 × xS)) (n : Nat) (l2 : Int32) (S : xS) : Option (Int32 × xS) := (if am_ic .gt l2 40 = true then some ((S.1 65 4), S) else ((G21 n l2 S).bind (fun z8 => (if am_if .eq z8.1 = true then some ((z8.2.1 65 4), z8.2) else ((G52 n  z8.2).bind (fun z11 => (if am_if .ne z11.1 = true then F 21 (l2 + 1) z11.2 else some ((z11.2.1 65 4), z11.2))))))))
def G16f : Nat → Nat → Int32 → xS → Option (Int32 × xS)
  | 0, _, _, _ => none
  | n + 1, c, l2, S => if c = 0 then G16b0 (G16f n) n l2 S else G16b21 (G16f n) n l2 S
theorem G16e0 (n : Nat) (l2 : Int32) (S : xS) : G16f (n + 1) 0 l2 S = G16b0 (G16f n) n l2 S := if_pos rfl
theorem G16e21 (n : Nat) (l2 : Int32) (S : xS) : G16f (n + 1) 21 l2 S = G16b21 (G16f n) n l2 S := if_neg (by decide)
def G16 (n : Nat)  (S : xS) : Option (Int32 × xS) := G16f n 0 0 S
set_option maxRecDepth 20000 in
set_option maxHeartbeats 4000000 in
theorem G16l {xs : Nat → Int32} {L9 d : Nat} {G : gS} {h : Nat → va_E} {Q : Option Value → AmH → Prop} {r0 : Int32} {S0 : xS} (hQ : Q (some (.int r0)) (xst S0 G h)) : ∀ n : Nat, (∀ (l2 : Int32) (S : xS), G16f n 0 l2 S = some (r0, S0) → Go (am_X xs L9) (d + 7) 16 0 [.ref 67, .ref 65, .float 0] [] (xst S G h) Q) ∧ (∀ (l2 : Int32) (S : xS), G16f n 21 l2 S = some (r0, S0) → Go (am_X xs L9) (d + 7) 16 21 [.ref 67, .ref 65, .int l2] [] (xst S G h) Q) := by
  intro n
  induction n with
  | zero => exact ⟨fun l2 S hf => (by cases hf), fun l2 S hf => (by cases hf)⟩
  | succ n ih =>
    refine ⟨?_, ?_⟩
    · intro l2 S hf
      rw [G16e0] at hf
      unfold G16b0 at hf
      refine r_aload_n fe_16_0 rfl ?_
      refine r_callV (as := []) (r := []) fe_16_1 lm_5_25 md_17 rfl rfl (Nat.le_of_ble_eq_true rfl) (x_c xk_65 (by decide)) (x_lt xk_65 (by decide)) (Nat.le_of_ble_eq_true rfl) (Nat.le_of_ble_eq_true rfl) ?_
      cases hc2 : G17 n  S with
      | none => rw [hc2] at hf; cases hf
      | some z1 =>
        rw [hc2, Option.bind_some] at hf
        refine G17c (r0 := z1.1) (S0 := z1.2)  (hf := hc2) ?_
        refine r_aload_n fe_16_4 rfl ?_
        refine r_getf (v := .ref 68) fe_16_5 lf_5_12 (x_c xk_67 (by decide)) (x_lt xk_67 (by decide)) rfl ?_
        refine r_iconst (v := 0) fe_16_8 (by decide) ?_
        refine r_callV (as := [.int 0]) (r := []) fe_16_9 lm_5_30 md_18 rfl rfl (Nat.le_of_ble_eq_true rfl) (x_c xk_68 (by decide)) (x_lt xk_68 (by decide)) (Nat.le_of_ble_eq_true rfl) (Nat.le_of_ble_eq_true rfl) ?_
        cases hc4 : G18 68 n 0 z1.2 with
        | none => rw [hc4] at hf; cases hf
        | some z3 =>
          rw [hc4, Option.bind_some] at hf
          refine G18c (r0 := z3.1) (S0 := z3.2) (h0 := bS_68) (hf := hc4) ?_
          refine r_aload_n fe_16_12 rfl ?_
          refine r_getf (v := .ref 74) fe_16_13 lf_5_21 (x_c xk_67 (by decide)) (x_lt xk_67 (by decide)) rfl ?_
          refine r_callV (as := []) (r := []) fe_16_16 lm_5_34 md_19 rfl rfl (Nat.le_of_ble_eq_true rfl) (x_c xk_74 (by decide)) (x_lt xk_74 (by decide)) (Nat.le_of_ble_eq_true rfl) (Nat.le_of_ble_eq_true rfl) ?_
          cases hc6 : G19 74 n  z3.2 with
          | none => rw [hc6] at hf; cases hf
          | some z5 =>
            rw [hc6, Option.bind_some] at hf
            refine G19c (r0 := z5.1) (S0 := z5.2) (h0 := wS_74) (hf := hc6) ?_
            refine r_iconst (v := 0) fe_16_19 (by decide) ?_
            refine r_istore_n fe_16_20 (Nat.le_of_ble_eq_true rfl) rfl ?_
            refine go_weak (L0 := [.ref 67, .ref 65, .int 0]) (lwk_c (Or.inl rfl) (lwk_c (Or.inl rfl) (lwk_c (Or.inl rfl) (lwk_rf [])))) ?_
            exact ih.2 0 z5.2 hf
    · intro l2 S hf
      rw [G16e21] at hf
      unfold G16b21 at hf
      refine r_iload_n fe_16_21 rfl ?_
      refine r_bipush (v := 40) fe_16_22 (by decide) ?_
      by_cases hb7 : am_ic .gt l2 40 = true
      · rw [if_pos hb7] at hf
        refine r_ic_t (t := 52) fe_16_24 (by decide) hb7 ?_
        refine r_aload_n fe_16_52 rfl ?_
        refine r_getf (v := .int (S.1 65 4)) fe_16_53 lf_5_44 (x_c xk_65 (by decide)) (x_lt xk_65 (by decide)) rfl ?_
        refine r_iret fe_16_56 ⟨rfl, by decide⟩ ?_
        exact dfin (P := fun r T => Q (some (.int r)) (xst T G h)) hf hQ
      · rw [if_neg hb7] at hf
        refine r_ic_f (t := 52) fe_16_24 (by decide) (Bool.eq_false_iff.mpr hb7) ?_
        refine r_aload_n fe_16_27 rfl ?_
        refine r_aload_n fe_16_28 rfl ?_
        refine r_iload_n fe_16_29 rfl ?_
        refine r_callV (as := [.ref 65, .int l2]) (r := []) fe_16_30 lm_5_36 md_21 rfl rfl (Nat.le_of_ble_eq_true rfl) (x_c xk_67 (by decide)) (x_lt xk_67 (by decide)) (Nat.le_of_ble_eq_true rfl) (Nat.le_of_ble_eq_true rfl) ?_
        cases hc9 : G21 n l2 S with
        | none => rw [hc9] at hf; cases hf
        | some z8 =>
          rw [hc9, Option.bind_some] at hf
          refine G21c (r0 := z8.1) (S0 := z8.2)  (hf := hc9) ?_
          by_cases hb10 : am_if .eq z8.1 = true
          · rw [if_pos hb10] at hf
            refine r_if_t (t := 52) fe_16_33 (by decide) hb10 ?_
            refine r_aload_n fe_16_52 rfl ?_
            refine r_getf (v := .int (z8.2.1 65 4)) fe_16_53 lf_5_44 (x_c xk_65 (by decide)) (x_lt xk_65 (by decide)) rfl ?_
            refine r_iret fe_16_56 ⟨rfl, by decide⟩ ?_
            exact dfin (P := fun r T => Q (some (.int r)) (xst T G h)) hf hQ
          · rw [if_neg hb10] at hf
            refine r_if_f (t := 52) fe_16_33 (by decide) (Bool.eq_false_iff.mpr hb10) ?_
            refine r_aload_n fe_16_36 rfl ?_
            refine r_callV (as := []) (r := []) fe_16_37 lm_5_40 md_52 rfl rfl (Nat.le_of_ble_eq_true rfl) (x_c xk_65 (by decide)) (x_lt xk_65 (by decide)) (Nat.le_of_ble_eq_true rfl) (Nat.le_of_ble_eq_true rfl) ?_
            cases hc12 : G52 n  z8.2 with
            | none => rw [hc12] at hf; cases hf
            | some z11 =>
              rw [hc12, Option.bind_some] at hf
              refine G52c (r0 := z11.1) (S0 := z11.2)  (hf := hc12) ?_
              by_cases hb13 : am_if .ne z11.1 = true
              · rw [if_pos hb13] at hf
                refine r_if_t (t := 46) fe_16_40 (by decide) hb13 ?_
                refine r_iinc (v := (l2 + 1)) fe_16_46 rfl rfl rfl ?_
                refine r_goto (t := 21) fe_16_49 (by decide) ?_
                refine go_weak (L0 := [.ref 67, .ref 65, .int (l2 + 1)]) (lwk_c (Or.inl rfl) (lwk_c (Or.inl rfl) (lwk_c (Or.inl rfl) (lwk_rf [])))) ?_
                exact ih.2 (l2 + 1) z11.2 hf
              · rw [if_neg hb13] at hf
                refine r_if_f (t := 46) fe_16_40 (by decide) (Bool.eq_false_iff.mpr hb13) ?_
                refine r_goto (t := 52) fe_16_43 (by decide) ?_
                refine r_aload_n fe_16_52 rfl ?_
                refine r_getf (v := .int (z11.2.1 65 4)) fe_16_53 lf_5_44 (x_c xk_65 (by decide)) (x_lt xk_65 (by decide)) rfl ?_
                refine r_iret fe_16_56 ⟨rfl, by decide⟩ ?_
                exact dfin (P := fun r T => Q (some (.int r)) (xst T G h)) hf hQ
theorem G16c {xs : Nat → Int32} {L9 d : Nat} {G : gS} {h : Nat → va_E} {n : Nat} {Q : Option Value → AmH → Prop} {r0 : Int32} {S0 S : xS}  (hf : G16 n  S = some (r0, S0)) (hQ : Q (some (.int r0)) (xst S0 G h)) : Ca (am_X xs L9) (d + 7) 16 [.ref 67, .ref 65] (xst S G h) Q := (G16l hQ n).1 0 S hf
def G53b0 (l0 : Nat) (l1 : Nat) (F : Nat → xS → Option (Unit × xS)) (n : Nat)  (S : xS) : Option (Unit × xS) := ((some (x_sI S l0 0 (S.1 l1 0))).bind (fun S1 => ((some (x_sI S1 l0 1 (S1.1 l1 1))).bind (fun S3 => ((some (x_sI S3 l0 2 (S3.1 l1 2))).bind (fun S5 => ((some (x_sR S5 (l0 + 1) (va_cpy (S5.2.1 (l1 + 1)) (S5.2.1 (l0 + 1)) 0 0 16))).bind (fun S7 => ((some (x_sR S7 (l0 + 2) (va_cpy (S7.2.1 (l1 + 2)) (S7.2.1 (l0 + 2)) 0 0 16))).bind (fun S9 => ((some (x_sR S9 (l0 + 3) (va_cpy (S9.2.1 (l1 + 3)) (S9.2.1 (l0 + 3)) 0 0 16))).bind (fun S11 => ((some (x_sR S11 (l0 + 4) (va_cpy (S11.2.1 (l1 + 4)) (S11.2.1 (l0 + 4)) 0 0 16))).bind (fun S13 => ((some (x_sR S13 (l0 + 5) (va_cpy (S13.2.1 (l1 + 5)) (S13.2.1 (l0 + 5)) 0 0 6))).bind (fun S15 => some ((), S15)))))))))))))))))
def G53f (l0 : Nat) (l1 : Nat) : Nat → Nat → xS → Option (Unit × xS)
  | 0, _, _ => none
  | n + 1, c, S => G53b0 l0 l1 (G53f l0 l1 n) n  S
theorem G53e0 (l0 : Nat) (l1 : Nat) (n : Nat)  (S : xS) : G53f l0 l1 (n + 1) 0  S = G53b0 l0 l1 (G53f l0 l1 n) n  S := rfl
def G53 (l0 : Nat) (l1 : Nat) (n : Nat)  (S : xS) : Option (Unit × xS) := G53f l0 l1 n 0  S
set_option maxRecDepth 20000 in
set_option maxHeartbeats 4000000 in
theorem G53l {xs : Nat → Int32} {L9 d : Nat} {G : gS} {h : Nat → va_E} {l0 : Nat} {l1 : Nat} {Q : Option Value → AmH → Prop} {r0 : Unit} {S0 : xS} (h0 : bB G l0 = true) (h1 : bB G l1 = true) (hQ : Q none (xst S0 G h)) : ∀ n : Nat, (∀ (S : xS), G53f l0 l1 n 0  S = some (r0, S0) → Go (am_X xs L9) (d + 0) 53 0 [.ref l0, .ref l1] [] (xst S G h) Q) := by
  intro n
  induction n with
  | zero => exact fun  S hf => (by cases hf)
  | succ n ih =>
    intro  S hf
    rw [G53e0] at hf
    unfold G53b0 at hf
    refine r_aload_n fe_53_0 rfl ?_
    refine r_aload_n fe_53_1 rfl ?_
    refine r_getf (v := .int (S.1 l1 0)) fe_53_2 lf_0_9 (x_c (bk0 h1) (by decide)) (x_lt (bk0 h1) (by decide)) rfl ?_
    refine r_putf fe_53_5 lf_0_9 (x_h (bk0 h0) (by decide)) (x_lt (bk0 h0) (by decide)) (x_k6 (bk0 h0) (by decide)) (Nat.le_of_ble_eq_true rfl) rfl rfl (Or.inl rfl) ?_
    obtain ⟨S1, e2, hf⟩ := dbnd hf
    refine go_heap (h2 := xst S1 G h) ((x_uI (j := 0) (x := (S.1 l1 0)) (bk0 h0) (by decide)).trans (by rw [e2])) ?_
    refine r_aload_n fe_53_8 rfl ?_
    refine r_aload_n fe_53_9 rfl ?_
    refine r_getf (v := .int (S1.1 l1 1)) fe_53_10 lf_0_15 (x_c (bk0 h1) (by decide)) (x_lt (bk0 h1) (by decide)) rfl ?_
    refine r_putf fe_53_13 lf_0_15 (x_h (bk0 h0) (by decide)) (x_lt (bk0 h0) (by decide)) (x_k6 (bk0 h0) (by decide)) (Nat.le_of_ble_eq_true rfl) rfl rfl (Or.inl rfl) ?_
    obtain ⟨S3, e4, hf⟩ := dbnd hf
    refine go_heap (h2 := xst S3 G h) ((x_uI (j := 1) (x := (S1.1 l1 1)) (bk0 h0) (by decide)).trans (by rw [e4])) ?_
    refine r_aload_n fe_53_16 rfl ?_
    refine r_aload_n fe_53_17 rfl ?_
    refine r_getf (v := .int (S3.1 l1 2)) fe_53_18 lf_0_18 (x_c (bk0 h1) (by decide)) (x_lt (bk0 h1) (by decide)) rfl ?_
    refine r_putf fe_53_21 lf_0_18 (x_h (bk0 h0) (by decide)) (x_lt (bk0 h0) (by decide)) (x_k6 (bk0 h0) (by decide)) (Nat.le_of_ble_eq_true rfl) rfl rfl (Or.inl rfl) ?_
    obtain ⟨S5, e6, hf⟩ := dbnd hf
    refine go_heap (h2 := xst S5 G h) ((x_uI (j := 2) (x := (S3.1 l1 2)) (bk0 h0) (by decide)).trans (by rw [e6])) ?_
    refine r_aload_n fe_53_24 rfl ?_
    refine r_getf (v := .ref (l1 + 1)) fe_53_25 lf_0_21 (x_c (bk0 h1) (by decide)) (x_lt (bk0 h1) (by decide)) rfl ?_
    refine r_iconst (v := 0) fe_53_28 (by decide) ?_
    refine r_aload_n fe_53_29 rfl ?_
    refine r_getf (v := .ref (l0 + 1)) fe_53_30 lf_0_21 (x_c (bk0 h0) (by decide)) (x_lt (bk0 h0) (by decide)) rfl ?_
    refine r_iconst (v := 0) fe_53_33 (by decide) ?_
    refine r_bipush (v := 16) fe_53_34 (by decide) ?_
    refine r_copy (a := (S5.2.1 (l1 + 1))) (b := (S5.2.1 (l0 + 1))) (sp := 0) (dp := 0) (n := 16) fe_53_36 lm_0_37 (x_c (bk1 h1) (by decide)) (x_h (bk1 h0) (by decide)) (x_lt (bk1 h0) (by decide)) (x_k6 (bk1 h0) (by decide)) (x_lt (bk1 h1) (by decide)) (by decide) (by decide) (by decide) (by decide) (by decide) (by decide) (by decide) (by decide) (Nat.le_of_ble_eq_true rfl) ?_
    obtain ⟨S7, e8, hf⟩ := dbnd hf
    refine go_heap (h2 := xst S7 G h) ((x_uC (bk1 h0)).trans (by rw [e8])) ?_
    refine r_aload_n fe_53_39 rfl ?_
    refine r_getf (v := .ref (l1 + 2)) fe_53_40 lf_0_25 (x_c (bk0 h1) (by decide)) (x_lt (bk0 h1) (by decide)) rfl ?_
    refine r_iconst (v := 0) fe_53_43 (by decide) ?_
    refine r_aload_n fe_53_44 rfl ?_
    refine r_getf (v := .ref (l0 + 2)) fe_53_45 lf_0_25 (x_c (bk0 h0) (by decide)) (x_lt (bk0 h0) (by decide)) rfl ?_
    refine r_iconst (v := 0) fe_53_48 (by decide) ?_
    refine r_bipush (v := 16) fe_53_49 (by decide) ?_
    refine r_copy (a := (S7.2.1 (l1 + 2))) (b := (S7.2.1 (l0 + 2))) (sp := 0) (dp := 0) (n := 16) fe_53_51 lm_0_37 (x_c (bk2 h1) (by decide)) (x_h (bk2 h0) (by decide)) (x_lt (bk2 h0) (by decide)) (x_k6 (bk2 h0) (by decide)) (x_lt (bk2 h1) (by decide)) (by decide) (by decide) (by decide) (by decide) (by decide) (by decide) (by decide) (by decide) (Nat.le_of_ble_eq_true rfl) ?_
    obtain ⟨S9, e10, hf⟩ := dbnd hf
    refine go_heap (h2 := xst S9 G h) ((x_uC (bk2 h0)).trans (by rw [e10])) ?_
    refine r_aload_n fe_53_54 rfl ?_
    refine r_getf (v := .ref (l1 + 3)) fe_53_55 lf_0_28 (x_c (bk0 h1) (by decide)) (x_lt (bk0 h1) (by decide)) rfl ?_
    refine r_iconst (v := 0) fe_53_58 (by decide) ?_
    refine r_aload_n fe_53_59 rfl ?_
    refine r_getf (v := .ref (l0 + 3)) fe_53_60 lf_0_28 (x_c (bk0 h0) (by decide)) (x_lt (bk0 h0) (by decide)) rfl ?_
    refine r_iconst (v := 0) fe_53_63 (by decide) ?_
    refine r_bipush (v := 16) fe_53_64 (by decide) ?_
    refine r_copy (a := (S9.2.1 (l1 + 3))) (b := (S9.2.1 (l0 + 3))) (sp := 0) (dp := 0) (n := 16) fe_53_66 lm_0_37 (x_c (bk3 h1) (by decide)) (x_h (bk3 h0) (by decide)) (x_lt (bk3 h0) (by decide)) (x_k6 (bk3 h0) (by decide)) (x_lt (bk3 h1) (by decide)) (by decide) (by decide) (by decide) (by decide) (by decide) (by decide) (by decide) (by decide) (Nat.le_of_ble_eq_true rfl) ?_
    obtain ⟨S11, e12, hf⟩ := dbnd hf
    refine go_heap (h2 := xst S11 G h) ((x_uC (bk3 h0)).trans (by rw [e12])) ?_
    refine r_aload_n fe_53_69 rfl ?_
    refine r_getf (v := .ref (l1 + 4)) fe_53_70 lf_0_31 (x_c (bk0 h1) (by decide)) (x_lt (bk0 h1) (by decide)) rfl ?_
    refine r_iconst (v := 0) fe_53_73 (by decide) ?_
    refine r_aload_n fe_53_74 rfl ?_
    refine r_getf (v := .ref (l0 + 4)) fe_53_75 lf_0_31 (x_c (bk0 h0) (by decide)) (x_lt (bk0 h0) (by decide)) rfl ?_
    refine r_iconst (v := 0) fe_53_78 (by decide) ?_
    refine r_bipush (v := 16) fe_53_79 (by decide) ?_
    refine r_copy (a := (S11.2.1 (l1 + 4))) (b := (S11.2.1 (l0 + 4))) (sp := 0) (dp := 0) (n := 16) fe_53_81 lm_0_37 (x_c (bk4 h1) (by decide)) (x_h (bk4 h0) (by decide)) (x_lt (bk4 h0) (by decide)) (x_k6 (bk4 h0) (by decide)) (x_lt (bk4 h1) (by decide)) (by decide) (by decide) (by decide) (by decide) (by decide) (by decide) (by decide) (by decide) (Nat.le_of_ble_eq_true rfl) ?_
    obtain ⟨S13, e14, hf⟩ := dbnd hf
    refine go_heap (h2 := xst S13 G h) ((x_uC (bk4 h0)).trans (by rw [e14])) ?_
    refine r_aload_n fe_53_84 rfl ?_
    refine r_getf (v := .ref (l1 + 5)) fe_53_85 lf_0_34 (x_c (bk0 h1) (by decide)) (x_lt (bk0 h1) (by decide)) rfl ?_
    refine r_iconst (v := 0) fe_53_88 (by decide) ?_
    refine r_aload_n fe_53_89 rfl ?_
    refine r_getf (v := .ref (l0 + 5)) fe_53_90 lf_0_34 (x_c (bk0 h0) (by decide)) (x_lt (bk0 h0) (by decide)) rfl ?_
    refine r_iconst (v := 0) fe_53_93 (by decide) ?_
    refine r_bipush (v := 6) fe_53_94 (by decide) ?_
    refine r_copy (a := (S13.2.1 (l1 + 5))) (b := (S13.2.1 (l0 + 5))) (sp := 0) (dp := 0) (n := 6) fe_53_96 lm_0_37 (x_c (bk5 h1) (by decide)) (x_h (bk5 h0) (by decide)) (x_lt (bk5 h0) (by decide)) (x_k6 (bk5 h0) (by decide)) (x_lt (bk5 h1) (by decide)) (by decide) (by decide) (by decide) (by decide) (by decide) (by decide) (by decide) (by decide) (Nat.le_of_ble_eq_true rfl) ?_
    obtain ⟨S15, e16, hf⟩ := dbnd hf
    refine go_heap (h2 := xst S15 G h) ((x_uC (bk5 h0)).trans (by rw [e16])) ?_
    refine r_vret fe_53_99 ?_
    exact dfin (P := fun _ T => Q none (xst T G h)) hf hQ
theorem G53c {xs : Nat → Int32} {L9 d : Nat} {G : gS} {h : Nat → va_E} {l0 : Nat} {l1 : Nat} {n : Nat} {Q : Option Value → AmH → Prop} {r0 : Unit} {S0 S : xS}  (h0 : bB G l0 = true) (h1 : bB G l1 = true) (hf : G53 l0 l1 n  S = some (r0, S0)) (hQ : Q none (xst S0 G h)) : Ca (am_X xs L9) (d + 0) 53 [.ref l0, .ref l1] (xst S G h) Q := (G53l h0 h1 hQ n)  S hf
def G54b0 (l0 : Nat) (l1 : Nat) (F : Nat → xS → Option (Unit × xS)) (n : Nat)  (S : xS) : Option (Unit × xS) := ((some (x_sI S l0 0 (S.1 l1 0))).bind (fun S1 => ((some (x_sI S1 l0 1 (S1.1 l1 1))).bind (fun S3 => ((some (x_sI S3 l0 2 (S3.1 l1 2))).bind (fun S5 => ((some (x_sR S5 (l0 + 1) (va_cpy (S5.2.1 (l1 + 1)) (S5.2.1 (l0 + 1)) 0 0 13))).bind (fun S7 => ((some (x_sR S7 (l0 + 2) (va_cpy (S7.2.1 (l1 + 2)) (S7.2.1 (l0 + 2)) 0 0 13))).bind (fun S9 => ((some (x_sR S9 (l0 + 3) (va_cpy (S9.2.1 (l1 + 3)) (S9.2.1 (l0 + 3)) 0 0 13))).bind (fun S11 => ((some (x_sR S11 (l0 + 4) (va_cpy (S11.2.1 (l1 + 4)) (S11.2.1 (l0 + 4)) 0 0 13))).bind (fun S13 => ((some (x_sR S13 (l0 + 5) (va_cpy (S13.2.1 (l1 + 5)) (S13.2.1 (l0 + 5)) 0 0 13))).bind (fun S15 => ((some (x_sR S15 (l0 + 6) (va_cpy (S15.2.1 (l1 + 6)) (S15.2.1 (l0 + 6)) 0 0 13))).bind (fun S17 => ((some (x_sR S17 (l0 + 7) (va_cpy (S17.2.1 (l1 + 7)) (S17.2.1 (l0 + 7)) 0 0 13))).bind (fun S19 => ((some (x_sR S19 (l0 + 8) (va_cpy (S19.2.1 (l1 + 8)) (S19.2.1 (l0 + 8)) 0 0 13))).bind (fun S21 => ((some (x_sR S21 (l0 + 9) (va_cpy (S21.2.1 (l1 + 9)) (S21.2.1 (l0 + 9)) 0 0 16))).bind (fun S23 => ((some (x_sR S23 (l0 + 10) (va_cpy (S23.2.1 (l1 + 10)) (S23.2.1 (l0 + 10)) 0 0 6))).bind (fun S25 => some ((), S25)))))))))))))))))))))))))))
def G54f (l0 : Nat) (l1 : Nat) : Nat → Nat → xS → Option (Unit × xS)
  | 0, _, _ => none
  | n + 1, c, S => G54b0 l0 l1 (G54f l0 l1 n) n  S
theorem G54e0 (l0 : Nat) (l1 : Nat) (n : Nat)  (S : xS) : G54f l0 l1 (n + 1) 0  S = G54b0 l0 l1 (G54f l0 l1 n) n  S := rfl
def G54 (l0 : Nat) (l1 : Nat) (n : Nat)  (S : xS) : Option (Unit × xS) := G54f l0 l1 n 0  S
set_option maxRecDepth 20000 in
set_option maxHeartbeats 4000000 in
theorem G54l {xs : Nat → Int32} {L9 d : Nat} {G : gS} {h : Nat → va_E} {l0 : Nat} {l1 : Nat} {Q : Option Value → AmH → Prop} {r0 : Unit} {S0 : xS} (h0 : wB G l0 = true) (h1 : wB G l1 = true) (hQ : Q none (xst S0 G h)) : ∀ n : Nat, (∀ (S : xS), G54f l0 l1 n 0  S = some (r0, S0) → Go (am_X xs L9) (d + 0) 54 0 [.ref l0, .ref l1] [] (xst S G h) Q) := by
  intro n
  induction n with
  | zero => exact fun  S hf => (by cases hf)
  | succ n ih =>
    intro  S hf
    rw [G54e0] at hf
    unfold G54b0 at hf
    refine r_aload_n fe_54_0 rfl ?_
    refine r_aload_n fe_54_1 rfl ?_
    refine r_getf (v := .int (S.1 l1 0)) fe_54_2 lf_9_9 (x_c (wk0 h1) (by decide)) (x_lt (wk0 h1) (by decide)) rfl ?_
    refine r_putf fe_54_5 lf_9_9 (x_h (wk0 h0) (by decide)) (x_lt (wk0 h0) (by decide)) (x_k6 (wk0 h0) (by decide)) (Nat.le_of_ble_eq_true rfl) rfl rfl (Or.inl rfl) ?_
    obtain ⟨S1, e2, hf⟩ := dbnd hf
    refine go_heap (h2 := xst S1 G h) ((x_uI (j := 0) (x := (S.1 l1 0)) (wk0 h0) (by decide)).trans (by rw [e2])) ?_
    refine r_aload_n fe_54_8 rfl ?_
    refine r_aload_n fe_54_9 rfl ?_
    refine r_getf (v := .int (S1.1 l1 1)) fe_54_10 lf_9_15 (x_c (wk0 h1) (by decide)) (x_lt (wk0 h1) (by decide)) rfl ?_
    refine r_putf fe_54_13 lf_9_15 (x_h (wk0 h0) (by decide)) (x_lt (wk0 h0) (by decide)) (x_k6 (wk0 h0) (by decide)) (Nat.le_of_ble_eq_true rfl) rfl rfl (Or.inl rfl) ?_
    obtain ⟨S3, e4, hf⟩ := dbnd hf
    refine go_heap (h2 := xst S3 G h) ((x_uI (j := 1) (x := (S1.1 l1 1)) (wk0 h0) (by decide)).trans (by rw [e4])) ?_
    refine r_aload_n fe_54_16 rfl ?_
    refine r_aload_n fe_54_17 rfl ?_
    refine r_getf (v := .int (S3.1 l1 2)) fe_54_18 lf_9_18 (x_c (wk0 h1) (by decide)) (x_lt (wk0 h1) (by decide)) rfl ?_
    refine r_putf fe_54_21 lf_9_18 (x_h (wk0 h0) (by decide)) (x_lt (wk0 h0) (by decide)) (x_k6 (wk0 h0) (by decide)) (Nat.le_of_ble_eq_true rfl) rfl rfl (Or.inl rfl) ?_
    obtain ⟨S5, e6, hf⟩ := dbnd hf
    refine go_heap (h2 := xst S5 G h) ((x_uI (j := 2) (x := (S3.1 l1 2)) (wk0 h0) (by decide)).trans (by rw [e6])) ?_
    refine r_aload_n fe_54_24 rfl ?_
    refine r_getf (v := .ref (l1 + 1)) fe_54_25 lf_9_21 (x_c (wk0 h1) (by decide)) (x_lt (wk0 h1) (by decide)) rfl ?_
    refine r_iconst (v := 0) fe_54_28 (by decide) ?_
    refine r_aload_n fe_54_29 rfl ?_
    refine r_getf (v := .ref (l0 + 1)) fe_54_30 lf_9_21 (x_c (wk0 h0) (by decide)) (x_lt (wk0 h0) (by decide)) rfl ?_
    refine r_iconst (v := 0) fe_54_33 (by decide) ?_
    refine r_bipush (v := 13) fe_54_34 (by decide) ?_
    refine r_copy (a := (S5.2.1 (l1 + 1))) (b := (S5.2.1 (l0 + 1))) (sp := 0) (dp := 0) (n := 13) fe_54_36 lm_9_58 (x_c (wk1 h1) (by decide)) (x_h (wk1 h0) (by decide)) (x_lt (wk1 h0) (by decide)) (x_k6 (wk1 h0) (by decide)) (x_lt (wk1 h1) (by decide)) (by decide) (by decide) (by decide) (by decide) (by decide) (by decide) (by decide) (by decide) (Nat.le_of_ble_eq_true rfl) ?_
    obtain ⟨S7, e8, hf⟩ := dbnd hf
    refine go_heap (h2 := xst S7 G h) ((x_uC (wk1 h0)).trans (by rw [e8])) ?_
    refine r_aload_n fe_54_39 rfl ?_
    refine r_getf (v := .ref (l1 + 2)) fe_54_40 lf_9_25 (x_c (wk0 h1) (by decide)) (x_lt (wk0 h1) (by decide)) rfl ?_
    refine r_iconst (v := 0) fe_54_43 (by decide) ?_
    refine r_aload_n fe_54_44 rfl ?_
    refine r_getf (v := .ref (l0 + 2)) fe_54_45 lf_9_25 (x_c (wk0 h0) (by decide)) (x_lt (wk0 h0) (by decide)) rfl ?_
    refine r_iconst (v := 0) fe_54_48 (by decide) ?_
    refine r_bipush (v := 13) fe_54_49 (by decide) ?_
    refine r_copy (a := (S7.2.1 (l1 + 2))) (b := (S7.2.1 (l0 + 2))) (sp := 0) (dp := 0) (n := 13) fe_54_51 lm_9_58 (x_c (wk2 h1) (by decide)) (x_h (wk2 h0) (by decide)) (x_lt (wk2 h0) (by decide)) (x_k6 (wk2 h0) (by decide)) (x_lt (wk2 h1) (by decide)) (by decide) (by decide) (by decide) (by decide) (by decide) (by decide) (by decide) (by decide) (Nat.le_of_ble_eq_true rfl) ?_
    obtain ⟨S9, e10, hf⟩ := dbnd hf
    refine go_heap (h2 := xst S9 G h) ((x_uC (wk2 h0)).trans (by rw [e10])) ?_
    refine r_aload_n fe_54_54 rfl ?_
    refine r_getf (v := .ref (l1 + 3)) fe_54_55 lf_9_28 (x_c (wk0 h1) (by decide)) (x_lt (wk0 h1) (by decide)) rfl ?_
    refine r_iconst (v := 0) fe_54_58 (by decide) ?_
    refine r_aload_n fe_54_59 rfl ?_
    refine r_getf (v := .ref (l0 + 3)) fe_54_60 lf_9_28 (x_c (wk0 h0) (by decide)) (x_lt (wk0 h0) (by decide)) rfl ?_
    refine r_iconst (v := 0) fe_54_63 (by decide) ?_
    refine r_bipush (v := 13) fe_54_64 (by decide) ?_
    refine r_copy (a := (S9.2.1 (l1 + 3))) (b := (S9.2.1 (l0 + 3))) (sp := 0) (dp := 0) (n := 13) fe_54_66 lm_9_58 (x_c (wk3 h1) (by decide)) (x_h (wk3 h0) (by decide)) (x_lt (wk3 h0) (by decide)) (x_k6 (wk3 h0) (by decide)) (x_lt (wk3 h1) (by decide)) (by decide) (by decide) (by decide) (by decide) (by decide) (by decide) (by decide) (by decide) (Nat.le_of_ble_eq_true rfl) ?_
    obtain ⟨S11, e12, hf⟩ := dbnd hf
    refine go_heap (h2 := xst S11 G h) ((x_uC (wk3 h0)).trans (by rw [e12])) ?_
    refine r_aload_n fe_54_69 rfl ?_
    refine r_getf (v := .ref (l1 + 4)) fe_54_70 lf_9_31 (x_c (wk0 h1) (by decide)) (x_lt (wk0 h1) (by decide)) rfl ?_
    refine r_iconst (v := 0) fe_54_73 (by decide) ?_
    refine r_aload_n fe_54_74 rfl ?_
    refine r_getf (v := .ref (l0 + 4)) fe_54_75 lf_9_31 (x_c (wk0 h0) (by decide)) (x_lt (wk0 h0) (by decide)) rfl ?_
    refine r_iconst (v := 0) fe_54_78 (by decide) ?_
    refine r_bipush (v := 13) fe_54_79 (by decide) ?_
    refine r_copy (a := (S11.2.1 (l1 + 4))) (b := (S11.2.1 (l0 + 4))) (sp := 0) (dp := 0) (n := 13) fe_54_81 lm_9_58 (x_c (wk4 h1) (by decide)) (x_h (wk4 h0) (by decide)) (x_lt (wk4 h0) (by decide)) (x_k6 (wk4 h0) (by decide)) (x_lt (wk4 h1) (by decide)) (by decide) (by decide) (by decide) (by decide) (by decide) (by decide) (by decide) (by decide) (Nat.le_of_ble_eq_true rfl) ?_
    obtain ⟨S13, e14, hf⟩ := dbnd hf
    refine go_heap (h2 := xst S13 G h) ((x_uC (wk4 h0)).trans (by rw [e14])) ?_
    refine r_aload_n fe_54_84 rfl ?_
    refine r_getf (v := .ref (l1 + 5)) fe_54_85 lf_9_34 (x_c (wk0 h1) (by decide)) (x_lt (wk0 h1) (by decide)) rfl ?_
    refine r_iconst (v := 0) fe_54_88 (by decide) ?_
    refine r_aload_n fe_54_89 rfl ?_
    refine r_getf (v := .ref (l0 + 5)) fe_54_90 lf_9_34 (x_c (wk0 h0) (by decide)) (x_lt (wk0 h0) (by decide)) rfl ?_
    refine r_iconst (v := 0) fe_54_93 (by decide) ?_
    refine r_bipush (v := 13) fe_54_94 (by decide) ?_
    refine r_copy (a := (S13.2.1 (l1 + 5))) (b := (S13.2.1 (l0 + 5))) (sp := 0) (dp := 0) (n := 13) fe_54_96 lm_9_58 (x_c (wk5 h1) (by decide)) (x_h (wk5 h0) (by decide)) (x_lt (wk5 h0) (by decide)) (x_k6 (wk5 h0) (by decide)) (x_lt (wk5 h1) (by decide)) (by decide) (by decide) (by decide) (by decide) (by decide) (by decide) (by decide) (by decide) (Nat.le_of_ble_eq_true rfl) ?_
    obtain ⟨S15, e16, hf⟩ := dbnd hf
    refine go_heap (h2 := xst S15 G h) ((x_uC (wk5 h0)).trans (by rw [e16])) ?_
    refine r_aload_n fe_54_99 rfl ?_
    refine r_getf (v := .ref (l1 + 6)) fe_54_100 lf_9_37 (x_c (wk0 h1) (by decide)) (x_lt (wk0 h1) (by decide)) rfl ?_
    refine r_iconst (v := 0) fe_54_103 (by decide) ?_
    refine r_aload_n fe_54_104 rfl ?_
    refine r_getf (v := .ref (l0 + 6)) fe_54_105 lf_9_37 (x_c (wk0 h0) (by decide)) (x_lt (wk0 h0) (by decide)) rfl ?_
    refine r_iconst (v := 0) fe_54_108 (by decide) ?_
    refine r_bipush (v := 13) fe_54_109 (by decide) ?_
    refine r_copy (a := (S15.2.1 (l1 + 6))) (b := (S15.2.1 (l0 + 6))) (sp := 0) (dp := 0) (n := 13) fe_54_111 lm_9_58 (x_c (wk6 h1) (by decide)) (x_h (wk6 h0) (by decide)) (x_lt (wk6 h0) (by decide)) (x_k6 (wk6 h0) (by decide)) (x_lt (wk6 h1) (by decide)) (by decide) (by decide) (by decide) (by decide) (by decide) (by decide) (by decide) (by decide) (Nat.le_of_ble_eq_true rfl) ?_
    obtain ⟨S17, e18, hf⟩ := dbnd hf
    refine go_heap (h2 := xst S17 G h) ((x_uC (wk6 h0)).trans (by rw [e18])) ?_
    refine r_aload_n fe_54_114 rfl ?_
    refine r_getf (v := .ref (l1 + 7)) fe_54_115 lf_9_40 (x_c (wk0 h1) (by decide)) (x_lt (wk0 h1) (by decide)) rfl ?_
    refine r_iconst (v := 0) fe_54_118 (by decide) ?_
    refine r_aload_n fe_54_119 rfl ?_
    refine r_getf (v := .ref (l0 + 7)) fe_54_120 lf_9_40 (x_c (wk0 h0) (by decide)) (x_lt (wk0 h0) (by decide)) rfl ?_
    refine r_iconst (v := 0) fe_54_123 (by decide) ?_
    refine r_bipush (v := 13) fe_54_124 (by decide) ?_
    refine r_copy (a := (S17.2.1 (l1 + 7))) (b := (S17.2.1 (l0 + 7))) (sp := 0) (dp := 0) (n := 13) fe_54_126 lm_9_58 (x_c (wk7 h1) (by decide)) (x_h (wk7 h0) (by decide)) (x_lt (wk7 h0) (by decide)) (x_k6 (wk7 h0) (by decide)) (x_lt (wk7 h1) (by decide)) (by decide) (by decide) (by decide) (by decide) (by decide) (by decide) (by decide) (by decide) (Nat.le_of_ble_eq_true rfl) ?_
    obtain ⟨S19, e20, hf⟩ := dbnd hf
    refine go_heap (h2 := xst S19 G h) ((x_uC (wk7 h0)).trans (by rw [e20])) ?_
    refine r_aload_n fe_54_129 rfl ?_
    refine r_getf (v := .ref (l1 + 8)) fe_54_130 lf_9_43 (x_c (wk0 h1) (by decide)) (x_lt (wk0 h1) (by decide)) rfl ?_
    refine r_iconst (v := 0) fe_54_133 (by decide) ?_
    refine r_aload_n fe_54_134 rfl ?_
    refine r_getf (v := .ref (l0 + 8)) fe_54_135 lf_9_43 (x_c (wk0 h0) (by decide)) (x_lt (wk0 h0) (by decide)) rfl ?_
    refine r_iconst (v := 0) fe_54_138 (by decide) ?_
    refine r_bipush (v := 13) fe_54_139 (by decide) ?_
    refine r_copy (a := (S19.2.1 (l1 + 8))) (b := (S19.2.1 (l0 + 8))) (sp := 0) (dp := 0) (n := 13) fe_54_141 lm_9_58 (x_c (wk8 h1) (by decide)) (x_h (wk8 h0) (by decide)) (x_lt (wk8 h0) (by decide)) (x_k6 (wk8 h0) (by decide)) (x_lt (wk8 h1) (by decide)) (by decide) (by decide) (by decide) (by decide) (by decide) (by decide) (by decide) (by decide) (Nat.le_of_ble_eq_true rfl) ?_
    obtain ⟨S21, e22, hf⟩ := dbnd hf
    refine go_heap (h2 := xst S21 G h) ((x_uC (wk8 h0)).trans (by rw [e22])) ?_
    refine r_aload_n fe_54_144 rfl ?_
    refine r_getf (v := .ref (l1 + 9)) fe_54_145 lf_9_46 (x_c (wk0 h1) (by decide)) (x_lt (wk0 h1) (by decide)) rfl ?_
    refine r_iconst (v := 0) fe_54_148 (by decide) ?_
    refine r_aload_n fe_54_149 rfl ?_
    refine r_getf (v := .ref (l0 + 9)) fe_54_150 lf_9_46 (x_c (wk0 h0) (by decide)) (x_lt (wk0 h0) (by decide)) rfl ?_
    refine r_iconst (v := 0) fe_54_153 (by decide) ?_
    refine r_bipush (v := 16) fe_54_154 (by decide) ?_
    refine r_copy (a := (S21.2.1 (l1 + 9))) (b := (S21.2.1 (l0 + 9))) (sp := 0) (dp := 0) (n := 16) fe_54_156 lm_9_58 (x_c (wk9 h1) (by decide)) (x_h (wk9 h0) (by decide)) (x_lt (wk9 h0) (by decide)) (x_k6 (wk9 h0) (by decide)) (x_lt (wk9 h1) (by decide)) (by decide) (by decide) (by decide) (by decide) (by decide) (by decide) (by decide) (by decide) (Nat.le_of_ble_eq_true rfl) ?_
    obtain ⟨S23, e24, hf⟩ := dbnd hf
    refine go_heap (h2 := xst S23 G h) ((x_uC (wk9 h0)).trans (by rw [e24])) ?_
    refine r_aload_n fe_54_159 rfl ?_
    refine r_getf (v := .ref (l1 + 10)) fe_54_160 lf_9_49 (x_c (wk0 h1) (by decide)) (x_lt (wk0 h1) (by decide)) rfl ?_
    refine r_iconst (v := 0) fe_54_163 (by decide) ?_
    refine r_aload_n fe_54_164 rfl ?_
    refine r_getf (v := .ref (l0 + 10)) fe_54_165 lf_9_49 (x_c (wk0 h0) (by decide)) (x_lt (wk0 h0) (by decide)) rfl ?_
    refine r_iconst (v := 0) fe_54_168 (by decide) ?_
    refine r_bipush (v := 6) fe_54_169 (by decide) ?_
    refine r_copy (a := (S23.2.1 (l1 + 10))) (b := (S23.2.1 (l0 + 10))) (sp := 0) (dp := 0) (n := 6) fe_54_171 lm_9_58 (x_c (wk10 h1) (by decide)) (x_h (wk10 h0) (by decide)) (x_lt (wk10 h0) (by decide)) (x_k6 (wk10 h0) (by decide)) (x_lt (wk10 h1) (by decide)) (by decide) (by decide) (by decide) (by decide) (by decide) (by decide) (by decide) (by decide) (Nat.le_of_ble_eq_true rfl) ?_
    obtain ⟨S25, e26, hf⟩ := dbnd hf
    refine go_heap (h2 := xst S25 G h) ((x_uC (wk10 h0)).trans (by rw [e26])) ?_
    refine r_vret fe_54_174 ?_
    exact dfin (P := fun _ T => Q none (xst T G h)) hf hQ
theorem G54c {xs : Nat → Int32} {L9 d : Nat} {G : gS} {h : Nat → va_E} {l0 : Nat} {l1 : Nat} {n : Nat} {Q : Option Value → AmH → Prop} {r0 : Unit} {S0 S : xS}  (h0 : wB G l0 = true) (h1 : wB G l1 = true) (hf : G54 l0 l1 n  S = some (r0, S0)) (hQ : Q none (xst S0 G h)) : Ca (am_X xs L9) (d + 0) 54 [.ref l0, .ref l1] (xst S G h) Q := (G54l h0 h1 hQ n)  S hf
def G55b0 (l0 : Nat) (F : Nat → xS → Option (Unit × xS)) (n : Nat)  (S : xS) : Option (Unit × xS) := ((some (x_sI S l0 1 0)).bind (fun S1 => ((some (x_sI S1 l0 2 0)).bind (fun S3 => some ((), S3)))))
def G55f (l0 : Nat) : Nat → Nat → xS → Option (Unit × xS)
  | 0, _, _ => none
  | n + 1, c, S => G55b0 l0 (G55f l0 n) n  S
theorem G55e0 (l0 : Nat) (n : Nat)  (S : xS) : G55f l0 (n + 1) 0  S = G55b0 l0 (G55f l0 n) n  S := rfl
def G55 (l0 : Nat) (n : Nat)  (S : xS) : Option (Unit × xS) := G55f l0 n 0  S
set_option maxRecDepth 20000 in
set_option maxHeartbeats 4000000 in
theorem G55l {xs : Nat → Int32} {L9 d : Nat} {G : gS} {h : Nat → va_E} {l0 : Nat} {Q : Option Value → AmH → Prop} {r0 : Unit} {S0 : xS} (h0 : pB G l0 = true) (hQ : Q none (xst S0 G h)) : ∀ n : Nat, (∀ (S : xS), G55f l0 n 0  S = some (r0, S0) → Go (am_X xs L9) (d + 0) 55 0 [.ref l0] [] (xst S G h) Q) := by
  intro n
  induction n with
  | zero => exact fun  S hf => (by cases hf)
  | succ n ih =>
    intro  S hf
    rw [G55e0] at hf
    unfold G55b0 at hf
    refine r_aload_n fe_55_0 rfl ?_
    refine r_iconst (v := 0) fe_55_1 (by decide) ?_
    refine r_putf fe_55_2 lf_4_17 (x_h (pk0 h0) (by decide)) (x_lt (pk0 h0) (by decide)) (x_k6 (pk0 h0) (by decide)) (Nat.le_of_ble_eq_true rfl) rfl rfl (Or.inl rfl) ?_
    obtain ⟨S1, e2, hf⟩ := dbnd hf
    refine go_heap (h2 := xst S1 G h) ((x_uI (j := 1) (x := 0) (pk0 h0) (by decide)).trans (by rw [e2])) ?_
    refine r_aload_n fe_55_5 rfl ?_
    refine r_iconst (v := 0) fe_55_6 (by decide) ?_
    refine r_putf fe_55_7 lf_4_21 (x_h (pk0 h0) (by decide)) (x_lt (pk0 h0) (by decide)) (x_k6 (pk0 h0) (by decide)) (Nat.le_of_ble_eq_true rfl) rfl rfl (Or.inl rfl) ?_
    obtain ⟨S3, e4, hf⟩ := dbnd hf
    refine go_heap (h2 := xst S3 G h) ((x_uI (j := 2) (x := 0) (pk0 h0) (by decide)).trans (by rw [e4])) ?_
    refine r_vret fe_55_10 ?_
    exact dfin (P := fun _ T => Q none (xst T G h)) hf hQ
theorem G55c {xs : Nat → Int32} {L9 d : Nat} {G : gS} {h : Nat → va_E} {l0 : Nat} {n : Nat} {Q : Option Value → AmH → Prop} {r0 : Unit} {S0 S : xS}  (h0 : pB G l0 = true) (hf : G55 l0 n  S = some (r0, S0)) (hQ : Q none (xst S0 G h)) : Ca (am_X xs L9) (d + 0) 55 [.ref l0] (xst S G h) Q := (G55l h0 hQ n)  S hf
def G15b0 (F : Nat → xS → Option (Int32 × xS)) (n : Nat)  (S : xS) : Option (Int32 × xS) := ((G16 n  S).bind (fun z1 => (if am_if .eq z1.1 = true then ((G53 89 68 n  (x_sI z1.2 65 1 0)).bind (fun z4 => ((G54 95 74 n  z4.2).bind (fun z6 => ((G55 106 n  z6.2).bind (fun z8 => some ((z8.2.1 95 1), z8.2))))))) else some (((-2) - z1.1), (x_sI z1.2 65 1 0)))))
def G15f : Nat → Nat → xS → Option (Int32 × xS)
  | 0, _, _ => none
  | n + 1, c, S => G15b0 (G15f n) n  S
theorem G15e0 (n : Nat)  (S : xS) : G15f (n + 1) 0  S = G15b0 (G15f n) n  S := rfl
def G15 (n : Nat)  (S : xS) : Option (Int32 × xS) := G15f n 0  S
set_option maxRecDepth 20000 in
set_option maxHeartbeats 4000000 in
theorem G15l {xs : Nat → Int32} {L9 d : Nat} {G : gS} {h : Nat → va_E} {Q : Option Value → AmH → Prop} {r0 : Int32} {S0 : xS} (hQ : Q (some (.int r0)) (xst S0 G h)) : ∀ n : Nat, (∀ (S : xS), G15f n 0  S = some (r0, S0) → Go (am_X xs L9) (d + 8) 15 0 [.ref 64, .float 0] [] (xst S G h) Q) := by
  intro n
  induction n with
  | zero => exact fun  S hf => (by cases hf)
  | succ n ih =>
    intro  S hf
    rw [G15e0] at hf
    unfold G15b0 at hf
    refine r_aload_n fe_15_0 rfl ?_
    refine r_getf (v := .ref 67) fe_15_1 lf_11_19 (x_c xk_64 (by decide)) (x_lt xk_64 (by decide)) rfl ?_
    refine r_aload_n fe_15_4 rfl ?_
    refine r_getf (v := .ref 65) fe_15_5 lf_11_12 (x_c xk_64 (by decide)) (x_lt xk_64 (by decide)) rfl ?_
    refine r_callV (as := [.ref 65]) (r := []) fe_15_8 lm_11_79 md_16 rfl rfl (Nat.le_of_ble_eq_true rfl) (x_c xk_67 (by decide)) (x_lt xk_67 (by decide)) (Nat.le_of_ble_eq_true rfl) (Nat.le_of_ble_eq_true rfl) ?_
    cases hc2 : G16 n  S with
    | none => rw [hc2] at hf; cases hf
    | some z1 =>
      rw [hc2, Option.bind_some] at hf
      refine G16c (r0 := z1.1) (S0 := z1.2)  (hf := hc2) ?_
      refine r_istore_n fe_15_11 (Nat.le_of_ble_eq_true rfl) rfl ?_
      refine r_aload_n fe_15_12 rfl ?_
      refine r_getf (v := .ref 65) fe_15_13 lf_11_12 (x_c xk_64 (by decide)) (x_lt xk_64 (by decide)) rfl ?_
      refine r_iconst (v := 0) fe_15_16 (by decide) ?_
      refine r_putf fe_15_17 lf_11_72 (x_h xk_65 (by decide)) (x_lt xk_65 (by decide)) (by decide) (Nat.le_of_ble_eq_true rfl) rfl rfl (Or.inl rfl) ?_
      refine go_heap (x_uI (j := 1) (x := 0) xk_65 (by decide)) ?_
      refine r_iload_n fe_15_20 rfl ?_
      by_cases hb3 : am_if .eq z1.1 = true
      · rw [if_pos hb3] at hf
        refine r_if_t (t := 29) fe_15_21 (by decide) hb3 ?_
        refine r_aload_n fe_15_29 rfl ?_
        refine r_getf (v := .ref 88) fe_15_30 lf_11_43 (x_c xk_64 (by decide)) (x_lt xk_64 (by decide)) rfl ?_
        refine r_getf (v := .ref 89) fe_15_33 lf_11_83 (x_c xk_88 (by decide)) (x_lt xk_88 (by decide)) rfl ?_
        refine r_aload_n fe_15_36 rfl ?_
        refine r_getf (v := .ref 67) fe_15_37 lf_11_19 (x_c xk_64 (by decide)) (x_lt xk_64 (by decide)) rfl ?_
        refine r_getf (v := .ref 68) fe_15_40 lf_11_87 (x_c xk_67 (by decide)) (x_lt xk_67 (by decide)) rfl ?_
        refine r_callV (as := [.ref 68]) (r := []) fe_15_43 lm_11_88 md_53 rfl rfl (Nat.le_of_ble_eq_true rfl) (x_c xk_89 (by decide)) (x_lt xk_89 (by decide)) (Nat.le_of_ble_eq_true rfl) (Nat.le_of_ble_eq_true rfl) ?_
        cases hc5 : G53 89 68 n  (x_sI z1.2 65 1 0) with
        | none => rw [hc5] at hf; cases hf
        | some z4 =>
          rw [hc5, Option.bind_some] at hf
          refine G53c (r0 := z4.1) (S0 := z4.2) (h0 := bS_89) (h1 := bS_68) (hf := hc5) ?_
          refine r_aload_n fe_15_46 rfl ?_
          refine r_getf (v := .ref 88) fe_15_47 lf_11_43 (x_c xk_64 (by decide)) (x_lt xk_64 (by decide)) rfl ?_
          refine r_getf (v := .ref 95) fe_15_50 lf_11_94 (x_c xk_88 (by decide)) (x_lt xk_88 (by decide)) rfl ?_
          refine r_aload_n fe_15_53 rfl ?_
          refine r_getf (v := .ref 67) fe_15_54 lf_11_19 (x_c xk_64 (by decide)) (x_lt xk_64 (by decide)) rfl ?_
          refine r_getf (v := .ref 74) fe_15_57 lf_11_98 (x_c xk_67 (by decide)) (x_lt xk_67 (by decide)) rfl ?_
          refine r_callV (as := [.ref 74]) (r := []) fe_15_60 lm_11_99 md_54 rfl rfl (Nat.le_of_ble_eq_true rfl) (x_c xk_95 (by decide)) (x_lt xk_95 (by decide)) (Nat.le_of_ble_eq_true rfl) (Nat.le_of_ble_eq_true rfl) ?_
          cases hc7 : G54 95 74 n  z4.2 with
          | none => rw [hc7] at hf; cases hf
          | some z6 =>
            rw [hc7, Option.bind_some] at hf
            refine G54c (r0 := z6.1) (S0 := z6.2) (h0 := wS_95) (h1 := wS_74) (hf := hc7) ?_
            refine r_aload_n fe_15_63 rfl ?_
            refine r_getf (v := .ref 88) fe_15_64 lf_11_43 (x_c xk_64 (by decide)) (x_lt xk_64 (by decide)) rfl ?_
            refine r_getf (v := .ref 106) fe_15_67 lf_11_104 (x_c xk_88 (by decide)) (x_lt xk_88 (by decide)) rfl ?_
            refine r_callV (as := []) (r := []) fe_15_70 lm_11_108 md_55 rfl rfl (Nat.le_of_ble_eq_true rfl) (x_c xk_106 (by decide)) (x_lt xk_106 (by decide)) (Nat.le_of_ble_eq_true rfl) (Nat.le_of_ble_eq_true rfl) ?_
            cases hc9 : G55 106 n  z6.2 with
            | none => rw [hc9] at hf; cases hf
            | some z8 =>
              rw [hc9, Option.bind_some] at hf
              refine G55c (r0 := z8.1) (S0 := z8.2) (h0 := pS_106) (hf := hc9) ?_
              refine r_aload_n fe_15_73 rfl ?_
              refine r_getf (v := .ref 88) fe_15_74 lf_11_43 (x_c xk_64 (by decide)) (x_lt xk_64 (by decide)) rfl ?_
              refine r_getf (v := .ref 95) fe_15_77 lf_11_94 (x_c xk_88 (by decide)) (x_lt xk_88 (by decide)) rfl ?_
              refine r_getf (v := .int (z8.2.1 95 1)) fe_15_80 lf_11_113 (x_c xk_95 (by decide)) (x_lt xk_95 (by decide)) rfl ?_
              refine r_iret fe_15_83 ⟨rfl, by decide⟩ ?_
              exact dfin (P := fun r T => Q (some (.int r)) (xst T G h)) hf hQ
      · rw [if_neg hb3] at hf
        refine r_if_f (t := 29) fe_15_21 (by decide) (Bool.eq_false_iff.mpr hb3) ?_
        refine r_bipush (v := -2) fe_15_24 (by decide) ?_
        refine r_iload_n fe_15_26 rfl ?_
        refine r_isub (v := ((-2) - z1.1)) fe_15_27 rfl ?_
        refine r_iret fe_15_28 ⟨rfl, by decide⟩ ?_
        exact dfin (P := fun r T => Q (some (.int r)) (xst T G h)) hf hQ
theorem G15c {xs : Nat → Int32} {L9 d : Nat} {G : gS} {h : Nat → va_E} {n : Nat} {Q : Option Value → AmH → Prop} {r0 : Int32} {S0 S : xS}  (hf : G15 n  S = some (r0, S0)) (hQ : Q (some (.int r0)) (xst S0 G h)) : Ca (am_X xs L9) (d + 8) 15 [.ref 64] (xst S G h) Q := (G15l hQ n)  S hf
def G62b0 (F : Nat → Int32 → xS → Option (Unit × xS)) (n : Nat) (l1 : Int32) (S : xS) : Option (Unit × xS) := (if am_ic .ge (S.1 85 1) 400 = true then some ((), S) else (if ¬ ((S.1 85 1) < 0 ∨ 400 ≤ ((S.1 85 1)).toNatClampNeg) then ((some (x_sA S 86 (Int32.toNatClampNeg (S.1 85 1)) l1)).bind (fun S3 => some ((), (x_sI S3 85 1 ((S3.1 85 1) + 1))))) else none))
def G62f : Nat → Nat → Int32 → xS → Option (Unit × xS)
  | 0, _, _, _ => none
  | n + 1, c, l1, S => G62b0 (G62f n) n l1 S
theorem G62e0 (n : Nat) (l1 : Int32) (S : xS) : G62f (n + 1) 0 l1 S = G62b0 (G62f n) n l1 S := rfl
def G62 (n : Nat) (l1 : Int32) (S : xS) : Option (Unit × xS) := G62f n 0 l1 S
set_option maxRecDepth 20000 in
set_option maxHeartbeats 4000000 in
theorem G62l {xs : Nat → Int32} {L9 d : Nat} {G : gS} {h : Nat → va_E} {Q : Option Value → AmH → Prop} {r0 : Unit} {S0 : xS} (hQ : Q none (xst S0 G h)) : ∀ n : Nat, (∀ (l1 : Int32) (S : xS), G62f n 0 l1 S = some (r0, S0) → Go (am_X xs L9) (d + 0) 62 0 [.ref 85, .int l1] [] (xst S G h) Q) := by
  intro n
  induction n with
  | zero => exact fun l1 S hf => (by cases hf)
  | succ n ih =>
    intro l1 S hf
    rw [G62e0] at hf
    unfold G62b0 at hf
    refine r_aload_n fe_62_0 rfl ?_
    refine r_getf (v := .int (S.1 85 1)) fe_62_1 lf_6_15 (x_c xk_85 (by decide)) (x_lt xk_85 (by decide)) rfl ?_
    refine r_aload_n fe_62_4 rfl ?_
    refine r_getf (v := .ref 86) fe_62_5 lf_6_9 (x_c xk_85 (by decide)) (x_lt xk_85 (by decide)) rfl ?_
    refine r_alen (v := 400) fe_62_8 (x_c xk_86 (by decide)) (x_lt xk_86 (by decide)) (by decide) (by decide) ?_
    by_cases hb1 : am_ic .ge (S.1 85 1) 400 = true
    · rw [if_pos hb1] at hf
      refine r_ic_t (t := 32) fe_62_9 (by decide) hb1 ?_
      refine r_vret fe_62_32 ?_
      exact dfin (P := fun _ T => Q none (xst T G h)) hf hQ
    · rw [if_neg hb1] at hf
      refine r_ic_f (t := 32) fe_62_9 (by decide) (Bool.eq_false_iff.mpr hb1) ?_
      refine r_aload_n fe_62_12 rfl ?_
      refine r_getf (v := .ref 86) fe_62_13 lf_6_9 (x_c xk_85 (by decide)) (x_lt xk_85 (by decide)) rfl ?_
      refine r_aload_n fe_62_16 rfl ?_
      refine r_getf (v := .int (S.1 85 1)) fe_62_17 lf_6_15 (x_c xk_85 (by decide)) (x_lt xk_85 (by decide)) rfl ?_
      refine r_iload_n fe_62_20 rfl ?_
      by_cases hg2 : ¬ ((S.1 85 1) < 0 ∨ 400 ≤ ((S.1 85 1)).toNatClampNeg)
      rotate_left
      · rw [if_neg hg2] at hf; cases hf
      rw [if_pos hg2] at hf
      refine r_iast (j := (Int32.toNatClampNeg (S.1 85 1))) fe_62_21 (x_h xk_86 (by decide)) (x_lt xk_86 (by decide)) (by decide) (fun z => hg2 (Or.inl z)) rfl (fun z => hg2 (Or.inr z)) ?_
      obtain ⟨S3, e4, hf⟩ := dbnd hf
      refine go_heap (h2 := xst S3 G h) ((x_uA xk_86).trans (by rw [e4])) ?_
      refine r_aload_n fe_62_22 rfl ?_
      refine r_dup fe_62_23 rfl ?_
      refine r_getf (v := .int (S3.1 85 1)) fe_62_24 lf_6_15 (x_c xk_85 (by decide)) (x_lt xk_85 (by decide)) rfl ?_
      refine r_iconst (v := 1) fe_62_27 (by decide) ?_
      refine r_iadd (v := ((S3.1 85 1) + 1)) fe_62_28 rfl ?_
      refine r_putf fe_62_29 lf_6_15 (x_h xk_85 (by decide)) (x_lt xk_85 (by decide)) (by decide) (Nat.le_of_ble_eq_true rfl) rfl rfl (Or.inl rfl) ?_
      refine go_heap (x_uI (j := 1) (x := ((S3.1 85 1) + 1)) xk_85 (by decide)) ?_
      refine r_vret fe_62_32 ?_
      exact dfin (P := fun _ T => Q none (xst T G h)) hf hQ
theorem G62c {xs : Nat → Int32} {L9 d : Nat} {G : gS} {h : Nat → va_E} {n : Nat} {Q : Option Value → AmH → Prop} {r0 : Unit} {S0 S : xS} {l1 : Int32} (hf : G62 n l1 S = some (r0, S0)) (hQ : Q none (xst S0 G h)) : Ca (am_X xs L9) (d + 0) 62 [.ref 85, .int l1] (xst S G h) Q := (G62l hQ n) l1 S hf
def G61b0 (F : Nat → Nat → xS → Option (Int32 × xS)) (n : Nat) (l1 : Nat) (S : xS) : Option (Int32 × xS) := ((G23 n  S).bind (fun z1 => (if sB l1 = true then ((G35 n l1 0 (nI (sTx l1).length) z1.2).bind (fun z4 => (if am_if .ne z4.1 = true then (if sB l1 = true then some (1, (x_sI (x_sI z4.2 65 3 (z4.2.1 65 2)) 65 2 ((z4.2.1 65 2) + (nI (sTx l1).length)))) else none) else some (0, z4.2)))) else none)))
def G61f : Nat → Nat → Nat → xS → Option (Int32 × xS)
  | 0, _, _, _ => none
  | n + 1, c, l1, S => G61b0 (G61f n) n l1 S
theorem G61e0 (n : Nat) (l1 : Nat) (S : xS) : G61f (n + 1) 0 l1 S = G61b0 (G61f n) n l1 S := rfl
def G61 (n : Nat) (l1 : Nat) (S : xS) : Option (Int32 × xS) := G61f n 0 l1 S
set_option maxRecDepth 20000 in
set_option maxHeartbeats 4000000 in
theorem G61l {xs : Nat → Int32} {L9 d : Nat} {G : gS} {h : Nat → va_E} {Q : Option Value → AmH → Prop} {r0 : Int32} {S0 : xS} (hQ : Q (some (.int r0)) (xst S0 G h)) : ∀ n : Nat, (∀ (l1 : Nat) (S : xS), G61f n 0 l1 S = some (r0, S0) → Go (am_X xs L9) (d + 5) 61 0 [.ref 65, .ref l1] [] (xst S G h) Q) := by
  intro n
  induction n with
  | zero => exact fun l1 S hf => (by cases hf)
  | succ n ih =>
    intro l1 S hf
    rw [G61e0] at hf
    unfold G61b0 at hf
    refine r_aload_n fe_61_0 rfl ?_
    refine r_callV (as := []) (r := []) fe_61_1 lm_8_28 md_23 rfl rfl (Nat.le_of_ble_eq_true rfl) (x_c xk_65 (by decide)) (x_lt xk_65 (by decide)) (Nat.le_of_ble_eq_true rfl) (Nat.le_of_ble_eq_true rfl) ?_
    cases hc2 : G23 n  S with
    | none => rw [hc2] at hf; cases hf
    | some z1 =>
      rw [hc2, Option.bind_some] at hf
      refine G23c (r0 := z1.1) (S0 := z1.2)  (hf := hc2) ?_
      refine r_pop fe_61_4 rfl ?_
      refine r_aload_n fe_61_5 rfl ?_
      refine r_aload_n fe_61_6 rfl ?_
      refine r_iconst (v := 0) fe_61_7 (by decide) ?_
      refine r_aload_n fe_61_8 rfl ?_
      by_cases hs3 : sB l1 = true
      rotate_left
      · rw [if_neg hs3] at hf; cases hf
      rw [if_pos hs3] at hf
      refine r_callV (as := []) (r := [.int 0, .ref l1, .ref 65]) fe_61_9 lm_8_43 md_24 rfl rfl (Nat.le_of_ble_eq_true rfl) (s_c (sB_ok hs3)) (xs_lt (sB_ok hs3)) (Nat.le_of_ble_eq_true rfl) (Nat.le_of_ble_eq_true rfl) ?_
      refine c_strlen (sB_ok hs3) x_64 ?_
      refine r_callV (as := [.ref l1, .int 0, .int (nI (sTx l1).length)]) (r := []) fe_61_12 lm_8_51 md_35 rfl rfl (Nat.le_of_ble_eq_true rfl) (x_c xk_65 (by decide)) (x_lt xk_65 (by decide)) (Nat.le_of_ble_eq_true rfl) (Nat.le_of_ble_eq_true rfl) ?_
      cases hc5 : G35 n l1 0 (nI (sTx l1).length) z1.2 with
      | none => rw [hc5] at hf; cases hf
      | some z4 =>
        rw [hc5, Option.bind_some] at hf
        refine G35c (r0 := z4.1) (S0 := z4.2)  (hf := hc5) ?_
        by_cases hb6 : am_if .ne z4.1 = true
        · rw [if_pos hb6] at hf
          refine r_if_t (t := 20) fe_61_15 (by decide) hb6 ?_
          refine r_aload_n fe_61_20 rfl ?_
          refine r_aload_n fe_61_21 rfl ?_
          refine r_getf (v := .int (z4.2.1 65 2)) fe_61_22 lf_8_19 (x_c xk_65 (by decide)) (x_lt xk_65 (by decide)) rfl ?_
          refine r_putf fe_61_25 lf_8_22 (x_h xk_65 (by decide)) (x_lt xk_65 (by decide)) (by decide) (Nat.le_of_ble_eq_true rfl) rfl rfl (Or.inl rfl) ?_
          refine go_heap (x_uI (j := 3) (x := (z4.2.1 65 2)) xk_65 (by decide)) ?_
          refine r_aload_n fe_61_28 rfl ?_
          refine r_dup fe_61_29 rfl ?_
          refine r_getf (v := .int (z4.2.1 65 2)) fe_61_30 lf_8_19 (x_c xk_65 (by decide)) (x_lt xk_65 (by decide)) rfl ?_
          refine r_aload_n fe_61_33 rfl ?_
          by_cases hs7 : sB l1 = true
          rotate_left
          · rw [if_neg hs7] at hf; cases hf
          rw [if_pos hs7] at hf
          refine r_callV (as := []) (r := [.int (z4.2.1 65 2), .ref 65]) fe_61_34 lm_8_43 md_24 rfl rfl (Nat.le_of_ble_eq_true rfl) (s_c (sB_ok hs7)) (xs_lt (sB_ok hs7)) (Nat.le_of_ble_eq_true rfl) (Nat.le_of_ble_eq_true rfl) ?_
          refine c_strlen (sB_ok hs7) x_64 ?_
          refine r_iadd (v := ((z4.2.1 65 2) + (nI (sTx l1).length))) fe_61_37 rfl ?_
          refine r_putf fe_61_38 lf_8_19 (x_h xk_65 (by decide)) (x_lt xk_65 (by decide)) (by decide) (Nat.le_of_ble_eq_true rfl) rfl rfl (Or.inl rfl) ?_
          refine go_heap (x_uI (j := 2) (x := ((z4.2.1 65 2) + (nI (sTx l1).length))) xk_65 (by decide)) ?_
          refine r_iconst (v := 1) fe_61_41 (by decide) ?_
          refine r_iret fe_61_42 ⟨rfl, by decide⟩ ?_
          exact dfin (P := fun r T => Q (some (.int r)) (xst T G h)) hf hQ
        · rw [if_neg hb6] at hf
          refine r_if_f (t := 20) fe_61_15 (by decide) (Bool.eq_false_iff.mpr hb6) ?_
          refine r_iconst (v := 0) fe_61_18 (by decide) ?_
          refine r_iret fe_61_19 ⟨rfl, by decide⟩ ?_
          exact dfin (P := fun r T => Q (some (.int r)) (xst T G h)) hf hQ
theorem G61c {xs : Nat → Int32} {L9 d : Nat} {G : gS} {h : Nat → va_E} {n : Nat} {Q : Option Value → AmH → Prop} {r0 : Int32} {S0 S : xS} {l1 : Nat} (hf : G61 n l1 S = some (r0, S0)) (hQ : Q (some (.int r0)) (xst S0 G h)) : Ca (am_X xs L9) (d + 5) 61 [.ref 65, .ref l1] (xst S G h) Q := (G61l hQ n) l1 S hf
def G65b0 (F : Nat → Int32 → xS → Option (Int32 × xS)) (n : Nat) (l2 : Int32) (S : xS) : Option (Int32 × xS) := (if am_ic .lt (S.1 85 2) 60 = true then some (1, (x_sI S 85 2 ((S.1 85 2) + 1))) else ((G36 n l2 3 S).bind (fun z2 => (if narrow .boolean (.int z2.1) = .int z2.1 then some (z2.1, z2.2) else none))))
def G65f : Nat → Nat → Int32 → xS → Option (Int32 × xS)
  | 0, _, _, _ => none
  | n + 1, c, l2, S => G65b0 (G65f n) n l2 S
theorem G65e0 (n : Nat) (l2 : Int32) (S : xS) : G65f (n + 1) 0 l2 S = G65b0 (G65f n) n l2 S := rfl
def G65 (n : Nat) (l2 : Int32) (S : xS) : Option (Int32 × xS) := G65f n 0 l2 S
set_option maxRecDepth 20000 in
set_option maxHeartbeats 4000000 in
theorem G65l {xs : Nat → Int32} {L9 d : Nat} {G : gS} {h : Nat → va_E} {Q : Option Value → AmH → Prop} {r0 : Int32} {S0 : xS} (hQ : Q (some (.int r0)) (xst S0 G h)) : ∀ n : Nat, (∀ (l2 : Int32) (S : xS), G65f n 0 l2 S = some (r0, S0) → Go (am_X xs L9) (d + 1) 65 0 [.ref 85, .ref 65, .int l2] [] (xst S G h) Q) := by
  intro n
  induction n with
  | zero => exact fun l2 S hf => (by cases hf)
  | succ n ih =>
    intro l2 S hf
    rw [G65e0] at hf
    unfold G65b0 at hf
    refine r_aload_n fe_65_0 rfl ?_
    refine r_getf (v := .int (S.1 85 2)) fe_65_1 lf_6_19 (x_c xk_85 (by decide)) (x_lt xk_85 (by decide)) rfl ?_
    refine r_bipush (v := 60) fe_65_4 (by decide) ?_
    by_cases hb1 : am_ic .lt (S.1 85 2) 60 = true
    · rw [if_pos hb1] at hf
      refine r_ic_t (t := 16) fe_65_6 (by decide) hb1 ?_
      refine r_aload_n fe_65_16 rfl ?_
      refine r_dup fe_65_17 rfl ?_
      refine r_getf (v := .int (S.1 85 2)) fe_65_18 lf_6_19 (x_c xk_85 (by decide)) (x_lt xk_85 (by decide)) rfl ?_
      refine r_iconst (v := 1) fe_65_21 (by decide) ?_
      refine r_iadd (v := ((S.1 85 2) + 1)) fe_65_22 rfl ?_
      refine r_putf fe_65_23 lf_6_19 (x_h xk_85 (by decide)) (x_lt xk_85 (by decide)) (by decide) (Nat.le_of_ble_eq_true rfl) rfl rfl (Or.inl rfl) ?_
      refine go_heap (x_uI (j := 2) (x := ((S.1 85 2) + 1)) xk_85 (by decide)) ?_
      refine r_iconst (v := 1) fe_65_26 (by decide) ?_
      refine r_iret fe_65_27 ⟨rfl, by decide⟩ ?_
      exact dfin (P := fun r T => Q (some (.int r)) (xst T G h)) hf hQ
    · rw [if_neg hb1] at hf
      refine r_ic_f (t := 16) fe_65_6 (by decide) (Bool.eq_false_iff.mpr hb1) ?_
      refine r_aload_n fe_65_9 rfl ?_
      refine r_iload_n fe_65_10 rfl ?_
      refine r_iconst (v := 3) fe_65_11 (by decide) ?_
      refine r_callV (as := [.int l2, .int 3]) (r := []) fe_65_12 lm_6_47 md_36 rfl rfl (Nat.le_of_ble_eq_true rfl) (x_c xk_65 (by decide)) (x_lt xk_65 (by decide)) (Nat.le_of_ble_eq_true rfl) (Nat.le_of_ble_eq_true rfl) ?_
      cases hc3 : G36 n l2 3 S with
      | none => rw [hc3] at hf; cases hf
      | some z2 =>
        rw [hc3, Option.bind_some] at hf
        refine G36c (r0 := z2.1) (S0 := z2.2)  (hf := hc3) ?_
        by_cases hz4 : narrow .boolean (.int z2.1) = .int z2.1
        rotate_left
        · rw [if_neg hz4] at hf; cases hf
        rw [if_pos hz4] at hf
        refine r_iret fe_65_15 ⟨hz4, by decide⟩ ?_
        exact dfin (P := fun r T => Q (some (.int r)) (xst T G h)) hf hQ
theorem G65c {xs : Nat → Int32} {L9 d : Nat} {G : gS} {h : Nat → va_E} {n : Nat} {Q : Option Value → AmH → Prop} {r0 : Int32} {S0 S : xS} {l2 : Int32} (hf : G65 n l2 S = some (r0, S0)) (hQ : Q (some (.int r0)) (xst S0 G h)) : Ca (am_X xs L9) (d + 1) 65 [.ref 85, .ref 65, .int l2] (xst S G h) Q := (G65l hQ n) l2 S hf
def G68b0 (F : Nat → xS → Option (Int32 × xS)) (n : Nat)  (S : xS) : Option (Int32 × xS) := ((G23 n  S).bind (fun z1 => (if am_ic .eq z1.1 60 = true then ((G65 n (z1.2.1 65 2) z1.2).bind (fun z4 => (if am_if .ne z4.1 = true then (if am_ic .ne z1.1 61 = true then (if am_ic .ge ((z4.2.1 65 2) + 1) (z4.2.1 65 1) = true then (if am_ic .ne z1.1 60 = true then some ((-21), (x_sI z4.2 65 2 ((z4.2.1 65 2) + 1))) else some ((-17), (x_sI z4.2 65 2 ((z4.2.1 65 2) + 1)))) else (if ¬ (((z4.2.1 65 2) + 1) < 0 ∨ 400 ≤ (((z4.2.1 65 2) + 1)).toNatClampNeg) then (if am_ic .ne (z4.2.2.1 66 (Int32.toNatClampNeg ((z4.2.1 65 2) + 1))) 61 = true then (if am_ic .ne z1.1 60 = true then some ((-21), (x_sI z4.2 65 2 ((z4.2.1 65 2) + 1))) else some ((-17), (x_sI z4.2 65 2 ((z4.2.1 65 2) + 1)))) else (if am_ic .ne z1.1 60 = true then some ((-20), (x_sI (x_sI z4.2 65 2 ((z4.2.1 65 2) + 1)) 65 2 (((z4.2.1 65 2) + 1) + 1))) else some ((-18), (x_sI (x_sI z4.2 65 2 ((z4.2.1 65 2) + 1)) 65 2 (((z4.2.1 65 2) + 1) + 1))))) else none)) else some ((-19), (x_sI z4.2 65 2 ((z4.2.1 65 2) + 1)))) else some ((-1), z4.2)))) else (if am_ic .eq z1.1 61 = true then ((G65 n (z1.2.1 65 2) z1.2).bind (fun z15 => (if am_if .ne z15.1 = true then (if am_ic .ne z1.1 61 = true then (if am_ic .ge ((z15.2.1 65 2) + 1) (z15.2.1 65 1) = true then (if am_ic .ne z1.1 60 = true then some ((-21), (x_sI z15.2 65 2 ((z15.2.1 65 2) + 1))) else some ((-17), (x_sI z15.2 65 2 ((z15.2.1 65 2) + 1)))) else (if ¬ (((z15.2.1 65 2) + 1) < 0 ∨ 400 ≤ (((z15.2.1 65 2) + 1)).toNatClampNeg) then (if am_ic .ne (z15.2.2.1 66 (Int32.toNatClampNeg ((z15.2.1 65 2) + 1))) 61 = true then (if am_ic .ne z1.1 60 = true then some ((-21), (x_sI z15.2 65 2 ((z15.2.1 65 2) + 1))) else some ((-17), (x_sI z15.2 65 2 ((z15.2.1 65 2) + 1)))) else (if am_ic .ne z1.1 60 = true then some ((-20), (x_sI (x_sI z15.2 65 2 ((z15.2.1 65 2) + 1)) 65 2 (((z15.2.1 65 2) + 1) + 1))) else some ((-18), (x_sI (x_sI z15.2 65 2 ((z15.2.1 65 2) + 1)) 65 2 (((z15.2.1 65 2) + 1) + 1))))) else none)) else some ((-19), (x_sI z15.2 65 2 ((z15.2.1 65 2) + 1)))) else some ((-1), z15.2)))) else (if am_ic .eq z1.1 62 = true then ((G65 n (z1.2.1 65 2) z1.2).bind (fun z26 => (if am_if .ne z26.1 = true then (if am_ic .ne z1.1 61 = true then (if am_ic .ge ((z26.2.1 65 2) + 1) (z26.2.1 65 1) = true then (if am_ic .ne z1.1 60 = true then some ((-21), (x_sI z26.2 65 2 ((z26.2.1 65 2) + 1))) else some ((-17), (x_sI z26.2 65 2 ((z26.2.1 65 2) + 1)))) else (if ¬ (((z26.2.1 65 2) + 1) < 0 ∨ 400 ≤ (((z26.2.1 65 2) + 1)).toNatClampNeg) then (if am_ic .ne (z26.2.2.1 66 (Int32.toNatClampNeg ((z26.2.1 65 2) + 1))) 61 = true then (if am_ic .ne z1.1 60 = true then some ((-21), (x_sI z26.2 65 2 ((z26.2.1 65 2) + 1))) else some ((-17), (x_sI z26.2 65 2 ((z26.2.1 65 2) + 1)))) else (if am_ic .ne z1.1 60 = true then some ((-20), (x_sI (x_sI z26.2 65 2 ((z26.2.1 65 2) + 1)) 65 2 (((z26.2.1 65 2) + 1) + 1))) else some ((-18), (x_sI (x_sI z26.2 65 2 ((z26.2.1 65 2) + 1)) 65 2 (((z26.2.1 65 2) + 1) + 1))))) else none)) else some ((-19), (x_sI z26.2 65 2 ((z26.2.1 65 2) + 1)))) else some ((-1), z26.2)))) else ((G36 n (z1.2.1 65 2) 0 z1.2).bind (fun z36 => some ((-1), z36.2))))))))
def G68f : Nat → Nat → xS → Option (Int32 × xS)
  | 0, _, _ => none
  | n + 1, c, S => G68b0 (G68f n) n  S
theorem G68e0 (n : Nat)  (S : xS) : G68f (n + 1) 0  S = G68b0 (G68f n) n  S := rfl
def G68 (n : Nat)  (S : xS) : Option (Int32 × xS) := G68f n 0  S
set_option maxRecDepth 20000 in
set_option maxHeartbeats 4000000 in
theorem G68l {xs : Nat → Int32} {L9 d : Nat} {G : gS} {h : Nat → va_E} {Q : Option Value → AmH → Prop} {r0 : Int32} {S0 : xS} (hQ : Q (some (.int r0)) (xst S0 G h)) : ∀ n : Nat, (∀ (S : xS), G68f n 0  S = some (r0, S0) → Go (am_X xs L9) (d + 2) 68 0 [.ref 85, .ref 65, .float 0, .float 0, .float 0] [] (xst S G h) Q) := by
  intro n
  induction n with
  | zero => exact fun  S hf => (by cases hf)
  | succ n ih =>
    intro  S hf
    rw [G68e0] at hf
    unfold G68b0 at hf
    refine r_aload_n fe_68_0 rfl ?_
    refine r_callV (as := []) (r := []) fe_68_1 lm_6_80 md_23 rfl rfl (Nat.le_of_ble_eq_true rfl) (x_c xk_65 (by decide)) (x_lt xk_65 (by decide)) (Nat.le_of_ble_eq_true rfl) (Nat.le_of_ble_eq_true rfl) ?_
    cases hc2 : G23 n  S with
    | none => rw [hc2] at hf; cases hf
    | some z1 =>
      rw [hc2, Option.bind_some] at hf
      refine G23c (r0 := z1.1) (S0 := z1.2)  (hf := hc2) ?_
      refine r_istore_n fe_68_4 (Nat.le_of_ble_eq_true rfl) rfl ?_
      refine r_aload_n fe_68_5 rfl ?_
      refine r_getf (v := .int (z1.2.1 65 2)) fe_68_6 lf_6_77 (x_c xk_65 (by decide)) (x_lt xk_65 (by decide)) rfl ?_
      refine r_istore_n fe_68_9 (Nat.le_of_ble_eq_true rfl) rfl ?_
      refine r_iload_n fe_68_10 rfl ?_
      refine r_bipush (v := 60) fe_68_11 (by decide) ?_
      by_cases hb3 : am_ic .eq z1.1 60 = true
      · rw [if_pos hb3] at hf
        refine r_ic_t (t := 37) fe_68_13 (by decide) hb3 ?_
        refine r_aload_n fe_68_37 rfl ?_
        refine r_aload_n fe_68_38 rfl ?_
        refine r_iload_n fe_68_39 rfl ?_
        refine r_callV (as := [.ref 65, .int (z1.2.1 65 2)]) (r := []) fe_68_40 lm_6_97 md_65 rfl rfl (Nat.le_of_ble_eq_true rfl) (x_c xk_85 (by decide)) (x_lt xk_85 (by decide)) (Nat.le_of_ble_eq_true rfl) (Nat.le_of_ble_eq_true rfl) ?_
        cases hc5 : G65 n (z1.2.1 65 2) z1.2 with
        | none => rw [hc5] at hf; cases hf
        | some z4 =>
          rw [hc5, Option.bind_some] at hf
          refine G65c (r0 := z4.1) (S0 := z4.2)  (hf := hc5) ?_
          by_cases hb6 : am_if .ne z4.1 = true
          · rw [if_pos hb6] at hf
            refine r_if_t (t := 48) fe_68_43 (by decide) hb6 ?_
            refine r_aload_n fe_68_48 rfl ?_
            refine r_dup fe_68_49 rfl ?_
            refine r_getf (v := .int (z4.2.1 65 2)) fe_68_50 lf_6_77 (x_c xk_65 (by decide)) (x_lt xk_65 (by decide)) rfl ?_
            refine r_iconst (v := 1) fe_68_53 (by decide) ?_
            refine r_iadd (v := ((z4.2.1 65 2) + 1)) fe_68_54 rfl ?_
            refine r_putf fe_68_55 lf_6_77 (x_h xk_65 (by decide)) (x_lt xk_65 (by decide)) (by decide) (Nat.le_of_ble_eq_true rfl) rfl rfl (Or.inl rfl) ?_
            refine go_heap (x_uI (j := 2) (x := ((z4.2.1 65 2) + 1)) xk_65 (by decide)) ?_
            refine r_iload_n fe_68_58 rfl ?_
            refine r_bipush (v := 61) fe_68_59 (by decide) ?_
            by_cases hb7 : am_ic .ne z1.1 61 = true
            · rw [if_pos hb7] at hf
              refine r_ic_t (t := 67) fe_68_61 (by decide) hb7 ?_
              refine r_aload_n fe_68_67 rfl ?_
              refine r_getf (v := .int ((z4.2.1 65 2) + 1)) fe_68_68 lf_6_77 (x_c xk_65 (by decide)) (x_lt xk_65 (by decide)) rfl ?_
              refine r_aload_n fe_68_71 rfl ?_
              refine r_getf (v := .int (z4.2.1 65 1)) fe_68_72 lf_6_100 (x_c xk_65 (by decide)) (x_lt xk_65 (by decide)) rfl ?_
              by_cases hb8 : am_ic .ge ((z4.2.1 65 2) + 1) (z4.2.1 65 1) = true
              · rw [if_pos hb8] at hf
                refine r_ic_t (t := 96) fe_68_75 (by decide) hb8 ?_
                refine r_iconst (v := 0) fe_68_96 (by decide) ?_
                refine r_istore fe_68_97 (Nat.le_of_ble_eq_true rfl) rfl ?_
                refine r_iload fe_68_99 rfl ?_
                refine r_if_t (t := 114) fe_68_101 (by decide) (by decide) ?_
                refine r_iload_n fe_68_114 rfl ?_
                refine r_bipush (v := 60) fe_68_115 (by decide) ?_
                by_cases hb9 : am_ic .ne z1.1 60 = true
                · rw [if_pos hb9] at hf
                  refine r_ic_t (t := 133) fe_68_117 (by decide) hb9 ?_
                  refine r_iload fe_68_133 rfl ?_
                  refine r_if_t (t := 143) fe_68_135 (by decide) (by decide) ?_
                  refine r_bipush (v := -21) fe_68_143 (by decide) ?_
                  refine r_iret fe_68_145 ⟨rfl, by decide⟩ ?_
                  exact dfin (P := fun r T => Q (some (.int r)) (xst T G h)) hf hQ
                · rw [if_neg hb9] at hf
                  refine r_ic_f (t := 133) fe_68_117 (by decide) (Bool.eq_false_iff.mpr hb9) ?_
                  refine r_iload fe_68_120 rfl ?_
                  refine r_if_t (t := 130) fe_68_122 (by decide) (by decide) ?_
                  refine r_bipush (v := -17) fe_68_130 (by decide) ?_
                  refine r_iret fe_68_132 ⟨rfl, by decide⟩ ?_
                  exact dfin (P := fun r T => Q (some (.int r)) (xst T G h)) hf hQ
              · rw [if_neg hb8] at hf
                refine r_ic_f (t := 96) fe_68_75 (by decide) (Bool.eq_false_iff.mpr hb8) ?_
                refine r_aload_n fe_68_78 rfl ?_
                refine r_getf (v := .ref 66) fe_68_79 lf_6_101 (x_c xk_65 (by decide)) (x_lt xk_65 (by decide)) rfl ?_
                refine r_aload_n fe_68_82 rfl ?_
                refine r_getf (v := .int ((z4.2.1 65 2) + 1)) fe_68_83 lf_6_77 (x_c xk_65 (by decide)) (x_lt xk_65 (by decide)) rfl ?_
                by_cases hg10 : ¬ (((z4.2.1 65 2) + 1) < 0 ∨ 400 ≤ (((z4.2.1 65 2) + 1)).toNatClampNeg)
                rotate_left
                · rw [if_neg hg10] at hf; cases hf
                rw [if_pos hg10] at hf
                refine r_iald (j := (Int32.toNatClampNeg ((z4.2.1 65 2) + 1))) (v := z4.2.2.1 66 (Int32.toNatClampNeg ((z4.2.1 65 2) + 1))) fe_68_86 (x_c xk_66 (by decide)) (x_lt xk_66 (by decide)) (fun z => hg10 (Or.inl z)) rfl (fun z => hg10 (Or.inr z)) rfl ?_
                refine r_bipush (v := 61) fe_68_87 (by decide) ?_
                by_cases hb11 : am_ic .ne (z4.2.2.1 66 (Int32.toNatClampNeg ((z4.2.1 65 2) + 1))) 61 = true
                · rw [if_pos hb11] at hf
                  refine r_ic_t (t := 96) fe_68_89 (by decide) hb11 ?_
                  refine r_iconst (v := 0) fe_68_96 (by decide) ?_
                  refine r_istore fe_68_97 (Nat.le_of_ble_eq_true rfl) rfl ?_
                  refine r_iload fe_68_99 rfl ?_
                  refine r_if_t (t := 114) fe_68_101 (by decide) (by decide) ?_
                  refine r_iload_n fe_68_114 rfl ?_
                  refine r_bipush (v := 60) fe_68_115 (by decide) ?_
                  by_cases hb12 : am_ic .ne z1.1 60 = true
                  · rw [if_pos hb12] at hf
                    refine r_ic_t (t := 133) fe_68_117 (by decide) hb12 ?_
                    refine r_iload fe_68_133 rfl ?_
                    refine r_if_t (t := 143) fe_68_135 (by decide) (by decide) ?_
                    refine r_bipush (v := -21) fe_68_143 (by decide) ?_
                    refine r_iret fe_68_145 ⟨rfl, by decide⟩ ?_
                    exact dfin (P := fun r T => Q (some (.int r)) (xst T G h)) hf hQ
                  · rw [if_neg hb12] at hf
                    refine r_ic_f (t := 133) fe_68_117 (by decide) (Bool.eq_false_iff.mpr hb12) ?_
                    refine r_iload fe_68_120 rfl ?_
                    refine r_if_t (t := 130) fe_68_122 (by decide) (by decide) ?_
                    refine r_bipush (v := -17) fe_68_130 (by decide) ?_
                    refine r_iret fe_68_132 ⟨rfl, by decide⟩ ?_
                    exact dfin (P := fun r T => Q (some (.int r)) (xst T G h)) hf hQ
                · rw [if_neg hb11] at hf
                  refine r_ic_f (t := 96) fe_68_89 (by decide) (Bool.eq_false_iff.mpr hb11) ?_
                  refine r_iconst (v := 1) fe_68_92 (by decide) ?_
                  refine r_goto (t := 97) fe_68_93 (by decide) ?_
                  refine r_istore fe_68_97 (Nat.le_of_ble_eq_true rfl) rfl ?_
                  refine r_iload fe_68_99 rfl ?_
                  refine r_if_f (t := 114) fe_68_101 (by decide) (by decide) ?_
                  refine r_aload_n fe_68_104 rfl ?_
                  refine r_dup fe_68_105 rfl ?_
                  refine r_getf (v := .int ((z4.2.1 65 2) + 1)) fe_68_106 lf_6_77 (x_c xk_65 (by decide)) (x_lt xk_65 (by decide)) rfl ?_
                  refine r_iconst (v := 1) fe_68_109 (by decide) ?_
                  refine r_iadd (v := (((z4.2.1 65 2) + 1) + 1)) fe_68_110 rfl ?_
                  refine r_putf fe_68_111 lf_6_77 (x_h xk_65 (by decide)) (x_lt xk_65 (by decide)) (by decide) (Nat.le_of_ble_eq_true rfl) rfl rfl (Or.inl rfl) ?_
                  refine go_heap (x_uI (j := 2) (x := (((z4.2.1 65 2) + 1) + 1)) xk_65 (by decide)) ?_
                  refine r_iload_n fe_68_114 rfl ?_
                  refine r_bipush (v := 60) fe_68_115 (by decide) ?_
                  by_cases hb13 : am_ic .ne z1.1 60 = true
                  · rw [if_pos hb13] at hf
                    refine r_ic_t (t := 133) fe_68_117 (by decide) hb13 ?_
                    refine r_iload fe_68_133 rfl ?_
                    refine r_if_f (t := 143) fe_68_135 (by decide) (by decide) ?_
                    refine r_bipush (v := -20) fe_68_138 (by decide) ?_
                    refine r_goto (t := 145) fe_68_140 (by decide) ?_
                    refine r_iret fe_68_145 ⟨rfl, by decide⟩ ?_
                    exact dfin (P := fun r T => Q (some (.int r)) (xst T G h)) hf hQ
                  · rw [if_neg hb13] at hf
                    refine r_ic_f (t := 133) fe_68_117 (by decide) (Bool.eq_false_iff.mpr hb13) ?_
                    refine r_iload fe_68_120 rfl ?_
                    refine r_if_f (t := 130) fe_68_122 (by decide) (by decide) ?_
                    refine r_bipush (v := -18) fe_68_125 (by decide) ?_
                    refine r_goto (t := 132) fe_68_127 (by decide) ?_
                    refine r_iret fe_68_132 ⟨rfl, by decide⟩ ?_
                    exact dfin (P := fun r T => Q (some (.int r)) (xst T G h)) hf hQ
            · rw [if_neg hb7] at hf
              refine r_ic_f (t := 67) fe_68_61 (by decide) (Bool.eq_false_iff.mpr hb7) ?_
              refine r_bipush (v := -19) fe_68_64 (by decide) ?_
              refine r_iret fe_68_66 ⟨rfl, by decide⟩ ?_
              exact dfin (P := fun r T => Q (some (.int r)) (xst T G h)) hf hQ
          · rw [if_neg hb6] at hf
            refine r_if_f (t := 48) fe_68_43 (by decide) (Bool.eq_false_iff.mpr hb6) ?_
            refine r_iconst (v := -1) fe_68_46 (by decide) ?_
            refine r_iret fe_68_47 ⟨rfl, by decide⟩ ?_
            exact dfin (P := fun r T => Q (some (.int r)) (xst T G h)) hf hQ
      · rw [if_neg hb3] at hf
        refine r_ic_f (t := 37) fe_68_13 (by decide) (Bool.eq_false_iff.mpr hb3) ?_
        refine r_iload_n fe_68_16 rfl ?_
        refine r_bipush (v := 61) fe_68_17 (by decide) ?_
        by_cases hb14 : am_ic .eq z1.1 61 = true
        · rw [if_pos hb14] at hf
          refine r_ic_t (t := 37) fe_68_19 (by decide) hb14 ?_
          refine r_aload_n fe_68_37 rfl ?_
          refine r_aload_n fe_68_38 rfl ?_
          refine r_iload_n fe_68_39 rfl ?_
          refine r_callV (as := [.ref 65, .int (z1.2.1 65 2)]) (r := []) fe_68_40 lm_6_97 md_65 rfl rfl (Nat.le_of_ble_eq_true rfl) (x_c xk_85 (by decide)) (x_lt xk_85 (by decide)) (Nat.le_of_ble_eq_true rfl) (Nat.le_of_ble_eq_true rfl) ?_
          cases hc16 : G65 n (z1.2.1 65 2) z1.2 with
          | none => rw [hc16] at hf; cases hf
          | some z15 =>
            rw [hc16, Option.bind_some] at hf
            refine G65c (r0 := z15.1) (S0 := z15.2)  (hf := hc16) ?_
            by_cases hb17 : am_if .ne z15.1 = true
            · rw [if_pos hb17] at hf
              refine r_if_t (t := 48) fe_68_43 (by decide) hb17 ?_
              refine r_aload_n fe_68_48 rfl ?_
              refine r_dup fe_68_49 rfl ?_
              refine r_getf (v := .int (z15.2.1 65 2)) fe_68_50 lf_6_77 (x_c xk_65 (by decide)) (x_lt xk_65 (by decide)) rfl ?_
              refine r_iconst (v := 1) fe_68_53 (by decide) ?_
              refine r_iadd (v := ((z15.2.1 65 2) + 1)) fe_68_54 rfl ?_
              refine r_putf fe_68_55 lf_6_77 (x_h xk_65 (by decide)) (x_lt xk_65 (by decide)) (by decide) (Nat.le_of_ble_eq_true rfl) rfl rfl (Or.inl rfl) ?_
              refine go_heap (x_uI (j := 2) (x := ((z15.2.1 65 2) + 1)) xk_65 (by decide)) ?_
              refine r_iload_n fe_68_58 rfl ?_
              refine r_bipush (v := 61) fe_68_59 (by decide) ?_
              by_cases hb18 : am_ic .ne z1.1 61 = true
              · rw [if_pos hb18] at hf
                refine r_ic_t (t := 67) fe_68_61 (by decide) hb18 ?_
                refine r_aload_n fe_68_67 rfl ?_
                refine r_getf (v := .int ((z15.2.1 65 2) + 1)) fe_68_68 lf_6_77 (x_c xk_65 (by decide)) (x_lt xk_65 (by decide)) rfl ?_
                refine r_aload_n fe_68_71 rfl ?_
                refine r_getf (v := .int (z15.2.1 65 1)) fe_68_72 lf_6_100 (x_c xk_65 (by decide)) (x_lt xk_65 (by decide)) rfl ?_
                by_cases hb19 : am_ic .ge ((z15.2.1 65 2) + 1) (z15.2.1 65 1) = true
                · rw [if_pos hb19] at hf
                  refine r_ic_t (t := 96) fe_68_75 (by decide) hb19 ?_
                  refine r_iconst (v := 0) fe_68_96 (by decide) ?_
                  refine r_istore fe_68_97 (Nat.le_of_ble_eq_true rfl) rfl ?_
                  refine r_iload fe_68_99 rfl ?_
                  refine r_if_t (t := 114) fe_68_101 (by decide) (by decide) ?_
                  refine r_iload_n fe_68_114 rfl ?_
                  refine r_bipush (v := 60) fe_68_115 (by decide) ?_
                  by_cases hb20 : am_ic .ne z1.1 60 = true
                  · rw [if_pos hb20] at hf
                    refine r_ic_t (t := 133) fe_68_117 (by decide) hb20 ?_
                    refine r_iload fe_68_133 rfl ?_
                    refine r_if_t (t := 143) fe_68_135 (by decide) (by decide) ?_
                    refine r_bipush (v := -21) fe_68_143 (by decide) ?_
                    refine r_iret fe_68_145 ⟨rfl, by decide⟩ ?_
                    exact dfin (P := fun r T => Q (some (.int r)) (xst T G h)) hf hQ
                  · rw [if_neg hb20] at hf
                    refine r_ic_f (t := 133) fe_68_117 (by decide) (Bool.eq_false_iff.mpr hb20) ?_
                    refine r_iload fe_68_120 rfl ?_
                    refine r_if_t (t := 130) fe_68_122 (by decide) (by decide) ?_
                    refine r_bipush (v := -17) fe_68_130 (by decide) ?_
                    refine r_iret fe_68_132 ⟨rfl, by decide⟩ ?_
                    exact dfin (P := fun r T => Q (some (.int r)) (xst T G h)) hf hQ
                · rw [if_neg hb19] at hf
                  refine r_ic_f (t := 96) fe_68_75 (by decide) (Bool.eq_false_iff.mpr hb19) ?_
                  refine r_aload_n fe_68_78 rfl ?_
                  refine r_getf (v := .ref 66) fe_68_79 lf_6_101 (x_c xk_65 (by decide)) (x_lt xk_65 (by decide)) rfl ?_
                  refine r_aload_n fe_68_82 rfl ?_
                  refine r_getf (v := .int ((z15.2.1 65 2) + 1)) fe_68_83 lf_6_77 (x_c xk_65 (by decide)) (x_lt xk_65 (by decide)) rfl ?_
                  by_cases hg21 : ¬ (((z15.2.1 65 2) + 1) < 0 ∨ 400 ≤ (((z15.2.1 65 2) + 1)).toNatClampNeg)
                  rotate_left
                  · rw [if_neg hg21] at hf; cases hf
                  rw [if_pos hg21] at hf
                  refine r_iald (j := (Int32.toNatClampNeg ((z15.2.1 65 2) + 1))) (v := z15.2.2.1 66 (Int32.toNatClampNeg ((z15.2.1 65 2) + 1))) fe_68_86 (x_c xk_66 (by decide)) (x_lt xk_66 (by decide)) (fun z => hg21 (Or.inl z)) rfl (fun z => hg21 (Or.inr z)) rfl ?_
                  refine r_bipush (v := 61) fe_68_87 (by decide) ?_
                  by_cases hb22 : am_ic .ne (z15.2.2.1 66 (Int32.toNatClampNeg ((z15.2.1 65 2) + 1))) 61 = true
                  · rw [if_pos hb22] at hf
                    refine r_ic_t (t := 96) fe_68_89 (by decide) hb22 ?_
                    refine r_iconst (v := 0) fe_68_96 (by decide) ?_
                    refine r_istore fe_68_97 (Nat.le_of_ble_eq_true rfl) rfl ?_
                    refine r_iload fe_68_99 rfl ?_
                    refine r_if_t (t := 114) fe_68_101 (by decide) (by decide) ?_
                    refine r_iload_n fe_68_114 rfl ?_
                    refine r_bipush (v := 60) fe_68_115 (by decide) ?_
                    by_cases hb23 : am_ic .ne z1.1 60 = true
                    · rw [if_pos hb23] at hf
                      refine r_ic_t (t := 133) fe_68_117 (by decide) hb23 ?_
                      refine r_iload fe_68_133 rfl ?_
                      refine r_if_t (t := 143) fe_68_135 (by decide) (by decide) ?_
                      refine r_bipush (v := -21) fe_68_143 (by decide) ?_
                      refine r_iret fe_68_145 ⟨rfl, by decide⟩ ?_
                      exact dfin (P := fun r T => Q (some (.int r)) (xst T G h)) hf hQ
                    · rw [if_neg hb23] at hf
                      refine r_ic_f (t := 133) fe_68_117 (by decide) (Bool.eq_false_iff.mpr hb23) ?_
                      refine r_iload fe_68_120 rfl ?_
                      refine r_if_t (t := 130) fe_68_122 (by decide) (by decide) ?_
                      refine r_bipush (v := -17) fe_68_130 (by decide) ?_
                      refine r_iret fe_68_132 ⟨rfl, by decide⟩ ?_
                      exact dfin (P := fun r T => Q (some (.int r)) (xst T G h)) hf hQ
                  · rw [if_neg hb22] at hf
                    refine r_ic_f (t := 96) fe_68_89 (by decide) (Bool.eq_false_iff.mpr hb22) ?_
                    refine r_iconst (v := 1) fe_68_92 (by decide) ?_
                    refine r_goto (t := 97) fe_68_93 (by decide) ?_
                    refine r_istore fe_68_97 (Nat.le_of_ble_eq_true rfl) rfl ?_
                    refine r_iload fe_68_99 rfl ?_
                    refine r_if_f (t := 114) fe_68_101 (by decide) (by decide) ?_
                    refine r_aload_n fe_68_104 rfl ?_
                    refine r_dup fe_68_105 rfl ?_
                    refine r_getf (v := .int ((z15.2.1 65 2) + 1)) fe_68_106 lf_6_77 (x_c xk_65 (by decide)) (x_lt xk_65 (by decide)) rfl ?_
                    refine r_iconst (v := 1) fe_68_109 (by decide) ?_
                    refine r_iadd (v := (((z15.2.1 65 2) + 1) + 1)) fe_68_110 rfl ?_
                    refine r_putf fe_68_111 lf_6_77 (x_h xk_65 (by decide)) (x_lt xk_65 (by decide)) (by decide) (Nat.le_of_ble_eq_true rfl) rfl rfl (Or.inl rfl) ?_
                    refine go_heap (x_uI (j := 2) (x := (((z15.2.1 65 2) + 1) + 1)) xk_65 (by decide)) ?_
                    refine r_iload_n fe_68_114 rfl ?_
                    refine r_bipush (v := 60) fe_68_115 (by decide) ?_
                    by_cases hb24 : am_ic .ne z1.1 60 = true
                    · rw [if_pos hb24] at hf
                      refine r_ic_t (t := 133) fe_68_117 (by decide) hb24 ?_
                      refine r_iload fe_68_133 rfl ?_
                      refine r_if_f (t := 143) fe_68_135 (by decide) (by decide) ?_
                      refine r_bipush (v := -20) fe_68_138 (by decide) ?_
                      refine r_goto (t := 145) fe_68_140 (by decide) ?_
                      refine r_iret fe_68_145 ⟨rfl, by decide⟩ ?_
                      exact dfin (P := fun r T => Q (some (.int r)) (xst T G h)) hf hQ
                    · rw [if_neg hb24] at hf
                      refine r_ic_f (t := 133) fe_68_117 (by decide) (Bool.eq_false_iff.mpr hb24) ?_
                      refine r_iload fe_68_120 rfl ?_
                      refine r_if_f (t := 130) fe_68_122 (by decide) (by decide) ?_
                      refine r_bipush (v := -18) fe_68_125 (by decide) ?_
                      refine r_goto (t := 132) fe_68_127 (by decide) ?_
                      refine r_iret fe_68_132 ⟨rfl, by decide⟩ ?_
                      exact dfin (P := fun r T => Q (some (.int r)) (xst T G h)) hf hQ
              · rw [if_neg hb18] at hf
                refine r_ic_f (t := 67) fe_68_61 (by decide) (Bool.eq_false_iff.mpr hb18) ?_
                refine r_bipush (v := -19) fe_68_64 (by decide) ?_
                refine r_iret fe_68_66 ⟨rfl, by decide⟩ ?_
                exact dfin (P := fun r T => Q (some (.int r)) (xst T G h)) hf hQ
            · rw [if_neg hb17] at hf
              refine r_if_f (t := 48) fe_68_43 (by decide) (Bool.eq_false_iff.mpr hb17) ?_
              refine r_iconst (v := -1) fe_68_46 (by decide) ?_
              refine r_iret fe_68_47 ⟨rfl, by decide⟩ ?_
              exact dfin (P := fun r T => Q (some (.int r)) (xst T G h)) hf hQ
        · rw [if_neg hb14] at hf
          refine r_ic_f (t := 37) fe_68_19 (by decide) (Bool.eq_false_iff.mpr hb14) ?_
          refine r_iload_n fe_68_22 rfl ?_
          refine r_bipush (v := 62) fe_68_23 (by decide) ?_
          by_cases hb25 : am_ic .eq z1.1 62 = true
          · rw [if_pos hb25] at hf
            refine r_ic_t (t := 37) fe_68_25 (by decide) hb25 ?_
            refine r_aload_n fe_68_37 rfl ?_
            refine r_aload_n fe_68_38 rfl ?_
            refine r_iload_n fe_68_39 rfl ?_
            refine r_callV (as := [.ref 65, .int (z1.2.1 65 2)]) (r := []) fe_68_40 lm_6_97 md_65 rfl rfl (Nat.le_of_ble_eq_true rfl) (x_c xk_85 (by decide)) (x_lt xk_85 (by decide)) (Nat.le_of_ble_eq_true rfl) (Nat.le_of_ble_eq_true rfl) ?_
            cases hc27 : G65 n (z1.2.1 65 2) z1.2 with
            | none => rw [hc27] at hf; cases hf
            | some z26 =>
              rw [hc27, Option.bind_some] at hf
              refine G65c (r0 := z26.1) (S0 := z26.2)  (hf := hc27) ?_
              by_cases hb28 : am_if .ne z26.1 = true
              · rw [if_pos hb28] at hf
                refine r_if_t (t := 48) fe_68_43 (by decide) hb28 ?_
                refine r_aload_n fe_68_48 rfl ?_
                refine r_dup fe_68_49 rfl ?_
                refine r_getf (v := .int (z26.2.1 65 2)) fe_68_50 lf_6_77 (x_c xk_65 (by decide)) (x_lt xk_65 (by decide)) rfl ?_
                refine r_iconst (v := 1) fe_68_53 (by decide) ?_
                refine r_iadd (v := ((z26.2.1 65 2) + 1)) fe_68_54 rfl ?_
                refine r_putf fe_68_55 lf_6_77 (x_h xk_65 (by decide)) (x_lt xk_65 (by decide)) (by decide) (Nat.le_of_ble_eq_true rfl) rfl rfl (Or.inl rfl) ?_
                refine go_heap (x_uI (j := 2) (x := ((z26.2.1 65 2) + 1)) xk_65 (by decide)) ?_
                refine r_iload_n fe_68_58 rfl ?_
                refine r_bipush (v := 61) fe_68_59 (by decide) ?_
                by_cases hb29 : am_ic .ne z1.1 61 = true
                · rw [if_pos hb29] at hf
                  refine r_ic_t (t := 67) fe_68_61 (by decide) hb29 ?_
                  refine r_aload_n fe_68_67 rfl ?_
                  refine r_getf (v := .int ((z26.2.1 65 2) + 1)) fe_68_68 lf_6_77 (x_c xk_65 (by decide)) (x_lt xk_65 (by decide)) rfl ?_
                  refine r_aload_n fe_68_71 rfl ?_
                  refine r_getf (v := .int (z26.2.1 65 1)) fe_68_72 lf_6_100 (x_c xk_65 (by decide)) (x_lt xk_65 (by decide)) rfl ?_
                  by_cases hb30 : am_ic .ge ((z26.2.1 65 2) + 1) (z26.2.1 65 1) = true
                  · rw [if_pos hb30] at hf
                    refine r_ic_t (t := 96) fe_68_75 (by decide) hb30 ?_
                    refine r_iconst (v := 0) fe_68_96 (by decide) ?_
                    refine r_istore fe_68_97 (Nat.le_of_ble_eq_true rfl) rfl ?_
                    refine r_iload fe_68_99 rfl ?_
                    refine r_if_t (t := 114) fe_68_101 (by decide) (by decide) ?_
                    refine r_iload_n fe_68_114 rfl ?_
                    refine r_bipush (v := 60) fe_68_115 (by decide) ?_
                    by_cases hb31 : am_ic .ne z1.1 60 = true
                    · rw [if_pos hb31] at hf
                      refine r_ic_t (t := 133) fe_68_117 (by decide) hb31 ?_
                      refine r_iload fe_68_133 rfl ?_
                      refine r_if_t (t := 143) fe_68_135 (by decide) (by decide) ?_
                      refine r_bipush (v := -21) fe_68_143 (by decide) ?_
                      refine r_iret fe_68_145 ⟨rfl, by decide⟩ ?_
                      exact dfin (P := fun r T => Q (some (.int r)) (xst T G h)) hf hQ
                    · rw [if_neg hb31] at hf
                      refine r_ic_f (t := 133) fe_68_117 (by decide) (Bool.eq_false_iff.mpr hb31) ?_
                      refine r_iload fe_68_120 rfl ?_
                      refine r_if_t (t := 130) fe_68_122 (by decide) (by decide) ?_
                      refine r_bipush (v := -17) fe_68_130 (by decide) ?_
                      refine r_iret fe_68_132 ⟨rfl, by decide⟩ ?_
                      exact dfin (P := fun r T => Q (some (.int r)) (xst T G h)) hf hQ
                  · rw [if_neg hb30] at hf
                    refine r_ic_f (t := 96) fe_68_75 (by decide) (Bool.eq_false_iff.mpr hb30) ?_
                    refine r_aload_n fe_68_78 rfl ?_
                    refine r_getf (v := .ref 66) fe_68_79 lf_6_101 (x_c xk_65 (by decide)) (x_lt xk_65 (by decide)) rfl ?_
                    refine r_aload_n fe_68_82 rfl ?_
                    refine r_getf (v := .int ((z26.2.1 65 2) + 1)) fe_68_83 lf_6_77 (x_c xk_65 (by decide)) (x_lt xk_65 (by decide)) rfl ?_
                    by_cases hg32 : ¬ (((z26.2.1 65 2) + 1) < 0 ∨ 400 ≤ (((z26.2.1 65 2) + 1)).toNatClampNeg)
                    rotate_left
                    · rw [if_neg hg32] at hf; cases hf
                    rw [if_pos hg32] at hf
                    refine r_iald (j := (Int32.toNatClampNeg ((z26.2.1 65 2) + 1))) (v := z26.2.2.1 66 (Int32.toNatClampNeg ((z26.2.1 65 2) + 1))) fe_68_86 (x_c xk_66 (by decide)) (x_lt xk_66 (by decide)) (fun z => hg32 (Or.inl z)) rfl (fun z => hg32 (Or.inr z)) rfl ?_
                    refine r_bipush (v := 61) fe_68_87 (by decide) ?_
                    by_cases hb33 : am_ic .ne (z26.2.2.1 66 (Int32.toNatClampNeg ((z26.2.1 65 2) + 1))) 61 = true
                    · rw [if_pos hb33] at hf
                      refine r_ic_t (t := 96) fe_68_89 (by decide) hb33 ?_
                      refine r_iconst (v := 0) fe_68_96 (by decide) ?_
                      refine r_istore fe_68_97 (Nat.le_of_ble_eq_true rfl) rfl ?_
                      refine r_iload fe_68_99 rfl ?_
                      refine r_if_t (t := 114) fe_68_101 (by decide) (by decide) ?_
                      refine r_iload_n fe_68_114 rfl ?_
                      refine r_bipush (v := 60) fe_68_115 (by decide) ?_
                      by_cases hb34 : am_ic .ne z1.1 60 = true
                      · rw [if_pos hb34] at hf
                        refine r_ic_t (t := 133) fe_68_117 (by decide) hb34 ?_
                        refine r_iload fe_68_133 rfl ?_
                        refine r_if_t (t := 143) fe_68_135 (by decide) (by decide) ?_
                        refine r_bipush (v := -21) fe_68_143 (by decide) ?_
                        refine r_iret fe_68_145 ⟨rfl, by decide⟩ ?_
                        exact dfin (P := fun r T => Q (some (.int r)) (xst T G h)) hf hQ
                      · rw [if_neg hb34] at hf
                        refine r_ic_f (t := 133) fe_68_117 (by decide) (Bool.eq_false_iff.mpr hb34) ?_
                        refine r_iload fe_68_120 rfl ?_
                        refine r_if_t (t := 130) fe_68_122 (by decide) (by decide) ?_
                        refine r_bipush (v := -17) fe_68_130 (by decide) ?_
                        refine r_iret fe_68_132 ⟨rfl, by decide⟩ ?_
                        exact dfin (P := fun r T => Q (some (.int r)) (xst T G h)) hf hQ
                    · rw [if_neg hb33] at hf
                      refine r_ic_f (t := 96) fe_68_89 (by decide) (Bool.eq_false_iff.mpr hb33) ?_
                      refine r_iconst (v := 1) fe_68_92 (by decide) ?_
                      refine r_goto (t := 97) fe_68_93 (by decide) ?_
                      refine r_istore fe_68_97 (Nat.le_of_ble_eq_true rfl) rfl ?_
                      refine r_iload fe_68_99 rfl ?_
                      refine r_if_f (t := 114) fe_68_101 (by decide) (by decide) ?_
                      refine r_aload_n fe_68_104 rfl ?_
                      refine r_dup fe_68_105 rfl ?_
                      refine r_getf (v := .int ((z26.2.1 65 2) + 1)) fe_68_106 lf_6_77 (x_c xk_65 (by decide)) (x_lt xk_65 (by decide)) rfl ?_
                      refine r_iconst (v := 1) fe_68_109 (by decide) ?_
                      refine r_iadd (v := (((z26.2.1 65 2) + 1) + 1)) fe_68_110 rfl ?_
                      refine r_putf fe_68_111 lf_6_77 (x_h xk_65 (by decide)) (x_lt xk_65 (by decide)) (by decide) (Nat.le_of_ble_eq_true rfl) rfl rfl (Or.inl rfl) ?_
                      refine go_heap (x_uI (j := 2) (x := (((z26.2.1 65 2) + 1) + 1)) xk_65 (by decide)) ?_
                      refine r_iload_n fe_68_114 rfl ?_
                      refine r_bipush (v := 60) fe_68_115 (by decide) ?_
                      by_cases hb35 : am_ic .ne z1.1 60 = true
                      · rw [if_pos hb35] at hf
                        refine r_ic_t (t := 133) fe_68_117 (by decide) hb35 ?_
                        refine r_iload fe_68_133 rfl ?_
                        refine r_if_f (t := 143) fe_68_135 (by decide) (by decide) ?_
                        refine r_bipush (v := -20) fe_68_138 (by decide) ?_
                        refine r_goto (t := 145) fe_68_140 (by decide) ?_
                        refine r_iret fe_68_145 ⟨rfl, by decide⟩ ?_
                        exact dfin (P := fun r T => Q (some (.int r)) (xst T G h)) hf hQ
                      · rw [if_neg hb35] at hf
                        refine r_ic_f (t := 133) fe_68_117 (by decide) (Bool.eq_false_iff.mpr hb35) ?_
                        refine r_iload fe_68_120 rfl ?_
                        refine r_if_f (t := 130) fe_68_122 (by decide) (by decide) ?_
                        refine r_bipush (v := -18) fe_68_125 (by decide) ?_
                        refine r_goto (t := 132) fe_68_127 (by decide) ?_
                        refine r_iret fe_68_132 ⟨rfl, by decide⟩ ?_
                        exact dfin (P := fun r T => Q (some (.int r)) (xst T G h)) hf hQ
                · rw [if_neg hb29] at hf
                  refine r_ic_f (t := 67) fe_68_61 (by decide) (Bool.eq_false_iff.mpr hb29) ?_
                  refine r_bipush (v := -19) fe_68_64 (by decide) ?_
                  refine r_iret fe_68_66 ⟨rfl, by decide⟩ ?_
                  exact dfin (P := fun r T => Q (some (.int r)) (xst T G h)) hf hQ
              · rw [if_neg hb28] at hf
                refine r_if_f (t := 48) fe_68_43 (by decide) (Bool.eq_false_iff.mpr hb28) ?_
                refine r_iconst (v := -1) fe_68_46 (by decide) ?_
                refine r_iret fe_68_47 ⟨rfl, by decide⟩ ?_
                exact dfin (P := fun r T => Q (some (.int r)) (xst T G h)) hf hQ
          · rw [if_neg hb25] at hf
            refine r_ic_f (t := 37) fe_68_25 (by decide) (Bool.eq_false_iff.mpr hb25) ?_
            refine r_aload_n fe_68_28 rfl ?_
            refine r_iload_n fe_68_29 rfl ?_
            refine r_iconst (v := 0) fe_68_30 (by decide) ?_
            refine r_callV (as := [.int (z1.2.1 65 2), .int 0]) (r := []) fe_68_31 lm_6_47 md_36 rfl rfl (Nat.le_of_ble_eq_true rfl) (x_c xk_65 (by decide)) (x_lt xk_65 (by decide)) (Nat.le_of_ble_eq_true rfl) (Nat.le_of_ble_eq_true rfl) ?_
            cases hc37 : G36 n (z1.2.1 65 2) 0 z1.2 with
            | none => rw [hc37] at hf; cases hf
            | some z36 =>
              rw [hc37, Option.bind_some] at hf
              refine G36c (r0 := z36.1) (S0 := z36.2)  (hf := hc37) ?_
              refine r_pop fe_68_34 rfl ?_
              refine r_iconst (v := -1) fe_68_35 (by decide) ?_
              refine r_iret fe_68_36 ⟨rfl, by decide⟩ ?_
              exact dfin (P := fun r T => Q (some (.int r)) (xst T G h)) hf hQ
theorem G68c {xs : Nat → Int32} {L9 d : Nat} {G : gS} {h : Nat → va_E} {n : Nat} {Q : Option Value → AmH → Prop} {r0 : Int32} {S0 S : xS}  (hf : G68 n  S = some (r0, S0)) (hQ : Q (some (.int r0)) (xst S0 G h)) : Ca (am_X xs L9) (d + 2) 68 [.ref 85, .ref 65] (xst S G h) Q := (G68l hQ n)  S hf
