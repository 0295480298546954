def G135b0 (F : Nat → Int32 → Int32 → Int32 → Int32 → Int32 → Int32 → (xS × gS) → Option (Int32 × (xS × gS))) (n : Nat) (l1 : Int32) (l2 : Int32) (l3 : Int32) (l4 : Int32) (l5 : Int32) (l6 : Int32) (U : (xS × gS)) : Option (Int32 × (xS × gS)) := ((G82 n  U.1).bind (fun z1 => (if am_if .eq z1.1 = true then some ((-1), (z1.2, U.2)) else ((G125 n l1 z1.2).bind (fun z4 => (if am_if .eq z4.1 = true then some ((-1), (z4.2, U.2)) else (if am_if .lt l2 = true then some ((-1), (z4.2, U.2)) else (if am_ic .le l2 1 = true then F 49 l1 l2 ((1 <<< ((z4.2.1 89 2) &&& 31)) - 1) 0 (-1) 0 (z4.2, U.2) else some ((-1), (z4.2, U.2))))))))))
def G135b49 (F : Nat → Int32 → Int32 → Int32 → Int32 → Int32 → Int32 → (xS × gS) → Option (Int32 × (xS × gS))) (n : Nat) (l1 : Int32) (l2 : Int32) (l3 : Int32) (l4 : Int32) (l5 : Int32) (l6 : Int32) (U : (xS × gS)) : Option (Int32 × (xS × gS)) := (if am_ic .gt l6 l3 = true then (if am_if .ne l2 = true then some (l5, (U.1, U.2)) else some (l4, (U.1, U.2))) else ((G84 n  U.1).bind (fun z11 => (if lwB U.2 z11.1 (lawN U.2 z11.1) = true then ((G109 z11.1 n  z11.2).bind (fun z14 => (if z14.2.2.2.2 109 4 = some 110 then ((G136 110 z11.1 (lawN U.2 z11.1) n l1 (x_sI z14.2 110 2 (l3 &&& (l6 ^^^ (-1))))).bind (fun z17 => (if z17.2.2.2.2 109 4 = some 110 then ((G137 110 n 1 z17.2).bind (fun z20 => (if am_ic .le z20.1 l5 = true then F 49 l1 l2 l3 l4 l5 (l6 + 1) (z20.2, U.2) else F 49 l1 l2 l3 l6 z20.1 (l6 + 1) (z20.2, U.2)))) else none))) else none))) else none))))
def G135f : Nat → Nat → Int32 → Int32 → Int32 → Int32 → Int32 → Int32 → (xS × gS) → Option (Int32 × (xS × gS))
  | 0, _, _, _, _, _, _, _, _ => none
  | n + 1, c, l1, l2, l3, l4, l5, l6, U => if c = 0 then G135b0 (G135f n) n l1 l2 l3 l4 l5 l6 U else G135b49 (G135f n) n l1 l2 l3 l4 l5 l6 U
theorem G135e0 (n : Nat) (l1 : Int32) (l2 : Int32) (l3 : Int32) (l4 : Int32) (l5 : Int32) (l6 : Int32) (U : (xS × gS)) : G135f (n + 1) 0 l1 l2 l3 l4 l5 l6 U = G135b0 (G135f n) n l1 l2 l3 l4 l5 l6 U := if_pos rfl
theorem G135e49 (n : Nat) (l1 : Int32) (l2 : Int32) (l3 : Int32) (l4 : Int32) (l5 : Int32) (l6 : Int32) (U : (xS × gS)) : G135f (n + 1) 49 l1 l2 l3 l4 l5 l6 U = G135b49 (G135f n) n l1 l2 l3 l4 l5 l6 U := if_neg (by decide)
def G135 (n : Nat) (l1 : Int32) (l2 : Int32) (U : (xS × gS)) : Option (Int32 × (xS × gS)) := G135f n 0 l1 l2 0 0 0 0 U
set_option maxRecDepth 20000 in
set_option maxHeartbeats 4000000 in
theorem G135l {xs : Nat → Int32} {L9 d : Nat} {h : Nat → va_E} {Q : Option Value → AmH → Prop} {r0 : Int32} {U0 : (xS × gS)} (hQ : Q (some (.int r0)) (xst U0.1 U0.2 h)) : ∀ n : Nat, (∀ (l1 : Int32) (l2 : Int32) (l3 : Int32) (l4 : Int32) (l5 : Int32) (l6 : Int32) (U : (xS × gS)), G135f n 0 l1 l2 l3 l4 l5 l6 U = some (r0, U0) → Go (am_X xs L9) (d + 6) 135 0 [.ref 64, .int l1, .int l2, .float 0, .float 0, .float 0, .float 0, .float 0] [] (xst U.1 U.2 h) Q) ∧ (∀ (l1 : Int32) (l2 : Int32) (l3 : Int32) (l4 : Int32) (l5 : Int32) (l6 : Int32) (U : (xS × gS)), G135f n 49 l1 l2 l3 l4 l5 l6 U = some (r0, U0) → Go (am_X xs L9) (d + 6) 135 49 [.ref 64, .int l1, .int l2, .int l3, .int l4, .int l5, .int l6, .float 0] [] (xst U.1 U.2 h) Q) := by
  intro n
  induction n with
  | zero => exact ⟨fun l1 l2 l3 l4 l5 l6 U hf => (by cases hf), fun l1 l2 l3 l4 l5 l6 U hf => (by cases hf)⟩
  | succ n ih =>
    refine ⟨?_, ?_⟩
    · intro l1 l2 l3 l4 l5 l6 U hf
      rw [G135e0] at hf
      unfold G135b0 at hf
      refine r_aload_n fe_135_0 rfl ?_
      refine r_callV (as := []) (r := []) fe_135_1 lm_11_169 md_82 rfl rfl (Nat.le_of_ble_eq_true rfl) (x_c xk_64 (by decide)) (x_lt xk_64 (by decide)) (Nat.le_of_ble_eq_true rfl) (Nat.le_of_ble_eq_true rfl) ?_
      cases hc2 : G82 n  U.1 with
      | none => rw [hc2] at hf; cases hf
      | some z1 =>
        rw [hc2, Option.bind_some] at hf
        refine G82c (r0 := z1.1) (S0 := z1.2)  (hf := hc2) ?_
        by_cases hb3 : am_if .eq z1.1 = true
        · rw [if_pos hb3] at hf
          refine r_if_t (t := 23) fe_135_4 (by decide) hb3 ?_
          refine r_iconst (v := -1) fe_135_23 (by decide) ?_
          refine r_iret fe_135_24 ⟨rfl, by decide⟩ ?_
          exact dfin (P := fun r T => Q (some (.int r)) (xst T.1 T.2 h)) hf hQ
        · rw [if_neg hb3] at hf
          refine r_if_f (t := 23) fe_135_4 (by decide) (Bool.eq_false_iff.mpr hb3) ?_
          refine r_iload_n fe_135_7 rfl ?_
          refine r_callS (as := [.int l1]) (r := []) fe_135_8 lm_11_254 md_125 rfl rfl (Nat.le_of_ble_eq_true rfl) (Nat.le_of_ble_eq_true rfl) (Nat.le_of_ble_eq_true rfl) ?_
          cases hc5 : G125 n l1 z1.2 with
          | none => rw [hc5] at hf; cases hf
          | some z4 =>
            rw [hc5, Option.bind_some] at hf
            refine G125c (r0 := z4.1) (S0 := z4.2)  (hf := hc5) ?_
            by_cases hb6 : am_if .eq z4.1 = true
            · rw [if_pos hb6] at hf
              refine r_if_t (t := 23) fe_135_11 (by decide) hb6 ?_
              refine r_iconst (v := -1) fe_135_23 (by decide) ?_
              refine r_iret fe_135_24 ⟨rfl, by decide⟩ ?_
              exact dfin (P := fun r T => Q (some (.int r)) (xst T.1 T.2 h)) hf hQ
            · rw [if_neg hb6] at hf
              refine r_if_f (t := 23) fe_135_11 (by decide) (Bool.eq_false_iff.mpr hb6) ?_
              refine r_iload_n fe_135_14 rfl ?_
              by_cases hb7 : am_if .lt l2 = true
              · rw [if_pos hb7] at hf
                refine r_if_t (t := 23) fe_135_15 (by decide) hb7 ?_
                refine r_iconst (v := -1) fe_135_23 (by decide) ?_
                refine r_iret fe_135_24 ⟨rfl, by decide⟩ ?_
                exact dfin (P := fun r T => Q (some (.int r)) (xst T.1 T.2 h)) hf hQ
              · rw [if_neg hb7] at hf
                refine r_if_f (t := 23) fe_135_15 (by decide) (Bool.eq_false_iff.mpr hb7) ?_
                refine r_iload_n fe_135_18 rfl ?_
                refine r_iconst (v := 1) fe_135_19 (by decide) ?_
                by_cases hb8 : am_ic .le l2 1 = true
                · rw [if_pos hb8] at hf
                  refine r_ic_t (t := 25) fe_135_20 (by decide) hb8 ?_
                  refine r_iconst (v := 1) fe_135_25 (by decide) ?_
                  refine r_aload_n fe_135_26 rfl ?_
                  refine r_getf (v := .ref 88) fe_135_27 lf_11_43 (x_c xk_64 (by decide)) (x_lt xk_64 (by decide)) rfl ?_
                  refine r_getf (v := .ref 89) fe_135_30 lf_11_83 (x_c xk_88 (by decide)) (x_lt xk_88 (by decide)) rfl ?_
                  refine r_getf (v := .int (z4.2.1 89 2)) fe_135_33 lf_11_277 (x_c xk_89 (by decide)) (x_lt xk_89 (by decide)) rfl ?_
                  refine r_ishl (v := (1 <<< ((z4.2.1 89 2) &&& 31))) fe_135_36 rfl ?_
                  refine r_iconst (v := 1) fe_135_37 (by decide) ?_
                  refine r_isub (v := ((1 <<< ((z4.2.1 89 2) &&& 31)) - 1)) fe_135_38 rfl ?_
                  refine r_istore_n fe_135_39 (Nat.le_of_ble_eq_true rfl) rfl ?_
                  refine r_iconst (v := 0) fe_135_40 (by decide) ?_
                  refine r_istore fe_135_41 (Nat.le_of_ble_eq_true rfl) rfl ?_
                  refine r_iconst (v := -1) fe_135_43 (by decide) ?_
                  refine r_istore fe_135_44 (Nat.le_of_ble_eq_true rfl) rfl ?_
                  refine r_iconst (v := 0) fe_135_46 (by decide) ?_
                  refine r_istore fe_135_47 (Nat.le_of_ble_eq_true rfl) rfl ?_
                  refine go_weak (L0 := [.ref 64, .int l1, .int l2, .int ((1 <<< ((z4.2.1 89 2) &&& 31)) - 1), .int 0, .int (-1), .int 0, .float 0]) (lwk_c (Or.inl rfl) (lwk_c (Or.inl rfl) (lwk_c (Or.inl rfl) (lwk_c (Or.inl rfl) (lwk_c (Or.inl rfl) (lwk_c (Or.inl rfl) (lwk_c (Or.inl rfl) (lwk_c (Or.inl rfl) (lwk_rf []))))))))) ?_
                  exact ih.2 l1 l2 ((1 <<< ((z4.2.1 89 2) &&& 31)) - 1) 0 (-1) 0 (z4.2, U.2) hf
                · rw [if_neg hb8] at hf
                  refine r_ic_f (t := 25) fe_135_20 (by decide) (Bool.eq_false_iff.mpr hb8) ?_
                  refine r_iconst (v := -1) fe_135_23 (by decide) ?_
                  refine r_iret fe_135_24 ⟨rfl, by decide⟩ ?_
                  exact dfin (P := fun r T => Q (some (.int r)) (xst T.1 T.2 h)) hf hQ
    · intro l1 l2 l3 l4 l5 l6 U hf
      rw [G135e49] at hf
      unfold G135b49 at hf
      refine r_iload fe_135_49 rfl ?_
      refine r_iload_n fe_135_51 rfl ?_
      by_cases hb9 : am_ic .gt l6 l3 = true
      · rw [if_pos hb9] at hf
        refine r_ic_t (t := 128) fe_135_52 (by decide) hb9 ?_
        refine r_iload_n fe_135_128 rfl ?_
        by_cases hb10 : am_if .ne l2 = true
        · rw [if_pos hb10] at hf
          refine r_if_t (t := 137) fe_135_129 (by decide) hb10 ?_
          refine r_iload fe_135_137 rfl ?_
          refine r_iret fe_135_139 ⟨rfl, by decide⟩ ?_
          exact dfin (P := fun r T => Q (some (.int r)) (xst T.1 T.2 h)) hf hQ
        · rw [if_neg hb10] at hf
          refine r_if_f (t := 137) fe_135_129 (by decide) (Bool.eq_false_iff.mpr hb10) ?_
          refine r_iload fe_135_132 rfl ?_
          refine r_goto (t := 139) fe_135_134 (by decide) ?_
          refine r_iret fe_135_139 ⟨rfl, by decide⟩ ?_
          exact dfin (P := fun r T => Q (some (.int r)) (xst T.1 T.2 h)) hf hQ
      · rw [if_neg hb9] at hf
        refine r_ic_f (t := 128) fe_135_52 (by decide) (Bool.eq_false_iff.mpr hb9) ?_
        refine r_aload_n fe_135_55 rfl ?_
        refine r_getf (v := .ref 109) fe_135_56 lf_11_54 (x_c xk_64 (by decide)) (x_lt xk_64 (by decide)) rfl ?_
        refine r_aload_n fe_135_59 rfl ?_
        refine r_getf (v := .ref 88) fe_135_60 lf_11_43 (x_c xk_64 (by decide)) (x_lt xk_64 (by decide)) rfl ?_
        refine r_aload_n fe_135_63 rfl ?_
        refine r_callV (as := []) (r := [.ref 88, .ref 109]) fe_135_64 lm_11_179 md_84 rfl rfl (Nat.le_of_ble_eq_true rfl) (x_c xk_64 (by decide)) (x_lt xk_64 (by decide)) (Nat.le_of_ble_eq_true rfl) (Nat.le_of_ble_eq_true rfl) ?_
        cases hc12 : G84 n  U.1 with
        | none => rw [hc12] at hf; cases hf
        | some z11 =>
          rw [hc12, Option.bind_some] at hf
          refine G84c (r0 := z11.1) (S0 := z11.2)  (hf := hc12) ?_
          by_cases hb13 : lwB U.2 z11.1 (lawN U.2 z11.1) = true
          rotate_left
          · rw [if_neg hb13] at hf; cases hf
          rw [if_pos hb13] at hf
          refine r_callV (as := [.ref 88, va_rf z11.1]) (r := []) fe_135_67 lm_11_231 md_109 rfl rfl (Nat.le_of_ble_eq_true rfl) (x_c xk_109 (by decide)) (x_lt xk_109 (by decide)) (Nat.le_of_ble_eq_true rfl) (by cases e9 : z11.1 <;> exact Nat.le_of_ble_eq_true rfl) ?_
          cases hc15 : G109 z11.1 n  z11.2 with
          | none => rw [hc15] at hf; cases hf
          | some z14 =>
            rw [hc15, Option.bind_some] at hf
            refine G109c (r0 := z14.1) (S0 := z14.2)  (hf := hc15) ?_
            refine r_aload_n fe_135_70 rfl ?_
            refine r_getf (v := .ref 109) fe_135_71 lf_11_54 (x_c xk_64 (by decide)) (x_lt xk_64 (by decide)) rfl ?_
            by_cases hm16 : z14.2.2.2.2 109 4 = some 110
            rotate_left
            · rw [if_neg hm16] at hf; cases hf
            rw [if_pos hm16] at hf
            refine r_getf (v := .ref 110) fe_135_74 lf_11_238 (x_c xk_109 (by decide)) (x_lt xk_109 (by decide)) (by show some (va_rf _) = _; rw [hm16]; rfl) ?_
            refine r_iload_n fe_135_77 rfl ?_
            refine r_iload fe_135_78 rfl ?_
            refine r_iconst (v := -1) fe_135_80 (by decide) ?_
            refine r_ixor (v := (l6 ^^^ (-1))) fe_135_81 rfl ?_
            refine r_iand (v := (l3 &&& (l6 ^^^ (-1)))) fe_135_82 rfl ?_
            refine r_putf fe_135_83 lf_11_215 (x_h xk_110 (by decide)) (x_lt xk_110 (by decide)) (by decide) (Nat.le_of_ble_eq_true rfl) rfl rfl (Or.inl rfl) ?_
            refine go_heap (x_uI (j := 2) (x := (l3 &&& (l6 ^^^ (-1)))) xk_110 (by decide)) ?_
            refine r_aload_n fe_135_86 rfl ?_
            refine r_getf (v := .ref 109) fe_135_87 lf_11_54 (x_c xk_64 (by decide)) (x_lt xk_64 (by decide)) rfl ?_
            refine r_iload_n fe_135_90 rfl ?_
            refine r_callV (as := [.int l1]) (r := []) fe_135_91 lm_11_280 md_136 rfl rfl (Nat.le_of_ble_eq_true rfl) (x_c xk_109 (by decide)) (x_lt xk_109 (by decide)) (Nat.le_of_ble_eq_true rfl) (Nat.le_of_ble_eq_true rfl) ?_
            cases hc18 : G136 110 z11.1 (lawN U.2 z11.1) n l1 (x_sI z14.2 110 2 (l3 &&& (l6 ^^^ (-1)))) with
            | none => rw [hc18] at hf; cases hf
            | some z17 =>
              rw [hc18, Option.bind_some] at hf
              refine G136c (r0 := z17.1) (S0 := z17.2) (hw := wS_110) (hl := hb13) (hf := hc18) ?_
              refine r_aload_n fe_135_94 rfl ?_
              refine r_getf (v := .ref 109) fe_135_95 lf_11_54 (x_c xk_64 (by decide)) (x_lt xk_64 (by decide)) rfl ?_
              by_cases hm19 : z17.2.2.2.2 109 4 = some 110
              rotate_left
              · rw [if_neg hm19] at hf; cases hf
              rw [if_pos hm19] at hf
              refine r_getf (v := .ref 110) fe_135_98 lf_11_238 (x_c xk_109 (by decide)) (x_lt xk_109 (by decide)) (by show some (va_rf _) = _; rw [hm19]; rfl) ?_
              refine r_iconst (v := 1) fe_135_101 (by decide) ?_
              refine r_callV (as := [.int 1]) (r := []) fe_135_102 lm_11_283 md_137 rfl rfl (Nat.le_of_ble_eq_true rfl) (x_c xk_110 (by decide)) (x_lt xk_110 (by decide)) (Nat.le_of_ble_eq_true rfl) (Nat.le_of_ble_eq_true rfl) ?_
              cases hc21 : G137 110 n 1 z17.2 with
              | none => rw [hc21] at hf; cases hf
              | some z20 =>
                rw [hc21, Option.bind_some] at hf
                refine G137c (r0 := z20.1) (S0 := z20.2) (h0 := wS_110) (hf := hc21) ?_
                refine r_istore fe_135_105 (Nat.le_of_ble_eq_true rfl) rfl ?_
                refine r_iload fe_135_107 rfl ?_
                refine r_iload fe_135_109 rfl ?_
                by_cases hb22 : am_ic .le z20.1 l5 = true
                · rw [if_pos hb22] at hf
                  refine r_ic_t (t := 122) fe_135_111 (by decide) hb22 ?_
                  refine r_iinc (v := (l6 + 1)) fe_135_122 rfl rfl rfl ?_
                  refine r_goto (t := 49) fe_135_125 (by decide) ?_
                  refine go_weak (L0 := [.ref 64, .int l1, .int l2, .int l3, .int l4, .int l5, .int (l6 + 1), .float 0]) (lwk_c (Or.inl rfl) (lwk_c (Or.inl rfl) (lwk_c (Or.inl rfl) (lwk_c (Or.inl rfl) (lwk_c (Or.inl rfl) (lwk_c (Or.inl rfl) (lwk_c (Or.inl rfl) (lwk_c (Or.inr rfl) (lwk_rf []))))))))) ?_
                  exact ih.2 l1 l2 l3 l4 l5 (l6 + 1) (z20.2, U.2) hf
                · rw [if_neg hb22] at hf
                  refine r_ic_f (t := 122) fe_135_111 (by decide) (Bool.eq_false_iff.mpr hb22) ?_
                  refine r_iload fe_135_114 rfl ?_
                  refine r_istore fe_135_116 (Nat.le_of_ble_eq_true rfl) rfl ?_
                  refine r_iload fe_135_118 rfl ?_
                  refine r_istore fe_135_120 (Nat.le_of_ble_eq_true rfl) rfl ?_
                  refine r_iinc (v := (l6 + 1)) fe_135_122 rfl rfl rfl ?_
                  refine r_goto (t := 49) fe_135_125 (by decide) ?_
                  refine go_weak (L0 := [.ref 64, .int l1, .int l2, .int l3, .int l6, .int z20.1, .int (l6 + 1), .float 0]) (lwk_c (Or.inl rfl) (lwk_c (Or.inl rfl) (lwk_c (Or.inl rfl) (lwk_c (Or.inl rfl) (lwk_c (Or.inl rfl) (lwk_c (Or.inl rfl) (lwk_c (Or.inl rfl) (lwk_c (Or.inr rfl) (lwk_rf []))))))))) ?_
                  exact ih.2 l1 l2 l3 l6 z20.1 (l6 + 1) (z20.2, U.2) hf
theorem G135c {xs : Nat → Int32} {L9 d : Nat} {h : Nat → va_E} {n : Nat} {Q : Option Value → AmH → Prop} {r0 : Int32} {U0 U : (xS × gS)} {l1 : Int32} {l2 : Int32} (hf : G135 n l1 l2 U = some (r0, U0)) (hQ : Q (some (.int r0)) (xst U0.1 U0.2 h)) : Ca (am_X xs L9) (d + 6) 135 [.ref 64, .int l1, .int l2] (xst U.1 U.2 h) Q := (G135l hQ n).1 l1 l2 0 0 0 0 U hf
def G139b0 (l0 : Nat) (F : Nat → Int32 → Int32 → Int32 → Int32 → xS → Option (Int32 × xS)) (n : Nat) (l1 : Int32) (l2 : Int32) (l3 : Int32) (l4 : Int32) (S : xS) : Option (Int32 × xS) := F 4 0 l1 0 0 S
def G139b4 (l0 : Nat) (F : Nat → Int32 → Int32 → Int32 → Int32 → xS → Option (Int32 × xS)) (n : Nat) (l1 : Int32) (l2 : Int32) (l3 : Int32) (l4 : Int32) (S : xS) : Option (Int32 × xS) := (if am_ic .ge l3 (S.1 l0 0) = true then F 34 0 l2 0 0 S else (if am_if .lt l2 = true then F 34 0 l2 0 0 S else (if ¬ (l2 < 0 ∨ 16 ≤ (l2).toNatClampNeg) then F 4 0 (S.2.1 (l0 + 1) (Int32.toNatClampNeg l2)) (l3 + 1) 0 S else none)))
def G139b34 (l0 : Nat) (F : Nat → Int32 → Int32 → Int32 → Int32 → xS → Option (Int32 × xS)) (n : Nat) (l1 : Int32) (l2 : Int32) (l3 : Int32) (l4 : Int32) (S : xS) : Option (Int32 × xS) := (if am_ic .ge l4 (S.1 l0 0) = true then some (l3, S) else (if am_if .lt l2 = true then some (l3, S) else (if ¬ (l2 < 0 ∨ 16 ≤ (l2).toNatClampNeg) then F 34 0 (S.2.1 (l0 + 1) (Int32.toNatClampNeg l2)) (l3 ||| (1 <<< (l2 &&& 31))) (l4 + 1) S else none)))
def G139f (l0 : Nat) : Nat → Nat → Int32 → Int32 → Int32 → Int32 → xS → Option (Int32 × xS)
  | 0, _, _, _, _, _, _ => none
  | n + 1, c, l1, l2, l3, l4, S => if c = 0 then G139b0 l0 (G139f l0 n) n l1 l2 l3 l4 S else if c = 4 then G139b4 l0 (G139f l0 n) n l1 l2 l3 l4 S else G139b34 l0 (G139f l0 n) n l1 l2 l3 l4 S
theorem G139e0 (l0 : Nat) (n : Nat) (l1 : Int32) (l2 : Int32) (l3 : Int32) (l4 : Int32) (S : xS) : G139f l0 (n + 1) 0 l1 l2 l3 l4 S = G139b0 l0 (G139f l0 n) n l1 l2 l3 l4 S := if_pos rfl
theorem G139e4 (l0 : Nat) (n : Nat) (l1 : Int32) (l2 : Int32) (l3 : Int32) (l4 : Int32) (S : xS) : G139f l0 (n + 1) 4 l1 l2 l3 l4 S = G139b4 l0 (G139f l0 n) n l1 l2 l3 l4 S := (if_neg (by decide)).trans (if_pos rfl)
theorem G139e34 (l0 : Nat) (n : Nat) (l1 : Int32) (l2 : Int32) (l3 : Int32) (l4 : Int32) (S : xS) : G139f l0 (n + 1) 34 l1 l2 l3 l4 S = G139b34 l0 (G139f l0 n) n l1 l2 l3 l4 S := (if_neg (by decide)).trans (if_neg (by decide))
def G139 (l0 : Nat) (n : Nat) (l1 : Int32) (S : xS) : Option (Int32 × xS) := G139f l0 n 0 l1 0 0 0 S
set_option maxRecDepth 20000 in
set_option maxHeartbeats 4000000 in
theorem G139l {xs : Nat → Int32} {L9 d : Nat} {G : gS} {h : Nat → va_E} {l0 : Nat} {Q : Option Value → AmH → Prop} {r0 : Int32} {S0 : xS} (h0 : bB G l0 = true) (hQ : Q (some (.int r0)) (xst S0 G h)) : ∀ n : Nat, (∀ (l1 : Int32) (l2 : Int32) (l3 : Int32) (l4 : Int32) (S : xS), G139f l0 n 0 l1 l2 l3 l4 S = some (r0, S0) → Go (am_X xs L9) (d + 0) 139 0 [.ref l0, .int l1, .float 0, .float 0, .float 0] [] (xst S G h) Q) ∧ (∀ (l1 : Int32) (l2 : Int32) (l3 : Int32) (l4 : Int32) (S : xS), G139f l0 n 4 l1 l2 l3 l4 S = some (r0, S0) → Go (am_X xs L9) (d + 0) 139 4 [.ref l0, .float 0, .int l2, .int l3, .float 0] [] (xst S G h) Q) ∧ (∀ (l1 : Int32) (l2 : Int32) (l3 : Int32) (l4 : Int32) (S : xS), G139f l0 n 34 l1 l2 l3 l4 S = some (r0, S0) → Go (am_X xs L9) (d + 0) 139 34 [.ref l0, .float 0, .int l2, .int l3, .int l4] [] (xst S G h) Q) := by
  intro n
  induction n with
  | zero => exact ⟨fun l1 l2 l3 l4 S hf => (by cases hf), fun l1 l2 l3 l4 S hf => (by cases hf), fun l1 l2 l3 l4 S hf => (by cases hf)⟩
  | succ n ih =>
    refine ⟨?_, ?_, ?_⟩
    · intro l1 l2 l3 l4 S hf
      rw [G139e0] at hf
      unfold G139b0 at hf
      refine r_iload_n fe_139_0 rfl ?_
      refine r_istore_n fe_139_1 (Nat.le_of_ble_eq_true rfl) rfl ?_
      refine r_iconst (v := 0) fe_139_2 (by decide) ?_
      refine r_istore_n fe_139_3 (Nat.le_of_ble_eq_true rfl) rfl ?_
      refine go_weak (L0 := [.ref l0, .float 0, .int l1, .int 0, .float 0]) (lwk_c (Or.inl rfl) (lwk_c (Or.inr rfl) (lwk_c (Or.inl rfl) (lwk_c (Or.inl rfl) (lwk_c (Or.inl rfl) (lwk_rf [])))))) ?_
      exact ih.2.1 0 l1 0 0 S hf
    · intro l1 l2 l3 l4 S hf
      rw [G139e4] at hf
      unfold G139b4 at hf
      refine r_iload_n fe_139_4 rfl ?_
      refine r_aload_n fe_139_5 rfl ?_
      refine r_getf (v := .int (S.1 l0 0)) fe_139_6 lf_0_9 (x_c (bk0 h0) (by decide)) (x_lt (bk0 h0) (by decide)) rfl ?_
      by_cases hb1 : am_ic .ge l3 (S.1 l0 0) = true
      · rw [if_pos hb1] at hf
        refine r_ic_t (t := 29) fe_139_9 (by decide) hb1 ?_
        refine r_iconst (v := 0) fe_139_29 (by decide) ?_
        refine r_istore_n fe_139_30 (Nat.le_of_ble_eq_true rfl) rfl ?_
        refine r_iconst (v := 0) fe_139_31 (by decide) ?_
        refine r_istore fe_139_32 (Nat.le_of_ble_eq_true rfl) rfl ?_
        refine go_weak (L0 := [.ref l0, .float 0, .int l2, .int 0, .int 0]) (lwk_c (Or.inl rfl) (lwk_c (Or.inl rfl) (lwk_c (Or.inl rfl) (lwk_c (Or.inl rfl) (lwk_c (Or.inl rfl) (lwk_rf [])))))) ?_
        exact ih.2.2 0 l2 0 0 S hf
      · rw [if_neg hb1] at hf
        refine r_ic_f (t := 29) fe_139_9 (by decide) (Bool.eq_false_iff.mpr hb1) ?_
        refine r_iload_n fe_139_12 rfl ?_
        by_cases hb2 : am_if .lt l2 = true
        · rw [if_pos hb2] at hf
          refine r_if_t (t := 29) fe_139_13 (by decide) hb2 ?_
          refine r_iconst (v := 0) fe_139_29 (by decide) ?_
          refine r_istore_n fe_139_30 (Nat.le_of_ble_eq_true rfl) rfl ?_
          refine r_iconst (v := 0) fe_139_31 (by decide) ?_
          refine r_istore fe_139_32 (Nat.le_of_ble_eq_true rfl) rfl ?_
          refine go_weak (L0 := [.ref l0, .float 0, .int l2, .int 0, .int 0]) (lwk_c (Or.inl rfl) (lwk_c (Or.inl rfl) (lwk_c (Or.inl rfl) (lwk_c (Or.inl rfl) (lwk_c (Or.inl rfl) (lwk_rf [])))))) ?_
          exact ih.2.2 0 l2 0 0 S hf
        · rw [if_neg hb2] at hf
          refine r_if_f (t := 29) fe_139_13 (by decide) (Bool.eq_false_iff.mpr hb2) ?_
          refine r_aload_n fe_139_16 rfl ?_
          refine r_getf (v := .ref (l0 + 1)) fe_139_17 lf_0_21 (x_c (bk0 h0) (by decide)) (x_lt (bk0 h0) (by decide)) rfl ?_
          refine r_iload_n fe_139_20 rfl ?_
          by_cases hg3 : ¬ (l2 < 0 ∨ 16 ≤ (l2).toNatClampNeg)
          rotate_left
          · rw [if_neg hg3] at hf; cases hf
          rw [if_pos hg3] at hf
          refine r_iald (j := (Int32.toNatClampNeg l2)) (v := S.2.1 (l0 + 1) (Int32.toNatClampNeg l2)) fe_139_21 (x_c (bk1 h0) (by decide)) (x_lt (bk1 h0) (by decide)) (fun z => hg3 (Or.inl z)) rfl (fun z => hg3 (Or.inr z)) rfl ?_
          refine r_istore_n fe_139_22 (Nat.le_of_ble_eq_true rfl) rfl ?_
          refine r_iinc (v := (l3 + 1)) fe_139_23 rfl rfl rfl ?_
          refine r_goto (t := 4) fe_139_26 (by decide) ?_
          refine go_weak (L0 := [.ref l0, .float 0, .int (S.2.1 (l0 + 1) (Int32.toNatClampNeg l2)), .int (l3 + 1), .float 0]) (lwk_c (Or.inl rfl) (lwk_c (Or.inl rfl) (lwk_c (Or.inl rfl) (lwk_c (Or.inl rfl) (lwk_c (Or.inl rfl) (lwk_rf [])))))) ?_
          exact ih.2.1 0 (S.2.1 (l0 + 1) (Int32.toNatClampNeg l2)) (l3 + 1) 0 S hf
    · intro l1 l2 l3 l4 S hf
      rw [G139e34] at hf
      unfold G139b34 at hf
      refine r_iload fe_139_34 rfl ?_
      refine r_aload_n fe_139_36 rfl ?_
      refine r_getf (v := .int (S.1 l0 0)) fe_139_37 lf_0_9 (x_c (bk0 h0) (by decide)) (x_lt (bk0 h0) (by decide)) rfl ?_
      by_cases hb4 : am_ic .ge l4 (S.1 l0 0) = true
      · rw [if_pos hb4] at hf
        refine r_ic_t (t := 66) fe_139_40 (by decide) hb4 ?_
        refine r_iload_n fe_139_66 rfl ?_
        refine r_iret fe_139_67 ⟨rfl, by decide⟩ ?_
        exact dfin (P := fun r T => Q (some (.int r)) (xst T G h)) hf hQ
      · rw [if_neg hb4] at hf
        refine r_ic_f (t := 66) fe_139_40 (by decide) (Bool.eq_false_iff.mpr hb4) ?_
        refine r_iload_n fe_139_43 rfl ?_
        by_cases hb5 : am_if .lt l2 = true
        · rw [if_pos hb5] at hf
          refine r_if_t (t := 66) fe_139_44 (by decide) hb5 ?_
          refine r_iload_n fe_139_66 rfl ?_
          refine r_iret fe_139_67 ⟨rfl, by decide⟩ ?_
          exact dfin (P := fun r T => Q (some (.int r)) (xst T G h)) hf hQ
        · rw [if_neg hb5] at hf
          refine r_if_f (t := 66) fe_139_44 (by decide) (Bool.eq_false_iff.mpr hb5) ?_
          refine r_iload_n fe_139_47 rfl ?_
          refine r_iconst (v := 1) fe_139_48 (by decide) ?_
          refine r_iload_n fe_139_49 rfl ?_
          refine r_ishl (v := (1 <<< (l2 &&& 31))) fe_139_50 rfl ?_
          refine r_ior (v := (l3 ||| (1 <<< (l2 &&& 31)))) fe_139_51 rfl ?_
          refine r_istore_n fe_139_52 (Nat.le_of_ble_eq_true rfl) rfl ?_
          refine r_aload_n fe_139_53 rfl ?_
          refine r_getf (v := .ref (l0 + 1)) fe_139_54 lf_0_21 (x_c (bk0 h0) (by decide)) (x_lt (bk0 h0) (by decide)) rfl ?_
          refine r_iload_n fe_139_57 rfl ?_
          by_cases hg6 : ¬ (l2 < 0 ∨ 16 ≤ (l2).toNatClampNeg)
          rotate_left
          · rw [if_neg hg6] at hf; cases hf
          rw [if_pos hg6] at hf
          refine r_iald (j := (Int32.toNatClampNeg l2)) (v := S.2.1 (l0 + 1) (Int32.toNatClampNeg l2)) fe_139_58 (x_c (bk1 h0) (by decide)) (x_lt (bk1 h0) (by decide)) (fun z => hg6 (Or.inl z)) rfl (fun z => hg6 (Or.inr z)) rfl ?_
          refine r_istore_n fe_139_59 (Nat.le_of_ble_eq_true rfl) rfl ?_
          refine r_iinc (v := (l4 + 1)) fe_139_60 rfl rfl rfl ?_
          refine r_goto (t := 34) fe_139_63 (by decide) ?_
          refine go_weak (L0 := [.ref l0, .float 0, .int (S.2.1 (l0 + 1) (Int32.toNatClampNeg l2)), .int (l3 ||| (1 <<< (l2 &&& 31))), .int (l4 + 1)]) (lwk_c (Or.inl rfl) (lwk_c (Or.inl rfl) (lwk_c (Or.inl rfl) (lwk_c (Or.inl rfl) (lwk_c (Or.inl rfl) (lwk_rf [])))))) ?_
          exact ih.2.2 0 (S.2.1 (l0 + 1) (Int32.toNatClampNeg l2)) (l3 ||| (1 <<< (l2 &&& 31))) (l4 + 1) S hf
theorem G139c {xs : Nat → Int32} {L9 d : Nat} {G : gS} {h : Nat → va_E} {l0 : Nat} {n : Nat} {Q : Option Value → AmH → Prop} {r0 : Int32} {S0 S : xS} {l1 : Int32} (h0 : bB G l0 = true) (hf : G139 l0 n l1 S = some (r0, S0)) (hQ : Q (some (.int r0)) (xst S0 G h)) : Ca (am_X xs L9) (d + 0) 139 [.ref l0, .int l1] (xst S G h) Q := (G139l h0 hQ n).1 l1 0 0 0 S hf
def G138b0 (F : Nat → Int32 → Int32 → Int32 → Int32 → Int32 → xS → Option (Int32 × xS)) (n : Nat) (l1 : Int32) (l2 : Int32) (l3 : Int32) (l4 : Int32) (l5 : Int32) (S : xS) : Option (Int32 × xS) := ((G75 n l1 S).bind (fun z1 => (if am_if .eq z1.1 = true then some ((-1), z1.2) else (if am_if .lt l2 = true then some ((-1), z1.2) else (if am_ic .le l2 1 = true then ((G139 89 n l1 z1.2).bind (fun z6 => (if am_if .ne l2 = true then F 46 0 0 z6.1 0 l1 z6.2 else ((G92 n z6.1 z6.2).bind (fun z9 => some (z9.1, z9.2)))))) else some ((-1), z1.2))))))
def G138b46 (F : Nat → Int32 → Int32 → Int32 → Int32 → Int32 → xS → Option (Int32 × xS)) (n : Nat) (l1 : Int32) (l2 : Int32) (l3 : Int32) (l4 : Int32) (l5 : Int32) (S : xS) : Option (Int32 × xS) := (if am_ic .ge l4 16 = true then some (l4, S) else (if am_if .lt l5 = true then some (l4, S) else (if am_if .ne ((l3 >>> (l5 &&& 31)) &&& 1) = true then some (l4, S) else (if ¬ (l5 < 0 ∨ 16 ≤ (l5).toNatClampNeg) then F 46 0 0 l3 (l4 + 1) (S.2.1 90 (Int32.toNatClampNeg l5)) S else none))))
def G138f : Nat → Nat → Int32 → Int32 → Int32 → Int32 → Int32 → xS → Option (Int32 × xS)
  | 0, _, _, _, _, _, _, _ => none
  | n + 1, c, l1, l2, l3, l4, l5, S => if c = 0 then G138b0 (G138f n) n l1 l2 l3 l4 l5 S else G138b46 (G138f n) n l1 l2 l3 l4 l5 S
theorem G138e0 (n : Nat) (l1 : Int32) (l2 : Int32) (l3 : Int32) (l4 : Int32) (l5 : Int32) (S : xS) : G138f (n + 1) 0 l1 l2 l3 l4 l5 S = G138b0 (G138f n) n l1 l2 l3 l4 l5 S := if_pos rfl
theorem G138e46 (n : Nat) (l1 : Int32) (l2 : Int32) (l3 : Int32) (l4 : Int32) (l5 : Int32) (S : xS) : G138f (n + 1) 46 l1 l2 l3 l4 l5 S = G138b46 (G138f n) n l1 l2 l3 l4 l5 S := if_neg (by decide)
def G138 (n : Nat) (l1 : Int32) (l2 : Int32) (S : xS) : Option (Int32 × xS) := G138f n 0 l1 l2 0 0 0 S
set_option maxRecDepth 20000 in
set_option maxHeartbeats 4000000 in
theorem G138l {xs : Nat → Int32} {L9 d : Nat} {G : gS} {h : Nat → va_E} {Q : Option Value → AmH → Prop} {r0 : Int32} {S0 : xS} (hQ : Q (some (.int r0)) (xst S0 G h)) : ∀ n : Nat, (∀ (l1 : Int32) (l2 : Int32) (l3 : Int32) (l4 : Int32) (l5 : Int32) (S : xS), G138f n 0 l1 l2 l3 l4 l5 S = some (r0, S0) → Go (am_X xs L9) (d + 1) 138 0 [.ref 64, .int l1, .int l2, .float 0, .float 0, .float 0] [] (xst S G h) Q) ∧ (∀ (l1 : Int32) (l2 : Int32) (l3 : Int32) (l4 : Int32) (l5 : Int32) (S : xS), G138f n 46 l1 l2 l3 l4 l5 S = some (r0, S0) → Go (am_X xs L9) (d + 1) 138 46 [.ref 64, .float 0, .float 0, .int l3, .int l4, .int l5] [] (xst S G h) Q) := by
  intro n
  induction n with
  | zero => exact ⟨fun l1 l2 l3 l4 l5 S hf => (by cases hf), fun l1 l2 l3 l4 l5 S hf => (by cases hf)⟩
  | succ n ih =>
    refine ⟨?_, ?_⟩
    · intro l1 l2 l3 l4 l5 S hf
      rw [G138e0] at hf
      unfold G138b0 at hf
      refine r_aload_n fe_138_0 rfl ?_
      refine r_iload_n fe_138_1 rfl ?_
      refine r_callV (as := [.int l1]) (r := []) fe_138_2 lm_11_124 md_75 rfl rfl (Nat.le_of_ble_eq_true rfl) (x_c xk_64 (by decide)) (x_lt xk_64 (by decide)) (Nat.le_of_ble_eq_true rfl) (Nat.le_of_ble_eq_true rfl) ?_
      cases hc2 : G75 n l1 S with
      | none => rw [hc2] at hf; cases hf
      | some z1 =>
        rw [hc2, Option.bind_some] at hf
        refine G75c (r0 := z1.1) (S0 := z1.2)  (hf := hc2) ?_
        by_cases hb3 : am_if .eq z1.1 = true
        · rw [if_pos hb3] at hf
          refine r_if_t (t := 17) fe_138_5 (by decide) hb3 ?_
          refine r_iconst (v := -1) fe_138_17 (by decide) ?_
          refine r_iret fe_138_18 ⟨rfl, by decide⟩ ?_
          exact dfin (P := fun r T => Q (some (.int r)) (xst T G h)) hf hQ
        · rw [if_neg hb3] at hf
          refine r_if_f (t := 17) fe_138_5 (by decide) (Bool.eq_false_iff.mpr hb3) ?_
          refine r_iload_n fe_138_8 rfl ?_
          by_cases hb4 : am_if .lt l2 = true
          · rw [if_pos hb4] at hf
            refine r_if_t (t := 17) fe_138_9 (by decide) hb4 ?_
            refine r_iconst (v := -1) fe_138_17 (by decide) ?_
            refine r_iret fe_138_18 ⟨rfl, by decide⟩ ?_
            exact dfin (P := fun r T => Q (some (.int r)) (xst T G h)) hf hQ
          · rw [if_neg hb4] at hf
            refine r_if_f (t := 17) fe_138_9 (by decide) (Bool.eq_false_iff.mpr hb4) ?_
            refine r_iload_n fe_138_12 rfl ?_
            refine r_iconst (v := 1) fe_138_13 (by decide) ?_
            by_cases hb5 : am_ic .le l2 1 = true
            · rw [if_pos hb5] at hf
              refine r_ic_t (t := 19) fe_138_14 (by decide) hb5 ?_
              refine r_aload_n fe_138_19 rfl ?_
              refine r_getf (v := .ref 88) fe_138_20 lf_11_43 (x_c xk_64 (by decide)) (x_lt xk_64 (by decide)) rfl ?_
              refine r_getf (v := .ref 89) fe_138_23 lf_11_83 (x_c xk_88 (by decide)) (x_lt xk_88 (by decide)) rfl ?_
              refine r_iload_n fe_138_26 rfl ?_
              refine r_callV (as := [.int l1]) (r := []) fe_138_27 lm_11_286 md_139 rfl rfl (Nat.le_of_ble_eq_true rfl) (x_c xk_89 (by decide)) (x_lt xk_89 (by decide)) (Nat.le_of_ble_eq_true rfl) (Nat.le_of_ble_eq_true rfl) ?_
              cases hc7 : G139 89 n l1 z1.2 with
              | none => rw [hc7] at hf; cases hf
              | some z6 =>
                rw [hc7, Option.bind_some] at hf
                refine G139c (r0 := z6.1) (S0 := z6.2) (h0 := bS_89) (hf := hc7) ?_
                refine r_istore_n fe_138_30 (Nat.le_of_ble_eq_true rfl) rfl ?_
                refine r_iload_n fe_138_31 rfl ?_
                by_cases hb8 : am_if .ne l2 = true
                · rw [if_pos hb8] at hf
                  refine r_if_t (t := 40) fe_138_32 (by decide) hb8 ?_
                  refine r_iconst (v := 0) fe_138_40 (by decide) ?_
                  refine r_istore fe_138_41 (Nat.le_of_ble_eq_true rfl) rfl ?_
                  refine r_iload_n fe_138_43 rfl ?_
                  refine r_istore fe_138_44 (Nat.le_of_ble_eq_true rfl) rfl ?_
                  refine go_weak (L0 := [.ref 64, .float 0, .float 0, .int z6.1, .int 0, .int l1]) (lwk_c (Or.inl rfl) (lwk_c (Or.inr rfl) (lwk_c (Or.inr rfl) (lwk_c (Or.inl rfl) (lwk_c (Or.inl rfl) (lwk_c (Or.inl rfl) (lwk_rf []))))))) ?_
                  exact ih.2 0 0 z6.1 0 l1 z6.2 hf
                · rw [if_neg hb8] at hf
                  refine r_if_f (t := 40) fe_138_32 (by decide) (Bool.eq_false_iff.mpr hb8) ?_
                  refine r_iload_n fe_138_35 rfl ?_
                  refine r_callS (as := [.int z6.1]) (r := []) fe_138_36 lm_11_249 md_92 rfl rfl (Nat.le_of_ble_eq_true rfl) (Nat.le_of_ble_eq_true rfl) (Nat.le_of_ble_eq_true rfl) ?_
                  cases hc10 : G92 n z6.1 z6.2 with
                  | none => rw [hc10] at hf; cases hf
                  | some z9 =>
                    rw [hc10, Option.bind_some] at hf
                    refine G92c (r0 := z9.1) (S0 := z9.2)  (hf := hc10) ?_
                    refine r_iret fe_138_39 ⟨rfl, by decide⟩ ?_
                    exact dfin (P := fun r T => Q (some (.int r)) (xst T G h)) hf hQ
            · rw [if_neg hb5] at hf
              refine r_ic_f (t := 19) fe_138_14 (by decide) (Bool.eq_false_iff.mpr hb5) ?_
              refine r_iconst (v := -1) fe_138_17 (by decide) ?_
              refine r_iret fe_138_18 ⟨rfl, by decide⟩ ?_
              exact dfin (P := fun r T => Q (some (.int r)) (xst T G h)) hf hQ
    · intro l1 l2 l3 l4 l5 S hf
      rw [G138e46] at hf
      unfold G138b46 at hf
      refine r_iload fe_138_46 rfl ?_
      refine r_bipush (v := 16) fe_138_48 (by decide) ?_
      by_cases hb11 : am_ic .ge l4 16 = true
      · rw [if_pos hb11] at hf
        refine r_ic_t (t := 88) fe_138_50 (by decide) hb11 ?_
        refine r_iload fe_138_88 rfl ?_
        refine r_iret fe_138_90 ⟨rfl, by decide⟩ ?_
        exact dfin (P := fun r T => Q (some (.int r)) (xst T G h)) hf hQ
      · rw [if_neg hb11] at hf
        refine r_ic_f (t := 88) fe_138_50 (by decide) (Bool.eq_false_iff.mpr hb11) ?_
        refine r_iload fe_138_53 rfl ?_
        by_cases hb12 : am_if .lt l5 = true
        · rw [if_pos hb12] at hf
          refine r_if_t (t := 88) fe_138_55 (by decide) hb12 ?_
          refine r_iload fe_138_88 rfl ?_
          refine r_iret fe_138_90 ⟨rfl, by decide⟩ ?_
          exact dfin (P := fun r T => Q (some (.int r)) (xst T G h)) hf hQ
        · rw [if_neg hb12] at hf
          refine r_if_f (t := 88) fe_138_55 (by decide) (Bool.eq_false_iff.mpr hb12) ?_
          refine r_iload_n fe_138_58 rfl ?_
          refine r_iload fe_138_59 rfl ?_
          refine r_ishr (v := (l3 >>> (l5 &&& 31))) fe_138_61 rfl ?_
          refine r_iconst (v := 1) fe_138_62 (by decide) ?_
          refine r_iand (v := ((l3 >>> (l5 &&& 31)) &&& 1)) fe_138_63 rfl ?_
          by_cases hb13 : am_if .ne ((l3 >>> (l5 &&& 31)) &&& 1) = true
          · rw [if_pos hb13] at hf
            refine r_if_t (t := 88) fe_138_64 (by decide) hb13 ?_
            refine r_iload fe_138_88 rfl ?_
            refine r_iret fe_138_90 ⟨rfl, by decide⟩ ?_
            exact dfin (P := fun r T => Q (some (.int r)) (xst T G h)) hf hQ
          · rw [if_neg hb13] at hf
            refine r_if_f (t := 88) fe_138_64 (by decide) (Bool.eq_false_iff.mpr hb13) ?_
            refine r_aload_n fe_138_67 rfl ?_
            refine r_getf (v := .ref 88) fe_138_68 lf_11_43 (x_c xk_64 (by decide)) (x_lt xk_64 (by decide)) rfl ?_
            refine r_getf (v := .ref 89) fe_138_71 lf_11_83 (x_c xk_88 (by decide)) (x_lt xk_88 (by decide)) rfl ?_
            refine r_getf (v := .ref 90) fe_138_74 lf_11_128 (x_c xk_89 (by decide)) (x_lt xk_89 (by decide)) rfl ?_
            refine r_iload fe_138_77 rfl ?_
            by_cases hg14 : ¬ (l5 < 0 ∨ 16 ≤ (l5).toNatClampNeg)
            rotate_left
            · rw [if_neg hg14] at hf; cases hf
            rw [if_pos hg14] at hf
            refine r_iald (j := (Int32.toNatClampNeg l5)) (v := S.2.1 90 (Int32.toNatClampNeg l5)) fe_138_79 (x_c xk_90 (by decide)) (x_lt xk_90 (by decide)) (fun z => hg14 (Or.inl z)) rfl (fun z => hg14 (Or.inr z)) rfl ?_
            refine r_istore fe_138_80 (Nat.le_of_ble_eq_true rfl) rfl ?_
            refine r_iinc (v := (l4 + 1)) fe_138_82 rfl rfl rfl ?_
            refine r_goto (t := 46) fe_138_85 (by decide) ?_
            refine go_weak (L0 := [.ref 64, .float 0, .float 0, .int l3, .int (l4 + 1), .int (S.2.1 90 (Int32.toNatClampNeg l5))]) (lwk_c (Or.inl rfl) (lwk_c (Or.inl rfl) (lwk_c (Or.inl rfl) (lwk_c (Or.inl rfl) (lwk_c (Or.inl rfl) (lwk_c (Or.inl rfl) (lwk_rf []))))))) ?_
            exact ih.2 0 0 l3 (l4 + 1) (S.2.1 90 (Int32.toNatClampNeg l5)) S hf
theorem G138c {xs : Nat → Int32} {L9 d : Nat} {G : gS} {h : Nat → va_E} {n : Nat} {Q : Option Value → AmH → Prop} {r0 : Int32} {S0 S : xS} {l1 : Int32} {l2 : Int32} (hf : G138 n l1 l2 S = some (r0, S0)) (hQ : Q (some (.int r0)) (xst S0 G h)) : Ca (am_X xs L9) (d + 1) 138 [.ref 64, .int l1, .int l2] (xst S G h) Q := (G138l hQ n).1 l1 l2 0 0 0 S hf
def G141b0 (l0 : Nat) (F : Nat → Int32 → Int32 → xS → Option (Int32 × xS)) (n : Nat) (l1 : Int32) (l2 : Int32) (S : xS) : Option (Int32 × xS) := F 4 0 0 S
def G141b4 (l0 : Nat) (F : Nat → Int32 → Int32 → xS → Option (Int32 × xS)) (n : Nat) (l1 : Int32) (l2 : Int32) (S : xS) : Option (Int32 × xS) := (if am_ic .ge l2 6 = true then some (l1, S) else (if ¬ (l2 < 0 ∨ 6 ≤ (l2).toNatClampNeg) then F 4 (l1 + (S.2.1 (l0 + 10) (Int32.toNatClampNeg l2))) (l2 + 1) S else none))
def G141f (l0 : Nat) : Nat → Nat → Int32 → Int32 → xS → Option (Int32 × xS)
  | 0, _, _, _, _ => none
  | n + 1, c, l1, l2, S => if c = 0 then G141b0 l0 (G141f l0 n) n l1 l2 S else G141b4 l0 (G141f l0 n) n l1 l2 S
theorem G141e0 (l0 : Nat) (n : Nat) (l1 : Int32) (l2 : Int32) (S : xS) : G141f l0 (n + 1) 0 l1 l2 S = G141b0 l0 (G141f l0 n) n l1 l2 S := if_pos rfl
theorem G141e4 (l0 : Nat) (n : Nat) (l1 : Int32) (l2 : Int32) (S : xS) : G141f l0 (n + 1) 4 l1 l2 S = G141b4 l0 (G141f l0 n) n l1 l2 S := if_neg (by decide)
def G141 (l0 : Nat) (n : Nat)  (S : xS) : Option (Int32 × xS) := G141f l0 n 0 0 0 S
set_option maxRecDepth 20000 in
set_option maxHeartbeats 4000000 in
theorem G141l {xs : Nat → Int32} {L9 d : Nat} {G : gS} {h : Nat → va_E} {l0 : Nat} {Q : Option Value → AmH → Prop} {r0 : Int32} {S0 : xS} (h0 : wB G l0 = true) (hQ : Q (some (.int r0)) (xst S0 G h)) : ∀ n : Nat, (∀ (l1 : Int32) (l2 : Int32) (S : xS), G141f l0 n 0 l1 l2 S = some (r0, S0) → Go (am_X xs L9) (d + 0) 141 0 [.ref l0, .float 0, .float 0] [] (xst S G h) Q) ∧ (∀ (l1 : Int32) (l2 : Int32) (S : xS), G141f l0 n 4 l1 l2 S = some (r0, S0) → Go (am_X xs L9) (d + 0) 141 4 [.ref l0, .int l1, .int l2] [] (xst S G h) Q) := by
  intro n
  induction n with
  | zero => exact ⟨fun l1 l2 S hf => (by cases hf), fun l1 l2 S hf => (by cases hf)⟩
  | succ n ih =>
    refine ⟨?_, ?_⟩
    · intro l1 l2 S hf
      rw [G141e0] at hf
      unfold G141b0 at hf
      refine r_iconst (v := 0) fe_141_0 (by decide) ?_
      refine r_istore_n fe_141_1 (Nat.le_of_ble_eq_true rfl) rfl ?_
      refine r_iconst (v := 0) fe_141_2 (by decide) ?_
      refine r_istore_n fe_141_3 (Nat.le_of_ble_eq_true rfl) rfl ?_
      refine go_weak (L0 := [.ref l0, .int 0, .int 0]) (lwk_c (Or.inl rfl) (lwk_c (Or.inl rfl) (lwk_c (Or.inl rfl) (lwk_rf [])))) ?_
      exact ih.2 0 0 S hf
    · intro l1 l2 S hf
      rw [G141e4] at hf
      unfold G141b4 at hf
      refine r_iload_n fe_141_4 rfl ?_
      refine r_bipush (v := 6) fe_141_5 (by decide) ?_
      by_cases hb1 : am_ic .ge l2 6 = true
      · rw [if_pos hb1] at hf
        refine r_ic_t (t := 25) fe_141_7 (by decide) hb1 ?_
        refine r_iload_n fe_141_25 rfl ?_
        refine r_iret fe_141_26 ⟨rfl, by decide⟩ ?_
        exact dfin (P := fun r T => Q (some (.int r)) (xst T G h)) hf hQ
      · rw [if_neg hb1] at hf
        refine r_ic_f (t := 25) fe_141_7 (by decide) (Bool.eq_false_iff.mpr hb1) ?_
        refine r_iload_n fe_141_10 rfl ?_
        refine r_aload_n fe_141_11 rfl ?_
        refine r_getf (v := .ref (l0 + 10)) fe_141_12 lf_9_49 (x_c (wk0 h0) (by decide)) (x_lt (wk0 h0) (by decide)) rfl ?_
        refine r_iload_n fe_141_15 rfl ?_
        by_cases hg2 : ¬ (l2 < 0 ∨ 6 ≤ (l2).toNatClampNeg)
        rotate_left
        · rw [if_neg hg2] at hf; cases hf
        rw [if_pos hg2] at hf
        refine r_iald (j := (Int32.toNatClampNeg l2)) (v := S.2.1 (l0 + 10) (Int32.toNatClampNeg l2)) fe_141_16 (x_c (wk10 h0) (by decide)) (x_lt (wk10 h0) (by decide)) (fun z => hg2 (Or.inl z)) rfl (fun z => hg2 (Or.inr z)) rfl ?_
        refine r_iadd (v := (l1 + (S.2.1 (l0 + 10) (Int32.toNatClampNeg l2)))) fe_141_17 rfl ?_
        refine r_istore_n fe_141_18 (Nat.le_of_ble_eq_true rfl) rfl ?_
        refine r_iinc (v := (l2 + 1)) fe_141_19 rfl rfl rfl ?_
        refine r_goto (t := 4) fe_141_22 (by decide) ?_
        refine go_weak (L0 := [.ref l0, .int (l1 + (S.2.1 (l0 + 10) (Int32.toNatClampNeg l2))), .int (l2 + 1)]) (lwk_c (Or.inl rfl) (lwk_c (Or.inl rfl) (lwk_c (Or.inl rfl) (lwk_rf [])))) ?_
        exact ih.2 (l1 + (S.2.1 (l0 + 10) (Int32.toNatClampNeg l2))) (l2 + 1) S hf
theorem G141c {xs : Nat → Int32} {L9 d : Nat} {G : gS} {h : Nat → va_E} {l0 : Nat} {n : Nat} {Q : Option Value → AmH → Prop} {r0 : Int32} {S0 S : xS}  (h0 : wB G l0 = true) (hf : G141 l0 n  S = some (r0, S0)) (hQ : Q (some (.int r0)) (xst S0 G h)) : Ca (am_X xs L9) (d + 0) 141 [.ref l0] (xst S G h) Q := (G141l h0 hQ n).1 0 0 S hf
def G142b0 (F : Nat → Int32 → Int32 → Int32 → Int32 → Int32 → xS → Option (Int32 × xS)) (n : Nat) (l0 : Int32) (l1 : Int32) (l2 : Int32) (l3 : Int32) (l4 : Int32) (S : xS) : Option (Int32 × xS) := F 7 0 0 l0 l1 0 S
def G142b7 (F : Nat → Int32 → Int32 → Int32 → Int32 → Int32 → xS → Option (Int32 × xS)) (n : Nat) (l0 : Int32) (l1 : Int32) (l2 : Int32) (l3 : Int32) (l4 : Int32) (S : xS) : Option (Int32 × xS) := (if am_ic .ge l4 64 = true then some (l2, S) else (if am_if .le l3 = true then some (l2, S) else (if l3 = 0 then none else F 7 0 0 l3 (l2 - l2 / l3 * l3) (l4 + 1) S)))
def G142f : Nat → Nat → Int32 → Int32 → Int32 → Int32 → Int32 → xS → Option (Int32 × xS)
  | 0, _, _, _, _, _, _, _ => none
  | n + 1, c, l0, l1, l2, l3, l4, S => if c = 0 then G142b0 (G142f n) n l0 l1 l2 l3 l4 S else G142b7 (G142f n) n l0 l1 l2 l3 l4 S
theorem G142e0 (n : Nat) (l0 : Int32) (l1 : Int32) (l2 : Int32) (l3 : Int32) (l4 : Int32) (S : xS) : G142f (n + 1) 0 l0 l1 l2 l3 l4 S = G142b0 (G142f n) n l0 l1 l2 l3 l4 S := if_pos rfl
theorem G142e7 (n : Nat) (l0 : Int32) (l1 : Int32) (l2 : Int32) (l3 : Int32) (l4 : Int32) (S : xS) : G142f (n + 1) 7 l0 l1 l2 l3 l4 S = G142b7 (G142f n) n l0 l1 l2 l3 l4 S := if_neg (by decide)
def G142 (n : Nat) (l0 : Int32) (l1 : Int32) (S : xS) : Option (Int32 × xS) := G142f n 0 l0 l1 0 0 0 S
set_option maxRecDepth 20000 in
set_option maxHeartbeats 4000000 in
theorem G142l {xs : Nat → Int32} {L9 d : Nat} {G : gS} {h : Nat → va_E} {Q : Option Value → AmH → Prop} {r0 : Int32} {S0 : xS} (hQ : Q (some (.int r0)) (xst S0 G h)) : ∀ n : Nat, (∀ (l0 : Int32) (l1 : Int32) (l2 : Int32) (l3 : Int32) (l4 : Int32) (S : xS), G142f n 0 l0 l1 l2 l3 l4 S = some (r0, S0) → Go (am_X xs L9) (d + 0) 142 0 [.int l0, .int l1, .float 0, .float 0, .float 0, .float 0] [] (xst S G h) Q) ∧ (∀ (l0 : Int32) (l1 : Int32) (l2 : Int32) (l3 : Int32) (l4 : Int32) (S : xS), G142f n 7 l0 l1 l2 l3 l4 S = some (r0, S0) → Go (am_X xs L9) (d + 0) 142 7 [.float 0, .float 0, .int l2, .int l3, .int l4, .float 0] [] (xst S G h) Q) := by
  intro n
  induction n with
  | zero => exact ⟨fun l0 l1 l2 l3 l4 S hf => (by cases hf), fun l0 l1 l2 l3 l4 S hf => (by cases hf)⟩
  | succ n ih =>
    refine ⟨?_, ?_⟩
    · intro l0 l1 l2 l3 l4 S hf
      rw [G142e0] at hf
      unfold G142b0 at hf
      refine r_iload_n fe_142_0 rfl ?_
      refine r_istore_n fe_142_1 (Nat.le_of_ble_eq_true rfl) rfl ?_
      refine r_iload_n fe_142_2 rfl ?_
      refine r_istore_n fe_142_3 (Nat.le_of_ble_eq_true rfl) rfl ?_
      refine r_iconst (v := 0) fe_142_4 (by decide) ?_
      refine r_istore fe_142_5 (Nat.le_of_ble_eq_true rfl) rfl ?_
      refine go_weak (L0 := [.float 0, .float 0, .int l0, .int l1, .int 0, .float 0]) (lwk_c (Or.inr rfl) (lwk_c (Or.inr rfl) (lwk_c (Or.inl rfl) (lwk_c (Or.inl rfl) (lwk_c (Or.inl rfl) (lwk_c (Or.inl rfl) (lwk_rf []))))))) ?_
      exact ih.2 0 0 l0 l1 0 S hf
    · intro l0 l1 l2 l3 l4 S hf
      rw [G142e7] at hf
      unfold G142b7 at hf
      refine r_iload fe_142_7 rfl ?_
      refine r_bipush (v := 64) fe_142_9 (by decide) ?_
      by_cases hb1 : am_ic .ge l4 64 = true
      · rw [if_pos hb1] at hf
        refine r_ic_t (t := 34) fe_142_11 (by decide) hb1 ?_
        refine r_iload_n fe_142_34 rfl ?_
        refine r_iret fe_142_35 ⟨rfl, by decide⟩ ?_
        exact dfin (P := fun r T => Q (some (.int r)) (xst T G h)) hf hQ
      · rw [if_neg hb1] at hf
        refine r_ic_f (t := 34) fe_142_11 (by decide) (Bool.eq_false_iff.mpr hb1) ?_
        refine r_iload_n fe_142_14 rfl ?_
        by_cases hb2 : am_if .le l3 = true
        · rw [if_pos hb2] at hf
          refine r_if_t (t := 34) fe_142_15 (by decide) hb2 ?_
          refine r_iload_n fe_142_34 rfl ?_
          refine r_iret fe_142_35 ⟨rfl, by decide⟩ ?_
          exact dfin (P := fun r T => Q (some (.int r)) (xst T G h)) hf hQ
        · rw [if_neg hb2] at hf
          refine r_if_f (t := 34) fe_142_15 (by decide) (Bool.eq_false_iff.mpr hb2) ?_
          refine r_iload_n fe_142_18 rfl ?_
          refine r_iload_n fe_142_19 rfl ?_
          by_cases hz3 : l3 = 0
          · rw [if_pos hz3] at hf; cases hf
          rw [if_neg hz3] at hf
          refine r_irem (v := (l2 - l2 / l3 * l3)) fe_142_20 hz3 rfl ?_
          refine r_istore fe_142_21 (Nat.le_of_ble_eq_true rfl) rfl ?_
          refine r_iload_n fe_142_23 rfl ?_
          refine r_istore_n fe_142_24 (Nat.le_of_ble_eq_true rfl) rfl ?_
          refine r_iload fe_142_25 rfl ?_
          refine r_istore_n fe_142_27 (Nat.le_of_ble_eq_true rfl) rfl ?_
          refine r_iinc (v := (l4 + 1)) fe_142_28 rfl rfl rfl ?_
          refine r_goto (t := 7) fe_142_31 (by decide) ?_
          refine go_weak (L0 := [.float 0, .float 0, .int l3, .int (l2 - l2 / l3 * l3), .int (l4 + 1), .float 0]) (lwk_c (Or.inl rfl) (lwk_c (Or.inl rfl) (lwk_c (Or.inl rfl) (lwk_c (Or.inl rfl) (lwk_c (Or.inl rfl) (lwk_c (Or.inr rfl) (lwk_rf []))))))) ?_
          exact ih.2 0 0 l3 (l2 - l2 / l3 * l3) (l4 + 1) S hf
theorem G142c {xs : Nat → Int32} {L9 d : Nat} {G : gS} {h : Nat → va_E} {n : Nat} {Q : Option Value → AmH → Prop} {r0 : Int32} {S0 S : xS} {l0 : Int32} {l1 : Int32} (hf : G142 n l0 l1 S = some (r0, S0)) (hQ : Q (some (.int r0)) (xst S0 G h)) : Ca (am_X xs L9) (d + 0) 142 [.int l0, .int l1] (xst S G h) Q := (G142l hQ n).1 l0 l1 0 0 0 S hf
def G140b0 (F : Nat → Int32 → Int32 → xS → Option (Int32 × xS)) (n : Nat) (l1 : Int32) (l2 : Int32) (S : xS) : Option (Int32 × xS) := (if am_if .lt l1 = true then some ((-1), S) else (if am_ic .ge l1 (S.1 89 1) = true then some ((-1), S) else (if am_if .lt l2 = true then some ((-1), S) else (if am_ic .le l2 1 = true then ((G141 95 n  S).bind (fun z5 => (if ¬ (l1 < 0 ∨ 6 ≤ (l1).toNatClampNeg) then (if am_if .ne z5.1 = true then ((G142 n z5.1 (z5.2.2.1 105 (Int32.toNatClampNeg l1)) z5.2).bind (fun z9 => (if am_if .ne z9.1 = true then (if am_if .ne l2 = true then (if z9.1 = 0 then none else some ((z5.1 / z9.1), z9.2)) else (if z9.1 = 0 then none else some (((z5.2.2.1 105 (Int32.toNatClampNeg l1)) / z9.1), z9.2))) else some (l2, z9.2)))) else some (l2, z5.2)) else none))) else some ((-1), S)))))
def G140f : Nat → Nat → Int32 → Int32 → xS → Option (Int32 × xS)
  | 0, _, _, _, _ => none
  | n + 1, c, l1, l2, S => G140b0 (G140f n) n l1 l2 S
theorem G140e0 (n : Nat) (l1 : Int32) (l2 : Int32) (S : xS) : G140f (n + 1) 0 l1 l2 S = G140b0 (G140f n) n l1 l2 S := rfl
def G140 (n : Nat) (l1 : Int32) (l2 : Int32) (S : xS) : Option (Int32 × xS) := G140f n 0 l1 l2 S
set_option maxRecDepth 20000 in
set_option maxHeartbeats 4000000 in
theorem G140l {xs : Nat → Int32} {L9 d : Nat} {G : gS} {h : Nat → va_E} {Q : Option Value → AmH → Prop} {r0 : Int32} {S0 : xS} (hQ : Q (some (.int r0)) (xst S0 G h)) : ∀ n : Nat, (∀ (l1 : Int32) (l2 : Int32) (S : xS), G140f n 0 l1 l2 S = some (r0, S0) → Go (am_X xs L9) (d + 1) 140 0 [.ref 64, .int l1, .int l2, .float 0, .float 0, .float 0] [] (xst S G h) Q) := by
  intro n
  induction n with
  | zero => exact fun l1 l2 S hf => (by cases hf)
  | succ n ih =>
    intro l1 l2 S hf
    rw [G140e0] at hf
    unfold G140b0 at hf
    refine r_iload_n fe_140_0 rfl ?_
    by_cases hb1 : am_if .lt l1 = true
    · rw [if_pos hb1] at hf
      refine r_if_t (t := 27) fe_140_1 (by decide) hb1 ?_
      refine r_iconst (v := -1) fe_140_27 (by decide) ?_
      refine r_iret fe_140_28 ⟨rfl, by decide⟩ ?_
      exact dfin (P := fun r T => Q (some (.int r)) (xst T G h)) hf hQ
    · rw [if_neg hb1] at hf
      refine r_if_f (t := 27) fe_140_1 (by decide) (Bool.eq_false_iff.mpr hb1) ?_
      refine r_iload_n fe_140_4 rfl ?_
      refine r_aload_n fe_140_5 rfl ?_
      refine r_getf (v := .ref 88) fe_140_6 lf_11_43 (x_c xk_64 (by decide)) (x_lt xk_64 (by decide)) rfl ?_
      refine r_getf (v := .ref 89) fe_140_9 lf_11_83 (x_c xk_88 (by decide)) (x_lt xk_88 (by decide)) rfl ?_
      refine r_getf (v := .int (S.1 89 1)) fe_140_12 lf_11_289 (x_c xk_89 (by decide)) (x_lt xk_89 (by decide)) rfl ?_
      by_cases hb2 : am_ic .ge l1 (S.1 89 1) = true
      · rw [if_pos hb2] at hf
        refine r_ic_t (t := 27) fe_140_15 (by decide) hb2 ?_
        refine r_iconst (v := -1) fe_140_27 (by decide) ?_
        refine r_iret fe_140_28 ⟨rfl, by decide⟩ ?_
        exact dfin (P := fun r T => Q (some (.int r)) (xst T G h)) hf hQ
      · rw [if_neg hb2] at hf
        refine r_ic_f (t := 27) fe_140_15 (by decide) (Bool.eq_false_iff.mpr hb2) ?_
        refine r_iload_n fe_140_18 rfl ?_
        by_cases hb3 : am_if .lt l2 = true
        · rw [if_pos hb3] at hf
          refine r_if_t (t := 27) fe_140_19 (by decide) hb3 ?_
          refine r_iconst (v := -1) fe_140_27 (by decide) ?_
          refine r_iret fe_140_28 ⟨rfl, by decide⟩ ?_
          exact dfin (P := fun r T => Q (some (.int r)) (xst T G h)) hf hQ
        · rw [if_neg hb3] at hf
          refine r_if_f (t := 27) fe_140_19 (by decide) (Bool.eq_false_iff.mpr hb3) ?_
          refine r_iload_n fe_140_22 rfl ?_
          refine r_iconst (v := 1) fe_140_23 (by decide) ?_
          by_cases hb4 : am_ic .le l2 1 = true
          · rw [if_pos hb4] at hf
            refine r_ic_t (t := 29) fe_140_24 (by decide) hb4 ?_
            refine r_aload_n fe_140_29 rfl ?_
            refine r_getf (v := .ref 88) fe_140_30 lf_11_43 (x_c xk_64 (by decide)) (x_lt xk_64 (by decide)) rfl ?_
            refine r_getf (v := .ref 95) fe_140_33 lf_11_94 (x_c xk_88 (by decide)) (x_lt xk_88 (by decide)) rfl ?_
            refine r_callV (as := []) (r := []) fe_140_36 lm_11_292 md_141 rfl rfl (Nat.le_of_ble_eq_true rfl) (x_c xk_95 (by decide)) (x_lt xk_95 (by decide)) (Nat.le_of_ble_eq_true rfl) (Nat.le_of_ble_eq_true rfl) ?_
            cases hc6 : G141 95 n  S with
            | none => rw [hc6] at hf; cases hf
            | some z5 =>
              rw [hc6, Option.bind_some] at hf
              refine G141c (r0 := z5.1) (S0 := z5.2) (h0 := wS_95) (hf := hc6) ?_
              refine r_istore_n fe_140_39 (Nat.le_of_ble_eq_true rfl) rfl ?_
              refine r_aload_n fe_140_40 rfl ?_
              refine r_getf (v := .ref 88) fe_140_41 lf_11_43 (x_c xk_64 (by decide)) (x_lt xk_64 (by decide)) rfl ?_
              refine r_getf (v := .ref 95) fe_140_44 lf_11_94 (x_c xk_88 (by decide)) (x_lt xk_88 (by decide)) rfl ?_
              refine r_getf (v := .ref 105) fe_140_47 lf_11_295 (x_c xk_95 (by decide)) (x_lt xk_95 (by decide)) rfl ?_
              refine r_iload_n fe_140_50 rfl ?_
              by_cases hg7 : ¬ (l1 < 0 ∨ 6 ≤ (l1).toNatClampNeg)
              rotate_left
              · rw [if_neg hg7] at hf; cases hf
              rw [if_pos hg7] at hf
              refine r_iald (j := (Int32.toNatClampNeg l1)) (v := z5.2.2.1 105 (Int32.toNatClampNeg l1)) fe_140_51 (x_c xk_105 (by decide)) (x_lt xk_105 (by decide)) (fun z => hg7 (Or.inl z)) rfl (fun z => hg7 (Or.inr z)) rfl ?_
              refine r_istore fe_140_52 (Nat.le_of_ble_eq_true rfl) rfl ?_
              refine r_iload_n fe_140_54 rfl ?_
              by_cases hb8 : am_if .ne z5.1 = true
              · rw [if_pos hb8] at hf
                refine r_if_t (t := 60) fe_140_55 (by decide) hb8 ?_
                refine r_iload_n fe_140_60 rfl ?_
                refine r_iload fe_140_61 rfl ?_
                refine r_callS (as := [.int z5.1, .int (z5.2.2.1 105 (Int32.toNatClampNeg l1))]) (r := []) fe_140_63 lm_11_298 md_142 rfl rfl (Nat.le_of_ble_eq_true rfl) (Nat.le_of_ble_eq_true rfl) (Nat.le_of_ble_eq_true rfl) ?_
                cases hc10 : G142 n z5.1 (z5.2.2.1 105 (Int32.toNatClampNeg l1)) z5.2 with
                | none => rw [hc10] at hf; cases hf
                | some z9 =>
                  rw [hc10, Option.bind_some] at hf
                  refine G142c (r0 := z9.1) (S0 := z9.2)  (hf := hc10) ?_
                  refine r_istore fe_140_66 (Nat.le_of_ble_eq_true rfl) rfl ?_
                  refine r_iload fe_140_68 rfl ?_
                  by_cases hb11 : am_if .ne z9.1 = true
                  · rw [if_pos hb11] at hf
                    refine r_if_t (t := 75) fe_140_70 (by decide) hb11 ?_
                    refine r_iload_n fe_140_75 rfl ?_
                    by_cases hb12 : am_if .ne l2 = true
                    · rw [if_pos hb12] at hf
                      refine r_if_t (t := 84) fe_140_76 (by decide) hb12 ?_
                      refine r_iload_n fe_140_84 rfl ?_
                      refine r_iload fe_140_85 rfl ?_
                      by_cases hz13 : z9.1 = 0
                      · rw [if_pos hz13] at hf; cases hf
                      rw [if_neg hz13] at hf
                      refine r_idiv (v := (z5.1 / z9.1)) fe_140_87 hz13 rfl ?_
                      refine r_iret fe_140_88 ⟨rfl, by decide⟩ ?_
                      exact dfin (P := fun r T => Q (some (.int r)) (xst T G h)) hf hQ
                    · rw [if_neg hb12] at hf
                      refine r_if_f (t := 84) fe_140_76 (by decide) (Bool.eq_false_iff.mpr hb12) ?_
                      refine r_iload fe_140_79 rfl ?_
                      refine r_goto (t := 85) fe_140_81 (by decide) ?_
                      refine r_iload fe_140_85 rfl ?_
                      by_cases hz14 : z9.1 = 0
                      · rw [if_pos hz14] at hf; cases hf
                      rw [if_neg hz14] at hf
                      refine r_idiv (v := ((z5.2.2.1 105 (Int32.toNatClampNeg l1)) / z9.1)) fe_140_87 hz14 rfl ?_
                      refine r_iret fe_140_88 ⟨rfl, by decide⟩ ?_
                      exact dfin (P := fun r T => Q (some (.int r)) (xst T G h)) hf hQ
                  · rw [if_neg hb11] at hf
                    refine r_if_f (t := 75) fe_140_70 (by decide) (Bool.eq_false_iff.mpr hb11) ?_
                    refine r_iload_n fe_140_73 rfl ?_
                    refine r_iret fe_140_74 ⟨rfl, by decide⟩ ?_
                    exact dfin (P := fun r T => Q (some (.int r)) (xst T G h)) hf hQ
              · rw [if_neg hb8] at hf
                refine r_if_f (t := 60) fe_140_55 (by decide) (Bool.eq_false_iff.mpr hb8) ?_
                refine r_iload_n fe_140_58 rfl ?_
                refine r_iret fe_140_59 ⟨rfl, by decide⟩ ?_
                exact dfin (P := fun r T => Q (some (.int r)) (xst T G h)) hf hQ
          · rw [if_neg hb4] at hf
            refine r_ic_f (t := 29) fe_140_24 (by decide) (Bool.eq_false_iff.mpr hb4) ?_
            refine r_iconst (v := -1) fe_140_27 (by decide) ?_
            refine r_iret fe_140_28 ⟨rfl, by decide⟩ ?_
            exact dfin (P := fun r T => Q (some (.int r)) (xst T G h)) hf hQ
theorem G140c {xs : Nat → Int32} {L9 d : Nat} {G : gS} {h : Nat → va_E} {n : Nat} {Q : Option Value → AmH → Prop} {r0 : Int32} {S0 S : xS} {l1 : Int32} {l2 : Int32} (hf : G140 n l1 l2 S = some (r0, S0)) (hQ : Q (some (.int r0)) (xst S0 G h)) : Ca (am_X xs L9) (d + 1) 140 [.ref 64, .int l1, .int l2] (xst S G h) Q := (G140l hQ n) l1 l2 S hf
def G143b0 (F : Nat → Int32 → xS → Option (Int32 × xS)) (n : Nat) (l1 : Int32) (S : xS) : Option (Int32 × xS) := (if am_if .ge l1 = true then some ((S.1 88 4), (x_sI S 88 4 l1)) else some ((-1), S))
def G143f : Nat → Nat → Int32 → xS → Option (Int32 × xS)
  | 0, _, _, _ => none
  | n + 1, c, l1, S => G143b0 (G143f n) n l1 S
theorem G143e0 (n : Nat) (l1 : Int32) (S : xS) : G143f (n + 1) 0 l1 S = G143b0 (G143f n) n l1 S := rfl
def G143 (n : Nat) (l1 : Int32) (S : xS) : Option (Int32 × xS) := G143f n 0 l1 S
set_option maxRecDepth 20000 in
set_option maxHeartbeats 4000000 in
theorem G143l {xs : Nat → Int32} {L9 d : Nat} {G : gS} {h : Nat → va_E} {Q : Option Value → AmH → Prop} {r0 : Int32} {S0 : xS} (hQ : Q (some (.int r0)) (xst S0 G h)) : ∀ n : Nat, (∀ (l1 : Int32) (S : xS), G143f n 0 l1 S = some (r0, S0) → Go (am_X xs L9) (d + 0) 143 0 [.ref 64, .int l1, .float 0] [] (xst S G h) Q) := by
  intro n
  induction n with
  | zero => exact fun l1 S hf => (by cases hf)
  | succ n ih =>
    intro l1 S hf
    rw [G143e0] at hf
    unfold G143b0 at hf
    refine r_iload_n fe_143_0 rfl ?_
    by_cases hb1 : am_if .ge l1 = true
    · rw [if_pos hb1] at hf
      refine r_if_t (t := 6) fe_143_1 (by decide) hb1 ?_
      refine r_aload_n fe_143_6 rfl ?_
      refine r_getf (v := .ref 88) fe_143_7 lf_11_43 (x_c xk_64 (by decide)) (x_lt xk_64 (by decide)) rfl ?_
      refine r_getf (v := .int (S.1 88 4)) fe_143_10 lf_11_301 (x_c xk_88 (by decide)) (x_lt xk_88 (by decide)) rfl ?_
      refine r_istore_n fe_143_13 (Nat.le_of_ble_eq_true rfl) rfl ?_
      refine r_aload_n fe_143_14 rfl ?_
      refine r_getf (v := .ref 88) fe_143_15 lf_11_43 (x_c xk_64 (by decide)) (x_lt xk_64 (by decide)) rfl ?_
      refine r_iload_n fe_143_18 rfl ?_
      refine r_putf fe_143_19 lf_11_301 (x_h xk_88 (by decide)) (x_lt xk_88 (by decide)) (by decide) (Nat.le_of_ble_eq_true rfl) rfl rfl (Or.inl rfl) ?_
      refine go_heap (x_uI (j := 4) (x := l1) xk_88 (by decide)) ?_
      refine r_iload_n fe_143_22 rfl ?_
      refine r_iret fe_143_23 ⟨rfl, by decide⟩ ?_
      exact dfin (P := fun r T => Q (some (.int r)) (xst T G h)) hf hQ
    · rw [if_neg hb1] at hf
      refine r_if_f (t := 6) fe_143_1 (by decide) (Bool.eq_false_iff.mpr hb1) ?_
      refine r_iconst (v := -1) fe_143_4 (by decide) ?_
      refine r_iret fe_143_5 ⟨rfl, by decide⟩ ?_
      exact dfin (P := fun r T => Q (some (.int r)) (xst T G h)) hf hQ
theorem G143c {xs : Nat → Int32} {L9 d : Nat} {G : gS} {h : Nat → va_E} {n : Nat} {Q : Option Value → AmH → Prop} {r0 : Int32} {S0 S : xS} {l1 : Int32} (hf : G143 n l1 S = some (r0, S0)) (hQ : Q (some (.int r0)) (xst S0 G h)) : Ca (am_X xs L9) (d + 0) 143 [.ref 64, .int l1] (xst S G h) Q := (G143l hQ n) l1 S hf
def G147b0 (F : Nat → Int32 → xS → Option (Int32 × xS)) (n : Nat) (l0 : Int32) (S : xS) : Option (Int32 × xS) := some ((l0 / 65536), S)
def G147f : Nat → Nat → Int32 → xS → Option (Int32 × xS)
  | 0, _, _, _ => none
  | n + 1, c, l0, S => G147b0 (G147f n) n l0 S
theorem G147e0 (n : Nat) (l0 : Int32) (S : xS) : G147f (n + 1) 0 l0 S = G147b0 (G147f n) n l0 S := rfl
def G147 (n : Nat) (l0 : Int32) (S : xS) : Option (Int32 × xS) := G147f n 0 l0 S
set_option maxRecDepth 20000 in
set_option maxHeartbeats 4000000 in
theorem G147l {xs : Nat → Int32} {L9 d : Nat} {G : gS} {h : Nat → va_E} {Q : Option Value → AmH → Prop} {r0 : Int32} {S0 : xS} (hQ : Q (some (.int r0)) (xst S0 G h)) : ∀ n : Nat, (∀ (l0 : Int32) (S : xS), G147f n 0 l0 S = some (r0, S0) → Go (am_X xs L9) (d + 0) 147 0 [.int l0] [] (xst S G h) Q) := by
  intro n
  induction n with
  | zero => exact fun l0 S hf => (by cases hf)
  | succ n ih =>
    intro l0 S hf
    rw [G147e0] at hf
    unfold G147b0 at hf
    refine r_iload_n fe_147_0 rfl ?_
    refine r_ldc_w fe_147_1 lk_11_322 ?_
    refine r_idiv (v := (l0 / 65536)) fe_147_4 (by decide) rfl ?_
    refine r_iret fe_147_5 ⟨rfl, by decide⟩ ?_
    exact dfin (P := fun r T => Q (some (.int r)) (xst T G h)) hf hQ
theorem G147c {xs : Nat → Int32} {L9 d : Nat} {G : gS} {h : Nat → va_E} {n : Nat} {Q : Option Value → AmH → Prop} {r0 : Int32} {S0 S : xS} {l0 : Int32} (hf : G147 n l0 S = some (r0, S0)) (hQ : Q (some (.int r0)) (xst S0 G h)) : Ca (am_X xs L9) (d + 0) 147 [.int l0] (xst S G h) Q := (G147l hQ n) l0 S hf
def G146b0 (F : Nat → Int32 → xS → Option (Int32 × xS)) (n : Nat) (l0 : Int32) (S : xS) : Option (Int32 × xS) := some ((Int64.toInt32 ((((Int32.toInt64 l0) * 1103515245) + 12345) - (((Int32.toInt64 l0) * 1103515245) + 12345) / 2147483648 * 2147483648)), S)
def G146f : Nat → Nat → Int32 → xS → Option (Int32 × xS)
  | 0, _, _, _ => none
  | n + 1, c, l0, S => G146b0 (G146f n) n l0 S
theorem G146e0 (n : Nat) (l0 : Int32) (S : xS) : G146f (n + 1) 0 l0 S = G146b0 (G146f n) n l0 S := rfl
def G146 (n : Nat) (l0 : Int32) (S : xS) : Option (Int32 × xS) := G146f n 0 l0 S
set_option maxRecDepth 20000 in
set_option maxHeartbeats 4000000 in
theorem G146l {xs : Nat → Int32} {L9 d : Nat} {G : gS} {h : Nat → va_E} {Q : Option Value → AmH → Prop} {r0 : Int32} {S0 : xS} (hQ : Q (some (.int r0)) (xst S0 G h)) : ∀ n : Nat, (∀ (l0 : Int32) (S : xS), G146f n 0 l0 S = some (r0, S0) → Go (am_X xs L9) (d + 0) 146 0 [.int l0] [] (xst S G h) Q) := by
  intro n
  induction n with
  | zero => exact fun l0 S hf => (by cases hf)
  | succ n ih =>
    intro l0 S hf
    rw [G146e0] at hf
    unfold G146b0 at hf
    refine r_iload_n fe_146_0 rfl ?_
    refine r_i2l (v := (Int32.toInt64 l0)) fe_146_1 rfl ?_
    refine r_ldc2 fe_146_2 lk_11_316 ?_
    refine r_lmul (v := ((Int32.toInt64 l0) * 1103515245)) fe_146_5 rfl ?_
    refine r_ldc2 fe_146_6 lk_11_318 ?_
    refine r_ladd (v := (((Int32.toInt64 l0) * 1103515245) + 12345)) fe_146_9 rfl ?_
    refine r_ldc2 fe_146_10 lk_11_320 ?_
    refine r_lrem (v := ((((Int32.toInt64 l0) * 1103515245) + 12345) - (((Int32.toInt64 l0) * 1103515245) + 12345) / 2147483648 * 2147483648)) fe_146_13 (by decide) rfl ?_
    refine r_l2i (v := (Int64.toInt32 ((((Int32.toInt64 l0) * 1103515245) + 12345) - (((Int32.toInt64 l0) * 1103515245) + 12345) / 2147483648 * 2147483648))) fe_146_14 rfl ?_
    refine r_iret fe_146_15 ⟨rfl, by decide⟩ ?_
    exact dfin (P := fun r T => Q (some (.int r)) (xst T G h)) hf hQ
theorem G146c {xs : Nat → Int32} {L9 d : Nat} {G : gS} {h : Nat → va_E} {n : Nat} {Q : Option Value → AmH → Prop} {r0 : Int32} {S0 S : xS} {l0 : Int32} (hf : G146 n l0 S = some (r0, S0)) (hQ : Q (some (.int r0)) (xst S0 G h)) : Ca (am_X xs L9) (d + 0) 146 [.int l0] (xst S G h) Q := (G146l hQ n) l0 S hf
def G145b0 (wb : Nat) (lo : Option Nat) (ln : Nat) (F : Nat → Int32 → Int32 → Int32 → Int32 → xS → Option (Int32 × xS)) (n : Nat) (l1 : Int32) (l2 : Int32) (l3 : Int32) (l4 : Int32) (S : xS) : Option (Int32 × xS) := F 5 l1 0 l2 0 S
def G145b5 (wb : Nat) (lo : Option Nat) (ln : Nat) (F : Nat → Int32 → Int32 → Int32 → Int32 → xS → Option (Int32 × xS)) (n : Nat) (l1 : Int32) (l2 : Int32) (l3 : Int32) (l4 : Int32) (S : xS) : Option (Int32 × xS) := (if am_ic .ge l4 l1 = true then some (l3, S) else ((G82 n  S).bind (fun z2 => (if am_if .eq z2.1 = true then some (l3, z2.2) else ((G146 n l3 z2.2).bind (fun z5 => ((G147 n z5.1 z5.2).bind (fun z7 => (if (z7.2.1 89 0) = 0 then none else ((G146 n z5.1 z7.2).bind (fun z10 => ((G147 n z10.1 z10.2).bind (fun z12 => (if z12.2.2.2.2 109 4 = some wb then (if am_ic .ge (z12.2.1 wb 1) 12 = true then ((G86 wb lo ln n  z12.2).bind (fun z16 => F 5 l1 0 z10.1 (l4 + 1) z16.2)) else ((G50 wb n (z7.1 - z7.1 / (z7.2.1 89 0) * (z7.2.1 89 0)) (1 + (z12.1 - z12.1 / 6 * 6)) z12.2).bind (fun z18 => ((G86 wb lo ln n  z18.2).bind (fun z20 => F 5 l1 0 z10.1 (l4 + 1) z20.2))))) else none))))))))))))))
def G145f (wb : Nat) (lo : Option Nat) (ln : Nat) : Nat → Nat → Int32 → Int32 → Int32 → Int32 → xS → Option (Int32 × xS)
  | 0, _, _, _, _, _, _ => none
  | n + 1, c, l1, l2, l3, l4, S => if c = 0 then G145b0 wb lo ln (G145f wb lo ln n) n l1 l2 l3 l4 S else G145b5 wb lo ln (G145f wb lo ln n) n l1 l2 l3 l4 S
theorem G145e0 (wb : Nat) (lo : Option Nat) (ln : Nat) (n : Nat) (l1 : Int32) (l2 : Int32) (l3 : Int32) (l4 : Int32) (S : xS) : G145f wb lo ln (n + 1) 0 l1 l2 l3 l4 S = G145b0 wb lo ln (G145f wb lo ln n) n l1 l2 l3 l4 S := if_pos rfl
theorem G145e5 (wb : Nat) (lo : Option Nat) (ln : Nat) (n : Nat) (l1 : Int32) (l2 : Int32) (l3 : Int32) (l4 : Int32) (S : xS) : G145f wb lo ln (n + 1) 5 l1 l2 l3 l4 S = G145b5 wb lo ln (G145f wb lo ln n) n l1 l2 l3 l4 S := if_neg (by decide)
def G145 (wb : Nat) (lo : Option Nat) (ln : Nat) (n : Nat) (l1 : Int32) (l2 : Int32) (S : xS) : Option (Int32 × xS) := G145f wb lo ln n 0 l1 l2 0 0 S
set_option maxRecDepth 20000 in
set_option maxHeartbeats 4000000 in
theorem G145l {xs : Nat → Int32} {L9 d : Nat} {G : gS} {h : Nat → va_E} {wb : Nat} {lo : Option Nat} {ln : Nat} {Q : Option Value → AmH → Prop} {r0 : Int32} {S0 : xS} (hw : wB G wb = true) (hl : lwB G lo ln = true) (hQ : Q (some (.int r0)) (xst S0 G h)) : ∀ n : Nat, (∀ (l1 : Int32) (l2 : Int32) (l3 : Int32) (l4 : Int32) (S : xS), G145f wb lo ln n 0 l1 l2 l3 l4 S = some (r0, S0) → Go (am_X xs L9) (d + 5) 145 0 [.ref 64, .int l1, .int l2, .float 0, .float 0, .float 0, .float 0] [] (xst S G h) Q) ∧ (∀ (l1 : Int32) (l2 : Int32) (l3 : Int32) (l4 : Int32) (S : xS), G145f wb lo ln n 5 l1 l2 l3 l4 S = some (r0, S0) → Go (am_X xs L9) (d + 5) 145 5 [.ref 64, .int l1, .float 0, .int l3, .int l4, .float 0, .float 0] [] (xst S G h) Q) := by
  intro n
  induction n with
  | zero => exact ⟨fun l1 l2 l3 l4 S hf => (by cases hf), fun l1 l2 l3 l4 S hf => (by cases hf)⟩
  | succ n ih =>
    refine ⟨?_, ?_⟩
    · intro l1 l2 l3 l4 S hf
      rw [G145e0] at hf
      unfold G145b0 at hf
      refine r_iload_n fe_145_0 rfl ?_
      refine r_istore_n fe_145_1 (Nat.le_of_ble_eq_true rfl) rfl ?_
      refine r_iconst (v := 0) fe_145_2 (by decide) ?_
      refine r_istore fe_145_3 (Nat.le_of_ble_eq_true rfl) rfl ?_
      refine go_weak (L0 := [.ref 64, .int l1, .float 0, .int l2, .int 0, .float 0, .float 0]) (lwk_c (Or.inl rfl) (lwk_c (Or.inl rfl) (lwk_c (Or.inr rfl) (lwk_c (Or.inl rfl) (lwk_c (Or.inl rfl) (lwk_c (Or.inl rfl) (lwk_c (Or.inl rfl) (lwk_rf [])))))))) ?_
      exact ih.2 l1 0 l2 0 S hf
    · intro l1 l2 l3 l4 S hf
      rw [G145e5] at hf
      unfold G145b5 at hf
      refine r_iload fe_145_5 rfl ?_
      refine r_iload_n fe_145_7 rfl ?_
      by_cases hb1 : am_ic .ge l4 l1 = true
      · rw [if_pos hb1] at hf
        refine r_ic_t (t := 99) fe_145_8 (by decide) hb1 ?_
        refine r_iload_n fe_145_99 rfl ?_
        refine r_iret fe_145_100 ⟨rfl, by decide⟩ ?_
        exact dfin (P := fun r T => Q (some (.int r)) (xst T G h)) hf hQ
      · rw [if_neg hb1] at hf
        refine r_ic_f (t := 99) fe_145_8 (by decide) (Bool.eq_false_iff.mpr hb1) ?_
        refine r_aload_n fe_145_11 rfl ?_
        refine r_callV (as := []) (r := []) fe_145_12 lm_11_169 md_82 rfl rfl (Nat.le_of_ble_eq_true rfl) (x_c xk_64 (by decide)) (x_lt xk_64 (by decide)) (Nat.le_of_ble_eq_true rfl) (Nat.le_of_ble_eq_true rfl) ?_
        cases hc3 : G82 n  S with
        | none => rw [hc3] at hf; cases hf
        | some z2 =>
          rw [hc3, Option.bind_some] at hf
          refine G82c (r0 := z2.1) (S0 := z2.2)  (hf := hc3) ?_
          by_cases hb4 : am_if .eq z2.1 = true
          · rw [if_pos hb4] at hf
            refine r_if_t (t := 99) fe_145_15 (by decide) hb4 ?_
            refine r_iload_n fe_145_99 rfl ?_
            refine r_iret fe_145_100 ⟨rfl, by decide⟩ ?_
            exact dfin (P := fun r T => Q (some (.int r)) (xst T G h)) hf hQ
          · rw [if_neg hb4] at hf
            refine r_if_f (t := 99) fe_145_15 (by decide) (Bool.eq_false_iff.mpr hb4) ?_
            refine r_iload_n fe_145_18 rfl ?_
            refine r_callS (as := [.int l3]) (r := []) fe_145_19 lm_11_310 md_146 rfl rfl (Nat.le_of_ble_eq_true rfl) (Nat.le_of_ble_eq_true rfl) (Nat.le_of_ble_eq_true rfl) ?_
            cases hc6 : G146 n l3 z2.2 with
            | none => rw [hc6] at hf; cases hf
            | some z5 =>
              rw [hc6, Option.bind_some] at hf
              refine G146c (r0 := z5.1) (S0 := z5.2)  (hf := hc6) ?_
              refine r_istore_n fe_145_22 (Nat.le_of_ble_eq_true rfl) rfl ?_
              refine r_iload_n fe_145_23 rfl ?_
              refine r_callS (as := [.int z5.1]) (r := []) fe_145_24 lm_11_313 md_147 rfl rfl (Nat.le_of_ble_eq_true rfl) (Nat.le_of_ble_eq_true rfl) (Nat.le_of_ble_eq_true rfl) ?_
              cases hc8 : G147 n z5.1 z5.2 with
              | none => rw [hc8] at hf; cases hf
              | some z7 =>
                rw [hc8, Option.bind_some] at hf
                refine G147c (r0 := z7.1) (S0 := z7.2)  (hf := hc8) ?_
                refine r_aload_n fe_145_27 rfl ?_
                refine r_getf (v := .ref 88) fe_145_28 lf_11_43 (x_c xk_64 (by decide)) (x_lt xk_64 (by decide)) rfl ?_
                refine r_getf (v := .ref 89) fe_145_31 lf_11_83 (x_c xk_88 (by decide)) (x_lt xk_88 (by decide)) rfl ?_
                refine r_getf (v := .int (z7.2.1 89 0)) fe_145_34 lf_11_257 (x_c xk_89 (by decide)) (x_lt xk_89 (by decide)) rfl ?_
                by_cases hz9 : (z7.2.1 89 0) = 0
                · rw [if_pos hz9] at hf; cases hf
                rw [if_neg hz9] at hf
                refine r_irem (v := (z7.1 - z7.1 / (z7.2.1 89 0) * (z7.2.1 89 0))) fe_145_37 hz9 rfl ?_
                refine r_istore fe_145_38 (Nat.le_of_ble_eq_true rfl) rfl ?_
                refine r_iload_n fe_145_40 rfl ?_
                refine r_callS (as := [.int z5.1]) (r := []) fe_145_41 lm_11_310 md_146 rfl rfl (Nat.le_of_ble_eq_true rfl) (Nat.le_of_ble_eq_true rfl) (Nat.le_of_ble_eq_true rfl) ?_
                cases hc11 : G146 n z5.1 z7.2 with
                | none => rw [hc11] at hf; cases hf
                | some z10 =>
                  rw [hc11, Option.bind_some] at hf
                  refine G146c (r0 := z10.1) (S0 := z10.2)  (hf := hc11) ?_
                  refine r_istore_n fe_145_44 (Nat.le_of_ble_eq_true rfl) rfl ?_
                  refine r_iconst (v := 1) fe_145_45 (by decide) ?_
                  refine r_iload_n fe_145_46 rfl ?_
                  refine r_callS (as := [.int z10.1]) (r := [.int 1]) fe_145_47 lm_11_313 md_147 rfl rfl (Nat.le_of_ble_eq_true rfl) (Nat.le_of_ble_eq_true rfl) (Nat.le_of_ble_eq_true rfl) ?_
                  cases hc13 : G147 n z10.1 z10.2 with
                  | none => rw [hc13] at hf; cases hf
                  | some z12 =>
                    rw [hc13, Option.bind_some] at hf
                    refine G147c (r0 := z12.1) (S0 := z12.2)  (hf := hc13) ?_
                    refine r_bipush (v := 6) fe_145_50 (by decide) ?_
                    refine r_irem (v := (z12.1 - z12.1 / 6 * 6)) fe_145_52 (by decide) rfl ?_
                    refine r_iadd (v := (1 + (z12.1 - z12.1 / 6 * 6))) fe_145_53 rfl ?_
                    refine r_istore fe_145_54 (Nat.le_of_ble_eq_true rfl) rfl ?_
                    refine r_aload_n fe_145_56 rfl ?_
                    refine r_getf (v := .ref 109) fe_145_57 lf_11_54 (x_c xk_64 (by decide)) (x_lt xk_64 (by decide)) rfl ?_
                    by_cases hm14 : z12.2.2.2.2 109 4 = some wb
                    rotate_left
                    · rw [if_neg hm14] at hf; cases hf
                    rw [if_pos hm14] at hf
                    refine r_getf (v := .ref wb) fe_145_60 lf_11_238 (x_c xk_109 (by decide)) (x_lt xk_109 (by decide)) (by show some (va_rf _) = _; rw [hm14]; rfl) ?_
                    refine r_getf (v := .int (z12.2.1 wb 1)) fe_145_63 lf_11_113 (x_c (wk0 hw) (by decide)) (x_lt (wk0 hw) (by decide)) rfl ?_
                    refine r_bipush (v := 12) fe_145_66 (by decide) ?_
                    by_cases hb15 : am_ic .ge (z12.2.1 wb 1) 12 = true
                    · rw [if_pos hb15] at hf
                      refine r_ic_t (t := 86) fe_145_68 (by decide) hb15 ?_
                      refine r_aload_n fe_145_86 rfl ?_
                      refine r_getf (v := .ref 109) fe_145_87 lf_11_54 (x_c xk_64 (by decide)) (x_lt xk_64 (by decide)) rfl ?_
                      refine r_callV (as := []) (r := []) fe_145_90 lm_11_186 md_86 rfl rfl (Nat.le_of_ble_eq_true rfl) (x_c xk_109 (by decide)) (x_lt xk_109 (by decide)) (Nat.le_of_ble_eq_true rfl) (Nat.le_of_ble_eq_true rfl) ?_
                      cases hc17 : G86 wb lo ln n  z12.2 with
                      | none => rw [hc17] at hf; cases hf
                      | some z16 =>
                        rw [hc17, Option.bind_some] at hf
                        refine G86c (r0 := z16.1) (S0 := z16.2) (hw := hw) (hl := hl) (hf := hc17) ?_
                        refine r_iinc (v := (l4 + 1)) fe_145_93 rfl rfl rfl ?_
                        refine r_goto (t := 5) fe_145_96 (by decide) ?_
                        refine go_weak (L0 := [.ref 64, .int l1, .float 0, .int z10.1, .int (l4 + 1), .float 0, .float 0]) (lwk_c (Or.inl rfl) (lwk_c (Or.inl rfl) (lwk_c (Or.inl rfl) (lwk_c (Or.inl rfl) (lwk_c (Or.inl rfl) (lwk_c (Or.inr rfl) (lwk_c (Or.inr rfl) (lwk_rf [])))))))) ?_
                        exact ih.2 l1 0 z10.1 (l4 + 1) z16.2 hf
                    · rw [if_neg hb15] at hf
                      refine r_ic_f (t := 86) fe_145_68 (by decide) (Bool.eq_false_iff.mpr hb15) ?_
                      refine r_aload_n fe_145_71 rfl ?_
                      refine r_getf (v := .ref 109) fe_145_72 lf_11_54 (x_c xk_64 (by decide)) (x_lt xk_64 (by decide)) rfl ?_
                      refine r_getf (v := .ref wb) fe_145_75 lf_11_238 (x_c xk_109 (by decide)) (x_lt xk_109 (by decide)) (by show some (va_rf _) = _; rw [hm14]; rfl) ?_
                      refine r_iload fe_145_78 rfl ?_
                      refine r_iload fe_145_80 rfl ?_
                      refine r_callV (as := [.int (z7.1 - z7.1 / (z7.2.1 89 0) * (z7.2.1 89 0)), .int (1 + (z12.1 - z12.1 / 6 * 6))]) (r := []) fe_145_82 lm_11_201 md_50 rfl rfl (Nat.le_of_ble_eq_true rfl) (x_c (wk0 hw) (by decide)) (x_lt (wk0 hw) (by decide)) (Nat.le_of_ble_eq_true rfl) (Nat.le_of_ble_eq_true rfl) ?_
                      cases hc19 : G50 wb n (z7.1 - z7.1 / (z7.2.1 89 0) * (z7.2.1 89 0)) (1 + (z12.1 - z12.1 / 6 * 6)) z12.2 with
                      | none => rw [hc19] at hf; cases hf
                      | some z18 =>
                        rw [hc19, Option.bind_some] at hf
                        refine G50c (r0 := z18.1) (S0 := z18.2) (h0 := hw) (hf := hc19) ?_
                        refine r_pop fe_145_85 rfl ?_
                        refine r_aload_n fe_145_86 rfl ?_
                        refine r_getf (v := .ref 109) fe_145_87 lf_11_54 (x_c xk_64 (by decide)) (x_lt xk_64 (by decide)) rfl ?_
                        refine r_callV (as := []) (r := []) fe_145_90 lm_11_186 md_86 rfl rfl (Nat.le_of_ble_eq_true rfl) (x_c xk_109 (by decide)) (x_lt xk_109 (by decide)) (Nat.le_of_ble_eq_true rfl) (Nat.le_of_ble_eq_true rfl) ?_
                        cases hc21 : G86 wb lo ln n  z18.2 with
                        | none => rw [hc21] at hf; cases hf
                        | some z20 =>
                          rw [hc21, Option.bind_some] at hf
                          refine G86c (r0 := z20.1) (S0 := z20.2) (hw := hw) (hl := hl) (hf := hc21) ?_
                          refine r_iinc (v := (l4 + 1)) fe_145_93 rfl rfl rfl ?_
                          refine r_goto (t := 5) fe_145_96 (by decide) ?_
                          refine go_weak (L0 := [.ref 64, .int l1, .float 0, .int z10.1, .int (l4 + 1), .float 0, .float 0]) (lwk_c (Or.inl rfl) (lwk_c (Or.inl rfl) (lwk_c (Or.inl rfl) (lwk_c (Or.inl rfl) (lwk_c (Or.inl rfl) (lwk_c (Or.inr rfl) (lwk_c (Or.inr rfl) (lwk_rf [])))))))) ?_
                          exact ih.2 l1 0 z10.1 (l4 + 1) z20.2 hf
theorem G145c {xs : Nat → Int32} {L9 d : Nat} {G : gS} {h : Nat → va_E} {wb : Nat} {lo : Option Nat} {ln : Nat} {n : Nat} {Q : Option Value → AmH → Prop} {r0 : Int32} {S0 S : xS} {l1 : Int32} {l2 : Int32} (hw : wB G wb = true) (hl : lwB G lo ln = true) (hf : G145 wb lo ln n l1 l2 S = some (r0, S0)) (hQ : Q (some (.int r0)) (xst S0 G h)) : Ca (am_X xs L9) (d + 5) 145 [.ref 64, .int l1, .int l2] (xst S G h) Q := (G145l hw hl hQ n).1 l1 l2 0 0 S hf
def G144b0 (F : Nat → Int32 → Int32 → Int32 → Int32 → Int32 → Int32 → (xS × gS) → Option (Int32 × (xS × gS))) (n : Nat) (l1 : Int32) (l2 : Int32) (l3 : Int32) (l4 : Int32) (l5 : Int32) (l6 : Int32) (U : (xS × gS)) : Option (Int32 × (xS × gS)) := ((G82 n  U.1).bind (fun z1 => (if am_if .eq z1.1 = true then some ((-1), (z1.2, U.2)) else (if am_ic .lt l1 1 = true then some ((-1), (z1.2, U.2)) else (if am_ic .gt l1 10 = true then some ((-1), (z1.2, U.2)) else ((G125 n l2 z1.2).bind (fun z6 => (if am_if .eq z6.1 = true then some ((-1), (z6.2, U.2)) else (if am_if .lt l3 = true then some ((-1), (z6.2, U.2)) else (if am_ic .le l3 2 = true then F 51 l1 l2 l3 (z6.2.1 88 4) 0 0 (z6.2, U.2) else some ((-1), (z6.2, U.2))))))))))))
def G144b51 (F : Nat → Int32 → Int32 → Int32 → Int32 → Int32 → Int32 → (xS × gS) → Option (Int32 × (xS × gS))) (n : Nat) (l1 : Int32) (l2 : Int32) (l3 : Int32) (l4 : Int32) (l5 : Int32) (l6 : Int32) (U : (xS × gS)) : Option (Int32 × (xS × gS)) := (if am_ic .ge l6 l1 = true then some (l5, (U.1, U.2)) else ((G84 n  U.1).bind (fun z12 => (if lwB U.2 z12.1 (lawN U.2 z12.1) = true then ((G109 z12.1 n  z12.2).bind (fun z15 => ((G145 110 z12.1 (lawN U.2 z12.1) n l2 l4 z15.2).bind (fun z17 => (if am_if .ne l3 = true then (if am_ic .ne l3 1 = true then F 51 l1 l2 l3 z17.1 (l5 + (z17.2.1 109 8)) (l6 + 1) (z17.2, U.2) else F 51 l1 l2 l3 z17.1 (l5 + (z17.2.1 109 7)) (l6 + 1) (z17.2, U.2)) else F 51 l1 l2 l3 z17.1 (l5 + (z17.2.1 109 6)) (l6 + 1) (z17.2, U.2)))))) else none))))
def G144f : Nat → Nat → Int32 → Int32 → Int32 → Int32 → Int32 → Int32 → (xS × gS) → Option (Int32 × (xS × gS))
  | 0, _, _, _, _, _, _, _, _ => none
  | n + 1, c, l1, l2, l3, l4, l5, l6, U => if c = 0 then G144b0 (G144f n) n l1 l2 l3 l4 l5 l6 U else G144b51 (G144f n) n l1 l2 l3 l4 l5 l6 U
theorem G144e0 (n : Nat) (l1 : Int32) (l2 : Int32) (l3 : Int32) (l4 : Int32) (l5 : Int32) (l6 : Int32) (U : (xS × gS)) : G144f (n + 1) 0 l1 l2 l3 l4 l5 l6 U = G144b0 (G144f n) n l1 l2 l3 l4 l5 l6 U := if_pos rfl
theorem G144e51 (n : Nat) (l1 : Int32) (l2 : Int32) (l3 : Int32) (l4 : Int32) (l5 : Int32) (l6 : Int32) (U : (xS × gS)) : G144f (n + 1) 51 l1 l2 l3 l4 l5 l6 U = G144b51 (G144f n) n l1 l2 l3 l4 l5 l6 U := if_neg (by decide)
def G144 (n : Nat) (l1 : Int32) (l2 : Int32) (l3 : Int32) (U : (xS × gS)) : Option (Int32 × (xS × gS)) := G144f n 0 l1 l2 l3 0 0 0 U
set_option maxRecDepth 20000 in
set_option maxHeartbeats 4000000 in
theorem G144l {xs : Nat → Int32} {L9 d : Nat} {h : Nat → va_E} {Q : Option Value → AmH → Prop} {r0 : Int32} {U0 : (xS × gS)} (hQ : Q (some (.int r0)) (xst U0.1 U0.2 h)) : ∀ n : Nat, (∀ (l1 : Int32) (l2 : Int32) (l3 : Int32) (l4 : Int32) (l5 : Int32) (l6 : Int32) (U : (xS × gS)), G144f n 0 l1 l2 l3 l4 l5 l6 U = some (r0, U0) → Go (am_X xs L9) (d + 6) 144 0 [.ref 64, .int l1, .int l2, .int l3, .float 0, .float 0, .float 0] [] (xst U.1 U.2 h) Q) ∧ (∀ (l1 : Int32) (l2 : Int32) (l3 : Int32) (l4 : Int32) (l5 : Int32) (l6 : Int32) (U : (xS × gS)), G144f n 51 l1 l2 l3 l4 l5 l6 U = some (r0, U0) → Go (am_X xs L9) (d + 6) 144 51 [.ref 64, .int l1, .int l2, .int l3, .int l4, .int l5, .int l6] [] (xst U.1 U.2 h) Q) := by
  intro n
  induction n with
  | zero => exact ⟨fun l1 l2 l3 l4 l5 l6 U hf => (by cases hf), fun l1 l2 l3 l4 l5 l6 U hf => (by cases hf)⟩
  | succ n ih =>
    refine ⟨?_, ?_⟩
    · intro l1 l2 l3 l4 l5 l6 U hf
      rw [G144e0] at hf
      unfold G144b0 at hf
      refine r_aload_n fe_144_0 rfl ?_
      refine r_callV (as := []) (r := []) fe_144_1 lm_11_169 md_82 rfl rfl (Nat.le_of_ble_eq_true rfl) (x_c xk_64 (by decide)) (x_lt xk_64 (by decide)) (Nat.le_of_ble_eq_true rfl) (Nat.le_of_ble_eq_true rfl) ?_
      cases hc2 : G82 n  U.1 with
      | none => rw [hc2] at hf; cases hf
      | some z1 =>
        rw [hc2, Option.bind_some] at hf
        refine G82c (r0 := z1.1) (S0 := z1.2)  (hf := hc2) ?_
        by_cases hb3 : am_if .eq z1.1 = true
        · rw [if_pos hb3] at hf
          refine r_if_t (t := 34) fe_144_4 (by decide) hb3 ?_
          refine r_iconst (v := -1) fe_144_34 (by decide) ?_
          refine r_iret fe_144_35 ⟨rfl, by decide⟩ ?_
          exact dfin (P := fun r T => Q (some (.int r)) (xst T.1 T.2 h)) hf hQ
        · rw [if_neg hb3] at hf
          refine r_if_f (t := 34) fe_144_4 (by decide) (Bool.eq_false_iff.mpr hb3) ?_
          refine r_iload_n fe_144_7 rfl ?_
          refine r_iconst (v := 1) fe_144_8 (by decide) ?_
          by_cases hb4 : am_ic .lt l1 1 = true
          · rw [if_pos hb4] at hf
            refine r_ic_t (t := 34) fe_144_9 (by decide) hb4 ?_
            refine r_iconst (v := -1) fe_144_34 (by decide) ?_
            refine r_iret fe_144_35 ⟨rfl, by decide⟩ ?_
            exact dfin (P := fun r T => Q (some (.int r)) (xst T.1 T.2 h)) hf hQ
          · rw [if_neg hb4] at hf
            refine r_ic_f (t := 34) fe_144_9 (by decide) (Bool.eq_false_iff.mpr hb4) ?_
            refine r_iload_n fe_144_12 rfl ?_
            refine r_bipush (v := 10) fe_144_13 (by decide) ?_
            by_cases hb5 : am_ic .gt l1 10 = true
            · rw [if_pos hb5] at hf
              refine r_ic_t (t := 34) fe_144_15 (by decide) hb5 ?_
              refine r_iconst (v := -1) fe_144_34 (by decide) ?_
              refine r_iret fe_144_35 ⟨rfl, by decide⟩ ?_
              exact dfin (P := fun r T => Q (some (.int r)) (xst T.1 T.2 h)) hf hQ
            · rw [if_neg hb5] at hf
              refine r_ic_f (t := 34) fe_144_15 (by decide) (Bool.eq_false_iff.mpr hb5) ?_
              refine r_iload_n fe_144_18 rfl ?_
              refine r_callS (as := [.int l2]) (r := []) fe_144_19 lm_11_254 md_125 rfl rfl (Nat.le_of_ble_eq_true rfl) (Nat.le_of_ble_eq_true rfl) (Nat.le_of_ble_eq_true rfl) ?_
              cases hc7 : G125 n l2 z1.2 with
              | none => rw [hc7] at hf; cases hf
              | some z6 =>
                rw [hc7, Option.bind_some] at hf
                refine G125c (r0 := z6.1) (S0 := z6.2)  (hf := hc7) ?_
                by_cases hb8 : am_if .eq z6.1 = true
                · rw [if_pos hb8] at hf
                  refine r_if_t (t := 34) fe_144_22 (by decide) hb8 ?_
                  refine r_iconst (v := -1) fe_144_34 (by decide) ?_
                  refine r_iret fe_144_35 ⟨rfl, by decide⟩ ?_
                  exact dfin (P := fun r T => Q (some (.int r)) (xst T.1 T.2 h)) hf hQ
                · rw [if_neg hb8] at hf
                  refine r_if_f (t := 34) fe_144_22 (by decide) (Bool.eq_false_iff.mpr hb8) ?_
                  refine r_iload_n fe_144_25 rfl ?_
                  by_cases hb9 : am_if .lt l3 = true
                  · rw [if_pos hb9] at hf
                    refine r_if_t (t := 34) fe_144_26 (by decide) hb9 ?_
                    refine r_iconst (v := -1) fe_144_34 (by decide) ?_
                    refine r_iret fe_144_35 ⟨rfl, by decide⟩ ?_
                    exact dfin (P := fun r T => Q (some (.int r)) (xst T.1 T.2 h)) hf hQ
                  · rw [if_neg hb9] at hf
                    refine r_if_f (t := 34) fe_144_26 (by decide) (Bool.eq_false_iff.mpr hb9) ?_
                    refine r_iload_n fe_144_29 rfl ?_
                    refine r_iconst (v := 2) fe_144_30 (by decide) ?_
                    by_cases hb10 : am_ic .le l3 2 = true
                    · rw [if_pos hb10] at hf
                      refine r_ic_t (t := 36) fe_144_31 (by decide) hb10 ?_
                      refine r_aload_n fe_144_36 rfl ?_
                      refine r_getf (v := .ref 88) fe_144_37 lf_11_43 (x_c xk_64 (by decide)) (x_lt xk_64 (by decide)) rfl ?_
                      refine r_getf (v := .int (z6.2.1 88 4)) fe_144_40 lf_11_301 (x_c xk_88 (by decide)) (x_lt xk_88 (by decide)) rfl ?_
                      refine r_istore fe_144_43 (Nat.le_of_ble_eq_true rfl) rfl ?_
                      refine r_iconst (v := 0) fe_144_45 (by decide) ?_
                      refine r_istore fe_144_46 (Nat.le_of_ble_eq_true rfl) rfl ?_
                      refine r_iconst (v := 0) fe_144_48 (by decide) ?_
                      refine r_istore fe_144_49 (Nat.le_of_ble_eq_true rfl) rfl ?_
                      refine go_weak (L0 := [.ref 64, .int l1, .int l2, .int l3, .int (z6.2.1 88 4), .int 0, .int 0]) (lwk_c (Or.inl rfl) (lwk_c (Or.inl rfl) (lwk_c (Or.inl rfl) (lwk_c (Or.inl rfl) (lwk_c (Or.inl rfl) (lwk_c (Or.inl rfl) (lwk_c (Or.inl rfl) (lwk_rf [])))))))) ?_
                      exact ih.2 l1 l2 l3 (z6.2.1 88 4) 0 0 (z6.2, U.2) hf
                    · rw [if_neg hb10] at hf
                      refine r_ic_f (t := 36) fe_144_31 (by decide) (Bool.eq_false_iff.mpr hb10) ?_
                      refine r_iconst (v := -1) fe_144_34 (by decide) ?_
                      refine r_iret fe_144_35 ⟨rfl, by decide⟩ ?_
                      exact dfin (P := fun r T => Q (some (.int r)) (xst T.1 T.2 h)) hf hQ
    · intro l1 l2 l3 l4 l5 l6 U hf
      rw [G144e51] at hf
      unfold G144b51 at hf
      refine r_iload fe_144_51 rfl ?_
      refine r_iload_n fe_144_53 rfl ?_
      by_cases hb11 : am_ic .ge l6 l1 = true
      · rw [if_pos hb11] at hf
        refine r_ic_t (t := 133) fe_144_54 (by decide) hb11 ?_
        refine r_iload fe_144_133 rfl ?_
        refine r_iret fe_144_135 ⟨rfl, by decide⟩ ?_
        exact dfin (P := fun r T => Q (some (.int r)) (xst T.1 T.2 h)) hf hQ
      · rw [if_neg hb11] at hf
        refine r_ic_f (t := 133) fe_144_54 (by decide) (Bool.eq_false_iff.mpr hb11) ?_
        refine r_aload_n fe_144_57 rfl ?_
        refine r_getf (v := .ref 109) fe_144_58 lf_11_54 (x_c xk_64 (by decide)) (x_lt xk_64 (by decide)) rfl ?_
        refine r_aload_n fe_144_61 rfl ?_
        refine r_getf (v := .ref 88) fe_144_62 lf_11_43 (x_c xk_64 (by decide)) (x_lt xk_64 (by decide)) rfl ?_
        refine r_aload_n fe_144_65 rfl ?_
        refine r_callV (as := []) (r := [.ref 88, .ref 109]) fe_144_66 lm_11_179 md_84 rfl rfl (Nat.le_of_ble_eq_true rfl) (x_c xk_64 (by decide)) (x_lt xk_64 (by decide)) (Nat.le_of_ble_eq_true rfl) (Nat.le_of_ble_eq_true rfl) ?_
        cases hc13 : G84 n  U.1 with
        | none => rw [hc13] at hf; cases hf
        | some z12 =>
          rw [hc13, Option.bind_some] at hf
          refine G84c (r0 := z12.1) (S0 := z12.2)  (hf := hc13) ?_
          by_cases hb14 : lwB U.2 z12.1 (lawN U.2 z12.1) = true
          rotate_left
          · rw [if_neg hb14] at hf; cases hf
          rw [if_pos hb14] at hf
          refine r_callV (as := [.ref 88, va_rf z12.1]) (r := []) fe_144_69 lm_11_231 md_109 rfl rfl (Nat.le_of_ble_eq_true rfl) (x_c xk_109 (by decide)) (x_lt xk_109 (by decide)) (Nat.le_of_ble_eq_true rfl) (by cases e9 : z12.1 <;> exact Nat.le_of_ble_eq_true rfl) ?_
          cases hc16 : G109 z12.1 n  z12.2 with
          | none => rw [hc16] at hf; cases hf
          | some z15 =>
            rw [hc16, Option.bind_some] at hf
            refine G109c (r0 := z15.1) (S0 := z15.2)  (hf := hc16) ?_
            refine r_aload_n fe_144_72 rfl ?_
            refine r_iload_n fe_144_73 rfl ?_
            refine r_iload fe_144_74 rfl ?_
            refine r_callV (as := [.int l2, .int l4]) (r := []) fe_144_76 lm_11_304 md_145 rfl rfl (Nat.le_of_ble_eq_true rfl) (x_c xk_64 (by decide)) (x_lt xk_64 (by decide)) (Nat.le_of_ble_eq_true rfl) (Nat.le_of_ble_eq_true rfl) ?_
            cases hc18 : G145 110 z12.1 (lawN U.2 z12.1) n l2 l4 z15.2 with
            | none => rw [hc18] at hf; cases hf
            | some z17 =>
              rw [hc18, Option.bind_some] at hf
              refine G145c (r0 := z17.1) (S0 := z17.2) (hw := wS_110) (hl := hb14) (hf := hc18) ?_
              refine r_istore fe_144_79 (Nat.le_of_ble_eq_true rfl) rfl ?_
              refine r_iload_n fe_144_81 rfl ?_
              by_cases hb19 : am_if .ne l3 = true
              · rw [if_pos hb19] at hf
                refine r_if_t (t := 100) fe_144_82 (by decide) hb19 ?_
                refine r_iload fe_144_100 rfl ?_
                refine r_iload_n fe_144_102 rfl ?_
                refine r_iconst (v := 1) fe_144_103 (by decide) ?_
                by_cases hb20 : am_ic .ne l3 1 = true
                · rw [if_pos hb20] at hf
                  refine r_ic_t (t := 117) fe_144_104 (by decide) hb20 ?_
                  refine r_aload_n fe_144_117 rfl ?_
                  refine r_getf (v := .ref 109) fe_144_118 lf_11_54 (x_c xk_64 (by decide)) (x_lt xk_64 (by decide)) rfl ?_
                  refine r_getf (v := .int (z17.2.1 109 8)) fe_144_121 lf_11_195 (x_c xk_109 (by decide)) (x_lt xk_109 (by decide)) rfl ?_
                  refine r_iadd (v := (l5 + (z17.2.1 109 8))) fe_144_124 rfl ?_
                  refine r_istore fe_144_125 (Nat.le_of_ble_eq_true rfl) rfl ?_
                  refine r_iinc (v := (l6 + 1)) fe_144_127 rfl rfl rfl ?_
                  refine r_goto (t := 51) fe_144_130 (by decide) ?_
                  refine go_weak (L0 := [.ref 64, .int l1, .int l2, .int l3, .int z17.1, .int (l5 + (z17.2.1 109 8)), .int (l6 + 1)]) (lwk_c (Or.inl rfl) (lwk_c (Or.inl rfl) (lwk_c (Or.inl rfl) (lwk_c (Or.inl rfl) (lwk_c (Or.inl rfl) (lwk_c (Or.inl rfl) (lwk_c (Or.inl rfl) (lwk_rf [])))))))) ?_
                  exact ih.2 l1 l2 l3 z17.1 (l5 + (z17.2.1 109 8)) (l6 + 1) (z17.2, U.2) hf
                · rw [if_neg hb20] at hf
                  refine r_ic_f (t := 117) fe_144_104 (by decide) (Bool.eq_false_iff.mpr hb20) ?_
                  refine r_aload_n fe_144_107 rfl ?_
                  refine r_getf (v := .ref 109) fe_144_108 lf_11_54 (x_c xk_64 (by decide)) (x_lt xk_64 (by decide)) rfl ?_
                  refine r_getf (v := .int (z17.2.1 109 7)) fe_144_111 lf_11_192 (x_c xk_109 (by decide)) (x_lt xk_109 (by decide)) rfl ?_
                  refine r_goto (t := 124) fe_144_114 (by decide) ?_
                  refine r_iadd (v := (l5 + (z17.2.1 109 7))) fe_144_124 rfl ?_
                  refine r_istore fe_144_125 (Nat.le_of_ble_eq_true rfl) rfl ?_
                  refine r_iinc (v := (l6 + 1)) fe_144_127 rfl rfl rfl ?_
                  refine r_goto (t := 51) fe_144_130 (by decide) ?_
                  refine go_weak (L0 := [.ref 64, .int l1, .int l2, .int l3, .int z17.1, .int (l5 + (z17.2.1 109 7)), .int (l6 + 1)]) (lwk_c (Or.inl rfl) (lwk_c (Or.inl rfl) (lwk_c (Or.inl rfl) (lwk_c (Or.inl rfl) (lwk_c (Or.inl rfl) (lwk_c (Or.inl rfl) (lwk_c (Or.inl rfl) (lwk_rf [])))))))) ?_
                  exact ih.2 l1 l2 l3 z17.1 (l5 + (z17.2.1 109 7)) (l6 + 1) (z17.2, U.2) hf
              · rw [if_neg hb19] at hf
                refine r_if_f (t := 100) fe_144_82 (by decide) (Bool.eq_false_iff.mpr hb19) ?_
                refine r_iload fe_144_85 rfl ?_
                refine r_aload_n fe_144_87 rfl ?_
                refine r_getf (v := .ref 109) fe_144_88 lf_11_54 (x_c xk_64 (by decide)) (x_lt xk_64 (by decide)) rfl ?_
                refine r_getf (v := .int (z17.2.1 109 6)) fe_144_91 lf_11_189 (x_c xk_109 (by decide)) (x_lt xk_109 (by decide)) rfl ?_
                refine r_iadd (v := (l5 + (z17.2.1 109 6))) fe_144_94 rfl ?_
                refine r_istore fe_144_95 (Nat.le_of_ble_eq_true rfl) rfl ?_
                refine r_goto (t := 127) fe_144_97 (by decide) ?_
                refine r_iinc (v := (l6 + 1)) fe_144_127 rfl rfl rfl ?_
                refine r_goto (t := 51) fe_144_130 (by decide) ?_
                refine go_weak (L0 := [.ref 64, .int l1, .int l2, .int l3, .int z17.1, .int (l5 + (z17.2.1 109 6)), .int (l6 + 1)]) (lwk_c (Or.inl rfl) (lwk_c (Or.inl rfl) (lwk_c (Or.inl rfl) (lwk_c (Or.inl rfl) (lwk_c (Or.inl rfl) (lwk_c (Or.inl rfl) (lwk_c (Or.inl rfl) (lwk_rf [])))))))) ?_
                exact ih.2 l1 l2 l3 z17.1 (l5 + (z17.2.1 109 6)) (l6 + 1) (z17.2, U.2) hf
theorem G144c {xs : Nat → Int32} {L9 d : Nat} {h : Nat → va_E} {n : Nat} {Q : Option Value → AmH → Prop} {r0 : Int32} {U0 U : (xS × gS)} {l1 : Int32} {l2 : Int32} {l3 : Int32} (hf : G144 n l1 l2 l3 U = some (r0, U0)) (hQ : Q (some (.int r0)) (xst U0.1 U0.2 h)) : Ca (am_X xs L9) (d + 6) 144 [.ref 64, .int l1, .int l2, .int l3] (xst U.1 U.2 h) Q := (G144l hQ n).1 l1 l2 l3 0 0 0 U hf
def G148b0 (F : Nat → Int32 → xS → Option (Int32 × xS)) (n : Nat) (l1 : Int32) (S : xS) : Option (Int32 × xS) := (if ((l1).toInt < 0 ∨ 12 < (l1).toInt) then some ((-1), S) else (if l1 = 0 then some ((S.1 89 0), S) else (if l1 = 1 then some ((S.1 89 1), S) else (if l1 = 2 then some ((S.1 89 2), S) else (if l1 = 3 then ((G38 95 n  S).bind (fun z6 => some (z6.1, z6.2))) else (if l1 = 4 then some ((S.1 95 1), S) else (if l1 = 5 then some ((S.1 64 4), S) else (if l1 = 6 then some ((S.1 88 3), S) else (if l1 = 7 then some ((S.1 95 0), S) else (if l1 = 8 then ((G113 95 n  S).bind (fun z13 => some (z13.1, z13.2))) else (if l1 = 9 then ((G141 95 n  S).bind (fun z16 => some (z16.1, z16.2))) else (if l1 = 10 then some ((S.1 106 2), S) else (if l1 = 11 then some ((S.1 88 4), S) else (if l1 = 12 then some ((S.1 65 1), S) else none))))))))))))))
def G148f : Nat → Nat → Int32 → xS → Option (Int32 × xS)
  | 0, _, _, _ => none
  | n + 1, c, l1, S => G148b0 (G148f n) n l1 S
theorem G148e0 (n : Nat) (l1 : Int32) (S : xS) : G148f (n + 1) 0 l1 S = G148b0 (G148f n) n l1 S := rfl
def G148 (n : Nat) (l1 : Int32) (S : xS) : Option (Int32 × xS) := G148f n 0 l1 S
set_option maxRecDepth 20000 in
set_option maxHeartbeats 4000000 in
theorem G148l {xs : Nat → Int32} {L9 d : Nat} {G : gS} {h : Nat → va_E} {Q : Option Value → AmH → Prop} {r0 : Int32} {S0 : xS} (hQ : Q (some (.int r0)) (xst S0 G h)) : ∀ n : Nat, (∀ (l1 : Int32) (S : xS), G148f n 0 l1 S = some (r0, S0) → Go (am_X xs L9) (d + 1) 148 0 [.ref 64, .int l1] [] (xst S G h) Q) := by
  intro n
  induction n with
  | zero => exact fun l1 S hf => (by cases hf)
  | succ n ih =>
    intro l1 S hf
    rw [G148e0] at hf
    unfold G148b0 at hf
    refine r_iload_n fe_148_0 rfl ?_
    by_cases hs1 : ((l1).toInt < 0 ∨ 12 < (l1).toInt)
    · rw [if_pos hs1] at hf
      refine r_tabO (t := 196) fe_148_1 hs1 (by decide) ?_
      refine r_iconst (v := -1) fe_148_196 (by decide) ?_
      refine r_iret fe_148_197 ⟨rfl, by decide⟩ ?_
      exact dfin (P := fun r T => Q (some (.int r)) (xst T G h)) hf hQ
    · rw [if_neg hs1] at hf
      by_cases hx2 : l1 = 0
      · rw [if_pos hx2] at hf
        refine r_tabI (off := 67) (t := 68) fe_148_1 hs1 (by rw [hx2]; decide) (by decide) ?_
        refine r_aload_n fe_148_68 rfl ?_
        refine r_getf (v := .ref 88) fe_148_69 lf_11_43 (x_c xk_64 (by decide)) (x_lt xk_64 (by decide)) rfl ?_
        refine r_getf (v := .ref 89) fe_148_72 lf_11_83 (x_c xk_88 (by decide)) (x_lt xk_88 (by decide)) rfl ?_
        refine r_getf (v := .int (S.1 89 0)) fe_148_75 lf_11_257 (x_c xk_89 (by decide)) (x_lt xk_89 (by decide)) rfl ?_
        refine r_iret fe_148_78 ⟨rfl, by decide⟩ ?_
        exact dfin (P := fun r T => Q (some (.int r)) (xst T G h)) hf hQ
      · rw [if_neg hx2] at hf
        by_cases hx3 : l1 = 1
        · rw [if_pos hx3] at hf
          refine r_tabI (off := 78) (t := 79) fe_148_1 hs1 (by rw [hx3]; decide) (by decide) ?_
          refine r_aload_n fe_148_79 rfl ?_
          refine r_getf (v := .ref 88) fe_148_80 lf_11_43 (x_c xk_64 (by decide)) (x_lt xk_64 (by decide)) rfl ?_
          refine r_getf (v := .ref 89) fe_148_83 lf_11_83 (x_c xk_88 (by decide)) (x_lt xk_88 (by decide)) rfl ?_
          refine r_getf (v := .int (S.1 89 1)) fe_148_86 lf_11_289 (x_c xk_89 (by decide)) (x_lt xk_89 (by decide)) rfl ?_
          refine r_iret fe_148_89 ⟨rfl, by decide⟩ ?_
          exact dfin (P := fun r T => Q (some (.int r)) (xst T G h)) hf hQ
        · rw [if_neg hx3] at hf
          by_cases hx4 : l1 = 2
          · rw [if_pos hx4] at hf
            refine r_tabI (off := 89) (t := 90) fe_148_1 hs1 (by rw [hx4]; decide) (by decide) ?_
            refine r_aload_n fe_148_90 rfl ?_
            refine r_getf (v := .ref 88) fe_148_91 lf_11_43 (x_c xk_64 (by decide)) (x_lt xk_64 (by decide)) rfl ?_
            refine r_getf (v := .ref 89) fe_148_94 lf_11_83 (x_c xk_88 (by decide)) (x_lt xk_88 (by decide)) rfl ?_
            refine r_getf (v := .int (S.1 89 2)) fe_148_97 lf_11_277 (x_c xk_89 (by decide)) (x_lt xk_89 (by decide)) rfl ?_
            refine r_iret fe_148_100 ⟨rfl, by decide⟩ ?_
            exact dfin (P := fun r T => Q (some (.int r)) (xst T G h)) hf hQ
          · rw [if_neg hx4] at hf
            by_cases hx5 : l1 = 3
            · rw [if_pos hx5] at hf
              refine r_tabI (off := 100) (t := 101) fe_148_1 hs1 (by rw [hx5]; decide) (by decide) ?_
              refine r_aload_n fe_148_101 rfl ?_
              refine r_getf (v := .ref 88) fe_148_102 lf_11_43 (x_c xk_64 (by decide)) (x_lt xk_64 (by decide)) rfl ?_
              refine r_getf (v := .ref 95) fe_148_105 lf_11_94 (x_c xk_88 (by decide)) (x_lt xk_88 (by decide)) rfl ?_
              refine r_callV (as := []) (r := []) fe_148_108 lm_11_221 md_38 rfl rfl (Nat.le_of_ble_eq_true rfl) (x_c xk_95 (by decide)) (x_lt xk_95 (by decide)) (Nat.le_of_ble_eq_true rfl) (Nat.le_of_ble_eq_true rfl) ?_
              cases hc7 : G38 95 n  S with
              | none => rw [hc7] at hf; cases hf
              | some z6 =>
                rw [hc7, Option.bind_some] at hf
                refine G38c (r0 := z6.1) (S0 := z6.2) (h0 := wS_95) (hf := hc7) ?_
                refine r_iret fe_148_111 ⟨rfl, by decide⟩ ?_
                exact dfin (P := fun r T => Q (some (.int r)) (xst T G h)) hf hQ
            · rw [if_neg hx5] at hf
              by_cases hx8 : l1 = 4
              · rw [if_pos hx8] at hf
                refine r_tabI (off := 111) (t := 112) fe_148_1 hs1 (by rw [hx8]; decide) (by decide) ?_
                refine r_aload_n fe_148_112 rfl ?_
                refine r_getf (v := .ref 88) fe_148_113 lf_11_43 (x_c xk_64 (by decide)) (x_lt xk_64 (by decide)) rfl ?_
                refine r_getf (v := .ref 95) fe_148_116 lf_11_94 (x_c xk_88 (by decide)) (x_lt xk_88 (by decide)) rfl ?_
                refine r_getf (v := .int (S.1 95 1)) fe_148_119 lf_11_113 (x_c xk_95 (by decide)) (x_lt xk_95 (by decide)) rfl ?_
                refine r_iret fe_148_122 ⟨rfl, by decide⟩ ?_
                exact dfin (P := fun r T => Q (some (.int r)) (xst T G h)) hf hQ
              · rw [if_neg hx8] at hf
                by_cases hx9 : l1 = 5
                · rw [if_pos hx9] at hf
                  refine r_tabI (off := 122) (t := 123) fe_148_1 hs1 (by rw [hx9]; decide) (by decide) ?_
                  refine r_aload_n fe_148_123 rfl ?_
                  refine r_getf (v := .int (S.1 64 4)) fe_148_124 lf_11_36 (x_c xk_64 (by decide)) (x_lt xk_64 (by decide)) rfl ?_
                  refine r_iret fe_148_127 ⟨rfl, by decide⟩ ?_
                  exact dfin (P := fun r T => Q (some (.int r)) (xst T G h)) hf hQ
                · rw [if_neg hx9] at hf
                  by_cases hx10 : l1 = 6
                  · rw [if_pos hx10] at hf
                    refine r_tabI (off := 127) (t := 128) fe_148_1 hs1 (by rw [hx10]; decide) (by decide) ?_
                    refine r_aload_n fe_148_128 rfl ?_
                    refine r_getf (v := .ref 88) fe_148_129 lf_11_43 (x_c xk_64 (by decide)) (x_lt xk_64 (by decide)) rfl ?_
                    refine r_getf (v := .int (S.1 88 3)) fe_148_132 lf_11_121 (x_c xk_88 (by decide)) (x_lt xk_88 (by decide)) rfl ?_
                    refine r_iret fe_148_135 ⟨rfl, by decide⟩ ?_
                    exact dfin (P := fun r T => Q (some (.int r)) (xst T G h)) hf hQ
                  · rw [if_neg hx10] at hf
                    by_cases hx11 : l1 = 7
                    · rw [if_pos hx11] at hf
                      refine r_tabI (off := 135) (t := 136) fe_148_1 hs1 (by rw [hx11]; decide) (by decide) ?_
                      refine r_aload_n fe_148_136 rfl ?_
                      refine r_getf (v := .ref 88) fe_148_137 lf_11_43 (x_c xk_64 (by decide)) (x_lt xk_64 (by decide)) rfl ?_
                      refine r_getf (v := .ref 95) fe_148_140 lf_11_94 (x_c xk_88 (by decide)) (x_lt xk_88 (by decide)) rfl ?_
                      refine r_getf (v := .int (S.1 95 0)) fe_148_143 lf_11_173 (x_c xk_95 (by decide)) (x_lt xk_95 (by decide)) rfl ?_
                      refine r_iret fe_148_146 ⟨rfl, by decide⟩ ?_
                      exact dfin (P := fun r T => Q (some (.int r)) (xst T G h)) hf hQ
                    · rw [if_neg hx11] at hf
                      by_cases hx12 : l1 = 8
                      · rw [if_pos hx12] at hf
                        refine r_tabI (off := 146) (t := 147) fe_148_1 hs1 (by rw [hx12]; decide) (by decide) ?_
                        refine r_aload_n fe_148_147 rfl ?_
                        refine r_getf (v := .ref 88) fe_148_148 lf_11_43 (x_c xk_64 (by decide)) (x_lt xk_64 (by decide)) rfl ?_
                        refine r_getf (v := .ref 95) fe_148_151 lf_11_94 (x_c xk_88 (by decide)) (x_lt xk_88 (by decide)) rfl ?_
                        refine r_callV (as := []) (r := []) fe_148_154 lm_11_242 md_113 rfl rfl (Nat.le_of_ble_eq_true rfl) (x_c xk_95 (by decide)) (x_lt xk_95 (by decide)) (Nat.le_of_ble_eq_true rfl) (Nat.le_of_ble_eq_true rfl) ?_
                        cases hc14 : G113 95 n  S with
                        | none => rw [hc14] at hf; cases hf
                        | some z13 =>
                          rw [hc14, Option.bind_some] at hf
                          refine G113c (r0 := z13.1) (S0 := z13.2) (h0 := wS_95) (hf := hc14) ?_
                          refine r_iret fe_148_157 ⟨rfl, by decide⟩ ?_
                          exact dfin (P := fun r T => Q (some (.int r)) (xst T G h)) hf hQ
                      · rw [if_neg hx12] at hf
                        by_cases hx15 : l1 = 9
                        · rw [if_pos hx15] at hf
                          refine r_tabI (off := 157) (t := 158) fe_148_1 hs1 (by rw [hx15]; decide) (by decide) ?_
                          refine r_aload_n fe_148_158 rfl ?_
                          refine r_getf (v := .ref 88) fe_148_159 lf_11_43 (x_c xk_64 (by decide)) (x_lt xk_64 (by decide)) rfl ?_
                          refine r_getf (v := .ref 95) fe_148_162 lf_11_94 (x_c xk_88 (by decide)) (x_lt xk_88 (by decide)) rfl ?_
                          refine r_callV (as := []) (r := []) fe_148_165 lm_11_292 md_141 rfl rfl (Nat.le_of_ble_eq_true rfl) (x_c xk_95 (by decide)) (x_lt xk_95 (by decide)) (Nat.le_of_ble_eq_true rfl) (Nat.le_of_ble_eq_true rfl) ?_
                          cases hc17 : G141 95 n  S with
                          | none => rw [hc17] at hf; cases hf
                          | some z16 =>
                            rw [hc17, Option.bind_some] at hf
                            refine G141c (r0 := z16.1) (S0 := z16.2) (h0 := wS_95) (hf := hc17) ?_
                            refine r_iret fe_148_168 ⟨rfl, by decide⟩ ?_
                            exact dfin (P := fun r T => Q (some (.int r)) (xst T G h)) hf hQ
                        · rw [if_neg hx15] at hf
                          by_cases hx18 : l1 = 10
                          · rw [if_pos hx18] at hf
                            refine r_tabI (off := 168) (t := 169) fe_148_1 hs1 (by rw [hx18]; decide) (by decide) ?_
                            refine r_aload_n fe_148_169 rfl ?_
                            refine r_getf (v := .ref 88) fe_148_170 lf_11_43 (x_c xk_64 (by decide)) (x_lt xk_64 (by decide)) rfl ?_
                            refine r_getf (v := .ref 106) fe_148_173 lf_11_104 (x_c xk_88 (by decide)) (x_lt xk_88 (by decide)) rfl ?_
                            refine r_getf (v := .int (S.1 106 2)) fe_148_176 lf_11_225 (x_c xk_106 (by decide)) (x_lt xk_106 (by decide)) rfl ?_
                            refine r_iret fe_148_179 ⟨rfl, by decide⟩ ?_
                            exact dfin (P := fun r T => Q (some (.int r)) (xst T G h)) hf hQ
                          · rw [if_neg hx18] at hf
                            by_cases hx19 : l1 = 11
                            · rw [if_pos hx19] at hf
                              refine r_tabI (off := 179) (t := 180) fe_148_1 hs1 (by rw [hx19]; decide) (by decide) ?_
                              refine r_aload_n fe_148_180 rfl ?_
                              refine r_getf (v := .ref 88) fe_148_181 lf_11_43 (x_c xk_64 (by decide)) (x_lt xk_64 (by decide)) rfl ?_
                              refine r_getf (v := .int (S.1 88 4)) fe_148_184 lf_11_301 (x_c xk_88 (by decide)) (x_lt xk_88 (by decide)) rfl ?_
                              refine r_iret fe_148_187 ⟨rfl, by decide⟩ ?_
                              exact dfin (P := fun r T => Q (some (.int r)) (xst T G h)) hf hQ
                            · rw [if_neg hx19] at hf
                              by_cases hx20 : l1 = 12
                              · rw [if_pos hx20] at hf
                                refine r_tabI (off := 187) (t := 188) fe_148_1 hs1 (by rw [hx20]; decide) (by decide) ?_
                                refine r_aload_n fe_148_188 rfl ?_
                                refine r_getf (v := .ref 65) fe_148_189 lf_11_12 (x_c xk_64 (by decide)) (x_lt xk_64 (by decide)) rfl ?_
                                refine r_getf (v := .int (S.1 65 1)) fe_148_192 lf_11_72 (x_c xk_65 (by decide)) (x_lt xk_65 (by decide)) rfl ?_
                                refine r_iret fe_148_195 ⟨rfl, by decide⟩ ?_
                                exact dfin (P := fun r T => Q (some (.int r)) (xst T G h)) hf hQ
                              · rw [if_neg hx20] at hf
                                cases hf
theorem G148c {xs : Nat → Int32} {L9 d : Nat} {G : gS} {h : Nat → va_E} {n : Nat} {Q : Option Value → AmH → Prop} {r0 : Int32} {S0 S : xS} {l1 : Int32} (hf : G148 n l1 S = some (r0, S0)) (hQ : Q (some (.int r0)) (xst S0 G h)) : Ca (am_X xs L9) (d + 1) 148 [.ref 64, .int l1] (xst S G h) Q := (G148l hQ n) l1 S hf
def G151b0 (l0 : Nat) (l1 : Nat) (F : Nat → Int32 → (xS × gS) → Option (Unit × (xS × gS))) (n : Nat) (l2 : Int32) (U : (xS × gS)) : Option (Unit × (xS × gS)) := (if pB U.2 l0 = true then ((G55 l0 n  U.1).bind (fun z2 => F 6 0 (z2.2, U.2))) else none)
def G151b6 (l0 : Nat) (l1 : Nat) (F : Nat → Int32 → (xS × gS) → Option (Unit × (xS × gS))) (n : Nat) (l2 : Int32) (U : (xS × gS)) : Option (Unit × (xS × gS)) := (if pB U.2 l1 = true then (if am_ic .ge l2 (U.1.1 l1 2) = true then some ((), (U.1, U.2)) else (if ¬ ((((U.1.1 l1 1) + l2) - ((U.1.1 l1 1) + l2) / 20 * 20) < 0 ∨ 20 ≤ ((((U.1.1 l1 1) + l2) - ((U.1.1 l1 1) + l2) / 20 * 20)).toNatClampNeg) then (Option.elim (U.1.2.2.2 (l1 + 1) (Int32.toNatClampNeg (((U.1.1 l1 1) + l2) - ((U.1.1 l1 1) + l2) / 20 * 20))) (F 6 (l2 + 1) (U.1, U.2)) (fun q8 => (if pB U.2 l0 = true then ((G83 l0 q8 n  (U.1, U.2)).bind (fun z10 => F 6 (l2 + 1) (z10.2.1, z10.2.2))) else none))) else none)) else none)
def G151f (l0 : Nat) (l1 : Nat) : Nat → Nat → Int32 → (xS × gS) → Option (Unit × (xS × gS))
  | 0, _, _, _ => none
  | n + 1, c, l2, U => if c = 0 then G151b0 l0 l1 (G151f l0 l1 n) n l2 U else G151b6 l0 l1 (G151f l0 l1 n) n l2 U
theorem G151e0 (l0 : Nat) (l1 : Nat) (n : Nat) (l2 : Int32) (U : (xS × gS)) : G151f l0 l1 (n + 1) 0 l2 U = G151b0 l0 l1 (G151f l0 l1 n) n l2 U := if_pos rfl
theorem G151e6 (l0 : Nat) (l1 : Nat) (n : Nat) (l2 : Int32) (U : (xS × gS)) : G151f l0 l1 (n + 1) 6 l2 U = G151b6 l0 l1 (G151f l0 l1 n) n l2 U := if_neg (by decide)
def G151 (l0 : Nat) (l1 : Nat) (n : Nat)  (U : (xS × gS)) : Option (Unit × (xS × gS)) := G151f l0 l1 n 0 0 U
set_option maxRecDepth 20000 in
set_option maxHeartbeats 4000000 in
theorem G151l {xs : Nat → Int32} {L9 d : Nat} {h : Nat → va_E} {l0 : Nat} {l1 : Nat} {Q : Option Value → AmH → Prop} {r0 : Unit} {U0 : (xS × gS)} (hQ : Q none (xst U0.1 U0.2 h)) : ∀ n : Nat, (∀ (l2 : Int32) (U : (xS × gS)), G151f l0 l1 n 0 l2 U = some (r0, U0) → Go (am_X xs L9) (d + 2) 151 0 [.ref l0, .ref l1, .float 0, .float 0] [] (xst U.1 U.2 h) Q) ∧ (∀ (l2 : Int32) (U : (xS × gS)), G151f l0 l1 n 6 l2 U = some (r0, U0) → Go (am_X xs L9) (d + 2) 151 6 [.ref l0, .ref l1, .int l2, .float 0] [] (xst U.1 U.2 h) Q) := by
  intro n
  induction n with
  | zero => exact ⟨fun l2 U hf => (by cases hf), fun l2 U hf => (by cases hf)⟩
  | succ n ih =>
    refine ⟨?_, ?_⟩
    · intro l2 U hf
      rw [G151e0] at hf
      unfold G151b0 at hf
      refine r_aload_n fe_151_0 rfl ?_
      by_cases hb1 : pB U.2 l0 = true
      rotate_left
      · rw [if_neg hb1] at hf; cases hf
      rw [if_pos hb1] at hf
      refine r_callV (as := []) (r := []) fe_151_1 lm_4_29 md_55 rfl rfl (Nat.le_of_ble_eq_true rfl) (x_c (pk0 hb1) (by decide)) (x_lt (pk0 hb1) (by decide)) (Nat.le_of_ble_eq_true rfl) (Nat.le_of_ble_eq_true rfl) ?_
      cases hc3 : G55 l0 n  U.1 with
      | none => rw [hc3] at hf; cases hf
      | some z2 =>
        rw [hc3, Option.bind_some] at hf
        refine G55c (r0 := z2.1) (S0 := z2.2) (h0 := hb1) (hf := hc3) ?_
        refine r_iconst (v := 0) fe_151_4 (by decide) ?_
        refine r_istore_n fe_151_5 (Nat.le_of_ble_eq_true rfl) rfl ?_
        refine go_weak (L0 := [.ref l0, .ref l1, .int 0, .float 0]) (lwk_c (Or.inl rfl) (lwk_c (Or.inl rfl) (lwk_c (Or.inl rfl) (lwk_c (Or.inl rfl) (lwk_rf []))))) ?_
        exact ih.2 0 (z2.2, U.2) hf
    · intro l2 U hf
      rw [G151e6] at hf
      unfold G151b6 at hf
      refine r_iload_n fe_151_6 rfl ?_
      refine r_aload_n fe_151_7 rfl ?_
      by_cases hb4 : pB U.2 l1 = true
      rotate_left
      · rw [if_neg hb4] at hf; cases hf
      rw [if_pos hb4] at hf
      refine r_getf (v := .int (U.1.1 l1 2)) fe_151_8 lf_4_21 (x_c (pk0 hb4) (by decide)) (x_lt (pk0 hb4) (by decide)) rfl ?_
      by_cases hb5 : am_ic .ge l2 (U.1.1 l1 2) = true
      · rw [if_pos hb5] at hf
        refine r_ic_t (t := 44) fe_151_11 (by decide) hb5 ?_
        refine r_vret fe_151_44 ?_
        exact dfin (P := fun _ T => Q none (xst T.1 T.2 h)) hf hQ
      · rw [if_neg hb5] at hf
        refine r_ic_f (t := 44) fe_151_11 (by decide) (Bool.eq_false_iff.mpr hb5) ?_
        refine r_aload_n fe_151_14 rfl ?_
        refine r_getf (v := .ref (l1 + 1)) fe_151_15 lf_4_11 (x_c (pk0 hb4) (by decide)) (x_lt (pk0 hb4) (by decide)) rfl ?_
        refine r_aload_n fe_151_18 rfl ?_
        refine r_getf (v := .int (U.1.1 l1 1)) fe_151_19 lf_4_17 (x_c (pk0 hb4) (by decide)) (x_lt (pk0 hb4) (by decide)) rfl ?_
        refine r_iload_n fe_151_22 rfl ?_
        refine r_iadd (v := ((U.1.1 l1 1) + l2)) fe_151_23 rfl ?_
        refine r_bipush (v := 20) fe_151_24 (by decide) ?_
        refine r_irem (v := (((U.1.1 l1 1) + l2) - ((U.1.1 l1 1) + l2) / 20 * 20)) fe_151_26 (by decide) rfl ?_
        by_cases hg6 : ¬ ((((U.1.1 l1 1) + l2) - ((U.1.1 l1 1) + l2) / 20 * 20) < 0 ∨ 20 ≤ ((((U.1.1 l1 1) + l2) - ((U.1.1 l1 1) + l2) / 20 * 20)).toNatClampNeg)
        rotate_left
        · rw [if_neg hg6] at hf; cases hf
        rw [if_pos hg6] at hf
        cases hm7 : U.1.2.2.2 (l1 + 1) (Int32.toNatClampNeg (((U.1.1 l1 1) + l2) - ((U.1.1 l1 1) + l2) / 20 * 20)) with
        | none =>
          rw [hm7, Option.elim_none] at hf
          refine r_aald (j := (Int32.toNatClampNeg (((U.1.1 l1 1) + l2) - ((U.1.1 l1 1) + l2) / 20 * 20))) (v := .null) fe_151_27 (x_c (pk1 hb4) (by decide)) (x_lt (pk1 hb4) (by decide)) (x_k6 (pk1 hb4) (by decide)) (by decide) (fun z => hg6 (Or.inl z)) rfl (fun z => hg6 (Or.inr z)) (by rw [hm7]; rfl) ?_
          refine r_astore_nN fe_151_28 (Nat.le_of_ble_eq_true rfl) rfl ?_
          refine r_aload_nN fe_151_29 rfl ?_
          refine r_ifnullN (t := 38) fe_151_30 (by decide) ?_
          refine r_iinc (v := (l2 + 1)) fe_151_38 rfl rfl rfl ?_
          refine r_goto (t := 6) fe_151_41 (by decide) ?_
          refine go_weak (L0 := [.ref l0, .ref l1, .int (l2 + 1), .float 0]) (lwk_c (Or.inl rfl) (lwk_c (Or.inl rfl) (lwk_c (Or.inl rfl) (lwk_c (Or.inr rfl) (lwk_rf []))))) ?_
          exact ih.2 (l2 + 1) (U.1, U.2) hf
        | some q8 =>
          rw [hm7, Option.elim_some] at hf
          refine r_aald (j := (Int32.toNatClampNeg (((U.1.1 l1 1) + l2) - ((U.1.1 l1 1) + l2) / 20 * 20))) (v := .ref q8) fe_151_27 (x_c (pk1 hb4) (by decide)) (x_lt (pk1 hb4) (by decide)) (x_k6 (pk1 hb4) (by decide)) (by decide) (fun z => hg6 (Or.inl z)) rfl (fun z => hg6 (Or.inr z)) (by rw [hm7]; rfl) ?_
          refine r_astore_n fe_151_28 (Nat.le_of_ble_eq_true rfl) rfl ?_
          refine r_aload_n fe_151_29 rfl ?_
          refine r_ifnull fe_151_30 ?_
          refine r_aload_n fe_151_33 rfl ?_
          refine r_aload_n fe_151_34 rfl ?_
          by_cases hb9 : pB U.2 l0 = true
          rotate_left
          · rw [if_neg hb9] at hf; cases hf
          rw [if_pos hb9] at hf
          refine r_callV (as := [.ref q8]) (r := []) fe_151_35 lm_4_32 md_83 rfl rfl (Nat.le_of_ble_eq_true rfl) (x_c (pk0 hb9) (by decide)) (x_lt (pk0 hb9) (by decide)) (Nat.le_of_ble_eq_true rfl) (Nat.le_of_ble_eq_true rfl) ?_
          cases hc11 : G83 l0 q8 n  (U.1, U.2) with
          | none => rw [hc11] at hf; cases hf
          | some z10 =>
            rw [hc11, Option.bind_some] at hf
            refine G83c (r0 := z10.1) (U0 := z10.2)  (hf := hc11) ?_
            refine r_iinc (v := (l2 + 1)) fe_151_38 rfl rfl rfl ?_
            refine r_goto (t := 6) fe_151_41 (by decide) ?_
            refine go_weak (L0 := [.ref l0, .ref l1, .int (l2 + 1), .float 0]) (lwk_c (Or.inl rfl) (lwk_c (Or.inl rfl) (lwk_c (Or.inl rfl) (lwk_c (Or.inr rfl) (lwk_rf []))))) ?_
            exact ih.2 (l2 + 1) (z10.2.1, z10.2.2) hf
theorem G151c {xs : Nat → Int32} {L9 d : Nat} {h : Nat → va_E} {l0 : Nat} {l1 : Nat} {n : Nat} {Q : Option Value → AmH → Prop} {r0 : Unit} {U0 U : (xS × gS)}  (hf : G151 l0 l1 n  U = some (r0, U0)) (hQ : Q none (xst U0.1 U0.2 h)) : Ca (am_X xs L9) (d + 2) 151 [.ref l0, .ref l1] (xst U.1 U.2 h) Q := (G151l hQ n).1 0 U hf
def G150b0 (l0 : Nat) (l1 : Nat) (F : Nat → (xS × gS) → Option (Unit × (xS × gS))) (n : Nat)  (U : (xS × gS)) : Option (Unit × (xS × gS)) := (if vB U.2 l0 = true then (if vB U.2 l1 = true then ((G53 (l0 + 1) (l1 + 1) n  U.1).bind (fun z3 => ((G54 (l0 + 7) (l1 + 7) n  z3.2).bind (fun z5 => ((G151 (l0 + 18) (l1 + 18) n  (z5.2, U.2)).bind (fun z7 => (if vB z7.2.2 l1 = true then (if vB z7.2.2 l0 = true then ((some (x_sI z7.2.1 l0 3 (z7.2.1.1 l1 3))).bind (fun S11 => ((some (x_sI S11 l0 4 (S11.1 l1 4))).bind (fun S13 => some ((), (S13, z7.2.2)))))) else none) else none))))))) else none) else none)
def G150f (l0 : Nat) (l1 : Nat) : Nat → Nat → (xS × gS) → Option (Unit × (xS × gS))
  | 0, _, _ => none
  | n + 1, c, U => G150b0 l0 l1 (G150f l0 l1 n) n  U
theorem G150e0 (l0 : Nat) (l1 : Nat) (n : Nat)  (U : (xS × gS)) : G150f l0 l1 (n + 1) 0  U = G150b0 l0 l1 (G150f l0 l1 n) n  U := rfl
def G150 (l0 : Nat) (l1 : Nat) (n : Nat)  (U : (xS × gS)) : Option (Unit × (xS × gS)) := G150f l0 l1 n 0  U
set_option maxRecDepth 20000 in
set_option maxHeartbeats 4000000 in
theorem G150l {xs : Nat → Int32} {L9 d : Nat} {h : Nat → va_E} {l0 : Nat} {l1 : Nat} {Q : Option Value → AmH → Prop} {r0 : Unit} {U0 : (xS × gS)} (hQ : Q none (xst U0.1 U0.2 h)) : ∀ n : Nat, (∀ (U : (xS × gS)), G150f l0 l1 n 0  U = some (r0, U0) → Go (am_X xs L9) (d + 3) 150 0 [.ref l0, .ref l1] [] (xst U.1 U.2 h) Q) := by
  intro n
  induction n with
  | zero => exact fun  U hf => (by cases hf)
  | succ n ih =>
    intro  U hf
    rw [G150e0] at hf
    unfold G150b0 at hf
    refine r_aload_n fe_150_0 rfl ?_
    by_cases hb1 : vB U.2 l0 = true
    rotate_left
    · rw [if_neg hb1] at hf; cases hf
    rw [if_pos hb1] at hf
    refine r_getf (v := .ref (l0 + 1)) fe_150_1 lf_10_12 (x_c (vk0 hb1) (by decide)) (x_lt (vk0 hb1) (by decide)) rfl ?_
    refine r_aload_n fe_150_4 rfl ?_
    by_cases hb2 : vB U.2 l1 = true
    rotate_left
    · rw [if_neg hb2] at hf; cases hf
    rw [if_pos hb2] at hf
    refine r_getf (v := .ref (l1 + 1)) fe_150_5 lf_10_12 (x_c (vk0 hb2) (by decide)) (x_lt (vk0 hb2) (by decide)) rfl ?_
    refine r_callV (as := [.ref (l1 + 1)]) (r := []) fe_150_8 lm_10_39 md_53 rfl rfl (Nat.le_of_ble_eq_true rfl) (x_c (bk0 (vkb hb1)) (by decide)) (x_lt (bk0 (vkb hb1)) (by decide)) (Nat.le_of_ble_eq_true rfl) (Nat.le_of_ble_eq_true rfl) ?_
    cases hc4 : G53 (l0 + 1) (l1 + 1) n  U.1 with
    | none => rw [hc4] at hf; cases hf
    | some z3 =>
      rw [hc4, Option.bind_some] at hf
      refine G53c (r0 := z3.1) (S0 := z3.2) (h0 := (vkb hb1)) (h1 := (vkb hb2)) (hf := hc4) ?_
      refine r_aload_n fe_150_11 rfl ?_
      refine r_getf (v := .ref (l0 + 7)) fe_150_12 lf_10_21 (x_c (vk0 hb1) (by decide)) (x_lt (vk0 hb1) (by decide)) rfl ?_
      refine r_aload_n fe_150_15 rfl ?_
      refine r_getf (v := .ref (l1 + 7)) fe_150_16 lf_10_21 (x_c (vk0 hb2) (by decide)) (x_lt (vk0 hb2) (by decide)) rfl ?_
      refine r_callV (as := [.ref (l1 + 7)]) (r := []) fe_150_19 lm_10_43 md_54 rfl rfl (Nat.le_of_ble_eq_true rfl) (x_c (wk0 (vkw hb1)) (by decide)) (x_lt (wk0 (vkw hb1)) (by decide)) (Nat.le_of_ble_eq_true rfl) (Nat.le_of_ble_eq_true rfl) ?_
      cases hc6 : G54 (l0 + 7) (l1 + 7) n  z3.2 with
      | none => rw [hc6] at hf; cases hf
      | some z5 =>
        rw [hc6, Option.bind_some] at hf
        refine G54c (r0 := z5.1) (S0 := z5.2) (h0 := (vkw hb1)) (h1 := (vkw hb2)) (hf := hc6) ?_
        refine r_aload_n fe_150_22 rfl ?_
        refine r_getf (v := .ref (l0 + 18)) fe_150_23 lf_10_28 (x_c (vk0 hb1) (by decide)) (x_lt (vk0 hb1) (by decide)) rfl ?_
        refine r_aload_n fe_150_26 rfl ?_
        refine r_getf (v := .ref (l1 + 18)) fe_150_27 lf_10_28 (x_c (vk0 hb2) (by decide)) (x_lt (vk0 hb2) (by decide)) rfl ?_
        refine r_callV (as := [.ref (l1 + 18)]) (r := []) fe_150_30 lm_10_46 md_151 rfl rfl (Nat.le_of_ble_eq_true rfl) (x_c (pk0 (vkp hb1)) (by decide)) (x_lt (pk0 (vkp hb1)) (by decide)) (Nat.le_of_ble_eq_true rfl) (Nat.le_of_ble_eq_true rfl) ?_
        cases hc8 : G151 (l0 + 18) (l1 + 18) n  (z5.2, U.2) with
        | none => rw [hc8] at hf; cases hf
        | some z7 =>
          rw [hc8, Option.bind_some] at hf
          refine G151c (r0 := z7.1) (U0 := z7.2)  (hf := hc8) ?_
          refine r_aload_n fe_150_33 rfl ?_
          refine r_aload_n fe_150_34 rfl ?_
          by_cases hb9 : vB z7.2.2 l1 = true
          rotate_left
          · rw [if_neg hb9] at hf; cases hf
          rw [if_pos hb9] at hf
          refine r_getf (v := .int (z7.2.1.1 l1 3)) fe_150_35 lf_10_32 (x_c (vk0 hb9) (by decide)) (x_lt (vk0 hb9) (by decide)) rfl ?_
          by_cases hb10 : vB z7.2.2 l0 = true
          rotate_left
          · rw [if_neg hb10] at hf; cases hf
          rw [if_pos hb10] at hf
          refine r_putf fe_150_38 lf_10_32 (x_h (vk0 hb10) (by decide)) (x_lt (vk0 hb10) (by decide)) (x_k6 (vk0 hb10) (by decide)) (Nat.le_of_ble_eq_true rfl) rfl rfl (Or.inl rfl) ?_
          obtain ⟨S11, e12, hf⟩ := dbnd hf
          refine go_heap (h2 := xst S11 z7.2.2 h) ((x_uI (j := 3) (x := (z7.2.1.1 l1 3)) (vk0 hb10) (by decide)).trans (by rw [e12])) ?_
          refine r_aload_n fe_150_41 rfl ?_
          refine r_aload_n fe_150_42 rfl ?_
          refine r_getf (v := .int (S11.1 l1 4)) fe_150_43 lf_10_36 (x_c (vk0 hb9) (by decide)) (x_lt (vk0 hb9) (by decide)) rfl ?_
          refine r_putf fe_150_46 lf_10_36 (x_h (vk0 hb10) (by decide)) (x_lt (vk0 hb10) (by decide)) (x_k6 (vk0 hb10) (by decide)) (Nat.le_of_ble_eq_true rfl) rfl rfl (Or.inl rfl) ?_
          obtain ⟨S13, e14, hf⟩ := dbnd hf
          refine go_heap (h2 := xst S13 z7.2.2 h) ((x_uI (j := 4) (x := (S11.1 l1 4)) (vk0 hb10) (by decide)).trans (by rw [e14])) ?_
          refine r_vret fe_150_49 ?_
          exact dfin (P := fun _ T => Q none (xst T.1 T.2 h)) hf hQ
theorem G150c {xs : Nat → Int32} {L9 d : Nat} {h : Nat → va_E} {l0 : Nat} {l1 : Nat} {n : Nat} {Q : Option Value → AmH → Prop} {r0 : Unit} {U0 U : (xS × gS)}  (hf : G150 l0 l1 n  U = some (r0, U0)) (hQ : Q none (xst U0.1 U0.2 h)) : Ca (am_X xs L9) (d + 3) 150 [.ref l0, .ref l1] (xst U.1 U.2 h) Q := (G150l hQ n)  U hf
def G149b0 (F : Nat → Int32 → (xS × gS) → Option (Int32 × (xS × gS))) (n : Nat) (l1 : Int32) (U : (xS × gS)) : Option (Int32 × (xS × gS)) := (if am_if .lt l1 = true then some ((-1), (U.1, U.2)) else (if am_ic .lt l1 4 = true then (if ¬ (l1 < 0 ∨ 4 ≤ (l1).toNatClampNeg) then (Option.elim (U.1.2.2.2 108 (Int32.toNatClampNeg l1)) ((some (x_nV U.1 U.2)).bind (fun U6 => (if ¬ (l1 < 0 ∨ 4 ≤ (l1).toNatClampNeg) then (if vB U6.2 (172 + U.2.2.1) = true then ((some (x_sQ U6.1 108 (Int32.toNatClampNeg l1) (some (172 + U.2.2.1)))).bind (fun S10 => (if ¬ (l1 < 0 ∨ 4 ≤ (l1).toNatClampNeg) then (Option.elim (S10.2.2.2 108 (Int32.toNatClampNeg l1)) none (fun q14 => (if vB U6.2 q14 = true then ((G150 q14 88 n  (S10, U6.2)).bind (fun z16 => some ((z16.2.1.1 95 0), (z16.2.1, z16.2.2)))) else none))) else none))) else none) else none))) (fun q5 => (if ¬ (l1 < 0 ∨ 4 ≤ (l1).toNatClampNeg) then (if vB U.2 q5 = true then ((G150 q5 88 n  (U.1, U.2)).bind (fun z22 => some ((z22.2.1.1 95 0), (z22.2.1, z22.2.2)))) else none) else none))) else none) else some ((-1), (U.1, U.2))))
def G149f : Nat → Nat → Int32 → (xS × gS) → Option (Int32 × (xS × gS))
  | 0, _, _, _ => none
  | n + 1, c, l1, U => G149b0 (G149f n) n l1 U
theorem G149e0 (n : Nat) (l1 : Int32) (U : (xS × gS)) : G149f (n + 1) 0 l1 U = G149b0 (G149f n) n l1 U := rfl
def G149 (n : Nat) (l1 : Int32) (U : (xS × gS)) : Option (Int32 × (xS × gS)) := G149f n 0 l1 U
set_option maxRecDepth 20000 in
set_option maxHeartbeats 4000000 in
theorem G149l {xs : Nat → Int32} {L9 d : Nat} {h : Nat → va_E} {Q : Option Value → AmH → Prop} {r0 : Int32} {U0 : (xS × gS)} (hQ : Q (some (.int r0)) (xst U0.1 U0.2 h)) : ∀ n : Nat, (∀ (l1 : Int32) (U : (xS × gS)), G149f n 0 l1 U = some (r0, U0) → Go (am_X xs L9) (d + 4) 149 0 [.ref 64, .int l1] [] (xst U.1 U.2 h) Q) := by
  intro n
  induction n with
  | zero => exact fun l1 U hf => (by cases hf)
  | succ n ih =>
    intro l1 U hf
    rw [G149e0] at hf
    unfold G149b0 at hf
    refine r_iload_n fe_149_0 rfl ?_
    by_cases hb1 : am_if .lt l1 = true
    · rw [if_pos hb1] at hf
      refine r_if_t (t := 9) fe_149_1 (by decide) hb1 ?_
      refine r_iconst (v := -1) fe_149_9 (by decide) ?_
      refine r_iret fe_149_10 ⟨rfl, by decide⟩ ?_
      exact dfin (P := fun r T => Q (some (.int r)) (xst T.1 T.2 h)) hf hQ
    · rw [if_neg hb1] at hf
      refine r_if_f (t := 9) fe_149_1 (by decide) (Bool.eq_false_iff.mpr hb1) ?_
      refine r_iload_n fe_149_4 rfl ?_
      refine r_iconst (v := 4) fe_149_5 (by decide) ?_
      by_cases hb2 : am_ic .lt l1 4 = true
      · rw [if_pos hb2] at hf
        refine r_ic_t (t := 11) fe_149_6 (by decide) hb2 ?_
        refine r_aload_n fe_149_11 rfl ?_
        refine r_getf (v := .ref 108) fe_149_12 lf_11_47 (x_c xk_64 (by decide)) (x_lt xk_64 (by decide)) rfl ?_
        refine r_iload_n fe_149_15 rfl ?_
        by_cases hg3 : ¬ (l1 < 0 ∨ 4 ≤ (l1).toNatClampNeg)
        rotate_left
        · rw [if_neg hg3] at hf; cases hf
        rw [if_pos hg3] at hf
        cases hm4 : U.1.2.2.2 108 (Int32.toNatClampNeg l1) with
        | none =>
          rw [hm4, Option.elim_none] at hf
          refine r_aald (j := (Int32.toNatClampNeg l1)) (v := .null) fe_149_16 (x_c xk_108 (by decide)) (x_lt xk_108 (by decide)) (by decide) (by decide) (fun z => hg3 (Or.inl z)) rfl (fun z => hg3 (Or.inr z)) (by rw [hm4]; rfl) ?_
          refine r_ifnonnullN fe_149_17 ?_
          refine r_aload_n fe_149_20 rfl ?_
          refine r_getf (v := .ref 108) fe_149_21 lf_11_47 (x_c xk_64 (by decide)) (x_lt xk_64 (by decide)) rfl ?_
          refine r_iload_n fe_149_24 rfl ?_
          refine r_newV fe_149_25 fe_149_28 fe_149_29 lct_11_40 lm_11_42 (Nat.le_of_ble_eq_true rfl) ?_
          obtain ⟨U6, e7, hf⟩ := dbnd hf
          refine go_heap (h2 := xst U6.1 U6.2 h) (by rw [e7]) ?_
          by_cases hg8 : ¬ (l1 < 0 ∨ 4 ≤ (l1).toNatClampNeg)
          rotate_left
          · rw [if_neg hg8] at hf; cases hf
          rw [if_pos hg8] at hf
          by_cases hb9 : vB U6.2 (172 + U.2.2.1) = true
          rotate_left
          · rw [if_neg hb9] at hf; cases hf
          rw [if_pos hb9] at hf
          refine r_aast (j := (Int32.toNatClampNeg l1)) fe_149_32 (x_h xk_108 (by decide)) (x_h (vk0 hb9) (by decide)) (x_lt xk_108 (by decide)) (by decide) (x_lt (vk0 hb9) (by decide)) (x_k6 (vk0 hb9) (by decide)) (by decide) (fun z => hg8 (Or.inl z)) rfl (fun z => hg8 (Or.inr z)) ?_
          obtain ⟨S10, e11, hf⟩ := dbnd hf
          refine go_heap (h2 := xst S10 U6.2 h) ((x_uQ (j := (Int32.toNatClampNeg l1)) (v := some (172 + U.2.2.1)) xk_108 (by decide)).trans (by rw [e11])) ?_
          refine r_aload_n fe_149_33 rfl ?_
          refine r_getf (v := .ref 108) fe_149_34 lf_11_47 (x_c xk_64 (by decide)) (x_lt xk_64 (by decide)) rfl ?_
          refine r_iload_n fe_149_37 rfl ?_
          by_cases hg12 : ¬ (l1 < 0 ∨ 4 ≤ (l1).toNatClampNeg)
          rotate_left
          · rw [if_neg hg12] at hf; cases hf
          rw [if_pos hg12] at hf
          cases hm13 : S10.2.2.2 108 (Int32.toNatClampNeg l1) with
          | none =>
            rw [hm13, Option.elim_none] at hf
            refine r_aald (j := (Int32.toNatClampNeg l1)) (v := .null) fe_149_38 (x_c xk_108 (by decide)) (x_lt xk_108 (by decide)) (by decide) (by decide) (fun z => hg12 (Or.inl z)) rfl (fun z => hg12 (Or.inr z)) (by rw [hm13]; rfl) ?_
            refine r_aload_n fe_149_39 rfl ?_
            refine r_getf (v := .ref 88) fe_149_40 lf_11_43 (x_c xk_64 (by decide)) (x_lt xk_64 (by decide)) rfl ?_
            cases hf
          | some q14 =>
            rw [hm13, Option.elim_some] at hf
            refine r_aald (j := (Int32.toNatClampNeg l1)) (v := .ref q14) fe_149_38 (x_c xk_108 (by decide)) (x_lt xk_108 (by decide)) (by decide) (by decide) (fun z => hg12 (Or.inl z)) rfl (fun z => hg12 (Or.inr z)) (by rw [hm13]; rfl) ?_
            refine r_aload_n fe_149_39 rfl ?_
            refine r_getf (v := .ref 88) fe_149_40 lf_11_43 (x_c xk_64 (by decide)) (x_lt xk_64 (by decide)) rfl ?_
            by_cases hb15 : vB U6.2 q14 = true
            rotate_left
            · rw [if_neg hb15] at hf; cases hf
            rw [if_pos hb15] at hf
            refine r_callV (as := [.ref 88]) (r := []) fe_149_43 lm_11_307 md_150 rfl rfl (Nat.le_of_ble_eq_true rfl) (x_c (vk0 hb15) (by decide)) (x_lt (vk0 hb15) (by decide)) (Nat.le_of_ble_eq_true rfl) (Nat.le_of_ble_eq_true rfl) ?_
            cases hc17 : G150 q14 88 n  (S10, U6.2) with
            | none => rw [hc17] at hf; cases hf
            | some z16 =>
              rw [hc17, Option.bind_some] at hf
              refine G150c (r0 := z16.1) (U0 := z16.2)  (hf := hc17) ?_
              refine r_aload_n fe_149_46 rfl ?_
              refine r_getf (v := .ref 88) fe_149_47 lf_11_43 (x_c xk_64 (by decide)) (x_lt xk_64 (by decide)) rfl ?_
              refine r_getf (v := .ref 95) fe_149_50 lf_11_94 (x_c xk_88 (by decide)) (x_lt xk_88 (by decide)) rfl ?_
              refine r_getf (v := .int (z16.2.1.1 95 0)) fe_149_53 lf_11_173 (x_c xk_95 (by decide)) (x_lt xk_95 (by decide)) rfl ?_
              refine r_iret fe_149_56 ⟨rfl, by decide⟩ ?_
              exact dfin (P := fun r T => Q (some (.int r)) (xst T.1 T.2 h)) hf hQ
        | some q5 =>
          rw [hm4, Option.elim_some] at hf
          refine r_aald (j := (Int32.toNatClampNeg l1)) (v := .ref q5) fe_149_16 (x_c xk_108 (by decide)) (x_lt xk_108 (by decide)) (by decide) (by decide) (fun z => hg3 (Or.inl z)) rfl (fun z => hg3 (Or.inr z)) (by rw [hm4]; rfl) ?_
          refine r_ifnonnull (t := 33) fe_149_17 (by decide) ?_
          refine r_aload_n fe_149_33 rfl ?_
          refine r_getf (v := .ref 108) fe_149_34 lf_11_47 (x_c xk_64 (by decide)) (x_lt xk_64 (by decide)) rfl ?_
          refine r_iload_n fe_149_37 rfl ?_
          by_cases hg18 : ¬ (l1 < 0 ∨ 4 ≤ (l1).toNatClampNeg)
          rotate_left
          · rw [if_neg hg18] at hf; cases hf
          rw [if_pos hg18] at hf
          refine r_aald (j := (Int32.toNatClampNeg l1)) (v := .ref q5) fe_149_38 (x_c xk_108 (by decide)) (x_lt xk_108 (by decide)) (by decide) (by decide) (fun z => hg18 (Or.inl z)) rfl (fun z => hg18 (Or.inr z)) (by rw [hm4]; rfl) ?_
          refine r_aload_n fe_149_39 rfl ?_
          refine r_getf (v := .ref 88) fe_149_40 lf_11_43 (x_c xk_64 (by decide)) (x_lt xk_64 (by decide)) rfl ?_
          by_cases hb21 : vB U.2 q5 = true
          rotate_left
          · rw [if_neg hb21] at hf; cases hf
          rw [if_pos hb21] at hf
          refine r_callV (as := [.ref 88]) (r := []) fe_149_43 lm_11_307 md_150 rfl rfl (Nat.le_of_ble_eq_true rfl) (x_c (vk0 hb21) (by decide)) (x_lt (vk0 hb21) (by decide)) (Nat.le_of_ble_eq_true rfl) (Nat.le_of_ble_eq_true rfl) ?_
          cases hc23 : G150 q5 88 n  (U.1, U.2) with
          | none => rw [hc23] at hf; cases hf
          | some z22 =>
            rw [hc23, Option.bind_some] at hf
            refine G150c (r0 := z22.1) (U0 := z22.2)  (hf := hc23) ?_
            refine r_aload_n fe_149_46 rfl ?_
            refine r_getf (v := .ref 88) fe_149_47 lf_11_43 (x_c xk_64 (by decide)) (x_lt xk_64 (by decide)) rfl ?_
            refine r_getf (v := .ref 95) fe_149_50 lf_11_94 (x_c xk_88 (by decide)) (x_lt xk_88 (by decide)) rfl ?_
            refine r_getf (v := .int (z22.2.1.1 95 0)) fe_149_53 lf_11_173 (x_c xk_95 (by decide)) (x_lt xk_95 (by decide)) rfl ?_
            refine r_iret fe_149_56 ⟨rfl, by decide⟩ ?_
            exact dfin (P := fun r T => Q (some (.int r)) (xst T.1 T.2 h)) hf hQ
      · rw [if_neg hb2] at hf
        refine r_ic_f (t := 11) fe_149_6 (by decide) (Bool.eq_false_iff.mpr hb2) ?_
        refine r_iconst (v := -1) fe_149_9 (by decide) ?_
        refine r_iret fe_149_10 ⟨rfl, by decide⟩ ?_
        exact dfin (P := fun r T => Q (some (.int r)) (xst T.1 T.2 h)) hf hQ
theorem G149c {xs : Nat → Int32} {L9 d : Nat} {h : Nat → va_E} {n : Nat} {Q : Option Value → AmH → Prop} {r0 : Int32} {U0 U : (xS × gS)} {l1 : Int32} (hf : G149 n l1 U = some (r0, U0)) (hQ : Q (some (.int r0)) (xst U0.1 U0.2 h)) : Ca (am_X xs L9) (d + 4) 149 [.ref 64, .int l1] (xst U.1 U.2 h) Q := (G149l hQ n) l1 U hf
def G152b0 (F : Nat → Int32 → (xS × gS) → Option (Int32 × (xS × gS))) (n : Nat) (l1 : Int32) (U : (xS × gS)) : Option (Int32 × (xS × gS)) := (if am_if .lt l1 = true then some ((-1), (U.1, U.2)) else (if am_ic .ge l1 4 = true then some ((-1), (U.1, U.2)) else (if ¬ (l1 < 0 ∨ 4 ≤ (l1).toNatClampNeg) then (Option.elim (U.1.2.2.2 108 (Int32.toNatClampNeg l1)) (some ((-1), (U.1, U.2))) (fun q5 => (if ¬ (l1 < 0 ∨ 4 ≤ (l1).toNatClampNeg) then ((G150 88 q5 n  (U.1, U.2)).bind (fun z9 => some ((z9.2.1.1 95 0), (z9.2.1, z9.2.2)))) else none))) else none)))
def G152f : Nat → Nat → Int32 → (xS × gS) → Option (Int32 × (xS × gS))
  | 0, _, _, _ => none
  | n + 1, c, l1, U => G152b0 (G152f n) n l1 U
theorem G152e0 (n : Nat) (l1 : Int32) (U : (xS × gS)) : G152f (n + 1) 0 l1 U = G152b0 (G152f n) n l1 U := rfl
def G152 (n : Nat) (l1 : Int32) (U : (xS × gS)) : Option (Int32 × (xS × gS)) := G152f n 0 l1 U
set_option maxRecDepth 20000 in
set_option maxHeartbeats 4000000 in
theorem G152l {xs : Nat → Int32} {L9 d : Nat} {h : Nat → va_E} {Q : Option Value → AmH → Prop} {r0 : Int32} {U0 : (xS × gS)} (hQ : Q (some (.int r0)) (xst U0.1 U0.2 h)) : ∀ n : Nat, (∀ (l1 : Int32) (U : (xS × gS)), G152f n 0 l1 U = some (r0, U0) → Go (am_X xs L9) (d + 4) 152 0 [.ref 64, .int l1] [] (xst U.1 U.2 h) Q) := by
  intro n
  induction n with
  | zero => exact fun l1 U hf => (by cases hf)
  | succ n ih =>
    intro l1 U hf
    rw [G152e0] at hf
    unfold G152b0 at hf
    refine r_iload_n fe_152_0 rfl ?_
    by_cases hb1 : am_if .lt l1 = true
    · rw [if_pos hb1] at hf
      refine r_if_t (t := 18) fe_152_1 (by decide) hb1 ?_
      refine r_iconst (v := -1) fe_152_18 (by decide) ?_
      refine r_iret fe_152_19 ⟨rfl, by decide⟩ ?_
      exact dfin (P := fun r T => Q (some (.int r)) (xst T.1 T.2 h)) hf hQ
    · rw [if_neg hb1] at hf
      refine r_if_f (t := 18) fe_152_1 (by decide) (Bool.eq_false_iff.mpr hb1) ?_
      refine r_iload_n fe_152_4 rfl ?_
      refine r_iconst (v := 4) fe_152_5 (by decide) ?_
      by_cases hb2 : am_ic .ge l1 4 = true
      · rw [if_pos hb2] at hf
        refine r_ic_t (t := 18) fe_152_6 (by decide) hb2 ?_
        refine r_iconst (v := -1) fe_152_18 (by decide) ?_
        refine r_iret fe_152_19 ⟨rfl, by decide⟩ ?_
        exact dfin (P := fun r T => Q (some (.int r)) (xst T.1 T.2 h)) hf hQ
      · rw [if_neg hb2] at hf
        refine r_ic_f (t := 18) fe_152_6 (by decide) (Bool.eq_false_iff.mpr hb2) ?_
        refine r_aload_n fe_152_9 rfl ?_
        refine r_getf (v := .ref 108) fe_152_10 lf_11_47 (x_c xk_64 (by decide)) (x_lt xk_64 (by decide)) rfl ?_
        refine r_iload_n fe_152_13 rfl ?_
        by_cases hg3 : ¬ (l1 < 0 ∨ 4 ≤ (l1).toNatClampNeg)
        rotate_left
        · rw [if_neg hg3] at hf; cases hf
        rw [if_pos hg3] at hf
        cases hm4 : U.1.2.2.2 108 (Int32.toNatClampNeg l1) with
        | none =>
          rw [hm4, Option.elim_none] at hf
          refine r_aald (j := (Int32.toNatClampNeg l1)) (v := .null) fe_152_14 (x_c xk_108 (by decide)) (x_lt xk_108 (by decide)) (by decide) (by decide) (fun z => hg3 (Or.inl z)) rfl (fun z => hg3 (Or.inr z)) (by rw [hm4]; rfl) ?_
          refine r_ifnonnullN fe_152_15 ?_
          refine r_iconst (v := -1) fe_152_18 (by decide) ?_
          refine r_iret fe_152_19 ⟨rfl, by decide⟩ ?_
          exact dfin (P := fun r T => Q (some (.int r)) (xst T.1 T.2 h)) hf hQ
        | some q5 =>
          rw [hm4, Option.elim_some] at hf
          refine r_aald (j := (Int32.toNatClampNeg l1)) (v := .ref q5) fe_152_14 (x_c xk_108 (by decide)) (x_lt xk_108 (by decide)) (by decide) (by decide) (fun z => hg3 (Or.inl z)) rfl (fun z => hg3 (Or.inr z)) (by rw [hm4]; rfl) ?_
          refine r_ifnonnull (t := 20) fe_152_15 (by decide) ?_
          refine r_aload_n fe_152_20 rfl ?_
          refine r_getf (v := .ref 88) fe_152_21 lf_11_43 (x_c xk_64 (by decide)) (x_lt xk_64 (by decide)) rfl ?_
          refine r_aload_n fe_152_24 rfl ?_
          refine r_getf (v := .ref 108) fe_152_25 lf_11_47 (x_c xk_64 (by decide)) (x_lt xk_64 (by decide)) rfl ?_
          refine r_iload_n fe_152_28 rfl ?_
          by_cases hg6 : ¬ (l1 < 0 ∨ 4 ≤ (l1).toNatClampNeg)
          rotate_left
          · rw [if_neg hg6] at hf; cases hf
          rw [if_pos hg6] at hf
          refine r_aald (j := (Int32.toNatClampNeg l1)) (v := .ref q5) fe_152_29 (x_c xk_108 (by decide)) (x_lt xk_108 (by decide)) (by decide) (by decide) (fun z => hg6 (Or.inl z)) rfl (fun z => hg6 (Or.inr z)) (by rw [hm4]; rfl) ?_
          refine r_callV (as := [.ref q5]) (r := []) fe_152_30 lm_11_307 md_150 rfl rfl (Nat.le_of_ble_eq_true rfl) (x_c xk_88 (by decide)) (x_lt xk_88 (by decide)) (Nat.le_of_ble_eq_true rfl) (Nat.le_of_ble_eq_true rfl) ?_
          cases hc10 : G150 88 q5 n  (U.1, U.2) with
          | none => rw [hc10] at hf; cases hf
          | some z9 =>
            rw [hc10, Option.bind_some] at hf
            refine G150c (r0 := z9.1) (U0 := z9.2)  (hf := hc10) ?_
            refine r_aload_n fe_152_33 rfl ?_
            refine r_getf (v := .ref 88) fe_152_34 lf_11_43 (x_c xk_64 (by decide)) (x_lt xk_64 (by decide)) rfl ?_
            refine r_getf (v := .ref 95) fe_152_37 lf_11_94 (x_c xk_88 (by decide)) (x_lt xk_88 (by decide)) rfl ?_
            refine r_getf (v := .int (z9.2.1.1 95 0)) fe_152_40 lf_11_173 (x_c xk_95 (by decide)) (x_lt xk_95 (by decide)) rfl ?_
            refine r_iret fe_152_43 ⟨rfl, by decide⟩ ?_
            exact dfin (P := fun r T => Q (some (.int r)) (xst T.1 T.2 h)) hf hQ
theorem G152c {xs : Nat → Int32} {L9 d : Nat} {h : Nat → va_E} {n : Nat} {Q : Option Value → AmH → Prop} {r0 : Int32} {U0 U : (xS × gS)} {l1 : Int32} (hf : G152 n l1 U = some (r0, U0)) (hQ : Q (some (.int r0)) (xst U0.1 U0.2 h)) : Ca (am_X xs L9) (d + 4) 152 [.ref 64, .int l1] (xst U.1 U.2 h) Q := (G152l hQ n) l1 U hf
