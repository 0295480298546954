def F255b0 (F : Nat → Int32 → Int32 → mS → Option (Int32 × mS)) (n : Nat) (l1 : Int32) (l2 : Int32) (S : mS) : Option (Int32 × mS) := F 4 0 0 S
def F255b4 (F : Nat → Int32 → Int32 → mS → Option (Int32 × mS)) (n : Nat) (l1 : Int32) (l2 : Int32) (S : mS) : Option (Int32 × mS) := (if am_ic .ge l2 (S.2.1 1 4) = true then some (l1, S) else (if ¬ (l2 < 0 ∨ 13 ≤ (l2).toNatClampNeg) then (if am_ic .ne (S.2.1 13 (Int32.toNatClampNeg l2)) 1 = true then F 4 (l1 + 0) (l2 + 1) S else F 4 (l1 + 1) (l2 + 1) S) else none))
def F255f : Nat → Nat → Int32 → Int32 → mS → Option (Int32 × mS)
  | 0, _, _, _, _ => none
  | n + 1, c, l1, l2, S => if c = 0 then F255b0 (F255f n) n l1 l2 S else F255b4 (F255f n) n l1 l2 S
theorem F255e0 (n : Nat) (l1 : Int32) (l2 : Int32) (S : mS) : F255f (n + 1) 0 l1 l2 S = F255b0 (F255f n) n l1 l2 S := if_pos rfl
theorem F255e4 (n : Nat) (l1 : Int32) (l2 : Int32) (S : mS) : F255f (n + 1) 4 l1 l2 S = F255b4 (F255f n) n l1 l2 S := if_neg (by decide)
def F255 (n : Nat)  (S : mS) : Option (Int32 × mS) := F255f n 0 0 0 S
set_option maxRecDepth 20000 in
set_option maxHeartbeats 2000000 in
theorem F255l {xs : Nat → Int32} {L9 d : Nat} {h : AmH} {Q : Option Value → AmH → Prop} {r0 : Int32} {S0 : mS} (hh : 172 ≤ h.2.1) (hQ : Q (some (.int r0)) (mst S0 h)) : ∀ n : Nat, (∀ (l1 : Int32) (l2 : Int32) (S : mS), F255f n 0 l1 l2 S = some (r0, S0) → Go (am_X xs L9) (d + 0) 255 0 [.ref 130, .float 0, .float 0] [] (mst S h) Q) ∧ (∀ (l1 : Int32) (l2 : Int32) (S : mS), F255f n 4 l1 l2 S = some (r0, S0) → Go (am_X xs L9) (d + 0) 255 4 [.ref 130, .int l1, .int l2] [] (mst S h) Q) := by
  intro n
  induction n with
  | zero => exact ⟨fun l1 l2 S hf => (by cases hf), fun l1 l2 S hf => (by cases hf)⟩
  | succ n ih =>
    refine ⟨?_, ?_⟩
    · intro l1 l2 S hf
      rw [F255e0] at hf
      unfold F255b0 at hf
      refine r_iconst (v := 0) fe_255_0 (by decide) ?_
      refine r_istore_n fe_255_1 (Nat.le_of_ble_eq_true rfl) rfl ?_
      refine r_iconst (v := 0) fe_255_2 (by decide) ?_
      refine r_istore_n fe_255_3 (Nat.le_of_ble_eq_true rfl) rfl ?_
      refine go_weak (L0 := [.ref 130, .int 0, .int 0]) (lwk_c (Or.inl rfl) (lwk_c (Or.inl rfl) (lwk_c (Or.inl rfl) (lwk_rf [])))) ?_
      exact ih.2 0 0 S hf
    · intro l1 l2 S hf
      rw [F255e4] at hf
      unfold F255b4 at hf
      refine r_iload_n fe_255_4 rfl ?_
      refine r_aload_n fe_255_5 rfl ?_
      refine mr_getf hh fe_255_6 lf_12_9 rfl ?_
      refine r_iconst (v := 4) fe_255_9 (by decide) ?_
      refine r_iald (j := 4) (v := S.2.1 1 4) fe_255_10 m_c_1 (m_lt hh (by decide)) (by decide) (by decide) (by decide) rfl ?_
      by_cases hb1 : am_ic .ge l2 (S.2.1 1 4) = true
      · rw [if_pos hb1] at hf
        refine r_ic_t (t := 38) fe_255_11 (by decide) hb1 ?_
        refine r_iload_n fe_255_38 rfl ?_
        refine r_iret fe_255_39 ⟨rfl, by decide⟩ ?_
        exact dfin (P := fun r T => Q (some (.int r)) (mst T h)) hf hQ
      · rw [if_neg hb1] at hf
        refine r_ic_f (t := 38) fe_255_11 (by decide) (Bool.eq_false_iff.mpr hb1) ?_
        refine r_iload_n fe_255_14 rfl ?_
        refine r_aload_n fe_255_15 rfl ?_
        refine mr_getf hh fe_255_16 lf_12_46 rfl ?_
        refine r_iload_n fe_255_19 rfl ?_
        by_cases hg2 : ¬ (l2 < 0 ∨ 13 ≤ (l2).toNatClampNeg)
        rotate_left
        · rw [if_neg hg2] at hf; cases hf
        rw [if_pos hg2] at hf
        refine r_iald (j := (Int32.toNatClampNeg l2)) (v := S.2.1 13 (Int32.toNatClampNeg l2)) fe_255_20 m_c_13 (m_lt hh (by decide)) (fun z => hg2 (Or.inl z)) rfl (fun z => hg2 (Or.inr z)) rfl ?_
        refine r_iconst (v := 1) fe_255_21 (by decide) ?_
        by_cases hb3 : am_ic .ne (S.2.1 13 (Int32.toNatClampNeg l2)) 1 = true
        · rw [if_pos hb3] at hf
          refine r_ic_t (t := 29) fe_255_22 (by decide) hb3 ?_
          refine r_iconst (v := 0) fe_255_29 (by decide) ?_
          refine r_iadd (v := (l1 + 0)) fe_255_30 rfl ?_
          refine r_istore_n fe_255_31 (Nat.le_of_ble_eq_true rfl) rfl ?_
          refine r_iinc (v := (l2 + 1)) fe_255_32 rfl rfl rfl ?_
          refine r_goto (t := 4) fe_255_35 (by decide) ?_
          refine go_weak (L0 := [.ref 130, .int (l1 + 0), .int (l2 + 1)]) (lwk_c (Or.inl rfl) (lwk_c (Or.inl rfl) (lwk_c (Or.inl rfl) (lwk_rf [])))) ?_
          exact ih.2 (l1 + 0) (l2 + 1) S hf
        · rw [if_neg hb3] at hf
          refine r_ic_f (t := 29) fe_255_22 (by decide) (Bool.eq_false_iff.mpr hb3) ?_
          refine r_iconst (v := 1) fe_255_25 (by decide) ?_
          refine r_goto (t := 30) fe_255_26 (by decide) ?_
          refine r_iadd (v := (l1 + 1)) fe_255_30 rfl ?_
          refine r_istore_n fe_255_31 (Nat.le_of_ble_eq_true rfl) rfl ?_
          refine r_iinc (v := (l2 + 1)) fe_255_32 rfl rfl rfl ?_
          refine r_goto (t := 4) fe_255_35 (by decide) ?_
          refine go_weak (L0 := [.ref 130, .int (l1 + 1), .int (l2 + 1)]) (lwk_c (Or.inl rfl) (lwk_c (Or.inl rfl) (lwk_c (Or.inl rfl) (lwk_rf [])))) ?_
          exact ih.2 (l1 + 1) (l2 + 1) S hf
theorem F255c {xs : Nat → Int32} {L9 d n : Nat} {h : AmH} {Q : Option Value → AmH → Prop} {r0 : Int32} {S0 S : mS}  (hh : 172 ≤ h.2.1) (hf : F255 n  S = some (r0, S0)) (hQ : Q (some (.int r0)) (mst S0 h)) : Ca (am_X xs L9) (d + 0) 255 [.ref 130] (mst S h) Q := (F255l hh hQ n).1 0 0 S hf
def F254b0 (F : Nat → Int32 → Int32 → Int32 → Int32 → Int32 → Int32 → mS → Option (Int32 × mS)) (n : Nat) (l1 : Int32) (l2 : Int32) (l3 : Int32) (l4 : Int32) (l5 : Int32) (l6 : Int32) (S : mS) : Option (Int32 × mS) := ((F210 n  S).bind (fun z1 => (if am_if .eq z1.1 = true then some ((-1), z1.2) else ((F172 n (Int32.toInt64 l1) 1 60 z1.2).bind (fun z4 => (if am_if .eq z4.1 = true then some ((-1), z4.2) else ((F172 n (Int32.toInt64 l2) 0 1 z4.2).bind (fun z7 => (if am_if .ne z7.1 = true then ((F239 n  z7.2).bind (fun z10 => F 55 l1 l2 (-1) (-1) ((1 <<< ((z7.2.2.1 1 2) &&& 31)) - 1) 0 z10.2)) else some ((-1), z7.2))))))))))
def F254b55 (F : Nat → Int32 → Int32 → Int32 → Int32 → Int32 → Int32 → mS → Option (Int32 × mS)) (n : Nat) (l1 : Int32) (l2 : Int32) (l3 : Int32) (l4 : Int32) (l5 : Int32) (l6 : Int32) (S : mS) : Option (Int32 × mS) := (if am_ic .gt l6 l5 = true then (if am_if .ne l2 = true then some (l4, S) else some (l3, S)) else ((F242 n l1 (m_sA S 1 5 (l5 &&& (l6 ^^^ (-1))))).bind (fun z14 => ((F255 n  z14.2).bind (fun z16 => (if am_ic .le z16.1 l4 = true then ((F243 n  z16.2).bind (fun z19 => F 55 l1 l2 l3 l4 l5 (l6 + 1) z19.2)) else ((F255 n  z16.2).bind (fun z21 => ((F243 n  z21.2).bind (fun z23 => F 55 l1 l2 l6 z21.1 l5 (l6 + 1) z23.2))))))))))
def F254f : Nat → Nat → Int32 → Int32 → Int32 → Int32 → Int32 → Int32 → mS → Option (Int32 × mS)
  | 0, _, _, _, _, _, _, _, _ => none
  | n + 1, c, l1, l2, l3, l4, l5, l6, S => if c = 0 then F254b0 (F254f n) n l1 l2 l3 l4 l5 l6 S else F254b55 (F254f n) n l1 l2 l3 l4 l5 l6 S
theorem F254e0 (n : Nat) (l1 : Int32) (l2 : Int32) (l3 : Int32) (l4 : Int32) (l5 : Int32) (l6 : Int32) (S : mS) : F254f (n + 1) 0 l1 l2 l3 l4 l5 l6 S = F254b0 (F254f n) n l1 l2 l3 l4 l5 l6 S := if_pos rfl
theorem F254e55 (n : Nat) (l1 : Int32) (l2 : Int32) (l3 : Int32) (l4 : Int32) (l5 : Int32) (l6 : Int32) (S : mS) : F254f (n + 1) 55 l1 l2 l3 l4 l5 l6 S = F254b55 (F254f n) n l1 l2 l3 l4 l5 l6 S := if_neg (by decide)
def F254 (n : Nat) (l1 : Int32) (l2 : Int32) (S : mS) : Option (Int32 × mS) := F254f n 0 l1 l2 0 0 0 0 S
set_option maxRecDepth 20000 in
set_option maxHeartbeats 2000000 in
theorem F254l {xs : Nat → Int32} {L9 d : Nat} {h : AmH} {Q : Option Value → AmH → Prop} {r0 : Int32} {S0 : mS} (hh : 172 ≤ h.2.1) (hQ : Q (some (.int r0)) (mst S0 h)) : ∀ n : Nat, (∀ (l1 : Int32) (l2 : Int32) (l3 : Int32) (l4 : Int32) (l5 : Int32) (l6 : Int32) (S : mS), F254f n 0 l1 l2 l3 l4 l5 l6 S = some (r0, S0) → Go (am_X xs L9) (d + 8) 254 0 [.ref 130, .int l1, .int l2, .float 0, .float 0, .float 0, .float 0] [] (mst S h) Q) ∧ (∀ (l1 : Int32) (l2 : Int32) (l3 : Int32) (l4 : Int32) (l5 : Int32) (l6 : Int32) (S : mS), F254f n 55 l1 l2 l3 l4 l5 l6 S = some (r0, S0) → Go (am_X xs L9) (d + 8) 254 55 [.ref 130, .int l1, .int l2, .int l3, .int l4, .int l5, .int l6] [] (mst S h) Q) := by
  intro n
  induction n with
  | zero => exact ⟨fun l1 l2 l3 l4 l5 l6 S hf => (by cases hf), fun l1 l2 l3 l4 l5 l6 S hf => (by cases hf)⟩
  | succ n ih =>
    refine ⟨?_, ?_⟩
    · intro l1 l2 l3 l4 l5 l6 S hf
      rw [F254e0] at hf
      unfold F254b0 at hf
      refine r_aload_n fe_254_0 rfl ?_
      refine r_callV (as := []) (r := []) fe_254_1 lm_12_457 md_210 rfl rfl (Nat.le_of_ble_eq_true rfl) m_c_0 (m_lt hh (by decide)) (Nat.le_of_ble_eq_true rfl) (Nat.le_of_ble_eq_true rfl) ?_
      cases hc2 : F210 n  S with
      | none => rw [hc2] at hf; cases hf
      | some z1 =>
        rw [hc2, Option.bind_some] at hf
        refine F210c (r0 := z1.1) (S0 := z1.2) hh hc2 ?_
        by_cases hb3 : am_if .eq z1.1 = true
        · rw [if_pos hb3] at hf
          refine r_if_t (t := 29) fe_254_4 (by decide) hb3 ?_
          refine r_iconst (v := -1) fe_254_29 (by decide) ?_
          refine r_iret fe_254_30 ⟨rfl, by decide⟩ ?_
          exact dfin (P := fun r T => Q (some (.int r)) (mst T h)) hf hQ
        · rw [if_neg hb3] at hf
          refine r_if_f (t := 29) fe_254_4 (by decide) (Bool.eq_false_iff.mpr hb3) ?_
          refine r_iload_n fe_254_7 rfl ?_
          refine r_i2l (v := (Int32.toInt64 l1)) fe_254_8 rfl ?_
          refine r_lconst (v := 1) fe_254_9 (by decide) ?_
          refine r_ldc2 fe_254_10 lk_12_484 ?_
          refine r_callS (as := [.long (Int32.toInt64 l1), .long 1, .long 60]) (r := []) fe_254_13 lm_12_143 md_172 rfl rfl (Nat.le_of_ble_eq_true rfl) (Nat.le_of_ble_eq_true rfl) (Nat.le_of_ble_eq_true rfl) ?_
          cases hc5 : F172 n (Int32.toInt64 l1) 1 60 z1.2 with
          | none => rw [hc5] at hf; cases hf
          | some z4 =>
            rw [hc5, Option.bind_some] at hf
            refine F172c (r0 := z4.1) (S0 := z4.2) hh hc5 ?_
            by_cases hb6 : am_if .eq z4.1 = true
            · rw [if_pos hb6] at hf
              refine r_if_t (t := 29) fe_254_16 (by decide) hb6 ?_
              refine r_iconst (v := -1) fe_254_29 (by decide) ?_
              refine r_iret fe_254_30 ⟨rfl, by decide⟩ ?_
              exact dfin (P := fun r T => Q (some (.int r)) (mst T h)) hf hQ
            · rw [if_neg hb6] at hf
              refine r_if_f (t := 29) fe_254_16 (by decide) (Bool.eq_false_iff.mpr hb6) ?_
              refine r_iload_n fe_254_19 rfl ?_
              refine r_i2l (v := (Int32.toInt64 l2)) fe_254_20 rfl ?_
              refine r_lconst (v := 0) fe_254_21 (by decide) ?_
              refine r_lconst (v := 1) fe_254_22 (by decide) ?_
              refine r_callS (as := [.long (Int32.toInt64 l2), .long 0, .long 1]) (r := []) fe_254_23 lm_12_143 md_172 rfl rfl (Nat.le_of_ble_eq_true rfl) (Nat.le_of_ble_eq_true rfl) (Nat.le_of_ble_eq_true rfl) ?_
              cases hc8 : F172 n (Int32.toInt64 l2) 0 1 z4.2 with
              | none => rw [hc8] at hf; cases hf
              | some z7 =>
                rw [hc8, Option.bind_some] at hf
                refine F172c (r0 := z7.1) (S0 := z7.2) hh hc8 ?_
                by_cases hb9 : am_if .ne z7.1 = true
                · rw [if_pos hb9] at hf
                  refine r_if_t (t := 31) fe_254_26 (by decide) hb9 ?_
                  refine r_iconst (v := -1) fe_254_31 (by decide) ?_
                  refine r_istore_n fe_254_32 (Nat.le_of_ble_eq_true rfl) rfl ?_
                  refine r_iconst (v := -1) fe_254_33 (by decide) ?_
                  refine r_istore fe_254_34 (Nat.le_of_ble_eq_true rfl) rfl ?_
                  refine r_iconst (v := 1) fe_254_36 (by decide) ?_
                  refine r_aload_n fe_254_37 rfl ?_
                  refine mr_getf hh fe_254_38 lf_12_9 rfl ?_
                  refine r_iconst (v := 2) fe_254_41 (by decide) ?_
                  refine r_iald (j := 2) (v := z7.2.2.1 1 2) fe_254_42 m_c_1 (m_lt hh (by decide)) (by decide) (by decide) (by decide) rfl ?_
                  refine r_ishl (v := (1 <<< ((z7.2.2.1 1 2) &&& 31))) fe_254_43 rfl ?_
                  refine r_iconst (v := 1) fe_254_44 (by decide) ?_
                  refine r_isub (v := ((1 <<< ((z7.2.2.1 1 2) &&& 31)) - 1)) fe_254_45 rfl ?_
                  refine r_istore fe_254_46 (Nat.le_of_ble_eq_true rfl) rfl ?_
                  refine r_aload_n fe_254_48 rfl ?_
                  refine r_callV (as := []) (r := []) fe_254_49 lm_12_488 md_239 rfl rfl (Nat.le_of_ble_eq_true rfl) m_c_0 (m_lt hh (by decide)) (Nat.le_of_ble_eq_true rfl) (Nat.le_of_ble_eq_true rfl) ?_
                  cases hc11 : F239 n  z7.2 with
                  | none => rw [hc11] at hf; cases hf
                  | some z10 =>
                    rw [hc11, Option.bind_some] at hf
                    refine F239c (r0 := z10.1) (S0 := z10.2) hh hc11 ?_
                    refine r_iconst (v := 0) fe_254_52 (by decide) ?_
                    refine r_istore fe_254_53 (Nat.le_of_ble_eq_true rfl) rfl ?_
                    refine go_weak (L0 := [.ref 130, .int l1, .int l2, .int (-1), .int (-1), .int ((1 <<< ((z7.2.2.1 1 2) &&& 31)) - 1), .int 0]) (lwk_c (Or.inl rfl) (lwk_c (Or.inl rfl) (lwk_c (Or.inl rfl) (lwk_c (Or.inl rfl) (lwk_c (Or.inl rfl) (lwk_c (Or.inl rfl) (lwk_c (Or.inl rfl) (lwk_rf [])))))))) ?_
                    exact ih.2 l1 l2 (-1) (-1) ((1 <<< ((z7.2.2.1 1 2) &&& 31)) - 1) 0 z10.2 hf
                · rw [if_neg hb9] at hf
                  refine r_if_f (t := 31) fe_254_26 (by decide) (Bool.eq_false_iff.mpr hb9) ?_
                  refine r_iconst (v := -1) fe_254_29 (by decide) ?_
                  refine r_iret fe_254_30 ⟨rfl, by decide⟩ ?_
                  exact dfin (P := fun r T => Q (some (.int r)) (mst T h)) hf hQ
    · intro l1 l2 l3 l4 l5 l6 S hf
      rw [F254e55] at hf
      unfold F254b55 at hf
      refine r_iload fe_254_55 rfl ?_
      refine r_iload fe_254_57 rfl ?_
      by_cases hb12 : am_ic .gt l6 l5 = true
      · rw [if_pos hb12] at hf
        refine r_ic_t (t := 108) fe_254_59 (by decide) hb12 ?_
        refine r_iload_n fe_254_108 rfl ?_
        by_cases hb13 : am_if .ne l2 = true
        · rw [if_pos hb13] at hf
          refine r_if_t (t := 116) fe_254_109 (by decide) hb13 ?_
          refine r_iload fe_254_116 rfl ?_
          refine r_iret fe_254_118 ⟨rfl, by decide⟩ ?_
          exact dfin (P := fun r T => Q (some (.int r)) (mst T h)) hf hQ
        · rw [if_neg hb13] at hf
          refine r_if_f (t := 116) fe_254_109 (by decide) (Bool.eq_false_iff.mpr hb13) ?_
          refine r_iload_n fe_254_112 rfl ?_
          refine r_goto (t := 118) fe_254_113 (by decide) ?_
          refine r_iret fe_254_118 ⟨rfl, by decide⟩ ?_
          exact dfin (P := fun r T => Q (some (.int r)) (mst T h)) hf hQ
      · rw [if_neg hb12] at hf
        refine r_ic_f (t := 108) fe_254_59 (by decide) (Bool.eq_false_iff.mpr hb12) ?_
        refine r_aload_n fe_254_62 rfl ?_
        refine mr_getf hh fe_254_63 lf_12_9 rfl ?_
        refine r_iconst (v := 5) fe_254_66 (by decide) ?_
        refine r_iload fe_254_67 rfl ?_
        refine r_iload fe_254_69 rfl ?_
        refine r_iconst (v := -1) fe_254_71 (by decide) ?_
        refine r_ixor (v := (l6 ^^^ (-1))) fe_254_72 rfl ?_
        refine r_iand (v := (l5 &&& (l6 ^^^ (-1)))) fe_254_73 rfl ?_
        refine mr_iast (k := 1) (n := 9) (j := 5) hh fe_254_74 rfl (by decide) (by decide) rfl rfl (by decide) (by decide) (by decide) ?_
        refine r_aload_n fe_254_75 rfl ?_
        refine r_iload_n fe_254_76 rfl ?_
        refine r_callV (as := [.int l1]) (r := []) fe_254_77 lm_12_491 md_242 rfl rfl (Nat.le_of_ble_eq_true rfl) m_c_0 (m_lt hh (by decide)) (Nat.le_of_ble_eq_true rfl) (Nat.le_of_ble_eq_true rfl) ?_
        cases hc15 : F242 n l1 (m_sA S 1 5 (l5 &&& (l6 ^^^ (-1)))) with
        | none => rw [hc15] at hf; cases hf
        | some z14 =>
          rw [hc15, Option.bind_some] at hf
          refine F242c (r0 := z14.1) (S0 := z14.2) hh hc15 ?_
          refine r_aload_n fe_254_80 rfl ?_
          refine r_callV (as := []) (r := []) fe_254_81 lm_12_517 md_255 rfl rfl (Nat.le_of_ble_eq_true rfl) m_c_0 (m_lt hh (by decide)) (Nat.le_of_ble_eq_true rfl) (Nat.le_of_ble_eq_true rfl) ?_
          cases hc17 : F255 n  z14.2 with
          | none => rw [hc17] at hf; cases hf
          | some z16 =>
            rw [hc17, Option.bind_some] at hf
            refine F255c (r0 := z16.1) (S0 := z16.2) hh hc17 ?_
            refine r_iload fe_254_84 rfl ?_
            by_cases hb18 : am_ic .le z16.1 l4 = true
            · rw [if_pos hb18] at hf
              refine r_ic_t (t := 98) fe_254_86 (by decide) hb18 ?_
              refine r_aload_n fe_254_98 rfl ?_
              refine r_callV (as := []) (r := []) fe_254_99 lm_12_494 md_243 rfl rfl (Nat.le_of_ble_eq_true rfl) m_c_0 (m_lt hh (by decide)) (Nat.le_of_ble_eq_true rfl) (Nat.le_of_ble_eq_true rfl) ?_
              cases hc20 : F243 n  z16.2 with
              | none => rw [hc20] at hf; cases hf
              | some z19 =>
                rw [hc20, Option.bind_some] at hf
                refine F243c (r0 := z19.1) (S0 := z19.2) hh hc20 ?_
                refine r_iinc (v := (l6 + 1)) fe_254_102 rfl rfl rfl ?_
                refine r_goto (t := 55) fe_254_105 (by decide) ?_
                refine go_weak (L0 := [.ref 130, .int l1, .int l2, .int l3, .int l4, .int l5, .int (l6 + 1)]) (lwk_c (Or.inl rfl) (lwk_c (Or.inl rfl) (lwk_c (Or.inl rfl) (lwk_c (Or.inl rfl) (lwk_c (Or.inl rfl) (lwk_c (Or.inl rfl) (lwk_c (Or.inl rfl) (lwk_rf [])))))))) ?_
                exact ih.2 l1 l2 l3 l4 l5 (l6 + 1) z19.2 hf
            · rw [if_neg hb18] at hf
              refine r_ic_f (t := 98) fe_254_86 (by decide) (Bool.eq_false_iff.mpr hb18) ?_
              refine r_aload_n fe_254_89 rfl ?_
              refine r_callV (as := []) (r := []) fe_254_90 lm_12_517 md_255 rfl rfl (Nat.le_of_ble_eq_true rfl) m_c_0 (m_lt hh (by decide)) (Nat.le_of_ble_eq_true rfl) (Nat.le_of_ble_eq_true rfl) ?_
              cases hc22 : F255 n  z16.2 with
              | none => rw [hc22] at hf; cases hf
              | some z21 =>
                rw [hc22, Option.bind_some] at hf
                refine F255c (r0 := z21.1) (S0 := z21.2) hh hc22 ?_
                refine r_istore fe_254_93 (Nat.le_of_ble_eq_true rfl) rfl ?_
                refine r_iload fe_254_95 rfl ?_
                refine r_istore_n fe_254_97 (Nat.le_of_ble_eq_true rfl) rfl ?_
                refine r_aload_n fe_254_98 rfl ?_
                refine r_callV (as := []) (r := []) fe_254_99 lm_12_494 md_243 rfl rfl (Nat.le_of_ble_eq_true rfl) m_c_0 (m_lt hh (by decide)) (Nat.le_of_ble_eq_true rfl) (Nat.le_of_ble_eq_true rfl) ?_
                cases hc24 : F243 n  z21.2 with
                | none => rw [hc24] at hf; cases hf
                | some z23 =>
                  rw [hc24, Option.bind_some] at hf
                  refine F243c (r0 := z23.1) (S0 := z23.2) hh hc24 ?_
                  refine r_iinc (v := (l6 + 1)) fe_254_102 rfl rfl rfl ?_
                  refine r_goto (t := 55) fe_254_105 (by decide) ?_
                  refine go_weak (L0 := [.ref 130, .int l1, .int l2, .int l6, .int z21.1, .int l5, .int (l6 + 1)]) (lwk_c (Or.inl rfl) (lwk_c (Or.inl rfl) (lwk_c (Or.inl rfl) (lwk_c (Or.inl rfl) (lwk_c (Or.inl rfl) (lwk_c (Or.inl rfl) (lwk_c (Or.inl rfl) (lwk_rf [])))))))) ?_
                  exact ih.2 l1 l2 l6 z21.1 l5 (l6 + 1) z23.2 hf
theorem F254c {xs : Nat → Int32} {L9 d n : Nat} {h : AmH} {Q : Option Value → AmH → Prop} {r0 : Int32} {S0 S : mS} {l1 : Int32} {l2 : Int32} (hh : 172 ≤ h.2.1) (hf : F254 n l1 l2 S = some (r0, S0)) (hQ : Q (some (.int r0)) (mst S0 h)) : Ca (am_X xs L9) (d + 8) 254 [.ref 130, .int l1, .int l2] (mst S h) Q := (F254l hh hQ n).1 l1 l2 0 0 0 0 S hf
def F257b0 (F : Nat → Int32 → Int32 → Int32 → mS → Option (Int32 × mS)) (n : Nat) (l1 : Int32) (l2 : Int32) (l3 : Int32) (S : mS) : Option (Int32 × mS) := (if ¬ (l1 < 0 ∨ 16 ≤ (l1).toNatClampNeg) then F 9 l1 (S.2.1 2 (Int32.toNatClampNeg l1)) 1 S else none)
def F257b9 (F : Nat → Int32 → Int32 → Int32 → mS → Option (Int32 × mS)) (n : Nat) (l1 : Int32) (l2 : Int32) (l3 : Int32) (S : mS) : Option (Int32 × mS) := (if am_ic .gt l3 16 = true then some (0, S) else (if am_ic .eq l2 (-1) = true then some (0, S) else (if am_ic .ne l2 l1 = true then (if ¬ (l2 < 0 ∨ 16 ≤ (l2).toNatClampNeg) then F 9 l1 (S.2.1 2 (Int32.toNatClampNeg l2)) (l3 + 1) S else none) else some (l3, S))))
def F257f : Nat → Nat → Int32 → Int32 → Int32 → mS → Option (Int32 × mS)
  | 0, _, _, _, _, _ => none
  | n + 1, c, l1, l2, l3, S => if c = 0 then F257b0 (F257f n) n l1 l2 l3 S else F257b9 (F257f n) n l1 l2 l3 S
theorem F257e0 (n : Nat) (l1 : Int32) (l2 : Int32) (l3 : Int32) (S : mS) : F257f (n + 1) 0 l1 l2 l3 S = F257b0 (F257f n) n l1 l2 l3 S := if_pos rfl
theorem F257e9 (n : Nat) (l1 : Int32) (l2 : Int32) (l3 : Int32) (S : mS) : F257f (n + 1) 9 l1 l2 l3 S = F257b9 (F257f n) n l1 l2 l3 S := if_neg (by decide)
def F257 (n : Nat) (l1 : Int32) (S : mS) : Option (Int32 × mS) := F257f n 0 l1 0 0 S
set_option maxRecDepth 20000 in
set_option maxHeartbeats 2000000 in
theorem F257l {xs : Nat → Int32} {L9 d : Nat} {h : AmH} {Q : Option Value → AmH → Prop} {r0 : Int32} {S0 : mS} (hh : 172 ≤ h.2.1) (hQ : Q (some (.int r0)) (mst S0 h)) : ∀ n : Nat, (∀ (l1 : Int32) (l2 : Int32) (l3 : Int32) (S : mS), F257f n 0 l1 l2 l3 S = some (r0, S0) → Go (am_X xs L9) (d + 0) 257 0 [.ref 130, .int l1, .float 0, .float 0] [] (mst S h) Q) ∧ (∀ (l1 : Int32) (l2 : Int32) (l3 : Int32) (S : mS), F257f n 9 l1 l2 l3 S = some (r0, S0) → Go (am_X xs L9) (d + 0) 257 9 [.ref 130, .int l1, .int l2, .int l3] [] (mst S h) Q) := by
  intro n
  induction n with
  | zero => exact ⟨fun l1 l2 l3 S hf => (by cases hf), fun l1 l2 l3 S hf => (by cases hf)⟩
  | succ n ih =>
    refine ⟨?_, ?_⟩
    · intro l1 l2 l3 S hf
      rw [F257e0] at hf
      unfold F257b0 at hf
      refine r_aload_n fe_257_0 rfl ?_
      refine mr_getf hh fe_257_1 lf_12_13 rfl ?_
      refine r_iload_n fe_257_4 rfl ?_
      by_cases hg1 : ¬ (l1 < 0 ∨ 16 ≤ (l1).toNatClampNeg)
      rotate_left
      · rw [if_neg hg1] at hf; cases hf
      rw [if_pos hg1] at hf
      refine r_iald (j := (Int32.toNatClampNeg l1)) (v := S.2.1 2 (Int32.toNatClampNeg l1)) fe_257_5 m_c_2 (m_lt hh (by decide)) (fun z => hg1 (Or.inl z)) rfl (fun z => hg1 (Or.inr z)) rfl ?_
      refine r_istore_n fe_257_6 (Nat.le_of_ble_eq_true rfl) rfl ?_
      refine r_iconst (v := 1) fe_257_7 (by decide) ?_
      refine r_istore_n fe_257_8 (Nat.le_of_ble_eq_true rfl) rfl ?_
      refine go_weak (L0 := [.ref 130, .int l1, .int (S.2.1 2 (Int32.toNatClampNeg l1)), .int 1]) (lwk_c (Or.inl rfl) (lwk_c (Or.inl rfl) (lwk_c (Or.inl rfl) (lwk_c (Or.inl rfl) (lwk_rf []))))) ?_
      exact ih.2 l1 (S.2.1 2 (Int32.toNatClampNeg l1)) 1 S hf
    · intro l1 l2 l3 S hf
      rw [F257e9] at hf
      unfold F257b9 at hf
      refine r_iload_n fe_257_9 rfl ?_
      refine r_bipush (v := 16) fe_257_10 (by decide) ?_
      by_cases hb2 : am_ic .gt l3 16 = true
      · rw [if_pos hb2] at hf
        refine r_ic_t (t := 40) fe_257_12 (by decide) hb2 ?_
        refine r_iconst (v := 0) fe_257_40 (by decide) ?_
        refine r_iret fe_257_41 ⟨rfl, by decide⟩ ?_
        exact dfin (P := fun r T => Q (some (.int r)) (mst T h)) hf hQ
      · rw [if_neg hb2] at hf
        refine r_ic_f (t := 40) fe_257_12 (by decide) (Bool.eq_false_iff.mpr hb2) ?_
        refine r_iload_n fe_257_15 rfl ?_
        refine r_iconst (v := -1) fe_257_16 (by decide) ?_
        by_cases hb3 : am_ic .eq l2 (-1) = true
        · rw [if_pos hb3] at hf
          refine r_ic_t (t := 40) fe_257_17 (by decide) hb3 ?_
          refine r_iconst (v := 0) fe_257_40 (by decide) ?_
          refine r_iret fe_257_41 ⟨rfl, by decide⟩ ?_
          exact dfin (P := fun r T => Q (some (.int r)) (mst T h)) hf hQ
        · rw [if_neg hb3] at hf
          refine r_ic_f (t := 40) fe_257_17 (by decide) (Bool.eq_false_iff.mpr hb3) ?_
          refine r_iload_n fe_257_20 rfl ?_
          refine r_iload_n fe_257_21 rfl ?_
          by_cases hb4 : am_ic .ne l2 l1 = true
          · rw [if_pos hb4] at hf
            refine r_ic_t (t := 27) fe_257_22 (by decide) hb4 ?_
            refine r_aload_n fe_257_27 rfl ?_
            refine mr_getf hh fe_257_28 lf_12_13 rfl ?_
            refine r_iload_n fe_257_31 rfl ?_
            by_cases hg5 : ¬ (l2 < 0 ∨ 16 ≤ (l2).toNatClampNeg)
            rotate_left
            · rw [if_neg hg5] at hf; cases hf
            rw [if_pos hg5] at hf
            refine r_iald (j := (Int32.toNatClampNeg l2)) (v := S.2.1 2 (Int32.toNatClampNeg l2)) fe_257_32 m_c_2 (m_lt hh (by decide)) (fun z => hg5 (Or.inl z)) rfl (fun z => hg5 (Or.inr z)) rfl ?_
            refine r_istore_n fe_257_33 (Nat.le_of_ble_eq_true rfl) rfl ?_
            refine r_iinc (v := (l3 + 1)) fe_257_34 rfl rfl rfl ?_
            refine r_goto (t := 9) fe_257_37 (by decide) ?_
            refine go_weak (L0 := [.ref 130, .int l1, .int (S.2.1 2 (Int32.toNatClampNeg l2)), .int (l3 + 1)]) (lwk_c (Or.inl rfl) (lwk_c (Or.inl rfl) (lwk_c (Or.inl rfl) (lwk_c (Or.inl rfl) (lwk_rf []))))) ?_
            exact ih.2 l1 (S.2.1 2 (Int32.toNatClampNeg l2)) (l3 + 1) S hf
          · rw [if_neg hb4] at hf
            refine r_ic_f (t := 27) fe_257_22 (by decide) (Bool.eq_false_iff.mpr hb4) ?_
            refine r_iload_n fe_257_25 rfl ?_
            refine r_iret fe_257_26 ⟨rfl, by decide⟩ ?_
            exact dfin (P := fun r T => Q (some (.int r)) (mst T h)) hf hQ
theorem F257c {xs : Nat → Int32} {L9 d n : Nat} {h : AmH} {Q : Option Value → AmH → Prop} {r0 : Int32} {S0 S : mS} {l1 : Int32} (hh : 172 ≤ h.2.1) (hf : F257 n l1 S = some (r0, S0)) (hQ : Q (some (.int r0)) (mst S0 h)) : Ca (am_X xs L9) (d + 0) 257 [.ref 130, .int l1] (mst S h) Q := (F257l hh hQ n).1 l1 0 0 S hf
def F256b0 (F : Nat → Int32 → Int32 → Int32 → Int32 → mS → Option (Int32 × mS)) (n : Nat) (l1 : Int32) (l2 : Int32) (l3 : Int32) (l4 : Int32) (S : mS) : Option (Int32 × mS) := ((F196 n l1 S).bind (fun z1 => (if am_if .eq z1.1 = true then some ((-1), z1.2) else ((F172 n (Int32.toInt64 l2) 0 1 z1.2).bind (fun z4 => (if am_if .ne z4.1 = true then F 25 0 l2 l1 0 z4.2 else some ((-1), z4.2)))))))
def F256b25 (F : Nat → Int32 → Int32 → Int32 → Int32 → mS → Option (Int32 × mS)) (n : Nat) (l1 : Int32) (l2 : Int32) (l3 : Int32) (l4 : Int32) (S : mS) : Option (Int32 × mS) := (if am_ic .eq l3 (-1) = true then (if am_ic .ne l2 1 = true then (if am_ic .ne l3 (-1) = true then ((F257 n l3 S).bind (fun z10 => some (z10.1, z10.2))) else some (0, S)) else some (l4, S)) else ((F257 n l3 S).bind (fun z12 => (if am_if .ne z12.1 = true then (if am_ic .ne l2 1 = true then (if am_ic .ne l3 (-1) = true then ((F257 n l3 z12.2).bind (fun z17 => some (z17.1, z17.2))) else some (0, z12.2)) else some (l4, z12.2)) else (if ¬ (l3 < 0 ∨ 16 ≤ (l3).toNatClampNeg) then F 25 0 l2 (z12.2.2.1 2 (Int32.toNatClampNeg l3)) (l4 + 1) z12.2 else none)))))
def F256f : Nat → Nat → Int32 → Int32 → Int32 → Int32 → mS → Option (Int32 × mS)
  | 0, _, _, _, _, _, _ => none
  | n + 1, c, l1, l2, l3, l4, S => if c = 0 then F256b0 (F256f n) n l1 l2 l3 l4 S else F256b25 (F256f n) n l1 l2 l3 l4 S
theorem F256e0 (n : Nat) (l1 : Int32) (l2 : Int32) (l3 : Int32) (l4 : Int32) (S : mS) : F256f (n + 1) 0 l1 l2 l3 l4 S = F256b0 (F256f n) n l1 l2 l3 l4 S := if_pos rfl
theorem F256e25 (n : Nat) (l1 : Int32) (l2 : Int32) (l3 : Int32) (l4 : Int32) (S : mS) : F256f (n + 1) 25 l1 l2 l3 l4 S = F256b25 (F256f n) n l1 l2 l3 l4 S := if_neg (by decide)
def F256 (n : Nat) (l1 : Int32) (l2 : Int32) (S : mS) : Option (Int32 × mS) := F256f n 0 l1 l2 0 0 S
set_option maxRecDepth 20000 in
set_option maxHeartbeats 2000000 in
theorem F256l {xs : Nat → Int32} {L9 d : Nat} {h : AmH} {Q : Option Value → AmH → Prop} {r0 : Int32} {S0 : mS} (hh : 172 ≤ h.2.1) (hQ : Q (some (.int r0)) (mst S0 h)) : ∀ n : Nat, (∀ (l1 : Int32) (l2 : Int32) (l3 : Int32) (l4 : Int32) (S : mS), F256f n 0 l1 l2 l3 l4 S = some (r0, S0) → Go (am_X xs L9) (d + 2) 256 0 [.ref 130, .int l1, .int l2, .float 0, .float 0] [] (mst S h) Q) ∧ (∀ (l1 : Int32) (l2 : Int32) (l3 : Int32) (l4 : Int32) (S : mS), F256f n 25 l1 l2 l3 l4 S = some (r0, S0) → Go (am_X xs L9) (d + 2) 256 25 [.ref 130, .float 0, .int l2, .int l3, .int l4] [] (mst S h) Q) := by
  intro n
  induction n with
  | zero => exact ⟨fun l1 l2 l3 l4 S hf => (by cases hf), fun l1 l2 l3 l4 S hf => (by cases hf)⟩
  | succ n ih =>
    refine ⟨?_, ?_⟩
    · intro l1 l2 l3 l4 S hf
      rw [F256e0] at hf
      unfold F256b0 at hf
      refine r_aload_n fe_256_0 rfl ?_
      refine r_iload_n fe_256_1 rfl ?_
      refine r_callV (as := [.int l1]) (r := []) fe_256_2 lm_12_378 md_196 rfl rfl (Nat.le_of_ble_eq_true rfl) m_c_0 (m_lt hh (by decide)) (Nat.le_of_ble_eq_true rfl) (Nat.le_of_ble_eq_true rfl) ?_
      cases hc2 : F196 n l1 S with
      | none => rw [hc2] at hf; cases hf
      | some z1 =>
        rw [hc2, Option.bind_some] at hf
        refine F196c (r0 := z1.1) (S0 := z1.2) hh hc2 ?_
        by_cases hb3 : am_if .eq z1.1 = true
        · rw [if_pos hb3] at hf
          refine r_if_t (t := 18) fe_256_5 (by decide) hb3 ?_
          refine r_iconst (v := -1) fe_256_18 (by decide) ?_
          refine r_iret fe_256_19 ⟨rfl, by decide⟩ ?_
          exact dfin (P := fun r T => Q (some (.int r)) (mst T h)) hf hQ
        · rw [if_neg hb3] at hf
          refine r_if_f (t := 18) fe_256_5 (by decide) (Bool.eq_false_iff.mpr hb3) ?_
          refine r_iload_n fe_256_8 rfl ?_
          refine r_i2l (v := (Int32.toInt64 l2)) fe_256_9 rfl ?_
          refine r_lconst (v := 0) fe_256_10 (by decide) ?_
          refine r_lconst (v := 1) fe_256_11 (by decide) ?_
          refine r_callS (as := [.long (Int32.toInt64 l2), .long 0, .long 1]) (r := []) fe_256_12 lm_12_143 md_172 rfl rfl (Nat.le_of_ble_eq_true rfl) (Nat.le_of_ble_eq_true rfl) (Nat.le_of_ble_eq_true rfl) ?_
          cases hc5 : F172 n (Int32.toInt64 l2) 0 1 z1.2 with
          | none => rw [hc5] at hf; cases hf
          | some z4 =>
            rw [hc5, Option.bind_some] at hf
            refine F172c (r0 := z4.1) (S0 := z4.2) hh hc5 ?_
            by_cases hb6 : am_if .ne z4.1 = true
            · rw [if_pos hb6] at hf
              refine r_if_t (t := 20) fe_256_15 (by decide) hb6 ?_
              refine r_iload_n fe_256_20 rfl ?_
              refine r_istore_n fe_256_21 (Nat.le_of_ble_eq_true rfl) rfl ?_
              refine r_iconst (v := 0) fe_256_22 (by decide) ?_
              refine r_istore fe_256_23 (Nat.le_of_ble_eq_true rfl) rfl ?_
              refine go_weak (L0 := [.ref 130, .float 0, .int l2, .int l1, .int 0]) (lwk_c (Or.inl rfl) (lwk_c (Or.inr rfl) (lwk_c (Or.inl rfl) (lwk_c (Or.inl rfl) (lwk_c (Or.inl rfl) (lwk_rf [])))))) ?_
              exact ih.2 0 l2 l1 0 z4.2 hf
            · rw [if_neg hb6] at hf
              refine r_if_f (t := 20) fe_256_15 (by decide) (Bool.eq_false_iff.mpr hb6) ?_
              refine r_iconst (v := -1) fe_256_18 (by decide) ?_
              refine r_iret fe_256_19 ⟨rfl, by decide⟩ ?_
              exact dfin (P := fun r T => Q (some (.int r)) (mst T h)) hf hQ
    · intro l1 l2 l3 l4 S hf
      rw [F256e25] at hf
      unfold F256b25 at hf
      refine r_iload_n fe_256_25 rfl ?_
      refine r_iconst (v := -1) fe_256_26 (by decide) ?_
      by_cases hb7 : am_ic .eq l3 (-1) = true
      · rw [if_pos hb7] at hf
        refine r_ic_t (t := 51) fe_256_27 (by decide) hb7 ?_
        refine r_iload_n fe_256_51 rfl ?_
        refine r_iconst (v := 1) fe_256_52 (by decide) ?_
        by_cases hb8 : am_ic .ne l2 1 = true
        · rw [if_pos hb8] at hf
          refine r_ic_t (t := 61) fe_256_53 (by decide) hb8 ?_
          refine r_iload_n fe_256_61 rfl ?_
          refine r_iconst (v := -1) fe_256_62 (by decide) ?_
          by_cases hb9 : am_ic .ne l3 (-1) = true
          · rw [if_pos hb9] at hf
            refine r_ic_t (t := 70) fe_256_63 (by decide) hb9 ?_
            refine r_aload_n fe_256_70 rfl ?_
            refine r_iload_n fe_256_71 rfl ?_
            refine r_callV (as := [.int l3]) (r := []) fe_256_72 lm_12_520 md_257 rfl rfl (Nat.le_of_ble_eq_true rfl) m_c_0 (m_lt hh (by decide)) (Nat.le_of_ble_eq_true rfl) (Nat.le_of_ble_eq_true rfl) ?_
            cases hc11 : F257 n l3 S with
            | none => rw [hc11] at hf; cases hf
            | some z10 =>
              rw [hc11, Option.bind_some] at hf
              refine F257c (r0 := z10.1) (S0 := z10.2) hh hc11 ?_
              refine r_iret fe_256_75 ⟨rfl, by decide⟩ ?_
              exact dfin (P := fun r T => Q (some (.int r)) (mst T h)) hf hQ
          · rw [if_neg hb9] at hf
            refine r_ic_f (t := 70) fe_256_63 (by decide) (Bool.eq_false_iff.mpr hb9) ?_
            refine r_iconst (v := 0) fe_256_66 (by decide) ?_
            refine r_goto (t := 75) fe_256_67 (by decide) ?_
            refine r_iret fe_256_75 ⟨rfl, by decide⟩ ?_
            exact dfin (P := fun r T => Q (some (.int r)) (mst T h)) hf hQ
        · rw [if_neg hb8] at hf
          refine r_ic_f (t := 61) fe_256_53 (by decide) (Bool.eq_false_iff.mpr hb8) ?_
          refine r_iload fe_256_56 rfl ?_
          refine r_goto (t := 75) fe_256_58 (by decide) ?_
          refine r_iret fe_256_75 ⟨rfl, by decide⟩ ?_
          exact dfin (P := fun r T => Q (some (.int r)) (mst T h)) hf hQ
      · rw [if_neg hb7] at hf
        refine r_ic_f (t := 51) fe_256_27 (by decide) (Bool.eq_false_iff.mpr hb7) ?_
        refine r_aload_n fe_256_30 rfl ?_
        refine r_iload_n fe_256_31 rfl ?_
        refine r_callV (as := [.int l3]) (r := []) fe_256_32 lm_12_520 md_257 rfl rfl (Nat.le_of_ble_eq_true rfl) m_c_0 (m_lt hh (by decide)) (Nat.le_of_ble_eq_true rfl) (Nat.le_of_ble_eq_true rfl) ?_
        cases hc13 : F257 n l3 S with
        | none => rw [hc13] at hf; cases hf
        | some z12 =>
          rw [hc13, Option.bind_some] at hf
          refine F257c (r0 := z12.1) (S0 := z12.2) hh hc13 ?_
          by_cases hb14 : am_if .ne z12.1 = true
          · rw [if_pos hb14] at hf
            refine r_if_t (t := 51) fe_256_35 (by decide) hb14 ?_
            refine r_iload_n fe_256_51 rfl ?_
            refine r_iconst (v := 1) fe_256_52 (by decide) ?_
            by_cases hb15 : am_ic .ne l2 1 = true
            · rw [if_pos hb15] at hf
              refine r_ic_t (t := 61) fe_256_53 (by decide) hb15 ?_
              refine r_iload_n fe_256_61 rfl ?_
              refine r_iconst (v := -1) fe_256_62 (by decide) ?_
              by_cases hb16 : am_ic .ne l3 (-1) = true
              · rw [if_pos hb16] at hf
                refine r_ic_t (t := 70) fe_256_63 (by decide) hb16 ?_
                refine r_aload_n fe_256_70 rfl ?_
                refine r_iload_n fe_256_71 rfl ?_
                refine r_callV (as := [.int l3]) (r := []) fe_256_72 lm_12_520 md_257 rfl rfl (Nat.le_of_ble_eq_true rfl) m_c_0 (m_lt hh (by decide)) (Nat.le_of_ble_eq_true rfl) (Nat.le_of_ble_eq_true rfl) ?_
                cases hc18 : F257 n l3 z12.2 with
                | none => rw [hc18] at hf; cases hf
                | some z17 =>
                  rw [hc18, Option.bind_some] at hf
                  refine F257c (r0 := z17.1) (S0 := z17.2) hh hc18 ?_
                  refine r_iret fe_256_75 ⟨rfl, by decide⟩ ?_
                  exact dfin (P := fun r T => Q (some (.int r)) (mst T h)) hf hQ
              · rw [if_neg hb16] at hf
                refine r_ic_f (t := 70) fe_256_63 (by decide) (Bool.eq_false_iff.mpr hb16) ?_
                refine r_iconst (v := 0) fe_256_66 (by decide) ?_
                refine r_goto (t := 75) fe_256_67 (by decide) ?_
                refine r_iret fe_256_75 ⟨rfl, by decide⟩ ?_
                exact dfin (P := fun r T => Q (some (.int r)) (mst T h)) hf hQ
            · rw [if_neg hb15] at hf
              refine r_ic_f (t := 61) fe_256_53 (by decide) (Bool.eq_false_iff.mpr hb15) ?_
              refine r_iload fe_256_56 rfl ?_
              refine r_goto (t := 75) fe_256_58 (by decide) ?_
              refine r_iret fe_256_75 ⟨rfl, by decide⟩ ?_
              exact dfin (P := fun r T => Q (some (.int r)) (mst T h)) hf hQ
          · rw [if_neg hb14] at hf
            refine r_if_f (t := 51) fe_256_35 (by decide) (Bool.eq_false_iff.mpr hb14) ?_
            refine r_aload_n fe_256_38 rfl ?_
            refine mr_getf hh fe_256_39 lf_12_13 rfl ?_
            refine r_iload_n fe_256_42 rfl ?_
            by_cases hg19 : ¬ (l3 < 0 ∨ 16 ≤ (l3).toNatClampNeg)
            rotate_left
            · rw [if_neg hg19] at hf; cases hf
            rw [if_pos hg19] at hf
            refine r_iald (j := (Int32.toNatClampNeg l3)) (v := z12.2.2.1 2 (Int32.toNatClampNeg l3)) fe_256_43 m_c_2 (m_lt hh (by decide)) (fun z => hg19 (Or.inl z)) rfl (fun z => hg19 (Or.inr z)) rfl ?_
            refine r_istore_n fe_256_44 (Nat.le_of_ble_eq_true rfl) rfl ?_
            refine r_iinc (v := (l4 + 1)) fe_256_45 rfl rfl rfl ?_
            refine r_goto (t := 25) fe_256_48 (by decide) ?_
            refine go_weak (L0 := [.ref 130, .float 0, .int l2, .int (z12.2.2.1 2 (Int32.toNatClampNeg l3)), .int (l4 + 1)]) (lwk_c (Or.inl rfl) (lwk_c (Or.inl rfl) (lwk_c (Or.inl rfl) (lwk_c (Or.inl rfl) (lwk_c (Or.inl rfl) (lwk_rf [])))))) ?_
            exact ih.2 0 l2 (z12.2.2.1 2 (Int32.toNatClampNeg l3)) (l4 + 1) z12.2 hf
theorem F256c {xs : Nat → Int32} {L9 d n : Nat} {h : AmH} {Q : Option Value → AmH → Prop} {r0 : Int32} {S0 S : mS} {l1 : Int32} {l2 : Int32} (hh : 172 ≤ h.2.1) (hf : F256 n l1 l2 S = some (r0, S0)) (hQ : Q (some (.int r0)) (mst S0 h)) : Ca (am_X xs L9) (d + 2) 256 [.ref 130, .int l1, .int l2] (mst S h) Q := (F256l hh hQ n).1 l1 l2 0 0 S hf
def F259b0 (F : Nat → Int32 → Int32 → mS → Option (Int32 × mS)) (n : Nat) (l1 : Int32) (l2 : Int32) (S : mS) : Option (Int32 × mS) := F 4 0 0 S
def F259b4 (F : Nat → Int32 → Int32 → mS → Option (Int32 × mS)) (n : Nat) (l1 : Int32) (l2 : Int32) (S : mS) : Option (Int32 × mS) := (if am_ic .ge l2 (S.2.1 1 1) = true then some (l1, S) else (if ¬ (l2 < 0 ∨ 6 ≤ (l2).toNatClampNeg) then F 4 (l1 + (S.2.1 6 (Int32.toNatClampNeg l2))) (l2 + 1) S else none))
def F259f : Nat → Nat → Int32 → Int32 → mS → Option (Int32 × mS)
  | 0, _, _, _, _ => none
  | n + 1, c, l1, l2, S => if c = 0 then F259b0 (F259f n) n l1 l2 S else F259b4 (F259f n) n l1 l2 S
theorem F259e0 (n : Nat) (l1 : Int32) (l2 : Int32) (S : mS) : F259f (n + 1) 0 l1 l2 S = F259b0 (F259f n) n l1 l2 S := if_pos rfl
theorem F259e4 (n : Nat) (l1 : Int32) (l2 : Int32) (S : mS) : F259f (n + 1) 4 l1 l2 S = F259b4 (F259f n) n l1 l2 S := if_neg (by decide)
def F259 (n : Nat)  (S : mS) : Option (Int32 × mS) := F259f n 0 0 0 S
set_option maxRecDepth 20000 in
set_option maxHeartbeats 2000000 in
theorem F259l {xs : Nat → Int32} {L9 d : Nat} {h : AmH} {Q : Option Value → AmH → Prop} {r0 : Int32} {S0 : mS} (hh : 172 ≤ h.2.1) (hQ : Q (some (.int r0)) (mst S0 h)) : ∀ n : Nat, (∀ (l1 : Int32) (l2 : Int32) (S : mS), F259f n 0 l1 l2 S = some (r0, S0) → Go (am_X xs L9) (d + 0) 259 0 [.ref 130, .float 0, .float 0] [] (mst S h) Q) ∧ (∀ (l1 : Int32) (l2 : Int32) (S : mS), F259f n 4 l1 l2 S = some (r0, S0) → Go (am_X xs L9) (d + 0) 259 4 [.ref 130, .int l1, .int l2] [] (mst S h) Q) := by
  intro n
  induction n with
  | zero => exact ⟨fun l1 l2 S hf => (by cases hf), fun l1 l2 S hf => (by cases hf)⟩
  | succ n ih =>
    refine ⟨?_, ?_⟩
    · intro l1 l2 S hf
      rw [F259e0] at hf
      unfold F259b0 at hf
      refine r_iconst (v := 0) fe_259_0 (by decide) ?_
      refine r_istore_n fe_259_1 (Nat.le_of_ble_eq_true rfl) rfl ?_
      refine r_iconst (v := 0) fe_259_2 (by decide) ?_
      refine r_istore_n fe_259_3 (Nat.le_of_ble_eq_true rfl) rfl ?_
      refine go_weak (L0 := [.ref 130, .int 0, .int 0]) (lwk_c (Or.inl rfl) (lwk_c (Or.inl rfl) (lwk_c (Or.inl rfl) (lwk_rf [])))) ?_
      exact ih.2 0 0 S hf
    · intro l1 l2 S hf
      rw [F259e4] at hf
      unfold F259b4 at hf
      refine r_iload_n fe_259_4 rfl ?_
      refine r_aload_n fe_259_5 rfl ?_
      refine mr_getf hh fe_259_6 lf_12_9 rfl ?_
      refine r_iconst (v := 1) fe_259_9 (by decide) ?_
      refine r_iald (j := 1) (v := S.2.1 1 1) fe_259_10 m_c_1 (m_lt hh (by decide)) (by decide) (by decide) (by decide) rfl ?_
      by_cases hb1 : am_ic .ge l2 (S.2.1 1 1) = true
      · rw [if_pos hb1] at hf
        refine r_ic_t (t := 29) fe_259_11 (by decide) hb1 ?_
        refine r_iload_n fe_259_29 rfl ?_
        refine r_iret fe_259_30 ⟨rfl, by decide⟩ ?_
        exact dfin (P := fun r T => Q (some (.int r)) (mst T h)) hf hQ
      · rw [if_neg hb1] at hf
        refine r_ic_f (t := 29) fe_259_11 (by decide) (Bool.eq_false_iff.mpr hb1) ?_
        refine r_iload_n fe_259_14 rfl ?_
        refine r_aload_n fe_259_15 rfl ?_
        refine mr_getf hh fe_259_16 lf_12_25 rfl ?_
        refine r_iload_n fe_259_19 rfl ?_
        by_cases hg2 : ¬ (l2 < 0 ∨ 6 ≤ (l2).toNatClampNeg)
        rotate_left
        · rw [if_neg hg2] at hf; cases hf
        rw [if_pos hg2] at hf
        refine r_iald (j := (Int32.toNatClampNeg l2)) (v := S.2.1 6 (Int32.toNatClampNeg l2)) fe_259_20 m_c_6 (m_lt hh (by decide)) (fun z => hg2 (Or.inl z)) rfl (fun z => hg2 (Or.inr z)) rfl ?_
        refine r_iadd (v := (l1 + (S.2.1 6 (Int32.toNatClampNeg l2)))) fe_259_21 rfl ?_
        refine r_istore_n fe_259_22 (Nat.le_of_ble_eq_true rfl) rfl ?_
        refine r_iinc (v := (l2 + 1)) fe_259_23 rfl rfl rfl ?_
        refine r_goto (t := 4) fe_259_26 (by decide) ?_
        refine go_weak (L0 := [.ref 130, .int (l1 + (S.2.1 6 (Int32.toNatClampNeg l2))), .int (l2 + 1)]) (lwk_c (Or.inl rfl) (lwk_c (Or.inl rfl) (lwk_c (Or.inl rfl) (lwk_rf [])))) ?_
        exact ih.2 (l1 + (S.2.1 6 (Int32.toNatClampNeg l2))) (l2 + 1) S hf
theorem F259c {xs : Nat → Int32} {L9 d n : Nat} {h : AmH} {Q : Option Value → AmH → Prop} {r0 : Int32} {S0 S : mS}  (hh : 172 ≤ h.2.1) (hf : F259 n  S = some (r0, S0)) (hQ : Q (some (.int r0)) (mst S0 h)) : Ca (am_X xs L9) (d + 0) 259 [.ref 130] (mst S h) Q := (F259l hh hQ n).1 0 0 S hf
def F258b0 (F : Nat → Int32 → Int32 → Int32 → Int32 → Int32 → mS → Option (Int32 × mS)) (n : Nat) (l1 : Int32) (l2 : Int32) (l3 : Int32) (l4 : Int32) (l5 : Int32) (S : mS) : Option (Int32 × mS) := ((F172 n (Int32.toInt64 l1) 0 (Int32.toInt64 ((S.2.1 1 1) - 1)) S).bind (fun z1 => (if am_if .eq z1.1 = true then some ((-1), z1.2) else ((F172 n (Int32.toInt64 l2) 0 1 z1.2).bind (fun z4 => (if am_if .ne z4.1 = true then ((F259 n  z4.2).bind (fun z7 => (if am_if .ne z7.1 = true then (if ¬ (l1 < 0 ∨ 6 ≤ (l1).toNatClampNeg) then F 52 l1 l2 z7.1 (z7.2.2.1 6 (Int32.toNatClampNeg l1)) z7.1 z7.2 else none) else some (l2, z7.2)))) else some ((-1), z4.2)))))))
def F258b52 (F : Nat → Int32 → Int32 → Int32 → Int32 → Int32 → mS → Option (Int32 × mS)) (n : Nat) (l1 : Int32) (l2 : Int32) (l3 : Int32) (l4 : Int32) (l5 : Int32) (S : mS) : Option (Int32 × mS) := (if am_if .eq l4 = true then (if am_if .ne l2 = true then (if l5 = 0 then none else some ((l3 / l5), S)) else (if ¬ (l1 < 0 ∨ 6 ≤ (l1).toNatClampNeg) then (if l5 = 0 then none else some (((S.2.1 6 (Int32.toNatClampNeg l1)) / l5), S)) else none)) else (if l4 = 0 then none else F 52 l1 l2 l3 (l5 - l5 / l4 * l4) l4 S))
def F258f : Nat → Nat → Int32 → Int32 → Int32 → Int32 → Int32 → mS → Option (Int32 × mS)
  | 0, _, _, _, _, _, _, _ => none
  | n + 1, c, l1, l2, l3, l4, l5, S => if c = 0 then F258b0 (F258f n) n l1 l2 l3 l4 l5 S else F258b52 (F258f n) n l1 l2 l3 l4 l5 S
theorem F258e0 (n : Nat) (l1 : Int32) (l2 : Int32) (l3 : Int32) (l4 : Int32) (l5 : Int32) (S : mS) : F258f (n + 1) 0 l1 l2 l3 l4 l5 S = F258b0 (F258f n) n l1 l2 l3 l4 l5 S := if_pos rfl
theorem F258e52 (n : Nat) (l1 : Int32) (l2 : Int32) (l3 : Int32) (l4 : Int32) (l5 : Int32) (S : mS) : F258f (n + 1) 52 l1 l2 l3 l4 l5 S = F258b52 (F258f n) n l1 l2 l3 l4 l5 S := if_neg (by decide)
def F258 (n : Nat) (l1 : Int32) (l2 : Int32) (S : mS) : Option (Int32 × mS) := F258f n 0 l1 l2 0 0 0 S
set_option maxRecDepth 20000 in
set_option maxHeartbeats 2000000 in
theorem F258l {xs : Nat → Int32} {L9 d : Nat} {h : AmH} {Q : Option Value → AmH → Prop} {r0 : Int32} {S0 : mS} (hh : 172 ≤ h.2.1) (hQ : Q (some (.int r0)) (mst S0 h)) : ∀ n : Nat, (∀ (l1 : Int32) (l2 : Int32) (l3 : Int32) (l4 : Int32) (l5 : Int32) (S : mS), F258f n 0 l1 l2 l3 l4 l5 S = some (r0, S0) → Go (am_X xs L9) (d + 1) 258 0 [.ref 130, .int l1, .int l2, .float 0, .float 0, .float 0, .float 0] [] (mst S h) Q) ∧ (∀ (l1 : Int32) (l2 : Int32) (l3 : Int32) (l4 : Int32) (l5 : Int32) (S : mS), F258f n 52 l1 l2 l3 l4 l5 S = some (r0, S0) → Go (am_X xs L9) (d + 1) 258 52 [.ref 130, .int l1, .int l2, .int l3, .int l4, .int l5, .float 0] [] (mst S h) Q) := by
  intro n
  induction n with
  | zero => exact ⟨fun l1 l2 l3 l4 l5 S hf => (by cases hf), fun l1 l2 l3 l4 l5 S hf => (by cases hf)⟩
  | succ n ih =>
    refine ⟨?_, ?_⟩
    · intro l1 l2 l3 l4 l5 S hf
      rw [F258e0] at hf
      unfold F258b0 at hf
      refine r_iload_n fe_258_0 rfl ?_
      refine r_i2l (v := (Int32.toInt64 l1)) fe_258_1 rfl ?_
      refine r_lconst (v := 0) fe_258_2 (by decide) ?_
      refine r_aload_n fe_258_3 rfl ?_
      refine mr_getf hh fe_258_4 lf_12_9 rfl ?_
      refine r_iconst (v := 1) fe_258_7 (by decide) ?_
      refine r_iald (j := 1) (v := S.2.1 1 1) fe_258_8 m_c_1 (m_lt hh (by decide)) (by decide) (by decide) (by decide) rfl ?_
      refine r_iconst (v := 1) fe_258_9 (by decide) ?_
      refine r_isub (v := ((S.2.1 1 1) - 1)) fe_258_10 rfl ?_
      refine r_i2l (v := (Int32.toInt64 ((S.2.1 1 1) - 1))) fe_258_11 rfl ?_
      refine r_callS (as := [.long (Int32.toInt64 l1), .long 0, .long (Int32.toInt64 ((S.2.1 1 1) - 1))]) (r := []) fe_258_12 lm_12_143 md_172 rfl rfl (Nat.le_of_ble_eq_true rfl) (Nat.le_of_ble_eq_true rfl) (Nat.le_of_ble_eq_true rfl) ?_
      cases hc2 : F172 n (Int32.toInt64 l1) 0 (Int32.toInt64 ((S.2.1 1 1) - 1)) S with
      | none => rw [hc2] at hf; cases hf
      | some z1 =>
        rw [hc2, Option.bind_some] at hf
        refine F172c (r0 := z1.1) (S0 := z1.2) hh hc2 ?_
        by_cases hb3 : am_if .eq z1.1 = true
        · rw [if_pos hb3] at hf
          refine r_if_t (t := 28) fe_258_15 (by decide) hb3 ?_
          refine r_iconst (v := -1) fe_258_28 (by decide) ?_
          refine r_iret fe_258_29 ⟨rfl, by decide⟩ ?_
          exact dfin (P := fun r T => Q (some (.int r)) (mst T h)) hf hQ
        · rw [if_neg hb3] at hf
          refine r_if_f (t := 28) fe_258_15 (by decide) (Bool.eq_false_iff.mpr hb3) ?_
          refine r_iload_n fe_258_18 rfl ?_
          refine r_i2l (v := (Int32.toInt64 l2)) fe_258_19 rfl ?_
          refine r_lconst (v := 0) fe_258_20 (by decide) ?_
          refine r_lconst (v := 1) fe_258_21 (by decide) ?_
          refine r_callS (as := [.long (Int32.toInt64 l2), .long 0, .long 1]) (r := []) fe_258_22 lm_12_143 md_172 rfl rfl (Nat.le_of_ble_eq_true rfl) (Nat.le_of_ble_eq_true rfl) (Nat.le_of_ble_eq_true rfl) ?_
          cases hc5 : F172 n (Int32.toInt64 l2) 0 1 z1.2 with
          | none => rw [hc5] at hf; cases hf
          | some z4 =>
            rw [hc5, Option.bind_some] at hf
            refine F172c (r0 := z4.1) (S0 := z4.2) hh hc5 ?_
            by_cases hb6 : am_if .ne z4.1 = true
            · rw [if_pos hb6] at hf
              refine r_if_t (t := 30) fe_258_25 (by decide) hb6 ?_
              refine r_aload_n fe_258_30 rfl ?_
              refine r_callV (as := []) (r := []) fe_258_31 lm_12_523 md_259 rfl rfl (Nat.le_of_ble_eq_true rfl) m_c_0 (m_lt hh (by decide)) (Nat.le_of_ble_eq_true rfl) (Nat.le_of_ble_eq_true rfl) ?_
              cases hc8 : F259 n  z4.2 with
              | none => rw [hc8] at hf; cases hf
              | some z7 =>
                rw [hc8, Option.bind_some] at hf
                refine F259c (r0 := z7.1) (S0 := z7.2) hh hc8 ?_
                refine r_istore_n fe_258_34 (Nat.le_of_ble_eq_true rfl) rfl ?_
                refine r_iload_n fe_258_35 rfl ?_
                by_cases hb9 : am_if .ne z7.1 = true
                · rw [if_pos hb9] at hf
                  refine r_if_t (t := 41) fe_258_36 (by decide) hb9 ?_
                  refine r_aload_n fe_258_41 rfl ?_
                  refine mr_getf hh fe_258_42 lf_12_25 rfl ?_
                  refine r_iload_n fe_258_45 rfl ?_
                  by_cases hg10 : ¬ (l1 < 0 ∨ 6 ≤ (l1).toNatClampNeg)
                  rotate_left
                  · rw [if_neg hg10] at hf; cases hf
                  rw [if_pos hg10] at hf
                  refine r_iald (j := (Int32.toNatClampNeg l1)) (v := z7.2.2.1 6 (Int32.toNatClampNeg l1)) fe_258_46 m_c_6 (m_lt hh (by decide)) (fun z => hg10 (Or.inl z)) rfl (fun z => hg10 (Or.inr z)) rfl ?_
                  refine r_istore fe_258_47 (Nat.le_of_ble_eq_true rfl) rfl ?_
                  refine r_iload_n fe_258_49 rfl ?_
                  refine r_istore fe_258_50 (Nat.le_of_ble_eq_true rfl) rfl ?_
                  refine go_weak (L0 := [.ref 130, .int l1, .int l2, .int z7.1, .int (z7.2.2.1 6 (Int32.toNatClampNeg l1)), .int z7.1, .float 0]) (lwk_c (Or.inl rfl) (lwk_c (Or.inl rfl) (lwk_c (Or.inl rfl) (lwk_c (Or.inl rfl) (lwk_c (Or.inl rfl) (lwk_c (Or.inl rfl) (lwk_c (Or.inl rfl) (lwk_rf [])))))))) ?_
                  exact ih.2 l1 l2 z7.1 (z7.2.2.1 6 (Int32.toNatClampNeg l1)) z7.1 z7.2 hf
                · rw [if_neg hb9] at hf
                  refine r_if_f (t := 41) fe_258_36 (by decide) (Bool.eq_false_iff.mpr hb9) ?_
                  refine r_iload_n fe_258_39 rfl ?_
                  refine r_iret fe_258_40 ⟨rfl, by decide⟩ ?_
                  exact dfin (P := fun r T => Q (some (.int r)) (mst T h)) hf hQ
            · rw [if_neg hb6] at hf
              refine r_if_f (t := 30) fe_258_25 (by decide) (Bool.eq_false_iff.mpr hb6) ?_
              refine r_iconst (v := -1) fe_258_28 (by decide) ?_
              refine r_iret fe_258_29 ⟨rfl, by decide⟩ ?_
              exact dfin (P := fun r T => Q (some (.int r)) (mst T h)) hf hQ
    · intro l1 l2 l3 l4 l5 S hf
      rw [F258e52] at hf
      unfold F258b52 at hf
      refine r_iload fe_258_52 rfl ?_
      by_cases hb11 : am_if .eq l4 = true
      · rw [if_pos hb11] at hf
        refine r_if_t (t := 75) fe_258_54 (by decide) hb11 ?_
        refine r_iload_n fe_258_75 rfl ?_
        by_cases hb12 : am_if .ne l2 = true
        · rw [if_pos hb12] at hf
          refine r_if_t (t := 91) fe_258_76 (by decide) hb12 ?_
          refine r_iload_n fe_258_91 rfl ?_
          refine r_iload fe_258_92 rfl ?_
          by_cases hz13 : l5 = 0
          · rw [if_pos hz13] at hf; cases hf
          rw [if_neg hz13] at hf
          refine r_idiv (v := (l3 / l5)) fe_258_94 hz13 rfl ?_
          refine r_iret fe_258_95 ⟨rfl, by decide⟩ ?_
          exact dfin (P := fun r T => Q (some (.int r)) (mst T h)) hf hQ
        · rw [if_neg hb12] at hf
          refine r_if_f (t := 91) fe_258_76 (by decide) (Bool.eq_false_iff.mpr hb12) ?_
          refine r_aload_n fe_258_79 rfl ?_
          refine mr_getf hh fe_258_80 lf_12_25 rfl ?_
          refine r_iload_n fe_258_83 rfl ?_
          by_cases hg14 : ¬ (l1 < 0 ∨ 6 ≤ (l1).toNatClampNeg)
          rotate_left
          · rw [if_neg hg14] at hf; cases hf
          rw [if_pos hg14] at hf
          refine r_iald (j := (Int32.toNatClampNeg l1)) (v := S.2.1 6 (Int32.toNatClampNeg l1)) fe_258_84 m_c_6 (m_lt hh (by decide)) (fun z => hg14 (Or.inl z)) rfl (fun z => hg14 (Or.inr z)) rfl ?_
          refine r_iload fe_258_85 rfl ?_
          by_cases hz15 : l5 = 0
          · rw [if_pos hz15] at hf; cases hf
          rw [if_neg hz15] at hf
          refine r_idiv (v := ((S.2.1 6 (Int32.toNatClampNeg l1)) / l5)) fe_258_87 hz15 rfl ?_
          refine r_goto (t := 95) fe_258_88 (by decide) ?_
          refine r_iret fe_258_95 ⟨rfl, by decide⟩ ?_
          exact dfin (P := fun r T => Q (some (.int r)) (mst T h)) hf hQ
      · rw [if_neg hb11] at hf
        refine r_if_f (t := 75) fe_258_54 (by decide) (Bool.eq_false_iff.mpr hb11) ?_
        refine r_iload fe_258_57 rfl ?_
        refine r_iload fe_258_59 rfl ?_
        by_cases hz16 : l4 = 0
        · rw [if_pos hz16] at hf; cases hf
        rw [if_neg hz16] at hf
        refine r_irem (v := (l5 - l5 / l4 * l4)) fe_258_61 hz16 rfl ?_
        refine r_istore fe_258_62 (Nat.le_of_ble_eq_true rfl) rfl ?_
        refine r_iload fe_258_64 rfl ?_
        refine r_istore fe_258_66 (Nat.le_of_ble_eq_true rfl) rfl ?_
        refine r_iload fe_258_68 rfl ?_
        refine r_istore fe_258_70 (Nat.le_of_ble_eq_true rfl) rfl ?_
        refine r_goto (t := 52) fe_258_72 (by decide) ?_
        refine go_weak (L0 := [.ref 130, .int l1, .int l2, .int l3, .int (l5 - l5 / l4 * l4), .int l4, .float 0]) (lwk_c (Or.inl rfl) (lwk_c (Or.inl rfl) (lwk_c (Or.inl rfl) (lwk_c (Or.inl rfl) (lwk_c (Or.inl rfl) (lwk_c (Or.inl rfl) (lwk_c (Or.inr rfl) (lwk_rf [])))))))) ?_
        exact ih.2 l1 l2 l3 (l5 - l5 / l4 * l4) l4 S hf
theorem F258c {xs : Nat → Int32} {L9 d n : Nat} {h : AmH} {Q : Option Value → AmH → Prop} {r0 : Int32} {S0 S : mS} {l1 : Int32} {l2 : Int32} (hh : 172 ≤ h.2.1) (hf : F258 n l1 l2 S = some (r0, S0)) (hQ : Q (some (.int r0)) (mst S0 h)) : Ca (am_X xs L9) (d + 1) 258 [.ref 130, .int l1, .int l2] (mst S h) Q := (F258l hh hQ n).1 l1 l2 0 0 0 S hf
def F260b0 (F : Nat → Int32 → mS → Option (Int32 × mS)) (n : Nat) (l1 : Int32) (S : mS) : Option (Int32 × mS) := (if am_if .ge l1 = true then some ((S.2.1 1 7), (m_sA S 1 7 l1)) else some ((-1), S))
def F260f : Nat → Nat → Int32 → mS → Option (Int32 × mS)
  | 0, _, _, _ => none
  | n + 1, c, l1, S => F260b0 (F260f n) n l1 S
theorem F260e0 (n : Nat) (l1 : Int32) (S : mS) : F260f (n + 1) 0 l1 S = F260b0 (F260f n) n l1 S := rfl
def F260 (n : Nat) (l1 : Int32) (S : mS) : Option (Int32 × mS) := F260f n 0 l1 S
set_option maxRecDepth 20000 in
set_option maxHeartbeats 2000000 in
theorem F260l {xs : Nat → Int32} {L9 d : Nat} {h : AmH} {Q : Option Value → AmH → Prop} {r0 : Int32} {S0 : mS} (hh : 172 ≤ h.2.1) (hQ : Q (some (.int r0)) (mst S0 h)) : ∀ n : Nat, (∀ (l1 : Int32) (S : mS), F260f n 0 l1 S = some (r0, S0) → Go (am_X xs L9) (d + 0) 260 0 [.ref 130, .int l1, .float 0] [] (mst S h) Q) := by
  intro n
  induction n with
  | zero => exact fun l1 S hf => (by cases hf)
  | succ n ih =>
    intro l1 S hf
    rw [F260e0] at hf
    unfold F260b0 at hf
    refine r_iload_n fe_260_0 rfl ?_
    by_cases hb1 : am_if .ge l1 = true
    · rw [if_pos hb1] at hf
      refine r_if_t (t := 6) fe_260_1 (by decide) hb1 ?_
      refine r_aload_n fe_260_6 rfl ?_
      refine mr_getf hh fe_260_7 lf_12_9 rfl ?_
      refine r_bipush (v := 7) fe_260_10 (by decide) ?_
      refine r_iald (j := 7) (v := S.2.1 1 7) fe_260_12 m_c_1 (m_lt hh (by decide)) (by decide) (by decide) (by decide) rfl ?_
      refine r_istore_n fe_260_13 (Nat.le_of_ble_eq_true rfl) rfl ?_
      refine r_aload_n fe_260_14 rfl ?_
      refine mr_getf hh fe_260_15 lf_12_9 rfl ?_
      refine r_bipush (v := 7) fe_260_18 (by decide) ?_
      refine r_iload_n fe_260_20 rfl ?_
      refine mr_iast (k := 1) (n := 9) (j := 7) hh fe_260_21 rfl (by decide) (by decide) rfl rfl (by decide) (by decide) (by decide) ?_
      refine r_iload_n fe_260_22 rfl ?_
      refine r_iret fe_260_23 ⟨rfl, by decide⟩ ?_
      exact dfin (P := fun r T => Q (some (.int r)) (mst T h)) hf hQ
    · rw [if_neg hb1] at hf
      refine r_if_f (t := 6) fe_260_1 (by decide) (Bool.eq_false_iff.mpr hb1) ?_
      refine r_iconst (v := -1) fe_260_4 (by decide) ?_
      refine r_iret fe_260_5 ⟨rfl, by decide⟩ ?_
      exact dfin (P := fun r T => Q (some (.int r)) (mst T h)) hf hQ
theorem F260c {xs : Nat → Int32} {L9 d n : Nat} {h : AmH} {Q : Option Value → AmH → Prop} {r0 : Int32} {S0 S : mS} {l1 : Int32} (hh : 172 ≤ h.2.1) (hf : F260 n l1 S = some (r0, S0)) (hQ : Q (some (.int r0)) (mst S0 h)) : Ca (am_X xs L9) (d + 0) 260 [.ref 130, .int l1] (mst S h) Q := (F260l hh hQ n) l1 S hf
def F262b0 (F : Nat → Int32 → Int32 → Int32 → mS → Option (Int32 × mS)) (n : Nat) (l1 : Int32) (l2 : Int32) (l3 : Int32) (S : mS) : Option (Int32 × mS) := F 4 l1 0 0 S
def F262b4 (F : Nat → Int32 → Int32 → Int32 → mS → Option (Int32 × mS)) (n : Nat) (l1 : Int32) (l2 : Int32) (l3 : Int32) (S : mS) : Option (Int32 × mS) := (if am_ic .ge l3 (S.2.1 1 4) = true then some (l2, S) else (if ¬ (l3 < 0 ∨ 13 ≤ (l3).toNatClampNeg) then (if am_ic .ne (S.2.1 13 (Int32.toNatClampNeg l3)) l1 = true then F 4 l1 (l2 + 0) (l3 + 1) S else F 4 l1 (l2 + 1) (l3 + 1) S) else none))
def F262f : Nat → Nat → Int32 → Int32 → Int32 → mS → Option (Int32 × mS)
  | 0, _, _, _, _, _ => none
  | n + 1, c, l1, l2, l3, S => if c = 0 then F262b0 (F262f n) n l1 l2 l3 S else F262b4 (F262f n) n l1 l2 l3 S
theorem F262e0 (n : Nat) (l1 : Int32) (l2 : Int32) (l3 : Int32) (S : mS) : F262f (n + 1) 0 l1 l2 l3 S = F262b0 (F262f n) n l1 l2 l3 S := if_pos rfl
theorem F262e4 (n : Nat) (l1 : Int32) (l2 : Int32) (l3 : Int32) (S : mS) : F262f (n + 1) 4 l1 l2 l3 S = F262b4 (F262f n) n l1 l2 l3 S := if_neg (by decide)
def F262 (n : Nat) (l1 : Int32) (S : mS) : Option (Int32 × mS) := F262f n 0 l1 0 0 S
set_option maxRecDepth 20000 in
set_option maxHeartbeats 2000000 in
theorem F262l {xs : Nat → Int32} {L9 d : Nat} {h : AmH} {Q : Option Value → AmH → Prop} {r0 : Int32} {S0 : mS} (hh : 172 ≤ h.2.1) (hQ : Q (some (.int r0)) (mst S0 h)) : ∀ n : Nat, (∀ (l1 : Int32) (l2 : Int32) (l3 : Int32) (S : mS), F262f n 0 l1 l2 l3 S = some (r0, S0) → Go (am_X xs L9) (d + 0) 262 0 [.ref 130, .int l1, .float 0, .float 0] [] (mst S h) Q) ∧ (∀ (l1 : Int32) (l2 : Int32) (l3 : Int32) (S : mS), F262f n 4 l1 l2 l3 S = some (r0, S0) → Go (am_X xs L9) (d + 0) 262 4 [.ref 130, .int l1, .int l2, .int l3] [] (mst S h) Q) := by
  intro n
  induction n with
  | zero => exact ⟨fun l1 l2 l3 S hf => (by cases hf), fun l1 l2 l3 S hf => (by cases hf)⟩
  | succ n ih =>
    refine ⟨?_, ?_⟩
    · intro l1 l2 l3 S hf
      rw [F262e0] at hf
      unfold F262b0 at hf
      refine r_iconst (v := 0) fe_262_0 (by decide) ?_
      refine r_istore_n fe_262_1 (Nat.le_of_ble_eq_true rfl) rfl ?_
      refine r_iconst (v := 0) fe_262_2 (by decide) ?_
      refine r_istore_n fe_262_3 (Nat.le_of_ble_eq_true rfl) rfl ?_
      refine go_weak (L0 := [.ref 130, .int l1, .int 0, .int 0]) (lwk_c (Or.inl rfl) (lwk_c (Or.inl rfl) (lwk_c (Or.inl rfl) (lwk_c (Or.inl rfl) (lwk_rf []))))) ?_
      exact ih.2 l1 0 0 S hf
    · intro l1 l2 l3 S hf
      rw [F262e4] at hf
      unfold F262b4 at hf
      refine r_iload_n fe_262_4 rfl ?_
      refine r_aload_n fe_262_5 rfl ?_
      refine mr_getf hh fe_262_6 lf_12_9 rfl ?_
      refine r_iconst (v := 4) fe_262_9 (by decide) ?_
      refine r_iald (j := 4) (v := S.2.1 1 4) fe_262_10 m_c_1 (m_lt hh (by decide)) (by decide) (by decide) (by decide) rfl ?_
      by_cases hb1 : am_ic .ge l3 (S.2.1 1 4) = true
      · rw [if_pos hb1] at hf
        refine r_ic_t (t := 38) fe_262_11 (by decide) hb1 ?_
        refine r_iload_n fe_262_38 rfl ?_
        refine r_iret fe_262_39 ⟨rfl, by decide⟩ ?_
        exact dfin (P := fun r T => Q (some (.int r)) (mst T h)) hf hQ
      · rw [if_neg hb1] at hf
        refine r_ic_f (t := 38) fe_262_11 (by decide) (Bool.eq_false_iff.mpr hb1) ?_
        refine r_iload_n fe_262_14 rfl ?_
        refine r_aload_n fe_262_15 rfl ?_
        refine mr_getf hh fe_262_16 lf_12_46 rfl ?_
        refine r_iload_n fe_262_19 rfl ?_
        by_cases hg2 : ¬ (l3 < 0 ∨ 13 ≤ (l3).toNatClampNeg)
        rotate_left
        · rw [if_neg hg2] at hf; cases hf
        rw [if_pos hg2] at hf
        refine r_iald (j := (Int32.toNatClampNeg l3)) (v := S.2.1 13 (Int32.toNatClampNeg l3)) fe_262_20 m_c_13 (m_lt hh (by decide)) (fun z => hg2 (Or.inl z)) rfl (fun z => hg2 (Or.inr z)) rfl ?_
        refine r_iload_n fe_262_21 rfl ?_
        by_cases hb3 : am_ic .ne (S.2.1 13 (Int32.toNatClampNeg l3)) l1 = true
        · rw [if_pos hb3] at hf
          refine r_ic_t (t := 29) fe_262_22 (by decide) hb3 ?_
          refine r_iconst (v := 0) fe_262_29 (by decide) ?_
          refine r_iadd (v := (l2 + 0)) fe_262_30 rfl ?_
          refine r_istore_n fe_262_31 (Nat.le_of_ble_eq_true rfl) rfl ?_
          refine r_iinc (v := (l3 + 1)) fe_262_32 rfl rfl rfl ?_
          refine r_goto (t := 4) fe_262_35 (by decide) ?_
          refine go_weak (L0 := [.ref 130, .int l1, .int (l2 + 0), .int (l3 + 1)]) (lwk_c (Or.inl rfl) (lwk_c (Or.inl rfl) (lwk_c (Or.inl rfl) (lwk_c (Or.inl rfl) (lwk_rf []))))) ?_
          exact ih.2 l1 (l2 + 0) (l3 + 1) S hf
        · rw [if_neg hb3] at hf
          refine r_ic_f (t := 29) fe_262_22 (by decide) (Bool.eq_false_iff.mpr hb3) ?_
          refine r_iconst (v := 1) fe_262_25 (by decide) ?_
          refine r_goto (t := 30) fe_262_26 (by decide) ?_
          refine r_iadd (v := (l2 + 1)) fe_262_30 rfl ?_
          refine r_istore_n fe_262_31 (Nat.le_of_ble_eq_true rfl) rfl ?_
          refine r_iinc (v := (l3 + 1)) fe_262_32 rfl rfl rfl ?_
          refine r_goto (t := 4) fe_262_35 (by decide) ?_
          refine go_weak (L0 := [.ref 130, .int l1, .int (l2 + 1), .int (l3 + 1)]) (lwk_c (Or.inl rfl) (lwk_c (Or.inl rfl) (lwk_c (Or.inl rfl) (lwk_c (Or.inl rfl) (lwk_rf []))))) ?_
          exact ih.2 l1 (l2 + 1) (l3 + 1) S hf
theorem F262c {xs : Nat → Int32} {L9 d n : Nat} {h : AmH} {Q : Option Value → AmH → Prop} {r0 : Int32} {S0 S : mS} {l1 : Int32} (hh : 172 ≤ h.2.1) (hf : F262 n l1 S = some (r0, S0)) (hQ : Q (some (.int r0)) (mst S0 h)) : Ca (am_X xs L9) (d + 0) 262 [.ref 130, .int l1] (mst S h) Q := (F262l hh hQ n).1 l1 0 0 S hf
def F263b0 (F : Nat → Int32 → mS → Option (Int32 × mS)) (n : Nat) (l1 : Int32) (S : mS) : Option (Int32 × mS) := (if l1 = 0 then none else some (((((m_sA S 1 7 (Int64.toInt32 ((((Int32.toInt64 (S.2.1 1 7)) * 1103515245) + 12345) - (((Int32.toInt64 (S.2.1 1 7)) * 1103515245) + 12345) / 2147483648 * 2147483648))).2.1 1 7) / 65536) - (((m_sA S 1 7 (Int64.toInt32 ((((Int32.toInt64 (S.2.1 1 7)) * 1103515245) + 12345) - (((Int32.toInt64 (S.2.1 1 7)) * 1103515245) + 12345) / 2147483648 * 2147483648))).2.1 1 7) / 65536) / l1 * l1), (m_sA S 1 7 (Int64.toInt32 ((((Int32.toInt64 (S.2.1 1 7)) * 1103515245) + 12345) - (((Int32.toInt64 (S.2.1 1 7)) * 1103515245) + 12345) / 2147483648 * 2147483648)))))
def F263f : Nat → Nat → Int32 → mS → Option (Int32 × mS)
  | 0, _, _, _ => none
  | n + 1, c, l1, S => F263b0 (F263f n) n l1 S
theorem F263e0 (n : Nat) (l1 : Int32) (S : mS) : F263f (n + 1) 0 l1 S = F263b0 (F263f n) n l1 S := rfl
def F263 (n : Nat) (l1 : Int32) (S : mS) : Option (Int32 × mS) := F263f n 0 l1 S
set_option maxRecDepth 20000 in
set_option maxHeartbeats 2000000 in
theorem F263l {xs : Nat → Int32} {L9 d : Nat} {h : AmH} {Q : Option Value → AmH → Prop} {r0 : Int32} {S0 : mS} (hh : 172 ≤ h.2.1) (hQ : Q (some (.int r0)) (mst S0 h)) : ∀ n : Nat, (∀ (l1 : Int32) (S : mS), F263f n 0 l1 S = some (r0, S0) → Go (am_X xs L9) (d + 0) 263 0 [.ref 130, .int l1] [] (mst S h) Q) := by
  intro n
  induction n with
  | zero => exact fun l1 S hf => (by cases hf)
  | succ n ih =>
    intro l1 S hf
    rw [F263e0] at hf
    unfold F263b0 at hf
    refine r_aload_n fe_263_0 rfl ?_
    refine mr_getf hh fe_263_1 lf_12_9 rfl ?_
    refine r_bipush (v := 7) fe_263_4 (by decide) ?_
    refine r_aload_n fe_263_6 rfl ?_
    refine mr_getf hh fe_263_7 lf_12_9 rfl ?_
    refine r_bipush (v := 7) fe_263_10 (by decide) ?_
    refine r_iald (j := 7) (v := S.2.1 1 7) fe_263_12 m_c_1 (m_lt hh (by decide)) (by decide) (by decide) (by decide) rfl ?_
    refine r_i2l (v := (Int32.toInt64 (S.2.1 1 7))) fe_263_13 rfl ?_
    refine r_ldc2 fe_263_14 lk_12_526 ?_
    refine r_lmul (v := ((Int32.toInt64 (S.2.1 1 7)) * 1103515245)) fe_263_17 rfl ?_
    refine r_ldc2 fe_263_18 lk_12_528 ?_
    refine r_ladd (v := (((Int32.toInt64 (S.2.1 1 7)) * 1103515245) + 12345)) fe_263_21 rfl ?_
    refine r_ldc2 fe_263_22 lk_12_530 ?_
    refine r_lrem (v := ((((Int32.toInt64 (S.2.1 1 7)) * 1103515245) + 12345) - (((Int32.toInt64 (S.2.1 1 7)) * 1103515245) + 12345) / 2147483648 * 2147483648)) fe_263_25 (by decide) rfl ?_
    refine r_l2i (v := (Int64.toInt32 ((((Int32.toInt64 (S.2.1 1 7)) * 1103515245) + 12345) - (((Int32.toInt64 (S.2.1 1 7)) * 1103515245) + 12345) / 2147483648 * 2147483648))) fe_263_26 rfl ?_
    refine mr_iast (k := 1) (n := 9) (j := 7) hh fe_263_27 rfl (by decide) (by decide) rfl rfl (by decide) (by decide) (by decide) ?_
    refine r_aload_n fe_263_28 rfl ?_
    refine mr_getf hh fe_263_29 lf_12_9 rfl ?_
    refine r_bipush (v := 7) fe_263_32 (by decide) ?_
    refine r_iald (j := 7) (v := (m_sA S 1 7 (Int64.toInt32 ((((Int32.toInt64 (S.2.1 1 7)) * 1103515245) + 12345) - (((Int32.toInt64 (S.2.1 1 7)) * 1103515245) + 12345) / 2147483648 * 2147483648))).2.1 1 7) fe_263_34 m_c_1 (m_lt hh (by decide)) (by decide) (by decide) (by decide) rfl ?_
    refine r_ldc_w fe_263_35 lk_12_532 ?_
    refine r_idiv (v := (((m_sA S 1 7 (Int64.toInt32 ((((Int32.toInt64 (S.2.1 1 7)) * 1103515245) + 12345) - (((Int32.toInt64 (S.2.1 1 7)) * 1103515245) + 12345) / 2147483648 * 2147483648))).2.1 1 7) / 65536)) fe_263_38 (by decide) rfl ?_
    refine r_iload_n fe_263_39 rfl ?_
    by_cases hz1 : l1 = 0
    · rw [if_pos hz1] at hf; cases hf
    rw [if_neg hz1] at hf
    refine r_irem (v := ((((m_sA S 1 7 (Int64.toInt32 ((((Int32.toInt64 (S.2.1 1 7)) * 1103515245) + 12345) - (((Int32.toInt64 (S.2.1 1 7)) * 1103515245) + 12345) / 2147483648 * 2147483648))).2.1 1 7) / 65536) - (((m_sA S 1 7 (Int64.toInt32 ((((Int32.toInt64 (S.2.1 1 7)) * 1103515245) + 12345) - (((Int32.toInt64 (S.2.1 1 7)) * 1103515245) + 12345) / 2147483648 * 2147483648))).2.1 1 7) / 65536) / l1 * l1)) fe_263_40 hz1 rfl ?_
    refine r_iret fe_263_41 ⟨rfl, by decide⟩ ?_
    exact dfin (P := fun r T => Q (some (.int r)) (mst T h)) hf hQ
theorem F263c {xs : Nat → Int32} {L9 d n : Nat} {h : AmH} {Q : Option Value → AmH → Prop} {r0 : Int32} {S0 S : mS} {l1 : Int32} (hh : 172 ≤ h.2.1) (hf : F263 n l1 S = some (r0, S0)) (hQ : Q (some (.int r0)) (mst S0 h)) : Ca (am_X xs L9) (d + 0) 263 [.ref 130, .int l1] (mst S h) Q := (F263l hh hQ n) l1 S hf
def F261b0 (F : Nat → Int32 → Int32 → Int32 → Int32 → Int32 → Int32 → Int32 → Int32 → mS → Option (Int32 × mS)) (n : Nat) (l1 : Int32) (l2 : Int32) (l3 : Int32) (l4 : Int32) (l5 : Int32) (l6 : Int32) (l7 : Int32) (l8 : Int32) (S : mS) : Option (Int32 × mS) := ((F210 n  S).bind (fun z1 => (if am_if .eq z1.1 = true then some ((-1), z1.2) else ((F172 n (Int32.toInt64 l1) 1 10 z1.2).bind (fun z4 => (if am_if .eq z4.1 = true then some ((-1), z4.2) else ((F172 n (Int32.toInt64 l2) 1 60 z4.2).bind (fun z7 => (if am_if .eq z7.1 = true then some ((-1), z7.2) else ((F172 n (Int32.toInt64 l3) 0 2 z7.2).bind (fun z10 => (if am_if .ne z10.1 = true then ((F239 n  z10.2).bind (fun z13 => F 68 l1 l2 l3 (z10.2.2.1 1 7) (z10.2.2.1 1 7) 0 0 0 z13.2)) else some ((-1), z10.2)))))))))))))
def F261b68 (F : Nat → Int32 → Int32 → Int32 → Int32 → Int32 → Int32 → Int32 → Int32 → mS → Option (Int32 × mS)) (n : Nat) (l1 : Int32) (l2 : Int32) (l3 : Int32) (l4 : Int32) (l5 : Int32) (l6 : Int32) (l7 : Int32) (l8 : Int32) (S : mS) : Option (Int32 × mS) := (if am_ic .ge l7 l1 = true then some (l6, (m_sA S 1 7 l4)) else ((F262 n (l3 + 1) (m_sA S 1 7 l5)).bind (fun z16 => F 98 l1 l2 l3 l4 0 (l6 - z16.1) l7 0 z16.2)))
def F261b98 (F : Nat → Int32 → Int32 → Int32 → Int32 → Int32 → Int32 → Int32 → Int32 → mS → Option (Int32 × mS)) (n : Nat) (l1 : Int32) (l2 : Int32) (l3 : Int32) (l4 : Int32) (l5 : Int32) (l6 : Int32) (l7 : Int32) (l8 : Int32) (S : mS) : Option (Int32 × mS) := (if am_ic .ge l8 l2 = true then ((F262 n (l3 + 1) S).bind (fun z19 => ((F243 n  z19.2).bind (fun z21 => F 68 l1 l2 l3 l4 (z19.2.2.1 1 7) (l6 + z19.1) (l7 + 1) 0 z21.2)))) else ((F263 n (S.2.1 1 0) S).bind (fun z23 => ((F263 n 6 z23.2).bind (fun z25 => (if am_ic .ge (z25.2.2.1 1 4) 12 = true then ((F212 n  z25.2).bind (fun z28 => F 98 l1 l2 l3 l4 0 l6 l7 (l8 + 1) z28.2)) else ((F232 n z23.1 (z25.1 + 1) 0 z25.2).bind (fun z30 => ((F212 n  z30.2).bind (fun z32 => F 98 l1 l2 l3 l4 0 l6 l7 (l8 + 1) z32.2))))))))))
def F261f : Nat → Nat → Int32 → Int32 → Int32 → Int32 → Int32 → Int32 → Int32 → Int32 → mS → Option (Int32 × mS)
  | 0, _, _, _, _, _, _, _, _, _, _ => none
  | n + 1, c, l1, l2, l3, l4, l5, l6, l7, l8, S => if c = 0 then F261b0 (F261f n) n l1 l2 l3 l4 l5 l6 l7 l8 S else if c = 68 then F261b68 (F261f n) n l1 l2 l3 l4 l5 l6 l7 l8 S else F261b98 (F261f n) n l1 l2 l3 l4 l5 l6 l7 l8 S
theorem F261e0 (n : Nat) (l1 : Int32) (l2 : Int32) (l3 : Int32) (l4 : Int32) (l5 : Int32) (l6 : Int32) (l7 : Int32) (l8 : Int32) (S : mS) : F261f (n + 1) 0 l1 l2 l3 l4 l5 l6 l7 l8 S = F261b0 (F261f n) n l1 l2 l3 l4 l5 l6 l7 l8 S := if_pos rfl
theorem F261e68 (n : Nat) (l1 : Int32) (l2 : Int32) (l3 : Int32) (l4 : Int32) (l5 : Int32) (l6 : Int32) (l7 : Int32) (l8 : Int32) (S : mS) : F261f (n + 1) 68 l1 l2 l3 l4 l5 l6 l7 l8 S = F261b68 (F261f n) n l1 l2 l3 l4 l5 l6 l7 l8 S := (if_neg (by decide)).trans (if_pos rfl)
theorem F261e98 (n : Nat) (l1 : Int32) (l2 : Int32) (l3 : Int32) (l4 : Int32) (l5 : Int32) (l6 : Int32) (l7 : Int32) (l8 : Int32) (S : mS) : F261f (n + 1) 98 l1 l2 l3 l4 l5 l6 l7 l8 S = F261b98 (F261f n) n l1 l2 l3 l4 l5 l6 l7 l8 S := (if_neg (by decide)).trans (if_neg (by decide))
def F261 (n : Nat) (l1 : Int32) (l2 : Int32) (l3 : Int32) (S : mS) : Option (Int32 × mS) := F261f n 0 l1 l2 l3 0 0 0 0 0 S
set_option maxRecDepth 20000 in
set_option maxHeartbeats 2000000 in
theorem F261l {xs : Nat → Int32} {L9 d : Nat} {h : AmH} {Q : Option Value → AmH → Prop} {r0 : Int32} {S0 : mS} (hh : 172 ≤ h.2.1) (hQ : Q (some (.int r0)) (mst S0 h)) : ∀ n : Nat, (∀ (l1 : Int32) (l2 : Int32) (l3 : Int32) (l4 : Int32) (l5 : Int32) (l6 : Int32) (l7 : Int32) (l8 : Int32) (S : mS), F261f n 0 l1 l2 l3 l4 l5 l6 l7 l8 S = some (r0, S0) → Go (am_X xs L9) (d + 7) 261 0 [.ref 130, .int l1, .int l2, .int l3, .float 0, .float 0, .float 0, .float 0, .float 0, .float 0, .float 0] [] (mst S h) Q) ∧ (∀ (l1 : Int32) (l2 : Int32) (l3 : Int32) (l4 : Int32) (l5 : Int32) (l6 : Int32) (l7 : Int32) (l8 : Int32) (S : mS), F261f n 68 l1 l2 l3 l4 l5 l6 l7 l8 S = some (r0, S0) → Go (am_X xs L9) (d + 7) 261 68 [.ref 130, .int l1, .int l2, .int l3, .int l4, .int l5, .int l6, .int l7, .float 0, .float 0, .float 0] [] (mst S h) Q) ∧ (∀ (l1 : Int32) (l2 : Int32) (l3 : Int32) (l4 : Int32) (l5 : Int32) (l6 : Int32) (l7 : Int32) (l8 : Int32) (S : mS), F261f n 98 l1 l2 l3 l4 l5 l6 l7 l8 S = some (r0, S0) → Go (am_X xs L9) (d + 7) 261 98 [.ref 130, .int l1, .int l2, .int l3, .int l4, .float 0, .int l6, .int l7, .int l8, .float 0, .float 0] [] (mst S h) Q) := by
  intro n
  induction n with
  | zero => exact ⟨fun l1 l2 l3 l4 l5 l6 l7 l8 S hf => (by cases hf), fun l1 l2 l3 l4 l5 l6 l7 l8 S hf => (by cases hf), fun l1 l2 l3 l4 l5 l6 l7 l8 S hf => (by cases hf)⟩
  | succ n ih =>
    refine ⟨?_, ?_, ?_⟩
    · intro l1 l2 l3 l4 l5 l6 l7 l8 S hf
      rw [F261e0] at hf
      unfold F261b0 at hf
      refine r_aload_n fe_261_0 rfl ?_
      refine r_callV (as := []) (r := []) fe_261_1 lm_12_457 md_210 rfl rfl (Nat.le_of_ble_eq_true rfl) m_c_0 (m_lt hh (by decide)) (Nat.le_of_ble_eq_true rfl) (Nat.le_of_ble_eq_true rfl) ?_
      cases hc2 : F210 n  S with
      | none => rw [hc2] at hf; cases hf
      | some z1 =>
        rw [hc2, Option.bind_some] at hf
        refine F210c (r0 := z1.1) (S0 := z1.2) hh hc2 ?_
        by_cases hb3 : am_if .eq z1.1 = true
        · rw [if_pos hb3] at hf
          refine r_if_t (t := 43) fe_261_4 (by decide) hb3 ?_
          refine r_iconst (v := -1) fe_261_43 (by decide) ?_
          refine r_iret fe_261_44 ⟨rfl, by decide⟩ ?_
          exact dfin (P := fun r T => Q (some (.int r)) (mst T h)) hf hQ
        · rw [if_neg hb3] at hf
          refine r_if_f (t := 43) fe_261_4 (by decide) (Bool.eq_false_iff.mpr hb3) ?_
          refine r_iload_n fe_261_7 rfl ?_
          refine r_i2l (v := (Int32.toInt64 l1)) fe_261_8 rfl ?_
          refine r_lconst (v := 1) fe_261_9 (by decide) ?_
          refine r_ldc2 fe_261_10 lk_12_533 ?_
          refine r_callS (as := [.long (Int32.toInt64 l1), .long 1, .long 10]) (r := []) fe_261_13 lm_12_143 md_172 rfl rfl (Nat.le_of_ble_eq_true rfl) (Nat.le_of_ble_eq_true rfl) (Nat.le_of_ble_eq_true rfl) ?_
          cases hc5 : F172 n (Int32.toInt64 l1) 1 10 z1.2 with
          | none => rw [hc5] at hf; cases hf
          | some z4 =>
            rw [hc5, Option.bind_some] at hf
            refine F172c (r0 := z4.1) (S0 := z4.2) hh hc5 ?_
            by_cases hb6 : am_if .eq z4.1 = true
            · rw [if_pos hb6] at hf
              refine r_if_t (t := 43) fe_261_16 (by decide) hb6 ?_
              refine r_iconst (v := -1) fe_261_43 (by decide) ?_
              refine r_iret fe_261_44 ⟨rfl, by decide⟩ ?_
              exact dfin (P := fun r T => Q (some (.int r)) (mst T h)) hf hQ
            · rw [if_neg hb6] at hf
              refine r_if_f (t := 43) fe_261_16 (by decide) (Bool.eq_false_iff.mpr hb6) ?_
              refine r_iload_n fe_261_19 rfl ?_
              refine r_i2l (v := (Int32.toInt64 l2)) fe_261_20 rfl ?_
              refine r_lconst (v := 1) fe_261_21 (by decide) ?_
              refine r_ldc2 fe_261_22 lk_12_484 ?_
              refine r_callS (as := [.long (Int32.toInt64 l2), .long 1, .long 60]) (r := []) fe_261_25 lm_12_143 md_172 rfl rfl (Nat.le_of_ble_eq_true rfl) (Nat.le_of_ble_eq_true rfl) (Nat.le_of_ble_eq_true rfl) ?_
              cases hc8 : F172 n (Int32.toInt64 l2) 1 60 z4.2 with
              | none => rw [hc8] at hf; cases hf
              | some z7 =>
                rw [hc8, Option.bind_some] at hf
                refine F172c (r0 := z7.1) (S0 := z7.2) hh hc8 ?_
                by_cases hb9 : am_if .eq z7.1 = true
                · rw [if_pos hb9] at hf
                  refine r_if_t (t := 43) fe_261_28 (by decide) hb9 ?_
                  refine r_iconst (v := -1) fe_261_43 (by decide) ?_
                  refine r_iret fe_261_44 ⟨rfl, by decide⟩ ?_
                  exact dfin (P := fun r T => Q (some (.int r)) (mst T h)) hf hQ
                · rw [if_neg hb9] at hf
                  refine r_if_f (t := 43) fe_261_28 (by decide) (Bool.eq_false_iff.mpr hb9) ?_
                  refine r_iload_n fe_261_31 rfl ?_
                  refine r_i2l (v := (Int32.toInt64 l3)) fe_261_32 rfl ?_
                  refine r_lconst (v := 0) fe_261_33 (by decide) ?_
                  refine r_ldc2 fe_261_34 lk_12_486 ?_
                  refine r_callS (as := [.long (Int32.toInt64 l3), .long 0, .long 2]) (r := []) fe_261_37 lm_12_143 md_172 rfl rfl (Nat.le_of_ble_eq_true rfl) (Nat.le_of_ble_eq_true rfl) (Nat.le_of_ble_eq_true rfl) ?_
                  cases hc11 : F172 n (Int32.toInt64 l3) 0 2 z7.2 with
                  | none => rw [hc11] at hf; cases hf
                  | some z10 =>
                    rw [hc11, Option.bind_some] at hf
                    refine F172c (r0 := z10.1) (S0 := z10.2) hh hc11 ?_
                    by_cases hb12 : am_if .ne z10.1 = true
                    · rw [if_pos hb12] at hf
                      refine r_if_t (t := 45) fe_261_40 (by decide) hb12 ?_
                      refine r_aload_n fe_261_45 rfl ?_
                      refine mr_getf hh fe_261_46 lf_12_9 rfl ?_
                      refine r_bipush (v := 7) fe_261_49 (by decide) ?_
                      refine r_iald (j := 7) (v := z10.2.2.1 1 7) fe_261_51 m_c_1 (m_lt hh (by decide)) (by decide) (by decide) (by decide) rfl ?_
                      refine r_istore fe_261_52 (Nat.le_of_ble_eq_true rfl) rfl ?_
                      refine r_iload fe_261_54 rfl ?_
                      refine r_istore fe_261_56 (Nat.le_of_ble_eq_true rfl) rfl ?_
                      refine r_iconst (v := 0) fe_261_58 (by decide) ?_
                      refine r_istore fe_261_59 (Nat.le_of_ble_eq_true rfl) rfl ?_
                      refine r_aload_n fe_261_61 rfl ?_
                      refine r_callV (as := []) (r := []) fe_261_62 lm_12_488 md_239 rfl rfl (Nat.le_of_ble_eq_true rfl) m_c_0 (m_lt hh (by decide)) (Nat.le_of_ble_eq_true rfl) (Nat.le_of_ble_eq_true rfl) ?_
                      cases hc14 : F239 n  z10.2 with
                      | none => rw [hc14] at hf; cases hf
                      | some z13 =>
                        rw [hc14, Option.bind_some] at hf
                        refine F239c (r0 := z13.1) (S0 := z13.2) hh hc14 ?_
                        refine r_iconst (v := 0) fe_261_65 (by decide) ?_
                        refine r_istore fe_261_66 (Nat.le_of_ble_eq_true rfl) rfl ?_
                        refine go_weak (L0 := [.ref 130, .int l1, .int l2, .int l3, .int (z10.2.2.1 1 7), .int (z10.2.2.1 1 7), .int 0, .int 0, .float 0, .float 0, .float 0]) (lwk_c (Or.inl rfl) (lwk_c (Or.inl rfl) (lwk_c (Or.inl rfl) (lwk_c (Or.inl rfl) (lwk_c (Or.inl rfl) (lwk_c (Or.inl rfl) (lwk_c (Or.inl rfl) (lwk_c (Or.inl rfl) (lwk_c (Or.inl rfl) (lwk_c (Or.inl rfl) (lwk_c (Or.inl rfl) (lwk_rf [])))))))))))) ?_
                        exact ih.2.1 l1 l2 l3 (z10.2.2.1 1 7) (z10.2.2.1 1 7) 0 0 0 z13.2 hf
                    · rw [if_neg hb12] at hf
                      refine r_if_f (t := 45) fe_261_40 (by decide) (Bool.eq_false_iff.mpr hb12) ?_
                      refine r_iconst (v := -1) fe_261_43 (by decide) ?_
                      refine r_iret fe_261_44 ⟨rfl, by decide⟩ ?_
                      exact dfin (P := fun r T => Q (some (.int r)) (mst T h)) hf hQ
    · intro l1 l2 l3 l4 l5 l6 l7 l8 S hf
      rw [F261e68] at hf
      unfold F261b68 at hf
      refine r_iload fe_261_68 rfl ?_
      refine r_iload_n fe_261_70 rfl ?_
      by_cases hb15 : am_ic .ge l7 l1 = true
      · rw [if_pos hb15] at hf
        refine r_ic_t (t := 189) fe_261_71 (by decide) hb15 ?_
        refine r_aload_n fe_261_189 rfl ?_
        refine mr_getf hh fe_261_190 lf_12_9 rfl ?_
        refine r_bipush (v := 7) fe_261_193 (by decide) ?_
        refine r_iload fe_261_195 rfl ?_
        refine mr_iast (k := 1) (n := 9) (j := 7) hh fe_261_197 rfl (by decide) (by decide) rfl rfl (by decide) (by decide) (by decide) ?_
        refine r_iload fe_261_198 rfl ?_
        refine r_iret fe_261_200 ⟨rfl, by decide⟩ ?_
        exact dfin (P := fun r T => Q (some (.int r)) (mst T h)) hf hQ
      · rw [if_neg hb15] at hf
        refine r_ic_f (t := 189) fe_261_71 (by decide) (Bool.eq_false_iff.mpr hb15) ?_
        refine r_aload_n fe_261_74 rfl ?_
        refine mr_getf hh fe_261_75 lf_12_9 rfl ?_
        refine r_bipush (v := 7) fe_261_78 (by decide) ?_
        refine r_iload fe_261_80 rfl ?_
        refine mr_iast (k := 1) (n := 9) (j := 7) hh fe_261_82 rfl (by decide) (by decide) rfl rfl (by decide) (by decide) (by decide) ?_
        refine r_iload fe_261_83 rfl ?_
        refine r_aload_n fe_261_85 rfl ?_
        refine r_iload_n fe_261_86 rfl ?_
        refine r_iconst (v := 1) fe_261_87 (by decide) ?_
        refine r_iadd (v := (l3 + 1)) fe_261_88 rfl ?_
        refine r_callV (as := [.int (l3 + 1)]) (r := [.int l6]) fe_261_89 lm_12_535 md_262 rfl rfl (Nat.le_of_ble_eq_true rfl) m_c_0 (m_lt hh (by decide)) (Nat.le_of_ble_eq_true rfl) (Nat.le_of_ble_eq_true rfl) ?_
        cases hc17 : F262 n (l3 + 1) (m_sA S 1 7 l5) with
        | none => rw [hc17] at hf; cases hf
        | some z16 =>
          rw [hc17, Option.bind_some] at hf
          refine F262c (r0 := z16.1) (S0 := z16.2) hh hc17 ?_
          refine r_isub (v := (l6 - z16.1)) fe_261_92 rfl ?_
          refine r_istore fe_261_93 (Nat.le_of_ble_eq_true rfl) rfl ?_
          refine r_iconst (v := 0) fe_261_95 (by decide) ?_
          refine r_istore fe_261_96 (Nat.le_of_ble_eq_true rfl) rfl ?_
          refine go_weak (L0 := [.ref 130, .int l1, .int l2, .int l3, .int l4, .float 0, .int (l6 - z16.1), .int l7, .int 0, .float 0, .float 0]) (lwk_c (Or.inl rfl) (lwk_c (Or.inl rfl) (lwk_c (Or.inl rfl) (lwk_c (Or.inl rfl) (lwk_c (Or.inl rfl) (lwk_c (Or.inr rfl) (lwk_c (Or.inl rfl) (lwk_c (Or.inl rfl) (lwk_c (Or.inl rfl) (lwk_c (Or.inl rfl) (lwk_c (Or.inl rfl) (lwk_rf [])))))))))))) ?_
          exact ih.2.2 l1 l2 l3 l4 0 (l6 - z16.1) l7 0 z16.2 hf
    · intro l1 l2 l3 l4 l5 l6 l7 l8 S hf
      rw [F261e98] at hf
      unfold F261b98 at hf
      refine r_iload fe_261_98 rfl ?_
      refine r_iload_n fe_261_100 rfl ?_
      by_cases hb18 : am_ic .ge l8 l2 = true
      · rw [if_pos hb18] at hf
        refine r_ic_t (t := 158) fe_261_101 (by decide) hb18 ?_
        refine r_iload fe_261_158 rfl ?_
        refine r_aload_n fe_261_160 rfl ?_
        refine r_iload_n fe_261_161 rfl ?_
        refine r_iconst (v := 1) fe_261_162 (by decide) ?_
        refine r_iadd (v := (l3 + 1)) fe_261_163 rfl ?_
        refine r_callV (as := [.int (l3 + 1)]) (r := [.int l6]) fe_261_164 lm_12_535 md_262 rfl rfl (Nat.le_of_ble_eq_true rfl) m_c_0 (m_lt hh (by decide)) (Nat.le_of_ble_eq_true rfl) (Nat.le_of_ble_eq_true rfl) ?_
        cases hc20 : F262 n (l3 + 1) S with
        | none => rw [hc20] at hf; cases hf
        | some z19 =>
          rw [hc20, Option.bind_some] at hf
          refine F262c (r0 := z19.1) (S0 := z19.2) hh hc20 ?_
          refine r_iadd (v := (l6 + z19.1)) fe_261_167 rfl ?_
          refine r_istore fe_261_168 (Nat.le_of_ble_eq_true rfl) rfl ?_
          refine r_aload_n fe_261_170 rfl ?_
          refine mr_getf hh fe_261_171 lf_12_9 rfl ?_
          refine r_bipush (v := 7) fe_261_174 (by decide) ?_
          refine r_iald (j := 7) (v := z19.2.2.1 1 7) fe_261_176 m_c_1 (m_lt hh (by decide)) (by decide) (by decide) (by decide) rfl ?_
          refine r_istore fe_261_177 (Nat.le_of_ble_eq_true rfl) rfl ?_
          refine r_aload_n fe_261_179 rfl ?_
          refine r_callV (as := []) (r := []) fe_261_180 lm_12_494 md_243 rfl rfl (Nat.le_of_ble_eq_true rfl) m_c_0 (m_lt hh (by decide)) (Nat.le_of_ble_eq_true rfl) (Nat.le_of_ble_eq_true rfl) ?_
          cases hc22 : F243 n  z19.2 with
          | none => rw [hc22] at hf; cases hf
          | some z21 =>
            rw [hc22, Option.bind_some] at hf
            refine F243c (r0 := z21.1) (S0 := z21.2) hh hc22 ?_
            refine r_iinc (v := (l7 + 1)) fe_261_183 rfl rfl rfl ?_
            refine r_goto (t := 68) fe_261_186 (by decide) ?_
            refine go_weak (L0 := [.ref 130, .int l1, .int l2, .int l3, .int l4, .int (z19.2.2.1 1 7), .int (l6 + z19.1), .int (l7 + 1), .float 0, .float 0, .float 0]) (lwk_c (Or.inl rfl) (lwk_c (Or.inl rfl) (lwk_c (Or.inl rfl) (lwk_c (Or.inl rfl) (lwk_c (Or.inl rfl) (lwk_c (Or.inl rfl) (lwk_c (Or.inl rfl) (lwk_c (Or.inl rfl) (lwk_c (Or.inr rfl) (lwk_c (Or.inl rfl) (lwk_c (Or.inl rfl) (lwk_rf [])))))))))))) ?_
            exact ih.2.1 l1 l2 l3 l4 (z19.2.2.1 1 7) (l6 + z19.1) (l7 + 1) 0 z21.2 hf
      · rw [if_neg hb18] at hf
        refine r_ic_f (t := 158) fe_261_101 (by decide) (Bool.eq_false_iff.mpr hb18) ?_
        refine r_aload_n fe_261_104 rfl ?_
        refine r_aload_n fe_261_105 rfl ?_
        refine mr_getf hh fe_261_106 lf_12_9 rfl ?_
        refine r_iconst (v := 0) fe_261_109 (by decide) ?_
        refine r_iald (j := 0) (v := S.2.1 1 0) fe_261_110 m_c_1 (m_lt hh (by decide)) (by decide) (by decide) (by decide) rfl ?_
        refine r_callV (as := [.int (S.2.1 1 0)]) (r := []) fe_261_111 lm_12_538 md_263 rfl rfl (Nat.le_of_ble_eq_true rfl) m_c_0 (m_lt hh (by decide)) (Nat.le_of_ble_eq_true rfl) (Nat.le_of_ble_eq_true rfl) ?_
        cases hc24 : F263 n (S.2.1 1 0) S with
        | none => rw [hc24] at hf; cases hf
        | some z23 =>
          rw [hc24, Option.bind_some] at hf
          refine F263c (r0 := z23.1) (S0 := z23.2) hh hc24 ?_
          refine r_istore fe_261_114 (Nat.le_of_ble_eq_true rfl) rfl ?_
          refine r_aload_n fe_261_116 rfl ?_
          refine r_bipush (v := 6) fe_261_117 (by decide) ?_
          refine r_callV (as := [.int 6]) (r := []) fe_261_119 lm_12_538 md_263 rfl rfl (Nat.le_of_ble_eq_true rfl) m_c_0 (m_lt hh (by decide)) (Nat.le_of_ble_eq_true rfl) (Nat.le_of_ble_eq_true rfl) ?_
          cases hc26 : F263 n 6 z23.2 with
          | none => rw [hc26] at hf; cases hf
          | some z25 =>
            rw [hc26, Option.bind_some] at hf
            refine F263c (r0 := z25.1) (S0 := z25.2) hh hc26 ?_
            refine r_istore fe_261_122 (Nat.le_of_ble_eq_true rfl) rfl ?_
            refine r_aload_n fe_261_124 rfl ?_
            refine mr_getf hh fe_261_125 lf_12_9 rfl ?_
            refine r_iconst (v := 4) fe_261_128 (by decide) ?_
            refine r_iald (j := 4) (v := z25.2.2.1 1 4) fe_261_129 m_c_1 (m_lt hh (by decide)) (by decide) (by decide) (by decide) rfl ?_
            refine r_bipush (v := 12) fe_261_130 (by decide) ?_
            by_cases hb27 : am_ic .ge (z25.2.2.1 1 4) 12 = true
            · rw [if_pos hb27] at hf
              refine r_ic_t (t := 147) fe_261_132 (by decide) hb27 ?_
              refine r_aload_n fe_261_147 rfl ?_
              refine r_callV (as := []) (r := []) fe_261_148 lm_12_463 md_212 rfl rfl (Nat.le_of_ble_eq_true rfl) m_c_0 (m_lt hh (by decide)) (Nat.le_of_ble_eq_true rfl) (Nat.le_of_ble_eq_true rfl) ?_
              cases hc29 : F212 n  z25.2 with
              | none => rw [hc29] at hf; cases hf
              | some z28 =>
                rw [hc29, Option.bind_some] at hf
                refine F212c (r0 := z28.1) (S0 := z28.2) hh hc29 ?_
                refine r_pop fe_261_151 rfl ?_
                refine r_iinc (v := (l8 + 1)) fe_261_152 rfl rfl rfl ?_
                refine r_goto (t := 98) fe_261_155 (by decide) ?_
                refine go_weak (L0 := [.ref 130, .int l1, .int l2, .int l3, .int l4, .float 0, .int l6, .int l7, .int (l8 + 1), .float 0, .float 0]) (lwk_c (Or.inl rfl) (lwk_c (Or.inl rfl) (lwk_c (Or.inl rfl) (lwk_c (Or.inl rfl) (lwk_c (Or.inl rfl) (lwk_c (Or.inl rfl) (lwk_c (Or.inl rfl) (lwk_c (Or.inl rfl) (lwk_c (Or.inl rfl) (lwk_c (Or.inr rfl) (lwk_c (Or.inr rfl) (lwk_rf [])))))))))))) ?_
                exact ih.2.2 l1 l2 l3 l4 0 l6 l7 (l8 + 1) z28.2 hf
            · rw [if_neg hb27] at hf
              refine r_ic_f (t := 147) fe_261_132 (by decide) (Bool.eq_false_iff.mpr hb27) ?_
              refine r_aload_n fe_261_135 rfl ?_
              refine r_iload fe_261_136 rfl ?_
              refine r_iload fe_261_138 rfl ?_
              refine r_iconst (v := 1) fe_261_140 (by decide) ?_
              refine r_iadd (v := (z25.1 + 1)) fe_261_141 rfl ?_
              refine r_iconst (v := 0) fe_261_142 (by decide) ?_
              refine r_callV (as := [.int z23.1, .int (z25.1 + 1), .int 0]) (r := []) fe_261_143 lm_12_469 md_232 rfl rfl (Nat.le_of_ble_eq_true rfl) m_c_0 (m_lt hh (by decide)) (Nat.le_of_ble_eq_true rfl) (Nat.le_of_ble_eq_true rfl) ?_
              cases hc31 : F232 n z23.1 (z25.1 + 1) 0 z25.2 with
              | none => rw [hc31] at hf; cases hf
              | some z30 =>
                rw [hc31, Option.bind_some] at hf
                refine F232c (r0 := z30.1) (S0 := z30.2) hh hc31 ?_
                refine r_pop fe_261_146 rfl ?_
                refine r_aload_n fe_261_147 rfl ?_
                refine r_callV (as := []) (r := []) fe_261_148 lm_12_463 md_212 rfl rfl (Nat.le_of_ble_eq_true rfl) m_c_0 (m_lt hh (by decide)) (Nat.le_of_ble_eq_true rfl) (Nat.le_of_ble_eq_true rfl) ?_
                cases hc33 : F212 n  z30.2 with
                | none => rw [hc33] at hf; cases hf
                | some z32 =>
                  rw [hc33, Option.bind_some] at hf
                  refine F212c (r0 := z32.1) (S0 := z32.2) hh hc33 ?_
                  refine r_pop fe_261_151 rfl ?_
                  refine r_iinc (v := (l8 + 1)) fe_261_152 rfl rfl rfl ?_
                  refine r_goto (t := 98) fe_261_155 (by decide) ?_
                  refine go_weak (L0 := [.ref 130, .int l1, .int l2, .int l3, .int l4, .float 0, .int l6, .int l7, .int (l8 + 1), .float 0, .float 0]) (lwk_c (Or.inl rfl) (lwk_c (Or.inl rfl) (lwk_c (Or.inl rfl) (lwk_c (Or.inl rfl) (lwk_c (Or.inl rfl) (lwk_c (Or.inl rfl) (lwk_c (Or.inl rfl) (lwk_c (Or.inl rfl) (lwk_c (Or.inl rfl) (lwk_c (Or.inr rfl) (lwk_c (Or.inr rfl) (lwk_rf [])))))))))))) ?_
                  exact ih.2.2 l1 l2 l3 l4 0 l6 l7 (l8 + 1) z32.2 hf
theorem F261c {xs : Nat → Int32} {L9 d n : Nat} {h : AmH} {Q : Option Value → AmH → Prop} {r0 : Int32} {S0 S : mS} {l1 : Int32} {l2 : Int32} {l3 : Int32} (hh : 172 ≤ h.2.1) (hf : F261 n l1 l2 l3 S = some (r0, S0)) (hQ : Q (some (.int r0)) (mst S0 h)) : Ca (am_X xs L9) (d + 7) 261 [.ref 130, .int l1, .int l2, .int l3] (mst S h) Q := (F261l hh hQ n).1 l1 l2 l3 0 0 0 0 0 S hf
def F264b0 (F : Nat → Int32 → mS → Option (Int32 × mS)) (n : Nat) (l1 : Int32) (S : mS) : Option (Int32 × mS) := (if ((l1).toInt < 0 ∨ 12 < (l1).toInt) then some ((-1), S) else (if l1 = 0 then some ((S.2.1 1 0), S) else (if l1 = 1 then some ((S.2.1 1 1), S) else (if l1 = 2 then some ((S.2.1 1 2), S) else (if l1 = 3 then some ((S.2.1 1 3), S) else (if l1 = 4 then some ((S.2.1 1 4), S) else (if l1 = 5 then some ((S.1 30), S) else (if l1 = 6 then some ((S.2.1 1 8), S) else (if l1 = 7 then some ((S.2.1 1 6), S) else (if l1 = 8 then ((F213 n  S).bind (fun z11 => some (z11.1, z11.2))) else (if l1 = 9 then ((F259 n  S).bind (fun z14 => some (z14.1, z14.2))) else (if l1 = 10 then some ((S.1 47), S) else (if l1 = 11 then some ((S.2.1 1 7), S) else (if l1 = 12 then some ((S.1 26), S) else none))))))))))))))
def F264f : Nat → Nat → Int32 → mS → Option (Int32 × mS)
  | 0, _, _, _ => none
  | n + 1, c, l1, S => F264b0 (F264f n) n l1 S
theorem F264e0 (n : Nat) (l1 : Int32) (S : mS) : F264f (n + 1) 0 l1 S = F264b0 (F264f n) n l1 S := rfl
def F264 (n : Nat) (l1 : Int32) (S : mS) : Option (Int32 × mS) := F264f n 0 l1 S
set_option maxRecDepth 20000 in
set_option maxHeartbeats 2000000 in
theorem F264l {xs : Nat → Int32} {L9 d : Nat} {h : AmH} {Q : Option Value → AmH → Prop} {r0 : Int32} {S0 : mS} (hh : 172 ≤ h.2.1) (hQ : Q (some (.int r0)) (mst S0 h)) : ∀ n : Nat, (∀ (l1 : Int32) (S : mS), F264f n 0 l1 S = some (r0, S0) → Go (am_X xs L9) (d + 2) 264 0 [.ref 130, .int l1] [] (mst S h) Q) := by
  intro n
  induction n with
  | zero => exact fun l1 S hf => (by cases hf)
  | succ n ih =>
    intro l1 S hf
    rw [F264e0] at hf
    unfold F264b0 at hf
    refine r_iload_n fe_264_0 rfl ?_
    by_cases hs1 : ((l1).toInt < 0 ∨ 12 < (l1).toInt)
    · rw [if_pos hs1] at hf
      refine r_tabO (t := 152) fe_264_1 hs1 (by decide) ?_
      refine r_iconst (v := -1) fe_264_152 (by decide) ?_
      refine r_iret fe_264_153 ⟨rfl, by decide⟩ ?_
      exact dfin (P := fun r T => Q (some (.int r)) (mst T h)) hf hQ
    · rw [if_neg hs1] at hf
      by_cases hx2 : l1 = 0
      · rw [if_pos hx2] at hf
        refine r_tabI (off := 67) (t := 68) fe_264_1 hs1 (by rw [hx2]; decide) (by decide) ?_
        refine r_aload_n fe_264_68 rfl ?_
        refine mr_getf hh fe_264_69 lf_12_9 rfl ?_
        refine r_iconst (v := 0) fe_264_72 (by decide) ?_
        refine r_iald (j := 0) (v := S.2.1 1 0) fe_264_73 m_c_1 (m_lt hh (by decide)) (by decide) (by decide) (by decide) rfl ?_
        refine r_iret fe_264_74 ⟨rfl, by decide⟩ ?_
        exact dfin (P := fun r T => Q (some (.int r)) (mst T h)) hf hQ
      · rw [if_neg hx2] at hf
        by_cases hx3 : l1 = 1
        · rw [if_pos hx3] at hf
          refine r_tabI (off := 74) (t := 75) fe_264_1 hs1 (by rw [hx3]; decide) (by decide) ?_
          refine r_aload_n fe_264_75 rfl ?_
          refine mr_getf hh fe_264_76 lf_12_9 rfl ?_
          refine r_iconst (v := 1) fe_264_79 (by decide) ?_
          refine r_iald (j := 1) (v := S.2.1 1 1) fe_264_80 m_c_1 (m_lt hh (by decide)) (by decide) (by decide) (by decide) rfl ?_
          refine r_iret fe_264_81 ⟨rfl, by decide⟩ ?_
          exact dfin (P := fun r T => Q (some (.int r)) (mst T h)) hf hQ
        · rw [if_neg hx3] at hf
          by_cases hx4 : l1 = 2
          · rw [if_pos hx4] at hf
            refine r_tabI (off := 81) (t := 82) fe_264_1 hs1 (by rw [hx4]; decide) (by decide) ?_
            refine r_aload_n fe_264_82 rfl ?_
            refine mr_getf hh fe_264_83 lf_12_9 rfl ?_
            refine r_iconst (v := 2) fe_264_86 (by decide) ?_
            refine r_iald (j := 2) (v := S.2.1 1 2) fe_264_87 m_c_1 (m_lt hh (by decide)) (by decide) (by decide) (by decide) rfl ?_
            refine r_iret fe_264_88 ⟨rfl, by decide⟩ ?_
            exact dfin (P := fun r T => Q (some (.int r)) (mst T h)) hf hQ
          · rw [if_neg hx4] at hf
            by_cases hx5 : l1 = 3
            · rw [if_pos hx5] at hf
              refine r_tabI (off := 88) (t := 89) fe_264_1 hs1 (by rw [hx5]; decide) (by decide) ?_
              refine r_aload_n fe_264_89 rfl ?_
              refine mr_getf hh fe_264_90 lf_12_9 rfl ?_
              refine r_iconst (v := 3) fe_264_93 (by decide) ?_
              refine r_iald (j := 3) (v := S.2.1 1 3) fe_264_94 m_c_1 (m_lt hh (by decide)) (by decide) (by decide) (by decide) rfl ?_
              refine r_iret fe_264_95 ⟨rfl, by decide⟩ ?_
              exact dfin (P := fun r T => Q (some (.int r)) (mst T h)) hf hQ
            · rw [if_neg hx5] at hf
              by_cases hx6 : l1 = 4
              · rw [if_pos hx6] at hf
                refine r_tabI (off := 95) (t := 96) fe_264_1 hs1 (by rw [hx6]; decide) (by decide) ?_
                refine r_aload_n fe_264_96 rfl ?_
                refine mr_getf hh fe_264_97 lf_12_9 rfl ?_
                refine r_iconst (v := 4) fe_264_100 (by decide) ?_
                refine r_iald (j := 4) (v := S.2.1 1 4) fe_264_101 m_c_1 (m_lt hh (by decide)) (by decide) (by decide) (by decide) rfl ?_
                refine r_iret fe_264_102 ⟨rfl, by decide⟩ ?_
                exact dfin (P := fun r T => Q (some (.int r)) (mst T h)) hf hQ
              · rw [if_neg hx6] at hf
                by_cases hx7 : l1 = 5
                · rw [if_pos hx7] at hf
                  refine r_tabI (off := 102) (t := 103) fe_264_1 hs1 (by rw [hx7]; decide) (by decide) ?_
                  refine r_aload_n fe_264_103 rfl ?_
                  refine mr_getf hh fe_264_104 lf_12_354 rfl ?_
                  refine r_iret fe_264_107 ⟨rfl, by decide⟩ ?_
                  exact dfin (P := fun r T => Q (some (.int r)) (mst T h)) hf hQ
                · rw [if_neg hx7] at hf
                  by_cases hx8 : l1 = 6
                  · rw [if_pos hx8] at hf
                    refine r_tabI (off := 107) (t := 108) fe_264_1 hs1 (by rw [hx8]; decide) (by decide) ?_
                    refine r_aload_n fe_264_108 rfl ?_
                    refine mr_getf hh fe_264_109 lf_12_9 rfl ?_
                    refine r_bipush (v := 8) fe_264_112 (by decide) ?_
                    refine r_iald (j := 8) (v := S.2.1 1 8) fe_264_114 m_c_1 (m_lt hh (by decide)) (by decide) (by decide) (by decide) rfl ?_
                    refine r_iret fe_264_115 ⟨rfl, by decide⟩ ?_
                    exact dfin (P := fun r T => Q (some (.int r)) (mst T h)) hf hQ
                  · rw [if_neg hx8] at hf
                    by_cases hx9 : l1 = 7
                    · rw [if_pos hx9] at hf
                      refine r_tabI (off := 115) (t := 116) fe_264_1 hs1 (by rw [hx9]; decide) (by decide) ?_
                      refine r_aload_n fe_264_116 rfl ?_
                      refine mr_getf hh fe_264_117 lf_12_9 rfl ?_
                      refine r_bipush (v := 6) fe_264_120 (by decide) ?_
                      refine r_iald (j := 6) (v := S.2.1 1 6) fe_264_122 m_c_1 (m_lt hh (by decide)) (by decide) (by decide) (by decide) rfl ?_
                      refine r_iret fe_264_123 ⟨rfl, by decide⟩ ?_
                      exact dfin (P := fun r T => Q (some (.int r)) (mst T h)) hf hQ
                    · rw [if_neg hx9] at hf
                      by_cases hx10 : l1 = 8
                      · rw [if_pos hx10] at hf
                        refine r_tabI (off := 123) (t := 124) fe_264_1 hs1 (by rw [hx10]; decide) (by decide) ?_
                        refine r_aload_n fe_264_124 rfl ?_
                        refine r_callV (as := []) (r := []) fe_264_125 lm_12_427 md_213 rfl rfl (Nat.le_of_ble_eq_true rfl) m_c_0 (m_lt hh (by decide)) (Nat.le_of_ble_eq_true rfl) (Nat.le_of_ble_eq_true rfl) ?_
                        cases hc12 : F213 n  S with
                        | none => rw [hc12] at hf; cases hf
                        | some z11 =>
                          rw [hc12, Option.bind_some] at hf
                          refine F213c (r0 := z11.1) (S0 := z11.2) hh hc12 ?_
                          refine r_iret fe_264_128 ⟨rfl, by decide⟩ ?_
                          exact dfin (P := fun r T => Q (some (.int r)) (mst T h)) hf hQ
                      · rw [if_neg hx10] at hf
                        by_cases hx13 : l1 = 9
                        · rw [if_pos hx13] at hf
                          refine r_tabI (off := 128) (t := 129) fe_264_1 hs1 (by rw [hx13]; decide) (by decide) ?_
                          refine r_aload_n fe_264_129 rfl ?_
                          refine r_callV (as := []) (r := []) fe_264_130 lm_12_523 md_259 rfl rfl (Nat.le_of_ble_eq_true rfl) m_c_0 (m_lt hh (by decide)) (Nat.le_of_ble_eq_true rfl) (Nat.le_of_ble_eq_true rfl) ?_
                          cases hc15 : F259 n  S with
                          | none => rw [hc15] at hf; cases hf
                          | some z14 =>
                            rw [hc15, Option.bind_some] at hf
                            refine F259c (r0 := z14.1) (S0 := z14.2) hh hc15 ?_
                            refine r_iret fe_264_133 ⟨rfl, by decide⟩ ?_
                            exact dfin (P := fun r T => Q (some (.int r)) (mst T h)) hf hQ
                        · rw [if_neg hx13] at hf
                          by_cases hx16 : l1 = 10
                          · rw [if_pos hx16] at hf
                            refine r_tabI (off := 133) (t := 134) fe_264_1 hs1 (by rw [hx16]; decide) (by decide) ?_
                            refine r_aload_n fe_264_134 rfl ?_
                            refine mr_getf hh fe_264_135 lf_12_346 rfl ?_
                            refine r_iret fe_264_138 ⟨rfl, by decide⟩ ?_
                            exact dfin (P := fun r T => Q (some (.int r)) (mst T h)) hf hQ
                          · rw [if_neg hx16] at hf
                            by_cases hx17 : l1 = 11
                            · rw [if_pos hx17] at hf
                              refine r_tabI (off := 138) (t := 139) fe_264_1 hs1 (by rw [hx17]; decide) (by decide) ?_
                              refine r_aload_n fe_264_139 rfl ?_
                              refine mr_getf hh fe_264_140 lf_12_9 rfl ?_
                              refine r_bipush (v := 7) fe_264_143 (by decide) ?_
                              refine r_iald (j := 7) (v := S.2.1 1 7) fe_264_145 m_c_1 (m_lt hh (by decide)) (by decide) (by decide) (by decide) rfl ?_
                              refine r_iret fe_264_146 ⟨rfl, by decide⟩ ?_
                              exact dfin (P := fun r T => Q (some (.int r)) (mst T h)) hf hQ
                            · rw [if_neg hx17] at hf
                              by_cases hx18 : l1 = 12
                              · rw [if_pos hx18] at hf
                                refine r_tabI (off := 146) (t := 147) fe_264_1 hs1 (by rw [hx18]; decide) (by decide) ?_
                                refine r_aload_n fe_264_147 rfl ?_
                                refine mr_getf hh fe_264_148 lf_12_157 rfl ?_
                                refine r_iret fe_264_151 ⟨rfl, by decide⟩ ?_
                                exact dfin (P := fun r T => Q (some (.int r)) (mst T h)) hf hQ
                              · rw [if_neg hx18] at hf
                                cases hf
theorem F264c {xs : Nat → Int32} {L9 d n : Nat} {h : AmH} {Q : Option Value → AmH → Prop} {r0 : Int32} {S0 S : mS} {l1 : Int32} (hh : 172 ≤ h.2.1) (hf : F264 n l1 S = some (r0, S0)) (hQ : Q (some (.int r0)) (mst S0 h)) : Ca (am_X xs L9) (d + 2) 264 [.ref 130, .int l1] (mst S h) Q := (F264l hh hQ n) l1 S hf
def F265b0 (F : Nat → Int32 → mS → Option (Int32 × mS)) (n : Nat) (l1 : Int32) (S : mS) : Option (Int32 × mS) := ((F172 n (Int32.toInt64 l1) 0 3 S).bind (fun z1 => (if am_if .ne z1.1 = true then (if ¬ (l1 < 0 ∨ 4 ≤ (l1).toNatClampNeg) then ((F240 n l1 0 (m_sA z1.2 41 (Int32.toNatClampNeg l1) (vp_nar .boolean 1))).bind (fun z5 => some ((z5.2.2.1 1 6), z5.2))) else none) else some ((-1), z1.2))))
def F265f : Nat → Nat → Int32 → mS → Option (Int32 × mS)
  | 0, _, _, _ => none
  | n + 1, c, l1, S => F265b0 (F265f n) n l1 S
theorem F265e0 (n : Nat) (l1 : Int32) (S : mS) : F265f (n + 1) 0 l1 S = F265b0 (F265f n) n l1 S := rfl
def F265 (n : Nat) (l1 : Int32) (S : mS) : Option (Int32 × mS) := F265f n 0 l1 S
set_option maxRecDepth 20000 in
set_option maxHeartbeats 2000000 in
theorem F265l {xs : Nat → Int32} {L9 d : Nat} {h : AmH} {Q : Option Value → AmH → Prop} {r0 : Int32} {S0 : mS} (hh : 172 ≤ h.2.1) (hQ : Q (some (.int r0)) (mst S0 h)) : ∀ n : Nat, (∀ (l1 : Int32) (S : mS), F265f n 0 l1 S = some (r0, S0) → Go (am_X xs L9) (d + 2) 265 0 [.ref 130, .int l1] [] (mst S h) Q) := by
  intro n
  induction n with
  | zero => exact fun l1 S hf => (by cases hf)
  | succ n ih =>
    intro l1 S hf
    rw [F265e0] at hf
    unfold F265b0 at hf
    refine r_iload_n fe_265_0 rfl ?_
    refine r_i2l (v := (Int32.toInt64 l1)) fe_265_1 rfl ?_
    refine r_lconst (v := 0) fe_265_2 (by decide) ?_
    refine r_ldc2 fe_265_3 lk_12_550 ?_
    refine r_callS (as := [.long (Int32.toInt64 l1), .long 0, .long 3]) (r := []) fe_265_6 lm_12_143 md_172 rfl rfl (Nat.le_of_ble_eq_true rfl) (Nat.le_of_ble_eq_true rfl) (Nat.le_of_ble_eq_true rfl) ?_
    cases hc2 : F172 n (Int32.toInt64 l1) 0 3 S with
    | none => rw [hc2] at hf; cases hf
    | some z1 =>
      rw [hc2, Option.bind_some] at hf
      refine F172c (r0 := z1.1) (S0 := z1.2) hh hc2 ?_
      by_cases hb3 : am_if .ne z1.1 = true
      · rw [if_pos hb3] at hf
        refine r_if_t (t := 14) fe_265_9 (by decide) hb3 ?_
        refine r_aload_n fe_265_14 rfl ?_
        refine mr_getf hh fe_265_15 lf_12_136 rfl ?_
        refine r_iload_n fe_265_18 rfl ?_
        refine r_iconst (v := 1) fe_265_19 (by decide) ?_
        by_cases hg4 : ¬ (l1 < 0 ∨ 4 ≤ (l1).toNatClampNeg)
        rotate_left
        · rw [if_neg hg4] at hf; cases hf
        rw [if_pos hg4] at hf
        refine mr_zast (j := (Int32.toNatClampNeg l1)) hh fe_265_20 (fun z => hg4 (Or.inl z)) rfl (fun z => hg4 (Or.inr z)) ?_
        refine r_aload_n fe_265_21 rfl ?_
        refine r_iload_n fe_265_22 rfl ?_
        refine r_iconst (v := 0) fe_265_23 (by decide) ?_
        refine r_callV (as := [.int l1, .int 0]) (r := []) fe_265_24 lm_12_481 md_240 rfl rfl (Nat.le_of_ble_eq_true rfl) m_c_0 (m_lt hh (by decide)) (Nat.le_of_ble_eq_true rfl) (Nat.le_of_ble_eq_true rfl) ?_
        cases hc6 : F240 n l1 0 (m_sA z1.2 41 (Int32.toNatClampNeg l1) (vp_nar .boolean 1)) with
        | none => rw [hc6] at hf; cases hf
        | some z5 =>
          rw [hc6, Option.bind_some] at hf
          refine F240c (r0 := z5.1) (S0 := z5.2) hh hc6 ?_
          refine r_aload_n fe_265_27 rfl ?_
          refine mr_getf hh fe_265_28 lf_12_9 rfl ?_
          refine r_bipush (v := 6) fe_265_31 (by decide) ?_
          refine r_iald (j := 6) (v := z5.2.2.1 1 6) fe_265_33 m_c_1 (m_lt hh (by decide)) (by decide) (by decide) (by decide) rfl ?_
          refine r_iret fe_265_34 ⟨rfl, by decide⟩ ?_
          exact dfin (P := fun r T => Q (some (.int r)) (mst T h)) hf hQ
      · rw [if_neg hb3] at hf
        refine r_if_f (t := 14) fe_265_9 (by decide) (Bool.eq_false_iff.mpr hb3) ?_
        refine r_iconst (v := -1) fe_265_12 (by decide) ?_
        refine r_iret fe_265_13 ⟨rfl, by decide⟩ ?_
        exact dfin (P := fun r T => Q (some (.int r)) (mst T h)) hf hQ
theorem F265c {xs : Nat → Int32} {L9 d n : Nat} {h : AmH} {Q : Option Value → AmH → Prop} {r0 : Int32} {S0 S : mS} {l1 : Int32} (hh : 172 ≤ h.2.1) (hf : F265 n l1 S = some (r0, S0)) (hQ : Q (some (.int r0)) (mst S0 h)) : Ca (am_X xs L9) (d + 2) 265 [.ref 130, .int l1] (mst S h) Q := (F265l hh hQ n) l1 S hf
def F266b0 (F : Nat → Int32 → mS → Option (Int32 × mS)) (n : Nat) (l1 : Int32) (S : mS) : Option (Int32 × mS) := ((F172 n (Int32.toInt64 l1) 0 3 S).bind (fun z1 => (if am_if .eq z1.1 = true then some ((-1), z1.2) else (if ¬ (l1 < 0 ∨ 4 ≤ (l1).toNatClampNeg) then (if am_if .ne (z1.2.2.1 41 (Int32.toNatClampNeg l1)) = true then ((F240 n l1 1 z1.2).bind (fun z6 => some ((z6.2.2.1 1 6), z6.2))) else some ((-1), z1.2)) else none))))
def F266f : Nat → Nat → Int32 → mS → Option (Int32 × mS)
  | 0, _, _, _ => none
  | n + 1, c, l1, S => F266b0 (F266f n) n l1 S
theorem F266e0 (n : Nat) (l1 : Int32) (S : mS) : F266f (n + 1) 0 l1 S = F266b0 (F266f n) n l1 S := rfl
def F266 (n : Nat) (l1 : Int32) (S : mS) : Option (Int32 × mS) := F266f n 0 l1 S
set_option maxRecDepth 20000 in
set_option maxHeartbeats 2000000 in
theorem F266l {xs : Nat → Int32} {L9 d : Nat} {h : AmH} {Q : Option Value → AmH → Prop} {r0 : Int32} {S0 : mS} (hh : 172 ≤ h.2.1) (hQ : Q (some (.int r0)) (mst S0 h)) : ∀ n : Nat, (∀ (l1 : Int32) (S : mS), F266f n 0 l1 S = some (r0, S0) → Go (am_X xs L9) (d + 2) 266 0 [.ref 130, .int l1] [] (mst S h) Q) := by
  intro n
  induction n with
  | zero => exact fun l1 S hf => (by cases hf)
  | succ n ih =>
    intro l1 S hf
    rw [F266e0] at hf
    unfold F266b0 at hf
    refine r_iload_n fe_266_0 rfl ?_
    refine r_i2l (v := (Int32.toInt64 l1)) fe_266_1 rfl ?_
    refine r_lconst (v := 0) fe_266_2 (by decide) ?_
    refine r_ldc2 fe_266_3 lk_12_550 ?_
    refine r_callS (as := [.long (Int32.toInt64 l1), .long 0, .long 3]) (r := []) fe_266_6 lm_12_143 md_172 rfl rfl (Nat.le_of_ble_eq_true rfl) (Nat.le_of_ble_eq_true rfl) (Nat.le_of_ble_eq_true rfl) ?_
    cases hc2 : F172 n (Int32.toInt64 l1) 0 3 S with
    | none => rw [hc2] at hf; cases hf
    | some z1 =>
      rw [hc2, Option.bind_some] at hf
      refine F172c (r0 := z1.1) (S0 := z1.2) hh hc2 ?_
      by_cases hb3 : am_if .eq z1.1 = true
      · rw [if_pos hb3] at hf
        refine r_if_t (t := 21) fe_266_9 (by decide) hb3 ?_
        refine r_iconst (v := -1) fe_266_21 (by decide) ?_
        refine r_iret fe_266_22 ⟨rfl, by decide⟩ ?_
        exact dfin (P := fun r T => Q (some (.int r)) (mst T h)) hf hQ
      · rw [if_neg hb3] at hf
        refine r_if_f (t := 21) fe_266_9 (by decide) (Bool.eq_false_iff.mpr hb3) ?_
        refine r_aload_n fe_266_12 rfl ?_
        refine mr_getf hh fe_266_13 lf_12_136 rfl ?_
        refine r_iload_n fe_266_16 rfl ?_
        by_cases hg4 : ¬ (l1 < 0 ∨ 4 ≤ (l1).toNatClampNeg)
        rotate_left
        · rw [if_neg hg4] at hf; cases hf
        rw [if_pos hg4] at hf
        refine r_zald (j := (Int32.toNatClampNeg l1)) (v := z1.2.2.1 41 (Int32.toNatClampNeg l1)) fe_266_17 m_c_41 (m_lt hh (by decide)) (by decide) (fun z => hg4 (Or.inl z)) rfl (fun z => hg4 (Or.inr z)) rfl ?_
        by_cases hb5 : am_if .ne (z1.2.2.1 41 (Int32.toNatClampNeg l1)) = true
        · rw [if_pos hb5] at hf
          refine r_if_t (t := 23) fe_266_18 (by decide) hb5 ?_
          refine r_aload_n fe_266_23 rfl ?_
          refine r_iload_n fe_266_24 rfl ?_
          refine r_iconst (v := 1) fe_266_25 (by decide) ?_
          refine r_callV (as := [.int l1, .int 1]) (r := []) fe_266_26 lm_12_481 md_240 rfl rfl (Nat.le_of_ble_eq_true rfl) m_c_0 (m_lt hh (by decide)) (Nat.le_of_ble_eq_true rfl) (Nat.le_of_ble_eq_true rfl) ?_
          cases hc7 : F240 n l1 1 z1.2 with
          | none => rw [hc7] at hf; cases hf
          | some z6 =>
            rw [hc7, Option.bind_some] at hf
            refine F240c (r0 := z6.1) (S0 := z6.2) hh hc7 ?_
            refine r_aload_n fe_266_29 rfl ?_
            refine mr_getf hh fe_266_30 lf_12_9 rfl ?_
            refine r_bipush (v := 6) fe_266_33 (by decide) ?_
            refine r_iald (j := 6) (v := z6.2.2.1 1 6) fe_266_35 m_c_1 (m_lt hh (by decide)) (by decide) (by decide) (by decide) rfl ?_
            refine r_iret fe_266_36 ⟨rfl, by decide⟩ ?_
            exact dfin (P := fun r T => Q (some (.int r)) (mst T h)) hf hQ
        · rw [if_neg hb5] at hf
          refine r_if_f (t := 23) fe_266_18 (by decide) (Bool.eq_false_iff.mpr hb5) ?_
          refine r_iconst (v := -1) fe_266_21 (by decide) ?_
          refine r_iret fe_266_22 ⟨rfl, by decide⟩ ?_
          exact dfin (P := fun r T => Q (some (.int r)) (mst T h)) hf hQ
theorem F266c {xs : Nat → Int32} {L9 d n : Nat} {h : AmH} {Q : Option Value → AmH → Prop} {r0 : Int32} {S0 S : mS} {l1 : Int32} (hh : 172 ≤ h.2.1) (hf : F266 n l1 S = some (r0, S0)) (hQ : Q (some (.int r0)) (mst S0 h)) : Ca (am_X xs L9) (d + 2) 266 [.ref 130, .int l1] (mst S h) Q := (F266l hh hQ n) l1 S hf
