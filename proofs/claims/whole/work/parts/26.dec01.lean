def F164b0 (F : Nat → Nat → Int32 → Int32 → Int32 → mS → Option (Int32 × mS)) (n : Nat) (l1 : Nat) (l2 : Int32) (l3 : Int32) (l4 : Int32) (S : mS) : Option (Int32 × mS) := F 5 l1 (S.1 27) 0 0 S
def F164b5 (F : Nat → Nat → Int32 → Int32 → Int32 → mS → Option (Int32 × mS)) (n : Nat) (l1 : Nat) (l2 : Int32) (l3 : Int32) (l4 : Int32) (S : mS) : Option (Int32 × mS) := (if am_ic .ge l2 (S.1 26) = true then (if sB l1 = true then (if am_ic .ne (l2 - (S.1 27)) (nI (sTx l1).length) = true then F 63 l1 0 0 0 S else F 63 l1 0 1 0 S) else none) else (if ¬ (l2 < 0 ∨ 400 ≤ (l2).toNatClampNeg) then (if am_ic .lt (S.2.1 26 (Int32.toNatClampNeg l2)) 97 = true then (if sB l1 = true then (if am_ic .ne (l2 - (S.1 27)) (nI (sTx l1).length) = true then F 63 l1 0 0 0 S else F 63 l1 0 1 0 S) else none) else (if ¬ (l2 < 0 ∨ 400 ≤ (l2).toNatClampNeg) then (if am_ic .gt (S.2.1 26 (Int32.toNatClampNeg l2)) 122 = true then (if sB l1 = true then (if am_ic .ne (l2 - (S.1 27)) (nI (sTx l1).length) = true then F 63 l1 0 0 0 S else F 63 l1 0 1 0 S) else none) else F 5 l1 (l2 + 1) 0 0 S) else none)) else none))
def F164b63 (F : Nat → Nat → Int32 → Int32 → Int32 → mS → Option (Int32 × mS)) (n : Nat) (l1 : Nat) (l2 : Int32) (l3 : Int32) (l4 : Int32) (S : mS) : Option (Int32 × mS) := (if sB l1 = true then (if am_ic .ge l4 (nI (sTx l1).length) = true then (if narrow .boolean (.int l3) = .int l3 then some (l3, S) else none) else (if am_if .eq l3 = true then (if narrow .boolean (.int l3) = .int l3 then some (l3, S) else none) else (if ¬ (((S.1 27) + l4) < 0 ∨ 400 ≤ (((S.1 27) + l4)).toNatClampNeg) then (if sB l1 = true then (if ¬ (l4 < 0 ∨ (sTx l1).length ≤ (l4).toNatClampNeg) then (if am_ic .ne (S.2.1 26 (Int32.toNatClampNeg ((S.1 27) + l4))) (sCh l1 (Int32.toNatClampNeg l4)) = true then F 63 l1 0 0 (l4 + 1) S else F 63 l1 0 1 (l4 + 1) S) else none) else none) else none))) else none)
def F164f : Nat → Nat → Nat → Int32 → Int32 → Int32 → mS → Option (Int32 × mS)
  | 0, _, _, _, _, _, _ => none
  | n + 1, c, l1, l2, l3, l4, S => if c = 0 then F164b0 (F164f n) n l1 l2 l3 l4 S else if c = 5 then F164b5 (F164f n) n l1 l2 l3 l4 S else F164b63 (F164f n) n l1 l2 l3 l4 S
theorem F164e0 (n : Nat) (l1 : Nat) (l2 : Int32) (l3 : Int32) (l4 : Int32) (S : mS) : F164f (n + 1) 0 l1 l2 l3 l4 S = F164b0 (F164f n) n l1 l2 l3 l4 S := if_pos rfl
theorem F164e5 (n : Nat) (l1 : Nat) (l2 : Int32) (l3 : Int32) (l4 : Int32) (S : mS) : F164f (n + 1) 5 l1 l2 l3 l4 S = F164b5 (F164f n) n l1 l2 l3 l4 S := (if_neg (by decide)).trans (if_pos rfl)
theorem F164e63 (n : Nat) (l1 : Nat) (l2 : Int32) (l3 : Int32) (l4 : Int32) (S : mS) : F164f (n + 1) 63 l1 l2 l3 l4 S = F164b63 (F164f n) n l1 l2 l3 l4 S := (if_neg (by decide)).trans (if_neg (by decide))
def F164 (n : Nat) (l1 : Nat) (S : mS) : Option (Int32 × mS) := F164f n 0 l1 0 0 0 S
set_option maxRecDepth 20000 in
set_option maxHeartbeats 2000000 in
theorem F164l {xs : Nat → Int32} {L9 d : Nat} {h : AmH} {Q : Option Value → AmH → Prop} {r0 : Int32} {S0 : mS} (hh : 172 ≤ h.2.1) (hQ : Q (some (.int r0)) (mst S0 h)) : ∀ n : Nat, (∀ (l1 : Nat) (l2 : Int32) (l3 : Int32) (l4 : Int32) (S : mS), F164f n 0 l1 l2 l3 l4 S = some (r0, S0) → Go (am_X xs L9) (d + 4) 164 0 [.ref 130, .ref l1, .float 0, .float 0, .float 0] [] (mst S h) Q) ∧ (∀ (l1 : Nat) (l2 : Int32) (l3 : Int32) (l4 : Int32) (S : mS), F164f n 5 l1 l2 l3 l4 S = some (r0, S0) → Go (am_X xs L9) (d + 4) 164 5 [.ref 130, .ref l1, .int l2, .float 0, .float 0] [] (mst S h) Q) ∧ (∀ (l1 : Nat) (l2 : Int32) (l3 : Int32) (l4 : Int32) (S : mS), F164f n 63 l1 l2 l3 l4 S = some (r0, S0) → Go (am_X xs L9) (d + 4) 164 63 [.ref 130, .ref l1, .float 0, .int l3, .int l4] [] (mst S h) Q) := by
  intro n
  induction n with
  | zero => exact ⟨fun l1 l2 l3 l4 S hf => (by cases hf), fun l1 l2 l3 l4 S hf => (by cases hf), fun l1 l2 l3 l4 S hf => (by cases hf)⟩
  | succ n ih =>
    refine ⟨?_, ?_, ?_⟩
    · intro l1 l2 l3 l4 S hf
      rw [F164e0] at hf
      unfold F164b0 at hf
      refine r_aload_n fe_164_0 rfl ?_
      refine mr_getf hh fe_164_1 lf_12_188 rfl ?_
      refine r_istore_n fe_164_4 (Nat.le_of_ble_eq_true rfl) rfl ?_
      refine go_weak (L0 := [.ref 130, .ref l1, .int (S.1 27), .float 0, .float 0]) (lwk_c (Or.inl rfl) (lwk_c (Or.inl rfl) (lwk_c (Or.inl rfl) (lwk_c (Or.inl rfl) (lwk_c (Or.inl rfl) (lwk_rf [])))))) ?_
      exact ih.2.1 l1 (S.1 27) 0 0 S hf
    · intro l1 l2 l3 l4 S hf
      rw [F164e5] at hf
      unfold F164b5 at hf
      refine r_iload_n fe_164_5 rfl ?_
      refine r_aload_n fe_164_6 rfl ?_
      refine mr_getf hh fe_164_7 lf_12_157 rfl ?_
      by_cases hb1 : am_ic .ge l2 (S.1 26) = true
      · rw [if_pos hb1] at hf
        refine r_ic_t (t := 41) fe_164_10 (by decide) hb1 ?_
        refine r_iload_n fe_164_41 rfl ?_
        refine r_aload_n fe_164_42 rfl ?_
        refine mr_getf hh fe_164_43 lf_12_188 rfl ?_
        refine r_isub (v := (l2 - (S.1 27))) fe_164_46 rfl ?_
        refine r_aload_n fe_164_47 rfl ?_
        by_cases hs2 : sB l1 = true
        rotate_left
        · rw [if_neg hs2] at hf; cases hf
        rw [if_pos hs2] at hf
        refine r_callV (as := []) (r := [.int (l2 - (S.1 27))]) fe_164_48 lm_12_199 md_24 rfl rfl (Nat.le_of_ble_eq_true rfl) (s_c (sB_ok hs2)) (s_lt (sB_ok hs2) hh) (Nat.le_of_ble_eq_true rfl) (Nat.le_of_ble_eq_true rfl) ?_
        refine c_strlen (sB_ok hs2) (m_64 hh) ?_
        by_cases hb3 : am_ic .ne (l2 - (S.1 27)) (nI (sTx l1).length) = true
        · rw [if_pos hb3] at hf
          refine r_ic_t (t := 58) fe_164_51 (by decide) hb3 ?_
          refine r_iconst (v := 0) fe_164_58 (by decide) ?_
          refine r_istore_n fe_164_59 (Nat.le_of_ble_eq_true rfl) rfl ?_
          refine r_iconst (v := 0) fe_164_60 (by decide) ?_
          refine r_istore fe_164_61 (Nat.le_of_ble_eq_true rfl) rfl ?_
          refine go_weak (L0 := [.ref 130, .ref l1, .float 0, .int 0, .int 0]) (lwk_c (Or.inl rfl) (lwk_c (Or.inl rfl) (lwk_c (Or.inr rfl) (lwk_c (Or.inl rfl) (lwk_c (Or.inl rfl) (lwk_rf [])))))) ?_
          exact ih.2.2 l1 0 0 0 S hf
        · rw [if_neg hb3] at hf
          refine r_ic_f (t := 58) fe_164_51 (by decide) (Bool.eq_false_iff.mpr hb3) ?_
          refine r_iconst (v := 1) fe_164_54 (by decide) ?_
          refine r_goto (t := 59) fe_164_55 (by decide) ?_
          refine r_istore_n fe_164_59 (Nat.le_of_ble_eq_true rfl) rfl ?_
          refine r_iconst (v := 0) fe_164_60 (by decide) ?_
          refine r_istore fe_164_61 (Nat.le_of_ble_eq_true rfl) rfl ?_
          refine go_weak (L0 := [.ref 130, .ref l1, .float 0, .int 1, .int 0]) (lwk_c (Or.inl rfl) (lwk_c (Or.inl rfl) (lwk_c (Or.inr rfl) (lwk_c (Or.inl rfl) (lwk_c (Or.inl rfl) (lwk_rf [])))))) ?_
          exact ih.2.2 l1 0 1 0 S hf
      · rw [if_neg hb1] at hf
        refine r_ic_f (t := 41) fe_164_10 (by decide) (Bool.eq_false_iff.mpr hb1) ?_
        refine r_aload_n fe_164_13 rfl ?_
        refine mr_getf hh fe_164_14 lf_12_89 rfl ?_
        refine r_iload_n fe_164_17 rfl ?_
        by_cases hg4 : ¬ (l2 < 0 ∨ 400 ≤ (l2).toNatClampNeg)
        rotate_left
        · rw [if_neg hg4] at hf; cases hf
        rw [if_pos hg4] at hf
        refine r_bald (j := (Int32.toNatClampNeg l2)) (v := S.2.1 26 (Int32.toNatClampNeg l2)) fe_164_18 m_c_26 (m_lt hh (by decide)) (fun z => hg4 (Or.inl z)) rfl (fun z => hg4 (Or.inr z)) rfl ?_
        refine r_bipush (v := 97) fe_164_19 (by decide) ?_
        by_cases hb5 : am_ic .lt (S.2.1 26 (Int32.toNatClampNeg l2)) 97 = true
        · rw [if_pos hb5] at hf
          refine r_ic_t (t := 41) fe_164_21 (by decide) hb5 ?_
          refine r_iload_n fe_164_41 rfl ?_
          refine r_aload_n fe_164_42 rfl ?_
          refine mr_getf hh fe_164_43 lf_12_188 rfl ?_
          refine r_isub (v := (l2 - (S.1 27))) fe_164_46 rfl ?_
          refine r_aload_n fe_164_47 rfl ?_
          by_cases hs6 : sB l1 = true
          rotate_left
          · rw [if_neg hs6] at hf; cases hf
          rw [if_pos hs6] at hf
          refine r_callV (as := []) (r := [.int (l2 - (S.1 27))]) fe_164_48 lm_12_199 md_24 rfl rfl (Nat.le_of_ble_eq_true rfl) (s_c (sB_ok hs6)) (s_lt (sB_ok hs6) hh) (Nat.le_of_ble_eq_true rfl) (Nat.le_of_ble_eq_true rfl) ?_
          refine c_strlen (sB_ok hs6) (m_64 hh) ?_
          by_cases hb7 : am_ic .ne (l2 - (S.1 27)) (nI (sTx l1).length) = true
          · rw [if_pos hb7] at hf
            refine r_ic_t (t := 58) fe_164_51 (by decide) hb7 ?_
            refine r_iconst (v := 0) fe_164_58 (by decide) ?_
            refine r_istore_n fe_164_59 (Nat.le_of_ble_eq_true rfl) rfl ?_
            refine r_iconst (v := 0) fe_164_60 (by decide) ?_
            refine r_istore fe_164_61 (Nat.le_of_ble_eq_true rfl) rfl ?_
            refine go_weak (L0 := [.ref 130, .ref l1, .float 0, .int 0, .int 0]) (lwk_c (Or.inl rfl) (lwk_c (Or.inl rfl) (lwk_c (Or.inr rfl) (lwk_c (Or.inl rfl) (lwk_c (Or.inl rfl) (lwk_rf [])))))) ?_
            exact ih.2.2 l1 0 0 0 S hf
          · rw [if_neg hb7] at hf
            refine r_ic_f (t := 58) fe_164_51 (by decide) (Bool.eq_false_iff.mpr hb7) ?_
            refine r_iconst (v := 1) fe_164_54 (by decide) ?_
            refine r_goto (t := 59) fe_164_55 (by decide) ?_
            refine r_istore_n fe_164_59 (Nat.le_of_ble_eq_true rfl) rfl ?_
            refine r_iconst (v := 0) fe_164_60 (by decide) ?_
            refine r_istore fe_164_61 (Nat.le_of_ble_eq_true rfl) rfl ?_
            refine go_weak (L0 := [.ref 130, .ref l1, .float 0, .int 1, .int 0]) (lwk_c (Or.inl rfl) (lwk_c (Or.inl rfl) (lwk_c (Or.inr rfl) (lwk_c (Or.inl rfl) (lwk_c (Or.inl rfl) (lwk_rf [])))))) ?_
            exact ih.2.2 l1 0 1 0 S hf
        · rw [if_neg hb5] at hf
          refine r_ic_f (t := 41) fe_164_21 (by decide) (Bool.eq_false_iff.mpr hb5) ?_
          refine r_aload_n fe_164_24 rfl ?_
          refine mr_getf hh fe_164_25 lf_12_89 rfl ?_
          refine r_iload_n fe_164_28 rfl ?_
          by_cases hg8 : ¬ (l2 < 0 ∨ 400 ≤ (l2).toNatClampNeg)
          rotate_left
          · rw [if_neg hg8] at hf; cases hf
          rw [if_pos hg8] at hf
          refine r_bald (j := (Int32.toNatClampNeg l2)) (v := S.2.1 26 (Int32.toNatClampNeg l2)) fe_164_29 m_c_26 (m_lt hh (by decide)) (fun z => hg8 (Or.inl z)) rfl (fun z => hg8 (Or.inr z)) rfl ?_
          refine r_bipush (v := 122) fe_164_30 (by decide) ?_
          by_cases hb9 : am_ic .gt (S.2.1 26 (Int32.toNatClampNeg l2)) 122 = true
          · rw [if_pos hb9] at hf
            refine r_ic_t (t := 41) fe_164_32 (by decide) hb9 ?_
            refine r_iload_n fe_164_41 rfl ?_
            refine r_aload_n fe_164_42 rfl ?_
            refine mr_getf hh fe_164_43 lf_12_188 rfl ?_
            refine r_isub (v := (l2 - (S.1 27))) fe_164_46 rfl ?_
            refine r_aload_n fe_164_47 rfl ?_
            by_cases hs10 : sB l1 = true
            rotate_left
            · rw [if_neg hs10] at hf; cases hf
            rw [if_pos hs10] at hf
            refine r_callV (as := []) (r := [.int (l2 - (S.1 27))]) fe_164_48 lm_12_199 md_24 rfl rfl (Nat.le_of_ble_eq_true rfl) (s_c (sB_ok hs10)) (s_lt (sB_ok hs10) hh) (Nat.le_of_ble_eq_true rfl) (Nat.le_of_ble_eq_true rfl) ?_
            refine c_strlen (sB_ok hs10) (m_64 hh) ?_
            by_cases hb11 : am_ic .ne (l2 - (S.1 27)) (nI (sTx l1).length) = true
            · rw [if_pos hb11] at hf
              refine r_ic_t (t := 58) fe_164_51 (by decide) hb11 ?_
              refine r_iconst (v := 0) fe_164_58 (by decide) ?_
              refine r_istore_n fe_164_59 (Nat.le_of_ble_eq_true rfl) rfl ?_
              refine r_iconst (v := 0) fe_164_60 (by decide) ?_
              refine r_istore fe_164_61 (Nat.le_of_ble_eq_true rfl) rfl ?_
              refine go_weak (L0 := [.ref 130, .ref l1, .float 0, .int 0, .int 0]) (lwk_c (Or.inl rfl) (lwk_c (Or.inl rfl) (lwk_c (Or.inr rfl) (lwk_c (Or.inl rfl) (lwk_c (Or.inl rfl) (lwk_rf [])))))) ?_
              exact ih.2.2 l1 0 0 0 S hf
            · rw [if_neg hb11] at hf
              refine r_ic_f (t := 58) fe_164_51 (by decide) (Bool.eq_false_iff.mpr hb11) ?_
              refine r_iconst (v := 1) fe_164_54 (by decide) ?_
              refine r_goto (t := 59) fe_164_55 (by decide) ?_
              refine r_istore_n fe_164_59 (Nat.le_of_ble_eq_true rfl) rfl ?_
              refine r_iconst (v := 0) fe_164_60 (by decide) ?_
              refine r_istore fe_164_61 (Nat.le_of_ble_eq_true rfl) rfl ?_
              refine go_weak (L0 := [.ref 130, .ref l1, .float 0, .int 1, .int 0]) (lwk_c (Or.inl rfl) (lwk_c (Or.inl rfl) (lwk_c (Or.inr rfl) (lwk_c (Or.inl rfl) (lwk_c (Or.inl rfl) (lwk_rf [])))))) ?_
              exact ih.2.2 l1 0 1 0 S hf
          · rw [if_neg hb9] at hf
            refine r_ic_f (t := 41) fe_164_32 (by decide) (Bool.eq_false_iff.mpr hb9) ?_
            refine r_iinc (v := (l2 + 1)) fe_164_35 rfl rfl rfl ?_
            refine r_goto (t := 5) fe_164_38 (by decide) ?_
            refine go_weak (L0 := [.ref 130, .ref l1, .int (l2 + 1), .float 0, .float 0]) (lwk_c (Or.inl rfl) (lwk_c (Or.inl rfl) (lwk_c (Or.inl rfl) (lwk_c (Or.inl rfl) (lwk_c (Or.inl rfl) (lwk_rf [])))))) ?_
            exact ih.2.1 l1 (l2 + 1) 0 0 S hf
    · intro l1 l2 l3 l4 S hf
      rw [F164e63] at hf
      unfold F164b63 at hf
      refine r_iload fe_164_63 rfl ?_
      refine r_aload_n fe_164_65 rfl ?_
      by_cases hs12 : sB l1 = true
      rotate_left
      · rw [if_neg hs12] at hf; cases hf
      rw [if_pos hs12] at hf
      refine r_callV (as := []) (r := [.int l4]) fe_164_66 lm_12_199 md_24 rfl rfl (Nat.le_of_ble_eq_true rfl) (s_c (sB_ok hs12)) (s_lt (sB_ok hs12) hh) (Nat.le_of_ble_eq_true rfl) (Nat.le_of_ble_eq_true rfl) ?_
      refine c_strlen (sB_ok hs12) (m_64 hh) ?_
      by_cases hb13 : am_ic .ge l4 (nI (sTx l1).length) = true
      · rw [if_pos hb13] at hf
        refine r_ic_t (t := 109) fe_164_69 (by decide) hb13 ?_
        refine r_iload_n fe_164_109 rfl ?_
        by_cases hz14 : narrow .boolean (.int l3) = .int l3
        rotate_left
        · rw [if_neg hz14] at hf; cases hf
        rw [if_pos hz14] at hf
        refine r_iret fe_164_110 ⟨hz14, by decide⟩ ?_
        exact dfin (P := fun r T => Q (some (.int r)) (mst T h)) hf hQ
      · rw [if_neg hb13] at hf
        refine r_ic_f (t := 109) fe_164_69 (by decide) (Bool.eq_false_iff.mpr hb13) ?_
        refine r_iload_n fe_164_72 rfl ?_
        by_cases hb15 : am_if .eq l3 = true
        · rw [if_pos hb15] at hf
          refine r_if_t (t := 109) fe_164_73 (by decide) hb15 ?_
          refine r_iload_n fe_164_109 rfl ?_
          by_cases hz16 : narrow .boolean (.int l3) = .int l3
          rotate_left
          · rw [if_neg hz16] at hf; cases hf
          rw [if_pos hz16] at hf
          refine r_iret fe_164_110 ⟨hz16, by decide⟩ ?_
          exact dfin (P := fun r T => Q (some (.int r)) (mst T h)) hf hQ
        · rw [if_neg hb15] at hf
          refine r_if_f (t := 109) fe_164_73 (by decide) (Bool.eq_false_iff.mpr hb15) ?_
          refine r_aload_n fe_164_76 rfl ?_
          refine mr_getf hh fe_164_77 lf_12_89 rfl ?_
          refine r_aload_n fe_164_80 rfl ?_
          refine mr_getf hh fe_164_81 lf_12_188 rfl ?_
          refine r_iload fe_164_84 rfl ?_
          refine r_iadd (v := ((S.1 27) + l4)) fe_164_86 rfl ?_
          by_cases hg17 : ¬ (((S.1 27) + l4) < 0 ∨ 400 ≤ (((S.1 27) + l4)).toNatClampNeg)
          rotate_left
          · rw [if_neg hg17] at hf; cases hf
          rw [if_pos hg17] at hf
          refine r_bald (j := (Int32.toNatClampNeg ((S.1 27) + l4))) (v := S.2.1 26 (Int32.toNatClampNeg ((S.1 27) + l4))) fe_164_87 m_c_26 (m_lt hh (by decide)) (fun z => hg17 (Or.inl z)) rfl (fun z => hg17 (Or.inr z)) rfl ?_
          refine r_aload_n fe_164_88 rfl ?_
          refine r_iload fe_164_89 rfl ?_
          by_cases hs18 : sB l1 = true
          rotate_left
          · rw [if_neg hs18] at hf; cases hf
          rw [if_pos hs18] at hf
          by_cases hg19 : ¬ (l4 < 0 ∨ (sTx l1).length ≤ (l4).toNatClampNeg)
          rotate_left
          · rw [if_neg hg19] at hf; cases hf
          rw [if_pos hg19] at hf
          refine r_callV (as := [.int l4]) (r := [.int (S.2.1 26 (Int32.toNatClampNeg ((S.1 27) + l4)))]) fe_164_91 lm_12_204 md_26 rfl rfl (Nat.le_of_ble_eq_true rfl) (s_c (sB_ok hs18)) (s_lt (sB_ok hs18) hh) (Nat.le_of_ble_eq_true rfl) (Nat.le_of_ble_eq_true rfl) ?_
          refine c_charAt (sB_ok hs18) (m_64 hh) hg19 ?_
          by_cases hb20 : am_ic .ne (S.2.1 26 (Int32.toNatClampNeg ((S.1 27) + l4))) (sCh l1 (Int32.toNatClampNeg l4)) = true
          · rw [if_pos hb20] at hf
            refine r_ic_t (t := 101) fe_164_94 (by decide) hb20 ?_
            refine r_iconst (v := 0) fe_164_101 (by decide) ?_
            refine r_istore_n fe_164_102 (Nat.le_of_ble_eq_true rfl) rfl ?_
            refine r_iinc (v := (l4 + 1)) fe_164_103 rfl rfl rfl ?_
            refine r_goto (t := 63) fe_164_106 (by decide) ?_
            refine go_weak (L0 := [.ref 130, .ref l1, .float 0, .int 0, .int (l4 + 1)]) (lwk_c (Or.inl rfl) (lwk_c (Or.inl rfl) (lwk_c (Or.inl rfl) (lwk_c (Or.inl rfl) (lwk_c (Or.inl rfl) (lwk_rf [])))))) ?_
            exact ih.2.2 l1 0 0 (l4 + 1) S hf
          · rw [if_neg hb20] at hf
            refine r_ic_f (t := 101) fe_164_94 (by decide) (Bool.eq_false_iff.mpr hb20) ?_
            refine r_iconst (v := 1) fe_164_97 (by decide) ?_
            refine r_goto (t := 102) fe_164_98 (by decide) ?_
            refine r_istore_n fe_164_102 (Nat.le_of_ble_eq_true rfl) rfl ?_
            refine r_iinc (v := (l4 + 1)) fe_164_103 rfl rfl rfl ?_
            refine r_goto (t := 63) fe_164_106 (by decide) ?_
            refine go_weak (L0 := [.ref 130, .ref l1, .float 0, .int 1, .int (l4 + 1)]) (lwk_c (Or.inl rfl) (lwk_c (Or.inl rfl) (lwk_c (Or.inl rfl) (lwk_c (Or.inl rfl) (lwk_c (Or.inl rfl) (lwk_rf [])))))) ?_
            exact ih.2.2 l1 0 1 (l4 + 1) S hf
theorem F164c {xs : Nat → Int32} {L9 d n : Nat} {h : AmH} {Q : Option Value → AmH → Prop} {r0 : Int32} {S0 S : mS} {l1 : Nat} (hh : 172 ≤ h.2.1) (hf : F164 n l1 S = some (r0, S0)) (hQ : Q (some (.int r0)) (mst S0 h)) : Ca (am_X xs L9) (d + 4) 164 [.ref 130, .ref l1] (mst S h) Q := (F164l hh hQ n).1 l1 0 0 0 S hf
def F160b0 (F : Nat → Int32 → Int32 → Int32 → mS → Option (Unit × mS)) (n : Nat) (l1 : Int32) (l2 : Int32) (l3 : Int32) (S : mS) : Option (Unit × mS) := ((F161 n  S).bind (fun z1 => F 11 l1 (z1.2.1 27) 0 z1.2))
def F160b11 (F : Nat → Int32 → Int32 → Int32 → mS → Option (Unit × mS)) (n : Nat) (l1 : Int32) (l2 : Int32) (l3 : Int32) (S : mS) : Option (Unit × mS) := (if am_ic .ge l3 8 = true then (if am_ic .ne l3 8 = true then ((F166 n l3 l1 S).bind (fun z5 => (if am_if .eq z5.1 = true then ((F163 n l3 z5.2).bind (fun z8 => (if sB z8.1 = true then ((F167 n l3 (m_sI z8.2 27 ((z5.2.1 27) + (nI (sTx z8.1).length)))).bind (fun z11 => some ((), z11.2))) else none))) else ((F165 n 4 l2 z5.2).bind (fun z13 => some ((), z13.2)))))) else ((F165 n 0 l2 S).bind (fun z15 => some ((), z15.2)))) else ((F163 n l3 S).bind (fun z17 => ((F164 n z17.1 z17.2).bind (fun z19 => (if am_if .ne z19.1 = true then (if am_ic .ne l3 8 = true then ((F166 n l3 l1 z19.2).bind (fun z23 => (if am_if .eq z23.1 = true then ((F163 n l3 z23.2).bind (fun z26 => (if sB z26.1 = true then ((F167 n l3 (m_sI z26.2 27 ((z23.2.1 27) + (nI (sTx z26.1).length)))).bind (fun z29 => some ((), z29.2))) else none))) else ((F165 n 4 l2 z23.2).bind (fun z31 => some ((), z31.2)))))) else ((F165 n 0 l2 z19.2).bind (fun z33 => some ((), z33.2)))) else F 11 l1 l2 (l3 + 1) z19.2))))))
def F160f : Nat → Nat → Int32 → Int32 → Int32 → mS → Option (Unit × mS)
  | 0, _, _, _, _, _ => none
  | n + 1, c, l1, l2, l3, S => if c = 0 then F160b0 (F160f n) n l1 l2 l3 S else F160b11 (F160f n) n l1 l2 l3 S
theorem F160e0 (n : Nat) (l1 : Int32) (l2 : Int32) (l3 : Int32) (S : mS) : F160f (n + 1) 0 l1 l2 l3 S = F160b0 (F160f n) n l1 l2 l3 S := if_pos rfl
theorem F160e11 (n : Nat) (l1 : Int32) (l2 : Int32) (l3 : Int32) (S : mS) : F160f (n + 1) 11 l1 l2 l3 S = F160b11 (F160f n) n l1 l2 l3 S := if_neg (by decide)
def F160 (n : Nat) (l1 : Int32) (S : mS) : Option (Unit × mS) := F160f n 0 l1 0 0 S
set_option maxRecDepth 20000 in
set_option maxHeartbeats 2000000 in
theorem F160l {xs : Nat → Int32} {L9 d : Nat} {h : AmH} {Q : Option Value → AmH → Prop} {r0 : Unit} {S0 : mS} (hh : 172 ≤ h.2.1) (hQ : Q none (mst S0 h)) : ∀ n : Nat, (∀ (l1 : Int32) (l2 : Int32) (l3 : Int32) (S : mS), F160f n 0 l1 l2 l3 S = some (r0, S0) → Go (am_X xs L9) (d + 7) 160 0 [.ref 130, .int l1, .float 0, .float 0] [] (mst S h) Q) ∧ (∀ (l1 : Int32) (l2 : Int32) (l3 : Int32) (S : mS), F160f n 11 l1 l2 l3 S = some (r0, S0) → Go (am_X xs L9) (d + 7) 160 11 [.ref 130, .int l1, .int l2, .int l3] [] (mst S h) Q) := by
  intro n
  induction n with
  | zero => exact ⟨fun l1 l2 l3 S hf => (by cases hf), fun l1 l2 l3 S hf => (by cases hf)⟩
  | succ n ih =>
    refine ⟨?_, ?_⟩
    · intro l1 l2 l3 S hf
      rw [F160e0] at hf
      unfold F160b0 at hf
      refine r_aload_n fe_160_0 rfl ?_
      refine r_callV (as := []) (r := []) fe_160_1 lm_12_208 md_161 rfl rfl (Nat.le_of_ble_eq_true rfl) m_c_0 (m_lt hh (by decide)) (Nat.le_of_ble_eq_true rfl) (Nat.le_of_ble_eq_true rfl) ?_
      cases hc2 : F161 n  S with
      | none => rw [hc2] at hf; cases hf
      | some z1 =>
        rw [hc2, Option.bind_some] at hf
        refine F161c (r0 := z1.1) (S0 := z1.2) hh hc2 ?_
        refine r_aload_n fe_160_4 rfl ?_
        refine mr_getf hh fe_160_5 lf_12_188 rfl ?_
        refine r_istore_n fe_160_8 (Nat.le_of_ble_eq_true rfl) rfl ?_
        refine r_iconst (v := 0) fe_160_9 (by decide) ?_
        refine r_istore_n fe_160_10 (Nat.le_of_ble_eq_true rfl) rfl ?_
        refine go_weak (L0 := [.ref 130, .int l1, .int (z1.2.1 27), .int 0]) (lwk_c (Or.inl rfl) (lwk_c (Or.inl rfl) (lwk_c (Or.inl rfl) (lwk_c (Or.inl rfl) (lwk_rf []))))) ?_
        exact ih.2 l1 (z1.2.1 27) 0 z1.2 hf
    · intro l1 l2 l3 S hf
      rw [F160e11] at hf
      unfold F160b11 at hf
      refine r_iload_n fe_160_11 rfl ?_
      refine r_bipush (v := 8) fe_160_12 (by decide) ?_
      by_cases hb3 : am_ic .ge l3 8 = true
      · rw [if_pos hb3] at hf
        refine r_ic_t (t := 34) fe_160_14 (by decide) hb3 ?_
        refine r_iload_n fe_160_34 rfl ?_
        refine r_bipush (v := 8) fe_160_35 (by decide) ?_
        by_cases hb4 : am_ic .ne l3 8 = true
        · rw [if_pos hb4] at hf
          refine r_ic_t (t := 47) fe_160_37 (by decide) hb4 ?_
          refine r_aload_n fe_160_47 rfl ?_
          refine r_iload_n fe_160_48 rfl ?_
          refine r_iload_n fe_160_49 rfl ?_
          refine r_callV (as := [.int l3, .int l1]) (r := []) fe_160_50 lm_12_323 md_166 rfl rfl (Nat.le_of_ble_eq_true rfl) m_c_0 (m_lt hh (by decide)) (Nat.le_of_ble_eq_true rfl) (Nat.le_of_ble_eq_true rfl) ?_
          cases hc6 : F166 n l3 l1 S with
          | none => rw [hc6] at hf; cases hf
          | some z5 =>
            rw [hc6, Option.bind_some] at hf
            refine F166c (r0 := z5.1) (S0 := z5.2) hh hc6 ?_
            by_cases hb7 : am_if .eq z5.1 = true
            · rw [if_pos hb7] at hf
              refine r_if_t (t := 63) fe_160_53 (by decide) hb7 ?_
              refine r_aload_n fe_160_63 rfl ?_
              refine r_dup fe_160_64 rfl ?_
              refine mr_getf hh fe_160_65 lf_12_188 rfl ?_
              refine r_iload_n fe_160_68 rfl ?_
              refine r_callS (as := [.int l3]) (r := [.int (z5.2.1 27), .ref 130]) fe_160_69 lm_12_320 md_163 rfl rfl (Nat.le_of_ble_eq_true rfl) (Nat.le_of_ble_eq_true rfl) (Nat.le_of_ble_eq_true rfl) ?_
              cases hc9 : F163 n l3 z5.2 with
              | none => rw [hc9] at hf; cases hf
              | some z8 =>
                rw [hc9, Option.bind_some] at hf
                refine F163c (r0 := z8.1) (S0 := z8.2) hh hc9 ?_
                by_cases hs10 : sB z8.1 = true
                rotate_left
                · rw [if_neg hs10] at hf; cases hf
                rw [if_pos hs10] at hf
                refine r_callV (as := []) (r := [.int (z5.2.1 27), .ref 130]) fe_160_72 lm_12_199 md_24 rfl rfl (Nat.le_of_ble_eq_true rfl) (s_c (sB_ok hs10)) (s_lt (sB_ok hs10) hh) (Nat.le_of_ble_eq_true rfl) (Nat.le_of_ble_eq_true rfl) ?_
                refine c_strlen (sB_ok hs10) (m_64 hh) ?_
                refine r_iadd (v := ((z5.2.1 27) + (nI (sTx z8.1).length))) fe_160_75 rfl ?_
                refine mr_putf hh fe_160_76 lf_12_188 (m_f_27 _ _) (by decide) rfl rfl rfl ?_
                refine r_aload_n fe_160_79 rfl ?_
                refine r_iload_n fe_160_80 rfl ?_
                refine r_callV (as := [.int l3]) (r := []) fe_160_81 lm_12_327 md_167 rfl rfl (Nat.le_of_ble_eq_true rfl) m_c_0 (m_lt hh (by decide)) (Nat.le_of_ble_eq_true rfl) (Nat.le_of_ble_eq_true rfl) ?_
                cases hc12 : F167 n l3 (m_sI z8.2 27 ((z5.2.1 27) + (nI (sTx z8.1).length))) with
                | none => rw [hc12] at hf; cases hf
                | some z11 =>
                  rw [hc12, Option.bind_some] at hf
                  refine F167c (r0 := z11.1) (S0 := z11.2) hh hc12 ?_
                  refine r_vret fe_160_84 ?_
                  exact dfin (P := fun _ T => Q none (mst T h)) hf hQ
            · rw [if_neg hb7] at hf
              refine r_if_f (t := 63) fe_160_53 (by decide) (Bool.eq_false_iff.mpr hb7) ?_
              refine r_aload_n fe_160_56 rfl ?_
              refine r_iconst (v := 4) fe_160_57 (by decide) ?_
              refine r_iload_n fe_160_58 rfl ?_
              refine r_callV (as := [.int 4, .int l2]) (r := []) fe_160_59 lm_12_224 md_165 rfl rfl (Nat.le_of_ble_eq_true rfl) m_c_0 (m_lt hh (by decide)) (Nat.le_of_ble_eq_true rfl) (Nat.le_of_ble_eq_true rfl) ?_
              cases hc14 : F165 n 4 l2 z5.2 with
              | none => rw [hc14] at hf; cases hf
              | some z13 =>
                rw [hc14, Option.bind_some] at hf
                refine F165c (r0 := z13.1) (S0 := z13.2) hh hc14 ?_
                refine r_vret fe_160_62 ?_
                exact dfin (P := fun _ T => Q none (mst T h)) hf hQ
        · rw [if_neg hb4] at hf
          refine r_ic_f (t := 47) fe_160_37 (by decide) (Bool.eq_false_iff.mpr hb4) ?_
          refine r_aload_n fe_160_40 rfl ?_
          refine r_iconst (v := 0) fe_160_41 (by decide) ?_
          refine r_iload_n fe_160_42 rfl ?_
          refine r_callV (as := [.int 0, .int l2]) (r := []) fe_160_43 lm_12_224 md_165 rfl rfl (Nat.le_of_ble_eq_true rfl) m_c_0 (m_lt hh (by decide)) (Nat.le_of_ble_eq_true rfl) (Nat.le_of_ble_eq_true rfl) ?_
          cases hc16 : F165 n 0 l2 S with
          | none => rw [hc16] at hf; cases hf
          | some z15 =>
            rw [hc16, Option.bind_some] at hf
            refine F165c (r0 := z15.1) (S0 := z15.2) hh hc16 ?_
            refine r_vret fe_160_46 ?_
            exact dfin (P := fun _ T => Q none (mst T h)) hf hQ
      · rw [if_neg hb3] at hf
        refine r_ic_f (t := 34) fe_160_14 (by decide) (Bool.eq_false_iff.mpr hb3) ?_
        refine r_aload_n fe_160_17 rfl ?_
        refine r_iload_n fe_160_18 rfl ?_
        refine r_callS (as := [.int l3]) (r := [.ref 130]) fe_160_19 lm_12_320 md_163 rfl rfl (Nat.le_of_ble_eq_true rfl) (Nat.le_of_ble_eq_true rfl) (Nat.le_of_ble_eq_true rfl) ?_
        cases hc18 : F163 n l3 S with
        | none => rw [hc18] at hf; cases hf
        | some z17 =>
          rw [hc18, Option.bind_some] at hf
          refine F163c (r0 := z17.1) (S0 := z17.2) hh hc18 ?_
          refine r_callV (as := [.ref z17.1]) (r := []) fe_160_22 lm_12_211 md_164 rfl rfl (Nat.le_of_ble_eq_true rfl) m_c_0 (m_lt hh (by decide)) (Nat.le_of_ble_eq_true rfl) (Nat.le_of_ble_eq_true rfl) ?_
          cases hc20 : F164 n z17.1 z17.2 with
          | none => rw [hc20] at hf; cases hf
          | some z19 =>
            rw [hc20, Option.bind_some] at hf
            refine F164c (r0 := z19.1) (S0 := z19.2) hh hc20 ?_
            by_cases hb21 : am_if .ne z19.1 = true
            · rw [if_pos hb21] at hf
              refine r_if_t (t := 34) fe_160_25 (by decide) hb21 ?_
              refine r_iload_n fe_160_34 rfl ?_
              refine r_bipush (v := 8) fe_160_35 (by decide) ?_
              by_cases hb22 : am_ic .ne l3 8 = true
              · rw [if_pos hb22] at hf
                refine r_ic_t (t := 47) fe_160_37 (by decide) hb22 ?_
                refine r_aload_n fe_160_47 rfl ?_
                refine r_iload_n fe_160_48 rfl ?_
                refine r_iload_n fe_160_49 rfl ?_
                refine r_callV (as := [.int l3, .int l1]) (r := []) fe_160_50 lm_12_323 md_166 rfl rfl (Nat.le_of_ble_eq_true rfl) m_c_0 (m_lt hh (by decide)) (Nat.le_of_ble_eq_true rfl) (Nat.le_of_ble_eq_true rfl) ?_
                cases hc24 : F166 n l3 l1 z19.2 with
                | none => rw [hc24] at hf; cases hf
                | some z23 =>
                  rw [hc24, Option.bind_some] at hf
                  refine F166c (r0 := z23.1) (S0 := z23.2) hh hc24 ?_
                  by_cases hb25 : am_if .eq z23.1 = true
                  · rw [if_pos hb25] at hf
                    refine r_if_t (t := 63) fe_160_53 (by decide) hb25 ?_
                    refine r_aload_n fe_160_63 rfl ?_
                    refine r_dup fe_160_64 rfl ?_
                    refine mr_getf hh fe_160_65 lf_12_188 rfl ?_
                    refine r_iload_n fe_160_68 rfl ?_
                    refine r_callS (as := [.int l3]) (r := [.int (z23.2.1 27), .ref 130]) fe_160_69 lm_12_320 md_163 rfl rfl (Nat.le_of_ble_eq_true rfl) (Nat.le_of_ble_eq_true rfl) (Nat.le_of_ble_eq_true rfl) ?_
                    cases hc27 : F163 n l3 z23.2 with
                    | none => rw [hc27] at hf; cases hf
                    | some z26 =>
                      rw [hc27, Option.bind_some] at hf
                      refine F163c (r0 := z26.1) (S0 := z26.2) hh hc27 ?_
                      by_cases hs28 : sB z26.1 = true
                      rotate_left
                      · rw [if_neg hs28] at hf; cases hf
                      rw [if_pos hs28] at hf
                      refine r_callV (as := []) (r := [.int (z23.2.1 27), .ref 130]) fe_160_72 lm_12_199 md_24 rfl rfl (Nat.le_of_ble_eq_true rfl) (s_c (sB_ok hs28)) (s_lt (sB_ok hs28) hh) (Nat.le_of_ble_eq_true rfl) (Nat.le_of_ble_eq_true rfl) ?_
                      refine c_strlen (sB_ok hs28) (m_64 hh) ?_
                      refine r_iadd (v := ((z23.2.1 27) + (nI (sTx z26.1).length))) fe_160_75 rfl ?_
                      refine mr_putf hh fe_160_76 lf_12_188 (m_f_27 _ _) (by decide) rfl rfl rfl ?_
                      refine r_aload_n fe_160_79 rfl ?_
                      refine r_iload_n fe_160_80 rfl ?_
                      refine r_callV (as := [.int l3]) (r := []) fe_160_81 lm_12_327 md_167 rfl rfl (Nat.le_of_ble_eq_true rfl) m_c_0 (m_lt hh (by decide)) (Nat.le_of_ble_eq_true rfl) (Nat.le_of_ble_eq_true rfl) ?_
                      cases hc30 : F167 n l3 (m_sI z26.2 27 ((z23.2.1 27) + (nI (sTx z26.1).length))) with
                      | none => rw [hc30] at hf; cases hf
                      | some z29 =>
                        rw [hc30, Option.bind_some] at hf
                        refine F167c (r0 := z29.1) (S0 := z29.2) hh hc30 ?_
                        refine r_vret fe_160_84 ?_
                        exact dfin (P := fun _ T => Q none (mst T h)) hf hQ
                  · rw [if_neg hb25] at hf
                    refine r_if_f (t := 63) fe_160_53 (by decide) (Bool.eq_false_iff.mpr hb25) ?_
                    refine r_aload_n fe_160_56 rfl ?_
                    refine r_iconst (v := 4) fe_160_57 (by decide) ?_
                    refine r_iload_n fe_160_58 rfl ?_
                    refine r_callV (as := [.int 4, .int l2]) (r := []) fe_160_59 lm_12_224 md_165 rfl rfl (Nat.le_of_ble_eq_true rfl) m_c_0 (m_lt hh (by decide)) (Nat.le_of_ble_eq_true rfl) (Nat.le_of_ble_eq_true rfl) ?_
                    cases hc32 : F165 n 4 l2 z23.2 with
                    | none => rw [hc32] at hf; cases hf
                    | some z31 =>
                      rw [hc32, Option.bind_some] at hf
                      refine F165c (r0 := z31.1) (S0 := z31.2) hh hc32 ?_
                      refine r_vret fe_160_62 ?_
                      exact dfin (P := fun _ T => Q none (mst T h)) hf hQ
              · rw [if_neg hb22] at hf
                refine r_ic_f (t := 47) fe_160_37 (by decide) (Bool.eq_false_iff.mpr hb22) ?_
                refine r_aload_n fe_160_40 rfl ?_
                refine r_iconst (v := 0) fe_160_41 (by decide) ?_
                refine r_iload_n fe_160_42 rfl ?_
                refine r_callV (as := [.int 0, .int l2]) (r := []) fe_160_43 lm_12_224 md_165 rfl rfl (Nat.le_of_ble_eq_true rfl) m_c_0 (m_lt hh (by decide)) (Nat.le_of_ble_eq_true rfl) (Nat.le_of_ble_eq_true rfl) ?_
                cases hc34 : F165 n 0 l2 z19.2 with
                | none => rw [hc34] at hf; cases hf
                | some z33 =>
                  rw [hc34, Option.bind_some] at hf
                  refine F165c (r0 := z33.1) (S0 := z33.2) hh hc34 ?_
                  refine r_vret fe_160_46 ?_
                  exact dfin (P := fun _ T => Q none (mst T h)) hf hQ
            · rw [if_neg hb21] at hf
              refine r_if_f (t := 34) fe_160_25 (by decide) (Bool.eq_false_iff.mpr hb21) ?_
              refine r_iinc (v := (l3 + 1)) fe_160_28 rfl rfl rfl ?_
              refine r_goto (t := 11) fe_160_31 (by decide) ?_
              refine go_weak (L0 := [.ref 130, .int l1, .int l2, .int (l3 + 1)]) (lwk_c (Or.inl rfl) (lwk_c (Or.inl rfl) (lwk_c (Or.inl rfl) (lwk_c (Or.inl rfl) (lwk_rf []))))) ?_
              exact ih.2 l1 l2 (l3 + 1) z19.2 hf
theorem F160c {xs : Nat → Int32} {L9 d n : Nat} {h : AmH} {Q : Option Value → AmH → Prop} {r0 : Unit} {S0 S : mS} {l1 : Int32} (hh : 172 ≤ h.2.1) (hf : F160 n l1 S = some (r0, S0)) (hQ : Q none (mst S0 h)) : Ca (am_X xs L9) (d + 7) 160 [.ref 130, .int l1] (mst S h) Q := (F160l hh hQ n).1 l1 0 0 S hf
def F178b0 (F : Nat → mS → Option (Int32 × mS)) (n : Nat)  (S : mS) : Option (Int32 × mS) := ((F161 n  S).bind (fun z1 => (if am_if .ne (z1.2.1 28) = true then (if am_if .ne (z1.2.1 28) = true then some (0, (m_sI z1.2 27 ((z1.2.1 27) + 1))) else (if am_ic .ge (z1.2.1 27) (z1.2.1 26) = true then some (0, (m_sI z1.2 27 ((z1.2.1 27) + 1))) else some (1, (m_sI z1.2 27 ((z1.2.1 27) + 1))))) else (if am_ic .ge (z1.2.1 27) (z1.2.1 26) = true then (if am_if .ne (z1.2.1 28) = true then some (0, (m_sI z1.2 27 ((z1.2.1 27) + 1))) else (if am_ic .ge (z1.2.1 27) (z1.2.1 26) = true then some (0, (m_sI z1.2 27 ((z1.2.1 27) + 1))) else some (1, (m_sI z1.2 27 ((z1.2.1 27) + 1))))) else ((F162 n  z1.2).bind (fun z9 => (if am_ic .eq z9.1 59 = true then (if am_if .ne (z9.2.1 28) = true then some (0, (m_sI z9.2 27 ((z9.2.1 27) + 1))) else (if am_ic .ge (z9.2.1 27) (z9.2.1 26) = true then some (0, (m_sI z9.2 27 ((z9.2.1 27) + 1))) else some (1, (m_sI z9.2 27 ((z9.2.1 27) + 1))))) else ((F165 n 0 (z9.2.1 27) z9.2).bind (fun z14 => (if am_if .ne (z14.2.1 28) = true then some (0, (m_sI z14.2 27 ((z14.2.1 27) + 1))) else (if am_ic .ge (z14.2.1 27) (z14.2.1 26) = true then some (0, (m_sI z14.2 27 ((z14.2.1 27) + 1))) else some (1, (m_sI z14.2 27 ((z14.2.1 27) + 1))))))))))))))
def F178f : Nat → Nat → mS → Option (Int32 × mS)
  | 0, _, _ => none
  | n + 1, c, S => F178b0 (F178f n) n  S
theorem F178e0 (n : Nat)  (S : mS) : F178f (n + 1) 0  S = F178b0 (F178f n) n  S := rfl
def F178 (n : Nat)  (S : mS) : Option (Int32 × mS) := F178f n 0  S
set_option maxRecDepth 20000 in
set_option maxHeartbeats 2000000 in
theorem F178l {xs : Nat → Int32} {L9 d : Nat} {h : AmH} {Q : Option Value → AmH → Prop} {r0 : Int32} {S0 : mS} (hh : 172 ≤ h.2.1) (hQ : Q (some (.int r0)) (mst S0 h)) : ∀ n : Nat, (∀ (S : mS), F178f n 0 S = some (r0, S0) → Go (am_X xs L9) (d + 2) 178 0 [.ref 130, .float 0] [] (mst S h) Q) := by
  intro n
  induction n with
  | zero => exact fun  S hf => (by cases hf)
  | succ n ih =>
    intro  S hf
    rw [F178e0] at hf
    unfold F178b0 at hf
    refine r_aload_n fe_178_0 rfl ?_
    refine r_callV (as := []) (r := []) fe_178_1 lm_12_208 md_161 rfl rfl (Nat.le_of_ble_eq_true rfl) m_c_0 (m_lt hh (by decide)) (Nat.le_of_ble_eq_true rfl) (Nat.le_of_ble_eq_true rfl) ?_
    cases hc2 : F161 n  S with
    | none => rw [hc2] at hf; cases hf
    | some z1 =>
      rw [hc2, Option.bind_some] at hf
      refine F161c (r0 := z1.1) (S0 := z1.2) hh hc2 ?_
      refine r_aload_n fe_178_4 rfl ?_
      refine mr_getf hh fe_178_5 lf_12_185 rfl ?_
      by_cases hb3 : am_if .ne (z1.2.1 28) = true
      · rw [if_pos hb3] at hf
        refine r_if_t (t := 40) fe_178_8 (by decide) hb3 ?_
        refine r_aload_n fe_178_40 rfl ?_
        refine mr_getf hh fe_178_41 lf_12_185 rfl ?_
        by_cases hb4 : am_if .ne (z1.2.1 28) = true
        · rw [if_pos hb4] at hf
          refine r_if_t (t := 62) fe_178_44 (by decide) hb4 ?_
          refine r_iconst (v := 0) fe_178_62 (by decide) ?_
          refine r_istore_n fe_178_63 (Nat.le_of_ble_eq_true rfl) rfl ?_
          refine r_aload_n fe_178_64 rfl ?_
          refine r_dup fe_178_65 rfl ?_
          refine mr_getf hh fe_178_66 lf_12_188 rfl ?_
          refine r_iconst (v := 1) fe_178_69 (by decide) ?_
          refine r_iadd (v := ((z1.2.1 27) + 1)) fe_178_70 rfl ?_
          refine mr_putf hh fe_178_71 lf_12_188 (m_f_27 _ _) (by decide) rfl rfl rfl ?_
          refine r_iload_n fe_178_74 rfl ?_
          refine r_iret fe_178_75 ⟨rfl, by decide⟩ ?_
          exact dfin (P := fun r T => Q (some (.int r)) (mst T h)) hf hQ
        · rw [if_neg hb4] at hf
          refine r_if_f (t := 62) fe_178_44 (by decide) (Bool.eq_false_iff.mpr hb4) ?_
          refine r_aload_n fe_178_47 rfl ?_
          refine mr_getf hh fe_178_48 lf_12_188 rfl ?_
          refine r_aload_n fe_178_51 rfl ?_
          refine mr_getf hh fe_178_52 lf_12_157 rfl ?_
          by_cases hb5 : am_ic .ge (z1.2.1 27) (z1.2.1 26) = true
          · rw [if_pos hb5] at hf
            refine r_ic_t (t := 62) fe_178_55 (by decide) hb5 ?_
            refine r_iconst (v := 0) fe_178_62 (by decide) ?_
            refine r_istore_n fe_178_63 (Nat.le_of_ble_eq_true rfl) rfl ?_
            refine r_aload_n fe_178_64 rfl ?_
            refine r_dup fe_178_65 rfl ?_
            refine mr_getf hh fe_178_66 lf_12_188 rfl ?_
            refine r_iconst (v := 1) fe_178_69 (by decide) ?_
            refine r_iadd (v := ((z1.2.1 27) + 1)) fe_178_70 rfl ?_
            refine mr_putf hh fe_178_71 lf_12_188 (m_f_27 _ _) (by decide) rfl rfl rfl ?_
            refine r_iload_n fe_178_74 rfl ?_
            refine r_iret fe_178_75 ⟨rfl, by decide⟩ ?_
            exact dfin (P := fun r T => Q (some (.int r)) (mst T h)) hf hQ
          · rw [if_neg hb5] at hf
            refine r_ic_f (t := 62) fe_178_55 (by decide) (Bool.eq_false_iff.mpr hb5) ?_
            refine r_iconst (v := 1) fe_178_58 (by decide) ?_
            refine r_goto (t := 63) fe_178_59 (by decide) ?_
            refine r_istore_n fe_178_63 (Nat.le_of_ble_eq_true rfl) rfl ?_
            refine r_aload_n fe_178_64 rfl ?_
            refine r_dup fe_178_65 rfl ?_
            refine mr_getf hh fe_178_66 lf_12_188 rfl ?_
            refine r_iconst (v := 1) fe_178_69 (by decide) ?_
            refine r_iadd (v := ((z1.2.1 27) + 1)) fe_178_70 rfl ?_
            refine mr_putf hh fe_178_71 lf_12_188 (m_f_27 _ _) (by decide) rfl rfl rfl ?_
            refine r_iload_n fe_178_74 rfl ?_
            refine r_iret fe_178_75 ⟨rfl, by decide⟩ ?_
            exact dfin (P := fun r T => Q (some (.int r)) (mst T h)) hf hQ
      · rw [if_neg hb3] at hf
        refine r_if_f (t := 40) fe_178_8 (by decide) (Bool.eq_false_iff.mpr hb3) ?_
        refine r_aload_n fe_178_11 rfl ?_
        refine mr_getf hh fe_178_12 lf_12_188 rfl ?_
        refine r_aload_n fe_178_15 rfl ?_
        refine mr_getf hh fe_178_16 lf_12_157 rfl ?_
        by_cases hb6 : am_ic .ge (z1.2.1 27) (z1.2.1 26) = true
        · rw [if_pos hb6] at hf
          refine r_ic_t (t := 40) fe_178_19 (by decide) hb6 ?_
          refine r_aload_n fe_178_40 rfl ?_
          refine mr_getf hh fe_178_41 lf_12_185 rfl ?_
          by_cases hb7 : am_if .ne (z1.2.1 28) = true
          · rw [if_pos hb7] at hf
            refine r_if_t (t := 62) fe_178_44 (by decide) hb7 ?_
            refine r_iconst (v := 0) fe_178_62 (by decide) ?_
            refine r_istore_n fe_178_63 (Nat.le_of_ble_eq_true rfl) rfl ?_
            refine r_aload_n fe_178_64 rfl ?_
            refine r_dup fe_178_65 rfl ?_
            refine mr_getf hh fe_178_66 lf_12_188 rfl ?_
            refine r_iconst (v := 1) fe_178_69 (by decide) ?_
            refine r_iadd (v := ((z1.2.1 27) + 1)) fe_178_70 rfl ?_
            refine mr_putf hh fe_178_71 lf_12_188 (m_f_27 _ _) (by decide) rfl rfl rfl ?_
            refine r_iload_n fe_178_74 rfl ?_
            refine r_iret fe_178_75 ⟨rfl, by decide⟩ ?_
            exact dfin (P := fun r T => Q (some (.int r)) (mst T h)) hf hQ
          · rw [if_neg hb7] at hf
            refine r_if_f (t := 62) fe_178_44 (by decide) (Bool.eq_false_iff.mpr hb7) ?_
            refine r_aload_n fe_178_47 rfl ?_
            refine mr_getf hh fe_178_48 lf_12_188 rfl ?_
            refine r_aload_n fe_178_51 rfl ?_
            refine mr_getf hh fe_178_52 lf_12_157 rfl ?_
            by_cases hb8 : am_ic .ge (z1.2.1 27) (z1.2.1 26) = true
            · rw [if_pos hb8] at hf
              refine r_ic_t (t := 62) fe_178_55 (by decide) hb8 ?_
              refine r_iconst (v := 0) fe_178_62 (by decide) ?_
              refine r_istore_n fe_178_63 (Nat.le_of_ble_eq_true rfl) rfl ?_
              refine r_aload_n fe_178_64 rfl ?_
              refine r_dup fe_178_65 rfl ?_
              refine mr_getf hh fe_178_66 lf_12_188 rfl ?_
              refine r_iconst (v := 1) fe_178_69 (by decide) ?_
              refine r_iadd (v := ((z1.2.1 27) + 1)) fe_178_70 rfl ?_
              refine mr_putf hh fe_178_71 lf_12_188 (m_f_27 _ _) (by decide) rfl rfl rfl ?_
              refine r_iload_n fe_178_74 rfl ?_
              refine r_iret fe_178_75 ⟨rfl, by decide⟩ ?_
              exact dfin (P := fun r T => Q (some (.int r)) (mst T h)) hf hQ
            · rw [if_neg hb8] at hf
              refine r_ic_f (t := 62) fe_178_55 (by decide) (Bool.eq_false_iff.mpr hb8) ?_
              refine r_iconst (v := 1) fe_178_58 (by decide) ?_
              refine r_goto (t := 63) fe_178_59 (by decide) ?_
              refine r_istore_n fe_178_63 (Nat.le_of_ble_eq_true rfl) rfl ?_
              refine r_aload_n fe_178_64 rfl ?_
              refine r_dup fe_178_65 rfl ?_
              refine mr_getf hh fe_178_66 lf_12_188 rfl ?_
              refine r_iconst (v := 1) fe_178_69 (by decide) ?_
              refine r_iadd (v := ((z1.2.1 27) + 1)) fe_178_70 rfl ?_
              refine mr_putf hh fe_178_71 lf_12_188 (m_f_27 _ _) (by decide) rfl rfl rfl ?_
              refine r_iload_n fe_178_74 rfl ?_
              refine r_iret fe_178_75 ⟨rfl, by decide⟩ ?_
              exact dfin (P := fun r T => Q (some (.int r)) (mst T h)) hf hQ
        · rw [if_neg hb6] at hf
          refine r_ic_f (t := 40) fe_178_19 (by decide) (Bool.eq_false_iff.mpr hb6) ?_
          refine r_aload_n fe_178_22 rfl ?_
          refine r_callV (as := []) (r := []) fe_178_23 lm_12_191 md_162 rfl rfl (Nat.le_of_ble_eq_true rfl) m_c_0 (m_lt hh (by decide)) (Nat.le_of_ble_eq_true rfl) (Nat.le_of_ble_eq_true rfl) ?_
          cases hc10 : F162 n  z1.2 with
          | none => rw [hc10] at hf; cases hf
          | some z9 =>
            rw [hc10, Option.bind_some] at hf
            refine F162c (r0 := z9.1) (S0 := z9.2) hh hc10 ?_
            refine r_bipush (v := 59) fe_178_26 (by decide) ?_
            by_cases hb11 : am_ic .eq z9.1 59 = true
            · rw [if_pos hb11] at hf
              refine r_ic_t (t := 40) fe_178_28 (by decide) hb11 ?_
              refine r_aload_n fe_178_40 rfl ?_
              refine mr_getf hh fe_178_41 lf_12_185 rfl ?_
              by_cases hb12 : am_if .ne (z9.2.1 28) = true
              · rw [if_pos hb12] at hf
                refine r_if_t (t := 62) fe_178_44 (by decide) hb12 ?_
                refine r_iconst (v := 0) fe_178_62 (by decide) ?_
                refine r_istore_n fe_178_63 (Nat.le_of_ble_eq_true rfl) rfl ?_
                refine r_aload_n fe_178_64 rfl ?_
                refine r_dup fe_178_65 rfl ?_
                refine mr_getf hh fe_178_66 lf_12_188 rfl ?_
                refine r_iconst (v := 1) fe_178_69 (by decide) ?_
                refine r_iadd (v := ((z9.2.1 27) + 1)) fe_178_70 rfl ?_
                refine mr_putf hh fe_178_71 lf_12_188 (m_f_27 _ _) (by decide) rfl rfl rfl ?_
                refine r_iload_n fe_178_74 rfl ?_
                refine r_iret fe_178_75 ⟨rfl, by decide⟩ ?_
                exact dfin (P := fun r T => Q (some (.int r)) (mst T h)) hf hQ
              · rw [if_neg hb12] at hf
                refine r_if_f (t := 62) fe_178_44 (by decide) (Bool.eq_false_iff.mpr hb12) ?_
                refine r_aload_n fe_178_47 rfl ?_
                refine mr_getf hh fe_178_48 lf_12_188 rfl ?_
                refine r_aload_n fe_178_51 rfl ?_
                refine mr_getf hh fe_178_52 lf_12_157 rfl ?_
                by_cases hb13 : am_ic .ge (z9.2.1 27) (z9.2.1 26) = true
                · rw [if_pos hb13] at hf
                  refine r_ic_t (t := 62) fe_178_55 (by decide) hb13 ?_
                  refine r_iconst (v := 0) fe_178_62 (by decide) ?_
                  refine r_istore_n fe_178_63 (Nat.le_of_ble_eq_true rfl) rfl ?_
                  refine r_aload_n fe_178_64 rfl ?_
                  refine r_dup fe_178_65 rfl ?_
                  refine mr_getf hh fe_178_66 lf_12_188 rfl ?_
                  refine r_iconst (v := 1) fe_178_69 (by decide) ?_
                  refine r_iadd (v := ((z9.2.1 27) + 1)) fe_178_70 rfl ?_
                  refine mr_putf hh fe_178_71 lf_12_188 (m_f_27 _ _) (by decide) rfl rfl rfl ?_
                  refine r_iload_n fe_178_74 rfl ?_
                  refine r_iret fe_178_75 ⟨rfl, by decide⟩ ?_
                  exact dfin (P := fun r T => Q (some (.int r)) (mst T h)) hf hQ
                · rw [if_neg hb13] at hf
                  refine r_ic_f (t := 62) fe_178_55 (by decide) (Bool.eq_false_iff.mpr hb13) ?_
                  refine r_iconst (v := 1) fe_178_58 (by decide) ?_
                  refine r_goto (t := 63) fe_178_59 (by decide) ?_
                  refine r_istore_n fe_178_63 (Nat.le_of_ble_eq_true rfl) rfl ?_
                  refine r_aload_n fe_178_64 rfl ?_
                  refine r_dup fe_178_65 rfl ?_
                  refine mr_getf hh fe_178_66 lf_12_188 rfl ?_
                  refine r_iconst (v := 1) fe_178_69 (by decide) ?_
                  refine r_iadd (v := ((z9.2.1 27) + 1)) fe_178_70 rfl ?_
                  refine mr_putf hh fe_178_71 lf_12_188 (m_f_27 _ _) (by decide) rfl rfl rfl ?_
                  refine r_iload_n fe_178_74 rfl ?_
                  refine r_iret fe_178_75 ⟨rfl, by decide⟩ ?_
                  exact dfin (P := fun r T => Q (some (.int r)) (mst T h)) hf hQ
            · rw [if_neg hb11] at hf
              refine r_ic_f (t := 40) fe_178_28 (by decide) (Bool.eq_false_iff.mpr hb11) ?_
              refine r_aload_n fe_178_31 rfl ?_
              refine r_iconst (v := 0) fe_178_32 (by decide) ?_
              refine r_aload_n fe_178_33 rfl ?_
              refine mr_getf hh fe_178_34 lf_12_188 rfl ?_
              refine r_callV (as := [.int 0, .int (z9.2.1 27)]) (r := []) fe_178_37 lm_12_224 md_165 rfl rfl (Nat.le_of_ble_eq_true rfl) m_c_0 (m_lt hh (by decide)) (Nat.le_of_ble_eq_true rfl) (Nat.le_of_ble_eq_true rfl) ?_
              cases hc15 : F165 n 0 (z9.2.1 27) z9.2 with
              | none => rw [hc15] at hf; cases hf
              | some z14 =>
                rw [hc15, Option.bind_some] at hf
                refine F165c (r0 := z14.1) (S0 := z14.2) hh hc15 ?_
                refine r_aload_n fe_178_40 rfl ?_
                refine mr_getf hh fe_178_41 lf_12_185 rfl ?_
                by_cases hb16 : am_if .ne (z14.2.1 28) = true
                · rw [if_pos hb16] at hf
                  refine r_if_t (t := 62) fe_178_44 (by decide) hb16 ?_
                  refine r_iconst (v := 0) fe_178_62 (by decide) ?_
                  refine r_istore_n fe_178_63 (Nat.le_of_ble_eq_true rfl) rfl ?_
                  refine r_aload_n fe_178_64 rfl ?_
                  refine r_dup fe_178_65 rfl ?_
                  refine mr_getf hh fe_178_66 lf_12_188 rfl ?_
                  refine r_iconst (v := 1) fe_178_69 (by decide) ?_
                  refine r_iadd (v := ((z14.2.1 27) + 1)) fe_178_70 rfl ?_
                  refine mr_putf hh fe_178_71 lf_12_188 (m_f_27 _ _) (by decide) rfl rfl rfl ?_
                  refine r_iload_n fe_178_74 rfl ?_
                  refine r_iret fe_178_75 ⟨rfl, by decide⟩ ?_
                  exact dfin (P := fun r T => Q (some (.int r)) (mst T h)) hf hQ
                · rw [if_neg hb16] at hf
                  refine r_if_f (t := 62) fe_178_44 (by decide) (Bool.eq_false_iff.mpr hb16) ?_
                  refine r_aload_n fe_178_47 rfl ?_
                  refine mr_getf hh fe_178_48 lf_12_188 rfl ?_
                  refine r_aload_n fe_178_51 rfl ?_
                  refine mr_getf hh fe_178_52 lf_12_157 rfl ?_
                  by_cases hb17 : am_ic .ge (z14.2.1 27) (z14.2.1 26) = true
                  · rw [if_pos hb17] at hf
                    refine r_ic_t (t := 62) fe_178_55 (by decide) hb17 ?_
                    refine r_iconst (v := 0) fe_178_62 (by decide) ?_
                    refine r_istore_n fe_178_63 (Nat.le_of_ble_eq_true rfl) rfl ?_
                    refine r_aload_n fe_178_64 rfl ?_
                    refine r_dup fe_178_65 rfl ?_
                    refine mr_getf hh fe_178_66 lf_12_188 rfl ?_
                    refine r_iconst (v := 1) fe_178_69 (by decide) ?_
                    refine r_iadd (v := ((z14.2.1 27) + 1)) fe_178_70 rfl ?_
                    refine mr_putf hh fe_178_71 lf_12_188 (m_f_27 _ _) (by decide) rfl rfl rfl ?_
                    refine r_iload_n fe_178_74 rfl ?_
                    refine r_iret fe_178_75 ⟨rfl, by decide⟩ ?_
                    exact dfin (P := fun r T => Q (some (.int r)) (mst T h)) hf hQ
                  · rw [if_neg hb17] at hf
                    refine r_ic_f (t := 62) fe_178_55 (by decide) (Bool.eq_false_iff.mpr hb17) ?_
                    refine r_iconst (v := 1) fe_178_58 (by decide) ?_
                    refine r_goto (t := 63) fe_178_59 (by decide) ?_
                    refine r_istore_n fe_178_63 (Nat.le_of_ble_eq_true rfl) rfl ?_
                    refine r_aload_n fe_178_64 rfl ?_
                    refine r_dup fe_178_65 rfl ?_
                    refine mr_getf hh fe_178_66 lf_12_188 rfl ?_
                    refine r_iconst (v := 1) fe_178_69 (by decide) ?_
                    refine r_iadd (v := ((z14.2.1 27) + 1)) fe_178_70 rfl ?_
                    refine mr_putf hh fe_178_71 lf_12_188 (m_f_27 _ _) (by decide) rfl rfl rfl ?_
                    refine r_iload_n fe_178_74 rfl ?_
                    refine r_iret fe_178_75 ⟨rfl, by decide⟩ ?_
                    exact dfin (P := fun r T => Q (some (.int r)) (mst T h)) hf hQ
theorem F178c {xs : Nat → Int32} {L9 d n : Nat} {h : AmH} {Q : Option Value → AmH → Prop} {r0 : Int32} {S0 S : mS}  (hh : 172 ≤ h.2.1) (hf : F178 n  S = some (r0, S0)) (hQ : Q (some (.int r0)) (mst S0 h)) : Ca (am_X xs L9) (d + 2) 178 [.ref 130] (mst S h) Q := (F178l hh hQ n)  S hf
def F158b0 (F : Nat → Int32 → Int32 → mS → Option (Unit × mS)) (n : Nat) (l1 : Int32) (l2 : Int32) (S : mS) : Option (Unit × mS) := ((F159 n  S).bind (fun z1 => F 6 0 0 z1.2))
def F158b6 (F : Nat → Int32 → Int32 → mS → Option (Unit × mS)) (n : Nat) (l1 : Int32) (l2 : Int32) (S : mS) : Option (Unit × mS) := (if am_ic .ge l1 5 = true then F 28 0 1 S else (if ¬ (l1 < 0 ∨ 5 ≤ (l1).toNatClampNeg) then F 6 (l1 + 1) 0 (m_sA S 16 (Int32.toNatClampNeg l1) 0) else none))
def F158b28 (F : Nat → Int32 → Int32 → mS → Option (Unit × mS)) (n : Nat) (l1 : Int32) (l2 : Int32) (S : mS) : Option (Unit × mS) := (if am_if .eq l2 = true then some ((), (m_sI S 26 0)) else ((F160 n l1 S).bind (fun z6 => ((F178 n  z6.2).bind (fun z8 => F 28 (l1 + 1) z8.1 z8.2)))))
def F158f : Nat → Nat → Int32 → Int32 → mS → Option (Unit × mS)
  | 0, _, _, _, _ => none
  | n + 1, c, l1, l2, S => if c = 0 then F158b0 (F158f n) n l1 l2 S else if c = 6 then F158b6 (F158f n) n l1 l2 S else F158b28 (F158f n) n l1 l2 S
theorem F158e0 (n : Nat) (l1 : Int32) (l2 : Int32) (S : mS) : F158f (n + 1) 0 l1 l2 S = F158b0 (F158f n) n l1 l2 S := if_pos rfl
theorem F158e6 (n : Nat) (l1 : Int32) (l2 : Int32) (S : mS) : F158f (n + 1) 6 l1 l2 S = F158b6 (F158f n) n l1 l2 S := (if_neg (by decide)).trans (if_pos rfl)
theorem F158e28 (n : Nat) (l1 : Int32) (l2 : Int32) (S : mS) : F158f (n + 1) 28 l1 l2 S = F158b28 (F158f n) n l1 l2 S := (if_neg (by decide)).trans (if_neg (by decide))
def F158 (n : Nat)  (S : mS) : Option (Unit × mS) := F158f n 0 0 0 S
set_option maxRecDepth 20000 in
set_option maxHeartbeats 2000000 in
theorem F158l {xs : Nat → Int32} {L9 d : Nat} {h : AmH} {Q : Option Value → AmH → Prop} {r0 : Unit} {S0 : mS} (hh : 172 ≤ h.2.1) (hQ : Q none (mst S0 h)) : ∀ n : Nat, (∀ (l1 : Int32) (l2 : Int32) (S : mS), F158f n 0 l1 l2 S = some (r0, S0) → Go (am_X xs L9) (d + 8) 158 0 [.ref 130, .float 0, .float 0] [] (mst S h) Q) ∧ (∀ (l1 : Int32) (l2 : Int32) (S : mS), F158f n 6 l1 l2 S = some (r0, S0) → Go (am_X xs L9) (d + 8) 158 6 [.ref 130, .int l1, .float 0] [] (mst S h) Q) ∧ (∀ (l1 : Int32) (l2 : Int32) (S : mS), F158f n 28 l1 l2 S = some (r0, S0) → Go (am_X xs L9) (d + 8) 158 28 [.ref 130, .int l1, .int l2] [] (mst S h) Q) := by
  intro n
  induction n with
  | zero => exact ⟨fun l1 l2 S hf => (by cases hf), fun l1 l2 S hf => (by cases hf), fun l1 l2 S hf => (by cases hf)⟩
  | succ n ih =>
    refine ⟨?_, ?_, ?_⟩
    · intro l1 l2 S hf
      rw [F158e0] at hf
      unfold F158b0 at hf
      refine r_aload_n fe_158_0 rfl ?_
      refine r_callV (as := []) (r := []) fe_158_1 lm_12_330 md_159 rfl rfl (Nat.le_of_ble_eq_true rfl) m_c_0 (m_lt hh (by decide)) (Nat.le_of_ble_eq_true rfl) (Nat.le_of_ble_eq_true rfl) ?_
      cases hc2 : F159 n  S with
      | none => rw [hc2] at hf; cases hf
      | some z1 =>
        rw [hc2, Option.bind_some] at hf
        refine F159c (r0 := z1.1) (S0 := z1.2) hh hc2 ?_
        refine r_iconst (v := 0) fe_158_4 (by decide) ?_
        refine r_istore_n fe_158_5 (Nat.le_of_ble_eq_true rfl) rfl ?_
        refine go_weak (L0 := [.ref 130, .int 0, .float 0]) (lwk_c (Or.inl rfl) (lwk_c (Or.inl rfl) (lwk_c (Or.inl rfl) (lwk_rf [])))) ?_
        exact ih.2.1 0 0 z1.2 hf
    · intro l1 l2 S hf
      rw [F158e6] at hf
      unfold F158b6 at hf
      refine r_iload_n fe_158_6 rfl ?_
      refine r_iconst (v := 5) fe_158_7 (by decide) ?_
      by_cases hb3 : am_ic .ge l1 5 = true
      · rw [if_pos hb3] at hf
        refine r_ic_t (t := 24) fe_158_8 (by decide) hb3 ?_
        refine r_iconst (v := 0) fe_158_24 (by decide) ?_
        refine r_istore_n fe_158_25 (Nat.le_of_ble_eq_true rfl) rfl ?_
        refine r_iconst (v := 1) fe_158_26 (by decide) ?_
        refine r_istore_n fe_158_27 (Nat.le_of_ble_eq_true rfl) rfl ?_
        refine go_weak (L0 := [.ref 130, .int 0, .int 1]) (lwk_c (Or.inl rfl) (lwk_c (Or.inl rfl) (lwk_c (Or.inl rfl) (lwk_rf [])))) ?_
        exact ih.2.2 0 1 S hf
      · rw [if_neg hb3] at hf
        refine r_ic_f (t := 24) fe_158_8 (by decide) (Bool.eq_false_iff.mpr hb3) ?_
        refine r_aload_n fe_158_11 rfl ?_
        refine mr_getf hh fe_158_12 lf_12_55 rfl ?_
        refine r_iload_n fe_158_15 rfl ?_
        refine r_iconst (v := 0) fe_158_16 (by decide) ?_
        by_cases hg4 : ¬ (l1 < 0 ∨ 5 ≤ (l1).toNatClampNeg)
        rotate_left
        · rw [if_neg hg4] at hf; cases hf
        rw [if_pos hg4] at hf
        refine mr_iast (k := 16) (n := 5) (j := (Int32.toNatClampNeg l1)) hh fe_158_17 rfl (by decide) (by decide) rfl rfl (fun z => hg4 (Or.inl z)) rfl (fun z => hg4 (Or.inr z)) ?_
        refine r_iinc (v := (l1 + 1)) fe_158_18 rfl rfl rfl ?_
        refine r_goto (t := 6) fe_158_21 (by decide) ?_
        refine go_weak (L0 := [.ref 130, .int (l1 + 1), .float 0]) (lwk_c (Or.inl rfl) (lwk_c (Or.inl rfl) (lwk_c (Or.inl rfl) (lwk_rf [])))) ?_
        exact ih.2.1 (l1 + 1) 0 (m_sA S 16 (Int32.toNatClampNeg l1) 0) hf
    · intro l1 l2 S hf
      rw [F158e28] at hf
      unfold F158b28 at hf
      refine r_iload_n fe_158_28 rfl ?_
      by_cases hb5 : am_if .eq l2 = true
      · rw [if_pos hb5] at hf
        refine r_if_t (t := 48) fe_158_29 (by decide) hb5 ?_
        refine r_aload_n fe_158_48 rfl ?_
        refine r_iconst (v := 0) fe_158_49 (by decide) ?_
        refine mr_putf hh fe_158_50 lf_12_157 (m_f_26 _ _) (by decide) rfl rfl rfl ?_
        refine r_vret fe_158_53 ?_
        exact dfin (P := fun _ T => Q none (mst T h)) hf hQ
      · rw [if_neg hb5] at hf
        refine r_if_f (t := 48) fe_158_29 (by decide) (Bool.eq_false_iff.mpr hb5) ?_
        refine r_aload_n fe_158_32 rfl ?_
        refine r_iload_n fe_158_33 rfl ?_
        refine r_callV (as := [.int l1]) (r := []) fe_158_34 lm_12_333 md_160 rfl rfl (Nat.le_of_ble_eq_true rfl) m_c_0 (m_lt hh (by decide)) (Nat.le_of_ble_eq_true rfl) (Nat.le_of_ble_eq_true rfl) ?_
        cases hc7 : F160 n l1 S with
        | none => rw [hc7] at hf; cases hf
        | some z6 =>
          rw [hc7, Option.bind_some] at hf
          refine F160c (r0 := z6.1) (S0 := z6.2) hh hc7 ?_
          refine r_iinc (v := (l1 + 1)) fe_158_37 rfl rfl rfl ?_
          refine r_aload_n fe_158_40 rfl ?_
          refine r_callV (as := []) (r := []) fe_158_41 lm_12_336 md_178 rfl rfl (Nat.le_of_ble_eq_true rfl) m_c_0 (m_lt hh (by decide)) (Nat.le_of_ble_eq_true rfl) (Nat.le_of_ble_eq_true rfl) ?_
          cases hc9 : F178 n  z6.2 with
          | none => rw [hc9] at hf; cases hf
          | some z8 =>
            rw [hc9, Option.bind_some] at hf
            refine F178c (r0 := z8.1) (S0 := z8.2) hh hc9 ?_
            refine r_istore_n fe_158_44 (Nat.le_of_ble_eq_true rfl) rfl ?_
            refine r_goto (t := 28) fe_158_45 (by decide) ?_
            refine go_weak (L0 := [.ref 130, .int (l1 + 1), .int z8.1]) (lwk_c (Or.inl rfl) (lwk_c (Or.inl rfl) (lwk_c (Or.inl rfl) (lwk_rf [])))) ?_
            exact ih.2.2 (l1 + 1) z8.1 z8.2 hf
theorem F158c {xs : Nat → Int32} {L9 d n : Nat} {h : AmH} {Q : Option Value → AmH → Prop} {r0 : Unit} {S0 S : mS}  (hh : 172 ≤ h.2.1) (hf : F158 n  S = some (r0, S0)) (hQ : Q none (mst S0 h)) : Ca (am_X xs L9) (d + 8) 158 [.ref 130] (mst S h) Q := (F158l hh hQ n).1 0 0 S hf
def F179_147_132b0 (F : Nat → Int32 → mS → Option (Unit × mS)) (n : Nat) (l2 : Int32) (S : mS) : Option (Unit × mS) := F 2 0 S
def F179_147_132b2 (F : Nat → Int32 → mS → Option (Unit × mS)) (n : Nat) (l2 : Int32) (S : mS) : Option (Unit × mS) := (if am_ic .ge l2 16 = true then some ((), S) else (if ¬ (l2 < 0 ∨ 16 ≤ (l2).toNatClampNeg) then (if ¬ (l2 < 0 ∨ 16 ≤ (l2).toNatClampNeg) then F 2 (l2 + 1) (m_sA S 2 (Int32.toNatClampNeg l2) (S.2.1 17 (Int32.toNatClampNeg l2))) else none) else none))
def F179_147_132f : Nat → Nat → Int32 → mS → Option (Unit × mS)
  | 0, _, _, _ => none
  | n + 1, c, l2, S => if c = 0 then F179_147_132b0 (F179_147_132f n) n l2 S else F179_147_132b2 (F179_147_132f n) n l2 S
theorem F179_147_132e0 (n : Nat) (l2 : Int32) (S : mS) : F179_147_132f (n + 1) 0 l2 S = F179_147_132b0 (F179_147_132f n) n l2 S := if_pos rfl
theorem F179_147_132e2 (n : Nat) (l2 : Int32) (S : mS) : F179_147_132f (n + 1) 2 l2 S = F179_147_132b2 (F179_147_132f n) n l2 S := if_neg (by decide)
def F179_147_132 (n : Nat)  (S : mS) : Option (Unit × mS) := F179_147_132f n 0 0 S
set_option maxRecDepth 20000 in
set_option maxHeartbeats 2000000 in
theorem F179_147_132l {xs : Nat → Int32} {L9 d : Nat} {h : AmH} {Q : Option Value → AmH → Prop} {r0 : Unit} {S0 : mS} (hh : 172 ≤ h.2.1) (hQ : Q none (mst S0 h)) : ∀ n : Nat, (∀ (l2 : Int32) (S : mS), F179_147_132f n 0 l2 S = some (r0, S0) → Go (am_X xs L9) (d + 0) 179 0 [.ref 147, .ref 132, .float 0] [] (mst S h) Q) ∧ (∀ (l2 : Int32) (S : mS), F179_147_132f n 2 l2 S = some (r0, S0) → Go (am_X xs L9) (d + 0) 179 2 [.ref 147, .ref 132, .int l2] [] (mst S h) Q) := by
  intro n
  induction n with
  | zero => exact ⟨fun l2 S hf => (by cases hf), fun l2 S hf => (by cases hf)⟩
  | succ n ih =>
    refine ⟨?_, ?_⟩
    · intro l2 S hf
      rw [F179_147_132e0] at hf
      unfold F179_147_132b0 at hf
      refine r_iconst (v := 0) fe_179_0 (by decide) ?_
      refine r_istore_n fe_179_1 (Nat.le_of_ble_eq_true rfl) rfl ?_
      refine go_weak (L0 := [.ref 147, .ref 132, .int 0]) (lwk_c (Or.inl rfl) (lwk_c (Or.inl rfl) (lwk_c (Or.inl rfl) (lwk_rf [])))) ?_
      exact ih.2 0 S hf
    · intro l2 S hf
      rw [F179_147_132e2] at hf
      unfold F179_147_132b2 at hf
      refine r_iload_n fe_179_2 rfl ?_
      refine r_aload_n fe_179_3 rfl ?_
      refine r_alen (v := 16) fe_179_4 m_c_17 (m_lt hh (by decide)) (by decide) (by decide) ?_
      by_cases hb1 : am_ic .ge l2 16 = true
      · rw [if_pos hb1] at hf
        refine r_ic_t (t := 20) fe_179_5 (by decide) hb1 ?_
        refine r_vret fe_179_20 ?_
        exact dfin (P := fun _ T => Q none (mst T h)) hf hQ
      · rw [if_neg hb1] at hf
        refine r_ic_f (t := 20) fe_179_5 (by decide) (Bool.eq_false_iff.mpr hb1) ?_
        refine r_aload_n fe_179_8 rfl ?_
        refine r_iload_n fe_179_9 rfl ?_
        refine r_aload_n fe_179_10 rfl ?_
        refine r_iload_n fe_179_11 rfl ?_
        by_cases hg2 : ¬ (l2 < 0 ∨ 16 ≤ (l2).toNatClampNeg)
        rotate_left
        · rw [if_neg hg2] at hf; cases hf
        rw [if_pos hg2] at hf
        refine r_iald (j := (Int32.toNatClampNeg l2)) (v := S.2.1 17 (Int32.toNatClampNeg l2)) fe_179_12 m_c_17 (m_lt hh (by decide)) (fun z => hg2 (Or.inl z)) rfl (fun z => hg2 (Or.inr z)) rfl ?_
        by_cases hg3 : ¬ (l2 < 0 ∨ 16 ≤ (l2).toNatClampNeg)
        rotate_left
        · rw [if_neg hg3] at hf; cases hf
        rw [if_pos hg3] at hf
        refine mr_iast (k := 2) (n := 16) (j := (Int32.toNatClampNeg l2)) hh fe_179_13 rfl (by decide) (by decide) rfl rfl (fun z => hg3 (Or.inl z)) rfl (fun z => hg3 (Or.inr z)) ?_
        refine r_iinc (v := (l2 + 1)) fe_179_14 rfl rfl rfl ?_
        refine r_goto (t := 2) fe_179_17 (by decide) ?_
        refine go_weak (L0 := [.ref 147, .ref 132, .int (l2 + 1)]) (lwk_c (Or.inl rfl) (lwk_c (Or.inl rfl) (lwk_c (Or.inl rfl) (lwk_rf [])))) ?_
        exact ih.2 (l2 + 1) (m_sA S 2 (Int32.toNatClampNeg l2) (S.2.1 17 (Int32.toNatClampNeg l2))) hf
theorem F179_147_132c {xs : Nat → Int32} {L9 d n : Nat} {h : AmH} {Q : Option Value → AmH → Prop} {r0 : Unit} {S0 S : mS}  (hh : 172 ≤ h.2.1) (hf : F179_147_132 n  S = some (r0, S0)) (hQ : Q none (mst S0 h)) : Ca (am_X xs L9) (d + 0) 179 [.ref 147, .ref 132] (mst S h) Q := (F179_147_132l hh hQ n).1 0 S hf
def F179_148_133b0 (F : Nat → Int32 → mS → Option (Unit × mS)) (n : Nat) (l2 : Int32) (S : mS) : Option (Unit × mS) := F 2 0 S
def F179_148_133b2 (F : Nat → Int32 → mS → Option (Unit × mS)) (n : Nat) (l2 : Int32) (S : mS) : Option (Unit × mS) := (if am_ic .ge l2 16 = true then some ((), S) else (if ¬ (l2 < 0 ∨ 16 ≤ (l2).toNatClampNeg) then (if ¬ (l2 < 0 ∨ 16 ≤ (l2).toNatClampNeg) then F 2 (l2 + 1) (m_sA S 3 (Int32.toNatClampNeg l2) (S.2.1 18 (Int32.toNatClampNeg l2))) else none) else none))
def F179_148_133f : Nat → Nat → Int32 → mS → Option (Unit × mS)
  | 0, _, _, _ => none
  | n + 1, c, l2, S => if c = 0 then F179_148_133b0 (F179_148_133f n) n l2 S else F179_148_133b2 (F179_148_133f n) n l2 S
theorem F179_148_133e0 (n : Nat) (l2 : Int32) (S : mS) : F179_148_133f (n + 1) 0 l2 S = F179_148_133b0 (F179_148_133f n) n l2 S := if_pos rfl
theorem F179_148_133e2 (n : Nat) (l2 : Int32) (S : mS) : F179_148_133f (n + 1) 2 l2 S = F179_148_133b2 (F179_148_133f n) n l2 S := if_neg (by decide)
def F179_148_133 (n : Nat)  (S : mS) : Option (Unit × mS) := F179_148_133f n 0 0 S
set_option maxRecDepth 20000 in
set_option maxHeartbeats 2000000 in
theorem F179_148_133l {xs : Nat → Int32} {L9 d : Nat} {h : AmH} {Q : Option Value → AmH → Prop} {r0 : Unit} {S0 : mS} (hh : 172 ≤ h.2.1) (hQ : Q none (mst S0 h)) : ∀ n : Nat, (∀ (l2 : Int32) (S : mS), F179_148_133f n 0 l2 S = some (r0, S0) → Go (am_X xs L9) (d + 0) 179 0 [.ref 148, .ref 133, .float 0] [] (mst S h) Q) ∧ (∀ (l2 : Int32) (S : mS), F179_148_133f n 2 l2 S = some (r0, S0) → Go (am_X xs L9) (d + 0) 179 2 [.ref 148, .ref 133, .int l2] [] (mst S h) Q) := by
  intro n
  induction n with
  | zero => exact ⟨fun l2 S hf => (by cases hf), fun l2 S hf => (by cases hf)⟩
  | succ n ih =>
    refine ⟨?_, ?_⟩
    · intro l2 S hf
      rw [F179_148_133e0] at hf
      unfold F179_148_133b0 at hf
      refine r_iconst (v := 0) fe_179_0 (by decide) ?_
      refine r_istore_n fe_179_1 (Nat.le_of_ble_eq_true rfl) rfl ?_
      refine go_weak (L0 := [.ref 148, .ref 133, .int 0]) (lwk_c (Or.inl rfl) (lwk_c (Or.inl rfl) (lwk_c (Or.inl rfl) (lwk_rf [])))) ?_
      exact ih.2 0 S hf
    · intro l2 S hf
      rw [F179_148_133e2] at hf
      unfold F179_148_133b2 at hf
      refine r_iload_n fe_179_2 rfl ?_
      refine r_aload_n fe_179_3 rfl ?_
      refine r_alen (v := 16) fe_179_4 m_c_18 (m_lt hh (by decide)) (by decide) (by decide) ?_
      by_cases hb1 : am_ic .ge l2 16 = true
      · rw [if_pos hb1] at hf
        refine r_ic_t (t := 20) fe_179_5 (by decide) hb1 ?_
        refine r_vret fe_179_20 ?_
        exact dfin (P := fun _ T => Q none (mst T h)) hf hQ
      · rw [if_neg hb1] at hf
        refine r_ic_f (t := 20) fe_179_5 (by decide) (Bool.eq_false_iff.mpr hb1) ?_
        refine r_aload_n fe_179_8 rfl ?_
        refine r_iload_n fe_179_9 rfl ?_
        refine r_aload_n fe_179_10 rfl ?_
        refine r_iload_n fe_179_11 rfl ?_
        by_cases hg2 : ¬ (l2 < 0 ∨ 16 ≤ (l2).toNatClampNeg)
        rotate_left
        · rw [if_neg hg2] at hf; cases hf
        rw [if_pos hg2] at hf
        refine r_iald (j := (Int32.toNatClampNeg l2)) (v := S.2.1 18 (Int32.toNatClampNeg l2)) fe_179_12 m_c_18 (m_lt hh (by decide)) (fun z => hg2 (Or.inl z)) rfl (fun z => hg2 (Or.inr z)) rfl ?_
        by_cases hg3 : ¬ (l2 < 0 ∨ 16 ≤ (l2).toNatClampNeg)
        rotate_left
        · rw [if_neg hg3] at hf; cases hf
        rw [if_pos hg3] at hf
        refine mr_iast (k := 3) (n := 16) (j := (Int32.toNatClampNeg l2)) hh fe_179_13 rfl (by decide) (by decide) rfl rfl (fun z => hg3 (Or.inl z)) rfl (fun z => hg3 (Or.inr z)) ?_
        refine r_iinc (v := (l2 + 1)) fe_179_14 rfl rfl rfl ?_
        refine r_goto (t := 2) fe_179_17 (by decide) ?_
        refine go_weak (L0 := [.ref 148, .ref 133, .int (l2 + 1)]) (lwk_c (Or.inl rfl) (lwk_c (Or.inl rfl) (lwk_c (Or.inl rfl) (lwk_rf [])))) ?_
        exact ih.2 (l2 + 1) (m_sA S 3 (Int32.toNatClampNeg l2) (S.2.1 18 (Int32.toNatClampNeg l2))) hf
theorem F179_148_133c {xs : Nat → Int32} {L9 d n : Nat} {h : AmH} {Q : Option Value → AmH → Prop} {r0 : Unit} {S0 S : mS}  (hh : 172 ≤ h.2.1) (hf : F179_148_133 n  S = some (r0, S0)) (hQ : Q none (mst S0 h)) : Ca (am_X xs L9) (d + 0) 179 [.ref 148, .ref 133] (mst S h) Q := (F179_148_133l hh hQ n).1 0 S hf
def F179_149_134b0 (F : Nat → Int32 → mS → Option (Unit × mS)) (n : Nat) (l2 : Int32) (S : mS) : Option (Unit × mS) := F 2 0 S
def F179_149_134b2 (F : Nat → Int32 → mS → Option (Unit × mS)) (n : Nat) (l2 : Int32) (S : mS) : Option (Unit × mS) := (if am_ic .ge l2 6 = true then some ((), S) else (if ¬ (l2 < 0 ∨ 6 ≤ (l2).toNatClampNeg) then (if ¬ (l2 < 0 ∨ 6 ≤ (l2).toNatClampNeg) then F 2 (l2 + 1) (m_sA S 4 (Int32.toNatClampNeg l2) (S.2.1 19 (Int32.toNatClampNeg l2))) else none) else none))
def F179_149_134f : Nat → Nat → Int32 → mS → Option (Unit × mS)
  | 0, _, _, _ => none
  | n + 1, c, l2, S => if c = 0 then F179_149_134b0 (F179_149_134f n) n l2 S else F179_149_134b2 (F179_149_134f n) n l2 S
theorem F179_149_134e0 (n : Nat) (l2 : Int32) (S : mS) : F179_149_134f (n + 1) 0 l2 S = F179_149_134b0 (F179_149_134f n) n l2 S := if_pos rfl
theorem F179_149_134e2 (n : Nat) (l2 : Int32) (S : mS) : F179_149_134f (n + 1) 2 l2 S = F179_149_134b2 (F179_149_134f n) n l2 S := if_neg (by decide)
def F179_149_134 (n : Nat)  (S : mS) : Option (Unit × mS) := F179_149_134f n 0 0 S
set_option maxRecDepth 20000 in
set_option maxHeartbeats 2000000 in
theorem F179_149_134l {xs : Nat → Int32} {L9 d : Nat} {h : AmH} {Q : Option Value → AmH → Prop} {r0 : Unit} {S0 : mS} (hh : 172 ≤ h.2.1) (hQ : Q none (mst S0 h)) : ∀ n : Nat, (∀ (l2 : Int32) (S : mS), F179_149_134f n 0 l2 S = some (r0, S0) → Go (am_X xs L9) (d + 0) 179 0 [.ref 149, .ref 134, .float 0] [] (mst S h) Q) ∧ (∀ (l2 : Int32) (S : mS), F179_149_134f n 2 l2 S = some (r0, S0) → Go (am_X xs L9) (d + 0) 179 2 [.ref 149, .ref 134, .int l2] [] (mst S h) Q) := by
  intro n
  induction n with
  | zero => exact ⟨fun l2 S hf => (by cases hf), fun l2 S hf => (by cases hf)⟩
  | succ n ih =>
    refine ⟨?_, ?_⟩
    · intro l2 S hf
      rw [F179_149_134e0] at hf
      unfold F179_149_134b0 at hf
      refine r_iconst (v := 0) fe_179_0 (by decide) ?_
      refine r_istore_n fe_179_1 (Nat.le_of_ble_eq_true rfl) rfl ?_
      refine go_weak (L0 := [.ref 149, .ref 134, .int 0]) (lwk_c (Or.inl rfl) (lwk_c (Or.inl rfl) (lwk_c (Or.inl rfl) (lwk_rf [])))) ?_
      exact ih.2 0 S hf
    · intro l2 S hf
      rw [F179_149_134e2] at hf
      unfold F179_149_134b2 at hf
      refine r_iload_n fe_179_2 rfl ?_
      refine r_aload_n fe_179_3 rfl ?_
      refine r_alen (v := 6) fe_179_4 m_c_19 (m_lt hh (by decide)) (by decide) (by decide) ?_
      by_cases hb1 : am_ic .ge l2 6 = true
      · rw [if_pos hb1] at hf
        refine r_ic_t (t := 20) fe_179_5 (by decide) hb1 ?_
        refine r_vret fe_179_20 ?_
        exact dfin (P := fun _ T => Q none (mst T h)) hf hQ
      · rw [if_neg hb1] at hf
        refine r_ic_f (t := 20) fe_179_5 (by decide) (Bool.eq_false_iff.mpr hb1) ?_
        refine r_aload_n fe_179_8 rfl ?_
        refine r_iload_n fe_179_9 rfl ?_
        refine r_aload_n fe_179_10 rfl ?_
        refine r_iload_n fe_179_11 rfl ?_
        by_cases hg2 : ¬ (l2 < 0 ∨ 6 ≤ (l2).toNatClampNeg)
        rotate_left
        · rw [if_neg hg2] at hf; cases hf
        rw [if_pos hg2] at hf
        refine r_iald (j := (Int32.toNatClampNeg l2)) (v := S.2.1 19 (Int32.toNatClampNeg l2)) fe_179_12 m_c_19 (m_lt hh (by decide)) (fun z => hg2 (Or.inl z)) rfl (fun z => hg2 (Or.inr z)) rfl ?_
        by_cases hg3 : ¬ (l2 < 0 ∨ 6 ≤ (l2).toNatClampNeg)
        rotate_left
        · rw [if_neg hg3] at hf; cases hf
        rw [if_pos hg3] at hf
        refine mr_iast (k := 4) (n := 6) (j := (Int32.toNatClampNeg l2)) hh fe_179_13 rfl (by decide) (by decide) rfl rfl (fun z => hg3 (Or.inl z)) rfl (fun z => hg3 (Or.inr z)) ?_
        refine r_iinc (v := (l2 + 1)) fe_179_14 rfl rfl rfl ?_
        refine r_goto (t := 2) fe_179_17 (by decide) ?_
        refine go_weak (L0 := [.ref 149, .ref 134, .int (l2 + 1)]) (lwk_c (Or.inl rfl) (lwk_c (Or.inl rfl) (lwk_c (Or.inl rfl) (lwk_rf [])))) ?_
        exact ih.2 (l2 + 1) (m_sA S 4 (Int32.toNatClampNeg l2) (S.2.1 19 (Int32.toNatClampNeg l2))) hf
theorem F179_149_134c {xs : Nat → Int32} {L9 d n : Nat} {h : AmH} {Q : Option Value → AmH → Prop} {r0 : Unit} {S0 S : mS}  (hh : 172 ≤ h.2.1) (hf : F179_149_134 n  S = some (r0, S0)) (hQ : Q none (mst S0 h)) : Ca (am_X xs L9) (d + 0) 179 [.ref 149, .ref 134] (mst S h) Q := (F179_149_134l hh hQ n).1 0 S hf
def F179_150_135b0 (F : Nat → Int32 → mS → Option (Unit × mS)) (n : Nat) (l2 : Int32) (S : mS) : Option (Unit × mS) := F 2 0 S
def F179_150_135b2 (F : Nat → Int32 → mS → Option (Unit × mS)) (n : Nat) (l2 : Int32) (S : mS) : Option (Unit × mS) := (if am_ic .ge l2 6 = true then some ((), S) else (if ¬ (l2 < 0 ∨ 6 ≤ (l2).toNatClampNeg) then (if ¬ (l2 < 0 ∨ 6 ≤ (l2).toNatClampNeg) then F 2 (l2 + 1) (m_sA S 5 (Int32.toNatClampNeg l2) (S.2.1 20 (Int32.toNatClampNeg l2))) else none) else none))
def F179_150_135f : Nat → Nat → Int32 → mS → Option (Unit × mS)
  | 0, _, _, _ => none
  | n + 1, c, l2, S => if c = 0 then F179_150_135b0 (F179_150_135f n) n l2 S else F179_150_135b2 (F179_150_135f n) n l2 S
theorem F179_150_135e0 (n : Nat) (l2 : Int32) (S : mS) : F179_150_135f (n + 1) 0 l2 S = F179_150_135b0 (F179_150_135f n) n l2 S := if_pos rfl
theorem F179_150_135e2 (n : Nat) (l2 : Int32) (S : mS) : F179_150_135f (n + 1) 2 l2 S = F179_150_135b2 (F179_150_135f n) n l2 S := if_neg (by decide)
def F179_150_135 (n : Nat)  (S : mS) : Option (Unit × mS) := F179_150_135f n 0 0 S
set_option maxRecDepth 20000 in
set_option maxHeartbeats 2000000 in
theorem F179_150_135l {xs : Nat → Int32} {L9 d : Nat} {h : AmH} {Q : Option Value → AmH → Prop} {r0 : Unit} {S0 : mS} (hh : 172 ≤ h.2.1) (hQ : Q none (mst S0 h)) : ∀ n : Nat, (∀ (l2 : Int32) (S : mS), F179_150_135f n 0 l2 S = some (r0, S0) → Go (am_X xs L9) (d + 0) 179 0 [.ref 150, .ref 135, .float 0] [] (mst S h) Q) ∧ (∀ (l2 : Int32) (S : mS), F179_150_135f n 2 l2 S = some (r0, S0) → Go (am_X xs L9) (d + 0) 179 2 [.ref 150, .ref 135, .int l2] [] (mst S h) Q) := by
  intro n
  induction n with
  | zero => exact ⟨fun l2 S hf => (by cases hf), fun l2 S hf => (by cases hf)⟩
  | succ n ih =>
    refine ⟨?_, ?_⟩
    · intro l2 S hf
      rw [F179_150_135e0] at hf
      unfold F179_150_135b0 at hf
      refine r_iconst (v := 0) fe_179_0 (by decide) ?_
      refine r_istore_n fe_179_1 (Nat.le_of_ble_eq_true rfl) rfl ?_
      refine go_weak (L0 := [.ref 150, .ref 135, .int 0]) (lwk_c (Or.inl rfl) (lwk_c (Or.inl rfl) (lwk_c (Or.inl rfl) (lwk_rf [])))) ?_
      exact ih.2 0 S hf
    · intro l2 S hf
      rw [F179_150_135e2] at hf
      unfold F179_150_135b2 at hf
      refine r_iload_n fe_179_2 rfl ?_
      refine r_aload_n fe_179_3 rfl ?_
      refine r_alen (v := 6) fe_179_4 m_c_20 (m_lt hh (by decide)) (by decide) (by decide) ?_
      by_cases hb1 : am_ic .ge l2 6 = true
      · rw [if_pos hb1] at hf
        refine r_ic_t (t := 20) fe_179_5 (by decide) hb1 ?_
        refine r_vret fe_179_20 ?_
        exact dfin (P := fun _ T => Q none (mst T h)) hf hQ
      · rw [if_neg hb1] at hf
        refine r_ic_f (t := 20) fe_179_5 (by decide) (Bool.eq_false_iff.mpr hb1) ?_
        refine r_aload_n fe_179_8 rfl ?_
        refine r_iload_n fe_179_9 rfl ?_
        refine r_aload_n fe_179_10 rfl ?_
        refine r_iload_n fe_179_11 rfl ?_
        by_cases hg2 : ¬ (l2 < 0 ∨ 6 ≤ (l2).toNatClampNeg)
        rotate_left
        · rw [if_neg hg2] at hf; cases hf
        rw [if_pos hg2] at hf
        refine r_iald (j := (Int32.toNatClampNeg l2)) (v := S.2.1 20 (Int32.toNatClampNeg l2)) fe_179_12 m_c_20 (m_lt hh (by decide)) (fun z => hg2 (Or.inl z)) rfl (fun z => hg2 (Or.inr z)) rfl ?_
        by_cases hg3 : ¬ (l2 < 0 ∨ 6 ≤ (l2).toNatClampNeg)
        rotate_left
        · rw [if_neg hg3] at hf; cases hf
        rw [if_pos hg3] at hf
        refine mr_iast (k := 5) (n := 6) (j := (Int32.toNatClampNeg l2)) hh fe_179_13 rfl (by decide) (by decide) rfl rfl (fun z => hg3 (Or.inl z)) rfl (fun z => hg3 (Or.inr z)) ?_
        refine r_iinc (v := (l2 + 1)) fe_179_14 rfl rfl rfl ?_
        refine r_goto (t := 2) fe_179_17 (by decide) ?_
        refine go_weak (L0 := [.ref 150, .ref 135, .int (l2 + 1)]) (lwk_c (Or.inl rfl) (lwk_c (Or.inl rfl) (lwk_c (Or.inl rfl) (lwk_rf [])))) ?_
        exact ih.2 (l2 + 1) (m_sA S 5 (Int32.toNatClampNeg l2) (S.2.1 20 (Int32.toNatClampNeg l2))) hf
theorem F179_150_135c {xs : Nat → Int32} {L9 d n : Nat} {h : AmH} {Q : Option Value → AmH → Prop} {r0 : Unit} {S0 S : mS}  (hh : 172 ≤ h.2.1) (hf : F179_150_135 n  S = some (r0, S0)) (hQ : Q none (mst S0 h)) : Ca (am_X xs L9) (d + 0) 179 [.ref 150, .ref 135] (mst S h) Q := (F179_150_135l hh hQ n).1 0 S hf
def F179_151_137b0 (F : Nat → Int32 → mS → Option (Unit × mS)) (n : Nat) (l2 : Int32) (S : mS) : Option (Unit × mS) := F 2 0 S
def F179_151_137b2 (F : Nat → Int32 → mS → Option (Unit × mS)) (n : Nat) (l2 : Int32) (S : mS) : Option (Unit × mS) := (if am_ic .ge l2 4 = true then some ((), S) else (if ¬ (l2 < 0 ∨ 4 ≤ (l2).toNatClampNeg) then (if ¬ (l2 < 0 ∨ 4 ≤ (l2).toNatClampNeg) then F 2 (l2 + 1) (m_sA S 7 (Int32.toNatClampNeg l2) (S.2.1 21 (Int32.toNatClampNeg l2))) else none) else none))
def F179_151_137f : Nat → Nat → Int32 → mS → Option (Unit × mS)
  | 0, _, _, _ => none
  | n + 1, c, l2, S => if c = 0 then F179_151_137b0 (F179_151_137f n) n l2 S else F179_151_137b2 (F179_151_137f n) n l2 S
theorem F179_151_137e0 (n : Nat) (l2 : Int32) (S : mS) : F179_151_137f (n + 1) 0 l2 S = F179_151_137b0 (F179_151_137f n) n l2 S := if_pos rfl
theorem F179_151_137e2 (n : Nat) (l2 : Int32) (S : mS) : F179_151_137f (n + 1) 2 l2 S = F179_151_137b2 (F179_151_137f n) n l2 S := if_neg (by decide)
def F179_151_137 (n : Nat)  (S : mS) : Option (Unit × mS) := F179_151_137f n 0 0 S
set_option maxRecDepth 20000 in
set_option maxHeartbeats 2000000 in
theorem F179_151_137l {xs : Nat → Int32} {L9 d : Nat} {h : AmH} {Q : Option Value → AmH → Prop} {r0 : Unit} {S0 : mS} (hh : 172 ≤ h.2.1) (hQ : Q none (mst S0 h)) : ∀ n : Nat, (∀ (l2 : Int32) (S : mS), F179_151_137f n 0 l2 S = some (r0, S0) → Go (am_X xs L9) (d + 0) 179 0 [.ref 151, .ref 137, .float 0] [] (mst S h) Q) ∧ (∀ (l2 : Int32) (S : mS), F179_151_137f n 2 l2 S = some (r0, S0) → Go (am_X xs L9) (d + 0) 179 2 [.ref 151, .ref 137, .int l2] [] (mst S h) Q) := by
  intro n
  induction n with
  | zero => exact ⟨fun l2 S hf => (by cases hf), fun l2 S hf => (by cases hf)⟩
  | succ n ih =>
    refine ⟨?_, ?_⟩
    · intro l2 S hf
      rw [F179_151_137e0] at hf
      unfold F179_151_137b0 at hf
      refine r_iconst (v := 0) fe_179_0 (by decide) ?_
      refine r_istore_n fe_179_1 (Nat.le_of_ble_eq_true rfl) rfl ?_
      refine go_weak (L0 := [.ref 151, .ref 137, .int 0]) (lwk_c (Or.inl rfl) (lwk_c (Or.inl rfl) (lwk_c (Or.inl rfl) (lwk_rf [])))) ?_
      exact ih.2 0 S hf
    · intro l2 S hf
      rw [F179_151_137e2] at hf
      unfold F179_151_137b2 at hf
      refine r_iload_n fe_179_2 rfl ?_
      refine r_aload_n fe_179_3 rfl ?_
      refine r_alen (v := 4) fe_179_4 m_c_21 (m_lt hh (by decide)) (by decide) (by decide) ?_
      by_cases hb1 : am_ic .ge l2 4 = true
      · rw [if_pos hb1] at hf
        refine r_ic_t (t := 20) fe_179_5 (by decide) hb1 ?_
        refine r_vret fe_179_20 ?_
        exact dfin (P := fun _ T => Q none (mst T h)) hf hQ
      · rw [if_neg hb1] at hf
        refine r_ic_f (t := 20) fe_179_5 (by decide) (Bool.eq_false_iff.mpr hb1) ?_
        refine r_aload_n fe_179_8 rfl ?_
        refine r_iload_n fe_179_9 rfl ?_
        refine r_aload_n fe_179_10 rfl ?_
        refine r_iload_n fe_179_11 rfl ?_
        by_cases hg2 : ¬ (l2 < 0 ∨ 4 ≤ (l2).toNatClampNeg)
        rotate_left
        · rw [if_neg hg2] at hf; cases hf
        rw [if_pos hg2] at hf
        refine r_iald (j := (Int32.toNatClampNeg l2)) (v := S.2.1 21 (Int32.toNatClampNeg l2)) fe_179_12 m_c_21 (m_lt hh (by decide)) (fun z => hg2 (Or.inl z)) rfl (fun z => hg2 (Or.inr z)) rfl ?_
        by_cases hg3 : ¬ (l2 < 0 ∨ 4 ≤ (l2).toNatClampNeg)
        rotate_left
        · rw [if_neg hg3] at hf; cases hf
        rw [if_pos hg3] at hf
        refine mr_iast (k := 7) (n := 4) (j := (Int32.toNatClampNeg l2)) hh fe_179_13 rfl (by decide) (by decide) rfl rfl (fun z => hg3 (Or.inl z)) rfl (fun z => hg3 (Or.inr z)) ?_
        refine r_iinc (v := (l2 + 1)) fe_179_14 rfl rfl rfl ?_
        refine r_goto (t := 2) fe_179_17 (by decide) ?_
        refine go_weak (L0 := [.ref 151, .ref 137, .int (l2 + 1)]) (lwk_c (Or.inl rfl) (lwk_c (Or.inl rfl) (lwk_c (Or.inl rfl) (lwk_rf [])))) ?_
        exact ih.2 (l2 + 1) (m_sA S 7 (Int32.toNatClampNeg l2) (S.2.1 21 (Int32.toNatClampNeg l2))) hf
theorem F179_151_137c {xs : Nat → Int32} {L9 d n : Nat} {h : AmH} {Q : Option Value → AmH → Prop} {r0 : Unit} {S0 S : mS}  (hh : 172 ≤ h.2.1) (hf : F179_151_137 n  S = some (r0, S0)) (hQ : Q none (mst S0 h)) : Ca (am_X xs L9) (d + 0) 179 [.ref 151, .ref 137] (mst S h) Q := (F179_151_137l hh hQ n).1 0 S hf
def F179_152_138b0 (F : Nat → Int32 → mS → Option (Unit × mS)) (n : Nat) (l2 : Int32) (S : mS) : Option (Unit × mS) := F 2 0 S
def F179_152_138b2 (F : Nat → Int32 → mS → Option (Unit × mS)) (n : Nat) (l2 : Int32) (S : mS) : Option (Unit × mS) := (if am_ic .ge l2 13 = true then some ((), S) else (if ¬ (l2 < 0 ∨ 13 ≤ (l2).toNatClampNeg) then (if ¬ (l2 < 0 ∨ 13 ≤ (l2).toNatClampNeg) then F 2 (l2 + 1) (m_sA S 8 (Int32.toNatClampNeg l2) (S.2.1 22 (Int32.toNatClampNeg l2))) else none) else none))
def F179_152_138f : Nat → Nat → Int32 → mS → Option (Unit × mS)
  | 0, _, _, _ => none
  | n + 1, c, l2, S => if c = 0 then F179_152_138b0 (F179_152_138f n) n l2 S else F179_152_138b2 (F179_152_138f n) n l2 S
theorem F179_152_138e0 (n : Nat) (l2 : Int32) (S : mS) : F179_152_138f (n + 1) 0 l2 S = F179_152_138b0 (F179_152_138f n) n l2 S := if_pos rfl
theorem F179_152_138e2 (n : Nat) (l2 : Int32) (S : mS) : F179_152_138f (n + 1) 2 l2 S = F179_152_138b2 (F179_152_138f n) n l2 S := if_neg (by decide)
def F179_152_138 (n : Nat)  (S : mS) : Option (Unit × mS) := F179_152_138f n 0 0 S
set_option maxRecDepth 20000 in
set_option maxHeartbeats 2000000 in
theorem F179_152_138l {xs : Nat → Int32} {L9 d : Nat} {h : AmH} {Q : Option Value → AmH → Prop} {r0 : Unit} {S0 : mS} (hh : 172 ≤ h.2.1) (hQ : Q none (mst S0 h)) : ∀ n : Nat, (∀ (l2 : Int32) (S : mS), F179_152_138f n 0 l2 S = some (r0, S0) → Go (am_X xs L9) (d + 0) 179 0 [.ref 152, .ref 138, .float 0] [] (mst S h) Q) ∧ (∀ (l2 : Int32) (S : mS), F179_152_138f n 2 l2 S = some (r0, S0) → Go (am_X xs L9) (d + 0) 179 2 [.ref 152, .ref 138, .int l2] [] (mst S h) Q) := by
  intro n
  induction n with
  | zero => exact ⟨fun l2 S hf => (by cases hf), fun l2 S hf => (by cases hf)⟩
  | succ n ih =>
    refine ⟨?_, ?_⟩
    · intro l2 S hf
      rw [F179_152_138e0] at hf
      unfold F179_152_138b0 at hf
      refine r_iconst (v := 0) fe_179_0 (by decide) ?_
      refine r_istore_n fe_179_1 (Nat.le_of_ble_eq_true rfl) rfl ?_
      refine go_weak (L0 := [.ref 152, .ref 138, .int 0]) (lwk_c (Or.inl rfl) (lwk_c (Or.inl rfl) (lwk_c (Or.inl rfl) (lwk_rf [])))) ?_
      exact ih.2 0 S hf
    · intro l2 S hf
      rw [F179_152_138e2] at hf
      unfold F179_152_138b2 at hf
      refine r_iload_n fe_179_2 rfl ?_
      refine r_aload_n fe_179_3 rfl ?_
      refine r_alen (v := 13) fe_179_4 m_c_22 (m_lt hh (by decide)) (by decide) (by decide) ?_
      by_cases hb1 : am_ic .ge l2 13 = true
      · rw [if_pos hb1] at hf
        refine r_ic_t (t := 20) fe_179_5 (by decide) hb1 ?_
        refine r_vret fe_179_20 ?_
        exact dfin (P := fun _ T => Q none (mst T h)) hf hQ
      · rw [if_neg hb1] at hf
        refine r_ic_f (t := 20) fe_179_5 (by decide) (Bool.eq_false_iff.mpr hb1) ?_
        refine r_aload_n fe_179_8 rfl ?_
        refine r_iload_n fe_179_9 rfl ?_
        refine r_aload_n fe_179_10 rfl ?_
        refine r_iload_n fe_179_11 rfl ?_
        by_cases hg2 : ¬ (l2 < 0 ∨ 13 ≤ (l2).toNatClampNeg)
        rotate_left
        · rw [if_neg hg2] at hf; cases hf
        rw [if_pos hg2] at hf
        refine r_iald (j := (Int32.toNatClampNeg l2)) (v := S.2.1 22 (Int32.toNatClampNeg l2)) fe_179_12 m_c_22 (m_lt hh (by decide)) (fun z => hg2 (Or.inl z)) rfl (fun z => hg2 (Or.inr z)) rfl ?_
        by_cases hg3 : ¬ (l2 < 0 ∨ 13 ≤ (l2).toNatClampNeg)
        rotate_left
        · rw [if_neg hg3] at hf; cases hf
        rw [if_pos hg3] at hf
        refine mr_iast (k := 8) (n := 13) (j := (Int32.toNatClampNeg l2)) hh fe_179_13 rfl (by decide) (by decide) rfl rfl (fun z => hg3 (Or.inl z)) rfl (fun z => hg3 (Or.inr z)) ?_
        refine r_iinc (v := (l2 + 1)) fe_179_14 rfl rfl rfl ?_
        refine r_goto (t := 2) fe_179_17 (by decide) ?_
        refine go_weak (L0 := [.ref 152, .ref 138, .int (l2 + 1)]) (lwk_c (Or.inl rfl) (lwk_c (Or.inl rfl) (lwk_c (Or.inl rfl) (lwk_rf [])))) ?_
        exact ih.2 (l2 + 1) (m_sA S 8 (Int32.toNatClampNeg l2) (S.2.1 22 (Int32.toNatClampNeg l2))) hf
theorem F179_152_138c {xs : Nat → Int32} {L9 d n : Nat} {h : AmH} {Q : Option Value → AmH → Prop} {r0 : Unit} {S0 S : mS}  (hh : 172 ≤ h.2.1) (hf : F179_152_138 n  S = some (r0, S0)) (hQ : Q none (mst S0 h)) : Ca (am_X xs L9) (d + 0) 179 [.ref 152, .ref 138] (mst S h) Q := (F179_152_138l hh hQ n).1 0 S hf
def F179_153_139b0 (F : Nat → Int32 → mS → Option (Unit × mS)) (n : Nat) (l2 : Int32) (S : mS) : Option (Unit × mS) := F 2 0 S
def F179_153_139b2 (F : Nat → Int32 → mS → Option (Unit × mS)) (n : Nat) (l2 : Int32) (S : mS) : Option (Unit × mS) := (if am_ic .ge l2 13 = true then some ((), S) else (if ¬ (l2 < 0 ∨ 13 ≤ (l2).toNatClampNeg) then (if ¬ (l2 < 0 ∨ 13 ≤ (l2).toNatClampNeg) then F 2 (l2 + 1) (m_sA S 9 (Int32.toNatClampNeg l2) (S.2.1 23 (Int32.toNatClampNeg l2))) else none) else none))
def F179_153_139f : Nat → Nat → Int32 → mS → Option (Unit × mS)
  | 0, _, _, _ => none
  | n + 1, c, l2, S => if c = 0 then F179_153_139b0 (F179_153_139f n) n l2 S else F179_153_139b2 (F179_153_139f n) n l2 S
theorem F179_153_139e0 (n : Nat) (l2 : Int32) (S : mS) : F179_153_139f (n + 1) 0 l2 S = F179_153_139b0 (F179_153_139f n) n l2 S := if_pos rfl
theorem F179_153_139e2 (n : Nat) (l2 : Int32) (S : mS) : F179_153_139f (n + 1) 2 l2 S = F179_153_139b2 (F179_153_139f n) n l2 S := if_neg (by decide)
def F179_153_139 (n : Nat)  (S : mS) : Option (Unit × mS) := F179_153_139f n 0 0 S
set_option maxRecDepth 20000 in
set_option maxHeartbeats 2000000 in
theorem F179_153_139l {xs : Nat → Int32} {L9 d : Nat} {h : AmH} {Q : Option Value → AmH → Prop} {r0 : Unit} {S0 : mS} (hh : 172 ≤ h.2.1) (hQ : Q none (mst S0 h)) : ∀ n : Nat, (∀ (l2 : Int32) (S : mS), F179_153_139f n 0 l2 S = some (r0, S0) → Go (am_X xs L9) (d + 0) 179 0 [.ref 153, .ref 139, .float 0] [] (mst S h) Q) ∧ (∀ (l2 : Int32) (S : mS), F179_153_139f n 2 l2 S = some (r0, S0) → Go (am_X xs L9) (d + 0) 179 2 [.ref 153, .ref 139, .int l2] [] (mst S h) Q) := by
  intro n
  induction n with
  | zero => exact ⟨fun l2 S hf => (by cases hf), fun l2 S hf => (by cases hf)⟩
  | succ n ih =>
    refine ⟨?_, ?_⟩
    · intro l2 S hf
      rw [F179_153_139e0] at hf
      unfold F179_153_139b0 at hf
      refine r_iconst (v := 0) fe_179_0 (by decide) ?_
      refine r_istore_n fe_179_1 (Nat.le_of_ble_eq_true rfl) rfl ?_
      refine go_weak (L0 := [.ref 153, .ref 139, .int 0]) (lwk_c (Or.inl rfl) (lwk_c (Or.inl rfl) (lwk_c (Or.inl rfl) (lwk_rf [])))) ?_
      exact ih.2 0 S hf
    · intro l2 S hf
      rw [F179_153_139e2] at hf
      unfold F179_153_139b2 at hf
      refine r_iload_n fe_179_2 rfl ?_
      refine r_aload_n fe_179_3 rfl ?_
      refine r_alen (v := 13) fe_179_4 m_c_23 (m_lt hh (by decide)) (by decide) (by decide) ?_
      by_cases hb1 : am_ic .ge l2 13 = true
      · rw [if_pos hb1] at hf
        refine r_ic_t (t := 20) fe_179_5 (by decide) hb1 ?_
        refine r_vret fe_179_20 ?_
        exact dfin (P := fun _ T => Q none (mst T h)) hf hQ
      · rw [if_neg hb1] at hf
        refine r_ic_f (t := 20) fe_179_5 (by decide) (Bool.eq_false_iff.mpr hb1) ?_
        refine r_aload_n fe_179_8 rfl ?_
        refine r_iload_n fe_179_9 rfl ?_
        refine r_aload_n fe_179_10 rfl ?_
        refine r_iload_n fe_179_11 rfl ?_
        by_cases hg2 : ¬ (l2 < 0 ∨ 13 ≤ (l2).toNatClampNeg)
        rotate_left
        · rw [if_neg hg2] at hf; cases hf
        rw [if_pos hg2] at hf
        refine r_iald (j := (Int32.toNatClampNeg l2)) (v := S.2.1 23 (Int32.toNatClampNeg l2)) fe_179_12 m_c_23 (m_lt hh (by decide)) (fun z => hg2 (Or.inl z)) rfl (fun z => hg2 (Or.inr z)) rfl ?_
        by_cases hg3 : ¬ (l2 < 0 ∨ 13 ≤ (l2).toNatClampNeg)
        rotate_left
        · rw [if_neg hg3] at hf; cases hf
        rw [if_pos hg3] at hf
        refine mr_iast (k := 9) (n := 13) (j := (Int32.toNatClampNeg l2)) hh fe_179_13 rfl (by decide) (by decide) rfl rfl (fun z => hg3 (Or.inl z)) rfl (fun z => hg3 (Or.inr z)) ?_
        refine r_iinc (v := (l2 + 1)) fe_179_14 rfl rfl rfl ?_
        refine r_goto (t := 2) fe_179_17 (by decide) ?_
        refine go_weak (L0 := [.ref 153, .ref 139, .int (l2 + 1)]) (lwk_c (Or.inl rfl) (lwk_c (Or.inl rfl) (lwk_c (Or.inl rfl) (lwk_rf [])))) ?_
        exact ih.2 (l2 + 1) (m_sA S 9 (Int32.toNatClampNeg l2) (S.2.1 23 (Int32.toNatClampNeg l2))) hf
theorem F179_153_139c {xs : Nat → Int32} {L9 d n : Nat} {h : AmH} {Q : Option Value → AmH → Prop} {r0 : Unit} {S0 S : mS}  (hh : 172 ≤ h.2.1) (hf : F179_153_139 n  S = some (r0, S0)) (hQ : Q none (mst S0 h)) : Ca (am_X xs L9) (d + 0) 179 [.ref 153, .ref 139] (mst S h) Q := (F179_153_139l hh hQ n).1 0 S hf
def F179_154_140b0 (F : Nat → Int32 → mS → Option (Unit × mS)) (n : Nat) (l2 : Int32) (S : mS) : Option (Unit × mS) := F 2 0 S
def F179_154_140b2 (F : Nat → Int32 → mS → Option (Unit × mS)) (n : Nat) (l2 : Int32) (S : mS) : Option (Unit × mS) := (if am_ic .ge l2 13 = true then some ((), S) else (if ¬ (l2 < 0 ∨ 13 ≤ (l2).toNatClampNeg) then (if ¬ (l2 < 0 ∨ 13 ≤ (l2).toNatClampNeg) then F 2 (l2 + 1) (m_sA S 10 (Int32.toNatClampNeg l2) (S.2.1 24 (Int32.toNatClampNeg l2))) else none) else none))
def F179_154_140f : Nat → Nat → Int32 → mS → Option (Unit × mS)
  | 0, _, _, _ => none
  | n + 1, c, l2, S => if c = 0 then F179_154_140b0 (F179_154_140f n) n l2 S else F179_154_140b2 (F179_154_140f n) n l2 S
theorem F179_154_140e0 (n : Nat) (l2 : Int32) (S : mS) : F179_154_140f (n + 1) 0 l2 S = F179_154_140b0 (F179_154_140f n) n l2 S := if_pos rfl
theorem F179_154_140e2 (n : Nat) (l2 : Int32) (S : mS) : F179_154_140f (n + 1) 2 l2 S = F179_154_140b2 (F179_154_140f n) n l2 S := if_neg (by decide)
def F179_154_140 (n : Nat)  (S : mS) : Option (Unit × mS) := F179_154_140f n 0 0 S
set_option maxRecDepth 20000 in
set_option maxHeartbeats 2000000 in
theorem F179_154_140l {xs : Nat → Int32} {L9 d : Nat} {h : AmH} {Q : Option Value → AmH → Prop} {r0 : Unit} {S0 : mS} (hh : 172 ≤ h.2.1) (hQ : Q none (mst S0 h)) : ∀ n : Nat, (∀ (l2 : Int32) (S : mS), F179_154_140f n 0 l2 S = some (r0, S0) → Go (am_X xs L9) (d + 0) 179 0 [.ref 154, .ref 140, .float 0] [] (mst S h) Q) ∧ (∀ (l2 : Int32) (S : mS), F179_154_140f n 2 l2 S = some (r0, S0) → Go (am_X xs L9) (d + 0) 179 2 [.ref 154, .ref 140, .int l2] [] (mst S h) Q) := by
  intro n
  induction n with
  | zero => exact ⟨fun l2 S hf => (by cases hf), fun l2 S hf => (by cases hf)⟩
  | succ n ih =>
    refine ⟨?_, ?_⟩
    · intro l2 S hf
      rw [F179_154_140e0] at hf
      unfold F179_154_140b0 at hf
      refine r_iconst (v := 0) fe_179_0 (by decide) ?_
      refine r_istore_n fe_179_1 (Nat.le_of_ble_eq_true rfl) rfl ?_
      refine go_weak (L0 := [.ref 154, .ref 140, .int 0]) (lwk_c (Or.inl rfl) (lwk_c (Or.inl rfl) (lwk_c (Or.inl rfl) (lwk_rf [])))) ?_
      exact ih.2 0 S hf
    · intro l2 S hf
      rw [F179_154_140e2] at hf
      unfold F179_154_140b2 at hf
      refine r_iload_n fe_179_2 rfl ?_
      refine r_aload_n fe_179_3 rfl ?_
      refine r_alen (v := 13) fe_179_4 m_c_24 (m_lt hh (by decide)) (by decide) (by decide) ?_
      by_cases hb1 : am_ic .ge l2 13 = true
      · rw [if_pos hb1] at hf
        refine r_ic_t (t := 20) fe_179_5 (by decide) hb1 ?_
        refine r_vret fe_179_20 ?_
        exact dfin (P := fun _ T => Q none (mst T h)) hf hQ
      · rw [if_neg hb1] at hf
        refine r_ic_f (t := 20) fe_179_5 (by decide) (Bool.eq_false_iff.mpr hb1) ?_
        refine r_aload_n fe_179_8 rfl ?_
        refine r_iload_n fe_179_9 rfl ?_
        refine r_aload_n fe_179_10 rfl ?_
        refine r_iload_n fe_179_11 rfl ?_
        by_cases hg2 : ¬ (l2 < 0 ∨ 13 ≤ (l2).toNatClampNeg)
        rotate_left
        · rw [if_neg hg2] at hf; cases hf
        rw [if_pos hg2] at hf
        refine r_iald (j := (Int32.toNatClampNeg l2)) (v := S.2.1 24 (Int32.toNatClampNeg l2)) fe_179_12 m_c_24 (m_lt hh (by decide)) (fun z => hg2 (Or.inl z)) rfl (fun z => hg2 (Or.inr z)) rfl ?_
        by_cases hg3 : ¬ (l2 < 0 ∨ 13 ≤ (l2).toNatClampNeg)
        rotate_left
        · rw [if_neg hg3] at hf; cases hf
        rw [if_pos hg3] at hf
        refine mr_iast (k := 10) (n := 13) (j := (Int32.toNatClampNeg l2)) hh fe_179_13 rfl (by decide) (by decide) rfl rfl (fun z => hg3 (Or.inl z)) rfl (fun z => hg3 (Or.inr z)) ?_
        refine r_iinc (v := (l2 + 1)) fe_179_14 rfl rfl rfl ?_
        refine r_goto (t := 2) fe_179_17 (by decide) ?_
        refine go_weak (L0 := [.ref 154, .ref 140, .int (l2 + 1)]) (lwk_c (Or.inl rfl) (lwk_c (Or.inl rfl) (lwk_c (Or.inl rfl) (lwk_rf [])))) ?_
        exact ih.2 (l2 + 1) (m_sA S 10 (Int32.toNatClampNeg l2) (S.2.1 24 (Int32.toNatClampNeg l2))) hf
theorem F179_154_140c {xs : Nat → Int32} {L9 d n : Nat} {h : AmH} {Q : Option Value → AmH → Prop} {r0 : Unit} {S0 S : mS}  (hh : 172 ≤ h.2.1) (hf : F179_154_140 n  S = some (r0, S0)) (hQ : Q none (mst S0 h)) : Ca (am_X xs L9) (d + 0) 179 [.ref 154, .ref 140] (mst S h) Q := (F179_154_140l hh hQ n).1 0 S hf
def F179_155_141b0 (F : Nat → Int32 → mS → Option (Unit × mS)) (n : Nat) (l2 : Int32) (S : mS) : Option (Unit × mS) := F 2 0 S
def F179_155_141b2 (F : Nat → Int32 → mS → Option (Unit × mS)) (n : Nat) (l2 : Int32) (S : mS) : Option (Unit × mS) := (if am_ic .ge l2 13 = true then some ((), S) else (if ¬ (l2 < 0 ∨ 13 ≤ (l2).toNatClampNeg) then (if ¬ (l2 < 0 ∨ 13 ≤ (l2).toNatClampNeg) then F 2 (l2 + 1) (m_sA S 11 (Int32.toNatClampNeg l2) (S.2.1 25 (Int32.toNatClampNeg l2))) else none) else none))
def F179_155_141f : Nat → Nat → Int32 → mS → Option (Unit × mS)
  | 0, _, _, _ => none
  | n + 1, c, l2, S => if c = 0 then F179_155_141b0 (F179_155_141f n) n l2 S else F179_155_141b2 (F179_155_141f n) n l2 S
theorem F179_155_141e0 (n : Nat) (l2 : Int32) (S : mS) : F179_155_141f (n + 1) 0 l2 S = F179_155_141b0 (F179_155_141f n) n l2 S := if_pos rfl
theorem F179_155_141e2 (n : Nat) (l2 : Int32) (S : mS) : F179_155_141f (n + 1) 2 l2 S = F179_155_141b2 (F179_155_141f n) n l2 S := if_neg (by decide)
def F179_155_141 (n : Nat)  (S : mS) : Option (Unit × mS) := F179_155_141f n 0 0 S
set_option maxRecDepth 20000 in
set_option maxHeartbeats 2000000 in
theorem F179_155_141l {xs : Nat → Int32} {L9 d : Nat} {h : AmH} {Q : Option Value → AmH → Prop} {r0 : Unit} {S0 : mS} (hh : 172 ≤ h.2.1) (hQ : Q none (mst S0 h)) : ∀ n : Nat, (∀ (l2 : Int32) (S : mS), F179_155_141f n 0 l2 S = some (r0, S0) → Go (am_X xs L9) (d + 0) 179 0 [.ref 155, .ref 141, .float 0] [] (mst S h) Q) ∧ (∀ (l2 : Int32) (S : mS), F179_155_141f n 2 l2 S = some (r0, S0) → Go (am_X xs L9) (d + 0) 179 2 [.ref 155, .ref 141, .int l2] [] (mst S h) Q) := by
  intro n
  induction n with
  | zero => exact ⟨fun l2 S hf => (by cases hf), fun l2 S hf => (by cases hf)⟩
  | succ n ih =>
    refine ⟨?_, ?_⟩
    · intro l2 S hf
      rw [F179_155_141e0] at hf
      unfold F179_155_141b0 at hf
      refine r_iconst (v := 0) fe_179_0 (by decide) ?_
      refine r_istore_n fe_179_1 (Nat.le_of_ble_eq_true rfl) rfl ?_
      refine go_weak (L0 := [.ref 155, .ref 141, .int 0]) (lwk_c (Or.inl rfl) (lwk_c (Or.inl rfl) (lwk_c (Or.inl rfl) (lwk_rf [])))) ?_
      exact ih.2 0 S hf
    · intro l2 S hf
      rw [F179_155_141e2] at hf
      unfold F179_155_141b2 at hf
      refine r_iload_n fe_179_2 rfl ?_
      refine r_aload_n fe_179_3 rfl ?_
      refine r_alen (v := 13) fe_179_4 m_c_25 (m_lt hh (by decide)) (by decide) (by decide) ?_
      by_cases hb1 : am_ic .ge l2 13 = true
      · rw [if_pos hb1] at hf
        refine r_ic_t (t := 20) fe_179_5 (by decide) hb1 ?_
        refine r_vret fe_179_20 ?_
        exact dfin (P := fun _ T => Q none (mst T h)) hf hQ
      · rw [if_neg hb1] at hf
        refine r_ic_f (t := 20) fe_179_5 (by decide) (Bool.eq_false_iff.mpr hb1) ?_
        refine r_aload_n fe_179_8 rfl ?_
        refine r_iload_n fe_179_9 rfl ?_
        refine r_aload_n fe_179_10 rfl ?_
        refine r_iload_n fe_179_11 rfl ?_
        by_cases hg2 : ¬ (l2 < 0 ∨ 13 ≤ (l2).toNatClampNeg)
        rotate_left
        · rw [if_neg hg2] at hf; cases hf
        rw [if_pos hg2] at hf
        refine r_iald (j := (Int32.toNatClampNeg l2)) (v := S.2.1 25 (Int32.toNatClampNeg l2)) fe_179_12 m_c_25 (m_lt hh (by decide)) (fun z => hg2 (Or.inl z)) rfl (fun z => hg2 (Or.inr z)) rfl ?_
        by_cases hg3 : ¬ (l2 < 0 ∨ 13 ≤ (l2).toNatClampNeg)
        rotate_left
        · rw [if_neg hg3] at hf; cases hf
        rw [if_pos hg3] at hf
        refine mr_iast (k := 11) (n := 13) (j := (Int32.toNatClampNeg l2)) hh fe_179_13 rfl (by decide) (by decide) rfl rfl (fun z => hg3 (Or.inl z)) rfl (fun z => hg3 (Or.inr z)) ?_
        refine r_iinc (v := (l2 + 1)) fe_179_14 rfl rfl rfl ?_
        refine r_goto (t := 2) fe_179_17 (by decide) ?_
        refine go_weak (L0 := [.ref 155, .ref 141, .int (l2 + 1)]) (lwk_c (Or.inl rfl) (lwk_c (Or.inl rfl) (lwk_c (Or.inl rfl) (lwk_rf [])))) ?_
        exact ih.2 (l2 + 1) (m_sA S 11 (Int32.toNatClampNeg l2) (S.2.1 25 (Int32.toNatClampNeg l2))) hf
theorem F179_155_141c {xs : Nat → Int32} {L9 d n : Nat} {h : AmH} {Q : Option Value → AmH → Prop} {r0 : Unit} {S0 S : mS}  (hh : 172 ≤ h.2.1) (hf : F179_155_141 n  S = some (r0, S0)) (hQ : Q none (mst S0 h)) : Ca (am_X xs L9) (d + 0) 179 [.ref 155, .ref 141] (mst S h) Q := (F179_155_141l hh hQ n).1 0 S hf
def F157b0 (F : Nat → Int32 → mS → Option (Int32 × mS)) (n : Nat) (l1 : Int32) (S : mS) : Option (Int32 × mS) := ((F158 n  S).bind (fun z1 => (if am_if .le (z1.2.1 28) = true then F 21 0 z1.2 else some (((-2) - (z1.2.1 28)), z1.2))))
def F157b21 (F : Nat → Int32 → mS → Option (Int32 × mS)) (n : Nat) (l1 : Int32) (S : mS) : Option (Int32 × mS) := (if am_ic .ge l1 7 = true then ((F179_147_132 n  S).bind (fun z5 => ((F179_148_133 n  z5.2).bind (fun z7 => ((F179_149_134 n  z7.2).bind (fun z9 => ((F179_150_135 n  z9.2).bind (fun z11 => ((F179_151_137 n  z11.2).bind (fun z13 => ((F179_152_138 n  z13.2).bind (fun z15 => ((F179_153_139 n  z15.2).bind (fun z17 => ((F179_154_140 n  z17.2).bind (fun z19 => ((F179_155_141 n  z19.2).bind (fun z21 => F 155 0 z21.2)))))))))))))))))) else (if am_ic .ge l1 5 = true then (if ¬ (l1 < 0 ∨ 9 ≤ (l1).toNatClampNeg) then F 21 (l1 + 1) (m_sA S 1 (Int32.toNatClampNeg l1) 0) else none) else (if ¬ (l1 < 0 ∨ 5 ≤ (l1).toNatClampNeg) then (if ¬ (l1 < 0 ∨ 9 ≤ (l1).toNatClampNeg) then F 21 (l1 + 1) (m_sA S 1 (Int32.toNatClampNeg l1) (S.2.1 16 (Int32.toNatClampNeg l1))) else none) else none)))
def F157b155 (F : Nat → Int32 → mS → Option (Int32 × mS)) (n : Nat) (l1 : Int32) (S : mS) : Option (Int32 × mS) := (if am_ic .ge l1 6 = true then F 176 0 S else (if ¬ (l1 < 0 ∨ 6 ≤ (l1).toNatClampNeg) then F 155 (l1 + 1) (m_sA S 6 (Int32.toNatClampNeg l1) 0) else none))
def F157b176 (F : Nat → Int32 → mS → Option (Int32 × mS)) (n : Nat) (l1 : Int32) (S : mS) : Option (Int32 × mS) := (if am_ic .ge l1 13 = true then some (((m_sI S 47 0).2.1 1 4), (m_sI S 47 0)) else (if ¬ (l1 < 0 ∨ 13 ≤ (l1).toNatClampNeg) then (if ¬ (l1 < 0 ∨ 13 ≤ (l1).toNatClampNeg) then (if ¬ (l1 < 0 ∨ 13 ≤ (l1).toNatClampNeg) then (if ¬ (l1 < 0 ∨ 13 ≤ (l1).toNatClampNeg) then F 176 (l1 + 1) (m_sA (m_sA (m_sA (m_sA S 12 (Int32.toNatClampNeg l1) 0) 13 (Int32.toNatClampNeg l1) 0) 14 (Int32.toNatClampNeg l1) (-1)) 15 (Int32.toNatClampNeg l1) (-1)) else none) else none) else none) else none))
def F157f : Nat → Nat → Int32 → mS → Option (Int32 × mS)
  | 0, _, _, _ => none
  | n + 1, c, l1, S => if c = 0 then F157b0 (F157f n) n l1 S else if c = 21 then F157b21 (F157f n) n l1 S else if c = 155 then F157b155 (F157f n) n l1 S else F157b176 (F157f n) n l1 S
theorem F157e0 (n : Nat) (l1 : Int32) (S : mS) : F157f (n + 1) 0 l1 S = F157b0 (F157f n) n l1 S := if_pos rfl
theorem F157e21 (n : Nat) (l1 : Int32) (S : mS) : F157f (n + 1) 21 l1 S = F157b21 (F157f n) n l1 S := (if_neg (by decide)).trans (if_pos rfl)
theorem F157e155 (n : Nat) (l1 : Int32) (S : mS) : F157f (n + 1) 155 l1 S = F157b155 (F157f n) n l1 S := (if_neg (by decide)).trans ((if_neg (by decide)).trans (if_pos rfl))
theorem F157e176 (n : Nat) (l1 : Int32) (S : mS) : F157f (n + 1) 176 l1 S = F157b176 (F157f n) n l1 S := (if_neg (by decide)).trans ((if_neg (by decide)).trans (if_neg (by decide)))
def F157 (n : Nat)  (S : mS) : Option (Int32 × mS) := F157f n 0 0 S
set_option maxRecDepth 20000 in
set_option maxHeartbeats 2000000 in
theorem F157l {xs : Nat → Int32} {L9 d : Nat} {h : AmH} {Q : Option Value → AmH → Prop} {r0 : Int32} {S0 : mS} (hh : 172 ≤ h.2.1) (hQ : Q (some (.int r0)) (mst S0 h)) : ∀ n : Nat, (∀ (l1 : Int32) (S : mS), F157f n 0 l1 S = some (r0, S0) → Go (am_X xs L9) (d + 9) 157 0 [.ref 130, .float 0] [] (mst S h) Q) ∧ (∀ (l1 : Int32) (S : mS), F157f n 21 l1 S = some (r0, S0) → Go (am_X xs L9) (d + 9) 157 21 [.ref 130, .int l1] [] (mst S h) Q) ∧ (∀ (l1 : Int32) (S : mS), F157f n 155 l1 S = some (r0, S0) → Go (am_X xs L9) (d + 9) 157 155 [.ref 130, .int l1] [] (mst S h) Q) ∧ (∀ (l1 : Int32) (S : mS), F157f n 176 l1 S = some (r0, S0) → Go (am_X xs L9) (d + 9) 157 176 [.ref 130, .int l1] [] (mst S h) Q) := by
  intro n
  induction n with
  | zero => exact ⟨fun l1 S hf => (by cases hf), fun l1 S hf => (by cases hf), fun l1 S hf => (by cases hf), fun l1 S hf => (by cases hf)⟩
  | succ n ih =>
    refine ⟨?_, ?_, ?_, ?_⟩
    · intro l1 S hf
      rw [F157e0] at hf
      unfold F157b0 at hf
      refine r_aload_n fe_157_0 rfl ?_
      refine r_callV (as := []) (r := []) fe_157_1 lm_12_339 md_158 rfl rfl (Nat.le_of_ble_eq_true rfl) m_c_0 (m_lt hh (by decide)) (Nat.le_of_ble_eq_true rfl) (Nat.le_of_ble_eq_true rfl) ?_
      cases hc2 : F158 n  S with
      | none => rw [hc2] at hf; cases hf
      | some z1 =>
        rw [hc2, Option.bind_some] at hf
        refine F158c (r0 := z1.1) (S0 := z1.2) hh hc2 ?_
        refine r_aload_n fe_157_4 rfl ?_
        refine mr_getf hh fe_157_5 lf_12_185 rfl ?_
        by_cases hb3 : am_if .le (z1.2.1 28) = true
        · rw [if_pos hb3] at hf
          refine r_if_t (t := 19) fe_157_8 (by decide) hb3 ?_
          refine r_iconst (v := 0) fe_157_19 (by decide) ?_
          refine r_istore_n fe_157_20 (Nat.le_of_ble_eq_true rfl) rfl ?_
          refine go_weak (L0 := [.ref 130, .int 0]) (lwk_c (Or.inl rfl) (lwk_c (Or.inl rfl) (lwk_rf []))) ?_
          exact ih.2.1 0 z1.2 hf
        · rw [if_neg hb3] at hf
          refine r_if_f (t := 19) fe_157_8 (by decide) (Bool.eq_false_iff.mpr hb3) ?_
          refine r_bipush (v := -2) fe_157_11 (by decide) ?_
          refine r_aload_n fe_157_13 rfl ?_
          refine mr_getf hh fe_157_14 lf_12_185 rfl ?_
          refine r_isub (v := ((-2) - (z1.2.1 28))) fe_157_17 rfl ?_
          refine r_iret fe_157_18 ⟨rfl, by decide⟩ ?_
          exact dfin (P := fun r T => Q (some (.int r)) (mst T h)) hf hQ
    · intro l1 S hf
      rw [F157e21] at hf
      unfold F157b21 at hf
      refine r_iload_n fe_157_21 rfl ?_
      refine r_bipush (v := 7) fe_157_22 (by decide) ?_
      by_cases hb4 : am_ic .ge l1 7 = true
      · rw [if_pos hb4] at hf
        refine r_ic_t (t := 54) fe_157_24 (by decide) hb4 ?_
        refine r_aload_n fe_157_54 rfl ?_
        refine mr_getf hh fe_157_55 lf_12_58 rfl ?_
        refine r_aload_n fe_157_58 rfl ?_
        refine mr_getf hh fe_157_59 lf_12_13 rfl ?_
        refine r_callS (as := [.ref 147, .ref 132]) (r := []) fe_157_62 lm_12_342 md_179 rfl rfl (Nat.le_of_ble_eq_true rfl) (Nat.le_of_ble_eq_true rfl) (Nat.le_of_ble_eq_true rfl) ?_
        cases hc6 : F179_147_132 n  S with
        | none => rw [hc6] at hf; cases hf
        | some z5 =>
          rw [hc6, Option.bind_some] at hf
          refine F179_147_132c (r0 := z5.1) (S0 := z5.2) hh hc6 ?_
          refine r_aload_n fe_157_65 rfl ?_
          refine mr_getf hh fe_157_66 lf_12_61 rfl ?_
          refine r_aload_n fe_157_69 rfl ?_
          refine mr_getf hh fe_157_70 lf_12_16 rfl ?_
          refine r_callS (as := [.ref 148, .ref 133]) (r := []) fe_157_73 lm_12_342 md_179 rfl rfl (Nat.le_of_ble_eq_true rfl) (Nat.le_of_ble_eq_true rfl) (Nat.le_of_ble_eq_true rfl) ?_
          cases hc8 : F179_148_133 n  z5.2 with
          | none => rw [hc8] at hf; cases hf
          | some z7 =>
            rw [hc8, Option.bind_some] at hf
            refine F179_148_133c (r0 := z7.1) (S0 := z7.2) hh hc8 ?_
            refine r_aload_n fe_157_76 rfl ?_
            refine mr_getf hh fe_157_77 lf_12_64 rfl ?_
            refine r_aload_n fe_157_80 rfl ?_
            refine mr_getf hh fe_157_81 lf_12_19 rfl ?_
            refine r_callS (as := [.ref 149, .ref 134]) (r := []) fe_157_84 lm_12_342 md_179 rfl rfl (Nat.le_of_ble_eq_true rfl) (Nat.le_of_ble_eq_true rfl) (Nat.le_of_ble_eq_true rfl) ?_
            cases hc10 : F179_149_134 n  z7.2 with
            | none => rw [hc10] at hf; cases hf
            | some z9 =>
              rw [hc10, Option.bind_some] at hf
              refine F179_149_134c (r0 := z9.1) (S0 := z9.2) hh hc10 ?_
              refine r_aload_n fe_157_87 rfl ?_
              refine mr_getf hh fe_157_88 lf_12_67 rfl ?_
              refine r_aload_n fe_157_91 rfl ?_
              refine mr_getf hh fe_157_92 lf_12_22 rfl ?_
              refine r_callS (as := [.ref 150, .ref 135]) (r := []) fe_157_95 lm_12_342 md_179 rfl rfl (Nat.le_of_ble_eq_true rfl) (Nat.le_of_ble_eq_true rfl) (Nat.le_of_ble_eq_true rfl) ?_
              cases hc12 : F179_150_135 n  z9.2 with
              | none => rw [hc12] at hf; cases hf
              | some z11 =>
                rw [hc12, Option.bind_some] at hf
                refine F179_150_135c (r0 := z11.1) (S0 := z11.2) hh hc12 ?_
                refine r_aload_n fe_157_98 rfl ?_
                refine mr_getf hh fe_157_99 lf_12_70 rfl ?_
                refine r_aload_n fe_157_102 rfl ?_
                refine mr_getf hh fe_157_103 lf_12_28 rfl ?_
                refine r_callS (as := [.ref 151, .ref 137]) (r := []) fe_157_106 lm_12_342 md_179 rfl rfl (Nat.le_of_ble_eq_true rfl) (Nat.le_of_ble_eq_true rfl) (Nat.le_of_ble_eq_true rfl) ?_
                cases hc14 : F179_151_137 n  z11.2 with
                | none => rw [hc14] at hf; cases hf
                | some z13 =>
                  rw [hc14, Option.bind_some] at hf
                  refine F179_151_137c (r0 := z13.1) (S0 := z13.2) hh hc14 ?_
                  refine r_aload_n fe_157_109 rfl ?_
                  refine mr_getf hh fe_157_110 lf_12_73 rfl ?_
                  refine r_aload_n fe_157_113 rfl ?_
                  refine mr_getf hh fe_157_114 lf_12_31 rfl ?_
                  refine r_callS (as := [.ref 152, .ref 138]) (r := []) fe_157_117 lm_12_342 md_179 rfl rfl (Nat.le_of_ble_eq_true rfl) (Nat.le_of_ble_eq_true rfl) (Nat.le_of_ble_eq_true rfl) ?_
                  cases hc16 : F179_152_138 n  z13.2 with
                  | none => rw [hc16] at hf; cases hf
                  | some z15 =>
                    rw [hc16, Option.bind_some] at hf
                    refine F179_152_138c (r0 := z15.1) (S0 := z15.2) hh hc16 ?_
                    refine r_aload_n fe_157_120 rfl ?_
                    refine mr_getf hh fe_157_121 lf_12_76 rfl ?_
                    refine r_aload_n fe_157_124 rfl ?_
                    refine mr_getf hh fe_157_125 lf_12_34 rfl ?_
                    refine r_callS (as := [.ref 153, .ref 139]) (r := []) fe_157_128 lm_12_342 md_179 rfl rfl (Nat.le_of_ble_eq_true rfl) (Nat.le_of_ble_eq_true rfl) (Nat.le_of_ble_eq_true rfl) ?_
                    cases hc18 : F179_153_139 n  z15.2 with
                    | none => rw [hc18] at hf; cases hf
                    | some z17 =>
                      rw [hc18, Option.bind_some] at hf
                      refine F179_153_139c (r0 := z17.1) (S0 := z17.2) hh hc18 ?_
                      refine r_aload_n fe_157_131 rfl ?_
                      refine mr_getf hh fe_157_132 lf_12_79 rfl ?_
                      refine r_aload_n fe_157_135 rfl ?_
                      refine mr_getf hh fe_157_136 lf_12_37 rfl ?_
                      refine r_callS (as := [.ref 154, .ref 140]) (r := []) fe_157_139 lm_12_342 md_179 rfl rfl (Nat.le_of_ble_eq_true rfl) (Nat.le_of_ble_eq_true rfl) (Nat.le_of_ble_eq_true rfl) ?_
                      cases hc20 : F179_154_140 n  z17.2 with
                      | none => rw [hc20] at hf; cases hf
                      | some z19 =>
                        rw [hc20, Option.bind_some] at hf
                        refine F179_154_140c (r0 := z19.1) (S0 := z19.2) hh hc20 ?_
                        refine r_aload_n fe_157_142 rfl ?_
                        refine mr_getf hh fe_157_143 lf_12_82 rfl ?_
                        refine r_aload_n fe_157_146 rfl ?_
                        refine mr_getf hh fe_157_147 lf_12_40 rfl ?_
                        refine r_callS (as := [.ref 155, .ref 141]) (r := []) fe_157_150 lm_12_342 md_179 rfl rfl (Nat.le_of_ble_eq_true rfl) (Nat.le_of_ble_eq_true rfl) (Nat.le_of_ble_eq_true rfl) ?_
                        cases hc22 : F179_155_141 n  z19.2 with
                        | none => rw [hc22] at hf; cases hf
                        | some z21 =>
                          rw [hc22, Option.bind_some] at hf
                          refine F179_155_141c (r0 := z21.1) (S0 := z21.2) hh hc22 ?_
                          refine r_iconst (v := 0) fe_157_153 (by decide) ?_
                          refine r_istore_n fe_157_154 (Nat.le_of_ble_eq_true rfl) rfl ?_
                          refine go_weak (L0 := [.ref 130, .int 0]) (lwk_c (Or.inl rfl) (lwk_c (Or.inl rfl) (lwk_rf []))) ?_
                          exact ih.2.2.1 0 z21.2 hf
      · rw [if_neg hb4] at hf
        refine r_ic_f (t := 54) fe_157_24 (by decide) (Bool.eq_false_iff.mpr hb4) ?_
        refine r_aload_n fe_157_27 rfl ?_
        refine mr_getf hh fe_157_28 lf_12_9 rfl ?_
        refine r_iload_n fe_157_31 rfl ?_
        refine r_iload_n fe_157_32 rfl ?_
        refine r_iconst (v := 5) fe_157_33 (by decide) ?_
        by_cases hb23 : am_ic .ge l1 5 = true
        · rw [if_pos hb23] at hf
          refine r_ic_t (t := 46) fe_157_34 (by decide) hb23 ?_
          refine r_iconst (v := 0) fe_157_46 (by decide) ?_
          by_cases hg24 : ¬ (l1 < 0 ∨ 9 ≤ (l1).toNatClampNeg)
          rotate_left
          · rw [if_neg hg24] at hf; cases hf
          rw [if_pos hg24] at hf
          refine mr_iast (k := 1) (n := 9) (j := (Int32.toNatClampNeg l1)) hh fe_157_47 rfl (by decide) (by decide) rfl rfl (fun z => hg24 (Or.inl z)) rfl (fun z => hg24 (Or.inr z)) ?_
          refine r_iinc (v := (l1 + 1)) fe_157_48 rfl rfl rfl ?_
          refine r_goto (t := 21) fe_157_51 (by decide) ?_
          refine go_weak (L0 := [.ref 130, .int (l1 + 1)]) (lwk_c (Or.inl rfl) (lwk_c (Or.inl rfl) (lwk_rf []))) ?_
          exact ih.2.1 (l1 + 1) (m_sA S 1 (Int32.toNatClampNeg l1) 0) hf
        · rw [if_neg hb23] at hf
          refine r_ic_f (t := 46) fe_157_34 (by decide) (Bool.eq_false_iff.mpr hb23) ?_
          refine r_aload_n fe_157_37 rfl ?_
          refine mr_getf hh fe_157_38 lf_12_55 rfl ?_
          refine r_iload_n fe_157_41 rfl ?_
          by_cases hg25 : ¬ (l1 < 0 ∨ 5 ≤ (l1).toNatClampNeg)
          rotate_left
          · rw [if_neg hg25] at hf; cases hf
          rw [if_pos hg25] at hf
          refine r_iald (j := (Int32.toNatClampNeg l1)) (v := S.2.1 16 (Int32.toNatClampNeg l1)) fe_157_42 m_c_16 (m_lt hh (by decide)) (fun z => hg25 (Or.inl z)) rfl (fun z => hg25 (Or.inr z)) rfl ?_
          refine r_goto (t := 47) fe_157_43 (by decide) ?_
          by_cases hg26 : ¬ (l1 < 0 ∨ 9 ≤ (l1).toNatClampNeg)
          rotate_left
          · rw [if_neg hg26] at hf; cases hf
          rw [if_pos hg26] at hf
          refine mr_iast (k := 1) (n := 9) (j := (Int32.toNatClampNeg l1)) hh fe_157_47 rfl (by decide) (by decide) rfl rfl (fun z => hg26 (Or.inl z)) rfl (fun z => hg26 (Or.inr z)) ?_
          refine r_iinc (v := (l1 + 1)) fe_157_48 rfl rfl rfl ?_
          refine r_goto (t := 21) fe_157_51 (by decide) ?_
          refine go_weak (L0 := [.ref 130, .int (l1 + 1)]) (lwk_c (Or.inl rfl) (lwk_c (Or.inl rfl) (lwk_rf []))) ?_
          exact ih.2.1 (l1 + 1) (m_sA S 1 (Int32.toNatClampNeg l1) (S.2.1 16 (Int32.toNatClampNeg l1))) hf
    · intro l1 S hf
      rw [F157e155] at hf
      unfold F157b155 at hf
      refine r_iload_n fe_157_155 rfl ?_
      refine r_bipush (v := 6) fe_157_156 (by decide) ?_
      by_cases hb27 : am_ic .ge l1 6 = true
      · rw [if_pos hb27] at hf
        refine r_ic_t (t := 174) fe_157_158 (by decide) hb27 ?_
        refine r_iconst (v := 0) fe_157_174 (by decide) ?_
        refine r_istore_n fe_157_175 (Nat.le_of_ble_eq_true rfl) rfl ?_
        refine go_weak (L0 := [.ref 130, .int 0]) (lwk_c (Or.inl rfl) (lwk_c (Or.inl rfl) (lwk_rf []))) ?_
        exact ih.2.2.2 0 S hf
      · rw [if_neg hb27] at hf
        refine r_ic_f (t := 174) fe_157_158 (by decide) (Bool.eq_false_iff.mpr hb27) ?_
        refine r_aload_n fe_157_161 rfl ?_
        refine mr_getf hh fe_157_162 lf_12_25 rfl ?_
        refine r_iload_n fe_157_165 rfl ?_
        refine r_iconst (v := 0) fe_157_166 (by decide) ?_
        by_cases hg28 : ¬ (l1 < 0 ∨ 6 ≤ (l1).toNatClampNeg)
        rotate_left
        · rw [if_neg hg28] at hf; cases hf
        rw [if_pos hg28] at hf
        refine mr_iast (k := 6) (n := 6) (j := (Int32.toNatClampNeg l1)) hh fe_157_167 rfl (by decide) (by decide) rfl rfl (fun z => hg28 (Or.inl z)) rfl (fun z => hg28 (Or.inr z)) ?_
        refine r_iinc (v := (l1 + 1)) fe_157_168 rfl rfl rfl ?_
        refine r_goto (t := 155) fe_157_171 (by decide) ?_
        refine go_weak (L0 := [.ref 130, .int (l1 + 1)]) (lwk_c (Or.inl rfl) (lwk_c (Or.inl rfl) (lwk_rf []))) ?_
        exact ih.2.2.1 (l1 + 1) (m_sA S 6 (Int32.toNatClampNeg l1) 0) hf
    · intro l1 S hf
      rw [F157e176] at hf
      unfold F157b176 at hf
      refine r_iload_n fe_157_176 rfl ?_
      refine r_bipush (v := 13) fe_157_177 (by decide) ?_
      by_cases hb29 : am_ic .ge l1 13 = true
      · rw [if_pos hb29] at hf
        refine r_ic_t (t := 216) fe_157_179 (by decide) hb29 ?_
        refine r_aload_n fe_157_216 rfl ?_
        refine r_iconst (v := 0) fe_157_217 (by decide) ?_
        refine mr_putf hh fe_157_218 lf_12_346 (m_f_47 _ _) (by decide) rfl rfl rfl ?_
        refine r_aload_n fe_157_221 rfl ?_
        refine mr_getf hh fe_157_222 lf_12_9 rfl ?_
        refine r_iconst (v := 4) fe_157_225 (by decide) ?_
        refine r_iald (j := 4) (v := (m_sI S 47 0).2.1 1 4) fe_157_226 m_c_1 (m_lt hh (by decide)) (by decide) (by decide) (by decide) rfl ?_
        refine r_iret fe_157_227 ⟨rfl, by decide⟩ ?_
        exact dfin (P := fun r T => Q (some (.int r)) (mst T h)) hf hQ
      · rw [if_neg hb29] at hf
        refine r_ic_f (t := 216) fe_157_179 (by decide) (Bool.eq_false_iff.mpr hb29) ?_
        refine r_aload_n fe_157_182 rfl ?_
        refine mr_getf hh fe_157_183 lf_12_43 rfl ?_
        refine r_iload_n fe_157_186 rfl ?_
        refine r_iconst (v := 0) fe_157_187 (by decide) ?_
        by_cases hg30 : ¬ (l1 < 0 ∨ 13 ≤ (l1).toNatClampNeg)
        rotate_left
        · rw [if_neg hg30] at hf; cases hf
        rw [if_pos hg30] at hf
        refine mr_iast (k := 12) (n := 13) (j := (Int32.toNatClampNeg l1)) hh fe_157_188 rfl (by decide) (by decide) rfl rfl (fun z => hg30 (Or.inl z)) rfl (fun z => hg30 (Or.inr z)) ?_
        refine r_aload_n fe_157_189 rfl ?_
        refine mr_getf hh fe_157_190 lf_12_46 rfl ?_
        refine r_iload_n fe_157_193 rfl ?_
        refine r_iconst (v := 0) fe_157_194 (by decide) ?_
        by_cases hg31 : ¬ (l1 < 0 ∨ 13 ≤ (l1).toNatClampNeg)
        rotate_left
        · rw [if_neg hg31] at hf; cases hf
        rw [if_pos hg31] at hf
        refine mr_iast (k := 13) (n := 13) (j := (Int32.toNatClampNeg l1)) hh fe_157_195 rfl (by decide) (by decide) rfl rfl (fun z => hg31 (Or.inl z)) rfl (fun z => hg31 (Or.inr z)) ?_
        refine r_aload_n fe_157_196 rfl ?_
        refine mr_getf hh fe_157_197 lf_12_49 rfl ?_
        refine r_iload_n fe_157_200 rfl ?_
        refine r_iconst (v := -1) fe_157_201 (by decide) ?_
        by_cases hg32 : ¬ (l1 < 0 ∨ 13 ≤ (l1).toNatClampNeg)
        rotate_left
        · rw [if_neg hg32] at hf; cases hf
        rw [if_pos hg32] at hf
        refine mr_iast (k := 14) (n := 13) (j := (Int32.toNatClampNeg l1)) hh fe_157_202 rfl (by decide) (by decide) rfl rfl (fun z => hg32 (Or.inl z)) rfl (fun z => hg32 (Or.inr z)) ?_
        refine r_aload_n fe_157_203 rfl ?_
        refine mr_getf hh fe_157_204 lf_12_52 rfl ?_
        refine r_iload_n fe_157_207 rfl ?_
        refine r_iconst (v := -1) fe_157_208 (by decide) ?_
        by_cases hg33 : ¬ (l1 < 0 ∨ 13 ≤ (l1).toNatClampNeg)
        rotate_left
        · rw [if_neg hg33] at hf; cases hf
        rw [if_pos hg33] at hf
        refine mr_iast (k := 15) (n := 13) (j := (Int32.toNatClampNeg l1)) hh fe_157_209 rfl (by decide) (by decide) rfl rfl (fun z => hg33 (Or.inl z)) rfl (fun z => hg33 (Or.inr z)) ?_
        refine r_iinc (v := (l1 + 1)) fe_157_210 rfl rfl rfl ?_
        refine r_goto (t := 176) fe_157_213 (by decide) ?_
        refine go_weak (L0 := [.ref 130, .int (l1 + 1)]) (lwk_c (Or.inl rfl) (lwk_c (Or.inl rfl) (lwk_rf []))) ?_
        exact ih.2.2.2 (l1 + 1) (m_sA (m_sA (m_sA (m_sA S 12 (Int32.toNatClampNeg l1) 0) 13 (Int32.toNatClampNeg l1) 0) 14 (Int32.toNatClampNeg l1) (-1)) 15 (Int32.toNatClampNeg l1) (-1)) hf
theorem F157c {xs : Nat → Int32} {L9 d n : Nat} {h : AmH} {Q : Option Value → AmH → Prop} {r0 : Int32} {S0 S : mS}  (hh : 172 ≤ h.2.1) (hf : F157 n  S = some (r0, S0)) (hQ : Q (some (.int r0)) (mst S0 h)) : Ca (am_X xs L9) (d + 9) 157 [.ref 130] (mst S h) Q := (F157l hh hQ n).1 0 S hf
def F193b0 (F : Nat → mS → Option (Int32 × mS)) (n : Nat)  (S : mS) : Option (Int32 × mS) := (if am_if .ne (S.1 34) = true then (if ¬ (((S.1 34) - 1) < 0 ∨ 402 ≤ (((S.1 34) - 1)).toNatClampNeg) then some ((S.2.1 32 (Int32.toNatClampNeg ((S.1 34) - 1))), S) else none) else some ((-1), S))
def F193f : Nat → Nat → mS → Option (Int32 × mS)
  | 0, _, _ => none
  | n + 1, c, S => F193b0 (F193f n) n  S
theorem F193e0 (n : Nat)  (S : mS) : F193f (n + 1) 0  S = F193b0 (F193f n) n  S := rfl
def F193 (n : Nat)  (S : mS) : Option (Int32 × mS) := F193f n 0  S
set_option maxRecDepth 20000 in
set_option maxHeartbeats 2000000 in
theorem F193l {xs : Nat → Int32} {L9 d : Nat} {h : AmH} {Q : Option Value → AmH → Prop} {r0 : Int32} {S0 : mS} (hh : 172 ≤ h.2.1) (hQ : Q (some (.int r0)) (mst S0 h)) : ∀ n : Nat, (∀ (S : mS), F193f n 0 S = some (r0, S0) → Go (am_X xs L9) (d + 0) 193 0 [.ref 130] [] (mst S h) Q) := by
  intro n
  induction n with
  | zero => exact fun  S hf => (by cases hf)
  | succ n ih =>
    intro  S hf
    rw [F193e0] at hf
    unfold F193b0 at hf
    refine r_aload_n fe_193_0 rfl ?_
    refine mr_getf hh fe_193_1 lf_12_255 rfl ?_
    by_cases hb1 : am_if .ne (S.1 34) = true
    · rw [if_pos hb1] at hf
      refine r_if_t (t := 11) fe_193_4 (by decide) hb1 ?_
      refine r_aload_n fe_193_11 rfl ?_
      refine mr_getf hh fe_193_12 lf_12_108 rfl ?_
      refine r_aload_n fe_193_15 rfl ?_
      refine mr_getf hh fe_193_16 lf_12_255 rfl ?_
      refine r_iconst (v := 1) fe_193_19 (by decide) ?_
      refine r_isub (v := ((S.1 34) - 1)) fe_193_20 rfl ?_
      by_cases hg2 : ¬ (((S.1 34) - 1) < 0 ∨ 402 ≤ (((S.1 34) - 1)).toNatClampNeg)
      rotate_left
      · rw [if_neg hg2] at hf; cases hf
      rw [if_pos hg2] at hf
      refine r_iald (j := (Int32.toNatClampNeg ((S.1 34) - 1))) (v := S.2.1 32 (Int32.toNatClampNeg ((S.1 34) - 1))) fe_193_21 m_c_32 (m_lt hh (by decide)) (fun z => hg2 (Or.inl z)) rfl (fun z => hg2 (Or.inr z)) rfl ?_
      refine r_iret fe_193_22 ⟨rfl, by decide⟩ ?_
      exact dfin (P := fun r T => Q (some (.int r)) (mst T h)) hf hQ
    · rw [if_neg hb1] at hf
      refine r_if_f (t := 11) fe_193_4 (by decide) (Bool.eq_false_iff.mpr hb1) ?_
      refine r_iconst (v := -1) fe_193_7 (by decide) ?_
      refine r_goto (t := 22) fe_193_8 (by decide) ?_
      refine r_iret fe_193_22 ⟨rfl, by decide⟩ ?_
      exact dfin (P := fun r T => Q (some (.int r)) (mst T h)) hf hQ
theorem F193c {xs : Nat → Int32} {L9 d n : Nat} {h : AmH} {Q : Option Value → AmH → Prop} {r0 : Int32} {S0 S : mS}  (hh : 172 ≤ h.2.1) (hf : F193 n  S = some (r0, S0)) (hQ : Q (some (.int r0)) (mst S0 h)) : Ca (am_X xs L9) (d + 0) 193 [.ref 130] (mst S h) Q := (F193l hh hQ n)  S hf
def F190b0 (F : Nat → Int32 → Int32 → mS → Option (Unit × mS)) (n : Nat) (l1 : Int32) (l2 : Int32) (S : mS) : Option (Unit × mS) := (if am_if .ne (S.1 28) = true then some ((), S) else (if ¬ (((300 * (S.1 29)) + (S.1 31)) < 0 ∨ 1800 ≤ (((300 * (S.1 29)) + (S.1 31))).toNatClampNeg) then (if ¬ (((300 * ((m_sA S 27 (Int32.toNatClampNeg ((300 * (S.1 29)) + (S.1 31))) l1).1 29)) + ((m_sA S 27 (Int32.toNatClampNeg ((300 * (S.1 29)) + (S.1 31))) l1).1 31)) < 0 ∨ 1800 ≤ (((300 * ((m_sA S 27 (Int32.toNatClampNeg ((300 * (S.1 29)) + (S.1 31))) l1).1 29)) + ((m_sA S 27 (Int32.toNatClampNeg ((300 * (S.1 29)) + (S.1 31))) l1).1 31))).toNatClampNeg) then some ((), (m_sI (m_sA (m_sA S 27 (Int32.toNatClampNeg ((300 * (S.1 29)) + (S.1 31))) l1) 28 (Int32.toNatClampNeg ((300 * ((m_sA S 27 (Int32.toNatClampNeg ((300 * (S.1 29)) + (S.1 31))) l1).1 29)) + ((m_sA S 27 (Int32.toNatClampNeg ((300 * (S.1 29)) + (S.1 31))) l1).1 31))) l2) 31 (((m_sA (m_sA S 27 (Int32.toNatClampNeg ((300 * (S.1 29)) + (S.1 31))) l1) 28 (Int32.toNatClampNeg ((300 * ((m_sA S 27 (Int32.toNatClampNeg ((300 * (S.1 29)) + (S.1 31))) l1).1 29)) + ((m_sA S 27 (Int32.toNatClampNeg ((300 * (S.1 29)) + (S.1 31))) l1).1 31))) l2).1 31) + 1))) else none) else none))
def F190f : Nat → Nat → Int32 → Int32 → mS → Option (Unit × mS)
  | 0, _, _, _, _ => none
  | n + 1, c, l1, l2, S => F190b0 (F190f n) n l1 l2 S
theorem F190e0 (n : Nat) (l1 : Int32) (l2 : Int32) (S : mS) : F190f (n + 1) 0 l1 l2 S = F190b0 (F190f n) n l1 l2 S := rfl
def F190 (n : Nat) (l1 : Int32) (l2 : Int32) (S : mS) : Option (Unit × mS) := F190f n 0 l1 l2 S
set_option maxRecDepth 20000 in
set_option maxHeartbeats 2000000 in
theorem F190l {xs : Nat → Int32} {L9 d : Nat} {h : AmH} {Q : Option Value → AmH → Prop} {r0 : Unit} {S0 : mS} (hh : 172 ≤ h.2.1) (hQ : Q none (mst S0 h)) : ∀ n : Nat, (∀ (l1 : Int32) (l2 : Int32) (S : mS), F190f n 0 l1 l2 S = some (r0, S0) → Go (am_X xs L9) (d + 0) 190 0 [.ref 130, .int l1, .int l2] [] (mst S h) Q) := by
  intro n
  induction n with
  | zero => exact fun l1 l2 S hf => (by cases hf)
  | succ n ih =>
    intro l1 l2 S hf
    rw [F190e0] at hf
    unfold F190b0 at hf
    refine r_aload_n fe_190_0 rfl ?_
    refine mr_getf hh fe_190_1 lf_12_185 rfl ?_
    by_cases hb1 : am_if .ne (S.1 28) = true
    · rw [if_pos hb1] at hf
      refine r_if_t (t := 55) fe_190_4 (by decide) hb1 ?_
      refine r_vret fe_190_55 ?_
      exact dfin (P := fun _ T => Q none (mst T h)) hf hQ
    · rw [if_neg hb1] at hf
      refine r_if_f (t := 55) fe_190_4 (by decide) (Bool.eq_false_iff.mpr hb1) ?_
      refine r_aload_n fe_190_7 rfl ?_
      refine mr_getf hh fe_190_8 lf_12_93 rfl ?_
      refine r_sipush (v := 300) fe_190_11 (by decide) ?_
      refine r_aload_n fe_190_14 rfl ?_
      refine mr_getf hh fe_190_15 lf_12_215 rfl ?_
      refine r_imul (v := (300 * (S.1 29))) fe_190_18 rfl ?_
      refine r_aload_n fe_190_19 rfl ?_
      refine mr_getf hh fe_190_20 lf_12_218 rfl ?_
      refine r_iadd (v := ((300 * (S.1 29)) + (S.1 31))) fe_190_23 rfl ?_
      refine r_iload_n fe_190_24 rfl ?_
      by_cases hg2 : ¬ (((300 * (S.1 29)) + (S.1 31)) < 0 ∨ 1800 ≤ (((300 * (S.1 29)) + (S.1 31))).toNatClampNeg)
      rotate_left
      · rw [if_neg hg2] at hf; cases hf
      rw [if_pos hg2] at hf
      refine mr_iast (k := 27) (n := 1800) (j := (Int32.toNatClampNeg ((300 * (S.1 29)) + (S.1 31)))) hh fe_190_25 rfl (by decide) (by decide) rfl rfl (fun z => hg2 (Or.inl z)) rfl (fun z => hg2 (Or.inr z)) ?_
      refine r_aload_n fe_190_26 rfl ?_
      refine mr_getf hh fe_190_27 lf_12_96 rfl ?_
      refine r_sipush (v := 300) fe_190_30 (by decide) ?_
      refine r_aload_n fe_190_33 rfl ?_
      refine mr_getf hh fe_190_34 lf_12_215 rfl ?_
      refine r_imul (v := (300 * ((m_sA S 27 (Int32.toNatClampNeg ((300 * (S.1 29)) + (S.1 31))) l1).1 29))) fe_190_37 rfl ?_
      refine r_aload_n fe_190_38 rfl ?_
      refine mr_getf hh fe_190_39 lf_12_218 rfl ?_
      refine r_iadd (v := ((300 * ((m_sA S 27 (Int32.toNatClampNeg ((300 * (S.1 29)) + (S.1 31))) l1).1 29)) + ((m_sA S 27 (Int32.toNatClampNeg ((300 * (S.1 29)) + (S.1 31))) l1).1 31))) fe_190_42 rfl ?_
      refine r_iload_n fe_190_43 rfl ?_
      by_cases hg3 : ¬ (((300 * ((m_sA S 27 (Int32.toNatClampNeg ((300 * (S.1 29)) + (S.1 31))) l1).1 29)) + ((m_sA S 27 (Int32.toNatClampNeg ((300 * (S.1 29)) + (S.1 31))) l1).1 31)) < 0 ∨ 1800 ≤ (((300 * ((m_sA S 27 (Int32.toNatClampNeg ((300 * (S.1 29)) + (S.1 31))) l1).1 29)) + ((m_sA S 27 (Int32.toNatClampNeg ((300 * (S.1 29)) + (S.1 31))) l1).1 31))).toNatClampNeg)
      rotate_left
      · rw [if_neg hg3] at hf; cases hf
      rw [if_pos hg3] at hf
      refine mr_iast (k := 28) (n := 1800) (j := (Int32.toNatClampNeg ((300 * ((m_sA S 27 (Int32.toNatClampNeg ((300 * (S.1 29)) + (S.1 31))) l1).1 29)) + ((m_sA S 27 (Int32.toNatClampNeg ((300 * (S.1 29)) + (S.1 31))) l1).1 31)))) hh fe_190_44 rfl (by decide) (by decide) rfl rfl (fun z => hg3 (Or.inl z)) rfl (fun z => hg3 (Or.inr z)) ?_
      refine r_aload_n fe_190_45 rfl ?_
      refine r_dup fe_190_46 rfl ?_
      refine mr_getf hh fe_190_47 lf_12_218 rfl ?_
      refine r_iconst (v := 1) fe_190_50 (by decide) ?_
      refine r_iadd (v := (((m_sA (m_sA S 27 (Int32.toNatClampNeg ((300 * (S.1 29)) + (S.1 31))) l1) 28 (Int32.toNatClampNeg ((300 * ((m_sA S 27 (Int32.toNatClampNeg ((300 * (S.1 29)) + (S.1 31))) l1).1 29)) + ((m_sA S 27 (Int32.toNatClampNeg ((300 * (S.1 29)) + (S.1 31))) l1).1 31))) l2).1 31) + 1)) fe_190_51 rfl ?_
      refine mr_putf hh fe_190_52 lf_12_218 (m_f_31 _ _) (by decide) rfl rfl rfl ?_
      refine r_vret fe_190_55 ?_
      exact dfin (P := fun _ T => Q none (mst T h)) hf hQ
theorem F190c {xs : Nat → Int32} {L9 d n : Nat} {h : AmH} {Q : Option Value → AmH → Prop} {r0 : Unit} {S0 S : mS} {l1 : Int32} {l2 : Int32} (hh : 172 ≤ h.2.1) (hf : F190 n l1 l2 S = some (r0, S0)) (hQ : Q none (mst S0 h)) : Ca (am_X xs L9) (d + 0) 190 [.ref 130, .int l1, .int l2] (mst S h) Q := (F190l hh hQ n) l1 l2 S hf
def F192b0 (F : Nat → Int32 → mS → Option (Unit × mS)) (n : Nat) (l1 : Int32) (S : mS) : Option (Unit × mS) := ((F193 n  S).bind (fun z1 => (if am_ic .ne z1.1 l1 = true then some ((), z1.2) else (if am_if .ne (z1.2.1 28) = true then some ((), z1.2) else ((F190 n l1 0 z1.2).bind (fun z5 => (if am_ic .ne l1 9 = true then F 0 l1 (m_sI (m_sI z5.2 34 ((z5.2.1 34) - 1)) 32 (((m_sI z5.2 34 ((z5.2.1 34) - 1)).1 32) - 0)) else F 0 l1 (m_sI (m_sI z5.2 34 ((z5.2.1 34) - 1)) 32 (((m_sI z5.2 34 ((z5.2.1 34) - 1)).1 32) - 1)))))))))
def F192f : Nat → Nat → Int32 → mS → Option (Unit × mS)
  | 0, _, _, _ => none
  | n + 1, c, l1, S => F192b0 (F192f n) n l1 S
theorem F192e0 (n : Nat) (l1 : Int32) (S : mS) : F192f (n + 1) 0 l1 S = F192b0 (F192f n) n l1 S := rfl
def F192 (n : Nat) (l1 : Int32) (S : mS) : Option (Unit × mS) := F192f n 0 l1 S
set_option maxRecDepth 20000 in
set_option maxHeartbeats 2000000 in
theorem F192l {xs : Nat → Int32} {L9 d : Nat} {h : AmH} {Q : Option Value → AmH → Prop} {r0 : Unit} {S0 : mS} (hh : 172 ≤ h.2.1) (hQ : Q none (mst S0 h)) : ∀ n : Nat, (∀ (l1 : Int32) (S : mS), F192f n 0 l1 S = some (r0, S0) → Go (am_X xs L9) (d + 1) 192 0 [.ref 130, .int l1] [] (mst S h) Q) := by
  intro n
  induction n with
  | zero => exact fun l1 S hf => (by cases hf)
  | succ n ih =>
    intro l1 S hf
    rw [F192e0] at hf
    unfold F192b0 at hf
    refine r_aload_n fe_192_0 rfl ?_
    refine r_callV (as := []) (r := []) fe_192_1 lm_12_261 md_193 rfl rfl (Nat.le_of_ble_eq_true rfl) m_c_0 (m_lt hh (by decide)) (Nat.le_of_ble_eq_true rfl) (Nat.le_of_ble_eq_true rfl) ?_
    cases hc2 : F193 n  S with
    | none => rw [hc2] at hf; cases hf
    | some z1 =>
      rw [hc2, Option.bind_some] at hf
      refine F193c (r0 := z1.1) (S0 := z1.2) hh hc2 ?_
      refine r_iload_n fe_192_4 rfl ?_
      by_cases hb3 : am_ic .ne z1.1 l1 = true
      · rw [if_pos hb3] at hf
        refine r_ic_t (t := 54) fe_192_5 (by decide) hb3 ?_
        refine r_vret fe_192_54 ?_
        exact dfin (P := fun _ T => Q none (mst T h)) hf hQ
      · rw [if_neg hb3] at hf
        refine r_ic_f (t := 54) fe_192_5 (by decide) (Bool.eq_false_iff.mpr hb3) ?_
        refine r_aload_n fe_192_8 rfl ?_
        refine mr_getf hh fe_192_9 lf_12_185 rfl ?_
        by_cases hb4 : am_if .ne (z1.2.1 28) = true
        · rw [if_pos hb4] at hf
          refine r_if_t (t := 54) fe_192_12 (by decide) hb4 ?_
          refine r_vret fe_192_54 ?_
          exact dfin (P := fun _ T => Q none (mst T h)) hf hQ
        · rw [if_neg hb4] at hf
          refine r_if_f (t := 54) fe_192_12 (by decide) (Bool.eq_false_iff.mpr hb4) ?_
          refine r_aload_n fe_192_15 rfl ?_
          refine r_iload_n fe_192_16 rfl ?_
          refine r_iconst (v := 0) fe_192_17 (by decide) ?_
          refine r_callV (as := [.int l1, .int 0]) (r := []) fe_192_18 lm_12_239 md_190 rfl rfl (Nat.le_of_ble_eq_true rfl) m_c_0 (m_lt hh (by decide)) (Nat.le_of_ble_eq_true rfl) (Nat.le_of_ble_eq_true rfl) ?_
          cases hc6 : F190 n l1 0 z1.2 with
          | none => rw [hc6] at hf; cases hf
          | some z5 =>
            rw [hc6, Option.bind_some] at hf
            refine F190c (r0 := z5.1) (S0 := z5.2) hh hc6 ?_
            refine r_aload_n fe_192_21 rfl ?_
            refine r_dup fe_192_22 rfl ?_
            refine mr_getf hh fe_192_23 lf_12_255 rfl ?_
            refine r_iconst (v := 1) fe_192_26 (by decide) ?_
            refine r_isub (v := ((z5.2.1 34) - 1)) fe_192_27 rfl ?_
            refine mr_putf hh fe_192_28 lf_12_255 (m_f_34 _ _) (by decide) rfl rfl rfl ?_
            refine r_aload_n fe_192_31 rfl ?_
            refine r_dup fe_192_32 rfl ?_
            refine mr_getf hh fe_192_33 lf_12_258 rfl ?_
            refine r_iload_n fe_192_36 rfl ?_
            refine r_bipush (v := 9) fe_192_37 (by decide) ?_
            by_cases hb7 : am_ic .ne l1 9 = true
            · rw [if_pos hb7] at hf
              refine r_ic_t (t := 46) fe_192_39 (by decide) hb7 ?_
              refine r_iconst (v := 0) fe_192_46 (by decide) ?_
              refine r_isub (v := (((m_sI z5.2 34 ((z5.2.1 34) - 1)).1 32) - 0)) fe_192_47 rfl ?_
              refine mr_putf hh fe_192_48 lf_12_258 (m_f_32 _ _) (by decide) rfl rfl rfl ?_
              refine r_goto (t := 0) fe_192_51 (by decide) ?_
              refine go_weak (L0 := [.ref 130, .int l1]) (lwk_c (Or.inl rfl) (lwk_c (Or.inl rfl) (lwk_rf []))) ?_
              exact ih l1 (m_sI (m_sI z5.2 34 ((z5.2.1 34) - 1)) 32 (((m_sI z5.2 34 ((z5.2.1 34) - 1)).1 32) - 0)) hf
            · rw [if_neg hb7] at hf
              refine r_ic_f (t := 46) fe_192_39 (by decide) (Bool.eq_false_iff.mpr hb7) ?_
              refine r_iconst (v := 1) fe_192_42 (by decide) ?_
              refine r_goto (t := 47) fe_192_43 (by decide) ?_
              refine r_isub (v := (((m_sI z5.2 34 ((z5.2.1 34) - 1)).1 32) - 1)) fe_192_47 rfl ?_
              refine mr_putf hh fe_192_48 lf_12_258 (m_f_32 _ _) (by decide) rfl rfl rfl ?_
              refine r_goto (t := 0) fe_192_51 (by decide) ?_
              refine go_weak (L0 := [.ref 130, .int l1]) (lwk_c (Or.inl rfl) (lwk_c (Or.inl rfl) (lwk_rf []))) ?_
              exact ih l1 (m_sI (m_sI z5.2 34 ((z5.2.1 34) - 1)) 32 (((m_sI z5.2 34 ((z5.2.1 34) - 1)).1 32) - 1)) hf
theorem F192c {xs : Nat → Int32} {L9 d n : Nat} {h : AmH} {Q : Option Value → AmH → Prop} {r0 : Unit} {S0 S : mS} {l1 : Int32} (hh : 172 ≤ h.2.1) (hf : F192 n l1 S = some (r0, S0)) (hQ : Q none (mst S0 h)) : Ca (am_X xs L9) (d + 1) 192 [.ref 130, .int l1] (mst S h) Q := (F192l hh hQ n) l1 S hf
def F184b0 (F : Nat → Int32 → mS → Option (Unit × mS)) (n : Nat) (l1 : Int32) (S : mS) : Option (Unit × mS) := (if am_ic .eq l1 9 = true then (if am_ic .ne (S.1 32) 10 = true then (if ¬ (((m_sI S 32 ((S.1 32) + 1)).1 34) < 0 ∨ 402 ≤ (((m_sI S 32 ((S.1 32) + 1)).1 34)).toNatClampNeg) then some ((), (m_sI (m_sA (m_sI S 32 ((S.1 32) + 1)) 32 (Int32.toNatClampNeg ((m_sI S 32 ((S.1 32) + 1)).1 34)) l1) 34 (((m_sA (m_sI S 32 ((S.1 32) + 1)) 32 (Int32.toNatClampNeg ((m_sI S 32 ((S.1 32) + 1)).1 34)) l1).1 34) + 1))) else none) else ((F165 n 2 (S.1 27) S).bind (fun z4 => (if ¬ (((m_sI z4.2 32 ((z4.2.1 32) + 1)).1 34) < 0 ∨ 402 ≤ (((m_sI z4.2 32 ((z4.2.1 32) + 1)).1 34)).toNatClampNeg) then some ((), (m_sI (m_sA (m_sI z4.2 32 ((z4.2.1 32) + 1)) 32 (Int32.toNatClampNeg ((m_sI z4.2 32 ((z4.2.1 32) + 1)).1 34)) l1) 34 (((m_sA (m_sI z4.2 32 ((z4.2.1 32) + 1)) 32 (Int32.toNatClampNeg ((m_sI z4.2 32 ((z4.2.1 32) + 1)).1 34)) l1).1 34) + 1))) else none)))) else (if am_ic .ne l1 12 = true then (if ¬ ((S.1 34) < 0 ∨ 402 ≤ ((S.1 34)).toNatClampNeg) then some ((), (m_sI (m_sA S 32 (Int32.toNatClampNeg (S.1 34)) l1) 34 (((m_sA S 32 (Int32.toNatClampNeg (S.1 34)) l1).1 34) + 1))) else none) else (if am_ic .ne (S.1 32) 10 = true then (if ¬ (((m_sI S 32 ((S.1 32) + 1)).1 34) < 0 ∨ 402 ≤ (((m_sI S 32 ((S.1 32) + 1)).1 34)).toNatClampNeg) then some ((), (m_sI (m_sA (m_sI S 32 ((S.1 32) + 1)) 32 (Int32.toNatClampNeg ((m_sI S 32 ((S.1 32) + 1)).1 34)) l1) 34 (((m_sA (m_sI S 32 ((S.1 32) + 1)) 32 (Int32.toNatClampNeg ((m_sI S 32 ((S.1 32) + 1)).1 34)) l1).1 34) + 1))) else none) else ((F165 n 2 (S.1 27) S).bind (fun z11 => (if ¬ (((m_sI z11.2 32 ((z11.2.1 32) + 1)).1 34) < 0 ∨ 402 ≤ (((m_sI z11.2 32 ((z11.2.1 32) + 1)).1 34)).toNatClampNeg) then some ((), (m_sI (m_sA (m_sI z11.2 32 ((z11.2.1 32) + 1)) 32 (Int32.toNatClampNeg ((m_sI z11.2 32 ((z11.2.1 32) + 1)).1 34)) l1) 34 (((m_sA (m_sI z11.2 32 ((z11.2.1 32) + 1)) 32 (Int32.toNatClampNeg ((m_sI z11.2 32 ((z11.2.1 32) + 1)).1 34)) l1).1 34) + 1))) else none))))))
def F184f : Nat → Nat → Int32 → mS → Option (Unit × mS)
  | 0, _, _, _ => none
  | n + 1, c, l1, S => F184b0 (F184f n) n l1 S
theorem F184e0 (n : Nat) (l1 : Int32) (S : mS) : F184f (n + 1) 0 l1 S = F184b0 (F184f n) n l1 S := rfl
def F184 (n : Nat) (l1 : Int32) (S : mS) : Option (Unit × mS) := F184f n 0 l1 S
set_option maxRecDepth 20000 in
set_option maxHeartbeats 2000000 in
theorem F184l {xs : Nat → Int32} {L9 d : Nat} {h : AmH} {Q : Option Value → AmH → Prop} {r0 : Unit} {S0 : mS} (hh : 172 ≤ h.2.1) (hQ : Q none (mst S0 h)) : ∀ n : Nat, (∀ (l1 : Int32) (S : mS), F184f n 0 l1 S = some (r0, S0) → Go (am_X xs L9) (d + 1) 184 0 [.ref 130, .int l1] [] (mst S h) Q) := by
  intro n
  induction n with
  | zero => exact fun l1 S hf => (by cases hf)
  | succ n ih =>
    intro l1 S hf
    rw [F184e0] at hf
    unfold F184b0 at hf
    refine r_iload_n fe_184_0 rfl ?_
    refine r_bipush (v := 9) fe_184_1 (by decide) ?_
    by_cases hb1 : am_ic .eq l1 9 = true
    · rw [if_pos hb1] at hf
      refine r_ic_t (t := 12) fe_184_3 (by decide) hb1 ?_
      refine r_aload_n fe_184_12 rfl ?_
      refine mr_getf hh fe_184_13 lf_12_258 rfl ?_
      refine r_bipush (v := 10) fe_184_16 (by decide) ?_
      by_cases hb2 : am_ic .ne (S.1 32) 10 = true
      · rw [if_pos hb2] at hf
        refine r_ic_t (t := 30) fe_184_18 (by decide) hb2 ?_
        refine r_aload_n fe_184_30 rfl ?_
        refine r_dup fe_184_31 rfl ?_
        refine mr_getf hh fe_184_32 lf_12_258 rfl ?_
        refine r_iconst (v := 1) fe_184_35 (by decide) ?_
        refine r_iadd (v := ((S.1 32) + 1)) fe_184_36 rfl ?_
        refine mr_putf hh fe_184_37 lf_12_258 (m_f_32 _ _) (by decide) rfl rfl rfl ?_
        refine r_aload_n fe_184_40 rfl ?_
        refine mr_getf hh fe_184_41 lf_12_108 rfl ?_
        refine r_aload_n fe_184_44 rfl ?_
        refine mr_getf hh fe_184_45 lf_12_255 rfl ?_
        refine r_iload_n fe_184_48 rfl ?_
        by_cases hg3 : ¬ (((m_sI S 32 ((S.1 32) + 1)).1 34) < 0 ∨ 402 ≤ (((m_sI S 32 ((S.1 32) + 1)).1 34)).toNatClampNeg)
        rotate_left
        · rw [if_neg hg3] at hf; cases hf
        rw [if_pos hg3] at hf
        refine mr_iast (k := 32) (n := 402) (j := (Int32.toNatClampNeg ((m_sI S 32 ((S.1 32) + 1)).1 34))) hh fe_184_49 rfl (by decide) (by decide) rfl rfl (fun z => hg3 (Or.inl z)) rfl (fun z => hg3 (Or.inr z)) ?_
        refine r_aload_n fe_184_50 rfl ?_
        refine r_dup fe_184_51 rfl ?_
        refine mr_getf hh fe_184_52 lf_12_255 rfl ?_
        refine r_iconst (v := 1) fe_184_55 (by decide) ?_
        refine r_iadd (v := (((m_sA (m_sI S 32 ((S.1 32) + 1)) 32 (Int32.toNatClampNeg ((m_sI S 32 ((S.1 32) + 1)).1 34)) l1).1 34) + 1)) fe_184_56 rfl ?_
        refine mr_putf hh fe_184_57 lf_12_255 (m_f_34 _ _) (by decide) rfl rfl rfl ?_
        refine r_vret fe_184_60 ?_
        exact dfin (P := fun _ T => Q none (mst T h)) hf hQ
      · rw [if_neg hb2] at hf
        refine r_ic_f (t := 30) fe_184_18 (by decide) (Bool.eq_false_iff.mpr hb2) ?_
        refine r_aload_n fe_184_21 rfl ?_
        refine r_iconst (v := 2) fe_184_22 (by decide) ?_
        refine r_aload_n fe_184_23 rfl ?_
        refine mr_getf hh fe_184_24 lf_12_188 rfl ?_
        refine r_callV (as := [.int 2, .int (S.1 27)]) (r := []) fe_184_27 lm_12_224 md_165 rfl rfl (Nat.le_of_ble_eq_true rfl) m_c_0 (m_lt hh (by decide)) (Nat.le_of_ble_eq_true rfl) (Nat.le_of_ble_eq_true rfl) ?_
        cases hc5 : F165 n 2 (S.1 27) S with
        | none => rw [hc5] at hf; cases hf
        | some z4 =>
          rw [hc5, Option.bind_some] at hf
          refine F165c (r0 := z4.1) (S0 := z4.2) hh hc5 ?_
          refine r_aload_n fe_184_30 rfl ?_
          refine r_dup fe_184_31 rfl ?_
          refine mr_getf hh fe_184_32 lf_12_258 rfl ?_
          refine r_iconst (v := 1) fe_184_35 (by decide) ?_
          refine r_iadd (v := ((z4.2.1 32) + 1)) fe_184_36 rfl ?_
          refine mr_putf hh fe_184_37 lf_12_258 (m_f_32 _ _) (by decide) rfl rfl rfl ?_
          refine r_aload_n fe_184_40 rfl ?_
          refine mr_getf hh fe_184_41 lf_12_108 rfl ?_
          refine r_aload_n fe_184_44 rfl ?_
          refine mr_getf hh fe_184_45 lf_12_255 rfl ?_
          refine r_iload_n fe_184_48 rfl ?_
          by_cases hg6 : ¬ (((m_sI z4.2 32 ((z4.2.1 32) + 1)).1 34) < 0 ∨ 402 ≤ (((m_sI z4.2 32 ((z4.2.1 32) + 1)).1 34)).toNatClampNeg)
          rotate_left
          · rw [if_neg hg6] at hf; cases hf
          rw [if_pos hg6] at hf
          refine mr_iast (k := 32) (n := 402) (j := (Int32.toNatClampNeg ((m_sI z4.2 32 ((z4.2.1 32) + 1)).1 34))) hh fe_184_49 rfl (by decide) (by decide) rfl rfl (fun z => hg6 (Or.inl z)) rfl (fun z => hg6 (Or.inr z)) ?_
          refine r_aload_n fe_184_50 rfl ?_
          refine r_dup fe_184_51 rfl ?_
          refine mr_getf hh fe_184_52 lf_12_255 rfl ?_
          refine r_iconst (v := 1) fe_184_55 (by decide) ?_
          refine r_iadd (v := (((m_sA (m_sI z4.2 32 ((z4.2.1 32) + 1)) 32 (Int32.toNatClampNeg ((m_sI z4.2 32 ((z4.2.1 32) + 1)).1 34)) l1).1 34) + 1)) fe_184_56 rfl ?_
          refine mr_putf hh fe_184_57 lf_12_255 (m_f_34 _ _) (by decide) rfl rfl rfl ?_
          refine r_vret fe_184_60 ?_
          exact dfin (P := fun _ T => Q none (mst T h)) hf hQ
    · rw [if_neg hb1] at hf
      refine r_ic_f (t := 12) fe_184_3 (by decide) (Bool.eq_false_iff.mpr hb1) ?_
      refine r_iload_n fe_184_6 rfl ?_
      refine r_bipush (v := 12) fe_184_7 (by decide) ?_
      by_cases hb7 : am_ic .ne l1 12 = true
      · rw [if_pos hb7] at hf
        refine r_ic_t (t := 40) fe_184_9 (by decide) hb7 ?_
        refine r_aload_n fe_184_40 rfl ?_
        refine mr_getf hh fe_184_41 lf_12_108 rfl ?_
        refine r_aload_n fe_184_44 rfl ?_
        refine mr_getf hh fe_184_45 lf_12_255 rfl ?_
        refine r_iload_n fe_184_48 rfl ?_
        by_cases hg8 : ¬ ((S.1 34) < 0 ∨ 402 ≤ ((S.1 34)).toNatClampNeg)
        rotate_left
        · rw [if_neg hg8] at hf; cases hf
        rw [if_pos hg8] at hf
        refine mr_iast (k := 32) (n := 402) (j := (Int32.toNatClampNeg (S.1 34))) hh fe_184_49 rfl (by decide) (by decide) rfl rfl (fun z => hg8 (Or.inl z)) rfl (fun z => hg8 (Or.inr z)) ?_
        refine r_aload_n fe_184_50 rfl ?_
        refine r_dup fe_184_51 rfl ?_
        refine mr_getf hh fe_184_52 lf_12_255 rfl ?_
        refine r_iconst (v := 1) fe_184_55 (by decide) ?_
        refine r_iadd (v := (((m_sA S 32 (Int32.toNatClampNeg (S.1 34)) l1).1 34) + 1)) fe_184_56 rfl ?_
        refine mr_putf hh fe_184_57 lf_12_255 (m_f_34 _ _) (by decide) rfl rfl rfl ?_
        refine r_vret fe_184_60 ?_
        exact dfin (P := fun _ T => Q none (mst T h)) hf hQ
      · rw [if_neg hb7] at hf
        refine r_ic_f (t := 40) fe_184_9 (by decide) (Bool.eq_false_iff.mpr hb7) ?_
        refine r_aload_n fe_184_12 rfl ?_
        refine mr_getf hh fe_184_13 lf_12_258 rfl ?_
        refine r_bipush (v := 10) fe_184_16 (by decide) ?_
        by_cases hb9 : am_ic .ne (S.1 32) 10 = true
        · rw [if_pos hb9] at hf
          refine r_ic_t (t := 30) fe_184_18 (by decide) hb9 ?_
          refine r_aload_n fe_184_30 rfl ?_
          refine r_dup fe_184_31 rfl ?_
          refine mr_getf hh fe_184_32 lf_12_258 rfl ?_
          refine r_iconst (v := 1) fe_184_35 (by decide) ?_
          refine r_iadd (v := ((S.1 32) + 1)) fe_184_36 rfl ?_
          refine mr_putf hh fe_184_37 lf_12_258 (m_f_32 _ _) (by decide) rfl rfl rfl ?_
          refine r_aload_n fe_184_40 rfl ?_
          refine mr_getf hh fe_184_41 lf_12_108 rfl ?_
          refine r_aload_n fe_184_44 rfl ?_
          refine mr_getf hh fe_184_45 lf_12_255 rfl ?_
          refine r_iload_n fe_184_48 rfl ?_
          by_cases hg10 : ¬ (((m_sI S 32 ((S.1 32) + 1)).1 34) < 0 ∨ 402 ≤ (((m_sI S 32 ((S.1 32) + 1)).1 34)).toNatClampNeg)
          rotate_left
          · rw [if_neg hg10] at hf; cases hf
          rw [if_pos hg10] at hf
          refine mr_iast (k := 32) (n := 402) (j := (Int32.toNatClampNeg ((m_sI S 32 ((S.1 32) + 1)).1 34))) hh fe_184_49 rfl (by decide) (by decide) rfl rfl (fun z => hg10 (Or.inl z)) rfl (fun z => hg10 (Or.inr z)) ?_
          refine r_aload_n fe_184_50 rfl ?_
          refine r_dup fe_184_51 rfl ?_
          refine mr_getf hh fe_184_52 lf_12_255 rfl ?_
          refine r_iconst (v := 1) fe_184_55 (by decide) ?_
          refine r_iadd (v := (((m_sA (m_sI S 32 ((S.1 32) + 1)) 32 (Int32.toNatClampNeg ((m_sI S 32 ((S.1 32) + 1)).1 34)) l1).1 34) + 1)) fe_184_56 rfl ?_
          refine mr_putf hh fe_184_57 lf_12_255 (m_f_34 _ _) (by decide) rfl rfl rfl ?_
          refine r_vret fe_184_60 ?_
          exact dfin (P := fun _ T => Q none (mst T h)) hf hQ
        · rw [if_neg hb9] at hf
          refine r_ic_f (t := 30) fe_184_18 (by decide) (Bool.eq_false_iff.mpr hb9) ?_
          refine r_aload_n fe_184_21 rfl ?_
          refine r_iconst (v := 2) fe_184_22 (by decide) ?_
          refine r_aload_n fe_184_23 rfl ?_
          refine mr_getf hh fe_184_24 lf_12_188 rfl ?_
          refine r_callV (as := [.int 2, .int (S.1 27)]) (r := []) fe_184_27 lm_12_224 md_165 rfl rfl (Nat.le_of_ble_eq_true rfl) m_c_0 (m_lt hh (by decide)) (Nat.le_of_ble_eq_true rfl) (Nat.le_of_ble_eq_true rfl) ?_
          cases hc12 : F165 n 2 (S.1 27) S with
          | none => rw [hc12] at hf; cases hf
          | some z11 =>
            rw [hc12, Option.bind_some] at hf
            refine F165c (r0 := z11.1) (S0 := z11.2) hh hc12 ?_
            refine r_aload_n fe_184_30 rfl ?_
            refine r_dup fe_184_31 rfl ?_
            refine mr_getf hh fe_184_32 lf_12_258 rfl ?_
            refine r_iconst (v := 1) fe_184_35 (by decide) ?_
            refine r_iadd (v := ((z11.2.1 32) + 1)) fe_184_36 rfl ?_
            refine mr_putf hh fe_184_37 lf_12_258 (m_f_32 _ _) (by decide) rfl rfl rfl ?_
            refine r_aload_n fe_184_40 rfl ?_
            refine mr_getf hh fe_184_41 lf_12_108 rfl ?_
            refine r_aload_n fe_184_44 rfl ?_
            refine mr_getf hh fe_184_45 lf_12_255 rfl ?_
            refine r_iload_n fe_184_48 rfl ?_
            by_cases hg13 : ¬ (((m_sI z11.2 32 ((z11.2.1 32) + 1)).1 34) < 0 ∨ 402 ≤ (((m_sI z11.2 32 ((z11.2.1 32) + 1)).1 34)).toNatClampNeg)
            rotate_left
            · rw [if_neg hg13] at hf; cases hf
            rw [if_pos hg13] at hf
            refine mr_iast (k := 32) (n := 402) (j := (Int32.toNatClampNeg ((m_sI z11.2 32 ((z11.2.1 32) + 1)).1 34))) hh fe_184_49 rfl (by decide) (by decide) rfl rfl (fun z => hg13 (Or.inl z)) rfl (fun z => hg13 (Or.inr z)) ?_
            refine r_aload_n fe_184_50 rfl ?_
            refine r_dup fe_184_51 rfl ?_
            refine mr_getf hh fe_184_52 lf_12_255 rfl ?_
            refine r_iconst (v := 1) fe_184_55 (by decide) ?_
            refine r_iadd (v := (((m_sA (m_sI z11.2 32 ((z11.2.1 32) + 1)) 32 (Int32.toNatClampNeg ((m_sI z11.2 32 ((z11.2.1 32) + 1)).1 34)) l1).1 34) + 1)) fe_184_56 rfl ?_
            refine mr_putf hh fe_184_57 lf_12_255 (m_f_34 _ _) (by decide) rfl rfl rfl ?_
            refine r_vret fe_184_60 ?_
            exact dfin (P := fun _ T => Q none (mst T h)) hf hQ
theorem F184c {xs : Nat → Int32} {L9 d n : Nat} {h : AmH} {Q : Option Value → AmH → Prop} {r0 : Unit} {S0 S : mS} {l1 : Int32} (hh : 172 ≤ h.2.1) (hf : F184 n l1 S = some (r0, S0)) (hQ : Q none (mst S0 h)) : Ca (am_X xs L9) (d + 1) 184 [.ref 130, .int l1] (mst S h) Q := (F184l hh hQ n) l1 S hf
def F189b0 (F : Nat → Int32 → mS → Option (Unit × mS)) (n : Nat) (l1 : Int32) (S : mS) : Option (Unit × mS) := (if am_ic .ne (S.1 33) 60 = true then some ((), (m_sI S 33 ((S.1 33) + 1))) else ((F165 n 3 l1 S).bind (fun z2 => some ((), (m_sI z2.2 33 ((z2.2.1 33) + 1))))))
def F189f : Nat → Nat → Int32 → mS → Option (Unit × mS)
  | 0, _, _, _ => none
  | n + 1, c, l1, S => F189b0 (F189f n) n l1 S
theorem F189e0 (n : Nat) (l1 : Int32) (S : mS) : F189f (n + 1) 0 l1 S = F189b0 (F189f n) n l1 S := rfl
def F189 (n : Nat) (l1 : Int32) (S : mS) : Option (Unit × mS) := F189f n 0 l1 S
set_option maxRecDepth 20000 in
set_option maxHeartbeats 2000000 in
theorem F189l {xs : Nat → Int32} {L9 d : Nat} {h : AmH} {Q : Option Value → AmH → Prop} {r0 : Unit} {S0 : mS} (hh : 172 ≤ h.2.1) (hQ : Q none (mst S0 h)) : ∀ n : Nat, (∀ (l1 : Int32) (S : mS), F189f n 0 l1 S = some (r0, S0) → Go (am_X xs L9) (d + 1) 189 0 [.ref 130, .int l1] [] (mst S h) Q) := by
  intro n
  induction n with
  | zero => exact fun l1 S hf => (by cases hf)
  | succ n ih =>
    intro l1 S hf
    rw [F189e0] at hf
    unfold F189b0 at hf
    refine r_aload_n fe_189_0 rfl ?_
    refine mr_getf hh fe_189_1 lf_12_221 rfl ?_
    refine r_bipush (v := 60) fe_189_4 (by decide) ?_
    by_cases hb1 : am_ic .ne (S.1 33) 60 = true
    · rw [if_pos hb1] at hf
      refine r_ic_t (t := 15) fe_189_6 (by decide) hb1 ?_
      refine r_aload_n fe_189_15 rfl ?_
      refine r_dup fe_189_16 rfl ?_
      refine mr_getf hh fe_189_17 lf_12_221 rfl ?_
      refine r_iconst (v := 1) fe_189_20 (by decide) ?_
      refine r_iadd (v := ((S.1 33) + 1)) fe_189_21 rfl ?_
      refine mr_putf hh fe_189_22 lf_12_221 (m_f_33 _ _) (by decide) rfl rfl rfl ?_
      refine r_vret fe_189_25 ?_
      exact dfin (P := fun _ T => Q none (mst T h)) hf hQ
    · rw [if_neg hb1] at hf
      refine r_ic_f (t := 15) fe_189_6 (by decide) (Bool.eq_false_iff.mpr hb1) ?_
      refine r_aload_n fe_189_9 rfl ?_
      refine r_iconst (v := 3) fe_189_10 (by decide) ?_
      refine r_iload_n fe_189_11 rfl ?_
      refine r_callV (as := [.int 3, .int l1]) (r := []) fe_189_12 lm_12_224 md_165 rfl rfl (Nat.le_of_ble_eq_true rfl) m_c_0 (m_lt hh (by decide)) (Nat.le_of_ble_eq_true rfl) (Nat.le_of_ble_eq_true rfl) ?_
      cases hc3 : F165 n 3 l1 S with
      | none => rw [hc3] at hf; cases hf
      | some z2 =>
        rw [hc3, Option.bind_some] at hf
        refine F165c (r0 := z2.1) (S0 := z2.2) hh hc3 ?_
        refine r_aload_n fe_189_15 rfl ?_
        refine r_dup fe_189_16 rfl ?_
        refine mr_getf hh fe_189_17 lf_12_221 rfl ?_
        refine r_iconst (v := 1) fe_189_20 (by decide) ?_
        refine r_iadd (v := ((z2.2.1 33) + 1)) fe_189_21 rfl ?_
        refine mr_putf hh fe_189_22 lf_12_221 (m_f_33 _ _) (by decide) rfl rfl rfl ?_
        refine r_vret fe_189_25 ?_
        exact dfin (P := fun _ T => Q none (mst T h)) hf hQ
theorem F189c {xs : Nat → Int32} {L9 d n : Nat} {h : AmH} {Q : Option Value → AmH → Prop} {r0 : Unit} {S0 S : mS} {l1 : Int32} (hh : 172 ≤ h.2.1) (hf : F189 n l1 S = some (r0, S0)) (hQ : Q none (mst S0 h)) : Ca (am_X xs L9) (d + 1) 189 [.ref 130, .int l1] (mst S h) Q := (F189l hh hQ n) l1 S hf
def F191b0 (F : Nat → Int32 → mS → Option (Nat × mS)) (n : Nat) (l0 : Int32) (S : mS) : Option (Nat × mS) := (if ((l0).toInt < 0 ∨ 9 < (l0).toInt) then some (54, S) else (if l0 = 0 then some (34, S) else (if l0 = 1 then some (36, S) else (if l0 = 2 then some (38, S) else (if l0 = 3 then some (40, S) else (if l0 = 4 then some (42, S) else (if l0 = 5 then some (44, S) else (if l0 = 6 then some (46, S) else (if l0 = 7 then some (48, S) else (if l0 = 8 then some (50, S) else (if l0 = 9 then some (52, S) else none)))))))))))
def F191f : Nat → Nat → Int32 → mS → Option (Nat × mS)
  | 0, _, _, _ => none
  | n + 1, c, l0, S => F191b0 (F191f n) n l0 S
theorem F191e0 (n : Nat) (l0 : Int32) (S : mS) : F191f (n + 1) 0 l0 S = F191b0 (F191f n) n l0 S := rfl
def F191 (n : Nat) (l0 : Int32) (S : mS) : Option (Nat × mS) := F191f n 0 l0 S
set_option maxRecDepth 20000 in
set_option maxHeartbeats 2000000 in
theorem F191l {xs : Nat → Int32} {L9 d : Nat} {h : AmH} {Q : Option Value → AmH → Prop} {r0 : Nat} {S0 : mS} (hh : 172 ≤ h.2.1) (hQ : Q (some (.ref r0)) (mst S0 h)) : ∀ n : Nat, (∀ (l0 : Int32) (S : mS), F191f n 0 l0 S = some (r0, S0) → Go (am_X xs L9) (d + 0) 191 0 [.int l0] [] (mst S h) Q) := by
  intro n
  induction n with
  | zero => exact fun l0 S hf => (by cases hf)
  | succ n ih =>
    intro l0 S hf
    rw [F191e0] at hf
    unfold F191b0 at hf
    refine r_iload_n fe_191_0 rfl ?_
    by_cases hs1 : ((l0).toInt < 0 ∨ 9 < (l0).toInt)
    · rw [if_pos hs1] at hf
      refine r_tabO (t := 86) fe_191_1 hs1 (by decide) ?_
      refine r_ldcS fe_191_86 lk_12_184 ?_
      refine r_aretO fe_191_88 ?_
      exact dfin (P := fun r T => Q (some (.ref r)) (mst T h)) hf hQ
    · rw [if_neg hs1] at hf
      by_cases hx2 : l0 = 0
      · rw [if_pos hx2] at hf
        refine r_tabI (off := 55) (t := 56) fe_191_1 hs1 (by rw [hx2]; decide) (by decide) ?_
        refine r_ldcS fe_191_56 lk_12_164 ?_
        refine r_aretO fe_191_58 ?_
        exact dfin (P := fun r T => Q (some (.ref r)) (mst T h)) hf hQ
      · rw [if_neg hx2] at hf
        by_cases hx3 : l0 = 1
        · rw [if_pos hx3] at hf
          refine r_tabI (off := 58) (t := 59) fe_191_1 hs1 (by rw [hx3]; decide) (by decide) ?_
          refine r_ldcS fe_191_59 lk_12_166 ?_
          refine r_aretO fe_191_61 ?_
          exact dfin (P := fun r T => Q (some (.ref r)) (mst T h)) hf hQ
        · rw [if_neg hx3] at hf
          by_cases hx4 : l0 = 2
          · rw [if_pos hx4] at hf
            refine r_tabI (off := 61) (t := 62) fe_191_1 hs1 (by rw [hx4]; decide) (by decide) ?_
            refine r_ldcS fe_191_62 lk_12_168 ?_
            refine r_aretO fe_191_64 ?_
            exact dfin (P := fun r T => Q (some (.ref r)) (mst T h)) hf hQ
          · rw [if_neg hx4] at hf
            by_cases hx5 : l0 = 3
            · rw [if_pos hx5] at hf
              refine r_tabI (off := 64) (t := 65) fe_191_1 hs1 (by rw [hx5]; decide) (by decide) ?_
              refine r_ldcS fe_191_65 lk_12_170 ?_
              refine r_aretO fe_191_67 ?_
              exact dfin (P := fun r T => Q (some (.ref r)) (mst T h)) hf hQ
            · rw [if_neg hx5] at hf
              by_cases hx6 : l0 = 4
              · rw [if_pos hx6] at hf
                refine r_tabI (off := 67) (t := 68) fe_191_1 hs1 (by rw [hx6]; decide) (by decide) ?_
                refine r_ldcS fe_191_68 lk_12_172 ?_
                refine r_aretO fe_191_70 ?_
                exact dfin (P := fun r T => Q (some (.ref r)) (mst T h)) hf hQ
              · rw [if_neg hx6] at hf
                by_cases hx7 : l0 = 5
                · rw [if_pos hx7] at hf
                  refine r_tabI (off := 70) (t := 71) fe_191_1 hs1 (by rw [hx7]; decide) (by decide) ?_
                  refine r_ldcS fe_191_71 lk_12_174 ?_
                  refine r_aretO fe_191_73 ?_
                  exact dfin (P := fun r T => Q (some (.ref r)) (mst T h)) hf hQ
                · rw [if_neg hx7] at hf
                  by_cases hx8 : l0 = 6
                  · rw [if_pos hx8] at hf
                    refine r_tabI (off := 73) (t := 74) fe_191_1 hs1 (by rw [hx8]; decide) (by decide) ?_
                    refine r_ldcS fe_191_74 lk_12_176 ?_
                    refine r_aretO fe_191_76 ?_
                    exact dfin (P := fun r T => Q (some (.ref r)) (mst T h)) hf hQ
                  · rw [if_neg hx8] at hf
                    by_cases hx9 : l0 = 7
                    · rw [if_pos hx9] at hf
                      refine r_tabI (off := 76) (t := 77) fe_191_1 hs1 (by rw [hx9]; decide) (by decide) ?_
                      refine r_ldcS fe_191_77 lk_12_178 ?_
                      refine r_aretO fe_191_79 ?_
                      exact dfin (P := fun r T => Q (some (.ref r)) (mst T h)) hf hQ
                    · rw [if_neg hx9] at hf
                      by_cases hx10 : l0 = 8
                      · rw [if_pos hx10] at hf
                        refine r_tabI (off := 79) (t := 80) fe_191_1 hs1 (by rw [hx10]; decide) (by decide) ?_
                        refine r_ldcS fe_191_80 lk_12_180 ?_
                        refine r_aretO fe_191_82 ?_
                        exact dfin (P := fun r T => Q (some (.ref r)) (mst T h)) hf hQ
                      · rw [if_neg hx10] at hf
                        by_cases hx11 : l0 = 9
                        · rw [if_pos hx11] at hf
                          refine r_tabI (off := 82) (t := 83) fe_191_1 hs1 (by rw [hx11]; decide) (by decide) ?_
                          refine r_ldcS fe_191_83 lk_12_182 ?_
                          refine r_aretO fe_191_85 ?_
                          exact dfin (P := fun r T => Q (some (.ref r)) (mst T h)) hf hQ
                        · rw [if_neg hx11] at hf
                          cases hf
theorem F191c {xs : Nat → Int32} {L9 d n : Nat} {h : AmH} {Q : Option Value → AmH → Prop} {r0 : Nat} {S0 S : mS} {l0 : Int32} (hh : 172 ≤ h.2.1) (hf : F191 n l0 S = some (r0, S0)) (hQ : Q (some (.ref r0)) (mst S0 h)) : Ca (am_X xs L9) (d + 0) 191 [.int l0] (mst S h) Q := (F191l hh hQ n) l0 S hf
