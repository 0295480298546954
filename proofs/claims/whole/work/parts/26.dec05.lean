def F228b0 (F : Nat → Int32 → Int32 → Int32 → mS → Option (Int32 × mS)) (n : Nat) (l0 : Int32) (l1 : Int32) (l2 : Int32) (S : mS) : Option (Int32 × mS) := F 4 l0 1 0 S
def F228b4 (F : Nat → Int32 → Int32 → Int32 → mS → Option (Int32 × mS)) (n : Nat) (l0 : Int32) (l1 : Int32) (l2 : Int32) (S : mS) : Option (Int32 × mS) := (if am_ic .ge l2 l0 = true then some (l1, S) else F 4 l0 (l1 * 10) (l2 + 1) S)
def F228f : Nat → Nat → Int32 → Int32 → Int32 → mS → Option (Int32 × mS)
  | 0, _, _, _, _, _ => none
  | n + 1, c, l0, l1, l2, S => if c = 0 then F228b0 (F228f n) n l0 l1 l2 S else F228b4 (F228f n) n l0 l1 l2 S
theorem F228e0 (n : Nat) (l0 : Int32) (l1 : Int32) (l2 : Int32) (S : mS) : F228f (n + 1) 0 l0 l1 l2 S = F228b0 (F228f n) n l0 l1 l2 S := if_pos rfl
theorem F228e4 (n : Nat) (l0 : Int32) (l1 : Int32) (l2 : Int32) (S : mS) : F228f (n + 1) 4 l0 l1 l2 S = F228b4 (F228f n) n l0 l1 l2 S := if_neg (by decide)
def F228 (n : Nat) (l0 : Int32) (S : mS) : Option (Int32 × mS) := F228f n 0 l0 0 0 S
set_option maxRecDepth 20000 in
set_option maxHeartbeats 2000000 in
theorem F228l {xs : Nat → Int32} {L9 d : Nat} {h : AmH} {Q : Option Value → AmH → Prop} {r0 : Int32} {S0 : mS} (hh : 172 ≤ h.2.1) (hQ : Q (some (.int r0)) (mst S0 h)) : ∀ n : Nat, (∀ (l0 : Int32) (l1 : Int32) (l2 : Int32) (S : mS), F228f n 0 l0 l1 l2 S = some (r0, S0) → Go (am_X xs L9) (d + 0) 228 0 [.int l0, .float 0, .float 0] [] (mst S h) Q) ∧ (∀ (l0 : Int32) (l1 : Int32) (l2 : Int32) (S : mS), F228f n 4 l0 l1 l2 S = some (r0, S0) → Go (am_X xs L9) (d + 0) 228 4 [.int l0, .int l1, .int l2] [] (mst S h) Q) := by
  intro n
  induction n with
  | zero => exact ⟨fun l0 l1 l2 S hf => (by cases hf), fun l0 l1 l2 S hf => (by cases hf)⟩
  | succ n ih =>
    refine ⟨?_, ?_⟩
    · intro l0 l1 l2 S hf
      rw [F228e0] at hf
      unfold F228b0 at hf
      refine r_iconst (v := 1) fe_228_0 (by decide) ?_
      refine r_istore_n fe_228_1 (Nat.le_of_ble_eq_true rfl) rfl ?_
      refine r_iconst (v := 0) fe_228_2 (by decide) ?_
      refine r_istore_n fe_228_3 (Nat.le_of_ble_eq_true rfl) rfl ?_
      refine go_weak (L0 := [.int l0, .int 1, .int 0]) (lwk_c (Or.inl rfl) (lwk_c (Or.inl rfl) (lwk_c (Or.inl rfl) (lwk_rf [])))) ?_
      exact ih.2 l0 1 0 S hf
    · intro l0 l1 l2 S hf
      rw [F228e4] at hf
      unfold F228b4 at hf
      refine r_iload_n fe_228_4 rfl ?_
      refine r_iload_n fe_228_5 rfl ?_
      by_cases hb1 : am_ic .ge l2 l0 = true
      · rw [if_pos hb1] at hf
        refine r_ic_t (t := 20) fe_228_6 (by decide) hb1 ?_
        refine r_iload_n fe_228_20 rfl ?_
        refine r_iret fe_228_21 ⟨rfl, by decide⟩ ?_
        exact dfin (P := fun r T => Q (some (.int r)) (mst T h)) hf hQ
      · rw [if_neg hb1] at hf
        refine r_ic_f (t := 20) fe_228_6 (by decide) (Bool.eq_false_iff.mpr hb1) ?_
        refine r_iload_n fe_228_9 rfl ?_
        refine r_bipush (v := 10) fe_228_10 (by decide) ?_
        refine r_imul (v := (l1 * 10)) fe_228_12 rfl ?_
        refine r_istore_n fe_228_13 (Nat.le_of_ble_eq_true rfl) rfl ?_
        refine r_iinc (v := (l2 + 1)) fe_228_14 rfl rfl rfl ?_
        refine r_goto (t := 4) fe_228_17 (by decide) ?_
        refine go_weak (L0 := [.int l0, .int (l1 * 10), .int (l2 + 1)]) (lwk_c (Or.inl rfl) (lwk_c (Or.inl rfl) (lwk_c (Or.inl rfl) (lwk_rf [])))) ?_
        exact ih.2 l0 (l1 * 10) (l2 + 1) S hf
theorem F228c {xs : Nat → Int32} {L9 d n : Nat} {h : AmH} {Q : Option Value → AmH → Prop} {r0 : Int32} {S0 S : mS} {l0 : Int32} (hh : 172 ≤ h.2.1) (hf : F228 n l0 S = some (r0, S0)) (hQ : Q (some (.int r0)) (mst S0 h)) : Ca (am_X xs L9) (d + 0) 228 [.int l0] (mst S h) Q := (F228l hh hQ n).1 l0 0 0 S hf
def F219b0 (F : Nat → Int32 → Int32 → Int32 → Int32 → mS → Option (Int32 × mS)) (n : Nat) (l1 : Int32) (l2 : Int32) (l3 : Int32) (l4 : Int32) (S : mS) : Option (Int32 × mS) := ((F201 n l1 S).bind (fun z1 => F 8 0 z1.1 0 0 z1.2))
def F219b8 (F : Nat → Int32 → Int32 → Int32 → Int32 → mS → Option (Int32 × mS)) (n : Nat) (l1 : Int32) (l2 : Int32) (l3 : Int32) (l4 : Int32) (S : mS) : Option (Int32 × mS) := (if am_ic .ge l3 (S.2.1 1 4) = true then some (0, S) else F 23 0 l2 l3 (l3 + 1) S)
def F219b23 (F : Nat → Int32 → Int32 → Int32 → Int32 → mS → Option (Int32 × mS)) (n : Nat) (l1 : Int32) (l2 : Int32) (l3 : Int32) (l4 : Int32) (S : mS) : Option (Int32 × mS) := (if am_ic .ge l4 (S.2.1 1 4) = true then F 8 0 l2 (l3 + 1) 0 S else ((F199 n l2 l3 S).bind (fun z5 => (if am_if .eq z5.1 = true then F 23 0 l2 l3 (l4 + 1) z5.2 else ((F199 n l2 l4 z5.2).bind (fun z8 => (if am_if .eq z8.1 = true then F 23 0 l2 l3 (l4 + 1) z8.2 else ((F220 n l3 l4 z8.2).bind (fun z11 => (if am_if .eq z11.1 = true then F 23 0 l2 l3 (l4 + 1) z11.2 else (if ¬ (l3 < 0 ∨ 13 ≤ (l3).toNatClampNeg) then (if ¬ (l4 < 0 ∨ 13 ≤ (l4).toNatClampNeg) then ((F217 n (z11.2.2.1 11 (Int32.toNatClampNeg l4)) z11.2).bind (fun z16 => ((F228 n z16.1 z16.2).bind (fun z18 => (if ¬ (l4 < 0 ∨ 13 ≤ (l4).toNatClampNeg) then (if ¬ (l3 < 0 ∨ 13 ≤ (l3).toNatClampNeg) then ((F216 n l4 3 l3 (m_sA z18.2 11 (Int32.toNatClampNeg l3) (((z11.2.2.1 11 (Int32.toNatClampNeg l3)) * z18.1) + (z18.2.2.1 11 (Int32.toNatClampNeg l4))))).bind (fun z22 => some (1, z22.2))) else none) else none))))) else none) else none)))))))))))
def F219f : Nat → Nat → Int32 → Int32 → Int32 → Int32 → mS → Option (Int32 × mS)
  | 0, _, _, _, _, _, _ => none
  | n + 1, c, l1, l2, l3, l4, S => if c = 0 then F219b0 (F219f n) n l1 l2 l3 l4 S else if c = 8 then F219b8 (F219f n) n l1 l2 l3 l4 S else F219b23 (F219f n) n l1 l2 l3 l4 S
theorem F219e0 (n : Nat) (l1 : Int32) (l2 : Int32) (l3 : Int32) (l4 : Int32) (S : mS) : F219f (n + 1) 0 l1 l2 l3 l4 S = F219b0 (F219f n) n l1 l2 l3 l4 S := if_pos rfl
theorem F219e8 (n : Nat) (l1 : Int32) (l2 : Int32) (l3 : Int32) (l4 : Int32) (S : mS) : F219f (n + 1) 8 l1 l2 l3 l4 S = F219b8 (F219f n) n l1 l2 l3 l4 S := (if_neg (by decide)).trans (if_pos rfl)
theorem F219e23 (n : Nat) (l1 : Int32) (l2 : Int32) (l3 : Int32) (l4 : Int32) (S : mS) : F219f (n + 1) 23 l1 l2 l3 l4 S = F219b23 (F219f n) n l1 l2 l3 l4 S := (if_neg (by decide)).trans (if_neg (by decide))
def F219 (n : Nat) (l1 : Int32) (S : mS) : Option (Int32 × mS) := F219f n 0 l1 0 0 0 S
set_option maxRecDepth 20000 in
set_option maxHeartbeats 2000000 in
theorem F219l {xs : Nat → Int32} {L9 d : Nat} {h : AmH} {Q : Option Value → AmH → Prop} {r0 : Int32} {S0 : mS} (hh : 172 ≤ h.2.1) (hQ : Q (some (.int r0)) (mst S0 h)) : ∀ n : Nat, (∀ (l1 : Int32) (l2 : Int32) (l3 : Int32) (l4 : Int32) (S : mS), F219f n 0 l1 l2 l3 l4 S = some (r0, S0) → Go (am_X xs L9) (d + 5) 219 0 [.ref 130, .int l1, .float 0, .float 0, .float 0] [] (mst S h) Q) ∧ (∀ (l1 : Int32) (l2 : Int32) (l3 : Int32) (l4 : Int32) (S : mS), F219f n 8 l1 l2 l3 l4 S = some (r0, S0) → Go (am_X xs L9) (d + 5) 219 8 [.ref 130, .float 0, .int l2, .int l3, .float 0] [] (mst S h) Q) ∧ (∀ (l1 : Int32) (l2 : Int32) (l3 : Int32) (l4 : Int32) (S : mS), F219f n 23 l1 l2 l3 l4 S = some (r0, S0) → Go (am_X xs L9) (d + 5) 219 23 [.ref 130, .float 0, .int l2, .int l3, .int l4] [] (mst S h) Q) := by
  intro n
  induction n with
  | zero => exact ⟨fun l1 l2 l3 l4 S hf => (by cases hf), fun l1 l2 l3 l4 S hf => (by cases hf), fun l1 l2 l3 l4 S hf => (by cases hf)⟩
  | succ n ih =>
    refine ⟨?_, ?_, ?_⟩
    · intro l1 l2 l3 l4 S hf
      rw [F219e0] at hf
      unfold F219b0 at hf
      refine r_aload_n fe_219_0 rfl ?_
      refine r_iload_n fe_219_1 rfl ?_
      refine r_callV (as := [.int l1]) (r := []) fe_219_2 lm_12_393 md_201 rfl rfl (Nat.le_of_ble_eq_true rfl) m_c_0 (m_lt hh (by decide)) (Nat.le_of_ble_eq_true rfl) (Nat.le_of_ble_eq_true rfl) ?_
      cases hc2 : F201 n l1 S with
      | none => rw [hc2] at hf; cases hf
      | some z1 =>
        rw [hc2, Option.bind_some] at hf
        refine F201c (r0 := z1.1) (S0 := z1.2) hh hc2 ?_
        refine r_istore_n fe_219_5 (Nat.le_of_ble_eq_true rfl) rfl ?_
        refine r_iconst (v := 0) fe_219_6 (by decide) ?_
        refine r_istore_n fe_219_7 (Nat.le_of_ble_eq_true rfl) rfl ?_
        refine go_weak (L0 := [.ref 130, .float 0, .int z1.1, .int 0, .float 0]) (lwk_c (Or.inl rfl) (lwk_c (Or.inr rfl) (lwk_c (Or.inl rfl) (lwk_c (Or.inl rfl) (lwk_c (Or.inl rfl) (lwk_rf [])))))) ?_
        exact ih.2.1 0 z1.1 0 0 z1.2 hf
    · intro l1 l2 l3 l4 S hf
      rw [F219e8] at hf
      unfold F219b8 at hf
      refine r_iload_n fe_219_8 rfl ?_
      refine r_aload_n fe_219_9 rfl ?_
      refine mr_getf hh fe_219_10 lf_12_9 rfl ?_
      refine r_iconst (v := 4) fe_219_13 (by decide) ?_
      refine r_iald (j := 4) (v := S.2.1 1 4) fe_219_14 m_c_1 (m_lt hh (by decide)) (by decide) (by decide) (by decide) rfl ?_
      by_cases hb3 : am_ic .ge l3 (S.2.1 1 4) = true
      · rw [if_pos hb3] at hf
        refine r_ic_t (t := 117) fe_219_15 (by decide) hb3 ?_
        refine r_iconst (v := 0) fe_219_117 (by decide) ?_
        refine r_iret fe_219_118 ⟨rfl, by decide⟩ ?_
        exact dfin (P := fun r T => Q (some (.int r)) (mst T h)) hf hQ
      · rw [if_neg hb3] at hf
        refine r_ic_f (t := 117) fe_219_15 (by decide) (Bool.eq_false_iff.mpr hb3) ?_
        refine r_iload_n fe_219_18 rfl ?_
        refine r_iconst (v := 1) fe_219_19 (by decide) ?_
        refine r_iadd (v := (l3 + 1)) fe_219_20 rfl ?_
        refine r_istore fe_219_21 (Nat.le_of_ble_eq_true rfl) rfl ?_
        refine go_weak (L0 := [.ref 130, .float 0, .int l2, .int l3, .int (l3 + 1)]) (lwk_c (Or.inl rfl) (lwk_c (Or.inl rfl) (lwk_c (Or.inl rfl) (lwk_c (Or.inl rfl) (lwk_c (Or.inl rfl) (lwk_rf [])))))) ?_
        exact ih.2.2 0 l2 l3 (l3 + 1) S hf
    · intro l1 l2 l3 l4 S hf
      rw [F219e23] at hf
      unfold F219b23 at hf
      refine r_iload fe_219_23 rfl ?_
      refine r_aload_n fe_219_25 rfl ?_
      refine mr_getf hh fe_219_26 lf_12_9 rfl ?_
      refine r_iconst (v := 4) fe_219_29 (by decide) ?_
      refine r_iald (j := 4) (v := S.2.1 1 4) fe_219_30 m_c_1 (m_lt hh (by decide)) (by decide) (by decide) (by decide) rfl ?_
      by_cases hb4 : am_ic .ge l4 (S.2.1 1 4) = true
      · rw [if_pos hb4] at hf
        refine r_ic_t (t := 111) fe_219_31 (by decide) hb4 ?_
        refine r_iinc (v := (l3 + 1)) fe_219_111 rfl rfl rfl ?_
        refine r_goto (t := 8) fe_219_114 (by decide) ?_
        refine go_weak (L0 := [.ref 130, .float 0, .int l2, .int (l3 + 1), .float 0]) (lwk_c (Or.inl rfl) (lwk_c (Or.inl rfl) (lwk_c (Or.inl rfl) (lwk_c (Or.inl rfl) (lwk_c (Or.inr rfl) (lwk_rf [])))))) ?_
        exact ih.2.1 0 l2 (l3 + 1) 0 S hf
      · rw [if_neg hb4] at hf
        refine r_ic_f (t := 111) fe_219_31 (by decide) (Bool.eq_false_iff.mpr hb4) ?_
        refine r_iload_n fe_219_34 rfl ?_
        refine r_iload_n fe_219_35 rfl ?_
        refine r_callS (as := [.int l2, .int l3]) (r := []) fe_219_36 lm_12_387 md_199 rfl rfl (Nat.le_of_ble_eq_true rfl) (Nat.le_of_ble_eq_true rfl) (Nat.le_of_ble_eq_true rfl) ?_
        cases hc6 : F199 n l2 l3 S with
        | none => rw [hc6] at hf; cases hf
        | some z5 =>
          rw [hc6, Option.bind_some] at hf
          refine F199c (r0 := z5.1) (S0 := z5.2) hh hc6 ?_
          by_cases hb7 : am_if .eq z5.1 = true
          · rw [if_pos hb7] at hf
            refine r_if_t (t := 105) fe_219_39 (by decide) hb7 ?_
            refine r_iinc (v := (l4 + 1)) fe_219_105 rfl rfl rfl ?_
            refine r_goto (t := 23) fe_219_108 (by decide) ?_
            refine go_weak (L0 := [.ref 130, .float 0, .int l2, .int l3, .int (l4 + 1)]) (lwk_c (Or.inl rfl) (lwk_c (Or.inl rfl) (lwk_c (Or.inl rfl) (lwk_c (Or.inl rfl) (lwk_c (Or.inl rfl) (lwk_rf [])))))) ?_
            exact ih.2.2 0 l2 l3 (l4 + 1) z5.2 hf
          · rw [if_neg hb7] at hf
            refine r_if_f (t := 105) fe_219_39 (by decide) (Bool.eq_false_iff.mpr hb7) ?_
            refine r_iload_n fe_219_42 rfl ?_
            refine r_iload fe_219_43 rfl ?_
            refine r_callS (as := [.int l2, .int l4]) (r := []) fe_219_45 lm_12_387 md_199 rfl rfl (Nat.le_of_ble_eq_true rfl) (Nat.le_of_ble_eq_true rfl) (Nat.le_of_ble_eq_true rfl) ?_
            cases hc9 : F199 n l2 l4 z5.2 with
            | none => rw [hc9] at hf; cases hf
            | some z8 =>
              rw [hc9, Option.bind_some] at hf
              refine F199c (r0 := z8.1) (S0 := z8.2) hh hc9 ?_
              by_cases hb10 : am_if .eq z8.1 = true
              · rw [if_pos hb10] at hf
                refine r_if_t (t := 105) fe_219_48 (by decide) hb10 ?_
                refine r_iinc (v := (l4 + 1)) fe_219_105 rfl rfl rfl ?_
                refine r_goto (t := 23) fe_219_108 (by decide) ?_
                refine go_weak (L0 := [.ref 130, .float 0, .int l2, .int l3, .int (l4 + 1)]) (lwk_c (Or.inl rfl) (lwk_c (Or.inl rfl) (lwk_c (Or.inl rfl) (lwk_c (Or.inl rfl) (lwk_c (Or.inl rfl) (lwk_rf [])))))) ?_
                exact ih.2.2 0 l2 l3 (l4 + 1) z8.2 hf
              · rw [if_neg hb10] at hf
                refine r_if_f (t := 105) fe_219_48 (by decide) (Bool.eq_false_iff.mpr hb10) ?_
                refine r_aload_n fe_219_51 rfl ?_
                refine r_iload_n fe_219_52 rfl ?_
                refine r_iload fe_219_53 rfl ?_
                refine r_callV (as := [.int l3, .int l4]) (r := []) fe_219_55 lm_12_421 md_220 rfl rfl (Nat.le_of_ble_eq_true rfl) m_c_0 (m_lt hh (by decide)) (Nat.le_of_ble_eq_true rfl) (Nat.le_of_ble_eq_true rfl) ?_
                cases hc12 : F220 n l3 l4 z8.2 with
                | none => rw [hc12] at hf; cases hf
                | some z11 =>
                  rw [hc12, Option.bind_some] at hf
                  refine F220c (r0 := z11.1) (S0 := z11.2) hh hc12 ?_
                  by_cases hb13 : am_if .eq z11.1 = true
                  · rw [if_pos hb13] at hf
                    refine r_if_t (t := 105) fe_219_58 (by decide) hb13 ?_
                    refine r_iinc (v := (l4 + 1)) fe_219_105 rfl rfl rfl ?_
                    refine r_goto (t := 23) fe_219_108 (by decide) ?_
                    refine go_weak (L0 := [.ref 130, .float 0, .int l2, .int l3, .int (l4 + 1)]) (lwk_c (Or.inl rfl) (lwk_c (Or.inl rfl) (lwk_c (Or.inl rfl) (lwk_c (Or.inl rfl) (lwk_c (Or.inl rfl) (lwk_rf [])))))) ?_
                    exact ih.2.2 0 l2 l3 (l4 + 1) z11.2 hf
                  · rw [if_neg hb13] at hf
                    refine r_if_f (t := 105) fe_219_58 (by decide) (Bool.eq_false_iff.mpr hb13) ?_
                    refine r_aload_n fe_219_61 rfl ?_
                    refine mr_getf hh fe_219_62 lf_12_40 rfl ?_
                    refine r_iload_n fe_219_65 rfl ?_
                    refine r_aload_n fe_219_66 rfl ?_
                    refine mr_getf hh fe_219_67 lf_12_40 rfl ?_
                    refine r_iload_n fe_219_70 rfl ?_
                    by_cases hg14 : ¬ (l3 < 0 ∨ 13 ≤ (l3).toNatClampNeg)
                    rotate_left
                    · rw [if_neg hg14] at hf; cases hf
                    rw [if_pos hg14] at hf
                    refine r_iald (j := (Int32.toNatClampNeg l3)) (v := z11.2.2.1 11 (Int32.toNatClampNeg l3)) fe_219_71 m_c_11 (m_lt hh (by decide)) (fun z => hg14 (Or.inl z)) rfl (fun z => hg14 (Or.inr z)) rfl ?_
                    refine r_aload_n fe_219_72 rfl ?_
                    refine mr_getf hh fe_219_73 lf_12_40 rfl ?_
                    refine r_iload fe_219_76 rfl ?_
                    by_cases hg15 : ¬ (l4 < 0 ∨ 13 ≤ (l4).toNatClampNeg)
                    rotate_left
                    · rw [if_neg hg15] at hf; cases hf
                    rw [if_pos hg15] at hf
                    refine r_iald (j := (Int32.toNatClampNeg l4)) (v := z11.2.2.1 11 (Int32.toNatClampNeg l4)) fe_219_78 m_c_11 (m_lt hh (by decide)) (fun z => hg15 (Or.inl z)) rfl (fun z => hg15 (Or.inr z)) rfl ?_
                    refine r_callS (as := [.int (z11.2.2.1 11 (Int32.toNatClampNeg l4))]) (r := [.int (z11.2.2.1 11 (Int32.toNatClampNeg l3)), .int l3, .ref 141]) fe_219_79 lm_12_151 md_217 rfl rfl (Nat.le_of_ble_eq_true rfl) (Nat.le_of_ble_eq_true rfl) (Nat.le_of_ble_eq_true rfl) ?_
                    cases hc17 : F217 n (z11.2.2.1 11 (Int32.toNatClampNeg l4)) z11.2 with
                    | none => rw [hc17] at hf; cases hf
                    | some z16 =>
                      rw [hc17, Option.bind_some] at hf
                      refine F217c (r0 := z16.1) (S0 := z16.2) hh hc17 ?_
                      refine r_callS (as := [.int z16.1]) (r := [.int (z11.2.2.1 11 (Int32.toNatClampNeg l3)), .int l3, .ref 141]) fe_219_82 lm_12_424 md_228 rfl rfl (Nat.le_of_ble_eq_true rfl) (Nat.le_of_ble_eq_true rfl) (Nat.le_of_ble_eq_true rfl) ?_
                      cases hc19 : F228 n z16.1 z16.2 with
                      | none => rw [hc19] at hf; cases hf
                      | some z18 =>
                        rw [hc19, Option.bind_some] at hf
                        refine F228c (r0 := z18.1) (S0 := z18.2) hh hc19 ?_
                        refine r_imul (v := ((z11.2.2.1 11 (Int32.toNatClampNeg l3)) * z18.1)) fe_219_85 rfl ?_
                        refine r_aload_n fe_219_86 rfl ?_
                        refine mr_getf hh fe_219_87 lf_12_40 rfl ?_
                        refine r_iload fe_219_90 rfl ?_
                        by_cases hg20 : ¬ (l4 < 0 ∨ 13 ≤ (l4).toNatClampNeg)
                        rotate_left
                        · rw [if_neg hg20] at hf; cases hf
                        rw [if_pos hg20] at hf
                        refine r_iald (j := (Int32.toNatClampNeg l4)) (v := z18.2.2.1 11 (Int32.toNatClampNeg l4)) fe_219_92 m_c_11 (m_lt hh (by decide)) (fun z => hg20 (Or.inl z)) rfl (fun z => hg20 (Or.inr z)) rfl ?_
                        refine r_iadd (v := (((z11.2.2.1 11 (Int32.toNatClampNeg l3)) * z18.1) + (z18.2.2.1 11 (Int32.toNatClampNeg l4)))) fe_219_93 rfl ?_
                        by_cases hg21 : ¬ (l3 < 0 ∨ 13 ≤ (l3).toNatClampNeg)
                        rotate_left
                        · rw [if_neg hg21] at hf; cases hf
                        rw [if_pos hg21] at hf
                        refine mr_iast (k := 11) (n := 13) (j := (Int32.toNatClampNeg l3)) hh fe_219_94 rfl (by decide) (by decide) rfl rfl (fun z => hg21 (Or.inl z)) rfl (fun z => hg21 (Or.inr z)) ?_
                        refine r_aload_n fe_219_95 rfl ?_
                        refine r_iload fe_219_96 rfl ?_
                        refine r_iconst (v := 3) fe_219_98 (by decide) ?_
                        refine r_iload_n fe_219_99 rfl ?_
                        refine r_callV (as := [.int l4, .int 3, .int l3]) (r := []) fe_219_100 lm_12_402 md_216 rfl rfl (Nat.le_of_ble_eq_true rfl) m_c_0 (m_lt hh (by decide)) (Nat.le_of_ble_eq_true rfl) (Nat.le_of_ble_eq_true rfl) ?_
                        cases hc23 : F216 n l4 3 l3 (m_sA z18.2 11 (Int32.toNatClampNeg l3) (((z11.2.2.1 11 (Int32.toNatClampNeg l3)) * z18.1) + (z18.2.2.1 11 (Int32.toNatClampNeg l4)))) with
                        | none => rw [hc23] at hf; cases hf
                        | some z22 =>
                          rw [hc23, Option.bind_some] at hf
                          refine F216c (r0 := z22.1) (S0 := z22.2) hh hc23 ?_
                          refine r_iconst (v := 1) fe_219_103 (by decide) ?_
                          refine r_iret fe_219_104 ⟨rfl, by decide⟩ ?_
                          exact dfin (P := fun r T => Q (some (.int r)) (mst T h)) hf hQ
theorem F219c {xs : Nat → Int32} {L9 d n : Nat} {h : AmH} {Q : Option Value → AmH → Prop} {r0 : Int32} {S0 S : mS} {l1 : Int32} (hh : 172 ≤ h.2.1) (hf : F219 n l1 S = some (r0, S0)) (hQ : Q (some (.int r0)) (mst S0 h)) : Ca (am_X xs L9) (d + 5) 219 [.ref 130, .int l1] (mst S h) Q := (F219l hh hQ n).1 l1 0 0 0 S hf
def F212b0 (F : Nat → Int32 → Int32 → Int32 → mS → Option (Int32 × mS)) (n : Nat) (l1 : Int32) (l2 : Int32) (l3 : Int32) (S : mS) : Option (Int32 × mS) := ((F213 n  S).bind (fun z1 => F 7 z1.1 0 0 z1.2))
def F212b7 (F : Nat → Int32 → Int32 → Int32 → mS → Option (Int32 × mS)) (n : Nat) (l1 : Int32) (l2 : Int32) (l3 : Int32) (S : mS) : Option (Int32 × mS) := (if am_ic .ge l2 (S.2.1 1 4) = true then F 38 l1 0 0 S else ((F202 n l2 S).bind (fun z4 => (if am_if .eq z4.1 = true then F 7 l1 (l2 + 1) 0 z4.2 else ((F214 n l2 z4.2).bind (fun z7 => F 7 l1 (l2 + 1) 0 z7.2))))))
def F212b38 (F : Nat → Int32 → Int32 → Int32 → mS → Option (Int32 × mS)) (n : Nat) (l1 : Int32) (l2 : Int32) (l3 : Int32) (S : mS) : Option (Int32 × mS) := (if am_ic .ge l2 (S.2.1 1 0) = true then ((F229 n  S).bind (fun z10 => ((F213 n  (m_sA z10.2 1 6 ((z10.2.2.1 1 6) + 1))).bind (fun z12 => ((F223 n (l1 &&& (z12.1 ^^^ (-1))) z12.2).bind (fun z14 => some (z14.1, z14.2))))))) else F 50 l1 l2 1 S)
def F212b50 (F : Nat → Int32 → Int32 → Int32 → mS → Option (Int32 × mS)) (n : Nat) (l1 : Int32) (l2 : Int32) (l3 : Int32) (S : mS) : Option (Int32 × mS) := (if am_if .eq l3 = true then F 38 l1 (l2 + 1) 0 S else ((F219 n l2 S).bind (fun z17 => F 50 l1 l2 z17.1 z17.2)))
def F212f : Nat → Nat → Int32 → Int32 → Int32 → mS → Option (Int32 × mS)
  | 0, _, _, _, _, _ => none
  | n + 1, c, l1, l2, l3, S => if c = 0 then F212b0 (F212f n) n l1 l2 l3 S else if c = 7 then F212b7 (F212f n) n l1 l2 l3 S else if c = 38 then F212b38 (F212f n) n l1 l2 l3 S else F212b50 (F212f n) n l1 l2 l3 S
theorem F212e0 (n : Nat) (l1 : Int32) (l2 : Int32) (l3 : Int32) (S : mS) : F212f (n + 1) 0 l1 l2 l3 S = F212b0 (F212f n) n l1 l2 l3 S := if_pos rfl
theorem F212e7 (n : Nat) (l1 : Int32) (l2 : Int32) (l3 : Int32) (S : mS) : F212f (n + 1) 7 l1 l2 l3 S = F212b7 (F212f n) n l1 l2 l3 S := (if_neg (by decide)).trans (if_pos rfl)
theorem F212e38 (n : Nat) (l1 : Int32) (l2 : Int32) (l3 : Int32) (S : mS) : F212f (n + 1) 38 l1 l2 l3 S = F212b38 (F212f n) n l1 l2 l3 S := (if_neg (by decide)).trans ((if_neg (by decide)).trans (if_pos rfl))
theorem F212e50 (n : Nat) (l1 : Int32) (l2 : Int32) (l3 : Int32) (S : mS) : F212f (n + 1) 50 l1 l2 l3 S = F212b50 (F212f n) n l1 l2 l3 S := (if_neg (by decide)).trans ((if_neg (by decide)).trans (if_neg (by decide)))
def F212 (n : Nat)  (S : mS) : Option (Int32 × mS) := F212f n 0 0 0 0 S
set_option maxRecDepth 20000 in
set_option maxHeartbeats 2000000 in
theorem F212l {xs : Nat → Int32} {L9 d : Nat} {h : AmH} {Q : Option Value → AmH → Prop} {r0 : Int32} {S0 : mS} (hh : 172 ≤ h.2.1) (hQ : Q (some (.int r0)) (mst S0 h)) : ∀ n : Nat, (∀ (l1 : Int32) (l2 : Int32) (l3 : Int32) (S : mS), F212f n 0 l1 l2 l3 S = some (r0, S0) → Go (am_X xs L9) (d + 6) 212 0 [.ref 130, .float 0, .float 0, .float 0] [] (mst S h) Q) ∧ (∀ (l1 : Int32) (l2 : Int32) (l3 : Int32) (S : mS), F212f n 7 l1 l2 l3 S = some (r0, S0) → Go (am_X xs L9) (d + 6) 212 7 [.ref 130, .int l1, .int l2, .float 0] [] (mst S h) Q) ∧ (∀ (l1 : Int32) (l2 : Int32) (l3 : Int32) (S : mS), F212f n 38 l1 l2 l3 S = some (r0, S0) → Go (am_X xs L9) (d + 6) 212 38 [.ref 130, .int l1, .int l2, .float 0] [] (mst S h) Q) ∧ (∀ (l1 : Int32) (l2 : Int32) (l3 : Int32) (S : mS), F212f n 50 l1 l2 l3 S = some (r0, S0) → Go (am_X xs L9) (d + 6) 212 50 [.ref 130, .int l1, .int l2, .int l3] [] (mst S h) Q) := by
  intro n
  induction n with
  | zero => exact ⟨fun l1 l2 l3 S hf => (by cases hf), fun l1 l2 l3 S hf => (by cases hf), fun l1 l2 l3 S hf => (by cases hf), fun l1 l2 l3 S hf => (by cases hf)⟩
  | succ n ih =>
    refine ⟨?_, ?_, ?_, ?_⟩
    · intro l1 l2 l3 S hf
      rw [F212e0] at hf
      unfold F212b0 at hf
      refine r_aload_n fe_212_0 rfl ?_
      refine r_callV (as := []) (r := []) fe_212_1 lm_12_427 md_213 rfl rfl (Nat.le_of_ble_eq_true rfl) m_c_0 (m_lt hh (by decide)) (Nat.le_of_ble_eq_true rfl) (Nat.le_of_ble_eq_true rfl) ?_
      cases hc2 : F213 n  S with
      | none => rw [hc2] at hf; cases hf
      | some z1 =>
        rw [hc2, Option.bind_some] at hf
        refine F213c (r0 := z1.1) (S0 := z1.2) hh hc2 ?_
        refine r_istore_n fe_212_4 (Nat.le_of_ble_eq_true rfl) rfl ?_
        refine r_iconst (v := 0) fe_212_5 (by decide) ?_
        refine r_istore_n fe_212_6 (Nat.le_of_ble_eq_true rfl) rfl ?_
        refine go_weak (L0 := [.ref 130, .int z1.1, .int 0, .float 0]) (lwk_c (Or.inl rfl) (lwk_c (Or.inl rfl) (lwk_c (Or.inl rfl) (lwk_c (Or.inl rfl) (lwk_rf []))))) ?_
        exact ih.2.1 z1.1 0 0 z1.2 hf
    · intro l1 l2 l3 S hf
      rw [F212e7] at hf
      unfold F212b7 at hf
      refine r_iload_n fe_212_7 rfl ?_
      refine r_aload_n fe_212_8 rfl ?_
      refine mr_getf hh fe_212_9 lf_12_9 rfl ?_
      refine r_iconst (v := 4) fe_212_12 (by decide) ?_
      refine r_iald (j := 4) (v := S.2.1 1 4) fe_212_13 m_c_1 (m_lt hh (by decide)) (by decide) (by decide) (by decide) rfl ?_
      by_cases hb3 : am_ic .ge l2 (S.2.1 1 4) = true
      · rw [if_pos hb3] at hf
        refine r_ic_t (t := 36) fe_212_14 (by decide) hb3 ?_
        refine r_iconst (v := 0) fe_212_36 (by decide) ?_
        refine r_istore_n fe_212_37 (Nat.le_of_ble_eq_true rfl) rfl ?_
        refine go_weak (L0 := [.ref 130, .int l1, .int 0, .float 0]) (lwk_c (Or.inl rfl) (lwk_c (Or.inl rfl) (lwk_c (Or.inl rfl) (lwk_c (Or.inl rfl) (lwk_rf []))))) ?_
        exact ih.2.2.1 l1 0 0 S hf
      · rw [if_neg hb3] at hf
        refine r_ic_f (t := 36) fe_212_14 (by decide) (Bool.eq_false_iff.mpr hb3) ?_
        refine r_aload_n fe_212_17 rfl ?_
        refine r_iload_n fe_212_18 rfl ?_
        refine r_callV (as := [.int l2]) (r := []) fe_212_19 lm_12_374 md_202 rfl rfl (Nat.le_of_ble_eq_true rfl) m_c_0 (m_lt hh (by decide)) (Nat.le_of_ble_eq_true rfl) (Nat.le_of_ble_eq_true rfl) ?_
        cases hc5 : F202 n l2 S with
        | none => rw [hc5] at hf; cases hf
        | some z4 =>
          rw [hc5, Option.bind_some] at hf
          refine F202c (r0 := z4.1) (S0 := z4.2) hh hc5 ?_
          by_cases hb6 : am_if .eq z4.1 = true
          · rw [if_pos hb6] at hf
            refine r_if_t (t := 30) fe_212_22 (by decide) hb6 ?_
            refine r_iinc (v := (l2 + 1)) fe_212_30 rfl rfl rfl ?_
            refine r_goto (t := 7) fe_212_33 (by decide) ?_
            refine go_weak (L0 := [.ref 130, .int l1, .int (l2 + 1), .float 0]) (lwk_c (Or.inl rfl) (lwk_c (Or.inl rfl) (lwk_c (Or.inl rfl) (lwk_c (Or.inl rfl) (lwk_rf []))))) ?_
            exact ih.2.1 l1 (l2 + 1) 0 z4.2 hf
          · rw [if_neg hb6] at hf
            refine r_if_f (t := 30) fe_212_22 (by decide) (Bool.eq_false_iff.mpr hb6) ?_
            refine r_aload_n fe_212_25 rfl ?_
            refine r_iload_n fe_212_26 rfl ?_
            refine r_callV (as := [.int l2]) (r := []) fe_212_27 lm_12_430 md_214 rfl rfl (Nat.le_of_ble_eq_true rfl) m_c_0 (m_lt hh (by decide)) (Nat.le_of_ble_eq_true rfl) (Nat.le_of_ble_eq_true rfl) ?_
            cases hc8 : F214 n l2 z4.2 with
            | none => rw [hc8] at hf; cases hf
            | some z7 =>
              rw [hc8, Option.bind_some] at hf
              refine F214c (r0 := z7.1) (S0 := z7.2) hh hc8 ?_
              refine r_iinc (v := (l2 + 1)) fe_212_30 rfl rfl rfl ?_
              refine r_goto (t := 7) fe_212_33 (by decide) ?_
              refine go_weak (L0 := [.ref 130, .int l1, .int (l2 + 1), .float 0]) (lwk_c (Or.inl rfl) (lwk_c (Or.inl rfl) (lwk_c (Or.inl rfl) (lwk_c (Or.inl rfl) (lwk_rf []))))) ?_
              exact ih.2.1 l1 (l2 + 1) 0 z7.2 hf
    · intro l1 l2 l3 S hf
      rw [F212e38] at hf
      unfold F212b38 at hf
      refine r_iload_n fe_212_38 rfl ?_
      refine r_aload_n fe_212_39 rfl ?_
      refine mr_getf hh fe_212_40 lf_12_9 rfl ?_
      refine r_iconst (v := 0) fe_212_43 (by decide) ?_
      refine r_iald (j := 0) (v := S.2.1 1 0) fe_212_44 m_c_1 (m_lt hh (by decide)) (by decide) (by decide) (by decide) rfl ?_
      by_cases hb9 : am_ic .ge l2 (S.2.1 1 0) = true
      · rw [if_pos hb9] at hf
        refine r_ic_t (t := 69) fe_212_45 (by decide) hb9 ?_
        refine r_aload_n fe_212_69 rfl ?_
        refine r_callV (as := []) (r := []) fe_212_70 lm_12_436 md_229 rfl rfl (Nat.le_of_ble_eq_true rfl) m_c_0 (m_lt hh (by decide)) (Nat.le_of_ble_eq_true rfl) (Nat.le_of_ble_eq_true rfl) ?_
        cases hc11 : F229 n  S with
        | none => rw [hc11] at hf; cases hf
        | some z10 =>
          rw [hc11, Option.bind_some] at hf
          refine F229c (r0 := z10.1) (S0 := z10.2) hh hc11 ?_
          refine r_aload_n fe_212_73 rfl ?_
          refine mr_getf hh fe_212_74 lf_12_9 rfl ?_
          refine r_bipush (v := 6) fe_212_77 (by decide) ?_
          refine r_dup2 fe_212_79 ⟨rfl, rfl⟩ ?_
          refine r_iald (j := 6) (v := z10.2.2.1 1 6) fe_212_80 m_c_1 (m_lt hh (by decide)) (by decide) (by decide) (by decide) rfl ?_
          refine r_iconst (v := 1) fe_212_81 (by decide) ?_
          refine r_iadd (v := ((z10.2.2.1 1 6) + 1)) fe_212_82 rfl ?_
          refine mr_iast (k := 1) (n := 9) (j := 6) hh fe_212_83 rfl (by decide) (by decide) rfl rfl (by decide) (by decide) (by decide) ?_
          refine r_iload_n fe_212_84 rfl ?_
          refine r_aload_n fe_212_85 rfl ?_
          refine r_callV (as := []) (r := [.int l1]) fe_212_86 lm_12_427 md_213 rfl rfl (Nat.le_of_ble_eq_true rfl) m_c_0 (m_lt hh (by decide)) (Nat.le_of_ble_eq_true rfl) (Nat.le_of_ble_eq_true rfl) ?_
          cases hc13 : F213 n  (m_sA z10.2 1 6 ((z10.2.2.1 1 6) + 1)) with
          | none => rw [hc13] at hf; cases hf
          | some z12 =>
            rw [hc13, Option.bind_some] at hf
            refine F213c (r0 := z12.1) (S0 := z12.2) hh hc13 ?_
            refine r_iconst (v := -1) fe_212_89 (by decide) ?_
            refine r_ixor (v := (z12.1 ^^^ (-1))) fe_212_90 rfl ?_
            refine r_iand (v := (l1 &&& (z12.1 ^^^ (-1)))) fe_212_91 rfl ?_
            refine r_callS (as := [.int (l1 &&& (z12.1 ^^^ (-1)))]) (r := []) fe_212_92 lm_12_415 md_223 rfl rfl (Nat.le_of_ble_eq_true rfl) (Nat.le_of_ble_eq_true rfl) (Nat.le_of_ble_eq_true rfl) ?_
            cases hc15 : F223 n (l1 &&& (z12.1 ^^^ (-1))) z12.2 with
            | none => rw [hc15] at hf; cases hf
            | some z14 =>
              rw [hc15, Option.bind_some] at hf
              refine F223c (r0 := z14.1) (S0 := z14.2) hh hc15 ?_
              refine r_iret fe_212_95 ⟨rfl, by decide⟩ ?_
              exact dfin (P := fun r T => Q (some (.int r)) (mst T h)) hf hQ
      · rw [if_neg hb9] at hf
        refine r_ic_f (t := 69) fe_212_45 (by decide) (Bool.eq_false_iff.mpr hb9) ?_
        refine r_iconst (v := 1) fe_212_48 (by decide) ?_
        refine r_istore_n fe_212_49 (Nat.le_of_ble_eq_true rfl) rfl ?_
        refine go_weak (L0 := [.ref 130, .int l1, .int l2, .int 1]) (lwk_c (Or.inl rfl) (lwk_c (Or.inl rfl) (lwk_c (Or.inl rfl) (lwk_c (Or.inl rfl) (lwk_rf []))))) ?_
        exact ih.2.2.2 l1 l2 1 S hf
    · intro l1 l2 l3 S hf
      rw [F212e50] at hf
      unfold F212b50 at hf
      refine r_iload_n fe_212_50 rfl ?_
      by_cases hb16 : am_if .eq l3 = true
      · rw [if_pos hb16] at hf
        refine r_if_t (t := 63) fe_212_51 (by decide) hb16 ?_
        refine r_iinc (v := (l2 + 1)) fe_212_63 rfl rfl rfl ?_
        refine r_goto (t := 38) fe_212_66 (by decide) ?_
        refine go_weak (L0 := [.ref 130, .int l1, .int (l2 + 1), .float 0]) (lwk_c (Or.inl rfl) (lwk_c (Or.inl rfl) (lwk_c (Or.inl rfl) (lwk_c (Or.inr rfl) (lwk_rf []))))) ?_
        exact ih.2.2.1 l1 (l2 + 1) 0 S hf
      · rw [if_neg hb16] at hf
        refine r_if_f (t := 63) fe_212_51 (by decide) (Bool.eq_false_iff.mpr hb16) ?_
        refine r_aload_n fe_212_54 rfl ?_
        refine r_iload_n fe_212_55 rfl ?_
        refine r_callV (as := [.int l2]) (r := []) fe_212_56 lm_12_433 md_219 rfl rfl (Nat.le_of_ble_eq_true rfl) m_c_0 (m_lt hh (by decide)) (Nat.le_of_ble_eq_true rfl) (Nat.le_of_ble_eq_true rfl) ?_
        cases hc18 : F219 n l2 S with
        | none => rw [hc18] at hf; cases hf
        | some z17 =>
          rw [hc18, Option.bind_some] at hf
          refine F219c (r0 := z17.1) (S0 := z17.2) hh hc18 ?_
          refine r_istore_n fe_212_59 (Nat.le_of_ble_eq_true rfl) rfl ?_
          refine r_goto (t := 50) fe_212_60 (by decide) ?_
          refine go_weak (L0 := [.ref 130, .int l1, .int l2, .int z17.1]) (lwk_c (Or.inl rfl) (lwk_c (Or.inl rfl) (lwk_c (Or.inl rfl) (lwk_c (Or.inl rfl) (lwk_rf []))))) ?_
          exact ih.2.2.2 l1 l2 z17.1 z17.2 hf
theorem F212c {xs : Nat → Int32} {L9 d n : Nat} {h : AmH} {Q : Option Value → AmH → Prop} {r0 : Int32} {S0 S : mS}  (hh : 172 ≤ h.2.1) (hf : F212 n  S = some (r0, S0)) (hQ : Q (some (.int r0)) (mst S0 h)) : Ca (am_X xs L9) (d + 6) 212 [.ref 130] (mst S h) Q := (F212l hh hQ n).1 0 0 0 S hf
def F209b0 (F : Nat → mS → Option (Int32 × mS)) (n : Nat)  (S : mS) : Option (Int32 × mS) := ((F210 n  S).bind (fun z1 => (if am_if .eq z1.1 = true then some ((-1), z1.2) else (if am_ic .ne (z1.2.2.1 1 6) 999 = true then ((F211 n  z1.2).bind (fun z5 => ((F212 n  z5.2).bind (fun z7 => some (z7.1, z7.2))))) else some ((-1), z1.2)))))
def F209f : Nat → Nat → mS → Option (Int32 × mS)
  | 0, _, _ => none
  | n + 1, c, S => F209b0 (F209f n) n  S
theorem F209e0 (n : Nat)  (S : mS) : F209f (n + 1) 0  S = F209b0 (F209f n) n  S := rfl
def F209 (n : Nat)  (S : mS) : Option (Int32 × mS) := F209f n 0  S
set_option maxRecDepth 20000 in
set_option maxHeartbeats 2000000 in
theorem F209l {xs : Nat → Int32} {L9 d : Nat} {h : AmH} {Q : Option Value → AmH → Prop} {r0 : Int32} {S0 : mS} (hh : 172 ≤ h.2.1) (hQ : Q (some (.int r0)) (mst S0 h)) : ∀ n : Nat, (∀ (S : mS), F209f n 0 S = some (r0, S0) → Go (am_X xs L9) (d + 7) 209 0 [.ref 130] [] (mst S h) Q) := by
  intro n
  induction n with
  | zero => exact fun  S hf => (by cases hf)
  | succ n ih =>
    intro  S hf
    rw [F209e0] at hf
    unfold F209b0 at hf
    refine r_aload_n fe_209_0 rfl ?_
    refine r_callV (as := []) (r := []) fe_209_1 lm_12_457 md_210 rfl rfl (Nat.le_of_ble_eq_true rfl) m_c_0 (m_lt hh (by decide)) (Nat.le_of_ble_eq_true rfl) (Nat.le_of_ble_eq_true rfl) ?_
    cases hc2 : F210 n  S with
    | none => rw [hc2] at hf; cases hf
    | some z1 =>
      rw [hc2, Option.bind_some] at hf
      refine F210c (r0 := z1.1) (S0 := z1.2) hh hc2 ?_
      by_cases hb3 : am_if .eq z1.1 = true
      · rw [if_pos hb3] at hf
        refine r_if_t (t := 20) fe_209_4 (by decide) hb3 ?_
        refine r_iconst (v := -1) fe_209_20 (by decide) ?_
        refine r_iret fe_209_21 ⟨rfl, by decide⟩ ?_
        exact dfin (P := fun r T => Q (some (.int r)) (mst T h)) hf hQ
      · rw [if_neg hb3] at hf
        refine r_if_f (t := 20) fe_209_4 (by decide) (Bool.eq_false_iff.mpr hb3) ?_
        refine r_aload_n fe_209_7 rfl ?_
        refine mr_getf hh fe_209_8 lf_12_9 rfl ?_
        refine r_bipush (v := 6) fe_209_11 (by decide) ?_
        refine r_iald (j := 6) (v := z1.2.2.1 1 6) fe_209_13 m_c_1 (m_lt hh (by decide)) (by decide) (by decide) (by decide) rfl ?_
        refine r_sipush (v := 999) fe_209_14 (by decide) ?_
        by_cases hb4 : am_ic .ne (z1.2.2.1 1 6) 999 = true
        · rw [if_pos hb4] at hf
          refine r_ic_t (t := 22) fe_209_17 (by decide) hb4 ?_
          refine r_aload_n fe_209_22 rfl ?_
          refine r_callV (as := []) (r := []) fe_209_23 lm_12_460 md_211 rfl rfl (Nat.le_of_ble_eq_true rfl) m_c_0 (m_lt hh (by decide)) (Nat.le_of_ble_eq_true rfl) (Nat.le_of_ble_eq_true rfl) ?_
          cases hc6 : F211 n  z1.2 with
          | none => rw [hc6] at hf; cases hf
          | some z5 =>
            rw [hc6, Option.bind_some] at hf
            refine F211c (r0 := z5.1) (S0 := z5.2) hh hc6 ?_
            refine r_aload_n fe_209_26 rfl ?_
            refine r_callV (as := []) (r := []) fe_209_27 lm_12_463 md_212 rfl rfl (Nat.le_of_ble_eq_true rfl) m_c_0 (m_lt hh (by decide)) (Nat.le_of_ble_eq_true rfl) (Nat.le_of_ble_eq_true rfl) ?_
            cases hc8 : F212 n  z5.2 with
            | none => rw [hc8] at hf; cases hf
            | some z7 =>
              rw [hc8, Option.bind_some] at hf
              refine F212c (r0 := z7.1) (S0 := z7.2) hh hc8 ?_
              refine r_iret fe_209_30 ⟨rfl, by decide⟩ ?_
              exact dfin (P := fun r T => Q (some (.int r)) (mst T h)) hf hQ
        · rw [if_neg hb4] at hf
          refine r_ic_f (t := 22) fe_209_17 (by decide) (Bool.eq_false_iff.mpr hb4) ?_
          refine r_iconst (v := -1) fe_209_20 (by decide) ?_
          refine r_iret fe_209_21 ⟨rfl, by decide⟩ ?_
          exact dfin (P := fun r T => Q (some (.int r)) (mst T h)) hf hQ
theorem F209c {xs : Nat → Int32} {L9 d n : Nat} {h : AmH} {Q : Option Value → AmH → Prop} {r0 : Int32} {S0 S : mS}  (hh : 172 ≤ h.2.1) (hf : F209 n  S = some (r0, S0)) (hQ : Q (some (.int r0)) (mst S0 h)) : Ca (am_X xs L9) (d + 7) 209 [.ref 130] (mst S h) Q := (F209l hh hQ n)  S hf
def F231b0 (F : Nat → Int32 → Int32 → mS → Option (Int32 × mS)) (n : Nat) (l0 : Int32) (l1 : Int32) (S : mS) : Option (Int32 × mS) := (if am_ic .lt l0 1 = true then some (0, S) else ((F217 n l0 S).bind (fun z2 => (if am_ic .le z2.1 8 = true then F 18 0 l0 z2.2 else some (0, z2.2)))))
def F231b18 (F : Nat → Int32 → Int32 → mS → Option (Int32 × mS)) (n : Nat) (l0 : Int32) (l1 : Int32) (S : mS) : Option (Int32 × mS) := (if am_if .le l1 = true then some (1, S) else ((F172 n (Int32.toInt64 (l1 - l1 / 10 * 10)) 1 6 S).bind (fun z6 => (if am_if .ne z6.1 = true then F 18 0 (l1 / 10) z6.2 else some (0, z6.2)))))
def F231f : Nat → Nat → Int32 → Int32 → mS → Option (Int32 × mS)
  | 0, _, _, _, _ => none
  | n + 1, c, l0, l1, S => if c = 0 then F231b0 (F231f n) n l0 l1 S else F231b18 (F231f n) n l0 l1 S
theorem F231e0 (n : Nat) (l0 : Int32) (l1 : Int32) (S : mS) : F231f (n + 1) 0 l0 l1 S = F231b0 (F231f n) n l0 l1 S := if_pos rfl
theorem F231e18 (n : Nat) (l0 : Int32) (l1 : Int32) (S : mS) : F231f (n + 1) 18 l0 l1 S = F231b18 (F231f n) n l0 l1 S := if_neg (by decide)
def F231 (n : Nat) (l0 : Int32) (S : mS) : Option (Int32 × mS) := F231f n 0 l0 0 S
set_option maxRecDepth 20000 in
set_option maxHeartbeats 2000000 in
theorem F231l {xs : Nat → Int32} {L9 d : Nat} {h : AmH} {Q : Option Value → AmH → Prop} {r0 : Int32} {S0 : mS} (hh : 172 ≤ h.2.1) (hQ : Q (some (.int r0)) (mst S0 h)) : ∀ n : Nat, (∀ (l0 : Int32) (l1 : Int32) (S : mS), F231f n 0 l0 l1 S = some (r0, S0) → Go (am_X xs L9) (d + 1) 231 0 [.int l0, .float 0] [] (mst S h) Q) ∧ (∀ (l0 : Int32) (l1 : Int32) (S : mS), F231f n 18 l0 l1 S = some (r0, S0) → Go (am_X xs L9) (d + 1) 231 18 [.float 0, .int l1] [] (mst S h) Q) := by
  intro n
  induction n with
  | zero => exact ⟨fun l0 l1 S hf => (by cases hf), fun l0 l1 S hf => (by cases hf)⟩
  | succ n ih =>
    refine ⟨?_, ?_⟩
    · intro l0 l1 S hf
      rw [F231e0] at hf
      unfold F231b0 at hf
      refine r_iload_n fe_231_0 rfl ?_
      refine r_iconst (v := 1) fe_231_1 (by decide) ?_
      by_cases hb1 : am_ic .lt l0 1 = true
      · rw [if_pos hb1] at hf
        refine r_ic_t (t := 14) fe_231_2 (by decide) hb1 ?_
        refine r_iconst (v := 0) fe_231_14 (by decide) ?_
        refine r_iret fe_231_15 ⟨rfl, by decide⟩ ?_
        exact dfin (P := fun r T => Q (some (.int r)) (mst T h)) hf hQ
      · rw [if_neg hb1] at hf
        refine r_ic_f (t := 14) fe_231_2 (by decide) (Bool.eq_false_iff.mpr hb1) ?_
        refine r_iload_n fe_231_5 rfl ?_
        refine r_callS (as := [.int l0]) (r := []) fe_231_6 lm_12_151 md_217 rfl rfl (Nat.le_of_ble_eq_true rfl) (Nat.le_of_ble_eq_true rfl) (Nat.le_of_ble_eq_true rfl) ?_
        cases hc3 : F217 n l0 S with
        | none => rw [hc3] at hf; cases hf
        | some z2 =>
          rw [hc3, Option.bind_some] at hf
          refine F217c (r0 := z2.1) (S0 := z2.2) hh hc3 ?_
          refine r_bipush (v := 8) fe_231_9 (by decide) ?_
          by_cases hb4 : am_ic .le z2.1 8 = true
          · rw [if_pos hb4] at hf
            refine r_ic_t (t := 16) fe_231_11 (by decide) hb4 ?_
            refine r_iload_n fe_231_16 rfl ?_
            refine r_istore_n fe_231_17 (Nat.le_of_ble_eq_true rfl) rfl ?_
            refine go_weak (L0 := [.float 0, .int l0]) (lwk_c (Or.inr rfl) (lwk_c (Or.inl rfl) (lwk_rf []))) ?_
            exact ih.2 0 l0 z2.2 hf
          · rw [if_neg hb4] at hf
            refine r_ic_f (t := 16) fe_231_11 (by decide) (Bool.eq_false_iff.mpr hb4) ?_
            refine r_iconst (v := 0) fe_231_14 (by decide) ?_
            refine r_iret fe_231_15 ⟨rfl, by decide⟩ ?_
            exact dfin (P := fun r T => Q (some (.int r)) (mst T h)) hf hQ
    · intro l0 l1 S hf
      rw [F231e18] at hf
      unfold F231b18 at hf
      refine r_iload_n fe_231_18 rfl ?_
      by_cases hb5 : am_if .le l1 = true
      · rw [if_pos hb5] at hf
        refine r_if_t (t := 47) fe_231_19 (by decide) hb5 ?_
        refine r_iconst (v := 1) fe_231_47 (by decide) ?_
        refine r_iret fe_231_48 ⟨rfl, by decide⟩ ?_
        exact dfin (P := fun r T => Q (some (.int r)) (mst T h)) hf hQ
      · rw [if_neg hb5] at hf
        refine r_if_f (t := 47) fe_231_19 (by decide) (Bool.eq_false_iff.mpr hb5) ?_
        refine r_iload_n fe_231_22 rfl ?_
        refine r_bipush (v := 10) fe_231_23 (by decide) ?_
        refine r_irem (v := (l1 - l1 / 10 * 10)) fe_231_25 (by decide) rfl ?_
        refine r_i2l (v := (Int32.toInt64 (l1 - l1 / 10 * 10))) fe_231_26 rfl ?_
        refine r_lconst (v := 1) fe_231_27 (by decide) ?_
        refine r_ldc2 fe_231_28 lk_12_155 ?_
        refine r_callS (as := [.long (Int32.toInt64 (l1 - l1 / 10 * 10)), .long 1, .long 6]) (r := []) fe_231_31 lm_12_143 md_172 rfl rfl (Nat.le_of_ble_eq_true rfl) (Nat.le_of_ble_eq_true rfl) (Nat.le_of_ble_eq_true rfl) ?_
        cases hc7 : F172 n (Int32.toInt64 (l1 - l1 / 10 * 10)) 1 6 S with
        | none => rw [hc7] at hf; cases hf
        | some z6 =>
          rw [hc7, Option.bind_some] at hf
          refine F172c (r0 := z6.1) (S0 := z6.2) hh hc7 ?_
          by_cases hb8 : am_if .ne z6.1 = true
          · rw [if_pos hb8] at hf
            refine r_if_t (t := 39) fe_231_34 (by decide) hb8 ?_
            refine r_iload_n fe_231_39 rfl ?_
            refine r_bipush (v := 10) fe_231_40 (by decide) ?_
            refine r_idiv (v := (l1 / 10)) fe_231_42 (by decide) rfl ?_
            refine r_istore_n fe_231_43 (Nat.le_of_ble_eq_true rfl) rfl ?_
            refine r_goto (t := 18) fe_231_44 (by decide) ?_
            refine go_weak (L0 := [.float 0, .int (l1 / 10)]) (lwk_c (Or.inl rfl) (lwk_c (Or.inl rfl) (lwk_rf []))) ?_
            exact ih.2 0 (l1 / 10) z6.2 hf
          · rw [if_neg hb8] at hf
            refine r_if_f (t := 39) fe_231_34 (by decide) (Bool.eq_false_iff.mpr hb8) ?_
            refine r_iconst (v := 0) fe_231_37 (by decide) ?_
            refine r_iret fe_231_38 ⟨rfl, by decide⟩ ?_
            exact dfin (P := fun r T => Q (some (.int r)) (mst T h)) hf hQ
theorem F231c {xs : Nat → Int32} {L9 d n : Nat} {h : AmH} {Q : Option Value → AmH → Prop} {r0 : Int32} {S0 S : mS} {l0 : Int32} (hh : 172 ≤ h.2.1) (hf : F231 n l0 S = some (r0, S0)) (hQ : Q (some (.int r0)) (mst S0 h)) : Ca (am_X xs L9) (d + 1) 231 [.int l0] (mst S h) Q := (F231l hh hQ n).1 l0 0 S hf
def F232b0 (F : Nat → Int32 → Int32 → Int32 → mS → Option (Int32 × mS)) (n : Nat) (l1 : Int32) (l2 : Int32) (l3 : Int32) (S : mS) : Option (Int32 × mS) := (if ¬ ((S.2.1 1 4) < 0 ∨ 13 ≤ ((S.2.1 1 4)).toNatClampNeg) then (if ¬ ((S.2.1 1 4) < 0 ∨ 13 ≤ ((S.2.1 1 4)).toNatClampNeg) then (if ¬ ((S.2.1 1 4) < 0 ∨ 13 ≤ ((S.2.1 1 4)).toNatClampNeg) then (if ¬ ((S.2.1 1 4) < 0 ∨ 13 ≤ ((S.2.1 1 4)).toNatClampNeg) then (if ¬ ((S.2.1 1 4) < 0 ∨ 13 ≤ ((S.2.1 1 4)).toNatClampNeg) then (if ¬ ((S.2.1 1 4) < 0 ∨ 13 ≤ ((S.2.1 1 4)).toNatClampNeg) then some ((S.2.1 1 4), (m_sA (m_sA (m_sA (m_sA (m_sA (m_sA (m_sA S 10 (Int32.toNatClampNeg (S.2.1 1 4)) l1) 11 (Int32.toNatClampNeg (S.2.1 1 4)) l2) 12 (Int32.toNatClampNeg (S.2.1 1 4)) l3) 13 (Int32.toNatClampNeg (S.2.1 1 4)) 0) 14 (Int32.toNatClampNeg (S.2.1 1 4)) (-1)) 15 (Int32.toNatClampNeg (S.2.1 1 4)) (-1)) 1 4 (((m_sA (m_sA (m_sA (m_sA (m_sA (m_sA S 10 (Int32.toNatClampNeg (S.2.1 1 4)) l1) 11 (Int32.toNatClampNeg (S.2.1 1 4)) l2) 12 (Int32.toNatClampNeg (S.2.1 1 4)) l3) 13 (Int32.toNatClampNeg (S.2.1 1 4)) 0) 14 (Int32.toNatClampNeg (S.2.1 1 4)) (-1)) 15 (Int32.toNatClampNeg (S.2.1 1 4)) (-1)).2.1 1 4) + 1))) else none) else none) else none) else none) else none) else none)
def F232f : Nat → Nat → Int32 → Int32 → Int32 → mS → Option (Int32 × mS)
  | 0, _, _, _, _, _ => none
  | n + 1, c, l1, l2, l3, S => F232b0 (F232f n) n l1 l2 l3 S
theorem F232e0 (n : Nat) (l1 : Int32) (l2 : Int32) (l3 : Int32) (S : mS) : F232f (n + 1) 0 l1 l2 l3 S = F232b0 (F232f n) n l1 l2 l3 S := rfl
def F232 (n : Nat) (l1 : Int32) (l2 : Int32) (l3 : Int32) (S : mS) : Option (Int32 × mS) := F232f n 0 l1 l2 l3 S
set_option maxRecDepth 20000 in
set_option maxHeartbeats 2000000 in
theorem F232l {xs : Nat → Int32} {L9 d : Nat} {h : AmH} {Q : Option Value → AmH → Prop} {r0 : Int32} {S0 : mS} (hh : 172 ≤ h.2.1) (hQ : Q (some (.int r0)) (mst S0 h)) : ∀ n : Nat, (∀ (l1 : Int32) (l2 : Int32) (l3 : Int32) (S : mS), F232f n 0 l1 l2 l3 S = some (r0, S0) → Go (am_X xs L9) (d + 0) 232 0 [.ref 130, .int l1, .int l2, .int l3, .float 0] [] (mst S h) Q) := by
  intro n
  induction n with
  | zero => exact fun l1 l2 l3 S hf => (by cases hf)
  | succ n ih =>
    intro l1 l2 l3 S hf
    rw [F232e0] at hf
    unfold F232b0 at hf
    refine r_aload_n fe_232_0 rfl ?_
    refine mr_getf hh fe_232_1 lf_12_9 rfl ?_
    refine r_iconst (v := 4) fe_232_4 (by decide) ?_
    refine r_iald (j := 4) (v := S.2.1 1 4) fe_232_5 m_c_1 (m_lt hh (by decide)) (by decide) (by decide) (by decide) rfl ?_
    refine r_istore fe_232_6 (Nat.le_of_ble_eq_true rfl) rfl ?_
    refine r_aload_n fe_232_8 rfl ?_
    refine mr_getf hh fe_232_9 lf_12_37 rfl ?_
    refine r_iload fe_232_12 rfl ?_
    refine r_iload_n fe_232_14 rfl ?_
    by_cases hg1 : ¬ ((S.2.1 1 4) < 0 ∨ 13 ≤ ((S.2.1 1 4)).toNatClampNeg)
    rotate_left
    · rw [if_neg hg1] at hf; cases hf
    rw [if_pos hg1] at hf
    refine mr_iast (k := 10) (n := 13) (j := (Int32.toNatClampNeg (S.2.1 1 4))) hh fe_232_15 rfl (by decide) (by decide) rfl rfl (fun z => hg1 (Or.inl z)) rfl (fun z => hg1 (Or.inr z)) ?_
    refine r_aload_n fe_232_16 rfl ?_
    refine mr_getf hh fe_232_17 lf_12_40 rfl ?_
    refine r_iload fe_232_20 rfl ?_
    refine r_iload_n fe_232_22 rfl ?_
    by_cases hg2 : ¬ ((S.2.1 1 4) < 0 ∨ 13 ≤ ((S.2.1 1 4)).toNatClampNeg)
    rotate_left
    · rw [if_neg hg2] at hf; cases hf
    rw [if_pos hg2] at hf
    refine mr_iast (k := 11) (n := 13) (j := (Int32.toNatClampNeg (S.2.1 1 4))) hh fe_232_23 rfl (by decide) (by decide) rfl rfl (fun z => hg2 (Or.inl z)) rfl (fun z => hg2 (Or.inr z)) ?_
    refine r_aload_n fe_232_24 rfl ?_
    refine mr_getf hh fe_232_25 lf_12_43 rfl ?_
    refine r_iload fe_232_28 rfl ?_
    refine r_iload_n fe_232_30 rfl ?_
    by_cases hg3 : ¬ ((S.2.1 1 4) < 0 ∨ 13 ≤ ((S.2.1 1 4)).toNatClampNeg)
    rotate_left
    · rw [if_neg hg3] at hf; cases hf
    rw [if_pos hg3] at hf
    refine mr_iast (k := 12) (n := 13) (j := (Int32.toNatClampNeg (S.2.1 1 4))) hh fe_232_31 rfl (by decide) (by decide) rfl rfl (fun z => hg3 (Or.inl z)) rfl (fun z => hg3 (Or.inr z)) ?_
    refine r_aload_n fe_232_32 rfl ?_
    refine mr_getf hh fe_232_33 lf_12_46 rfl ?_
    refine r_iload fe_232_36 rfl ?_
    refine r_iconst (v := 0) fe_232_38 (by decide) ?_
    by_cases hg4 : ¬ ((S.2.1 1 4) < 0 ∨ 13 ≤ ((S.2.1 1 4)).toNatClampNeg)
    rotate_left
    · rw [if_neg hg4] at hf; cases hf
    rw [if_pos hg4] at hf
    refine mr_iast (k := 13) (n := 13) (j := (Int32.toNatClampNeg (S.2.1 1 4))) hh fe_232_39 rfl (by decide) (by decide) rfl rfl (fun z => hg4 (Or.inl z)) rfl (fun z => hg4 (Or.inr z)) ?_
    refine r_aload_n fe_232_40 rfl ?_
    refine mr_getf hh fe_232_41 lf_12_49 rfl ?_
    refine r_iload fe_232_44 rfl ?_
    refine r_iconst (v := -1) fe_232_46 (by decide) ?_
    by_cases hg5 : ¬ ((S.2.1 1 4) < 0 ∨ 13 ≤ ((S.2.1 1 4)).toNatClampNeg)
    rotate_left
    · rw [if_neg hg5] at hf; cases hf
    rw [if_pos hg5] at hf
    refine mr_iast (k := 14) (n := 13) (j := (Int32.toNatClampNeg (S.2.1 1 4))) hh fe_232_47 rfl (by decide) (by decide) rfl rfl (fun z => hg5 (Or.inl z)) rfl (fun z => hg5 (Or.inr z)) ?_
    refine r_aload_n fe_232_48 rfl ?_
    refine mr_getf hh fe_232_49 lf_12_52 rfl ?_
    refine r_iload fe_232_52 rfl ?_
    refine r_iconst (v := -1) fe_232_54 (by decide) ?_
    by_cases hg6 : ¬ ((S.2.1 1 4) < 0 ∨ 13 ≤ ((S.2.1 1 4)).toNatClampNeg)
    rotate_left
    · rw [if_neg hg6] at hf; cases hf
    rw [if_pos hg6] at hf
    refine mr_iast (k := 15) (n := 13) (j := (Int32.toNatClampNeg (S.2.1 1 4))) hh fe_232_55 rfl (by decide) (by decide) rfl rfl (fun z => hg6 (Or.inl z)) rfl (fun z => hg6 (Or.inr z)) ?_
    refine r_aload_n fe_232_56 rfl ?_
    refine mr_getf hh fe_232_57 lf_12_9 rfl ?_
    refine r_iconst (v := 4) fe_232_60 (by decide) ?_
    refine r_dup2 fe_232_61 ⟨rfl, rfl⟩ ?_
    refine r_iald (j := 4) (v := (m_sA (m_sA (m_sA (m_sA (m_sA (m_sA S 10 (Int32.toNatClampNeg (S.2.1 1 4)) l1) 11 (Int32.toNatClampNeg (S.2.1 1 4)) l2) 12 (Int32.toNatClampNeg (S.2.1 1 4)) l3) 13 (Int32.toNatClampNeg (S.2.1 1 4)) 0) 14 (Int32.toNatClampNeg (S.2.1 1 4)) (-1)) 15 (Int32.toNatClampNeg (S.2.1 1 4)) (-1)).2.1 1 4) fe_232_62 m_c_1 (m_lt hh (by decide)) (by decide) (by decide) (by decide) rfl ?_
    refine r_iconst (v := 1) fe_232_63 (by decide) ?_
    refine r_iadd (v := (((m_sA (m_sA (m_sA (m_sA (m_sA (m_sA S 10 (Int32.toNatClampNeg (S.2.1 1 4)) l1) 11 (Int32.toNatClampNeg (S.2.1 1 4)) l2) 12 (Int32.toNatClampNeg (S.2.1 1 4)) l3) 13 (Int32.toNatClampNeg (S.2.1 1 4)) 0) 14 (Int32.toNatClampNeg (S.2.1 1 4)) (-1)) 15 (Int32.toNatClampNeg (S.2.1 1 4)) (-1)).2.1 1 4) + 1)) fe_232_64 rfl ?_
    refine mr_iast (k := 1) (n := 9) (j := 4) hh fe_232_65 rfl (by decide) (by decide) rfl rfl (by decide) (by decide) (by decide) ?_
    refine r_iload fe_232_66 rfl ?_
    refine r_iret fe_232_68 ⟨rfl, by decide⟩ ?_
    exact dfin (P := fun r T => Q (some (.int r)) (mst T h)) hf hQ
theorem F232c {xs : Nat → Int32} {L9 d n : Nat} {h : AmH} {Q : Option Value → AmH → Prop} {r0 : Int32} {S0 S : mS} {l1 : Int32} {l2 : Int32} {l3 : Int32} (hh : 172 ≤ h.2.1) (hf : F232 n l1 l2 l3 S = some (r0, S0)) (hQ : Q (some (.int r0)) (mst S0 h)) : Ca (am_X xs L9) (d + 0) 232 [.ref 130, .int l1, .int l2, .int l3] (mst S h) Q := (F232l hh hQ n) l1 l2 l3 S hf
def F230b0 (F : Nat → Int32 → Int32 → mS → Option (Int32 × mS)) (n : Nat) (l1 : Int32) (l2 : Int32) (S : mS) : Option (Int32 × mS) := ((F196 n l1 S).bind (fun z1 => (if am_if .eq z1.1 = true then some ((-1), z1.2) else ((F231 n l2 z1.2).bind (fun z4 => (if am_if .eq z4.1 = true then some ((-1), z4.2) else (if am_ic .ne (z4.2.2.1 1 4) 12 = true then ((F211 n  z4.2).bind (fun z8 => ((F232 n l1 l2 0 z8.2).bind (fun z10 => some (z10.1, z10.2))))) else some ((-1), z4.2))))))))
def F230f : Nat → Nat → Int32 → Int32 → mS → Option (Int32 × mS)
  | 0, _, _, _, _ => none
  | n + 1, c, l1, l2, S => F230b0 (F230f n) n l1 l2 S
theorem F230e0 (n : Nat) (l1 : Int32) (l2 : Int32) (S : mS) : F230f (n + 1) 0 l1 l2 S = F230b0 (F230f n) n l1 l2 S := rfl
def F230 (n : Nat) (l1 : Int32) (l2 : Int32) (S : mS) : Option (Int32 × mS) := F230f n 0 l1 l2 S
set_option maxRecDepth 20000 in
set_option maxHeartbeats 2000000 in
theorem F230l {xs : Nat → Int32} {L9 d : Nat} {h : AmH} {Q : Option Value → AmH → Prop} {r0 : Int32} {S0 : mS} (hh : 172 ≤ h.2.1) (hQ : Q (some (.int r0)) (mst S0 h)) : ∀ n : Nat, (∀ (l1 : Int32) (l2 : Int32) (S : mS), F230f n 0 l1 l2 S = some (r0, S0) → Go (am_X xs L9) (d + 4) 230 0 [.ref 130, .int l1, .int l2] [] (mst S h) Q) := by
  intro n
  induction n with
  | zero => exact fun l1 l2 S hf => (by cases hf)
  | succ n ih =>
    intro l1 l2 S hf
    rw [F230e0] at hf
    unfold F230b0 at hf
    refine r_aload_n fe_230_0 rfl ?_
    refine r_iload_n fe_230_1 rfl ?_
    refine r_callV (as := [.int l1]) (r := []) fe_230_2 lm_12_378 md_196 rfl rfl (Nat.le_of_ble_eq_true rfl) m_c_0 (m_lt hh (by decide)) (Nat.le_of_ble_eq_true rfl) (Nat.le_of_ble_eq_true rfl) ?_
    cases hc2 : F196 n l1 S with
    | none => rw [hc2] at hf; cases hf
    | some z1 =>
      rw [hc2, Option.bind_some] at hf
      refine F196c (r0 := z1.1) (S0 := z1.2) hh hc2 ?_
      by_cases hb3 : am_if .eq z1.1 = true
      · rw [if_pos hb3] at hf
        refine r_if_t (t := 26) fe_230_5 (by decide) hb3 ?_
        refine r_iconst (v := -1) fe_230_26 (by decide) ?_
        refine r_iret fe_230_27 ⟨rfl, by decide⟩ ?_
        exact dfin (P := fun r T => Q (some (.int r)) (mst T h)) hf hQ
      · rw [if_neg hb3] at hf
        refine r_if_f (t := 26) fe_230_5 (by decide) (Bool.eq_false_iff.mpr hb3) ?_
        refine r_iload_n fe_230_8 rfl ?_
        refine r_callS (as := [.int l2]) (r := []) fe_230_9 lm_12_466 md_231 rfl rfl (Nat.le_of_ble_eq_true rfl) (Nat.le_of_ble_eq_true rfl) (Nat.le_of_ble_eq_true rfl) ?_
        cases hc5 : F231 n l2 z1.2 with
        | none => rw [hc5] at hf; cases hf
        | some z4 =>
          rw [hc5, Option.bind_some] at hf
          refine F231c (r0 := z4.1) (S0 := z4.2) hh hc5 ?_
          by_cases hb6 : am_if .eq z4.1 = true
          · rw [if_pos hb6] at hf
            refine r_if_t (t := 26) fe_230_12 (by decide) hb6 ?_
            refine r_iconst (v := -1) fe_230_26 (by decide) ?_
            refine r_iret fe_230_27 ⟨rfl, by decide⟩ ?_
            exact dfin (P := fun r T => Q (some (.int r)) (mst T h)) hf hQ
          · rw [if_neg hb6] at hf
            refine r_if_f (t := 26) fe_230_12 (by decide) (Bool.eq_false_iff.mpr hb6) ?_
            refine r_aload_n fe_230_15 rfl ?_
            refine mr_getf hh fe_230_16 lf_12_9 rfl ?_
            refine r_iconst (v := 4) fe_230_19 (by decide) ?_
            refine r_iald (j := 4) (v := z4.2.2.1 1 4) fe_230_20 m_c_1 (m_lt hh (by decide)) (by decide) (by decide) (by decide) rfl ?_
            refine r_bipush (v := 12) fe_230_21 (by decide) ?_
            by_cases hb7 : am_ic .ne (z4.2.2.1 1 4) 12 = true
            · rw [if_pos hb7] at hf
              refine r_ic_t (t := 28) fe_230_23 (by decide) hb7 ?_
              refine r_aload_n fe_230_28 rfl ?_
              refine r_callV (as := []) (r := []) fe_230_29 lm_12_460 md_211 rfl rfl (Nat.le_of_ble_eq_true rfl) m_c_0 (m_lt hh (by decide)) (Nat.le_of_ble_eq_true rfl) (Nat.le_of_ble_eq_true rfl) ?_
              cases hc9 : F211 n  z4.2 with
              | none => rw [hc9] at hf; cases hf
              | some z8 =>
                rw [hc9, Option.bind_some] at hf
                refine F211c (r0 := z8.1) (S0 := z8.2) hh hc9 ?_
                refine r_aload_n fe_230_32 rfl ?_
                refine r_iload_n fe_230_33 rfl ?_
                refine r_iload_n fe_230_34 rfl ?_
                refine r_iconst (v := 0) fe_230_35 (by decide) ?_
                refine r_callV (as := [.int l1, .int l2, .int 0]) (r := []) fe_230_36 lm_12_469 md_232 rfl rfl (Nat.le_of_ble_eq_true rfl) m_c_0 (m_lt hh (by decide)) (Nat.le_of_ble_eq_true rfl) (Nat.le_of_ble_eq_true rfl) ?_
                cases hc11 : F232 n l1 l2 0 z8.2 with
                | none => rw [hc11] at hf; cases hf
                | some z10 =>
                  rw [hc11, Option.bind_some] at hf
                  refine F232c (r0 := z10.1) (S0 := z10.2) hh hc11 ?_
                  refine r_iret fe_230_39 ⟨rfl, by decide⟩ ?_
                  exact dfin (P := fun r T => Q (some (.int r)) (mst T h)) hf hQ
            · rw [if_neg hb7] at hf
              refine r_ic_f (t := 28) fe_230_23 (by decide) (Bool.eq_false_iff.mpr hb7) ?_
              refine r_iconst (v := -1) fe_230_26 (by decide) ?_
              refine r_iret fe_230_27 ⟨rfl, by decide⟩ ?_
              exact dfin (P := fun r T => Q (some (.int r)) (mst T h)) hf hQ
theorem F230c {xs : Nat → Int32} {L9 d n : Nat} {h : AmH} {Q : Option Value → AmH → Prop} {r0 : Int32} {S0 S : mS} {l1 : Int32} {l2 : Int32} (hh : 172 ≤ h.2.1) (hf : F230 n l1 l2 S = some (r0, S0)) (hQ : Q (some (.int r0)) (mst S0 h)) : Ca (am_X xs L9) (d + 4) 230 [.ref 130, .int l1, .int l2] (mst S h) Q := (F230l hh hQ n) l1 l2 S hf
def F233b0 (F : Nat → Int32 → mS → Option (Int32 × mS)) (n : Nat) (l1 : Int32) (S : mS) : Option (Int32 × mS) := ((F204 n l1 S).bind (fun z1 => (if am_if .eq z1.1 = true then some ((-1), z1.2) else ((F202 n l1 z1.2).bind (fun z4 => (if am_if .eq z4.1 = true then some ((-1), z4.2) else (if ¬ (l1 < 0 ∨ 13 ≤ (l1).toNatClampNeg) then (if am_ic .lt (z4.2.2.1 11 (Int32.toNatClampNeg l1)) 10 = true then some ((-1), z4.2) else (if am_ic .ne (z4.2.2.1 1 4) 12 = true then ((F211 n  z4.2).bind (fun z10 => (if ¬ (l1 < 0 ∨ 13 ≤ (l1).toNatClampNeg) then ((F217 n (z10.2.2.1 11 (Int32.toNatClampNeg l1)) z10.2).bind (fun z13 => ((F228 n (z13.1 - (z13.1 / 2)) z13.2).bind (fun z15 => (if ¬ (l1 < 0 ∨ 13 ≤ (l1).toNatClampNeg) then (if z15.1 = 0 then none else (if ¬ (l1 < 0 ∨ 13 ≤ (l1).toNatClampNeg) then (if z15.1 = 0 then none else (if ¬ (l1 < 0 ∨ 13 ≤ (l1).toNatClampNeg) then (if ¬ (l1 < 0 ∨ 13 ≤ (l1).toNatClampNeg) then (if ¬ (l1 < 0 ∨ 13 ≤ (l1).toNatClampNeg) then ((F232 n ((m_sA z15.2 11 (Int32.toNatClampNeg l1) ((z15.2.2.1 11 (Int32.toNatClampNeg l1)) / z15.1)).2.1 10 (Int32.toNatClampNeg l1)) ((z15.2.2.1 11 (Int32.toNatClampNeg l1)) - (z15.2.2.1 11 (Int32.toNatClampNeg l1)) / z15.1 * z15.1) ((m_sA z15.2 11 (Int32.toNatClampNeg l1) ((z15.2.2.1 11 (Int32.toNatClampNeg l1)) / z15.1)).2.1 12 (Int32.toNatClampNeg l1)) (m_sA z15.2 11 (Int32.toNatClampNeg l1) ((z15.2.2.1 11 (Int32.toNatClampNeg l1)) / z15.1))).bind (fun z24 => some (z24.1, z24.2))) else none) else none) else none)) else none)) else none))))) else none))) else some ((-1), z4.2))) else none)))))))
def F233f : Nat → Nat → Int32 → mS → Option (Int32 × mS)
  | 0, _, _, _ => none
  | n + 1, c, l1, S => F233b0 (F233f n) n l1 S
theorem F233e0 (n : Nat) (l1 : Int32) (S : mS) : F233f (n + 1) 0 l1 S = F233b0 (F233f n) n l1 S := rfl
def F233 (n : Nat) (l1 : Int32) (S : mS) : Option (Int32 × mS) := F233f n 0 l1 S
set_option maxRecDepth 20000 in
set_option maxHeartbeats 2000000 in
theorem F233l {xs : Nat → Int32} {L9 d : Nat} {h : AmH} {Q : Option Value → AmH → Prop} {r0 : Int32} {S0 : mS} (hh : 172 ≤ h.2.1) (hQ : Q (some (.int r0)) (mst S0 h)) : ∀ n : Nat, (∀ (l1 : Int32) (S : mS), F233f n 0 l1 S = some (r0, S0) → Go (am_X xs L9) (d + 4) 233 0 [.ref 130, .int l1, .float 0, .float 0, .float 0] [] (mst S h) Q) := by
  intro n
  induction n with
  | zero => exact fun l1 S hf => (by cases hf)
  | succ n ih =>
    intro l1 S hf
    rw [F233e0] at hf
    unfold F233b0 at hf
    refine r_aload_n fe_233_0 rfl ?_
    refine r_iload_n fe_233_1 rfl ?_
    refine r_callV (as := [.int l1]) (r := []) fe_233_2 lm_12_396 md_204 rfl rfl (Nat.le_of_ble_eq_true rfl) m_c_0 (m_lt hh (by decide)) (Nat.le_of_ble_eq_true rfl) (Nat.le_of_ble_eq_true rfl) ?_
    cases hc2 : F204 n l1 S with
    | none => rw [hc2] at hf; cases hf
    | some z1 =>
      rw [hc2, Option.bind_some] at hf
      refine F204c (r0 := z1.1) (S0 := z1.2) hh hc2 ?_
      by_cases hb3 : am_if .eq z1.1 = true
      · rw [if_pos hb3] at hf
        refine r_if_t (t := 38) fe_233_5 (by decide) hb3 ?_
        refine r_iconst (v := -1) fe_233_38 (by decide) ?_
        refine r_iret fe_233_39 ⟨rfl, by decide⟩ ?_
        exact dfin (P := fun r T => Q (some (.int r)) (mst T h)) hf hQ
      · rw [if_neg hb3] at hf
        refine r_if_f (t := 38) fe_233_5 (by decide) (Bool.eq_false_iff.mpr hb3) ?_
        refine r_aload_n fe_233_8 rfl ?_
        refine r_iload_n fe_233_9 rfl ?_
        refine r_callV (as := [.int l1]) (r := []) fe_233_10 lm_12_374 md_202 rfl rfl (Nat.le_of_ble_eq_true rfl) m_c_0 (m_lt hh (by decide)) (Nat.le_of_ble_eq_true rfl) (Nat.le_of_ble_eq_true rfl) ?_
        cases hc5 : F202 n l1 z1.2 with
        | none => rw [hc5] at hf; cases hf
        | some z4 =>
          rw [hc5, Option.bind_some] at hf
          refine F202c (r0 := z4.1) (S0 := z4.2) hh hc5 ?_
          by_cases hb6 : am_if .eq z4.1 = true
          · rw [if_pos hb6] at hf
            refine r_if_t (t := 38) fe_233_13 (by decide) hb6 ?_
            refine r_iconst (v := -1) fe_233_38 (by decide) ?_
            refine r_iret fe_233_39 ⟨rfl, by decide⟩ ?_
            exact dfin (P := fun r T => Q (some (.int r)) (mst T h)) hf hQ
          · rw [if_neg hb6] at hf
            refine r_if_f (t := 38) fe_233_13 (by decide) (Bool.eq_false_iff.mpr hb6) ?_
            refine r_aload_n fe_233_16 rfl ?_
            refine mr_getf hh fe_233_17 lf_12_40 rfl ?_
            refine r_iload_n fe_233_20 rfl ?_
            by_cases hg7 : ¬ (l1 < 0 ∨ 13 ≤ (l1).toNatClampNeg)
            rotate_left
            · rw [if_neg hg7] at hf; cases hf
            rw [if_pos hg7] at hf
            refine r_iald (j := (Int32.toNatClampNeg l1)) (v := z4.2.2.1 11 (Int32.toNatClampNeg l1)) fe_233_21 m_c_11 (m_lt hh (by decide)) (fun z => hg7 (Or.inl z)) rfl (fun z => hg7 (Or.inr z)) rfl ?_
            refine r_bipush (v := 10) fe_233_22 (by decide) ?_
            by_cases hb8 : am_ic .lt (z4.2.2.1 11 (Int32.toNatClampNeg l1)) 10 = true
            · rw [if_pos hb8] at hf
              refine r_ic_t (t := 38) fe_233_24 (by decide) hb8 ?_
              refine r_iconst (v := -1) fe_233_38 (by decide) ?_
              refine r_iret fe_233_39 ⟨rfl, by decide⟩ ?_
              exact dfin (P := fun r T => Q (some (.int r)) (mst T h)) hf hQ
            · rw [if_neg hb8] at hf
              refine r_ic_f (t := 38) fe_233_24 (by decide) (Bool.eq_false_iff.mpr hb8) ?_
              refine r_aload_n fe_233_27 rfl ?_
              refine mr_getf hh fe_233_28 lf_12_9 rfl ?_
              refine r_iconst (v := 4) fe_233_31 (by decide) ?_
              refine r_iald (j := 4) (v := z4.2.2.1 1 4) fe_233_32 m_c_1 (m_lt hh (by decide)) (by decide) (by decide) (by decide) rfl ?_
              refine r_bipush (v := 12) fe_233_33 (by decide) ?_
              by_cases hb9 : am_ic .ne (z4.2.2.1 1 4) 12 = true
              · rw [if_pos hb9] at hf
                refine r_ic_t (t := 40) fe_233_35 (by decide) hb9 ?_
                refine r_aload_n fe_233_40 rfl ?_
                refine r_callV (as := []) (r := []) fe_233_41 lm_12_460 md_211 rfl rfl (Nat.le_of_ble_eq_true rfl) m_c_0 (m_lt hh (by decide)) (Nat.le_of_ble_eq_true rfl) (Nat.le_of_ble_eq_true rfl) ?_
                cases hc11 : F211 n  z4.2 with
                | none => rw [hc11] at hf; cases hf
                | some z10 =>
                  rw [hc11, Option.bind_some] at hf
                  refine F211c (r0 := z10.1) (S0 := z10.2) hh hc11 ?_
                  refine r_aload_n fe_233_44 rfl ?_
                  refine mr_getf hh fe_233_45 lf_12_40 rfl ?_
                  refine r_iload_n fe_233_48 rfl ?_
                  by_cases hg12 : ¬ (l1 < 0 ∨ 13 ≤ (l1).toNatClampNeg)
                  rotate_left
                  · rw [if_neg hg12] at hf; cases hf
                  rw [if_pos hg12] at hf
                  refine r_iald (j := (Int32.toNatClampNeg l1)) (v := z10.2.2.1 11 (Int32.toNatClampNeg l1)) fe_233_49 m_c_11 (m_lt hh (by decide)) (fun z => hg12 (Or.inl z)) rfl (fun z => hg12 (Or.inr z)) rfl ?_
                  refine r_callS (as := [.int (z10.2.2.1 11 (Int32.toNatClampNeg l1))]) (r := []) fe_233_50 lm_12_151 md_217 rfl rfl (Nat.le_of_ble_eq_true rfl) (Nat.le_of_ble_eq_true rfl) (Nat.le_of_ble_eq_true rfl) ?_
                  cases hc14 : F217 n (z10.2.2.1 11 (Int32.toNatClampNeg l1)) z10.2 with
                  | none => rw [hc14] at hf; cases hf
                  | some z13 =>
                    rw [hc14, Option.bind_some] at hf
                    refine F217c (r0 := z13.1) (S0 := z13.2) hh hc14 ?_
                    refine r_istore_n fe_233_53 (Nat.le_of_ble_eq_true rfl) rfl ?_
                    refine r_iload_n fe_233_54 rfl ?_
                    refine r_iload_n fe_233_55 rfl ?_
                    refine r_iconst (v := 2) fe_233_56 (by decide) ?_
                    refine r_idiv (v := (z13.1 / 2)) fe_233_57 (by decide) rfl ?_
                    refine r_isub (v := (z13.1 - (z13.1 / 2))) fe_233_58 rfl ?_
                    refine r_callS (as := [.int (z13.1 - (z13.1 / 2))]) (r := []) fe_233_59 lm_12_424 md_228 rfl rfl (Nat.le_of_ble_eq_true rfl) (Nat.le_of_ble_eq_true rfl) (Nat.le_of_ble_eq_true rfl) ?_
                    cases hc16 : F228 n (z13.1 - (z13.1 / 2)) z13.2 with
                    | none => rw [hc16] at hf; cases hf
                    | some z15 =>
                      rw [hc16, Option.bind_some] at hf
                      refine F228c (r0 := z15.1) (S0 := z15.2) hh hc16 ?_
                      refine r_istore_n fe_233_62 (Nat.le_of_ble_eq_true rfl) rfl ?_
                      refine r_aload_n fe_233_63 rfl ?_
                      refine mr_getf hh fe_233_64 lf_12_40 rfl ?_
                      refine r_iload_n fe_233_67 rfl ?_
                      by_cases hg17 : ¬ (l1 < 0 ∨ 13 ≤ (l1).toNatClampNeg)
                      rotate_left
                      · rw [if_neg hg17] at hf; cases hf
                      rw [if_pos hg17] at hf
                      refine r_iald (j := (Int32.toNatClampNeg l1)) (v := z15.2.2.1 11 (Int32.toNatClampNeg l1)) fe_233_68 m_c_11 (m_lt hh (by decide)) (fun z => hg17 (Or.inl z)) rfl (fun z => hg17 (Or.inr z)) rfl ?_
                      refine r_iload_n fe_233_69 rfl ?_
                      by_cases hz18 : z15.1 = 0
                      · rw [if_pos hz18] at hf; cases hf
                      rw [if_neg hz18] at hf
                      refine r_irem (v := ((z15.2.2.1 11 (Int32.toNatClampNeg l1)) - (z15.2.2.1 11 (Int32.toNatClampNeg l1)) / z15.1 * z15.1)) fe_233_70 hz18 rfl ?_
                      refine r_istore fe_233_71 (Nat.le_of_ble_eq_true rfl) rfl ?_
                      refine r_aload_n fe_233_73 rfl ?_
                      refine mr_getf hh fe_233_74 lf_12_40 rfl ?_
                      refine r_iload_n fe_233_77 rfl ?_
                      refine r_dup2 fe_233_78 ⟨rfl, rfl⟩ ?_
                      by_cases hg19 : ¬ (l1 < 0 ∨ 13 ≤ (l1).toNatClampNeg)
                      rotate_left
                      · rw [if_neg hg19] at hf; cases hf
                      rw [if_pos hg19] at hf
                      refine r_iald (j := (Int32.toNatClampNeg l1)) (v := z15.2.2.1 11 (Int32.toNatClampNeg l1)) fe_233_79 m_c_11 (m_lt hh (by decide)) (fun z => hg19 (Or.inl z)) rfl (fun z => hg19 (Or.inr z)) rfl ?_
                      refine r_iload_n fe_233_80 rfl ?_
                      by_cases hz20 : z15.1 = 0
                      · rw [if_pos hz20] at hf; cases hf
                      rw [if_neg hz20] at hf
                      refine r_idiv (v := ((z15.2.2.1 11 (Int32.toNatClampNeg l1)) / z15.1)) fe_233_81 hz20 rfl ?_
                      by_cases hg21 : ¬ (l1 < 0 ∨ 13 ≤ (l1).toNatClampNeg)
                      rotate_left
                      · rw [if_neg hg21] at hf; cases hf
                      rw [if_pos hg21] at hf
                      refine mr_iast (k := 11) (n := 13) (j := (Int32.toNatClampNeg l1)) hh fe_233_82 rfl (by decide) (by decide) rfl rfl (fun z => hg21 (Or.inl z)) rfl (fun z => hg21 (Or.inr z)) ?_
                      refine r_aload_n fe_233_83 rfl ?_
                      refine r_aload_n fe_233_84 rfl ?_
                      refine mr_getf hh fe_233_85 lf_12_37 rfl ?_
                      refine r_iload_n fe_233_88 rfl ?_
                      by_cases hg22 : ¬ (l1 < 0 ∨ 13 ≤ (l1).toNatClampNeg)
                      rotate_left
                      · rw [if_neg hg22] at hf; cases hf
                      rw [if_pos hg22] at hf
                      refine r_iald (j := (Int32.toNatClampNeg l1)) (v := (m_sA z15.2 11 (Int32.toNatClampNeg l1) ((z15.2.2.1 11 (Int32.toNatClampNeg l1)) / z15.1)).2.1 10 (Int32.toNatClampNeg l1)) fe_233_89 m_c_10 (m_lt hh (by decide)) (fun z => hg22 (Or.inl z)) rfl (fun z => hg22 (Or.inr z)) rfl ?_
                      refine r_iload fe_233_90 rfl ?_
                      refine r_aload_n fe_233_92 rfl ?_
                      refine mr_getf hh fe_233_93 lf_12_43 rfl ?_
                      refine r_iload_n fe_233_96 rfl ?_
                      by_cases hg23 : ¬ (l1 < 0 ∨ 13 ≤ (l1).toNatClampNeg)
                      rotate_left
                      · rw [if_neg hg23] at hf; cases hf
                      rw [if_pos hg23] at hf
                      refine r_iald (j := (Int32.toNatClampNeg l1)) (v := (m_sA z15.2 11 (Int32.toNatClampNeg l1) ((z15.2.2.1 11 (Int32.toNatClampNeg l1)) / z15.1)).2.1 12 (Int32.toNatClampNeg l1)) fe_233_97 m_c_12 (m_lt hh (by decide)) (fun z => hg23 (Or.inl z)) rfl (fun z => hg23 (Or.inr z)) rfl ?_
                      refine r_callV (as := [.int ((m_sA z15.2 11 (Int32.toNatClampNeg l1) ((z15.2.2.1 11 (Int32.toNatClampNeg l1)) / z15.1)).2.1 10 (Int32.toNatClampNeg l1)), .int ((z15.2.2.1 11 (Int32.toNatClampNeg l1)) - (z15.2.2.1 11 (Int32.toNatClampNeg l1)) / z15.1 * z15.1), .int ((m_sA z15.2 11 (Int32.toNatClampNeg l1) ((z15.2.2.1 11 (Int32.toNatClampNeg l1)) / z15.1)).2.1 12 (Int32.toNatClampNeg l1))]) (r := []) fe_233_98 lm_12_469 md_232 rfl rfl (Nat.le_of_ble_eq_true rfl) m_c_0 (m_lt hh (by decide)) (Nat.le_of_ble_eq_true rfl) (Nat.le_of_ble_eq_true rfl) ?_
                      cases hc25 : F232 n ((m_sA z15.2 11 (Int32.toNatClampNeg l1) ((z15.2.2.1 11 (Int32.toNatClampNeg l1)) / z15.1)).2.1 10 (Int32.toNatClampNeg l1)) ((z15.2.2.1 11 (Int32.toNatClampNeg l1)) - (z15.2.2.1 11 (Int32.toNatClampNeg l1)) / z15.1 * z15.1) ((m_sA z15.2 11 (Int32.toNatClampNeg l1) ((z15.2.2.1 11 (Int32.toNatClampNeg l1)) / z15.1)).2.1 12 (Int32.toNatClampNeg l1)) (m_sA z15.2 11 (Int32.toNatClampNeg l1) ((z15.2.2.1 11 (Int32.toNatClampNeg l1)) / z15.1)) with
                      | none => rw [hc25] at hf; cases hf
                      | some z24 =>
                        rw [hc25, Option.bind_some] at hf
                        refine F232c (r0 := z24.1) (S0 := z24.2) hh hc25 ?_
                        refine r_iret fe_233_101 ⟨rfl, by decide⟩ ?_
                        exact dfin (P := fun r T => Q (some (.int r)) (mst T h)) hf hQ
              · rw [if_neg hb9] at hf
                refine r_ic_f (t := 40) fe_233_35 (by decide) (Bool.eq_false_iff.mpr hb9) ?_
                refine r_iconst (v := -1) fe_233_38 (by decide) ?_
                refine r_iret fe_233_39 ⟨rfl, by decide⟩ ?_
                exact dfin (P := fun r T => Q (some (.int r)) (mst T h)) hf hQ
theorem F233c {xs : Nat → Int32} {L9 d n : Nat} {h : AmH} {Q : Option Value → AmH → Prop} {r0 : Int32} {S0 S : mS} {l1 : Int32} (hh : 172 ≤ h.2.1) (hf : F233 n l1 S = some (r0, S0)) (hQ : Q (some (.int r0)) (mst S0 h)) : Ca (am_X xs L9) (d + 4) 233 [.ref 130, .int l1] (mst S h) Q := (F233l hh hQ n) l1 S hf
def F234b0 (F : Nat → Int32 → Int32 → mS → Option (Int32 × mS)) (n : Nat) (l1 : Int32) (l2 : Int32) (S : mS) : Option (Int32 × mS) := ((F196 n l1 S).bind (fun z1 => (if am_if .eq z1.1 = true then some (0, z1.2) else ((F198 n l1 z1.2).bind (fun z4 => (if am_ic .eq z4.1 (-1) = true then some (0, z4.2) else ((F215 n l1 z4.2).bind (fun z7 => (if am_ic .eq z7.1 l2 = true then ((F211 n  z7.2).bind (fun z10 => ((F198 n l1 z10.2).bind (fun z12 => some (1, (m_sA z12.2 1 5 ((z10.2.2.1 1 5) ^^^ (1 <<< (z12.1 &&& 31))))))))) else some (0, z7.2))))))))))
def F234f : Nat → Nat → Int32 → Int32 → mS → Option (Int32 × mS)
  | 0, _, _, _, _ => none
  | n + 1, c, l1, l2, S => F234b0 (F234f n) n l1 l2 S
theorem F234e0 (n : Nat) (l1 : Int32) (l2 : Int32) (S : mS) : F234f (n + 1) 0 l1 l2 S = F234b0 (F234f n) n l1 l2 S := rfl
def F234 (n : Nat) (l1 : Int32) (l2 : Int32) (S : mS) : Option (Int32 × mS) := F234f n 0 l1 l2 S
set_option maxRecDepth 20000 in
set_option maxHeartbeats 2000000 in
theorem F234l {xs : Nat → Int32} {L9 d : Nat} {h : AmH} {Q : Option Value → AmH → Prop} {r0 : Int32} {S0 : mS} (hh : 172 ≤ h.2.1) (hQ : Q (some (.int r0)) (mst S0 h)) : ∀ n : Nat, (∀ (l1 : Int32) (l2 : Int32) (S : mS), F234f n 0 l1 l2 S = some (r0, S0) → Go (am_X xs L9) (d + 4) 234 0 [.ref 130, .int l1, .int l2] [] (mst S h) Q) := by
  intro n
  induction n with
  | zero => exact fun l1 l2 S hf => (by cases hf)
  | succ n ih =>
    intro l1 l2 S hf
    rw [F234e0] at hf
    unfold F234b0 at hf
    refine r_aload_n fe_234_0 rfl ?_
    refine r_iload_n fe_234_1 rfl ?_
    refine r_callV (as := [.int l1]) (r := []) fe_234_2 lm_12_378 md_196 rfl rfl (Nat.le_of_ble_eq_true rfl) m_c_0 (m_lt hh (by decide)) (Nat.le_of_ble_eq_true rfl) (Nat.le_of_ble_eq_true rfl) ?_
    cases hc2 : F196 n l1 S with
    | none => rw [hc2] at hf; cases hf
    | some z1 =>
      rw [hc2, Option.bind_some] at hf
      refine F196c (r0 := z1.1) (S0 := z1.2) hh hc2 ?_
      by_cases hb3 : am_if .eq z1.1 = true
      · rw [if_pos hb3] at hf
        refine r_if_t (t := 26) fe_234_5 (by decide) hb3 ?_
        refine r_iconst (v := 0) fe_234_26 (by decide) ?_
        refine r_iret fe_234_27 ⟨rfl, by decide⟩ ?_
        exact dfin (P := fun r T => Q (some (.int r)) (mst T h)) hf hQ
      · rw [if_neg hb3] at hf
        refine r_if_f (t := 26) fe_234_5 (by decide) (Bool.eq_false_iff.mpr hb3) ?_
        refine r_aload_n fe_234_8 rfl ?_
        refine r_iload_n fe_234_9 rfl ?_
        refine r_callV (as := [.int l1]) (r := []) fe_234_10 lm_12_384 md_198 rfl rfl (Nat.le_of_ble_eq_true rfl) m_c_0 (m_lt hh (by decide)) (Nat.le_of_ble_eq_true rfl) (Nat.le_of_ble_eq_true rfl) ?_
        cases hc5 : F198 n l1 z1.2 with
        | none => rw [hc5] at hf; cases hf
        | some z4 =>
          rw [hc5, Option.bind_some] at hf
          refine F198c (r0 := z4.1) (S0 := z4.2) hh hc5 ?_
          refine r_iconst (v := -1) fe_234_13 (by decide) ?_
          by_cases hb6 : am_ic .eq z4.1 (-1) = true
          · rw [if_pos hb6] at hf
            refine r_ic_t (t := 26) fe_234_14 (by decide) hb6 ?_
            refine r_iconst (v := 0) fe_234_26 (by decide) ?_
            refine r_iret fe_234_27 ⟨rfl, by decide⟩ ?_
            exact dfin (P := fun r T => Q (some (.int r)) (mst T h)) hf hQ
          · rw [if_neg hb6] at hf
            refine r_ic_f (t := 26) fe_234_14 (by decide) (Bool.eq_false_iff.mpr hb6) ?_
            refine r_aload_n fe_234_17 rfl ?_
            refine r_iload_n fe_234_18 rfl ?_
            refine r_callV (as := [.int l1]) (r := []) fe_234_19 lm_12_399 md_215 rfl rfl (Nat.le_of_ble_eq_true rfl) m_c_0 (m_lt hh (by decide)) (Nat.le_of_ble_eq_true rfl) (Nat.le_of_ble_eq_true rfl) ?_
            cases hc8 : F215 n l1 z4.2 with
            | none => rw [hc8] at hf; cases hf
            | some z7 =>
              rw [hc8, Option.bind_some] at hf
              refine F215c (r0 := z7.1) (S0 := z7.2) hh hc8 ?_
              refine r_iload_n fe_234_22 rfl ?_
              by_cases hb9 : am_ic .eq z7.1 l2 = true
              · rw [if_pos hb9] at hf
                refine r_ic_t (t := 28) fe_234_23 (by decide) hb9 ?_
                refine r_aload_n fe_234_28 rfl ?_
                refine r_callV (as := []) (r := []) fe_234_29 lm_12_460 md_211 rfl rfl (Nat.le_of_ble_eq_true rfl) m_c_0 (m_lt hh (by decide)) (Nat.le_of_ble_eq_true rfl) (Nat.le_of_ble_eq_true rfl) ?_
                cases hc11 : F211 n  z7.2 with
                | none => rw [hc11] at hf; cases hf
                | some z10 =>
                  rw [hc11, Option.bind_some] at hf
                  refine F211c (r0 := z10.1) (S0 := z10.2) hh hc11 ?_
                  refine r_aload_n fe_234_32 rfl ?_
                  refine mr_getf hh fe_234_33 lf_12_9 rfl ?_
                  refine r_iconst (v := 5) fe_234_36 (by decide) ?_
                  refine r_dup2 fe_234_37 ⟨rfl, rfl⟩ ?_
                  refine r_iald (j := 5) (v := z10.2.2.1 1 5) fe_234_38 m_c_1 (m_lt hh (by decide)) (by decide) (by decide) (by decide) rfl ?_
                  refine r_iconst (v := 1) fe_234_39 (by decide) ?_
                  refine r_aload_n fe_234_40 rfl ?_
                  refine r_iload_n fe_234_41 rfl ?_
                  refine r_callV (as := [.int l1]) (r := [.int 1, .int (z10.2.2.1 1 5), .int 5, .ref 131]) fe_234_42 lm_12_384 md_198 rfl rfl (Nat.le_of_ble_eq_true rfl) m_c_0 (m_lt hh (by decide)) (Nat.le_of_ble_eq_true rfl) (Nat.le_of_ble_eq_true rfl) ?_
                  cases hc13 : F198 n l1 z10.2 with
                  | none => rw [hc13] at hf; cases hf
                  | some z12 =>
                    rw [hc13, Option.bind_some] at hf
                    refine F198c (r0 := z12.1) (S0 := z12.2) hh hc13 ?_
                    refine r_ishl (v := (1 <<< (z12.1 &&& 31))) fe_234_45 rfl ?_
                    refine r_ixor (v := ((z10.2.2.1 1 5) ^^^ (1 <<< (z12.1 &&& 31)))) fe_234_46 rfl ?_
                    refine mr_iast (k := 1) (n := 9) (j := 5) hh fe_234_47 rfl (by decide) (by decide) rfl rfl (by decide) (by decide) (by decide) ?_
                    refine r_iconst (v := 1) fe_234_48 (by decide) ?_
                    refine r_iret fe_234_49 ⟨rfl, by decide⟩ ?_
                    exact dfin (P := fun r T => Q (some (.int r)) (mst T h)) hf hQ
              · rw [if_neg hb9] at hf
                refine r_ic_f (t := 28) fe_234_23 (by decide) (Bool.eq_false_iff.mpr hb9) ?_
                refine r_iconst (v := 0) fe_234_26 (by decide) ?_
                refine r_iret fe_234_27 ⟨rfl, by decide⟩ ?_
                exact dfin (P := fun r T => Q (some (.int r)) (mst T h)) hf hQ
theorem F234c {xs : Nat → Int32} {L9 d n : Nat} {h : AmH} {Q : Option Value → AmH → Prop} {r0 : Int32} {S0 S : mS} {l1 : Int32} {l2 : Int32} (hh : 172 ≤ h.2.1) (hf : F234 n l1 l2 S = some (r0, S0)) (hQ : Q (some (.int r0)) (mst S0 h)) : Ca (am_X xs L9) (d + 4) 234 [.ref 130, .int l1, .int l2] (mst S h) Q := (F234l hh hQ n) l1 l2 S hf
def F237b0 (F : Nat → Int32 → Int32 → mS → Option (Unit × mS)) (n : Nat) (l1 : Int32) (l2 : Int32) (S : mS) : Option (Unit × mS) := (if ¬ ((S.2.1 1 3) < 0 ∨ 13 ≤ ((S.2.1 1 3)).toNatClampNeg) then (if ¬ (((m_sA S 8 (Int32.toNatClampNeg (S.2.1 1 3)) l1).2.1 1 3) < 0 ∨ 13 ≤ (((m_sA S 8 (Int32.toNatClampNeg (S.2.1 1 3)) l1).2.1 1 3)).toNatClampNeg) then some ((), (m_sA (m_sA (m_sA S 8 (Int32.toNatClampNeg (S.2.1 1 3)) l1) 9 (Int32.toNatClampNeg ((m_sA S 8 (Int32.toNatClampNeg (S.2.1 1 3)) l1).2.1 1 3)) l2) 1 3 (((m_sA (m_sA S 8 (Int32.toNatClampNeg (S.2.1 1 3)) l1) 9 (Int32.toNatClampNeg ((m_sA S 8 (Int32.toNatClampNeg (S.2.1 1 3)) l1).2.1 1 3)) l2).2.1 1 3) + 1))) else none) else none)
def F237f : Nat → Nat → Int32 → Int32 → mS → Option (Unit × mS)
  | 0, _, _, _, _ => none
  | n + 1, c, l1, l2, S => F237b0 (F237f n) n l1 l2 S
theorem F237e0 (n : Nat) (l1 : Int32) (l2 : Int32) (S : mS) : F237f (n + 1) 0 l1 l2 S = F237b0 (F237f n) n l1 l2 S := rfl
def F237 (n : Nat) (l1 : Int32) (l2 : Int32) (S : mS) : Option (Unit × mS) := F237f n 0 l1 l2 S
set_option maxRecDepth 20000 in
set_option maxHeartbeats 2000000 in
theorem F237l {xs : Nat → Int32} {L9 d : Nat} {h : AmH} {Q : Option Value → AmH → Prop} {r0 : Unit} {S0 : mS} (hh : 172 ≤ h.2.1) (hQ : Q none (mst S0 h)) : ∀ n : Nat, (∀ (l1 : Int32) (l2 : Int32) (S : mS), F237f n 0 l1 l2 S = some (r0, S0) → Go (am_X xs L9) (d + 0) 237 0 [.ref 130, .int l1, .int l2] [] (mst S h) Q) := by
  intro n
  induction n with
  | zero => exact fun l1 l2 S hf => (by cases hf)
  | succ n ih =>
    intro l1 l2 S hf
    rw [F237e0] at hf
    unfold F237b0 at hf
    refine r_aload_n fe_237_0 rfl ?_
    refine mr_getf hh fe_237_1 lf_12_31 rfl ?_
    refine r_aload_n fe_237_4 rfl ?_
    refine mr_getf hh fe_237_5 lf_12_9 rfl ?_
    refine r_iconst (v := 3) fe_237_8 (by decide) ?_
    refine r_iald (j := 3) (v := S.2.1 1 3) fe_237_9 m_c_1 (m_lt hh (by decide)) (by decide) (by decide) (by decide) rfl ?_
    refine r_iload_n fe_237_10 rfl ?_
    by_cases hg1 : ¬ ((S.2.1 1 3) < 0 ∨ 13 ≤ ((S.2.1 1 3)).toNatClampNeg)
    rotate_left
    · rw [if_neg hg1] at hf; cases hf
    rw [if_pos hg1] at hf
    refine mr_iast (k := 8) (n := 13) (j := (Int32.toNatClampNeg (S.2.1 1 3))) hh fe_237_11 rfl (by decide) (by decide) rfl rfl (fun z => hg1 (Or.inl z)) rfl (fun z => hg1 (Or.inr z)) ?_
    refine r_aload_n fe_237_12 rfl ?_
    refine mr_getf hh fe_237_13 lf_12_34 rfl ?_
    refine r_aload_n fe_237_16 rfl ?_
    refine mr_getf hh fe_237_17 lf_12_9 rfl ?_
    refine r_iconst (v := 3) fe_237_20 (by decide) ?_
    refine r_iald (j := 3) (v := (m_sA S 8 (Int32.toNatClampNeg (S.2.1 1 3)) l1).2.1 1 3) fe_237_21 m_c_1 (m_lt hh (by decide)) (by decide) (by decide) (by decide) rfl ?_
    refine r_iload_n fe_237_22 rfl ?_
    by_cases hg2 : ¬ (((m_sA S 8 (Int32.toNatClampNeg (S.2.1 1 3)) l1).2.1 1 3) < 0 ∨ 13 ≤ (((m_sA S 8 (Int32.toNatClampNeg (S.2.1 1 3)) l1).2.1 1 3)).toNatClampNeg)
    rotate_left
    · rw [if_neg hg2] at hf; cases hf
    rw [if_pos hg2] at hf
    refine mr_iast (k := 9) (n := 13) (j := (Int32.toNatClampNeg ((m_sA S 8 (Int32.toNatClampNeg (S.2.1 1 3)) l1).2.1 1 3))) hh fe_237_23 rfl (by decide) (by decide) rfl rfl (fun z => hg2 (Or.inl z)) rfl (fun z => hg2 (Or.inr z)) ?_
    refine r_aload_n fe_237_24 rfl ?_
    refine mr_getf hh fe_237_25 lf_12_9 rfl ?_
    refine r_iconst (v := 3) fe_237_28 (by decide) ?_
    refine r_dup2 fe_237_29 ⟨rfl, rfl⟩ ?_
    refine r_iald (j := 3) (v := (m_sA (m_sA S 8 (Int32.toNatClampNeg (S.2.1 1 3)) l1) 9 (Int32.toNatClampNeg ((m_sA S 8 (Int32.toNatClampNeg (S.2.1 1 3)) l1).2.1 1 3)) l2).2.1 1 3) fe_237_30 m_c_1 (m_lt hh (by decide)) (by decide) (by decide) (by decide) rfl ?_
    refine r_iconst (v := 1) fe_237_31 (by decide) ?_
    refine r_iadd (v := (((m_sA (m_sA S 8 (Int32.toNatClampNeg (S.2.1 1 3)) l1) 9 (Int32.toNatClampNeg ((m_sA S 8 (Int32.toNatClampNeg (S.2.1 1 3)) l1).2.1 1 3)) l2).2.1 1 3) + 1)) fe_237_32 rfl ?_
    refine mr_iast (k := 1) (n := 9) (j := 3) hh fe_237_33 rfl (by decide) (by decide) rfl rfl (by decide) (by decide) (by decide) ?_
    refine r_vret fe_237_34 ?_
    exact dfin (P := fun _ T => Q none (mst T h)) hf hQ
theorem F237c {xs : Nat → Int32} {L9 d n : Nat} {h : AmH} {Q : Option Value → AmH → Prop} {r0 : Unit} {S0 S : mS} {l1 : Int32} {l2 : Int32} (hh : 172 ≤ h.2.1) (hf : F237 n l1 l2 S = some (r0, S0)) (hQ : Q none (mst S0 h)) : Ca (am_X xs L9) (d + 0) 237 [.ref 130, .int l1, .int l2] (mst S h) Q := (F237l hh hQ n) l1 l2 S hf
def F236b0 (F : Nat → Int32 → Int32 → mS → Option (Unit × mS)) (n : Nat) (l1 : Int32) (l2 : Int32) (S : mS) : Option (Unit × mS) := F 2 0 l1 S
def F236b2 (F : Nat → Int32 → Int32 → mS → Option (Unit × mS)) (n : Nat) (l1 : Int32) (l2 : Int32) (S : mS) : Option (Unit × mS) := (if am_ic .ge (l2 + 1) (S.2.1 1 3) = true then some ((), (m_sA S 1 3 ((S.2.1 1 3) - 1))) else (if ¬ ((l2 + 1) < 0 ∨ 13 ≤ ((l2 + 1)).toNatClampNeg) then (if ¬ (l2 < 0 ∨ 13 ≤ (l2).toNatClampNeg) then (if ¬ ((l2 + 1) < 0 ∨ 13 ≤ ((l2 + 1)).toNatClampNeg) then (if ¬ (l2 < 0 ∨ 13 ≤ (l2).toNatClampNeg) then F 2 0 (l2 + 1) (m_sA (m_sA S 8 (Int32.toNatClampNeg l2) (S.2.1 8 (Int32.toNatClampNeg (l2 + 1)))) 9 (Int32.toNatClampNeg l2) ((m_sA S 8 (Int32.toNatClampNeg l2) (S.2.1 8 (Int32.toNatClampNeg (l2 + 1)))).2.1 9 (Int32.toNatClampNeg (l2 + 1)))) else none) else none) else none) else none))
def F236f : Nat → Nat → Int32 → Int32 → mS → Option (Unit × mS)
  | 0, _, _, _, _ => none
  | n + 1, c, l1, l2, S => if c = 0 then F236b0 (F236f n) n l1 l2 S else F236b2 (F236f n) n l1 l2 S
theorem F236e0 (n : Nat) (l1 : Int32) (l2 : Int32) (S : mS) : F236f (n + 1) 0 l1 l2 S = F236b0 (F236f n) n l1 l2 S := if_pos rfl
theorem F236e2 (n : Nat) (l1 : Int32) (l2 : Int32) (S : mS) : F236f (n + 1) 2 l1 l2 S = F236b2 (F236f n) n l1 l2 S := if_neg (by decide)
def F236 (n : Nat) (l1 : Int32) (S : mS) : Option (Unit × mS) := F236f n 0 l1 0 S
set_option maxRecDepth 20000 in
set_option maxHeartbeats 2000000 in
theorem F236l {xs : Nat → Int32} {L9 d : Nat} {h : AmH} {Q : Option Value → AmH → Prop} {r0 : Unit} {S0 : mS} (hh : 172 ≤ h.2.1) (hQ : Q none (mst S0 h)) : ∀ n : Nat, (∀ (l1 : Int32) (l2 : Int32) (S : mS), F236f n 0 l1 l2 S = some (r0, S0) → Go (am_X xs L9) (d + 0) 236 0 [.ref 130, .int l1, .float 0] [] (mst S h) Q) ∧ (∀ (l1 : Int32) (l2 : Int32) (S : mS), F236f n 2 l1 l2 S = some (r0, S0) → Go (am_X xs L9) (d + 0) 236 2 [.ref 130, .float 0, .int l2] [] (mst S h) Q) := by
  intro n
  induction n with
  | zero => exact ⟨fun l1 l2 S hf => (by cases hf), fun l1 l2 S hf => (by cases hf)⟩
  | succ n ih =>
    refine ⟨?_, ?_⟩
    · intro l1 l2 S hf
      rw [F236e0] at hf
      unfold F236b0 at hf
      refine r_iload_n fe_236_0 rfl ?_
      refine r_istore_n fe_236_1 (Nat.le_of_ble_eq_true rfl) rfl ?_
      refine go_weak (L0 := [.ref 130, .float 0, .int l1]) (lwk_c (Or.inl rfl) (lwk_c (Or.inr rfl) (lwk_c (Or.inl rfl) (lwk_rf [])))) ?_
      exact ih.2 0 l1 S hf
    · intro l1 l2 S hf
      rw [F236e2] at hf
      unfold F236b2 at hf
      refine r_iload_n fe_236_2 rfl ?_
      refine r_iconst (v := 1) fe_236_3 (by decide) ?_
      refine r_iadd (v := (l2 + 1)) fe_236_4 rfl ?_
      refine r_aload_n fe_236_5 rfl ?_
      refine mr_getf hh fe_236_6 lf_12_9 rfl ?_
      refine r_iconst (v := 3) fe_236_9 (by decide) ?_
      refine r_iald (j := 3) (v := S.2.1 1 3) fe_236_10 m_c_1 (m_lt hh (by decide)) (by decide) (by decide) (by decide) rfl ?_
      by_cases hb1 : am_ic .ge (l2 + 1) (S.2.1 1 3) = true
      · rw [if_pos hb1] at hf
        refine r_ic_t (t := 48) fe_236_11 (by decide) hb1 ?_
        refine r_aload_n fe_236_48 rfl ?_
        refine mr_getf hh fe_236_49 lf_12_9 rfl ?_
        refine r_iconst (v := 3) fe_236_52 (by decide) ?_
        refine r_dup2 fe_236_53 ⟨rfl, rfl⟩ ?_
        refine r_iald (j := 3) (v := S.2.1 1 3) fe_236_54 m_c_1 (m_lt hh (by decide)) (by decide) (by decide) (by decide) rfl ?_
        refine r_iconst (v := 1) fe_236_55 (by decide) ?_
        refine r_isub (v := ((S.2.1 1 3) - 1)) fe_236_56 rfl ?_
        refine mr_iast (k := 1) (n := 9) (j := 3) hh fe_236_57 rfl (by decide) (by decide) rfl rfl (by decide) (by decide) (by decide) ?_
        refine r_vret fe_236_58 ?_
        exact dfin (P := fun _ T => Q none (mst T h)) hf hQ
      · rw [if_neg hb1] at hf
        refine r_ic_f (t := 48) fe_236_11 (by decide) (Bool.eq_false_iff.mpr hb1) ?_
        refine r_aload_n fe_236_14 rfl ?_
        refine mr_getf hh fe_236_15 lf_12_31 rfl ?_
        refine r_iload_n fe_236_18 rfl ?_
        refine r_aload_n fe_236_19 rfl ?_
        refine mr_getf hh fe_236_20 lf_12_31 rfl ?_
        refine r_iload_n fe_236_23 rfl ?_
        refine r_iconst (v := 1) fe_236_24 (by decide) ?_
        refine r_iadd (v := (l2 + 1)) fe_236_25 rfl ?_
        by_cases hg2 : ¬ ((l2 + 1) < 0 ∨ 13 ≤ ((l2 + 1)).toNatClampNeg)
        rotate_left
        · rw [if_neg hg2] at hf; cases hf
        rw [if_pos hg2] at hf
        refine r_iald (j := (Int32.toNatClampNeg (l2 + 1))) (v := S.2.1 8 (Int32.toNatClampNeg (l2 + 1))) fe_236_26 m_c_8 (m_lt hh (by decide)) (fun z => hg2 (Or.inl z)) rfl (fun z => hg2 (Or.inr z)) rfl ?_
        by_cases hg3 : ¬ (l2 < 0 ∨ 13 ≤ (l2).toNatClampNeg)
        rotate_left
        · rw [if_neg hg3] at hf; cases hf
        rw [if_pos hg3] at hf
        refine mr_iast (k := 8) (n := 13) (j := (Int32.toNatClampNeg l2)) hh fe_236_27 rfl (by decide) (by decide) rfl rfl (fun z => hg3 (Or.inl z)) rfl (fun z => hg3 (Or.inr z)) ?_
        refine r_aload_n fe_236_28 rfl ?_
        refine mr_getf hh fe_236_29 lf_12_34 rfl ?_
        refine r_iload_n fe_236_32 rfl ?_
        refine r_aload_n fe_236_33 rfl ?_
        refine mr_getf hh fe_236_34 lf_12_34 rfl ?_
        refine r_iload_n fe_236_37 rfl ?_
        refine r_iconst (v := 1) fe_236_38 (by decide) ?_
        refine r_iadd (v := (l2 + 1)) fe_236_39 rfl ?_
        by_cases hg4 : ¬ ((l2 + 1) < 0 ∨ 13 ≤ ((l2 + 1)).toNatClampNeg)
        rotate_left
        · rw [if_neg hg4] at hf; cases hf
        rw [if_pos hg4] at hf
        refine r_iald (j := (Int32.toNatClampNeg (l2 + 1))) (v := (m_sA S 8 (Int32.toNatClampNeg l2) (S.2.1 8 (Int32.toNatClampNeg (l2 + 1)))).2.1 9 (Int32.toNatClampNeg (l2 + 1))) fe_236_40 m_c_9 (m_lt hh (by decide)) (fun z => hg4 (Or.inl z)) rfl (fun z => hg4 (Or.inr z)) rfl ?_
        by_cases hg5 : ¬ (l2 < 0 ∨ 13 ≤ (l2).toNatClampNeg)
        rotate_left
        · rw [if_neg hg5] at hf; cases hf
        rw [if_pos hg5] at hf
        refine mr_iast (k := 9) (n := 13) (j := (Int32.toNatClampNeg l2)) hh fe_236_41 rfl (by decide) (by decide) rfl rfl (fun z => hg5 (Or.inl z)) rfl (fun z => hg5 (Or.inr z)) ?_
        refine r_iinc (v := (l2 + 1)) fe_236_42 rfl rfl rfl ?_
        refine r_goto (t := 2) fe_236_45 (by decide) ?_
        refine go_weak (L0 := [.ref 130, .float 0, .int (l2 + 1)]) (lwk_c (Or.inl rfl) (lwk_c (Or.inl rfl) (lwk_c (Or.inl rfl) (lwk_rf [])))) ?_
        exact ih.2 0 (l2 + 1) (m_sA (m_sA S 8 (Int32.toNatClampNeg l2) (S.2.1 8 (Int32.toNatClampNeg (l2 + 1)))) 9 (Int32.toNatClampNeg l2) ((m_sA S 8 (Int32.toNatClampNeg l2) (S.2.1 8 (Int32.toNatClampNeg (l2 + 1)))).2.1 9 (Int32.toNatClampNeg (l2 + 1)))) hf
theorem F236c {xs : Nat → Int32} {L9 d n : Nat} {h : AmH} {Q : Option Value → AmH → Prop} {r0 : Unit} {S0 S : mS} {l1 : Int32} (hh : 172 ≤ h.2.1) (hf : F236 n l1 S = some (r0, S0)) (hQ : Q none (mst S0 h)) : Ca (am_X xs L9) (d + 0) 236 [.ref 130, .int l1] (mst S h) Q := (F236l hh hQ n).1 l1 0 S hf
def F235b0 (F : Nat → Int32 → Int32 → mS → Option (Int32 × mS)) (n : Nat) (l1 : Int32) (l2 : Int32) (S : mS) : Option (Int32 × mS) := ((F196 n l1 S).bind (fun z1 => (if am_if .eq z1.1 = true then some ((-1), z1.2) else ((F172 n (Int32.toInt64 l2) 0 8 z1.2).bind (fun z4 => (if am_if .ne z4.1 = true then ((F200 n l1 z4.2).bind (fun z7 => (if am_ic .ne z7.1 (-1) = true then (if ¬ (z7.1 < 0 ∨ 13 ≤ (z7.1).toNatClampNeg) then (if am_ic .eq (z7.2.2.1 9 (Int32.toNatClampNeg z7.1)) l2 = true then some ((-1), z7.2) else (if am_ic .ne z7.1 (-1) = true then ((F211 n  z7.2).bind (fun z13 => (if am_if .ne l2 = true then (if am_ic .ne z7.1 (-1) = true then (if ¬ (z7.1 < 0 ∨ 13 ≤ (z7.1).toNatClampNeg) then some ((z7.2.2.1 9 (Int32.toNatClampNeg z7.1)), (m_sA z13.2 9 (Int32.toNatClampNeg z7.1) l2)) else none) else ((F237 n l1 l2 z13.2).bind (fun z18 => some ((z7.2.2.1 9 (Int32.toNatClampNeg z7.1)), z18.2)))) else ((F236 n z7.1 z13.2).bind (fun z20 => some ((z7.2.2.1 9 (Int32.toNatClampNeg z7.1)), z20.2)))))) else (if am_ic .ne (z7.2.2.1 1 3) 5 = true then ((F211 n  z7.2).bind (fun z23 => (if am_if .ne l2 = true then (if am_ic .ne z7.1 (-1) = true then (if ¬ (z7.1 < 0 ∨ 13 ≤ (z7.1).toNatClampNeg) then some ((z7.2.2.1 9 (Int32.toNatClampNeg z7.1)), (m_sA z23.2 9 (Int32.toNatClampNeg z7.1) l2)) else none) else ((F237 n l1 l2 z23.2).bind (fun z28 => some ((z7.2.2.1 9 (Int32.toNatClampNeg z7.1)), z28.2)))) else ((F236 n z7.1 z23.2).bind (fun z30 => some ((z7.2.2.1 9 (Int32.toNatClampNeg z7.1)), z30.2)))))) else some ((-1), z7.2)))) else none) else (if am_ic .eq 0 l2 = true then some ((-1), z7.2) else (if am_ic .ne z7.1 (-1) = true then ((F211 n  z7.2).bind (fun z34 => (if am_if .ne l2 = true then (if am_ic .ne z7.1 (-1) = true then (if ¬ (z7.1 < 0 ∨ 13 ≤ (z7.1).toNatClampNeg) then some (0, (m_sA z34.2 9 (Int32.toNatClampNeg z7.1) l2)) else none) else ((F237 n l1 l2 z34.2).bind (fun z39 => some (0, z39.2)))) else ((F236 n z7.1 z34.2).bind (fun z41 => some (0, z41.2)))))) else (if am_ic .ne (z7.2.2.1 1 3) 5 = true then ((F211 n  z7.2).bind (fun z44 => (if am_if .ne l2 = true then (if am_ic .ne z7.1 (-1) = true then (if ¬ (z7.1 < 0 ∨ 13 ≤ (z7.1).toNatClampNeg) then some (0, (m_sA z44.2 9 (Int32.toNatClampNeg z7.1) l2)) else none) else ((F237 n l1 l2 z44.2).bind (fun z49 => some (0, z49.2)))) else ((F236 n z7.1 z44.2).bind (fun z51 => some (0, z51.2)))))) else some ((-1), z7.2))))))) else some ((-1), z4.2)))))))
def F235f : Nat → Nat → Int32 → Int32 → mS → Option (Int32 × mS)
  | 0, _, _, _, _ => none
  | n + 1, c, l1, l2, S => F235b0 (F235f n) n l1 l2 S
theorem F235e0 (n : Nat) (l1 : Int32) (l2 : Int32) (S : mS) : F235f (n + 1) 0 l1 l2 S = F235b0 (F235f n) n l1 l2 S := rfl
def F235 (n : Nat) (l1 : Int32) (l2 : Int32) (S : mS) : Option (Int32 × mS) := F235f n 0 l1 l2 S
set_option maxRecDepth 20000 in
set_option maxHeartbeats 2000000 in
theorem F235l {xs : Nat → Int32} {L9 d : Nat} {h : AmH} {Q : Option Value → AmH → Prop} {r0 : Int32} {S0 : mS} (hh : 172 ≤ h.2.1) (hQ : Q (some (.int r0)) (mst S0 h)) : ∀ n : Nat, (∀ (l1 : Int32) (l2 : Int32) (S : mS), F235f n 0 l1 l2 S = some (r0, S0) → Go (am_X xs L9) (d + 4) 235 0 [.ref 130, .int l1, .int l2, .float 0, .float 0] [] (mst S h) Q) := by
  intro n
  induction n with
  | zero => exact fun l1 l2 S hf => (by cases hf)
  | succ n ih =>
    intro l1 l2 S hf
    rw [F235e0] at hf
    unfold F235b0 at hf
    refine r_aload_n fe_235_0 rfl ?_
    refine r_iload_n fe_235_1 rfl ?_
    refine r_callV (as := [.int l1]) (r := []) fe_235_2 lm_12_378 md_196 rfl rfl (Nat.le_of_ble_eq_true rfl) m_c_0 (m_lt hh (by decide)) (Nat.le_of_ble_eq_true rfl) (Nat.le_of_ble_eq_true rfl) ?_
    cases hc2 : F196 n l1 S with
    | none => rw [hc2] at hf; cases hf
    | some z1 =>
      rw [hc2, Option.bind_some] at hf
      refine F196c (r0 := z1.1) (S0 := z1.2) hh hc2 ?_
      by_cases hb3 : am_if .eq z1.1 = true
      · rw [if_pos hb3] at hf
        refine r_if_t (t := 20) fe_235_5 (by decide) hb3 ?_
        refine r_iconst (v := -1) fe_235_20 (by decide) ?_
        refine r_iret fe_235_21 ⟨rfl, by decide⟩ ?_
        exact dfin (P := fun r T => Q (some (.int r)) (mst T h)) hf hQ
      · rw [if_neg hb3] at hf
        refine r_if_f (t := 20) fe_235_5 (by decide) (Bool.eq_false_iff.mpr hb3) ?_
        refine r_iload_n fe_235_8 rfl ?_
        refine r_i2l (v := (Int32.toInt64 l2)) fe_235_9 rfl ?_
        refine r_lconst (v := 0) fe_235_10 (by decide) ?_
        refine r_ldc2 fe_235_11 lk_12_473 ?_
        refine r_callS (as := [.long (Int32.toInt64 l2), .long 0, .long 8]) (r := []) fe_235_14 lm_12_143 md_172 rfl rfl (Nat.le_of_ble_eq_true rfl) (Nat.le_of_ble_eq_true rfl) (Nat.le_of_ble_eq_true rfl) ?_
        cases hc5 : F172 n (Int32.toInt64 l2) 0 8 z1.2 with
        | none => rw [hc5] at hf; cases hf
        | some z4 =>
          rw [hc5, Option.bind_some] at hf
          refine F172c (r0 := z4.1) (S0 := z4.2) hh hc5 ?_
          by_cases hb6 : am_if .ne z4.1 = true
          · rw [if_pos hb6] at hf
            refine r_if_t (t := 22) fe_235_17 (by decide) hb6 ?_
            refine r_aload_n fe_235_22 rfl ?_
            refine r_iload_n fe_235_23 rfl ?_
            refine r_callV (as := [.int l1]) (r := []) fe_235_24 lm_12_390 md_200 rfl rfl (Nat.le_of_ble_eq_true rfl) m_c_0 (m_lt hh (by decide)) (Nat.le_of_ble_eq_true rfl) (Nat.le_of_ble_eq_true rfl) ?_
            cases hc8 : F200 n l1 z4.2 with
            | none => rw [hc8] at hf; cases hf
            | some z7 =>
              rw [hc8, Option.bind_some] at hf
              refine F200c (r0 := z7.1) (S0 := z7.2) hh hc8 ?_
              refine r_istore_n fe_235_27 (Nat.le_of_ble_eq_true rfl) rfl ?_
              refine r_iload_n fe_235_28 rfl ?_
              refine r_iconst (v := -1) fe_235_29 (by decide) ?_
              by_cases hb9 : am_ic .ne z7.1 (-1) = true
              · rw [if_pos hb9] at hf
                refine r_ic_t (t := 37) fe_235_30 (by decide) hb9 ?_
                refine r_aload_n fe_235_37 rfl ?_
                refine mr_getf hh fe_235_38 lf_12_34 rfl ?_
                refine r_iload_n fe_235_41 rfl ?_
                by_cases hg10 : ¬ (z7.1 < 0 ∨ 13 ≤ (z7.1).toNatClampNeg)
                rotate_left
                · rw [if_neg hg10] at hf; cases hf
                rw [if_pos hg10] at hf
                refine r_iald (j := (Int32.toNatClampNeg z7.1)) (v := z7.2.2.1 9 (Int32.toNatClampNeg z7.1)) fe_235_42 m_c_9 (m_lt hh (by decide)) (fun z => hg10 (Or.inl z)) rfl (fun z => hg10 (Or.inr z)) rfl ?_
                refine r_istore fe_235_43 (Nat.le_of_ble_eq_true rfl) rfl ?_
                refine r_iload fe_235_45 rfl ?_
                refine r_iload_n fe_235_47 rfl ?_
                by_cases hb11 : am_ic .eq (z7.2.2.1 9 (Int32.toNatClampNeg z7.1)) l2 = true
                · rw [if_pos hb11] at hf
                  refine r_ic_t (t := 66) fe_235_48 (by decide) hb11 ?_
                  refine r_iconst (v := -1) fe_235_66 (by decide) ?_
                  refine r_iret fe_235_67 ⟨rfl, by decide⟩ ?_
                  exact dfin (P := fun r T => Q (some (.int r)) (mst T h)) hf hQ
                · rw [if_neg hb11] at hf
                  refine r_ic_f (t := 66) fe_235_48 (by decide) (Bool.eq_false_iff.mpr hb11) ?_
                  refine r_iload_n fe_235_51 rfl ?_
                  refine r_iconst (v := -1) fe_235_52 (by decide) ?_
                  by_cases hb12 : am_ic .ne z7.1 (-1) = true
                  · rw [if_pos hb12] at hf
                    refine r_ic_t (t := 68) fe_235_53 (by decide) hb12 ?_
                    refine r_aload_n fe_235_68 rfl ?_
                    refine r_callV (as := []) (r := []) fe_235_69 lm_12_460 md_211 rfl rfl (Nat.le_of_ble_eq_true rfl) m_c_0 (m_lt hh (by decide)) (Nat.le_of_ble_eq_true rfl) (Nat.le_of_ble_eq_true rfl) ?_
                    cases hc14 : F211 n  z7.2 with
                    | none => rw [hc14] at hf; cases hf
                    | some z13 =>
                      rw [hc14, Option.bind_some] at hf
                      refine F211c (r0 := z13.1) (S0 := z13.2) hh hc14 ?_
                      refine r_iload_n fe_235_72 rfl ?_
                      by_cases hb15 : am_if .ne l2 = true
                      · rw [if_pos hb15] at hf
                        refine r_if_t (t := 84) fe_235_73 (by decide) hb15 ?_
                        refine r_iload_n fe_235_84 rfl ?_
                        refine r_iconst (v := -1) fe_235_85 (by decide) ?_
                        by_cases hb16 : am_ic .ne z7.1 (-1) = true
                        · rw [if_pos hb16] at hf
                          refine r_ic_t (t := 98) fe_235_86 (by decide) hb16 ?_
                          refine r_aload_n fe_235_98 rfl ?_
                          refine mr_getf hh fe_235_99 lf_12_34 rfl ?_
                          refine r_iload_n fe_235_102 rfl ?_
                          refine r_iload_n fe_235_103 rfl ?_
                          by_cases hg17 : ¬ (z7.1 < 0 ∨ 13 ≤ (z7.1).toNatClampNeg)
                          rotate_left
                          · rw [if_neg hg17] at hf; cases hf
                          rw [if_pos hg17] at hf
                          refine mr_iast (k := 9) (n := 13) (j := (Int32.toNatClampNeg z7.1)) hh fe_235_104 rfl (by decide) (by decide) rfl rfl (fun z => hg17 (Or.inl z)) rfl (fun z => hg17 (Or.inr z)) ?_
                          refine r_iload fe_235_105 rfl ?_
                          refine r_iret fe_235_107 ⟨rfl, by decide⟩ ?_
                          exact dfin (P := fun r T => Q (some (.int r)) (mst T h)) hf hQ
                        · rw [if_neg hb16] at hf
                          refine r_ic_f (t := 98) fe_235_86 (by decide) (Bool.eq_false_iff.mpr hb16) ?_
                          refine r_aload_n fe_235_89 rfl ?_
                          refine r_iload_n fe_235_90 rfl ?_
                          refine r_iload_n fe_235_91 rfl ?_
                          refine r_callV (as := [.int l1, .int l2]) (r := []) fe_235_92 lm_12_478 md_237 rfl rfl (Nat.le_of_ble_eq_true rfl) m_c_0 (m_lt hh (by decide)) (Nat.le_of_ble_eq_true rfl) (Nat.le_of_ble_eq_true rfl) ?_
                          cases hc19 : F237 n l1 l2 z13.2 with
                          | none => rw [hc19] at hf; cases hf
                          | some z18 =>
                            rw [hc19, Option.bind_some] at hf
                            refine F237c (r0 := z18.1) (S0 := z18.2) hh hc19 ?_
                            refine r_goto (t := 105) fe_235_95 (by decide) ?_
                            refine r_iload fe_235_105 rfl ?_
                            refine r_iret fe_235_107 ⟨rfl, by decide⟩ ?_
                            exact dfin (P := fun r T => Q (some (.int r)) (mst T h)) hf hQ
                      · rw [if_neg hb15] at hf
                        refine r_if_f (t := 84) fe_235_73 (by decide) (Bool.eq_false_iff.mpr hb15) ?_
                        refine r_aload_n fe_235_76 rfl ?_
                        refine r_iload_n fe_235_77 rfl ?_
                        refine r_callV (as := [.int z7.1]) (r := []) fe_235_78 lm_12_475 md_236 rfl rfl (Nat.le_of_ble_eq_true rfl) m_c_0 (m_lt hh (by decide)) (Nat.le_of_ble_eq_true rfl) (Nat.le_of_ble_eq_true rfl) ?_
                        cases hc21 : F236 n z7.1 z13.2 with
                        | none => rw [hc21] at hf; cases hf
                        | some z20 =>
                          rw [hc21, Option.bind_some] at hf
                          refine F236c (r0 := z20.1) (S0 := z20.2) hh hc21 ?_
                          refine r_goto (t := 105) fe_235_81 (by decide) ?_
                          refine r_iload fe_235_105 rfl ?_
                          refine r_iret fe_235_107 ⟨rfl, by decide⟩ ?_
                          exact dfin (P := fun r T => Q (some (.int r)) (mst T h)) hf hQ
                  · rw [if_neg hb12] at hf
                    refine r_ic_f (t := 68) fe_235_53 (by decide) (Bool.eq_false_iff.mpr hb12) ?_
                    refine r_aload_n fe_235_56 rfl ?_
                    refine mr_getf hh fe_235_57 lf_12_9 rfl ?_
                    refine r_iconst (v := 3) fe_235_60 (by decide) ?_
                    refine r_iald (j := 3) (v := z7.2.2.1 1 3) fe_235_61 m_c_1 (m_lt hh (by decide)) (by decide) (by decide) (by decide) rfl ?_
                    refine r_iconst (v := 5) fe_235_62 (by decide) ?_
                    by_cases hb22 : am_ic .ne (z7.2.2.1 1 3) 5 = true
                    · rw [if_pos hb22] at hf
                      refine r_ic_t (t := 68) fe_235_63 (by decide) hb22 ?_
                      refine r_aload_n fe_235_68 rfl ?_
                      refine r_callV (as := []) (r := []) fe_235_69 lm_12_460 md_211 rfl rfl (Nat.le_of_ble_eq_true rfl) m_c_0 (m_lt hh (by decide)) (Nat.le_of_ble_eq_true rfl) (Nat.le_of_ble_eq_true rfl) ?_
                      cases hc24 : F211 n  z7.2 with
                      | none => rw [hc24] at hf; cases hf
                      | some z23 =>
                        rw [hc24, Option.bind_some] at hf
                        refine F211c (r0 := z23.1) (S0 := z23.2) hh hc24 ?_
                        refine r_iload_n fe_235_72 rfl ?_
                        by_cases hb25 : am_if .ne l2 = true
                        · rw [if_pos hb25] at hf
                          refine r_if_t (t := 84) fe_235_73 (by decide) hb25 ?_
                          refine r_iload_n fe_235_84 rfl ?_
                          refine r_iconst (v := -1) fe_235_85 (by decide) ?_
                          by_cases hb26 : am_ic .ne z7.1 (-1) = true
                          · rw [if_pos hb26] at hf
                            refine r_ic_t (t := 98) fe_235_86 (by decide) hb26 ?_
                            refine r_aload_n fe_235_98 rfl ?_
                            refine mr_getf hh fe_235_99 lf_12_34 rfl ?_
                            refine r_iload_n fe_235_102 rfl ?_
                            refine r_iload_n fe_235_103 rfl ?_
                            by_cases hg27 : ¬ (z7.1 < 0 ∨ 13 ≤ (z7.1).toNatClampNeg)
                            rotate_left
                            · rw [if_neg hg27] at hf; cases hf
                            rw [if_pos hg27] at hf
                            refine mr_iast (k := 9) (n := 13) (j := (Int32.toNatClampNeg z7.1)) hh fe_235_104 rfl (by decide) (by decide) rfl rfl (fun z => hg27 (Or.inl z)) rfl (fun z => hg27 (Or.inr z)) ?_
                            refine r_iload fe_235_105 rfl ?_
                            refine r_iret fe_235_107 ⟨rfl, by decide⟩ ?_
                            exact dfin (P := fun r T => Q (some (.int r)) (mst T h)) hf hQ
                          · rw [if_neg hb26] at hf
                            refine r_ic_f (t := 98) fe_235_86 (by decide) (Bool.eq_false_iff.mpr hb26) ?_
                            refine r_aload_n fe_235_89 rfl ?_
                            refine r_iload_n fe_235_90 rfl ?_
                            refine r_iload_n fe_235_91 rfl ?_
                            refine r_callV (as := [.int l1, .int l2]) (r := []) fe_235_92 lm_12_478 md_237 rfl rfl (Nat.le_of_ble_eq_true rfl) m_c_0 (m_lt hh (by decide)) (Nat.le_of_ble_eq_true rfl) (Nat.le_of_ble_eq_true rfl) ?_
                            cases hc29 : F237 n l1 l2 z23.2 with
                            | none => rw [hc29] at hf; cases hf
                            | some z28 =>
                              rw [hc29, Option.bind_some] at hf
                              refine F237c (r0 := z28.1) (S0 := z28.2) hh hc29 ?_
                              refine r_goto (t := 105) fe_235_95 (by decide) ?_
                              refine r_iload fe_235_105 rfl ?_
                              refine r_iret fe_235_107 ⟨rfl, by decide⟩ ?_
                              exact dfin (P := fun r T => Q (some (.int r)) (mst T h)) hf hQ
                        · rw [if_neg hb25] at hf
                          refine r_if_f (t := 84) fe_235_73 (by decide) (Bool.eq_false_iff.mpr hb25) ?_
                          refine r_aload_n fe_235_76 rfl ?_
                          refine r_iload_n fe_235_77 rfl ?_
                          refine r_callV (as := [.int z7.1]) (r := []) fe_235_78 lm_12_475 md_236 rfl rfl (Nat.le_of_ble_eq_true rfl) m_c_0 (m_lt hh (by decide)) (Nat.le_of_ble_eq_true rfl) (Nat.le_of_ble_eq_true rfl) ?_
                          cases hc31 : F236 n z7.1 z23.2 with
                          | none => rw [hc31] at hf; cases hf
                          | some z30 =>
                            rw [hc31, Option.bind_some] at hf
                            refine F236c (r0 := z30.1) (S0 := z30.2) hh hc31 ?_
                            refine r_goto (t := 105) fe_235_81 (by decide) ?_
                            refine r_iload fe_235_105 rfl ?_
                            refine r_iret fe_235_107 ⟨rfl, by decide⟩ ?_
                            exact dfin (P := fun r T => Q (some (.int r)) (mst T h)) hf hQ
                    · rw [if_neg hb22] at hf
                      refine r_ic_f (t := 68) fe_235_63 (by decide) (Bool.eq_false_iff.mpr hb22) ?_
                      refine r_iconst (v := -1) fe_235_66 (by decide) ?_
                      refine r_iret fe_235_67 ⟨rfl, by decide⟩ ?_
                      exact dfin (P := fun r T => Q (some (.int r)) (mst T h)) hf hQ
              · rw [if_neg hb9] at hf
                refine r_ic_f (t := 37) fe_235_30 (by decide) (Bool.eq_false_iff.mpr hb9) ?_
                refine r_iconst (v := 0) fe_235_33 (by decide) ?_
                refine r_goto (t := 43) fe_235_34 (by decide) ?_
                refine r_istore fe_235_43 (Nat.le_of_ble_eq_true rfl) rfl ?_
                refine r_iload fe_235_45 rfl ?_
                refine r_iload_n fe_235_47 rfl ?_
                by_cases hb32 : am_ic .eq 0 l2 = true
                · rw [if_pos hb32] at hf
                  refine r_ic_t (t := 66) fe_235_48 (by decide) hb32 ?_
                  refine r_iconst (v := -1) fe_235_66 (by decide) ?_
                  refine r_iret fe_235_67 ⟨rfl, by decide⟩ ?_
                  exact dfin (P := fun r T => Q (some (.int r)) (mst T h)) hf hQ
                · rw [if_neg hb32] at hf
                  refine r_ic_f (t := 66) fe_235_48 (by decide) (Bool.eq_false_iff.mpr hb32) ?_
                  refine r_iload_n fe_235_51 rfl ?_
                  refine r_iconst (v := -1) fe_235_52 (by decide) ?_
                  by_cases hb33 : am_ic .ne z7.1 (-1) = true
                  · rw [if_pos hb33] at hf
                    refine r_ic_t (t := 68) fe_235_53 (by decide) hb33 ?_
                    refine r_aload_n fe_235_68 rfl ?_
                    refine r_callV (as := []) (r := []) fe_235_69 lm_12_460 md_211 rfl rfl (Nat.le_of_ble_eq_true rfl) m_c_0 (m_lt hh (by decide)) (Nat.le_of_ble_eq_true rfl) (Nat.le_of_ble_eq_true rfl) ?_
                    cases hc35 : F211 n  z7.2 with
                    | none => rw [hc35] at hf; cases hf
                    | some z34 =>
                      rw [hc35, Option.bind_some] at hf
                      refine F211c (r0 := z34.1) (S0 := z34.2) hh hc35 ?_
                      refine r_iload_n fe_235_72 rfl ?_
                      by_cases hb36 : am_if .ne l2 = true
                      · rw [if_pos hb36] at hf
                        refine r_if_t (t := 84) fe_235_73 (by decide) hb36 ?_
                        refine r_iload_n fe_235_84 rfl ?_
                        refine r_iconst (v := -1) fe_235_85 (by decide) ?_
                        by_cases hb37 : am_ic .ne z7.1 (-1) = true
                        · rw [if_pos hb37] at hf
                          refine r_ic_t (t := 98) fe_235_86 (by decide) hb37 ?_
                          refine r_aload_n fe_235_98 rfl ?_
                          refine mr_getf hh fe_235_99 lf_12_34 rfl ?_
                          refine r_iload_n fe_235_102 rfl ?_
                          refine r_iload_n fe_235_103 rfl ?_
                          by_cases hg38 : ¬ (z7.1 < 0 ∨ 13 ≤ (z7.1).toNatClampNeg)
                          rotate_left
                          · rw [if_neg hg38] at hf; cases hf
                          rw [if_pos hg38] at hf
                          refine mr_iast (k := 9) (n := 13) (j := (Int32.toNatClampNeg z7.1)) hh fe_235_104 rfl (by decide) (by decide) rfl rfl (fun z => hg38 (Or.inl z)) rfl (fun z => hg38 (Or.inr z)) ?_
                          refine r_iload fe_235_105 rfl ?_
                          refine r_iret fe_235_107 ⟨rfl, by decide⟩ ?_
                          exact dfin (P := fun r T => Q (some (.int r)) (mst T h)) hf hQ
                        · rw [if_neg hb37] at hf
                          refine r_ic_f (t := 98) fe_235_86 (by decide) (Bool.eq_false_iff.mpr hb37) ?_
                          refine r_aload_n fe_235_89 rfl ?_
                          refine r_iload_n fe_235_90 rfl ?_
                          refine r_iload_n fe_235_91 rfl ?_
                          refine r_callV (as := [.int l1, .int l2]) (r := []) fe_235_92 lm_12_478 md_237 rfl rfl (Nat.le_of_ble_eq_true rfl) m_c_0 (m_lt hh (by decide)) (Nat.le_of_ble_eq_true rfl) (Nat.le_of_ble_eq_true rfl) ?_
                          cases hc40 : F237 n l1 l2 z34.2 with
                          | none => rw [hc40] at hf; cases hf
                          | some z39 =>
                            rw [hc40, Option.bind_some] at hf
                            refine F237c (r0 := z39.1) (S0 := z39.2) hh hc40 ?_
                            refine r_goto (t := 105) fe_235_95 (by decide) ?_
                            refine r_iload fe_235_105 rfl ?_
                            refine r_iret fe_235_107 ⟨rfl, by decide⟩ ?_
                            exact dfin (P := fun r T => Q (some (.int r)) (mst T h)) hf hQ
                      · rw [if_neg hb36] at hf
                        refine r_if_f (t := 84) fe_235_73 (by decide) (Bool.eq_false_iff.mpr hb36) ?_
                        refine r_aload_n fe_235_76 rfl ?_
                        refine r_iload_n fe_235_77 rfl ?_
                        refine r_callV (as := [.int z7.1]) (r := []) fe_235_78 lm_12_475 md_236 rfl rfl (Nat.le_of_ble_eq_true rfl) m_c_0 (m_lt hh (by decide)) (Nat.le_of_ble_eq_true rfl) (Nat.le_of_ble_eq_true rfl) ?_
                        cases hc42 : F236 n z7.1 z34.2 with
                        | none => rw [hc42] at hf; cases hf
                        | some z41 =>
                          rw [hc42, Option.bind_some] at hf
                          refine F236c (r0 := z41.1) (S0 := z41.2) hh hc42 ?_
                          refine r_goto (t := 105) fe_235_81 (by decide) ?_
                          refine r_iload fe_235_105 rfl ?_
                          refine r_iret fe_235_107 ⟨rfl, by decide⟩ ?_
                          exact dfin (P := fun r T => Q (some (.int r)) (mst T h)) hf hQ
                  · rw [if_neg hb33] at hf
                    refine r_ic_f (t := 68) fe_235_53 (by decide) (Bool.eq_false_iff.mpr hb33) ?_
                    refine r_aload_n fe_235_56 rfl ?_
                    refine mr_getf hh fe_235_57 lf_12_9 rfl ?_
                    refine r_iconst (v := 3) fe_235_60 (by decide) ?_
                    refine r_iald (j := 3) (v := z7.2.2.1 1 3) fe_235_61 m_c_1 (m_lt hh (by decide)) (by decide) (by decide) (by decide) rfl ?_
                    refine r_iconst (v := 5) fe_235_62 (by decide) ?_
                    by_cases hb43 : am_ic .ne (z7.2.2.1 1 3) 5 = true
                    · rw [if_pos hb43] at hf
                      refine r_ic_t (t := 68) fe_235_63 (by decide) hb43 ?_
                      refine r_aload_n fe_235_68 rfl ?_
                      refine r_callV (as := []) (r := []) fe_235_69 lm_12_460 md_211 rfl rfl (Nat.le_of_ble_eq_true rfl) m_c_0 (m_lt hh (by decide)) (Nat.le_of_ble_eq_true rfl) (Nat.le_of_ble_eq_true rfl) ?_
                      cases hc45 : F211 n  z7.2 with
                      | none => rw [hc45] at hf; cases hf
                      | some z44 =>
                        rw [hc45, Option.bind_some] at hf
                        refine F211c (r0 := z44.1) (S0 := z44.2) hh hc45 ?_
                        refine r_iload_n fe_235_72 rfl ?_
                        by_cases hb46 : am_if .ne l2 = true
                        · rw [if_pos hb46] at hf
                          refine r_if_t (t := 84) fe_235_73 (by decide) hb46 ?_
                          refine r_iload_n fe_235_84 rfl ?_
                          refine r_iconst (v := -1) fe_235_85 (by decide) ?_
                          by_cases hb47 : am_ic .ne z7.1 (-1) = true
                          · rw [if_pos hb47] at hf
                            refine r_ic_t (t := 98) fe_235_86 (by decide) hb47 ?_
                            refine r_aload_n fe_235_98 rfl ?_
                            refine mr_getf hh fe_235_99 lf_12_34 rfl ?_
                            refine r_iload_n fe_235_102 rfl ?_
                            refine r_iload_n fe_235_103 rfl ?_
                            by_cases hg48 : ¬ (z7.1 < 0 ∨ 13 ≤ (z7.1).toNatClampNeg)
                            rotate_left
                            · rw [if_neg hg48] at hf; cases hf
                            rw [if_pos hg48] at hf
                            refine mr_iast (k := 9) (n := 13) (j := (Int32.toNatClampNeg z7.1)) hh fe_235_104 rfl (by decide) (by decide) rfl rfl (fun z => hg48 (Or.inl z)) rfl (fun z => hg48 (Or.inr z)) ?_
                            refine r_iload fe_235_105 rfl ?_
                            refine r_iret fe_235_107 ⟨rfl, by decide⟩ ?_
                            exact dfin (P := fun r T => Q (some (.int r)) (mst T h)) hf hQ
                          · rw [if_neg hb47] at hf
                            refine r_ic_f (t := 98) fe_235_86 (by decide) (Bool.eq_false_iff.mpr hb47) ?_
                            refine r_aload_n fe_235_89 rfl ?_
                            refine r_iload_n fe_235_90 rfl ?_
                            refine r_iload_n fe_235_91 rfl ?_
                            refine r_callV (as := [.int l1, .int l2]) (r := []) fe_235_92 lm_12_478 md_237 rfl rfl (Nat.le_of_ble_eq_true rfl) m_c_0 (m_lt hh (by decide)) (Nat.le_of_ble_eq_true rfl) (Nat.le_of_ble_eq_true rfl) ?_
                            cases hc50 : F237 n l1 l2 z44.2 with
                            | none => rw [hc50] at hf; cases hf
                            | some z49 =>
                              rw [hc50, Option.bind_some] at hf
                              refine F237c (r0 := z49.1) (S0 := z49.2) hh hc50 ?_
                              refine r_goto (t := 105) fe_235_95 (by decide) ?_
                              refine r_iload fe_235_105 rfl ?_
                              refine r_iret fe_235_107 ⟨rfl, by decide⟩ ?_
                              exact dfin (P := fun r T => Q (some (.int r)) (mst T h)) hf hQ
                        · rw [if_neg hb46] at hf
                          refine r_if_f (t := 84) fe_235_73 (by decide) (Bool.eq_false_iff.mpr hb46) ?_
                          refine r_aload_n fe_235_76 rfl ?_
                          refine r_iload_n fe_235_77 rfl ?_
                          refine r_callV (as := [.int z7.1]) (r := []) fe_235_78 lm_12_475 md_236 rfl rfl (Nat.le_of_ble_eq_true rfl) m_c_0 (m_lt hh (by decide)) (Nat.le_of_ble_eq_true rfl) (Nat.le_of_ble_eq_true rfl) ?_
                          cases hc52 : F236 n z7.1 z44.2 with
                          | none => rw [hc52] at hf; cases hf
                          | some z51 =>
                            rw [hc52, Option.bind_some] at hf
                            refine F236c (r0 := z51.1) (S0 := z51.2) hh hc52 ?_
                            refine r_goto (t := 105) fe_235_81 (by decide) ?_
                            refine r_iload fe_235_105 rfl ?_
                            refine r_iret fe_235_107 ⟨rfl, by decide⟩ ?_
                            exact dfin (P := fun r T => Q (some (.int r)) (mst T h)) hf hQ
                    · rw [if_neg hb43] at hf
                      refine r_ic_f (t := 68) fe_235_63 (by decide) (Bool.eq_false_iff.mpr hb43) ?_
                      refine r_iconst (v := -1) fe_235_66 (by decide) ?_
                      refine r_iret fe_235_67 ⟨rfl, by decide⟩ ?_
                      exact dfin (P := fun r T => Q (some (.int r)) (mst T h)) hf hQ
          · rw [if_neg hb6] at hf
            refine r_if_f (t := 22) fe_235_17 (by decide) (Bool.eq_false_iff.mpr hb6) ?_
            refine r_iconst (v := -1) fe_235_20 (by decide) ?_
            refine r_iret fe_235_21 ⟨rfl, by decide⟩ ?_
            exact dfin (P := fun r T => Q (some (.int r)) (mst T h)) hf hQ
theorem F235c {xs : Nat → Int32} {L9 d n : Nat} {h : AmH} {Q : Option Value → AmH → Prop} {r0 : Int32} {S0 S : mS} {l1 : Int32} {l2 : Int32} (hh : 172 ≤ h.2.1) (hf : F235 n l1 l2 S = some (r0, S0)) (hQ : Q (some (.int r0)) (mst S0 h)) : Ca (am_X xs L9) (d + 4) 235 [.ref 130, .int l1, .int l2] (mst S h) Q := (F235l hh hQ n) l1 l2 S hf
def F241_166b0 (F : Nat → Int32 → mS → Option (Unit × mS)) (n : Nat) (l2 : Int32) (S : mS) : Option (Unit × mS) := F 2 0 S
def F241_166b2 (F : Nat → Int32 → mS → Option (Unit × mS)) (n : Nat) (l2 : Int32) (S : mS) : Option (Unit × mS) := (if am_ic .ge l2 1 = true then some ((), S) else (if am_if .eq (S.1 57) = true then (if ¬ (l2 < 0 ∨ 1 ≤ (l2).toNatClampNeg) then (if ¬ ((S.1 56) < 0 ∨ 12500 ≤ ((S.1 56)).toNatClampNeg) then F 2 (l2 + 1) (m_sI (m_sA S 40 (Int32.toNatClampNeg (S.1 56)) (S.2.1 36 (Int32.toNatClampNeg l2))) 56 (((m_sA S 40 (Int32.toNatClampNeg (S.1 56)) (S.2.1 36 (Int32.toNatClampNeg l2))).1 56) + 1)) else none) else none) else (if ¬ ((S.1 56) < 0 ∨ 12500 ≤ ((S.1 56)).toNatClampNeg) then (if ¬ (l2 < 0 ∨ 1 ≤ (l2).toNatClampNeg) then F 2 (l2 + 1) (m_sI (m_sA S 36 (Int32.toNatClampNeg l2) (S.2.1 40 (Int32.toNatClampNeg (S.1 56)))) 56 (((m_sA S 36 (Int32.toNatClampNeg l2) (S.2.1 40 (Int32.toNatClampNeg (S.1 56)))).1 56) + 1)) else none) else none)))
def F241_166f : Nat → Nat → Int32 → mS → Option (Unit × mS)
  | 0, _, _, _ => none
  | n + 1, c, l2, S => if c = 0 then F241_166b0 (F241_166f n) n l2 S else F241_166b2 (F241_166f n) n l2 S
theorem F241_166e0 (n : Nat) (l2 : Int32) (S : mS) : F241_166f (n + 1) 0 l2 S = F241_166b0 (F241_166f n) n l2 S := if_pos rfl
theorem F241_166e2 (n : Nat) (l2 : Int32) (S : mS) : F241_166f (n + 1) 2 l2 S = F241_166b2 (F241_166f n) n l2 S := if_neg (by decide)
def F241_166 (n : Nat)  (S : mS) : Option (Unit × mS) := F241_166f n 0 0 S
set_option maxRecDepth 20000 in
set_option maxHeartbeats 2000000 in
theorem F241_166l {xs : Nat → Int32} {L9 d : Nat} {h : AmH} {Q : Option Value → AmH → Prop} {r0 : Unit} {S0 : mS} (hh : 172 ≤ h.2.1) (hQ : Q none (mst S0 h)) : ∀ n : Nat, (∀ (l2 : Int32) (S : mS), F241_166f n 0 l2 S = some (r0, S0) → Go (am_X xs L9) (d + 0) 241 0 [.ref 130, .ref 166, .float 0] [] (mst S h) Q) ∧ (∀ (l2 : Int32) (S : mS), F241_166f n 2 l2 S = some (r0, S0) → Go (am_X xs L9) (d + 0) 241 2 [.ref 130, .ref 166, .int l2] [] (mst S h) Q) := by
  intro n
  induction n with
  | zero => exact ⟨fun l2 S hf => (by cases hf), fun l2 S hf => (by cases hf)⟩
  | succ n ih =>
    refine ⟨?_, ?_⟩
    · intro l2 S hf
      rw [F241_166e0] at hf
      unfold F241_166b0 at hf
      refine r_iconst (v := 0) fe_241_0 (by decide) ?_
      refine r_istore_n fe_241_1 (Nat.le_of_ble_eq_true rfl) rfl ?_
      refine go_weak (L0 := [.ref 130, .ref 166, .int 0]) (lwk_c (Or.inl rfl) (lwk_c (Or.inl rfl) (lwk_c (Or.inl rfl) (lwk_rf [])))) ?_
      exact ih.2 0 S hf
    · intro l2 S hf
      rw [F241_166e2] at hf
      unfold F241_166b2 at hf
      refine r_iload_n fe_241_2 rfl ?_
      refine r_aload_n fe_241_3 rfl ?_
      refine r_alen (v := 1) fe_241_4 m_c_36 (m_lt hh (by decide)) (by decide) (by decide) ?_
      by_cases hb1 : am_ic .ge l2 1 = true
      · rw [if_pos hb1] at hf
        refine r_ic_t (t := 58) fe_241_5 (by decide) hb1 ?_
        refine r_vret fe_241_58 ?_
        exact dfin (P := fun _ T => Q none (mst T h)) hf hQ
      · rw [if_neg hb1] at hf
        refine r_ic_f (t := 58) fe_241_5 (by decide) (Bool.eq_false_iff.mpr hb1) ?_
        refine r_aload_n fe_241_8 rfl ?_
        refine mr_getf hh fe_241_9 lf_12_541 rfl ?_
        by_cases hb2 : am_if .eq (S.1 57) = true
        · rw [if_pos hb2] at hf
          refine r_if_t (t := 30) fe_241_12 (by decide) hb2 ?_
          refine r_aload_n fe_241_30 rfl ?_
          refine mr_getf hh fe_241_31 lf_12_133 rfl ?_
          refine r_aload_n fe_241_34 rfl ?_
          refine mr_getf hh fe_241_35 lf_12_544 rfl ?_
          refine r_aload_n fe_241_38 rfl ?_
          refine r_iload_n fe_241_39 rfl ?_
          by_cases hg3 : ¬ (l2 < 0 ∨ 1 ≤ (l2).toNatClampNeg)
          rotate_left
          · rw [if_neg hg3] at hf; cases hf
          rw [if_pos hg3] at hf
          refine r_iald (j := (Int32.toNatClampNeg l2)) (v := S.2.1 36 (Int32.toNatClampNeg l2)) fe_241_40 m_c_36 (m_lt hh (by decide)) (fun z => hg3 (Or.inl z)) rfl (fun z => hg3 (Or.inr z)) rfl ?_
          by_cases hg4 : ¬ ((S.1 56) < 0 ∨ 12500 ≤ ((S.1 56)).toNatClampNeg)
          rotate_left
          · rw [if_neg hg4] at hf; cases hf
          rw [if_pos hg4] at hf
          refine mr_iast (k := 40) (n := 12500) (j := (Int32.toNatClampNeg (S.1 56))) hh fe_241_41 rfl (by decide) (by decide) rfl rfl (fun z => hg4 (Or.inl z)) rfl (fun z => hg4 (Or.inr z)) ?_
          refine r_aload_n fe_241_42 rfl ?_
          refine r_dup fe_241_43 rfl ?_
          refine mr_getf hh fe_241_44 lf_12_544 rfl ?_
          refine r_iconst (v := 1) fe_241_47 (by decide) ?_
          refine r_iadd (v := (((m_sA S 40 (Int32.toNatClampNeg (S.1 56)) (S.2.1 36 (Int32.toNatClampNeg l2))).1 56) + 1)) fe_241_48 rfl ?_
          refine mr_putf hh fe_241_49 lf_12_544 (m_f_56 _ _) (by decide) rfl rfl rfl ?_
          refine r_iinc (v := (l2 + 1)) fe_241_52 rfl rfl rfl ?_
          refine r_goto (t := 2) fe_241_55 (by decide) ?_
          refine go_weak (L0 := [.ref 130, .ref 166, .int (l2 + 1)]) (lwk_c (Or.inl rfl) (lwk_c (Or.inl rfl) (lwk_c (Or.inl rfl) (lwk_rf [])))) ?_
          exact ih.2 (l2 + 1) (m_sI (m_sA S 40 (Int32.toNatClampNeg (S.1 56)) (S.2.1 36 (Int32.toNatClampNeg l2))) 56 (((m_sA S 40 (Int32.toNatClampNeg (S.1 56)) (S.2.1 36 (Int32.toNatClampNeg l2))).1 56) + 1)) hf
        · rw [if_neg hb2] at hf
          refine r_if_f (t := 30) fe_241_12 (by decide) (Bool.eq_false_iff.mpr hb2) ?_
          refine r_aload_n fe_241_15 rfl ?_
          refine r_iload_n fe_241_16 rfl ?_
          refine r_aload_n fe_241_17 rfl ?_
          refine mr_getf hh fe_241_18 lf_12_133 rfl ?_
          refine r_aload_n fe_241_21 rfl ?_
          refine mr_getf hh fe_241_22 lf_12_544 rfl ?_
          by_cases hg5 : ¬ ((S.1 56) < 0 ∨ 12500 ≤ ((S.1 56)).toNatClampNeg)
          rotate_left
          · rw [if_neg hg5] at hf; cases hf
          rw [if_pos hg5] at hf
          refine r_iald (j := (Int32.toNatClampNeg (S.1 56))) (v := S.2.1 40 (Int32.toNatClampNeg (S.1 56))) fe_241_25 m_c_40 (m_lt hh (by decide)) (fun z => hg5 (Or.inl z)) rfl (fun z => hg5 (Or.inr z)) rfl ?_
          by_cases hg6 : ¬ (l2 < 0 ∨ 1 ≤ (l2).toNatClampNeg)
          rotate_left
          · rw [if_neg hg6] at hf; cases hf
          rw [if_pos hg6] at hf
          refine mr_iast (k := 36) (n := 1) (j := (Int32.toNatClampNeg l2)) hh fe_241_26 rfl (by decide) (by decide) rfl rfl (fun z => hg6 (Or.inl z)) rfl (fun z => hg6 (Or.inr z)) ?_
          refine r_goto (t := 42) fe_241_27 (by decide) ?_
          refine r_aload_n fe_241_42 rfl ?_
          refine r_dup fe_241_43 rfl ?_
          refine mr_getf hh fe_241_44 lf_12_544 rfl ?_
          refine r_iconst (v := 1) fe_241_47 (by decide) ?_
          refine r_iadd (v := (((m_sA S 36 (Int32.toNatClampNeg l2) (S.2.1 40 (Int32.toNatClampNeg (S.1 56)))).1 56) + 1)) fe_241_48 rfl ?_
          refine mr_putf hh fe_241_49 lf_12_544 (m_f_56 _ _) (by decide) rfl rfl rfl ?_
          refine r_iinc (v := (l2 + 1)) fe_241_52 rfl rfl rfl ?_
          refine r_goto (t := 2) fe_241_55 (by decide) ?_
          refine go_weak (L0 := [.ref 130, .ref 166, .int (l2 + 1)]) (lwk_c (Or.inl rfl) (lwk_c (Or.inl rfl) (lwk_c (Or.inl rfl) (lwk_rf [])))) ?_
          exact ih.2 (l2 + 1) (m_sI (m_sA S 36 (Int32.toNatClampNeg l2) (S.2.1 40 (Int32.toNatClampNeg (S.1 56)))) 56 (((m_sA S 36 (Int32.toNatClampNeg l2) (S.2.1 40 (Int32.toNatClampNeg (S.1 56)))).1 56) + 1)) hf
theorem F241_166c {xs : Nat → Int32} {L9 d n : Nat} {h : AmH} {Q : Option Value → AmH → Prop} {r0 : Unit} {S0 S : mS}  (hh : 172 ≤ h.2.1) (hf : F241_166 n  S = some (r0, S0)) (hQ : Q none (mst S0 h)) : Ca (am_X xs L9) (d + 0) 241 [.ref 130, .ref 166] (mst S h) Q := (F241_166l hh hQ n).1 0 S hf
def F241_131b0 (F : Nat → Int32 → mS → Option (Unit × mS)) (n : Nat) (l2 : Int32) (S : mS) : Option (Unit × mS) := F 2 0 S
def F241_131b2 (F : Nat → Int32 → mS → Option (Unit × mS)) (n : Nat) (l2 : Int32) (S : mS) : Option (Unit × mS) := (if am_ic .ge l2 9 = true then some ((), S) else (if am_if .eq (S.1 57) = true then (if ¬ (l2 < 0 ∨ 9 ≤ (l2).toNatClampNeg) then (if ¬ ((S.1 56) < 0 ∨ 12500 ≤ ((S.1 56)).toNatClampNeg) then F 2 (l2 + 1) (m_sI (m_sA S 40 (Int32.toNatClampNeg (S.1 56)) (S.2.1 1 (Int32.toNatClampNeg l2))) 56 (((m_sA S 40 (Int32.toNatClampNeg (S.1 56)) (S.2.1 1 (Int32.toNatClampNeg l2))).1 56) + 1)) else none) else none) else (if ¬ ((S.1 56) < 0 ∨ 12500 ≤ ((S.1 56)).toNatClampNeg) then (if ¬ (l2 < 0 ∨ 9 ≤ (l2).toNatClampNeg) then F 2 (l2 + 1) (m_sI (m_sA S 1 (Int32.toNatClampNeg l2) (S.2.1 40 (Int32.toNatClampNeg (S.1 56)))) 56 (((m_sA S 1 (Int32.toNatClampNeg l2) (S.2.1 40 (Int32.toNatClampNeg (S.1 56)))).1 56) + 1)) else none) else none)))
def F241_131f : Nat → Nat → Int32 → mS → Option (Unit × mS)
  | 0, _, _, _ => none
  | n + 1, c, l2, S => if c = 0 then F241_131b0 (F241_131f n) n l2 S else F241_131b2 (F241_131f n) n l2 S
theorem F241_131e0 (n : Nat) (l2 : Int32) (S : mS) : F241_131f (n + 1) 0 l2 S = F241_131b0 (F241_131f n) n l2 S := if_pos rfl
theorem F241_131e2 (n : Nat) (l2 : Int32) (S : mS) : F241_131f (n + 1) 2 l2 S = F241_131b2 (F241_131f n) n l2 S := if_neg (by decide)
def F241_131 (n : Nat)  (S : mS) : Option (Unit × mS) := F241_131f n 0 0 S
set_option maxRecDepth 20000 in
set_option maxHeartbeats 2000000 in
theorem F241_131l {xs : Nat → Int32} {L9 d : Nat} {h : AmH} {Q : Option Value → AmH → Prop} {r0 : Unit} {S0 : mS} (hh : 172 ≤ h.2.1) (hQ : Q none (mst S0 h)) : ∀ n : Nat, (∀ (l2 : Int32) (S : mS), F241_131f n 0 l2 S = some (r0, S0) → Go (am_X xs L9) (d + 0) 241 0 [.ref 130, .ref 131, .float 0] [] (mst S h) Q) ∧ (∀ (l2 : Int32) (S : mS), F241_131f n 2 l2 S = some (r0, S0) → Go (am_X xs L9) (d + 0) 241 2 [.ref 130, .ref 131, .int l2] [] (mst S h) Q) := by
  intro n
  induction n with
  | zero => exact ⟨fun l2 S hf => (by cases hf), fun l2 S hf => (by cases hf)⟩
  | succ n ih =>
    refine ⟨?_, ?_⟩
    · intro l2 S hf
      rw [F241_131e0] at hf
      unfold F241_131b0 at hf
      refine r_iconst (v := 0) fe_241_0 (by decide) ?_
      refine r_istore_n fe_241_1 (Nat.le_of_ble_eq_true rfl) rfl ?_
      refine go_weak (L0 := [.ref 130, .ref 131, .int 0]) (lwk_c (Or.inl rfl) (lwk_c (Or.inl rfl) (lwk_c (Or.inl rfl) (lwk_rf [])))) ?_
      exact ih.2 0 S hf
    · intro l2 S hf
      rw [F241_131e2] at hf
      unfold F241_131b2 at hf
      refine r_iload_n fe_241_2 rfl ?_
      refine r_aload_n fe_241_3 rfl ?_
      refine r_alen (v := 9) fe_241_4 m_c_1 (m_lt hh (by decide)) (by decide) (by decide) ?_
      by_cases hb1 : am_ic .ge l2 9 = true
      · rw [if_pos hb1] at hf
        refine r_ic_t (t := 58) fe_241_5 (by decide) hb1 ?_
        refine r_vret fe_241_58 ?_
        exact dfin (P := fun _ T => Q none (mst T h)) hf hQ
      · rw [if_neg hb1] at hf
        refine r_ic_f (t := 58) fe_241_5 (by decide) (Bool.eq_false_iff.mpr hb1) ?_
        refine r_aload_n fe_241_8 rfl ?_
        refine mr_getf hh fe_241_9 lf_12_541 rfl ?_
        by_cases hb2 : am_if .eq (S.1 57) = true
        · rw [if_pos hb2] at hf
          refine r_if_t (t := 30) fe_241_12 (by decide) hb2 ?_
          refine r_aload_n fe_241_30 rfl ?_
          refine mr_getf hh fe_241_31 lf_12_133 rfl ?_
          refine r_aload_n fe_241_34 rfl ?_
          refine mr_getf hh fe_241_35 lf_12_544 rfl ?_
          refine r_aload_n fe_241_38 rfl ?_
          refine r_iload_n fe_241_39 rfl ?_
          by_cases hg3 : ¬ (l2 < 0 ∨ 9 ≤ (l2).toNatClampNeg)
          rotate_left
          · rw [if_neg hg3] at hf; cases hf
          rw [if_pos hg3] at hf
          refine r_iald (j := (Int32.toNatClampNeg l2)) (v := S.2.1 1 (Int32.toNatClampNeg l2)) fe_241_40 m_c_1 (m_lt hh (by decide)) (fun z => hg3 (Or.inl z)) rfl (fun z => hg3 (Or.inr z)) rfl ?_
          by_cases hg4 : ¬ ((S.1 56) < 0 ∨ 12500 ≤ ((S.1 56)).toNatClampNeg)
          rotate_left
          · rw [if_neg hg4] at hf; cases hf
          rw [if_pos hg4] at hf
          refine mr_iast (k := 40) (n := 12500) (j := (Int32.toNatClampNeg (S.1 56))) hh fe_241_41 rfl (by decide) (by decide) rfl rfl (fun z => hg4 (Or.inl z)) rfl (fun z => hg4 (Or.inr z)) ?_
          refine r_aload_n fe_241_42 rfl ?_
          refine r_dup fe_241_43 rfl ?_
          refine mr_getf hh fe_241_44 lf_12_544 rfl ?_
          refine r_iconst (v := 1) fe_241_47 (by decide) ?_
          refine r_iadd (v := (((m_sA S 40 (Int32.toNatClampNeg (S.1 56)) (S.2.1 1 (Int32.toNatClampNeg l2))).1 56) + 1)) fe_241_48 rfl ?_
          refine mr_putf hh fe_241_49 lf_12_544 (m_f_56 _ _) (by decide) rfl rfl rfl ?_
          refine r_iinc (v := (l2 + 1)) fe_241_52 rfl rfl rfl ?_
          refine r_goto (t := 2) fe_241_55 (by decide) ?_
          refine go_weak (L0 := [.ref 130, .ref 131, .int (l2 + 1)]) (lwk_c (Or.inl rfl) (lwk_c (Or.inl rfl) (lwk_c (Or.inl rfl) (lwk_rf [])))) ?_
          exact ih.2 (l2 + 1) (m_sI (m_sA S 40 (Int32.toNatClampNeg (S.1 56)) (S.2.1 1 (Int32.toNatClampNeg l2))) 56 (((m_sA S 40 (Int32.toNatClampNeg (S.1 56)) (S.2.1 1 (Int32.toNatClampNeg l2))).1 56) + 1)) hf
        · rw [if_neg hb2] at hf
          refine r_if_f (t := 30) fe_241_12 (by decide) (Bool.eq_false_iff.mpr hb2) ?_
          refine r_aload_n fe_241_15 rfl ?_
          refine r_iload_n fe_241_16 rfl ?_
          refine r_aload_n fe_241_17 rfl ?_
          refine mr_getf hh fe_241_18 lf_12_133 rfl ?_
          refine r_aload_n fe_241_21 rfl ?_
          refine mr_getf hh fe_241_22 lf_12_544 rfl ?_
          by_cases hg5 : ¬ ((S.1 56) < 0 ∨ 12500 ≤ ((S.1 56)).toNatClampNeg)
          rotate_left
          · rw [if_neg hg5] at hf; cases hf
          rw [if_pos hg5] at hf
          refine r_iald (j := (Int32.toNatClampNeg (S.1 56))) (v := S.2.1 40 (Int32.toNatClampNeg (S.1 56))) fe_241_25 m_c_40 (m_lt hh (by decide)) (fun z => hg5 (Or.inl z)) rfl (fun z => hg5 (Or.inr z)) rfl ?_
          by_cases hg6 : ¬ (l2 < 0 ∨ 9 ≤ (l2).toNatClampNeg)
          rotate_left
          · rw [if_neg hg6] at hf; cases hf
          rw [if_pos hg6] at hf
          refine mr_iast (k := 1) (n := 9) (j := (Int32.toNatClampNeg l2)) hh fe_241_26 rfl (by decide) (by decide) rfl rfl (fun z => hg6 (Or.inl z)) rfl (fun z => hg6 (Or.inr z)) ?_
          refine r_goto (t := 42) fe_241_27 (by decide) ?_
          refine r_aload_n fe_241_42 rfl ?_
          refine r_dup fe_241_43 rfl ?_
          refine mr_getf hh fe_241_44 lf_12_544 rfl ?_
          refine r_iconst (v := 1) fe_241_47 (by decide) ?_
          refine r_iadd (v := (((m_sA S 1 (Int32.toNatClampNeg l2) (S.2.1 40 (Int32.toNatClampNeg (S.1 56)))).1 56) + 1)) fe_241_48 rfl ?_
          refine mr_putf hh fe_241_49 lf_12_544 (m_f_56 _ _) (by decide) rfl rfl rfl ?_
          refine r_iinc (v := (l2 + 1)) fe_241_52 rfl rfl rfl ?_
          refine r_goto (t := 2) fe_241_55 (by decide) ?_
          refine go_weak (L0 := [.ref 130, .ref 131, .int (l2 + 1)]) (lwk_c (Or.inl rfl) (lwk_c (Or.inl rfl) (lwk_c (Or.inl rfl) (lwk_rf [])))) ?_
          exact ih.2 (l2 + 1) (m_sI (m_sA S 1 (Int32.toNatClampNeg l2) (S.2.1 40 (Int32.toNatClampNeg (S.1 56)))) 56 (((m_sA S 1 (Int32.toNatClampNeg l2) (S.2.1 40 (Int32.toNatClampNeg (S.1 56)))).1 56) + 1)) hf
theorem F241_131c {xs : Nat → Int32} {L9 d n : Nat} {h : AmH} {Q : Option Value → AmH → Prop} {r0 : Unit} {S0 S : mS}  (hh : 172 ≤ h.2.1) (hf : F241_131 n  S = some (r0, S0)) (hQ : Q none (mst S0 h)) : Ca (am_X xs L9) (d + 0) 241 [.ref 130, .ref 131] (mst S h) Q := (F241_131l hh hQ n).1 0 S hf
def F241_132b0 (F : Nat → Int32 → mS → Option (Unit × mS)) (n : Nat) (l2 : Int32) (S : mS) : Option (Unit × mS) := F 2 0 S
def F241_132b2 (F : Nat → Int32 → mS → Option (Unit × mS)) (n : Nat) (l2 : Int32) (S : mS) : Option (Unit × mS) := (if am_ic .ge l2 16 = true then some ((), S) else (if am_if .eq (S.1 57) = true then (if ¬ (l2 < 0 ∨ 16 ≤ (l2).toNatClampNeg) then (if ¬ ((S.1 56) < 0 ∨ 12500 ≤ ((S.1 56)).toNatClampNeg) then F 2 (l2 + 1) (m_sI (m_sA S 40 (Int32.toNatClampNeg (S.1 56)) (S.2.1 2 (Int32.toNatClampNeg l2))) 56 (((m_sA S 40 (Int32.toNatClampNeg (S.1 56)) (S.2.1 2 (Int32.toNatClampNeg l2))).1 56) + 1)) else none) else none) else (if ¬ ((S.1 56) < 0 ∨ 12500 ≤ ((S.1 56)).toNatClampNeg) then (if ¬ (l2 < 0 ∨ 16 ≤ (l2).toNatClampNeg) then F 2 (l2 + 1) (m_sI (m_sA S 2 (Int32.toNatClampNeg l2) (S.2.1 40 (Int32.toNatClampNeg (S.1 56)))) 56 (((m_sA S 2 (Int32.toNatClampNeg l2) (S.2.1 40 (Int32.toNatClampNeg (S.1 56)))).1 56) + 1)) else none) else none)))
def F241_132f : Nat → Nat → Int32 → mS → Option (Unit × mS)
  | 0, _, _, _ => none
  | n + 1, c, l2, S => if c = 0 then F241_132b0 (F241_132f n) n l2 S else F241_132b2 (F241_132f n) n l2 S
theorem F241_132e0 (n : Nat) (l2 : Int32) (S : mS) : F241_132f (n + 1) 0 l2 S = F241_132b0 (F241_132f n) n l2 S := if_pos rfl
theorem F241_132e2 (n : Nat) (l2 : Int32) (S : mS) : F241_132f (n + 1) 2 l2 S = F241_132b2 (F241_132f n) n l2 S := if_neg (by decide)
def F241_132 (n : Nat)  (S : mS) : Option (Unit × mS) := F241_132f n 0 0 S
set_option maxRecDepth 20000 in
set_option maxHeartbeats 2000000 in
theorem F241_132l {xs : Nat → Int32} {L9 d : Nat} {h : AmH} {Q : Option Value → AmH → Prop} {r0 : Unit} {S0 : mS} (hh : 172 ≤ h.2.1) (hQ : Q none (mst S0 h)) : ∀ n : Nat, (∀ (l2 : Int32) (S : mS), F241_132f n 0 l2 S = some (r0, S0) → Go (am_X xs L9) (d + 0) 241 0 [.ref 130, .ref 132, .float 0] [] (mst S h) Q) ∧ (∀ (l2 : Int32) (S : mS), F241_132f n 2 l2 S = some (r0, S0) → Go (am_X xs L9) (d + 0) 241 2 [.ref 130, .ref 132, .int l2] [] (mst S h) Q) := by
  intro n
  induction n with
  | zero => exact ⟨fun l2 S hf => (by cases hf), fun l2 S hf => (by cases hf)⟩
  | succ n ih =>
    refine ⟨?_, ?_⟩
    · intro l2 S hf
      rw [F241_132e0] at hf
      unfold F241_132b0 at hf
      refine r_iconst (v := 0) fe_241_0 (by decide) ?_
      refine r_istore_n fe_241_1 (Nat.le_of_ble_eq_true rfl) rfl ?_
      refine go_weak (L0 := [.ref 130, .ref 132, .int 0]) (lwk_c (Or.inl rfl) (lwk_c (Or.inl rfl) (lwk_c (Or.inl rfl) (lwk_rf [])))) ?_
      exact ih.2 0 S hf
    · intro l2 S hf
      rw [F241_132e2] at hf
      unfold F241_132b2 at hf
      refine r_iload_n fe_241_2 rfl ?_
      refine r_aload_n fe_241_3 rfl ?_
      refine r_alen (v := 16) fe_241_4 m_c_2 (m_lt hh (by decide)) (by decide) (by decide) ?_
      by_cases hb1 : am_ic .ge l2 16 = true
      · rw [if_pos hb1] at hf
        refine r_ic_t (t := 58) fe_241_5 (by decide) hb1 ?_
        refine r_vret fe_241_58 ?_
        exact dfin (P := fun _ T => Q none (mst T h)) hf hQ
      · rw [if_neg hb1] at hf
        refine r_ic_f (t := 58) fe_241_5 (by decide) (Bool.eq_false_iff.mpr hb1) ?_
        refine r_aload_n fe_241_8 rfl ?_
        refine mr_getf hh fe_241_9 lf_12_541 rfl ?_
        by_cases hb2 : am_if .eq (S.1 57) = true
        · rw [if_pos hb2] at hf
          refine r_if_t (t := 30) fe_241_12 (by decide) hb2 ?_
          refine r_aload_n fe_241_30 rfl ?_
          refine mr_getf hh fe_241_31 lf_12_133 rfl ?_
          refine r_aload_n fe_241_34 rfl ?_
          refine mr_getf hh fe_241_35 lf_12_544 rfl ?_
          refine r_aload_n fe_241_38 rfl ?_
          refine r_iload_n fe_241_39 rfl ?_
          by_cases hg3 : ¬ (l2 < 0 ∨ 16 ≤ (l2).toNatClampNeg)
          rotate_left
          · rw [if_neg hg3] at hf; cases hf
          rw [if_pos hg3] at hf
          refine r_iald (j := (Int32.toNatClampNeg l2)) (v := S.2.1 2 (Int32.toNatClampNeg l2)) fe_241_40 m_c_2 (m_lt hh (by decide)) (fun z => hg3 (Or.inl z)) rfl (fun z => hg3 (Or.inr z)) rfl ?_
          by_cases hg4 : ¬ ((S.1 56) < 0 ∨ 12500 ≤ ((S.1 56)).toNatClampNeg)
          rotate_left
          · rw [if_neg hg4] at hf; cases hf
          rw [if_pos hg4] at hf
          refine mr_iast (k := 40) (n := 12500) (j := (Int32.toNatClampNeg (S.1 56))) hh fe_241_41 rfl (by decide) (by decide) rfl rfl (fun z => hg4 (Or.inl z)) rfl (fun z => hg4 (Or.inr z)) ?_
          refine r_aload_n fe_241_42 rfl ?_
          refine r_dup fe_241_43 rfl ?_
          refine mr_getf hh fe_241_44 lf_12_544 rfl ?_
          refine r_iconst (v := 1) fe_241_47 (by decide) ?_
          refine r_iadd (v := (((m_sA S 40 (Int32.toNatClampNeg (S.1 56)) (S.2.1 2 (Int32.toNatClampNeg l2))).1 56) + 1)) fe_241_48 rfl ?_
          refine mr_putf hh fe_241_49 lf_12_544 (m_f_56 _ _) (by decide) rfl rfl rfl ?_
          refine r_iinc (v := (l2 + 1)) fe_241_52 rfl rfl rfl ?_
          refine r_goto (t := 2) fe_241_55 (by decide) ?_
          refine go_weak (L0 := [.ref 130, .ref 132, .int (l2 + 1)]) (lwk_c (Or.inl rfl) (lwk_c (Or.inl rfl) (lwk_c (Or.inl rfl) (lwk_rf [])))) ?_
          exact ih.2 (l2 + 1) (m_sI (m_sA S 40 (Int32.toNatClampNeg (S.1 56)) (S.2.1 2 (Int32.toNatClampNeg l2))) 56 (((m_sA S 40 (Int32.toNatClampNeg (S.1 56)) (S.2.1 2 (Int32.toNatClampNeg l2))).1 56) + 1)) hf
        · rw [if_neg hb2] at hf
          refine r_if_f (t := 30) fe_241_12 (by decide) (Bool.eq_false_iff.mpr hb2) ?_
          refine r_aload_n fe_241_15 rfl ?_
          refine r_iload_n fe_241_16 rfl ?_
          refine r_aload_n fe_241_17 rfl ?_
          refine mr_getf hh fe_241_18 lf_12_133 rfl ?_
          refine r_aload_n fe_241_21 rfl ?_
          refine mr_getf hh fe_241_22 lf_12_544 rfl ?_
          by_cases hg5 : ¬ ((S.1 56) < 0 ∨ 12500 ≤ ((S.1 56)).toNatClampNeg)
          rotate_left
          · rw [if_neg hg5] at hf; cases hf
          rw [if_pos hg5] at hf
          refine r_iald (j := (Int32.toNatClampNeg (S.1 56))) (v := S.2.1 40 (Int32.toNatClampNeg (S.1 56))) fe_241_25 m_c_40 (m_lt hh (by decide)) (fun z => hg5 (Or.inl z)) rfl (fun z => hg5 (Or.inr z)) rfl ?_
          by_cases hg6 : ¬ (l2 < 0 ∨ 16 ≤ (l2).toNatClampNeg)
          rotate_left
          · rw [if_neg hg6] at hf; cases hf
          rw [if_pos hg6] at hf
          refine mr_iast (k := 2) (n := 16) (j := (Int32.toNatClampNeg l2)) hh fe_241_26 rfl (by decide) (by decide) rfl rfl (fun z => hg6 (Or.inl z)) rfl (fun z => hg6 (Or.inr z)) ?_
          refine r_goto (t := 42) fe_241_27 (by decide) ?_
          refine r_aload_n fe_241_42 rfl ?_
          refine r_dup fe_241_43 rfl ?_
          refine mr_getf hh fe_241_44 lf_12_544 rfl ?_
          refine r_iconst (v := 1) fe_241_47 (by decide) ?_
          refine r_iadd (v := (((m_sA S 2 (Int32.toNatClampNeg l2) (S.2.1 40 (Int32.toNatClampNeg (S.1 56)))).1 56) + 1)) fe_241_48 rfl ?_
          refine mr_putf hh fe_241_49 lf_12_544 (m_f_56 _ _) (by decide) rfl rfl rfl ?_
          refine r_iinc (v := (l2 + 1)) fe_241_52 rfl rfl rfl ?_
          refine r_goto (t := 2) fe_241_55 (by decide) ?_
          refine go_weak (L0 := [.ref 130, .ref 132, .int (l2 + 1)]) (lwk_c (Or.inl rfl) (lwk_c (Or.inl rfl) (lwk_c (Or.inl rfl) (lwk_rf [])))) ?_
          exact ih.2 (l2 + 1) (m_sI (m_sA S 2 (Int32.toNatClampNeg l2) (S.2.1 40 (Int32.toNatClampNeg (S.1 56)))) 56 (((m_sA S 2 (Int32.toNatClampNeg l2) (S.2.1 40 (Int32.toNatClampNeg (S.1 56)))).1 56) + 1)) hf
theorem F241_132c {xs : Nat → Int32} {L9 d n : Nat} {h : AmH} {Q : Option Value → AmH → Prop} {r0 : Unit} {S0 S : mS}  (hh : 172 ≤ h.2.1) (hf : F241_132 n  S = some (r0, S0)) (hQ : Q none (mst S0 h)) : Ca (am_X xs L9) (d + 0) 241 [.ref 130, .ref 132] (mst S h) Q := (F241_132l hh hQ n).1 0 S hf
def F241_133b0 (F : Nat → Int32 → mS → Option (Unit × mS)) (n : Nat) (l2 : Int32) (S : mS) : Option (Unit × mS) := F 2 0 S
def F241_133b2 (F : Nat → Int32 → mS → Option (Unit × mS)) (n : Nat) (l2 : Int32) (S : mS) : Option (Unit × mS) := (if am_ic .ge l2 16 = true then some ((), S) else (if am_if .eq (S.1 57) = true then (if ¬ (l2 < 0 ∨ 16 ≤ (l2).toNatClampNeg) then (if ¬ ((S.1 56) < 0 ∨ 12500 ≤ ((S.1 56)).toNatClampNeg) then F 2 (l2 + 1) (m_sI (m_sA S 40 (Int32.toNatClampNeg (S.1 56)) (S.2.1 3 (Int32.toNatClampNeg l2))) 56 (((m_sA S 40 (Int32.toNatClampNeg (S.1 56)) (S.2.1 3 (Int32.toNatClampNeg l2))).1 56) + 1)) else none) else none) else (if ¬ ((S.1 56) < 0 ∨ 12500 ≤ ((S.1 56)).toNatClampNeg) then (if ¬ (l2 < 0 ∨ 16 ≤ (l2).toNatClampNeg) then F 2 (l2 + 1) (m_sI (m_sA S 3 (Int32.toNatClampNeg l2) (S.2.1 40 (Int32.toNatClampNeg (S.1 56)))) 56 (((m_sA S 3 (Int32.toNatClampNeg l2) (S.2.1 40 (Int32.toNatClampNeg (S.1 56)))).1 56) + 1)) else none) else none)))
def F241_133f : Nat → Nat → Int32 → mS → Option (Unit × mS)
  | 0, _, _, _ => none
  | n + 1, c, l2, S => if c = 0 then F241_133b0 (F241_133f n) n l2 S else F241_133b2 (F241_133f n) n l2 S
theorem F241_133e0 (n : Nat) (l2 : Int32) (S : mS) : F241_133f (n + 1) 0 l2 S = F241_133b0 (F241_133f n) n l2 S := if_pos rfl
theorem F241_133e2 (n : Nat) (l2 : Int32) (S : mS) : F241_133f (n + 1) 2 l2 S = F241_133b2 (F241_133f n) n l2 S := if_neg (by decide)
def F241_133 (n : Nat)  (S : mS) : Option (Unit × mS) := F241_133f n 0 0 S
set_option maxRecDepth 20000 in
set_option maxHeartbeats 2000000 in
theorem F241_133l {xs : Nat → Int32} {L9 d : Nat} {h : AmH} {Q : Option Value → AmH → Prop} {r0 : Unit} {S0 : mS} (hh : 172 ≤ h.2.1) (hQ : Q none (mst S0 h)) : ∀ n : Nat, (∀ (l2 : Int32) (S : mS), F241_133f n 0 l2 S = some (r0, S0) → Go (am_X xs L9) (d + 0) 241 0 [.ref 130, .ref 133, .float 0] [] (mst S h) Q) ∧ (∀ (l2 : Int32) (S : mS), F241_133f n 2 l2 S = some (r0, S0) → Go (am_X xs L9) (d + 0) 241 2 [.ref 130, .ref 133, .int l2] [] (mst S h) Q) := by
  intro n
  induction n with
  | zero => exact ⟨fun l2 S hf => (by cases hf), fun l2 S hf => (by cases hf)⟩
  | succ n ih =>
    refine ⟨?_, ?_⟩
    · intro l2 S hf
      rw [F241_133e0] at hf
      unfold F241_133b0 at hf
      refine r_iconst (v := 0) fe_241_0 (by decide) ?_
      refine r_istore_n fe_241_1 (Nat.le_of_ble_eq_true rfl) rfl ?_
      refine go_weak (L0 := [.ref 130, .ref 133, .int 0]) (lwk_c (Or.inl rfl) (lwk_c (Or.inl rfl) (lwk_c (Or.inl rfl) (lwk_rf [])))) ?_
      exact ih.2 0 S hf
    · intro l2 S hf
      rw [F241_133e2] at hf
      unfold F241_133b2 at hf
      refine r_iload_n fe_241_2 rfl ?_
      refine r_aload_n fe_241_3 rfl ?_
      refine r_alen (v := 16) fe_241_4 m_c_3 (m_lt hh (by decide)) (by decide) (by decide) ?_
      by_cases hb1 : am_ic .ge l2 16 = true
      · rw [if_pos hb1] at hf
        refine r_ic_t (t := 58) fe_241_5 (by decide) hb1 ?_
        refine r_vret fe_241_58 ?_
        exact dfin (P := fun _ T => Q none (mst T h)) hf hQ
      · rw [if_neg hb1] at hf
        refine r_ic_f (t := 58) fe_241_5 (by decide) (Bool.eq_false_iff.mpr hb1) ?_
        refine r_aload_n fe_241_8 rfl ?_
        refine mr_getf hh fe_241_9 lf_12_541 rfl ?_
        by_cases hb2 : am_if .eq (S.1 57) = true
        · rw [if_pos hb2] at hf
          refine r_if_t (t := 30) fe_241_12 (by decide) hb2 ?_
          refine r_aload_n fe_241_30 rfl ?_
          refine mr_getf hh fe_241_31 lf_12_133 rfl ?_
          refine r_aload_n fe_241_34 rfl ?_
          refine mr_getf hh fe_241_35 lf_12_544 rfl ?_
          refine r_aload_n fe_241_38 rfl ?_
          refine r_iload_n fe_241_39 rfl ?_
          by_cases hg3 : ¬ (l2 < 0 ∨ 16 ≤ (l2).toNatClampNeg)
          rotate_left
          · rw [if_neg hg3] at hf; cases hf
          rw [if_pos hg3] at hf
          refine r_iald (j := (Int32.toNatClampNeg l2)) (v := S.2.1 3 (Int32.toNatClampNeg l2)) fe_241_40 m_c_3 (m_lt hh (by decide)) (fun z => hg3 (Or.inl z)) rfl (fun z => hg3 (Or.inr z)) rfl ?_
          by_cases hg4 : ¬ ((S.1 56) < 0 ∨ 12500 ≤ ((S.1 56)).toNatClampNeg)
          rotate_left
          · rw [if_neg hg4] at hf; cases hf
          rw [if_pos hg4] at hf
          refine mr_iast (k := 40) (n := 12500) (j := (Int32.toNatClampNeg (S.1 56))) hh fe_241_41 rfl (by decide) (by decide) rfl rfl (fun z => hg4 (Or.inl z)) rfl (fun z => hg4 (Or.inr z)) ?_
          refine r_aload_n fe_241_42 rfl ?_
          refine r_dup fe_241_43 rfl ?_
          refine mr_getf hh fe_241_44 lf_12_544 rfl ?_
          refine r_iconst (v := 1) fe_241_47 (by decide) ?_
          refine r_iadd (v := (((m_sA S 40 (Int32.toNatClampNeg (S.1 56)) (S.2.1 3 (Int32.toNatClampNeg l2))).1 56) + 1)) fe_241_48 rfl ?_
          refine mr_putf hh fe_241_49 lf_12_544 (m_f_56 _ _) (by decide) rfl rfl rfl ?_
          refine r_iinc (v := (l2 + 1)) fe_241_52 rfl rfl rfl ?_
          refine r_goto (t := 2) fe_241_55 (by decide) ?_
          refine go_weak (L0 := [.ref 130, .ref 133, .int (l2 + 1)]) (lwk_c (Or.inl rfl) (lwk_c (Or.inl rfl) (lwk_c (Or.inl rfl) (lwk_rf [])))) ?_
          exact ih.2 (l2 + 1) (m_sI (m_sA S 40 (Int32.toNatClampNeg (S.1 56)) (S.2.1 3 (Int32.toNatClampNeg l2))) 56 (((m_sA S 40 (Int32.toNatClampNeg (S.1 56)) (S.2.1 3 (Int32.toNatClampNeg l2))).1 56) + 1)) hf
        · rw [if_neg hb2] at hf
          refine r_if_f (t := 30) fe_241_12 (by decide) (Bool.eq_false_iff.mpr hb2) ?_
          refine r_aload_n fe_241_15 rfl ?_
          refine r_iload_n fe_241_16 rfl ?_
          refine r_aload_n fe_241_17 rfl ?_
          refine mr_getf hh fe_241_18 lf_12_133 rfl ?_
          refine r_aload_n fe_241_21 rfl ?_
          refine mr_getf hh fe_241_22 lf_12_544 rfl ?_
          by_cases hg5 : ¬ ((S.1 56) < 0 ∨ 12500 ≤ ((S.1 56)).toNatClampNeg)
          rotate_left
          · rw [if_neg hg5] at hf; cases hf
          rw [if_pos hg5] at hf
          refine r_iald (j := (Int32.toNatClampNeg (S.1 56))) (v := S.2.1 40 (Int32.toNatClampNeg (S.1 56))) fe_241_25 m_c_40 (m_lt hh (by decide)) (fun z => hg5 (Or.inl z)) rfl (fun z => hg5 (Or.inr z)) rfl ?_
          by_cases hg6 : ¬ (l2 < 0 ∨ 16 ≤ (l2).toNatClampNeg)
          rotate_left
          · rw [if_neg hg6] at hf; cases hf
          rw [if_pos hg6] at hf
          refine mr_iast (k := 3) (n := 16) (j := (Int32.toNatClampNeg l2)) hh fe_241_26 rfl (by decide) (by decide) rfl rfl (fun z => hg6 (Or.inl z)) rfl (fun z => hg6 (Or.inr z)) ?_
          refine r_goto (t := 42) fe_241_27 (by decide) ?_
          refine r_aload_n fe_241_42 rfl ?_
          refine r_dup fe_241_43 rfl ?_
          refine mr_getf hh fe_241_44 lf_12_544 rfl ?_
          refine r_iconst (v := 1) fe_241_47 (by decide) ?_
          refine r_iadd (v := (((m_sA S 3 (Int32.toNatClampNeg l2) (S.2.1 40 (Int32.toNatClampNeg (S.1 56)))).1 56) + 1)) fe_241_48 rfl ?_
          refine mr_putf hh fe_241_49 lf_12_544 (m_f_56 _ _) (by decide) rfl rfl rfl ?_
          refine r_iinc (v := (l2 + 1)) fe_241_52 rfl rfl rfl ?_
          refine r_goto (t := 2) fe_241_55 (by decide) ?_
          refine go_weak (L0 := [.ref 130, .ref 133, .int (l2 + 1)]) (lwk_c (Or.inl rfl) (lwk_c (Or.inl rfl) (lwk_c (Or.inl rfl) (lwk_rf [])))) ?_
          exact ih.2 (l2 + 1) (m_sI (m_sA S 3 (Int32.toNatClampNeg l2) (S.2.1 40 (Int32.toNatClampNeg (S.1 56)))) 56 (((m_sA S 3 (Int32.toNatClampNeg l2) (S.2.1 40 (Int32.toNatClampNeg (S.1 56)))).1 56) + 1)) hf
theorem F241_133c {xs : Nat → Int32} {L9 d n : Nat} {h : AmH} {Q : Option Value → AmH → Prop} {r0 : Unit} {S0 S : mS}  (hh : 172 ≤ h.2.1) (hf : F241_133 n  S = some (r0, S0)) (hQ : Q none (mst S0 h)) : Ca (am_X xs L9) (d + 0) 241 [.ref 130, .ref 133] (mst S h) Q := (F241_133l hh hQ n).1 0 S hf
def F241_134b0 (F : Nat → Int32 → mS → Option (Unit × mS)) (n : Nat) (l2 : Int32) (S : mS) : Option (Unit × mS) := F 2 0 S
def F241_134b2 (F : Nat → Int32 → mS → Option (Unit × mS)) (n : Nat) (l2 : Int32) (S : mS) : Option (Unit × mS) := (if am_ic .ge l2 6 = true then some ((), S) else (if am_if .eq (S.1 57) = true then (if ¬ (l2 < 0 ∨ 6 ≤ (l2).toNatClampNeg) then (if ¬ ((S.1 56) < 0 ∨ 12500 ≤ ((S.1 56)).toNatClampNeg) then F 2 (l2 + 1) (m_sI (m_sA S 40 (Int32.toNatClampNeg (S.1 56)) (S.2.1 4 (Int32.toNatClampNeg l2))) 56 (((m_sA S 40 (Int32.toNatClampNeg (S.1 56)) (S.2.1 4 (Int32.toNatClampNeg l2))).1 56) + 1)) else none) else none) else (if ¬ ((S.1 56) < 0 ∨ 12500 ≤ ((S.1 56)).toNatClampNeg) then (if ¬ (l2 < 0 ∨ 6 ≤ (l2).toNatClampNeg) then F 2 (l2 + 1) (m_sI (m_sA S 4 (Int32.toNatClampNeg l2) (S.2.1 40 (Int32.toNatClampNeg (S.1 56)))) 56 (((m_sA S 4 (Int32.toNatClampNeg l2) (S.2.1 40 (Int32.toNatClampNeg (S.1 56)))).1 56) + 1)) else none) else none)))
def F241_134f : Nat → Nat → Int32 → mS → Option (Unit × mS)
  | 0, _, _, _ => none
  | n + 1, c, l2, S => if c = 0 then F241_134b0 (F241_134f n) n l2 S else F241_134b2 (F241_134f n) n l2 S
theorem F241_134e0 (n : Nat) (l2 : Int32) (S : mS) : F241_134f (n + 1) 0 l2 S = F241_134b0 (F241_134f n) n l2 S := if_pos rfl
theorem F241_134e2 (n : Nat) (l2 : Int32) (S : mS) : F241_134f (n + 1) 2 l2 S = F241_134b2 (F241_134f n) n l2 S := if_neg (by decide)
def F241_134 (n : Nat)  (S : mS) : Option (Unit × mS) := F241_134f n 0 0 S
set_option maxRecDepth 20000 in
set_option maxHeartbeats 2000000 in
theorem F241_134l {xs : Nat → Int32} {L9 d : Nat} {h : AmH} {Q : Option Value → AmH → Prop} {r0 : Unit} {S0 : mS} (hh : 172 ≤ h.2.1) (hQ : Q none (mst S0 h)) : ∀ n : Nat, (∀ (l2 : Int32) (S : mS), F241_134f n 0 l2 S = some (r0, S0) → Go (am_X xs L9) (d + 0) 241 0 [.ref 130, .ref 134, .float 0] [] (mst S h) Q) ∧ (∀ (l2 : Int32) (S : mS), F241_134f n 2 l2 S = some (r0, S0) → Go (am_X xs L9) (d + 0) 241 2 [.ref 130, .ref 134, .int l2] [] (mst S h) Q) := by
  intro n
  induction n with
  | zero => exact ⟨fun l2 S hf => (by cases hf), fun l2 S hf => (by cases hf)⟩
  | succ n ih =>
    refine ⟨?_, ?_⟩
    · intro l2 S hf
      rw [F241_134e0] at hf
      unfold F241_134b0 at hf
      refine r_iconst (v := 0) fe_241_0 (by decide) ?_
      refine r_istore_n fe_241_1 (Nat.le_of_ble_eq_true rfl) rfl ?_
      refine go_weak (L0 := [.ref 130, .ref 134, .int 0]) (lwk_c (Or.inl rfl) (lwk_c (Or.inl rfl) (lwk_c (Or.inl rfl) (lwk_rf [])))) ?_
      exact ih.2 0 S hf
    · intro l2 S hf
      rw [F241_134e2] at hf
      unfold F241_134b2 at hf
      refine r_iload_n fe_241_2 rfl ?_
      refine r_aload_n fe_241_3 rfl ?_
      refine r_alen (v := 6) fe_241_4 m_c_4 (m_lt hh (by decide)) (by decide) (by decide) ?_
      by_cases hb1 : am_ic .ge l2 6 = true
      · rw [if_pos hb1] at hf
        refine r_ic_t (t := 58) fe_241_5 (by decide) hb1 ?_
        refine r_vret fe_241_58 ?_
        exact dfin (P := fun _ T => Q none (mst T h)) hf hQ
      · rw [if_neg hb1] at hf
        refine r_ic_f (t := 58) fe_241_5 (by decide) (Bool.eq_false_iff.mpr hb1) ?_
        refine r_aload_n fe_241_8 rfl ?_
        refine mr_getf hh fe_241_9 lf_12_541 rfl ?_
        by_cases hb2 : am_if .eq (S.1 57) = true
        · rw [if_pos hb2] at hf
          refine r_if_t (t := 30) fe_241_12 (by decide) hb2 ?_
          refine r_aload_n fe_241_30 rfl ?_
          refine mr_getf hh fe_241_31 lf_12_133 rfl ?_
          refine r_aload_n fe_241_34 rfl ?_
          refine mr_getf hh fe_241_35 lf_12_544 rfl ?_
          refine r_aload_n fe_241_38 rfl ?_
          refine r_iload_n fe_241_39 rfl ?_
          by_cases hg3 : ¬ (l2 < 0 ∨ 6 ≤ (l2).toNatClampNeg)
          rotate_left
          · rw [if_neg hg3] at hf; cases hf
          rw [if_pos hg3] at hf
          refine r_iald (j := (Int32.toNatClampNeg l2)) (v := S.2.1 4 (Int32.toNatClampNeg l2)) fe_241_40 m_c_4 (m_lt hh (by decide)) (fun z => hg3 (Or.inl z)) rfl (fun z => hg3 (Or.inr z)) rfl ?_
          by_cases hg4 : ¬ ((S.1 56) < 0 ∨ 12500 ≤ ((S.1 56)).toNatClampNeg)
          rotate_left
          · rw [if_neg hg4] at hf; cases hf
          rw [if_pos hg4] at hf
          refine mr_iast (k := 40) (n := 12500) (j := (Int32.toNatClampNeg (S.1 56))) hh fe_241_41 rfl (by decide) (by decide) rfl rfl (fun z => hg4 (Or.inl z)) rfl (fun z => hg4 (Or.inr z)) ?_
          refine r_aload_n fe_241_42 rfl ?_
          refine r_dup fe_241_43 rfl ?_
          refine mr_getf hh fe_241_44 lf_12_544 rfl ?_
          refine r_iconst (v := 1) fe_241_47 (by decide) ?_
          refine r_iadd (v := (((m_sA S 40 (Int32.toNatClampNeg (S.1 56)) (S.2.1 4 (Int32.toNatClampNeg l2))).1 56) + 1)) fe_241_48 rfl ?_
          refine mr_putf hh fe_241_49 lf_12_544 (m_f_56 _ _) (by decide) rfl rfl rfl ?_
          refine r_iinc (v := (l2 + 1)) fe_241_52 rfl rfl rfl ?_
          refine r_goto (t := 2) fe_241_55 (by decide) ?_
          refine go_weak (L0 := [.ref 130, .ref 134, .int (l2 + 1)]) (lwk_c (Or.inl rfl) (lwk_c (Or.inl rfl) (lwk_c (Or.inl rfl) (lwk_rf [])))) ?_
          exact ih.2 (l2 + 1) (m_sI (m_sA S 40 (Int32.toNatClampNeg (S.1 56)) (S.2.1 4 (Int32.toNatClampNeg l2))) 56 (((m_sA S 40 (Int32.toNatClampNeg (S.1 56)) (S.2.1 4 (Int32.toNatClampNeg l2))).1 56) + 1)) hf
        · rw [if_neg hb2] at hf
          refine r_if_f (t := 30) fe_241_12 (by decide) (Bool.eq_false_iff.mpr hb2) ?_
          refine r_aload_n fe_241_15 rfl ?_
          refine r_iload_n fe_241_16 rfl ?_
          refine r_aload_n fe_241_17 rfl ?_
          refine mr_getf hh fe_241_18 lf_12_133 rfl ?_
          refine r_aload_n fe_241_21 rfl ?_
          refine mr_getf hh fe_241_22 lf_12_544 rfl ?_
          by_cases hg5 : ¬ ((S.1 56) < 0 ∨ 12500 ≤ ((S.1 56)).toNatClampNeg)
          rotate_left
          · rw [if_neg hg5] at hf; cases hf
          rw [if_pos hg5] at hf
          refine r_iald (j := (Int32.toNatClampNeg (S.1 56))) (v := S.2.1 40 (Int32.toNatClampNeg (S.1 56))) fe_241_25 m_c_40 (m_lt hh (by decide)) (fun z => hg5 (Or.inl z)) rfl (fun z => hg5 (Or.inr z)) rfl ?_
          by_cases hg6 : ¬ (l2 < 0 ∨ 6 ≤ (l2).toNatClampNeg)
          rotate_left
          · rw [if_neg hg6] at hf; cases hf
          rw [if_pos hg6] at hf
          refine mr_iast (k := 4) (n := 6) (j := (Int32.toNatClampNeg l2)) hh fe_241_26 rfl (by decide) (by decide) rfl rfl (fun z => hg6 (Or.inl z)) rfl (fun z => hg6 (Or.inr z)) ?_
          refine r_goto (t := 42) fe_241_27 (by decide) ?_
          refine r_aload_n fe_241_42 rfl ?_
          refine r_dup fe_241_43 rfl ?_
          refine mr_getf hh fe_241_44 lf_12_544 rfl ?_
          refine r_iconst (v := 1) fe_241_47 (by decide) ?_
          refine r_iadd (v := (((m_sA S 4 (Int32.toNatClampNeg l2) (S.2.1 40 (Int32.toNatClampNeg (S.1 56)))).1 56) + 1)) fe_241_48 rfl ?_
          refine mr_putf hh fe_241_49 lf_12_544 (m_f_56 _ _) (by decide) rfl rfl rfl ?_
          refine r_iinc (v := (l2 + 1)) fe_241_52 rfl rfl rfl ?_
          refine r_goto (t := 2) fe_241_55 (by decide) ?_
          refine go_weak (L0 := [.ref 130, .ref 134, .int (l2 + 1)]) (lwk_c (Or.inl rfl) (lwk_c (Or.inl rfl) (lwk_c (Or.inl rfl) (lwk_rf [])))) ?_
          exact ih.2 (l2 + 1) (m_sI (m_sA S 4 (Int32.toNatClampNeg l2) (S.2.1 40 (Int32.toNatClampNeg (S.1 56)))) 56 (((m_sA S 4 (Int32.toNatClampNeg l2) (S.2.1 40 (Int32.toNatClampNeg (S.1 56)))).1 56) + 1)) hf
theorem F241_134c {xs : Nat → Int32} {L9 d n : Nat} {h : AmH} {Q : Option Value → AmH → Prop} {r0 : Unit} {S0 S : mS}  (hh : 172 ≤ h.2.1) (hf : F241_134 n  S = some (r0, S0)) (hQ : Q none (mst S0 h)) : Ca (am_X xs L9) (d + 0) 241 [.ref 130, .ref 134] (mst S h) Q := (F241_134l hh hQ n).1 0 S hf
