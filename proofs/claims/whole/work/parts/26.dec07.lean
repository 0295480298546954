def F247b0 (F : Nat → Int32 → Int32 → mS → Option (Int32 × mS)) (n : Nat) (l1 : Int32) (l2 : Int32) (S : mS) : Option (Int32 × mS) := F 2 0 l1 S
def F247b2 (F : Nat → Int32 → Int32 → mS → Option (Int32 × mS)) (n : Nat) (l1 : Int32) (l2 : Int32) (S : mS) : Option (Int32 × mS) := (if ¬ (l2 < 0 ∨ 13 ≤ (l2).toNatClampNeg) then (if am_ic .ne (S.2.1 13 (Int32.toNatClampNeg l2)) 3 = true then (if ¬ (l2 < 0 ∨ 13 ≤ (l2).toNatClampNeg) then (if am_ic .ne (S.2.1 13 (Int32.toNatClampNeg l2)) 2 = true then some (0, S) else some (1, S)) else none) else (if ¬ (l2 < 0 ∨ 13 ≤ (l2).toNatClampNeg) then F 2 0 (S.2.1 14 (Int32.toNatClampNeg l2)) S else none)) else none)
def F247f : Nat → Nat → Int32 → Int32 → mS → Option (Int32 × mS)
  | 0, _, _, _, _ => none
  | n + 1, c, l1, l2, S => if c = 0 then F247b0 (F247f n) n l1 l2 S else F247b2 (F247f n) n l1 l2 S
theorem F247e0 (n : Nat) (l1 : Int32) (l2 : Int32) (S : mS) : F247f (n + 1) 0 l1 l2 S = F247b0 (F247f n) n l1 l2 S := if_pos rfl
theorem F247e2 (n : Nat) (l1 : Int32) (l2 : Int32) (S : mS) : F247f (n + 1) 2 l1 l2 S = F247b2 (F247f n) n l1 l2 S := if_neg (by decide)
def F247 (n : Nat) (l1 : Int32) (S : mS) : Option (Int32 × mS) := F247f n 0 l1 0 S
set_option maxRecDepth 20000 in
set_option maxHeartbeats 2000000 in
theorem F247l {xs : Nat → Int32} {L9 d : Nat} {h : AmH} {Q : Option Value → AmH → Prop} {r0 : Int32} {S0 : mS} (hh : 172 ≤ h.2.1) (hQ : Q (some (.int r0)) (mst S0 h)) : ∀ n : Nat, (∀ (l1 : Int32) (l2 : Int32) (S : mS), F247f n 0 l1 l2 S = some (r0, S0) → Go (am_X xs L9) (d + 0) 247 0 [.ref 130, .int l1, .float 0] [] (mst S h) Q) ∧ (∀ (l1 : Int32) (l2 : Int32) (S : mS), F247f n 2 l1 l2 S = some (r0, S0) → Go (am_X xs L9) (d + 0) 247 2 [.ref 130, .float 0, .int l2] [] (mst S h) Q) := by
  intro n
  induction n with
  | zero => exact ⟨fun l1 l2 S hf => (by cases hf), fun l1 l2 S hf => (by cases hf)⟩
  | succ n ih =>
    refine ⟨?_, ?_⟩
    · intro l1 l2 S hf
      rw [F247e0] at hf
      unfold F247b0 at hf
      refine r_iload_n fe_247_0 rfl ?_
      refine r_istore_n fe_247_1 (Nat.le_of_ble_eq_true rfl) rfl ?_
      refine go_weak (L0 := [.ref 130, .float 0, .int l1]) (lwk_c (Or.inl rfl) (lwk_c (Or.inr rfl) (lwk_c (Or.inl rfl) (lwk_rf [])))) ?_
      exact ih.2 0 l1 S hf
    · intro l1 l2 S hf
      rw [F247e2] at hf
      unfold F247b2 at hf
      refine r_aload_n fe_247_2 rfl ?_
      refine mr_getf hh fe_247_3 lf_12_46 rfl ?_
      refine r_iload_n fe_247_6 rfl ?_
      by_cases hg1 : ¬ (l2 < 0 ∨ 13 ≤ (l2).toNatClampNeg)
      rotate_left
      · rw [if_neg hg1] at hf; cases hf
      rw [if_pos hg1] at hf
      refine r_iald (j := (Int32.toNatClampNeg l2)) (v := S.2.1 13 (Int32.toNatClampNeg l2)) fe_247_7 m_c_13 (m_lt hh (by decide)) (fun z => hg1 (Or.inl z)) rfl (fun z => hg1 (Or.inr z)) rfl ?_
      refine r_iconst (v := 3) fe_247_8 (by decide) ?_
      by_cases hb2 : am_ic .ne (S.2.1 13 (Int32.toNatClampNeg l2)) 3 = true
      · rw [if_pos hb2] at hf
        refine r_ic_t (t := 22) fe_247_9 (by decide) hb2 ?_
        refine r_aload_n fe_247_22 rfl ?_
        refine mr_getf hh fe_247_23 lf_12_46 rfl ?_
        refine r_iload_n fe_247_26 rfl ?_
        by_cases hg3 : ¬ (l2 < 0 ∨ 13 ≤ (l2).toNatClampNeg)
        rotate_left
        · rw [if_neg hg3] at hf; cases hf
        rw [if_pos hg3] at hf
        refine r_iald (j := (Int32.toNatClampNeg l2)) (v := S.2.1 13 (Int32.toNatClampNeg l2)) fe_247_27 m_c_13 (m_lt hh (by decide)) (fun z => hg3 (Or.inl z)) rfl (fun z => hg3 (Or.inr z)) rfl ?_
        refine r_iconst (v := 2) fe_247_28 (by decide) ?_
        by_cases hb4 : am_ic .ne (S.2.1 13 (Int32.toNatClampNeg l2)) 2 = true
        · rw [if_pos hb4] at hf
          refine r_ic_t (t := 36) fe_247_29 (by decide) hb4 ?_
          refine r_iconst (v := 0) fe_247_36 (by decide) ?_
          refine r_iret fe_247_37 ⟨rfl, by decide⟩ ?_
          exact dfin (P := fun r T => Q (some (.int r)) (mst T h)) hf hQ
        · rw [if_neg hb4] at hf
          refine r_ic_f (t := 36) fe_247_29 (by decide) (Bool.eq_false_iff.mpr hb4) ?_
          refine r_iconst (v := 1) fe_247_32 (by decide) ?_
          refine r_goto (t := 37) fe_247_33 (by decide) ?_
          refine r_iret fe_247_37 ⟨rfl, by decide⟩ ?_
          exact dfin (P := fun r T => Q (some (.int r)) (mst T h)) hf hQ
      · rw [if_neg hb2] at hf
        refine r_ic_f (t := 22) fe_247_9 (by decide) (Bool.eq_false_iff.mpr hb2) ?_
        refine r_aload_n fe_247_12 rfl ?_
        refine mr_getf hh fe_247_13 lf_12_49 rfl ?_
        refine r_iload_n fe_247_16 rfl ?_
        by_cases hg5 : ¬ (l2 < 0 ∨ 13 ≤ (l2).toNatClampNeg)
        rotate_left
        · rw [if_neg hg5] at hf; cases hf
        rw [if_pos hg5] at hf
        refine r_iald (j := (Int32.toNatClampNeg l2)) (v := S.2.1 14 (Int32.toNatClampNeg l2)) fe_247_17 m_c_14 (m_lt hh (by decide)) (fun z => hg5 (Or.inl z)) rfl (fun z => hg5 (Or.inr z)) rfl ?_
        refine r_istore_n fe_247_18 (Nat.le_of_ble_eq_true rfl) rfl ?_
        refine r_goto (t := 2) fe_247_19 (by decide) ?_
        refine go_weak (L0 := [.ref 130, .float 0, .int (S.2.1 14 (Int32.toNatClampNeg l2))]) (lwk_c (Or.inl rfl) (lwk_c (Or.inl rfl) (lwk_c (Or.inl rfl) (lwk_rf [])))) ?_
        exact ih.2 0 (S.2.1 14 (Int32.toNatClampNeg l2)) S hf
theorem F247c {xs : Nat → Int32} {L9 d n : Nat} {h : AmH} {Q : Option Value → AmH → Prop} {r0 : Int32} {S0 S : mS} {l1 : Int32} (hh : 172 ≤ h.2.1) (hf : F247 n l1 S = some (r0, S0)) (hQ : Q (some (.int r0)) (mst S0 h)) : Ca (am_X xs L9) (d + 0) 247 [.ref 130, .int l1] (mst S h) Q := (F247l hh hQ n).1 l1 0 S hf
def F246b0 (F : Nat → Int32 → Int32 → Int32 → Int32 → mS → Option (Int32 × mS)) (n : Nat) (l1 : Int32) (l2 : Int32) (l3 : Int32) (l4 : Int32) (S : mS) : Option (Int32 × mS) := F 2 l1 l2 0 0 S
def F246b2 (F : Nat → Int32 → Int32 → Int32 → Int32 → mS → Option (Int32 × mS)) (n : Nat) (l1 : Int32) (l2 : Int32) (l3 : Int32) (l4 : Int32) (S : mS) : Option (Int32 × mS) := (if am_ic .ge l3 (S.2.1 1 0) = true then ((F242 n 60 S).bind (fun z2 => F 43 l1 0 1 0 z2.2)) else ((F199 n l2 l3 S).bind (fun z4 => (if am_if .eq z4.1 = true then F 2 l1 l2 (l3 + 1) 0 z4.2 else ((F237 n l3 1 z4.2).bind (fun z7 => F 2 l1 l2 (l3 + 1) 0 z7.2))))))
def F246b43 (F : Nat → Int32 → Int32 → Int32 → Int32 → mS → Option (Int32 × mS)) (n : Nat) (l1 : Int32) (l2 : Int32) (l3 : Int32) (l4 : Int32) (S : mS) : Option (Int32 × mS) := (if am_ic .ge l4 (S.2.1 1 4) = true then ((F243 n  S).bind (fun z10 => (if narrow .boolean (.int l3) = .int l3 then some (l3, z10.2) else none))) else (if am_if .eq l3 = true then F 43 l1 0 0 (l4 + 1) S else ((F199 n l1 l4 S).bind (fun z14 => (if am_if .eq z14.1 = true then F 43 l1 0 1 (l4 + 1) z14.2 else ((F247 n l4 z14.2).bind (fun z17 => (if am_if .eq z17.1 = true then F 43 l1 0 0 (l4 + 1) z17.2 else F 43 l1 0 1 (l4 + 1) z17.2))))))))
def F246f : Nat → Nat → Int32 → Int32 → Int32 → Int32 → mS → Option (Int32 × mS)
  | 0, _, _, _, _, _, _ => none
  | n + 1, c, l1, l2, l3, l4, S => if c = 0 then F246b0 (F246f n) n l1 l2 l3 l4 S else if c = 2 then F246b2 (F246f n) n l1 l2 l3 l4 S else F246b43 (F246f n) n l1 l2 l3 l4 S
theorem F246e0 (n : Nat) (l1 : Int32) (l2 : Int32) (l3 : Int32) (l4 : Int32) (S : mS) : F246f (n + 1) 0 l1 l2 l3 l4 S = F246b0 (F246f n) n l1 l2 l3 l4 S := if_pos rfl
theorem F246e2 (n : Nat) (l1 : Int32) (l2 : Int32) (l3 : Int32) (l4 : Int32) (S : mS) : F246f (n + 1) 2 l1 l2 l3 l4 S = F246b2 (F246f n) n l1 l2 l3 l4 S := (if_neg (by decide)).trans (if_pos rfl)
theorem F246e43 (n : Nat) (l1 : Int32) (l2 : Int32) (l3 : Int32) (l4 : Int32) (S : mS) : F246f (n + 1) 43 l1 l2 l3 l4 S = F246b43 (F246f n) n l1 l2 l3 l4 S := (if_neg (by decide)).trans (if_neg (by decide))
def F246 (n : Nat) (l1 : Int32) (l2 : Int32) (S : mS) : Option (Int32 × mS) := F246f n 0 l1 l2 0 0 S
set_option maxRecDepth 20000 in
set_option maxHeartbeats 2000000 in
theorem F246l {xs : Nat → Int32} {L9 d : Nat} {h : AmH} {Q : Option Value → AmH → Prop} {r0 : Int32} {S0 : mS} (hh : 172 ≤ h.2.1) (hQ : Q (some (.int r0)) (mst S0 h)) : ∀ n : Nat, (∀ (l1 : Int32) (l2 : Int32) (l3 : Int32) (l4 : Int32) (S : mS), F246f n 0 l1 l2 l3 l4 S = some (r0, S0) → Go (am_X xs L9) (d + 8) 246 0 [.ref 130, .int l1, .int l2, .float 0, .float 0] [] (mst S h) Q) ∧ (∀ (l1 : Int32) (l2 : Int32) (l3 : Int32) (l4 : Int32) (S : mS), F246f n 2 l1 l2 l3 l4 S = some (r0, S0) → Go (am_X xs L9) (d + 8) 246 2 [.ref 130, .int l1, .int l2, .int l3, .float 0] [] (mst S h) Q) ∧ (∀ (l1 : Int32) (l2 : Int32) (l3 : Int32) (l4 : Int32) (S : mS), F246f n 43 l1 l2 l3 l4 S = some (r0, S0) → Go (am_X xs L9) (d + 8) 246 43 [.ref 130, .int l1, .float 0, .int l3, .int l4] [] (mst S h) Q) := by
  intro n
  induction n with
  | zero => exact ⟨fun l1 l2 l3 l4 S hf => (by cases hf), fun l1 l2 l3 l4 S hf => (by cases hf), fun l1 l2 l3 l4 S hf => (by cases hf)⟩
  | succ n ih =>
    refine ⟨?_, ?_, ?_⟩
    · intro l1 l2 l3 l4 S hf
      rw [F246e0] at hf
      unfold F246b0 at hf
      refine r_iconst (v := 0) fe_246_0 (by decide) ?_
      refine r_istore_n fe_246_1 (Nat.le_of_ble_eq_true rfl) rfl ?_
      refine go_weak (L0 := [.ref 130, .int l1, .int l2, .int 0, .float 0]) (lwk_c (Or.inl rfl) (lwk_c (Or.inl rfl) (lwk_c (Or.inl rfl) (lwk_c (Or.inl rfl) (lwk_c (Or.inl rfl) (lwk_rf [])))))) ?_
      exact ih.2.1 l1 l2 0 0 S hf
    · intro l1 l2 l3 l4 S hf
      rw [F246e2] at hf
      unfold F246b2 at hf
      refine r_iload_n fe_246_2 rfl ?_
      refine r_aload_n fe_246_3 rfl ?_
      refine mr_getf hh fe_246_4 lf_12_9 rfl ?_
      refine r_iconst (v := 0) fe_246_7 (by decide) ?_
      refine r_iald (j := 0) (v := S.2.1 1 0) fe_246_8 m_c_1 (m_lt hh (by decide)) (by decide) (by decide) (by decide) rfl ?_
      by_cases hb1 : am_ic .ge l3 (S.2.1 1 0) = true
      · rw [if_pos hb1] at hf
        refine r_ic_t (t := 32) fe_246_9 (by decide) hb1 ?_
        refine r_aload_n fe_246_32 rfl ?_
        refine r_bipush (v := 60) fe_246_33 (by decide) ?_
        refine r_callV (as := [.int 60]) (r := []) fe_246_35 lm_12_491 md_242 rfl rfl (Nat.le_of_ble_eq_true rfl) m_c_0 (m_lt hh (by decide)) (Nat.le_of_ble_eq_true rfl) (Nat.le_of_ble_eq_true rfl) ?_
        cases hc3 : F242 n 60 S with
        | none => rw [hc3] at hf; cases hf
        | some z2 =>
          rw [hc3, Option.bind_some] at hf
          refine F242c (r0 := z2.1) (S0 := z2.2) hh hc3 ?_
          refine r_iconst (v := 1) fe_246_38 (by decide) ?_
          refine r_istore_n fe_246_39 (Nat.le_of_ble_eq_true rfl) rfl ?_
          refine r_iconst (v := 0) fe_246_40 (by decide) ?_
          refine r_istore fe_246_41 (Nat.le_of_ble_eq_true rfl) rfl ?_
          refine go_weak (L0 := [.ref 130, .int l1, .float 0, .int 1, .int 0]) (lwk_c (Or.inl rfl) (lwk_c (Or.inl rfl) (lwk_c (Or.inr rfl) (lwk_c (Or.inl rfl) (lwk_c (Or.inl rfl) (lwk_rf [])))))) ?_
          exact ih.2.2 l1 0 1 0 z2.2 hf
      · rw [if_neg hb1] at hf
        refine r_ic_f (t := 32) fe_246_9 (by decide) (Bool.eq_false_iff.mpr hb1) ?_
        refine r_iload_n fe_246_12 rfl ?_
        refine r_iload_n fe_246_13 rfl ?_
        refine r_callS (as := [.int l2, .int l3]) (r := []) fe_246_14 lm_12_387 md_199 rfl rfl (Nat.le_of_ble_eq_true rfl) (Nat.le_of_ble_eq_true rfl) (Nat.le_of_ble_eq_true rfl) ?_
        cases hc5 : F199 n l2 l3 S with
        | none => rw [hc5] at hf; cases hf
        | some z4 =>
          rw [hc5, Option.bind_some] at hf
          refine F199c (r0 := z4.1) (S0 := z4.2) hh hc5 ?_
          by_cases hb6 : am_if .eq z4.1 = true
          · rw [if_pos hb6] at hf
            refine r_if_t (t := 26) fe_246_17 (by decide) hb6 ?_
            refine r_iinc (v := (l3 + 1)) fe_246_26 rfl rfl rfl ?_
            refine r_goto (t := 2) fe_246_29 (by decide) ?_
            refine go_weak (L0 := [.ref 130, .int l1, .int l2, .int (l3 + 1), .float 0]) (lwk_c (Or.inl rfl) (lwk_c (Or.inl rfl) (lwk_c (Or.inl rfl) (lwk_c (Or.inl rfl) (lwk_c (Or.inl rfl) (lwk_rf [])))))) ?_
            exact ih.2.1 l1 l2 (l3 + 1) 0 z4.2 hf
          · rw [if_neg hb6] at hf
            refine r_if_f (t := 26) fe_246_17 (by decide) (Bool.eq_false_iff.mpr hb6) ?_
            refine r_aload_n fe_246_20 rfl ?_
            refine r_iload_n fe_246_21 rfl ?_
            refine r_iconst (v := 1) fe_246_22 (by decide) ?_
            refine r_callV (as := [.int l3, .int 1]) (r := []) fe_246_23 lm_12_478 md_237 rfl rfl (Nat.le_of_ble_eq_true rfl) m_c_0 (m_lt hh (by decide)) (Nat.le_of_ble_eq_true rfl) (Nat.le_of_ble_eq_true rfl) ?_
            cases hc8 : F237 n l3 1 z4.2 with
            | none => rw [hc8] at hf; cases hf
            | some z7 =>
              rw [hc8, Option.bind_some] at hf
              refine F237c (r0 := z7.1) (S0 := z7.2) hh hc8 ?_
              refine r_iinc (v := (l3 + 1)) fe_246_26 rfl rfl rfl ?_
              refine r_goto (t := 2) fe_246_29 (by decide) ?_
              refine go_weak (L0 := [.ref 130, .int l1, .int l2, .int (l3 + 1), .float 0]) (lwk_c (Or.inl rfl) (lwk_c (Or.inl rfl) (lwk_c (Or.inl rfl) (lwk_c (Or.inl rfl) (lwk_c (Or.inl rfl) (lwk_rf [])))))) ?_
              exact ih.2.1 l1 l2 (l3 + 1) 0 z7.2 hf
    · intro l1 l2 l3 l4 S hf
      rw [F246e43] at hf
      unfold F246b43 at hf
      refine r_iload fe_246_43 rfl ?_
      refine r_aload_n fe_246_45 rfl ?_
      refine mr_getf hh fe_246_46 lf_12_9 rfl ?_
      refine r_iconst (v := 4) fe_246_49 (by decide) ?_
      refine r_iald (j := 4) (v := S.2.1 1 4) fe_246_50 m_c_1 (m_lt hh (by decide)) (by decide) (by decide) (by decide) rfl ?_
      by_cases hb9 : am_ic .ge l4 (S.2.1 1 4) = true
      · rw [if_pos hb9] at hf
        refine r_ic_t (t := 88) fe_246_51 (by decide) hb9 ?_
        refine r_aload_n fe_246_88 rfl ?_
        refine r_callV (as := []) (r := []) fe_246_89 lm_12_494 md_243 rfl rfl (Nat.le_of_ble_eq_true rfl) m_c_0 (m_lt hh (by decide)) (Nat.le_of_ble_eq_true rfl) (Nat.le_of_ble_eq_true rfl) ?_
        cases hc11 : F243 n  S with
        | none => rw [hc11] at hf; cases hf
        | some z10 =>
          rw [hc11, Option.bind_some] at hf
          refine F243c (r0 := z10.1) (S0 := z10.2) hh hc11 ?_
          refine r_iload_n fe_246_92 rfl ?_
          by_cases hz12 : narrow .boolean (.int l3) = .int l3
          rotate_left
          · rw [if_neg hz12] at hf; cases hf
          rw [if_pos hz12] at hf
          refine r_iret fe_246_93 ⟨hz12, by decide⟩ ?_
          exact dfin (P := fun r T => Q (some (.int r)) (mst T h)) hf hQ
      · rw [if_neg hb9] at hf
        refine r_ic_f (t := 88) fe_246_51 (by decide) (Bool.eq_false_iff.mpr hb9) ?_
        refine r_iload_n fe_246_54 rfl ?_
        by_cases hb13 : am_if .eq l3 = true
        · rw [if_pos hb13] at hf
          refine r_if_t (t := 80) fe_246_55 (by decide) hb13 ?_
          refine r_iconst (v := 0) fe_246_80 (by decide) ?_
          refine r_istore_n fe_246_81 (Nat.le_of_ble_eq_true rfl) rfl ?_
          refine r_iinc (v := (l4 + 1)) fe_246_82 rfl rfl rfl ?_
          refine r_goto (t := 43) fe_246_85 (by decide) ?_
          refine go_weak (L0 := [.ref 130, .int l1, .float 0, .int 0, .int (l4 + 1)]) (lwk_c (Or.inl rfl) (lwk_c (Or.inl rfl) (lwk_c (Or.inl rfl) (lwk_c (Or.inl rfl) (lwk_c (Or.inl rfl) (lwk_rf [])))))) ?_
          exact ih.2.2 l1 0 0 (l4 + 1) S hf
        · rw [if_neg hb13] at hf
          refine r_if_f (t := 80) fe_246_55 (by decide) (Bool.eq_false_iff.mpr hb13) ?_
          refine r_iload_n fe_246_58 rfl ?_
          refine r_iload fe_246_59 rfl ?_
          refine r_callS (as := [.int l1, .int l4]) (r := []) fe_246_61 lm_12_387 md_199 rfl rfl (Nat.le_of_ble_eq_true rfl) (Nat.le_of_ble_eq_true rfl) (Nat.le_of_ble_eq_true rfl) ?_
          cases hc15 : F199 n l1 l4 S with
          | none => rw [hc15] at hf; cases hf
          | some z14 =>
            rw [hc15, Option.bind_some] at hf
            refine F199c (r0 := z14.1) (S0 := z14.2) hh hc15 ?_
            by_cases hb16 : am_if .eq z14.1 = true
            · rw [if_pos hb16] at hf
              refine r_if_t (t := 76) fe_246_64 (by decide) hb16 ?_
              refine r_iconst (v := 1) fe_246_76 (by decide) ?_
              refine r_goto (t := 81) fe_246_77 (by decide) ?_
              refine r_istore_n fe_246_81 (Nat.le_of_ble_eq_true rfl) rfl ?_
              refine r_iinc (v := (l4 + 1)) fe_246_82 rfl rfl rfl ?_
              refine r_goto (t := 43) fe_246_85 (by decide) ?_
              refine go_weak (L0 := [.ref 130, .int l1, .float 0, .int 1, .int (l4 + 1)]) (lwk_c (Or.inl rfl) (lwk_c (Or.inl rfl) (lwk_c (Or.inl rfl) (lwk_c (Or.inl rfl) (lwk_c (Or.inl rfl) (lwk_rf [])))))) ?_
              exact ih.2.2 l1 0 1 (l4 + 1) z14.2 hf
            · rw [if_neg hb16] at hf
              refine r_if_f (t := 76) fe_246_64 (by decide) (Bool.eq_false_iff.mpr hb16) ?_
              refine r_aload_n fe_246_67 rfl ?_
              refine r_iload fe_246_68 rfl ?_
              refine r_callV (as := [.int l4]) (r := []) fe_246_70 lm_12_497 md_247 rfl rfl (Nat.le_of_ble_eq_true rfl) m_c_0 (m_lt hh (by decide)) (Nat.le_of_ble_eq_true rfl) (Nat.le_of_ble_eq_true rfl) ?_
              cases hc18 : F247 n l4 z14.2 with
              | none => rw [hc18] at hf; cases hf
              | some z17 =>
                rw [hc18, Option.bind_some] at hf
                refine F247c (r0 := z17.1) (S0 := z17.2) hh hc18 ?_
                by_cases hb19 : am_if .eq z17.1 = true
                · rw [if_pos hb19] at hf
                  refine r_if_t (t := 80) fe_246_73 (by decide) hb19 ?_
                  refine r_iconst (v := 0) fe_246_80 (by decide) ?_
                  refine r_istore_n fe_246_81 (Nat.le_of_ble_eq_true rfl) rfl ?_
                  refine r_iinc (v := (l4 + 1)) fe_246_82 rfl rfl rfl ?_
                  refine r_goto (t := 43) fe_246_85 (by decide) ?_
                  refine go_weak (L0 := [.ref 130, .int l1, .float 0, .int 0, .int (l4 + 1)]) (lwk_c (Or.inl rfl) (lwk_c (Or.inl rfl) (lwk_c (Or.inl rfl) (lwk_c (Or.inl rfl) (lwk_c (Or.inl rfl) (lwk_rf [])))))) ?_
                  exact ih.2.2 l1 0 0 (l4 + 1) z17.2 hf
                · rw [if_neg hb19] at hf
                  refine r_if_f (t := 80) fe_246_73 (by decide) (Bool.eq_false_iff.mpr hb19) ?_
                  refine r_iconst (v := 1) fe_246_76 (by decide) ?_
                  refine r_goto (t := 81) fe_246_77 (by decide) ?_
                  refine r_istore_n fe_246_81 (Nat.le_of_ble_eq_true rfl) rfl ?_
                  refine r_iinc (v := (l4 + 1)) fe_246_82 rfl rfl rfl ?_
                  refine r_goto (t := 43) fe_246_85 (by decide) ?_
                  refine go_weak (L0 := [.ref 130, .int l1, .float 0, .int 1, .int (l4 + 1)]) (lwk_c (Or.inl rfl) (lwk_c (Or.inl rfl) (lwk_c (Or.inl rfl) (lwk_c (Or.inl rfl) (lwk_c (Or.inl rfl) (lwk_rf [])))))) ?_
                  exact ih.2.2 l1 0 1 (l4 + 1) z17.2 hf
theorem F246c {xs : Nat → Int32} {L9 d n : Nat} {h : AmH} {Q : Option Value → AmH → Prop} {r0 : Int32} {S0 S : mS} {l1 : Int32} {l2 : Int32} (hh : 172 ≤ h.2.1) (hf : F246 n l1 l2 S = some (r0, S0)) (hQ : Q (some (.int r0)) (mst S0 h)) : Ca (am_X xs L9) (d + 8) 246 [.ref 130, .int l1, .int l2] (mst S h) Q := (F246l hh hQ n).1 l1 l2 0 0 S hf
def F245b0 (F : Nat → Int32 → Int32 → Int32 → Int32 → Int32 → mS → Option (Int32 × mS)) (n : Nat) (l1 : Int32) (l2 : Int32) (l3 : Int32) (l4 : Int32) (l5 : Int32) (S : mS) : Option (Int32 × mS) := ((F210 n  S).bind (fun z1 => (if am_if .eq z1.1 = true then some ((-1), z1.2) else (if am_if .lt l1 = true then some ((-1), z1.2) else ((F213 n  z1.2).bind (fun z5 => (if am_if .ne (l1 &&& (z5.1 ^^^ (-1))) = true then some ((-1), z5.2) else ((F172 n (Int32.toInt64 l2) 0 1 z5.2).bind (fun z8 => (if am_if .ne z8.1 = true then F 39 l1 l2 0 0 0 z8.2 else some ((-1), z8.2)))))))))))
def F245b39 (F : Nat → Int32 → Int32 → Int32 → Int32 → Int32 → mS → Option (Int32 × mS)) (n : Nat) (l1 : Int32) (l2 : Int32) (l3 : Int32) (l4 : Int32) (l5 : Int32) (S : mS) : Option (Int32 × mS) := (if am_ic .ge l4 (S.2.1 1 0) = true then ((F239 n  S).bind (fun z12 => F 84 l1 l2 l3 0 0 z12.2)) else ((F200 n l4 S).bind (fun z14 => (if am_ic .ne z14.1 (-1) = true then F 39 l1 l2 (l3 ||| 0) (l4 + 1) 0 z14.2 else F 39 l1 l2 (l3 ||| (1 <<< (l4 &&& 31))) (l4 + 1) 0 z14.2))))
def F245b84 (F : Nat → Int32 → Int32 → Int32 → Int32 → Int32 → mS → Option (Int32 × mS)) (n : Nat) (l1 : Int32) (l2 : Int32) (l3 : Int32) (l4 : Int32) (l5 : Int32) (S : mS) : Option (Int32 × mS) := (if am_ic .ge l4 4 = true then some ((-2), S) else F 93 l1 l2 l3 l4 0 S)
def F245b93 (F : Nat → Int32 → Int32 → Int32 → Int32 → Int32 → mS → Option (Int32 × mS)) (n : Nat) (l1 : Int32) (l2 : Int32) (l3 : Int32) (l4 : Int32) (l5 : Int32) (S : mS) : Option (Int32 × mS) := (if am_ic .gt l5 l3 = true then F 84 l1 l2 l3 (l4 + 1) 0 S else (if am_if .ne (l5 &&& (l3 ^^^ (-1))) = true then F 93 l1 l2 l3 l4 (l5 + 1) S else ((F223 n l5 S).bind (fun z20 => (if am_ic .ne z20.1 l4 = true then F 93 l1 l2 l3 l4 (l5 + 1) z20.2 else ((F246 n l1 l5 z20.2).bind (fun z23 => (if am_if .eq z23.1 = true then F 93 l1 l2 l3 l4 (l5 + 1) z23.2 else (if am_if .ne l2 = true then some (l5, z23.2) else some (l4, z23.2))))))))))
def F245f : Nat → Nat → Int32 → Int32 → Int32 → Int32 → Int32 → mS → Option (Int32 × mS)
  | 0, _, _, _, _, _, _, _ => none
  | n + 1, c, l1, l2, l3, l4, l5, S => if c = 0 then F245b0 (F245f n) n l1 l2 l3 l4 l5 S else if c = 39 then F245b39 (F245f n) n l1 l2 l3 l4 l5 S else if c = 84 then F245b84 (F245f n) n l1 l2 l3 l4 l5 S else F245b93 (F245f n) n l1 l2 l3 l4 l5 S
theorem F245e0 (n : Nat) (l1 : Int32) (l2 : Int32) (l3 : Int32) (l4 : Int32) (l5 : Int32) (S : mS) : F245f (n + 1) 0 l1 l2 l3 l4 l5 S = F245b0 (F245f n) n l1 l2 l3 l4 l5 S := if_pos rfl
theorem F245e39 (n : Nat) (l1 : Int32) (l2 : Int32) (l3 : Int32) (l4 : Int32) (l5 : Int32) (S : mS) : F245f (n + 1) 39 l1 l2 l3 l4 l5 S = F245b39 (F245f n) n l1 l2 l3 l4 l5 S := (if_neg (by decide)).trans (if_pos rfl)
theorem F245e84 (n : Nat) (l1 : Int32) (l2 : Int32) (l3 : Int32) (l4 : Int32) (l5 : Int32) (S : mS) : F245f (n + 1) 84 l1 l2 l3 l4 l5 S = F245b84 (F245f n) n l1 l2 l3 l4 l5 S := (if_neg (by decide)).trans ((if_neg (by decide)).trans (if_pos rfl))
theorem F245e93 (n : Nat) (l1 : Int32) (l2 : Int32) (l3 : Int32) (l4 : Int32) (l5 : Int32) (S : mS) : F245f (n + 1) 93 l1 l2 l3 l4 l5 S = F245b93 (F245f n) n l1 l2 l3 l4 l5 S := (if_neg (by decide)).trans ((if_neg (by decide)).trans (if_neg (by decide)))
def F245 (n : Nat) (l1 : Int32) (l2 : Int32) (S : mS) : Option (Int32 × mS) := F245f n 0 l1 l2 0 0 0 S
set_option maxRecDepth 20000 in
set_option maxHeartbeats 2000000 in
theorem F245l {xs : Nat → Int32} {L9 d : Nat} {h : AmH} {Q : Option Value → AmH → Prop} {r0 : Int32} {S0 : mS} (hh : 172 ≤ h.2.1) (hQ : Q (some (.int r0)) (mst S0 h)) : ∀ n : Nat, (∀ (l1 : Int32) (l2 : Int32) (l3 : Int32) (l4 : Int32) (l5 : Int32) (S : mS), F245f n 0 l1 l2 l3 l4 l5 S = some (r0, S0) → Go (am_X xs L9) (d + 9) 245 0 [.ref 130, .int l1, .int l2, .float 0, .float 0, .float 0] [] (mst S h) Q) ∧ (∀ (l1 : Int32) (l2 : Int32) (l3 : Int32) (l4 : Int32) (l5 : Int32) (S : mS), F245f n 39 l1 l2 l3 l4 l5 S = some (r0, S0) → Go (am_X xs L9) (d + 9) 245 39 [.ref 130, .int l1, .int l2, .int l3, .int l4, .float 0] [] (mst S h) Q) ∧ (∀ (l1 : Int32) (l2 : Int32) (l3 : Int32) (l4 : Int32) (l5 : Int32) (S : mS), F245f n 84 l1 l2 l3 l4 l5 S = some (r0, S0) → Go (am_X xs L9) (d + 9) 245 84 [.ref 130, .int l1, .int l2, .int l3, .int l4, .float 0] [] (mst S h) Q) ∧ (∀ (l1 : Int32) (l2 : Int32) (l3 : Int32) (l4 : Int32) (l5 : Int32) (S : mS), F245f n 93 l1 l2 l3 l4 l5 S = some (r0, S0) → Go (am_X xs L9) (d + 9) 245 93 [.ref 130, .int l1, .int l2, .int l3, .int l4, .int l5] [] (mst S h) Q) := by
  intro n
  induction n with
  | zero => exact ⟨fun l1 l2 l3 l4 l5 S hf => (by cases hf), fun l1 l2 l3 l4 l5 S hf => (by cases hf), fun l1 l2 l3 l4 l5 S hf => (by cases hf), fun l1 l2 l3 l4 l5 S hf => (by cases hf)⟩
  | succ n ih =>
    refine ⟨?_, ?_, ?_, ?_⟩
    · intro l1 l2 l3 l4 l5 S hf
      rw [F245e0] at hf
      unfold F245b0 at hf
      refine r_aload_n fe_245_0 rfl ?_
      refine r_callV (as := []) (r := []) fe_245_1 lm_12_457 md_210 rfl rfl (Nat.le_of_ble_eq_true rfl) m_c_0 (m_lt hh (by decide)) (Nat.le_of_ble_eq_true rfl) (Nat.le_of_ble_eq_true rfl) ?_
      cases hc2 : F210 n  S with
      | none => rw [hc2] at hf; cases hf
      | some z1 =>
        rw [hc2, Option.bind_some] at hf
        refine F210c (r0 := z1.1) (S0 := z1.2) hh hc2 ?_
        by_cases hb3 : am_if .eq z1.1 = true
        · rw [if_pos hb3] at hf
          refine r_if_t (t := 32) fe_245_4 (by decide) hb3 ?_
          refine r_iconst (v := -1) fe_245_32 (by decide) ?_
          refine r_iret fe_245_33 ⟨rfl, by decide⟩ ?_
          exact dfin (P := fun r T => Q (some (.int r)) (mst T h)) hf hQ
        · rw [if_neg hb3] at hf
          refine r_if_f (t := 32) fe_245_4 (by decide) (Bool.eq_false_iff.mpr hb3) ?_
          refine r_iload_n fe_245_7 rfl ?_
          by_cases hb4 : am_if .lt l1 = true
          · rw [if_pos hb4] at hf
            refine r_if_t (t := 32) fe_245_8 (by decide) hb4 ?_
            refine r_iconst (v := -1) fe_245_32 (by decide) ?_
            refine r_iret fe_245_33 ⟨rfl, by decide⟩ ?_
            exact dfin (P := fun r T => Q (some (.int r)) (mst T h)) hf hQ
          · rw [if_neg hb4] at hf
            refine r_if_f (t := 32) fe_245_8 (by decide) (Bool.eq_false_iff.mpr hb4) ?_
            refine r_iload_n fe_245_11 rfl ?_
            refine r_aload_n fe_245_12 rfl ?_
            refine r_callV (as := []) (r := [.int l1]) fe_245_13 lm_12_427 md_213 rfl rfl (Nat.le_of_ble_eq_true rfl) m_c_0 (m_lt hh (by decide)) (Nat.le_of_ble_eq_true rfl) (Nat.le_of_ble_eq_true rfl) ?_
            cases hc6 : F213 n  z1.2 with
            | none => rw [hc6] at hf; cases hf
            | some z5 =>
              rw [hc6, Option.bind_some] at hf
              refine F213c (r0 := z5.1) (S0 := z5.2) hh hc6 ?_
              refine r_iconst (v := -1) fe_245_16 (by decide) ?_
              refine r_ixor (v := (z5.1 ^^^ (-1))) fe_245_17 rfl ?_
              refine r_iand (v := (l1 &&& (z5.1 ^^^ (-1)))) fe_245_18 rfl ?_
              by_cases hb7 : am_if .ne (l1 &&& (z5.1 ^^^ (-1))) = true
              · rw [if_pos hb7] at hf
                refine r_if_t (t := 32) fe_245_19 (by decide) hb7 ?_
                refine r_iconst (v := -1) fe_245_32 (by decide) ?_
                refine r_iret fe_245_33 ⟨rfl, by decide⟩ ?_
                exact dfin (P := fun r T => Q (some (.int r)) (mst T h)) hf hQ
              · rw [if_neg hb7] at hf
                refine r_if_f (t := 32) fe_245_19 (by decide) (Bool.eq_false_iff.mpr hb7) ?_
                refine r_iload_n fe_245_22 rfl ?_
                refine r_i2l (v := (Int32.toInt64 l2)) fe_245_23 rfl ?_
                refine r_lconst (v := 0) fe_245_24 (by decide) ?_
                refine r_lconst (v := 1) fe_245_25 (by decide) ?_
                refine r_callS (as := [.long (Int32.toInt64 l2), .long 0, .long 1]) (r := []) fe_245_26 lm_12_143 md_172 rfl rfl (Nat.le_of_ble_eq_true rfl) (Nat.le_of_ble_eq_true rfl) (Nat.le_of_ble_eq_true rfl) ?_
                cases hc9 : F172 n (Int32.toInt64 l2) 0 1 z5.2 with
                | none => rw [hc9] at hf; cases hf
                | some z8 =>
                  rw [hc9, Option.bind_some] at hf
                  refine F172c (r0 := z8.1) (S0 := z8.2) hh hc9 ?_
                  by_cases hb10 : am_if .ne z8.1 = true
                  · rw [if_pos hb10] at hf
                    refine r_if_t (t := 34) fe_245_29 (by decide) hb10 ?_
                    refine r_iconst (v := 0) fe_245_34 (by decide) ?_
                    refine r_istore_n fe_245_35 (Nat.le_of_ble_eq_true rfl) rfl ?_
                    refine r_iconst (v := 0) fe_245_36 (by decide) ?_
                    refine r_istore fe_245_37 (Nat.le_of_ble_eq_true rfl) rfl ?_
                    refine go_weak (L0 := [.ref 130, .int l1, .int l2, .int 0, .int 0, .float 0]) (lwk_c (Or.inl rfl) (lwk_c (Or.inl rfl) (lwk_c (Or.inl rfl) (lwk_c (Or.inl rfl) (lwk_c (Or.inl rfl) (lwk_c (Or.inl rfl) (lwk_rf []))))))) ?_
                    exact ih.2.1 l1 l2 0 0 0 z8.2 hf
                  · rw [if_neg hb10] at hf
                    refine r_if_f (t := 34) fe_245_29 (by decide) (Bool.eq_false_iff.mpr hb10) ?_
                    refine r_iconst (v := -1) fe_245_32 (by decide) ?_
                    refine r_iret fe_245_33 ⟨rfl, by decide⟩ ?_
                    exact dfin (P := fun r T => Q (some (.int r)) (mst T h)) hf hQ
    · intro l1 l2 l3 l4 l5 S hf
      rw [F245e39] at hf
      unfold F245b39 at hf
      refine r_iload fe_245_39 rfl ?_
      refine r_aload_n fe_245_41 rfl ?_
      refine mr_getf hh fe_245_42 lf_12_9 rfl ?_
      refine r_iconst (v := 0) fe_245_45 (by decide) ?_
      refine r_iald (j := 0) (v := S.2.1 1 0) fe_245_46 m_c_1 (m_lt hh (by decide)) (by decide) (by decide) (by decide) rfl ?_
      by_cases hb11 : am_ic .ge l4 (S.2.1 1 0) = true
      · rw [if_pos hb11] at hf
        refine r_ic_t (t := 77) fe_245_47 (by decide) hb11 ?_
        refine r_aload_n fe_245_77 rfl ?_
        refine r_callV (as := []) (r := []) fe_245_78 lm_12_488 md_239 rfl rfl (Nat.le_of_ble_eq_true rfl) m_c_0 (m_lt hh (by decide)) (Nat.le_of_ble_eq_true rfl) (Nat.le_of_ble_eq_true rfl) ?_
        cases hc13 : F239 n  S with
        | none => rw [hc13] at hf; cases hf
        | some z12 =>
          rw [hc13, Option.bind_some] at hf
          refine F239c (r0 := z12.1) (S0 := z12.2) hh hc13 ?_
          refine r_iconst (v := 0) fe_245_81 (by decide) ?_
          refine r_istore fe_245_82 (Nat.le_of_ble_eq_true rfl) rfl ?_
          refine go_weak (L0 := [.ref 130, .int l1, .int l2, .int l3, .int 0, .float 0]) (lwk_c (Or.inl rfl) (lwk_c (Or.inl rfl) (lwk_c (Or.inl rfl) (lwk_c (Or.inl rfl) (lwk_c (Or.inl rfl) (lwk_c (Or.inl rfl) (lwk_rf []))))))) ?_
          exact ih.2.2.1 l1 l2 l3 0 0 z12.2 hf
      · rw [if_neg hb11] at hf
        refine r_ic_f (t := 77) fe_245_47 (by decide) (Bool.eq_false_iff.mpr hb11) ?_
        refine r_iload_n fe_245_50 rfl ?_
        refine r_aload_n fe_245_51 rfl ?_
        refine r_iload fe_245_52 rfl ?_
        refine r_callV (as := [.int l4]) (r := [.int l3]) fe_245_54 lm_12_390 md_200 rfl rfl (Nat.le_of_ble_eq_true rfl) m_c_0 (m_lt hh (by decide)) (Nat.le_of_ble_eq_true rfl) (Nat.le_of_ble_eq_true rfl) ?_
        cases hc15 : F200 n l4 S with
        | none => rw [hc15] at hf; cases hf
        | some z14 =>
          rw [hc15, Option.bind_some] at hf
          refine F200c (r0 := z14.1) (S0 := z14.2) hh hc15 ?_
          refine r_iconst (v := -1) fe_245_57 (by decide) ?_
          by_cases hb16 : am_ic .ne z14.1 (-1) = true
          · rw [if_pos hb16] at hf
            refine r_ic_t (t := 68) fe_245_58 (by decide) hb16 ?_
            refine r_iconst (v := 0) fe_245_68 (by decide) ?_
            refine r_ior (v := (l3 ||| 0)) fe_245_69 rfl ?_
            refine r_istore_n fe_245_70 (Nat.le_of_ble_eq_true rfl) rfl ?_
            refine r_iinc (v := (l4 + 1)) fe_245_71 rfl rfl rfl ?_
            refine r_goto (t := 39) fe_245_74 (by decide) ?_
            refine go_weak (L0 := [.ref 130, .int l1, .int l2, .int (l3 ||| 0), .int (l4 + 1), .float 0]) (lwk_c (Or.inl rfl) (lwk_c (Or.inl rfl) (lwk_c (Or.inl rfl) (lwk_c (Or.inl rfl) (lwk_c (Or.inl rfl) (lwk_c (Or.inl rfl) (lwk_rf []))))))) ?_
            exact ih.2.1 l1 l2 (l3 ||| 0) (l4 + 1) 0 z14.2 hf
          · rw [if_neg hb16] at hf
            refine r_ic_f (t := 68) fe_245_58 (by decide) (Bool.eq_false_iff.mpr hb16) ?_
            refine r_iconst (v := 1) fe_245_61 (by decide) ?_
            refine r_iload fe_245_62 rfl ?_
            refine r_ishl (v := (1 <<< (l4 &&& 31))) fe_245_64 rfl ?_
            refine r_goto (t := 69) fe_245_65 (by decide) ?_
            refine r_ior (v := (l3 ||| (1 <<< (l4 &&& 31)))) fe_245_69 rfl ?_
            refine r_istore_n fe_245_70 (Nat.le_of_ble_eq_true rfl) rfl ?_
            refine r_iinc (v := (l4 + 1)) fe_245_71 rfl rfl rfl ?_
            refine r_goto (t := 39) fe_245_74 (by decide) ?_
            refine go_weak (L0 := [.ref 130, .int l1, .int l2, .int (l3 ||| (1 <<< (l4 &&& 31))), .int (l4 + 1), .float 0]) (lwk_c (Or.inl rfl) (lwk_c (Or.inl rfl) (lwk_c (Or.inl rfl) (lwk_c (Or.inl rfl) (lwk_c (Or.inl rfl) (lwk_c (Or.inl rfl) (lwk_rf []))))))) ?_
            exact ih.2.1 l1 l2 (l3 ||| (1 <<< (l4 &&& 31))) (l4 + 1) 0 z14.2 hf
    · intro l1 l2 l3 l4 l5 S hf
      rw [F245e84] at hf
      unfold F245b84 at hf
      refine r_iload fe_245_84 rfl ?_
      refine r_iconst (v := 4) fe_245_86 (by decide) ?_
      by_cases hb17 : am_ic .ge l4 4 = true
      · rw [if_pos hb17] at hf
        refine r_ic_t (t := 152) fe_245_87 (by decide) hb17 ?_
        refine r_bipush (v := -2) fe_245_152 (by decide) ?_
        refine r_iret fe_245_154 ⟨rfl, by decide⟩ ?_
        exact dfin (P := fun r T => Q (some (.int r)) (mst T h)) hf hQ
      · rw [if_neg hb17] at hf
        refine r_ic_f (t := 152) fe_245_87 (by decide) (Bool.eq_false_iff.mpr hb17) ?_
        refine r_iconst (v := 0) fe_245_90 (by decide) ?_
        refine r_istore fe_245_91 (Nat.le_of_ble_eq_true rfl) rfl ?_
        refine go_weak (L0 := [.ref 130, .int l1, .int l2, .int l3, .int l4, .int 0]) (lwk_c (Or.inl rfl) (lwk_c (Or.inl rfl) (lwk_c (Or.inl rfl) (lwk_c (Or.inl rfl) (lwk_c (Or.inl rfl) (lwk_c (Or.inl rfl) (lwk_rf []))))))) ?_
        exact ih.2.2.2 l1 l2 l3 l4 0 S hf
    · intro l1 l2 l3 l4 l5 S hf
      rw [F245e93] at hf
      unfold F245b93 at hf
      refine r_iload fe_245_93 rfl ?_
      refine r_iload_n fe_245_95 rfl ?_
      by_cases hb18 : am_ic .gt l5 l3 = true
      · rw [if_pos hb18] at hf
        refine r_ic_t (t := 146) fe_245_96 (by decide) hb18 ?_
        refine r_iinc (v := (l4 + 1)) fe_245_146 rfl rfl rfl ?_
        refine r_goto (t := 84) fe_245_149 (by decide) ?_
        refine go_weak (L0 := [.ref 130, .int l1, .int l2, .int l3, .int (l4 + 1), .float 0]) (lwk_c (Or.inl rfl) (lwk_c (Or.inl rfl) (lwk_c (Or.inl rfl) (lwk_c (Or.inl rfl) (lwk_c (Or.inl rfl) (lwk_c (Or.inr rfl) (lwk_rf []))))))) ?_
        exact ih.2.2.1 l1 l2 l3 (l4 + 1) 0 S hf
      · rw [if_neg hb18] at hf
        refine r_ic_f (t := 146) fe_245_96 (by decide) (Bool.eq_false_iff.mpr hb18) ?_
        refine r_iload fe_245_99 rfl ?_
        refine r_iload_n fe_245_101 rfl ?_
        refine r_iconst (v := -1) fe_245_102 (by decide) ?_
        refine r_ixor (v := (l3 ^^^ (-1))) fe_245_103 rfl ?_
        refine r_iand (v := (l5 &&& (l3 ^^^ (-1)))) fe_245_104 rfl ?_
        by_cases hb19 : am_if .ne (l5 &&& (l3 ^^^ (-1))) = true
        · rw [if_pos hb19] at hf
          refine r_if_t (t := 140) fe_245_105 (by decide) hb19 ?_
          refine r_iinc (v := (l5 + 1)) fe_245_140 rfl rfl rfl ?_
          refine r_goto (t := 93) fe_245_143 (by decide) ?_
          refine go_weak (L0 := [.ref 130, .int l1, .int l2, .int l3, .int l4, .int (l5 + 1)]) (lwk_c (Or.inl rfl) (lwk_c (Or.inl rfl) (lwk_c (Or.inl rfl) (lwk_c (Or.inl rfl) (lwk_c (Or.inl rfl) (lwk_c (Or.inl rfl) (lwk_rf []))))))) ?_
          exact ih.2.2.2 l1 l2 l3 l4 (l5 + 1) S hf
        · rw [if_neg hb19] at hf
          refine r_if_f (t := 140) fe_245_105 (by decide) (Bool.eq_false_iff.mpr hb19) ?_
          refine r_iload fe_245_108 rfl ?_
          refine r_callS (as := [.int l5]) (r := []) fe_245_110 lm_12_415 md_223 rfl rfl (Nat.le_of_ble_eq_true rfl) (Nat.le_of_ble_eq_true rfl) (Nat.le_of_ble_eq_true rfl) ?_
          cases hc21 : F223 n l5 S with
          | none => rw [hc21] at hf; cases hf
          | some z20 =>
            rw [hc21, Option.bind_some] at hf
            refine F223c (r0 := z20.1) (S0 := z20.2) hh hc21 ?_
            refine r_iload fe_245_113 rfl ?_
            by_cases hb22 : am_ic .ne z20.1 l4 = true
            · rw [if_pos hb22] at hf
              refine r_ic_t (t := 140) fe_245_115 (by decide) hb22 ?_
              refine r_iinc (v := (l5 + 1)) fe_245_140 rfl rfl rfl ?_
              refine r_goto (t := 93) fe_245_143 (by decide) ?_
              refine go_weak (L0 := [.ref 130, .int l1, .int l2, .int l3, .int l4, .int (l5 + 1)]) (lwk_c (Or.inl rfl) (lwk_c (Or.inl rfl) (lwk_c (Or.inl rfl) (lwk_c (Or.inl rfl) (lwk_c (Or.inl rfl) (lwk_c (Or.inl rfl) (lwk_rf []))))))) ?_
              exact ih.2.2.2 l1 l2 l3 l4 (l5 + 1) z20.2 hf
            · rw [if_neg hb22] at hf
              refine r_ic_f (t := 140) fe_245_115 (by decide) (Bool.eq_false_iff.mpr hb22) ?_
              refine r_aload_n fe_245_118 rfl ?_
              refine r_iload_n fe_245_119 rfl ?_
              refine r_iload fe_245_120 rfl ?_
              refine r_callV (as := [.int l1, .int l5]) (r := []) fe_245_122 lm_12_500 md_246 rfl rfl (Nat.le_of_ble_eq_true rfl) m_c_0 (m_lt hh (by decide)) (Nat.le_of_ble_eq_true rfl) (Nat.le_of_ble_eq_true rfl) ?_
              cases hc24 : F246 n l1 l5 z20.2 with
              | none => rw [hc24] at hf; cases hf
              | some z23 =>
                rw [hc24, Option.bind_some] at hf
                refine F246c (r0 := z23.1) (S0 := z23.2) hh hc24 ?_
                by_cases hb25 : am_if .eq z23.1 = true
                · rw [if_pos hb25] at hf
                  refine r_if_t (t := 140) fe_245_125 (by decide) hb25 ?_
                  refine r_iinc (v := (l5 + 1)) fe_245_140 rfl rfl rfl ?_
                  refine r_goto (t := 93) fe_245_143 (by decide) ?_
                  refine go_weak (L0 := [.ref 130, .int l1, .int l2, .int l3, .int l4, .int (l5 + 1)]) (lwk_c (Or.inl rfl) (lwk_c (Or.inl rfl) (lwk_c (Or.inl rfl) (lwk_c (Or.inl rfl) (lwk_c (Or.inl rfl) (lwk_c (Or.inl rfl) (lwk_rf []))))))) ?_
                  exact ih.2.2.2 l1 l2 l3 l4 (l5 + 1) z23.2 hf
                · rw [if_neg hb25] at hf
                  refine r_if_f (t := 140) fe_245_125 (by decide) (Bool.eq_false_iff.mpr hb25) ?_
                  refine r_iload_n fe_245_128 rfl ?_
                  by_cases hb26 : am_if .ne l2 = true
                  · rw [if_pos hb26] at hf
                    refine r_if_t (t := 137) fe_245_129 (by decide) hb26 ?_
                    refine r_iload fe_245_137 rfl ?_
                    refine r_iret fe_245_139 ⟨rfl, by decide⟩ ?_
                    exact dfin (P := fun r T => Q (some (.int r)) (mst T h)) hf hQ
                  · rw [if_neg hb26] at hf
                    refine r_if_f (t := 137) fe_245_129 (by decide) (Bool.eq_false_iff.mpr hb26) ?_
                    refine r_iload fe_245_132 rfl ?_
                    refine r_goto (t := 139) fe_245_134 (by decide) ?_
                    refine r_iret fe_245_139 ⟨rfl, by decide⟩ ?_
                    exact dfin (P := fun r T => Q (some (.int r)) (mst T h)) hf hQ
theorem F245c {xs : Nat → Int32} {L9 d n : Nat} {h : AmH} {Q : Option Value → AmH → Prop} {r0 : Int32} {S0 S : mS} {l1 : Int32} {l2 : Int32} (hh : 172 ≤ h.2.1) (hf : F245 n l1 l2 S = some (r0, S0)) (hQ : Q (some (.int r0)) (mst S0 h)) : Ca (am_X xs L9) (d + 9) 245 [.ref 130, .int l1, .int l2] (mst S h) Q := (F245l hh hQ n).1 l1 l2 0 0 0 S hf
def F248b0 (F : Nat → Int32 → Int32 → Int32 → Int32 → Int32 → Int32 → Int32 → mS → Option (Int32 × mS)) (n : Nat) (l1 : Int32) (l2 : Int32) (l3 : Int32) (l4 : Int32) (l5 : Int32) (l6 : Int32) (l7 : Int32) (S : mS) : Option (Int32 × mS) := ((F231 n l1 S).bind (fun z1 => (if am_if .eq z1.1 = true then some ((-1), z1.2) else ((F196 n l2 z1.2).bind (fun z4 => (if am_if .eq z4.1 = true then some ((-1), z4.2) else ((F172 n (Int32.toInt64 l3) 1 60 z4.2).bind (fun z7 => (if am_if .eq z7.1 = true then some ((-1), z7.2) else ((F172 n (Int32.toInt64 l4) 0 1 z7.2).bind (fun z10 => (if am_if .ne z10.1 = true then ((F239 n  z10.2).bind (fun z13 => F 54 l1 l2 l3 l4 0 (-2) 0 z13.2)) else some ((-1), z10.2)))))))))))))
def F248b54 (F : Nat → Int32 → Int32 → Int32 → Int32 → Int32 → Int32 → Int32 → mS → Option (Int32 × mS)) (n : Nat) (l1 : Int32) (l2 : Int32) (l3 : Int32) (l4 : Int32) (l5 : Int32) (l6 : Int32) (l7 : Int32) (S : mS) : Option (Int32 × mS) := (if am_ic .ge l7 (S.2.1 1 0) = true then (if am_if .ne l4 = true then some (l6, S) else some (l5, S)) else ((F232 n l7 l1 0 S).bind (fun z17 => ((F242 n l3 z17.2).bind (fun z19 => ((F202 n z17.1 z19.2).bind (fun z21 => (if am_if .eq z21.1 = true then ((F243 n  z21.2).bind (fun z24 => F 54 l1 l2 l3 l4 (l5 + 0) l6 (l7 + 1) z24.2)) else (if ¬ (z17.1 < 0 ∨ 13 ≤ (z17.1).toNatClampNeg) then (if am_ic .ne (z21.2.2.1 10 (Int32.toNatClampNeg z17.1)) l2 = true then ((F243 n  z21.2).bind (fun z28 => F 54 l1 l2 l3 l4 (l5 + 0) l6 (l7 + 1) z28.2)) else ((F243 n  z21.2).bind (fun z30 => (if am_if .ne l5 = true then F 54 l1 l2 l3 l4 (l5 + 1) l6 (l7 + 1) z30.2 else F 54 l1 l2 l3 l4 (l5 + 1) l7 (l7 + 1) z30.2)))) else none)))))))))
def F248f : Nat → Nat → Int32 → Int32 → Int32 → Int32 → Int32 → Int32 → Int32 → mS → Option (Int32 × mS)
  | 0, _, _, _, _, _, _, _, _, _ => none
  | n + 1, c, l1, l2, l3, l4, l5, l6, l7, S => if c = 0 then F248b0 (F248f n) n l1 l2 l3 l4 l5 l6 l7 S else F248b54 (F248f n) n l1 l2 l3 l4 l5 l6 l7 S
theorem F248e0 (n : Nat) (l1 : Int32) (l2 : Int32) (l3 : Int32) (l4 : Int32) (l5 : Int32) (l6 : Int32) (l7 : Int32) (S : mS) : F248f (n + 1) 0 l1 l2 l3 l4 l5 l6 l7 S = F248b0 (F248f n) n l1 l2 l3 l4 l5 l6 l7 S := if_pos rfl
theorem F248e54 (n : Nat) (l1 : Int32) (l2 : Int32) (l3 : Int32) (l4 : Int32) (l5 : Int32) (l6 : Int32) (l7 : Int32) (S : mS) : F248f (n + 1) 54 l1 l2 l3 l4 l5 l6 l7 S = F248b54 (F248f n) n l1 l2 l3 l4 l5 l6 l7 S := if_neg (by decide)
def F248 (n : Nat) (l1 : Int32) (l2 : Int32) (l3 : Int32) (l4 : Int32) (S : mS) : Option (Int32 × mS) := F248f n 0 l1 l2 l3 l4 0 0 0 S
set_option maxRecDepth 20000 in
set_option maxHeartbeats 2000000 in
theorem F248l {xs : Nat → Int32} {L9 d : Nat} {h : AmH} {Q : Option Value → AmH → Prop} {r0 : Int32} {S0 : mS} (hh : 172 ≤ h.2.1) (hQ : Q (some (.int r0)) (mst S0 h)) : ∀ n : Nat, (∀ (l1 : Int32) (l2 : Int32) (l3 : Int32) (l4 : Int32) (l5 : Int32) (l6 : Int32) (l7 : Int32) (S : mS), F248f n 0 l1 l2 l3 l4 l5 l6 l7 S = some (r0, S0) → Go (am_X xs L9) (d + 8) 248 0 [.ref 130, .int l1, .int l2, .int l3, .int l4, .float 0, .float 0, .float 0, .float 0, .float 0] [] (mst S h) Q) ∧ (∀ (l1 : Int32) (l2 : Int32) (l3 : Int32) (l4 : Int32) (l5 : Int32) (l6 : Int32) (l7 : Int32) (S : mS), F248f n 54 l1 l2 l3 l4 l5 l6 l7 S = some (r0, S0) → Go (am_X xs L9) (d + 8) 248 54 [.ref 130, .int l1, .int l2, .int l3, .int l4, .int l5, .int l6, .int l7, .float 0, .float 0] [] (mst S h) Q) := by
  intro n
  induction n with
  | zero => exact ⟨fun l1 l2 l3 l4 l5 l6 l7 S hf => (by cases hf), fun l1 l2 l3 l4 l5 l6 l7 S hf => (by cases hf)⟩
  | succ n ih =>
    refine ⟨?_, ?_⟩
    · intro l1 l2 l3 l4 l5 l6 l7 S hf
      rw [F248e0] at hf
      unfold F248b0 at hf
      refine r_iload_n fe_248_0 rfl ?_
      refine r_callS (as := [.int l1]) (r := []) fe_248_1 lm_12_466 md_231 rfl rfl (Nat.le_of_ble_eq_true rfl) (Nat.le_of_ble_eq_true rfl) (Nat.le_of_ble_eq_true rfl) ?_
      cases hc2 : F231 n l1 S with
      | none => rw [hc2] at hf; cases hf
      | some z1 =>
        rw [hc2, Option.bind_some] at hf
        refine F231c (r0 := z1.1) (S0 := z1.2) hh hc2 ?_
        by_cases hb3 : am_if .eq z1.1 = true
        · rw [if_pos hb3] at hf
          refine r_if_t (t := 38) fe_248_4 (by decide) hb3 ?_
          refine r_iconst (v := -1) fe_248_38 (by decide) ?_
          refine r_iret fe_248_39 ⟨rfl, by decide⟩ ?_
          exact dfin (P := fun r T => Q (some (.int r)) (mst T h)) hf hQ
        · rw [if_neg hb3] at hf
          refine r_if_f (t := 38) fe_248_4 (by decide) (Bool.eq_false_iff.mpr hb3) ?_
          refine r_aload_n fe_248_7 rfl ?_
          refine r_iload_n fe_248_8 rfl ?_
          refine r_callV (as := [.int l2]) (r := []) fe_248_9 lm_12_378 md_196 rfl rfl (Nat.le_of_ble_eq_true rfl) m_c_0 (m_lt hh (by decide)) (Nat.le_of_ble_eq_true rfl) (Nat.le_of_ble_eq_true rfl) ?_
          cases hc5 : F196 n l2 z1.2 with
          | none => rw [hc5] at hf; cases hf
          | some z4 =>
            rw [hc5, Option.bind_some] at hf
            refine F196c (r0 := z4.1) (S0 := z4.2) hh hc5 ?_
            by_cases hb6 : am_if .eq z4.1 = true
            · rw [if_pos hb6] at hf
              refine r_if_t (t := 38) fe_248_12 (by decide) hb6 ?_
              refine r_iconst (v := -1) fe_248_38 (by decide) ?_
              refine r_iret fe_248_39 ⟨rfl, by decide⟩ ?_
              exact dfin (P := fun r T => Q (some (.int r)) (mst T h)) hf hQ
            · rw [if_neg hb6] at hf
              refine r_if_f (t := 38) fe_248_12 (by decide) (Bool.eq_false_iff.mpr hb6) ?_
              refine r_iload_n fe_248_15 rfl ?_
              refine r_i2l (v := (Int32.toInt64 l3)) fe_248_16 rfl ?_
              refine r_lconst (v := 1) fe_248_17 (by decide) ?_
              refine r_ldc2 fe_248_18 lk_12_484 ?_
              refine r_callS (as := [.long (Int32.toInt64 l3), .long 1, .long 60]) (r := []) fe_248_21 lm_12_143 md_172 rfl rfl (Nat.le_of_ble_eq_true rfl) (Nat.le_of_ble_eq_true rfl) (Nat.le_of_ble_eq_true rfl) ?_
              cases hc8 : F172 n (Int32.toInt64 l3) 1 60 z4.2 with
              | none => rw [hc8] at hf; cases hf
              | some z7 =>
                rw [hc8, Option.bind_some] at hf
                refine F172c (r0 := z7.1) (S0 := z7.2) hh hc8 ?_
                by_cases hb9 : am_if .eq z7.1 = true
                · rw [if_pos hb9] at hf
                  refine r_if_t (t := 38) fe_248_24 (by decide) hb9 ?_
                  refine r_iconst (v := -1) fe_248_38 (by decide) ?_
                  refine r_iret fe_248_39 ⟨rfl, by decide⟩ ?_
                  exact dfin (P := fun r T => Q (some (.int r)) (mst T h)) hf hQ
                · rw [if_neg hb9] at hf
                  refine r_if_f (t := 38) fe_248_24 (by decide) (Bool.eq_false_iff.mpr hb9) ?_
                  refine r_iload fe_248_27 rfl ?_
                  refine r_i2l (v := (Int32.toInt64 l4)) fe_248_29 rfl ?_
                  refine r_lconst (v := 0) fe_248_30 (by decide) ?_
                  refine r_lconst (v := 1) fe_248_31 (by decide) ?_
                  refine r_callS (as := [.long (Int32.toInt64 l4), .long 0, .long 1]) (r := []) fe_248_32 lm_12_143 md_172 rfl rfl (Nat.le_of_ble_eq_true rfl) (Nat.le_of_ble_eq_true rfl) (Nat.le_of_ble_eq_true rfl) ?_
                  cases hc11 : F172 n (Int32.toInt64 l4) 0 1 z7.2 with
                  | none => rw [hc11] at hf; cases hf
                  | some z10 =>
                    rw [hc11, Option.bind_some] at hf
                    refine F172c (r0 := z10.1) (S0 := z10.2) hh hc11 ?_
                    by_cases hb12 : am_if .ne z10.1 = true
                    · rw [if_pos hb12] at hf
                      refine r_if_t (t := 40) fe_248_35 (by decide) hb12 ?_
                      refine r_iconst (v := 0) fe_248_40 (by decide) ?_
                      refine r_istore fe_248_41 (Nat.le_of_ble_eq_true rfl) rfl ?_
                      refine r_bipush (v := -2) fe_248_43 (by decide) ?_
                      refine r_istore fe_248_45 (Nat.le_of_ble_eq_true rfl) rfl ?_
                      refine r_aload_n fe_248_47 rfl ?_
                      refine r_callV (as := []) (r := []) fe_248_48 lm_12_488 md_239 rfl rfl (Nat.le_of_ble_eq_true rfl) m_c_0 (m_lt hh (by decide)) (Nat.le_of_ble_eq_true rfl) (Nat.le_of_ble_eq_true rfl) ?_
                      cases hc14 : F239 n  z10.2 with
                      | none => rw [hc14] at hf; cases hf
                      | some z13 =>
                        rw [hc14, Option.bind_some] at hf
                        refine F239c (r0 := z13.1) (S0 := z13.2) hh hc14 ?_
                        refine r_iconst (v := 0) fe_248_51 (by decide) ?_
                        refine r_istore fe_248_52 (Nat.le_of_ble_eq_true rfl) rfl ?_
                        refine go_weak (L0 := [.ref 130, .int l1, .int l2, .int l3, .int l4, .int 0, .int (-2), .int 0, .float 0, .float 0]) (lwk_c (Or.inl rfl) (lwk_c (Or.inl rfl) (lwk_c (Or.inl rfl) (lwk_c (Or.inl rfl) (lwk_c (Or.inl rfl) (lwk_c (Or.inl rfl) (lwk_c (Or.inl rfl) (lwk_c (Or.inl rfl) (lwk_c (Or.inl rfl) (lwk_c (Or.inl rfl) (lwk_rf []))))))))))) ?_
                        exact ih.2 l1 l2 l3 l4 0 (-2) 0 z13.2 hf
                    · rw [if_neg hb12] at hf
                      refine r_if_f (t := 40) fe_248_35 (by decide) (Bool.eq_false_iff.mpr hb12) ?_
                      refine r_iconst (v := -1) fe_248_38 (by decide) ?_
                      refine r_iret fe_248_39 ⟨rfl, by decide⟩ ?_
                      exact dfin (P := fun r T => Q (some (.int r)) (mst T h)) hf hQ
    · intro l1 l2 l3 l4 l5 l6 l7 S hf
      rw [F248e54] at hf
      unfold F248b54 at hf
      refine r_iload fe_248_54 rfl ?_
      refine r_aload_n fe_248_56 rfl ?_
      refine mr_getf hh fe_248_57 lf_12_9 rfl ?_
      refine r_iconst (v := 0) fe_248_60 (by decide) ?_
      refine r_iald (j := 0) (v := S.2.1 1 0) fe_248_61 m_c_1 (m_lt hh (by decide)) (by decide) (by decide) (by decide) rfl ?_
      by_cases hb15 : am_ic .ge l7 (S.2.1 1 0) = true
      · rw [if_pos hb15] at hf
        refine r_ic_t (t := 151) fe_248_62 (by decide) hb15 ?_
        refine r_iload fe_248_151 rfl ?_
        by_cases hb16 : am_if .ne l4 = true
        · rw [if_pos hb16] at hf
          refine r_if_t (t := 161) fe_248_153 (by decide) hb16 ?_
          refine r_iload fe_248_161 rfl ?_
          refine r_iret fe_248_163 ⟨rfl, by decide⟩ ?_
          exact dfin (P := fun r T => Q (some (.int r)) (mst T h)) hf hQ
        · rw [if_neg hb16] at hf
          refine r_if_f (t := 161) fe_248_153 (by decide) (Bool.eq_false_iff.mpr hb16) ?_
          refine r_iload fe_248_156 rfl ?_
          refine r_goto (t := 163) fe_248_158 (by decide) ?_
          refine r_iret fe_248_163 ⟨rfl, by decide⟩ ?_
          exact dfin (P := fun r T => Q (some (.int r)) (mst T h)) hf hQ
      · rw [if_neg hb15] at hf
        refine r_ic_f (t := 151) fe_248_62 (by decide) (Bool.eq_false_iff.mpr hb15) ?_
        refine r_aload_n fe_248_65 rfl ?_
        refine r_iload fe_248_66 rfl ?_
        refine r_iload_n fe_248_68 rfl ?_
        refine r_iconst (v := 0) fe_248_69 (by decide) ?_
        refine r_callV (as := [.int l7, .int l1, .int 0]) (r := []) fe_248_70 lm_12_469 md_232 rfl rfl (Nat.le_of_ble_eq_true rfl) m_c_0 (m_lt hh (by decide)) (Nat.le_of_ble_eq_true rfl) (Nat.le_of_ble_eq_true rfl) ?_
        cases hc18 : F232 n l7 l1 0 S with
        | none => rw [hc18] at hf; cases hf
        | some z17 =>
          rw [hc18, Option.bind_some] at hf
          refine F232c (r0 := z17.1) (S0 := z17.2) hh hc18 ?_
          refine r_istore fe_248_73 (Nat.le_of_ble_eq_true rfl) rfl ?_
          refine r_aload_n fe_248_75 rfl ?_
          refine r_iload_n fe_248_76 rfl ?_
          refine r_callV (as := [.int l3]) (r := []) fe_248_77 lm_12_491 md_242 rfl rfl (Nat.le_of_ble_eq_true rfl) m_c_0 (m_lt hh (by decide)) (Nat.le_of_ble_eq_true rfl) (Nat.le_of_ble_eq_true rfl) ?_
          cases hc20 : F242 n l3 z17.2 with
          | none => rw [hc20] at hf; cases hf
          | some z19 =>
            rw [hc20, Option.bind_some] at hf
            refine F242c (r0 := z19.1) (S0 := z19.2) hh hc20 ?_
            refine r_aload_n fe_248_80 rfl ?_
            refine r_iload fe_248_81 rfl ?_
            refine r_callV (as := [.int z17.1]) (r := []) fe_248_83 lm_12_374 md_202 rfl rfl (Nat.le_of_ble_eq_true rfl) m_c_0 (m_lt hh (by decide)) (Nat.le_of_ble_eq_true rfl) (Nat.le_of_ble_eq_true rfl) ?_
            cases hc22 : F202 n z17.1 z19.2 with
            | none => rw [hc22] at hf; cases hf
            | some z21 =>
              rw [hc22, Option.bind_some] at hf
              refine F202c (r0 := z21.1) (S0 := z21.2) hh hc22 ?_
              by_cases hb23 : am_if .eq z21.1 = true
              · rw [if_pos hb23] at hf
                refine r_if_t (t := 104) fe_248_86 (by decide) hb23 ?_
                refine r_iconst (v := 0) fe_248_104 (by decide) ?_
                refine r_istore fe_248_105 (Nat.le_of_ble_eq_true rfl) rfl ?_
                refine r_aload_n fe_248_107 rfl ?_
                refine r_callV (as := []) (r := []) fe_248_108 lm_12_494 md_243 rfl rfl (Nat.le_of_ble_eq_true rfl) m_c_0 (m_lt hh (by decide)) (Nat.le_of_ble_eq_true rfl) (Nat.le_of_ble_eq_true rfl) ?_
                cases hc25 : F243 n  z21.2 with
                | none => rw [hc25] at hf; cases hf
                | some z24 =>
                  rw [hc25, Option.bind_some] at hf
                  refine F243c (r0 := z24.1) (S0 := z24.2) hh hc25 ?_
                  refine r_iload fe_248_111 rfl ?_
                  refine r_if_t (t := 126) fe_248_113 (by decide) (by decide) ?_
                  refine r_iload fe_248_126 rfl ?_
                  refine r_istore fe_248_128 (Nat.le_of_ble_eq_true rfl) rfl ?_
                  refine r_iload fe_248_130 rfl ?_
                  refine r_iload fe_248_132 rfl ?_
                  refine r_if_t (t := 141) fe_248_134 (by decide) (by decide) ?_
                  refine r_iconst (v := 0) fe_248_141 (by decide) ?_
                  refine r_iadd (v := (l5 + 0)) fe_248_142 rfl ?_
                  refine r_istore fe_248_143 (Nat.le_of_ble_eq_true rfl) rfl ?_
                  refine r_iinc (v := (l7 + 1)) fe_248_145 rfl rfl rfl ?_
                  refine r_goto (t := 54) fe_248_148 (by decide) ?_
                  refine go_weak (L0 := [.ref 130, .int l1, .int l2, .int l3, .int l4, .int (l5 + 0), .int l6, .int (l7 + 1), .float 0, .float 0]) (lwk_c (Or.inl rfl) (lwk_c (Or.inl rfl) (lwk_c (Or.inl rfl) (lwk_c (Or.inl rfl) (lwk_c (Or.inl rfl) (lwk_c (Or.inl rfl) (lwk_c (Or.inl rfl) (lwk_c (Or.inl rfl) (lwk_c (Or.inr rfl) (lwk_c (Or.inr rfl) (lwk_rf []))))))))))) ?_
                  exact ih.2 l1 l2 l3 l4 (l5 + 0) l6 (l7 + 1) z24.2 hf
              · rw [if_neg hb23] at hf
                refine r_if_f (t := 104) fe_248_86 (by decide) (Bool.eq_false_iff.mpr hb23) ?_
                refine r_aload_n fe_248_89 rfl ?_
                refine mr_getf hh fe_248_90 lf_12_37 rfl ?_
                refine r_iload fe_248_93 rfl ?_
                by_cases hg26 : ¬ (z17.1 < 0 ∨ 13 ≤ (z17.1).toNatClampNeg)
                rotate_left
                · rw [if_neg hg26] at hf; cases hf
                rw [if_pos hg26] at hf
                refine r_iald (j := (Int32.toNatClampNeg z17.1)) (v := z21.2.2.1 10 (Int32.toNatClampNeg z17.1)) fe_248_95 m_c_10 (m_lt hh (by decide)) (fun z => hg26 (Or.inl z)) rfl (fun z => hg26 (Or.inr z)) rfl ?_
                refine r_iload_n fe_248_96 rfl ?_
                by_cases hb27 : am_ic .ne (z21.2.2.1 10 (Int32.toNatClampNeg z17.1)) l2 = true
                · rw [if_pos hb27] at hf
                  refine r_ic_t (t := 104) fe_248_97 (by decide) hb27 ?_
                  refine r_iconst (v := 0) fe_248_104 (by decide) ?_
                  refine r_istore fe_248_105 (Nat.le_of_ble_eq_true rfl) rfl ?_
                  refine r_aload_n fe_248_107 rfl ?_
                  refine r_callV (as := []) (r := []) fe_248_108 lm_12_494 md_243 rfl rfl (Nat.le_of_ble_eq_true rfl) m_c_0 (m_lt hh (by decide)) (Nat.le_of_ble_eq_true rfl) (Nat.le_of_ble_eq_true rfl) ?_
                  cases hc29 : F243 n  z21.2 with
                  | none => rw [hc29] at hf; cases hf
                  | some z28 =>
                    rw [hc29, Option.bind_some] at hf
                    refine F243c (r0 := z28.1) (S0 := z28.2) hh hc29 ?_
                    refine r_iload fe_248_111 rfl ?_
                    refine r_if_t (t := 126) fe_248_113 (by decide) (by decide) ?_
                    refine r_iload fe_248_126 rfl ?_
                    refine r_istore fe_248_128 (Nat.le_of_ble_eq_true rfl) rfl ?_
                    refine r_iload fe_248_130 rfl ?_
                    refine r_iload fe_248_132 rfl ?_
                    refine r_if_t (t := 141) fe_248_134 (by decide) (by decide) ?_
                    refine r_iconst (v := 0) fe_248_141 (by decide) ?_
                    refine r_iadd (v := (l5 + 0)) fe_248_142 rfl ?_
                    refine r_istore fe_248_143 (Nat.le_of_ble_eq_true rfl) rfl ?_
                    refine r_iinc (v := (l7 + 1)) fe_248_145 rfl rfl rfl ?_
                    refine r_goto (t := 54) fe_248_148 (by decide) ?_
                    refine go_weak (L0 := [.ref 130, .int l1, .int l2, .int l3, .int l4, .int (l5 + 0), .int l6, .int (l7 + 1), .float 0, .float 0]) (lwk_c (Or.inl rfl) (lwk_c (Or.inl rfl) (lwk_c (Or.inl rfl) (lwk_c (Or.inl rfl) (lwk_c (Or.inl rfl) (lwk_c (Or.inl rfl) (lwk_c (Or.inl rfl) (lwk_c (Or.inl rfl) (lwk_c (Or.inr rfl) (lwk_c (Or.inr rfl) (lwk_rf []))))))))))) ?_
                    exact ih.2 l1 l2 l3 l4 (l5 + 0) l6 (l7 + 1) z28.2 hf
                · rw [if_neg hb27] at hf
                  refine r_ic_f (t := 104) fe_248_97 (by decide) (Bool.eq_false_iff.mpr hb27) ?_
                  refine r_iconst (v := 1) fe_248_100 (by decide) ?_
                  refine r_goto (t := 105) fe_248_101 (by decide) ?_
                  refine r_istore fe_248_105 (Nat.le_of_ble_eq_true rfl) rfl ?_
                  refine r_aload_n fe_248_107 rfl ?_
                  refine r_callV (as := []) (r := []) fe_248_108 lm_12_494 md_243 rfl rfl (Nat.le_of_ble_eq_true rfl) m_c_0 (m_lt hh (by decide)) (Nat.le_of_ble_eq_true rfl) (Nat.le_of_ble_eq_true rfl) ?_
                  cases hc31 : F243 n  z21.2 with
                  | none => rw [hc31] at hf; cases hf
                  | some z30 =>
                    rw [hc31, Option.bind_some] at hf
                    refine F243c (r0 := z30.1) (S0 := z30.2) hh hc31 ?_
                    refine r_iload fe_248_111 rfl ?_
                    refine r_if_f (t := 126) fe_248_113 (by decide) (by decide) ?_
                    refine r_iload fe_248_116 rfl ?_
                    by_cases hb32 : am_if .ne l5 = true
                    · rw [if_pos hb32] at hf
                      refine r_if_t (t := 126) fe_248_118 (by decide) hb32 ?_
                      refine r_iload fe_248_126 rfl ?_
                      refine r_istore fe_248_128 (Nat.le_of_ble_eq_true rfl) rfl ?_
                      refine r_iload fe_248_130 rfl ?_
                      refine r_iload fe_248_132 rfl ?_
                      refine r_if_f (t := 141) fe_248_134 (by decide) (by decide) ?_
                      refine r_iconst (v := 1) fe_248_137 (by decide) ?_
                      refine r_goto (t := 142) fe_248_138 (by decide) ?_
                      refine r_iadd (v := (l5 + 1)) fe_248_142 rfl ?_
                      refine r_istore fe_248_143 (Nat.le_of_ble_eq_true rfl) rfl ?_
                      refine r_iinc (v := (l7 + 1)) fe_248_145 rfl rfl rfl ?_
                      refine r_goto (t := 54) fe_248_148 (by decide) ?_
                      refine go_weak (L0 := [.ref 130, .int l1, .int l2, .int l3, .int l4, .int (l5 + 1), .int l6, .int (l7 + 1), .float 0, .float 0]) (lwk_c (Or.inl rfl) (lwk_c (Or.inl rfl) (lwk_c (Or.inl rfl) (lwk_c (Or.inl rfl) (lwk_c (Or.inl rfl) (lwk_c (Or.inl rfl) (lwk_c (Or.inl rfl) (lwk_c (Or.inl rfl) (lwk_c (Or.inr rfl) (lwk_c (Or.inr rfl) (lwk_rf []))))))))))) ?_
                      exact ih.2 l1 l2 l3 l4 (l5 + 1) l6 (l7 + 1) z30.2 hf
                    · rw [if_neg hb32] at hf
                      refine r_if_f (t := 126) fe_248_118 (by decide) (Bool.eq_false_iff.mpr hb32) ?_
                      refine r_iload fe_248_121 rfl ?_
                      refine r_goto (t := 128) fe_248_123 (by decide) ?_
                      refine r_istore fe_248_128 (Nat.le_of_ble_eq_true rfl) rfl ?_
                      refine r_iload fe_248_130 rfl ?_
                      refine r_iload fe_248_132 rfl ?_
                      refine r_if_f (t := 141) fe_248_134 (by decide) (by decide) ?_
                      refine r_iconst (v := 1) fe_248_137 (by decide) ?_
                      refine r_goto (t := 142) fe_248_138 (by decide) ?_
                      refine r_iadd (v := (l5 + 1)) fe_248_142 rfl ?_
                      refine r_istore fe_248_143 (Nat.le_of_ble_eq_true rfl) rfl ?_
                      refine r_iinc (v := (l7 + 1)) fe_248_145 rfl rfl rfl ?_
                      refine r_goto (t := 54) fe_248_148 (by decide) ?_
                      refine go_weak (L0 := [.ref 130, .int l1, .int l2, .int l3, .int l4, .int (l5 + 1), .int l7, .int (l7 + 1), .float 0, .float 0]) (lwk_c (Or.inl rfl) (lwk_c (Or.inl rfl) (lwk_c (Or.inl rfl) (lwk_c (Or.inl rfl) (lwk_c (Or.inl rfl) (lwk_c (Or.inl rfl) (lwk_c (Or.inl rfl) (lwk_c (Or.inl rfl) (lwk_c (Or.inr rfl) (lwk_c (Or.inr rfl) (lwk_rf []))))))))))) ?_
                      exact ih.2 l1 l2 l3 l4 (l5 + 1) l7 (l7 + 1) z30.2 hf
theorem F248c {xs : Nat → Int32} {L9 d n : Nat} {h : AmH} {Q : Option Value → AmH → Prop} {r0 : Int32} {S0 S : mS} {l1 : Int32} {l2 : Int32} {l3 : Int32} {l4 : Int32} (hh : 172 ≤ h.2.1) (hf : F248 n l1 l2 l3 l4 S = some (r0, S0)) (hQ : Q (some (.int r0)) (mst S0 h)) : Ca (am_X xs L9) (d + 8) 248 [.ref 130, .int l1, .int l2, .int l3, .int l4] (mst S h) Q := (F248l hh hQ n).1 l1 l2 l3 l4 0 0 0 S hf
def F179_167_168b0 (F : Nat → Int32 → mS → Option (Unit × mS)) (n : Nat) (l2 : Int32) (S : mS) : Option (Unit × mS) := F 2 0 S
def F179_167_168b2 (F : Nat → Int32 → mS → Option (Unit × mS)) (n : Nat) (l2 : Int32) (S : mS) : Option (Unit × mS) := (if am_ic .ge l2 9 = true then some ((), S) else (if ¬ (l2 < 0 ∨ 9 ≤ (l2).toNatClampNeg) then (if ¬ (l2 < 0 ∨ 9 ≤ (l2).toNatClampNeg) then F 2 (l2 + 1) (m_sA S 38 (Int32.toNatClampNeg l2) (S.2.1 37 (Int32.toNatClampNeg l2))) else none) else none))
def F179_167_168f : Nat → Nat → Int32 → mS → Option (Unit × mS)
  | 0, _, _, _ => none
  | n + 1, c, l2, S => if c = 0 then F179_167_168b0 (F179_167_168f n) n l2 S else F179_167_168b2 (F179_167_168f n) n l2 S
theorem F179_167_168e0 (n : Nat) (l2 : Int32) (S : mS) : F179_167_168f (n + 1) 0 l2 S = F179_167_168b0 (F179_167_168f n) n l2 S := if_pos rfl
theorem F179_167_168e2 (n : Nat) (l2 : Int32) (S : mS) : F179_167_168f (n + 1) 2 l2 S = F179_167_168b2 (F179_167_168f n) n l2 S := if_neg (by decide)
def F179_167_168 (n : Nat)  (S : mS) : Option (Unit × mS) := F179_167_168f n 0 0 S
set_option maxRecDepth 20000 in
set_option maxHeartbeats 2000000 in
theorem F179_167_168l {xs : Nat → Int32} {L9 d : Nat} {h : AmH} {Q : Option Value → AmH → Prop} {r0 : Unit} {S0 : mS} (hh : 172 ≤ h.2.1) (hQ : Q none (mst S0 h)) : ∀ n : Nat, (∀ (l2 : Int32) (S : mS), F179_167_168f n 0 l2 S = some (r0, S0) → Go (am_X xs L9) (d + 0) 179 0 [.ref 167, .ref 168, .float 0] [] (mst S h) Q) ∧ (∀ (l2 : Int32) (S : mS), F179_167_168f n 2 l2 S = some (r0, S0) → Go (am_X xs L9) (d + 0) 179 2 [.ref 167, .ref 168, .int l2] [] (mst S h) Q) := by
  intro n
  induction n with
  | zero => exact ⟨fun l2 S hf => (by cases hf), fun l2 S hf => (by cases hf)⟩
  | succ n ih =>
    refine ⟨?_, ?_⟩
    · intro l2 S hf
      rw [F179_167_168e0] at hf
      unfold F179_167_168b0 at hf
      refine r_iconst (v := 0) fe_179_0 (by decide) ?_
      refine r_istore_n fe_179_1 (Nat.le_of_ble_eq_true rfl) rfl ?_
      refine go_weak (L0 := [.ref 167, .ref 168, .int 0]) (lwk_c (Or.inl rfl) (lwk_c (Or.inl rfl) (lwk_c (Or.inl rfl) (lwk_rf [])))) ?_
      exact ih.2 0 S hf
    · intro l2 S hf
      rw [F179_167_168e2] at hf
      unfold F179_167_168b2 at hf
      refine r_iload_n fe_179_2 rfl ?_
      refine r_aload_n fe_179_3 rfl ?_
      refine r_alen (v := 9) fe_179_4 m_c_37 (m_lt hh (by decide)) (by decide) (by decide) ?_
      by_cases hb1 : am_ic .ge l2 9 = true
      · rw [if_pos hb1] at hf
        refine r_ic_t (t := 20) fe_179_5 (by decide) hb1 ?_
        refine r_vret fe_179_20 ?_
        exact dfin (P := fun _ T => Q none (mst T h)) hf hQ
      · rw [if_neg hb1] at hf
        refine r_ic_f (t := 20) fe_179_5 (by decide) (Bool.eq_false_iff.mpr hb1) ?_
        refine r_aload_n fe_179_8 rfl ?_
        refine r_iload_n fe_179_9 rfl ?_
        refine r_aload_n fe_179_10 rfl ?_
        refine r_iload_n fe_179_11 rfl ?_
        by_cases hg2 : ¬ (l2 < 0 ∨ 9 ≤ (l2).toNatClampNeg)
        rotate_left
        · rw [if_neg hg2] at hf; cases hf
        rw [if_pos hg2] at hf
        refine r_iald (j := (Int32.toNatClampNeg l2)) (v := S.2.1 37 (Int32.toNatClampNeg l2)) fe_179_12 m_c_37 (m_lt hh (by decide)) (fun z => hg2 (Or.inl z)) rfl (fun z => hg2 (Or.inr z)) rfl ?_
        by_cases hg3 : ¬ (l2 < 0 ∨ 9 ≤ (l2).toNatClampNeg)
        rotate_left
        · rw [if_neg hg3] at hf; cases hf
        rw [if_pos hg3] at hf
        refine mr_iast (k := 38) (n := 9) (j := (Int32.toNatClampNeg l2)) hh fe_179_13 rfl (by decide) (by decide) rfl rfl (fun z => hg3 (Or.inl z)) rfl (fun z => hg3 (Or.inr z)) ?_
        refine r_iinc (v := (l2 + 1)) fe_179_14 rfl rfl rfl ?_
        refine r_goto (t := 2) fe_179_17 (by decide) ?_
        refine go_weak (L0 := [.ref 167, .ref 168, .int (l2 + 1)]) (lwk_c (Or.inl rfl) (lwk_c (Or.inl rfl) (lwk_c (Or.inl rfl) (lwk_rf [])))) ?_
        exact ih.2 (l2 + 1) (m_sA S 38 (Int32.toNatClampNeg l2) (S.2.1 37 (Int32.toNatClampNeg l2))) hf
theorem F179_167_168c {xs : Nat → Int32} {L9 d n : Nat} {h : AmH} {Q : Option Value → AmH → Prop} {r0 : Unit} {S0 S : mS}  (hh : 172 ≤ h.2.1) (hf : F179_167_168 n  S = some (r0, S0)) (hQ : Q none (mst S0 h)) : Ca (am_X xs L9) (d + 0) 179 [.ref 167, .ref 168] (mst S h) Q := (F179_167_168l hh hQ n).1 0 S hf
def F250b0 (F : Nat → Int32 → Int32 → Int32 → Int32 → Int32 → mS → Option (Int32 × mS)) (n : Nat) (l1 : Int32) (l2 : Int32) (l3 : Int32) (l4 : Int32) (l5 : Int32) (S : mS) : Option (Int32 × mS) := ((F223 n l1 S).bind (fun z1 => F 20 l1 z1.1 0 0 0 (m_sA z1.2 37 0 (-1))))
def F250b20 (F : Nat → Int32 → Int32 → Int32 → Int32 → Int32 → mS → Option (Int32 × mS)) (n : Nat) (l1 : Int32) (l2 : Int32) (l3 : Int32) (l4 : Int32) (l5 : Int32) (S : mS) : Option (Int32 × mS) := (if am_if .lt l5 = true then some (l3, S) else (if ¬ (l5 < 0 ∨ 9 ≤ (l5).toNatClampNeg) then (if ¬ (l5 < 0 ∨ 9 ≤ (l5).toNatClampNeg) then (if ¬ (l5 < 0 ∨ 9 ≤ (l5).toNatClampNeg) then (if am_ic .lt ((m_sA S 37 (Int32.toNatClampNeg l5) ((S.2.1 37 (Int32.toNatClampNeg l5)) + 1)).2.1 37 (Int32.toNatClampNeg l5)) ((m_sA S 37 (Int32.toNatClampNeg l5) ((S.2.1 37 (Int32.toNatClampNeg l5)) + 1)).2.1 1 4) = true then (if ¬ (l5 < 0 ∨ 9 ≤ (l5).toNatClampNeg) then ((F199 n (l1 &&& (l4 ^^^ (-1))) ((m_sA S 37 (Int32.toNatClampNeg l5) ((S.2.1 37 (Int32.toNatClampNeg l5)) + 1)).2.1 37 (Int32.toNatClampNeg l5)) (m_sA S 37 (Int32.toNatClampNeg l5) ((S.2.1 37 (Int32.toNatClampNeg l5)) + 1))).bind (fun z9 => (if am_if .eq z9.1 = true then F 20 l1 l2 l3 l4 l5 z9.2 else (if am_if .eq l5 = true then (if am_ic .ne l5 (l2 - 1) = true then (if ¬ (l5 < 0 ∨ 9 ≤ (l5).toNatClampNeg) then (if ¬ ((l5 + 1) < 0 ∨ 9 ≤ ((l5 + 1)).toNatClampNeg) then F 20 l1 l2 l3 (l4 ||| (1 <<< ((z9.2.2.1 37 (Int32.toNatClampNeg l5)) &&& 31))) (l5 + 1) (m_sA z9.2 37 (Int32.toNatClampNeg (l5 + 1)) (-1)) else none) else none) else (if am_if .ne l3 = true then F 20 l1 l2 (l3 + 1) l4 l5 z9.2 else ((F179_167_168 n  z9.2).bind (fun z17 => F 20 l1 l2 (l3 + 1) l4 l5 z17.2)))) else (if ¬ ((l5 - 1) < 0 ∨ 9 ≤ ((l5 - 1)).toNatClampNeg) then (if ¬ ((z9.2.2.1 37 (Int32.toNatClampNeg (l5 - 1))) < 0 ∨ 13 ≤ ((z9.2.2.1 37 (Int32.toNatClampNeg (l5 - 1)))).toNatClampNeg) then (if ¬ (l5 < 0 ∨ 9 ≤ (l5).toNatClampNeg) then (if ¬ ((z9.2.2.1 37 (Int32.toNatClampNeg l5)) < 0 ∨ 13 ≤ ((z9.2.2.1 37 (Int32.toNatClampNeg l5))).toNatClampNeg) then ((F221 n (z9.2.2.1 11 (Int32.toNatClampNeg (z9.2.2.1 37 (Int32.toNatClampNeg l5)))) z9.2).bind (fun z23 => (if am_ic .ne ((z9.2.2.1 11 (Int32.toNatClampNeg (z9.2.2.1 37 (Int32.toNatClampNeg (l5 - 1))))) - (z9.2.2.1 11 (Int32.toNatClampNeg (z9.2.2.1 37 (Int32.toNatClampNeg (l5 - 1))))) / 10 * 10) z23.1 = true then F 20 l1 l2 l3 l4 l5 z23.2 else (if am_ic .ne l5 (l2 - 1) = true then (if ¬ (l5 < 0 ∨ 9 ≤ (l5).toNatClampNeg) then (if ¬ ((l5 + 1) < 0 ∨ 9 ≤ ((l5 + 1)).toNatClampNeg) then F 20 l1 l2 l3 (l4 ||| (1 <<< ((z23.2.2.1 37 (Int32.toNatClampNeg l5)) &&& 31))) (l5 + 1) (m_sA z23.2 37 (Int32.toNatClampNeg (l5 + 1)) (-1)) else none) else none) else (if am_if .ne l3 = true then F 20 l1 l2 (l3 + 1) l4 l5 z23.2 else ((F179_167_168 n  z23.2).bind (fun z30 => F 20 l1 l2 (l3 + 1) l4 l5 z30.2))))))) else none) else none) else none) else none))))) else none) else (if am_if .lt (l5 + (-1)) = true then F 20 l1 l2 l3 (l4 &&& 0) (l5 + (-1)) (m_sA S 37 (Int32.toNatClampNeg l5) ((S.2.1 37 (Int32.toNatClampNeg l5)) + 1)) else (if ¬ ((l5 + (-1)) < 0 ∨ 9 ≤ ((l5 + (-1))).toNatClampNeg) then F 20 l1 l2 l3 (l4 &&& ((1 <<< (((m_sA S 37 (Int32.toNatClampNeg l5) ((S.2.1 37 (Int32.toNatClampNeg l5)) + 1)).2.1 37 (Int32.toNatClampNeg (l5 + (-1)))) &&& 31)) ^^^ (-1))) (l5 + (-1)) (m_sA S 37 (Int32.toNatClampNeg l5) ((S.2.1 37 (Int32.toNatClampNeg l5)) + 1)) else none))) else none) else none) else none))
def F250f : Nat → Nat → Int32 → Int32 → Int32 → Int32 → Int32 → mS → Option (Int32 × mS)
  | 0, _, _, _, _, _, _, _ => none
  | n + 1, c, l1, l2, l3, l4, l5, S => if c = 0 then F250b0 (F250f n) n l1 l2 l3 l4 l5 S else F250b20 (F250f n) n l1 l2 l3 l4 l5 S
theorem F250e0 (n : Nat) (l1 : Int32) (l2 : Int32) (l3 : Int32) (l4 : Int32) (l5 : Int32) (S : mS) : F250f (n + 1) 0 l1 l2 l3 l4 l5 S = F250b0 (F250f n) n l1 l2 l3 l4 l5 S := if_pos rfl
theorem F250e20 (n : Nat) (l1 : Int32) (l2 : Int32) (l3 : Int32) (l4 : Int32) (l5 : Int32) (S : mS) : F250f (n + 1) 20 l1 l2 l3 l4 l5 S = F250b20 (F250f n) n l1 l2 l3 l4 l5 S := if_neg (by decide)
def F250 (n : Nat) (l1 : Int32) (S : mS) : Option (Int32 × mS) := F250f n 0 l1 0 0 0 0 S
set_option maxRecDepth 20000 in
set_option maxHeartbeats 2000000 in
theorem F250l {xs : Nat → Int32} {L9 d : Nat} {h : AmH} {Q : Option Value → AmH → Prop} {r0 : Int32} {S0 : mS} (hh : 172 ≤ h.2.1) (hQ : Q (some (.int r0)) (mst S0 h)) : ∀ n : Nat, (∀ (l1 : Int32) (l2 : Int32) (l3 : Int32) (l4 : Int32) (l5 : Int32) (S : mS), F250f n 0 l1 l2 l3 l4 l5 S = some (r0, S0) → Go (am_X xs L9) (d + 1) 250 0 [.ref 130, .int l1, .float 0, .float 0, .float 0, .float 0] [] (mst S h) Q) ∧ (∀ (l1 : Int32) (l2 : Int32) (l3 : Int32) (l4 : Int32) (l5 : Int32) (S : mS), F250f n 20 l1 l2 l3 l4 l5 S = some (r0, S0) → Go (am_X xs L9) (d + 1) 250 20 [.ref 130, .int l1, .int l2, .int l3, .int l4, .int l5] [] (mst S h) Q) := by
  intro n
  induction n with
  | zero => exact ⟨fun l1 l2 l3 l4 l5 S hf => (by cases hf), fun l1 l2 l3 l4 l5 S hf => (by cases hf)⟩
  | succ n ih =>
    refine ⟨?_, ?_⟩
    · intro l1 l2 l3 l4 l5 S hf
      rw [F250e0] at hf
      unfold F250b0 at hf
      refine r_iload_n fe_250_0 rfl ?_
      refine r_callS (as := [.int l1]) (r := []) fe_250_1 lm_12_415 md_223 rfl rfl (Nat.le_of_ble_eq_true rfl) (Nat.le_of_ble_eq_true rfl) (Nat.le_of_ble_eq_true rfl) ?_
      cases hc2 : F223 n l1 S with
      | none => rw [hc2] at hf; cases hf
      | some z1 =>
        rw [hc2, Option.bind_some] at hf
        refine F223c (r0 := z1.1) (S0 := z1.2) hh hc2 ?_
        refine r_istore_n fe_250_4 (Nat.le_of_ble_eq_true rfl) rfl ?_
        refine r_iconst (v := 0) fe_250_5 (by decide) ?_
        refine r_istore_n fe_250_6 (Nat.le_of_ble_eq_true rfl) rfl ?_
        refine r_iconst (v := 0) fe_250_7 (by decide) ?_
        refine r_istore fe_250_8 (Nat.le_of_ble_eq_true rfl) rfl ?_
        refine r_iconst (v := 0) fe_250_10 (by decide) ?_
        refine r_istore fe_250_11 (Nat.le_of_ble_eq_true rfl) rfl ?_
        refine r_aload_n fe_250_13 rfl ?_
        refine mr_getf hh fe_250_14 lf_12_124 rfl ?_
        refine r_iconst (v := 0) fe_250_17 (by decide) ?_
        refine r_iconst (v := -1) fe_250_18 (by decide) ?_
        refine mr_iast (k := 37) (n := 9) (j := 0) hh fe_250_19 rfl (by decide) (by decide) rfl rfl (by decide) (by decide) (by decide) ?_
        refine go_weak (L0 := [.ref 130, .int l1, .int z1.1, .int 0, .int 0, .int 0]) (lwk_c (Or.inl rfl) (lwk_c (Or.inl rfl) (lwk_c (Or.inl rfl) (lwk_c (Or.inl rfl) (lwk_c (Or.inl rfl) (lwk_c (Or.inl rfl) (lwk_rf []))))))) ?_
        exact ih.2 l1 z1.1 0 0 0 (m_sA z1.2 37 0 (-1)) hf
    · intro l1 l2 l3 l4 l5 S hf
      rw [F250e20] at hf
      unfold F250b20 at hf
      refine r_iload fe_250_20 rfl ?_
      by_cases hb3 : am_if .lt l5 = true
      · rw [if_pos hb3] at hf
        refine r_if_t (t := 199) fe_250_22 (by decide) hb3 ?_
        refine r_iload_n fe_250_199 rfl ?_
        refine r_iret fe_250_200 ⟨rfl, by decide⟩ ?_
        exact dfin (P := fun r T => Q (some (.int r)) (mst T h)) hf hQ
      · rw [if_neg hb3] at hf
        refine r_if_f (t := 199) fe_250_22 (by decide) (Bool.eq_false_iff.mpr hb3) ?_
        refine r_aload_n fe_250_25 rfl ?_
        refine mr_getf hh fe_250_26 lf_12_124 rfl ?_
        refine r_iload fe_250_29 rfl ?_
        refine r_dup2 fe_250_31 ⟨rfl, rfl⟩ ?_
        by_cases hg4 : ¬ (l5 < 0 ∨ 9 ≤ (l5).toNatClampNeg)
        rotate_left
        · rw [if_neg hg4] at hf; cases hf
        rw [if_pos hg4] at hf
        refine r_iald (j := (Int32.toNatClampNeg l5)) (v := S.2.1 37 (Int32.toNatClampNeg l5)) fe_250_32 m_c_37 (m_lt hh (by decide)) (fun z => hg4 (Or.inl z)) rfl (fun z => hg4 (Or.inr z)) rfl ?_
        refine r_iconst (v := 1) fe_250_33 (by decide) ?_
        refine r_iadd (v := ((S.2.1 37 (Int32.toNatClampNeg l5)) + 1)) fe_250_34 rfl ?_
        by_cases hg5 : ¬ (l5 < 0 ∨ 9 ≤ (l5).toNatClampNeg)
        rotate_left
        · rw [if_neg hg5] at hf; cases hf
        rw [if_pos hg5] at hf
        refine mr_iast (k := 37) (n := 9) (j := (Int32.toNatClampNeg l5)) hh fe_250_35 rfl (by decide) (by decide) rfl rfl (fun z => hg5 (Or.inl z)) rfl (fun z => hg5 (Or.inr z)) ?_
        refine r_aload_n fe_250_36 rfl ?_
        refine mr_getf hh fe_250_37 lf_12_124 rfl ?_
        refine r_iload fe_250_40 rfl ?_
        by_cases hg6 : ¬ (l5 < 0 ∨ 9 ≤ (l5).toNatClampNeg)
        rotate_left
        · rw [if_neg hg6] at hf; cases hf
        rw [if_pos hg6] at hf
        refine r_iald (j := (Int32.toNatClampNeg l5)) (v := (m_sA S 37 (Int32.toNatClampNeg l5) ((S.2.1 37 (Int32.toNatClampNeg l5)) + 1)).2.1 37 (Int32.toNatClampNeg l5)) fe_250_42 m_c_37 (m_lt hh (by decide)) (fun z => hg6 (Or.inl z)) rfl (fun z => hg6 (Or.inr z)) rfl ?_
        refine r_aload_n fe_250_43 rfl ?_
        refine mr_getf hh fe_250_44 lf_12_9 rfl ?_
        refine r_iconst (v := 4) fe_250_47 (by decide) ?_
        refine r_iald (j := 4) (v := (m_sA S 37 (Int32.toNatClampNeg l5) ((S.2.1 37 (Int32.toNatClampNeg l5)) + 1)).2.1 1 4) fe_250_48 m_c_1 (m_lt hh (by decide)) (by decide) (by decide) (by decide) rfl ?_
        by_cases hb7 : am_ic .lt ((m_sA S 37 (Int32.toNatClampNeg l5) ((S.2.1 37 (Int32.toNatClampNeg l5)) + 1)).2.1 37 (Int32.toNatClampNeg l5)) ((m_sA S 37 (Int32.toNatClampNeg l5) ((S.2.1 37 (Int32.toNatClampNeg l5)) + 1)).2.1 1 4) = true
        · rw [if_pos hb7] at hf
          refine r_ic_t (t := 83) fe_250_49 (by decide) hb7 ?_
          refine r_iload_n fe_250_83 rfl ?_
          refine r_iload fe_250_84 rfl ?_
          refine r_iconst (v := -1) fe_250_86 (by decide) ?_
          refine r_ixor (v := (l4 ^^^ (-1))) fe_250_87 rfl ?_
          refine r_iand (v := (l1 &&& (l4 ^^^ (-1)))) fe_250_88 rfl ?_
          refine r_aload_n fe_250_89 rfl ?_
          refine mr_getf hh fe_250_90 lf_12_124 rfl ?_
          refine r_iload fe_250_93 rfl ?_
          by_cases hg8 : ¬ (l5 < 0 ∨ 9 ≤ (l5).toNatClampNeg)
          rotate_left
          · rw [if_neg hg8] at hf; cases hf
          rw [if_pos hg8] at hf
          refine r_iald (j := (Int32.toNatClampNeg l5)) (v := (m_sA S 37 (Int32.toNatClampNeg l5) ((S.2.1 37 (Int32.toNatClampNeg l5)) + 1)).2.1 37 (Int32.toNatClampNeg l5)) fe_250_95 m_c_37 (m_lt hh (by decide)) (fun z => hg8 (Or.inl z)) rfl (fun z => hg8 (Or.inr z)) rfl ?_
          refine r_callS (as := [.int (l1 &&& (l4 ^^^ (-1))), .int ((m_sA S 37 (Int32.toNatClampNeg l5) ((S.2.1 37 (Int32.toNatClampNeg l5)) + 1)).2.1 37 (Int32.toNatClampNeg l5))]) (r := []) fe_250_96 lm_12_387 md_199 rfl rfl (Nat.le_of_ble_eq_true rfl) (Nat.le_of_ble_eq_true rfl) (Nat.le_of_ble_eq_true rfl) ?_
          cases hc10 : F199 n (l1 &&& (l4 ^^^ (-1))) ((m_sA S 37 (Int32.toNatClampNeg l5) ((S.2.1 37 (Int32.toNatClampNeg l5)) + 1)).2.1 37 (Int32.toNatClampNeg l5)) (m_sA S 37 (Int32.toNatClampNeg l5) ((S.2.1 37 (Int32.toNatClampNeg l5)) + 1)) with
          | none => rw [hc10] at hf; cases hf
          | some z9 =>
            rw [hc10, Option.bind_some] at hf
            refine F199c (r0 := z9.1) (S0 := z9.2) hh hc10 ?_
            by_cases hb11 : am_if .eq z9.1 = true
            · rw [if_pos hb11] at hf
              refine r_if_t (t := 20) fe_250_99 (by decide) hb11 ?_
              refine go_weak (L0 := [.ref 130, .int l1, .int l2, .int l3, .int l4, .int l5]) (lwk_c (Or.inl rfl) (lwk_c (Or.inl rfl) (lwk_c (Or.inl rfl) (lwk_c (Or.inl rfl) (lwk_c (Or.inl rfl) (lwk_c (Or.inl rfl) (lwk_rf []))))))) ?_
              exact ih.2 l1 l2 l3 l4 l5 z9.2 hf
            · rw [if_neg hb11] at hf
              refine r_if_f (t := 20) fe_250_99 (by decide) (Bool.eq_false_iff.mpr hb11) ?_
              refine r_iload fe_250_102 rfl ?_
              by_cases hb12 : am_if .eq l5 = true
              · rw [if_pos hb12] at hf
                refine r_if_t (t := 142) fe_250_104 (by decide) hb12 ?_
                refine r_iload fe_250_142 rfl ?_
                refine r_iload_n fe_250_144 rfl ?_
                refine r_iconst (v := 1) fe_250_145 (by decide) ?_
                refine r_isub (v := (l2 - 1)) fe_250_146 rfl ?_
                by_cases hb13 : am_ic .ne l5 (l2 - 1) = true
                · rw [if_pos hb13] at hf
                  refine r_ic_t (t := 171) fe_250_147 (by decide) hb13 ?_
                  refine r_iload fe_250_171 rfl ?_
                  refine r_iconst (v := 1) fe_250_173 (by decide) ?_
                  refine r_aload_n fe_250_174 rfl ?_
                  refine mr_getf hh fe_250_175 lf_12_124 rfl ?_
                  refine r_iload fe_250_178 rfl ?_
                  by_cases hg14 : ¬ (l5 < 0 ∨ 9 ≤ (l5).toNatClampNeg)
                  rotate_left
                  · rw [if_neg hg14] at hf; cases hf
                  rw [if_pos hg14] at hf
                  refine r_iald (j := (Int32.toNatClampNeg l5)) (v := z9.2.2.1 37 (Int32.toNatClampNeg l5)) fe_250_180 m_c_37 (m_lt hh (by decide)) (fun z => hg14 (Or.inl z)) rfl (fun z => hg14 (Or.inr z)) rfl ?_
                  refine r_ishl (v := (1 <<< ((z9.2.2.1 37 (Int32.toNatClampNeg l5)) &&& 31))) fe_250_181 rfl ?_
                  refine r_ior (v := (l4 ||| (1 <<< ((z9.2.2.1 37 (Int32.toNatClampNeg l5)) &&& 31)))) fe_250_182 rfl ?_
                  refine r_istore fe_250_183 (Nat.le_of_ble_eq_true rfl) rfl ?_
                  refine r_iinc (v := (l5 + 1)) fe_250_185 rfl rfl rfl ?_
                  refine r_aload_n fe_250_188 rfl ?_
                  refine mr_getf hh fe_250_189 lf_12_124 rfl ?_
                  refine r_iload fe_250_192 rfl ?_
                  refine r_iconst (v := -1) fe_250_194 (by decide) ?_
                  by_cases hg15 : ¬ ((l5 + 1) < 0 ∨ 9 ≤ ((l5 + 1)).toNatClampNeg)
                  rotate_left
                  · rw [if_neg hg15] at hf; cases hf
                  rw [if_pos hg15] at hf
                  refine mr_iast (k := 37) (n := 9) (j := (Int32.toNatClampNeg (l5 + 1))) hh fe_250_195 rfl (by decide) (by decide) rfl rfl (fun z => hg15 (Or.inl z)) rfl (fun z => hg15 (Or.inr z)) ?_
                  refine r_goto (t := 20) fe_250_196 (by decide) ?_
                  refine go_weak (L0 := [.ref 130, .int l1, .int l2, .int l3, .int (l4 ||| (1 <<< ((z9.2.2.1 37 (Int32.toNatClampNeg l5)) &&& 31))), .int (l5 + 1)]) (lwk_c (Or.inl rfl) (lwk_c (Or.inl rfl) (lwk_c (Or.inl rfl) (lwk_c (Or.inl rfl) (lwk_c (Or.inl rfl) (lwk_c (Or.inl rfl) (lwk_rf []))))))) ?_
                  exact ih.2 l1 l2 l3 (l4 ||| (1 <<< ((z9.2.2.1 37 (Int32.toNatClampNeg l5)) &&& 31))) (l5 + 1) (m_sA z9.2 37 (Int32.toNatClampNeg (l5 + 1)) (-1)) hf
                · rw [if_neg hb13] at hf
                  refine r_ic_f (t := 171) fe_250_147 (by decide) (Bool.eq_false_iff.mpr hb13) ?_
                  refine r_iload_n fe_250_150 rfl ?_
                  by_cases hb16 : am_if .ne l3 = true
                  · rw [if_pos hb16] at hf
                    refine r_if_t (t := 165) fe_250_151 (by decide) hb16 ?_
                    refine r_iinc (v := (l3 + 1)) fe_250_165 rfl rfl rfl ?_
                    refine r_goto (t := 20) fe_250_168 (by decide) ?_
                    refine go_weak (L0 := [.ref 130, .int l1, .int l2, .int (l3 + 1), .int l4, .int l5]) (lwk_c (Or.inl rfl) (lwk_c (Or.inl rfl) (lwk_c (Or.inl rfl) (lwk_c (Or.inl rfl) (lwk_c (Or.inl rfl) (lwk_c (Or.inl rfl) (lwk_rf []))))))) ?_
                    exact ih.2 l1 l2 (l3 + 1) l4 l5 z9.2 hf
                  · rw [if_neg hb16] at hf
                    refine r_if_f (t := 165) fe_250_151 (by decide) (Bool.eq_false_iff.mpr hb16) ?_
                    refine r_aload_n fe_250_154 rfl ?_
                    refine mr_getf hh fe_250_155 lf_12_124 rfl ?_
                    refine r_aload_n fe_250_158 rfl ?_
                    refine mr_getf hh fe_250_159 lf_12_127 rfl ?_
                    refine r_callS (as := [.ref 167, .ref 168]) (r := []) fe_250_162 lm_12_342 md_179 rfl rfl (Nat.le_of_ble_eq_true rfl) (Nat.le_of_ble_eq_true rfl) (Nat.le_of_ble_eq_true rfl) ?_
                    cases hc18 : F179_167_168 n  z9.2 with
                    | none => rw [hc18] at hf; cases hf
                    | some z17 =>
                      rw [hc18, Option.bind_some] at hf
                      refine F179_167_168c (r0 := z17.1) (S0 := z17.2) hh hc18 ?_
                      refine r_iinc (v := (l3 + 1)) fe_250_165 rfl rfl rfl ?_
                      refine r_goto (t := 20) fe_250_168 (by decide) ?_
                      refine go_weak (L0 := [.ref 130, .int l1, .int l2, .int (l3 + 1), .int l4, .int l5]) (lwk_c (Or.inl rfl) (lwk_c (Or.inl rfl) (lwk_c (Or.inl rfl) (lwk_c (Or.inl rfl) (lwk_c (Or.inl rfl) (lwk_c (Or.inl rfl) (lwk_rf []))))))) ?_
                      exact ih.2 l1 l2 (l3 + 1) l4 l5 z17.2 hf
              · rw [if_neg hb12] at hf
                refine r_if_f (t := 142) fe_250_104 (by decide) (Bool.eq_false_iff.mpr hb12) ?_
                refine r_aload_n fe_250_107 rfl ?_
                refine mr_getf hh fe_250_108 lf_12_40 rfl ?_
                refine r_aload_n fe_250_111 rfl ?_
                refine mr_getf hh fe_250_112 lf_12_124 rfl ?_
                refine r_iload fe_250_115 rfl ?_
                refine r_iconst (v := 1) fe_250_117 (by decide) ?_
                refine r_isub (v := (l5 - 1)) fe_250_118 rfl ?_
                by_cases hg19 : ¬ ((l5 - 1) < 0 ∨ 9 ≤ ((l5 - 1)).toNatClampNeg)
                rotate_left
                · rw [if_neg hg19] at hf; cases hf
                rw [if_pos hg19] at hf
                refine r_iald (j := (Int32.toNatClampNeg (l5 - 1))) (v := z9.2.2.1 37 (Int32.toNatClampNeg (l5 - 1))) fe_250_119 m_c_37 (m_lt hh (by decide)) (fun z => hg19 (Or.inl z)) rfl (fun z => hg19 (Or.inr z)) rfl ?_
                by_cases hg20 : ¬ ((z9.2.2.1 37 (Int32.toNatClampNeg (l5 - 1))) < 0 ∨ 13 ≤ ((z9.2.2.1 37 (Int32.toNatClampNeg (l5 - 1)))).toNatClampNeg)
                rotate_left
                · rw [if_neg hg20] at hf; cases hf
                rw [if_pos hg20] at hf
                refine r_iald (j := (Int32.toNatClampNeg (z9.2.2.1 37 (Int32.toNatClampNeg (l5 - 1))))) (v := z9.2.2.1 11 (Int32.toNatClampNeg (z9.2.2.1 37 (Int32.toNatClampNeg (l5 - 1))))) fe_250_120 m_c_11 (m_lt hh (by decide)) (fun z => hg20 (Or.inl z)) rfl (fun z => hg20 (Or.inr z)) rfl ?_
                refine r_bipush (v := 10) fe_250_121 (by decide) ?_
                refine r_irem (v := ((z9.2.2.1 11 (Int32.toNatClampNeg (z9.2.2.1 37 (Int32.toNatClampNeg (l5 - 1))))) - (z9.2.2.1 11 (Int32.toNatClampNeg (z9.2.2.1 37 (Int32.toNatClampNeg (l5 - 1))))) / 10 * 10)) fe_250_123 (by decide) rfl ?_
                refine r_aload_n fe_250_124 rfl ?_
                refine mr_getf hh fe_250_125 lf_12_40 rfl ?_
                refine r_aload_n fe_250_128 rfl ?_
                refine mr_getf hh fe_250_129 lf_12_124 rfl ?_
                refine r_iload fe_250_132 rfl ?_
                by_cases hg21 : ¬ (l5 < 0 ∨ 9 ≤ (l5).toNatClampNeg)
                rotate_left
                · rw [if_neg hg21] at hf; cases hf
                rw [if_pos hg21] at hf
                refine r_iald (j := (Int32.toNatClampNeg l5)) (v := z9.2.2.1 37 (Int32.toNatClampNeg l5)) fe_250_134 m_c_37 (m_lt hh (by decide)) (fun z => hg21 (Or.inl z)) rfl (fun z => hg21 (Or.inr z)) rfl ?_
                by_cases hg22 : ¬ ((z9.2.2.1 37 (Int32.toNatClampNeg l5)) < 0 ∨ 13 ≤ ((z9.2.2.1 37 (Int32.toNatClampNeg l5))).toNatClampNeg)
                rotate_left
                · rw [if_neg hg22] at hf; cases hf
                rw [if_pos hg22] at hf
                refine r_iald (j := (Int32.toNatClampNeg (z9.2.2.1 37 (Int32.toNatClampNeg l5)))) (v := z9.2.2.1 11 (Int32.toNatClampNeg (z9.2.2.1 37 (Int32.toNatClampNeg l5)))) fe_250_135 m_c_11 (m_lt hh (by decide)) (fun z => hg22 (Or.inl z)) rfl (fun z => hg22 (Or.inr z)) rfl ?_
                refine r_callS (as := [.int (z9.2.2.1 11 (Int32.toNatClampNeg (z9.2.2.1 37 (Int32.toNatClampNeg l5))))]) (r := [.int ((z9.2.2.1 11 (Int32.toNatClampNeg (z9.2.2.1 37 (Int32.toNatClampNeg (l5 - 1))))) - (z9.2.2.1 11 (Int32.toNatClampNeg (z9.2.2.1 37 (Int32.toNatClampNeg (l5 - 1))))) / 10 * 10)]) fe_250_136 lm_12_409 md_221 rfl rfl (Nat.le_of_ble_eq_true rfl) (Nat.le_of_ble_eq_true rfl) (Nat.le_of_ble_eq_true rfl) ?_
                cases hc24 : F221 n (z9.2.2.1 11 (Int32.toNatClampNeg (z9.2.2.1 37 (Int32.toNatClampNeg l5)))) z9.2 with
                | none => rw [hc24] at hf; cases hf
                | some z23 =>
                  rw [hc24, Option.bind_some] at hf
                  refine F221c (r0 := z23.1) (S0 := z23.2) hh hc24 ?_
                  by_cases hb25 : am_ic .ne ((z9.2.2.1 11 (Int32.toNatClampNeg (z9.2.2.1 37 (Int32.toNatClampNeg (l5 - 1))))) - (z9.2.2.1 11 (Int32.toNatClampNeg (z9.2.2.1 37 (Int32.toNatClampNeg (l5 - 1))))) / 10 * 10) z23.1 = true
                  · rw [if_pos hb25] at hf
                    refine r_ic_t (t := 20) fe_250_139 (by decide) hb25 ?_
                    refine go_weak (L0 := [.ref 130, .int l1, .int l2, .int l3, .int l4, .int l5]) (lwk_c (Or.inl rfl) (lwk_c (Or.inl rfl) (lwk_c (Or.inl rfl) (lwk_c (Or.inl rfl) (lwk_c (Or.inl rfl) (lwk_c (Or.inl rfl) (lwk_rf []))))))) ?_
                    exact ih.2 l1 l2 l3 l4 l5 z23.2 hf
                  · rw [if_neg hb25] at hf
                    refine r_ic_f (t := 20) fe_250_139 (by decide) (Bool.eq_false_iff.mpr hb25) ?_
                    refine r_iload fe_250_142 rfl ?_
                    refine r_iload_n fe_250_144 rfl ?_
                    refine r_iconst (v := 1) fe_250_145 (by decide) ?_
                    refine r_isub (v := (l2 - 1)) fe_250_146 rfl ?_
                    by_cases hb26 : am_ic .ne l5 (l2 - 1) = true
                    · rw [if_pos hb26] at hf
                      refine r_ic_t (t := 171) fe_250_147 (by decide) hb26 ?_
                      refine r_iload fe_250_171 rfl ?_
                      refine r_iconst (v := 1) fe_250_173 (by decide) ?_
                      refine r_aload_n fe_250_174 rfl ?_
                      refine mr_getf hh fe_250_175 lf_12_124 rfl ?_
                      refine r_iload fe_250_178 rfl ?_
                      by_cases hg27 : ¬ (l5 < 0 ∨ 9 ≤ (l5).toNatClampNeg)
                      rotate_left
                      · rw [if_neg hg27] at hf; cases hf
                      rw [if_pos hg27] at hf
                      refine r_iald (j := (Int32.toNatClampNeg l5)) (v := z23.2.2.1 37 (Int32.toNatClampNeg l5)) fe_250_180 m_c_37 (m_lt hh (by decide)) (fun z => hg27 (Or.inl z)) rfl (fun z => hg27 (Or.inr z)) rfl ?_
                      refine r_ishl (v := (1 <<< ((z23.2.2.1 37 (Int32.toNatClampNeg l5)) &&& 31))) fe_250_181 rfl ?_
                      refine r_ior (v := (l4 ||| (1 <<< ((z23.2.2.1 37 (Int32.toNatClampNeg l5)) &&& 31)))) fe_250_182 rfl ?_
                      refine r_istore fe_250_183 (Nat.le_of_ble_eq_true rfl) rfl ?_
                      refine r_iinc (v := (l5 + 1)) fe_250_185 rfl rfl rfl ?_
                      refine r_aload_n fe_250_188 rfl ?_
                      refine mr_getf hh fe_250_189 lf_12_124 rfl ?_
                      refine r_iload fe_250_192 rfl ?_
                      refine r_iconst (v := -1) fe_250_194 (by decide) ?_
                      by_cases hg28 : ¬ ((l5 + 1) < 0 ∨ 9 ≤ ((l5 + 1)).toNatClampNeg)
                      rotate_left
                      · rw [if_neg hg28] at hf; cases hf
                      rw [if_pos hg28] at hf
                      refine mr_iast (k := 37) (n := 9) (j := (Int32.toNatClampNeg (l5 + 1))) hh fe_250_195 rfl (by decide) (by decide) rfl rfl (fun z => hg28 (Or.inl z)) rfl (fun z => hg28 (Or.inr z)) ?_
                      refine r_goto (t := 20) fe_250_196 (by decide) ?_
                      refine go_weak (L0 := [.ref 130, .int l1, .int l2, .int l3, .int (l4 ||| (1 <<< ((z23.2.2.1 37 (Int32.toNatClampNeg l5)) &&& 31))), .int (l5 + 1)]) (lwk_c (Or.inl rfl) (lwk_c (Or.inl rfl) (lwk_c (Or.inl rfl) (lwk_c (Or.inl rfl) (lwk_c (Or.inl rfl) (lwk_c (Or.inl rfl) (lwk_rf []))))))) ?_
                      exact ih.2 l1 l2 l3 (l4 ||| (1 <<< ((z23.2.2.1 37 (Int32.toNatClampNeg l5)) &&& 31))) (l5 + 1) (m_sA z23.2 37 (Int32.toNatClampNeg (l5 + 1)) (-1)) hf
                    · rw [if_neg hb26] at hf
                      refine r_ic_f (t := 171) fe_250_147 (by decide) (Bool.eq_false_iff.mpr hb26) ?_
                      refine r_iload_n fe_250_150 rfl ?_
                      by_cases hb29 : am_if .ne l3 = true
                      · rw [if_pos hb29] at hf
                        refine r_if_t (t := 165) fe_250_151 (by decide) hb29 ?_
                        refine r_iinc (v := (l3 + 1)) fe_250_165 rfl rfl rfl ?_
                        refine r_goto (t := 20) fe_250_168 (by decide) ?_
                        refine go_weak (L0 := [.ref 130, .int l1, .int l2, .int (l3 + 1), .int l4, .int l5]) (lwk_c (Or.inl rfl) (lwk_c (Or.inl rfl) (lwk_c (Or.inl rfl) (lwk_c (Or.inl rfl) (lwk_c (Or.inl rfl) (lwk_c (Or.inl rfl) (lwk_rf []))))))) ?_
                        exact ih.2 l1 l2 (l3 + 1) l4 l5 z23.2 hf
                      · rw [if_neg hb29] at hf
                        refine r_if_f (t := 165) fe_250_151 (by decide) (Bool.eq_false_iff.mpr hb29) ?_
                        refine r_aload_n fe_250_154 rfl ?_
                        refine mr_getf hh fe_250_155 lf_12_124 rfl ?_
                        refine r_aload_n fe_250_158 rfl ?_
                        refine mr_getf hh fe_250_159 lf_12_127 rfl ?_
                        refine r_callS (as := [.ref 167, .ref 168]) (r := []) fe_250_162 lm_12_342 md_179 rfl rfl (Nat.le_of_ble_eq_true rfl) (Nat.le_of_ble_eq_true rfl) (Nat.le_of_ble_eq_true rfl) ?_
                        cases hc31 : F179_167_168 n  z23.2 with
                        | none => rw [hc31] at hf; cases hf
                        | some z30 =>
                          rw [hc31, Option.bind_some] at hf
                          refine F179_167_168c (r0 := z30.1) (S0 := z30.2) hh hc31 ?_
                          refine r_iinc (v := (l3 + 1)) fe_250_165 rfl rfl rfl ?_
                          refine r_goto (t := 20) fe_250_168 (by decide) ?_
                          refine go_weak (L0 := [.ref 130, .int l1, .int l2, .int (l3 + 1), .int l4, .int l5]) (lwk_c (Or.inl rfl) (lwk_c (Or.inl rfl) (lwk_c (Or.inl rfl) (lwk_c (Or.inl rfl) (lwk_c (Or.inl rfl) (lwk_c (Or.inl rfl) (lwk_rf []))))))) ?_
                          exact ih.2 l1 l2 (l3 + 1) l4 l5 z30.2 hf
        · rw [if_neg hb7] at hf
          refine r_ic_f (t := 83) fe_250_49 (by decide) (Bool.eq_false_iff.mpr hb7) ?_
          refine r_iinc (v := (l5 + (-1))) fe_250_52 rfl rfl rfl ?_
          refine r_iload fe_250_55 rfl ?_
          refine r_iload fe_250_57 rfl ?_
          by_cases hb32 : am_if .lt (l5 + (-1)) = true
          · rw [if_pos hb32] at hf
            refine r_if_t (t := 76) fe_250_59 (by decide) hb32 ?_
            refine r_iconst (v := 0) fe_250_76 (by decide) ?_
            refine r_iand (v := (l4 &&& 0)) fe_250_77 rfl ?_
            refine r_istore fe_250_78 (Nat.le_of_ble_eq_true rfl) rfl ?_
            refine r_goto (t := 20) fe_250_80 (by decide) ?_
            refine go_weak (L0 := [.ref 130, .int l1, .int l2, .int l3, .int (l4 &&& 0), .int (l5 + (-1))]) (lwk_c (Or.inl rfl) (lwk_c (Or.inl rfl) (lwk_c (Or.inl rfl) (lwk_c (Or.inl rfl) (lwk_c (Or.inl rfl) (lwk_c (Or.inl rfl) (lwk_rf []))))))) ?_
            exact ih.2 l1 l2 l3 (l4 &&& 0) (l5 + (-1)) (m_sA S 37 (Int32.toNatClampNeg l5) ((S.2.1 37 (Int32.toNatClampNeg l5)) + 1)) hf
          · rw [if_neg hb32] at hf
            refine r_if_f (t := 76) fe_250_59 (by decide) (Bool.eq_false_iff.mpr hb32) ?_
            refine r_iconst (v := 1) fe_250_62 (by decide) ?_
            refine r_aload_n fe_250_63 rfl ?_
            refine mr_getf hh fe_250_64 lf_12_124 rfl ?_
            refine r_iload fe_250_67 rfl ?_
            by_cases hg33 : ¬ ((l5 + (-1)) < 0 ∨ 9 ≤ ((l5 + (-1))).toNatClampNeg)
            rotate_left
            · rw [if_neg hg33] at hf; cases hf
            rw [if_pos hg33] at hf
            refine r_iald (j := (Int32.toNatClampNeg (l5 + (-1)))) (v := (m_sA S 37 (Int32.toNatClampNeg l5) ((S.2.1 37 (Int32.toNatClampNeg l5)) + 1)).2.1 37 (Int32.toNatClampNeg (l5 + (-1)))) fe_250_69 m_c_37 (m_lt hh (by decide)) (fun z => hg33 (Or.inl z)) rfl (fun z => hg33 (Or.inr z)) rfl ?_
            refine r_ishl (v := (1 <<< (((m_sA S 37 (Int32.toNatClampNeg l5) ((S.2.1 37 (Int32.toNatClampNeg l5)) + 1)).2.1 37 (Int32.toNatClampNeg (l5 + (-1)))) &&& 31))) fe_250_70 rfl ?_
            refine r_iconst (v := -1) fe_250_71 (by decide) ?_
            refine r_ixor (v := ((1 <<< (((m_sA S 37 (Int32.toNatClampNeg l5) ((S.2.1 37 (Int32.toNatClampNeg l5)) + 1)).2.1 37 (Int32.toNatClampNeg (l5 + (-1)))) &&& 31)) ^^^ (-1))) fe_250_72 rfl ?_
            refine r_goto (t := 77) fe_250_73 (by decide) ?_
            refine r_iand (v := (l4 &&& ((1 <<< (((m_sA S 37 (Int32.toNatClampNeg l5) ((S.2.1 37 (Int32.toNatClampNeg l5)) + 1)).2.1 37 (Int32.toNatClampNeg (l5 + (-1)))) &&& 31)) ^^^ (-1)))) fe_250_77 rfl ?_
            refine r_istore fe_250_78 (Nat.le_of_ble_eq_true rfl) rfl ?_
            refine r_goto (t := 20) fe_250_80 (by decide) ?_
            refine go_weak (L0 := [.ref 130, .int l1, .int l2, .int l3, .int (l4 &&& ((1 <<< (((m_sA S 37 (Int32.toNatClampNeg l5) ((S.2.1 37 (Int32.toNatClampNeg l5)) + 1)).2.1 37 (Int32.toNatClampNeg (l5 + (-1)))) &&& 31)) ^^^ (-1))), .int (l5 + (-1))]) (lwk_c (Or.inl rfl) (lwk_c (Or.inl rfl) (lwk_c (Or.inl rfl) (lwk_c (Or.inl rfl) (lwk_c (Or.inl rfl) (lwk_c (Or.inl rfl) (lwk_rf []))))))) ?_
            exact ih.2 l1 l2 l3 (l4 &&& ((1 <<< (((m_sA S 37 (Int32.toNatClampNeg l5) ((S.2.1 37 (Int32.toNatClampNeg l5)) + 1)).2.1 37 (Int32.toNatClampNeg (l5 + (-1)))) &&& 31)) ^^^ (-1))) (l5 + (-1)) (m_sA S 37 (Int32.toNatClampNeg l5) ((S.2.1 37 (Int32.toNatClampNeg l5)) + 1)) hf
theorem F250c {xs : Nat → Int32} {L9 d n : Nat} {h : AmH} {Q : Option Value → AmH → Prop} {r0 : Int32} {S0 S : mS} {l1 : Int32} (hh : 172 ≤ h.2.1) (hf : F250 n l1 S = some (r0, S0)) (hQ : Q (some (.int r0)) (mst S0 h)) : Ca (am_X xs L9) (d + 1) 250 [.ref 130, .int l1] (mst S h) Q := (F250l hh hQ n).1 l1 0 0 0 0 S hf
def F249b0 (F : Nat → Int32 → Int32 → mS → Option (Int32 × mS)) (n : Nat) (l1 : Int32) (l2 : Int32) (S : mS) : Option (Int32 × mS) := ((F210 n  S).bind (fun z1 => (if am_if .eq z1.1 = true then some ((-1), z1.2) else ((F172 n (Int32.toInt64 l1) 0 (Int32.toInt64 ((1 <<< ((z1.2.2.1 1 4) &&& 31)) - 1)) z1.2).bind (fun z4 => (if am_if .eq z4.1 = true then some ((-1), z4.2) else ((F223 n l1 z4.2).bind (fun z7 => (if am_ic .gt z7.1 8 = true then some ((-1), z7.2) else ((F172 n (Int32.toInt64 l2) 0 12 z7.2).bind (fun z10 => (if am_if .ne z10.1 = true then (if am_if .ne l1 = true then ((F250 n l1 z10.2).bind (fun z14 => (if am_if .ne l2 = true then (if am_if .eq z14.1 = true then some ((-2), z14.2) else ((F223 n l1 z14.2).bind (fun z18 => (if am_ic .le l2 z18.1 = true then (if ¬ ((l2 - 1) < 0 ∨ 9 ≤ ((l2 - 1)).toNatClampNeg) then some ((z18.2.2.1 38 (Int32.toNatClampNeg (l2 - 1))), z18.2) else none) else some ((-2), z18.2))))) else some (z14.1, z14.2)))) else (if am_if .ne l2 = true then ((F223 n l1 z10.2).bind (fun z23 => (if am_ic .le l2 z23.1 = true then (if ¬ ((l2 - 1) < 0 ∨ 9 ≤ ((l2 - 1)).toNatClampNeg) then some ((z23.2.2.1 38 (Int32.toNatClampNeg (l2 - 1))), z23.2) else none) else some ((-2), z23.2)))) else some (1, z10.2))) else some ((-1), z10.2)))))))))))))
def F249f : Nat → Nat → Int32 → Int32 → mS → Option (Int32 × mS)
  | 0, _, _, _, _ => none
  | n + 1, c, l1, l2, S => F249b0 (F249f n) n l1 l2 S
theorem F249e0 (n : Nat) (l1 : Int32) (l2 : Int32) (S : mS) : F249f (n + 1) 0 l1 l2 S = F249b0 (F249f n) n l1 l2 S := rfl
def F249 (n : Nat) (l1 : Int32) (l2 : Int32) (S : mS) : Option (Int32 × mS) := F249f n 0 l1 l2 S
set_option maxRecDepth 20000 in
set_option maxHeartbeats 2000000 in
theorem F249l {xs : Nat → Int32} {L9 d : Nat} {h : AmH} {Q : Option Value → AmH → Prop} {r0 : Int32} {S0 : mS} (hh : 172 ≤ h.2.1) (hQ : Q (some (.int r0)) (mst S0 h)) : ∀ n : Nat, (∀ (l1 : Int32) (l2 : Int32) (S : mS), F249f n 0 l1 l2 S = some (r0, S0) → Go (am_X xs L9) (d + 2) 249 0 [.ref 130, .int l1, .int l2, .float 0] [] (mst S h) Q) := by
  intro n
  induction n with
  | zero => exact fun l1 l2 S hf => (by cases hf)
  | succ n ih =>
    intro l1 l2 S hf
    rw [F249e0] at hf
    unfold F249b0 at hf
    refine r_aload_n fe_249_0 rfl ?_
    refine r_callV (as := []) (r := []) fe_249_1 lm_12_457 md_210 rfl rfl (Nat.le_of_ble_eq_true rfl) m_c_0 (m_lt hh (by decide)) (Nat.le_of_ble_eq_true rfl) (Nat.le_of_ble_eq_true rfl) ?_
    cases hc2 : F210 n  S with
    | none => rw [hc2] at hf; cases hf
    | some z1 =>
      rw [hc2, Option.bind_some] at hf
      refine F210c (r0 := z1.1) (S0 := z1.2) hh hc2 ?_
      by_cases hb3 : am_if .eq z1.1 = true
      · rw [if_pos hb3] at hf
        refine r_if_t (t := 48) fe_249_4 (by decide) hb3 ?_
        refine r_iconst (v := -1) fe_249_48 (by decide) ?_
        refine r_iret fe_249_49 ⟨rfl, by decide⟩ ?_
        exact dfin (P := fun r T => Q (some (.int r)) (mst T h)) hf hQ
      · rw [if_neg hb3] at hf
        refine r_if_f (t := 48) fe_249_4 (by decide) (Bool.eq_false_iff.mpr hb3) ?_
        refine r_iload_n fe_249_7 rfl ?_
        refine r_i2l (v := (Int32.toInt64 l1)) fe_249_8 rfl ?_
        refine r_lconst (v := 0) fe_249_9 (by decide) ?_
        refine r_iconst (v := 1) fe_249_10 (by decide) ?_
        refine r_aload_n fe_249_11 rfl ?_
        refine mr_getf hh fe_249_12 lf_12_9 rfl ?_
        refine r_iconst (v := 4) fe_249_15 (by decide) ?_
        refine r_iald (j := 4) (v := z1.2.2.1 1 4) fe_249_16 m_c_1 (m_lt hh (by decide)) (by decide) (by decide) (by decide) rfl ?_
        refine r_ishl (v := (1 <<< ((z1.2.2.1 1 4) &&& 31))) fe_249_17 rfl ?_
        refine r_iconst (v := 1) fe_249_18 (by decide) ?_
        refine r_isub (v := ((1 <<< ((z1.2.2.1 1 4) &&& 31)) - 1)) fe_249_19 rfl ?_
        refine r_i2l (v := (Int32.toInt64 ((1 <<< ((z1.2.2.1 1 4) &&& 31)) - 1))) fe_249_20 rfl ?_
        refine r_callS (as := [.long (Int32.toInt64 l1), .long 0, .long (Int32.toInt64 ((1 <<< ((z1.2.2.1 1 4) &&& 31)) - 1))]) (r := []) fe_249_21 lm_12_143 md_172 rfl rfl (Nat.le_of_ble_eq_true rfl) (Nat.le_of_ble_eq_true rfl) (Nat.le_of_ble_eq_true rfl) ?_
        cases hc5 : F172 n (Int32.toInt64 l1) 0 (Int32.toInt64 ((1 <<< ((z1.2.2.1 1 4) &&& 31)) - 1)) z1.2 with
        | none => rw [hc5] at hf; cases hf
        | some z4 =>
          rw [hc5, Option.bind_some] at hf
          refine F172c (r0 := z4.1) (S0 := z4.2) hh hc5 ?_
          by_cases hb6 : am_if .eq z4.1 = true
          · rw [if_pos hb6] at hf
            refine r_if_t (t := 48) fe_249_24 (by decide) hb6 ?_
            refine r_iconst (v := -1) fe_249_48 (by decide) ?_
            refine r_iret fe_249_49 ⟨rfl, by decide⟩ ?_
            exact dfin (P := fun r T => Q (some (.int r)) (mst T h)) hf hQ
          · rw [if_neg hb6] at hf
            refine r_if_f (t := 48) fe_249_24 (by decide) (Bool.eq_false_iff.mpr hb6) ?_
            refine r_iload_n fe_249_27 rfl ?_
            refine r_callS (as := [.int l1]) (r := []) fe_249_28 lm_12_415 md_223 rfl rfl (Nat.le_of_ble_eq_true rfl) (Nat.le_of_ble_eq_true rfl) (Nat.le_of_ble_eq_true rfl) ?_
            cases hc8 : F223 n l1 z4.2 with
            | none => rw [hc8] at hf; cases hf
            | some z7 =>
              rw [hc8, Option.bind_some] at hf
              refine F223c (r0 := z7.1) (S0 := z7.2) hh hc8 ?_
              refine r_bipush (v := 8) fe_249_31 (by decide) ?_
              by_cases hb9 : am_ic .gt z7.1 8 = true
              · rw [if_pos hb9] at hf
                refine r_ic_t (t := 48) fe_249_33 (by decide) hb9 ?_
                refine r_iconst (v := -1) fe_249_48 (by decide) ?_
                refine r_iret fe_249_49 ⟨rfl, by decide⟩ ?_
                exact dfin (P := fun r T => Q (some (.int r)) (mst T h)) hf hQ
              · rw [if_neg hb9] at hf
                refine r_ic_f (t := 48) fe_249_33 (by decide) (Bool.eq_false_iff.mpr hb9) ?_
                refine r_iload_n fe_249_36 rfl ?_
                refine r_i2l (v := (Int32.toInt64 l2)) fe_249_37 rfl ?_
                refine r_lconst (v := 0) fe_249_38 (by decide) ?_
                refine r_ldc2 fe_249_39 lk_12_503 ?_
                refine r_callS (as := [.long (Int32.toInt64 l2), .long 0, .long 12]) (r := []) fe_249_42 lm_12_143 md_172 rfl rfl (Nat.le_of_ble_eq_true rfl) (Nat.le_of_ble_eq_true rfl) (Nat.le_of_ble_eq_true rfl) ?_
                cases hc11 : F172 n (Int32.toInt64 l2) 0 12 z7.2 with
                | none => rw [hc11] at hf; cases hf
                | some z10 =>
                  rw [hc11, Option.bind_some] at hf
                  refine F172c (r0 := z10.1) (S0 := z10.2) hh hc11 ?_
                  by_cases hb12 : am_if .ne z10.1 = true
                  · rw [if_pos hb12] at hf
                    refine r_if_t (t := 50) fe_249_45 (by decide) hb12 ?_
                    refine r_iload_n fe_249_50 rfl ?_
                    by_cases hb13 : am_if .ne l1 = true
                    · rw [if_pos hb13] at hf
                      refine r_if_t (t := 58) fe_249_51 (by decide) hb13 ?_
                      refine r_aload_n fe_249_58 rfl ?_
                      refine r_iload_n fe_249_59 rfl ?_
                      refine r_callV (as := [.int l1]) (r := []) fe_249_60 lm_12_505 md_250 rfl rfl (Nat.le_of_ble_eq_true rfl) m_c_0 (m_lt hh (by decide)) (Nat.le_of_ble_eq_true rfl) (Nat.le_of_ble_eq_true rfl) ?_
                      cases hc15 : F250 n l1 z10.2 with
                      | none => rw [hc15] at hf; cases hf
                      | some z14 =>
                        rw [hc15, Option.bind_some] at hf
                        refine F250c (r0 := z14.1) (S0 := z14.2) hh hc15 ?_
                        refine r_istore_n fe_249_63 (Nat.le_of_ble_eq_true rfl) rfl ?_
                        refine r_iload_n fe_249_64 rfl ?_
                        by_cases hb16 : am_if .ne l2 = true
                        · rw [if_pos hb16] at hf
                          refine r_if_t (t := 70) fe_249_65 (by decide) hb16 ?_
                          refine r_iload_n fe_249_70 rfl ?_
                          by_cases hb17 : am_if .eq z14.1 = true
                          · rw [if_pos hb17] at hf
                            refine r_if_t (t := 82) fe_249_71 (by decide) hb17 ?_
                            refine r_bipush (v := -2) fe_249_82 (by decide) ?_
                            refine r_goto (t := 95) fe_249_84 (by decide) ?_
                            refine r_iret fe_249_95 ⟨rfl, by decide⟩ ?_
                            exact dfin (P := fun r T => Q (some (.int r)) (mst T h)) hf hQ
                          · rw [if_neg hb17] at hf
                            refine r_if_f (t := 82) fe_249_71 (by decide) (Bool.eq_false_iff.mpr hb17) ?_
                            refine r_iload_n fe_249_74 rfl ?_
                            refine r_iload_n fe_249_75 rfl ?_
                            refine r_callS (as := [.int l1]) (r := [.int l2]) fe_249_76 lm_12_415 md_223 rfl rfl (Nat.le_of_ble_eq_true rfl) (Nat.le_of_ble_eq_true rfl) (Nat.le_of_ble_eq_true rfl) ?_
                            cases hc19 : F223 n l1 z14.2 with
                            | none => rw [hc19] at hf; cases hf
                            | some z18 =>
                              rw [hc19, Option.bind_some] at hf
                              refine F223c (r0 := z18.1) (S0 := z18.2) hh hc19 ?_
                              by_cases hb20 : am_ic .le l2 z18.1 = true
                              · rw [if_pos hb20] at hf
                                refine r_ic_t (t := 87) fe_249_79 (by decide) hb20 ?_
                                refine r_aload_n fe_249_87 rfl ?_
                                refine mr_getf hh fe_249_88 lf_12_127 rfl ?_
                                refine r_iload_n fe_249_91 rfl ?_
                                refine r_iconst (v := 1) fe_249_92 (by decide) ?_
                                refine r_isub (v := (l2 - 1)) fe_249_93 rfl ?_
                                by_cases hg21 : ¬ ((l2 - 1) < 0 ∨ 9 ≤ ((l2 - 1)).toNatClampNeg)
                                rotate_left
                                · rw [if_neg hg21] at hf; cases hf
                                rw [if_pos hg21] at hf
                                refine r_iald (j := (Int32.toNatClampNeg (l2 - 1))) (v := z18.2.2.1 38 (Int32.toNatClampNeg (l2 - 1))) fe_249_94 m_c_38 (m_lt hh (by decide)) (fun z => hg21 (Or.inl z)) rfl (fun z => hg21 (Or.inr z)) rfl ?_
                                refine r_iret fe_249_95 ⟨rfl, by decide⟩ ?_
                                exact dfin (P := fun r T => Q (some (.int r)) (mst T h)) hf hQ
                              · rw [if_neg hb20] at hf
                                refine r_ic_f (t := 87) fe_249_79 (by decide) (Bool.eq_false_iff.mpr hb20) ?_
                                refine r_bipush (v := -2) fe_249_82 (by decide) ?_
                                refine r_goto (t := 95) fe_249_84 (by decide) ?_
                                refine r_iret fe_249_95 ⟨rfl, by decide⟩ ?_
                                exact dfin (P := fun r T => Q (some (.int r)) (mst T h)) hf hQ
                        · rw [if_neg hb16] at hf
                          refine r_if_f (t := 70) fe_249_65 (by decide) (Bool.eq_false_iff.mpr hb16) ?_
                          refine r_iload_n fe_249_68 rfl ?_
                          refine r_iret fe_249_69 ⟨rfl, by decide⟩ ?_
                          exact dfin (P := fun r T => Q (some (.int r)) (mst T h)) hf hQ
                    · rw [if_neg hb13] at hf
                      refine r_if_f (t := 58) fe_249_51 (by decide) (Bool.eq_false_iff.mpr hb13) ?_
                      refine r_iconst (v := 1) fe_249_54 (by decide) ?_
                      refine r_goto (t := 63) fe_249_55 (by decide) ?_
                      refine r_istore_n fe_249_63 (Nat.le_of_ble_eq_true rfl) rfl ?_
                      refine r_iload_n fe_249_64 rfl ?_
                      by_cases hb22 : am_if .ne l2 = true
                      · rw [if_pos hb22] at hf
                        refine r_if_t (t := 70) fe_249_65 (by decide) hb22 ?_
                        refine r_iload_n fe_249_70 rfl ?_
                        refine r_if_f (t := 82) fe_249_71 (by decide) (by decide) ?_
                        refine r_iload_n fe_249_74 rfl ?_
                        refine r_iload_n fe_249_75 rfl ?_
                        refine r_callS (as := [.int l1]) (r := [.int l2]) fe_249_76 lm_12_415 md_223 rfl rfl (Nat.le_of_ble_eq_true rfl) (Nat.le_of_ble_eq_true rfl) (Nat.le_of_ble_eq_true rfl) ?_
                        cases hc24 : F223 n l1 z10.2 with
                        | none => rw [hc24] at hf; cases hf
                        | some z23 =>
                          rw [hc24, Option.bind_some] at hf
                          refine F223c (r0 := z23.1) (S0 := z23.2) hh hc24 ?_
                          by_cases hb25 : am_ic .le l2 z23.1 = true
                          · rw [if_pos hb25] at hf
                            refine r_ic_t (t := 87) fe_249_79 (by decide) hb25 ?_
                            refine r_aload_n fe_249_87 rfl ?_
                            refine mr_getf hh fe_249_88 lf_12_127 rfl ?_
                            refine r_iload_n fe_249_91 rfl ?_
                            refine r_iconst (v := 1) fe_249_92 (by decide) ?_
                            refine r_isub (v := (l2 - 1)) fe_249_93 rfl ?_
                            by_cases hg26 : ¬ ((l2 - 1) < 0 ∨ 9 ≤ ((l2 - 1)).toNatClampNeg)
                            rotate_left
                            · rw [if_neg hg26] at hf; cases hf
                            rw [if_pos hg26] at hf
                            refine r_iald (j := (Int32.toNatClampNeg (l2 - 1))) (v := z23.2.2.1 38 (Int32.toNatClampNeg (l2 - 1))) fe_249_94 m_c_38 (m_lt hh (by decide)) (fun z => hg26 (Or.inl z)) rfl (fun z => hg26 (Or.inr z)) rfl ?_
                            refine r_iret fe_249_95 ⟨rfl, by decide⟩ ?_
                            exact dfin (P := fun r T => Q (some (.int r)) (mst T h)) hf hQ
                          · rw [if_neg hb25] at hf
                            refine r_ic_f (t := 87) fe_249_79 (by decide) (Bool.eq_false_iff.mpr hb25) ?_
                            refine r_bipush (v := -2) fe_249_82 (by decide) ?_
                            refine r_goto (t := 95) fe_249_84 (by decide) ?_
                            refine r_iret fe_249_95 ⟨rfl, by decide⟩ ?_
                            exact dfin (P := fun r T => Q (some (.int r)) (mst T h)) hf hQ
                      · rw [if_neg hb22] at hf
                        refine r_if_f (t := 70) fe_249_65 (by decide) (Bool.eq_false_iff.mpr hb22) ?_
                        refine r_iload_n fe_249_68 rfl ?_
                        refine r_iret fe_249_69 ⟨rfl, by decide⟩ ?_
                        exact dfin (P := fun r T => Q (some (.int r)) (mst T h)) hf hQ
                  · rw [if_neg hb12] at hf
                    refine r_if_f (t := 50) fe_249_45 (by decide) (Bool.eq_false_iff.mpr hb12) ?_
                    refine r_iconst (v := -1) fe_249_48 (by decide) ?_
                    refine r_iret fe_249_49 ⟨rfl, by decide⟩ ?_
                    exact dfin (P := fun r T => Q (some (.int r)) (mst T h)) hf hQ
theorem F249c {xs : Nat → Int32} {L9 d n : Nat} {h : AmH} {Q : Option Value → AmH → Prop} {r0 : Int32} {S0 S : mS} {l1 : Int32} {l2 : Int32} (hh : 172 ≤ h.2.1) (hf : F249 n l1 l2 S = some (r0, S0)) (hQ : Q (some (.int r0)) (mst S0 h)) : Ca (am_X xs L9) (d + 2) 249 [.ref 130, .int l1, .int l2] (mst S h) Q := (F249l hh hQ n) l1 l2 S hf
def F252b0 (F : Nat → Int32 → Int32 → Int32 → Int32 → Int32 → mS → Option (Int32 × mS)) (n : Nat) (l1 : Int32) (l2 : Int32) (l3 : Int32) (l4 : Int32) (l5 : Int32) (S : mS) : Option (Int32 × mS) := F 13 0 l2 l1 0 0 (m_sI S 53 0)
def F252b13 (F : Nat → Int32 → Int32 → Int32 → Int32 → Int32 → mS → Option (Int32 × mS)) (n : Nat) (l1 : Int32) (l2 : Int32) (l3 : Int32) (l4 : Int32) (l5 : Int32) (S : mS) : Option (Int32 × mS) := (if am_ic .ge l5 l2 = true then some (l3, S) else (if am_ic .eq l3 (-1) = true then some (l3, S) else ((F215 n l3 S).bind (fun z3 => (if am_if .eq z3.1 = true then (if am_if .le l4 = true then (if ¬ (l3 < 0 ∨ 16 ≤ (l3).toNatClampNeg) then (if am_ic .ne (z3.2.2.1 2 (Int32.toNatClampNeg l3)) (-1) = true then (if ¬ ((z3.2.2.1 2 (Int32.toNatClampNeg l3)) < 0 ∨ 16 ≤ ((z3.2.2.1 2 (Int32.toNatClampNeg l3))).toNatClampNeg) then (if am_ic .eq (z3.2.2.1 2 (Int32.toNatClampNeg l3)) (-1) = true then F 13 0 l2 (z3.2.2.1 2 (Int32.toNatClampNeg l3)) (z3.2.2.1 3 (Int32.toNatClampNeg (z3.2.2.1 2 (Int32.toNatClampNeg l3)))) (l5 + 1) z3.2 else ((F197 n (z3.2.2.1 2 (Int32.toNatClampNeg l3)) z3.2).bind (fun z11 => (if am_ic .eq z11.1 (-1) = true then F 13 0 l2 (z3.2.2.1 2 (Int32.toNatClampNeg l3)) (z3.2.2.1 3 (Int32.toNatClampNeg (z3.2.2.1 2 (Int32.toNatClampNeg l3)))) (l5 + 1) z11.2 else ((F197 n (z3.2.2.1 2 (Int32.toNatClampNeg l3)) z11.2).bind (fun z14 => (if ¬ (z14.1 < 0 ∨ 6 ≤ (z14.1).toNatClampNeg) then (if ¬ ((z11.2.1 53) < 0 ∨ 21 ≤ ((z11.2.1 53)).toNatClampNeg) then F 13 0 l2 (z3.2.2.1 2 (Int32.toNatClampNeg l3)) (z3.2.2.1 3 (Int32.toNatClampNeg (z3.2.2.1 2 (Int32.toNatClampNeg l3)))) (l5 + 1) (m_sI (m_sA z14.2 39 (Int32.toNatClampNeg (z11.2.1 53)) (z14.2.2.1 5 (Int32.toNatClampNeg z14.1))) 53 (((m_sA z14.2 39 (Int32.toNatClampNeg (z11.2.1 53)) (z14.2.2.1 5 (Int32.toNatClampNeg z14.1))).1 53) + 1)) else none) else none))))))) else none) else (if am_ic .eq (z3.2.2.1 2 (Int32.toNatClampNeg l3)) (-1) = true then F 13 0 l2 (z3.2.2.1 2 (Int32.toNatClampNeg l3)) 0 (l5 + 1) z3.2 else ((F197 n (z3.2.2.1 2 (Int32.toNatClampNeg l3)) z3.2).bind (fun z19 => (if am_ic .eq z19.1 (-1) = true then F 13 0 l2 (z3.2.2.1 2 (Int32.toNatClampNeg l3)) 0 (l5 + 1) z19.2 else ((F197 n (z3.2.2.1 2 (Int32.toNatClampNeg l3)) z19.2).bind (fun z22 => (if ¬ (z22.1 < 0 ∨ 6 ≤ (z22.1).toNatClampNeg) then (if ¬ ((z19.2.1 53) < 0 ∨ 21 ≤ ((z19.2.1 53)).toNatClampNeg) then F 13 0 l2 (z3.2.2.1 2 (Int32.toNatClampNeg l3)) 0 (l5 + 1) (m_sI (m_sA z22.2 39 (Int32.toNatClampNeg (z19.2.1 53)) (z22.2.2.1 5 (Int32.toNatClampNeg z22.1))) 53 (((m_sA z22.2 39 (Int32.toNatClampNeg (z19.2.1 53)) (z22.2.2.1 5 (Int32.toNatClampNeg z22.1))).1 53) + 1)) else none) else none)))))))) else none) else F 13 0 l2 l3 (l4 + (-1)) (l5 + 1) z3.2) else some (l3, z3.2))))))
def F252f : Nat → Nat → Int32 → Int32 → Int32 → Int32 → Int32 → mS → Option (Int32 × mS)
  | 0, _, _, _, _, _, _, _ => none
  | n + 1, c, l1, l2, l3, l4, l5, S => if c = 0 then F252b0 (F252f n) n l1 l2 l3 l4 l5 S else F252b13 (F252f n) n l1 l2 l3 l4 l5 S
theorem F252e0 (n : Nat) (l1 : Int32) (l2 : Int32) (l3 : Int32) (l4 : Int32) (l5 : Int32) (S : mS) : F252f (n + 1) 0 l1 l2 l3 l4 l5 S = F252b0 (F252f n) n l1 l2 l3 l4 l5 S := if_pos rfl
theorem F252e13 (n : Nat) (l1 : Int32) (l2 : Int32) (l3 : Int32) (l4 : Int32) (l5 : Int32) (S : mS) : F252f (n + 1) 13 l1 l2 l3 l4 l5 S = F252b13 (F252f n) n l1 l2 l3 l4 l5 S := if_neg (by decide)
def F252 (n : Nat) (l1 : Int32) (l2 : Int32) (S : mS) : Option (Int32 × mS) := F252f n 0 l1 l2 0 0 0 S
set_option maxRecDepth 20000 in
set_option maxHeartbeats 2000000 in
theorem F252l {xs : Nat → Int32} {L9 d : Nat} {h : AmH} {Q : Option Value → AmH → Prop} {r0 : Int32} {S0 : mS} (hh : 172 ≤ h.2.1) (hQ : Q (some (.int r0)) (mst S0 h)) : ∀ n : Nat, (∀ (l1 : Int32) (l2 : Int32) (l3 : Int32) (l4 : Int32) (l5 : Int32) (S : mS), F252f n 0 l1 l2 l3 l4 l5 S = some (r0, S0) → Go (am_X xs L9) (d + 3) 252 0 [.ref 130, .int l1, .int l2, .float 0, .float 0, .float 0] [] (mst S h) Q) ∧ (∀ (l1 : Int32) (l2 : Int32) (l3 : Int32) (l4 : Int32) (l5 : Int32) (S : mS), F252f n 13 l1 l2 l3 l4 l5 S = some (r0, S0) → Go (am_X xs L9) (d + 3) 252 13 [.ref 130, .float 0, .int l2, .int l3, .int l4, .int l5] [] (mst S h) Q) := by
  intro n
  induction n with
  | zero => exact ⟨fun l1 l2 l3 l4 l5 S hf => (by cases hf), fun l1 l2 l3 l4 l5 S hf => (by cases hf)⟩
  | succ n ih =>
    refine ⟨?_, ?_⟩
    · intro l1 l2 l3 l4 l5 S hf
      rw [F252e0] at hf
      unfold F252b0 at hf
      refine r_iload_n fe_252_0 rfl ?_
      refine r_istore_n fe_252_1 (Nat.le_of_ble_eq_true rfl) rfl ?_
      refine r_iconst (v := 0) fe_252_2 (by decide) ?_
      refine r_istore fe_252_3 (Nat.le_of_ble_eq_true rfl) rfl ?_
      refine r_aload_n fe_252_5 rfl ?_
      refine r_iconst (v := 0) fe_252_6 (by decide) ?_
      refine mr_putf hh fe_252_7 lf_12_508 (m_f_53 _ _) (by decide) rfl rfl rfl ?_
      refine r_iconst (v := 0) fe_252_10 (by decide) ?_
      refine r_istore fe_252_11 (Nat.le_of_ble_eq_true rfl) rfl ?_
      refine go_weak (L0 := [.ref 130, .float 0, .int l2, .int l1, .int 0, .int 0]) (lwk_c (Or.inl rfl) (lwk_c (Or.inr rfl) (lwk_c (Or.inl rfl) (lwk_c (Or.inl rfl) (lwk_c (Or.inl rfl) (lwk_c (Or.inl rfl) (lwk_rf []))))))) ?_
      exact ih.2 0 l2 l1 0 0 (m_sI S 53 0) hf
    · intro l1 l2 l3 l4 l5 S hf
      rw [F252e13] at hf
      unfold F252b13 at hf
      refine r_iload fe_252_13 rfl ?_
      refine r_iload_n fe_252_15 rfl ?_
      by_cases hb1 : am_ic .ge l5 l2 = true
      · rw [if_pos hb1] at hf
        refine r_ic_t (t := 118) fe_252_16 (by decide) hb1 ?_
        refine r_iload_n fe_252_118 rfl ?_
        refine r_iret fe_252_119 ⟨rfl, by decide⟩ ?_
        exact dfin (P := fun r T => Q (some (.int r)) (mst T h)) hf hQ
      · rw [if_neg hb1] at hf
        refine r_ic_f (t := 118) fe_252_16 (by decide) (Bool.eq_false_iff.mpr hb1) ?_
        refine r_iload_n fe_252_19 rfl ?_
        refine r_iconst (v := -1) fe_252_20 (by decide) ?_
        by_cases hb2 : am_ic .eq l3 (-1) = true
        · rw [if_pos hb2] at hf
          refine r_ic_t (t := 32) fe_252_21 (by decide) hb2 ?_
          refine r_iload_n fe_252_32 rfl ?_
          refine r_iret fe_252_33 ⟨rfl, by decide⟩ ?_
          exact dfin (P := fun r T => Q (some (.int r)) (mst T h)) hf hQ
        · rw [if_neg hb2] at hf
          refine r_ic_f (t := 32) fe_252_21 (by decide) (Bool.eq_false_iff.mpr hb2) ?_
          refine r_aload_n fe_252_24 rfl ?_
          refine r_iload_n fe_252_25 rfl ?_
          refine r_callV (as := [.int l3]) (r := []) fe_252_26 lm_12_399 md_215 rfl rfl (Nat.le_of_ble_eq_true rfl) m_c_0 (m_lt hh (by decide)) (Nat.le_of_ble_eq_true rfl) (Nat.le_of_ble_eq_true rfl) ?_
          cases hc4 : F215 n l3 S with
          | none => rw [hc4] at hf; cases hf
          | some z3 =>
            rw [hc4, Option.bind_some] at hf
            refine F215c (r0 := z3.1) (S0 := z3.2) hh hc4 ?_
            by_cases hb5 : am_if .eq z3.1 = true
            · rw [if_pos hb5] at hf
              refine r_if_t (t := 34) fe_252_29 (by decide) hb5 ?_
              refine r_iload fe_252_34 rfl ?_
              by_cases hb6 : am_if .le l4 = true
              · rw [if_pos hb6] at hf
                refine r_if_t (t := 45) fe_252_36 (by decide) hb6 ?_
                refine r_aload_n fe_252_45 rfl ?_
                refine mr_getf hh fe_252_46 lf_12_13 rfl ?_
                refine r_iload_n fe_252_49 rfl ?_
                by_cases hg7 : ¬ (l3 < 0 ∨ 16 ≤ (l3).toNatClampNeg)
                rotate_left
                · rw [if_neg hg7] at hf; cases hf
                rw [if_pos hg7] at hf
                refine r_iald (j := (Int32.toNatClampNeg l3)) (v := z3.2.2.1 2 (Int32.toNatClampNeg l3)) fe_252_50 m_c_2 (m_lt hh (by decide)) (fun z => hg7 (Or.inl z)) rfl (fun z => hg7 (Or.inr z)) rfl ?_
                refine r_istore_n fe_252_51 (Nat.le_of_ble_eq_true rfl) rfl ?_
                refine r_iload_n fe_252_52 rfl ?_
                refine r_iconst (v := -1) fe_252_53 (by decide) ?_
                by_cases hb8 : am_ic .ne (z3.2.2.1 2 (Int32.toNatClampNeg l3)) (-1) = true
                · rw [if_pos hb8] at hf
                  refine r_ic_t (t := 61) fe_252_54 (by decide) hb8 ?_
                  refine r_aload_n fe_252_61 rfl ?_
                  refine mr_getf hh fe_252_62 lf_12_16 rfl ?_
                  refine r_iload_n fe_252_65 rfl ?_
                  by_cases hg9 : ¬ ((z3.2.2.1 2 (Int32.toNatClampNeg l3)) < 0 ∨ 16 ≤ ((z3.2.2.1 2 (Int32.toNatClampNeg l3))).toNatClampNeg)
                  rotate_left
                  · rw [if_neg hg9] at hf; cases hf
                  rw [if_pos hg9] at hf
                  refine r_iald (j := (Int32.toNatClampNeg (z3.2.2.1 2 (Int32.toNatClampNeg l3)))) (v := z3.2.2.1 3 (Int32.toNatClampNeg (z3.2.2.1 2 (Int32.toNatClampNeg l3)))) fe_252_66 m_c_3 (m_lt hh (by decide)) (fun z => hg9 (Or.inl z)) rfl (fun z => hg9 (Or.inr z)) rfl ?_
                  refine r_istore fe_252_67 (Nat.le_of_ble_eq_true rfl) rfl ?_
                  refine r_iload_n fe_252_69 rfl ?_
                  refine r_iconst (v := -1) fe_252_70 (by decide) ?_
                  by_cases hb10 : am_ic .eq (z3.2.2.1 2 (Int32.toNatClampNeg l3)) (-1) = true
                  · rw [if_pos hb10] at hf
                    refine r_ic_t (t := 112) fe_252_71 (by decide) hb10 ?_
                    refine r_iinc (v := (l5 + 1)) fe_252_112 rfl rfl rfl ?_
                    refine r_goto (t := 13) fe_252_115 (by decide) ?_
                    refine go_weak (L0 := [.ref 130, .float 0, .int l2, .int (z3.2.2.1 2 (Int32.toNatClampNeg l3)), .int (z3.2.2.1 3 (Int32.toNatClampNeg (z3.2.2.1 2 (Int32.toNatClampNeg l3)))), .int (l5 + 1)]) (lwk_c (Or.inl rfl) (lwk_c (Or.inl rfl) (lwk_c (Or.inl rfl) (lwk_c (Or.inl rfl) (lwk_c (Or.inl rfl) (lwk_c (Or.inl rfl) (lwk_rf []))))))) ?_
                    exact ih.2 0 l2 (z3.2.2.1 2 (Int32.toNatClampNeg l3)) (z3.2.2.1 3 (Int32.toNatClampNeg (z3.2.2.1 2 (Int32.toNatClampNeg l3)))) (l5 + 1) z3.2 hf
                  · rw [if_neg hb10] at hf
                    refine r_ic_f (t := 112) fe_252_71 (by decide) (Bool.eq_false_iff.mpr hb10) ?_
                    refine r_aload_n fe_252_74 rfl ?_
                    refine r_iload_n fe_252_75 rfl ?_
                    refine r_callV (as := [.int (z3.2.2.1 2 (Int32.toNatClampNeg l3))]) (r := []) fe_252_76 lm_12_381 md_197 rfl rfl (Nat.le_of_ble_eq_true rfl) m_c_0 (m_lt hh (by decide)) (Nat.le_of_ble_eq_true rfl) (Nat.le_of_ble_eq_true rfl) ?_
                    cases hc12 : F197 n (z3.2.2.1 2 (Int32.toNatClampNeg l3)) z3.2 with
                    | none => rw [hc12] at hf; cases hf
                    | some z11 =>
                      rw [hc12, Option.bind_some] at hf
                      refine F197c (r0 := z11.1) (S0 := z11.2) hh hc12 ?_
                      refine r_iconst (v := -1) fe_252_79 (by decide) ?_
                      by_cases hb13 : am_ic .eq z11.1 (-1) = true
                      · rw [if_pos hb13] at hf
                        refine r_ic_t (t := 112) fe_252_80 (by decide) hb13 ?_
                        refine r_iinc (v := (l5 + 1)) fe_252_112 rfl rfl rfl ?_
                        refine r_goto (t := 13) fe_252_115 (by decide) ?_
                        refine go_weak (L0 := [.ref 130, .float 0, .int l2, .int (z3.2.2.1 2 (Int32.toNatClampNeg l3)), .int (z3.2.2.1 3 (Int32.toNatClampNeg (z3.2.2.1 2 (Int32.toNatClampNeg l3)))), .int (l5 + 1)]) (lwk_c (Or.inl rfl) (lwk_c (Or.inl rfl) (lwk_c (Or.inl rfl) (lwk_c (Or.inl rfl) (lwk_c (Or.inl rfl) (lwk_c (Or.inl rfl) (lwk_rf []))))))) ?_
                        exact ih.2 0 l2 (z3.2.2.1 2 (Int32.toNatClampNeg l3)) (z3.2.2.1 3 (Int32.toNatClampNeg (z3.2.2.1 2 (Int32.toNatClampNeg l3)))) (l5 + 1) z11.2 hf
                      · rw [if_neg hb13] at hf
                        refine r_ic_f (t := 112) fe_252_80 (by decide) (Bool.eq_false_iff.mpr hb13) ?_
                        refine r_aload_n fe_252_83 rfl ?_
                        refine mr_getf hh fe_252_84 lf_12_130 rfl ?_
                        refine r_aload_n fe_252_87 rfl ?_
                        refine mr_getf hh fe_252_88 lf_12_508 rfl ?_
                        refine r_aload_n fe_252_91 rfl ?_
                        refine mr_getf hh fe_252_92 lf_12_22 rfl ?_
                        refine r_aload_n fe_252_95 rfl ?_
                        refine r_iload_n fe_252_96 rfl ?_
                        refine r_callV (as := [.int (z3.2.2.1 2 (Int32.toNatClampNeg l3))]) (r := [.ref 135, .int (z11.2.1 53), .ref 169]) fe_252_97 lm_12_381 md_197 rfl rfl (Nat.le_of_ble_eq_true rfl) m_c_0 (m_lt hh (by decide)) (Nat.le_of_ble_eq_true rfl) (Nat.le_of_ble_eq_true rfl) ?_
                        cases hc15 : F197 n (z3.2.2.1 2 (Int32.toNatClampNeg l3)) z11.2 with
                        | none => rw [hc15] at hf; cases hf
                        | some z14 =>
                          rw [hc15, Option.bind_some] at hf
                          refine F197c (r0 := z14.1) (S0 := z14.2) hh hc15 ?_
                          by_cases hg16 : ¬ (z14.1 < 0 ∨ 6 ≤ (z14.1).toNatClampNeg)
                          rotate_left
                          · rw [if_neg hg16] at hf; cases hf
                          rw [if_pos hg16] at hf
                          refine r_iald (j := (Int32.toNatClampNeg z14.1)) (v := z14.2.2.1 5 (Int32.toNatClampNeg z14.1)) fe_252_100 m_c_5 (m_lt hh (by decide)) (fun z => hg16 (Or.inl z)) rfl (fun z => hg16 (Or.inr z)) rfl ?_
                          by_cases hg17 : ¬ ((z11.2.1 53) < 0 ∨ 21 ≤ ((z11.2.1 53)).toNatClampNeg)
                          rotate_left
                          · rw [if_neg hg17] at hf; cases hf
                          rw [if_pos hg17] at hf
                          refine mr_iast (k := 39) (n := 21) (j := (Int32.toNatClampNeg (z11.2.1 53))) hh fe_252_101 rfl (by decide) (by decide) rfl rfl (fun z => hg17 (Or.inl z)) rfl (fun z => hg17 (Or.inr z)) ?_
                          refine r_aload_n fe_252_102 rfl ?_
                          refine r_dup fe_252_103 rfl ?_
                          refine mr_getf hh fe_252_104 lf_12_508 rfl ?_
                          refine r_iconst (v := 1) fe_252_107 (by decide) ?_
                          refine r_iadd (v := (((m_sA z14.2 39 (Int32.toNatClampNeg (z11.2.1 53)) (z14.2.2.1 5 (Int32.toNatClampNeg z14.1))).1 53) + 1)) fe_252_108 rfl ?_
                          refine mr_putf hh fe_252_109 lf_12_508 (m_f_53 _ _) (by decide) rfl rfl rfl ?_
                          refine r_iinc (v := (l5 + 1)) fe_252_112 rfl rfl rfl ?_
                          refine r_goto (t := 13) fe_252_115 (by decide) ?_
                          refine go_weak (L0 := [.ref 130, .float 0, .int l2, .int (z3.2.2.1 2 (Int32.toNatClampNeg l3)), .int (z3.2.2.1 3 (Int32.toNatClampNeg (z3.2.2.1 2 (Int32.toNatClampNeg l3)))), .int (l5 + 1)]) (lwk_c (Or.inl rfl) (lwk_c (Or.inl rfl) (lwk_c (Or.inl rfl) (lwk_c (Or.inl rfl) (lwk_c (Or.inl rfl) (lwk_c (Or.inl rfl) (lwk_rf []))))))) ?_
                          exact ih.2 0 l2 (z3.2.2.1 2 (Int32.toNatClampNeg l3)) (z3.2.2.1 3 (Int32.toNatClampNeg (z3.2.2.1 2 (Int32.toNatClampNeg l3)))) (l5 + 1) (m_sI (m_sA z14.2 39 (Int32.toNatClampNeg (z11.2.1 53)) (z14.2.2.1 5 (Int32.toNatClampNeg z14.1))) 53 (((m_sA z14.2 39 (Int32.toNatClampNeg (z11.2.1 53)) (z14.2.2.1 5 (Int32.toNatClampNeg z14.1))).1 53) + 1)) hf
                · rw [if_neg hb8] at hf
                  refine r_ic_f (t := 61) fe_252_54 (by decide) (Bool.eq_false_iff.mpr hb8) ?_
                  refine r_iconst (v := 0) fe_252_57 (by decide) ?_
                  refine r_goto (t := 67) fe_252_58 (by decide) ?_
                  refine r_istore fe_252_67 (Nat.le_of_ble_eq_true rfl) rfl ?_
                  refine r_iload_n fe_252_69 rfl ?_
                  refine r_iconst (v := -1) fe_252_70 (by decide) ?_
                  by_cases hb18 : am_ic .eq (z3.2.2.1 2 (Int32.toNatClampNeg l3)) (-1) = true
                  · rw [if_pos hb18] at hf
                    refine r_ic_t (t := 112) fe_252_71 (by decide) hb18 ?_
                    refine r_iinc (v := (l5 + 1)) fe_252_112 rfl rfl rfl ?_
                    refine r_goto (t := 13) fe_252_115 (by decide) ?_
                    refine go_weak (L0 := [.ref 130, .float 0, .int l2, .int (z3.2.2.1 2 (Int32.toNatClampNeg l3)), .int 0, .int (l5 + 1)]) (lwk_c (Or.inl rfl) (lwk_c (Or.inl rfl) (lwk_c (Or.inl rfl) (lwk_c (Or.inl rfl) (lwk_c (Or.inl rfl) (lwk_c (Or.inl rfl) (lwk_rf []))))))) ?_
                    exact ih.2 0 l2 (z3.2.2.1 2 (Int32.toNatClampNeg l3)) 0 (l5 + 1) z3.2 hf
                  · rw [if_neg hb18] at hf
                    refine r_ic_f (t := 112) fe_252_71 (by decide) (Bool.eq_false_iff.mpr hb18) ?_
                    refine r_aload_n fe_252_74 rfl ?_
                    refine r_iload_n fe_252_75 rfl ?_
                    refine r_callV (as := [.int (z3.2.2.1 2 (Int32.toNatClampNeg l3))]) (r := []) fe_252_76 lm_12_381 md_197 rfl rfl (Nat.le_of_ble_eq_true rfl) m_c_0 (m_lt hh (by decide)) (Nat.le_of_ble_eq_true rfl) (Nat.le_of_ble_eq_true rfl) ?_
                    cases hc20 : F197 n (z3.2.2.1 2 (Int32.toNatClampNeg l3)) z3.2 with
                    | none => rw [hc20] at hf; cases hf
                    | some z19 =>
                      rw [hc20, Option.bind_some] at hf
                      refine F197c (r0 := z19.1) (S0 := z19.2) hh hc20 ?_
                      refine r_iconst (v := -1) fe_252_79 (by decide) ?_
                      by_cases hb21 : am_ic .eq z19.1 (-1) = true
                      · rw [if_pos hb21] at hf
                        refine r_ic_t (t := 112) fe_252_80 (by decide) hb21 ?_
                        refine r_iinc (v := (l5 + 1)) fe_252_112 rfl rfl rfl ?_
                        refine r_goto (t := 13) fe_252_115 (by decide) ?_
                        refine go_weak (L0 := [.ref 130, .float 0, .int l2, .int (z3.2.2.1 2 (Int32.toNatClampNeg l3)), .int 0, .int (l5 + 1)]) (lwk_c (Or.inl rfl) (lwk_c (Or.inl rfl) (lwk_c (Or.inl rfl) (lwk_c (Or.inl rfl) (lwk_c (Or.inl rfl) (lwk_c (Or.inl rfl) (lwk_rf []))))))) ?_
                        exact ih.2 0 l2 (z3.2.2.1 2 (Int32.toNatClampNeg l3)) 0 (l5 + 1) z19.2 hf
                      · rw [if_neg hb21] at hf
                        refine r_ic_f (t := 112) fe_252_80 (by decide) (Bool.eq_false_iff.mpr hb21) ?_
                        refine r_aload_n fe_252_83 rfl ?_
                        refine mr_getf hh fe_252_84 lf_12_130 rfl ?_
                        refine r_aload_n fe_252_87 rfl ?_
                        refine mr_getf hh fe_252_88 lf_12_508 rfl ?_
                        refine r_aload_n fe_252_91 rfl ?_
                        refine mr_getf hh fe_252_92 lf_12_22 rfl ?_
                        refine r_aload_n fe_252_95 rfl ?_
                        refine r_iload_n fe_252_96 rfl ?_
                        refine r_callV (as := [.int (z3.2.2.1 2 (Int32.toNatClampNeg l3))]) (r := [.ref 135, .int (z19.2.1 53), .ref 169]) fe_252_97 lm_12_381 md_197 rfl rfl (Nat.le_of_ble_eq_true rfl) m_c_0 (m_lt hh (by decide)) (Nat.le_of_ble_eq_true rfl) (Nat.le_of_ble_eq_true rfl) ?_
                        cases hc23 : F197 n (z3.2.2.1 2 (Int32.toNatClampNeg l3)) z19.2 with
                        | none => rw [hc23] at hf; cases hf
                        | some z22 =>
                          rw [hc23, Option.bind_some] at hf
                          refine F197c (r0 := z22.1) (S0 := z22.2) hh hc23 ?_
                          by_cases hg24 : ¬ (z22.1 < 0 ∨ 6 ≤ (z22.1).toNatClampNeg)
                          rotate_left
                          · rw [if_neg hg24] at hf; cases hf
                          rw [if_pos hg24] at hf
                          refine r_iald (j := (Int32.toNatClampNeg z22.1)) (v := z22.2.2.1 5 (Int32.toNatClampNeg z22.1)) fe_252_100 m_c_5 (m_lt hh (by decide)) (fun z => hg24 (Or.inl z)) rfl (fun z => hg24 (Or.inr z)) rfl ?_
                          by_cases hg25 : ¬ ((z19.2.1 53) < 0 ∨ 21 ≤ ((z19.2.1 53)).toNatClampNeg)
                          rotate_left
                          · rw [if_neg hg25] at hf; cases hf
                          rw [if_pos hg25] at hf
                          refine mr_iast (k := 39) (n := 21) (j := (Int32.toNatClampNeg (z19.2.1 53))) hh fe_252_101 rfl (by decide) (by decide) rfl rfl (fun z => hg25 (Or.inl z)) rfl (fun z => hg25 (Or.inr z)) ?_
                          refine r_aload_n fe_252_102 rfl ?_
                          refine r_dup fe_252_103 rfl ?_
                          refine mr_getf hh fe_252_104 lf_12_508 rfl ?_
                          refine r_iconst (v := 1) fe_252_107 (by decide) ?_
                          refine r_iadd (v := (((m_sA z22.2 39 (Int32.toNatClampNeg (z19.2.1 53)) (z22.2.2.1 5 (Int32.toNatClampNeg z22.1))).1 53) + 1)) fe_252_108 rfl ?_
                          refine mr_putf hh fe_252_109 lf_12_508 (m_f_53 _ _) (by decide) rfl rfl rfl ?_
                          refine r_iinc (v := (l5 + 1)) fe_252_112 rfl rfl rfl ?_
                          refine r_goto (t := 13) fe_252_115 (by decide) ?_
                          refine go_weak (L0 := [.ref 130, .float 0, .int l2, .int (z3.2.2.1 2 (Int32.toNatClampNeg l3)), .int 0, .int (l5 + 1)]) (lwk_c (Or.inl rfl) (lwk_c (Or.inl rfl) (lwk_c (Or.inl rfl) (lwk_c (Or.inl rfl) (lwk_c (Or.inl rfl) (lwk_c (Or.inl rfl) (lwk_rf []))))))) ?_
                          exact ih.2 0 l2 (z3.2.2.1 2 (Int32.toNatClampNeg l3)) 0 (l5 + 1) (m_sI (m_sA z22.2 39 (Int32.toNatClampNeg (z19.2.1 53)) (z22.2.2.1 5 (Int32.toNatClampNeg z22.1))) 53 (((m_sA z22.2 39 (Int32.toNatClampNeg (z19.2.1 53)) (z22.2.2.1 5 (Int32.toNatClampNeg z22.1))).1 53) + 1)) hf
              · rw [if_neg hb6] at hf
                refine r_if_f (t := 45) fe_252_36 (by decide) (Bool.eq_false_iff.mpr hb6) ?_
                refine r_iinc (v := (l4 + (-1))) fe_252_39 rfl rfl rfl ?_
                refine r_goto (t := 112) fe_252_42 (by decide) ?_
                refine r_iinc (v := (l5 + 1)) fe_252_112 rfl rfl rfl ?_
                refine r_goto (t := 13) fe_252_115 (by decide) ?_
                refine go_weak (L0 := [.ref 130, .float 0, .int l2, .int l3, .int (l4 + (-1)), .int (l5 + 1)]) (lwk_c (Or.inl rfl) (lwk_c (Or.inl rfl) (lwk_c (Or.inl rfl) (lwk_c (Or.inl rfl) (lwk_c (Or.inl rfl) (lwk_c (Or.inl rfl) (lwk_rf []))))))) ?_
                exact ih.2 0 l2 l3 (l4 + (-1)) (l5 + 1) z3.2 hf
            · rw [if_neg hb5] at hf
              refine r_if_f (t := 34) fe_252_29 (by decide) (Bool.eq_false_iff.mpr hb5) ?_
              refine r_iload_n fe_252_32 rfl ?_
              refine r_iret fe_252_33 ⟨rfl, by decide⟩ ?_
              exact dfin (P := fun r T => Q (some (.int r)) (mst T h)) hf hQ
theorem F252c {xs : Nat → Int32} {L9 d n : Nat} {h : AmH} {Q : Option Value → AmH → Prop} {r0 : Int32} {S0 S : mS} {l1 : Int32} {l2 : Int32} (hh : 172 ≤ h.2.1) (hf : F252 n l1 l2 S = some (r0, S0)) (hQ : Q (some (.int r0)) (mst S0 h)) : Ca (am_X xs L9) (d + 3) 252 [.ref 130, .int l1, .int l2] (mst S h) Q := (F252l hh hQ n).1 l1 l2 0 0 0 S hf
def F253b0 (F : Nat → Int32 → Int32 → Int32 → Int32 → Int32 → Int32 → mS → Option (Int32 × mS)) (n : Nat) (l1 : Int32) (l2 : Int32) (l3 : Int32) (l4 : Int32) (l5 : Int32) (l6 : Int32) (S : mS) : Option (Int32 × mS) := ((F217 n l1 S).bind (fun z1 => F 7 l1 z1.1 1 0 0 0 z1.2))
def F253b7 (F : Nat → Int32 → Int32 → Int32 → Int32 → Int32 → Int32 → mS → Option (Int32 × mS)) (n : Nat) (l1 : Int32) (l2 : Int32) (l3 : Int32) (l4 : Int32) (l5 : Int32) (l6 : Int32) (S : mS) : Option (Int32 × mS) := (if am_ic .gt l3 l2 = true then some (0, S) else (if am_ic .ge l2 8 = true then (if am_ic .gt (l2 - l3) (S.1 53) = true then F 59 l1 l2 l3 (l2 - l3) 0 0 S else F 59 l1 l2 l3 (l2 - l3) 1 0 S) else (if am_ic .ne (l2 - l3) (S.1 53) = true then F 59 l1 l2 l3 (l2 - l3) 0 0 S else F 59 l1 l2 l3 (l2 - l3) 1 0 S)))
def F253b59 (F : Nat → Int32 → Int32 → Int32 → Int32 → Int32 → Int32 → mS → Option (Int32 × mS)) (n : Nat) (l1 : Int32) (l2 : Int32) (l3 : Int32) (l4 : Int32) (l5 : Int32) (l6 : Int32) (S : mS) : Option (Int32 × mS) := (if am_ic .ge l6 l4 = true then (if am_if .eq l5 = true then F 7 l1 l2 (l3 + 1) 0 0 0 S else some (1, S)) else (if am_if .eq l5 = true then (if am_if .eq l5 = true then F 7 l1 l2 (l3 + 1) 0 0 0 S else some (1, S)) else ((F228 n ((l4 - 1) - l6) S).bind (fun z11 => (if z11.1 = 0 then none else (if ¬ (l6 < 0 ∨ 21 ≤ (l6).toNatClampNeg) then (if am_ic .ne ((l1 / z11.1) - (l1 / z11.1) / 10 * 10) (z11.2.2.1 39 (Int32.toNatClampNeg l6)) = true then F 59 l1 l2 l3 l4 0 (l6 + 1) z11.2 else F 59 l1 l2 l3 l4 1 (l6 + 1) z11.2) else none))))))
def F253f : Nat → Nat → Int32 → Int32 → Int32 → Int32 → Int32 → Int32 → mS → Option (Int32 × mS)
  | 0, _, _, _, _, _, _, _, _ => none
  | n + 1, c, l1, l2, l3, l4, l5, l6, S => if c = 0 then F253b0 (F253f n) n l1 l2 l3 l4 l5 l6 S else if c = 7 then F253b7 (F253f n) n l1 l2 l3 l4 l5 l6 S else F253b59 (F253f n) n l1 l2 l3 l4 l5 l6 S
theorem F253e0 (n : Nat) (l1 : Int32) (l2 : Int32) (l3 : Int32) (l4 : Int32) (l5 : Int32) (l6 : Int32) (S : mS) : F253f (n + 1) 0 l1 l2 l3 l4 l5 l6 S = F253b0 (F253f n) n l1 l2 l3 l4 l5 l6 S := if_pos rfl
theorem F253e7 (n : Nat) (l1 : Int32) (l2 : Int32) (l3 : Int32) (l4 : Int32) (l5 : Int32) (l6 : Int32) (S : mS) : F253f (n + 1) 7 l1 l2 l3 l4 l5 l6 S = F253b7 (F253f n) n l1 l2 l3 l4 l5 l6 S := (if_neg (by decide)).trans (if_pos rfl)
theorem F253e59 (n : Nat) (l1 : Int32) (l2 : Int32) (l3 : Int32) (l4 : Int32) (l5 : Int32) (l6 : Int32) (S : mS) : F253f (n + 1) 59 l1 l2 l3 l4 l5 l6 S = F253b59 (F253f n) n l1 l2 l3 l4 l5 l6 S := (if_neg (by decide)).trans (if_neg (by decide))
def F253 (n : Nat) (l1 : Int32) (S : mS) : Option (Int32 × mS) := F253f n 0 l1 0 0 0 0 0 S
set_option maxRecDepth 20000 in
set_option maxHeartbeats 2000000 in
theorem F253l {xs : Nat → Int32} {L9 d : Nat} {h : AmH} {Q : Option Value → AmH → Prop} {r0 : Int32} {S0 : mS} (hh : 172 ≤ h.2.1) (hQ : Q (some (.int r0)) (mst S0 h)) : ∀ n : Nat, (∀ (l1 : Int32) (l2 : Int32) (l3 : Int32) (l4 : Int32) (l5 : Int32) (l6 : Int32) (S : mS), F253f n 0 l1 l2 l3 l4 l5 l6 S = some (r0, S0) → Go (am_X xs L9) (d + 1) 253 0 [.ref 130, .int l1, .float 0, .float 0, .float 0, .float 0, .float 0] [] (mst S h) Q) ∧ (∀ (l1 : Int32) (l2 : Int32) (l3 : Int32) (l4 : Int32) (l5 : Int32) (l6 : Int32) (S : mS), F253f n 7 l1 l2 l3 l4 l5 l6 S = some (r0, S0) → Go (am_X xs L9) (d + 1) 253 7 [.ref 130, .int l1, .int l2, .int l3, .float 0, .float 0, .float 0] [] (mst S h) Q) ∧ (∀ (l1 : Int32) (l2 : Int32) (l3 : Int32) (l4 : Int32) (l5 : Int32) (l6 : Int32) (S : mS), F253f n 59 l1 l2 l3 l4 l5 l6 S = some (r0, S0) → Go (am_X xs L9) (d + 1) 253 59 [.ref 130, .int l1, .int l2, .int l3, .int l4, .int l5, .int l6] [] (mst S h) Q) := by
  intro n
  induction n with
  | zero => exact ⟨fun l1 l2 l3 l4 l5 l6 S hf => (by cases hf), fun l1 l2 l3 l4 l5 l6 S hf => (by cases hf), fun l1 l2 l3 l4 l5 l6 S hf => (by cases hf)⟩
  | succ n ih =>
    refine ⟨?_, ?_, ?_⟩
    · intro l1 l2 l3 l4 l5 l6 S hf
      rw [F253e0] at hf
      unfold F253b0 at hf
      refine r_iload_n fe_253_0 rfl ?_
      refine r_callS (as := [.int l1]) (r := []) fe_253_1 lm_12_151 md_217 rfl rfl (Nat.le_of_ble_eq_true rfl) (Nat.le_of_ble_eq_true rfl) (Nat.le_of_ble_eq_true rfl) ?_
      cases hc2 : F217 n l1 S with
      | none => rw [hc2] at hf; cases hf
      | some z1 =>
        rw [hc2, Option.bind_some] at hf
        refine F217c (r0 := z1.1) (S0 := z1.2) hh hc2 ?_
        refine r_istore_n fe_253_4 (Nat.le_of_ble_eq_true rfl) rfl ?_
        refine r_iconst (v := 1) fe_253_5 (by decide) ?_
        refine r_istore_n fe_253_6 (Nat.le_of_ble_eq_true rfl) rfl ?_
        refine go_weak (L0 := [.ref 130, .int l1, .int z1.1, .int 1, .float 0, .float 0, .float 0]) (lwk_c (Or.inl rfl) (lwk_c (Or.inl rfl) (lwk_c (Or.inl rfl) (lwk_c (Or.inl rfl) (lwk_c (Or.inl rfl) (lwk_c (Or.inl rfl) (lwk_c (Or.inl rfl) (lwk_rf [])))))))) ?_
        exact ih.2.1 l1 z1.1 1 0 0 0 z1.2 hf
    · intro l1 l2 l3 l4 l5 l6 S hf
      rw [F253e7] at hf
      unfold F253b7 at hf
      refine r_iload_n fe_253_7 rfl ?_
      refine r_iload_n fe_253_8 rfl ?_
      by_cases hb3 : am_ic .gt l3 l2 = true
      · rw [if_pos hb3] at hf
        refine r_ic_t (t := 122) fe_253_9 (by decide) hb3 ?_
        refine r_iconst (v := 0) fe_253_122 (by decide) ?_
        refine r_iret fe_253_123 ⟨rfl, by decide⟩ ?_
        exact dfin (P := fun r T => Q (some (.int r)) (mst T h)) hf hQ
      · rw [if_neg hb3] at hf
        refine r_ic_f (t := 122) fe_253_9 (by decide) (Bool.eq_false_iff.mpr hb3) ?_
        refine r_iload_n fe_253_12 rfl ?_
        refine r_iload_n fe_253_13 rfl ?_
        refine r_isub (v := (l2 - l3)) fe_253_14 rfl ?_
        refine r_istore fe_253_15 (Nat.le_of_ble_eq_true rfl) rfl ?_
        refine r_iload_n fe_253_17 rfl ?_
        refine r_bipush (v := 8) fe_253_18 (by decide) ?_
        by_cases hb4 : am_ic .ge l2 8 = true
        · rw [if_pos hb4] at hf
          refine r_ic_t (t := 40) fe_253_20 (by decide) hb4 ?_
          refine r_iload fe_253_40 rfl ?_
          refine r_aload_n fe_253_42 rfl ?_
          refine mr_getf hh fe_253_43 lf_12_508 rfl ?_
          by_cases hb5 : am_ic .gt (l2 - l3) (S.1 53) = true
          · rw [if_pos hb5] at hf
            refine r_ic_t (t := 53) fe_253_46 (by decide) hb5 ?_
            refine r_iconst (v := 0) fe_253_53 (by decide) ?_
            refine r_istore fe_253_54 (Nat.le_of_ble_eq_true rfl) rfl ?_
            refine r_iconst (v := 0) fe_253_56 (by decide) ?_
            refine r_istore fe_253_57 (Nat.le_of_ble_eq_true rfl) rfl ?_
            refine go_weak (L0 := [.ref 130, .int l1, .int l2, .int l3, .int (l2 - l3), .int 0, .int 0]) (lwk_c (Or.inl rfl) (lwk_c (Or.inl rfl) (lwk_c (Or.inl rfl) (lwk_c (Or.inl rfl) (lwk_c (Or.inl rfl) (lwk_c (Or.inl rfl) (lwk_c (Or.inl rfl) (lwk_rf [])))))))) ?_
            exact ih.2.2 l1 l2 l3 (l2 - l3) 0 0 S hf
          · rw [if_neg hb5] at hf
            refine r_ic_f (t := 53) fe_253_46 (by decide) (Bool.eq_false_iff.mpr hb5) ?_
            refine r_iconst (v := 1) fe_253_49 (by decide) ?_
            refine r_goto (t := 54) fe_253_50 (by decide) ?_
            refine r_istore fe_253_54 (Nat.le_of_ble_eq_true rfl) rfl ?_
            refine r_iconst (v := 0) fe_253_56 (by decide) ?_
            refine r_istore fe_253_57 (Nat.le_of_ble_eq_true rfl) rfl ?_
            refine go_weak (L0 := [.ref 130, .int l1, .int l2, .int l3, .int (l2 - l3), .int 1, .int 0]) (lwk_c (Or.inl rfl) (lwk_c (Or.inl rfl) (lwk_c (Or.inl rfl) (lwk_c (Or.inl rfl) (lwk_c (Or.inl rfl) (lwk_c (Or.inl rfl) (lwk_c (Or.inl rfl) (lwk_rf [])))))))) ?_
            exact ih.2.2 l1 l2 l3 (l2 - l3) 1 0 S hf
        · rw [if_neg hb4] at hf
          refine r_ic_f (t := 40) fe_253_20 (by decide) (Bool.eq_false_iff.mpr hb4) ?_
          refine r_iload fe_253_23 rfl ?_
          refine r_aload_n fe_253_25 rfl ?_
          refine mr_getf hh fe_253_26 lf_12_508 rfl ?_
          by_cases hb6 : am_ic .ne (l2 - l3) (S.1 53) = true
          · rw [if_pos hb6] at hf
            refine r_ic_t (t := 36) fe_253_29 (by decide) hb6 ?_
            refine r_iconst (v := 0) fe_253_36 (by decide) ?_
            refine r_goto (t := 54) fe_253_37 (by decide) ?_
            refine r_istore fe_253_54 (Nat.le_of_ble_eq_true rfl) rfl ?_
            refine r_iconst (v := 0) fe_253_56 (by decide) ?_
            refine r_istore fe_253_57 (Nat.le_of_ble_eq_true rfl) rfl ?_
            refine go_weak (L0 := [.ref 130, .int l1, .int l2, .int l3, .int (l2 - l3), .int 0, .int 0]) (lwk_c (Or.inl rfl) (lwk_c (Or.inl rfl) (lwk_c (Or.inl rfl) (lwk_c (Or.inl rfl) (lwk_c (Or.inl rfl) (lwk_c (Or.inl rfl) (lwk_c (Or.inl rfl) (lwk_rf [])))))))) ?_
            exact ih.2.2 l1 l2 l3 (l2 - l3) 0 0 S hf
          · rw [if_neg hb6] at hf
            refine r_ic_f (t := 36) fe_253_29 (by decide) (Bool.eq_false_iff.mpr hb6) ?_
            refine r_iconst (v := 1) fe_253_32 (by decide) ?_
            refine r_goto (t := 54) fe_253_33 (by decide) ?_
            refine r_istore fe_253_54 (Nat.le_of_ble_eq_true rfl) rfl ?_
            refine r_iconst (v := 0) fe_253_56 (by decide) ?_
            refine r_istore fe_253_57 (Nat.le_of_ble_eq_true rfl) rfl ?_
            refine go_weak (L0 := [.ref 130, .int l1, .int l2, .int l3, .int (l2 - l3), .int 1, .int 0]) (lwk_c (Or.inl rfl) (lwk_c (Or.inl rfl) (lwk_c (Or.inl rfl) (lwk_c (Or.inl rfl) (lwk_c (Or.inl rfl) (lwk_c (Or.inl rfl) (lwk_c (Or.inl rfl) (lwk_rf [])))))))) ?_
            exact ih.2.2 l1 l2 l3 (l2 - l3) 1 0 S hf
    · intro l1 l2 l3 l4 l5 l6 S hf
      rw [F253e59] at hf
      unfold F253b59 at hf
      refine r_iload fe_253_59 rfl ?_
      refine r_iload fe_253_61 rfl ?_
      by_cases hb7 : am_ic .ge l6 l4 = true
      · rw [if_pos hb7] at hf
        refine r_ic_t (t := 109) fe_253_63 (by decide) hb7 ?_
        refine r_iload fe_253_109 rfl ?_
        by_cases hb8 : am_if .eq l5 = true
        · rw [if_pos hb8] at hf
          refine r_if_t (t := 116) fe_253_111 (by decide) hb8 ?_
          refine r_iinc (v := (l3 + 1)) fe_253_116 rfl rfl rfl ?_
          refine r_goto (t := 7) fe_253_119 (by decide) ?_
          refine go_weak (L0 := [.ref 130, .int l1, .int l2, .int (l3 + 1), .float 0, .float 0, .float 0]) (lwk_c (Or.inl rfl) (lwk_c (Or.inl rfl) (lwk_c (Or.inl rfl) (lwk_c (Or.inl rfl) (lwk_c (Or.inr rfl) (lwk_c (Or.inr rfl) (lwk_c (Or.inr rfl) (lwk_rf [])))))))) ?_
          exact ih.2.1 l1 l2 (l3 + 1) 0 0 0 S hf
        · rw [if_neg hb8] at hf
          refine r_if_f (t := 116) fe_253_111 (by decide) (Bool.eq_false_iff.mpr hb8) ?_
          refine r_iconst (v := 1) fe_253_114 (by decide) ?_
          refine r_iret fe_253_115 ⟨rfl, by decide⟩ ?_
          exact dfin (P := fun r T => Q (some (.int r)) (mst T h)) hf hQ
      · rw [if_neg hb7] at hf
        refine r_ic_f (t := 109) fe_253_63 (by decide) (Bool.eq_false_iff.mpr hb7) ?_
        refine r_iload fe_253_66 rfl ?_
        by_cases hb9 : am_if .eq l5 = true
        · rw [if_pos hb9] at hf
          refine r_if_t (t := 109) fe_253_68 (by decide) hb9 ?_
          refine r_iload fe_253_109 rfl ?_
          by_cases hb10 : am_if .eq l5 = true
          · rw [if_pos hb10] at hf
            refine r_if_t (t := 116) fe_253_111 (by decide) hb10 ?_
            refine r_iinc (v := (l3 + 1)) fe_253_116 rfl rfl rfl ?_
            refine r_goto (t := 7) fe_253_119 (by decide) ?_
            refine go_weak (L0 := [.ref 130, .int l1, .int l2, .int (l3 + 1), .float 0, .float 0, .float 0]) (lwk_c (Or.inl rfl) (lwk_c (Or.inl rfl) (lwk_c (Or.inl rfl) (lwk_c (Or.inl rfl) (lwk_c (Or.inr rfl) (lwk_c (Or.inr rfl) (lwk_c (Or.inr rfl) (lwk_rf [])))))))) ?_
            exact ih.2.1 l1 l2 (l3 + 1) 0 0 0 S hf
          · rw [if_neg hb10] at hf
            refine r_if_f (t := 116) fe_253_111 (by decide) (Bool.eq_false_iff.mpr hb10) ?_
            refine r_iconst (v := 1) fe_253_114 (by decide) ?_
            refine r_iret fe_253_115 ⟨rfl, by decide⟩ ?_
            exact dfin (P := fun r T => Q (some (.int r)) (mst T h)) hf hQ
        · rw [if_neg hb9] at hf
          refine r_if_f (t := 109) fe_253_68 (by decide) (Bool.eq_false_iff.mpr hb9) ?_
          refine r_iload_n fe_253_71 rfl ?_
          refine r_iload fe_253_72 rfl ?_
          refine r_iconst (v := 1) fe_253_74 (by decide) ?_
          refine r_isub (v := (l4 - 1)) fe_253_75 rfl ?_
          refine r_iload fe_253_76 rfl ?_
          refine r_isub (v := ((l4 - 1) - l6)) fe_253_78 rfl ?_
          refine r_callS (as := [.int ((l4 - 1) - l6)]) (r := [.int l1]) fe_253_79 lm_12_424 md_228 rfl rfl (Nat.le_of_ble_eq_true rfl) (Nat.le_of_ble_eq_true rfl) (Nat.le_of_ble_eq_true rfl) ?_
          cases hc12 : F228 n ((l4 - 1) - l6) S with
          | none => rw [hc12] at hf; cases hf
          | some z11 =>
            rw [hc12, Option.bind_some] at hf
            refine F228c (r0 := z11.1) (S0 := z11.2) hh hc12 ?_
            by_cases hz13 : z11.1 = 0
            · rw [if_pos hz13] at hf; cases hf
            rw [if_neg hz13] at hf
            refine r_idiv (v := (l1 / z11.1)) fe_253_82 hz13 rfl ?_
            refine r_bipush (v := 10) fe_253_83 (by decide) ?_
            refine r_irem (v := ((l1 / z11.1) - (l1 / z11.1) / 10 * 10)) fe_253_85 (by decide) rfl ?_
            refine r_aload_n fe_253_86 rfl ?_
            refine mr_getf hh fe_253_87 lf_12_130 rfl ?_
            refine r_iload fe_253_90 rfl ?_
            by_cases hg14 : ¬ (l6 < 0 ∨ 21 ≤ (l6).toNatClampNeg)
            rotate_left
            · rw [if_neg hg14] at hf; cases hf
            rw [if_pos hg14] at hf
            refine r_iald (j := (Int32.toNatClampNeg l6)) (v := z11.2.2.1 39 (Int32.toNatClampNeg l6)) fe_253_92 m_c_39 (m_lt hh (by decide)) (fun z => hg14 (Or.inl z)) rfl (fun z => hg14 (Or.inr z)) rfl ?_
            by_cases hb15 : am_ic .ne ((l1 / z11.1) - (l1 / z11.1) / 10 * 10) (z11.2.2.1 39 (Int32.toNatClampNeg l6)) = true
            · rw [if_pos hb15] at hf
              refine r_ic_t (t := 100) fe_253_93 (by decide) hb15 ?_
              refine r_iconst (v := 0) fe_253_100 (by decide) ?_
              refine r_istore fe_253_101 (Nat.le_of_ble_eq_true rfl) rfl ?_
              refine r_iinc (v := (l6 + 1)) fe_253_103 rfl rfl rfl ?_
              refine r_goto (t := 59) fe_253_106 (by decide) ?_
              refine go_weak (L0 := [.ref 130, .int l1, .int l2, .int l3, .int l4, .int 0, .int (l6 + 1)]) (lwk_c (Or.inl rfl) (lwk_c (Or.inl rfl) (lwk_c (Or.inl rfl) (lwk_c (Or.inl rfl) (lwk_c (Or.inl rfl) (lwk_c (Or.inl rfl) (lwk_c (Or.inl rfl) (lwk_rf [])))))))) ?_
              exact ih.2.2 l1 l2 l3 l4 0 (l6 + 1) z11.2 hf
            · rw [if_neg hb15] at hf
              refine r_ic_f (t := 100) fe_253_93 (by decide) (Bool.eq_false_iff.mpr hb15) ?_
              refine r_iconst (v := 1) fe_253_96 (by decide) ?_
              refine r_goto (t := 101) fe_253_97 (by decide) ?_
              refine r_istore fe_253_101 (Nat.le_of_ble_eq_true rfl) rfl ?_
              refine r_iinc (v := (l6 + 1)) fe_253_103 rfl rfl rfl ?_
              refine r_goto (t := 59) fe_253_106 (by decide) ?_
              refine go_weak (L0 := [.ref 130, .int l1, .int l2, .int l3, .int l4, .int 1, .int (l6 + 1)]) (lwk_c (Or.inl rfl) (lwk_c (Or.inl rfl) (lwk_c (Or.inl rfl) (lwk_c (Or.inl rfl) (lwk_c (Or.inl rfl) (lwk_c (Or.inl rfl) (lwk_c (Or.inl rfl) (lwk_rf [])))))))) ?_
              exact ih.2.2 l1 l2 l3 l4 1 (l6 + 1) z11.2 hf
theorem F253c {xs : Nat → Int32} {L9 d n : Nat} {h : AmH} {Q : Option Value → AmH → Prop} {r0 : Int32} {S0 S : mS} {l1 : Int32} (hh : 172 ≤ h.2.1) (hf : F253 n l1 S = some (r0, S0)) (hQ : Q (some (.int r0)) (mst S0 h)) : Ca (am_X xs L9) (d + 1) 253 [.ref 130, .int l1] (mst S h) Q := (F253l hh hQ n).1 l1 0 0 0 0 0 S hf
def F251b0 (F : Nat → Int32 → Int32 → Int32 → Int32 → Int32 → Int32 → Int32 → Int32 → mS → Option (Int32 × mS)) (n : Nat) (l1 : Int32) (l2 : Int32) (l3 : Int32) (l4 : Int32) (l5 : Int32) (l6 : Int32) (l7 : Int32) (l8 : Int32) (S : mS) : Option (Int32 × mS) := ((F231 n l1 S).bind (fun z1 => (if am_if .eq z1.1 = true then some ((-1), z1.2) else ((F196 n l2 z1.2).bind (fun z4 => (if am_if .eq z4.1 = true then some ((-1), z4.2) else ((F172 n (Int32.toInt64 l3) 0 2 z4.2).bind (fun z7 => (if am_if .ne z7.1 = true then F 43 l1 l2 l3 0 (-2) (-2) 0 0 z7.2 else some ((-1), z7.2))))))))))
def F251b43 (F : Nat → Int32 → Int32 → Int32 → Int32 → Int32 → Int32 → Int32 → Int32 → mS → Option (Int32 × mS)) (n : Nat) (l1 : Int32) (l2 : Int32) (l3 : Int32) (l4 : Int32) (l5 : Int32) (l6 : Int32) (l7 : Int32) (l8 : Int32) (S : mS) : Option (Int32 × mS) := (if am_ic .gt l7 20 = true then (if am_if .ne l3 = true then (if am_ic .ne l3 1 = true then some (l6, S) else some (l5, S)) else some (l4, S)) else F 53 l1 l2 l3 l4 l5 l6 l7 0 S)
def F251b53 (F : Nat → Int32 → Int32 → Int32 → Int32 → Int32 → Int32 → Int32 → Int32 → mS → Option (Int32 × mS)) (n : Nat) (l1 : Int32) (l2 : Int32) (l3 : Int32) (l4 : Int32) (l5 : Int32) (l6 : Int32) (l7 : Int32) (l8 : Int32) (S : mS) : Option (Int32 × mS) := (if am_ic .ge l8 (S.2.1 1 0) = true then F 43 l1 l2 l3 l4 l5 l6 (l7 + 1) 0 S else ((F252 n l8 l7 S).bind (fun z14 => (if am_ic .ne z14.1 l2 = true then F 53 l1 l2 l3 l4 l5 l6 l7 (l8 + 1) z14.2 else ((F253 n l1 z14.2).bind (fun z17 => (if am_if .eq z17.1 = true then F 53 l1 l2 l3 l4 l5 l6 l7 (l8 + 1) z17.2 else (if am_if .ne l4 = true then (if am_if .ne l4 = true then F 53 l1 l2 l3 (l4 + 1) l5 l6 l7 (l8 + 1) z17.2 else F 53 l1 l2 l3 (l4 + 1) l5 l7 l7 (l8 + 1) z17.2) else (if am_if .ne l4 = true then F 53 l1 l2 l3 (l4 + 1) l8 l6 l7 (l8 + 1) z17.2 else F 53 l1 l2 l3 (l4 + 1) l8 l7 l7 (l8 + 1) z17.2)))))))))
def F251f : Nat → Nat → Int32 → Int32 → Int32 → Int32 → Int32 → Int32 → Int32 → Int32 → mS → Option (Int32 × mS)
  | 0, _, _, _, _, _, _, _, _, _, _ => none
  | n + 1, c, l1, l2, l3, l4, l5, l6, l7, l8, S => if c = 0 then F251b0 (F251f n) n l1 l2 l3 l4 l5 l6 l7 l8 S else if c = 43 then F251b43 (F251f n) n l1 l2 l3 l4 l5 l6 l7 l8 S else F251b53 (F251f n) n l1 l2 l3 l4 l5 l6 l7 l8 S
theorem F251e0 (n : Nat) (l1 : Int32) (l2 : Int32) (l3 : Int32) (l4 : Int32) (l5 : Int32) (l6 : Int32) (l7 : Int32) (l8 : Int32) (S : mS) : F251f (n + 1) 0 l1 l2 l3 l4 l5 l6 l7 l8 S = F251b0 (F251f n) n l1 l2 l3 l4 l5 l6 l7 l8 S := if_pos rfl
theorem F251e43 (n : Nat) (l1 : Int32) (l2 : Int32) (l3 : Int32) (l4 : Int32) (l5 : Int32) (l6 : Int32) (l7 : Int32) (l8 : Int32) (S : mS) : F251f (n + 1) 43 l1 l2 l3 l4 l5 l6 l7 l8 S = F251b43 (F251f n) n l1 l2 l3 l4 l5 l6 l7 l8 S := (if_neg (by decide)).trans (if_pos rfl)
theorem F251e53 (n : Nat) (l1 : Int32) (l2 : Int32) (l3 : Int32) (l4 : Int32) (l5 : Int32) (l6 : Int32) (l7 : Int32) (l8 : Int32) (S : mS) : F251f (n + 1) 53 l1 l2 l3 l4 l5 l6 l7 l8 S = F251b53 (F251f n) n l1 l2 l3 l4 l5 l6 l7 l8 S := (if_neg (by decide)).trans (if_neg (by decide))
def F251 (n : Nat) (l1 : Int32) (l2 : Int32) (l3 : Int32) (S : mS) : Option (Int32 × mS) := F251f n 0 l1 l2 l3 0 0 0 0 0 S
set_option maxRecDepth 20000 in
set_option maxHeartbeats 2000000 in
theorem F251l {xs : Nat → Int32} {L9 d : Nat} {h : AmH} {Q : Option Value → AmH → Prop} {r0 : Int32} {S0 : mS} (hh : 172 ≤ h.2.1) (hQ : Q (some (.int r0)) (mst S0 h)) : ∀ n : Nat, (∀ (l1 : Int32) (l2 : Int32) (l3 : Int32) (l4 : Int32) (l5 : Int32) (l6 : Int32) (l7 : Int32) (l8 : Int32) (S : mS), F251f n 0 l1 l2 l3 l4 l5 l6 l7 l8 S = some (r0, S0) → Go (am_X xs L9) (d + 4) 251 0 [.ref 130, .int l1, .int l2, .int l3, .float 0, .float 0, .float 0, .float 0, .float 0] [] (mst S h) Q) ∧ (∀ (l1 : Int32) (l2 : Int32) (l3 : Int32) (l4 : Int32) (l5 : Int32) (l6 : Int32) (l7 : Int32) (l8 : Int32) (S : mS), F251f n 43 l1 l2 l3 l4 l5 l6 l7 l8 S = some (r0, S0) → Go (am_X xs L9) (d + 4) 251 43 [.ref 130, .int l1, .int l2, .int l3, .int l4, .int l5, .int l6, .int l7, .float 0] [] (mst S h) Q) ∧ (∀ (l1 : Int32) (l2 : Int32) (l3 : Int32) (l4 : Int32) (l5 : Int32) (l6 : Int32) (l7 : Int32) (l8 : Int32) (S : mS), F251f n 53 l1 l2 l3 l4 l5 l6 l7 l8 S = some (r0, S0) → Go (am_X xs L9) (d + 4) 251 53 [.ref 130, .int l1, .int l2, .int l3, .int l4, .int l5, .int l6, .int l7, .int l8] [] (mst S h) Q) := by
  intro n
  induction n with
  | zero => exact ⟨fun l1 l2 l3 l4 l5 l6 l7 l8 S hf => (by cases hf), fun l1 l2 l3 l4 l5 l6 l7 l8 S hf => (by cases hf), fun l1 l2 l3 l4 l5 l6 l7 l8 S hf => (by cases hf)⟩
  | succ n ih =>
    refine ⟨?_, ?_, ?_⟩
    · intro l1 l2 l3 l4 l5 l6 l7 l8 S hf
      rw [F251e0] at hf
      unfold F251b0 at hf
      refine r_iload_n fe_251_0 rfl ?_
      refine r_callS (as := [.int l1]) (r := []) fe_251_1 lm_12_466 md_231 rfl rfl (Nat.le_of_ble_eq_true rfl) (Nat.le_of_ble_eq_true rfl) (Nat.le_of_ble_eq_true rfl) ?_
      cases hc2 : F231 n l1 S with
      | none => rw [hc2] at hf; cases hf
      | some z1 =>
        rw [hc2, Option.bind_some] at hf
        refine F231c (r0 := z1.1) (S0 := z1.2) hh hc2 ?_
        by_cases hb3 : am_if .eq z1.1 = true
        · rw [if_pos hb3] at hf
          refine r_if_t (t := 27) fe_251_4 (by decide) hb3 ?_
          refine r_iconst (v := -1) fe_251_27 (by decide) ?_
          refine r_iret fe_251_28 ⟨rfl, by decide⟩ ?_
          exact dfin (P := fun r T => Q (some (.int r)) (mst T h)) hf hQ
        · rw [if_neg hb3] at hf
          refine r_if_f (t := 27) fe_251_4 (by decide) (Bool.eq_false_iff.mpr hb3) ?_
          refine r_aload_n fe_251_7 rfl ?_
          refine r_iload_n fe_251_8 rfl ?_
          refine r_callV (as := [.int l2]) (r := []) fe_251_9 lm_12_378 md_196 rfl rfl (Nat.le_of_ble_eq_true rfl) m_c_0 (m_lt hh (by decide)) (Nat.le_of_ble_eq_true rfl) (Nat.le_of_ble_eq_true rfl) ?_
          cases hc5 : F196 n l2 z1.2 with
          | none => rw [hc5] at hf; cases hf
          | some z4 =>
            rw [hc5, Option.bind_some] at hf
            refine F196c (r0 := z4.1) (S0 := z4.2) hh hc5 ?_
            by_cases hb6 : am_if .eq z4.1 = true
            · rw [if_pos hb6] at hf
              refine r_if_t (t := 27) fe_251_12 (by decide) hb6 ?_
              refine r_iconst (v := -1) fe_251_27 (by decide) ?_
              refine r_iret fe_251_28 ⟨rfl, by decide⟩ ?_
              exact dfin (P := fun r T => Q (some (.int r)) (mst T h)) hf hQ
            · rw [if_neg hb6] at hf
              refine r_if_f (t := 27) fe_251_12 (by decide) (Bool.eq_false_iff.mpr hb6) ?_
              refine r_iload_n fe_251_15 rfl ?_
              refine r_i2l (v := (Int32.toInt64 l3)) fe_251_16 rfl ?_
              refine r_lconst (v := 0) fe_251_17 (by decide) ?_
              refine r_ldc2 fe_251_18 lk_12_486 ?_
              refine r_callS (as := [.long (Int32.toInt64 l3), .long 0, .long 2]) (r := []) fe_251_21 lm_12_143 md_172 rfl rfl (Nat.le_of_ble_eq_true rfl) (Nat.le_of_ble_eq_true rfl) (Nat.le_of_ble_eq_true rfl) ?_
              cases hc8 : F172 n (Int32.toInt64 l3) 0 2 z4.2 with
              | none => rw [hc8] at hf; cases hf
              | some z7 =>
                rw [hc8, Option.bind_some] at hf
                refine F172c (r0 := z7.1) (S0 := z7.2) hh hc8 ?_
                by_cases hb9 : am_if .ne z7.1 = true
                · rw [if_pos hb9] at hf
                  refine r_if_t (t := 29) fe_251_24 (by decide) hb9 ?_
                  refine r_iconst (v := 0) fe_251_29 (by decide) ?_
                  refine r_istore fe_251_30 (Nat.le_of_ble_eq_true rfl) rfl ?_
                  refine r_bipush (v := -2) fe_251_32 (by decide) ?_
                  refine r_istore fe_251_34 (Nat.le_of_ble_eq_true rfl) rfl ?_
                  refine r_bipush (v := -2) fe_251_36 (by decide) ?_
                  refine r_istore fe_251_38 (Nat.le_of_ble_eq_true rfl) rfl ?_
                  refine r_iconst (v := 0) fe_251_40 (by decide) ?_
                  refine r_istore fe_251_41 (Nat.le_of_ble_eq_true rfl) rfl ?_
                  refine go_weak (L0 := [.ref 130, .int l1, .int l2, .int l3, .int 0, .int (-2), .int (-2), .int 0, .float 0]) (lwk_c (Or.inl rfl) (lwk_c (Or.inl rfl) (lwk_c (Or.inl rfl) (lwk_c (Or.inl rfl) (lwk_c (Or.inl rfl) (lwk_c (Or.inl rfl) (lwk_c (Or.inl rfl) (lwk_c (Or.inl rfl) (lwk_c (Or.inl rfl) (lwk_rf [])))))))))) ?_
                  exact ih.2.1 l1 l2 l3 0 (-2) (-2) 0 0 z7.2 hf
                · rw [if_neg hb9] at hf
                  refine r_if_f (t := 29) fe_251_24 (by decide) (Bool.eq_false_iff.mpr hb9) ?_
                  refine r_iconst (v := -1) fe_251_27 (by decide) ?_
                  refine r_iret fe_251_28 ⟨rfl, by decide⟩ ?_
                  exact dfin (P := fun r T => Q (some (.int r)) (mst T h)) hf hQ
    · intro l1 l2 l3 l4 l5 l6 l7 l8 S hf
      rw [F251e43] at hf
      unfold F251b43 at hf
      refine r_iload fe_251_43 rfl ?_
      refine r_bipush (v := 20) fe_251_45 (by decide) ?_
      by_cases hb10 : am_ic .gt l7 20 = true
      · rw [if_pos hb10] at hf
        refine r_ic_t (t := 127) fe_251_47 (by decide) hb10 ?_
        refine r_iload_n fe_251_127 rfl ?_
        by_cases hb11 : am_if .ne l3 = true
        · rw [if_pos hb11] at hf
          refine r_if_t (t := 136) fe_251_128 (by decide) hb11 ?_
          refine r_iload_n fe_251_136 rfl ?_
          refine r_iconst (v := 1) fe_251_137 (by decide) ?_
          by_cases hb12 : am_ic .ne l3 1 = true
          · rw [if_pos hb12] at hf
            refine r_ic_t (t := 146) fe_251_138 (by decide) hb12 ?_
            refine r_iload fe_251_146 rfl ?_
            refine r_iret fe_251_148 ⟨rfl, by decide⟩ ?_
            exact dfin (P := fun r T => Q (some (.int r)) (mst T h)) hf hQ
          · rw [if_neg hb12] at hf
            refine r_ic_f (t := 146) fe_251_138 (by decide) (Bool.eq_false_iff.mpr hb12) ?_
            refine r_iload fe_251_141 rfl ?_
            refine r_goto (t := 148) fe_251_143 (by decide) ?_
            refine r_iret fe_251_148 ⟨rfl, by decide⟩ ?_
            exact dfin (P := fun r T => Q (some (.int r)) (mst T h)) hf hQ
        · rw [if_neg hb11] at hf
          refine r_if_f (t := 136) fe_251_128 (by decide) (Bool.eq_false_iff.mpr hb11) ?_
          refine r_iload fe_251_131 rfl ?_
          refine r_goto (t := 148) fe_251_133 (by decide) ?_
          refine r_iret fe_251_148 ⟨rfl, by decide⟩ ?_
          exact dfin (P := fun r T => Q (some (.int r)) (mst T h)) hf hQ
      · rw [if_neg hb10] at hf
        refine r_ic_f (t := 127) fe_251_47 (by decide) (Bool.eq_false_iff.mpr hb10) ?_
        refine r_iconst (v := 0) fe_251_50 (by decide) ?_
        refine r_istore fe_251_51 (Nat.le_of_ble_eq_true rfl) rfl ?_
        refine go_weak (L0 := [.ref 130, .int l1, .int l2, .int l3, .int l4, .int l5, .int l6, .int l7, .int 0]) (lwk_c (Or.inl rfl) (lwk_c (Or.inl rfl) (lwk_c (Or.inl rfl) (lwk_c (Or.inl rfl) (lwk_c (Or.inl rfl) (lwk_c (Or.inl rfl) (lwk_c (Or.inl rfl) (lwk_c (Or.inl rfl) (lwk_c (Or.inl rfl) (lwk_rf [])))))))))) ?_
        exact ih.2.2 l1 l2 l3 l4 l5 l6 l7 0 S hf
    · intro l1 l2 l3 l4 l5 l6 l7 l8 S hf
      rw [F251e53] at hf
      unfold F251b53 at hf
      refine r_iload fe_251_53 rfl ?_
      refine r_aload_n fe_251_55 rfl ?_
      refine mr_getf hh fe_251_56 lf_12_9 rfl ?_
      refine r_iconst (v := 0) fe_251_59 (by decide) ?_
      refine r_iald (j := 0) (v := S.2.1 1 0) fe_251_60 m_c_1 (m_lt hh (by decide)) (by decide) (by decide) (by decide) rfl ?_
      by_cases hb13 : am_ic .ge l8 (S.2.1 1 0) = true
      · rw [if_pos hb13] at hf
        refine r_ic_t (t := 121) fe_251_61 (by decide) hb13 ?_
        refine r_iinc (v := (l7 + 1)) fe_251_121 rfl rfl rfl ?_
        refine r_goto (t := 43) fe_251_124 (by decide) ?_
        refine go_weak (L0 := [.ref 130, .int l1, .int l2, .int l3, .int l4, .int l5, .int l6, .int (l7 + 1), .float 0]) (lwk_c (Or.inl rfl) (lwk_c (Or.inl rfl) (lwk_c (Or.inl rfl) (lwk_c (Or.inl rfl) (lwk_c (Or.inl rfl) (lwk_c (Or.inl rfl) (lwk_c (Or.inl rfl) (lwk_c (Or.inl rfl) (lwk_c (Or.inr rfl) (lwk_rf [])))))))))) ?_
        exact ih.2.1 l1 l2 l3 l4 l5 l6 (l7 + 1) 0 S hf
      · rw [if_neg hb13] at hf
        refine r_ic_f (t := 121) fe_251_61 (by decide) (Bool.eq_false_iff.mpr hb13) ?_
        refine r_aload_n fe_251_64 rfl ?_
        refine r_iload fe_251_65 rfl ?_
        refine r_iload fe_251_67 rfl ?_
        refine r_callV (as := [.int l8, .int l7]) (r := []) fe_251_69 lm_12_511 md_252 rfl rfl (Nat.le_of_ble_eq_true rfl) m_c_0 (m_lt hh (by decide)) (Nat.le_of_ble_eq_true rfl) (Nat.le_of_ble_eq_true rfl) ?_
        cases hc15 : F252 n l8 l7 S with
        | none => rw [hc15] at hf; cases hf
        | some z14 =>
          rw [hc15, Option.bind_some] at hf
          refine F252c (r0 := z14.1) (S0 := z14.2) hh hc15 ?_
          refine r_iload_n fe_251_72 rfl ?_
          by_cases hb16 : am_ic .ne z14.1 l2 = true
          · rw [if_pos hb16] at hf
            refine r_ic_t (t := 115) fe_251_73 (by decide) hb16 ?_
            refine r_iinc (v := (l8 + 1)) fe_251_115 rfl rfl rfl ?_
            refine r_goto (t := 53) fe_251_118 (by decide) ?_
            refine go_weak (L0 := [.ref 130, .int l1, .int l2, .int l3, .int l4, .int l5, .int l6, .int l7, .int (l8 + 1)]) (lwk_c (Or.inl rfl) (lwk_c (Or.inl rfl) (lwk_c (Or.inl rfl) (lwk_c (Or.inl rfl) (lwk_c (Or.inl rfl) (lwk_c (Or.inl rfl) (lwk_c (Or.inl rfl) (lwk_c (Or.inl rfl) (lwk_c (Or.inl rfl) (lwk_rf [])))))))))) ?_
            exact ih.2.2 l1 l2 l3 l4 l5 l6 l7 (l8 + 1) z14.2 hf
          · rw [if_neg hb16] at hf
            refine r_ic_f (t := 115) fe_251_73 (by decide) (Bool.eq_false_iff.mpr hb16) ?_
            refine r_aload_n fe_251_76 rfl ?_
            refine r_iload_n fe_251_77 rfl ?_
            refine r_callV (as := [.int l1]) (r := []) fe_251_78 lm_12_514 md_253 rfl rfl (Nat.le_of_ble_eq_true rfl) m_c_0 (m_lt hh (by decide)) (Nat.le_of_ble_eq_true rfl) (Nat.le_of_ble_eq_true rfl) ?_
            cases hc18 : F253 n l1 z14.2 with
            | none => rw [hc18] at hf; cases hf
            | some z17 =>
              rw [hc18, Option.bind_some] at hf
              refine F253c (r0 := z17.1) (S0 := z17.2) hh hc18 ?_
              by_cases hb19 : am_if .eq z17.1 = true
              · rw [if_pos hb19] at hf
                refine r_if_t (t := 115) fe_251_81 (by decide) hb19 ?_
                refine r_iinc (v := (l8 + 1)) fe_251_115 rfl rfl rfl ?_
                refine r_goto (t := 53) fe_251_118 (by decide) ?_
                refine go_weak (L0 := [.ref 130, .int l1, .int l2, .int l3, .int l4, .int l5, .int l6, .int l7, .int (l8 + 1)]) (lwk_c (Or.inl rfl) (lwk_c (Or.inl rfl) (lwk_c (Or.inl rfl) (lwk_c (Or.inl rfl) (lwk_c (Or.inl rfl) (lwk_c (Or.inl rfl) (lwk_c (Or.inl rfl) (lwk_c (Or.inl rfl) (lwk_c (Or.inl rfl) (lwk_rf [])))))))))) ?_
                exact ih.2.2 l1 l2 l3 l4 l5 l6 l7 (l8 + 1) z17.2 hf
              · rw [if_neg hb19] at hf
                refine r_if_f (t := 115) fe_251_81 (by decide) (Bool.eq_false_iff.mpr hb19) ?_
                refine r_iload fe_251_84 rfl ?_
                by_cases hb20 : am_if .ne l4 = true
                · rw [if_pos hb20] at hf
                  refine r_if_t (t := 94) fe_251_86 (by decide) hb20 ?_
                  refine r_iload fe_251_94 rfl ?_
                  refine r_istore fe_251_96 (Nat.le_of_ble_eq_true rfl) rfl ?_
                  refine r_iload fe_251_98 rfl ?_
                  by_cases hb21 : am_if .ne l4 = true
                  · rw [if_pos hb21] at hf
                    refine r_if_t (t := 108) fe_251_100 (by decide) hb21 ?_
                    refine r_iload fe_251_108 rfl ?_
                    refine r_istore fe_251_110 (Nat.le_of_ble_eq_true rfl) rfl ?_
                    refine r_iinc (v := (l4 + 1)) fe_251_112 rfl rfl rfl ?_
                    refine r_iinc (v := (l8 + 1)) fe_251_115 rfl rfl rfl ?_
                    refine r_goto (t := 53) fe_251_118 (by decide) ?_
                    refine go_weak (L0 := [.ref 130, .int l1, .int l2, .int l3, .int (l4 + 1), .int l5, .int l6, .int l7, .int (l8 + 1)]) (lwk_c (Or.inl rfl) (lwk_c (Or.inl rfl) (lwk_c (Or.inl rfl) (lwk_c (Or.inl rfl) (lwk_c (Or.inl rfl) (lwk_c (Or.inl rfl) (lwk_c (Or.inl rfl) (lwk_c (Or.inl rfl) (lwk_c (Or.inl rfl) (lwk_rf [])))))))))) ?_
                    exact ih.2.2 l1 l2 l3 (l4 + 1) l5 l6 l7 (l8 + 1) z17.2 hf
                  · rw [if_neg hb21] at hf
                    refine r_if_f (t := 108) fe_251_100 (by decide) (Bool.eq_false_iff.mpr hb21) ?_
                    refine r_iload fe_251_103 rfl ?_
                    refine r_goto (t := 110) fe_251_105 (by decide) ?_
                    refine r_istore fe_251_110 (Nat.le_of_ble_eq_true rfl) rfl ?_
                    refine r_iinc (v := (l4 + 1)) fe_251_112 rfl rfl rfl ?_
                    refine r_iinc (v := (l8 + 1)) fe_251_115 rfl rfl rfl ?_
                    refine r_goto (t := 53) fe_251_118 (by decide) ?_
                    refine go_weak (L0 := [.ref 130, .int l1, .int l2, .int l3, .int (l4 + 1), .int l5, .int l7, .int l7, .int (l8 + 1)]) (lwk_c (Or.inl rfl) (lwk_c (Or.inl rfl) (lwk_c (Or.inl rfl) (lwk_c (Or.inl rfl) (lwk_c (Or.inl rfl) (lwk_c (Or.inl rfl) (lwk_c (Or.inl rfl) (lwk_c (Or.inl rfl) (lwk_c (Or.inl rfl) (lwk_rf [])))))))))) ?_
                    exact ih.2.2 l1 l2 l3 (l4 + 1) l5 l7 l7 (l8 + 1) z17.2 hf
                · rw [if_neg hb20] at hf
                  refine r_if_f (t := 94) fe_251_86 (by decide) (Bool.eq_false_iff.mpr hb20) ?_
                  refine r_iload fe_251_89 rfl ?_
                  refine r_goto (t := 96) fe_251_91 (by decide) ?_
                  refine r_istore fe_251_96 (Nat.le_of_ble_eq_true rfl) rfl ?_
                  refine r_iload fe_251_98 rfl ?_
                  by_cases hb22 : am_if .ne l4 = true
                  · rw [if_pos hb22] at hf
                    refine r_if_t (t := 108) fe_251_100 (by decide) hb22 ?_
                    refine r_iload fe_251_108 rfl ?_
                    refine r_istore fe_251_110 (Nat.le_of_ble_eq_true rfl) rfl ?_
                    refine r_iinc (v := (l4 + 1)) fe_251_112 rfl rfl rfl ?_
                    refine r_iinc (v := (l8 + 1)) fe_251_115 rfl rfl rfl ?_
                    refine r_goto (t := 53) fe_251_118 (by decide) ?_
                    refine go_weak (L0 := [.ref 130, .int l1, .int l2, .int l3, .int (l4 + 1), .int l8, .int l6, .int l7, .int (l8 + 1)]) (lwk_c (Or.inl rfl) (lwk_c (Or.inl rfl) (lwk_c (Or.inl rfl) (lwk_c (Or.inl rfl) (lwk_c (Or.inl rfl) (lwk_c (Or.inl rfl) (lwk_c (Or.inl rfl) (lwk_c (Or.inl rfl) (lwk_c (Or.inl rfl) (lwk_rf [])))))))))) ?_
                    exact ih.2.2 l1 l2 l3 (l4 + 1) l8 l6 l7 (l8 + 1) z17.2 hf
                  · rw [if_neg hb22] at hf
                    refine r_if_f (t := 108) fe_251_100 (by decide) (Bool.eq_false_iff.mpr hb22) ?_
                    refine r_iload fe_251_103 rfl ?_
                    refine r_goto (t := 110) fe_251_105 (by decide) ?_
                    refine r_istore fe_251_110 (Nat.le_of_ble_eq_true rfl) rfl ?_
                    refine r_iinc (v := (l4 + 1)) fe_251_112 rfl rfl rfl ?_
                    refine r_iinc (v := (l8 + 1)) fe_251_115 rfl rfl rfl ?_
                    refine r_goto (t := 53) fe_251_118 (by decide) ?_
                    refine go_weak (L0 := [.ref 130, .int l1, .int l2, .int l3, .int (l4 + 1), .int l8, .int l7, .int l7, .int (l8 + 1)]) (lwk_c (Or.inl rfl) (lwk_c (Or.inl rfl) (lwk_c (Or.inl rfl) (lwk_c (Or.inl rfl) (lwk_c (Or.inl rfl) (lwk_c (Or.inl rfl) (lwk_c (Or.inl rfl) (lwk_c (Or.inl rfl) (lwk_c (Or.inl rfl) (lwk_rf [])))))))))) ?_
                    exact ih.2.2 l1 l2 l3 (l4 + 1) l8 l7 l7 (l8 + 1) z17.2 hf
theorem F251c {xs : Nat → Int32} {L9 d n : Nat} {h : AmH} {Q : Option Value → AmH → Prop} {r0 : Int32} {S0 S : mS} {l1 : Int32} {l2 : Int32} {l3 : Int32} (hh : 172 ≤ h.2.1) (hf : F251 n l1 l2 l3 S = some (r0, S0)) (hQ : Q (some (.int r0)) (mst S0 h)) : Ca (am_X xs L9) (d + 4) 251 [.ref 130, .int l1, .int l2, .int l3] (mst S h) Q := (F251l hh hQ n).1 l1 l2 l3 0 0 0 0 0 S hf
