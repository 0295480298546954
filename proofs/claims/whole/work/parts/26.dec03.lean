def F181b0 (F : Nat → Int32 → mS → Option (Unit × mS)) (n : Nat) (l1 : Int32) (S : mS) : Option (Unit × mS) := ((F161 n  S).bind (fun z1 => ((F164 n 30 z1.2).bind (fun z3 => (if am_if .ne z3.1 = true then (if am_ic .ne l1 12 = true then (if ¬ (((12 * ((m_sI z3.2 27 ((z3.2.1 27) + 4)).1 29)) + l1) < 0 ∨ 72 ≤ (((12 * ((m_sI z3.2 27 ((z3.2.1 27) + 4)).1 29)) + l1)).toNatClampNeg) then ((F182 n  (m_sA (m_sI z3.2 27 ((z3.2.1 27) + 4)) 30 (Int32.toNatClampNeg ((12 * ((m_sI z3.2 27 ((z3.2.1 27) + 4)).1 29)) + l1)) ((m_sI z3.2 27 ((z3.2.1 27) + 4)).1 31))).bind (fun z8 => (if ¬ (((12 * ((m_sI z3.2 27 ((z3.2.1 27) + 4)).1 29)) + l1) < 0 ∨ 72 ≤ (((12 * ((m_sI z3.2 27 ((z3.2.1 27) + 4)).1 29)) + l1)).toNatClampNeg) then some ((), (m_sA z8.2 31 (Int32.toNatClampNeg ((12 * ((m_sI z3.2 27 ((z3.2.1 27) + 4)).1 29)) + l1)) (z8.2.1 31))) else none))) else none) else ((F165 n 4 (z1.2.1 27) z3.2).bind (fun z11 => some ((), z11.2)))) else ((F165 n 0 (z1.2.1 27) z3.2).bind (fun z13 => some ((), z13.2))))))))
def F181f : Nat → Nat → Int32 → mS → Option (Unit × mS)
  | 0, _, _, _ => none
  | n + 1, c, l1, S => F181b0 (F181f n) n l1 S
theorem F181e0 (n : Nat) (l1 : Int32) (S : mS) : F181f (n + 1) 0 l1 S = F181b0 (F181f n) n l1 S := rfl
def F181 (n : Nat) (l1 : Int32) (S : mS) : Option (Unit × mS) := F181f n 0 l1 S
set_option maxRecDepth 20000 in
set_option maxHeartbeats 2000000 in
theorem F181l {xs : Nat → Int32} {L9 d : Nat} {h : AmH} {Q : Option Value → AmH → Prop} {r0 : Unit} {S0 : mS} (hh : 172 ≤ h.2.1) (hQ : Q none (mst S0 h)) : ∀ n : Nat, (∀ (l1 : Int32) (S : mS), F181f n 0 l1 S = some (r0, S0) → Go (am_X xs L9) (d + 11) 181 0 [.ref 130, .int l1, .float 0, .float 0] [] (mst S h) Q) := by
  intro n
  induction n with
  | zero => exact fun l1 S hf => (by cases hf)
  | succ n ih =>
    intro l1 S hf
    rw [F181e0] at hf
    unfold F181b0 at hf
    refine r_aload_n fe_181_0 rfl ?_
    refine r_callV (as := []) (r := []) fe_181_1 lm_12_208 md_161 rfl rfl (Nat.le_of_ble_eq_true rfl) m_c_0 (m_lt hh (by decide)) (Nat.le_of_ble_eq_true rfl) (Nat.le_of_ble_eq_true rfl) ?_
    cases hc2 : F161 n  S with
    | none => rw [hc2] at hf; cases hf
    | some z1 =>
      rw [hc2, Option.bind_some] at hf
      refine F161c (r0 := z1.1) (S0 := z1.2) hh hc2 ?_
      refine r_aload_n fe_181_4 rfl ?_
      refine mr_getf hh fe_181_5 lf_12_188 rfl ?_
      refine r_istore_n fe_181_8 (Nat.le_of_ble_eq_true rfl) rfl ?_
      refine r_aload_n fe_181_9 rfl ?_
      refine r_ldc_wS fe_181_10 lk_12_349 ?_
      refine r_callV (as := [.ref 30]) (r := []) fe_181_13 lm_12_211 md_164 rfl rfl (Nat.le_of_ble_eq_true rfl) m_c_0 (m_lt hh (by decide)) (Nat.le_of_ble_eq_true rfl) (Nat.le_of_ble_eq_true rfl) ?_
      cases hc4 : F164 n 30 z1.2 with
      | none => rw [hc4] at hf; cases hf
      | some z3 =>
        rw [hc4, Option.bind_some] at hf
        refine F164c (r0 := z3.1) (S0 := z3.2) hh hc4 ?_
        by_cases hb5 : am_if .ne z3.1 = true
        · rw [if_pos hb5] at hf
          refine r_if_t (t := 26) fe_181_16 (by decide) hb5 ?_
          refine r_iload_n fe_181_26 rfl ?_
          refine r_bipush (v := 12) fe_181_27 (by decide) ?_
          by_cases hb6 : am_ic .ne l1 12 = true
          · rw [if_pos hb6] at hf
            refine r_ic_t (t := 39) fe_181_29 (by decide) hb6 ?_
            refine r_aload_n fe_181_39 rfl ?_
            refine r_dup fe_181_40 rfl ?_
            refine mr_getf hh fe_181_41 lf_12_188 rfl ?_
            refine r_iconst (v := 4) fe_181_44 (by decide) ?_
            refine r_iadd (v := ((z3.2.1 27) + 4)) fe_181_45 rfl ?_
            refine mr_putf hh fe_181_46 lf_12_188 (m_f_27 _ _) (by decide) rfl rfl rfl ?_
            refine r_bipush (v := 12) fe_181_49 (by decide) ?_
            refine r_aload_n fe_181_51 rfl ?_
            refine mr_getf hh fe_181_52 lf_12_215 rfl ?_
            refine r_imul (v := (12 * ((m_sI z3.2 27 ((z3.2.1 27) + 4)).1 29))) fe_181_55 rfl ?_
            refine r_iload_n fe_181_56 rfl ?_
            refine r_iadd (v := ((12 * ((m_sI z3.2 27 ((z3.2.1 27) + 4)).1 29)) + l1)) fe_181_57 rfl ?_
            refine r_istore_n fe_181_58 (Nat.le_of_ble_eq_true rfl) rfl ?_
            refine r_aload_n fe_181_59 rfl ?_
            refine mr_getf hh fe_181_60 lf_12_102 rfl ?_
            refine r_iload_n fe_181_63 rfl ?_
            refine r_aload_n fe_181_64 rfl ?_
            refine mr_getf hh fe_181_65 lf_12_218 rfl ?_
            by_cases hg7 : ¬ (((12 * ((m_sI z3.2 27 ((z3.2.1 27) + 4)).1 29)) + l1) < 0 ∨ 72 ≤ (((12 * ((m_sI z3.2 27 ((z3.2.1 27) + 4)).1 29)) + l1)).toNatClampNeg)
            rotate_left
            · rw [if_neg hg7] at hf; cases hf
            rw [if_pos hg7] at hf
            refine mr_iast (k := 30) (n := 72) (j := (Int32.toNatClampNeg ((12 * ((m_sI z3.2 27 ((z3.2.1 27) + 4)).1 29)) + l1))) hh fe_181_68 rfl (by decide) (by decide) rfl rfl (fun z => hg7 (Or.inl z)) rfl (fun z => hg7 (Or.inr z)) ?_
            refine r_aload_n fe_181_69 rfl ?_
            refine r_callV (as := []) (r := []) fe_181_70 lm_12_351 md_182 rfl rfl (Nat.le_of_ble_eq_true rfl) m_c_0 (m_lt hh (by decide)) (Nat.le_of_ble_eq_true rfl) (Nat.le_of_ble_eq_true rfl) ?_
            cases hc9 : F182 n  (m_sA (m_sI z3.2 27 ((z3.2.1 27) + 4)) 30 (Int32.toNatClampNeg ((12 * ((m_sI z3.2 27 ((z3.2.1 27) + 4)).1 29)) + l1)) ((m_sI z3.2 27 ((z3.2.1 27) + 4)).1 31)) with
            | none => rw [hc9] at hf; cases hf
            | some z8 =>
              rw [hc9, Option.bind_some] at hf
              refine F182c (r0 := z8.1) (S0 := z8.2) hh hc9 ?_
              refine r_aload_n fe_181_73 rfl ?_
              refine mr_getf hh fe_181_74 lf_12_105 rfl ?_
              refine r_iload_n fe_181_77 rfl ?_
              refine r_aload_n fe_181_78 rfl ?_
              refine mr_getf hh fe_181_79 lf_12_218 rfl ?_
              by_cases hg10 : ¬ (((12 * ((m_sI z3.2 27 ((z3.2.1 27) + 4)).1 29)) + l1) < 0 ∨ 72 ≤ (((12 * ((m_sI z3.2 27 ((z3.2.1 27) + 4)).1 29)) + l1)).toNatClampNeg)
              rotate_left
              · rw [if_neg hg10] at hf; cases hf
              rw [if_pos hg10] at hf
              refine mr_iast (k := 31) (n := 72) (j := (Int32.toNatClampNeg ((12 * ((m_sI z3.2 27 ((z3.2.1 27) + 4)).1 29)) + l1))) hh fe_181_82 rfl (by decide) (by decide) rfl rfl (fun z => hg10 (Or.inl z)) rfl (fun z => hg10 (Or.inr z)) ?_
              refine r_vret fe_181_83 ?_
              exact dfin (P := fun _ T => Q none (mst T h)) hf hQ
          · rw [if_neg hb6] at hf
            refine r_ic_f (t := 39) fe_181_29 (by decide) (Bool.eq_false_iff.mpr hb6) ?_
            refine r_aload_n fe_181_32 rfl ?_
            refine r_iconst (v := 4) fe_181_33 (by decide) ?_
            refine r_iload_n fe_181_34 rfl ?_
            refine r_callV (as := [.int 4, .int (z1.2.1 27)]) (r := []) fe_181_35 lm_12_224 md_165 rfl rfl (Nat.le_of_ble_eq_true rfl) m_c_0 (m_lt hh (by decide)) (Nat.le_of_ble_eq_true rfl) (Nat.le_of_ble_eq_true rfl) ?_
            cases hc12 : F165 n 4 (z1.2.1 27) z3.2 with
            | none => rw [hc12] at hf; cases hf
            | some z11 =>
              rw [hc12, Option.bind_some] at hf
              refine F165c (r0 := z11.1) (S0 := z11.2) hh hc12 ?_
              refine r_vret fe_181_38 ?_
              exact dfin (P := fun _ T => Q none (mst T h)) hf hQ
        · rw [if_neg hb5] at hf
          refine r_if_f (t := 26) fe_181_16 (by decide) (Bool.eq_false_iff.mpr hb5) ?_
          refine r_aload_n fe_181_19 rfl ?_
          refine r_iconst (v := 0) fe_181_20 (by decide) ?_
          refine r_iload_n fe_181_21 rfl ?_
          refine r_callV (as := [.int 0, .int (z1.2.1 27)]) (r := []) fe_181_22 lm_12_224 md_165 rfl rfl (Nat.le_of_ble_eq_true rfl) m_c_0 (m_lt hh (by decide)) (Nat.le_of_ble_eq_true rfl) (Nat.le_of_ble_eq_true rfl) ?_
          cases hc14 : F165 n 0 (z1.2.1 27) z3.2 with
          | none => rw [hc14] at hf; cases hf
          | some z13 =>
            rw [hc14, Option.bind_some] at hf
            refine F165c (r0 := z13.1) (S0 := z13.2) hh hc14 ?_
            refine r_vret fe_181_25 ?_
            exact dfin (P := fun _ T => Q none (mst T h)) hf hQ
theorem F181c {xs : Nat → Int32} {L9 d n : Nat} {h : AmH} {Q : Option Value → AmH → Prop} {r0 : Unit} {S0 S : mS} {l1 : Int32} (hh : 172 ≤ h.2.1) (hf : F181 n l1 S = some (r0, S0)) (hQ : Q none (mst S0 h)) : Ca (am_X xs L9) (d + 11) 181 [.ref 130, .int l1] (mst S h) Q := (F181l hh hQ n) l1 S hf
def F180b0 (F : Nat → Int32 → Int32 → mS → Option (Int32 × mS)) (n : Nat) (l1 : Int32) (l2 : Int32) (S : mS) : Option (Int32 × mS) := (if am_ic .ne (S.1 30) 6 = true then ((F159 n  (m_sI S 29 (S.1 30))).bind (fun z2 => F 27 0 1 z2.2)) else some ((-1), S))
def F180b27 (F : Nat → Int32 → Int32 → mS → Option (Int32 × mS)) (n : Nat) (l1 : Int32) (l2 : Int32) (S : mS) : Option (Int32 × mS) := (if am_if .eq l2 = true then (if ¬ (((m_sI S 26 0).1 29) < 0 ∨ 6 ≤ (((m_sI S 26 0).1 29)).toNatClampNeg) then (if am_if .ne ((m_sA (m_sI S 26 0) 29 (Int32.toNatClampNeg ((m_sI S 26 0).1 29)) l1).1 28) = true then (if am_if .le ((m_sI (m_sA (m_sI S 26 0) 29 (Int32.toNatClampNeg ((m_sI S 26 0).1 29)) l1) 30 (((m_sA (m_sI S 26 0) 29 (Int32.toNatClampNeg ((m_sI S 26 0).1 29)) l1).1 30) + 0)).1 28) = true then some ((((m_sI (m_sA (m_sI S 26 0) 29 (Int32.toNatClampNeg ((m_sI S 26 0).1 29)) l1) 30 (((m_sA (m_sI S 26 0) 29 (Int32.toNatClampNeg ((m_sI S 26 0).1 29)) l1).1 30) + 0)).1 30) - 1), (m_sI (m_sA (m_sI S 26 0) 29 (Int32.toNatClampNeg ((m_sI S 26 0).1 29)) l1) 30 (((m_sA (m_sI S 26 0) 29 (Int32.toNatClampNeg ((m_sI S 26 0).1 29)) l1).1 30) + 0))) else some (((-2) - ((m_sI (m_sA (m_sI S 26 0) 29 (Int32.toNatClampNeg ((m_sI S 26 0).1 29)) l1) 30 (((m_sA (m_sI S 26 0) 29 (Int32.toNatClampNeg ((m_sI S 26 0).1 29)) l1).1 30) + 0)).1 28)), (m_sI (m_sA (m_sI S 26 0) 29 (Int32.toNatClampNeg ((m_sI S 26 0).1 29)) l1) 30 (((m_sA (m_sI S 26 0) 29 (Int32.toNatClampNeg ((m_sI S 26 0).1 29)) l1).1 30) + 0)))) else (if am_if .le ((m_sI (m_sA (m_sI S 26 0) 29 (Int32.toNatClampNeg ((m_sI S 26 0).1 29)) l1) 30 (((m_sA (m_sI S 26 0) 29 (Int32.toNatClampNeg ((m_sI S 26 0).1 29)) l1).1 30) + 1)).1 28) = true then some ((((m_sI (m_sA (m_sI S 26 0) 29 (Int32.toNatClampNeg ((m_sI S 26 0).1 29)) l1) 30 (((m_sA (m_sI S 26 0) 29 (Int32.toNatClampNeg ((m_sI S 26 0).1 29)) l1).1 30) + 1)).1 30) - 1), (m_sI (m_sA (m_sI S 26 0) 29 (Int32.toNatClampNeg ((m_sI S 26 0).1 29)) l1) 30 (((m_sA (m_sI S 26 0) 29 (Int32.toNatClampNeg ((m_sI S 26 0).1 29)) l1).1 30) + 1))) else some (((-2) - ((m_sI (m_sA (m_sI S 26 0) 29 (Int32.toNatClampNeg ((m_sI S 26 0).1 29)) l1) 30 (((m_sA (m_sI S 26 0) 29 (Int32.toNatClampNeg ((m_sI S 26 0).1 29)) l1).1 30) + 1)).1 28)), (m_sI (m_sA (m_sI S 26 0) 29 (Int32.toNatClampNeg ((m_sI S 26 0).1 29)) l1) 30 (((m_sA (m_sI S 26 0) 29 (Int32.toNatClampNeg ((m_sI S 26 0).1 29)) l1).1 30) + 1))))) else none) else ((F181 n l1 S).bind (fun z9 => ((F178 n  z9.2).bind (fun z11 => F 27 (l1 + 1) z11.1 z11.2)))))
def F180f : Nat → Nat → Int32 → Int32 → mS → Option (Int32 × mS)
  | 0, _, _, _, _ => none
  | n + 1, c, l1, l2, S => if c = 0 then F180b0 (F180f n) n l1 l2 S else F180b27 (F180f n) n l1 l2 S
theorem F180e0 (n : Nat) (l1 : Int32) (l2 : Int32) (S : mS) : F180f (n + 1) 0 l1 l2 S = F180b0 (F180f n) n l1 l2 S := if_pos rfl
theorem F180e27 (n : Nat) (l1 : Int32) (l2 : Int32) (S : mS) : F180f (n + 1) 27 l1 l2 S = F180b27 (F180f n) n l1 l2 S := if_neg (by decide)
def F180 (n : Nat)  (S : mS) : Option (Int32 × mS) := F180f n 0 0 0 S
set_option maxRecDepth 20000 in
set_option maxHeartbeats 2000000 in
theorem F180l {xs : Nat → Int32} {L9 d : Nat} {h : AmH} {Q : Option Value → AmH → Prop} {r0 : Int32} {S0 : mS} (hh : 172 ≤ h.2.1) (hQ : Q (some (.int r0)) (mst S0 h)) : ∀ n : Nat, (∀ (l1 : Int32) (l2 : Int32) (S : mS), F180f n 0 l1 l2 S = some (r0, S0) → Go (am_X xs L9) (d + 12) 180 0 [.ref 130, .float 0, .float 0] [] (mst S h) Q) ∧ (∀ (l1 : Int32) (l2 : Int32) (S : mS), F180f n 27 l1 l2 S = some (r0, S0) → Go (am_X xs L9) (d + 12) 180 27 [.ref 130, .int l1, .int l2] [] (mst S h) Q) := by
  intro n
  induction n with
  | zero => exact ⟨fun l1 l2 S hf => (by cases hf), fun l1 l2 S hf => (by cases hf)⟩
  | succ n ih =>
    refine ⟨?_, ?_⟩
    · intro l1 l2 S hf
      rw [F180e0] at hf
      unfold F180b0 at hf
      refine r_aload_n fe_180_0 rfl ?_
      refine mr_getf hh fe_180_1 lf_12_354 rfl ?_
      refine r_bipush (v := 6) fe_180_4 (by decide) ?_
      by_cases hb1 : am_ic .ne (S.1 30) 6 = true
      · rw [if_pos hb1] at hf
        refine r_ic_t (t := 11) fe_180_6 (by decide) hb1 ?_
        refine r_aload_n fe_180_11 rfl ?_
        refine r_aload_n fe_180_12 rfl ?_
        refine mr_getf hh fe_180_13 lf_12_354 rfl ?_
        refine mr_putf hh fe_180_16 lf_12_215 (m_f_29 _ _) (by decide) rfl rfl rfl ?_
        refine r_aload_n fe_180_19 rfl ?_
        refine r_callV (as := []) (r := []) fe_180_20 lm_12_330 md_159 rfl rfl (Nat.le_of_ble_eq_true rfl) m_c_0 (m_lt hh (by decide)) (Nat.le_of_ble_eq_true rfl) (Nat.le_of_ble_eq_true rfl) ?_
        cases hc3 : F159 n  (m_sI S 29 (S.1 30)) with
        | none => rw [hc3] at hf; cases hf
        | some z2 =>
          rw [hc3, Option.bind_some] at hf
          refine F159c (r0 := z2.1) (S0 := z2.2) hh hc3 ?_
          refine r_iconst (v := 0) fe_180_23 (by decide) ?_
          refine r_istore_n fe_180_24 (Nat.le_of_ble_eq_true rfl) rfl ?_
          refine r_iconst (v := 1) fe_180_25 (by decide) ?_
          refine r_istore_n fe_180_26 (Nat.le_of_ble_eq_true rfl) rfl ?_
          refine go_weak (L0 := [.ref 130, .int 0, .int 1]) (lwk_c (Or.inl rfl) (lwk_c (Or.inl rfl) (lwk_c (Or.inl rfl) (lwk_rf [])))) ?_
          exact ih.2 0 1 z2.2 hf
      · rw [if_neg hb1] at hf
        refine r_ic_f (t := 11) fe_180_6 (by decide) (Bool.eq_false_iff.mpr hb1) ?_
        refine r_iconst (v := -1) fe_180_9 (by decide) ?_
        refine r_iret fe_180_10 ⟨rfl, by decide⟩ ?_
        exact dfin (P := fun r T => Q (some (.int r)) (mst T h)) hf hQ
    · intro l1 l2 S hf
      rw [F180e27] at hf
      unfold F180b27 at hf
      refine r_iload_n fe_180_27 rfl ?_
      by_cases hb4 : am_if .eq l2 = true
      · rw [if_pos hb4] at hf
        refine r_if_t (t := 47) fe_180_28 (by decide) hb4 ?_
        refine r_aload_n fe_180_47 rfl ?_
        refine r_iconst (v := 0) fe_180_48 (by decide) ?_
        refine mr_putf hh fe_180_49 lf_12_157 (m_f_26 _ _) (by decide) rfl rfl rfl ?_
        refine r_aload_n fe_180_52 rfl ?_
        refine mr_getf hh fe_180_53 lf_12_99 rfl ?_
        refine r_aload_n fe_180_56 rfl ?_
        refine mr_getf hh fe_180_57 lf_12_215 rfl ?_
        refine r_iload_n fe_180_60 rfl ?_
        by_cases hg5 : ¬ (((m_sI S 26 0).1 29) < 0 ∨ 6 ≤ (((m_sI S 26 0).1 29)).toNatClampNeg)
        rotate_left
        · rw [if_neg hg5] at hf; cases hf
        rw [if_pos hg5] at hf
        refine mr_iast (k := 29) (n := 6) (j := (Int32.toNatClampNeg ((m_sI S 26 0).1 29))) hh fe_180_61 rfl (by decide) (by decide) rfl rfl (fun z => hg5 (Or.inl z)) rfl (fun z => hg5 (Or.inr z)) ?_
        refine r_aload_n fe_180_62 rfl ?_
        refine r_dup fe_180_63 rfl ?_
        refine mr_getf hh fe_180_64 lf_12_354 rfl ?_
        refine r_aload_n fe_180_67 rfl ?_
        refine mr_getf hh fe_180_68 lf_12_185 rfl ?_
        by_cases hb6 : am_if .ne ((m_sA (m_sI S 26 0) 29 (Int32.toNatClampNeg ((m_sI S 26 0).1 29)) l1).1 28) = true
        · rw [if_pos hb6] at hf
          refine r_if_t (t := 78) fe_180_71 (by decide) hb6 ?_
          refine r_iconst (v := 0) fe_180_78 (by decide) ?_
          refine r_iadd (v := (((m_sA (m_sI S 26 0) 29 (Int32.toNatClampNeg ((m_sI S 26 0).1 29)) l1).1 30) + 0)) fe_180_79 rfl ?_
          refine mr_putf hh fe_180_80 lf_12_354 (m_f_30 _ _) (by decide) rfl rfl rfl ?_
          refine r_aload_n fe_180_83 rfl ?_
          refine mr_getf hh fe_180_84 lf_12_185 rfl ?_
          by_cases hb7 : am_if .le ((m_sI (m_sA (m_sI S 26 0) 29 (Int32.toNatClampNeg ((m_sI S 26 0).1 29)) l1) 30 (((m_sA (m_sI S 26 0) 29 (Int32.toNatClampNeg ((m_sI S 26 0).1 29)) l1).1 30) + 0)).1 28) = true
          · rw [if_pos hb7] at hf
            refine r_if_t (t := 100) fe_180_87 (by decide) hb7 ?_
            refine r_aload_n fe_180_100 rfl ?_
            refine mr_getf hh fe_180_101 lf_12_354 rfl ?_
            refine r_iconst (v := 1) fe_180_104 (by decide) ?_
            refine r_isub (v := (((m_sI (m_sA (m_sI S 26 0) 29 (Int32.toNatClampNeg ((m_sI S 26 0).1 29)) l1) 30 (((m_sA (m_sI S 26 0) 29 (Int32.toNatClampNeg ((m_sI S 26 0).1 29)) l1).1 30) + 0)).1 30) - 1)) fe_180_105 rfl ?_
            refine r_iret fe_180_106 ⟨rfl, by decide⟩ ?_
            exact dfin (P := fun r T => Q (some (.int r)) (mst T h)) hf hQ
          · rw [if_neg hb7] at hf
            refine r_if_f (t := 100) fe_180_87 (by decide) (Bool.eq_false_iff.mpr hb7) ?_
            refine r_bipush (v := -2) fe_180_90 (by decide) ?_
            refine r_aload_n fe_180_92 rfl ?_
            refine mr_getf hh fe_180_93 lf_12_185 rfl ?_
            refine r_isub (v := ((-2) - ((m_sI (m_sA (m_sI S 26 0) 29 (Int32.toNatClampNeg ((m_sI S 26 0).1 29)) l1) 30 (((m_sA (m_sI S 26 0) 29 (Int32.toNatClampNeg ((m_sI S 26 0).1 29)) l1).1 30) + 0)).1 28))) fe_180_96 rfl ?_
            refine r_goto (t := 106) fe_180_97 (by decide) ?_
            refine r_iret fe_180_106 ⟨rfl, by decide⟩ ?_
            exact dfin (P := fun r T => Q (some (.int r)) (mst T h)) hf hQ
        · rw [if_neg hb6] at hf
          refine r_if_f (t := 78) fe_180_71 (by decide) (Bool.eq_false_iff.mpr hb6) ?_
          refine r_iconst (v := 1) fe_180_74 (by decide) ?_
          refine r_goto (t := 79) fe_180_75 (by decide) ?_
          refine r_iadd (v := (((m_sA (m_sI S 26 0) 29 (Int32.toNatClampNeg ((m_sI S 26 0).1 29)) l1).1 30) + 1)) fe_180_79 rfl ?_
          refine mr_putf hh fe_180_80 lf_12_354 (m_f_30 _ _) (by decide) rfl rfl rfl ?_
          refine r_aload_n fe_180_83 rfl ?_
          refine mr_getf hh fe_180_84 lf_12_185 rfl ?_
          by_cases hb8 : am_if .le ((m_sI (m_sA (m_sI S 26 0) 29 (Int32.toNatClampNeg ((m_sI S 26 0).1 29)) l1) 30 (((m_sA (m_sI S 26 0) 29 (Int32.toNatClampNeg ((m_sI S 26 0).1 29)) l1).1 30) + 1)).1 28) = true
          · rw [if_pos hb8] at hf
            refine r_if_t (t := 100) fe_180_87 (by decide) hb8 ?_
            refine r_aload_n fe_180_100 rfl ?_
            refine mr_getf hh fe_180_101 lf_12_354 rfl ?_
            refine r_iconst (v := 1) fe_180_104 (by decide) ?_
            refine r_isub (v := (((m_sI (m_sA (m_sI S 26 0) 29 (Int32.toNatClampNeg ((m_sI S 26 0).1 29)) l1) 30 (((m_sA (m_sI S 26 0) 29 (Int32.toNatClampNeg ((m_sI S 26 0).1 29)) l1).1 30) + 1)).1 30) - 1)) fe_180_105 rfl ?_
            refine r_iret fe_180_106 ⟨rfl, by decide⟩ ?_
            exact dfin (P := fun r T => Q (some (.int r)) (mst T h)) hf hQ
          · rw [if_neg hb8] at hf
            refine r_if_f (t := 100) fe_180_87 (by decide) (Bool.eq_false_iff.mpr hb8) ?_
            refine r_bipush (v := -2) fe_180_90 (by decide) ?_
            refine r_aload_n fe_180_92 rfl ?_
            refine mr_getf hh fe_180_93 lf_12_185 rfl ?_
            refine r_isub (v := ((-2) - ((m_sI (m_sA (m_sI S 26 0) 29 (Int32.toNatClampNeg ((m_sI S 26 0).1 29)) l1) 30 (((m_sA (m_sI S 26 0) 29 (Int32.toNatClampNeg ((m_sI S 26 0).1 29)) l1).1 30) + 1)).1 28))) fe_180_96 rfl ?_
            refine r_goto (t := 106) fe_180_97 (by decide) ?_
            refine r_iret fe_180_106 ⟨rfl, by decide⟩ ?_
            exact dfin (P := fun r T => Q (some (.int r)) (mst T h)) hf hQ
      · rw [if_neg hb4] at hf
        refine r_if_f (t := 47) fe_180_28 (by decide) (Bool.eq_false_iff.mpr hb4) ?_
        refine r_aload_n fe_180_31 rfl ?_
        refine r_iload_n fe_180_32 rfl ?_
        refine r_callV (as := [.int l1]) (r := []) fe_180_33 lm_12_357 md_181 rfl rfl (Nat.le_of_ble_eq_true rfl) m_c_0 (m_lt hh (by decide)) (Nat.le_of_ble_eq_true rfl) (Nat.le_of_ble_eq_true rfl) ?_
        cases hc10 : F181 n l1 S with
        | none => rw [hc10] at hf; cases hf
        | some z9 =>
          rw [hc10, Option.bind_some] at hf
          refine F181c (r0 := z9.1) (S0 := z9.2) hh hc10 ?_
          refine r_iinc (v := (l1 + 1)) fe_180_36 rfl rfl rfl ?_
          refine r_aload_n fe_180_39 rfl ?_
          refine r_callV (as := []) (r := []) fe_180_40 lm_12_336 md_178 rfl rfl (Nat.le_of_ble_eq_true rfl) m_c_0 (m_lt hh (by decide)) (Nat.le_of_ble_eq_true rfl) (Nat.le_of_ble_eq_true rfl) ?_
          cases hc12 : F178 n  z9.2 with
          | none => rw [hc12] at hf; cases hf
          | some z11 =>
            rw [hc12, Option.bind_some] at hf
            refine F178c (r0 := z11.1) (S0 := z11.2) hh hc12 ?_
            refine r_istore_n fe_180_43 (Nat.le_of_ble_eq_true rfl) rfl ?_
            refine r_goto (t := 27) fe_180_44 (by decide) ?_
            refine go_weak (L0 := [.ref 130, .int (l1 + 1), .int z11.1]) (lwk_c (Or.inl rfl) (lwk_c (Or.inl rfl) (lwk_c (Or.inl rfl) (lwk_rf [])))) ?_
            exact ih.2 (l1 + 1) z11.1 z11.2 hf
theorem F180c {xs : Nat → Int32} {L9 d n : Nat} {h : AmH} {Q : Option Value → AmH → Prop} {r0 : Int32} {S0 S : mS}  (hh : 172 ≤ h.2.1) (hf : F180 n  S = some (r0, S0)) (hQ : Q (some (.int r0)) (mst S0 h)) : Ca (am_X xs L9) (d + 12) 180 [.ref 130] (mst S h) Q := (F180l hh hQ n).1 0 0 S hf
def F194b0 (F : Nat → Int32 → mS → Option (Int32 × mS)) (n : Nat) (l1 : Int32) (S : mS) : Option (Int32 × mS) := ((F172 n (Int32.toInt64 l1) (-1) (Int32.toInt64 ((S.1 30) - 1)) S).bind (fun z1 => (if am_if .ne z1.1 = true then some ((z1.2.2.1 1 8), (m_sA z1.2 1 8 l1)) else some ((-2), z1.2))))
def F194f : Nat → Nat → Int32 → mS → Option (Int32 × mS)
  | 0, _, _, _ => none
  | n + 1, c, l1, S => F194b0 (F194f n) n l1 S
theorem F194e0 (n : Nat) (l1 : Int32) (S : mS) : F194f (n + 1) 0 l1 S = F194b0 (F194f n) n l1 S := rfl
def F194 (n : Nat) (l1 : Int32) (S : mS) : Option (Int32 × mS) := F194f n 0 l1 S
set_option maxRecDepth 20000 in
set_option maxHeartbeats 2000000 in
theorem F194l {xs : Nat → Int32} {L9 d : Nat} {h : AmH} {Q : Option Value → AmH → Prop} {r0 : Int32} {S0 : mS} (hh : 172 ≤ h.2.1) (hQ : Q (some (.int r0)) (mst S0 h)) : ∀ n : Nat, (∀ (l1 : Int32) (S : mS), F194f n 0 l1 S = some (r0, S0) → Go (am_X xs L9) (d + 1) 194 0 [.ref 130, .int l1, .float 0] [] (mst S h) Q) := by
  intro n
  induction n with
  | zero => exact fun l1 S hf => (by cases hf)
  | succ n ih =>
    intro l1 S hf
    rw [F194e0] at hf
    unfold F194b0 at hf
    refine r_iload_n fe_194_0 rfl ?_
    refine r_i2l (v := (Int32.toInt64 l1)) fe_194_1 rfl ?_
    refine r_ldc2 fe_194_2 lk_12_360 ?_
    refine r_aload_n fe_194_5 rfl ?_
    refine mr_getf hh fe_194_6 lf_12_354 rfl ?_
    refine r_iconst (v := 1) fe_194_9 (by decide) ?_
    refine r_isub (v := ((S.1 30) - 1)) fe_194_10 rfl ?_
    refine r_i2l (v := (Int32.toInt64 ((S.1 30) - 1))) fe_194_11 rfl ?_
    refine r_callS (as := [.long (Int32.toInt64 l1), .long (-1), .long (Int32.toInt64 ((S.1 30) - 1))]) (r := []) fe_194_12 lm_12_143 md_172 rfl rfl (Nat.le_of_ble_eq_true rfl) (Nat.le_of_ble_eq_true rfl) (Nat.le_of_ble_eq_true rfl) ?_
    cases hc2 : F172 n (Int32.toInt64 l1) (-1) (Int32.toInt64 ((S.1 30) - 1)) S with
    | none => rw [hc2] at hf; cases hf
    | some z1 =>
      rw [hc2, Option.bind_some] at hf
      refine F172c (r0 := z1.1) (S0 := z1.2) hh hc2 ?_
      by_cases hb3 : am_if .ne z1.1 = true
      · rw [if_pos hb3] at hf
        refine r_if_t (t := 21) fe_194_15 (by decide) hb3 ?_
        refine r_aload_n fe_194_21 rfl ?_
        refine mr_getf hh fe_194_22 lf_12_9 rfl ?_
        refine r_bipush (v := 8) fe_194_25 (by decide) ?_
        refine r_iald (j := 8) (v := z1.2.2.1 1 8) fe_194_27 m_c_1 (m_lt hh (by decide)) (by decide) (by decide) (by decide) rfl ?_
        refine r_istore_n fe_194_28 (Nat.le_of_ble_eq_true rfl) rfl ?_
        refine r_aload_n fe_194_29 rfl ?_
        refine mr_getf hh fe_194_30 lf_12_9 rfl ?_
        refine r_bipush (v := 8) fe_194_33 (by decide) ?_
        refine r_iload_n fe_194_35 rfl ?_
        refine mr_iast (k := 1) (n := 9) (j := 8) hh fe_194_36 rfl (by decide) (by decide) rfl rfl (by decide) (by decide) (by decide) ?_
        refine r_iload_n fe_194_37 rfl ?_
        refine r_iret fe_194_38 ⟨rfl, by decide⟩ ?_
        exact dfin (P := fun r T => Q (some (.int r)) (mst T h)) hf hQ
      · rw [if_neg hb3] at hf
        refine r_if_f (t := 21) fe_194_15 (by decide) (Bool.eq_false_iff.mpr hb3) ?_
        refine r_bipush (v := -2) fe_194_18 (by decide) ?_
        refine r_iret fe_194_20 ⟨rfl, by decide⟩ ?_
        exact dfin (P := fun r T => Q (some (.int r)) (mst T h)) hf hQ
theorem F194c {xs : Nat → Int32} {L9 d n : Nat} {h : AmH} {Q : Option Value → AmH → Prop} {r0 : Int32} {S0 S : mS} {l1 : Int32} (hh : 172 ≤ h.2.1) (hf : F194 n l1 S = some (r0, S0)) (hQ : Q (some (.int r0)) (mst S0 h)) : Ca (am_X xs L9) (d + 1) 194 [.ref 130, .int l1] (mst S h) Q := (F194l hh hQ n) l1 S hf
def F196b0 (F : Nat → Int32 → mS → Option (Int32 × mS)) (n : Nat) (l1 : Int32) (S : mS) : Option (Int32 × mS) := ((F172 n (Int32.toInt64 l1) 0 (Int32.toInt64 ((S.2.1 1 0) - 1)) S).bind (fun z1 => (if narrow .boolean (.int z1.1) = .int z1.1 then some (z1.1, z1.2) else none)))
def F196f : Nat → Nat → Int32 → mS → Option (Int32 × mS)
  | 0, _, _, _ => none
  | n + 1, c, l1, S => F196b0 (F196f n) n l1 S
theorem F196e0 (n : Nat) (l1 : Int32) (S : mS) : F196f (n + 1) 0 l1 S = F196b0 (F196f n) n l1 S := rfl
def F196 (n : Nat) (l1 : Int32) (S : mS) : Option (Int32 × mS) := F196f n 0 l1 S
set_option maxRecDepth 20000 in
set_option maxHeartbeats 2000000 in
theorem F196l {xs : Nat → Int32} {L9 d : Nat} {h : AmH} {Q : Option Value → AmH → Prop} {r0 : Int32} {S0 : mS} (hh : 172 ≤ h.2.1) (hQ : Q (some (.int r0)) (mst S0 h)) : ∀ n : Nat, (∀ (l1 : Int32) (S : mS), F196f n 0 l1 S = some (r0, S0) → Go (am_X xs L9) (d + 1) 196 0 [.ref 130, .int l1] [] (mst S h) Q) := by
  intro n
  induction n with
  | zero => exact fun l1 S hf => (by cases hf)
  | succ n ih =>
    intro l1 S hf
    rw [F196e0] at hf
    unfold F196b0 at hf
    refine r_iload_n fe_196_0 rfl ?_
    refine r_i2l (v := (Int32.toInt64 l1)) fe_196_1 rfl ?_
    refine r_lconst (v := 0) fe_196_2 (by decide) ?_
    refine r_aload_n fe_196_3 rfl ?_
    refine mr_getf hh fe_196_4 lf_12_9 rfl ?_
    refine r_iconst (v := 0) fe_196_7 (by decide) ?_
    refine r_iald (j := 0) (v := S.2.1 1 0) fe_196_8 m_c_1 (m_lt hh (by decide)) (by decide) (by decide) (by decide) rfl ?_
    refine r_iconst (v := 1) fe_196_9 (by decide) ?_
    refine r_isub (v := ((S.2.1 1 0) - 1)) fe_196_10 rfl ?_
    refine r_i2l (v := (Int32.toInt64 ((S.2.1 1 0) - 1))) fe_196_11 rfl ?_
    refine r_callS (as := [.long (Int32.toInt64 l1), .long 0, .long (Int32.toInt64 ((S.2.1 1 0) - 1))]) (r := []) fe_196_12 lm_12_143 md_172 rfl rfl (Nat.le_of_ble_eq_true rfl) (Nat.le_of_ble_eq_true rfl) (Nat.le_of_ble_eq_true rfl) ?_
    cases hc2 : F172 n (Int32.toInt64 l1) 0 (Int32.toInt64 ((S.2.1 1 0) - 1)) S with
    | none => rw [hc2] at hf; cases hf
    | some z1 =>
      rw [hc2, Option.bind_some] at hf
      refine F172c (r0 := z1.1) (S0 := z1.2) hh hc2 ?_
      by_cases hz3 : narrow .boolean (.int z1.1) = .int z1.1
      rotate_left
      · rw [if_neg hz3] at hf; cases hf
      rw [if_pos hz3] at hf
      refine r_iret fe_196_15 ⟨hz3, by decide⟩ ?_
      exact dfin (P := fun r T => Q (some (.int r)) (mst T h)) hf hQ
theorem F196c {xs : Nat → Int32} {L9 d n : Nat} {h : AmH} {Q : Option Value → AmH → Prop} {r0 : Int32} {S0 S : mS} {l1 : Int32} (hh : 172 ≤ h.2.1) (hf : F196 n l1 S = some (r0, S0)) (hQ : Q (some (.int r0)) (mst S0 h)) : Ca (am_X xs L9) (d + 1) 196 [.ref 130, .int l1] (mst S h) Q := (F196l hh hQ n) l1 S hf
def F176_134b0 (F : Nat → Int32 → Int32 → Int32 → mS → Option (Int32 × mS)) (n : Nat) (l1 : Int32) (l2 : Int32) (l3 : Int32) (S : mS) : Option (Int32 × mS) := F 2 l1 l2 0 S
def F176_134b2 (F : Nat → Int32 → Int32 → Int32 → mS → Option (Int32 × mS)) (n : Nat) (l1 : Int32) (l2 : Int32) (l3 : Int32) (S : mS) : Option (Int32 × mS) := (if am_ic .ge l3 l1 = true then some ((-1), S) else (if ¬ (l3 < 0 ∨ 6 ≤ (l3).toNatClampNeg) then (if am_ic .ne (S.2.1 4 (Int32.toNatClampNeg l3)) l2 = true then F 2 l1 l2 (l3 + 1) S else some (l3, S)) else none))
def F176_134f : Nat → Nat → Int32 → Int32 → Int32 → mS → Option (Int32 × mS)
  | 0, _, _, _, _, _ => none
  | n + 1, c, l1, l2, l3, S => if c = 0 then F176_134b0 (F176_134f n) n l1 l2 l3 S else F176_134b2 (F176_134f n) n l1 l2 l3 S
theorem F176_134e0 (n : Nat) (l1 : Int32) (l2 : Int32) (l3 : Int32) (S : mS) : F176_134f (n + 1) 0 l1 l2 l3 S = F176_134b0 (F176_134f n) n l1 l2 l3 S := if_pos rfl
theorem F176_134e2 (n : Nat) (l1 : Int32) (l2 : Int32) (l3 : Int32) (S : mS) : F176_134f (n + 1) 2 l1 l2 l3 S = F176_134b2 (F176_134f n) n l1 l2 l3 S := if_neg (by decide)
def F176_134 (n : Nat) (l1 : Int32) (l2 : Int32) (S : mS) : Option (Int32 × mS) := F176_134f n 0 l1 l2 0 S
set_option maxRecDepth 20000 in
set_option maxHeartbeats 2000000 in
theorem F176_134l {xs : Nat → Int32} {L9 d : Nat} {h : AmH} {Q : Option Value → AmH → Prop} {r0 : Int32} {S0 : mS} (hh : 172 ≤ h.2.1) (hQ : Q (some (.int r0)) (mst S0 h)) : ∀ n : Nat, (∀ (l1 : Int32) (l2 : Int32) (l3 : Int32) (S : mS), F176_134f n 0 l1 l2 l3 S = some (r0, S0) → Go (am_X xs L9) (d + 0) 176 0 [.ref 134, .int l1, .int l2, .float 0] [] (mst S h) Q) ∧ (∀ (l1 : Int32) (l2 : Int32) (l3 : Int32) (S : mS), F176_134f n 2 l1 l2 l3 S = some (r0, S0) → Go (am_X xs L9) (d + 0) 176 2 [.ref 134, .int l1, .int l2, .int l3] [] (mst S h) Q) := by
  intro n
  induction n with
  | zero => exact ⟨fun l1 l2 l3 S hf => (by cases hf), fun l1 l2 l3 S hf => (by cases hf)⟩
  | succ n ih =>
    refine ⟨?_, ?_⟩
    · intro l1 l2 l3 S hf
      rw [F176_134e0] at hf
      unfold F176_134b0 at hf
      refine r_iconst (v := 0) fe_176_0 (by decide) ?_
      refine r_istore_n fe_176_1 (Nat.le_of_ble_eq_true rfl) rfl ?_
      refine go_weak (L0 := [.ref 134, .int l1, .int l2, .int 0]) (lwk_c (Or.inl rfl) (lwk_c (Or.inl rfl) (lwk_c (Or.inl rfl) (lwk_c (Or.inl rfl) (lwk_rf []))))) ?_
      exact ih.2 l1 l2 0 S hf
    · intro l1 l2 l3 S hf
      rw [F176_134e2] at hf
      unfold F176_134b2 at hf
      refine r_iload_n fe_176_2 rfl ?_
      refine r_iload_n fe_176_3 rfl ?_
      by_cases hb1 : am_ic .ge l3 l1 = true
      · rw [if_pos hb1] at hf
        refine r_ic_t (t := 22) fe_176_4 (by decide) hb1 ?_
        refine r_iconst (v := -1) fe_176_22 (by decide) ?_
        refine r_iret fe_176_23 ⟨rfl, by decide⟩ ?_
        exact dfin (P := fun r T => Q (some (.int r)) (mst T h)) hf hQ
      · rw [if_neg hb1] at hf
        refine r_ic_f (t := 22) fe_176_4 (by decide) (Bool.eq_false_iff.mpr hb1) ?_
        refine r_aload_n fe_176_7 rfl ?_
        refine r_iload_n fe_176_8 rfl ?_
        by_cases hg2 : ¬ (l3 < 0 ∨ 6 ≤ (l3).toNatClampNeg)
        rotate_left
        · rw [if_neg hg2] at hf; cases hf
        rw [if_pos hg2] at hf
        refine r_iald (j := (Int32.toNatClampNeg l3)) (v := S.2.1 4 (Int32.toNatClampNeg l3)) fe_176_9 m_c_4 (m_lt hh (by decide)) (fun z => hg2 (Or.inl z)) rfl (fun z => hg2 (Or.inr z)) rfl ?_
        refine r_iload_n fe_176_10 rfl ?_
        by_cases hb3 : am_ic .ne (S.2.1 4 (Int32.toNatClampNeg l3)) l2 = true
        · rw [if_pos hb3] at hf
          refine r_ic_t (t := 16) fe_176_11 (by decide) hb3 ?_
          refine r_iinc (v := (l3 + 1)) fe_176_16 rfl rfl rfl ?_
          refine r_goto (t := 2) fe_176_19 (by decide) ?_
          refine go_weak (L0 := [.ref 134, .int l1, .int l2, .int (l3 + 1)]) (lwk_c (Or.inl rfl) (lwk_c (Or.inl rfl) (lwk_c (Or.inl rfl) (lwk_c (Or.inl rfl) (lwk_rf []))))) ?_
          exact ih.2 l1 l2 (l3 + 1) S hf
        · rw [if_neg hb3] at hf
          refine r_ic_f (t := 16) fe_176_11 (by decide) (Bool.eq_false_iff.mpr hb3) ?_
          refine r_iload_n fe_176_14 rfl ?_
          refine r_iret fe_176_15 ⟨rfl, by decide⟩ ?_
          exact dfin (P := fun r T => Q (some (.int r)) (mst T h)) hf hQ
theorem F176_134c {xs : Nat → Int32} {L9 d n : Nat} {h : AmH} {Q : Option Value → AmH → Prop} {r0 : Int32} {S0 S : mS} {l1 : Int32} {l2 : Int32} (hh : 172 ≤ h.2.1) (hf : F176_134 n l1 l2 S = some (r0, S0)) (hQ : Q (some (.int r0)) (mst S0 h)) : Ca (am_X xs L9) (d + 0) 176 [.ref 134, .int l1, .int l2] (mst S h) Q := (F176_134l hh hQ n).1 l1 l2 0 S hf
def F197b0 (F : Nat → Int32 → mS → Option (Int32 × mS)) (n : Nat) (l1 : Int32) (S : mS) : Option (Int32 × mS) := ((F176_134 n (S.2.1 1 1) l1 S).bind (fun z1 => some (z1.1, z1.2)))
def F197f : Nat → Nat → Int32 → mS → Option (Int32 × mS)
  | 0, _, _, _ => none
  | n + 1, c, l1, S => F197b0 (F197f n) n l1 S
theorem F197e0 (n : Nat) (l1 : Int32) (S : mS) : F197f (n + 1) 0 l1 S = F197b0 (F197f n) n l1 S := rfl
def F197 (n : Nat) (l1 : Int32) (S : mS) : Option (Int32 × mS) := F197f n 0 l1 S
set_option maxRecDepth 20000 in
set_option maxHeartbeats 2000000 in
theorem F197l {xs : Nat → Int32} {L9 d : Nat} {h : AmH} {Q : Option Value → AmH → Prop} {r0 : Int32} {S0 : mS} (hh : 172 ≤ h.2.1) (hQ : Q (some (.int r0)) (mst S0 h)) : ∀ n : Nat, (∀ (l1 : Int32) (S : mS), F197f n 0 l1 S = some (r0, S0) → Go (am_X xs L9) (d + 1) 197 0 [.ref 130, .int l1] [] (mst S h) Q) := by
  intro n
  induction n with
  | zero => exact fun l1 S hf => (by cases hf)
  | succ n ih =>
    intro l1 S hf
    rw [F197e0] at hf
    unfold F197b0 at hf
    refine r_aload_n fe_197_0 rfl ?_
    refine mr_getf hh fe_197_1 lf_12_19 rfl ?_
    refine r_aload_n fe_197_4 rfl ?_
    refine mr_getf hh fe_197_5 lf_12_9 rfl ?_
    refine r_iconst (v := 1) fe_197_8 (by decide) ?_
    refine r_iald (j := 1) (v := S.2.1 1 1) fe_197_9 m_c_1 (m_lt hh (by decide)) (by decide) (by decide) (by decide) rfl ?_
    refine r_iload_n fe_197_10 rfl ?_
    refine r_callS (as := [.ref 134, .int (S.2.1 1 1), .int l1]) (r := []) fe_197_11 lm_12_147 md_176 rfl rfl (Nat.le_of_ble_eq_true rfl) (Nat.le_of_ble_eq_true rfl) (Nat.le_of_ble_eq_true rfl) ?_
    cases hc2 : F176_134 n (S.2.1 1 1) l1 S with
    | none => rw [hc2] at hf; cases hf
    | some z1 =>
      rw [hc2, Option.bind_some] at hf
      refine F176_134c (r0 := z1.1) (S0 := z1.2) hh hc2 ?_
      refine r_iret fe_197_14 ⟨rfl, by decide⟩ ?_
      exact dfin (P := fun r T => Q (some (.int r)) (mst T h)) hf hQ
theorem F197c {xs : Nat → Int32} {L9 d n : Nat} {h : AmH} {Q : Option Value → AmH → Prop} {r0 : Int32} {S0 S : mS} {l1 : Int32} (hh : 172 ≤ h.2.1) (hf : F197 n l1 S = some (r0, S0)) (hQ : Q (some (.int r0)) (mst S0 h)) : Ca (am_X xs L9) (d + 1) 197 [.ref 130, .int l1] (mst S h) Q := (F197l hh hQ n) l1 S hf
def F176_137b0 (F : Nat → Int32 → Int32 → Int32 → mS → Option (Int32 × mS)) (n : Nat) (l1 : Int32) (l2 : Int32) (l3 : Int32) (S : mS) : Option (Int32 × mS) := F 2 l1 l2 0 S
def F176_137b2 (F : Nat → Int32 → Int32 → Int32 → mS → Option (Int32 × mS)) (n : Nat) (l1 : Int32) (l2 : Int32) (l3 : Int32) (S : mS) : Option (Int32 × mS) := (if am_ic .ge l3 l1 = true then some ((-1), S) else (if ¬ (l3 < 0 ∨ 4 ≤ (l3).toNatClampNeg) then (if am_ic .ne (S.2.1 7 (Int32.toNatClampNeg l3)) l2 = true then F 2 l1 l2 (l3 + 1) S else some (l3, S)) else none))
def F176_137f : Nat → Nat → Int32 → Int32 → Int32 → mS → Option (Int32 × mS)
  | 0, _, _, _, _, _ => none
  | n + 1, c, l1, l2, l3, S => if c = 0 then F176_137b0 (F176_137f n) n l1 l2 l3 S else F176_137b2 (F176_137f n) n l1 l2 l3 S
theorem F176_137e0 (n : Nat) (l1 : Int32) (l2 : Int32) (l3 : Int32) (S : mS) : F176_137f (n + 1) 0 l1 l2 l3 S = F176_137b0 (F176_137f n) n l1 l2 l3 S := if_pos rfl
theorem F176_137e2 (n : Nat) (l1 : Int32) (l2 : Int32) (l3 : Int32) (S : mS) : F176_137f (n + 1) 2 l1 l2 l3 S = F176_137b2 (F176_137f n) n l1 l2 l3 S := if_neg (by decide)
def F176_137 (n : Nat) (l1 : Int32) (l2 : Int32) (S : mS) : Option (Int32 × mS) := F176_137f n 0 l1 l2 0 S
set_option maxRecDepth 20000 in
set_option maxHeartbeats 2000000 in
theorem F176_137l {xs : Nat → Int32} {L9 d : Nat} {h : AmH} {Q : Option Value → AmH → Prop} {r0 : Int32} {S0 : mS} (hh : 172 ≤ h.2.1) (hQ : Q (some (.int r0)) (mst S0 h)) : ∀ n : Nat, (∀ (l1 : Int32) (l2 : Int32) (l3 : Int32) (S : mS), F176_137f n 0 l1 l2 l3 S = some (r0, S0) → Go (am_X xs L9) (d + 0) 176 0 [.ref 137, .int l1, .int l2, .float 0] [] (mst S h) Q) ∧ (∀ (l1 : Int32) (l2 : Int32) (l3 : Int32) (S : mS), F176_137f n 2 l1 l2 l3 S = some (r0, S0) → Go (am_X xs L9) (d + 0) 176 2 [.ref 137, .int l1, .int l2, .int l3] [] (mst S h) Q) := by
  intro n
  induction n with
  | zero => exact ⟨fun l1 l2 l3 S hf => (by cases hf), fun l1 l2 l3 S hf => (by cases hf)⟩
  | succ n ih =>
    refine ⟨?_, ?_⟩
    · intro l1 l2 l3 S hf
      rw [F176_137e0] at hf
      unfold F176_137b0 at hf
      refine r_iconst (v := 0) fe_176_0 (by decide) ?_
      refine r_istore_n fe_176_1 (Nat.le_of_ble_eq_true rfl) rfl ?_
      refine go_weak (L0 := [.ref 137, .int l1, .int l2, .int 0]) (lwk_c (Or.inl rfl) (lwk_c (Or.inl rfl) (lwk_c (Or.inl rfl) (lwk_c (Or.inl rfl) (lwk_rf []))))) ?_
      exact ih.2 l1 l2 0 S hf
    · intro l1 l2 l3 S hf
      rw [F176_137e2] at hf
      unfold F176_137b2 at hf
      refine r_iload_n fe_176_2 rfl ?_
      refine r_iload_n fe_176_3 rfl ?_
      by_cases hb1 : am_ic .ge l3 l1 = true
      · rw [if_pos hb1] at hf
        refine r_ic_t (t := 22) fe_176_4 (by decide) hb1 ?_
        refine r_iconst (v := -1) fe_176_22 (by decide) ?_
        refine r_iret fe_176_23 ⟨rfl, by decide⟩ ?_
        exact dfin (P := fun r T => Q (some (.int r)) (mst T h)) hf hQ
      · rw [if_neg hb1] at hf
        refine r_ic_f (t := 22) fe_176_4 (by decide) (Bool.eq_false_iff.mpr hb1) ?_
        refine r_aload_n fe_176_7 rfl ?_
        refine r_iload_n fe_176_8 rfl ?_
        by_cases hg2 : ¬ (l3 < 0 ∨ 4 ≤ (l3).toNatClampNeg)
        rotate_left
        · rw [if_neg hg2] at hf; cases hf
        rw [if_pos hg2] at hf
        refine r_iald (j := (Int32.toNatClampNeg l3)) (v := S.2.1 7 (Int32.toNatClampNeg l3)) fe_176_9 m_c_7 (m_lt hh (by decide)) (fun z => hg2 (Or.inl z)) rfl (fun z => hg2 (Or.inr z)) rfl ?_
        refine r_iload_n fe_176_10 rfl ?_
        by_cases hb3 : am_ic .ne (S.2.1 7 (Int32.toNatClampNeg l3)) l2 = true
        · rw [if_pos hb3] at hf
          refine r_ic_t (t := 16) fe_176_11 (by decide) hb3 ?_
          refine r_iinc (v := (l3 + 1)) fe_176_16 rfl rfl rfl ?_
          refine r_goto (t := 2) fe_176_19 (by decide) ?_
          refine go_weak (L0 := [.ref 137, .int l1, .int l2, .int (l3 + 1)]) (lwk_c (Or.inl rfl) (lwk_c (Or.inl rfl) (lwk_c (Or.inl rfl) (lwk_c (Or.inl rfl) (lwk_rf []))))) ?_
          exact ih.2 l1 l2 (l3 + 1) S hf
        · rw [if_neg hb3] at hf
          refine r_ic_f (t := 16) fe_176_11 (by decide) (Bool.eq_false_iff.mpr hb3) ?_
          refine r_iload_n fe_176_14 rfl ?_
          refine r_iret fe_176_15 ⟨rfl, by decide⟩ ?_
          exact dfin (P := fun r T => Q (some (.int r)) (mst T h)) hf hQ
theorem F176_137c {xs : Nat → Int32} {L9 d n : Nat} {h : AmH} {Q : Option Value → AmH → Prop} {r0 : Int32} {S0 S : mS} {l1 : Int32} {l2 : Int32} (hh : 172 ≤ h.2.1) (hf : F176_137 n l1 l2 S = some (r0, S0)) (hQ : Q (some (.int r0)) (mst S0 h)) : Ca (am_X xs L9) (d + 0) 176 [.ref 137, .int l1, .int l2] (mst S h) Q := (F176_137l hh hQ n).1 l1 l2 0 S hf
def F198b0 (F : Nat → Int32 → mS → Option (Int32 × mS)) (n : Nat) (l1 : Int32) (S : mS) : Option (Int32 × mS) := ((F176_137 n (S.2.1 1 2) l1 S).bind (fun z1 => some (z1.1, z1.2)))
def F198f : Nat → Nat → Int32 → mS → Option (Int32 × mS)
  | 0, _, _, _ => none
  | n + 1, c, l1, S => F198b0 (F198f n) n l1 S
theorem F198e0 (n : Nat) (l1 : Int32) (S : mS) : F198f (n + 1) 0 l1 S = F198b0 (F198f n) n l1 S := rfl
def F198 (n : Nat) (l1 : Int32) (S : mS) : Option (Int32 × mS) := F198f n 0 l1 S
set_option maxRecDepth 20000 in
set_option maxHeartbeats 2000000 in
theorem F198l {xs : Nat → Int32} {L9 d : Nat} {h : AmH} {Q : Option Value → AmH → Prop} {r0 : Int32} {S0 : mS} (hh : 172 ≤ h.2.1) (hQ : Q (some (.int r0)) (mst S0 h)) : ∀ n : Nat, (∀ (l1 : Int32) (S : mS), F198f n 0 l1 S = some (r0, S0) → Go (am_X xs L9) (d + 1) 198 0 [.ref 130, .int l1] [] (mst S h) Q) := by
  intro n
  induction n with
  | zero => exact fun l1 S hf => (by cases hf)
  | succ n ih =>
    intro l1 S hf
    rw [F198e0] at hf
    unfold F198b0 at hf
    refine r_aload_n fe_198_0 rfl ?_
    refine mr_getf hh fe_198_1 lf_12_28 rfl ?_
    refine r_aload_n fe_198_4 rfl ?_
    refine mr_getf hh fe_198_5 lf_12_9 rfl ?_
    refine r_iconst (v := 2) fe_198_8 (by decide) ?_
    refine r_iald (j := 2) (v := S.2.1 1 2) fe_198_9 m_c_1 (m_lt hh (by decide)) (by decide) (by decide) (by decide) rfl ?_
    refine r_iload_n fe_198_10 rfl ?_
    refine r_callS (as := [.ref 137, .int (S.2.1 1 2), .int l1]) (r := []) fe_198_11 lm_12_147 md_176 rfl rfl (Nat.le_of_ble_eq_true rfl) (Nat.le_of_ble_eq_true rfl) (Nat.le_of_ble_eq_true rfl) ?_
    cases hc2 : F176_137 n (S.2.1 1 2) l1 S with
    | none => rw [hc2] at hf; cases hf
    | some z1 =>
      rw [hc2, Option.bind_some] at hf
      refine F176_137c (r0 := z1.1) (S0 := z1.2) hh hc2 ?_
      refine r_iret fe_198_14 ⟨rfl, by decide⟩ ?_
      exact dfin (P := fun r T => Q (some (.int r)) (mst T h)) hf hQ
theorem F198c {xs : Nat → Int32} {L9 d n : Nat} {h : AmH} {Q : Option Value → AmH → Prop} {r0 : Int32} {S0 S : mS} {l1 : Int32} (hh : 172 ≤ h.2.1) (hf : F198 n l1 S = some (r0, S0)) (hQ : Q (some (.int r0)) (mst S0 h)) : Ca (am_X xs L9) (d + 1) 198 [.ref 130, .int l1] (mst S h) Q := (F198l hh hQ n) l1 S hf
def F199b0 (F : Nat → Int32 → Int32 → mS → Option (Int32 × mS)) (n : Nat) (l0 : Int32) (l1 : Int32) (S : mS) : Option (Int32 × mS) := (if am_ic .ne ((l0 >>> (l1 &&& 31)) &&& 1) 1 = true then some (0, S) else some (1, S))
def F199f : Nat → Nat → Int32 → Int32 → mS → Option (Int32 × mS)
  | 0, _, _, _, _ => none
  | n + 1, c, l0, l1, S => F199b0 (F199f n) n l0 l1 S
theorem F199e0 (n : Nat) (l0 : Int32) (l1 : Int32) (S : mS) : F199f (n + 1) 0 l0 l1 S = F199b0 (F199f n) n l0 l1 S := rfl
def F199 (n : Nat) (l0 : Int32) (l1 : Int32) (S : mS) : Option (Int32 × mS) := F199f n 0 l0 l1 S
set_option maxRecDepth 20000 in
set_option maxHeartbeats 2000000 in
theorem F199l {xs : Nat → Int32} {L9 d : Nat} {h : AmH} {Q : Option Value → AmH → Prop} {r0 : Int32} {S0 : mS} (hh : 172 ≤ h.2.1) (hQ : Q (some (.int r0)) (mst S0 h)) : ∀ n : Nat, (∀ (l0 : Int32) (l1 : Int32) (S : mS), F199f n 0 l0 l1 S = some (r0, S0) → Go (am_X xs L9) (d + 0) 199 0 [.int l0, .int l1] [] (mst S h) Q) := by
  intro n
  induction n with
  | zero => exact fun l0 l1 S hf => (by cases hf)
  | succ n ih =>
    intro l0 l1 S hf
    rw [F199e0] at hf
    unfold F199b0 at hf
    refine r_iload_n fe_199_0 rfl ?_
    refine r_iload_n fe_199_1 rfl ?_
    refine r_ishr (v := (l0 >>> (l1 &&& 31))) fe_199_2 rfl ?_
    refine r_iconst (v := 1) fe_199_3 (by decide) ?_
    refine r_iand (v := ((l0 >>> (l1 &&& 31)) &&& 1)) fe_199_4 rfl ?_
    refine r_iconst (v := 1) fe_199_5 (by decide) ?_
    by_cases hb1 : am_ic .ne ((l0 >>> (l1 &&& 31)) &&& 1) 1 = true
    · rw [if_pos hb1] at hf
      refine r_ic_t (t := 13) fe_199_6 (by decide) hb1 ?_
      refine r_iconst (v := 0) fe_199_13 (by decide) ?_
      refine r_iret fe_199_14 ⟨rfl, by decide⟩ ?_
      exact dfin (P := fun r T => Q (some (.int r)) (mst T h)) hf hQ
    · rw [if_neg hb1] at hf
      refine r_ic_f (t := 13) fe_199_6 (by decide) (Bool.eq_false_iff.mpr hb1) ?_
      refine r_iconst (v := 1) fe_199_9 (by decide) ?_
      refine r_goto (t := 14) fe_199_10 (by decide) ?_
      refine r_iret fe_199_14 ⟨rfl, by decide⟩ ?_
      exact dfin (P := fun r T => Q (some (.int r)) (mst T h)) hf hQ
theorem F199c {xs : Nat → Int32} {L9 d n : Nat} {h : AmH} {Q : Option Value → AmH → Prop} {r0 : Int32} {S0 S : mS} {l0 : Int32} {l1 : Int32} (hh : 172 ≤ h.2.1) (hf : F199 n l0 l1 S = some (r0, S0)) (hQ : Q (some (.int r0)) (mst S0 h)) : Ca (am_X xs L9) (d + 0) 199 [.int l0, .int l1] (mst S h) Q := (F199l hh hQ n) l0 l1 S hf
def F176_138b0 (F : Nat → Int32 → Int32 → Int32 → mS → Option (Int32 × mS)) (n : Nat) (l1 : Int32) (l2 : Int32) (l3 : Int32) (S : mS) : Option (Int32 × mS) := F 2 l1 l2 0 S
def F176_138b2 (F : Nat → Int32 → Int32 → Int32 → mS → Option (Int32 × mS)) (n : Nat) (l1 : Int32) (l2 : Int32) (l3 : Int32) (S : mS) : Option (Int32 × mS) := (if am_ic .ge l3 l1 = true then some ((-1), S) else (if ¬ (l3 < 0 ∨ 13 ≤ (l3).toNatClampNeg) then (if am_ic .ne (S.2.1 8 (Int32.toNatClampNeg l3)) l2 = true then F 2 l1 l2 (l3 + 1) S else some (l3, S)) else none))
def F176_138f : Nat → Nat → Int32 → Int32 → Int32 → mS → Option (Int32 × mS)
  | 0, _, _, _, _, _ => none
  | n + 1, c, l1, l2, l3, S => if c = 0 then F176_138b0 (F176_138f n) n l1 l2 l3 S else F176_138b2 (F176_138f n) n l1 l2 l3 S
theorem F176_138e0 (n : Nat) (l1 : Int32) (l2 : Int32) (l3 : Int32) (S : mS) : F176_138f (n + 1) 0 l1 l2 l3 S = F176_138b0 (F176_138f n) n l1 l2 l3 S := if_pos rfl
theorem F176_138e2 (n : Nat) (l1 : Int32) (l2 : Int32) (l3 : Int32) (S : mS) : F176_138f (n + 1) 2 l1 l2 l3 S = F176_138b2 (F176_138f n) n l1 l2 l3 S := if_neg (by decide)
def F176_138 (n : Nat) (l1 : Int32) (l2 : Int32) (S : mS) : Option (Int32 × mS) := F176_138f n 0 l1 l2 0 S
set_option maxRecDepth 20000 in
set_option maxHeartbeats 2000000 in
theorem F176_138l {xs : Nat → Int32} {L9 d : Nat} {h : AmH} {Q : Option Value → AmH → Prop} {r0 : Int32} {S0 : mS} (hh : 172 ≤ h.2.1) (hQ : Q (some (.int r0)) (mst S0 h)) : ∀ n : Nat, (∀ (l1 : Int32) (l2 : Int32) (l3 : Int32) (S : mS), F176_138f n 0 l1 l2 l3 S = some (r0, S0) → Go (am_X xs L9) (d + 0) 176 0 [.ref 138, .int l1, .int l2, .float 0] [] (mst S h) Q) ∧ (∀ (l1 : Int32) (l2 : Int32) (l3 : Int32) (S : mS), F176_138f n 2 l1 l2 l3 S = some (r0, S0) → Go (am_X xs L9) (d + 0) 176 2 [.ref 138, .int l1, .int l2, .int l3] [] (mst S h) Q) := by
  intro n
  induction n with
  | zero => exact ⟨fun l1 l2 l3 S hf => (by cases hf), fun l1 l2 l3 S hf => (by cases hf)⟩
  | succ n ih =>
    refine ⟨?_, ?_⟩
    · intro l1 l2 l3 S hf
      rw [F176_138e0] at hf
      unfold F176_138b0 at hf
      refine r_iconst (v := 0) fe_176_0 (by decide) ?_
      refine r_istore_n fe_176_1 (Nat.le_of_ble_eq_true rfl) rfl ?_
      refine go_weak (L0 := [.ref 138, .int l1, .int l2, .int 0]) (lwk_c (Or.inl rfl) (lwk_c (Or.inl rfl) (lwk_c (Or.inl rfl) (lwk_c (Or.inl rfl) (lwk_rf []))))) ?_
      exact ih.2 l1 l2 0 S hf
    · intro l1 l2 l3 S hf
      rw [F176_138e2] at hf
      unfold F176_138b2 at hf
      refine r_iload_n fe_176_2 rfl ?_
      refine r_iload_n fe_176_3 rfl ?_
      by_cases hb1 : am_ic .ge l3 l1 = true
      · rw [if_pos hb1] at hf
        refine r_ic_t (t := 22) fe_176_4 (by decide) hb1 ?_
        refine r_iconst (v := -1) fe_176_22 (by decide) ?_
        refine r_iret fe_176_23 ⟨rfl, by decide⟩ ?_
        exact dfin (P := fun r T => Q (some (.int r)) (mst T h)) hf hQ
      · rw [if_neg hb1] at hf
        refine r_ic_f (t := 22) fe_176_4 (by decide) (Bool.eq_false_iff.mpr hb1) ?_
        refine r_aload_n fe_176_7 rfl ?_
        refine r_iload_n fe_176_8 rfl ?_
        by_cases hg2 : ¬ (l3 < 0 ∨ 13 ≤ (l3).toNatClampNeg)
        rotate_left
        · rw [if_neg hg2] at hf; cases hf
        rw [if_pos hg2] at hf
        refine r_iald (j := (Int32.toNatClampNeg l3)) (v := S.2.1 8 (Int32.toNatClampNeg l3)) fe_176_9 m_c_8 (m_lt hh (by decide)) (fun z => hg2 (Or.inl z)) rfl (fun z => hg2 (Or.inr z)) rfl ?_
        refine r_iload_n fe_176_10 rfl ?_
        by_cases hb3 : am_ic .ne (S.2.1 8 (Int32.toNatClampNeg l3)) l2 = true
        · rw [if_pos hb3] at hf
          refine r_ic_t (t := 16) fe_176_11 (by decide) hb3 ?_
          refine r_iinc (v := (l3 + 1)) fe_176_16 rfl rfl rfl ?_
          refine r_goto (t := 2) fe_176_19 (by decide) ?_
          refine go_weak (L0 := [.ref 138, .int l1, .int l2, .int (l3 + 1)]) (lwk_c (Or.inl rfl) (lwk_c (Or.inl rfl) (lwk_c (Or.inl rfl) (lwk_c (Or.inl rfl) (lwk_rf []))))) ?_
          exact ih.2 l1 l2 (l3 + 1) S hf
        · rw [if_neg hb3] at hf
          refine r_ic_f (t := 16) fe_176_11 (by decide) (Bool.eq_false_iff.mpr hb3) ?_
          refine r_iload_n fe_176_14 rfl ?_
          refine r_iret fe_176_15 ⟨rfl, by decide⟩ ?_
          exact dfin (P := fun r T => Q (some (.int r)) (mst T h)) hf hQ
theorem F176_138c {xs : Nat → Int32} {L9 d n : Nat} {h : AmH} {Q : Option Value → AmH → Prop} {r0 : Int32} {S0 S : mS} {l1 : Int32} {l2 : Int32} (hh : 172 ≤ h.2.1) (hf : F176_138 n l1 l2 S = some (r0, S0)) (hQ : Q (some (.int r0)) (mst S0 h)) : Ca (am_X xs L9) (d + 0) 176 [.ref 138, .int l1, .int l2] (mst S h) Q := (F176_138l hh hQ n).1 l1 l2 0 S hf
def F200b0 (F : Nat → Int32 → mS → Option (Int32 × mS)) (n : Nat) (l1 : Int32) (S : mS) : Option (Int32 × mS) := ((F176_138 n (S.2.1 1 3) l1 S).bind (fun z1 => some (z1.1, z1.2)))
def F200f : Nat → Nat → Int32 → mS → Option (Int32 × mS)
  | 0, _, _, _ => none
  | n + 1, c, l1, S => F200b0 (F200f n) n l1 S
theorem F200e0 (n : Nat) (l1 : Int32) (S : mS) : F200f (n + 1) 0 l1 S = F200b0 (F200f n) n l1 S := rfl
def F200 (n : Nat) (l1 : Int32) (S : mS) : Option (Int32 × mS) := F200f n 0 l1 S
set_option maxRecDepth 20000 in
set_option maxHeartbeats 2000000 in
theorem F200l {xs : Nat → Int32} {L9 d : Nat} {h : AmH} {Q : Option Value → AmH → Prop} {r0 : Int32} {S0 : mS} (hh : 172 ≤ h.2.1) (hQ : Q (some (.int r0)) (mst S0 h)) : ∀ n : Nat, (∀ (l1 : Int32) (S : mS), F200f n 0 l1 S = some (r0, S0) → Go (am_X xs L9) (d + 1) 200 0 [.ref 130, .int l1] [] (mst S h) Q) := by
  intro n
  induction n with
  | zero => exact fun l1 S hf => (by cases hf)
  | succ n ih =>
    intro l1 S hf
    rw [F200e0] at hf
    unfold F200b0 at hf
    refine r_aload_n fe_200_0 rfl ?_
    refine mr_getf hh fe_200_1 lf_12_31 rfl ?_
    refine r_aload_n fe_200_4 rfl ?_
    refine mr_getf hh fe_200_5 lf_12_9 rfl ?_
    refine r_iconst (v := 3) fe_200_8 (by decide) ?_
    refine r_iald (j := 3) (v := S.2.1 1 3) fe_200_9 m_c_1 (m_lt hh (by decide)) (by decide) (by decide) (by decide) rfl ?_
    refine r_iload_n fe_200_10 rfl ?_
    refine r_callS (as := [.ref 138, .int (S.2.1 1 3), .int l1]) (r := []) fe_200_11 lm_12_147 md_176 rfl rfl (Nat.le_of_ble_eq_true rfl) (Nat.le_of_ble_eq_true rfl) (Nat.le_of_ble_eq_true rfl) ?_
    cases hc2 : F176_138 n (S.2.1 1 3) l1 S with
    | none => rw [hc2] at hf; cases hf
    | some z1 =>
      rw [hc2, Option.bind_some] at hf
      refine F176_138c (r0 := z1.1) (S0 := z1.2) hh hc2 ?_
      refine r_iret fe_200_14 ⟨rfl, by decide⟩ ?_
      exact dfin (P := fun r T => Q (some (.int r)) (mst T h)) hf hQ
theorem F200c {xs : Nat → Int32} {L9 d n : Nat} {h : AmH} {Q : Option Value → AmH → Prop} {r0 : Int32} {S0 S : mS} {l1 : Int32} (hh : 172 ≤ h.2.1) (hf : F200 n l1 S = some (r0, S0)) (hQ : Q (some (.int r0)) (mst S0 h)) : Ca (am_X xs L9) (d + 1) 200 [.ref 130, .int l1] (mst S h) Q := (F200l hh hQ n) l1 S hf
def F202b0 (F : Nat → Int32 → mS → Option (Int32 × mS)) (n : Nat) (l1 : Int32) (S : mS) : Option (Int32 × mS) := (if ¬ (l1 < 0 ∨ 13 ≤ (l1).toNatClampNeg) then (if am_if .ne (S.2.1 13 (Int32.toNatClampNeg l1)) = true then some (0, S) else some (1, S)) else none)
def F202f : Nat → Nat → Int32 → mS → Option (Int32 × mS)
  | 0, _, _, _ => none
  | n + 1, c, l1, S => F202b0 (F202f n) n l1 S
theorem F202e0 (n : Nat) (l1 : Int32) (S : mS) : F202f (n + 1) 0 l1 S = F202b0 (F202f n) n l1 S := rfl
def F202 (n : Nat) (l1 : Int32) (S : mS) : Option (Int32 × mS) := F202f n 0 l1 S
set_option maxRecDepth 20000 in
set_option maxHeartbeats 2000000 in
theorem F202l {xs : Nat → Int32} {L9 d : Nat} {h : AmH} {Q : Option Value → AmH → Prop} {r0 : Int32} {S0 : mS} (hh : 172 ≤ h.2.1) (hQ : Q (some (.int r0)) (mst S0 h)) : ∀ n : Nat, (∀ (l1 : Int32) (S : mS), F202f n 0 l1 S = some (r0, S0) → Go (am_X xs L9) (d + 0) 202 0 [.ref 130, .int l1] [] (mst S h) Q) := by
  intro n
  induction n with
  | zero => exact fun l1 S hf => (by cases hf)
  | succ n ih =>
    intro l1 S hf
    rw [F202e0] at hf
    unfold F202b0 at hf
    refine r_aload_n fe_202_0 rfl ?_
    refine mr_getf hh fe_202_1 lf_12_46 rfl ?_
    refine r_iload_n fe_202_4 rfl ?_
    by_cases hg1 : ¬ (l1 < 0 ∨ 13 ≤ (l1).toNatClampNeg)
    rotate_left
    · rw [if_neg hg1] at hf; cases hf
    rw [if_pos hg1] at hf
    refine r_iald (j := (Int32.toNatClampNeg l1)) (v := S.2.1 13 (Int32.toNatClampNeg l1)) fe_202_5 m_c_13 (m_lt hh (by decide)) (fun z => hg1 (Or.inl z)) rfl (fun z => hg1 (Or.inr z)) rfl ?_
    by_cases hb2 : am_if .ne (S.2.1 13 (Int32.toNatClampNeg l1)) = true
    · rw [if_pos hb2] at hf
      refine r_if_t (t := 13) fe_202_6 (by decide) hb2 ?_
      refine r_iconst (v := 0) fe_202_13 (by decide) ?_
      refine r_iret fe_202_14 ⟨rfl, by decide⟩ ?_
      exact dfin (P := fun r T => Q (some (.int r)) (mst T h)) hf hQ
    · rw [if_neg hb2] at hf
      refine r_if_f (t := 13) fe_202_6 (by decide) (Bool.eq_false_iff.mpr hb2) ?_
      refine r_iconst (v := 1) fe_202_9 (by decide) ?_
      refine r_goto (t := 14) fe_202_10 (by decide) ?_
      refine r_iret fe_202_14 ⟨rfl, by decide⟩ ?_
      exact dfin (P := fun r T => Q (some (.int r)) (mst T h)) hf hQ
theorem F202c {xs : Nat → Int32} {L9 d n : Nat} {h : AmH} {Q : Option Value → AmH → Prop} {r0 : Int32} {S0 S : mS} {l1 : Int32} (hh : 172 ≤ h.2.1) (hf : F202 n l1 S = some (r0, S0)) (hQ : Q (some (.int r0)) (mst S0 h)) : Ca (am_X xs L9) (d + 0) 202 [.ref 130, .int l1] (mst S h) Q := (F202l hh hQ n) l1 S hf
def F201b0 (F : Nat → Int32 → Int32 → Int32 → mS → Option (Int32 × mS)) (n : Nat) (l1 : Int32) (l2 : Int32) (l3 : Int32) (S : mS) : Option (Int32 × mS) := F 4 l1 0 0 S
def F201b4 (F : Nat → Int32 → Int32 → Int32 → mS → Option (Int32 × mS)) (n : Nat) (l1 : Int32) (l2 : Int32) (l3 : Int32) (S : mS) : Option (Int32 × mS) := (if am_ic .ge l3 (S.2.1 1 4) = true then some (l2, S) else ((F202 n l3 S).bind (fun z2 => (if am_if .eq z2.1 = true then F 4 l1 (l2 ||| 0) (l3 + 1) z2.2 else (if ¬ (l3 < 0 ∨ 13 ≤ (l3).toNatClampNeg) then (if am_ic .ne (z2.2.2.1 10 (Int32.toNatClampNeg l3)) l1 = true then F 4 l1 (l2 ||| 0) (l3 + 1) z2.2 else F 4 l1 (l2 ||| (1 <<< (l3 &&& 31))) (l3 + 1) z2.2) else none)))))
def F201f : Nat → Nat → Int32 → Int32 → Int32 → mS → Option (Int32 × mS)
  | 0, _, _, _, _, _ => none
  | n + 1, c, l1, l2, l3, S => if c = 0 then F201b0 (F201f n) n l1 l2 l3 S else F201b4 (F201f n) n l1 l2 l3 S
theorem F201e0 (n : Nat) (l1 : Int32) (l2 : Int32) (l3 : Int32) (S : mS) : F201f (n + 1) 0 l1 l2 l3 S = F201b0 (F201f n) n l1 l2 l3 S := if_pos rfl
theorem F201e4 (n : Nat) (l1 : Int32) (l2 : Int32) (l3 : Int32) (S : mS) : F201f (n + 1) 4 l1 l2 l3 S = F201b4 (F201f n) n l1 l2 l3 S := if_neg (by decide)
def F201 (n : Nat) (l1 : Int32) (S : mS) : Option (Int32 × mS) := F201f n 0 l1 0 0 S
set_option maxRecDepth 20000 in
set_option maxHeartbeats 2000000 in
theorem F201l {xs : Nat → Int32} {L9 d : Nat} {h : AmH} {Q : Option Value → AmH → Prop} {r0 : Int32} {S0 : mS} (hh : 172 ≤ h.2.1) (hQ : Q (some (.int r0)) (mst S0 h)) : ∀ n : Nat, (∀ (l1 : Int32) (l2 : Int32) (l3 : Int32) (S : mS), F201f n 0 l1 l2 l3 S = some (r0, S0) → Go (am_X xs L9) (d + 1) 201 0 [.ref 130, .int l1, .float 0, .float 0] [] (mst S h) Q) ∧ (∀ (l1 : Int32) (l2 : Int32) (l3 : Int32) (S : mS), F201f n 4 l1 l2 l3 S = some (r0, S0) → Go (am_X xs L9) (d + 1) 201 4 [.ref 130, .int l1, .int l2, .int l3] [] (mst S h) Q) := by
  intro n
  induction n with
  | zero => exact ⟨fun l1 l2 l3 S hf => (by cases hf), fun l1 l2 l3 S hf => (by cases hf)⟩
  | succ n ih =>
    refine ⟨?_, ?_⟩
    · intro l1 l2 l3 S hf
      rw [F201e0] at hf
      unfold F201b0 at hf
      refine r_iconst (v := 0) fe_201_0 (by decide) ?_
      refine r_istore_n fe_201_1 (Nat.le_of_ble_eq_true rfl) rfl ?_
      refine r_iconst (v := 0) fe_201_2 (by decide) ?_
      refine r_istore_n fe_201_3 (Nat.le_of_ble_eq_true rfl) rfl ?_
      refine go_weak (L0 := [.ref 130, .int l1, .int 0, .int 0]) (lwk_c (Or.inl rfl) (lwk_c (Or.inl rfl) (lwk_c (Or.inl rfl) (lwk_c (Or.inl rfl) (lwk_rf []))))) ?_
      exact ih.2 l1 0 0 S hf
    · intro l1 l2 l3 S hf
      rw [F201e4] at hf
      unfold F201b4 at hf
      refine r_iload_n fe_201_4 rfl ?_
      refine r_aload_n fe_201_5 rfl ?_
      refine mr_getf hh fe_201_6 lf_12_9 rfl ?_
      refine r_iconst (v := 4) fe_201_9 (by decide) ?_
      refine r_iald (j := 4) (v := S.2.1 1 4) fe_201_10 m_c_1 (m_lt hh (by decide)) (by decide) (by decide) (by decide) rfl ?_
      by_cases hb1 : am_ic .ge l3 (S.2.1 1 4) = true
      · rw [if_pos hb1] at hf
        refine r_ic_t (t := 48) fe_201_11 (by decide) hb1 ?_
        refine r_iload_n fe_201_48 rfl ?_
        refine r_iret fe_201_49 ⟨rfl, by decide⟩ ?_
        exact dfin (P := fun r T => Q (some (.int r)) (mst T h)) hf hQ
      · rw [if_neg hb1] at hf
        refine r_ic_f (t := 48) fe_201_11 (by decide) (Bool.eq_false_iff.mpr hb1) ?_
        refine r_iload_n fe_201_14 rfl ?_
        refine r_aload_n fe_201_15 rfl ?_
        refine r_iload_n fe_201_16 rfl ?_
        refine r_callV (as := [.int l3]) (r := [.int l2]) fe_201_17 lm_12_374 md_202 rfl rfl (Nat.le_of_ble_eq_true rfl) m_c_0 (m_lt hh (by decide)) (Nat.le_of_ble_eq_true rfl) (Nat.le_of_ble_eq_true rfl) ?_
        cases hc3 : F202 n l3 S with
        | none => rw [hc3] at hf; cases hf
        | some z2 =>
          rw [hc3, Option.bind_some] at hf
          refine F202c (r0 := z2.1) (S0 := z2.2) hh hc3 ?_
          by_cases hb4 : am_if .eq z2.1 = true
          · rw [if_pos hb4] at hf
            refine r_if_t (t := 39) fe_201_20 (by decide) hb4 ?_
            refine r_iconst (v := 0) fe_201_39 (by decide) ?_
            refine r_ior (v := (l2 ||| 0)) fe_201_40 rfl ?_
            refine r_istore_n fe_201_41 (Nat.le_of_ble_eq_true rfl) rfl ?_
            refine r_iinc (v := (l3 + 1)) fe_201_42 rfl rfl rfl ?_
            refine r_goto (t := 4) fe_201_45 (by decide) ?_
            refine go_weak (L0 := [.ref 130, .int l1, .int (l2 ||| 0), .int (l3 + 1)]) (lwk_c (Or.inl rfl) (lwk_c (Or.inl rfl) (lwk_c (Or.inl rfl) (lwk_c (Or.inl rfl) (lwk_rf []))))) ?_
            exact ih.2 l1 (l2 ||| 0) (l3 + 1) z2.2 hf
          · rw [if_neg hb4] at hf
            refine r_if_f (t := 39) fe_201_20 (by decide) (Bool.eq_false_iff.mpr hb4) ?_
            refine r_aload_n fe_201_23 rfl ?_
            refine mr_getf hh fe_201_24 lf_12_37 rfl ?_
            refine r_iload_n fe_201_27 rfl ?_
            by_cases hg5 : ¬ (l3 < 0 ∨ 13 ≤ (l3).toNatClampNeg)
            rotate_left
            · rw [if_neg hg5] at hf; cases hf
            rw [if_pos hg5] at hf
            refine r_iald (j := (Int32.toNatClampNeg l3)) (v := z2.2.2.1 10 (Int32.toNatClampNeg l3)) fe_201_28 m_c_10 (m_lt hh (by decide)) (fun z => hg5 (Or.inl z)) rfl (fun z => hg5 (Or.inr z)) rfl ?_
            refine r_iload_n fe_201_29 rfl ?_
            by_cases hb6 : am_ic .ne (z2.2.2.1 10 (Int32.toNatClampNeg l3)) l1 = true
            · rw [if_pos hb6] at hf
              refine r_ic_t (t := 39) fe_201_30 (by decide) hb6 ?_
              refine r_iconst (v := 0) fe_201_39 (by decide) ?_
              refine r_ior (v := (l2 ||| 0)) fe_201_40 rfl ?_
              refine r_istore_n fe_201_41 (Nat.le_of_ble_eq_true rfl) rfl ?_
              refine r_iinc (v := (l3 + 1)) fe_201_42 rfl rfl rfl ?_
              refine r_goto (t := 4) fe_201_45 (by decide) ?_
              refine go_weak (L0 := [.ref 130, .int l1, .int (l2 ||| 0), .int (l3 + 1)]) (lwk_c (Or.inl rfl) (lwk_c (Or.inl rfl) (lwk_c (Or.inl rfl) (lwk_c (Or.inl rfl) (lwk_rf []))))) ?_
              exact ih.2 l1 (l2 ||| 0) (l3 + 1) z2.2 hf
            · rw [if_neg hb6] at hf
              refine r_ic_f (t := 39) fe_201_30 (by decide) (Bool.eq_false_iff.mpr hb6) ?_
              refine r_iconst (v := 1) fe_201_33 (by decide) ?_
              refine r_iload_n fe_201_34 rfl ?_
              refine r_ishl (v := (1 <<< (l3 &&& 31))) fe_201_35 rfl ?_
              refine r_goto (t := 40) fe_201_36 (by decide) ?_
              refine r_ior (v := (l2 ||| (1 <<< (l3 &&& 31)))) fe_201_40 rfl ?_
              refine r_istore_n fe_201_41 (Nat.le_of_ble_eq_true rfl) rfl ?_
              refine r_iinc (v := (l3 + 1)) fe_201_42 rfl rfl rfl ?_
              refine r_goto (t := 4) fe_201_45 (by decide) ?_
              refine go_weak (L0 := [.ref 130, .int l1, .int (l2 ||| (1 <<< (l3 &&& 31))), .int (l3 + 1)]) (lwk_c (Or.inl rfl) (lwk_c (Or.inl rfl) (lwk_c (Or.inl rfl) (lwk_c (Or.inl rfl) (lwk_rf []))))) ?_
              exact ih.2 l1 (l2 ||| (1 <<< (l3 &&& 31))) (l3 + 1) z2.2 hf
theorem F201c {xs : Nat → Int32} {L9 d n : Nat} {h : AmH} {Q : Option Value → AmH → Prop} {r0 : Int32} {S0 S : mS} {l1 : Int32} (hh : 172 ≤ h.2.1) (hf : F201 n l1 S = some (r0, S0)) (hQ : Q (some (.int r0)) (mst S0 h)) : Ca (am_X xs L9) (d + 1) 201 [.ref 130, .int l1] (mst S h) Q := (F201l hh hQ n).1 l1 0 0 S hf
def F195b0 (F : Nat → Int32 → Int32 → mS → Option (Int32 × mS)) (n : Nat) (l1 : Int32) (l2 : Int32) (S : mS) : Option (Int32 × mS) := ((F196 n l1 S).bind (fun z1 => (if am_if .ne z1.1 = true then (if ((l2).toInt < 0 ∨ 5 < (l2).toInt) then some ((-2), z1.2) else (if l2 = 0 then (if ¬ (l1 < 0 ∨ 16 ≤ (l1).toNatClampNeg) then some ((z1.2.2.1 2 (Int32.toNatClampNeg l1)), z1.2) else none) else (if l2 = 1 then (if ¬ (l1 < 0 ∨ 16 ≤ (l1).toNatClampNeg) then some ((z1.2.2.1 3 (Int32.toNatClampNeg l1)), z1.2) else none) else (if l2 = 2 then ((F197 n l1 z1.2).bind (fun z10 => (if am_ic .ne z10.1 (-1) = true then ((F197 n l1 z10.2).bind (fun z13 => (if ¬ (z13.1 < 0 ∨ 6 ≤ (z13.1).toNatClampNeg) then some ((z13.2.2.1 5 (Int32.toNatClampNeg z13.1)), z13.2) else none))) else some (0, z10.2)))) else (if l2 = 3 then ((F198 n l1 z1.2).bind (fun z17 => (if am_ic .ne z17.1 (-1) = true then ((F198 n l1 z17.2).bind (fun z20 => ((F199 n (z17.2.2.1 1 5) z20.1 z20.2).bind (fun z22 => (if am_if .eq z22.1 = true then some (1, z22.2) else some (2, z22.2)))))) else some (0, z17.2)))) else (if l2 = 4 then ((F200 n l1 z1.2).bind (fun z26 => (if am_ic .ne z26.1 (-1) = true then ((F200 n l1 z26.2).bind (fun z29 => (if ¬ (z29.1 < 0 ∨ 13 ≤ (z29.1).toNatClampNeg) then some ((z29.2.2.1 9 (Int32.toNatClampNeg z29.1)), z29.2) else none))) else some (0, z26.2)))) else (if l2 = 5 then ((F201 n l1 z1.2).bind (fun z33 => some (z33.1, z33.2))) else none))))))) else some ((-2), z1.2))))
def F195f : Nat → Nat → Int32 → Int32 → mS → Option (Int32 × mS)
  | 0, _, _, _, _ => none
  | n + 1, c, l1, l2, S => F195b0 (F195f n) n l1 l2 S
theorem F195e0 (n : Nat) (l1 : Int32) (l2 : Int32) (S : mS) : F195f (n + 1) 0 l1 l2 S = F195b0 (F195f n) n l1 l2 S := rfl
def F195 (n : Nat) (l1 : Int32) (l2 : Int32) (S : mS) : Option (Int32 × mS) := F195f n 0 l1 l2 S
set_option maxRecDepth 20000 in
set_option maxHeartbeats 2000000 in
theorem F195l {xs : Nat → Int32} {L9 d : Nat} {h : AmH} {Q : Option Value → AmH → Prop} {r0 : Int32} {S0 : mS} (hh : 172 ≤ h.2.1) (hQ : Q (some (.int r0)) (mst S0 h)) : ∀ n : Nat, (∀ (l1 : Int32) (l2 : Int32) (S : mS), F195f n 0 l1 l2 S = some (r0, S0) → Go (am_X xs L9) (d + 2) 195 0 [.ref 130, .int l1, .int l2] [] (mst S h) Q) := by
  intro n
  induction n with
  | zero => exact fun l1 l2 S hf => (by cases hf)
  | succ n ih =>
    intro l1 l2 S hf
    rw [F195e0] at hf
    unfold F195b0 at hf
    refine r_aload_n fe_195_0 rfl ?_
    refine r_iload_n fe_195_1 rfl ?_
    refine r_callV (as := [.int l1]) (r := []) fe_195_2 lm_12_378 md_196 rfl rfl (Nat.le_of_ble_eq_true rfl) m_c_0 (m_lt hh (by decide)) (Nat.le_of_ble_eq_true rfl) (Nat.le_of_ble_eq_true rfl) ?_
    cases hc2 : F196 n l1 S with
    | none => rw [hc2] at hf; cases hf
    | some z1 =>
      rw [hc2, Option.bind_some] at hf
      refine F196c (r0 := z1.1) (S0 := z1.2) hh hc2 ?_
      by_cases hb3 : am_if .ne z1.1 = true
      · rw [if_pos hb3] at hf
        refine r_if_t (t := 11) fe_195_5 (by decide) hb3 ?_
        refine r_iload_n fe_195_11 rfl ?_
        by_cases hs4 : ((l2).toInt < 0 ∨ 5 < (l2).toInt)
        · rw [if_pos hs4] at hf
          refine r_tabO (t := 156) fe_195_12 hs4 (by decide) ?_
          refine r_bipush (v := -2) fe_195_156 (by decide) ?_
          refine r_iret fe_195_158 ⟨rfl, by decide⟩ ?_
          exact dfin (P := fun r T => Q (some (.int r)) (mst T h)) hf hQ
        · rw [if_neg hs4] at hf
          by_cases hx5 : l2 = 0
          · rw [if_pos hx5] at hf
            refine r_tabI (off := 40) (t := 52) fe_195_12 hs4 (by rw [hx5]; decide) (by decide) ?_
            refine r_aload_n fe_195_52 rfl ?_
            refine mr_getf hh fe_195_53 lf_12_13 rfl ?_
            refine r_iload_n fe_195_56 rfl ?_
            by_cases hg6 : ¬ (l1 < 0 ∨ 16 ≤ (l1).toNatClampNeg)
            rotate_left
            · rw [if_neg hg6] at hf; cases hf
            rw [if_pos hg6] at hf
            refine r_iald (j := (Int32.toNatClampNeg l1)) (v := z1.2.2.1 2 (Int32.toNatClampNeg l1)) fe_195_57 m_c_2 (m_lt hh (by decide)) (fun z => hg6 (Or.inl z)) rfl (fun z => hg6 (Or.inr z)) rfl ?_
            refine r_iret fe_195_58 ⟨rfl, by decide⟩ ?_
            exact dfin (P := fun r T => Q (some (.int r)) (mst T h)) hf hQ
          · rw [if_neg hx5] at hf
            by_cases hx7 : l2 = 1
            · rw [if_pos hx7] at hf
              refine r_tabI (off := 47) (t := 59) fe_195_12 hs4 (by rw [hx7]; decide) (by decide) ?_
              refine r_aload_n fe_195_59 rfl ?_
              refine mr_getf hh fe_195_60 lf_12_16 rfl ?_
              refine r_iload_n fe_195_63 rfl ?_
              by_cases hg8 : ¬ (l1 < 0 ∨ 16 ≤ (l1).toNatClampNeg)
              rotate_left
              · rw [if_neg hg8] at hf; cases hf
              rw [if_pos hg8] at hf
              refine r_iald (j := (Int32.toNatClampNeg l1)) (v := z1.2.2.1 3 (Int32.toNatClampNeg l1)) fe_195_64 m_c_3 (m_lt hh (by decide)) (fun z => hg8 (Or.inl z)) rfl (fun z => hg8 (Or.inr z)) rfl ?_
              refine r_iret fe_195_65 ⟨rfl, by decide⟩ ?_
              exact dfin (P := fun r T => Q (some (.int r)) (mst T h)) hf hQ
            · rw [if_neg hx7] at hf
              by_cases hx9 : l2 = 2
              · rw [if_pos hx9] at hf
                refine r_tabI (off := 54) (t := 66) fe_195_12 hs4 (by rw [hx9]; decide) (by decide) ?_
                refine r_aload_n fe_195_66 rfl ?_
                refine r_iload_n fe_195_67 rfl ?_
                refine r_callV (as := [.int l1]) (r := []) fe_195_68 lm_12_381 md_197 rfl rfl (Nat.le_of_ble_eq_true rfl) m_c_0 (m_lt hh (by decide)) (Nat.le_of_ble_eq_true rfl) (Nat.le_of_ble_eq_true rfl) ?_
                cases hc11 : F197 n l1 z1.2 with
                | none => rw [hc11] at hf; cases hf
                | some z10 =>
                  rw [hc11, Option.bind_some] at hf
                  refine F197c (r0 := z10.1) (S0 := z10.2) hh hc11 ?_
                  refine r_iconst (v := -1) fe_195_71 (by decide) ?_
                  by_cases hb12 : am_ic .ne z10.1 (-1) = true
                  · rw [if_pos hb12] at hf
                    refine r_ic_t (t := 79) fe_195_72 (by decide) hb12 ?_
                    refine r_aload_n fe_195_79 rfl ?_
                    refine mr_getf hh fe_195_80 lf_12_22 rfl ?_
                    refine r_aload_n fe_195_83 rfl ?_
                    refine r_iload_n fe_195_84 rfl ?_
                    refine r_callV (as := [.int l1]) (r := [.ref 135]) fe_195_85 lm_12_381 md_197 rfl rfl (Nat.le_of_ble_eq_true rfl) m_c_0 (m_lt hh (by decide)) (Nat.le_of_ble_eq_true rfl) (Nat.le_of_ble_eq_true rfl) ?_
                    cases hc14 : F197 n l1 z10.2 with
                    | none => rw [hc14] at hf; cases hf
                    | some z13 =>
                      rw [hc14, Option.bind_some] at hf
                      refine F197c (r0 := z13.1) (S0 := z13.2) hh hc14 ?_
                      by_cases hg15 : ¬ (z13.1 < 0 ∨ 6 ≤ (z13.1).toNatClampNeg)
                      rotate_left
                      · rw [if_neg hg15] at hf; cases hf
                      rw [if_pos hg15] at hf
                      refine r_iald (j := (Int32.toNatClampNeg z13.1)) (v := z13.2.2.1 5 (Int32.toNatClampNeg z13.1)) fe_195_88 m_c_5 (m_lt hh (by decide)) (fun z => hg15 (Or.inl z)) rfl (fun z => hg15 (Or.inr z)) rfl ?_
                      refine r_iret fe_195_89 ⟨rfl, by decide⟩ ?_
                      exact dfin (P := fun r T => Q (some (.int r)) (mst T h)) hf hQ
                  · rw [if_neg hb12] at hf
                    refine r_ic_f (t := 79) fe_195_72 (by decide) (Bool.eq_false_iff.mpr hb12) ?_
                    refine r_iconst (v := 0) fe_195_75 (by decide) ?_
                    refine r_goto (t := 89) fe_195_76 (by decide) ?_
                    refine r_iret fe_195_89 ⟨rfl, by decide⟩ ?_
                    exact dfin (P := fun r T => Q (some (.int r)) (mst T h)) hf hQ
              · rw [if_neg hx9] at hf
                by_cases hx16 : l2 = 3
                · rw [if_pos hx16] at hf
                  refine r_tabI (off := 78) (t := 90) fe_195_12 hs4 (by rw [hx16]; decide) (by decide) ?_
                  refine r_aload_n fe_195_90 rfl ?_
                  refine r_iload_n fe_195_91 rfl ?_
                  refine r_callV (as := [.int l1]) (r := []) fe_195_92 lm_12_384 md_198 rfl rfl (Nat.le_of_ble_eq_true rfl) m_c_0 (m_lt hh (by decide)) (Nat.le_of_ble_eq_true rfl) (Nat.le_of_ble_eq_true rfl) ?_
                  cases hc18 : F198 n l1 z1.2 with
                  | none => rw [hc18] at hf; cases hf
                  | some z17 =>
                    rw [hc18, Option.bind_some] at hf
                    refine F198c (r0 := z17.1) (S0 := z17.2) hh hc18 ?_
                    refine r_iconst (v := -1) fe_195_95 (by decide) ?_
                    by_cases hb19 : am_ic .ne z17.1 (-1) = true
                    · rw [if_pos hb19] at hf
                      refine r_ic_t (t := 103) fe_195_96 (by decide) hb19 ?_
                      refine r_aload_n fe_195_103 rfl ?_
                      refine mr_getf hh fe_195_104 lf_12_9 rfl ?_
                      refine r_iconst (v := 5) fe_195_107 (by decide) ?_
                      refine r_iald (j := 5) (v := z17.2.2.1 1 5) fe_195_108 m_c_1 (m_lt hh (by decide)) (by decide) (by decide) (by decide) rfl ?_
                      refine r_aload_n fe_195_109 rfl ?_
                      refine r_iload_n fe_195_110 rfl ?_
                      refine r_callV (as := [.int l1]) (r := [.int (z17.2.2.1 1 5)]) fe_195_111 lm_12_384 md_198 rfl rfl (Nat.le_of_ble_eq_true rfl) m_c_0 (m_lt hh (by decide)) (Nat.le_of_ble_eq_true rfl) (Nat.le_of_ble_eq_true rfl) ?_
                      cases hc21 : F198 n l1 z17.2 with
                      | none => rw [hc21] at hf; cases hf
                      | some z20 =>
                        rw [hc21, Option.bind_some] at hf
                        refine F198c (r0 := z20.1) (S0 := z20.2) hh hc21 ?_
                        refine r_callS (as := [.int (z17.2.2.1 1 5), .int z20.1]) (r := []) fe_195_114 lm_12_387 md_199 rfl rfl (Nat.le_of_ble_eq_true rfl) (Nat.le_of_ble_eq_true rfl) (Nat.le_of_ble_eq_true rfl) ?_
                        cases hc23 : F199 n (z17.2.2.1 1 5) z20.1 z20.2 with
                        | none => rw [hc23] at hf; cases hf
                        | some z22 =>
                          rw [hc23, Option.bind_some] at hf
                          refine F199c (r0 := z22.1) (S0 := z22.2) hh hc23 ?_
                          by_cases hb24 : am_if .eq z22.1 = true
                          · rw [if_pos hb24] at hf
                            refine r_if_t (t := 124) fe_195_117 (by decide) hb24 ?_
                            refine r_iconst (v := 1) fe_195_124 (by decide) ?_
                            refine r_iret fe_195_125 ⟨rfl, by decide⟩ ?_
                            exact dfin (P := fun r T => Q (some (.int r)) (mst T h)) hf hQ
                          · rw [if_neg hb24] at hf
                            refine r_if_f (t := 124) fe_195_117 (by decide) (Bool.eq_false_iff.mpr hb24) ?_
                            refine r_iconst (v := 2) fe_195_120 (by decide) ?_
                            refine r_goto (t := 125) fe_195_121 (by decide) ?_
                            refine r_iret fe_195_125 ⟨rfl, by decide⟩ ?_
                            exact dfin (P := fun r T => Q (some (.int r)) (mst T h)) hf hQ
                    · rw [if_neg hb19] at hf
                      refine r_ic_f (t := 103) fe_195_96 (by decide) (Bool.eq_false_iff.mpr hb19) ?_
                      refine r_iconst (v := 0) fe_195_99 (by decide) ?_
                      refine r_goto (t := 125) fe_195_100 (by decide) ?_
                      refine r_iret fe_195_125 ⟨rfl, by decide⟩ ?_
                      exact dfin (P := fun r T => Q (some (.int r)) (mst T h)) hf hQ
                · rw [if_neg hx16] at hf
                  by_cases hx25 : l2 = 4
                  · rw [if_pos hx25] at hf
                    refine r_tabI (off := 114) (t := 126) fe_195_12 hs4 (by rw [hx25]; decide) (by decide) ?_
                    refine r_aload_n fe_195_126 rfl ?_
                    refine r_iload_n fe_195_127 rfl ?_
                    refine r_callV (as := [.int l1]) (r := []) fe_195_128 lm_12_390 md_200 rfl rfl (Nat.le_of_ble_eq_true rfl) m_c_0 (m_lt hh (by decide)) (Nat.le_of_ble_eq_true rfl) (Nat.le_of_ble_eq_true rfl) ?_
                    cases hc27 : F200 n l1 z1.2 with
                    | none => rw [hc27] at hf; cases hf
                    | some z26 =>
                      rw [hc27, Option.bind_some] at hf
                      refine F200c (r0 := z26.1) (S0 := z26.2) hh hc27 ?_
                      refine r_iconst (v := -1) fe_195_131 (by decide) ?_
                      by_cases hb28 : am_ic .ne z26.1 (-1) = true
                      · rw [if_pos hb28] at hf
                        refine r_ic_t (t := 139) fe_195_132 (by decide) hb28 ?_
                        refine r_aload_n fe_195_139 rfl ?_
                        refine mr_getf hh fe_195_140 lf_12_34 rfl ?_
                        refine r_aload_n fe_195_143 rfl ?_
                        refine r_iload_n fe_195_144 rfl ?_
                        refine r_callV (as := [.int l1]) (r := [.ref 139]) fe_195_145 lm_12_390 md_200 rfl rfl (Nat.le_of_ble_eq_true rfl) m_c_0 (m_lt hh (by decide)) (Nat.le_of_ble_eq_true rfl) (Nat.le_of_ble_eq_true rfl) ?_
                        cases hc30 : F200 n l1 z26.2 with
                        | none => rw [hc30] at hf; cases hf
                        | some z29 =>
                          rw [hc30, Option.bind_some] at hf
                          refine F200c (r0 := z29.1) (S0 := z29.2) hh hc30 ?_
                          by_cases hg31 : ¬ (z29.1 < 0 ∨ 13 ≤ (z29.1).toNatClampNeg)
                          rotate_left
                          · rw [if_neg hg31] at hf; cases hf
                          rw [if_pos hg31] at hf
                          refine r_iald (j := (Int32.toNatClampNeg z29.1)) (v := z29.2.2.1 9 (Int32.toNatClampNeg z29.1)) fe_195_148 m_c_9 (m_lt hh (by decide)) (fun z => hg31 (Or.inl z)) rfl (fun z => hg31 (Or.inr z)) rfl ?_
                          refine r_iret fe_195_149 ⟨rfl, by decide⟩ ?_
                          exact dfin (P := fun r T => Q (some (.int r)) (mst T h)) hf hQ
                      · rw [if_neg hb28] at hf
                        refine r_ic_f (t := 139) fe_195_132 (by decide) (Bool.eq_false_iff.mpr hb28) ?_
                        refine r_iconst (v := 0) fe_195_135 (by decide) ?_
                        refine r_goto (t := 149) fe_195_136 (by decide) ?_
                        refine r_iret fe_195_149 ⟨rfl, by decide⟩ ?_
                        exact dfin (P := fun r T => Q (some (.int r)) (mst T h)) hf hQ
                  · rw [if_neg hx25] at hf
                    by_cases hx32 : l2 = 5
                    · rw [if_pos hx32] at hf
                      refine r_tabI (off := 138) (t := 150) fe_195_12 hs4 (by rw [hx32]; decide) (by decide) ?_
                      refine r_aload_n fe_195_150 rfl ?_
                      refine r_iload_n fe_195_151 rfl ?_
                      refine r_callV (as := [.int l1]) (r := []) fe_195_152 lm_12_393 md_201 rfl rfl (Nat.le_of_ble_eq_true rfl) m_c_0 (m_lt hh (by decide)) (Nat.le_of_ble_eq_true rfl) (Nat.le_of_ble_eq_true rfl) ?_
                      cases hc34 : F201 n l1 z1.2 with
                      | none => rw [hc34] at hf; cases hf
                      | some z33 =>
                        rw [hc34, Option.bind_some] at hf
                        refine F201c (r0 := z33.1) (S0 := z33.2) hh hc34 ?_
                        refine r_iret fe_195_155 ⟨rfl, by decide⟩ ?_
                        exact dfin (P := fun r T => Q (some (.int r)) (mst T h)) hf hQ
                    · rw [if_neg hx32] at hf
                      cases hf
      · rw [if_neg hb3] at hf
        refine r_if_f (t := 11) fe_195_5 (by decide) (Bool.eq_false_iff.mpr hb3) ?_
        refine r_bipush (v := -2) fe_195_8 (by decide) ?_
        refine r_iret fe_195_10 ⟨rfl, by decide⟩ ?_
        exact dfin (P := fun r T => Q (some (.int r)) (mst T h)) hf hQ
theorem F195c {xs : Nat → Int32} {L9 d n : Nat} {h : AmH} {Q : Option Value → AmH → Prop} {r0 : Int32} {S0 S : mS} {l1 : Int32} {l2 : Int32} (hh : 172 ≤ h.2.1) (hf : F195 n l1 l2 S = some (r0, S0)) (hQ : Q (some (.int r0)) (mst S0 h)) : Ca (am_X xs L9) (d + 2) 195 [.ref 130, .int l1, .int l2] (mst S h) Q := (F195l hh hQ n) l1 l2 S hf
def F204b0 (F : Nat → Int32 → mS → Option (Int32 × mS)) (n : Nat) (l1 : Int32) (S : mS) : Option (Int32 × mS) := ((F172 n (Int32.toInt64 l1) 0 (Int32.toInt64 ((S.2.1 1 4) - 1)) S).bind (fun z1 => (if narrow .boolean (.int z1.1) = .int z1.1 then some (z1.1, z1.2) else none)))
def F204f : Nat → Nat → Int32 → mS → Option (Int32 × mS)
  | 0, _, _, _ => none
  | n + 1, c, l1, S => F204b0 (F204f n) n l1 S
theorem F204e0 (n : Nat) (l1 : Int32) (S : mS) : F204f (n + 1) 0 l1 S = F204b0 (F204f n) n l1 S := rfl
def F204 (n : Nat) (l1 : Int32) (S : mS) : Option (Int32 × mS) := F204f n 0 l1 S
set_option maxRecDepth 20000 in
set_option maxHeartbeats 2000000 in
theorem F204l {xs : Nat → Int32} {L9 d : Nat} {h : AmH} {Q : Option Value → AmH → Prop} {r0 : Int32} {S0 : mS} (hh : 172 ≤ h.2.1) (hQ : Q (some (.int r0)) (mst S0 h)) : ∀ n : Nat, (∀ (l1 : Int32) (S : mS), F204f n 0 l1 S = some (r0, S0) → Go (am_X xs L9) (d + 1) 204 0 [.ref 130, .int l1] [] (mst S h) Q) := by
  intro n
  induction n with
  | zero => exact fun l1 S hf => (by cases hf)
  | succ n ih =>
    intro l1 S hf
    rw [F204e0] at hf
    unfold F204b0 at hf
    refine r_iload_n fe_204_0 rfl ?_
    refine r_i2l (v := (Int32.toInt64 l1)) fe_204_1 rfl ?_
    refine r_lconst (v := 0) fe_204_2 (by decide) ?_
    refine r_aload_n fe_204_3 rfl ?_
    refine mr_getf hh fe_204_4 lf_12_9 rfl ?_
    refine r_iconst (v := 4) fe_204_7 (by decide) ?_
    refine r_iald (j := 4) (v := S.2.1 1 4) fe_204_8 m_c_1 (m_lt hh (by decide)) (by decide) (by decide) (by decide) rfl ?_
    refine r_iconst (v := 1) fe_204_9 (by decide) ?_
    refine r_isub (v := ((S.2.1 1 4) - 1)) fe_204_10 rfl ?_
    refine r_i2l (v := (Int32.toInt64 ((S.2.1 1 4) - 1))) fe_204_11 rfl ?_
    refine r_callS (as := [.long (Int32.toInt64 l1), .long 0, .long (Int32.toInt64 ((S.2.1 1 4) - 1))]) (r := []) fe_204_12 lm_12_143 md_172 rfl rfl (Nat.le_of_ble_eq_true rfl) (Nat.le_of_ble_eq_true rfl) (Nat.le_of_ble_eq_true rfl) ?_
    cases hc2 : F172 n (Int32.toInt64 l1) 0 (Int32.toInt64 ((S.2.1 1 4) - 1)) S with
    | none => rw [hc2] at hf; cases hf
    | some z1 =>
      rw [hc2, Option.bind_some] at hf
      refine F172c (r0 := z1.1) (S0 := z1.2) hh hc2 ?_
      by_cases hz3 : narrow .boolean (.int z1.1) = .int z1.1
      rotate_left
      · rw [if_neg hz3] at hf; cases hf
      rw [if_pos hz3] at hf
      refine r_iret fe_204_15 ⟨hz3, by decide⟩ ?_
      exact dfin (P := fun r T => Q (some (.int r)) (mst T h)) hf hQ
theorem F204c {xs : Nat → Int32} {L9 d n : Nat} {h : AmH} {Q : Option Value → AmH → Prop} {r0 : Int32} {S0 S : mS} {l1 : Int32} (hh : 172 ≤ h.2.1) (hf : F204 n l1 S = some (r0, S0)) (hQ : Q (some (.int r0)) (mst S0 h)) : Ca (am_X xs L9) (d + 1) 204 [.ref 130, .int l1] (mst S h) Q := (F204l hh hQ n) l1 S hf
def F203b0 (F : Nat → Int32 → Int32 → mS → Option (Int32 × mS)) (n : Nat) (l1 : Int32) (l2 : Int32) (S : mS) : Option (Int32 × mS) := ((F204 n l1 S).bind (fun z1 => (if am_if .ne z1.1 = true then (if ((l2).toInt < 0 ∨ 5 < (l2).toInt) then some ((-2), z1.2) else (if l2 = 0 then ((F202 n l1 z1.2).bind (fun z6 => (if am_if .eq z6.1 = true then some ((-1), z6.2) else (if ¬ (l1 < 0 ∨ 13 ≤ (l1).toNatClampNeg) then some ((z6.2.2.1 10 (Int32.toNatClampNeg l1)), z6.2) else none)))) else (if l2 = 1 then (if ¬ (l1 < 0 ∨ 13 ≤ (l1).toNatClampNeg) then some ((z1.2.2.1 11 (Int32.toNatClampNeg l1)), z1.2) else none) else (if l2 = 2 then ((F202 n l1 z1.2).bind (fun z13 => (if am_if .eq z13.1 = true then some (0, z13.2) else (if ¬ (l1 < 0 ∨ 13 ≤ (l1).toNatClampNeg) then some ((z13.2.2.1 12 (Int32.toNatClampNeg l1)), z13.2) else none)))) else (if l2 = 3 then (if ¬ (l1 < 0 ∨ 13 ≤ (l1).toNatClampNeg) then some ((z1.2.2.1 13 (Int32.toNatClampNeg l1)), z1.2) else none) else (if l2 = 4 then (if ¬ (l1 < 0 ∨ 13 ≤ (l1).toNatClampNeg) then some ((z1.2.2.1 14 (Int32.toNatClampNeg l1)), z1.2) else none) else (if l2 = 5 then (if ¬ (l1 < 0 ∨ 13 ≤ (l1).toNatClampNeg) then some ((z1.2.2.1 15 (Int32.toNatClampNeg l1)), z1.2) else none) else none))))))) else some ((-2), z1.2))))
def F203f : Nat → Nat → Int32 → Int32 → mS → Option (Int32 × mS)
  | 0, _, _, _, _ => none
  | n + 1, c, l1, l2, S => F203b0 (F203f n) n l1 l2 S
theorem F203e0 (n : Nat) (l1 : Int32) (l2 : Int32) (S : mS) : F203f (n + 1) 0 l1 l2 S = F203b0 (F203f n) n l1 l2 S := rfl
def F203 (n : Nat) (l1 : Int32) (l2 : Int32) (S : mS) : Option (Int32 × mS) := F203f n 0 l1 l2 S
set_option maxRecDepth 20000 in
set_option maxHeartbeats 2000000 in
theorem F203l {xs : Nat → Int32} {L9 d : Nat} {h : AmH} {Q : Option Value → AmH → Prop} {r0 : Int32} {S0 : mS} (hh : 172 ≤ h.2.1) (hQ : Q (some (.int r0)) (mst S0 h)) : ∀ n : Nat, (∀ (l1 : Int32) (l2 : Int32) (S : mS), F203f n 0 l1 l2 S = some (r0, S0) → Go (am_X xs L9) (d + 2) 203 0 [.ref 130, .int l1, .int l2] [] (mst S h) Q) := by
  intro n
  induction n with
  | zero => exact fun l1 l2 S hf => (by cases hf)
  | succ n ih =>
    intro l1 l2 S hf
    rw [F203e0] at hf
    unfold F203b0 at hf
    refine r_aload_n fe_203_0 rfl ?_
    refine r_iload_n fe_203_1 rfl ?_
    refine r_callV (as := [.int l1]) (r := []) fe_203_2 lm_12_396 md_204 rfl rfl (Nat.le_of_ble_eq_true rfl) m_c_0 (m_lt hh (by decide)) (Nat.le_of_ble_eq_true rfl) (Nat.le_of_ble_eq_true rfl) ?_
    cases hc2 : F204 n l1 S with
    | none => rw [hc2] at hf; cases hf
    | some z1 =>
      rw [hc2, Option.bind_some] at hf
      refine F204c (r0 := z1.1) (S0 := z1.2) hh hc2 ?_
      by_cases hb3 : am_if .ne z1.1 = true
      · rw [if_pos hb3] at hf
        refine r_if_t (t := 11) fe_203_5 (by decide) hb3 ?_
        refine r_iload_n fe_203_11 rfl ?_
        by_cases hs4 : ((l2).toInt < 0 ∨ 5 < (l2).toInt)
        · rw [if_pos hs4] at hf
          refine r_tabO (t := 118) fe_203_12 hs4 (by decide) ?_
          refine r_bipush (v := -2) fe_203_118 (by decide) ?_
          refine r_iret fe_203_120 ⟨rfl, by decide⟩ ?_
          exact dfin (P := fun r T => Q (some (.int r)) (mst T h)) hf hQ
        · rw [if_neg hs4] at hf
          by_cases hx5 : l2 = 0
          · rw [if_pos hx5] at hf
            refine r_tabI (off := 40) (t := 52) fe_203_12 hs4 (by rw [hx5]; decide) (by decide) ?_
            refine r_aload_n fe_203_52 rfl ?_
            refine r_iload_n fe_203_53 rfl ?_
            refine r_callV (as := [.int l1]) (r := []) fe_203_54 lm_12_374 md_202 rfl rfl (Nat.le_of_ble_eq_true rfl) m_c_0 (m_lt hh (by decide)) (Nat.le_of_ble_eq_true rfl) (Nat.le_of_ble_eq_true rfl) ?_
            cases hc7 : F202 n l1 z1.2 with
            | none => rw [hc7] at hf; cases hf
            | some z6 =>
              rw [hc7, Option.bind_some] at hf
              refine F202c (r0 := z6.1) (S0 := z6.2) hh hc7 ?_
              by_cases hb8 : am_if .eq z6.1 = true
              · rw [if_pos hb8] at hf
                refine r_if_t (t := 69) fe_203_57 (by decide) hb8 ?_
                refine r_iconst (v := -1) fe_203_69 (by decide) ?_
                refine r_iret fe_203_70 ⟨rfl, by decide⟩ ?_
                exact dfin (P := fun r T => Q (some (.int r)) (mst T h)) hf hQ
              · rw [if_neg hb8] at hf
                refine r_if_f (t := 69) fe_203_57 (by decide) (Bool.eq_false_iff.mpr hb8) ?_
                refine r_aload_n fe_203_60 rfl ?_
                refine mr_getf hh fe_203_61 lf_12_37 rfl ?_
                refine r_iload_n fe_203_64 rfl ?_
                by_cases hg9 : ¬ (l1 < 0 ∨ 13 ≤ (l1).toNatClampNeg)
                rotate_left
                · rw [if_neg hg9] at hf; cases hf
                rw [if_pos hg9] at hf
                refine r_iald (j := (Int32.toNatClampNeg l1)) (v := z6.2.2.1 10 (Int32.toNatClampNeg l1)) fe_203_65 m_c_10 (m_lt hh (by decide)) (fun z => hg9 (Or.inl z)) rfl (fun z => hg9 (Or.inr z)) rfl ?_
                refine r_goto (t := 70) fe_203_66 (by decide) ?_
                refine r_iret fe_203_70 ⟨rfl, by decide⟩ ?_
                exact dfin (P := fun r T => Q (some (.int r)) (mst T h)) hf hQ
          · rw [if_neg hx5] at hf
            by_cases hx10 : l2 = 1
            · rw [if_pos hx10] at hf
              refine r_tabI (off := 59) (t := 71) fe_203_12 hs4 (by rw [hx10]; decide) (by decide) ?_
              refine r_aload_n fe_203_71 rfl ?_
              refine mr_getf hh fe_203_72 lf_12_40 rfl ?_
              refine r_iload_n fe_203_75 rfl ?_
              by_cases hg11 : ¬ (l1 < 0 ∨ 13 ≤ (l1).toNatClampNeg)
              rotate_left
              · rw [if_neg hg11] at hf; cases hf
              rw [if_pos hg11] at hf
              refine r_iald (j := (Int32.toNatClampNeg l1)) (v := z1.2.2.1 11 (Int32.toNatClampNeg l1)) fe_203_76 m_c_11 (m_lt hh (by decide)) (fun z => hg11 (Or.inl z)) rfl (fun z => hg11 (Or.inr z)) rfl ?_
              refine r_iret fe_203_77 ⟨rfl, by decide⟩ ?_
              exact dfin (P := fun r T => Q (some (.int r)) (mst T h)) hf hQ
            · rw [if_neg hx10] at hf
              by_cases hx12 : l2 = 2
              · rw [if_pos hx12] at hf
                refine r_tabI (off := 66) (t := 78) fe_203_12 hs4 (by rw [hx12]; decide) (by decide) ?_
                refine r_aload_n fe_203_78 rfl ?_
                refine r_iload_n fe_203_79 rfl ?_
                refine r_callV (as := [.int l1]) (r := []) fe_203_80 lm_12_374 md_202 rfl rfl (Nat.le_of_ble_eq_true rfl) m_c_0 (m_lt hh (by decide)) (Nat.le_of_ble_eq_true rfl) (Nat.le_of_ble_eq_true rfl) ?_
                cases hc14 : F202 n l1 z1.2 with
                | none => rw [hc14] at hf; cases hf
                | some z13 =>
                  rw [hc14, Option.bind_some] at hf
                  refine F202c (r0 := z13.1) (S0 := z13.2) hh hc14 ?_
                  by_cases hb15 : am_if .eq z13.1 = true
                  · rw [if_pos hb15] at hf
                    refine r_if_t (t := 95) fe_203_83 (by decide) hb15 ?_
                    refine r_iconst (v := 0) fe_203_95 (by decide) ?_
                    refine r_iret fe_203_96 ⟨rfl, by decide⟩ ?_
                    exact dfin (P := fun r T => Q (some (.int r)) (mst T h)) hf hQ
                  · rw [if_neg hb15] at hf
                    refine r_if_f (t := 95) fe_203_83 (by decide) (Bool.eq_false_iff.mpr hb15) ?_
                    refine r_aload_n fe_203_86 rfl ?_
                    refine mr_getf hh fe_203_87 lf_12_43 rfl ?_
                    refine r_iload_n fe_203_90 rfl ?_
                    by_cases hg16 : ¬ (l1 < 0 ∨ 13 ≤ (l1).toNatClampNeg)
                    rotate_left
                    · rw [if_neg hg16] at hf; cases hf
                    rw [if_pos hg16] at hf
                    refine r_iald (j := (Int32.toNatClampNeg l1)) (v := z13.2.2.1 12 (Int32.toNatClampNeg l1)) fe_203_91 m_c_12 (m_lt hh (by decide)) (fun z => hg16 (Or.inl z)) rfl (fun z => hg16 (Or.inr z)) rfl ?_
                    refine r_goto (t := 96) fe_203_92 (by decide) ?_
                    refine r_iret fe_203_96 ⟨rfl, by decide⟩ ?_
                    exact dfin (P := fun r T => Q (some (.int r)) (mst T h)) hf hQ
              · rw [if_neg hx12] at hf
                by_cases hx17 : l2 = 3
                · rw [if_pos hx17] at hf
                  refine r_tabI (off := 85) (t := 97) fe_203_12 hs4 (by rw [hx17]; decide) (by decide) ?_
                  refine r_aload_n fe_203_97 rfl ?_
                  refine mr_getf hh fe_203_98 lf_12_46 rfl ?_
                  refine r_iload_n fe_203_101 rfl ?_
                  by_cases hg18 : ¬ (l1 < 0 ∨ 13 ≤ (l1).toNatClampNeg)
                  rotate_left
                  · rw [if_neg hg18] at hf; cases hf
                  rw [if_pos hg18] at hf
                  refine r_iald (j := (Int32.toNatClampNeg l1)) (v := z1.2.2.1 13 (Int32.toNatClampNeg l1)) fe_203_102 m_c_13 (m_lt hh (by decide)) (fun z => hg18 (Or.inl z)) rfl (fun z => hg18 (Or.inr z)) rfl ?_
                  refine r_iret fe_203_103 ⟨rfl, by decide⟩ ?_
                  exact dfin (P := fun r T => Q (some (.int r)) (mst T h)) hf hQ
                · rw [if_neg hx17] at hf
                  by_cases hx19 : l2 = 4
                  · rw [if_pos hx19] at hf
                    refine r_tabI (off := 92) (t := 104) fe_203_12 hs4 (by rw [hx19]; decide) (by decide) ?_
                    refine r_aload_n fe_203_104 rfl ?_
                    refine mr_getf hh fe_203_105 lf_12_49 rfl ?_
                    refine r_iload_n fe_203_108 rfl ?_
                    by_cases hg20 : ¬ (l1 < 0 ∨ 13 ≤ (l1).toNatClampNeg)
                    rotate_left
                    · rw [if_neg hg20] at hf; cases hf
                    rw [if_pos hg20] at hf
                    refine r_iald (j := (Int32.toNatClampNeg l1)) (v := z1.2.2.1 14 (Int32.toNatClampNeg l1)) fe_203_109 m_c_14 (m_lt hh (by decide)) (fun z => hg20 (Or.inl z)) rfl (fun z => hg20 (Or.inr z)) rfl ?_
                    refine r_iret fe_203_110 ⟨rfl, by decide⟩ ?_
                    exact dfin (P := fun r T => Q (some (.int r)) (mst T h)) hf hQ
                  · rw [if_neg hx19] at hf
                    by_cases hx21 : l2 = 5
                    · rw [if_pos hx21] at hf
                      refine r_tabI (off := 99) (t := 111) fe_203_12 hs4 (by rw [hx21]; decide) (by decide) ?_
                      refine r_aload_n fe_203_111 rfl ?_
                      refine mr_getf hh fe_203_112 lf_12_52 rfl ?_
                      refine r_iload_n fe_203_115 rfl ?_
                      by_cases hg22 : ¬ (l1 < 0 ∨ 13 ≤ (l1).toNatClampNeg)
                      rotate_left
                      · rw [if_neg hg22] at hf; cases hf
                      rw [if_pos hg22] at hf
                      refine r_iald (j := (Int32.toNatClampNeg l1)) (v := z1.2.2.1 15 (Int32.toNatClampNeg l1)) fe_203_116 m_c_15 (m_lt hh (by decide)) (fun z => hg22 (Or.inl z)) rfl (fun z => hg22 (Or.inr z)) rfl ?_
                      refine r_iret fe_203_117 ⟨rfl, by decide⟩ ?_
                      exact dfin (P := fun r T => Q (some (.int r)) (mst T h)) hf hQ
                    · rw [if_neg hx21] at hf
                      cases hf
      · rw [if_neg hb3] at hf
        refine r_if_f (t := 11) fe_203_5 (by decide) (Bool.eq_false_iff.mpr hb3) ?_
        refine r_bipush (v := -2) fe_203_8 (by decide) ?_
        refine r_iret fe_203_10 ⟨rfl, by decide⟩ ?_
        exact dfin (P := fun r T => Q (some (.int r)) (mst T h)) hf hQ
theorem F203c {xs : Nat → Int32} {L9 d n : Nat} {h : AmH} {Q : Option Value → AmH → Prop} {r0 : Int32} {S0 S : mS} {l1 : Int32} {l2 : Int32} (hh : 172 ≤ h.2.1) (hf : F203 n l1 l2 S = some (r0, S0)) (hQ : Q (some (.int r0)) (mst S0 h)) : Ca (am_X xs L9) (d + 2) 203 [.ref 130, .int l1, .int l2] (mst S h) Q := (F203l hh hQ n) l1 l2 S hf
def F207b0 (F : Nat → Int32 → mS → Option (Int32 × mS)) (n : Nat) (l1 : Int32) (S : mS) : Option (Int32 × mS) := (if am_if .eq (S.1 49) = true then (if ¬ ((S.1 48) < 0 ∨ 2280 ≤ ((S.1 48)).toNatClampNeg) then some (l1, (m_sI (m_sA S 35 (Int32.toNatClampNeg (S.1 48)) l1) 48 (((m_sA S 35 (Int32.toNatClampNeg (S.1 48)) l1).1 48) + 1))) else none) else (if ¬ ((S.1 48) < 0 ∨ 2280 ≤ ((S.1 48)).toNatClampNeg) then (if ¬ ((S.1 48) < 0 ∨ 2280 ≤ ((S.1 48)).toNatClampNeg) then some ((S.2.1 35 (Int32.toNatClampNeg (S.1 48))), (m_sI (m_sA S 35 (Int32.toNatClampNeg (S.1 48)) (S.2.1 35 (Int32.toNatClampNeg (S.1 48)))) 48 (((m_sA S 35 (Int32.toNatClampNeg (S.1 48)) (S.2.1 35 (Int32.toNatClampNeg (S.1 48)))).1 48) + 1))) else none) else none))
def F207f : Nat → Nat → Int32 → mS → Option (Int32 × mS)
  | 0, _, _, _ => none
  | n + 1, c, l1, S => F207b0 (F207f n) n l1 S
theorem F207e0 (n : Nat) (l1 : Int32) (S : mS) : F207f (n + 1) 0 l1 S = F207b0 (F207f n) n l1 S := rfl
def F207 (n : Nat) (l1 : Int32) (S : mS) : Option (Int32 × mS) := F207f n 0 l1 S
set_option maxRecDepth 20000 in
set_option maxHeartbeats 2000000 in
theorem F207l {xs : Nat → Int32} {L9 d : Nat} {h : AmH} {Q : Option Value → AmH → Prop} {r0 : Int32} {S0 : mS} (hh : 172 ≤ h.2.1) (hQ : Q (some (.int r0)) (mst S0 h)) : ∀ n : Nat, (∀ (l1 : Int32) (S : mS), F207f n 0 l1 S = some (r0, S0) → Go (am_X xs L9) (d + 0) 207 0 [.ref 130, .int l1, .float 0] [] (mst S h) Q) := by
  intro n
  induction n with
  | zero => exact fun l1 S hf => (by cases hf)
  | succ n ih =>
    intro l1 S hf
    rw [F207e0] at hf
    unfold F207b0 at hf
    refine r_aload_n fe_207_0 rfl ?_
    refine mr_getf hh fe_207_1 lf_12_439 rfl ?_
    by_cases hb1 : am_if .eq (S.1 49) = true
    · rw [if_pos hb1] at hf
      refine r_if_t (t := 19) fe_207_4 (by decide) hb1 ?_
      refine r_iload_n fe_207_19 rfl ?_
      refine r_istore_n fe_207_20 (Nat.le_of_ble_eq_true rfl) rfl ?_
      refine r_aload_n fe_207_21 rfl ?_
      refine mr_getf hh fe_207_22 lf_12_118 rfl ?_
      refine r_aload_n fe_207_25 rfl ?_
      refine mr_getf hh fe_207_26 lf_12_443 rfl ?_
      refine r_iload_n fe_207_29 rfl ?_
      by_cases hg2 : ¬ ((S.1 48) < 0 ∨ 2280 ≤ ((S.1 48)).toNatClampNeg)
      rotate_left
      · rw [if_neg hg2] at hf; cases hf
      rw [if_pos hg2] at hf
      refine mr_iast (k := 35) (n := 2280) (j := (Int32.toNatClampNeg (S.1 48))) hh fe_207_30 rfl (by decide) (by decide) rfl rfl (fun z => hg2 (Or.inl z)) rfl (fun z => hg2 (Or.inr z)) ?_
      refine r_aload_n fe_207_31 rfl ?_
      refine r_dup fe_207_32 rfl ?_
      refine mr_getf hh fe_207_33 lf_12_443 rfl ?_
      refine r_iconst (v := 1) fe_207_36 (by decide) ?_
      refine r_iadd (v := (((m_sA S 35 (Int32.toNatClampNeg (S.1 48)) l1).1 48) + 1)) fe_207_37 rfl ?_
      refine mr_putf hh fe_207_38 lf_12_443 (m_f_48 _ _) (by decide) rfl rfl rfl ?_
      refine r_iload_n fe_207_41 rfl ?_
      refine r_iret fe_207_42 ⟨rfl, by decide⟩ ?_
      exact dfin (P := fun r T => Q (some (.int r)) (mst T h)) hf hQ
    · rw [if_neg hb1] at hf
      refine r_if_f (t := 19) fe_207_4 (by decide) (Bool.eq_false_iff.mpr hb1) ?_
      refine r_aload_n fe_207_7 rfl ?_
      refine mr_getf hh fe_207_8 lf_12_118 rfl ?_
      refine r_aload_n fe_207_11 rfl ?_
      refine mr_getf hh fe_207_12 lf_12_443 rfl ?_
      by_cases hg3 : ¬ ((S.1 48) < 0 ∨ 2280 ≤ ((S.1 48)).toNatClampNeg)
      rotate_left
      · rw [if_neg hg3] at hf; cases hf
      rw [if_pos hg3] at hf
      refine r_iald (j := (Int32.toNatClampNeg (S.1 48))) (v := S.2.1 35 (Int32.toNatClampNeg (S.1 48))) fe_207_15 m_c_35 (m_lt hh (by decide)) (fun z => hg3 (Or.inl z)) rfl (fun z => hg3 (Or.inr z)) rfl ?_
      refine r_goto (t := 20) fe_207_16 (by decide) ?_
      refine r_istore_n fe_207_20 (Nat.le_of_ble_eq_true rfl) rfl ?_
      refine r_aload_n fe_207_21 rfl ?_
      refine mr_getf hh fe_207_22 lf_12_118 rfl ?_
      refine r_aload_n fe_207_25 rfl ?_
      refine mr_getf hh fe_207_26 lf_12_443 rfl ?_
      refine r_iload_n fe_207_29 rfl ?_
      by_cases hg4 : ¬ ((S.1 48) < 0 ∨ 2280 ≤ ((S.1 48)).toNatClampNeg)
      rotate_left
      · rw [if_neg hg4] at hf; cases hf
      rw [if_pos hg4] at hf
      refine mr_iast (k := 35) (n := 2280) (j := (Int32.toNatClampNeg (S.1 48))) hh fe_207_30 rfl (by decide) (by decide) rfl rfl (fun z => hg4 (Or.inl z)) rfl (fun z => hg4 (Or.inr z)) ?_
      refine r_aload_n fe_207_31 rfl ?_
      refine r_dup fe_207_32 rfl ?_
      refine mr_getf hh fe_207_33 lf_12_443 rfl ?_
      refine r_iconst (v := 1) fe_207_36 (by decide) ?_
      refine r_iadd (v := (((m_sA S 35 (Int32.toNatClampNeg (S.1 48)) (S.2.1 35 (Int32.toNatClampNeg (S.1 48)))).1 48) + 1)) fe_207_37 rfl ?_
      refine mr_putf hh fe_207_38 lf_12_443 (m_f_48 _ _) (by decide) rfl rfl rfl ?_
      refine r_iload_n fe_207_41 rfl ?_
      refine r_iret fe_207_42 ⟨rfl, by decide⟩ ?_
      exact dfin (P := fun r T => Q (some (.int r)) (mst T h)) hf hQ
theorem F207c {xs : Nat → Int32} {L9 d n : Nat} {h : AmH} {Q : Option Value → AmH → Prop} {r0 : Int32} {S0 S : mS} {l1 : Int32} (hh : 172 ≤ h.2.1) (hf : F207 n l1 S = some (r0, S0)) (hQ : Q (some (.int r0)) (mst S0 h)) : Ca (am_X xs L9) (d + 0) 207 [.ref 130, .int l1] (mst S h) Q := (F207l hh hQ n) l1 S hf
def F208_136b0 (F : Nat → Int32 → mS → Option (Unit × mS)) (n : Nat) (l2 : Int32) (S : mS) : Option (Unit × mS) := F 2 0 S
def F208_136b2 (F : Nat → Int32 → mS → Option (Unit × mS)) (n : Nat) (l2 : Int32) (S : mS) : Option (Unit × mS) := (if am_ic .ge l2 6 = true then some ((), S) else (if ¬ (l2 < 0 ∨ 6 ≤ (l2).toNatClampNeg) then ((F207 n (S.2.1 6 (Int32.toNatClampNeg l2)) S).bind (fun z3 => (if ¬ (l2 < 0 ∨ 6 ≤ (l2).toNatClampNeg) then F 2 (l2 + 1) (m_sA z3.2 6 (Int32.toNatClampNeg l2) z3.1) else none))) else none))
def F208_136f : Nat → Nat → Int32 → mS → Option (Unit × mS)
  | 0, _, _, _ => none
  | n + 1, c, l2, S => if c = 0 then F208_136b0 (F208_136f n) n l2 S else F208_136b2 (F208_136f n) n l2 S
theorem F208_136e0 (n : Nat) (l2 : Int32) (S : mS) : F208_136f (n + 1) 0 l2 S = F208_136b0 (F208_136f n) n l2 S := if_pos rfl
theorem F208_136e2 (n : Nat) (l2 : Int32) (S : mS) : F208_136f (n + 1) 2 l2 S = F208_136b2 (F208_136f n) n l2 S := if_neg (by decide)
def F208_136 (n : Nat)  (S : mS) : Option (Unit × mS) := F208_136f n 0 0 S
set_option maxRecDepth 20000 in
set_option maxHeartbeats 2000000 in
theorem F208_136l {xs : Nat → Int32} {L9 d : Nat} {h : AmH} {Q : Option Value → AmH → Prop} {r0 : Unit} {S0 : mS} (hh : 172 ≤ h.2.1) (hQ : Q none (mst S0 h)) : ∀ n : Nat, (∀ (l2 : Int32) (S : mS), F208_136f n 0 l2 S = some (r0, S0) → Go (am_X xs L9) (d + 1) 208 0 [.ref 130, .ref 136, .float 0] [] (mst S h) Q) ∧ (∀ (l2 : Int32) (S : mS), F208_136f n 2 l2 S = some (r0, S0) → Go (am_X xs L9) (d + 1) 208 2 [.ref 130, .ref 136, .int l2] [] (mst S h) Q) := by
  intro n
  induction n with
  | zero => exact ⟨fun l2 S hf => (by cases hf), fun l2 S hf => (by cases hf)⟩
  | succ n ih =>
    refine ⟨?_, ?_⟩
    · intro l2 S hf
      rw [F208_136e0] at hf
      unfold F208_136b0 at hf
      refine r_iconst (v := 0) fe_208_0 (by decide) ?_
      refine r_istore_n fe_208_1 (Nat.le_of_ble_eq_true rfl) rfl ?_
      refine go_weak (L0 := [.ref 130, .ref 136, .int 0]) (lwk_c (Or.inl rfl) (lwk_c (Or.inl rfl) (lwk_c (Or.inl rfl) (lwk_rf [])))) ?_
      exact ih.2 0 S hf
    · intro l2 S hf
      rw [F208_136e2] at hf
      unfold F208_136b2 at hf
      refine r_iload_n fe_208_2 rfl ?_
      refine r_aload_n fe_208_3 rfl ?_
      refine r_alen (v := 6) fe_208_4 m_c_6 (m_lt hh (by decide)) (by decide) (by decide) ?_
      by_cases hb1 : am_ic .ge l2 6 = true
      · rw [if_pos hb1] at hf
        refine r_ic_t (t := 24) fe_208_5 (by decide) hb1 ?_
        refine r_vret fe_208_24 ?_
        exact dfin (P := fun _ T => Q none (mst T h)) hf hQ
      · rw [if_neg hb1] at hf
        refine r_ic_f (t := 24) fe_208_5 (by decide) (Bool.eq_false_iff.mpr hb1) ?_
        refine r_aload_n fe_208_8 rfl ?_
        refine r_iload_n fe_208_9 rfl ?_
        refine r_aload_n fe_208_10 rfl ?_
        refine r_aload_n fe_208_11 rfl ?_
        refine r_iload_n fe_208_12 rfl ?_
        by_cases hg2 : ¬ (l2 < 0 ∨ 6 ≤ (l2).toNatClampNeg)
        rotate_left
        · rw [if_neg hg2] at hf; cases hf
        rw [if_pos hg2] at hf
        refine r_iald (j := (Int32.toNatClampNeg l2)) (v := S.2.1 6 (Int32.toNatClampNeg l2)) fe_208_13 m_c_6 (m_lt hh (by decide)) (fun z => hg2 (Or.inl z)) rfl (fun z => hg2 (Or.inr z)) rfl ?_
        refine r_callV (as := [.int (S.2.1 6 (Int32.toNatClampNeg l2))]) (r := [.int l2, .ref 136]) fe_208_14 lm_12_446 md_207 rfl rfl (Nat.le_of_ble_eq_true rfl) m_c_0 (m_lt hh (by decide)) (Nat.le_of_ble_eq_true rfl) (Nat.le_of_ble_eq_true rfl) ?_
        cases hc4 : F207 n (S.2.1 6 (Int32.toNatClampNeg l2)) S with
        | none => rw [hc4] at hf; cases hf
        | some z3 =>
          rw [hc4, Option.bind_some] at hf
          refine F207c (r0 := z3.1) (S0 := z3.2) hh hc4 ?_
          by_cases hg5 : ¬ (l2 < 0 ∨ 6 ≤ (l2).toNatClampNeg)
          rotate_left
          · rw [if_neg hg5] at hf; cases hf
          rw [if_pos hg5] at hf
          refine mr_iast (k := 6) (n := 6) (j := (Int32.toNatClampNeg l2)) hh fe_208_17 rfl (by decide) (by decide) rfl rfl (fun z => hg5 (Or.inl z)) rfl (fun z => hg5 (Or.inr z)) ?_
          refine r_iinc (v := (l2 + 1)) fe_208_18 rfl rfl rfl ?_
          refine r_goto (t := 2) fe_208_21 (by decide) ?_
          refine go_weak (L0 := [.ref 130, .ref 136, .int (l2 + 1)]) (lwk_c (Or.inl rfl) (lwk_c (Or.inl rfl) (lwk_c (Or.inl rfl) (lwk_rf [])))) ?_
          exact ih.2 (l2 + 1) (m_sA z3.2 6 (Int32.toNatClampNeg l2) z3.1) hf
theorem F208_136c {xs : Nat → Int32} {L9 d n : Nat} {h : AmH} {Q : Option Value → AmH → Prop} {r0 : Unit} {S0 S : mS}  (hh : 172 ≤ h.2.1) (hf : F208_136 n  S = some (r0, S0)) (hQ : Q none (mst S0 h)) : Ca (am_X xs L9) (d + 1) 208 [.ref 130, .ref 136] (mst S h) Q := (F208_136l hh hQ n).1 0 S hf
def F208_138b0 (F : Nat → Int32 → mS → Option (Unit × mS)) (n : Nat) (l2 : Int32) (S : mS) : Option (Unit × mS) := F 2 0 S
def F208_138b2 (F : Nat → Int32 → mS → Option (Unit × mS)) (n : Nat) (l2 : Int32) (S : mS) : Option (Unit × mS) := (if am_ic .ge l2 13 = true then some ((), S) else (if ¬ (l2 < 0 ∨ 13 ≤ (l2).toNatClampNeg) then ((F207 n (S.2.1 8 (Int32.toNatClampNeg l2)) S).bind (fun z3 => (if ¬ (l2 < 0 ∨ 13 ≤ (l2).toNatClampNeg) then F 2 (l2 + 1) (m_sA z3.2 8 (Int32.toNatClampNeg l2) z3.1) else none))) else none))
def F208_138f : Nat → Nat → Int32 → mS → Option (Unit × mS)
  | 0, _, _, _ => none
  | n + 1, c, l2, S => if c = 0 then F208_138b0 (F208_138f n) n l2 S else F208_138b2 (F208_138f n) n l2 S
theorem F208_138e0 (n : Nat) (l2 : Int32) (S : mS) : F208_138f (n + 1) 0 l2 S = F208_138b0 (F208_138f n) n l2 S := if_pos rfl
theorem F208_138e2 (n : Nat) (l2 : Int32) (S : mS) : F208_138f (n + 1) 2 l2 S = F208_138b2 (F208_138f n) n l2 S := if_neg (by decide)
def F208_138 (n : Nat)  (S : mS) : Option (Unit × mS) := F208_138f n 0 0 S
set_option maxRecDepth 20000 in
set_option maxHeartbeats 2000000 in
theorem F208_138l {xs : Nat → Int32} {L9 d : Nat} {h : AmH} {Q : Option Value → AmH → Prop} {r0 : Unit} {S0 : mS} (hh : 172 ≤ h.2.1) (hQ : Q none (mst S0 h)) : ∀ n : Nat, (∀ (l2 : Int32) (S : mS), F208_138f n 0 l2 S = some (r0, S0) → Go (am_X xs L9) (d + 1) 208 0 [.ref 130, .ref 138, .float 0] [] (mst S h) Q) ∧ (∀ (l2 : Int32) (S : mS), F208_138f n 2 l2 S = some (r0, S0) → Go (am_X xs L9) (d + 1) 208 2 [.ref 130, .ref 138, .int l2] [] (mst S h) Q) := by
  intro n
  induction n with
  | zero => exact ⟨fun l2 S hf => (by cases hf), fun l2 S hf => (by cases hf)⟩
  | succ n ih =>
    refine ⟨?_, ?_⟩
    · intro l2 S hf
      rw [F208_138e0] at hf
      unfold F208_138b0 at hf
      refine r_iconst (v := 0) fe_208_0 (by decide) ?_
      refine r_istore_n fe_208_1 (Nat.le_of_ble_eq_true rfl) rfl ?_
      refine go_weak (L0 := [.ref 130, .ref 138, .int 0]) (lwk_c (Or.inl rfl) (lwk_c (Or.inl rfl) (lwk_c (Or.inl rfl) (lwk_rf [])))) ?_
      exact ih.2 0 S hf
    · intro l2 S hf
      rw [F208_138e2] at hf
      unfold F208_138b2 at hf
      refine r_iload_n fe_208_2 rfl ?_
      refine r_aload_n fe_208_3 rfl ?_
      refine r_alen (v := 13) fe_208_4 m_c_8 (m_lt hh (by decide)) (by decide) (by decide) ?_
      by_cases hb1 : am_ic .ge l2 13 = true
      · rw [if_pos hb1] at hf
        refine r_ic_t (t := 24) fe_208_5 (by decide) hb1 ?_
        refine r_vret fe_208_24 ?_
        exact dfin (P := fun _ T => Q none (mst T h)) hf hQ
      · rw [if_neg hb1] at hf
        refine r_ic_f (t := 24) fe_208_5 (by decide) (Bool.eq_false_iff.mpr hb1) ?_
        refine r_aload_n fe_208_8 rfl ?_
        refine r_iload_n fe_208_9 rfl ?_
        refine r_aload_n fe_208_10 rfl ?_
        refine r_aload_n fe_208_11 rfl ?_
        refine r_iload_n fe_208_12 rfl ?_
        by_cases hg2 : ¬ (l2 < 0 ∨ 13 ≤ (l2).toNatClampNeg)
        rotate_left
        · rw [if_neg hg2] at hf; cases hf
        rw [if_pos hg2] at hf
        refine r_iald (j := (Int32.toNatClampNeg l2)) (v := S.2.1 8 (Int32.toNatClampNeg l2)) fe_208_13 m_c_8 (m_lt hh (by decide)) (fun z => hg2 (Or.inl z)) rfl (fun z => hg2 (Or.inr z)) rfl ?_
        refine r_callV (as := [.int (S.2.1 8 (Int32.toNatClampNeg l2))]) (r := [.int l2, .ref 138]) fe_208_14 lm_12_446 md_207 rfl rfl (Nat.le_of_ble_eq_true rfl) m_c_0 (m_lt hh (by decide)) (Nat.le_of_ble_eq_true rfl) (Nat.le_of_ble_eq_true rfl) ?_
        cases hc4 : F207 n (S.2.1 8 (Int32.toNatClampNeg l2)) S with
        | none => rw [hc4] at hf; cases hf
        | some z3 =>
          rw [hc4, Option.bind_some] at hf
          refine F207c (r0 := z3.1) (S0 := z3.2) hh hc4 ?_
          by_cases hg5 : ¬ (l2 < 0 ∨ 13 ≤ (l2).toNatClampNeg)
          rotate_left
          · rw [if_neg hg5] at hf; cases hf
          rw [if_pos hg5] at hf
          refine mr_iast (k := 8) (n := 13) (j := (Int32.toNatClampNeg l2)) hh fe_208_17 rfl (by decide) (by decide) rfl rfl (fun z => hg5 (Or.inl z)) rfl (fun z => hg5 (Or.inr z)) ?_
          refine r_iinc (v := (l2 + 1)) fe_208_18 rfl rfl rfl ?_
          refine r_goto (t := 2) fe_208_21 (by decide) ?_
          refine go_weak (L0 := [.ref 130, .ref 138, .int (l2 + 1)]) (lwk_c (Or.inl rfl) (lwk_c (Or.inl rfl) (lwk_c (Or.inl rfl) (lwk_rf [])))) ?_
          exact ih.2 (l2 + 1) (m_sA z3.2 8 (Int32.toNatClampNeg l2) z3.1) hf
theorem F208_138c {xs : Nat → Int32} {L9 d n : Nat} {h : AmH} {Q : Option Value → AmH → Prop} {r0 : Unit} {S0 S : mS}  (hh : 172 ≤ h.2.1) (hf : F208_138 n  S = some (r0, S0)) (hQ : Q none (mst S0 h)) : Ca (am_X xs L9) (d + 1) 208 [.ref 130, .ref 138] (mst S h) Q := (F208_138l hh hQ n).1 0 S hf
def F208_139b0 (F : Nat → Int32 → mS → Option (Unit × mS)) (n : Nat) (l2 : Int32) (S : mS) : Option (Unit × mS) := F 2 0 S
def F208_139b2 (F : Nat → Int32 → mS → Option (Unit × mS)) (n : Nat) (l2 : Int32) (S : mS) : Option (Unit × mS) := (if am_ic .ge l2 13 = true then some ((), S) else (if ¬ (l2 < 0 ∨ 13 ≤ (l2).toNatClampNeg) then ((F207 n (S.2.1 9 (Int32.toNatClampNeg l2)) S).bind (fun z3 => (if ¬ (l2 < 0 ∨ 13 ≤ (l2).toNatClampNeg) then F 2 (l2 + 1) (m_sA z3.2 9 (Int32.toNatClampNeg l2) z3.1) else none))) else none))
def F208_139f : Nat → Nat → Int32 → mS → Option (Unit × mS)
  | 0, _, _, _ => none
  | n + 1, c, l2, S => if c = 0 then F208_139b0 (F208_139f n) n l2 S else F208_139b2 (F208_139f n) n l2 S
theorem F208_139e0 (n : Nat) (l2 : Int32) (S : mS) : F208_139f (n + 1) 0 l2 S = F208_139b0 (F208_139f n) n l2 S := if_pos rfl
theorem F208_139e2 (n : Nat) (l2 : Int32) (S : mS) : F208_139f (n + 1) 2 l2 S = F208_139b2 (F208_139f n) n l2 S := if_neg (by decide)
def F208_139 (n : Nat)  (S : mS) : Option (Unit × mS) := F208_139f n 0 0 S
set_option maxRecDepth 20000 in
set_option maxHeartbeats 2000000 in
theorem F208_139l {xs : Nat → Int32} {L9 d : Nat} {h : AmH} {Q : Option Value → AmH → Prop} {r0 : Unit} {S0 : mS} (hh : 172 ≤ h.2.1) (hQ : Q none (mst S0 h)) : ∀ n : Nat, (∀ (l2 : Int32) (S : mS), F208_139f n 0 l2 S = some (r0, S0) → Go (am_X xs L9) (d + 1) 208 0 [.ref 130, .ref 139, .float 0] [] (mst S h) Q) ∧ (∀ (l2 : Int32) (S : mS), F208_139f n 2 l2 S = some (r0, S0) → Go (am_X xs L9) (d + 1) 208 2 [.ref 130, .ref 139, .int l2] [] (mst S h) Q) := by
  intro n
  induction n with
  | zero => exact ⟨fun l2 S hf => (by cases hf), fun l2 S hf => (by cases hf)⟩
  | succ n ih =>
    refine ⟨?_, ?_⟩
    · intro l2 S hf
      rw [F208_139e0] at hf
      unfold F208_139b0 at hf
      refine r_iconst (v := 0) fe_208_0 (by decide) ?_
      refine r_istore_n fe_208_1 (Nat.le_of_ble_eq_true rfl) rfl ?_
      refine go_weak (L0 := [.ref 130, .ref 139, .int 0]) (lwk_c (Or.inl rfl) (lwk_c (Or.inl rfl) (lwk_c (Or.inl rfl) (lwk_rf [])))) ?_
      exact ih.2 0 S hf
    · intro l2 S hf
      rw [F208_139e2] at hf
      unfold F208_139b2 at hf
      refine r_iload_n fe_208_2 rfl ?_
      refine r_aload_n fe_208_3 rfl ?_
      refine r_alen (v := 13) fe_208_4 m_c_9 (m_lt hh (by decide)) (by decide) (by decide) ?_
      by_cases hb1 : am_ic .ge l2 13 = true
      · rw [if_pos hb1] at hf
        refine r_ic_t (t := 24) fe_208_5 (by decide) hb1 ?_
        refine r_vret fe_208_24 ?_
        exact dfin (P := fun _ T => Q none (mst T h)) hf hQ
      · rw [if_neg hb1] at hf
        refine r_ic_f (t := 24) fe_208_5 (by decide) (Bool.eq_false_iff.mpr hb1) ?_
        refine r_aload_n fe_208_8 rfl ?_
        refine r_iload_n fe_208_9 rfl ?_
        refine r_aload_n fe_208_10 rfl ?_
        refine r_aload_n fe_208_11 rfl ?_
        refine r_iload_n fe_208_12 rfl ?_
        by_cases hg2 : ¬ (l2 < 0 ∨ 13 ≤ (l2).toNatClampNeg)
        rotate_left
        · rw [if_neg hg2] at hf; cases hf
        rw [if_pos hg2] at hf
        refine r_iald (j := (Int32.toNatClampNeg l2)) (v := S.2.1 9 (Int32.toNatClampNeg l2)) fe_208_13 m_c_9 (m_lt hh (by decide)) (fun z => hg2 (Or.inl z)) rfl (fun z => hg2 (Or.inr z)) rfl ?_
        refine r_callV (as := [.int (S.2.1 9 (Int32.toNatClampNeg l2))]) (r := [.int l2, .ref 139]) fe_208_14 lm_12_446 md_207 rfl rfl (Nat.le_of_ble_eq_true rfl) m_c_0 (m_lt hh (by decide)) (Nat.le_of_ble_eq_true rfl) (Nat.le_of_ble_eq_true rfl) ?_
        cases hc4 : F207 n (S.2.1 9 (Int32.toNatClampNeg l2)) S with
        | none => rw [hc4] at hf; cases hf
        | some z3 =>
          rw [hc4, Option.bind_some] at hf
          refine F207c (r0 := z3.1) (S0 := z3.2) hh hc4 ?_
          by_cases hg5 : ¬ (l2 < 0 ∨ 13 ≤ (l2).toNatClampNeg)
          rotate_left
          · rw [if_neg hg5] at hf; cases hf
          rw [if_pos hg5] at hf
          refine mr_iast (k := 9) (n := 13) (j := (Int32.toNatClampNeg l2)) hh fe_208_17 rfl (by decide) (by decide) rfl rfl (fun z => hg5 (Or.inl z)) rfl (fun z => hg5 (Or.inr z)) ?_
          refine r_iinc (v := (l2 + 1)) fe_208_18 rfl rfl rfl ?_
          refine r_goto (t := 2) fe_208_21 (by decide) ?_
          refine go_weak (L0 := [.ref 130, .ref 139, .int (l2 + 1)]) (lwk_c (Or.inl rfl) (lwk_c (Or.inl rfl) (lwk_c (Or.inl rfl) (lwk_rf [])))) ?_
          exact ih.2 (l2 + 1) (m_sA z3.2 9 (Int32.toNatClampNeg l2) z3.1) hf
theorem F208_139c {xs : Nat → Int32} {L9 d n : Nat} {h : AmH} {Q : Option Value → AmH → Prop} {r0 : Unit} {S0 S : mS}  (hh : 172 ≤ h.2.1) (hf : F208_139 n  S = some (r0, S0)) (hQ : Q none (mst S0 h)) : Ca (am_X xs L9) (d + 1) 208 [.ref 130, .ref 139] (mst S h) Q := (F208_139l hh hQ n).1 0 S hf
def F208_140b0 (F : Nat → Int32 → mS → Option (Unit × mS)) (n : Nat) (l2 : Int32) (S : mS) : Option (Unit × mS) := F 2 0 S
def F208_140b2 (F : Nat → Int32 → mS → Option (Unit × mS)) (n : Nat) (l2 : Int32) (S : mS) : Option (Unit × mS) := (if am_ic .ge l2 13 = true then some ((), S) else (if ¬ (l2 < 0 ∨ 13 ≤ (l2).toNatClampNeg) then ((F207 n (S.2.1 10 (Int32.toNatClampNeg l2)) S).bind (fun z3 => (if ¬ (l2 < 0 ∨ 13 ≤ (l2).toNatClampNeg) then F 2 (l2 + 1) (m_sA z3.2 10 (Int32.toNatClampNeg l2) z3.1) else none))) else none))
def F208_140f : Nat → Nat → Int32 → mS → Option (Unit × mS)
  | 0, _, _, _ => none
  | n + 1, c, l2, S => if c = 0 then F208_140b0 (F208_140f n) n l2 S else F208_140b2 (F208_140f n) n l2 S
theorem F208_140e0 (n : Nat) (l2 : Int32) (S : mS) : F208_140f (n + 1) 0 l2 S = F208_140b0 (F208_140f n) n l2 S := if_pos rfl
theorem F208_140e2 (n : Nat) (l2 : Int32) (S : mS) : F208_140f (n + 1) 2 l2 S = F208_140b2 (F208_140f n) n l2 S := if_neg (by decide)
def F208_140 (n : Nat)  (S : mS) : Option (Unit × mS) := F208_140f n 0 0 S
set_option maxRecDepth 20000 in
set_option maxHeartbeats 2000000 in
theorem F208_140l {xs : Nat → Int32} {L9 d : Nat} {h : AmH} {Q : Option Value → AmH → Prop} {r0 : Unit} {S0 : mS} (hh : 172 ≤ h.2.1) (hQ : Q none (mst S0 h)) : ∀ n : Nat, (∀ (l2 : Int32) (S : mS), F208_140f n 0 l2 S = some (r0, S0) → Go (am_X xs L9) (d + 1) 208 0 [.ref 130, .ref 140, .float 0] [] (mst S h) Q) ∧ (∀ (l2 : Int32) (S : mS), F208_140f n 2 l2 S = some (r0, S0) → Go (am_X xs L9) (d + 1) 208 2 [.ref 130, .ref 140, .int l2] [] (mst S h) Q) := by
  intro n
  induction n with
  | zero => exact ⟨fun l2 S hf => (by cases hf), fun l2 S hf => (by cases hf)⟩
  | succ n ih =>
    refine ⟨?_, ?_⟩
    · intro l2 S hf
      rw [F208_140e0] at hf
      unfold F208_140b0 at hf
      refine r_iconst (v := 0) fe_208_0 (by decide) ?_
      refine r_istore_n fe_208_1 (Nat.le_of_ble_eq_true rfl) rfl ?_
      refine go_weak (L0 := [.ref 130, .ref 140, .int 0]) (lwk_c (Or.inl rfl) (lwk_c (Or.inl rfl) (lwk_c (Or.inl rfl) (lwk_rf [])))) ?_
      exact ih.2 0 S hf
    · intro l2 S hf
      rw [F208_140e2] at hf
      unfold F208_140b2 at hf
      refine r_iload_n fe_208_2 rfl ?_
      refine r_aload_n fe_208_3 rfl ?_
      refine r_alen (v := 13) fe_208_4 m_c_10 (m_lt hh (by decide)) (by decide) (by decide) ?_
      by_cases hb1 : am_ic .ge l2 13 = true
      · rw [if_pos hb1] at hf
        refine r_ic_t (t := 24) fe_208_5 (by decide) hb1 ?_
        refine r_vret fe_208_24 ?_
        exact dfin (P := fun _ T => Q none (mst T h)) hf hQ
      · rw [if_neg hb1] at hf
        refine r_ic_f (t := 24) fe_208_5 (by decide) (Bool.eq_false_iff.mpr hb1) ?_
        refine r_aload_n fe_208_8 rfl ?_
        refine r_iload_n fe_208_9 rfl ?_
        refine r_aload_n fe_208_10 rfl ?_
        refine r_aload_n fe_208_11 rfl ?_
        refine r_iload_n fe_208_12 rfl ?_
        by_cases hg2 : ¬ (l2 < 0 ∨ 13 ≤ (l2).toNatClampNeg)
        rotate_left
        · rw [if_neg hg2] at hf; cases hf
        rw [if_pos hg2] at hf
        refine r_iald (j := (Int32.toNatClampNeg l2)) (v := S.2.1 10 (Int32.toNatClampNeg l2)) fe_208_13 m_c_10 (m_lt hh (by decide)) (fun z => hg2 (Or.inl z)) rfl (fun z => hg2 (Or.inr z)) rfl ?_
        refine r_callV (as := [.int (S.2.1 10 (Int32.toNatClampNeg l2))]) (r := [.int l2, .ref 140]) fe_208_14 lm_12_446 md_207 rfl rfl (Nat.le_of_ble_eq_true rfl) m_c_0 (m_lt hh (by decide)) (Nat.le_of_ble_eq_true rfl) (Nat.le_of_ble_eq_true rfl) ?_
        cases hc4 : F207 n (S.2.1 10 (Int32.toNatClampNeg l2)) S with
        | none => rw [hc4] at hf; cases hf
        | some z3 =>
          rw [hc4, Option.bind_some] at hf
          refine F207c (r0 := z3.1) (S0 := z3.2) hh hc4 ?_
          by_cases hg5 : ¬ (l2 < 0 ∨ 13 ≤ (l2).toNatClampNeg)
          rotate_left
          · rw [if_neg hg5] at hf; cases hf
          rw [if_pos hg5] at hf
          refine mr_iast (k := 10) (n := 13) (j := (Int32.toNatClampNeg l2)) hh fe_208_17 rfl (by decide) (by decide) rfl rfl (fun z => hg5 (Or.inl z)) rfl (fun z => hg5 (Or.inr z)) ?_
          refine r_iinc (v := (l2 + 1)) fe_208_18 rfl rfl rfl ?_
          refine r_goto (t := 2) fe_208_21 (by decide) ?_
          refine go_weak (L0 := [.ref 130, .ref 140, .int (l2 + 1)]) (lwk_c (Or.inl rfl) (lwk_c (Or.inl rfl) (lwk_c (Or.inl rfl) (lwk_rf [])))) ?_
          exact ih.2 (l2 + 1) (m_sA z3.2 10 (Int32.toNatClampNeg l2) z3.1) hf
theorem F208_140c {xs : Nat → Int32} {L9 d n : Nat} {h : AmH} {Q : Option Value → AmH → Prop} {r0 : Unit} {S0 S : mS}  (hh : 172 ≤ h.2.1) (hf : F208_140 n  S = some (r0, S0)) (hQ : Q none (mst S0 h)) : Ca (am_X xs L9) (d + 1) 208 [.ref 130, .ref 140] (mst S h) Q := (F208_140l hh hQ n).1 0 S hf
def F208_141b0 (F : Nat → Int32 → mS → Option (Unit × mS)) (n : Nat) (l2 : Int32) (S : mS) : Option (Unit × mS) := F 2 0 S
def F208_141b2 (F : Nat → Int32 → mS → Option (Unit × mS)) (n : Nat) (l2 : Int32) (S : mS) : Option (Unit × mS) := (if am_ic .ge l2 13 = true then some ((), S) else (if ¬ (l2 < 0 ∨ 13 ≤ (l2).toNatClampNeg) then ((F207 n (S.2.1 11 (Int32.toNatClampNeg l2)) S).bind (fun z3 => (if ¬ (l2 < 0 ∨ 13 ≤ (l2).toNatClampNeg) then F 2 (l2 + 1) (m_sA z3.2 11 (Int32.toNatClampNeg l2) z3.1) else none))) else none))
def F208_141f : Nat → Nat → Int32 → mS → Option (Unit × mS)
  | 0, _, _, _ => none
  | n + 1, c, l2, S => if c = 0 then F208_141b0 (F208_141f n) n l2 S else F208_141b2 (F208_141f n) n l2 S
theorem F208_141e0 (n : Nat) (l2 : Int32) (S : mS) : F208_141f (n + 1) 0 l2 S = F208_141b0 (F208_141f n) n l2 S := if_pos rfl
theorem F208_141e2 (n : Nat) (l2 : Int32) (S : mS) : F208_141f (n + 1) 2 l2 S = F208_141b2 (F208_141f n) n l2 S := if_neg (by decide)
def F208_141 (n : Nat)  (S : mS) : Option (Unit × mS) := F208_141f n 0 0 S
set_option maxRecDepth 20000 in
set_option maxHeartbeats 2000000 in
theorem F208_141l {xs : Nat → Int32} {L9 d : Nat} {h : AmH} {Q : Option Value → AmH → Prop} {r0 : Unit} {S0 : mS} (hh : 172 ≤ h.2.1) (hQ : Q none (mst S0 h)) : ∀ n : Nat, (∀ (l2 : Int32) (S : mS), F208_141f n 0 l2 S = some (r0, S0) → Go (am_X xs L9) (d + 1) 208 0 [.ref 130, .ref 141, .float 0] [] (mst S h) Q) ∧ (∀ (l2 : Int32) (S : mS), F208_141f n 2 l2 S = some (r0, S0) → Go (am_X xs L9) (d + 1) 208 2 [.ref 130, .ref 141, .int l2] [] (mst S h) Q) := by
  intro n
  induction n with
  | zero => exact ⟨fun l2 S hf => (by cases hf), fun l2 S hf => (by cases hf)⟩
  | succ n ih =>
    refine ⟨?_, ?_⟩
    · intro l2 S hf
      rw [F208_141e0] at hf
      unfold F208_141b0 at hf
      refine r_iconst (v := 0) fe_208_0 (by decide) ?_
      refine r_istore_n fe_208_1 (Nat.le_of_ble_eq_true rfl) rfl ?_
      refine go_weak (L0 := [.ref 130, .ref 141, .int 0]) (lwk_c (Or.inl rfl) (lwk_c (Or.inl rfl) (lwk_c (Or.inl rfl) (lwk_rf [])))) ?_
      exact ih.2 0 S hf
    · intro l2 S hf
      rw [F208_141e2] at hf
      unfold F208_141b2 at hf
      refine r_iload_n fe_208_2 rfl ?_
      refine r_aload_n fe_208_3 rfl ?_
      refine r_alen (v := 13) fe_208_4 m_c_11 (m_lt hh (by decide)) (by decide) (by decide) ?_
      by_cases hb1 : am_ic .ge l2 13 = true
      · rw [if_pos hb1] at hf
        refine r_ic_t (t := 24) fe_208_5 (by decide) hb1 ?_
        refine r_vret fe_208_24 ?_
        exact dfin (P := fun _ T => Q none (mst T h)) hf hQ
      · rw [if_neg hb1] at hf
        refine r_ic_f (t := 24) fe_208_5 (by decide) (Bool.eq_false_iff.mpr hb1) ?_
        refine r_aload_n fe_208_8 rfl ?_
        refine r_iload_n fe_208_9 rfl ?_
        refine r_aload_n fe_208_10 rfl ?_
        refine r_aload_n fe_208_11 rfl ?_
        refine r_iload_n fe_208_12 rfl ?_
        by_cases hg2 : ¬ (l2 < 0 ∨ 13 ≤ (l2).toNatClampNeg)
        rotate_left
        · rw [if_neg hg2] at hf; cases hf
        rw [if_pos hg2] at hf
        refine r_iald (j := (Int32.toNatClampNeg l2)) (v := S.2.1 11 (Int32.toNatClampNeg l2)) fe_208_13 m_c_11 (m_lt hh (by decide)) (fun z => hg2 (Or.inl z)) rfl (fun z => hg2 (Or.inr z)) rfl ?_
        refine r_callV (as := [.int (S.2.1 11 (Int32.toNatClampNeg l2))]) (r := [.int l2, .ref 141]) fe_208_14 lm_12_446 md_207 rfl rfl (Nat.le_of_ble_eq_true rfl) m_c_0 (m_lt hh (by decide)) (Nat.le_of_ble_eq_true rfl) (Nat.le_of_ble_eq_true rfl) ?_
        cases hc4 : F207 n (S.2.1 11 (Int32.toNatClampNeg l2)) S with
        | none => rw [hc4] at hf; cases hf
        | some z3 =>
          rw [hc4, Option.bind_some] at hf
          refine F207c (r0 := z3.1) (S0 := z3.2) hh hc4 ?_
          by_cases hg5 : ¬ (l2 < 0 ∨ 13 ≤ (l2).toNatClampNeg)
          rotate_left
          · rw [if_neg hg5] at hf; cases hf
          rw [if_pos hg5] at hf
          refine mr_iast (k := 11) (n := 13) (j := (Int32.toNatClampNeg l2)) hh fe_208_17 rfl (by decide) (by decide) rfl rfl (fun z => hg5 (Or.inl z)) rfl (fun z => hg5 (Or.inr z)) ?_
          refine r_iinc (v := (l2 + 1)) fe_208_18 rfl rfl rfl ?_
          refine r_goto (t := 2) fe_208_21 (by decide) ?_
          refine go_weak (L0 := [.ref 130, .ref 141, .int (l2 + 1)]) (lwk_c (Or.inl rfl) (lwk_c (Or.inl rfl) (lwk_c (Or.inl rfl) (lwk_rf [])))) ?_
          exact ih.2 (l2 + 1) (m_sA z3.2 11 (Int32.toNatClampNeg l2) z3.1) hf
theorem F208_141c {xs : Nat → Int32} {L9 d n : Nat} {h : AmH} {Q : Option Value → AmH → Prop} {r0 : Unit} {S0 S : mS}  (hh : 172 ≤ h.2.1) (hf : F208_141 n  S = some (r0, S0)) (hQ : Q none (mst S0 h)) : Ca (am_X xs L9) (d + 1) 208 [.ref 130, .ref 141] (mst S h) Q := (F208_141l hh hQ n).1 0 S hf
def F208_142b0 (F : Nat → Int32 → mS → Option (Unit × mS)) (n : Nat) (l2 : Int32) (S : mS) : Option (Unit × mS) := F 2 0 S
def F208_142b2 (F : Nat → Int32 → mS → Option (Unit × mS)) (n : Nat) (l2 : Int32) (S : mS) : Option (Unit × mS) := (if am_ic .ge l2 13 = true then some ((), S) else (if ¬ (l2 < 0 ∨ 13 ≤ (l2).toNatClampNeg) then ((F207 n (S.2.1 12 (Int32.toNatClampNeg l2)) S).bind (fun z3 => (if ¬ (l2 < 0 ∨ 13 ≤ (l2).toNatClampNeg) then F 2 (l2 + 1) (m_sA z3.2 12 (Int32.toNatClampNeg l2) z3.1) else none))) else none))
def F208_142f : Nat → Nat → Int32 → mS → Option (Unit × mS)
  | 0, _, _, _ => none
  | n + 1, c, l2, S => if c = 0 then F208_142b0 (F208_142f n) n l2 S else F208_142b2 (F208_142f n) n l2 S
theorem F208_142e0 (n : Nat) (l2 : Int32) (S : mS) : F208_142f (n + 1) 0 l2 S = F208_142b0 (F208_142f n) n l2 S := if_pos rfl
theorem F208_142e2 (n : Nat) (l2 : Int32) (S : mS) : F208_142f (n + 1) 2 l2 S = F208_142b2 (F208_142f n) n l2 S := if_neg (by decide)
def F208_142 (n : Nat)  (S : mS) : Option (Unit × mS) := F208_142f n 0 0 S
set_option maxRecDepth 20000 in
set_option maxHeartbeats 2000000 in
theorem F208_142l {xs : Nat → Int32} {L9 d : Nat} {h : AmH} {Q : Option Value → AmH → Prop} {r0 : Unit} {S0 : mS} (hh : 172 ≤ h.2.1) (hQ : Q none (mst S0 h)) : ∀ n : Nat, (∀ (l2 : Int32) (S : mS), F208_142f n 0 l2 S = some (r0, S0) → Go (am_X xs L9) (d + 1) 208 0 [.ref 130, .ref 142, .float 0] [] (mst S h) Q) ∧ (∀ (l2 : Int32) (S : mS), F208_142f n 2 l2 S = some (r0, S0) → Go (am_X xs L9) (d + 1) 208 2 [.ref 130, .ref 142, .int l2] [] (mst S h) Q) := by
  intro n
  induction n with
  | zero => exact ⟨fun l2 S hf => (by cases hf), fun l2 S hf => (by cases hf)⟩
  | succ n ih =>
    refine ⟨?_, ?_⟩
    · intro l2 S hf
      rw [F208_142e0] at hf
      unfold F208_142b0 at hf
      refine r_iconst (v := 0) fe_208_0 (by decide) ?_
      refine r_istore_n fe_208_1 (Nat.le_of_ble_eq_true rfl) rfl ?_
      refine go_weak (L0 := [.ref 130, .ref 142, .int 0]) (lwk_c (Or.inl rfl) (lwk_c (Or.inl rfl) (lwk_c (Or.inl rfl) (lwk_rf [])))) ?_
      exact ih.2 0 S hf
    · intro l2 S hf
      rw [F208_142e2] at hf
      unfold F208_142b2 at hf
      refine r_iload_n fe_208_2 rfl ?_
      refine r_aload_n fe_208_3 rfl ?_
      refine r_alen (v := 13) fe_208_4 m_c_12 (m_lt hh (by decide)) (by decide) (by decide) ?_
      by_cases hb1 : am_ic .ge l2 13 = true
      · rw [if_pos hb1] at hf
        refine r_ic_t (t := 24) fe_208_5 (by decide) hb1 ?_
        refine r_vret fe_208_24 ?_
        exact dfin (P := fun _ T => Q none (mst T h)) hf hQ
      · rw [if_neg hb1] at hf
        refine r_ic_f (t := 24) fe_208_5 (by decide) (Bool.eq_false_iff.mpr hb1) ?_
        refine r_aload_n fe_208_8 rfl ?_
        refine r_iload_n fe_208_9 rfl ?_
        refine r_aload_n fe_208_10 rfl ?_
        refine r_aload_n fe_208_11 rfl ?_
        refine r_iload_n fe_208_12 rfl ?_
        by_cases hg2 : ¬ (l2 < 0 ∨ 13 ≤ (l2).toNatClampNeg)
        rotate_left
        · rw [if_neg hg2] at hf; cases hf
        rw [if_pos hg2] at hf
        refine r_iald (j := (Int32.toNatClampNeg l2)) (v := S.2.1 12 (Int32.toNatClampNeg l2)) fe_208_13 m_c_12 (m_lt hh (by decide)) (fun z => hg2 (Or.inl z)) rfl (fun z => hg2 (Or.inr z)) rfl ?_
        refine r_callV (as := [.int (S.2.1 12 (Int32.toNatClampNeg l2))]) (r := [.int l2, .ref 142]) fe_208_14 lm_12_446 md_207 rfl rfl (Nat.le_of_ble_eq_true rfl) m_c_0 (m_lt hh (by decide)) (Nat.le_of_ble_eq_true rfl) (Nat.le_of_ble_eq_true rfl) ?_
        cases hc4 : F207 n (S.2.1 12 (Int32.toNatClampNeg l2)) S with
        | none => rw [hc4] at hf; cases hf
        | some z3 =>
          rw [hc4, Option.bind_some] at hf
          refine F207c (r0 := z3.1) (S0 := z3.2) hh hc4 ?_
          by_cases hg5 : ¬ (l2 < 0 ∨ 13 ≤ (l2).toNatClampNeg)
          rotate_left
          · rw [if_neg hg5] at hf; cases hf
          rw [if_pos hg5] at hf
          refine mr_iast (k := 12) (n := 13) (j := (Int32.toNatClampNeg l2)) hh fe_208_17 rfl (by decide) (by decide) rfl rfl (fun z => hg5 (Or.inl z)) rfl (fun z => hg5 (Or.inr z)) ?_
          refine r_iinc (v := (l2 + 1)) fe_208_18 rfl rfl rfl ?_
          refine r_goto (t := 2) fe_208_21 (by decide) ?_
          refine go_weak (L0 := [.ref 130, .ref 142, .int (l2 + 1)]) (lwk_c (Or.inl rfl) (lwk_c (Or.inl rfl) (lwk_c (Or.inl rfl) (lwk_rf [])))) ?_
          exact ih.2 (l2 + 1) (m_sA z3.2 12 (Int32.toNatClampNeg l2) z3.1) hf
theorem F208_142c {xs : Nat → Int32} {L9 d n : Nat} {h : AmH} {Q : Option Value → AmH → Prop} {r0 : Unit} {S0 S : mS}  (hh : 172 ≤ h.2.1) (hf : F208_142 n  S = some (r0, S0)) (hQ : Q none (mst S0 h)) : Ca (am_X xs L9) (d + 1) 208 [.ref 130, .ref 142] (mst S h) Q := (F208_142l hh hQ n).1 0 S hf
def F208_143b0 (F : Nat → Int32 → mS → Option (Unit × mS)) (n : Nat) (l2 : Int32) (S : mS) : Option (Unit × mS) := F 2 0 S
def F208_143b2 (F : Nat → Int32 → mS → Option (Unit × mS)) (n : Nat) (l2 : Int32) (S : mS) : Option (Unit × mS) := (if am_ic .ge l2 13 = true then some ((), S) else (if ¬ (l2 < 0 ∨ 13 ≤ (l2).toNatClampNeg) then ((F207 n (S.2.1 13 (Int32.toNatClampNeg l2)) S).bind (fun z3 => (if ¬ (l2 < 0 ∨ 13 ≤ (l2).toNatClampNeg) then F 2 (l2 + 1) (m_sA z3.2 13 (Int32.toNatClampNeg l2) z3.1) else none))) else none))
def F208_143f : Nat → Nat → Int32 → mS → Option (Unit × mS)
  | 0, _, _, _ => none
  | n + 1, c, l2, S => if c = 0 then F208_143b0 (F208_143f n) n l2 S else F208_143b2 (F208_143f n) n l2 S
theorem F208_143e0 (n : Nat) (l2 : Int32) (S : mS) : F208_143f (n + 1) 0 l2 S = F208_143b0 (F208_143f n) n l2 S := if_pos rfl
theorem F208_143e2 (n : Nat) (l2 : Int32) (S : mS) : F208_143f (n + 1) 2 l2 S = F208_143b2 (F208_143f n) n l2 S := if_neg (by decide)
def F208_143 (n : Nat)  (S : mS) : Option (Unit × mS) := F208_143f n 0 0 S
set_option maxRecDepth 20000 in
set_option maxHeartbeats 2000000 in
theorem F208_143l {xs : Nat → Int32} {L9 d : Nat} {h : AmH} {Q : Option Value → AmH → Prop} {r0 : Unit} {S0 : mS} (hh : 172 ≤ h.2.1) (hQ : Q none (mst S0 h)) : ∀ n : Nat, (∀ (l2 : Int32) (S : mS), F208_143f n 0 l2 S = some (r0, S0) → Go (am_X xs L9) (d + 1) 208 0 [.ref 130, .ref 143, .float 0] [] (mst S h) Q) ∧ (∀ (l2 : Int32) (S : mS), F208_143f n 2 l2 S = some (r0, S0) → Go (am_X xs L9) (d + 1) 208 2 [.ref 130, .ref 143, .int l2] [] (mst S h) Q) := by
  intro n
  induction n with
  | zero => exact ⟨fun l2 S hf => (by cases hf), fun l2 S hf => (by cases hf)⟩
  | succ n ih =>
    refine ⟨?_, ?_⟩
    · intro l2 S hf
      rw [F208_143e0] at hf
      unfold F208_143b0 at hf
      refine r_iconst (v := 0) fe_208_0 (by decide) ?_
      refine r_istore_n fe_208_1 (Nat.le_of_ble_eq_true rfl) rfl ?_
      refine go_weak (L0 := [.ref 130, .ref 143, .int 0]) (lwk_c (Or.inl rfl) (lwk_c (Or.inl rfl) (lwk_c (Or.inl rfl) (lwk_rf [])))) ?_
      exact ih.2 0 S hf
    · intro l2 S hf
      rw [F208_143e2] at hf
      unfold F208_143b2 at hf
      refine r_iload_n fe_208_2 rfl ?_
      refine r_aload_n fe_208_3 rfl ?_
      refine r_alen (v := 13) fe_208_4 m_c_13 (m_lt hh (by decide)) (by decide) (by decide) ?_
      by_cases hb1 : am_ic .ge l2 13 = true
      · rw [if_pos hb1] at hf
        refine r_ic_t (t := 24) fe_208_5 (by decide) hb1 ?_
        refine r_vret fe_208_24 ?_
        exact dfin (P := fun _ T => Q none (mst T h)) hf hQ
      · rw [if_neg hb1] at hf
        refine r_ic_f (t := 24) fe_208_5 (by decide) (Bool.eq_false_iff.mpr hb1) ?_
        refine r_aload_n fe_208_8 rfl ?_
        refine r_iload_n fe_208_9 rfl ?_
        refine r_aload_n fe_208_10 rfl ?_
        refine r_aload_n fe_208_11 rfl ?_
        refine r_iload_n fe_208_12 rfl ?_
        by_cases hg2 : ¬ (l2 < 0 ∨ 13 ≤ (l2).toNatClampNeg)
        rotate_left
        · rw [if_neg hg2] at hf; cases hf
        rw [if_pos hg2] at hf
        refine r_iald (j := (Int32.toNatClampNeg l2)) (v := S.2.1 13 (Int32.toNatClampNeg l2)) fe_208_13 m_c_13 (m_lt hh (by decide)) (fun z => hg2 (Or.inl z)) rfl (fun z => hg2 (Or.inr z)) rfl ?_
        refine r_callV (as := [.int (S.2.1 13 (Int32.toNatClampNeg l2))]) (r := [.int l2, .ref 143]) fe_208_14 lm_12_446 md_207 rfl rfl (Nat.le_of_ble_eq_true rfl) m_c_0 (m_lt hh (by decide)) (Nat.le_of_ble_eq_true rfl) (Nat.le_of_ble_eq_true rfl) ?_
        cases hc4 : F207 n (S.2.1 13 (Int32.toNatClampNeg l2)) S with
        | none => rw [hc4] at hf; cases hf
        | some z3 =>
          rw [hc4, Option.bind_some] at hf
          refine F207c (r0 := z3.1) (S0 := z3.2) hh hc4 ?_
          by_cases hg5 : ¬ (l2 < 0 ∨ 13 ≤ (l2).toNatClampNeg)
          rotate_left
          · rw [if_neg hg5] at hf; cases hf
          rw [if_pos hg5] at hf
          refine mr_iast (k := 13) (n := 13) (j := (Int32.toNatClampNeg l2)) hh fe_208_17 rfl (by decide) (by decide) rfl rfl (fun z => hg5 (Or.inl z)) rfl (fun z => hg5 (Or.inr z)) ?_
          refine r_iinc (v := (l2 + 1)) fe_208_18 rfl rfl rfl ?_
          refine r_goto (t := 2) fe_208_21 (by decide) ?_
          refine go_weak (L0 := [.ref 130, .ref 143, .int (l2 + 1)]) (lwk_c (Or.inl rfl) (lwk_c (Or.inl rfl) (lwk_c (Or.inl rfl) (lwk_rf [])))) ?_
          exact ih.2 (l2 + 1) (m_sA z3.2 13 (Int32.toNatClampNeg l2) z3.1) hf
theorem F208_143c {xs : Nat → Int32} {L9 d n : Nat} {h : AmH} {Q : Option Value → AmH → Prop} {r0 : Unit} {S0 S : mS}  (hh : 172 ≤ h.2.1) (hf : F208_143 n  S = some (r0, S0)) (hQ : Q none (mst S0 h)) : Ca (am_X xs L9) (d + 1) 208 [.ref 130, .ref 143] (mst S h) Q := (F208_143l hh hQ n).1 0 S hf
def F208_144b0 (F : Nat → Int32 → mS → Option (Unit × mS)) (n : Nat) (l2 : Int32) (S : mS) : Option (Unit × mS) := F 2 0 S
def F208_144b2 (F : Nat → Int32 → mS → Option (Unit × mS)) (n : Nat) (l2 : Int32) (S : mS) : Option (Unit × mS) := (if am_ic .ge l2 13 = true then some ((), S) else (if ¬ (l2 < 0 ∨ 13 ≤ (l2).toNatClampNeg) then ((F207 n (S.2.1 14 (Int32.toNatClampNeg l2)) S).bind (fun z3 => (if ¬ (l2 < 0 ∨ 13 ≤ (l2).toNatClampNeg) then F 2 (l2 + 1) (m_sA z3.2 14 (Int32.toNatClampNeg l2) z3.1) else none))) else none))
def F208_144f : Nat → Nat → Int32 → mS → Option (Unit × mS)
  | 0, _, _, _ => none
  | n + 1, c, l2, S => if c = 0 then F208_144b0 (F208_144f n) n l2 S else F208_144b2 (F208_144f n) n l2 S
theorem F208_144e0 (n : Nat) (l2 : Int32) (S : mS) : F208_144f (n + 1) 0 l2 S = F208_144b0 (F208_144f n) n l2 S := if_pos rfl
theorem F208_144e2 (n : Nat) (l2 : Int32) (S : mS) : F208_144f (n + 1) 2 l2 S = F208_144b2 (F208_144f n) n l2 S := if_neg (by decide)
def F208_144 (n : Nat)  (S : mS) : Option (Unit × mS) := F208_144f n 0 0 S
set_option maxRecDepth 20000 in
set_option maxHeartbeats 2000000 in
theorem F208_144l {xs : Nat → Int32} {L9 d : Nat} {h : AmH} {Q : Option Value → AmH → Prop} {r0 : Unit} {S0 : mS} (hh : 172 ≤ h.2.1) (hQ : Q none (mst S0 h)) : ∀ n : Nat, (∀ (l2 : Int32) (S : mS), F208_144f n 0 l2 S = some (r0, S0) → Go (am_X xs L9) (d + 1) 208 0 [.ref 130, .ref 144, .float 0] [] (mst S h) Q) ∧ (∀ (l2 : Int32) (S : mS), F208_144f n 2 l2 S = some (r0, S0) → Go (am_X xs L9) (d + 1) 208 2 [.ref 130, .ref 144, .int l2] [] (mst S h) Q) := by
  intro n
  induction n with
  | zero => exact ⟨fun l2 S hf => (by cases hf), fun l2 S hf => (by cases hf)⟩
  | succ n ih =>
    refine ⟨?_, ?_⟩
    · intro l2 S hf
      rw [F208_144e0] at hf
      unfold F208_144b0 at hf
      refine r_iconst (v := 0) fe_208_0 (by decide) ?_
      refine r_istore_n fe_208_1 (Nat.le_of_ble_eq_true rfl) rfl ?_
      refine go_weak (L0 := [.ref 130, .ref 144, .int 0]) (lwk_c (Or.inl rfl) (lwk_c (Or.inl rfl) (lwk_c (Or.inl rfl) (lwk_rf [])))) ?_
      exact ih.2 0 S hf
    · intro l2 S hf
      rw [F208_144e2] at hf
      unfold F208_144b2 at hf
      refine r_iload_n fe_208_2 rfl ?_
      refine r_aload_n fe_208_3 rfl ?_
      refine r_alen (v := 13) fe_208_4 m_c_14 (m_lt hh (by decide)) (by decide) (by decide) ?_
      by_cases hb1 : am_ic .ge l2 13 = true
      · rw [if_pos hb1] at hf
        refine r_ic_t (t := 24) fe_208_5 (by decide) hb1 ?_
        refine r_vret fe_208_24 ?_
        exact dfin (P := fun _ T => Q none (mst T h)) hf hQ
      · rw [if_neg hb1] at hf
        refine r_ic_f (t := 24) fe_208_5 (by decide) (Bool.eq_false_iff.mpr hb1) ?_
        refine r_aload_n fe_208_8 rfl ?_
        refine r_iload_n fe_208_9 rfl ?_
        refine r_aload_n fe_208_10 rfl ?_
        refine r_aload_n fe_208_11 rfl ?_
        refine r_iload_n fe_208_12 rfl ?_
        by_cases hg2 : ¬ (l2 < 0 ∨ 13 ≤ (l2).toNatClampNeg)
        rotate_left
        · rw [if_neg hg2] at hf; cases hf
        rw [if_pos hg2] at hf
        refine r_iald (j := (Int32.toNatClampNeg l2)) (v := S.2.1 14 (Int32.toNatClampNeg l2)) fe_208_13 m_c_14 (m_lt hh (by decide)) (fun z => hg2 (Or.inl z)) rfl (fun z => hg2 (Or.inr z)) rfl ?_
        refine r_callV (as := [.int (S.2.1 14 (Int32.toNatClampNeg l2))]) (r := [.int l2, .ref 144]) fe_208_14 lm_12_446 md_207 rfl rfl (Nat.le_of_ble_eq_true rfl) m_c_0 (m_lt hh (by decide)) (Nat.le_of_ble_eq_true rfl) (Nat.le_of_ble_eq_true rfl) ?_
        cases hc4 : F207 n (S.2.1 14 (Int32.toNatClampNeg l2)) S with
        | none => rw [hc4] at hf; cases hf
        | some z3 =>
          rw [hc4, Option.bind_some] at hf
          refine F207c (r0 := z3.1) (S0 := z3.2) hh hc4 ?_
          by_cases hg5 : ¬ (l2 < 0 ∨ 13 ≤ (l2).toNatClampNeg)
          rotate_left
          · rw [if_neg hg5] at hf; cases hf
          rw [if_pos hg5] at hf
          refine mr_iast (k := 14) (n := 13) (j := (Int32.toNatClampNeg l2)) hh fe_208_17 rfl (by decide) (by decide) rfl rfl (fun z => hg5 (Or.inl z)) rfl (fun z => hg5 (Or.inr z)) ?_
          refine r_iinc (v := (l2 + 1)) fe_208_18 rfl rfl rfl ?_
          refine r_goto (t := 2) fe_208_21 (by decide) ?_
          refine go_weak (L0 := [.ref 130, .ref 144, .int (l2 + 1)]) (lwk_c (Or.inl rfl) (lwk_c (Or.inl rfl) (lwk_c (Or.inl rfl) (lwk_rf [])))) ?_
          exact ih.2 (l2 + 1) (m_sA z3.2 14 (Int32.toNatClampNeg l2) z3.1) hf
theorem F208_144c {xs : Nat → Int32} {L9 d n : Nat} {h : AmH} {Q : Option Value → AmH → Prop} {r0 : Unit} {S0 S : mS}  (hh : 172 ≤ h.2.1) (hf : F208_144 n  S = some (r0, S0)) (hQ : Q none (mst S0 h)) : Ca (am_X xs L9) (d + 1) 208 [.ref 130, .ref 144] (mst S h) Q := (F208_144l hh hQ n).1 0 S hf
def F208_145b0 (F : Nat → Int32 → mS → Option (Unit × mS)) (n : Nat) (l2 : Int32) (S : mS) : Option (Unit × mS) := F 2 0 S
def F208_145b2 (F : Nat → Int32 → mS → Option (Unit × mS)) (n : Nat) (l2 : Int32) (S : mS) : Option (Unit × mS) := (if am_ic .ge l2 13 = true then some ((), S) else (if ¬ (l2 < 0 ∨ 13 ≤ (l2).toNatClampNeg) then ((F207 n (S.2.1 15 (Int32.toNatClampNeg l2)) S).bind (fun z3 => (if ¬ (l2 < 0 ∨ 13 ≤ (l2).toNatClampNeg) then F 2 (l2 + 1) (m_sA z3.2 15 (Int32.toNatClampNeg l2) z3.1) else none))) else none))
def F208_145f : Nat → Nat → Int32 → mS → Option (Unit × mS)
  | 0, _, _, _ => none
  | n + 1, c, l2, S => if c = 0 then F208_145b0 (F208_145f n) n l2 S else F208_145b2 (F208_145f n) n l2 S
theorem F208_145e0 (n : Nat) (l2 : Int32) (S : mS) : F208_145f (n + 1) 0 l2 S = F208_145b0 (F208_145f n) n l2 S := if_pos rfl
theorem F208_145e2 (n : Nat) (l2 : Int32) (S : mS) : F208_145f (n + 1) 2 l2 S = F208_145b2 (F208_145f n) n l2 S := if_neg (by decide)
def F208_145 (n : Nat)  (S : mS) : Option (Unit × mS) := F208_145f n 0 0 S
set_option maxRecDepth 20000 in
set_option maxHeartbeats 2000000 in
theorem F208_145l {xs : Nat → Int32} {L9 d : Nat} {h : AmH} {Q : Option Value → AmH → Prop} {r0 : Unit} {S0 : mS} (hh : 172 ≤ h.2.1) (hQ : Q none (mst S0 h)) : ∀ n : Nat, (∀ (l2 : Int32) (S : mS), F208_145f n 0 l2 S = some (r0, S0) → Go (am_X xs L9) (d + 1) 208 0 [.ref 130, .ref 145, .float 0] [] (mst S h) Q) ∧ (∀ (l2 : Int32) (S : mS), F208_145f n 2 l2 S = some (r0, S0) → Go (am_X xs L9) (d + 1) 208 2 [.ref 130, .ref 145, .int l2] [] (mst S h) Q) := by
  intro n
  induction n with
  | zero => exact ⟨fun l2 S hf => (by cases hf), fun l2 S hf => (by cases hf)⟩
  | succ n ih =>
    refine ⟨?_, ?_⟩
    · intro l2 S hf
      rw [F208_145e0] at hf
      unfold F208_145b0 at hf
      refine r_iconst (v := 0) fe_208_0 (by decide) ?_
      refine r_istore_n fe_208_1 (Nat.le_of_ble_eq_true rfl) rfl ?_
      refine go_weak (L0 := [.ref 130, .ref 145, .int 0]) (lwk_c (Or.inl rfl) (lwk_c (Or.inl rfl) (lwk_c (Or.inl rfl) (lwk_rf [])))) ?_
      exact ih.2 0 S hf
    · intro l2 S hf
      rw [F208_145e2] at hf
      unfold F208_145b2 at hf
      refine r_iload_n fe_208_2 rfl ?_
      refine r_aload_n fe_208_3 rfl ?_
      refine r_alen (v := 13) fe_208_4 m_c_15 (m_lt hh (by decide)) (by decide) (by decide) ?_
      by_cases hb1 : am_ic .ge l2 13 = true
      · rw [if_pos hb1] at hf
        refine r_ic_t (t := 24) fe_208_5 (by decide) hb1 ?_
        refine r_vret fe_208_24 ?_
        exact dfin (P := fun _ T => Q none (mst T h)) hf hQ
      · rw [if_neg hb1] at hf
        refine r_ic_f (t := 24) fe_208_5 (by decide) (Bool.eq_false_iff.mpr hb1) ?_
        refine r_aload_n fe_208_8 rfl ?_
        refine r_iload_n fe_208_9 rfl ?_
        refine r_aload_n fe_208_10 rfl ?_
        refine r_aload_n fe_208_11 rfl ?_
        refine r_iload_n fe_208_12 rfl ?_
        by_cases hg2 : ¬ (l2 < 0 ∨ 13 ≤ (l2).toNatClampNeg)
        rotate_left
        · rw [if_neg hg2] at hf; cases hf
        rw [if_pos hg2] at hf
        refine r_iald (j := (Int32.toNatClampNeg l2)) (v := S.2.1 15 (Int32.toNatClampNeg l2)) fe_208_13 m_c_15 (m_lt hh (by decide)) (fun z => hg2 (Or.inl z)) rfl (fun z => hg2 (Or.inr z)) rfl ?_
        refine r_callV (as := [.int (S.2.1 15 (Int32.toNatClampNeg l2))]) (r := [.int l2, .ref 145]) fe_208_14 lm_12_446 md_207 rfl rfl (Nat.le_of_ble_eq_true rfl) m_c_0 (m_lt hh (by decide)) (Nat.le_of_ble_eq_true rfl) (Nat.le_of_ble_eq_true rfl) ?_
        cases hc4 : F207 n (S.2.1 15 (Int32.toNatClampNeg l2)) S with
        | none => rw [hc4] at hf; cases hf
        | some z3 =>
          rw [hc4, Option.bind_some] at hf
          refine F207c (r0 := z3.1) (S0 := z3.2) hh hc4 ?_
          by_cases hg5 : ¬ (l2 < 0 ∨ 13 ≤ (l2).toNatClampNeg)
          rotate_left
          · rw [if_neg hg5] at hf; cases hf
          rw [if_pos hg5] at hf
          refine mr_iast (k := 15) (n := 13) (j := (Int32.toNatClampNeg l2)) hh fe_208_17 rfl (by decide) (by decide) rfl rfl (fun z => hg5 (Or.inl z)) rfl (fun z => hg5 (Or.inr z)) ?_
          refine r_iinc (v := (l2 + 1)) fe_208_18 rfl rfl rfl ?_
          refine r_goto (t := 2) fe_208_21 (by decide) ?_
          refine go_weak (L0 := [.ref 130, .ref 145, .int (l2 + 1)]) (lwk_c (Or.inl rfl) (lwk_c (Or.inl rfl) (lwk_c (Or.inl rfl) (lwk_rf [])))) ?_
          exact ih.2 (l2 + 1) (m_sA z3.2 15 (Int32.toNatClampNeg l2) z3.1) hf
theorem F208_145c {xs : Nat → Int32} {L9 d n : Nat} {h : AmH} {Q : Option Value → AmH → Prop} {r0 : Unit} {S0 S : mS}  (hh : 172 ≤ h.2.1) (hf : F208_145 n  S = some (r0, S0)) (hQ : Q none (mst S0 h)) : Ca (am_X xs L9) (d + 1) 208 [.ref 130, .ref 145] (mst S h) Q := (F208_145l hh hQ n).1 0 S hf
def F206b0 (F : Nat → Int32 → Int32 → mS → Option (Unit × mS)) (n : Nat) (l1 : Int32) (l2 : Int32) (S : mS) : Option (Unit × mS) := (if (narrow .boolean (.int l2) = .int l2 ∧ fits .boolean (.int l2) = true) then ((F207 n ((m_sI (m_sI S 48 (114 * l1)) 49 l2).2.1 1 4) (m_sI (m_sI S 48 (114 * l1)) 49 l2)).bind (fun z2 => ((F207 n ((m_sA z2.2 1 4 z2.1).2.1 1 3) (m_sA z2.2 1 4 z2.1)).bind (fun z4 => ((F207 n ((m_sA z4.2 1 3 z4.1).2.1 1 5) (m_sA z4.2 1 3 z4.1)).bind (fun z6 => ((F207 n ((m_sA z6.2 1 5 z6.1).2.1 1 6) (m_sA z6.2 1 5 z6.1)).bind (fun z8 => ((F208_136 n  (m_sA z8.2 1 6 z8.1)).bind (fun z10 => ((F208_138 n  z10.2).bind (fun z12 => ((F208_139 n  z12.2).bind (fun z14 => ((F208_140 n  z14.2).bind (fun z16 => ((F208_141 n  z16.2).bind (fun z18 => ((F208_142 n  z18.2).bind (fun z20 => ((F208_143 n  z20.2).bind (fun z22 => ((F208_144 n  z22.2).bind (fun z24 => ((F208_145 n  z24.2).bind (fun z26 => some ((), z26.2))))))))))))))))))))))))))) else none)
def F206f : Nat → Nat → Int32 → Int32 → mS → Option (Unit × mS)
  | 0, _, _, _, _ => none
  | n + 1, c, l1, l2, S => F206b0 (F206f n) n l1 l2 S
theorem F206e0 (n : Nat) (l1 : Int32) (l2 : Int32) (S : mS) : F206f (n + 1) 0 l1 l2 S = F206b0 (F206f n) n l1 l2 S := rfl
def F206 (n : Nat) (l1 : Int32) (l2 : Int32) (S : mS) : Option (Unit × mS) := F206f n 0 l1 l2 S
set_option maxRecDepth 20000 in
set_option maxHeartbeats 2000000 in
theorem F206l {xs : Nat → Int32} {L9 d : Nat} {h : AmH} {Q : Option Value → AmH → Prop} {r0 : Unit} {S0 : mS} (hh : 172 ≤ h.2.1) (hQ : Q none (mst S0 h)) : ∀ n : Nat, (∀ (l1 : Int32) (l2 : Int32) (S : mS), F206f n 0 l1 l2 S = some (r0, S0) → Go (am_X xs L9) (d + 2) 206 0 [.ref 130, .int l1, .int l2] [] (mst S h) Q) := by
  intro n
  induction n with
  | zero => exact fun l1 l2 S hf => (by cases hf)
  | succ n ih =>
    intro l1 l2 S hf
    rw [F206e0] at hf
    unfold F206b0 at hf
    refine r_aload_n fe_206_0 rfl ?_
    refine r_bipush (v := 114) fe_206_1 (by decide) ?_
    refine r_iload_n fe_206_3 rfl ?_
    refine r_imul (v := (114 * l1)) fe_206_4 rfl ?_
    refine mr_putf hh fe_206_5 lf_12_443 (m_f_48 _ _) (by decide) rfl rfl rfl ?_
    refine r_aload_n fe_206_8 rfl ?_
    refine r_iload_n fe_206_9 rfl ?_
    by_cases hz1 : (narrow .boolean (.int l2) = .int l2 ∧ fits .boolean (.int l2) = true)
    rotate_left
    · rw [if_neg hz1] at hf; cases hf
    rw [if_pos hz1] at hf
    refine mr_putf hh fe_206_10 lf_12_439 (m_f_49 _ _) (by decide) hz1.2 hz1.1 rfl ?_
    refine r_aload_n fe_206_13 rfl ?_
    refine mr_getf hh fe_206_14 lf_12_9 rfl ?_
    refine r_iconst (v := 4) fe_206_17 (by decide) ?_
    refine r_aload_n fe_206_18 rfl ?_
    refine r_aload_n fe_206_19 rfl ?_
    refine mr_getf hh fe_206_20 lf_12_9 rfl ?_
    refine r_iconst (v := 4) fe_206_23 (by decide) ?_
    refine r_iald (j := 4) (v := (m_sI (m_sI S 48 (114 * l1)) 49 l2).2.1 1 4) fe_206_24 m_c_1 (m_lt hh (by decide)) (by decide) (by decide) (by decide) rfl ?_
    refine r_callV (as := [.int ((m_sI (m_sI S 48 (114 * l1)) 49 l2).2.1 1 4)]) (r := [.int 4, .ref 131]) fe_206_25 lm_12_446 md_207 rfl rfl (Nat.le_of_ble_eq_true rfl) m_c_0 (m_lt hh (by decide)) (Nat.le_of_ble_eq_true rfl) (Nat.le_of_ble_eq_true rfl) ?_
    cases hc3 : F207 n ((m_sI (m_sI S 48 (114 * l1)) 49 l2).2.1 1 4) (m_sI (m_sI S 48 (114 * l1)) 49 l2) with
    | none => rw [hc3] at hf; cases hf
    | some z2 =>
      rw [hc3, Option.bind_some] at hf
      refine F207c (r0 := z2.1) (S0 := z2.2) hh hc3 ?_
      refine mr_iast (k := 1) (n := 9) (j := 4) hh fe_206_28 rfl (by decide) (by decide) rfl rfl (by decide) (by decide) (by decide) ?_
      refine r_aload_n fe_206_29 rfl ?_
      refine mr_getf hh fe_206_30 lf_12_9 rfl ?_
      refine r_iconst (v := 3) fe_206_33 (by decide) ?_
      refine r_aload_n fe_206_34 rfl ?_
      refine r_aload_n fe_206_35 rfl ?_
      refine mr_getf hh fe_206_36 lf_12_9 rfl ?_
      refine r_iconst (v := 3) fe_206_39 (by decide) ?_
      refine r_iald (j := 3) (v := (m_sA z2.2 1 4 z2.1).2.1 1 3) fe_206_40 m_c_1 (m_lt hh (by decide)) (by decide) (by decide) (by decide) rfl ?_
      refine r_callV (as := [.int ((m_sA z2.2 1 4 z2.1).2.1 1 3)]) (r := [.int 3, .ref 131]) fe_206_41 lm_12_446 md_207 rfl rfl (Nat.le_of_ble_eq_true rfl) m_c_0 (m_lt hh (by decide)) (Nat.le_of_ble_eq_true rfl) (Nat.le_of_ble_eq_true rfl) ?_
      cases hc5 : F207 n ((m_sA z2.2 1 4 z2.1).2.1 1 3) (m_sA z2.2 1 4 z2.1) with
      | none => rw [hc5] at hf; cases hf
      | some z4 =>
        rw [hc5, Option.bind_some] at hf
        refine F207c (r0 := z4.1) (S0 := z4.2) hh hc5 ?_
        refine mr_iast (k := 1) (n := 9) (j := 3) hh fe_206_44 rfl (by decide) (by decide) rfl rfl (by decide) (by decide) (by decide) ?_
        refine r_aload_n fe_206_45 rfl ?_
        refine mr_getf hh fe_206_46 lf_12_9 rfl ?_
        refine r_iconst (v := 5) fe_206_49 (by decide) ?_
        refine r_aload_n fe_206_50 rfl ?_
        refine r_aload_n fe_206_51 rfl ?_
        refine mr_getf hh fe_206_52 lf_12_9 rfl ?_
        refine r_iconst (v := 5) fe_206_55 (by decide) ?_
        refine r_iald (j := 5) (v := (m_sA z4.2 1 3 z4.1).2.1 1 5) fe_206_56 m_c_1 (m_lt hh (by decide)) (by decide) (by decide) (by decide) rfl ?_
        refine r_callV (as := [.int ((m_sA z4.2 1 3 z4.1).2.1 1 5)]) (r := [.int 5, .ref 131]) fe_206_57 lm_12_446 md_207 rfl rfl (Nat.le_of_ble_eq_true rfl) m_c_0 (m_lt hh (by decide)) (Nat.le_of_ble_eq_true rfl) (Nat.le_of_ble_eq_true rfl) ?_
        cases hc7 : F207 n ((m_sA z4.2 1 3 z4.1).2.1 1 5) (m_sA z4.2 1 3 z4.1) with
        | none => rw [hc7] at hf; cases hf
        | some z6 =>
          rw [hc7, Option.bind_some] at hf
          refine F207c (r0 := z6.1) (S0 := z6.2) hh hc7 ?_
          refine mr_iast (k := 1) (n := 9) (j := 5) hh fe_206_60 rfl (by decide) (by decide) rfl rfl (by decide) (by decide) (by decide) ?_
          refine r_aload_n fe_206_61 rfl ?_
          refine mr_getf hh fe_206_62 lf_12_9 rfl ?_
          refine r_bipush (v := 6) fe_206_65 (by decide) ?_
          refine r_aload_n fe_206_67 rfl ?_
          refine r_aload_n fe_206_68 rfl ?_
          refine mr_getf hh fe_206_69 lf_12_9 rfl ?_
          refine r_bipush (v := 6) fe_206_72 (by decide) ?_
          refine r_iald (j := 6) (v := (m_sA z6.2 1 5 z6.1).2.1 1 6) fe_206_74 m_c_1 (m_lt hh (by decide)) (by decide) (by decide) (by decide) rfl ?_
          refine r_callV (as := [.int ((m_sA z6.2 1 5 z6.1).2.1 1 6)]) (r := [.int 6, .ref 131]) fe_206_75 lm_12_446 md_207 rfl rfl (Nat.le_of_ble_eq_true rfl) m_c_0 (m_lt hh (by decide)) (Nat.le_of_ble_eq_true rfl) (Nat.le_of_ble_eq_true rfl) ?_
          cases hc9 : F207 n ((m_sA z6.2 1 5 z6.1).2.1 1 6) (m_sA z6.2 1 5 z6.1) with
          | none => rw [hc9] at hf; cases hf
          | some z8 =>
            rw [hc9, Option.bind_some] at hf
            refine F207c (r0 := z8.1) (S0 := z8.2) hh hc9 ?_
            refine mr_iast (k := 1) (n := 9) (j := 6) hh fe_206_78 rfl (by decide) (by decide) rfl rfl (by decide) (by decide) (by decide) ?_
            refine r_aload_n fe_206_79 rfl ?_
            refine r_aload_n fe_206_80 rfl ?_
            refine mr_getf hh fe_206_81 lf_12_25 rfl ?_
            refine r_callV (as := [.ref 136]) (r := []) fe_206_84 lm_12_449 md_208 rfl rfl (Nat.le_of_ble_eq_true rfl) m_c_0 (m_lt hh (by decide)) (Nat.le_of_ble_eq_true rfl) (Nat.le_of_ble_eq_true rfl) ?_
            cases hc11 : F208_136 n  (m_sA z8.2 1 6 z8.1) with
            | none => rw [hc11] at hf; cases hf
            | some z10 =>
              rw [hc11, Option.bind_some] at hf
              refine F208_136c (r0 := z10.1) (S0 := z10.2) hh hc11 ?_
              refine r_aload_n fe_206_87 rfl ?_
              refine r_aload_n fe_206_88 rfl ?_
              refine mr_getf hh fe_206_89 lf_12_31 rfl ?_
              refine r_callV (as := [.ref 138]) (r := []) fe_206_92 lm_12_449 md_208 rfl rfl (Nat.le_of_ble_eq_true rfl) m_c_0 (m_lt hh (by decide)) (Nat.le_of_ble_eq_true rfl) (Nat.le_of_ble_eq_true rfl) ?_
              cases hc13 : F208_138 n  z10.2 with
              | none => rw [hc13] at hf; cases hf
              | some z12 =>
                rw [hc13, Option.bind_some] at hf
                refine F208_138c (r0 := z12.1) (S0 := z12.2) hh hc13 ?_
                refine r_aload_n fe_206_95 rfl ?_
                refine r_aload_n fe_206_96 rfl ?_
                refine mr_getf hh fe_206_97 lf_12_34 rfl ?_
                refine r_callV (as := [.ref 139]) (r := []) fe_206_100 lm_12_449 md_208 rfl rfl (Nat.le_of_ble_eq_true rfl) m_c_0 (m_lt hh (by decide)) (Nat.le_of_ble_eq_true rfl) (Nat.le_of_ble_eq_true rfl) ?_
                cases hc15 : F208_139 n  z12.2 with
                | none => rw [hc15] at hf; cases hf
                | some z14 =>
                  rw [hc15, Option.bind_some] at hf
                  refine F208_139c (r0 := z14.1) (S0 := z14.2) hh hc15 ?_
                  refine r_aload_n fe_206_103 rfl ?_
                  refine r_aload_n fe_206_104 rfl ?_
                  refine mr_getf hh fe_206_105 lf_12_37 rfl ?_
                  refine r_callV (as := [.ref 140]) (r := []) fe_206_108 lm_12_449 md_208 rfl rfl (Nat.le_of_ble_eq_true rfl) m_c_0 (m_lt hh (by decide)) (Nat.le_of_ble_eq_true rfl) (Nat.le_of_ble_eq_true rfl) ?_
                  cases hc17 : F208_140 n  z14.2 with
                  | none => rw [hc17] at hf; cases hf
                  | some z16 =>
                    rw [hc17, Option.bind_some] at hf
                    refine F208_140c (r0 := z16.1) (S0 := z16.2) hh hc17 ?_
                    refine r_aload_n fe_206_111 rfl ?_
                    refine r_aload_n fe_206_112 rfl ?_
                    refine mr_getf hh fe_206_113 lf_12_40 rfl ?_
                    refine r_callV (as := [.ref 141]) (r := []) fe_206_116 lm_12_449 md_208 rfl rfl (Nat.le_of_ble_eq_true rfl) m_c_0 (m_lt hh (by decide)) (Nat.le_of_ble_eq_true rfl) (Nat.le_of_ble_eq_true rfl) ?_
                    cases hc19 : F208_141 n  z16.2 with
                    | none => rw [hc19] at hf; cases hf
                    | some z18 =>
                      rw [hc19, Option.bind_some] at hf
                      refine F208_141c (r0 := z18.1) (S0 := z18.2) hh hc19 ?_
                      refine r_aload_n fe_206_119 rfl ?_
                      refine r_aload_n fe_206_120 rfl ?_
                      refine mr_getf hh fe_206_121 lf_12_43 rfl ?_
                      refine r_callV (as := [.ref 142]) (r := []) fe_206_124 lm_12_449 md_208 rfl rfl (Nat.le_of_ble_eq_true rfl) m_c_0 (m_lt hh (by decide)) (Nat.le_of_ble_eq_true rfl) (Nat.le_of_ble_eq_true rfl) ?_
                      cases hc21 : F208_142 n  z18.2 with
                      | none => rw [hc21] at hf; cases hf
                      | some z20 =>
                        rw [hc21, Option.bind_some] at hf
                        refine F208_142c (r0 := z20.1) (S0 := z20.2) hh hc21 ?_
                        refine r_aload_n fe_206_127 rfl ?_
                        refine r_aload_n fe_206_128 rfl ?_
                        refine mr_getf hh fe_206_129 lf_12_46 rfl ?_
                        refine r_callV (as := [.ref 143]) (r := []) fe_206_132 lm_12_449 md_208 rfl rfl (Nat.le_of_ble_eq_true rfl) m_c_0 (m_lt hh (by decide)) (Nat.le_of_ble_eq_true rfl) (Nat.le_of_ble_eq_true rfl) ?_
                        cases hc23 : F208_143 n  z20.2 with
                        | none => rw [hc23] at hf; cases hf
                        | some z22 =>
                          rw [hc23, Option.bind_some] at hf
                          refine F208_143c (r0 := z22.1) (S0 := z22.2) hh hc23 ?_
                          refine r_aload_n fe_206_135 rfl ?_
                          refine r_aload_n fe_206_136 rfl ?_
                          refine mr_getf hh fe_206_137 lf_12_49 rfl ?_
                          refine r_callV (as := [.ref 144]) (r := []) fe_206_140 lm_12_449 md_208 rfl rfl (Nat.le_of_ble_eq_true rfl) m_c_0 (m_lt hh (by decide)) (Nat.le_of_ble_eq_true rfl) (Nat.le_of_ble_eq_true rfl) ?_
                          cases hc25 : F208_144 n  z22.2 with
                          | none => rw [hc25] at hf; cases hf
                          | some z24 =>
                            rw [hc25, Option.bind_some] at hf
                            refine F208_144c (r0 := z24.1) (S0 := z24.2) hh hc25 ?_
                            refine r_aload_n fe_206_143 rfl ?_
                            refine r_aload_n fe_206_144 rfl ?_
                            refine mr_getf hh fe_206_145 lf_12_52 rfl ?_
                            refine r_callV (as := [.ref 145]) (r := []) fe_206_148 lm_12_449 md_208 rfl rfl (Nat.le_of_ble_eq_true rfl) m_c_0 (m_lt hh (by decide)) (Nat.le_of_ble_eq_true rfl) (Nat.le_of_ble_eq_true rfl) ?_
                            cases hc27 : F208_145 n  z24.2 with
                            | none => rw [hc27] at hf; cases hf
                            | some z26 =>
                              rw [hc27, Option.bind_some] at hf
                              refine F208_145c (r0 := z26.1) (S0 := z26.2) hh hc27 ?_
                              refine r_vret fe_206_151 ?_
                              exact dfin (P := fun _ T => Q none (mst T h)) hf hQ
theorem F206c {xs : Nat → Int32} {L9 d n : Nat} {h : AmH} {Q : Option Value → AmH → Prop} {r0 : Unit} {S0 S : mS} {l1 : Int32} {l2 : Int32} (hh : 172 ≤ h.2.1) (hf : F206 n l1 l2 S = some (r0, S0)) (hQ : Q none (mst S0 h)) : Ca (am_X xs L9) (d + 2) 206 [.ref 130, .int l1, .int l2] (mst S h) Q := (F206l hh hQ n) l1 l2 S hf
