def F241_135b0 (F : Nat → Int32 → mS → Option (Unit × mS)) (n : Nat) (l2 : Int32) (S : mS) : Option (Unit × mS) := F 2 0 S
def F241_135b2 (F : Nat → Int32 → mS → Option (Unit × mS)) (n : Nat) (l2 : Int32) (S : mS) : Option (Unit × mS) := (if am_ic .ge l2 6 = true then some ((), S) else (if am_if .eq (S.1 57) = true then (if ¬ (l2 < 0 ∨ 6 ≤ (l2).toNatClampNeg) then (if ¬ ((S.1 56) < 0 ∨ 12500 ≤ ((S.1 56)).toNatClampNeg) then F 2 (l2 + 1) (m_sI (m_sA S 40 (Int32.toNatClampNeg (S.1 56)) (S.2.1 5 (Int32.toNatClampNeg l2))) 56 (((m_sA S 40 (Int32.toNatClampNeg (S.1 56)) (S.2.1 5 (Int32.toNatClampNeg l2))).1 56) + 1)) else none) else none) else (if ¬ ((S.1 56) < 0 ∨ 12500 ≤ ((S.1 56)).toNatClampNeg) then (if ¬ (l2 < 0 ∨ 6 ≤ (l2).toNatClampNeg) then F 2 (l2 + 1) (m_sI (m_sA S 5 (Int32.toNatClampNeg l2) (S.2.1 40 (Int32.toNatClampNeg (S.1 56)))) 56 (((m_sA S 5 (Int32.toNatClampNeg l2) (S.2.1 40 (Int32.toNatClampNeg (S.1 56)))).1 56) + 1)) else none) else none)))
def F241_135f : Nat → Nat → Int32 → mS → Option (Unit × mS)
  | 0, _, _, _ => none
  | n + 1, c, l2, S => if c = 0 then F241_135b0 (F241_135f n) n l2 S else F241_135b2 (F241_135f n) n l2 S
theorem F241_135e0 (n : Nat) (l2 : Int32) (S : mS) : F241_135f (n + 1) 0 l2 S = F241_135b0 (F241_135f n) n l2 S := if_pos rfl
theorem F241_135e2 (n : Nat) (l2 : Int32) (S : mS) : F241_135f (n + 1) 2 l2 S = F241_135b2 (F241_135f n) n l2 S := if_neg (by decide)
def F241_135 (n : Nat)  (S : mS) : Option (Unit × mS) := F241_135f n 0 0 S
set_option maxRecDepth 20000 in
set_option maxHeartbeats 2000000 in
theorem F241_135l {xs : Nat → Int32} {L9 d : Nat} {h : AmH} {Q : Option Value → AmH → Prop} {r0 : Unit} {S0 : mS} (hh : 172 ≤ h.2.1) (hQ : Q none (mst S0 h)) : ∀ n : Nat, (∀ (l2 : Int32) (S : mS), F241_135f n 0 l2 S = some (r0, S0) → Go (am_X xs L9) (d + 0) 241 0 [.ref 130, .ref 135, .float 0] [] (mst S h) Q) ∧ (∀ (l2 : Int32) (S : mS), F241_135f n 2 l2 S = some (r0, S0) → Go (am_X xs L9) (d + 0) 241 2 [.ref 130, .ref 135, .int l2] [] (mst S h) Q) := by
  intro n
  induction n with
  | zero => exact ⟨fun l2 S hf => (by cases hf), fun l2 S hf => (by cases hf)⟩
  | succ n ih =>
    refine ⟨?_, ?_⟩
    · intro l2 S hf
      rw [F241_135e0] at hf
      unfold F241_135b0 at hf
      refine r_iconst (v := 0) fe_241_0 (by decide) ?_
      refine r_istore_n fe_241_1 (Nat.le_of_ble_eq_true rfl) rfl ?_
      refine go_weak (L0 := [.ref 130, .ref 135, .int 0]) (lwk_c (Or.inl rfl) (lwk_c (Or.inl rfl) (lwk_c (Or.inl rfl) (lwk_rf [])))) ?_
      exact ih.2 0 S hf
    · intro l2 S hf
      rw [F241_135e2] at hf
      unfold F241_135b2 at hf
      refine r_iload_n fe_241_2 rfl ?_
      refine r_aload_n fe_241_3 rfl ?_
      refine r_alen (v := 6) fe_241_4 m_c_5 (m_lt hh (by decide)) (by decide) (by decide) ?_
      by_cases hb1 : am_ic .ge l2 6 = true
      · rw [if_pos hb1] at hf
        refine r_ic_t (t := 58) fe_241_5 (by decide) hb1 ?_
        refine r_vret fe_241_58 ?_
        exact dfin (P := fun _ T => Q none (mst T h)) hf hQ
      · rw [if_neg hb1] at hf
        refine r_ic_f (t := 58) fe_241_5 (by decide) (Bool.eq_false_iff.mpr hb1) ?_
        refine r_aload_n fe_241_8 rfl ?_
        refine mr_getf hh fe_241_9 lf_12_541 rfl ?_
        by_cases hb2 : am_if .eq (S.1 57) = true
        · rw [if_pos hb2] at hf
          refine r_if_t (t := 30) fe_241_12 (by decide) hb2 ?_
          refine r_aload_n fe_241_30 rfl ?_
          refine mr_getf hh fe_241_31 lf_12_133 rfl ?_
          refine r_aload_n fe_241_34 rfl ?_
          refine mr_getf hh fe_241_35 lf_12_544 rfl ?_
          refine r_aload_n fe_241_38 rfl ?_
          refine r_iload_n fe_241_39 rfl ?_
          by_cases hg3 : ¬ (l2 < 0 ∨ 6 ≤ (l2).toNatClampNeg)
          rotate_left
          · rw [if_neg hg3] at hf; cases hf
          rw [if_pos hg3] at hf
          refine r_iald (j := (Int32.toNatClampNeg l2)) (v := S.2.1 5 (Int32.toNatClampNeg l2)) fe_241_40 m_c_5 (m_lt hh (by decide)) (fun z => hg3 (Or.inl z)) rfl (fun z => hg3 (Or.inr z)) rfl ?_
          by_cases hg4 : ¬ ((S.1 56) < 0 ∨ 12500 ≤ ((S.1 56)).toNatClampNeg)
          rotate_left
          · rw [if_neg hg4] at hf; cases hf
          rw [if_pos hg4] at hf
          refine mr_iast (k := 40) (n := 12500) (j := (Int32.toNatClampNeg (S.1 56))) hh fe_241_41 rfl (by decide) (by decide) rfl rfl (fun z => hg4 (Or.inl z)) rfl (fun z => hg4 (Or.inr z)) ?_
          refine r_aload_n fe_241_42 rfl ?_
          refine r_dup fe_241_43 rfl ?_
          refine mr_getf hh fe_241_44 lf_12_544 rfl ?_
          refine r_iconst (v := 1) fe_241_47 (by decide) ?_
          refine r_iadd (v := (((m_sA S 40 (Int32.toNatClampNeg (S.1 56)) (S.2.1 5 (Int32.toNatClampNeg l2))).1 56) + 1)) fe_241_48 rfl ?_
          refine mr_putf hh fe_241_49 lf_12_544 (m_f_56 _ _) (by decide) rfl rfl rfl ?_
          refine r_iinc (v := (l2 + 1)) fe_241_52 rfl rfl rfl ?_
          refine r_goto (t := 2) fe_241_55 (by decide) ?_
          refine go_weak (L0 := [.ref 130, .ref 135, .int (l2 + 1)]) (lwk_c (Or.inl rfl) (lwk_c (Or.inl rfl) (lwk_c (Or.inl rfl) (lwk_rf [])))) ?_
          exact ih.2 (l2 + 1) (m_sI (m_sA S 40 (Int32.toNatClampNeg (S.1 56)) (S.2.1 5 (Int32.toNatClampNeg l2))) 56 (((m_sA S 40 (Int32.toNatClampNeg (S.1 56)) (S.2.1 5 (Int32.toNatClampNeg l2))).1 56) + 1)) hf
        · rw [if_neg hb2] at hf
          refine r_if_f (t := 30) fe_241_12 (by decide) (Bool.eq_false_iff.mpr hb2) ?_
          refine r_aload_n fe_241_15 rfl ?_
          refine r_iload_n fe_241_16 rfl ?_
          refine r_aload_n fe_241_17 rfl ?_
          refine mr_getf hh fe_241_18 lf_12_133 rfl ?_
          refine r_aload_n fe_241_21 rfl ?_
          refine mr_getf hh fe_241_22 lf_12_544 rfl ?_
          by_cases hg5 : ¬ ((S.1 56) < 0 ∨ 12500 ≤ ((S.1 56)).toNatClampNeg)
          rotate_left
          · rw [if_neg hg5] at hf; cases hf
          rw [if_pos hg5] at hf
          refine r_iald (j := (Int32.toNatClampNeg (S.1 56))) (v := S.2.1 40 (Int32.toNatClampNeg (S.1 56))) fe_241_25 m_c_40 (m_lt hh (by decide)) (fun z => hg5 (Or.inl z)) rfl (fun z => hg5 (Or.inr z)) rfl ?_
          by_cases hg6 : ¬ (l2 < 0 ∨ 6 ≤ (l2).toNatClampNeg)
          rotate_left
          · rw [if_neg hg6] at hf; cases hf
          rw [if_pos hg6] at hf
          refine mr_iast (k := 5) (n := 6) (j := (Int32.toNatClampNeg l2)) hh fe_241_26 rfl (by decide) (by decide) rfl rfl (fun z => hg6 (Or.inl z)) rfl (fun z => hg6 (Or.inr z)) ?_
          refine r_goto (t := 42) fe_241_27 (by decide) ?_
          refine r_aload_n fe_241_42 rfl ?_
          refine r_dup fe_241_43 rfl ?_
          refine mr_getf hh fe_241_44 lf_12_544 rfl ?_
          refine r_iconst (v := 1) fe_241_47 (by decide) ?_
          refine r_iadd (v := (((m_sA S 5 (Int32.toNatClampNeg l2) (S.2.1 40 (Int32.toNatClampNeg (S.1 56)))).1 56) + 1)) fe_241_48 rfl ?_
          refine mr_putf hh fe_241_49 lf_12_544 (m_f_56 _ _) (by decide) rfl rfl rfl ?_
          refine r_iinc (v := (l2 + 1)) fe_241_52 rfl rfl rfl ?_
          refine r_goto (t := 2) fe_241_55 (by decide) ?_
          refine go_weak (L0 := [.ref 130, .ref 135, .int (l2 + 1)]) (lwk_c (Or.inl rfl) (lwk_c (Or.inl rfl) (lwk_c (Or.inl rfl) (lwk_rf [])))) ?_
          exact ih.2 (l2 + 1) (m_sI (m_sA S 5 (Int32.toNatClampNeg l2) (S.2.1 40 (Int32.toNatClampNeg (S.1 56)))) 56 (((m_sA S 5 (Int32.toNatClampNeg l2) (S.2.1 40 (Int32.toNatClampNeg (S.1 56)))).1 56) + 1)) hf
theorem F241_135c {xs : Nat → Int32} {L9 d n : Nat} {h : AmH} {Q : Option Value → AmH → Prop} {r0 : Unit} {S0 S : mS}  (hh : 172 ≤ h.2.1) (hf : F241_135 n  S = some (r0, S0)) (hQ : Q none (mst S0 h)) : Ca (am_X xs L9) (d + 0) 241 [.ref 130, .ref 135] (mst S h) Q := (F241_135l hh hQ n).1 0 S hf
def F241_136b0 (F : Nat → Int32 → mS → Option (Unit × mS)) (n : Nat) (l2 : Int32) (S : mS) : Option (Unit × mS) := F 2 0 S
def F241_136b2 (F : Nat → Int32 → mS → Option (Unit × mS)) (n : Nat) (l2 : Int32) (S : mS) : Option (Unit × mS) := (if am_ic .ge l2 6 = true then some ((), S) else (if am_if .eq (S.1 57) = true then (if ¬ (l2 < 0 ∨ 6 ≤ (l2).toNatClampNeg) then (if ¬ ((S.1 56) < 0 ∨ 12500 ≤ ((S.1 56)).toNatClampNeg) then F 2 (l2 + 1) (m_sI (m_sA S 40 (Int32.toNatClampNeg (S.1 56)) (S.2.1 6 (Int32.toNatClampNeg l2))) 56 (((m_sA S 40 (Int32.toNatClampNeg (S.1 56)) (S.2.1 6 (Int32.toNatClampNeg l2))).1 56) + 1)) else none) else none) else (if ¬ ((S.1 56) < 0 ∨ 12500 ≤ ((S.1 56)).toNatClampNeg) then (if ¬ (l2 < 0 ∨ 6 ≤ (l2).toNatClampNeg) then F 2 (l2 + 1) (m_sI (m_sA S 6 (Int32.toNatClampNeg l2) (S.2.1 40 (Int32.toNatClampNeg (S.1 56)))) 56 (((m_sA S 6 (Int32.toNatClampNeg l2) (S.2.1 40 (Int32.toNatClampNeg (S.1 56)))).1 56) + 1)) else none) else none)))
def F241_136f : Nat → Nat → Int32 → mS → Option (Unit × mS)
  | 0, _, _, _ => none
  | n + 1, c, l2, S => if c = 0 then F241_136b0 (F241_136f n) n l2 S else F241_136b2 (F241_136f n) n l2 S
theorem F241_136e0 (n : Nat) (l2 : Int32) (S : mS) : F241_136f (n + 1) 0 l2 S = F241_136b0 (F241_136f n) n l2 S := if_pos rfl
theorem F241_136e2 (n : Nat) (l2 : Int32) (S : mS) : F241_136f (n + 1) 2 l2 S = F241_136b2 (F241_136f n) n l2 S := if_neg (by decide)
def F241_136 (n : Nat)  (S : mS) : Option (Unit × mS) := F241_136f n 0 0 S
set_option maxRecDepth 20000 in
set_option maxHeartbeats 2000000 in
theorem F241_136l {xs : Nat → Int32} {L9 d : Nat} {h : AmH} {Q : Option Value → AmH → Prop} {r0 : Unit} {S0 : mS} (hh : 172 ≤ h.2.1) (hQ : Q none (mst S0 h)) : ∀ n : Nat, (∀ (l2 : Int32) (S : mS), F241_136f n 0 l2 S = some (r0, S0) → Go (am_X xs L9) (d + 0) 241 0 [.ref 130, .ref 136, .float 0] [] (mst S h) Q) ∧ (∀ (l2 : Int32) (S : mS), F241_136f n 2 l2 S = some (r0, S0) → Go (am_X xs L9) (d + 0) 241 2 [.ref 130, .ref 136, .int l2] [] (mst S h) Q) := by
  intro n
  induction n with
  | zero => exact ⟨fun l2 S hf => (by cases hf), fun l2 S hf => (by cases hf)⟩
  | succ n ih =>
    refine ⟨?_, ?_⟩
    · intro l2 S hf
      rw [F241_136e0] at hf
      unfold F241_136b0 at hf
      refine r_iconst (v := 0) fe_241_0 (by decide) ?_
      refine r_istore_n fe_241_1 (Nat.le_of_ble_eq_true rfl) rfl ?_
      refine go_weak (L0 := [.ref 130, .ref 136, .int 0]) (lwk_c (Or.inl rfl) (lwk_c (Or.inl rfl) (lwk_c (Or.inl rfl) (lwk_rf [])))) ?_
      exact ih.2 0 S hf
    · intro l2 S hf
      rw [F241_136e2] at hf
      unfold F241_136b2 at hf
      refine r_iload_n fe_241_2 rfl ?_
      refine r_aload_n fe_241_3 rfl ?_
      refine r_alen (v := 6) fe_241_4 m_c_6 (m_lt hh (by decide)) (by decide) (by decide) ?_
      by_cases hb1 : am_ic .ge l2 6 = true
      · rw [if_pos hb1] at hf
        refine r_ic_t (t := 58) fe_241_5 (by decide) hb1 ?_
        refine r_vret fe_241_58 ?_
        exact dfin (P := fun _ T => Q none (mst T h)) hf hQ
      · rw [if_neg hb1] at hf
        refine r_ic_f (t := 58) fe_241_5 (by decide) (Bool.eq_false_iff.mpr hb1) ?_
        refine r_aload_n fe_241_8 rfl ?_
        refine mr_getf hh fe_241_9 lf_12_541 rfl ?_
        by_cases hb2 : am_if .eq (S.1 57) = true
        · rw [if_pos hb2] at hf
          refine r_if_t (t := 30) fe_241_12 (by decide) hb2 ?_
          refine r_aload_n fe_241_30 rfl ?_
          refine mr_getf hh fe_241_31 lf_12_133 rfl ?_
          refine r_aload_n fe_241_34 rfl ?_
          refine mr_getf hh fe_241_35 lf_12_544 rfl ?_
          refine r_aload_n fe_241_38 rfl ?_
          refine r_iload_n fe_241_39 rfl ?_
          by_cases hg3 : ¬ (l2 < 0 ∨ 6 ≤ (l2).toNatClampNeg)
          rotate_left
          · rw [if_neg hg3] at hf; cases hf
          rw [if_pos hg3] at hf
          refine r_iald (j := (Int32.toNatClampNeg l2)) (v := S.2.1 6 (Int32.toNatClampNeg l2)) fe_241_40 m_c_6 (m_lt hh (by decide)) (fun z => hg3 (Or.inl z)) rfl (fun z => hg3 (Or.inr z)) rfl ?_
          by_cases hg4 : ¬ ((S.1 56) < 0 ∨ 12500 ≤ ((S.1 56)).toNatClampNeg)
          rotate_left
          · rw [if_neg hg4] at hf; cases hf
          rw [if_pos hg4] at hf
          refine mr_iast (k := 40) (n := 12500) (j := (Int32.toNatClampNeg (S.1 56))) hh fe_241_41 rfl (by decide) (by decide) rfl rfl (fun z => hg4 (Or.inl z)) rfl (fun z => hg4 (Or.inr z)) ?_
          refine r_aload_n fe_241_42 rfl ?_
          refine r_dup fe_241_43 rfl ?_
          refine mr_getf hh fe_241_44 lf_12_544 rfl ?_
          refine r_iconst (v := 1) fe_241_47 (by decide) ?_
          refine r_iadd (v := (((m_sA S 40 (Int32.toNatClampNeg (S.1 56)) (S.2.1 6 (Int32.toNatClampNeg l2))).1 56) + 1)) fe_241_48 rfl ?_
          refine mr_putf hh fe_241_49 lf_12_544 (m_f_56 _ _) (by decide) rfl rfl rfl ?_
          refine r_iinc (v := (l2 + 1)) fe_241_52 rfl rfl rfl ?_
          refine r_goto (t := 2) fe_241_55 (by decide) ?_
          refine go_weak (L0 := [.ref 130, .ref 136, .int (l2 + 1)]) (lwk_c (Or.inl rfl) (lwk_c (Or.inl rfl) (lwk_c (Or.inl rfl) (lwk_rf [])))) ?_
          exact ih.2 (l2 + 1) (m_sI (m_sA S 40 (Int32.toNatClampNeg (S.1 56)) (S.2.1 6 (Int32.toNatClampNeg l2))) 56 (((m_sA S 40 (Int32.toNatClampNeg (S.1 56)) (S.2.1 6 (Int32.toNatClampNeg l2))).1 56) + 1)) hf
        · rw [if_neg hb2] at hf
          refine r_if_f (t := 30) fe_241_12 (by decide) (Bool.eq_false_iff.mpr hb2) ?_
          refine r_aload_n fe_241_15 rfl ?_
          refine r_iload_n fe_241_16 rfl ?_
          refine r_aload_n fe_241_17 rfl ?_
          refine mr_getf hh fe_241_18 lf_12_133 rfl ?_
          refine r_aload_n fe_241_21 rfl ?_
          refine mr_getf hh fe_241_22 lf_12_544 rfl ?_
          by_cases hg5 : ¬ ((S.1 56) < 0 ∨ 12500 ≤ ((S.1 56)).toNatClampNeg)
          rotate_left
          · rw [if_neg hg5] at hf; cases hf
          rw [if_pos hg5] at hf
          refine r_iald (j := (Int32.toNatClampNeg (S.1 56))) (v := S.2.1 40 (Int32.toNatClampNeg (S.1 56))) fe_241_25 m_c_40 (m_lt hh (by decide)) (fun z => hg5 (Or.inl z)) rfl (fun z => hg5 (Or.inr z)) rfl ?_
          by_cases hg6 : ¬ (l2 < 0 ∨ 6 ≤ (l2).toNatClampNeg)
          rotate_left
          · rw [if_neg hg6] at hf; cases hf
          rw [if_pos hg6] at hf
          refine mr_iast (k := 6) (n := 6) (j := (Int32.toNatClampNeg l2)) hh fe_241_26 rfl (by decide) (by decide) rfl rfl (fun z => hg6 (Or.inl z)) rfl (fun z => hg6 (Or.inr z)) ?_
          refine r_goto (t := 42) fe_241_27 (by decide) ?_
          refine r_aload_n fe_241_42 rfl ?_
          refine r_dup fe_241_43 rfl ?_
          refine mr_getf hh fe_241_44 lf_12_544 rfl ?_
          refine r_iconst (v := 1) fe_241_47 (by decide) ?_
          refine r_iadd (v := (((m_sA S 6 (Int32.toNatClampNeg l2) (S.2.1 40 (Int32.toNatClampNeg (S.1 56)))).1 56) + 1)) fe_241_48 rfl ?_
          refine mr_putf hh fe_241_49 lf_12_544 (m_f_56 _ _) (by decide) rfl rfl rfl ?_
          refine r_iinc (v := (l2 + 1)) fe_241_52 rfl rfl rfl ?_
          refine r_goto (t := 2) fe_241_55 (by decide) ?_
          refine go_weak (L0 := [.ref 130, .ref 136, .int (l2 + 1)]) (lwk_c (Or.inl rfl) (lwk_c (Or.inl rfl) (lwk_c (Or.inl rfl) (lwk_rf [])))) ?_
          exact ih.2 (l2 + 1) (m_sI (m_sA S 6 (Int32.toNatClampNeg l2) (S.2.1 40 (Int32.toNatClampNeg (S.1 56)))) 56 (((m_sA S 6 (Int32.toNatClampNeg l2) (S.2.1 40 (Int32.toNatClampNeg (S.1 56)))).1 56) + 1)) hf
theorem F241_136c {xs : Nat → Int32} {L9 d n : Nat} {h : AmH} {Q : Option Value → AmH → Prop} {r0 : Unit} {S0 S : mS}  (hh : 172 ≤ h.2.1) (hf : F241_136 n  S = some (r0, S0)) (hQ : Q none (mst S0 h)) : Ca (am_X xs L9) (d + 0) 241 [.ref 130, .ref 136] (mst S h) Q := (F241_136l hh hQ n).1 0 S hf
def F241_137b0 (F : Nat → Int32 → mS → Option (Unit × mS)) (n : Nat) (l2 : Int32) (S : mS) : Option (Unit × mS) := F 2 0 S
def F241_137b2 (F : Nat → Int32 → mS → Option (Unit × mS)) (n : Nat) (l2 : Int32) (S : mS) : Option (Unit × mS) := (if am_ic .ge l2 4 = true then some ((), S) else (if am_if .eq (S.1 57) = true then (if ¬ (l2 < 0 ∨ 4 ≤ (l2).toNatClampNeg) then (if ¬ ((S.1 56) < 0 ∨ 12500 ≤ ((S.1 56)).toNatClampNeg) then F 2 (l2 + 1) (m_sI (m_sA S 40 (Int32.toNatClampNeg (S.1 56)) (S.2.1 7 (Int32.toNatClampNeg l2))) 56 (((m_sA S 40 (Int32.toNatClampNeg (S.1 56)) (S.2.1 7 (Int32.toNatClampNeg l2))).1 56) + 1)) else none) else none) else (if ¬ ((S.1 56) < 0 ∨ 12500 ≤ ((S.1 56)).toNatClampNeg) then (if ¬ (l2 < 0 ∨ 4 ≤ (l2).toNatClampNeg) then F 2 (l2 + 1) (m_sI (m_sA S 7 (Int32.toNatClampNeg l2) (S.2.1 40 (Int32.toNatClampNeg (S.1 56)))) 56 (((m_sA S 7 (Int32.toNatClampNeg l2) (S.2.1 40 (Int32.toNatClampNeg (S.1 56)))).1 56) + 1)) else none) else none)))
def F241_137f : Nat → Nat → Int32 → mS → Option (Unit × mS)
  | 0, _, _, _ => none
  | n + 1, c, l2, S => if c = 0 then F241_137b0 (F241_137f n) n l2 S else F241_137b2 (F241_137f n) n l2 S
theorem F241_137e0 (n : Nat) (l2 : Int32) (S : mS) : F241_137f (n + 1) 0 l2 S = F241_137b0 (F241_137f n) n l2 S := if_pos rfl
theorem F241_137e2 (n : Nat) (l2 : Int32) (S : mS) : F241_137f (n + 1) 2 l2 S = F241_137b2 (F241_137f n) n l2 S := if_neg (by decide)
def F241_137 (n : Nat)  (S : mS) : Option (Unit × mS) := F241_137f n 0 0 S
set_option maxRecDepth 20000 in
set_option maxHeartbeats 2000000 in
theorem F241_137l {xs : Nat → Int32} {L9 d : Nat} {h : AmH} {Q : Option Value → AmH → Prop} {r0 : Unit} {S0 : mS} (hh : 172 ≤ h.2.1) (hQ : Q none (mst S0 h)) : ∀ n : Nat, (∀ (l2 : Int32) (S : mS), F241_137f n 0 l2 S = some (r0, S0) → Go (am_X xs L9) (d + 0) 241 0 [.ref 130, .ref 137, .float 0] [] (mst S h) Q) ∧ (∀ (l2 : Int32) (S : mS), F241_137f n 2 l2 S = some (r0, S0) → Go (am_X xs L9) (d + 0) 241 2 [.ref 130, .ref 137, .int l2] [] (mst S h) Q) := by
  intro n
  induction n with
  | zero => exact ⟨fun l2 S hf => (by cases hf), fun l2 S hf => (by cases hf)⟩
  | succ n ih =>
    refine ⟨?_, ?_⟩
    · intro l2 S hf
      rw [F241_137e0] at hf
      unfold F241_137b0 at hf
      refine r_iconst (v := 0) fe_241_0 (by decide) ?_
      refine r_istore_n fe_241_1 (Nat.le_of_ble_eq_true rfl) rfl ?_
      refine go_weak (L0 := [.ref 130, .ref 137, .int 0]) (lwk_c (Or.inl rfl) (lwk_c (Or.inl rfl) (lwk_c (Or.inl rfl) (lwk_rf [])))) ?_
      exact ih.2 0 S hf
    · intro l2 S hf
      rw [F241_137e2] at hf
      unfold F241_137b2 at hf
      refine r_iload_n fe_241_2 rfl ?_
      refine r_aload_n fe_241_3 rfl ?_
      refine r_alen (v := 4) fe_241_4 m_c_7 (m_lt hh (by decide)) (by decide) (by decide) ?_
      by_cases hb1 : am_ic .ge l2 4 = true
      · rw [if_pos hb1] at hf
        refine r_ic_t (t := 58) fe_241_5 (by decide) hb1 ?_
        refine r_vret fe_241_58 ?_
        exact dfin (P := fun _ T => Q none (mst T h)) hf hQ
      · rw [if_neg hb1] at hf
        refine r_ic_f (t := 58) fe_241_5 (by decide) (Bool.eq_false_iff.mpr hb1) ?_
        refine r_aload_n fe_241_8 rfl ?_
        refine mr_getf hh fe_241_9 lf_12_541 rfl ?_
        by_cases hb2 : am_if .eq (S.1 57) = true
        · rw [if_pos hb2] at hf
          refine r_if_t (t := 30) fe_241_12 (by decide) hb2 ?_
          refine r_aload_n fe_241_30 rfl ?_
          refine mr_getf hh fe_241_31 lf_12_133 rfl ?_
          refine r_aload_n fe_241_34 rfl ?_
          refine mr_getf hh fe_241_35 lf_12_544 rfl ?_
          refine r_aload_n fe_241_38 rfl ?_
          refine r_iload_n fe_241_39 rfl ?_
          by_cases hg3 : ¬ (l2 < 0 ∨ 4 ≤ (l2).toNatClampNeg)
          rotate_left
          · rw [if_neg hg3] at hf; cases hf
          rw [if_pos hg3] at hf
          refine r_iald (j := (Int32.toNatClampNeg l2)) (v := S.2.1 7 (Int32.toNatClampNeg l2)) fe_241_40 m_c_7 (m_lt hh (by decide)) (fun z => hg3 (Or.inl z)) rfl (fun z => hg3 (Or.inr z)) rfl ?_
          by_cases hg4 : ¬ ((S.1 56) < 0 ∨ 12500 ≤ ((S.1 56)).toNatClampNeg)
          rotate_left
          · rw [if_neg hg4] at hf; cases hf
          rw [if_pos hg4] at hf
          refine mr_iast (k := 40) (n := 12500) (j := (Int32.toNatClampNeg (S.1 56))) hh fe_241_41 rfl (by decide) (by decide) rfl rfl (fun z => hg4 (Or.inl z)) rfl (fun z => hg4 (Or.inr z)) ?_
          refine r_aload_n fe_241_42 rfl ?_
          refine r_dup fe_241_43 rfl ?_
          refine mr_getf hh fe_241_44 lf_12_544 rfl ?_
          refine r_iconst (v := 1) fe_241_47 (by decide) ?_
          refine r_iadd (v := (((m_sA S 40 (Int32.toNatClampNeg (S.1 56)) (S.2.1 7 (Int32.toNatClampNeg l2))).1 56) + 1)) fe_241_48 rfl ?_
          refine mr_putf hh fe_241_49 lf_12_544 (m_f_56 _ _) (by decide) rfl rfl rfl ?_
          refine r_iinc (v := (l2 + 1)) fe_241_52 rfl rfl rfl ?_
          refine r_goto (t := 2) fe_241_55 (by decide) ?_
          refine go_weak (L0 := [.ref 130, .ref 137, .int (l2 + 1)]) (lwk_c (Or.inl rfl) (lwk_c (Or.inl rfl) (lwk_c (Or.inl rfl) (lwk_rf [])))) ?_
          exact ih.2 (l2 + 1) (m_sI (m_sA S 40 (Int32.toNatClampNeg (S.1 56)) (S.2.1 7 (Int32.toNatClampNeg l2))) 56 (((m_sA S 40 (Int32.toNatClampNeg (S.1 56)) (S.2.1 7 (Int32.toNatClampNeg l2))).1 56) + 1)) hf
        · rw [if_neg hb2] at hf
          refine r_if_f (t := 30) fe_241_12 (by decide) (Bool.eq_false_iff.mpr hb2) ?_
          refine r_aload_n fe_241_15 rfl ?_
          refine r_iload_n fe_241_16 rfl ?_
          refine r_aload_n fe_241_17 rfl ?_
          refine mr_getf hh fe_241_18 lf_12_133 rfl ?_
          refine r_aload_n fe_241_21 rfl ?_
          refine mr_getf hh fe_241_22 lf_12_544 rfl ?_
          by_cases hg5 : ¬ ((S.1 56) < 0 ∨ 12500 ≤ ((S.1 56)).toNatClampNeg)
          rotate_left
          · rw [if_neg hg5] at hf; cases hf
          rw [if_pos hg5] at hf
          refine r_iald (j := (Int32.toNatClampNeg (S.1 56))) (v := S.2.1 40 (Int32.toNatClampNeg (S.1 56))) fe_241_25 m_c_40 (m_lt hh (by decide)) (fun z => hg5 (Or.inl z)) rfl (fun z => hg5 (Or.inr z)) rfl ?_
          by_cases hg6 : ¬ (l2 < 0 ∨ 4 ≤ (l2).toNatClampNeg)
          rotate_left
          · rw [if_neg hg6] at hf; cases hf
          rw [if_pos hg6] at hf
          refine mr_iast (k := 7) (n := 4) (j := (Int32.toNatClampNeg l2)) hh fe_241_26 rfl (by decide) (by decide) rfl rfl (fun z => hg6 (Or.inl z)) rfl (fun z => hg6 (Or.inr z)) ?_
          refine r_goto (t := 42) fe_241_27 (by decide) ?_
          refine r_aload_n fe_241_42 rfl ?_
          refine r_dup fe_241_43 rfl ?_
          refine mr_getf hh fe_241_44 lf_12_544 rfl ?_
          refine r_iconst (v := 1) fe_241_47 (by decide) ?_
          refine r_iadd (v := (((m_sA S 7 (Int32.toNatClampNeg l2) (S.2.1 40 (Int32.toNatClampNeg (S.1 56)))).1 56) + 1)) fe_241_48 rfl ?_
          refine mr_putf hh fe_241_49 lf_12_544 (m_f_56 _ _) (by decide) rfl rfl rfl ?_
          refine r_iinc (v := (l2 + 1)) fe_241_52 rfl rfl rfl ?_
          refine r_goto (t := 2) fe_241_55 (by decide) ?_
          refine go_weak (L0 := [.ref 130, .ref 137, .int (l2 + 1)]) (lwk_c (Or.inl rfl) (lwk_c (Or.inl rfl) (lwk_c (Or.inl rfl) (lwk_rf [])))) ?_
          exact ih.2 (l2 + 1) (m_sI (m_sA S 7 (Int32.toNatClampNeg l2) (S.2.1 40 (Int32.toNatClampNeg (S.1 56)))) 56 (((m_sA S 7 (Int32.toNatClampNeg l2) (S.2.1 40 (Int32.toNatClampNeg (S.1 56)))).1 56) + 1)) hf
theorem F241_137c {xs : Nat → Int32} {L9 d n : Nat} {h : AmH} {Q : Option Value → AmH → Prop} {r0 : Unit} {S0 S : mS}  (hh : 172 ≤ h.2.1) (hf : F241_137 n  S = some (r0, S0)) (hQ : Q none (mst S0 h)) : Ca (am_X xs L9) (d + 0) 241 [.ref 130, .ref 137] (mst S h) Q := (F241_137l hh hQ n).1 0 S hf
def F241_138b0 (F : Nat → Int32 → mS → Option (Unit × mS)) (n : Nat) (l2 : Int32) (S : mS) : Option (Unit × mS) := F 2 0 S
def F241_138b2 (F : Nat → Int32 → mS → Option (Unit × mS)) (n : Nat) (l2 : Int32) (S : mS) : Option (Unit × mS) := (if am_ic .ge l2 13 = true then some ((), S) else (if am_if .eq (S.1 57) = true then (if ¬ (l2 < 0 ∨ 13 ≤ (l2).toNatClampNeg) then (if ¬ ((S.1 56) < 0 ∨ 12500 ≤ ((S.1 56)).toNatClampNeg) then F 2 (l2 + 1) (m_sI (m_sA S 40 (Int32.toNatClampNeg (S.1 56)) (S.2.1 8 (Int32.toNatClampNeg l2))) 56 (((m_sA S 40 (Int32.toNatClampNeg (S.1 56)) (S.2.1 8 (Int32.toNatClampNeg l2))).1 56) + 1)) else none) else none) else (if ¬ ((S.1 56) < 0 ∨ 12500 ≤ ((S.1 56)).toNatClampNeg) then (if ¬ (l2 < 0 ∨ 13 ≤ (l2).toNatClampNeg) then F 2 (l2 + 1) (m_sI (m_sA S 8 (Int32.toNatClampNeg l2) (S.2.1 40 (Int32.toNatClampNeg (S.1 56)))) 56 (((m_sA S 8 (Int32.toNatClampNeg l2) (S.2.1 40 (Int32.toNatClampNeg (S.1 56)))).1 56) + 1)) else none) else none)))
def F241_138f : Nat → Nat → Int32 → mS → Option (Unit × mS)
  | 0, _, _, _ => none
  | n + 1, c, l2, S => if c = 0 then F241_138b0 (F241_138f n) n l2 S else F241_138b2 (F241_138f n) n l2 S
theorem F241_138e0 (n : Nat) (l2 : Int32) (S : mS) : F241_138f (n + 1) 0 l2 S = F241_138b0 (F241_138f n) n l2 S := if_pos rfl
theorem F241_138e2 (n : Nat) (l2 : Int32) (S : mS) : F241_138f (n + 1) 2 l2 S = F241_138b2 (F241_138f n) n l2 S := if_neg (by decide)
def F241_138 (n : Nat)  (S : mS) : Option (Unit × mS) := F241_138f n 0 0 S
set_option maxRecDepth 20000 in
set_option maxHeartbeats 2000000 in
theorem F241_138l {xs : Nat → Int32} {L9 d : Nat} {h : AmH} {Q : Option Value → AmH → Prop} {r0 : Unit} {S0 : mS} (hh : 172 ≤ h.2.1) (hQ : Q none (mst S0 h)) : ∀ n : Nat, (∀ (l2 : Int32) (S : mS), F241_138f n 0 l2 S = some (r0, S0) → Go (am_X xs L9) (d + 0) 241 0 [.ref 130, .ref 138, .float 0] [] (mst S h) Q) ∧ (∀ (l2 : Int32) (S : mS), F241_138f n 2 l2 S = some (r0, S0) → Go (am_X xs L9) (d + 0) 241 2 [.ref 130, .ref 138, .int l2] [] (mst S h) Q) := by
  intro n
  induction n with
  | zero => exact ⟨fun l2 S hf => (by cases hf), fun l2 S hf => (by cases hf)⟩
  | succ n ih =>
    refine ⟨?_, ?_⟩
    · intro l2 S hf
      rw [F241_138e0] at hf
      unfold F241_138b0 at hf
      refine r_iconst (v := 0) fe_241_0 (by decide) ?_
      refine r_istore_n fe_241_1 (Nat.le_of_ble_eq_true rfl) rfl ?_
      refine go_weak (L0 := [.ref 130, .ref 138, .int 0]) (lwk_c (Or.inl rfl) (lwk_c (Or.inl rfl) (lwk_c (Or.inl rfl) (lwk_rf [])))) ?_
      exact ih.2 0 S hf
    · intro l2 S hf
      rw [F241_138e2] at hf
      unfold F241_138b2 at hf
      refine r_iload_n fe_241_2 rfl ?_
      refine r_aload_n fe_241_3 rfl ?_
      refine r_alen (v := 13) fe_241_4 m_c_8 (m_lt hh (by decide)) (by decide) (by decide) ?_
      by_cases hb1 : am_ic .ge l2 13 = true
      · rw [if_pos hb1] at hf
        refine r_ic_t (t := 58) fe_241_5 (by decide) hb1 ?_
        refine r_vret fe_241_58 ?_
        exact dfin (P := fun _ T => Q none (mst T h)) hf hQ
      · rw [if_neg hb1] at hf
        refine r_ic_f (t := 58) fe_241_5 (by decide) (Bool.eq_false_iff.mpr hb1) ?_
        refine r_aload_n fe_241_8 rfl ?_
        refine mr_getf hh fe_241_9 lf_12_541 rfl ?_
        by_cases hb2 : am_if .eq (S.1 57) = true
        · rw [if_pos hb2] at hf
          refine r_if_t (t := 30) fe_241_12 (by decide) hb2 ?_
          refine r_aload_n fe_241_30 rfl ?_
          refine mr_getf hh fe_241_31 lf_12_133 rfl ?_
          refine r_aload_n fe_241_34 rfl ?_
          refine mr_getf hh fe_241_35 lf_12_544 rfl ?_
          refine r_aload_n fe_241_38 rfl ?_
          refine r_iload_n fe_241_39 rfl ?_
          by_cases hg3 : ¬ (l2 < 0 ∨ 13 ≤ (l2).toNatClampNeg)
          rotate_left
          · rw [if_neg hg3] at hf; cases hf
          rw [if_pos hg3] at hf
          refine r_iald (j := (Int32.toNatClampNeg l2)) (v := S.2.1 8 (Int32.toNatClampNeg l2)) fe_241_40 m_c_8 (m_lt hh (by decide)) (fun z => hg3 (Or.inl z)) rfl (fun z => hg3 (Or.inr z)) rfl ?_
          by_cases hg4 : ¬ ((S.1 56) < 0 ∨ 12500 ≤ ((S.1 56)).toNatClampNeg)
          rotate_left
          · rw [if_neg hg4] at hf; cases hf
          rw [if_pos hg4] at hf
          refine mr_iast (k := 40) (n := 12500) (j := (Int32.toNatClampNeg (S.1 56))) hh fe_241_41 rfl (by decide) (by decide) rfl rfl (fun z => hg4 (Or.inl z)) rfl (fun z => hg4 (Or.inr z)) ?_
          refine r_aload_n fe_241_42 rfl ?_
          refine r_dup fe_241_43 rfl ?_
          refine mr_getf hh fe_241_44 lf_12_544 rfl ?_
          refine r_iconst (v := 1) fe_241_47 (by decide) ?_
          refine r_iadd (v := (((m_sA S 40 (Int32.toNatClampNeg (S.1 56)) (S.2.1 8 (Int32.toNatClampNeg l2))).1 56) + 1)) fe_241_48 rfl ?_
          refine mr_putf hh fe_241_49 lf_12_544 (m_f_56 _ _) (by decide) rfl rfl rfl ?_
          refine r_iinc (v := (l2 + 1)) fe_241_52 rfl rfl rfl ?_
          refine r_goto (t := 2) fe_241_55 (by decide) ?_
          refine go_weak (L0 := [.ref 130, .ref 138, .int (l2 + 1)]) (lwk_c (Or.inl rfl) (lwk_c (Or.inl rfl) (lwk_c (Or.inl rfl) (lwk_rf [])))) ?_
          exact ih.2 (l2 + 1) (m_sI (m_sA S 40 (Int32.toNatClampNeg (S.1 56)) (S.2.1 8 (Int32.toNatClampNeg l2))) 56 (((m_sA S 40 (Int32.toNatClampNeg (S.1 56)) (S.2.1 8 (Int32.toNatClampNeg l2))).1 56) + 1)) hf
        · rw [if_neg hb2] at hf
          refine r_if_f (t := 30) fe_241_12 (by decide) (Bool.eq_false_iff.mpr hb2) ?_
          refine r_aload_n fe_241_15 rfl ?_
          refine r_iload_n fe_241_16 rfl ?_
          refine r_aload_n fe_241_17 rfl ?_
          refine mr_getf hh fe_241_18 lf_12_133 rfl ?_
          refine r_aload_n fe_241_21 rfl ?_
          refine mr_getf hh fe_241_22 lf_12_544 rfl ?_
          by_cases hg5 : ¬ ((S.1 56) < 0 ∨ 12500 ≤ ((S.1 56)).toNatClampNeg)
          rotate_left
          · rw [if_neg hg5] at hf; cases hf
          rw [if_pos hg5] at hf
          refine r_iald (j := (Int32.toNatClampNeg (S.1 56))) (v := S.2.1 40 (Int32.toNatClampNeg (S.1 56))) fe_241_25 m_c_40 (m_lt hh (by decide)) (fun z => hg5 (Or.inl z)) rfl (fun z => hg5 (Or.inr z)) rfl ?_
          by_cases hg6 : ¬ (l2 < 0 ∨ 13 ≤ (l2).toNatClampNeg)
          rotate_left
          · rw [if_neg hg6] at hf; cases hf
          rw [if_pos hg6] at hf
          refine mr_iast (k := 8) (n := 13) (j := (Int32.toNatClampNeg l2)) hh fe_241_26 rfl (by decide) (by decide) rfl rfl (fun z => hg6 (Or.inl z)) rfl (fun z => hg6 (Or.inr z)) ?_
          refine r_goto (t := 42) fe_241_27 (by decide) ?_
          refine r_aload_n fe_241_42 rfl ?_
          refine r_dup fe_241_43 rfl ?_
          refine mr_getf hh fe_241_44 lf_12_544 rfl ?_
          refine r_iconst (v := 1) fe_241_47 (by decide) ?_
          refine r_iadd (v := (((m_sA S 8 (Int32.toNatClampNeg l2) (S.2.1 40 (Int32.toNatClampNeg (S.1 56)))).1 56) + 1)) fe_241_48 rfl ?_
          refine mr_putf hh fe_241_49 lf_12_544 (m_f_56 _ _) (by decide) rfl rfl rfl ?_
          refine r_iinc (v := (l2 + 1)) fe_241_52 rfl rfl rfl ?_
          refine r_goto (t := 2) fe_241_55 (by decide) ?_
          refine go_weak (L0 := [.ref 130, .ref 138, .int (l2 + 1)]) (lwk_c (Or.inl rfl) (lwk_c (Or.inl rfl) (lwk_c (Or.inl rfl) (lwk_rf [])))) ?_
          exact ih.2 (l2 + 1) (m_sI (m_sA S 8 (Int32.toNatClampNeg l2) (S.2.1 40 (Int32.toNatClampNeg (S.1 56)))) 56 (((m_sA S 8 (Int32.toNatClampNeg l2) (S.2.1 40 (Int32.toNatClampNeg (S.1 56)))).1 56) + 1)) hf
theorem F241_138c {xs : Nat → Int32} {L9 d n : Nat} {h : AmH} {Q : Option Value → AmH → Prop} {r0 : Unit} {S0 S : mS}  (hh : 172 ≤ h.2.1) (hf : F241_138 n  S = some (r0, S0)) (hQ : Q none (mst S0 h)) : Ca (am_X xs L9) (d + 0) 241 [.ref 130, .ref 138] (mst S h) Q := (F241_138l hh hQ n).1 0 S hf
def F241_139b0 (F : Nat → Int32 → mS → Option (Unit × mS)) (n : Nat) (l2 : Int32) (S : mS) : Option (Unit × mS) := F 2 0 S
def F241_139b2 (F : Nat → Int32 → mS → Option (Unit × mS)) (n : Nat) (l2 : Int32) (S : mS) : Option (Unit × mS) := (if am_ic .ge l2 13 = true then some ((), S) else (if am_if .eq (S.1 57) = true then (if ¬ (l2 < 0 ∨ 13 ≤ (l2).toNatClampNeg) then (if ¬ ((S.1 56) < 0 ∨ 12500 ≤ ((S.1 56)).toNatClampNeg) then F 2 (l2 + 1) (m_sI (m_sA S 40 (Int32.toNatClampNeg (S.1 56)) (S.2.1 9 (Int32.toNatClampNeg l2))) 56 (((m_sA S 40 (Int32.toNatClampNeg (S.1 56)) (S.2.1 9 (Int32.toNatClampNeg l2))).1 56) + 1)) else none) else none) else (if ¬ ((S.1 56) < 0 ∨ 12500 ≤ ((S.1 56)).toNatClampNeg) then (if ¬ (l2 < 0 ∨ 13 ≤ (l2).toNatClampNeg) then F 2 (l2 + 1) (m_sI (m_sA S 9 (Int32.toNatClampNeg l2) (S.2.1 40 (Int32.toNatClampNeg (S.1 56)))) 56 (((m_sA S 9 (Int32.toNatClampNeg l2) (S.2.1 40 (Int32.toNatClampNeg (S.1 56)))).1 56) + 1)) else none) else none)))
def F241_139f : Nat → Nat → Int32 → mS → Option (Unit × mS)
  | 0, _, _, _ => none
  | n + 1, c, l2, S => if c = 0 then F241_139b0 (F241_139f n) n l2 S else F241_139b2 (F241_139f n) n l2 S
theorem F241_139e0 (n : Nat) (l2 : Int32) (S : mS) : F241_139f (n + 1) 0 l2 S = F241_139b0 (F241_139f n) n l2 S := if_pos rfl
theorem F241_139e2 (n : Nat) (l2 : Int32) (S : mS) : F241_139f (n + 1) 2 l2 S = F241_139b2 (F241_139f n) n l2 S := if_neg (by decide)
def F241_139 (n : Nat)  (S : mS) : Option (Unit × mS) := F241_139f n 0 0 S
set_option maxRecDepth 20000 in
set_option maxHeartbeats 2000000 in
theorem F241_139l {xs : Nat → Int32} {L9 d : Nat} {h : AmH} {Q : Option Value → AmH → Prop} {r0 : Unit} {S0 : mS} (hh : 172 ≤ h.2.1) (hQ : Q none (mst S0 h)) : ∀ n : Nat, (∀ (l2 : Int32) (S : mS), F241_139f n 0 l2 S = some (r0, S0) → Go (am_X xs L9) (d + 0) 241 0 [.ref 130, .ref 139, .float 0] [] (mst S h) Q) ∧ (∀ (l2 : Int32) (S : mS), F241_139f n 2 l2 S = some (r0, S0) → Go (am_X xs L9) (d + 0) 241 2 [.ref 130, .ref 139, .int l2] [] (mst S h) Q) := by
  intro n
  induction n with
  | zero => exact ⟨fun l2 S hf => (by cases hf), fun l2 S hf => (by cases hf)⟩
  | succ n ih =>
    refine ⟨?_, ?_⟩
    · intro l2 S hf
      rw [F241_139e0] at hf
      unfold F241_139b0 at hf
      refine r_iconst (v := 0) fe_241_0 (by decide) ?_
      refine r_istore_n fe_241_1 (Nat.le_of_ble_eq_true rfl) rfl ?_
      refine go_weak (L0 := [.ref 130, .ref 139, .int 0]) (lwk_c (Or.inl rfl) (lwk_c (Or.inl rfl) (lwk_c (Or.inl rfl) (lwk_rf [])))) ?_
      exact ih.2 0 S hf
    · intro l2 S hf
      rw [F241_139e2] at hf
      unfold F241_139b2 at hf
      refine r_iload_n fe_241_2 rfl ?_
      refine r_aload_n fe_241_3 rfl ?_
      refine r_alen (v := 13) fe_241_4 m_c_9 (m_lt hh (by decide)) (by decide) (by decide) ?_
      by_cases hb1 : am_ic .ge l2 13 = true
      · rw [if_pos hb1] at hf
        refine r_ic_t (t := 58) fe_241_5 (by decide) hb1 ?_
        refine r_vret fe_241_58 ?_
        exact dfin (P := fun _ T => Q none (mst T h)) hf hQ
      · rw [if_neg hb1] at hf
        refine r_ic_f (t := 58) fe_241_5 (by decide) (Bool.eq_false_iff.mpr hb1) ?_
        refine r_aload_n fe_241_8 rfl ?_
        refine mr_getf hh fe_241_9 lf_12_541 rfl ?_
        by_cases hb2 : am_if .eq (S.1 57) = true
        · rw [if_pos hb2] at hf
          refine r_if_t (t := 30) fe_241_12 (by decide) hb2 ?_
          refine r_aload_n fe_241_30 rfl ?_
          refine mr_getf hh fe_241_31 lf_12_133 rfl ?_
          refine r_aload_n fe_241_34 rfl ?_
          refine mr_getf hh fe_241_35 lf_12_544 rfl ?_
          refine r_aload_n fe_241_38 rfl ?_
          refine r_iload_n fe_241_39 rfl ?_
          by_cases hg3 : ¬ (l2 < 0 ∨ 13 ≤ (l2).toNatClampNeg)
          rotate_left
          · rw [if_neg hg3] at hf; cases hf
          rw [if_pos hg3] at hf
          refine r_iald (j := (Int32.toNatClampNeg l2)) (v := S.2.1 9 (Int32.toNatClampNeg l2)) fe_241_40 m_c_9 (m_lt hh (by decide)) (fun z => hg3 (Or.inl z)) rfl (fun z => hg3 (Or.inr z)) rfl ?_
          by_cases hg4 : ¬ ((S.1 56) < 0 ∨ 12500 ≤ ((S.1 56)).toNatClampNeg)
          rotate_left
          · rw [if_neg hg4] at hf; cases hf
          rw [if_pos hg4] at hf
          refine mr_iast (k := 40) (n := 12500) (j := (Int32.toNatClampNeg (S.1 56))) hh fe_241_41 rfl (by decide) (by decide) rfl rfl (fun z => hg4 (Or.inl z)) rfl (fun z => hg4 (Or.inr z)) ?_
          refine r_aload_n fe_241_42 rfl ?_
          refine r_dup fe_241_43 rfl ?_
          refine mr_getf hh fe_241_44 lf_12_544 rfl ?_
          refine r_iconst (v := 1) fe_241_47 (by decide) ?_
          refine r_iadd (v := (((m_sA S 40 (Int32.toNatClampNeg (S.1 56)) (S.2.1 9 (Int32.toNatClampNeg l2))).1 56) + 1)) fe_241_48 rfl ?_
          refine mr_putf hh fe_241_49 lf_12_544 (m_f_56 _ _) (by decide) rfl rfl rfl ?_
          refine r_iinc (v := (l2 + 1)) fe_241_52 rfl rfl rfl ?_
          refine r_goto (t := 2) fe_241_55 (by decide) ?_
          refine go_weak (L0 := [.ref 130, .ref 139, .int (l2 + 1)]) (lwk_c (Or.inl rfl) (lwk_c (Or.inl rfl) (lwk_c (Or.inl rfl) (lwk_rf [])))) ?_
          exact ih.2 (l2 + 1) (m_sI (m_sA S 40 (Int32.toNatClampNeg (S.1 56)) (S.2.1 9 (Int32.toNatClampNeg l2))) 56 (((m_sA S 40 (Int32.toNatClampNeg (S.1 56)) (S.2.1 9 (Int32.toNatClampNeg l2))).1 56) + 1)) hf
        · rw [if_neg hb2] at hf
          refine r_if_f (t := 30) fe_241_12 (by decide) (Bool.eq_false_iff.mpr hb2) ?_
          refine r_aload_n fe_241_15 rfl ?_
          refine r_iload_n fe_241_16 rfl ?_
          refine r_aload_n fe_241_17 rfl ?_
          refine mr_getf hh fe_241_18 lf_12_133 rfl ?_
          refine r_aload_n fe_241_21 rfl ?_
          refine mr_getf hh fe_241_22 lf_12_544 rfl ?_
          by_cases hg5 : ¬ ((S.1 56) < 0 ∨ 12500 ≤ ((S.1 56)).toNatClampNeg)
          rotate_left
          · rw [if_neg hg5] at hf; cases hf
          rw [if_pos hg5] at hf
          refine r_iald (j := (Int32.toNatClampNeg (S.1 56))) (v := S.2.1 40 (Int32.toNatClampNeg (S.1 56))) fe_241_25 m_c_40 (m_lt hh (by decide)) (fun z => hg5 (Or.inl z)) rfl (fun z => hg5 (Or.inr z)) rfl ?_
          by_cases hg6 : ¬ (l2 < 0 ∨ 13 ≤ (l2).toNatClampNeg)
          rotate_left
          · rw [if_neg hg6] at hf; cases hf
          rw [if_pos hg6] at hf
          refine mr_iast (k := 9) (n := 13) (j := (Int32.toNatClampNeg l2)) hh fe_241_26 rfl (by decide) (by decide) rfl rfl (fun z => hg6 (Or.inl z)) rfl (fun z => hg6 (Or.inr z)) ?_
          refine r_goto (t := 42) fe_241_27 (by decide) ?_
          refine r_aload_n fe_241_42 rfl ?_
          refine r_dup fe_241_43 rfl ?_
          refine mr_getf hh fe_241_44 lf_12_544 rfl ?_
          refine r_iconst (v := 1) fe_241_47 (by decide) ?_
          refine r_iadd (v := (((m_sA S 9 (Int32.toNatClampNeg l2) (S.2.1 40 (Int32.toNatClampNeg (S.1 56)))).1 56) + 1)) fe_241_48 rfl ?_
          refine mr_putf hh fe_241_49 lf_12_544 (m_f_56 _ _) (by decide) rfl rfl rfl ?_
          refine r_iinc (v := (l2 + 1)) fe_241_52 rfl rfl rfl ?_
          refine r_goto (t := 2) fe_241_55 (by decide) ?_
          refine go_weak (L0 := [.ref 130, .ref 139, .int (l2 + 1)]) (lwk_c (Or.inl rfl) (lwk_c (Or.inl rfl) (lwk_c (Or.inl rfl) (lwk_rf [])))) ?_
          exact ih.2 (l2 + 1) (m_sI (m_sA S 9 (Int32.toNatClampNeg l2) (S.2.1 40 (Int32.toNatClampNeg (S.1 56)))) 56 (((m_sA S 9 (Int32.toNatClampNeg l2) (S.2.1 40 (Int32.toNatClampNeg (S.1 56)))).1 56) + 1)) hf
theorem F241_139c {xs : Nat → Int32} {L9 d n : Nat} {h : AmH} {Q : Option Value → AmH → Prop} {r0 : Unit} {S0 S : mS}  (hh : 172 ≤ h.2.1) (hf : F241_139 n  S = some (r0, S0)) (hQ : Q none (mst S0 h)) : Ca (am_X xs L9) (d + 0) 241 [.ref 130, .ref 139] (mst S h) Q := (F241_139l hh hQ n).1 0 S hf
def F241_140b0 (F : Nat → Int32 → mS → Option (Unit × mS)) (n : Nat) (l2 : Int32) (S : mS) : Option (Unit × mS) := F 2 0 S
def F241_140b2 (F : Nat → Int32 → mS → Option (Unit × mS)) (n : Nat) (l2 : Int32) (S : mS) : Option (Unit × mS) := (if am_ic .ge l2 13 = true then some ((), S) else (if am_if .eq (S.1 57) = true then (if ¬ (l2 < 0 ∨ 13 ≤ (l2).toNatClampNeg) then (if ¬ ((S.1 56) < 0 ∨ 12500 ≤ ((S.1 56)).toNatClampNeg) then F 2 (l2 + 1) (m_sI (m_sA S 40 (Int32.toNatClampNeg (S.1 56)) (S.2.1 10 (Int32.toNatClampNeg l2))) 56 (((m_sA S 40 (Int32.toNatClampNeg (S.1 56)) (S.2.1 10 (Int32.toNatClampNeg l2))).1 56) + 1)) else none) else none) else (if ¬ ((S.1 56) < 0 ∨ 12500 ≤ ((S.1 56)).toNatClampNeg) then (if ¬ (l2 < 0 ∨ 13 ≤ (l2).toNatClampNeg) then F 2 (l2 + 1) (m_sI (m_sA S 10 (Int32.toNatClampNeg l2) (S.2.1 40 (Int32.toNatClampNeg (S.1 56)))) 56 (((m_sA S 10 (Int32.toNatClampNeg l2) (S.2.1 40 (Int32.toNatClampNeg (S.1 56)))).1 56) + 1)) else none) else none)))
def F241_140f : Nat → Nat → Int32 → mS → Option (Unit × mS)
  | 0, _, _, _ => none
  | n + 1, c, l2, S => if c = 0 then F241_140b0 (F241_140f n) n l2 S else F241_140b2 (F241_140f n) n l2 S
theorem F241_140e0 (n : Nat) (l2 : Int32) (S : mS) : F241_140f (n + 1) 0 l2 S = F241_140b0 (F241_140f n) n l2 S := if_pos rfl
theorem F241_140e2 (n : Nat) (l2 : Int32) (S : mS) : F241_140f (n + 1) 2 l2 S = F241_140b2 (F241_140f n) n l2 S := if_neg (by decide)
def F241_140 (n : Nat)  (S : mS) : Option (Unit × mS) := F241_140f n 0 0 S
set_option maxRecDepth 20000 in
set_option maxHeartbeats 2000000 in
theorem F241_140l {xs : Nat → Int32} {L9 d : Nat} {h : AmH} {Q : Option Value → AmH → Prop} {r0 : Unit} {S0 : mS} (hh : 172 ≤ h.2.1) (hQ : Q none (mst S0 h)) : ∀ n : Nat, (∀ (l2 : Int32) (S : mS), F241_140f n 0 l2 S = some (r0, S0) → Go (am_X xs L9) (d + 0) 241 0 [.ref 130, .ref 140, .float 0] [] (mst S h) Q) ∧ (∀ (l2 : Int32) (S : mS), F241_140f n 2 l2 S = some (r0, S0) → Go (am_X xs L9) (d + 0) 241 2 [.ref 130, .ref 140, .int l2] [] (mst S h) Q) := by
  intro n
  induction n with
  | zero => exact ⟨fun l2 S hf => (by cases hf), fun l2 S hf => (by cases hf)⟩
  | succ n ih =>
    refine ⟨?_, ?_⟩
    · intro l2 S hf
      rw [F241_140e0] at hf
      unfold F241_140b0 at hf
      refine r_iconst (v := 0) fe_241_0 (by decide) ?_
      refine r_istore_n fe_241_1 (Nat.le_of_ble_eq_true rfl) rfl ?_
      refine go_weak (L0 := [.ref 130, .ref 140, .int 0]) (lwk_c (Or.inl rfl) (lwk_c (Or.inl rfl) (lwk_c (Or.inl rfl) (lwk_rf [])))) ?_
      exact ih.2 0 S hf
    · intro l2 S hf
      rw [F241_140e2] at hf
      unfold F241_140b2 at hf
      refine r_iload_n fe_241_2 rfl ?_
      refine r_aload_n fe_241_3 rfl ?_
      refine r_alen (v := 13) fe_241_4 m_c_10 (m_lt hh (by decide)) (by decide) (by decide) ?_
      by_cases hb1 : am_ic .ge l2 13 = true
      · rw [if_pos hb1] at hf
        refine r_ic_t (t := 58) fe_241_5 (by decide) hb1 ?_
        refine r_vret fe_241_58 ?_
        exact dfin (P := fun _ T => Q none (mst T h)) hf hQ
      · rw [if_neg hb1] at hf
        refine r_ic_f (t := 58) fe_241_5 (by decide) (Bool.eq_false_iff.mpr hb1) ?_
        refine r_aload_n fe_241_8 rfl ?_
        refine mr_getf hh fe_241_9 lf_12_541 rfl ?_
        by_cases hb2 : am_if .eq (S.1 57) = true
        · rw [if_pos hb2] at hf
          refine r_if_t (t := 30) fe_241_12 (by decide) hb2 ?_
          refine r_aload_n fe_241_30 rfl ?_
          refine mr_getf hh fe_241_31 lf_12_133 rfl ?_
          refine r_aload_n fe_241_34 rfl ?_
          refine mr_getf hh fe_241_35 lf_12_544 rfl ?_
          refine r_aload_n fe_241_38 rfl ?_
          refine r_iload_n fe_241_39 rfl ?_
          by_cases hg3 : ¬ (l2 < 0 ∨ 13 ≤ (l2).toNatClampNeg)
          rotate_left
          · rw [if_neg hg3] at hf; cases hf
          rw [if_pos hg3] at hf
          refine r_iald (j := (Int32.toNatClampNeg l2)) (v := S.2.1 10 (Int32.toNatClampNeg l2)) fe_241_40 m_c_10 (m_lt hh (by decide)) (fun z => hg3 (Or.inl z)) rfl (fun z => hg3 (Or.inr z)) rfl ?_
          by_cases hg4 : ¬ ((S.1 56) < 0 ∨ 12500 ≤ ((S.1 56)).toNatClampNeg)
          rotate_left
          · rw [if_neg hg4] at hf; cases hf
          rw [if_pos hg4] at hf
          refine mr_iast (k := 40) (n := 12500) (j := (Int32.toNatClampNeg (S.1 56))) hh fe_241_41 rfl (by decide) (by decide) rfl rfl (fun z => hg4 (Or.inl z)) rfl (fun z => hg4 (Or.inr z)) ?_
          refine r_aload_n fe_241_42 rfl ?_
          refine r_dup fe_241_43 rfl ?_
          refine mr_getf hh fe_241_44 lf_12_544 rfl ?_
          refine r_iconst (v := 1) fe_241_47 (by decide) ?_
          refine r_iadd (v := (((m_sA S 40 (Int32.toNatClampNeg (S.1 56)) (S.2.1 10 (Int32.toNatClampNeg l2))).1 56) + 1)) fe_241_48 rfl ?_
          refine mr_putf hh fe_241_49 lf_12_544 (m_f_56 _ _) (by decide) rfl rfl rfl ?_
          refine r_iinc (v := (l2 + 1)) fe_241_52 rfl rfl rfl ?_
          refine r_goto (t := 2) fe_241_55 (by decide) ?_
          refine go_weak (L0 := [.ref 130, .ref 140, .int (l2 + 1)]) (lwk_c (Or.inl rfl) (lwk_c (Or.inl rfl) (lwk_c (Or.inl rfl) (lwk_rf [])))) ?_
          exact ih.2 (l2 + 1) (m_sI (m_sA S 40 (Int32.toNatClampNeg (S.1 56)) (S.2.1 10 (Int32.toNatClampNeg l2))) 56 (((m_sA S 40 (Int32.toNatClampNeg (S.1 56)) (S.2.1 10 (Int32.toNatClampNeg l2))).1 56) + 1)) hf
        · rw [if_neg hb2] at hf
          refine r_if_f (t := 30) fe_241_12 (by decide) (Bool.eq_false_iff.mpr hb2) ?_
          refine r_aload_n fe_241_15 rfl ?_
          refine r_iload_n fe_241_16 rfl ?_
          refine r_aload_n fe_241_17 rfl ?_
          refine mr_getf hh fe_241_18 lf_12_133 rfl ?_
          refine r_aload_n fe_241_21 rfl ?_
          refine mr_getf hh fe_241_22 lf_12_544 rfl ?_
          by_cases hg5 : ¬ ((S.1 56) < 0 ∨ 12500 ≤ ((S.1 56)).toNatClampNeg)
          rotate_left
          · rw [if_neg hg5] at hf; cases hf
          rw [if_pos hg5] at hf
          refine r_iald (j := (Int32.toNatClampNeg (S.1 56))) (v := S.2.1 40 (Int32.toNatClampNeg (S.1 56))) fe_241_25 m_c_40 (m_lt hh (by decide)) (fun z => hg5 (Or.inl z)) rfl (fun z => hg5 (Or.inr z)) rfl ?_
          by_cases hg6 : ¬ (l2 < 0 ∨ 13 ≤ (l2).toNatClampNeg)
          rotate_left
          · rw [if_neg hg6] at hf; cases hf
          rw [if_pos hg6] at hf
          refine mr_iast (k := 10) (n := 13) (j := (Int32.toNatClampNeg l2)) hh fe_241_26 rfl (by decide) (by decide) rfl rfl (fun z => hg6 (Or.inl z)) rfl (fun z => hg6 (Or.inr z)) ?_
          refine r_goto (t := 42) fe_241_27 (by decide) ?_
          refine r_aload_n fe_241_42 rfl ?_
          refine r_dup fe_241_43 rfl ?_
          refine mr_getf hh fe_241_44 lf_12_544 rfl ?_
          refine r_iconst (v := 1) fe_241_47 (by decide) ?_
          refine r_iadd (v := (((m_sA S 10 (Int32.toNatClampNeg l2) (S.2.1 40 (Int32.toNatClampNeg (S.1 56)))).1 56) + 1)) fe_241_48 rfl ?_
          refine mr_putf hh fe_241_49 lf_12_544 (m_f_56 _ _) (by decide) rfl rfl rfl ?_
          refine r_iinc (v := (l2 + 1)) fe_241_52 rfl rfl rfl ?_
          refine r_goto (t := 2) fe_241_55 (by decide) ?_
          refine go_weak (L0 := [.ref 130, .ref 140, .int (l2 + 1)]) (lwk_c (Or.inl rfl) (lwk_c (Or.inl rfl) (lwk_c (Or.inl rfl) (lwk_rf [])))) ?_
          exact ih.2 (l2 + 1) (m_sI (m_sA S 10 (Int32.toNatClampNeg l2) (S.2.1 40 (Int32.toNatClampNeg (S.1 56)))) 56 (((m_sA S 10 (Int32.toNatClampNeg l2) (S.2.1 40 (Int32.toNatClampNeg (S.1 56)))).1 56) + 1)) hf
theorem F241_140c {xs : Nat → Int32} {L9 d n : Nat} {h : AmH} {Q : Option Value → AmH → Prop} {r0 : Unit} {S0 S : mS}  (hh : 172 ≤ h.2.1) (hf : F241_140 n  S = some (r0, S0)) (hQ : Q none (mst S0 h)) : Ca (am_X xs L9) (d + 0) 241 [.ref 130, .ref 140] (mst S h) Q := (F241_140l hh hQ n).1 0 S hf
def F241_141b0 (F : Nat → Int32 → mS → Option (Unit × mS)) (n : Nat) (l2 : Int32) (S : mS) : Option (Unit × mS) := F 2 0 S
def F241_141b2 (F : Nat → Int32 → mS → Option (Unit × mS)) (n : Nat) (l2 : Int32) (S : mS) : Option (Unit × mS) := (if am_ic .ge l2 13 = true then some ((), S) else (if am_if .eq (S.1 57) = true then (if ¬ (l2 < 0 ∨ 13 ≤ (l2).toNatClampNeg) then (if ¬ ((S.1 56) < 0 ∨ 12500 ≤ ((S.1 56)).toNatClampNeg) then F 2 (l2 + 1) (m_sI (m_sA S 40 (Int32.toNatClampNeg (S.1 56)) (S.2.1 11 (Int32.toNatClampNeg l2))) 56 (((m_sA S 40 (Int32.toNatClampNeg (S.1 56)) (S.2.1 11 (Int32.toNatClampNeg l2))).1 56) + 1)) else none) else none) else (if ¬ ((S.1 56) < 0 ∨ 12500 ≤ ((S.1 56)).toNatClampNeg) then (if ¬ (l2 < 0 ∨ 13 ≤ (l2).toNatClampNeg) then F 2 (l2 + 1) (m_sI (m_sA S 11 (Int32.toNatClampNeg l2) (S.2.1 40 (Int32.toNatClampNeg (S.1 56)))) 56 (((m_sA S 11 (Int32.toNatClampNeg l2) (S.2.1 40 (Int32.toNatClampNeg (S.1 56)))).1 56) + 1)) else none) else none)))
def F241_141f : Nat → Nat → Int32 → mS → Option (Unit × mS)
  | 0, _, _, _ => none
  | n + 1, c, l2, S => if c = 0 then F241_141b0 (F241_141f n) n l2 S else F241_141b2 (F241_141f n) n l2 S
theorem F241_141e0 (n : Nat) (l2 : Int32) (S : mS) : F241_141f (n + 1) 0 l2 S = F241_141b0 (F241_141f n) n l2 S := if_pos rfl
theorem F241_141e2 (n : Nat) (l2 : Int32) (S : mS) : F241_141f (n + 1) 2 l2 S = F241_141b2 (F241_141f n) n l2 S := if_neg (by decide)
def F241_141 (n : Nat)  (S : mS) : Option (Unit × mS) := F241_141f n 0 0 S
set_option maxRecDepth 20000 in
set_option maxHeartbeats 2000000 in
theorem F241_141l {xs : Nat → Int32} {L9 d : Nat} {h : AmH} {Q : Option Value → AmH → Prop} {r0 : Unit} {S0 : mS} (hh : 172 ≤ h.2.1) (hQ : Q none (mst S0 h)) : ∀ n : Nat, (∀ (l2 : Int32) (S : mS), F241_141f n 0 l2 S = some (r0, S0) → Go (am_X xs L9) (d + 0) 241 0 [.ref 130, .ref 141, .float 0] [] (mst S h) Q) ∧ (∀ (l2 : Int32) (S : mS), F241_141f n 2 l2 S = some (r0, S0) → Go (am_X xs L9) (d + 0) 241 2 [.ref 130, .ref 141, .int l2] [] (mst S h) Q) := by
  intro n
  induction n with
  | zero => exact ⟨fun l2 S hf => (by cases hf), fun l2 S hf => (by cases hf)⟩
  | succ n ih =>
    refine ⟨?_, ?_⟩
    · intro l2 S hf
      rw [F241_141e0] at hf
      unfold F241_141b0 at hf
      refine r_iconst (v := 0) fe_241_0 (by decide) ?_
      refine r_istore_n fe_241_1 (Nat.le_of_ble_eq_true rfl) rfl ?_
      refine go_weak (L0 := [.ref 130, .ref 141, .int 0]) (lwk_c (Or.inl rfl) (lwk_c (Or.inl rfl) (lwk_c (Or.inl rfl) (lwk_rf [])))) ?_
      exact ih.2 0 S hf
    · intro l2 S hf
      rw [F241_141e2] at hf
      unfold F241_141b2 at hf
      refine r_iload_n fe_241_2 rfl ?_
      refine r_aload_n fe_241_3 rfl ?_
      refine r_alen (v := 13) fe_241_4 m_c_11 (m_lt hh (by decide)) (by decide) (by decide) ?_
      by_cases hb1 : am_ic .ge l2 13 = true
      · rw [if_pos hb1] at hf
        refine r_ic_t (t := 58) fe_241_5 (by decide) hb1 ?_
        refine r_vret fe_241_58 ?_
        exact dfin (P := fun _ T => Q none (mst T h)) hf hQ
      · rw [if_neg hb1] at hf
        refine r_ic_f (t := 58) fe_241_5 (by decide) (Bool.eq_false_iff.mpr hb1) ?_
        refine r_aload_n fe_241_8 rfl ?_
        refine mr_getf hh fe_241_9 lf_12_541 rfl ?_
        by_cases hb2 : am_if .eq (S.1 57) = true
        · rw [if_pos hb2] at hf
          refine r_if_t (t := 30) fe_241_12 (by decide) hb2 ?_
          refine r_aload_n fe_241_30 rfl ?_
          refine mr_getf hh fe_241_31 lf_12_133 rfl ?_
          refine r_aload_n fe_241_34 rfl ?_
          refine mr_getf hh fe_241_35 lf_12_544 rfl ?_
          refine r_aload_n fe_241_38 rfl ?_
          refine r_iload_n fe_241_39 rfl ?_
          by_cases hg3 : ¬ (l2 < 0 ∨ 13 ≤ (l2).toNatClampNeg)
          rotate_left
          · rw [if_neg hg3] at hf; cases hf
          rw [if_pos hg3] at hf
          refine r_iald (j := (Int32.toNatClampNeg l2)) (v := S.2.1 11 (Int32.toNatClampNeg l2)) fe_241_40 m_c_11 (m_lt hh (by decide)) (fun z => hg3 (Or.inl z)) rfl (fun z => hg3 (Or.inr z)) rfl ?_
          by_cases hg4 : ¬ ((S.1 56) < 0 ∨ 12500 ≤ ((S.1 56)).toNatClampNeg)
          rotate_left
          · rw [if_neg hg4] at hf; cases hf
          rw [if_pos hg4] at hf
          refine mr_iast (k := 40) (n := 12500) (j := (Int32.toNatClampNeg (S.1 56))) hh fe_241_41 rfl (by decide) (by decide) rfl rfl (fun z => hg4 (Or.inl z)) rfl (fun z => hg4 (Or.inr z)) ?_
          refine r_aload_n fe_241_42 rfl ?_
          refine r_dup fe_241_43 rfl ?_
          refine mr_getf hh fe_241_44 lf_12_544 rfl ?_
          refine r_iconst (v := 1) fe_241_47 (by decide) ?_
          refine r_iadd (v := (((m_sA S 40 (Int32.toNatClampNeg (S.1 56)) (S.2.1 11 (Int32.toNatClampNeg l2))).1 56) + 1)) fe_241_48 rfl ?_
          refine mr_putf hh fe_241_49 lf_12_544 (m_f_56 _ _) (by decide) rfl rfl rfl ?_
          refine r_iinc (v := (l2 + 1)) fe_241_52 rfl rfl rfl ?_
          refine r_goto (t := 2) fe_241_55 (by decide) ?_
          refine go_weak (L0 := [.ref 130, .ref 141, .int (l2 + 1)]) (lwk_c (Or.inl rfl) (lwk_c (Or.inl rfl) (lwk_c (Or.inl rfl) (lwk_rf [])))) ?_
          exact ih.2 (l2 + 1) (m_sI (m_sA S 40 (Int32.toNatClampNeg (S.1 56)) (S.2.1 11 (Int32.toNatClampNeg l2))) 56 (((m_sA S 40 (Int32.toNatClampNeg (S.1 56)) (S.2.1 11 (Int32.toNatClampNeg l2))).1 56) + 1)) hf
        · rw [if_neg hb2] at hf
          refine r_if_f (t := 30) fe_241_12 (by decide) (Bool.eq_false_iff.mpr hb2) ?_
          refine r_aload_n fe_241_15 rfl ?_
          refine r_iload_n fe_241_16 rfl ?_
          refine r_aload_n fe_241_17 rfl ?_
          refine mr_getf hh fe_241_18 lf_12_133 rfl ?_
          refine r_aload_n fe_241_21 rfl ?_
          refine mr_getf hh fe_241_22 lf_12_544 rfl ?_
          by_cases hg5 : ¬ ((S.1 56) < 0 ∨ 12500 ≤ ((S.1 56)).toNatClampNeg)
          rotate_left
          · rw [if_neg hg5] at hf; cases hf
          rw [if_pos hg5] at hf
          refine r_iald (j := (Int32.toNatClampNeg (S.1 56))) (v := S.2.1 40 (Int32.toNatClampNeg (S.1 56))) fe_241_25 m_c_40 (m_lt hh (by decide)) (fun z => hg5 (Or.inl z)) rfl (fun z => hg5 (Or.inr z)) rfl ?_
          by_cases hg6 : ¬ (l2 < 0 ∨ 13 ≤ (l2).toNatClampNeg)
          rotate_left
          · rw [if_neg hg6] at hf; cases hf
          rw [if_pos hg6] at hf
          refine mr_iast (k := 11) (n := 13) (j := (Int32.toNatClampNeg l2)) hh fe_241_26 rfl (by decide) (by decide) rfl rfl (fun z => hg6 (Or.inl z)) rfl (fun z => hg6 (Or.inr z)) ?_
          refine r_goto (t := 42) fe_241_27 (by decide) ?_
          refine r_aload_n fe_241_42 rfl ?_
          refine r_dup fe_241_43 rfl ?_
          refine mr_getf hh fe_241_44 lf_12_544 rfl ?_
          refine r_iconst (v := 1) fe_241_47 (by decide) ?_
          refine r_iadd (v := (((m_sA S 11 (Int32.toNatClampNeg l2) (S.2.1 40 (Int32.toNatClampNeg (S.1 56)))).1 56) + 1)) fe_241_48 rfl ?_
          refine mr_putf hh fe_241_49 lf_12_544 (m_f_56 _ _) (by decide) rfl rfl rfl ?_
          refine r_iinc (v := (l2 + 1)) fe_241_52 rfl rfl rfl ?_
          refine r_goto (t := 2) fe_241_55 (by decide) ?_
          refine go_weak (L0 := [.ref 130, .ref 141, .int (l2 + 1)]) (lwk_c (Or.inl rfl) (lwk_c (Or.inl rfl) (lwk_c (Or.inl rfl) (lwk_rf [])))) ?_
          exact ih.2 (l2 + 1) (m_sI (m_sA S 11 (Int32.toNatClampNeg l2) (S.2.1 40 (Int32.toNatClampNeg (S.1 56)))) 56 (((m_sA S 11 (Int32.toNatClampNeg l2) (S.2.1 40 (Int32.toNatClampNeg (S.1 56)))).1 56) + 1)) hf
theorem F241_141c {xs : Nat → Int32} {L9 d n : Nat} {h : AmH} {Q : Option Value → AmH → Prop} {r0 : Unit} {S0 S : mS}  (hh : 172 ≤ h.2.1) (hf : F241_141 n  S = some (r0, S0)) (hQ : Q none (mst S0 h)) : Ca (am_X xs L9) (d + 0) 241 [.ref 130, .ref 141] (mst S h) Q := (F241_141l hh hQ n).1 0 S hf
def F241_142b0 (F : Nat → Int32 → mS → Option (Unit × mS)) (n : Nat) (l2 : Int32) (S : mS) : Option (Unit × mS) := F 2 0 S
def F241_142b2 (F : Nat → Int32 → mS → Option (Unit × mS)) (n : Nat) (l2 : Int32) (S : mS) : Option (Unit × mS) := (if am_ic .ge l2 13 = true then some ((), S) else (if am_if .eq (S.1 57) = true then (if ¬ (l2 < 0 ∨ 13 ≤ (l2).toNatClampNeg) then (if ¬ ((S.1 56) < 0 ∨ 12500 ≤ ((S.1 56)).toNatClampNeg) then F 2 (l2 + 1) (m_sI (m_sA S 40 (Int32.toNatClampNeg (S.1 56)) (S.2.1 12 (Int32.toNatClampNeg l2))) 56 (((m_sA S 40 (Int32.toNatClampNeg (S.1 56)) (S.2.1 12 (Int32.toNatClampNeg l2))).1 56) + 1)) else none) else none) else (if ¬ ((S.1 56) < 0 ∨ 12500 ≤ ((S.1 56)).toNatClampNeg) then (if ¬ (l2 < 0 ∨ 13 ≤ (l2).toNatClampNeg) then F 2 (l2 + 1) (m_sI (m_sA S 12 (Int32.toNatClampNeg l2) (S.2.1 40 (Int32.toNatClampNeg (S.1 56)))) 56 (((m_sA S 12 (Int32.toNatClampNeg l2) (S.2.1 40 (Int32.toNatClampNeg (S.1 56)))).1 56) + 1)) else none) else none)))
def F241_142f : Nat → Nat → Int32 → mS → Option (Unit × mS)
  | 0, _, _, _ => none
  | n + 1, c, l2, S => if c = 0 then F241_142b0 (F241_142f n) n l2 S else F241_142b2 (F241_142f n) n l2 S
theorem F241_142e0 (n : Nat) (l2 : Int32) (S : mS) : F241_142f (n + 1) 0 l2 S = F241_142b0 (F241_142f n) n l2 S := if_pos rfl
theorem F241_142e2 (n : Nat) (l2 : Int32) (S : mS) : F241_142f (n + 1) 2 l2 S = F241_142b2 (F241_142f n) n l2 S := if_neg (by decide)
def F241_142 (n : Nat)  (S : mS) : Option (Unit × mS) := F241_142f n 0 0 S
set_option maxRecDepth 20000 in
set_option maxHeartbeats 2000000 in
theorem F241_142l {xs : Nat → Int32} {L9 d : Nat} {h : AmH} {Q : Option Value → AmH → Prop} {r0 : Unit} {S0 : mS} (hh : 172 ≤ h.2.1) (hQ : Q none (mst S0 h)) : ∀ n : Nat, (∀ (l2 : Int32) (S : mS), F241_142f n 0 l2 S = some (r0, S0) → Go (am_X xs L9) (d + 0) 241 0 [.ref 130, .ref 142, .float 0] [] (mst S h) Q) ∧ (∀ (l2 : Int32) (S : mS), F241_142f n 2 l2 S = some (r0, S0) → Go (am_X xs L9) (d + 0) 241 2 [.ref 130, .ref 142, .int l2] [] (mst S h) Q) := by
  intro n
  induction n with
  | zero => exact ⟨fun l2 S hf => (by cases hf), fun l2 S hf => (by cases hf)⟩
  | succ n ih =>
    refine ⟨?_, ?_⟩
    · intro l2 S hf
      rw [F241_142e0] at hf
      unfold F241_142b0 at hf
      refine r_iconst (v := 0) fe_241_0 (by decide) ?_
      refine r_istore_n fe_241_1 (Nat.le_of_ble_eq_true rfl) rfl ?_
      refine go_weak (L0 := [.ref 130, .ref 142, .int 0]) (lwk_c (Or.inl rfl) (lwk_c (Or.inl rfl) (lwk_c (Or.inl rfl) (lwk_rf [])))) ?_
      exact ih.2 0 S hf
    · intro l2 S hf
      rw [F241_142e2] at hf
      unfold F241_142b2 at hf
      refine r_iload_n fe_241_2 rfl ?_
      refine r_aload_n fe_241_3 rfl ?_
      refine r_alen (v := 13) fe_241_4 m_c_12 (m_lt hh (by decide)) (by decide) (by decide) ?_
      by_cases hb1 : am_ic .ge l2 13 = true
      · rw [if_pos hb1] at hf
        refine r_ic_t (t := 58) fe_241_5 (by decide) hb1 ?_
        refine r_vret fe_241_58 ?_
        exact dfin (P := fun _ T => Q none (mst T h)) hf hQ
      · rw [if_neg hb1] at hf
        refine r_ic_f (t := 58) fe_241_5 (by decide) (Bool.eq_false_iff.mpr hb1) ?_
        refine r_aload_n fe_241_8 rfl ?_
        refine mr_getf hh fe_241_9 lf_12_541 rfl ?_
        by_cases hb2 : am_if .eq (S.1 57) = true
        · rw [if_pos hb2] at hf
          refine r_if_t (t := 30) fe_241_12 (by decide) hb2 ?_
          refine r_aload_n fe_241_30 rfl ?_
          refine mr_getf hh fe_241_31 lf_12_133 rfl ?_
          refine r_aload_n fe_241_34 rfl ?_
          refine mr_getf hh fe_241_35 lf_12_544 rfl ?_
          refine r_aload_n fe_241_38 rfl ?_
          refine r_iload_n fe_241_39 rfl ?_
          by_cases hg3 : ¬ (l2 < 0 ∨ 13 ≤ (l2).toNatClampNeg)
          rotate_left
          · rw [if_neg hg3] at hf; cases hf
          rw [if_pos hg3] at hf
          refine r_iald (j := (Int32.toNatClampNeg l2)) (v := S.2.1 12 (Int32.toNatClampNeg l2)) fe_241_40 m_c_12 (m_lt hh (by decide)) (fun z => hg3 (Or.inl z)) rfl (fun z => hg3 (Or.inr z)) rfl ?_
          by_cases hg4 : ¬ ((S.1 56) < 0 ∨ 12500 ≤ ((S.1 56)).toNatClampNeg)
          rotate_left
          · rw [if_neg hg4] at hf; cases hf
          rw [if_pos hg4] at hf
          refine mr_iast (k := 40) (n := 12500) (j := (Int32.toNatClampNeg (S.1 56))) hh fe_241_41 rfl (by decide) (by decide) rfl rfl (fun z => hg4 (Or.inl z)) rfl (fun z => hg4 (Or.inr z)) ?_
          refine r_aload_n fe_241_42 rfl ?_
          refine r_dup fe_241_43 rfl ?_
          refine mr_getf hh fe_241_44 lf_12_544 rfl ?_
          refine r_iconst (v := 1) fe_241_47 (by decide) ?_
          refine r_iadd (v := (((m_sA S 40 (Int32.toNatClampNeg (S.1 56)) (S.2.1 12 (Int32.toNatClampNeg l2))).1 56) + 1)) fe_241_48 rfl ?_
          refine mr_putf hh fe_241_49 lf_12_544 (m_f_56 _ _) (by decide) rfl rfl rfl ?_
          refine r_iinc (v := (l2 + 1)) fe_241_52 rfl rfl rfl ?_
          refine r_goto (t := 2) fe_241_55 (by decide) ?_
          refine go_weak (L0 := [.ref 130, .ref 142, .int (l2 + 1)]) (lwk_c (Or.inl rfl) (lwk_c (Or.inl rfl) (lwk_c (Or.inl rfl) (lwk_rf [])))) ?_
          exact ih.2 (l2 + 1) (m_sI (m_sA S 40 (Int32.toNatClampNeg (S.1 56)) (S.2.1 12 (Int32.toNatClampNeg l2))) 56 (((m_sA S 40 (Int32.toNatClampNeg (S.1 56)) (S.2.1 12 (Int32.toNatClampNeg l2))).1 56) + 1)) hf
        · rw [if_neg hb2] at hf
          refine r_if_f (t := 30) fe_241_12 (by decide) (Bool.eq_false_iff.mpr hb2) ?_
          refine r_aload_n fe_241_15 rfl ?_
          refine r_iload_n fe_241_16 rfl ?_
          refine r_aload_n fe_241_17 rfl ?_
          refine mr_getf hh fe_241_18 lf_12_133 rfl ?_
          refine r_aload_n fe_241_21 rfl ?_
          refine mr_getf hh fe_241_22 lf_12_544 rfl ?_
          by_cases hg5 : ¬ ((S.1 56) < 0 ∨ 12500 ≤ ((S.1 56)).toNatClampNeg)
          rotate_left
          · rw [if_neg hg5] at hf; cases hf
          rw [if_pos hg5] at hf
          refine r_iald (j := (Int32.toNatClampNeg (S.1 56))) (v := S.2.1 40 (Int32.toNatClampNeg (S.1 56))) fe_241_25 m_c_40 (m_lt hh (by decide)) (fun z => hg5 (Or.inl z)) rfl (fun z => hg5 (Or.inr z)) rfl ?_
          by_cases hg6 : ¬ (l2 < 0 ∨ 13 ≤ (l2).toNatClampNeg)
          rotate_left
          · rw [if_neg hg6] at hf; cases hf
          rw [if_pos hg6] at hf
          refine mr_iast (k := 12) (n := 13) (j := (Int32.toNatClampNeg l2)) hh fe_241_26 rfl (by decide) (by decide) rfl rfl (fun z => hg6 (Or.inl z)) rfl (fun z => hg6 (Or.inr z)) ?_
          refine r_goto (t := 42) fe_241_27 (by decide) ?_
          refine r_aload_n fe_241_42 rfl ?_
          refine r_dup fe_241_43 rfl ?_
          refine mr_getf hh fe_241_44 lf_12_544 rfl ?_
          refine r_iconst (v := 1) fe_241_47 (by decide) ?_
          refine r_iadd (v := (((m_sA S 12 (Int32.toNatClampNeg l2) (S.2.1 40 (Int32.toNatClampNeg (S.1 56)))).1 56) + 1)) fe_241_48 rfl ?_
          refine mr_putf hh fe_241_49 lf_12_544 (m_f_56 _ _) (by decide) rfl rfl rfl ?_
          refine r_iinc (v := (l2 + 1)) fe_241_52 rfl rfl rfl ?_
          refine r_goto (t := 2) fe_241_55 (by decide) ?_
          refine go_weak (L0 := [.ref 130, .ref 142, .int (l2 + 1)]) (lwk_c (Or.inl rfl) (lwk_c (Or.inl rfl) (lwk_c (Or.inl rfl) (lwk_rf [])))) ?_
          exact ih.2 (l2 + 1) (m_sI (m_sA S 12 (Int32.toNatClampNeg l2) (S.2.1 40 (Int32.toNatClampNeg (S.1 56)))) 56 (((m_sA S 12 (Int32.toNatClampNeg l2) (S.2.1 40 (Int32.toNatClampNeg (S.1 56)))).1 56) + 1)) hf
theorem F241_142c {xs : Nat → Int32} {L9 d n : Nat} {h : AmH} {Q : Option Value → AmH → Prop} {r0 : Unit} {S0 S : mS}  (hh : 172 ≤ h.2.1) (hf : F241_142 n  S = some (r0, S0)) (hQ : Q none (mst S0 h)) : Ca (am_X xs L9) (d + 0) 241 [.ref 130, .ref 142] (mst S h) Q := (F241_142l hh hQ n).1 0 S hf
def F241_143b0 (F : Nat → Int32 → mS → Option (Unit × mS)) (n : Nat) (l2 : Int32) (S : mS) : Option (Unit × mS) := F 2 0 S
def F241_143b2 (F : Nat → Int32 → mS → Option (Unit × mS)) (n : Nat) (l2 : Int32) (S : mS) : Option (Unit × mS) := (if am_ic .ge l2 13 = true then some ((), S) else (if am_if .eq (S.1 57) = true then (if ¬ (l2 < 0 ∨ 13 ≤ (l2).toNatClampNeg) then (if ¬ ((S.1 56) < 0 ∨ 12500 ≤ ((S.1 56)).toNatClampNeg) then F 2 (l2 + 1) (m_sI (m_sA S 40 (Int32.toNatClampNeg (S.1 56)) (S.2.1 13 (Int32.toNatClampNeg l2))) 56 (((m_sA S 40 (Int32.toNatClampNeg (S.1 56)) (S.2.1 13 (Int32.toNatClampNeg l2))).1 56) + 1)) else none) else none) else (if ¬ ((S.1 56) < 0 ∨ 12500 ≤ ((S.1 56)).toNatClampNeg) then (if ¬ (l2 < 0 ∨ 13 ≤ (l2).toNatClampNeg) then F 2 (l2 + 1) (m_sI (m_sA S 13 (Int32.toNatClampNeg l2) (S.2.1 40 (Int32.toNatClampNeg (S.1 56)))) 56 (((m_sA S 13 (Int32.toNatClampNeg l2) (S.2.1 40 (Int32.toNatClampNeg (S.1 56)))).1 56) + 1)) else none) else none)))
def F241_143f : Nat → Nat → Int32 → mS → Option (Unit × mS)
  | 0, _, _, _ => none
  | n + 1, c, l2, S => if c = 0 then F241_143b0 (F241_143f n) n l2 S else F241_143b2 (F241_143f n) n l2 S
theorem F241_143e0 (n : Nat) (l2 : Int32) (S : mS) : F241_143f (n + 1) 0 l2 S = F241_143b0 (F241_143f n) n l2 S := if_pos rfl
theorem F241_143e2 (n : Nat) (l2 : Int32) (S : mS) : F241_143f (n + 1) 2 l2 S = F241_143b2 (F241_143f n) n l2 S := if_neg (by decide)
def F241_143 (n : Nat)  (S : mS) : Option (Unit × mS) := F241_143f n 0 0 S
set_option maxRecDepth 20000 in
set_option maxHeartbeats 2000000 in
theorem F241_143l {xs : Nat → Int32} {L9 d : Nat} {h : AmH} {Q : Option Value → AmH → Prop} {r0 : Unit} {S0 : mS} (hh : 172 ≤ h.2.1) (hQ : Q none (mst S0 h)) : ∀ n : Nat, (∀ (l2 : Int32) (S : mS), F241_143f n 0 l2 S = some (r0, S0) → Go (am_X xs L9) (d + 0) 241 0 [.ref 130, .ref 143, .float 0] [] (mst S h) Q) ∧ (∀ (l2 : Int32) (S : mS), F241_143f n 2 l2 S = some (r0, S0) → Go (am_X xs L9) (d + 0) 241 2 [.ref 130, .ref 143, .int l2] [] (mst S h) Q) := by
  intro n
  induction n with
  | zero => exact ⟨fun l2 S hf => (by cases hf), fun l2 S hf => (by cases hf)⟩
  | succ n ih =>
    refine ⟨?_, ?_⟩
    · intro l2 S hf
      rw [F241_143e0] at hf
      unfold F241_143b0 at hf
      refine r_iconst (v := 0) fe_241_0 (by decide) ?_
      refine r_istore_n fe_241_1 (Nat.le_of_ble_eq_true rfl) rfl ?_
      refine go_weak (L0 := [.ref 130, .ref 143, .int 0]) (lwk_c (Or.inl rfl) (lwk_c (Or.inl rfl) (lwk_c (Or.inl rfl) (lwk_rf [])))) ?_
      exact ih.2 0 S hf
    · intro l2 S hf
      rw [F241_143e2] at hf
      unfold F241_143b2 at hf
      refine r_iload_n fe_241_2 rfl ?_
      refine r_aload_n fe_241_3 rfl ?_
      refine r_alen (v := 13) fe_241_4 m_c_13 (m_lt hh (by decide)) (by decide) (by decide) ?_
      by_cases hb1 : am_ic .ge l2 13 = true
      · rw [if_pos hb1] at hf
        refine r_ic_t (t := 58) fe_241_5 (by decide) hb1 ?_
        refine r_vret fe_241_58 ?_
        exact dfin (P := fun _ T => Q none (mst T h)) hf hQ
      · rw [if_neg hb1] at hf
        refine r_ic_f (t := 58) fe_241_5 (by decide) (Bool.eq_false_iff.mpr hb1) ?_
        refine r_aload_n fe_241_8 rfl ?_
        refine mr_getf hh fe_241_9 lf_12_541 rfl ?_
        by_cases hb2 : am_if .eq (S.1 57) = true
        · rw [if_pos hb2] at hf
          refine r_if_t (t := 30) fe_241_12 (by decide) hb2 ?_
          refine r_aload_n fe_241_30 rfl ?_
          refine mr_getf hh fe_241_31 lf_12_133 rfl ?_
          refine r_aload_n fe_241_34 rfl ?_
          refine mr_getf hh fe_241_35 lf_12_544 rfl ?_
          refine r_aload_n fe_241_38 rfl ?_
          refine r_iload_n fe_241_39 rfl ?_
          by_cases hg3 : ¬ (l2 < 0 ∨ 13 ≤ (l2).toNatClampNeg)
          rotate_left
          · rw [if_neg hg3] at hf; cases hf
          rw [if_pos hg3] at hf
          refine r_iald (j := (Int32.toNatClampNeg l2)) (v := S.2.1 13 (Int32.toNatClampNeg l2)) fe_241_40 m_c_13 (m_lt hh (by decide)) (fun z => hg3 (Or.inl z)) rfl (fun z => hg3 (Or.inr z)) rfl ?_
          by_cases hg4 : ¬ ((S.1 56) < 0 ∨ 12500 ≤ ((S.1 56)).toNatClampNeg)
          rotate_left
          · rw [if_neg hg4] at hf; cases hf
          rw [if_pos hg4] at hf
          refine mr_iast (k := 40) (n := 12500) (j := (Int32.toNatClampNeg (S.1 56))) hh fe_241_41 rfl (by decide) (by decide) rfl rfl (fun z => hg4 (Or.inl z)) rfl (fun z => hg4 (Or.inr z)) ?_
          refine r_aload_n fe_241_42 rfl ?_
          refine r_dup fe_241_43 rfl ?_
          refine mr_getf hh fe_241_44 lf_12_544 rfl ?_
          refine r_iconst (v := 1) fe_241_47 (by decide) ?_
          refine r_iadd (v := (((m_sA S 40 (Int32.toNatClampNeg (S.1 56)) (S.2.1 13 (Int32.toNatClampNeg l2))).1 56) + 1)) fe_241_48 rfl ?_
          refine mr_putf hh fe_241_49 lf_12_544 (m_f_56 _ _) (by decide) rfl rfl rfl ?_
          refine r_iinc (v := (l2 + 1)) fe_241_52 rfl rfl rfl ?_
          refine r_goto (t := 2) fe_241_55 (by decide) ?_
          refine go_weak (L0 := [.ref 130, .ref 143, .int (l2 + 1)]) (lwk_c (Or.inl rfl) (lwk_c (Or.inl rfl) (lwk_c (Or.inl rfl) (lwk_rf [])))) ?_
          exact ih.2 (l2 + 1) (m_sI (m_sA S 40 (Int32.toNatClampNeg (S.1 56)) (S.2.1 13 (Int32.toNatClampNeg l2))) 56 (((m_sA S 40 (Int32.toNatClampNeg (S.1 56)) (S.2.1 13 (Int32.toNatClampNeg l2))).1 56) + 1)) hf
        · rw [if_neg hb2] at hf
          refine r_if_f (t := 30) fe_241_12 (by decide) (Bool.eq_false_iff.mpr hb2) ?_
          refine r_aload_n fe_241_15 rfl ?_
          refine r_iload_n fe_241_16 rfl ?_
          refine r_aload_n fe_241_17 rfl ?_
          refine mr_getf hh fe_241_18 lf_12_133 rfl ?_
          refine r_aload_n fe_241_21 rfl ?_
          refine mr_getf hh fe_241_22 lf_12_544 rfl ?_
          by_cases hg5 : ¬ ((S.1 56) < 0 ∨ 12500 ≤ ((S.1 56)).toNatClampNeg)
          rotate_left
          · rw [if_neg hg5] at hf; cases hf
          rw [if_pos hg5] at hf
          refine r_iald (j := (Int32.toNatClampNeg (S.1 56))) (v := S.2.1 40 (Int32.toNatClampNeg (S.1 56))) fe_241_25 m_c_40 (m_lt hh (by decide)) (fun z => hg5 (Or.inl z)) rfl (fun z => hg5 (Or.inr z)) rfl ?_
          by_cases hg6 : ¬ (l2 < 0 ∨ 13 ≤ (l2).toNatClampNeg)
          rotate_left
          · rw [if_neg hg6] at hf; cases hf
          rw [if_pos hg6] at hf
          refine mr_iast (k := 13) (n := 13) (j := (Int32.toNatClampNeg l2)) hh fe_241_26 rfl (by decide) (by decide) rfl rfl (fun z => hg6 (Or.inl z)) rfl (fun z => hg6 (Or.inr z)) ?_
          refine r_goto (t := 42) fe_241_27 (by decide) ?_
          refine r_aload_n fe_241_42 rfl ?_
          refine r_dup fe_241_43 rfl ?_
          refine mr_getf hh fe_241_44 lf_12_544 rfl ?_
          refine r_iconst (v := 1) fe_241_47 (by decide) ?_
          refine r_iadd (v := (((m_sA S 13 (Int32.toNatClampNeg l2) (S.2.1 40 (Int32.toNatClampNeg (S.1 56)))).1 56) + 1)) fe_241_48 rfl ?_
          refine mr_putf hh fe_241_49 lf_12_544 (m_f_56 _ _) (by decide) rfl rfl rfl ?_
          refine r_iinc (v := (l2 + 1)) fe_241_52 rfl rfl rfl ?_
          refine r_goto (t := 2) fe_241_55 (by decide) ?_
          refine go_weak (L0 := [.ref 130, .ref 143, .int (l2 + 1)]) (lwk_c (Or.inl rfl) (lwk_c (Or.inl rfl) (lwk_c (Or.inl rfl) (lwk_rf [])))) ?_
          exact ih.2 (l2 + 1) (m_sI (m_sA S 13 (Int32.toNatClampNeg l2) (S.2.1 40 (Int32.toNatClampNeg (S.1 56)))) 56 (((m_sA S 13 (Int32.toNatClampNeg l2) (S.2.1 40 (Int32.toNatClampNeg (S.1 56)))).1 56) + 1)) hf
theorem F241_143c {xs : Nat → Int32} {L9 d n : Nat} {h : AmH} {Q : Option Value → AmH → Prop} {r0 : Unit} {S0 S : mS}  (hh : 172 ≤ h.2.1) (hf : F241_143 n  S = some (r0, S0)) (hQ : Q none (mst S0 h)) : Ca (am_X xs L9) (d + 0) 241 [.ref 130, .ref 143] (mst S h) Q := (F241_143l hh hQ n).1 0 S hf
def F241_144b0 (F : Nat → Int32 → mS → Option (Unit × mS)) (n : Nat) (l2 : Int32) (S : mS) : Option (Unit × mS) := F 2 0 S
def F241_144b2 (F : Nat → Int32 → mS → Option (Unit × mS)) (n : Nat) (l2 : Int32) (S : mS) : Option (Unit × mS) := (if am_ic .ge l2 13 = true then some ((), S) else (if am_if .eq (S.1 57) = true then (if ¬ (l2 < 0 ∨ 13 ≤ (l2).toNatClampNeg) then (if ¬ ((S.1 56) < 0 ∨ 12500 ≤ ((S.1 56)).toNatClampNeg) then F 2 (l2 + 1) (m_sI (m_sA S 40 (Int32.toNatClampNeg (S.1 56)) (S.2.1 14 (Int32.toNatClampNeg l2))) 56 (((m_sA S 40 (Int32.toNatClampNeg (S.1 56)) (S.2.1 14 (Int32.toNatClampNeg l2))).1 56) + 1)) else none) else none) else (if ¬ ((S.1 56) < 0 ∨ 12500 ≤ ((S.1 56)).toNatClampNeg) then (if ¬ (l2 < 0 ∨ 13 ≤ (l2).toNatClampNeg) then F 2 (l2 + 1) (m_sI (m_sA S 14 (Int32.toNatClampNeg l2) (S.2.1 40 (Int32.toNatClampNeg (S.1 56)))) 56 (((m_sA S 14 (Int32.toNatClampNeg l2) (S.2.1 40 (Int32.toNatClampNeg (S.1 56)))).1 56) + 1)) else none) else none)))
def F241_144f : Nat → Nat → Int32 → mS → Option (Unit × mS)
  | 0, _, _, _ => none
  | n + 1, c, l2, S => if c = 0 then F241_144b0 (F241_144f n) n l2 S else F241_144b2 (F241_144f n) n l2 S
theorem F241_144e0 (n : Nat) (l2 : Int32) (S : mS) : F241_144f (n + 1) 0 l2 S = F241_144b0 (F241_144f n) n l2 S := if_pos rfl
theorem F241_144e2 (n : Nat) (l2 : Int32) (S : mS) : F241_144f (n + 1) 2 l2 S = F241_144b2 (F241_144f n) n l2 S := if_neg (by decide)
def F241_144 (n : Nat)  (S : mS) : Option (Unit × mS) := F241_144f n 0 0 S
set_option maxRecDepth 20000 in
set_option maxHeartbeats 2000000 in
theorem F241_144l {xs : Nat → Int32} {L9 d : Nat} {h : AmH} {Q : Option Value → AmH → Prop} {r0 : Unit} {S0 : mS} (hh : 172 ≤ h.2.1) (hQ : Q none (mst S0 h)) : ∀ n : Nat, (∀ (l2 : Int32) (S : mS), F241_144f n 0 l2 S = some (r0, S0) → Go (am_X xs L9) (d + 0) 241 0 [.ref 130, .ref 144, .float 0] [] (mst S h) Q) ∧ (∀ (l2 : Int32) (S : mS), F241_144f n 2 l2 S = some (r0, S0) → Go (am_X xs L9) (d + 0) 241 2 [.ref 130, .ref 144, .int l2] [] (mst S h) Q) := by
  intro n
  induction n with
  | zero => exact ⟨fun l2 S hf => (by cases hf), fun l2 S hf => (by cases hf)⟩
  | succ n ih =>
    refine ⟨?_, ?_⟩
    · intro l2 S hf
      rw [F241_144e0] at hf
      unfold F241_144b0 at hf
      refine r_iconst (v := 0) fe_241_0 (by decide) ?_
      refine r_istore_n fe_241_1 (Nat.le_of_ble_eq_true rfl) rfl ?_
      refine go_weak (L0 := [.ref 130, .ref 144, .int 0]) (lwk_c (Or.inl rfl) (lwk_c (Or.inl rfl) (lwk_c (Or.inl rfl) (lwk_rf [])))) ?_
      exact ih.2 0 S hf
    · intro l2 S hf
      rw [F241_144e2] at hf
      unfold F241_144b2 at hf
      refine r_iload_n fe_241_2 rfl ?_
      refine r_aload_n fe_241_3 rfl ?_
      refine r_alen (v := 13) fe_241_4 m_c_14 (m_lt hh (by decide)) (by decide) (by decide) ?_
      by_cases hb1 : am_ic .ge l2 13 = true
      · rw [if_pos hb1] at hf
        refine r_ic_t (t := 58) fe_241_5 (by decide) hb1 ?_
        refine r_vret fe_241_58 ?_
        exact dfin (P := fun _ T => Q none (mst T h)) hf hQ
      · rw [if_neg hb1] at hf
        refine r_ic_f (t := 58) fe_241_5 (by decide) (Bool.eq_false_iff.mpr hb1) ?_
        refine r_aload_n fe_241_8 rfl ?_
        refine mr_getf hh fe_241_9 lf_12_541 rfl ?_
        by_cases hb2 : am_if .eq (S.1 57) = true
        · rw [if_pos hb2] at hf
          refine r_if_t (t := 30) fe_241_12 (by decide) hb2 ?_
          refine r_aload_n fe_241_30 rfl ?_
          refine mr_getf hh fe_241_31 lf_12_133 rfl ?_
          refine r_aload_n fe_241_34 rfl ?_
          refine mr_getf hh fe_241_35 lf_12_544 rfl ?_
          refine r_aload_n fe_241_38 rfl ?_
          refine r_iload_n fe_241_39 rfl ?_
          by_cases hg3 : ¬ (l2 < 0 ∨ 13 ≤ (l2).toNatClampNeg)
          rotate_left
          · rw [if_neg hg3] at hf; cases hf
          rw [if_pos hg3] at hf
          refine r_iald (j := (Int32.toNatClampNeg l2)) (v := S.2.1 14 (Int32.toNatClampNeg l2)) fe_241_40 m_c_14 (m_lt hh (by decide)) (fun z => hg3 (Or.inl z)) rfl (fun z => hg3 (Or.inr z)) rfl ?_
          by_cases hg4 : ¬ ((S.1 56) < 0 ∨ 12500 ≤ ((S.1 56)).toNatClampNeg)
          rotate_left
          · rw [if_neg hg4] at hf; cases hf
          rw [if_pos hg4] at hf
          refine mr_iast (k := 40) (n := 12500) (j := (Int32.toNatClampNeg (S.1 56))) hh fe_241_41 rfl (by decide) (by decide) rfl rfl (fun z => hg4 (Or.inl z)) rfl (fun z => hg4 (Or.inr z)) ?_
          refine r_aload_n fe_241_42 rfl ?_
          refine r_dup fe_241_43 rfl ?_
          refine mr_getf hh fe_241_44 lf_12_544 rfl ?_
          refine r_iconst (v := 1) fe_241_47 (by decide) ?_
          refine r_iadd (v := (((m_sA S 40 (Int32.toNatClampNeg (S.1 56)) (S.2.1 14 (Int32.toNatClampNeg l2))).1 56) + 1)) fe_241_48 rfl ?_
          refine mr_putf hh fe_241_49 lf_12_544 (m_f_56 _ _) (by decide) rfl rfl rfl ?_
          refine r_iinc (v := (l2 + 1)) fe_241_52 rfl rfl rfl ?_
          refine r_goto (t := 2) fe_241_55 (by decide) ?_
          refine go_weak (L0 := [.ref 130, .ref 144, .int (l2 + 1)]) (lwk_c (Or.inl rfl) (lwk_c (Or.inl rfl) (lwk_c (Or.inl rfl) (lwk_rf [])))) ?_
          exact ih.2 (l2 + 1) (m_sI (m_sA S 40 (Int32.toNatClampNeg (S.1 56)) (S.2.1 14 (Int32.toNatClampNeg l2))) 56 (((m_sA S 40 (Int32.toNatClampNeg (S.1 56)) (S.2.1 14 (Int32.toNatClampNeg l2))).1 56) + 1)) hf
        · rw [if_neg hb2] at hf
          refine r_if_f (t := 30) fe_241_12 (by decide) (Bool.eq_false_iff.mpr hb2) ?_
          refine r_aload_n fe_241_15 rfl ?_
          refine r_iload_n fe_241_16 rfl ?_
          refine r_aload_n fe_241_17 rfl ?_
          refine mr_getf hh fe_241_18 lf_12_133 rfl ?_
          refine r_aload_n fe_241_21 rfl ?_
          refine mr_getf hh fe_241_22 lf_12_544 rfl ?_
          by_cases hg5 : ¬ ((S.1 56) < 0 ∨ 12500 ≤ ((S.1 56)).toNatClampNeg)
          rotate_left
          · rw [if_neg hg5] at hf; cases hf
          rw [if_pos hg5] at hf
          refine r_iald (j := (Int32.toNatClampNeg (S.1 56))) (v := S.2.1 40 (Int32.toNatClampNeg (S.1 56))) fe_241_25 m_c_40 (m_lt hh (by decide)) (fun z => hg5 (Or.inl z)) rfl (fun z => hg5 (Or.inr z)) rfl ?_
          by_cases hg6 : ¬ (l2 < 0 ∨ 13 ≤ (l2).toNatClampNeg)
          rotate_left
          · rw [if_neg hg6] at hf; cases hf
          rw [if_pos hg6] at hf
          refine mr_iast (k := 14) (n := 13) (j := (Int32.toNatClampNeg l2)) hh fe_241_26 rfl (by decide) (by decide) rfl rfl (fun z => hg6 (Or.inl z)) rfl (fun z => hg6 (Or.inr z)) ?_
          refine r_goto (t := 42) fe_241_27 (by decide) ?_
          refine r_aload_n fe_241_42 rfl ?_
          refine r_dup fe_241_43 rfl ?_
          refine mr_getf hh fe_241_44 lf_12_544 rfl ?_
          refine r_iconst (v := 1) fe_241_47 (by decide) ?_
          refine r_iadd (v := (((m_sA S 14 (Int32.toNatClampNeg l2) (S.2.1 40 (Int32.toNatClampNeg (S.1 56)))).1 56) + 1)) fe_241_48 rfl ?_
          refine mr_putf hh fe_241_49 lf_12_544 (m_f_56 _ _) (by decide) rfl rfl rfl ?_
          refine r_iinc (v := (l2 + 1)) fe_241_52 rfl rfl rfl ?_
          refine r_goto (t := 2) fe_241_55 (by decide) ?_
          refine go_weak (L0 := [.ref 130, .ref 144, .int (l2 + 1)]) (lwk_c (Or.inl rfl) (lwk_c (Or.inl rfl) (lwk_c (Or.inl rfl) (lwk_rf [])))) ?_
          exact ih.2 (l2 + 1) (m_sI (m_sA S 14 (Int32.toNatClampNeg l2) (S.2.1 40 (Int32.toNatClampNeg (S.1 56)))) 56 (((m_sA S 14 (Int32.toNatClampNeg l2) (S.2.1 40 (Int32.toNatClampNeg (S.1 56)))).1 56) + 1)) hf
theorem F241_144c {xs : Nat → Int32} {L9 d n : Nat} {h : AmH} {Q : Option Value → AmH → Prop} {r0 : Unit} {S0 S : mS}  (hh : 172 ≤ h.2.1) (hf : F241_144 n  S = some (r0, S0)) (hQ : Q none (mst S0 h)) : Ca (am_X xs L9) (d + 0) 241 [.ref 130, .ref 144] (mst S h) Q := (F241_144l hh hQ n).1 0 S hf
def F241_145b0 (F : Nat → Int32 → mS → Option (Unit × mS)) (n : Nat) (l2 : Int32) (S : mS) : Option (Unit × mS) := F 2 0 S
def F241_145b2 (F : Nat → Int32 → mS → Option (Unit × mS)) (n : Nat) (l2 : Int32) (S : mS) : Option (Unit × mS) := (if am_ic .ge l2 13 = true then some ((), S) else (if am_if .eq (S.1 57) = true then (if ¬ (l2 < 0 ∨ 13 ≤ (l2).toNatClampNeg) then (if ¬ ((S.1 56) < 0 ∨ 12500 ≤ ((S.1 56)).toNatClampNeg) then F 2 (l2 + 1) (m_sI (m_sA S 40 (Int32.toNatClampNeg (S.1 56)) (S.2.1 15 (Int32.toNatClampNeg l2))) 56 (((m_sA S 40 (Int32.toNatClampNeg (S.1 56)) (S.2.1 15 (Int32.toNatClampNeg l2))).1 56) + 1)) else none) else none) else (if ¬ ((S.1 56) < 0 ∨ 12500 ≤ ((S.1 56)).toNatClampNeg) then (if ¬ (l2 < 0 ∨ 13 ≤ (l2).toNatClampNeg) then F 2 (l2 + 1) (m_sI (m_sA S 15 (Int32.toNatClampNeg l2) (S.2.1 40 (Int32.toNatClampNeg (S.1 56)))) 56 (((m_sA S 15 (Int32.toNatClampNeg l2) (S.2.1 40 (Int32.toNatClampNeg (S.1 56)))).1 56) + 1)) else none) else none)))
def F241_145f : Nat → Nat → Int32 → mS → Option (Unit × mS)
  | 0, _, _, _ => none
  | n + 1, c, l2, S => if c = 0 then F241_145b0 (F241_145f n) n l2 S else F241_145b2 (F241_145f n) n l2 S
theorem F241_145e0 (n : Nat) (l2 : Int32) (S : mS) : F241_145f (n + 1) 0 l2 S = F241_145b0 (F241_145f n) n l2 S := if_pos rfl
theorem F241_145e2 (n : Nat) (l2 : Int32) (S : mS) : F241_145f (n + 1) 2 l2 S = F241_145b2 (F241_145f n) n l2 S := if_neg (by decide)
def F241_145 (n : Nat)  (S : mS) : Option (Unit × mS) := F241_145f n 0 0 S
set_option maxRecDepth 20000 in
set_option maxHeartbeats 2000000 in
theorem F241_145l {xs : Nat → Int32} {L9 d : Nat} {h : AmH} {Q : Option Value → AmH → Prop} {r0 : Unit} {S0 : mS} (hh : 172 ≤ h.2.1) (hQ : Q none (mst S0 h)) : ∀ n : Nat, (∀ (l2 : Int32) (S : mS), F241_145f n 0 l2 S = some (r0, S0) → Go (am_X xs L9) (d + 0) 241 0 [.ref 130, .ref 145, .float 0] [] (mst S h) Q) ∧ (∀ (l2 : Int32) (S : mS), F241_145f n 2 l2 S = some (r0, S0) → Go (am_X xs L9) (d + 0) 241 2 [.ref 130, .ref 145, .int l2] [] (mst S h) Q) := by
  intro n
  induction n with
  | zero => exact ⟨fun l2 S hf => (by cases hf), fun l2 S hf => (by cases hf)⟩
  | succ n ih =>
    refine ⟨?_, ?_⟩
    · intro l2 S hf
      rw [F241_145e0] at hf
      unfold F241_145b0 at hf
      refine r_iconst (v := 0) fe_241_0 (by decide) ?_
      refine r_istore_n fe_241_1 (Nat.le_of_ble_eq_true rfl) rfl ?_
      refine go_weak (L0 := [.ref 130, .ref 145, .int 0]) (lwk_c (Or.inl rfl) (lwk_c (Or.inl rfl) (lwk_c (Or.inl rfl) (lwk_rf [])))) ?_
      exact ih.2 0 S hf
    · intro l2 S hf
      rw [F241_145e2] at hf
      unfold F241_145b2 at hf
      refine r_iload_n fe_241_2 rfl ?_
      refine r_aload_n fe_241_3 rfl ?_
      refine r_alen (v := 13) fe_241_4 m_c_15 (m_lt hh (by decide)) (by decide) (by decide) ?_
      by_cases hb1 : am_ic .ge l2 13 = true
      · rw [if_pos hb1] at hf
        refine r_ic_t (t := 58) fe_241_5 (by decide) hb1 ?_
        refine r_vret fe_241_58 ?_
        exact dfin (P := fun _ T => Q none (mst T h)) hf hQ
      · rw [if_neg hb1] at hf
        refine r_ic_f (t := 58) fe_241_5 (by decide) (Bool.eq_false_iff.mpr hb1) ?_
        refine r_aload_n fe_241_8 rfl ?_
        refine mr_getf hh fe_241_9 lf_12_541 rfl ?_
        by_cases hb2 : am_if .eq (S.1 57) = true
        · rw [if_pos hb2] at hf
          refine r_if_t (t := 30) fe_241_12 (by decide) hb2 ?_
          refine r_aload_n fe_241_30 rfl ?_
          refine mr_getf hh fe_241_31 lf_12_133 rfl ?_
          refine r_aload_n fe_241_34 rfl ?_
          refine mr_getf hh fe_241_35 lf_12_544 rfl ?_
          refine r_aload_n fe_241_38 rfl ?_
          refine r_iload_n fe_241_39 rfl ?_
          by_cases hg3 : ¬ (l2 < 0 ∨ 13 ≤ (l2).toNatClampNeg)
          rotate_left
          · rw [if_neg hg3] at hf; cases hf
          rw [if_pos hg3] at hf
          refine r_iald (j := (Int32.toNatClampNeg l2)) (v := S.2.1 15 (Int32.toNatClampNeg l2)) fe_241_40 m_c_15 (m_lt hh (by decide)) (fun z => hg3 (Or.inl z)) rfl (fun z => hg3 (Or.inr z)) rfl ?_
          by_cases hg4 : ¬ ((S.1 56) < 0 ∨ 12500 ≤ ((S.1 56)).toNatClampNeg)
          rotate_left
          · rw [if_neg hg4] at hf; cases hf
          rw [if_pos hg4] at hf
          refine mr_iast (k := 40) (n := 12500) (j := (Int32.toNatClampNeg (S.1 56))) hh fe_241_41 rfl (by decide) (by decide) rfl rfl (fun z => hg4 (Or.inl z)) rfl (fun z => hg4 (Or.inr z)) ?_
          refine r_aload_n fe_241_42 rfl ?_
          refine r_dup fe_241_43 rfl ?_
          refine mr_getf hh fe_241_44 lf_12_544 rfl ?_
          refine r_iconst (v := 1) fe_241_47 (by decide) ?_
          refine r_iadd (v := (((m_sA S 40 (Int32.toNatClampNeg (S.1 56)) (S.2.1 15 (Int32.toNatClampNeg l2))).1 56) + 1)) fe_241_48 rfl ?_
          refine mr_putf hh fe_241_49 lf_12_544 (m_f_56 _ _) (by decide) rfl rfl rfl ?_
          refine r_iinc (v := (l2 + 1)) fe_241_52 rfl rfl rfl ?_
          refine r_goto (t := 2) fe_241_55 (by decide) ?_
          refine go_weak (L0 := [.ref 130, .ref 145, .int (l2 + 1)]) (lwk_c (Or.inl rfl) (lwk_c (Or.inl rfl) (lwk_c (Or.inl rfl) (lwk_rf [])))) ?_
          exact ih.2 (l2 + 1) (m_sI (m_sA S 40 (Int32.toNatClampNeg (S.1 56)) (S.2.1 15 (Int32.toNatClampNeg l2))) 56 (((m_sA S 40 (Int32.toNatClampNeg (S.1 56)) (S.2.1 15 (Int32.toNatClampNeg l2))).1 56) + 1)) hf
        · rw [if_neg hb2] at hf
          refine r_if_f (t := 30) fe_241_12 (by decide) (Bool.eq_false_iff.mpr hb2) ?_
          refine r_aload_n fe_241_15 rfl ?_
          refine r_iload_n fe_241_16 rfl ?_
          refine r_aload_n fe_241_17 rfl ?_
          refine mr_getf hh fe_241_18 lf_12_133 rfl ?_
          refine r_aload_n fe_241_21 rfl ?_
          refine mr_getf hh fe_241_22 lf_12_544 rfl ?_
          by_cases hg5 : ¬ ((S.1 56) < 0 ∨ 12500 ≤ ((S.1 56)).toNatClampNeg)
          rotate_left
          · rw [if_neg hg5] at hf; cases hf
          rw [if_pos hg5] at hf
          refine r_iald (j := (Int32.toNatClampNeg (S.1 56))) (v := S.2.1 40 (Int32.toNatClampNeg (S.1 56))) fe_241_25 m_c_40 (m_lt hh (by decide)) (fun z => hg5 (Or.inl z)) rfl (fun z => hg5 (Or.inr z)) rfl ?_
          by_cases hg6 : ¬ (l2 < 0 ∨ 13 ≤ (l2).toNatClampNeg)
          rotate_left
          · rw [if_neg hg6] at hf; cases hf
          rw [if_pos hg6] at hf
          refine mr_iast (k := 15) (n := 13) (j := (Int32.toNatClampNeg l2)) hh fe_241_26 rfl (by decide) (by decide) rfl rfl (fun z => hg6 (Or.inl z)) rfl (fun z => hg6 (Or.inr z)) ?_
          refine r_goto (t := 42) fe_241_27 (by decide) ?_
          refine r_aload_n fe_241_42 rfl ?_
          refine r_dup fe_241_43 rfl ?_
          refine mr_getf hh fe_241_44 lf_12_544 rfl ?_
          refine r_iconst (v := 1) fe_241_47 (by decide) ?_
          refine r_iadd (v := (((m_sA S 15 (Int32.toNatClampNeg l2) (S.2.1 40 (Int32.toNatClampNeg (S.1 56)))).1 56) + 1)) fe_241_48 rfl ?_
          refine mr_putf hh fe_241_49 lf_12_544 (m_f_56 _ _) (by decide) rfl rfl rfl ?_
          refine r_iinc (v := (l2 + 1)) fe_241_52 rfl rfl rfl ?_
          refine r_goto (t := 2) fe_241_55 (by decide) ?_
          refine go_weak (L0 := [.ref 130, .ref 145, .int (l2 + 1)]) (lwk_c (Or.inl rfl) (lwk_c (Or.inl rfl) (lwk_c (Or.inl rfl) (lwk_rf [])))) ?_
          exact ih.2 (l2 + 1) (m_sI (m_sA S 15 (Int32.toNatClampNeg l2) (S.2.1 40 (Int32.toNatClampNeg (S.1 56)))) 56 (((m_sA S 15 (Int32.toNatClampNeg l2) (S.2.1 40 (Int32.toNatClampNeg (S.1 56)))).1 56) + 1)) hf
theorem F241_145c {xs : Nat → Int32} {L9 d n : Nat} {h : AmH} {Q : Option Value → AmH → Prop} {r0 : Unit} {S0 S : mS}  (hh : 172 ≤ h.2.1) (hf : F241_145 n  S = some (r0, S0)) (hQ : Q none (mst S0 h)) : Ca (am_X xs L9) (d + 0) 241 [.ref 130, .ref 145] (mst S h) Q := (F241_145l hh hQ n).1 0 S hf
def F241_165b0 (F : Nat → Int32 → mS → Option (Unit × mS)) (n : Nat) (l2 : Int32) (S : mS) : Option (Unit × mS) := F 2 0 S
def F241_165b2 (F : Nat → Int32 → mS → Option (Unit × mS)) (n : Nat) (l2 : Int32) (S : mS) : Option (Unit × mS) := (if am_ic .ge l2 2280 = true then some ((), S) else (if am_if .eq (S.1 57) = true then (if ¬ (l2 < 0 ∨ 2280 ≤ (l2).toNatClampNeg) then (if ¬ ((S.1 56) < 0 ∨ 12500 ≤ ((S.1 56)).toNatClampNeg) then F 2 (l2 + 1) (m_sI (m_sA S 40 (Int32.toNatClampNeg (S.1 56)) (S.2.1 35 (Int32.toNatClampNeg l2))) 56 (((m_sA S 40 (Int32.toNatClampNeg (S.1 56)) (S.2.1 35 (Int32.toNatClampNeg l2))).1 56) + 1)) else none) else none) else (if ¬ ((S.1 56) < 0 ∨ 12500 ≤ ((S.1 56)).toNatClampNeg) then (if ¬ (l2 < 0 ∨ 2280 ≤ (l2).toNatClampNeg) then F 2 (l2 + 1) (m_sI (m_sA S 35 (Int32.toNatClampNeg l2) (S.2.1 40 (Int32.toNatClampNeg (S.1 56)))) 56 (((m_sA S 35 (Int32.toNatClampNeg l2) (S.2.1 40 (Int32.toNatClampNeg (S.1 56)))).1 56) + 1)) else none) else none)))
def F241_165f : Nat → Nat → Int32 → mS → Option (Unit × mS)
  | 0, _, _, _ => none
  | n + 1, c, l2, S => if c = 0 then F241_165b0 (F241_165f n) n l2 S else F241_165b2 (F241_165f n) n l2 S
theorem F241_165e0 (n : Nat) (l2 : Int32) (S : mS) : F241_165f (n + 1) 0 l2 S = F241_165b0 (F241_165f n) n l2 S := if_pos rfl
theorem F241_165e2 (n : Nat) (l2 : Int32) (S : mS) : F241_165f (n + 1) 2 l2 S = F241_165b2 (F241_165f n) n l2 S := if_neg (by decide)
def F241_165 (n : Nat)  (S : mS) : Option (Unit × mS) := F241_165f n 0 0 S
set_option maxRecDepth 20000 in
set_option maxHeartbeats 2000000 in
theorem F241_165l {xs : Nat → Int32} {L9 d : Nat} {h : AmH} {Q : Option Value → AmH → Prop} {r0 : Unit} {S0 : mS} (hh : 172 ≤ h.2.1) (hQ : Q none (mst S0 h)) : ∀ n : Nat, (∀ (l2 : Int32) (S : mS), F241_165f n 0 l2 S = some (r0, S0) → Go (am_X xs L9) (d + 0) 241 0 [.ref 130, .ref 165, .float 0] [] (mst S h) Q) ∧ (∀ (l2 : Int32) (S : mS), F241_165f n 2 l2 S = some (r0, S0) → Go (am_X xs L9) (d + 0) 241 2 [.ref 130, .ref 165, .int l2] [] (mst S h) Q) := by
  intro n
  induction n with
  | zero => exact ⟨fun l2 S hf => (by cases hf), fun l2 S hf => (by cases hf)⟩
  | succ n ih =>
    refine ⟨?_, ?_⟩
    · intro l2 S hf
      rw [F241_165e0] at hf
      unfold F241_165b0 at hf
      refine r_iconst (v := 0) fe_241_0 (by decide) ?_
      refine r_istore_n fe_241_1 (Nat.le_of_ble_eq_true rfl) rfl ?_
      refine go_weak (L0 := [.ref 130, .ref 165, .int 0]) (lwk_c (Or.inl rfl) (lwk_c (Or.inl rfl) (lwk_c (Or.inl rfl) (lwk_rf [])))) ?_
      exact ih.2 0 S hf
    · intro l2 S hf
      rw [F241_165e2] at hf
      unfold F241_165b2 at hf
      refine r_iload_n fe_241_2 rfl ?_
      refine r_aload_n fe_241_3 rfl ?_
      refine r_alen (v := 2280) fe_241_4 m_c_35 (m_lt hh (by decide)) (by decide) (by decide) ?_
      by_cases hb1 : am_ic .ge l2 2280 = true
      · rw [if_pos hb1] at hf
        refine r_ic_t (t := 58) fe_241_5 (by decide) hb1 ?_
        refine r_vret fe_241_58 ?_
        exact dfin (P := fun _ T => Q none (mst T h)) hf hQ
      · rw [if_neg hb1] at hf
        refine r_ic_f (t := 58) fe_241_5 (by decide) (Bool.eq_false_iff.mpr hb1) ?_
        refine r_aload_n fe_241_8 rfl ?_
        refine mr_getf hh fe_241_9 lf_12_541 rfl ?_
        by_cases hb2 : am_if .eq (S.1 57) = true
        · rw [if_pos hb2] at hf
          refine r_if_t (t := 30) fe_241_12 (by decide) hb2 ?_
          refine r_aload_n fe_241_30 rfl ?_
          refine mr_getf hh fe_241_31 lf_12_133 rfl ?_
          refine r_aload_n fe_241_34 rfl ?_
          refine mr_getf hh fe_241_35 lf_12_544 rfl ?_
          refine r_aload_n fe_241_38 rfl ?_
          refine r_iload_n fe_241_39 rfl ?_
          by_cases hg3 : ¬ (l2 < 0 ∨ 2280 ≤ (l2).toNatClampNeg)
          rotate_left
          · rw [if_neg hg3] at hf; cases hf
          rw [if_pos hg3] at hf
          refine r_iald (j := (Int32.toNatClampNeg l2)) (v := S.2.1 35 (Int32.toNatClampNeg l2)) fe_241_40 m_c_35 (m_lt hh (by decide)) (fun z => hg3 (Or.inl z)) rfl (fun z => hg3 (Or.inr z)) rfl ?_
          by_cases hg4 : ¬ ((S.1 56) < 0 ∨ 12500 ≤ ((S.1 56)).toNatClampNeg)
          rotate_left
          · rw [if_neg hg4] at hf; cases hf
          rw [if_pos hg4] at hf
          refine mr_iast (k := 40) (n := 12500) (j := (Int32.toNatClampNeg (S.1 56))) hh fe_241_41 rfl (by decide) (by decide) rfl rfl (fun z => hg4 (Or.inl z)) rfl (fun z => hg4 (Or.inr z)) ?_
          refine r_aload_n fe_241_42 rfl ?_
          refine r_dup fe_241_43 rfl ?_
          refine mr_getf hh fe_241_44 lf_12_544 rfl ?_
          refine r_iconst (v := 1) fe_241_47 (by decide) ?_
          refine r_iadd (v := (((m_sA S 40 (Int32.toNatClampNeg (S.1 56)) (S.2.1 35 (Int32.toNatClampNeg l2))).1 56) + 1)) fe_241_48 rfl ?_
          refine mr_putf hh fe_241_49 lf_12_544 (m_f_56 _ _) (by decide) rfl rfl rfl ?_
          refine r_iinc (v := (l2 + 1)) fe_241_52 rfl rfl rfl ?_
          refine r_goto (t := 2) fe_241_55 (by decide) ?_
          refine go_weak (L0 := [.ref 130, .ref 165, .int (l2 + 1)]) (lwk_c (Or.inl rfl) (lwk_c (Or.inl rfl) (lwk_c (Or.inl rfl) (lwk_rf [])))) ?_
          exact ih.2 (l2 + 1) (m_sI (m_sA S 40 (Int32.toNatClampNeg (S.1 56)) (S.2.1 35 (Int32.toNatClampNeg l2))) 56 (((m_sA S 40 (Int32.toNatClampNeg (S.1 56)) (S.2.1 35 (Int32.toNatClampNeg l2))).1 56) + 1)) hf
        · rw [if_neg hb2] at hf
          refine r_if_f (t := 30) fe_241_12 (by decide) (Bool.eq_false_iff.mpr hb2) ?_
          refine r_aload_n fe_241_15 rfl ?_
          refine r_iload_n fe_241_16 rfl ?_
          refine r_aload_n fe_241_17 rfl ?_
          refine mr_getf hh fe_241_18 lf_12_133 rfl ?_
          refine r_aload_n fe_241_21 rfl ?_
          refine mr_getf hh fe_241_22 lf_12_544 rfl ?_
          by_cases hg5 : ¬ ((S.1 56) < 0 ∨ 12500 ≤ ((S.1 56)).toNatClampNeg)
          rotate_left
          · rw [if_neg hg5] at hf; cases hf
          rw [if_pos hg5] at hf
          refine r_iald (j := (Int32.toNatClampNeg (S.1 56))) (v := S.2.1 40 (Int32.toNatClampNeg (S.1 56))) fe_241_25 m_c_40 (m_lt hh (by decide)) (fun z => hg5 (Or.inl z)) rfl (fun z => hg5 (Or.inr z)) rfl ?_
          by_cases hg6 : ¬ (l2 < 0 ∨ 2280 ≤ (l2).toNatClampNeg)
          rotate_left
          · rw [if_neg hg6] at hf; cases hf
          rw [if_pos hg6] at hf
          refine mr_iast (k := 35) (n := 2280) (j := (Int32.toNatClampNeg l2)) hh fe_241_26 rfl (by decide) (by decide) rfl rfl (fun z => hg6 (Or.inl z)) rfl (fun z => hg6 (Or.inr z)) ?_
          refine r_goto (t := 42) fe_241_27 (by decide) ?_
          refine r_aload_n fe_241_42 rfl ?_
          refine r_dup fe_241_43 rfl ?_
          refine mr_getf hh fe_241_44 lf_12_544 rfl ?_
          refine r_iconst (v := 1) fe_241_47 (by decide) ?_
          refine r_iadd (v := (((m_sA S 35 (Int32.toNatClampNeg l2) (S.2.1 40 (Int32.toNatClampNeg (S.1 56)))).1 56) + 1)) fe_241_48 rfl ?_
          refine mr_putf hh fe_241_49 lf_12_544 (m_f_56 _ _) (by decide) rfl rfl rfl ?_
          refine r_iinc (v := (l2 + 1)) fe_241_52 rfl rfl rfl ?_
          refine r_goto (t := 2) fe_241_55 (by decide) ?_
          refine go_weak (L0 := [.ref 130, .ref 165, .int (l2 + 1)]) (lwk_c (Or.inl rfl) (lwk_c (Or.inl rfl) (lwk_c (Or.inl rfl) (lwk_rf [])))) ?_
          exact ih.2 (l2 + 1) (m_sI (m_sA S 35 (Int32.toNatClampNeg l2) (S.2.1 40 (Int32.toNatClampNeg (S.1 56)))) 56 (((m_sA S 35 (Int32.toNatClampNeg l2) (S.2.1 40 (Int32.toNatClampNeg (S.1 56)))).1 56) + 1)) hf
theorem F241_165c {xs : Nat → Int32} {L9 d n : Nat} {h : AmH} {Q : Option Value → AmH → Prop} {r0 : Unit} {S0 S : mS}  (hh : 172 ≤ h.2.1) (hf : F241_165 n  S = some (r0, S0)) (hQ : Q none (mst S0 h)) : Ca (am_X xs L9) (d + 0) 241 [.ref 130, .ref 165] (mst S h) Q := (F241_165l hh hQ n).1 0 S hf
def F240b0 (F : Nat → Int32 → Int32 → mS → Option (Unit × mS)) (n : Nat) (l1 : Int32) (l2 : Int32) (S : mS) : Option (Unit × mS) := (if (narrow .boolean (.int l2) = .int l2 ∧ fits .boolean (.int l2) = true) then ((F241_166 n  (m_sA (m_sI (m_sI S 56 (2500 * l1)) 57 l2) 36 0 ((m_sI (m_sI S 56 (2500 * l1)) 57 l2).1 47))).bind (fun z2 => ((F241_131 n  (m_sI z2.2 47 (z2.2.2.1 36 0))).bind (fun z4 => ((F241_132 n  z4.2).bind (fun z6 => ((F241_133 n  z6.2).bind (fun z8 => ((F241_134 n  z8.2).bind (fun z10 => ((F241_135 n  z10.2).bind (fun z12 => ((F241_136 n  z12.2).bind (fun z14 => ((F241_137 n  z14.2).bind (fun z16 => ((F241_138 n  z16.2).bind (fun z18 => ((F241_139 n  z18.2).bind (fun z20 => ((F241_140 n  z20.2).bind (fun z22 => ((F241_141 n  z22.2).bind (fun z24 => ((F241_142 n  z24.2).bind (fun z26 => ((F241_143 n  z26.2).bind (fun z28 => ((F241_144 n  z28.2).bind (fun z30 => ((F241_145 n  z30.2).bind (fun z32 => (if am_ic .ge l1 4 = true then some ((), z32.2) else ((F241_165 n  z32.2).bind (fun z35 => some ((), z35.2)))))))))))))))))))))))))))))))))))) else none)
def F240f : Nat → Nat → Int32 → Int32 → mS → Option (Unit × mS)
  | 0, _, _, _, _ => none
  | n + 1, c, l1, l2, S => F240b0 (F240f n) n l1 l2 S
theorem F240e0 (n : Nat) (l1 : Int32) (l2 : Int32) (S : mS) : F240f (n + 1) 0 l1 l2 S = F240b0 (F240f n) n l1 l2 S := rfl
def F240 (n : Nat) (l1 : Int32) (l2 : Int32) (S : mS) : Option (Unit × mS) := F240f n 0 l1 l2 S
set_option maxRecDepth 20000 in
set_option maxHeartbeats 2000000 in
theorem F240l {xs : Nat → Int32} {L9 d : Nat} {h : AmH} {Q : Option Value → AmH → Prop} {r0 : Unit} {S0 : mS} (hh : 172 ≤ h.2.1) (hQ : Q none (mst S0 h)) : ∀ n : Nat, (∀ (l1 : Int32) (l2 : Int32) (S : mS), F240f n 0 l1 l2 S = some (r0, S0) → Go (am_X xs L9) (d + 1) 240 0 [.ref 130, .int l1, .int l2] [] (mst S h) Q) := by
  intro n
  induction n with
  | zero => exact fun l1 l2 S hf => (by cases hf)
  | succ n ih =>
    intro l1 l2 S hf
    rw [F240e0] at hf
    unfold F240b0 at hf
    refine r_aload_n fe_240_0 rfl ?_
    refine r_sipush (v := 2500) fe_240_1 (by decide) ?_
    refine r_iload_n fe_240_4 rfl ?_
    refine r_imul (v := (2500 * l1)) fe_240_5 rfl ?_
    refine mr_putf hh fe_240_6 lf_12_544 (m_f_56 _ _) (by decide) rfl rfl rfl ?_
    refine r_aload_n fe_240_9 rfl ?_
    refine r_iload_n fe_240_10 rfl ?_
    by_cases hz1 : (narrow .boolean (.int l2) = .int l2 ∧ fits .boolean (.int l2) = true)
    rotate_left
    · rw [if_neg hz1] at hf; cases hf
    rw [if_pos hz1] at hf
    refine mr_putf hh fe_240_11 lf_12_541 (m_f_57 _ _) (by decide) hz1.2 hz1.1 rfl ?_
    refine r_aload_n fe_240_14 rfl ?_
    refine mr_getf hh fe_240_15 lf_12_121 rfl ?_
    refine r_iconst (v := 0) fe_240_18 (by decide) ?_
    refine r_aload_n fe_240_19 rfl ?_
    refine mr_getf hh fe_240_20 lf_12_346 rfl ?_
    refine mr_iast (k := 36) (n := 1) (j := 0) hh fe_240_23 rfl (by decide) (by decide) rfl rfl (by decide) (by decide) (by decide) ?_
    refine r_aload_n fe_240_24 rfl ?_
    refine r_aload_n fe_240_25 rfl ?_
    refine mr_getf hh fe_240_26 lf_12_121 rfl ?_
    refine r_callV (as := [.ref 166]) (r := []) fe_240_29 lm_12_547 md_241 rfl rfl (Nat.le_of_ble_eq_true rfl) m_c_0 (m_lt hh (by decide)) (Nat.le_of_ble_eq_true rfl) (Nat.le_of_ble_eq_true rfl) ?_
    cases hc3 : F241_166 n  (m_sA (m_sI (m_sI S 56 (2500 * l1)) 57 l2) 36 0 ((m_sI (m_sI S 56 (2500 * l1)) 57 l2).1 47)) with
    | none => rw [hc3] at hf; cases hf
    | some z2 =>
      rw [hc3, Option.bind_some] at hf
      refine F241_166c (r0 := z2.1) (S0 := z2.2) hh hc3 ?_
      refine r_aload_n fe_240_32 rfl ?_
      refine r_aload_n fe_240_33 rfl ?_
      refine mr_getf hh fe_240_34 lf_12_121 rfl ?_
      refine r_iconst (v := 0) fe_240_37 (by decide) ?_
      refine r_iald (j := 0) (v := z2.2.2.1 36 0) fe_240_38 m_c_36 (m_lt hh (by decide)) (by decide) (by decide) (by decide) rfl ?_
      refine mr_putf hh fe_240_39 lf_12_346 (m_f_47 _ _) (by decide) rfl rfl rfl ?_
      refine r_aload_n fe_240_42 rfl ?_
      refine r_aload_n fe_240_43 rfl ?_
      refine mr_getf hh fe_240_44 lf_12_9 rfl ?_
      refine r_callV (as := [.ref 131]) (r := []) fe_240_47 lm_12_547 md_241 rfl rfl (Nat.le_of_ble_eq_true rfl) m_c_0 (m_lt hh (by decide)) (Nat.le_of_ble_eq_true rfl) (Nat.le_of_ble_eq_true rfl) ?_
      cases hc5 : F241_131 n  (m_sI z2.2 47 (z2.2.2.1 36 0)) with
      | none => rw [hc5] at hf; cases hf
      | some z4 =>
        rw [hc5, Option.bind_some] at hf
        refine F241_131c (r0 := z4.1) (S0 := z4.2) hh hc5 ?_
        refine r_aload_n fe_240_50 rfl ?_
        refine r_aload_n fe_240_51 rfl ?_
        refine mr_getf hh fe_240_52 lf_12_13 rfl ?_
        refine r_callV (as := [.ref 132]) (r := []) fe_240_55 lm_12_547 md_241 rfl rfl (Nat.le_of_ble_eq_true rfl) m_c_0 (m_lt hh (by decide)) (Nat.le_of_ble_eq_true rfl) (Nat.le_of_ble_eq_true rfl) ?_
        cases hc7 : F241_132 n  z4.2 with
        | none => rw [hc7] at hf; cases hf
        | some z6 =>
          rw [hc7, Option.bind_some] at hf
          refine F241_132c (r0 := z6.1) (S0 := z6.2) hh hc7 ?_
          refine r_aload_n fe_240_58 rfl ?_
          refine r_aload_n fe_240_59 rfl ?_
          refine mr_getf hh fe_240_60 lf_12_16 rfl ?_
          refine r_callV (as := [.ref 133]) (r := []) fe_240_63 lm_12_547 md_241 rfl rfl (Nat.le_of_ble_eq_true rfl) m_c_0 (m_lt hh (by decide)) (Nat.le_of_ble_eq_true rfl) (Nat.le_of_ble_eq_true rfl) ?_
          cases hc9 : F241_133 n  z6.2 with
          | none => rw [hc9] at hf; cases hf
          | some z8 =>
            rw [hc9, Option.bind_some] at hf
            refine F241_133c (r0 := z8.1) (S0 := z8.2) hh hc9 ?_
            refine r_aload_n fe_240_66 rfl ?_
            refine r_aload_n fe_240_67 rfl ?_
            refine mr_getf hh fe_240_68 lf_12_19 rfl ?_
            refine r_callV (as := [.ref 134]) (r := []) fe_240_71 lm_12_547 md_241 rfl rfl (Nat.le_of_ble_eq_true rfl) m_c_0 (m_lt hh (by decide)) (Nat.le_of_ble_eq_true rfl) (Nat.le_of_ble_eq_true rfl) ?_
            cases hc11 : F241_134 n  z8.2 with
            | none => rw [hc11] at hf; cases hf
            | some z10 =>
              rw [hc11, Option.bind_some] at hf
              refine F241_134c (r0 := z10.1) (S0 := z10.2) hh hc11 ?_
              refine r_aload_n fe_240_74 rfl ?_
              refine r_aload_n fe_240_75 rfl ?_
              refine mr_getf hh fe_240_76 lf_12_22 rfl ?_
              refine r_callV (as := [.ref 135]) (r := []) fe_240_79 lm_12_547 md_241 rfl rfl (Nat.le_of_ble_eq_true rfl) m_c_0 (m_lt hh (by decide)) (Nat.le_of_ble_eq_true rfl) (Nat.le_of_ble_eq_true rfl) ?_
              cases hc13 : F241_135 n  z10.2 with
              | none => rw [hc13] at hf; cases hf
              | some z12 =>
                rw [hc13, Option.bind_some] at hf
                refine F241_135c (r0 := z12.1) (S0 := z12.2) hh hc13 ?_
                refine r_aload_n fe_240_82 rfl ?_
                refine r_aload_n fe_240_83 rfl ?_
                refine mr_getf hh fe_240_84 lf_12_25 rfl ?_
                refine r_callV (as := [.ref 136]) (r := []) fe_240_87 lm_12_547 md_241 rfl rfl (Nat.le_of_ble_eq_true rfl) m_c_0 (m_lt hh (by decide)) (Nat.le_of_ble_eq_true rfl) (Nat.le_of_ble_eq_true rfl) ?_
                cases hc15 : F241_136 n  z12.2 with
                | none => rw [hc15] at hf; cases hf
                | some z14 =>
                  rw [hc15, Option.bind_some] at hf
                  refine F241_136c (r0 := z14.1) (S0 := z14.2) hh hc15 ?_
                  refine r_aload_n fe_240_90 rfl ?_
                  refine r_aload_n fe_240_91 rfl ?_
                  refine mr_getf hh fe_240_92 lf_12_28 rfl ?_
                  refine r_callV (as := [.ref 137]) (r := []) fe_240_95 lm_12_547 md_241 rfl rfl (Nat.le_of_ble_eq_true rfl) m_c_0 (m_lt hh (by decide)) (Nat.le_of_ble_eq_true rfl) (Nat.le_of_ble_eq_true rfl) ?_
                  cases hc17 : F241_137 n  z14.2 with
                  | none => rw [hc17] at hf; cases hf
                  | some z16 =>
                    rw [hc17, Option.bind_some] at hf
                    refine F241_137c (r0 := z16.1) (S0 := z16.2) hh hc17 ?_
                    refine r_aload_n fe_240_98 rfl ?_
                    refine r_aload_n fe_240_99 rfl ?_
                    refine mr_getf hh fe_240_100 lf_12_31 rfl ?_
                    refine r_callV (as := [.ref 138]) (r := []) fe_240_103 lm_12_547 md_241 rfl rfl (Nat.le_of_ble_eq_true rfl) m_c_0 (m_lt hh (by decide)) (Nat.le_of_ble_eq_true rfl) (Nat.le_of_ble_eq_true rfl) ?_
                    cases hc19 : F241_138 n  z16.2 with
                    | none => rw [hc19] at hf; cases hf
                    | some z18 =>
                      rw [hc19, Option.bind_some] at hf
                      refine F241_138c (r0 := z18.1) (S0 := z18.2) hh hc19 ?_
                      refine r_aload_n fe_240_106 rfl ?_
                      refine r_aload_n fe_240_107 rfl ?_
                      refine mr_getf hh fe_240_108 lf_12_34 rfl ?_
                      refine r_callV (as := [.ref 139]) (r := []) fe_240_111 lm_12_547 md_241 rfl rfl (Nat.le_of_ble_eq_true rfl) m_c_0 (m_lt hh (by decide)) (Nat.le_of_ble_eq_true rfl) (Nat.le_of_ble_eq_true rfl) ?_
                      cases hc21 : F241_139 n  z18.2 with
                      | none => rw [hc21] at hf; cases hf
                      | some z20 =>
                        rw [hc21, Option.bind_some] at hf
                        refine F241_139c (r0 := z20.1) (S0 := z20.2) hh hc21 ?_
                        refine r_aload_n fe_240_114 rfl ?_
                        refine r_aload_n fe_240_115 rfl ?_
                        refine mr_getf hh fe_240_116 lf_12_37 rfl ?_
                        refine r_callV (as := [.ref 140]) (r := []) fe_240_119 lm_12_547 md_241 rfl rfl (Nat.le_of_ble_eq_true rfl) m_c_0 (m_lt hh (by decide)) (Nat.le_of_ble_eq_true rfl) (Nat.le_of_ble_eq_true rfl) ?_
                        cases hc23 : F241_140 n  z20.2 with
                        | none => rw [hc23] at hf; cases hf
                        | some z22 =>
                          rw [hc23, Option.bind_some] at hf
                          refine F241_140c (r0 := z22.1) (S0 := z22.2) hh hc23 ?_
                          refine r_aload_n fe_240_122 rfl ?_
                          refine r_aload_n fe_240_123 rfl ?_
                          refine mr_getf hh fe_240_124 lf_12_40 rfl ?_
                          refine r_callV (as := [.ref 141]) (r := []) fe_240_127 lm_12_547 md_241 rfl rfl (Nat.le_of_ble_eq_true rfl) m_c_0 (m_lt hh (by decide)) (Nat.le_of_ble_eq_true rfl) (Nat.le_of_ble_eq_true rfl) ?_
                          cases hc25 : F241_141 n  z22.2 with
                          | none => rw [hc25] at hf; cases hf
                          | some z24 =>
                            rw [hc25, Option.bind_some] at hf
                            refine F241_141c (r0 := z24.1) (S0 := z24.2) hh hc25 ?_
                            refine r_aload_n fe_240_130 rfl ?_
                            refine r_aload_n fe_240_131 rfl ?_
                            refine mr_getf hh fe_240_132 lf_12_43 rfl ?_
                            refine r_callV (as := [.ref 142]) (r := []) fe_240_135 lm_12_547 md_241 rfl rfl (Nat.le_of_ble_eq_true rfl) m_c_0 (m_lt hh (by decide)) (Nat.le_of_ble_eq_true rfl) (Nat.le_of_ble_eq_true rfl) ?_
                            cases hc27 : F241_142 n  z24.2 with
                            | none => rw [hc27] at hf; cases hf
                            | some z26 =>
                              rw [hc27, Option.bind_some] at hf
                              refine F241_142c (r0 := z26.1) (S0 := z26.2) hh hc27 ?_
                              refine r_aload_n fe_240_138 rfl ?_
                              refine r_aload_n fe_240_139 rfl ?_
                              refine mr_getf hh fe_240_140 lf_12_46 rfl ?_
                              refine r_callV (as := [.ref 143]) (r := []) fe_240_143 lm_12_547 md_241 rfl rfl (Nat.le_of_ble_eq_true rfl) m_c_0 (m_lt hh (by decide)) (Nat.le_of_ble_eq_true rfl) (Nat.le_of_ble_eq_true rfl) ?_
                              cases hc29 : F241_143 n  z26.2 with
                              | none => rw [hc29] at hf; cases hf
                              | some z28 =>
                                rw [hc29, Option.bind_some] at hf
                                refine F241_143c (r0 := z28.1) (S0 := z28.2) hh hc29 ?_
                                refine r_aload_n fe_240_146 rfl ?_
                                refine r_aload_n fe_240_147 rfl ?_
                                refine mr_getf hh fe_240_148 lf_12_49 rfl ?_
                                refine r_callV (as := [.ref 144]) (r := []) fe_240_151 lm_12_547 md_241 rfl rfl (Nat.le_of_ble_eq_true rfl) m_c_0 (m_lt hh (by decide)) (Nat.le_of_ble_eq_true rfl) (Nat.le_of_ble_eq_true rfl) ?_
                                cases hc31 : F241_144 n  z28.2 with
                                | none => rw [hc31] at hf; cases hf
                                | some z30 =>
                                  rw [hc31, Option.bind_some] at hf
                                  refine F241_144c (r0 := z30.1) (S0 := z30.2) hh hc31 ?_
                                  refine r_aload_n fe_240_154 rfl ?_
                                  refine r_aload_n fe_240_155 rfl ?_
                                  refine mr_getf hh fe_240_156 lf_12_52 rfl ?_
                                  refine r_callV (as := [.ref 145]) (r := []) fe_240_159 lm_12_547 md_241 rfl rfl (Nat.le_of_ble_eq_true rfl) m_c_0 (m_lt hh (by decide)) (Nat.le_of_ble_eq_true rfl) (Nat.le_of_ble_eq_true rfl) ?_
                                  cases hc33 : F241_145 n  z30.2 with
                                  | none => rw [hc33] at hf; cases hf
                                  | some z32 =>
                                    rw [hc33, Option.bind_some] at hf
                                    refine F241_145c (r0 := z32.1) (S0 := z32.2) hh hc33 ?_
                                    refine r_iload_n fe_240_162 rfl ?_
                                    refine r_iconst (v := 4) fe_240_163 (by decide) ?_
                                    by_cases hb34 : am_ic .ge l1 4 = true
                                    · rw [if_pos hb34] at hf
                                      refine r_ic_t (t := 175) fe_240_164 (by decide) hb34 ?_
                                      refine r_vret fe_240_175 ?_
                                      exact dfin (P := fun _ T => Q none (mst T h)) hf hQ
                                    · rw [if_neg hb34] at hf
                                      refine r_ic_f (t := 175) fe_240_164 (by decide) (Bool.eq_false_iff.mpr hb34) ?_
                                      refine r_aload_n fe_240_167 rfl ?_
                                      refine r_aload_n fe_240_168 rfl ?_
                                      refine mr_getf hh fe_240_169 lf_12_118 rfl ?_
                                      refine r_callV (as := [.ref 165]) (r := []) fe_240_172 lm_12_547 md_241 rfl rfl (Nat.le_of_ble_eq_true rfl) m_c_0 (m_lt hh (by decide)) (Nat.le_of_ble_eq_true rfl) (Nat.le_of_ble_eq_true rfl) ?_
                                      cases hc36 : F241_165 n  z32.2 with
                                      | none => rw [hc36] at hf; cases hf
                                      | some z35 =>
                                        rw [hc36, Option.bind_some] at hf
                                        refine F241_165c (r0 := z35.1) (S0 := z35.2) hh hc36 ?_
                                        refine r_vret fe_240_175 ?_
                                        exact dfin (P := fun _ T => Q none (mst T h)) hf hQ
theorem F240c {xs : Nat → Int32} {L9 d n : Nat} {h : AmH} {Q : Option Value → AmH → Prop} {r0 : Unit} {S0 S : mS} {l1 : Int32} {l2 : Int32} (hh : 172 ≤ h.2.1) (hf : F240 n l1 l2 S = some (r0, S0)) (hQ : Q none (mst S0 h)) : Ca (am_X xs L9) (d + 1) 240 [.ref 130, .int l1, .int l2] (mst S h) Q := (F240l hh hQ n) l1 l2 S hf
def F239b0 (F : Nat → mS → Option (Unit × mS)) (n : Nat)  (S : mS) : Option (Unit × mS) := ((F240 n 4 0 S).bind (fun z1 => some ((), z1.2)))
def F239f : Nat → Nat → mS → Option (Unit × mS)
  | 0, _, _ => none
  | n + 1, c, S => F239b0 (F239f n) n  S
theorem F239e0 (n : Nat)  (S : mS) : F239f (n + 1) 0  S = F239b0 (F239f n) n  S := rfl
def F239 (n : Nat)  (S : mS) : Option (Unit × mS) := F239f n 0  S
set_option maxRecDepth 20000 in
set_option maxHeartbeats 2000000 in
theorem F239l {xs : Nat → Int32} {L9 d : Nat} {h : AmH} {Q : Option Value → AmH → Prop} {r0 : Unit} {S0 : mS} (hh : 172 ≤ h.2.1) (hQ : Q none (mst S0 h)) : ∀ n : Nat, (∀ (S : mS), F239f n 0 S = some (r0, S0) → Go (am_X xs L9) (d + 2) 239 0 [.ref 130] [] (mst S h) Q) := by
  intro n
  induction n with
  | zero => exact fun  S hf => (by cases hf)
  | succ n ih =>
    intro  S hf
    rw [F239e0] at hf
    unfold F239b0 at hf
    refine r_aload_n fe_239_0 rfl ?_
    refine r_iconst (v := 4) fe_239_1 (by decide) ?_
    refine r_iconst (v := 0) fe_239_2 (by decide) ?_
    refine r_callV (as := [.int 4, .int 0]) (r := []) fe_239_3 lm_12_481 md_240 rfl rfl (Nat.le_of_ble_eq_true rfl) m_c_0 (m_lt hh (by decide)) (Nat.le_of_ble_eq_true rfl) (Nat.le_of_ble_eq_true rfl) ?_
    cases hc2 : F240 n 4 0 S with
    | none => rw [hc2] at hf; cases hf
    | some z1 =>
      rw [hc2, Option.bind_some] at hf
      refine F240c (r0 := z1.1) (S0 := z1.2) hh hc2 ?_
      refine r_vret fe_239_6 ?_
      exact dfin (P := fun _ T => Q none (mst T h)) hf hQ
theorem F239c {xs : Nat → Int32} {L9 d n : Nat} {h : AmH} {Q : Option Value → AmH → Prop} {r0 : Unit} {S0 S : mS}  (hh : 172 ≤ h.2.1) (hf : F239 n  S = some (r0, S0)) (hQ : Q none (mst S0 h)) : Ca (am_X xs L9) (d + 2) 239 [.ref 130] (mst S h) Q := (F239l hh hQ n)  S hf
def F242b0 (F : Nat → Int32 → Int32 → mS → Option (Unit × mS)) (n : Nat) (l1 : Int32) (l2 : Int32) (S : mS) : Option (Unit × mS) := F 2 l1 0 S
def F242b2 (F : Nat → Int32 → Int32 → mS → Option (Unit × mS)) (n : Nat) (l1 : Int32) (l2 : Int32) (S : mS) : Option (Unit × mS) := (if am_ic .ge l2 l1 = true then some ((), S) else ((F212 n  S).bind (fun z2 => F 2 l1 (l2 + 1) z2.2)))
def F242f : Nat → Nat → Int32 → Int32 → mS → Option (Unit × mS)
  | 0, _, _, _, _ => none
  | n + 1, c, l1, l2, S => if c = 0 then F242b0 (F242f n) n l1 l2 S else F242b2 (F242f n) n l1 l2 S
theorem F242e0 (n : Nat) (l1 : Int32) (l2 : Int32) (S : mS) : F242f (n + 1) 0 l1 l2 S = F242b0 (F242f n) n l1 l2 S := if_pos rfl
theorem F242e2 (n : Nat) (l1 : Int32) (l2 : Int32) (S : mS) : F242f (n + 1) 2 l1 l2 S = F242b2 (F242f n) n l1 l2 S := if_neg (by decide)
def F242 (n : Nat) (l1 : Int32) (S : mS) : Option (Unit × mS) := F242f n 0 l1 0 S
set_option maxRecDepth 20000 in
set_option maxHeartbeats 2000000 in
theorem F242l {xs : Nat → Int32} {L9 d : Nat} {h : AmH} {Q : Option Value → AmH → Prop} {r0 : Unit} {S0 : mS} (hh : 172 ≤ h.2.1) (hQ : Q none (mst S0 h)) : ∀ n : Nat, (∀ (l1 : Int32) (l2 : Int32) (S : mS), F242f n 0 l1 l2 S = some (r0, S0) → Go (am_X xs L9) (d + 7) 242 0 [.ref 130, .int l1, .float 0] [] (mst S h) Q) ∧ (∀ (l1 : Int32) (l2 : Int32) (S : mS), F242f n 2 l1 l2 S = some (r0, S0) → Go (am_X xs L9) (d + 7) 242 2 [.ref 130, .int l1, .int l2] [] (mst S h) Q) := by
  intro n
  induction n with
  | zero => exact ⟨fun l1 l2 S hf => (by cases hf), fun l1 l2 S hf => (by cases hf)⟩
  | succ n ih =>
    refine ⟨?_, ?_⟩
    · intro l1 l2 S hf
      rw [F242e0] at hf
      unfold F242b0 at hf
      refine r_iconst (v := 0) fe_242_0 (by decide) ?_
      refine r_istore_n fe_242_1 (Nat.le_of_ble_eq_true rfl) rfl ?_
      refine go_weak (L0 := [.ref 130, .int l1, .int 0]) (lwk_c (Or.inl rfl) (lwk_c (Or.inl rfl) (lwk_c (Or.inl rfl) (lwk_rf [])))) ?_
      exact ih.2 l1 0 S hf
    · intro l1 l2 S hf
      rw [F242e2] at hf
      unfold F242b2 at hf
      refine r_iload_n fe_242_2 rfl ?_
      refine r_iload_n fe_242_3 rfl ?_
      by_cases hb1 : am_ic .ge l2 l1 = true
      · rw [if_pos hb1] at hf
        refine r_ic_t (t := 18) fe_242_4 (by decide) hb1 ?_
        refine r_vret fe_242_18 ?_
        exact dfin (P := fun _ T => Q none (mst T h)) hf hQ
      · rw [if_neg hb1] at hf
        refine r_ic_f (t := 18) fe_242_4 (by decide) (Bool.eq_false_iff.mpr hb1) ?_
        refine r_aload_n fe_242_7 rfl ?_
        refine r_callV (as := []) (r := []) fe_242_8 lm_12_463 md_212 rfl rfl (Nat.le_of_ble_eq_true rfl) m_c_0 (m_lt hh (by decide)) (Nat.le_of_ble_eq_true rfl) (Nat.le_of_ble_eq_true rfl) ?_
        cases hc3 : F212 n  S with
        | none => rw [hc3] at hf; cases hf
        | some z2 =>
          rw [hc3, Option.bind_some] at hf
          refine F212c (r0 := z2.1) (S0 := z2.2) hh hc3 ?_
          refine r_pop fe_242_11 rfl ?_
          refine r_iinc (v := (l2 + 1)) fe_242_12 rfl rfl rfl ?_
          refine r_goto (t := 2) fe_242_15 (by decide) ?_
          refine go_weak (L0 := [.ref 130, .int l1, .int (l2 + 1)]) (lwk_c (Or.inl rfl) (lwk_c (Or.inl rfl) (lwk_c (Or.inl rfl) (lwk_rf [])))) ?_
          exact ih.2 l1 (l2 + 1) z2.2 hf
theorem F242c {xs : Nat → Int32} {L9 d n : Nat} {h : AmH} {Q : Option Value → AmH → Prop} {r0 : Unit} {S0 S : mS} {l1 : Int32} (hh : 172 ≤ h.2.1) (hf : F242 n l1 S = some (r0, S0)) (hQ : Q none (mst S0 h)) : Ca (am_X xs L9) (d + 7) 242 [.ref 130, .int l1] (mst S h) Q := (F242l hh hQ n).1 l1 0 S hf
def F243b0 (F : Nat → mS → Option (Unit × mS)) (n : Nat)  (S : mS) : Option (Unit × mS) := ((F240 n 4 1 S).bind (fun z1 => some ((), z1.2)))
def F243f : Nat → Nat → mS → Option (Unit × mS)
  | 0, _, _ => none
  | n + 1, c, S => F243b0 (F243f n) n  S
theorem F243e0 (n : Nat)  (S : mS) : F243f (n + 1) 0  S = F243b0 (F243f n) n  S := rfl
def F243 (n : Nat)  (S : mS) : Option (Unit × mS) := F243f n 0  S
set_option maxRecDepth 20000 in
set_option maxHeartbeats 2000000 in
theorem F243l {xs : Nat → Int32} {L9 d : Nat} {h : AmH} {Q : Option Value → AmH → Prop} {r0 : Unit} {S0 : mS} (hh : 172 ≤ h.2.1) (hQ : Q none (mst S0 h)) : ∀ n : Nat, (∀ (S : mS), F243f n 0 S = some (r0, S0) → Go (am_X xs L9) (d + 2) 243 0 [.ref 130] [] (mst S h) Q) := by
  intro n
  induction n with
  | zero => exact fun  S hf => (by cases hf)
  | succ n ih =>
    intro  S hf
    rw [F243e0] at hf
    unfold F243b0 at hf
    refine r_aload_n fe_243_0 rfl ?_
    refine r_iconst (v := 4) fe_243_1 (by decide) ?_
    refine r_iconst (v := 1) fe_243_2 (by decide) ?_
    refine r_callV (as := [.int 4, .int 1]) (r := []) fe_243_3 lm_12_481 md_240 rfl rfl (Nat.le_of_ble_eq_true rfl) m_c_0 (m_lt hh (by decide)) (Nat.le_of_ble_eq_true rfl) (Nat.le_of_ble_eq_true rfl) ?_
    cases hc2 : F240 n 4 1 S with
    | none => rw [hc2] at hf; cases hf
    | some z1 =>
      rw [hc2, Option.bind_some] at hf
      refine F240c (r0 := z1.1) (S0 := z1.2) hh hc2 ?_
      refine r_vret fe_243_6 ?_
      exact dfin (P := fun _ T => Q none (mst T h)) hf hQ
theorem F243c {xs : Nat → Int32} {L9 d n : Nat} {h : AmH} {Q : Option Value → AmH → Prop} {r0 : Unit} {S0 S : mS}  (hh : 172 ≤ h.2.1) (hf : F243 n  S = some (r0, S0)) (hQ : Q none (mst S0 h)) : Ca (am_X xs L9) (d + 2) 243 [.ref 130] (mst S h) Q := (F243l hh hQ n)  S hf
def F238b0 (F : Nat → Int32 → Int32 → Int32 → mS → Option (Int32 × mS)) (n : Nat) (l1 : Int32) (l2 : Int32) (l3 : Int32) (S : mS) : Option (Int32 × mS) := ((F204 n l1 S).bind (fun z1 => (if am_if .eq z1.1 = true then some ((-2), z1.2) else ((F172 n (Int32.toInt64 l2) 0 60 z1.2).bind (fun z4 => (if am_if .eq z4.1 = true then some ((-2), z4.2) else ((F172 n (Int32.toInt64 l3) 0 2 z4.2).bind (fun z7 => (if am_if .ne z7.1 = true then ((F239 n  z7.2).bind (fun z10 => ((F242 n l2 z10.2).bind (fun z12 => (if am_if .ne l3 = true then (if am_ic .ne l3 1 = true then (if ¬ (l1 < 0 ∨ 13 ≤ (l1).toNatClampNeg) then ((F243 n  z12.2).bind (fun z17 => some ((z12.2.2.1 13 (Int32.toNatClampNeg l1)), z17.2))) else none) else (if ¬ (l1 < 0 ∨ 13 ≤ (l1).toNatClampNeg) then ((F243 n  z12.2).bind (fun z20 => some ((z12.2.2.1 11 (Int32.toNatClampNeg l1)), z20.2))) else none)) else ((F202 n l1 z12.2).bind (fun z22 => (if am_if .eq z22.1 = true then ((F243 n  z22.2).bind (fun z25 => some ((-1), z25.2))) else (if ¬ (l1 < 0 ∨ 13 ≤ (l1).toNatClampNeg) then ((F243 n  z22.2).bind (fun z28 => some ((z22.2.2.1 10 (Int32.toNatClampNeg l1)), z28.2))) else none))))))))) else some ((-2), z7.2))))))))))
def F238f : Nat → Nat → Int32 → Int32 → Int32 → mS → Option (Int32 × mS)
  | 0, _, _, _, _, _ => none
  | n + 1, c, l1, l2, l3, S => F238b0 (F238f n) n l1 l2 l3 S
theorem F238e0 (n : Nat) (l1 : Int32) (l2 : Int32) (l3 : Int32) (S : mS) : F238f (n + 1) 0 l1 l2 l3 S = F238b0 (F238f n) n l1 l2 l3 S := rfl
def F238 (n : Nat) (l1 : Int32) (l2 : Int32) (l3 : Int32) (S : mS) : Option (Int32 × mS) := F238f n 0 l1 l2 l3 S
set_option maxRecDepth 20000 in
set_option maxHeartbeats 2000000 in
theorem F238l {xs : Nat → Int32} {L9 d : Nat} {h : AmH} {Q : Option Value → AmH → Prop} {r0 : Int32} {S0 : mS} (hh : 172 ≤ h.2.1) (hQ : Q (some (.int r0)) (mst S0 h)) : ∀ n : Nat, (∀ (l1 : Int32) (l2 : Int32) (l3 : Int32) (S : mS), F238f n 0 l1 l2 l3 S = some (r0, S0) → Go (am_X xs L9) (d + 8) 238 0 [.ref 130, .int l1, .int l2, .int l3, .float 0] [] (mst S h) Q) := by
  intro n
  induction n with
  | zero => exact fun l1 l2 l3 S hf => (by cases hf)
  | succ n ih =>
    intro l1 l2 l3 S hf
    rw [F238e0] at hf
    unfold F238b0 at hf
    refine r_aload_n fe_238_0 rfl ?_
    refine r_iload_n fe_238_1 rfl ?_
    refine r_callV (as := [.int l1]) (r := []) fe_238_2 lm_12_396 md_204 rfl rfl (Nat.le_of_ble_eq_true rfl) m_c_0 (m_lt hh (by decide)) (Nat.le_of_ble_eq_true rfl) (Nat.le_of_ble_eq_true rfl) ?_
    cases hc2 : F204 n l1 S with
    | none => rw [hc2] at hf; cases hf
    | some z1 =>
      rw [hc2, Option.bind_some] at hf
      refine F204c (r0 := z1.1) (S0 := z1.2) hh hc2 ?_
      by_cases hb3 : am_if .eq z1.1 = true
      · rw [if_pos hb3] at hf
        refine r_if_t (t := 32) fe_238_5 (by decide) hb3 ?_
        refine r_bipush (v := -2) fe_238_32 (by decide) ?_
        refine r_iret fe_238_34 ⟨rfl, by decide⟩ ?_
        exact dfin (P := fun r T => Q (some (.int r)) (mst T h)) hf hQ
      · rw [if_neg hb3] at hf
        refine r_if_f (t := 32) fe_238_5 (by decide) (Bool.eq_false_iff.mpr hb3) ?_
        refine r_iload_n fe_238_8 rfl ?_
        refine r_i2l (v := (Int32.toInt64 l2)) fe_238_9 rfl ?_
        refine r_lconst (v := 0) fe_238_10 (by decide) ?_
        refine r_ldc2 fe_238_11 lk_12_484 ?_
        refine r_callS (as := [.long (Int32.toInt64 l2), .long 0, .long 60]) (r := []) fe_238_14 lm_12_143 md_172 rfl rfl (Nat.le_of_ble_eq_true rfl) (Nat.le_of_ble_eq_true rfl) (Nat.le_of_ble_eq_true rfl) ?_
        cases hc5 : F172 n (Int32.toInt64 l2) 0 60 z1.2 with
        | none => rw [hc5] at hf; cases hf
        | some z4 =>
          rw [hc5, Option.bind_some] at hf
          refine F172c (r0 := z4.1) (S0 := z4.2) hh hc5 ?_
          by_cases hb6 : am_if .eq z4.1 = true
          · rw [if_pos hb6] at hf
            refine r_if_t (t := 32) fe_238_17 (by decide) hb6 ?_
            refine r_bipush (v := -2) fe_238_32 (by decide) ?_
            refine r_iret fe_238_34 ⟨rfl, by decide⟩ ?_
            exact dfin (P := fun r T => Q (some (.int r)) (mst T h)) hf hQ
          · rw [if_neg hb6] at hf
            refine r_if_f (t := 32) fe_238_17 (by decide) (Bool.eq_false_iff.mpr hb6) ?_
            refine r_iload_n fe_238_20 rfl ?_
            refine r_i2l (v := (Int32.toInt64 l3)) fe_238_21 rfl ?_
            refine r_lconst (v := 0) fe_238_22 (by decide) ?_
            refine r_ldc2 fe_238_23 lk_12_486 ?_
            refine r_callS (as := [.long (Int32.toInt64 l3), .long 0, .long 2]) (r := []) fe_238_26 lm_12_143 md_172 rfl rfl (Nat.le_of_ble_eq_true rfl) (Nat.le_of_ble_eq_true rfl) (Nat.le_of_ble_eq_true rfl) ?_
            cases hc8 : F172 n (Int32.toInt64 l3) 0 2 z4.2 with
            | none => rw [hc8] at hf; cases hf
            | some z7 =>
              rw [hc8, Option.bind_some] at hf
              refine F172c (r0 := z7.1) (S0 := z7.2) hh hc8 ?_
              by_cases hb9 : am_if .ne z7.1 = true
              · rw [if_pos hb9] at hf
                refine r_if_t (t := 35) fe_238_29 (by decide) hb9 ?_
                refine r_aload_n fe_238_35 rfl ?_
                refine r_callV (as := []) (r := []) fe_238_36 lm_12_488 md_239 rfl rfl (Nat.le_of_ble_eq_true rfl) m_c_0 (m_lt hh (by decide)) (Nat.le_of_ble_eq_true rfl) (Nat.le_of_ble_eq_true rfl) ?_
                cases hc11 : F239 n  z7.2 with
                | none => rw [hc11] at hf; cases hf
                | some z10 =>
                  rw [hc11, Option.bind_some] at hf
                  refine F239c (r0 := z10.1) (S0 := z10.2) hh hc11 ?_
                  refine r_aload_n fe_238_39 rfl ?_
                  refine r_iload_n fe_238_40 rfl ?_
                  refine r_callV (as := [.int l2]) (r := []) fe_238_41 lm_12_491 md_242 rfl rfl (Nat.le_of_ble_eq_true rfl) m_c_0 (m_lt hh (by decide)) (Nat.le_of_ble_eq_true rfl) (Nat.le_of_ble_eq_true rfl) ?_
                  cases hc13 : F242 n l2 z10.2 with
                  | none => rw [hc13] at hf; cases hf
                  | some z12 =>
                    rw [hc13, Option.bind_some] at hf
                    refine F242c (r0 := z12.1) (S0 := z12.2) hh hc13 ?_
                    refine r_iload_n fe_238_44 rfl ?_
                    by_cases hb14 : am_if .ne l3 = true
                    · rw [if_pos hb14] at hf
                      refine r_if_t (t := 69) fe_238_45 (by decide) hb14 ?_
                      refine r_iload_n fe_238_69 rfl ?_
                      refine r_iconst (v := 1) fe_238_70 (by decide) ?_
                      by_cases hb15 : am_ic .ne l3 1 = true
                      · rw [if_pos hb15] at hf
                        refine r_ic_t (t := 83) fe_238_71 (by decide) hb15 ?_
                        refine r_aload_n fe_238_83 rfl ?_
                        refine mr_getf hh fe_238_84 lf_12_46 rfl ?_
                        refine r_iload_n fe_238_87 rfl ?_
                        by_cases hg16 : ¬ (l1 < 0 ∨ 13 ≤ (l1).toNatClampNeg)
                        rotate_left
                        · rw [if_neg hg16] at hf; cases hf
                        rw [if_pos hg16] at hf
                        refine r_iald (j := (Int32.toNatClampNeg l1)) (v := z12.2.2.1 13 (Int32.toNatClampNeg l1)) fe_238_88 m_c_13 (m_lt hh (by decide)) (fun z => hg16 (Or.inl z)) rfl (fun z => hg16 (Or.inr z)) rfl ?_
                        refine r_istore fe_238_89 (Nat.le_of_ble_eq_true rfl) rfl ?_
                        refine r_aload_n fe_238_91 rfl ?_
                        refine r_callV (as := []) (r := []) fe_238_92 lm_12_494 md_243 rfl rfl (Nat.le_of_ble_eq_true rfl) m_c_0 (m_lt hh (by decide)) (Nat.le_of_ble_eq_true rfl) (Nat.le_of_ble_eq_true rfl) ?_
                        cases hc18 : F243 n  z12.2 with
                        | none => rw [hc18] at hf; cases hf
                        | some z17 =>
                          rw [hc18, Option.bind_some] at hf
                          refine F243c (r0 := z17.1) (S0 := z17.2) hh hc18 ?_
                          refine r_iload fe_238_95 rfl ?_
                          refine r_iret fe_238_97 ⟨rfl, by decide⟩ ?_
                          exact dfin (P := fun r T => Q (some (.int r)) (mst T h)) hf hQ
                      · rw [if_neg hb15] at hf
                        refine r_ic_f (t := 83) fe_238_71 (by decide) (Bool.eq_false_iff.mpr hb15) ?_
                        refine r_aload_n fe_238_74 rfl ?_
                        refine mr_getf hh fe_238_75 lf_12_40 rfl ?_
                        refine r_iload_n fe_238_78 rfl ?_
                        by_cases hg19 : ¬ (l1 < 0 ∨ 13 ≤ (l1).toNatClampNeg)
                        rotate_left
                        · rw [if_neg hg19] at hf; cases hf
                        rw [if_pos hg19] at hf
                        refine r_iald (j := (Int32.toNatClampNeg l1)) (v := z12.2.2.1 11 (Int32.toNatClampNeg l1)) fe_238_79 m_c_11 (m_lt hh (by decide)) (fun z => hg19 (Or.inl z)) rfl (fun z => hg19 (Or.inr z)) rfl ?_
                        refine r_goto (t := 89) fe_238_80 (by decide) ?_
                        refine r_istore fe_238_89 (Nat.le_of_ble_eq_true rfl) rfl ?_
                        refine r_aload_n fe_238_91 rfl ?_
                        refine r_callV (as := []) (r := []) fe_238_92 lm_12_494 md_243 rfl rfl (Nat.le_of_ble_eq_true rfl) m_c_0 (m_lt hh (by decide)) (Nat.le_of_ble_eq_true rfl) (Nat.le_of_ble_eq_true rfl) ?_
                        cases hc21 : F243 n  z12.2 with
                        | none => rw [hc21] at hf; cases hf
                        | some z20 =>
                          rw [hc21, Option.bind_some] at hf
                          refine F243c (r0 := z20.1) (S0 := z20.2) hh hc21 ?_
                          refine r_iload fe_238_95 rfl ?_
                          refine r_iret fe_238_97 ⟨rfl, by decide⟩ ?_
                          exact dfin (P := fun r T => Q (some (.int r)) (mst T h)) hf hQ
                    · rw [if_neg hb14] at hf
                      refine r_if_f (t := 69) fe_238_45 (by decide) (Bool.eq_false_iff.mpr hb14) ?_
                      refine r_aload_n fe_238_48 rfl ?_
                      refine r_iload_n fe_238_49 rfl ?_
                      refine r_callV (as := [.int l1]) (r := []) fe_238_50 lm_12_374 md_202 rfl rfl (Nat.le_of_ble_eq_true rfl) m_c_0 (m_lt hh (by decide)) (Nat.le_of_ble_eq_true rfl) (Nat.le_of_ble_eq_true rfl) ?_
                      cases hc23 : F202 n l1 z12.2 with
                      | none => rw [hc23] at hf; cases hf
                      | some z22 =>
                        rw [hc23, Option.bind_some] at hf
                        refine F202c (r0 := z22.1) (S0 := z22.2) hh hc23 ?_
                        by_cases hb24 : am_if .eq z22.1 = true
                        · rw [if_pos hb24] at hf
                          refine r_if_t (t := 65) fe_238_53 (by decide) hb24 ?_
                          refine r_iconst (v := -1) fe_238_65 (by decide) ?_
                          refine r_goto (t := 89) fe_238_66 (by decide) ?_
                          refine r_istore fe_238_89 (Nat.le_of_ble_eq_true rfl) rfl ?_
                          refine r_aload_n fe_238_91 rfl ?_
                          refine r_callV (as := []) (r := []) fe_238_92 lm_12_494 md_243 rfl rfl (Nat.le_of_ble_eq_true rfl) m_c_0 (m_lt hh (by decide)) (Nat.le_of_ble_eq_true rfl) (Nat.le_of_ble_eq_true rfl) ?_
                          cases hc26 : F243 n  z22.2 with
                          | none => rw [hc26] at hf; cases hf
                          | some z25 =>
                            rw [hc26, Option.bind_some] at hf
                            refine F243c (r0 := z25.1) (S0 := z25.2) hh hc26 ?_
                            refine r_iload fe_238_95 rfl ?_
                            refine r_iret fe_238_97 ⟨rfl, by decide⟩ ?_
                            exact dfin (P := fun r T => Q (some (.int r)) (mst T h)) hf hQ
                        · rw [if_neg hb24] at hf
                          refine r_if_f (t := 65) fe_238_53 (by decide) (Bool.eq_false_iff.mpr hb24) ?_
                          refine r_aload_n fe_238_56 rfl ?_
                          refine mr_getf hh fe_238_57 lf_12_37 rfl ?_
                          refine r_iload_n fe_238_60 rfl ?_
                          by_cases hg27 : ¬ (l1 < 0 ∨ 13 ≤ (l1).toNatClampNeg)
                          rotate_left
                          · rw [if_neg hg27] at hf; cases hf
                          rw [if_pos hg27] at hf
                          refine r_iald (j := (Int32.toNatClampNeg l1)) (v := z22.2.2.1 10 (Int32.toNatClampNeg l1)) fe_238_61 m_c_10 (m_lt hh (by decide)) (fun z => hg27 (Or.inl z)) rfl (fun z => hg27 (Or.inr z)) rfl ?_
                          refine r_goto (t := 89) fe_238_62 (by decide) ?_
                          refine r_istore fe_238_89 (Nat.le_of_ble_eq_true rfl) rfl ?_
                          refine r_aload_n fe_238_91 rfl ?_
                          refine r_callV (as := []) (r := []) fe_238_92 lm_12_494 md_243 rfl rfl (Nat.le_of_ble_eq_true rfl) m_c_0 (m_lt hh (by decide)) (Nat.le_of_ble_eq_true rfl) (Nat.le_of_ble_eq_true rfl) ?_
                          cases hc29 : F243 n  z22.2 with
                          | none => rw [hc29] at hf; cases hf
                          | some z28 =>
                            rw [hc29, Option.bind_some] at hf
                            refine F243c (r0 := z28.1) (S0 := z28.2) hh hc29 ?_
                            refine r_iload fe_238_95 rfl ?_
                            refine r_iret fe_238_97 ⟨rfl, by decide⟩ ?_
                            exact dfin (P := fun r T => Q (some (.int r)) (mst T h)) hf hQ
              · rw [if_neg hb9] at hf
                refine r_if_f (t := 35) fe_238_29 (by decide) (Bool.eq_false_iff.mpr hb9) ?_
                refine r_bipush (v := -2) fe_238_32 (by decide) ?_
                refine r_iret fe_238_34 ⟨rfl, by decide⟩ ?_
                exact dfin (P := fun r T => Q (some (.int r)) (mst T h)) hf hQ
theorem F238c {xs : Nat → Int32} {L9 d n : Nat} {h : AmH} {Q : Option Value → AmH → Prop} {r0 : Int32} {S0 S : mS} {l1 : Int32} {l2 : Int32} {l3 : Int32} (hh : 172 ≤ h.2.1) (hf : F238 n l1 l2 l3 S = some (r0, S0)) (hQ : Q (some (.int r0)) (mst S0 h)) : Ca (am_X xs L9) (d + 8) 238 [.ref 130, .int l1, .int l2, .int l3] (mst S h) Q := (F238l hh hQ n) l1 l2 l3 S hf
def F244b0 (F : Nat → Int32 → Int32 → Int32 → Int32 → Int32 → Int32 → Int32 → Int32 → mS → Option (Int32 × mS)) (n : Nat) (l1 : Int32) (l2 : Int32) (l3 : Int32) (l4 : Int32) (l5 : Int32) (l6 : Int32) (l7 : Int32) (l8 : Int32) (S : mS) : Option (Int32 × mS) := ((F210 n  S).bind (fun z1 => (if am_if .eq z1.1 = true then some ((-1), z1.2) else (if am_if .lt l1 = true then some ((-1), z1.2) else ((F172 n (Int32.toInt64 l2) 0 2 z1.2).bind (fun z5 => (if am_if .ne z5.1 = true then ((F239 n  z5.2).bind (fun z8 => F 38 l1 l2 0 (-2) 0 0 0 0 z8.2)) else some ((-1), z5.2))))))))
def F244b38 (F : Nat → Int32 → Int32 → Int32 → Int32 → Int32 → Int32 → Int32 → Int32 → mS → Option (Int32 × mS)) (n : Nat) (l1 : Int32) (l2 : Int32) (l3 : Int32) (l4 : Int32) (l5 : Int32) (l6 : Int32) (l7 : Int32) (l8 : Int32) (S : mS) : Option (Int32 × mS) := (if am_ic .ge l5 60 = true then ((F243 n  S).bind (fun z11 => some (l4, z11.2))) else ((F213 n  S).bind (fun z13 => ((F212 n  z13.2).bind (fun z15 => F 68 l1 l2 l3 l4 l5 z13.1 (z13.2.2.1 1 6) 0 z15.2)))))
def F244b68 (F : Nat → Int32 → Int32 → Int32 → Int32 → Int32 → Int32 → Int32 → Int32 → mS → Option (Int32 × mS)) (n : Nat) (l1 : Int32) (l2 : Int32) (l3 : Int32) (l4 : Int32) (l5 : Int32) (l6 : Int32) (l7 : Int32) (l8 : Int32) (S : mS) : Option (Int32 × mS) := (if am_ic .ge l8 (S.2.1 1 4) = true then F 38 l1 l2 l3 l4 (l5 + 1) 0 0 0 S else ((F199 n l6 l8 S).bind (fun z18 => (if am_if .eq z18.1 = true then F 68 l1 l2 l3 l4 l5 l6 l7 (l8 + 1) z18.2 else (if ¬ (l8 < 0 ∨ 13 ≤ (l8).toNatClampNeg) then (if am_ic .ne (z18.2.2.1 13 (Int32.toNatClampNeg l8)) 1 = true then F 68 l1 l2 l3 l4 l5 l6 l7 (l8 + 1) z18.2 else (if am_ic .ne l3 l1 = true then F 68 l1 l2 (l3 + 1) l4 l5 l6 l7 (l8 + 1) z18.2 else (if am_if .ne l2 = true then (if am_ic .ne l2 1 = true then (if ¬ (l8 < 0 ∨ 13 ≤ (l8).toNatClampNeg) then F 68 l1 l2 (l3 + 1) (z18.2.2.1 11 (Int32.toNatClampNeg l8)) l5 l6 l7 (l8 + 1) z18.2 else none) else F 68 l1 l2 (l3 + 1) l7 l5 l6 l7 (l8 + 1) z18.2) else F 68 l1 l2 (l3 + 1) l8 l5 l6 l7 (l8 + 1) z18.2))) else none)))))
def F244f : Nat → Nat → Int32 → Int32 → Int32 → Int32 → Int32 → Int32 → Int32 → Int32 → mS → Option (Int32 × mS)
  | 0, _, _, _, _, _, _, _, _, _, _ => none
  | n + 1, c, l1, l2, l3, l4, l5, l6, l7, l8, S => if c = 0 then F244b0 (F244f n) n l1 l2 l3 l4 l5 l6 l7 l8 S else if c = 38 then F244b38 (F244f n) n l1 l2 l3 l4 l5 l6 l7 l8 S else F244b68 (F244f n) n l1 l2 l3 l4 l5 l6 l7 l8 S
theorem F244e0 (n : Nat) (l1 : Int32) (l2 : Int32) (l3 : Int32) (l4 : Int32) (l5 : Int32) (l6 : Int32) (l7 : Int32) (l8 : Int32) (S : mS) : F244f (n + 1) 0 l1 l2 l3 l4 l5 l6 l7 l8 S = F244b0 (F244f n) n l1 l2 l3 l4 l5 l6 l7 l8 S := if_pos rfl
theorem F244e38 (n : Nat) (l1 : Int32) (l2 : Int32) (l3 : Int32) (l4 : Int32) (l5 : Int32) (l6 : Int32) (l7 : Int32) (l8 : Int32) (S : mS) : F244f (n + 1) 38 l1 l2 l3 l4 l5 l6 l7 l8 S = F244b38 (F244f n) n l1 l2 l3 l4 l5 l6 l7 l8 S := (if_neg (by decide)).trans (if_pos rfl)
theorem F244e68 (n : Nat) (l1 : Int32) (l2 : Int32) (l3 : Int32) (l4 : Int32) (l5 : Int32) (l6 : Int32) (l7 : Int32) (l8 : Int32) (S : mS) : F244f (n + 1) 68 l1 l2 l3 l4 l5 l6 l7 l8 S = F244b68 (F244f n) n l1 l2 l3 l4 l5 l6 l7 l8 S := (if_neg (by decide)).trans (if_neg (by decide))
def F244 (n : Nat) (l1 : Int32) (l2 : Int32) (S : mS) : Option (Int32 × mS) := F244f n 0 l1 l2 0 0 0 0 0 0 S
set_option maxRecDepth 20000 in
set_option maxHeartbeats 2000000 in
theorem F244l {xs : Nat → Int32} {L9 d : Nat} {h : AmH} {Q : Option Value → AmH → Prop} {r0 : Int32} {S0 : mS} (hh : 172 ≤ h.2.1) (hQ : Q (some (.int r0)) (mst S0 h)) : ∀ n : Nat, (∀ (l1 : Int32) (l2 : Int32) (l3 : Int32) (l4 : Int32) (l5 : Int32) (l6 : Int32) (l7 : Int32) (l8 : Int32) (S : mS), F244f n 0 l1 l2 l3 l4 l5 l6 l7 l8 S = some (r0, S0) → Go (am_X xs L9) (d + 7) 244 0 [.ref 130, .int l1, .int l2, .float 0, .float 0, .float 0, .float 0, .float 0, .float 0] [] (mst S h) Q) ∧ (∀ (l1 : Int32) (l2 : Int32) (l3 : Int32) (l4 : Int32) (l5 : Int32) (l6 : Int32) (l7 : Int32) (l8 : Int32) (S : mS), F244f n 38 l1 l2 l3 l4 l5 l6 l7 l8 S = some (r0, S0) → Go (am_X xs L9) (d + 7) 244 38 [.ref 130, .int l1, .int l2, .int l3, .int l4, .int l5, .float 0, .float 0, .float 0] [] (mst S h) Q) ∧ (∀ (l1 : Int32) (l2 : Int32) (l3 : Int32) (l4 : Int32) (l5 : Int32) (l6 : Int32) (l7 : Int32) (l8 : Int32) (S : mS), F244f n 68 l1 l2 l3 l4 l5 l6 l7 l8 S = some (r0, S0) → Go (am_X xs L9) (d + 7) 244 68 [.ref 130, .int l1, .int l2, .int l3, .int l4, .int l5, .int l6, .int l7, .int l8] [] (mst S h) Q) := by
  intro n
  induction n with
  | zero => exact ⟨fun l1 l2 l3 l4 l5 l6 l7 l8 S hf => (by cases hf), fun l1 l2 l3 l4 l5 l6 l7 l8 S hf => (by cases hf), fun l1 l2 l3 l4 l5 l6 l7 l8 S hf => (by cases hf)⟩
  | succ n ih =>
    refine ⟨?_, ?_, ?_⟩
    · intro l1 l2 l3 l4 l5 l6 l7 l8 S hf
      rw [F244e0] at hf
      unfold F244b0 at hf
      refine r_aload_n fe_244_0 rfl ?_
      refine r_callV (as := []) (r := []) fe_244_1 lm_12_457 md_210 rfl rfl (Nat.le_of_ble_eq_true rfl) m_c_0 (m_lt hh (by decide)) (Nat.le_of_ble_eq_true rfl) (Nat.le_of_ble_eq_true rfl) ?_
      cases hc2 : F210 n  S with
      | none => rw [hc2] at hf; cases hf
      | some z1 =>
        rw [hc2, Option.bind_some] at hf
        refine F210c (r0 := z1.1) (S0 := z1.2) hh hc2 ?_
        by_cases hb3 : am_if .eq z1.1 = true
        · rw [if_pos hb3] at hf
          refine r_if_t (t := 23) fe_244_4 (by decide) hb3 ?_
          refine r_iconst (v := -1) fe_244_23 (by decide) ?_
          refine r_iret fe_244_24 ⟨rfl, by decide⟩ ?_
          exact dfin (P := fun r T => Q (some (.int r)) (mst T h)) hf hQ
        · rw [if_neg hb3] at hf
          refine r_if_f (t := 23) fe_244_4 (by decide) (Bool.eq_false_iff.mpr hb3) ?_
          refine r_iload_n fe_244_7 rfl ?_
          by_cases hb4 : am_if .lt l1 = true
          · rw [if_pos hb4] at hf
            refine r_if_t (t := 23) fe_244_8 (by decide) hb4 ?_
            refine r_iconst (v := -1) fe_244_23 (by decide) ?_
            refine r_iret fe_244_24 ⟨rfl, by decide⟩ ?_
            exact dfin (P := fun r T => Q (some (.int r)) (mst T h)) hf hQ
          · rw [if_neg hb4] at hf
            refine r_if_f (t := 23) fe_244_8 (by decide) (Bool.eq_false_iff.mpr hb4) ?_
            refine r_iload_n fe_244_11 rfl ?_
            refine r_i2l (v := (Int32.toInt64 l2)) fe_244_12 rfl ?_
            refine r_lconst (v := 0) fe_244_13 (by decide) ?_
            refine r_ldc2 fe_244_14 lk_12_486 ?_
            refine r_callS (as := [.long (Int32.toInt64 l2), .long 0, .long 2]) (r := []) fe_244_17 lm_12_143 md_172 rfl rfl (Nat.le_of_ble_eq_true rfl) (Nat.le_of_ble_eq_true rfl) (Nat.le_of_ble_eq_true rfl) ?_
            cases hc6 : F172 n (Int32.toInt64 l2) 0 2 z1.2 with
            | none => rw [hc6] at hf; cases hf
            | some z5 =>
              rw [hc6, Option.bind_some] at hf
              refine F172c (r0 := z5.1) (S0 := z5.2) hh hc6 ?_
              by_cases hb7 : am_if .ne z5.1 = true
              · rw [if_pos hb7] at hf
                refine r_if_t (t := 25) fe_244_20 (by decide) hb7 ?_
                refine r_aload_n fe_244_25 rfl ?_
                refine r_callV (as := []) (r := []) fe_244_26 lm_12_488 md_239 rfl rfl (Nat.le_of_ble_eq_true rfl) m_c_0 (m_lt hh (by decide)) (Nat.le_of_ble_eq_true rfl) (Nat.le_of_ble_eq_true rfl) ?_
                cases hc9 : F239 n  z5.2 with
                | none => rw [hc9] at hf; cases hf
                | some z8 =>
                  rw [hc9, Option.bind_some] at hf
                  refine F239c (r0 := z8.1) (S0 := z8.2) hh hc9 ?_
                  refine r_iconst (v := 0) fe_244_29 (by decide) ?_
                  refine r_istore_n fe_244_30 (Nat.le_of_ble_eq_true rfl) rfl ?_
                  refine r_bipush (v := -2) fe_244_31 (by decide) ?_
                  refine r_istore fe_244_33 (Nat.le_of_ble_eq_true rfl) rfl ?_
                  refine r_iconst (v := 0) fe_244_35 (by decide) ?_
                  refine r_istore fe_244_36 (Nat.le_of_ble_eq_true rfl) rfl ?_
                  refine go_weak (L0 := [.ref 130, .int l1, .int l2, .int 0, .int (-2), .int 0, .float 0, .float 0, .float 0]) (lwk_c (Or.inl rfl) (lwk_c (Or.inl rfl) (lwk_c (Or.inl rfl) (lwk_c (Or.inl rfl) (lwk_c (Or.inl rfl) (lwk_c (Or.inl rfl) (lwk_c (Or.inl rfl) (lwk_c (Or.inl rfl) (lwk_c (Or.inl rfl) (lwk_rf [])))))))))) ?_
                  exact ih.2.1 l1 l2 0 (-2) 0 0 0 0 z8.2 hf
              · rw [if_neg hb7] at hf
                refine r_if_f (t := 25) fe_244_20 (by decide) (Bool.eq_false_iff.mpr hb7) ?_
                refine r_iconst (v := -1) fe_244_23 (by decide) ?_
                refine r_iret fe_244_24 ⟨rfl, by decide⟩ ?_
                exact dfin (P := fun r T => Q (some (.int r)) (mst T h)) hf hQ
    · intro l1 l2 l3 l4 l5 l6 l7 l8 S hf
      rw [F244e38] at hf
      unfold F244b38 at hf
      refine r_iload fe_244_38 rfl ?_
      refine r_bipush (v := 60) fe_244_40 (by decide) ?_
      by_cases hb10 : am_ic .ge l5 60 = true
      · rw [if_pos hb10] at hf
        refine r_ic_t (t := 153) fe_244_42 (by decide) hb10 ?_
        refine r_aload_n fe_244_153 rfl ?_
        refine r_callV (as := []) (r := []) fe_244_154 lm_12_494 md_243 rfl rfl (Nat.le_of_ble_eq_true rfl) m_c_0 (m_lt hh (by decide)) (Nat.le_of_ble_eq_true rfl) (Nat.le_of_ble_eq_true rfl) ?_
        cases hc12 : F243 n  S with
        | none => rw [hc12] at hf; cases hf
        | some z11 =>
          rw [hc12, Option.bind_some] at hf
          refine F243c (r0 := z11.1) (S0 := z11.2) hh hc12 ?_
          refine r_iload fe_244_157 rfl ?_
          refine r_iret fe_244_159 ⟨rfl, by decide⟩ ?_
          exact dfin (P := fun r T => Q (some (.int r)) (mst T h)) hf hQ
      · rw [if_neg hb10] at hf
        refine r_ic_f (t := 153) fe_244_42 (by decide) (Bool.eq_false_iff.mpr hb10) ?_
        refine r_aload_n fe_244_45 rfl ?_
        refine r_callV (as := []) (r := []) fe_244_46 lm_12_427 md_213 rfl rfl (Nat.le_of_ble_eq_true rfl) m_c_0 (m_lt hh (by decide)) (Nat.le_of_ble_eq_true rfl) (Nat.le_of_ble_eq_true rfl) ?_
        cases hc14 : F213 n  S with
        | none => rw [hc14] at hf; cases hf
        | some z13 =>
          rw [hc14, Option.bind_some] at hf
          refine F213c (r0 := z13.1) (S0 := z13.2) hh hc14 ?_
          refine r_istore fe_244_49 (Nat.le_of_ble_eq_true rfl) rfl ?_
          refine r_aload_n fe_244_51 rfl ?_
          refine mr_getf hh fe_244_52 lf_12_9 rfl ?_
          refine r_bipush (v := 6) fe_244_55 (by decide) ?_
          refine r_iald (j := 6) (v := z13.2.2.1 1 6) fe_244_57 m_c_1 (m_lt hh (by decide)) (by decide) (by decide) (by decide) rfl ?_
          refine r_istore fe_244_58 (Nat.le_of_ble_eq_true rfl) rfl ?_
          refine r_aload_n fe_244_60 rfl ?_
          refine r_callV (as := []) (r := []) fe_244_61 lm_12_463 md_212 rfl rfl (Nat.le_of_ble_eq_true rfl) m_c_0 (m_lt hh (by decide)) (Nat.le_of_ble_eq_true rfl) (Nat.le_of_ble_eq_true rfl) ?_
          cases hc16 : F212 n  z13.2 with
          | none => rw [hc16] at hf; cases hf
          | some z15 =>
            rw [hc16, Option.bind_some] at hf
            refine F212c (r0 := z15.1) (S0 := z15.2) hh hc16 ?_
            refine r_pop fe_244_64 rfl ?_
            refine r_iconst (v := 0) fe_244_65 (by decide) ?_
            refine r_istore fe_244_66 (Nat.le_of_ble_eq_true rfl) rfl ?_
            refine go_weak (L0 := [.ref 130, .int l1, .int l2, .int l3, .int l4, .int l5, .int z13.1, .int (z13.2.2.1 1 6), .int 0]) (lwk_c (Or.inl rfl) (lwk_c (Or.inl rfl) (lwk_c (Or.inl rfl) (lwk_c (Or.inl rfl) (lwk_c (Or.inl rfl) (lwk_c (Or.inl rfl) (lwk_c (Or.inl rfl) (lwk_c (Or.inl rfl) (lwk_c (Or.inl rfl) (lwk_rf [])))))))))) ?_
            exact ih.2.2 l1 l2 l3 l4 l5 z13.1 (z13.2.2.1 1 6) 0 z15.2 hf
    · intro l1 l2 l3 l4 l5 l6 l7 l8 S hf
      rw [F244e68] at hf
      unfold F244b68 at hf
      refine r_iload fe_244_68 rfl ?_
      refine r_aload_n fe_244_70 rfl ?_
      refine mr_getf hh fe_244_71 lf_12_9 rfl ?_
      refine r_iconst (v := 4) fe_244_74 (by decide) ?_
      refine r_iald (j := 4) (v := S.2.1 1 4) fe_244_75 m_c_1 (m_lt hh (by decide)) (by decide) (by decide) (by decide) rfl ?_
      by_cases hb17 : am_ic .ge l8 (S.2.1 1 4) = true
      · rw [if_pos hb17] at hf
        refine r_ic_t (t := 147) fe_244_76 (by decide) hb17 ?_
        refine r_iinc (v := (l5 + 1)) fe_244_147 rfl rfl rfl ?_
        refine r_goto (t := 38) fe_244_150 (by decide) ?_
        refine go_weak (L0 := [.ref 130, .int l1, .int l2, .int l3, .int l4, .int (l5 + 1), .float 0, .float 0, .float 0]) (lwk_c (Or.inl rfl) (lwk_c (Or.inl rfl) (lwk_c (Or.inl rfl) (lwk_c (Or.inl rfl) (lwk_c (Or.inl rfl) (lwk_c (Or.inl rfl) (lwk_c (Or.inr rfl) (lwk_c (Or.inr rfl) (lwk_c (Or.inr rfl) (lwk_rf [])))))))))) ?_
        exact ih.2.1 l1 l2 l3 l4 (l5 + 1) 0 0 0 S hf
      · rw [if_neg hb17] at hf
        refine r_ic_f (t := 147) fe_244_76 (by decide) (Bool.eq_false_iff.mpr hb17) ?_
        refine r_iload fe_244_79 rfl ?_
        refine r_iload fe_244_81 rfl ?_
        refine r_callS (as := [.int l6, .int l8]) (r := []) fe_244_83 lm_12_387 md_199 rfl rfl (Nat.le_of_ble_eq_true rfl) (Nat.le_of_ble_eq_true rfl) (Nat.le_of_ble_eq_true rfl) ?_
        cases hc19 : F199 n l6 l8 S with
        | none => rw [hc19] at hf; cases hf
        | some z18 =>
          rw [hc19, Option.bind_some] at hf
          refine F199c (r0 := z18.1) (S0 := z18.2) hh hc19 ?_
          by_cases hb20 : am_if .eq z18.1 = true
          · rw [if_pos hb20] at hf
            refine r_if_t (t := 141) fe_244_86 (by decide) hb20 ?_
            refine r_iinc (v := (l8 + 1)) fe_244_141 rfl rfl rfl ?_
            refine r_goto (t := 68) fe_244_144 (by decide) ?_
            refine go_weak (L0 := [.ref 130, .int l1, .int l2, .int l3, .int l4, .int l5, .int l6, .int l7, .int (l8 + 1)]) (lwk_c (Or.inl rfl) (lwk_c (Or.inl rfl) (lwk_c (Or.inl rfl) (lwk_c (Or.inl rfl) (lwk_c (Or.inl rfl) (lwk_c (Or.inl rfl) (lwk_c (Or.inl rfl) (lwk_c (Or.inl rfl) (lwk_c (Or.inl rfl) (lwk_rf [])))))))))) ?_
            exact ih.2.2 l1 l2 l3 l4 l5 l6 l7 (l8 + 1) z18.2 hf
          · rw [if_neg hb20] at hf
            refine r_if_f (t := 141) fe_244_86 (by decide) (Bool.eq_false_iff.mpr hb20) ?_
            refine r_aload_n fe_244_89 rfl ?_
            refine mr_getf hh fe_244_90 lf_12_46 rfl ?_
            refine r_iload fe_244_93 rfl ?_
            by_cases hg21 : ¬ (l8 < 0 ∨ 13 ≤ (l8).toNatClampNeg)
            rotate_left
            · rw [if_neg hg21] at hf; cases hf
            rw [if_pos hg21] at hf
            refine r_iald (j := (Int32.toNatClampNeg l8)) (v := z18.2.2.1 13 (Int32.toNatClampNeg l8)) fe_244_95 m_c_13 (m_lt hh (by decide)) (fun z => hg21 (Or.inl z)) rfl (fun z => hg21 (Or.inr z)) rfl ?_
            refine r_iconst (v := 1) fe_244_96 (by decide) ?_
            by_cases hb22 : am_ic .ne (z18.2.2.1 13 (Int32.toNatClampNeg l8)) 1 = true
            · rw [if_pos hb22] at hf
              refine r_ic_t (t := 141) fe_244_97 (by decide) hb22 ?_
              refine r_iinc (v := (l8 + 1)) fe_244_141 rfl rfl rfl ?_
              refine r_goto (t := 68) fe_244_144 (by decide) ?_
              refine go_weak (L0 := [.ref 130, .int l1, .int l2, .int l3, .int l4, .int l5, .int l6, .int l7, .int (l8 + 1)]) (lwk_c (Or.inl rfl) (lwk_c (Or.inl rfl) (lwk_c (Or.inl rfl) (lwk_c (Or.inl rfl) (lwk_c (Or.inl rfl) (lwk_c (Or.inl rfl) (lwk_c (Or.inl rfl) (lwk_c (Or.inl rfl) (lwk_c (Or.inl rfl) (lwk_rf [])))))))))) ?_
              exact ih.2.2 l1 l2 l3 l4 l5 l6 l7 (l8 + 1) z18.2 hf
            · rw [if_neg hb22] at hf
              refine r_ic_f (t := 141) fe_244_97 (by decide) (Bool.eq_false_iff.mpr hb22) ?_
              refine r_iload_n fe_244_100 rfl ?_
              refine r_iload_n fe_244_101 rfl ?_
              by_cases hb23 : am_ic .ne l3 l1 = true
              · rw [if_pos hb23] at hf
                refine r_ic_t (t := 134) fe_244_102 (by decide) hb23 ?_
                refine r_iload fe_244_134 rfl ?_
                refine r_istore fe_244_136 (Nat.le_of_ble_eq_true rfl) rfl ?_
                refine r_iinc (v := (l3 + 1)) fe_244_138 rfl rfl rfl ?_
                refine r_iinc (v := (l8 + 1)) fe_244_141 rfl rfl rfl ?_
                refine r_goto (t := 68) fe_244_144 (by decide) ?_
                refine go_weak (L0 := [.ref 130, .int l1, .int l2, .int (l3 + 1), .int l4, .int l5, .int l6, .int l7, .int (l8 + 1)]) (lwk_c (Or.inl rfl) (lwk_c (Or.inl rfl) (lwk_c (Or.inl rfl) (lwk_c (Or.inl rfl) (lwk_c (Or.inl rfl) (lwk_c (Or.inl rfl) (lwk_c (Or.inl rfl) (lwk_c (Or.inl rfl) (lwk_c (Or.inl rfl) (lwk_rf [])))))))))) ?_
                exact ih.2.2 l1 l2 (l3 + 1) l4 l5 l6 l7 (l8 + 1) z18.2 hf
              · rw [if_neg hb23] at hf
                refine r_ic_f (t := 134) fe_244_102 (by decide) (Bool.eq_false_iff.mpr hb23) ?_
                refine r_iload_n fe_244_105 rfl ?_
                by_cases hb24 : am_if .ne l2 = true
                · rw [if_pos hb24] at hf
                  refine r_if_t (t := 114) fe_244_106 (by decide) hb24 ?_
                  refine r_iload_n fe_244_114 rfl ?_
                  refine r_iconst (v := 1) fe_244_115 (by decide) ?_
                  by_cases hb25 : am_ic .ne l2 1 = true
                  · rw [if_pos hb25] at hf
                    refine r_ic_t (t := 124) fe_244_116 (by decide) hb25 ?_
                    refine r_aload_n fe_244_124 rfl ?_
                    refine mr_getf hh fe_244_125 lf_12_40 rfl ?_
                    refine r_iload fe_244_128 rfl ?_
                    by_cases hg26 : ¬ (l8 < 0 ∨ 13 ≤ (l8).toNatClampNeg)
                    rotate_left
                    · rw [if_neg hg26] at hf; cases hf
                    rw [if_pos hg26] at hf
                    refine r_iald (j := (Int32.toNatClampNeg l8)) (v := z18.2.2.1 11 (Int32.toNatClampNeg l8)) fe_244_130 m_c_11 (m_lt hh (by decide)) (fun z => hg26 (Or.inl z)) rfl (fun z => hg26 (Or.inr z)) rfl ?_
                    refine r_goto (t := 136) fe_244_131 (by decide) ?_
                    refine r_istore fe_244_136 (Nat.le_of_ble_eq_true rfl) rfl ?_
                    refine r_iinc (v := (l3 + 1)) fe_244_138 rfl rfl rfl ?_
                    refine r_iinc (v := (l8 + 1)) fe_244_141 rfl rfl rfl ?_
                    refine r_goto (t := 68) fe_244_144 (by decide) ?_
                    refine go_weak (L0 := [.ref 130, .int l1, .int l2, .int (l3 + 1), .int (z18.2.2.1 11 (Int32.toNatClampNeg l8)), .int l5, .int l6, .int l7, .int (l8 + 1)]) (lwk_c (Or.inl rfl) (lwk_c (Or.inl rfl) (lwk_c (Or.inl rfl) (lwk_c (Or.inl rfl) (lwk_c (Or.inl rfl) (lwk_c (Or.inl rfl) (lwk_c (Or.inl rfl) (lwk_c (Or.inl rfl) (lwk_c (Or.inl rfl) (lwk_rf [])))))))))) ?_
                    exact ih.2.2 l1 l2 (l3 + 1) (z18.2.2.1 11 (Int32.toNatClampNeg l8)) l5 l6 l7 (l8 + 1) z18.2 hf
                  · rw [if_neg hb25] at hf
                    refine r_ic_f (t := 124) fe_244_116 (by decide) (Bool.eq_false_iff.mpr hb25) ?_
                    refine r_iload fe_244_119 rfl ?_
                    refine r_goto (t := 136) fe_244_121 (by decide) ?_
                    refine r_istore fe_244_136 (Nat.le_of_ble_eq_true rfl) rfl ?_
                    refine r_iinc (v := (l3 + 1)) fe_244_138 rfl rfl rfl ?_
                    refine r_iinc (v := (l8 + 1)) fe_244_141 rfl rfl rfl ?_
                    refine r_goto (t := 68) fe_244_144 (by decide) ?_
                    refine go_weak (L0 := [.ref 130, .int l1, .int l2, .int (l3 + 1), .int l7, .int l5, .int l6, .int l7, .int (l8 + 1)]) (lwk_c (Or.inl rfl) (lwk_c (Or.inl rfl) (lwk_c (Or.inl rfl) (lwk_c (Or.inl rfl) (lwk_c (Or.inl rfl) (lwk_c (Or.inl rfl) (lwk_c (Or.inl rfl) (lwk_c (Or.inl rfl) (lwk_c (Or.inl rfl) (lwk_rf [])))))))))) ?_
                    exact ih.2.2 l1 l2 (l3 + 1) l7 l5 l6 l7 (l8 + 1) z18.2 hf
                · rw [if_neg hb24] at hf
                  refine r_if_f (t := 114) fe_244_106 (by decide) (Bool.eq_false_iff.mpr hb24) ?_
                  refine r_iload fe_244_109 rfl ?_
                  refine r_goto (t := 136) fe_244_111 (by decide) ?_
                  refine r_istore fe_244_136 (Nat.le_of_ble_eq_true rfl) rfl ?_
                  refine r_iinc (v := (l3 + 1)) fe_244_138 rfl rfl rfl ?_
                  refine r_iinc (v := (l8 + 1)) fe_244_141 rfl rfl rfl ?_
                  refine r_goto (t := 68) fe_244_144 (by decide) ?_
                  refine go_weak (L0 := [.ref 130, .int l1, .int l2, .int (l3 + 1), .int l8, .int l5, .int l6, .int l7, .int (l8 + 1)]) (lwk_c (Or.inl rfl) (lwk_c (Or.inl rfl) (lwk_c (Or.inl rfl) (lwk_c (Or.inl rfl) (lwk_c (Or.inl rfl) (lwk_c (Or.inl rfl) (lwk_c (Or.inl rfl) (lwk_c (Or.inl rfl) (lwk_c (Or.inl rfl) (lwk_rf [])))))))))) ?_
                  exact ih.2.2 l1 l2 (l3 + 1) l8 l5 l6 l7 (l8 + 1) z18.2 hf
theorem F244c {xs : Nat → Int32} {L9 d n : Nat} {h : AmH} {Q : Option Value → AmH → Prop} {r0 : Int32} {S0 S : mS} {l1 : Int32} {l2 : Int32} (hh : 172 ≤ h.2.1) (hf : F244 n l1 l2 S = some (r0, S0)) (hQ : Q (some (.int r0)) (mst S0 h)) : Ca (am_X xs L9) (d + 7) 244 [.ref 130, .int l1, .int l2] (mst S h) Q := (F244l hh hQ n).1 l1 l2 0 0 0 0 0 0 S hf
