def F205b0 (F : Nat → mS → Option (Int32 × mS)) (n : Nat)  (S : mS) : Option (Int32 × mS) := (if am_if .ne (S.1 47) = true then ((F206 n ((m_sI S 47 ((S.1 47) - 1)).1 47) 1 (m_sI S 47 ((S.1 47) - 1))).bind (fun z2 => some ((z2.2.1 47), z2.2))) else some ((-2), S))
def F205f : Nat → Nat → mS → Option (Int32 × mS)
  | 0, _, _ => none
  | n + 1, c, S => F205b0 (F205f n) n  S
theorem F205e0 (n : Nat)  (S : mS) : F205f (n + 1) 0  S = F205b0 (F205f n) n  S := rfl
def F205 (n : Nat)  (S : mS) : Option (Int32 × mS) := F205f n 0  S
set_option maxRecDepth 20000 in
set_option maxHeartbeats 2000000 in
theorem F205l {xs : Nat → Int32} {L9 d : Nat} {h : AmH} {Q : Option Value → AmH → Prop} {r0 : Int32} {S0 : mS} (hh : 172 ≤ h.2.1) (hQ : Q (some (.int r0)) (mst S0 h)) : ∀ n : Nat, (∀ (S : mS), F205f n 0 S = some (r0, S0) → Go (am_X xs L9) (d + 3) 205 0 [.ref 130] [] (mst S h) Q) := by
  intro n
  induction n with
  | zero => exact fun  S hf => (by cases hf)
  | succ n ih =>
    intro  S hf
    rw [F205e0] at hf
    unfold F205b0 at hf
    refine r_aload_n fe_205_0 rfl ?_
    refine mr_getf hh fe_205_1 lf_12_346 rfl ?_
    by_cases hb1 : am_if .ne (S.1 47) = true
    · rw [if_pos hb1] at hf
      refine r_if_t (t := 10) fe_205_4 (by decide) hb1 ?_
      refine r_aload_n fe_205_10 rfl ?_
      refine r_dup fe_205_11 rfl ?_
      refine mr_getf hh fe_205_12 lf_12_346 rfl ?_
      refine r_iconst (v := 1) fe_205_15 (by decide) ?_
      refine r_isub (v := ((S.1 47) - 1)) fe_205_16 rfl ?_
      refine mr_putf hh fe_205_17 lf_12_346 (m_f_47 _ _) (by decide) rfl rfl rfl ?_
      refine r_aload_n fe_205_20 rfl ?_
      refine r_aload_n fe_205_21 rfl ?_
      refine mr_getf hh fe_205_22 lf_12_346 rfl ?_
      refine r_iconst (v := 1) fe_205_25 (by decide) ?_
      refine r_callV (as := [.int ((m_sI S 47 ((S.1 47) - 1)).1 47), .int 1]) (r := []) fe_205_26 lm_12_453 md_206 rfl rfl (Nat.le_of_ble_eq_true rfl) m_c_0 (m_lt hh (by decide)) (Nat.le_of_ble_eq_true rfl) (Nat.le_of_ble_eq_true rfl) ?_
      cases hc3 : F206 n ((m_sI S 47 ((S.1 47) - 1)).1 47) 1 (m_sI S 47 ((S.1 47) - 1)) with
      | none => rw [hc3] at hf; cases hf
      | some z2 =>
        rw [hc3, Option.bind_some] at hf
        refine F206c (r0 := z2.1) (S0 := z2.2) hh hc3 ?_
        refine r_aload_n fe_205_29 rfl ?_
        refine mr_getf hh fe_205_30 lf_12_346 rfl ?_
        refine r_iret fe_205_33 ⟨rfl, by decide⟩ ?_
        exact dfin (P := fun r T => Q (some (.int r)) (mst T h)) hf hQ
    · rw [if_neg hb1] at hf
      refine r_if_f (t := 10) fe_205_4 (by decide) (Bool.eq_false_iff.mpr hb1) ?_
      refine r_bipush (v := -2) fe_205_7 (by decide) ?_
      refine r_iret fe_205_9 ⟨rfl, by decide⟩ ?_
      exact dfin (P := fun r T => Q (some (.int r)) (mst T h)) hf hQ
theorem F205c {xs : Nat → Int32} {L9 d n : Nat} {h : AmH} {Q : Option Value → AmH → Prop} {r0 : Int32} {S0 S : mS}  (hh : 172 ≤ h.2.1) (hf : F205 n  S = some (r0, S0)) (hQ : Q (some (.int r0)) (mst S0 h)) : Ca (am_X xs L9) (d + 3) 205 [.ref 130] (mst S h) Q := (F205l hh hQ n)  S hf
def F210b0 (F : Nat → mS → Option (Int32 × mS)) (n : Nat)  (S : mS) : Option (Int32 × mS) := (if am_if .le (S.2.1 1 0) = true then some (0, S) else some (1, S))
def F210f : Nat → Nat → mS → Option (Int32 × mS)
  | 0, _, _ => none
  | n + 1, c, S => F210b0 (F210f n) n  S
theorem F210e0 (n : Nat)  (S : mS) : F210f (n + 1) 0  S = F210b0 (F210f n) n  S := rfl
def F210 (n : Nat)  (S : mS) : Option (Int32 × mS) := F210f n 0  S
set_option maxRecDepth 20000 in
set_option maxHeartbeats 2000000 in
theorem F210l {xs : Nat → Int32} {L9 d : Nat} {h : AmH} {Q : Option Value → AmH → Prop} {r0 : Int32} {S0 : mS} (hh : 172 ≤ h.2.1) (hQ : Q (some (.int r0)) (mst S0 h)) : ∀ n : Nat, (∀ (S : mS), F210f n 0 S = some (r0, S0) → Go (am_X xs L9) (d + 0) 210 0 [.ref 130] [] (mst S h) Q) := by
  intro n
  induction n with
  | zero => exact fun  S hf => (by cases hf)
  | succ n ih =>
    intro  S hf
    rw [F210e0] at hf
    unfold F210b0 at hf
    refine r_aload_n fe_210_0 rfl ?_
    refine mr_getf hh fe_210_1 lf_12_9 rfl ?_
    refine r_iconst (v := 0) fe_210_4 (by decide) ?_
    refine r_iald (j := 0) (v := S.2.1 1 0) fe_210_5 m_c_1 (m_lt hh (by decide)) (by decide) (by decide) (by decide) rfl ?_
    by_cases hb1 : am_if .le (S.2.1 1 0) = true
    · rw [if_pos hb1] at hf
      refine r_if_t (t := 13) fe_210_6 (by decide) hb1 ?_
      refine r_iconst (v := 0) fe_210_13 (by decide) ?_
      refine r_iret fe_210_14 ⟨rfl, by decide⟩ ?_
      exact dfin (P := fun r T => Q (some (.int r)) (mst T h)) hf hQ
    · rw [if_neg hb1] at hf
      refine r_if_f (t := 13) fe_210_6 (by decide) (Bool.eq_false_iff.mpr hb1) ?_
      refine r_iconst (v := 1) fe_210_9 (by decide) ?_
      refine r_goto (t := 14) fe_210_10 (by decide) ?_
      refine r_iret fe_210_14 ⟨rfl, by decide⟩ ?_
      exact dfin (P := fun r T => Q (some (.int r)) (mst T h)) hf hQ
theorem F210c {xs : Nat → Int32} {L9 d n : Nat} {h : AmH} {Q : Option Value → AmH → Prop} {r0 : Int32} {S0 S : mS}  (hh : 172 ≤ h.2.1) (hf : F210 n  S = some (r0, S0)) (hQ : Q (some (.int r0)) (mst S0 h)) : Ca (am_X xs L9) (d + 0) 210 [.ref 130] (mst S h) Q := (F210l hh hQ n)  S hf
def F211b0 (F : Nat → Int32 → mS → Option (Unit × mS)) (n : Nat) (l1 : Int32) (S : mS) : Option (Unit × mS) := (if am_ic .ne (S.1 47) 20 = true then ((F206 n (S.1 47) 0 S).bind (fun z2 => some ((), (m_sI z2.2 47 ((z2.2.1 47) + 1))))) else F 12 114 S)
def F211b12 (F : Nat → Int32 → mS → Option (Unit × mS)) (n : Nat) (l1 : Int32) (S : mS) : Option (Unit × mS) := (if am_ic .ge l1 2280 = true then ((F206 n ((m_sI S 47 ((S.1 47) - 1)).1 47) 0 (m_sI S 47 ((S.1 47) - 1))).bind (fun z5 => some ((), (m_sI z5.2 47 ((z5.2.1 47) + 1))))) else (if ¬ (l1 < 0 ∨ 2280 ≤ (l1).toNatClampNeg) then (if ¬ ((l1 - 114) < 0 ∨ 2280 ≤ ((l1 - 114)).toNatClampNeg) then F 12 (l1 + 1) (m_sA S 35 (Int32.toNatClampNeg (l1 - 114)) (S.2.1 35 (Int32.toNatClampNeg l1))) else none) else none))
def F211f : Nat → Nat → Int32 → mS → Option (Unit × mS)
  | 0, _, _, _ => none
  | n + 1, c, l1, S => if c = 0 then F211b0 (F211f n) n l1 S else F211b12 (F211f n) n l1 S
theorem F211e0 (n : Nat) (l1 : Int32) (S : mS) : F211f (n + 1) 0 l1 S = F211b0 (F211f n) n l1 S := if_pos rfl
theorem F211e12 (n : Nat) (l1 : Int32) (S : mS) : F211f (n + 1) 12 l1 S = F211b12 (F211f n) n l1 S := if_neg (by decide)
def F211 (n : Nat)  (S : mS) : Option (Unit × mS) := F211f n 0 0 S
set_option maxRecDepth 20000 in
set_option maxHeartbeats 2000000 in
theorem F211l {xs : Nat → Int32} {L9 d : Nat} {h : AmH} {Q : Option Value → AmH → Prop} {r0 : Unit} {S0 : mS} (hh : 172 ≤ h.2.1) (hQ : Q none (mst S0 h)) : ∀ n : Nat, (∀ (l1 : Int32) (S : mS), F211f n 0 l1 S = some (r0, S0) → Go (am_X xs L9) (d + 3) 211 0 [.ref 130, .float 0] [] (mst S h) Q) ∧ (∀ (l1 : Int32) (S : mS), F211f n 12 l1 S = some (r0, S0) → Go (am_X xs L9) (d + 3) 211 12 [.ref 130, .int l1] [] (mst S h) Q) := by
  intro n
  induction n with
  | zero => exact ⟨fun l1 S hf => (by cases hf), fun l1 S hf => (by cases hf)⟩
  | succ n ih =>
    refine ⟨?_, ?_⟩
    · intro l1 S hf
      rw [F211e0] at hf
      unfold F211b0 at hf
      refine r_aload_n fe_211_0 rfl ?_
      refine mr_getf hh fe_211_1 lf_12_346 rfl ?_
      refine r_bipush (v := 20) fe_211_4 (by decide) ?_
      by_cases hb1 : am_ic .ne (S.1 47) 20 = true
      · rw [if_pos hb1] at hf
        refine r_ic_t (t := 50) fe_211_6 (by decide) hb1 ?_
        refine r_aload_n fe_211_50 rfl ?_
        refine r_aload_n fe_211_51 rfl ?_
        refine mr_getf hh fe_211_52 lf_12_346 rfl ?_
        refine r_iconst (v := 0) fe_211_55 (by decide) ?_
        refine r_callV (as := [.int (S.1 47), .int 0]) (r := []) fe_211_56 lm_12_453 md_206 rfl rfl (Nat.le_of_ble_eq_true rfl) m_c_0 (m_lt hh (by decide)) (Nat.le_of_ble_eq_true rfl) (Nat.le_of_ble_eq_true rfl) ?_
        cases hc3 : F206 n (S.1 47) 0 S with
        | none => rw [hc3] at hf; cases hf
        | some z2 =>
          rw [hc3, Option.bind_some] at hf
          refine F206c (r0 := z2.1) (S0 := z2.2) hh hc3 ?_
          refine r_aload_n fe_211_59 rfl ?_
          refine r_dup fe_211_60 rfl ?_
          refine mr_getf hh fe_211_61 lf_12_346 rfl ?_
          refine r_iconst (v := 1) fe_211_64 (by decide) ?_
          refine r_iadd (v := ((z2.2.1 47) + 1)) fe_211_65 rfl ?_
          refine mr_putf hh fe_211_66 lf_12_346 (m_f_47 _ _) (by decide) rfl rfl rfl ?_
          refine r_vret fe_211_69 ?_
          exact dfin (P := fun _ T => Q none (mst T h)) hf hQ
      · rw [if_neg hb1] at hf
        refine r_ic_f (t := 50) fe_211_6 (by decide) (Bool.eq_false_iff.mpr hb1) ?_
        refine r_bipush (v := 114) fe_211_9 (by decide) ?_
        refine r_istore_n fe_211_11 (Nat.le_of_ble_eq_true rfl) rfl ?_
        refine go_weak (L0 := [.ref 130, .int 114]) (lwk_c (Or.inl rfl) (lwk_c (Or.inl rfl) (lwk_rf []))) ?_
        exact ih.2 114 S hf
    · intro l1 S hf
      rw [F211e12] at hf
      unfold F211b12 at hf
      refine r_iload_n fe_211_12 rfl ?_
      refine r_sipush (v := 2280) fe_211_13 (by decide) ?_
      by_cases hb4 : am_ic .ge l1 2280 = true
      · rw [if_pos hb4] at hf
        refine r_ic_t (t := 40) fe_211_16 (by decide) hb4 ?_
        refine r_aload_n fe_211_40 rfl ?_
        refine r_dup fe_211_41 rfl ?_
        refine mr_getf hh fe_211_42 lf_12_346 rfl ?_
        refine r_iconst (v := 1) fe_211_45 (by decide) ?_
        refine r_isub (v := ((S.1 47) - 1)) fe_211_46 rfl ?_
        refine mr_putf hh fe_211_47 lf_12_346 (m_f_47 _ _) (by decide) rfl rfl rfl ?_
        refine r_aload_n fe_211_50 rfl ?_
        refine r_aload_n fe_211_51 rfl ?_
        refine mr_getf hh fe_211_52 lf_12_346 rfl ?_
        refine r_iconst (v := 0) fe_211_55 (by decide) ?_
        refine r_callV (as := [.int ((m_sI S 47 ((S.1 47) - 1)).1 47), .int 0]) (r := []) fe_211_56 lm_12_453 md_206 rfl rfl (Nat.le_of_ble_eq_true rfl) m_c_0 (m_lt hh (by decide)) (Nat.le_of_ble_eq_true rfl) (Nat.le_of_ble_eq_true rfl) ?_
        cases hc6 : F206 n ((m_sI S 47 ((S.1 47) - 1)).1 47) 0 (m_sI S 47 ((S.1 47) - 1)) with
        | none => rw [hc6] at hf; cases hf
        | some z5 =>
          rw [hc6, Option.bind_some] at hf
          refine F206c (r0 := z5.1) (S0 := z5.2) hh hc6 ?_
          refine r_aload_n fe_211_59 rfl ?_
          refine r_dup fe_211_60 rfl ?_
          refine mr_getf hh fe_211_61 lf_12_346 rfl ?_
          refine r_iconst (v := 1) fe_211_64 (by decide) ?_
          refine r_iadd (v := ((z5.2.1 47) + 1)) fe_211_65 rfl ?_
          refine mr_putf hh fe_211_66 lf_12_346 (m_f_47 _ _) (by decide) rfl rfl rfl ?_
          refine r_vret fe_211_69 ?_
          exact dfin (P := fun _ T => Q none (mst T h)) hf hQ
      · rw [if_neg hb4] at hf
        refine r_ic_f (t := 40) fe_211_16 (by decide) (Bool.eq_false_iff.mpr hb4) ?_
        refine r_aload_n fe_211_19 rfl ?_
        refine mr_getf hh fe_211_20 lf_12_118 rfl ?_
        refine r_iload_n fe_211_23 rfl ?_
        refine r_bipush (v := 114) fe_211_24 (by decide) ?_
        refine r_isub (v := (l1 - 114)) fe_211_26 rfl ?_
        refine r_aload_n fe_211_27 rfl ?_
        refine mr_getf hh fe_211_28 lf_12_118 rfl ?_
        refine r_iload_n fe_211_31 rfl ?_
        by_cases hg7 : ¬ (l1 < 0 ∨ 2280 ≤ (l1).toNatClampNeg)
        rotate_left
        · rw [if_neg hg7] at hf; cases hf
        rw [if_pos hg7] at hf
        refine r_iald (j := (Int32.toNatClampNeg l1)) (v := S.2.1 35 (Int32.toNatClampNeg l1)) fe_211_32 m_c_35 (m_lt hh (by decide)) (fun z => hg7 (Or.inl z)) rfl (fun z => hg7 (Or.inr z)) rfl ?_
        by_cases hg8 : ¬ ((l1 - 114) < 0 ∨ 2280 ≤ ((l1 - 114)).toNatClampNeg)
        rotate_left
        · rw [if_neg hg8] at hf; cases hf
        rw [if_pos hg8] at hf
        refine mr_iast (k := 35) (n := 2280) (j := (Int32.toNatClampNeg (l1 - 114))) hh fe_211_33 rfl (by decide) (by decide) rfl rfl (fun z => hg8 (Or.inl z)) rfl (fun z => hg8 (Or.inr z)) ?_
        refine r_iinc (v := (l1 + 1)) fe_211_34 rfl rfl rfl ?_
        refine r_goto (t := 12) fe_211_37 (by decide) ?_
        refine go_weak (L0 := [.ref 130, .int (l1 + 1)]) (lwk_c (Or.inl rfl) (lwk_c (Or.inl rfl) (lwk_rf []))) ?_
        exact ih.2 (l1 + 1) (m_sA S 35 (Int32.toNatClampNeg (l1 - 114)) (S.2.1 35 (Int32.toNatClampNeg l1))) hf
theorem F211c {xs : Nat → Int32} {L9 d n : Nat} {h : AmH} {Q : Option Value → AmH → Prop} {r0 : Unit} {S0 S : mS}  (hh : 172 ≤ h.2.1) (hf : F211 n  S = some (r0, S0)) (hQ : Q none (mst S0 h)) : Ca (am_X xs L9) (d + 3) 211 [.ref 130] (mst S h) Q := (F211l hh hQ n).1 0 S hf
def F213b0 (F : Nat → Int32 → Int32 → mS → Option (Int32 × mS)) (n : Nat) (l1 : Int32) (l2 : Int32) (S : mS) : Option (Int32 × mS) := F 4 0 0 S
def F213b4 (F : Nat → Int32 → Int32 → mS → Option (Int32 × mS)) (n : Nat) (l1 : Int32) (l2 : Int32) (S : mS) : Option (Int32 × mS) := (if am_ic .ge l2 (S.2.1 1 4) = true then some (l1, S) else ((F202 n l2 S).bind (fun z2 => (if am_if .eq z2.1 = true then F 4 (l1 ||| 0) (l2 + 1) z2.2 else F 4 (l1 ||| (1 <<< (l2 &&& 31))) (l2 + 1) z2.2))))
def F213f : Nat → Nat → Int32 → Int32 → mS → Option (Int32 × mS)
  | 0, _, _, _, _ => none
  | n + 1, c, l1, l2, S => if c = 0 then F213b0 (F213f n) n l1 l2 S else F213b4 (F213f n) n l1 l2 S
theorem F213e0 (n : Nat) (l1 : Int32) (l2 : Int32) (S : mS) : F213f (n + 1) 0 l1 l2 S = F213b0 (F213f n) n l1 l2 S := if_pos rfl
theorem F213e4 (n : Nat) (l1 : Int32) (l2 : Int32) (S : mS) : F213f (n + 1) 4 l1 l2 S = F213b4 (F213f n) n l1 l2 S := if_neg (by decide)
def F213 (n : Nat)  (S : mS) : Option (Int32 × mS) := F213f n 0 0 0 S
set_option maxRecDepth 20000 in
set_option maxHeartbeats 2000000 in
theorem F213l {xs : Nat → Int32} {L9 d : Nat} {h : AmH} {Q : Option Value → AmH → Prop} {r0 : Int32} {S0 : mS} (hh : 172 ≤ h.2.1) (hQ : Q (some (.int r0)) (mst S0 h)) : ∀ n : Nat, (∀ (l1 : Int32) (l2 : Int32) (S : mS), F213f n 0 l1 l2 S = some (r0, S0) → Go (am_X xs L9) (d + 1) 213 0 [.ref 130, .float 0, .float 0] [] (mst S h) Q) ∧ (∀ (l1 : Int32) (l2 : Int32) (S : mS), F213f n 4 l1 l2 S = some (r0, S0) → Go (am_X xs L9) (d + 1) 213 4 [.ref 130, .int l1, .int l2] [] (mst S h) Q) := by
  intro n
  induction n with
  | zero => exact ⟨fun l1 l2 S hf => (by cases hf), fun l1 l2 S hf => (by cases hf)⟩
  | succ n ih =>
    refine ⟨?_, ?_⟩
    · intro l1 l2 S hf
      rw [F213e0] at hf
      unfold F213b0 at hf
      refine r_iconst (v := 0) fe_213_0 (by decide) ?_
      refine r_istore_n fe_213_1 (Nat.le_of_ble_eq_true rfl) rfl ?_
      refine r_iconst (v := 0) fe_213_2 (by decide) ?_
      refine r_istore_n fe_213_3 (Nat.le_of_ble_eq_true rfl) rfl ?_
      refine go_weak (L0 := [.ref 130, .int 0, .int 0]) (lwk_c (Or.inl rfl) (lwk_c (Or.inl rfl) (lwk_c (Or.inl rfl) (lwk_rf [])))) ?_
      exact ih.2 0 0 S hf
    · intro l1 l2 S hf
      rw [F213e4] at hf
      unfold F213b4 at hf
      refine r_iload_n fe_213_4 rfl ?_
      refine r_aload_n fe_213_5 rfl ?_
      refine mr_getf hh fe_213_6 lf_12_9 rfl ?_
      refine r_iconst (v := 4) fe_213_9 (by decide) ?_
      refine r_iald (j := 4) (v := S.2.1 1 4) fe_213_10 m_c_1 (m_lt hh (by decide)) (by decide) (by decide) (by decide) rfl ?_
      by_cases hb1 : am_ic .ge l2 (S.2.1 1 4) = true
      · rw [if_pos hb1] at hf
        refine r_ic_t (t := 38) fe_213_11 (by decide) hb1 ?_
        refine r_iload_n fe_213_38 rfl ?_
        refine r_iret fe_213_39 ⟨rfl, by decide⟩ ?_
        exact dfin (P := fun r T => Q (some (.int r)) (mst T h)) hf hQ
      · rw [if_neg hb1] at hf
        refine r_ic_f (t := 38) fe_213_11 (by decide) (Bool.eq_false_iff.mpr hb1) ?_
        refine r_iload_n fe_213_14 rfl ?_
        refine r_aload_n fe_213_15 rfl ?_
        refine r_iload_n fe_213_16 rfl ?_
        refine r_callV (as := [.int l2]) (r := [.int l1]) fe_213_17 lm_12_374 md_202 rfl rfl (Nat.le_of_ble_eq_true rfl) m_c_0 (m_lt hh (by decide)) (Nat.le_of_ble_eq_true rfl) (Nat.le_of_ble_eq_true rfl) ?_
        cases hc3 : F202 n l2 S with
        | none => rw [hc3] at hf; cases hf
        | some z2 =>
          rw [hc3, Option.bind_some] at hf
          refine F202c (r0 := z2.1) (S0 := z2.2) hh hc3 ?_
          by_cases hb4 : am_if .eq z2.1 = true
          · rw [if_pos hb4] at hf
            refine r_if_t (t := 29) fe_213_20 (by decide) hb4 ?_
            refine r_iconst (v := 0) fe_213_29 (by decide) ?_
            refine r_ior (v := (l1 ||| 0)) fe_213_30 rfl ?_
            refine r_istore_n fe_213_31 (Nat.le_of_ble_eq_true rfl) rfl ?_
            refine r_iinc (v := (l2 + 1)) fe_213_32 rfl rfl rfl ?_
            refine r_goto (t := 4) fe_213_35 (by decide) ?_
            refine go_weak (L0 := [.ref 130, .int (l1 ||| 0), .int (l2 + 1)]) (lwk_c (Or.inl rfl) (lwk_c (Or.inl rfl) (lwk_c (Or.inl rfl) (lwk_rf [])))) ?_
            exact ih.2 (l1 ||| 0) (l2 + 1) z2.2 hf
          · rw [if_neg hb4] at hf
            refine r_if_f (t := 29) fe_213_20 (by decide) (Bool.eq_false_iff.mpr hb4) ?_
            refine r_iconst (v := 1) fe_213_23 (by decide) ?_
            refine r_iload_n fe_213_24 rfl ?_
            refine r_ishl (v := (1 <<< (l2 &&& 31))) fe_213_25 rfl ?_
            refine r_goto (t := 30) fe_213_26 (by decide) ?_
            refine r_ior (v := (l1 ||| (1 <<< (l2 &&& 31)))) fe_213_30 rfl ?_
            refine r_istore_n fe_213_31 (Nat.le_of_ble_eq_true rfl) rfl ?_
            refine r_iinc (v := (l2 + 1)) fe_213_32 rfl rfl rfl ?_
            refine r_goto (t := 4) fe_213_35 (by decide) ?_
            refine go_weak (L0 := [.ref 130, .int (l1 ||| (1 <<< (l2 &&& 31))), .int (l2 + 1)]) (lwk_c (Or.inl rfl) (lwk_c (Or.inl rfl) (lwk_c (Or.inl rfl) (lwk_rf [])))) ?_
            exact ih.2 (l1 ||| (1 <<< (l2 &&& 31))) (l2 + 1) z2.2 hf
theorem F213c {xs : Nat → Int32} {L9 d n : Nat} {h : AmH} {Q : Option Value → AmH → Prop} {r0 : Int32} {S0 S : mS}  (hh : 172 ≤ h.2.1) (hf : F213 n  S = some (r0, S0)) (hQ : Q (some (.int r0)) (mst S0 h)) : Ca (am_X xs L9) (d + 1) 213 [.ref 130] (mst S h) Q := (F213l hh hQ n).1 0 0 S hf
def F215b0 (F : Nat → Int32 → mS → Option (Int32 × mS)) (n : Nat) (l1 : Int32) (S : mS) : Option (Int32 × mS) := ((F198 n l1 S).bind (fun z1 => (if am_ic .eq z1.1 (-1) = true then some (0, z1.2) else ((F199 n (z1.2.2.1 1 5) z1.1 z1.2).bind (fun z4 => (if am_if .eq z4.1 = true then some (0, z4.2) else some (1, z4.2)))))))
def F215f : Nat → Nat → Int32 → mS → Option (Int32 × mS)
  | 0, _, _, _ => none
  | n + 1, c, l1, S => F215b0 (F215f n) n l1 S
theorem F215e0 (n : Nat) (l1 : Int32) (S : mS) : F215f (n + 1) 0 l1 S = F215b0 (F215f n) n l1 S := rfl
def F215 (n : Nat) (l1 : Int32) (S : mS) : Option (Int32 × mS) := F215f n 0 l1 S
set_option maxRecDepth 20000 in
set_option maxHeartbeats 2000000 in
theorem F215l {xs : Nat → Int32} {L9 d : Nat} {h : AmH} {Q : Option Value → AmH → Prop} {r0 : Int32} {S0 : mS} (hh : 172 ≤ h.2.1) (hQ : Q (some (.int r0)) (mst S0 h)) : ∀ n : Nat, (∀ (l1 : Int32) (S : mS), F215f n 0 l1 S = some (r0, S0) → Go (am_X xs L9) (d + 2) 215 0 [.ref 130, .int l1, .float 0] [] (mst S h) Q) := by
  intro n
  induction n with
  | zero => exact fun l1 S hf => (by cases hf)
  | succ n ih =>
    intro l1 S hf
    rw [F215e0] at hf
    unfold F215b0 at hf
    refine r_aload_n fe_215_0 rfl ?_
    refine r_iload_n fe_215_1 rfl ?_
    refine r_callV (as := [.int l1]) (r := []) fe_215_2 lm_12_384 md_198 rfl rfl (Nat.le_of_ble_eq_true rfl) m_c_0 (m_lt hh (by decide)) (Nat.le_of_ble_eq_true rfl) (Nat.le_of_ble_eq_true rfl) ?_
    cases hc2 : F198 n l1 S with
    | none => rw [hc2] at hf; cases hf
    | some z1 =>
      rw [hc2, Option.bind_some] at hf
      refine F198c (r0 := z1.1) (S0 := z1.2) hh hc2 ?_
      refine r_istore_n fe_215_5 (Nat.le_of_ble_eq_true rfl) rfl ?_
      refine r_iload_n fe_215_6 rfl ?_
      refine r_iconst (v := -1) fe_215_7 (by decide) ?_
      by_cases hb3 : am_ic .eq z1.1 (-1) = true
      · rw [if_pos hb3] at hf
        refine r_ic_t (t := 28) fe_215_8 (by decide) hb3 ?_
        refine r_iconst (v := 0) fe_215_28 (by decide) ?_
        refine r_iret fe_215_29 ⟨rfl, by decide⟩ ?_
        exact dfin (P := fun r T => Q (some (.int r)) (mst T h)) hf hQ
      · rw [if_neg hb3] at hf
        refine r_ic_f (t := 28) fe_215_8 (by decide) (Bool.eq_false_iff.mpr hb3) ?_
        refine r_aload_n fe_215_11 rfl ?_
        refine mr_getf hh fe_215_12 lf_12_9 rfl ?_
        refine r_iconst (v := 5) fe_215_15 (by decide) ?_
        refine r_iald (j := 5) (v := z1.2.2.1 1 5) fe_215_16 m_c_1 (m_lt hh (by decide)) (by decide) (by decide) (by decide) rfl ?_
        refine r_iload_n fe_215_17 rfl ?_
        refine r_callS (as := [.int (z1.2.2.1 1 5), .int z1.1]) (r := []) fe_215_18 lm_12_387 md_199 rfl rfl (Nat.le_of_ble_eq_true rfl) (Nat.le_of_ble_eq_true rfl) (Nat.le_of_ble_eq_true rfl) ?_
        cases hc5 : F199 n (z1.2.2.1 1 5) z1.1 z1.2 with
        | none => rw [hc5] at hf; cases hf
        | some z4 =>
          rw [hc5, Option.bind_some] at hf
          refine F199c (r0 := z4.1) (S0 := z4.2) hh hc5 ?_
          by_cases hb6 : am_if .eq z4.1 = true
          · rw [if_pos hb6] at hf
            refine r_if_t (t := 28) fe_215_21 (by decide) hb6 ?_
            refine r_iconst (v := 0) fe_215_28 (by decide) ?_
            refine r_iret fe_215_29 ⟨rfl, by decide⟩ ?_
            exact dfin (P := fun r T => Q (some (.int r)) (mst T h)) hf hQ
          · rw [if_neg hb6] at hf
            refine r_if_f (t := 28) fe_215_21 (by decide) (Bool.eq_false_iff.mpr hb6) ?_
            refine r_iconst (v := 1) fe_215_24 (by decide) ?_
            refine r_goto (t := 29) fe_215_25 (by decide) ?_
            refine r_iret fe_215_29 ⟨rfl, by decide⟩ ?_
            exact dfin (P := fun r T => Q (some (.int r)) (mst T h)) hf hQ
theorem F215c {xs : Nat → Int32} {L9 d n : Nat} {h : AmH} {Q : Option Value → AmH → Prop} {r0 : Int32} {S0 S : mS} {l1 : Int32} (hh : 172 ≤ h.2.1) (hf : F215 n l1 S = some (r0, S0)) (hQ : Q (some (.int r0)) (mst S0 h)) : Ca (am_X xs L9) (d + 2) 215 [.ref 130, .int l1] (mst S h) Q := (F215l hh hQ n) l1 S hf
def F217b0 (F : Nat → Int32 → Int32 → Int32 → mS → Option (Int32 × mS)) (n : Nat) (l0 : Int32) (l1 : Int32) (l2 : Int32) (S : mS) : Option (Int32 × mS) := F 4 0 0 l0 S
def F217b4 (F : Nat → Int32 → Int32 → Int32 → mS → Option (Int32 × mS)) (n : Nat) (l0 : Int32) (l1 : Int32) (l2 : Int32) (S : mS) : Option (Int32 × mS) := (if am_if .le l2 = true then some (l1, S) else F 4 0 (l1 + 1) (l2 / 10) S)
def F217f : Nat → Nat → Int32 → Int32 → Int32 → mS → Option (Int32 × mS)
  | 0, _, _, _, _, _ => none
  | n + 1, c, l0, l1, l2, S => if c = 0 then F217b0 (F217f n) n l0 l1 l2 S else F217b4 (F217f n) n l0 l1 l2 S
theorem F217e0 (n : Nat) (l0 : Int32) (l1 : Int32) (l2 : Int32) (S : mS) : F217f (n + 1) 0 l0 l1 l2 S = F217b0 (F217f n) n l0 l1 l2 S := if_pos rfl
theorem F217e4 (n : Nat) (l0 : Int32) (l1 : Int32) (l2 : Int32) (S : mS) : F217f (n + 1) 4 l0 l1 l2 S = F217b4 (F217f n) n l0 l1 l2 S := if_neg (by decide)
def F217 (n : Nat) (l0 : Int32) (S : mS) : Option (Int32 × mS) := F217f n 0 l0 0 0 S
set_option maxRecDepth 20000 in
set_option maxHeartbeats 2000000 in
theorem F217l {xs : Nat → Int32} {L9 d : Nat} {h : AmH} {Q : Option Value → AmH → Prop} {r0 : Int32} {S0 : mS} (hh : 172 ≤ h.2.1) (hQ : Q (some (.int r0)) (mst S0 h)) : ∀ n : Nat, (∀ (l0 : Int32) (l1 : Int32) (l2 : Int32) (S : mS), F217f n 0 l0 l1 l2 S = some (r0, S0) → Go (am_X xs L9) (d + 0) 217 0 [.int l0, .float 0, .float 0] [] (mst S h) Q) ∧ (∀ (l0 : Int32) (l1 : Int32) (l2 : Int32) (S : mS), F217f n 4 l0 l1 l2 S = some (r0, S0) → Go (am_X xs L9) (d + 0) 217 4 [.float 0, .int l1, .int l2] [] (mst S h) Q) := by
  intro n
  induction n with
  | zero => exact ⟨fun l0 l1 l2 S hf => (by cases hf), fun l0 l1 l2 S hf => (by cases hf)⟩
  | succ n ih =>
    refine ⟨?_, ?_⟩
    · intro l0 l1 l2 S hf
      rw [F217e0] at hf
      unfold F217b0 at hf
      refine r_iconst (v := 0) fe_217_0 (by decide) ?_
      refine r_istore_n fe_217_1 (Nat.le_of_ble_eq_true rfl) rfl ?_
      refine r_iload_n fe_217_2 rfl ?_
      refine r_istore_n fe_217_3 (Nat.le_of_ble_eq_true rfl) rfl ?_
      refine go_weak (L0 := [.float 0, .int 0, .int l0]) (lwk_c (Or.inr rfl) (lwk_c (Or.inl rfl) (lwk_c (Or.inl rfl) (lwk_rf [])))) ?_
      exact ih.2 0 0 l0 S hf
    · intro l0 l1 l2 S hf
      rw [F217e4] at hf
      unfold F217b4 at hf
      refine r_iload_n fe_217_4 rfl ?_
      by_cases hb1 : am_if .le l2 = true
      · rw [if_pos hb1] at hf
        refine r_if_t (t := 19) fe_217_5 (by decide) hb1 ?_
        refine r_iload_n fe_217_19 rfl ?_
        refine r_iret fe_217_20 ⟨rfl, by decide⟩ ?_
        exact dfin (P := fun r T => Q (some (.int r)) (mst T h)) hf hQ
      · rw [if_neg hb1] at hf
        refine r_if_f (t := 19) fe_217_5 (by decide) (Bool.eq_false_iff.mpr hb1) ?_
        refine r_iload_n fe_217_8 rfl ?_
        refine r_bipush (v := 10) fe_217_9 (by decide) ?_
        refine r_idiv (v := (l2 / 10)) fe_217_11 (by decide) rfl ?_
        refine r_istore_n fe_217_12 (Nat.le_of_ble_eq_true rfl) rfl ?_
        refine r_iinc (v := (l1 + 1)) fe_217_13 rfl rfl rfl ?_
        refine r_goto (t := 4) fe_217_16 (by decide) ?_
        refine go_weak (L0 := [.float 0, .int (l1 + 1), .int (l2 / 10)]) (lwk_c (Or.inl rfl) (lwk_c (Or.inl rfl) (lwk_c (Or.inl rfl) (lwk_rf [])))) ?_
        exact ih.2 0 (l1 + 1) (l2 / 10) S hf
theorem F217c {xs : Nat → Int32} {L9 d n : Nat} {h : AmH} {Q : Option Value → AmH → Prop} {r0 : Int32} {S0 S : mS} {l0 : Int32} (hh : 172 ≤ h.2.1) (hf : F217 n l0 S = some (r0, S0)) (hQ : Q (some (.int r0)) (mst S0 h)) : Ca (am_X xs L9) (d + 0) 217 [.int l0] (mst S h) Q := (F217l hh hQ n).1 l0 0 0 S hf
def F218b0 (F : Nat → Int32 → Int32 → mS → Option (Int32 × mS)) (n : Nat) (l1 : Int32) (l2 : Int32) (S : mS) : Option (Int32 × mS) := ((F217 n l2 S).bind (fun z1 => (if am_ic .ge z1.1 8 = true then some (l2, z1.2) else (if ¬ (l1 < 0 ∨ 6 ≤ (l1).toNatClampNeg) then some (((10 * l2) + (z1.2.2.1 5 (Int32.toNatClampNeg l1))), z1.2) else none))))
def F218f : Nat → Nat → Int32 → Int32 → mS → Option (Int32 × mS)
  | 0, _, _, _, _ => none
  | n + 1, c, l1, l2, S => F218b0 (F218f n) n l1 l2 S
theorem F218e0 (n : Nat) (l1 : Int32) (l2 : Int32) (S : mS) : F218f (n + 1) 0 l1 l2 S = F218b0 (F218f n) n l1 l2 S := rfl
def F218 (n : Nat) (l1 : Int32) (l2 : Int32) (S : mS) : Option (Int32 × mS) := F218f n 0 l1 l2 S
set_option maxRecDepth 20000 in
set_option maxHeartbeats 2000000 in
theorem F218l {xs : Nat → Int32} {L9 d : Nat} {h : AmH} {Q : Option Value → AmH → Prop} {r0 : Int32} {S0 : mS} (hh : 172 ≤ h.2.1) (hQ : Q (some (.int r0)) (mst S0 h)) : ∀ n : Nat, (∀ (l1 : Int32) (l2 : Int32) (S : mS), F218f n 0 l1 l2 S = some (r0, S0) → Go (am_X xs L9) (d + 1) 218 0 [.ref 130, .int l1, .int l2] [] (mst S h) Q) := by
  intro n
  induction n with
  | zero => exact fun l1 l2 S hf => (by cases hf)
  | succ n ih =>
    intro l1 l2 S hf
    rw [F218e0] at hf
    unfold F218b0 at hf
    refine r_iload_n fe_218_0 rfl ?_
    refine r_callS (as := [.int l2]) (r := []) fe_218_1 lm_12_151 md_217 rfl rfl (Nat.le_of_ble_eq_true rfl) (Nat.le_of_ble_eq_true rfl) (Nat.le_of_ble_eq_true rfl) ?_
    cases hc2 : F217 n l2 S with
    | none => rw [hc2] at hf; cases hf
    | some z1 =>
      rw [hc2, Option.bind_some] at hf
      refine F217c (r0 := z1.1) (S0 := z1.2) hh hc2 ?_
      refine r_bipush (v := 8) fe_218_4 (by decide) ?_
      by_cases hb3 : am_ic .ge z1.1 8 = true
      · rw [if_pos hb3] at hf
        refine r_ic_t (t := 23) fe_218_6 (by decide) hb3 ?_
        refine r_iload_n fe_218_23 rfl ?_
        refine r_iret fe_218_24 ⟨rfl, by decide⟩ ?_
        exact dfin (P := fun r T => Q (some (.int r)) (mst T h)) hf hQ
      · rw [if_neg hb3] at hf
        refine r_ic_f (t := 23) fe_218_6 (by decide) (Bool.eq_false_iff.mpr hb3) ?_
        refine r_bipush (v := 10) fe_218_9 (by decide) ?_
        refine r_iload_n fe_218_11 rfl ?_
        refine r_imul (v := (10 * l2)) fe_218_12 rfl ?_
        refine r_aload_n fe_218_13 rfl ?_
        refine mr_getf hh fe_218_14 lf_12_22 rfl ?_
        refine r_iload_n fe_218_17 rfl ?_
        by_cases hg4 : ¬ (l1 < 0 ∨ 6 ≤ (l1).toNatClampNeg)
        rotate_left
        · rw [if_neg hg4] at hf; cases hf
        rw [if_pos hg4] at hf
        refine r_iald (j := (Int32.toNatClampNeg l1)) (v := z1.2.2.1 5 (Int32.toNatClampNeg l1)) fe_218_18 m_c_5 (m_lt hh (by decide)) (fun z => hg4 (Or.inl z)) rfl (fun z => hg4 (Or.inr z)) rfl ?_
        refine r_iadd (v := ((10 * l2) + (z1.2.2.1 5 (Int32.toNatClampNeg l1)))) fe_218_19 rfl ?_
        refine r_goto (t := 24) fe_218_20 (by decide) ?_
        refine r_iret fe_218_24 ⟨rfl, by decide⟩ ?_
        exact dfin (P := fun r T => Q (some (.int r)) (mst T h)) hf hQ
theorem F218c {xs : Nat → Int32} {L9 d n : Nat} {h : AmH} {Q : Option Value → AmH → Prop} {r0 : Int32} {S0 S : mS} {l1 : Int32} {l2 : Int32} (hh : 172 ≤ h.2.1) (hf : F218 n l1 l2 S = some (r0, S0)) (hQ : Q (some (.int r0)) (mst S0 h)) : Ca (am_X xs L9) (d + 1) 218 [.ref 130, .int l1, .int l2] (mst S h) Q := (F218l hh hQ n) l1 l2 S hf
def F216b0 (F : Nat → Int32 → Int32 → Int32 → mS → Option (Unit × mS)) (n : Nat) (l1 : Int32) (l2 : Int32) (l3 : Int32) (S : mS) : Option (Unit × mS) := (if ¬ (l1 < 0 ∨ 13 ≤ (l1).toNatClampNeg) then (if ¬ (l1 < 0 ∨ 13 ≤ (l1).toNatClampNeg) then (if ¬ (l1 < 0 ∨ 13 ≤ (l1).toNatClampNeg) then some ((), (m_sA (m_sA (m_sA S 13 (Int32.toNatClampNeg l1) l2) 14 (Int32.toNatClampNeg l1) l3) 15 (Int32.toNatClampNeg l1) ((m_sA (m_sA S 13 (Int32.toNatClampNeg l1) l2) 14 (Int32.toNatClampNeg l1) l3).2.1 1 6))) else none) else none) else none)
def F216f : Nat → Nat → Int32 → Int32 → Int32 → mS → Option (Unit × mS)
  | 0, _, _, _, _, _ => none
  | n + 1, c, l1, l2, l3, S => F216b0 (F216f n) n l1 l2 l3 S
theorem F216e0 (n : Nat) (l1 : Int32) (l2 : Int32) (l3 : Int32) (S : mS) : F216f (n + 1) 0 l1 l2 l3 S = F216b0 (F216f n) n l1 l2 l3 S := rfl
def F216 (n : Nat) (l1 : Int32) (l2 : Int32) (l3 : Int32) (S : mS) : Option (Unit × mS) := F216f n 0 l1 l2 l3 S
set_option maxRecDepth 20000 in
set_option maxHeartbeats 2000000 in
theorem F216l {xs : Nat → Int32} {L9 d : Nat} {h : AmH} {Q : Option Value → AmH → Prop} {r0 : Unit} {S0 : mS} (hh : 172 ≤ h.2.1) (hQ : Q none (mst S0 h)) : ∀ n : Nat, (∀ (l1 : Int32) (l2 : Int32) (l3 : Int32) (S : mS), F216f n 0 l1 l2 l3 S = some (r0, S0) → Go (am_X xs L9) (d + 0) 216 0 [.ref 130, .int l1, .int l2, .int l3] [] (mst S h) Q) := by
  intro n
  induction n with
  | zero => exact fun l1 l2 l3 S hf => (by cases hf)
  | succ n ih =>
    intro l1 l2 l3 S hf
    rw [F216e0] at hf
    unfold F216b0 at hf
    refine r_aload_n fe_216_0 rfl ?_
    refine mr_getf hh fe_216_1 lf_12_46 rfl ?_
    refine r_iload_n fe_216_4 rfl ?_
    refine r_iload_n fe_216_5 rfl ?_
    by_cases hg1 : ¬ (l1 < 0 ∨ 13 ≤ (l1).toNatClampNeg)
    rotate_left
    · rw [if_neg hg1] at hf; cases hf
    rw [if_pos hg1] at hf
    refine mr_iast (k := 13) (n := 13) (j := (Int32.toNatClampNeg l1)) hh fe_216_6 rfl (by decide) (by decide) rfl rfl (fun z => hg1 (Or.inl z)) rfl (fun z => hg1 (Or.inr z)) ?_
    refine r_aload_n fe_216_7 rfl ?_
    refine mr_getf hh fe_216_8 lf_12_49 rfl ?_
    refine r_iload_n fe_216_11 rfl ?_
    refine r_iload_n fe_216_12 rfl ?_
    by_cases hg2 : ¬ (l1 < 0 ∨ 13 ≤ (l1).toNatClampNeg)
    rotate_left
    · rw [if_neg hg2] at hf; cases hf
    rw [if_pos hg2] at hf
    refine mr_iast (k := 14) (n := 13) (j := (Int32.toNatClampNeg l1)) hh fe_216_13 rfl (by decide) (by decide) rfl rfl (fun z => hg2 (Or.inl z)) rfl (fun z => hg2 (Or.inr z)) ?_
    refine r_aload_n fe_216_14 rfl ?_
    refine mr_getf hh fe_216_15 lf_12_52 rfl ?_
    refine r_iload_n fe_216_18 rfl ?_
    refine r_aload_n fe_216_19 rfl ?_
    refine mr_getf hh fe_216_20 lf_12_9 rfl ?_
    refine r_bipush (v := 6) fe_216_23 (by decide) ?_
    refine r_iald (j := 6) (v := (m_sA (m_sA S 13 (Int32.toNatClampNeg l1) l2) 14 (Int32.toNatClampNeg l1) l3).2.1 1 6) fe_216_25 m_c_1 (m_lt hh (by decide)) (by decide) (by decide) (by decide) rfl ?_
    by_cases hg3 : ¬ (l1 < 0 ∨ 13 ≤ (l1).toNatClampNeg)
    rotate_left
    · rw [if_neg hg3] at hf; cases hf
    rw [if_pos hg3] at hf
    refine mr_iast (k := 15) (n := 13) (j := (Int32.toNatClampNeg l1)) hh fe_216_26 rfl (by decide) (by decide) rfl rfl (fun z => hg3 (Or.inl z)) rfl (fun z => hg3 (Or.inr z)) ?_
    refine r_vret fe_216_27 ?_
    exact dfin (P := fun _ T => Q none (mst T h)) hf hQ
theorem F216c {xs : Nat → Int32} {L9 d n : Nat} {h : AmH} {Q : Option Value → AmH → Prop} {r0 : Unit} {S0 S : mS} {l1 : Int32} {l2 : Int32} {l3 : Int32} (hh : 172 ≤ h.2.1) (hf : F216 n l1 l2 l3 S = some (r0, S0)) (hQ : Q none (mst S0 h)) : Ca (am_X xs L9) (d + 0) 216 [.ref 130, .int l1, .int l2, .int l3] (mst S h) Q := (F216l hh hQ n) l1 l2 l3 S hf
def F214b0 (F : Nat → Int32 → mS → Option (Unit × mS)) (n : Nat) (l1 : Int32) (S : mS) : Option (Unit × mS) := (if ¬ (l1 < 0 ∨ 13 ≤ (l1).toNatClampNeg) then ((F215 n (S.2.1 10 (Int32.toNatClampNeg l1)) S).bind (fun z2 => (if am_if .eq z2.1 = true then (if ¬ (l1 < 0 ∨ 13 ≤ (l1).toNatClampNeg) then (if am_if .le (z2.2.2.1 12 (Int32.toNatClampNeg l1)) = true then (if ¬ (l1 < 0 ∨ 13 ≤ (l1).toNatClampNeg) then (if ¬ ((z2.2.2.1 10 (Int32.toNatClampNeg l1)) < 0 ∨ 16 ≤ ((z2.2.2.1 10 (Int32.toNatClampNeg l1))).toNatClampNeg) then (if am_ic .ne (z2.2.2.1 2 (Int32.toNatClampNeg (z2.2.2.1 10 (Int32.toNatClampNeg l1)))) (-1) = true then (if ¬ (l1 < 0 ∨ 13 ≤ (l1).toNatClampNeg) then (if ¬ ((z2.2.2.1 2 (Int32.toNatClampNeg (z2.2.2.1 10 (Int32.toNatClampNeg l1)))) < 0 ∨ 16 ≤ ((z2.2.2.1 2 (Int32.toNatClampNeg (z2.2.2.1 10 (Int32.toNatClampNeg l1))))).toNatClampNeg) then (if ¬ (l1 < 0 ∨ 13 ≤ (l1).toNatClampNeg) then ((F197 n (z2.2.2.1 2 (Int32.toNatClampNeg (z2.2.2.1 10 (Int32.toNatClampNeg l1)))) (m_sA (m_sA z2.2 10 (Int32.toNatClampNeg l1) (z2.2.2.1 2 (Int32.toNatClampNeg (z2.2.2.1 10 (Int32.toNatClampNeg l1))))) 12 (Int32.toNatClampNeg l1) ((m_sA z2.2 10 (Int32.toNatClampNeg l1) (z2.2.2.1 2 (Int32.toNatClampNeg (z2.2.2.1 10 (Int32.toNatClampNeg l1))))).2.1 3 (Int32.toNatClampNeg (z2.2.2.1 2 (Int32.toNatClampNeg (z2.2.2.1 10 (Int32.toNatClampNeg l1)))))))).bind (fun z13 => (if am_ic .eq z13.1 (-1) = true then some ((), z13.2) else (if ¬ (z13.1 < 0 ∨ 6 ≤ (z13.1).toNatClampNeg) then (if ¬ (l1 < 0 ∨ 13 ≤ (l1).toNatClampNeg) then ((F217 n (z13.2.2.1 11 (Int32.toNatClampNeg l1)) z13.2).bind (fun z18 => (if am_ic .ge z18.1 8 = true then (if ¬ (z13.1 < 0 ∨ 6 ≤ (z13.1).toNatClampNeg) then (if ¬ (l1 < 0 ∨ 13 ≤ (l1).toNatClampNeg) then ((F218 n z13.1 ((m_sA z18.2 6 (Int32.toNatClampNeg z13.1) ((z13.2.2.1 6 (Int32.toNatClampNeg z13.1)) + 0)).2.1 11 (Int32.toNatClampNeg l1)) (m_sA z18.2 6 (Int32.toNatClampNeg z13.1) ((z13.2.2.1 6 (Int32.toNatClampNeg z13.1)) + 0))).bind (fun z23 => (if ¬ (l1 < 0 ∨ 13 ≤ (l1).toNatClampNeg) then some ((), (m_sA z23.2 11 (Int32.toNatClampNeg l1) z23.1)) else none))) else none) else none) else (if ¬ (z13.1 < 0 ∨ 6 ≤ (z13.1).toNatClampNeg) then (if ¬ (l1 < 0 ∨ 13 ≤ (l1).toNatClampNeg) then ((F218 n z13.1 ((m_sA z18.2 6 (Int32.toNatClampNeg z13.1) ((z13.2.2.1 6 (Int32.toNatClampNeg z13.1)) + 1)).2.1 11 (Int32.toNatClampNeg l1)) (m_sA z18.2 6 (Int32.toNatClampNeg z13.1) ((z13.2.2.1 6 (Int32.toNatClampNeg z13.1)) + 1))).bind (fun z28 => (if ¬ (l1 < 0 ∨ 13 ≤ (l1).toNatClampNeg) then some ((), (m_sA z28.2 11 (Int32.toNatClampNeg l1) z28.1)) else none))) else none) else none)))) else none) else none)))) else none) else none) else none) else ((F216 n l1 1 (-1) z2.2).bind (fun z31 => some ((), z31.2)))) else none) else none) else (if ¬ (l1 < 0 ∨ 13 ≤ (l1).toNatClampNeg) then (if ¬ (l1 < 0 ∨ 13 ≤ (l1).toNatClampNeg) then some ((), (m_sA z2.2 12 (Int32.toNatClampNeg l1) ((z2.2.2.1 12 (Int32.toNatClampNeg l1)) - 1))) else none) else none)) else none) else some ((), z2.2)))) else none)
def F214f : Nat → Nat → Int32 → mS → Option (Unit × mS)
  | 0, _, _, _ => none
  | n + 1, c, l1, S => F214b0 (F214f n) n l1 S
theorem F214e0 (n : Nat) (l1 : Int32) (S : mS) : F214f (n + 1) 0 l1 S = F214b0 (F214f n) n l1 S := rfl
def F214 (n : Nat) (l1 : Int32) (S : mS) : Option (Unit × mS) := F214f n 0 l1 S
set_option maxRecDepth 20000 in
set_option maxHeartbeats 2000000 in
theorem F214l {xs : Nat → Int32} {L9 d : Nat} {h : AmH} {Q : Option Value → AmH → Prop} {r0 : Unit} {S0 : mS} (hh : 172 ≤ h.2.1) (hQ : Q none (mst S0 h)) : ∀ n : Nat, (∀ (l1 : Int32) (S : mS), F214f n 0 l1 S = some (r0, S0) → Go (am_X xs L9) (d + 3) 214 0 [.ref 130, .int l1, .float 0, .float 0] [] (mst S h) Q) := by
  intro n
  induction n with
  | zero => exact fun l1 S hf => (by cases hf)
  | succ n ih =>
    intro l1 S hf
    rw [F214e0] at hf
    unfold F214b0 at hf
    refine r_aload_n fe_214_0 rfl ?_
    refine r_aload_n fe_214_1 rfl ?_
    refine mr_getf hh fe_214_2 lf_12_37 rfl ?_
    refine r_iload_n fe_214_5 rfl ?_
    by_cases hg1 : ¬ (l1 < 0 ∨ 13 ≤ (l1).toNatClampNeg)
    rotate_left
    · rw [if_neg hg1] at hf; cases hf
    rw [if_pos hg1] at hf
    refine r_iald (j := (Int32.toNatClampNeg l1)) (v := S.2.1 10 (Int32.toNatClampNeg l1)) fe_214_6 m_c_10 (m_lt hh (by decide)) (fun z => hg1 (Or.inl z)) rfl (fun z => hg1 (Or.inr z)) rfl ?_
    refine r_callV (as := [.int (S.2.1 10 (Int32.toNatClampNeg l1))]) (r := []) fe_214_7 lm_12_399 md_215 rfl rfl (Nat.le_of_ble_eq_true rfl) m_c_0 (m_lt hh (by decide)) (Nat.le_of_ble_eq_true rfl) (Nat.le_of_ble_eq_true rfl) ?_
    cases hc3 : F215 n (S.2.1 10 (Int32.toNatClampNeg l1)) S with
    | none => rw [hc3] at hf; cases hf
    | some z2 =>
      rw [hc3, Option.bind_some] at hf
      refine F215c (r0 := z2.1) (S0 := z2.2) hh hc3 ?_
      by_cases hb4 : am_if .eq z2.1 = true
      · rw [if_pos hb4] at hf
        refine r_if_t (t := 14) fe_214_10 (by decide) hb4 ?_
        refine r_aload_n fe_214_14 rfl ?_
        refine mr_getf hh fe_214_15 lf_12_43 rfl ?_
        refine r_iload_n fe_214_18 rfl ?_
        by_cases hg5 : ¬ (l1 < 0 ∨ 13 ≤ (l1).toNatClampNeg)
        rotate_left
        · rw [if_neg hg5] at hf; cases hf
        rw [if_pos hg5] at hf
        refine r_iald (j := (Int32.toNatClampNeg l1)) (v := z2.2.2.1 12 (Int32.toNatClampNeg l1)) fe_214_19 m_c_12 (m_lt hh (by decide)) (fun z => hg5 (Or.inl z)) rfl (fun z => hg5 (Or.inr z)) rfl ?_
        by_cases hb6 : am_if .le (z2.2.2.1 12 (Int32.toNatClampNeg l1)) = true
        · rw [if_pos hb6] at hf
          refine r_if_t (t := 34) fe_214_20 (by decide) hb6 ?_
          refine r_aload_n fe_214_34 rfl ?_
          refine mr_getf hh fe_214_35 lf_12_13 rfl ?_
          refine r_aload_n fe_214_38 rfl ?_
          refine mr_getf hh fe_214_39 lf_12_37 rfl ?_
          refine r_iload_n fe_214_42 rfl ?_
          by_cases hg7 : ¬ (l1 < 0 ∨ 13 ≤ (l1).toNatClampNeg)
          rotate_left
          · rw [if_neg hg7] at hf; cases hf
          rw [if_pos hg7] at hf
          refine r_iald (j := (Int32.toNatClampNeg l1)) (v := z2.2.2.1 10 (Int32.toNatClampNeg l1)) fe_214_43 m_c_10 (m_lt hh (by decide)) (fun z => hg7 (Or.inl z)) rfl (fun z => hg7 (Or.inr z)) rfl ?_
          by_cases hg8 : ¬ ((z2.2.2.1 10 (Int32.toNatClampNeg l1)) < 0 ∨ 16 ≤ ((z2.2.2.1 10 (Int32.toNatClampNeg l1))).toNatClampNeg)
          rotate_left
          · rw [if_neg hg8] at hf; cases hf
          rw [if_pos hg8] at hf
          refine r_iald (j := (Int32.toNatClampNeg (z2.2.2.1 10 (Int32.toNatClampNeg l1)))) (v := z2.2.2.1 2 (Int32.toNatClampNeg (z2.2.2.1 10 (Int32.toNatClampNeg l1)))) fe_214_44 m_c_2 (m_lt hh (by decide)) (fun z => hg8 (Or.inl z)) rfl (fun z => hg8 (Or.inr z)) rfl ?_
          refine r_istore_n fe_214_45 (Nat.le_of_ble_eq_true rfl) rfl ?_
          refine r_iload_n fe_214_46 rfl ?_
          refine r_iconst (v := -1) fe_214_47 (by decide) ?_
          by_cases hb9 : am_ic .ne (z2.2.2.1 2 (Int32.toNatClampNeg (z2.2.2.1 10 (Int32.toNatClampNeg l1)))) (-1) = true
          · rw [if_pos hb9] at hf
            refine r_ic_t (t := 59) fe_214_48 (by decide) hb9 ?_
            refine r_aload_n fe_214_59 rfl ?_
            refine mr_getf hh fe_214_60 lf_12_37 rfl ?_
            refine r_iload_n fe_214_63 rfl ?_
            refine r_iload_n fe_214_64 rfl ?_
            by_cases hg10 : ¬ (l1 < 0 ∨ 13 ≤ (l1).toNatClampNeg)
            rotate_left
            · rw [if_neg hg10] at hf; cases hf
            rw [if_pos hg10] at hf
            refine mr_iast (k := 10) (n := 13) (j := (Int32.toNatClampNeg l1)) hh fe_214_65 rfl (by decide) (by decide) rfl rfl (fun z => hg10 (Or.inl z)) rfl (fun z => hg10 (Or.inr z)) ?_
            refine r_aload_n fe_214_66 rfl ?_
            refine mr_getf hh fe_214_67 lf_12_43 rfl ?_
            refine r_iload_n fe_214_70 rfl ?_
            refine r_aload_n fe_214_71 rfl ?_
            refine mr_getf hh fe_214_72 lf_12_16 rfl ?_
            refine r_iload_n fe_214_75 rfl ?_
            by_cases hg11 : ¬ ((z2.2.2.1 2 (Int32.toNatClampNeg (z2.2.2.1 10 (Int32.toNatClampNeg l1)))) < 0 ∨ 16 ≤ ((z2.2.2.1 2 (Int32.toNatClampNeg (z2.2.2.1 10 (Int32.toNatClampNeg l1))))).toNatClampNeg)
            rotate_left
            · rw [if_neg hg11] at hf; cases hf
            rw [if_pos hg11] at hf
            refine r_iald (j := (Int32.toNatClampNeg (z2.2.2.1 2 (Int32.toNatClampNeg (z2.2.2.1 10 (Int32.toNatClampNeg l1)))))) (v := (m_sA z2.2 10 (Int32.toNatClampNeg l1) (z2.2.2.1 2 (Int32.toNatClampNeg (z2.2.2.1 10 (Int32.toNatClampNeg l1))))).2.1 3 (Int32.toNatClampNeg (z2.2.2.1 2 (Int32.toNatClampNeg (z2.2.2.1 10 (Int32.toNatClampNeg l1)))))) fe_214_76 m_c_3 (m_lt hh (by decide)) (fun z => hg11 (Or.inl z)) rfl (fun z => hg11 (Or.inr z)) rfl ?_
            by_cases hg12 : ¬ (l1 < 0 ∨ 13 ≤ (l1).toNatClampNeg)
            rotate_left
            · rw [if_neg hg12] at hf; cases hf
            rw [if_pos hg12] at hf
            refine mr_iast (k := 12) (n := 13) (j := (Int32.toNatClampNeg l1)) hh fe_214_77 rfl (by decide) (by decide) rfl rfl (fun z => hg12 (Or.inl z)) rfl (fun z => hg12 (Or.inr z)) ?_
            refine r_aload_n fe_214_78 rfl ?_
            refine r_iload_n fe_214_79 rfl ?_
            refine r_callV (as := [.int (z2.2.2.1 2 (Int32.toNatClampNeg (z2.2.2.1 10 (Int32.toNatClampNeg l1))))]) (r := []) fe_214_80 lm_12_381 md_197 rfl rfl (Nat.le_of_ble_eq_true rfl) m_c_0 (m_lt hh (by decide)) (Nat.le_of_ble_eq_true rfl) (Nat.le_of_ble_eq_true rfl) ?_
            cases hc14 : F197 n (z2.2.2.1 2 (Int32.toNatClampNeg (z2.2.2.1 10 (Int32.toNatClampNeg l1)))) (m_sA (m_sA z2.2 10 (Int32.toNatClampNeg l1) (z2.2.2.1 2 (Int32.toNatClampNeg (z2.2.2.1 10 (Int32.toNatClampNeg l1))))) 12 (Int32.toNatClampNeg l1) ((m_sA z2.2 10 (Int32.toNatClampNeg l1) (z2.2.2.1 2 (Int32.toNatClampNeg (z2.2.2.1 10 (Int32.toNatClampNeg l1))))).2.1 3 (Int32.toNatClampNeg (z2.2.2.1 2 (Int32.toNatClampNeg (z2.2.2.1 10 (Int32.toNatClampNeg l1))))))) with
            | none => rw [hc14] at hf; cases hf
            | some z13 =>
              rw [hc14, Option.bind_some] at hf
              refine F197c (r0 := z13.1) (S0 := z13.2) hh hc14 ?_
              refine r_istore_n fe_214_83 (Nat.le_of_ble_eq_true rfl) rfl ?_
              refine r_iload_n fe_214_84 rfl ?_
              refine r_iconst (v := -1) fe_214_85 (by decide) ?_
              by_cases hb15 : am_ic .eq z13.1 (-1) = true
              · rw [if_pos hb15] at hf
                refine r_ic_t (t := 134) fe_214_86 (by decide) hb15 ?_
                refine r_vret fe_214_134 ?_
                exact dfin (P := fun _ T => Q none (mst T h)) hf hQ
              · rw [if_neg hb15] at hf
                refine r_ic_f (t := 134) fe_214_86 (by decide) (Bool.eq_false_iff.mpr hb15) ?_
                refine r_aload_n fe_214_89 rfl ?_
                refine mr_getf hh fe_214_90 lf_12_25 rfl ?_
                refine r_iload_n fe_214_93 rfl ?_
                refine r_dup2 fe_214_94 ⟨rfl, rfl⟩ ?_
                by_cases hg16 : ¬ (z13.1 < 0 ∨ 6 ≤ (z13.1).toNatClampNeg)
                rotate_left
                · rw [if_neg hg16] at hf; cases hf
                rw [if_pos hg16] at hf
                refine r_iald (j := (Int32.toNatClampNeg z13.1)) (v := z13.2.2.1 6 (Int32.toNatClampNeg z13.1)) fe_214_95 m_c_6 (m_lt hh (by decide)) (fun z => hg16 (Or.inl z)) rfl (fun z => hg16 (Or.inr z)) rfl ?_
                refine r_aload_n fe_214_96 rfl ?_
                refine mr_getf hh fe_214_97 lf_12_40 rfl ?_
                refine r_iload_n fe_214_100 rfl ?_
                by_cases hg17 : ¬ (l1 < 0 ∨ 13 ≤ (l1).toNatClampNeg)
                rotate_left
                · rw [if_neg hg17] at hf; cases hf
                rw [if_pos hg17] at hf
                refine r_iald (j := (Int32.toNatClampNeg l1)) (v := z13.2.2.1 11 (Int32.toNatClampNeg l1)) fe_214_101 m_c_11 (m_lt hh (by decide)) (fun z => hg17 (Or.inl z)) rfl (fun z => hg17 (Or.inr z)) rfl ?_
                refine r_callS (as := [.int (z13.2.2.1 11 (Int32.toNatClampNeg l1))]) (r := [.int (z13.2.2.1 6 (Int32.toNatClampNeg z13.1)), .int z13.1, .ref 136]) fe_214_102 lm_12_151 md_217 rfl rfl (Nat.le_of_ble_eq_true rfl) (Nat.le_of_ble_eq_true rfl) (Nat.le_of_ble_eq_true rfl) ?_
                cases hc19 : F217 n (z13.2.2.1 11 (Int32.toNatClampNeg l1)) z13.2 with
                | none => rw [hc19] at hf; cases hf
                | some z18 =>
                  rw [hc19, Option.bind_some] at hf
                  refine F217c (r0 := z18.1) (S0 := z18.2) hh hc19 ?_
                  refine r_bipush (v := 8) fe_214_105 (by decide) ?_
                  by_cases hb20 : am_ic .ge z18.1 8 = true
                  · rw [if_pos hb20] at hf
                    refine r_ic_t (t := 114) fe_214_107 (by decide) hb20 ?_
                    refine r_iconst (v := 0) fe_214_114 (by decide) ?_
                    refine r_iadd (v := ((z13.2.2.1 6 (Int32.toNatClampNeg z13.1)) + 0)) fe_214_115 rfl ?_
                    by_cases hg21 : ¬ (z13.1 < 0 ∨ 6 ≤ (z13.1).toNatClampNeg)
                    rotate_left
                    · rw [if_neg hg21] at hf; cases hf
                    rw [if_pos hg21] at hf
                    refine mr_iast (k := 6) (n := 6) (j := (Int32.toNatClampNeg z13.1)) hh fe_214_116 rfl (by decide) (by decide) rfl rfl (fun z => hg21 (Or.inl z)) rfl (fun z => hg21 (Or.inr z)) ?_
                    refine r_aload_n fe_214_117 rfl ?_
                    refine mr_getf hh fe_214_118 lf_12_40 rfl ?_
                    refine r_iload_n fe_214_121 rfl ?_
                    refine r_aload_n fe_214_122 rfl ?_
                    refine r_iload_n fe_214_123 rfl ?_
                    refine r_aload_n fe_214_124 rfl ?_
                    refine mr_getf hh fe_214_125 lf_12_40 rfl ?_
                    refine r_iload_n fe_214_128 rfl ?_
                    by_cases hg22 : ¬ (l1 < 0 ∨ 13 ≤ (l1).toNatClampNeg)
                    rotate_left
                    · rw [if_neg hg22] at hf; cases hf
                    rw [if_pos hg22] at hf
                    refine r_iald (j := (Int32.toNatClampNeg l1)) (v := (m_sA z18.2 6 (Int32.toNatClampNeg z13.1) ((z13.2.2.1 6 (Int32.toNatClampNeg z13.1)) + 0)).2.1 11 (Int32.toNatClampNeg l1)) fe_214_129 m_c_11 (m_lt hh (by decide)) (fun z => hg22 (Or.inl z)) rfl (fun z => hg22 (Or.inr z)) rfl ?_
                    refine r_callV (as := [.int z13.1, .int ((m_sA z18.2 6 (Int32.toNatClampNeg z13.1) ((z13.2.2.1 6 (Int32.toNatClampNeg z13.1)) + 0)).2.1 11 (Int32.toNatClampNeg l1))]) (r := [.int l1, .ref 141]) fe_214_130 lm_12_406 md_218 rfl rfl (Nat.le_of_ble_eq_true rfl) m_c_0 (m_lt hh (by decide)) (Nat.le_of_ble_eq_true rfl) (Nat.le_of_ble_eq_true rfl) ?_
                    cases hc24 : F218 n z13.1 ((m_sA z18.2 6 (Int32.toNatClampNeg z13.1) ((z13.2.2.1 6 (Int32.toNatClampNeg z13.1)) + 0)).2.1 11 (Int32.toNatClampNeg l1)) (m_sA z18.2 6 (Int32.toNatClampNeg z13.1) ((z13.2.2.1 6 (Int32.toNatClampNeg z13.1)) + 0)) with
                    | none => rw [hc24] at hf; cases hf
                    | some z23 =>
                      rw [hc24, Option.bind_some] at hf
                      refine F218c (r0 := z23.1) (S0 := z23.2) hh hc24 ?_
                      by_cases hg25 : ¬ (l1 < 0 ∨ 13 ≤ (l1).toNatClampNeg)
                      rotate_left
                      · rw [if_neg hg25] at hf; cases hf
                      rw [if_pos hg25] at hf
                      refine mr_iast (k := 11) (n := 13) (j := (Int32.toNatClampNeg l1)) hh fe_214_133 rfl (by decide) (by decide) rfl rfl (fun z => hg25 (Or.inl z)) rfl (fun z => hg25 (Or.inr z)) ?_
                      refine r_vret fe_214_134 ?_
                      exact dfin (P := fun _ T => Q none (mst T h)) hf hQ
                  · rw [if_neg hb20] at hf
                    refine r_ic_f (t := 114) fe_214_107 (by decide) (Bool.eq_false_iff.mpr hb20) ?_
                    refine r_iconst (v := 1) fe_214_110 (by decide) ?_
                    refine r_goto (t := 115) fe_214_111 (by decide) ?_
                    refine r_iadd (v := ((z13.2.2.1 6 (Int32.toNatClampNeg z13.1)) + 1)) fe_214_115 rfl ?_
                    by_cases hg26 : ¬ (z13.1 < 0 ∨ 6 ≤ (z13.1).toNatClampNeg)
                    rotate_left
                    · rw [if_neg hg26] at hf; cases hf
                    rw [if_pos hg26] at hf
                    refine mr_iast (k := 6) (n := 6) (j := (Int32.toNatClampNeg z13.1)) hh fe_214_116 rfl (by decide) (by decide) rfl rfl (fun z => hg26 (Or.inl z)) rfl (fun z => hg26 (Or.inr z)) ?_
                    refine r_aload_n fe_214_117 rfl ?_
                    refine mr_getf hh fe_214_118 lf_12_40 rfl ?_
                    refine r_iload_n fe_214_121 rfl ?_
                    refine r_aload_n fe_214_122 rfl ?_
                    refine r_iload_n fe_214_123 rfl ?_
                    refine r_aload_n fe_214_124 rfl ?_
                    refine mr_getf hh fe_214_125 lf_12_40 rfl ?_
                    refine r_iload_n fe_214_128 rfl ?_
                    by_cases hg27 : ¬ (l1 < 0 ∨ 13 ≤ (l1).toNatClampNeg)
                    rotate_left
                    · rw [if_neg hg27] at hf; cases hf
                    rw [if_pos hg27] at hf
                    refine r_iald (j := (Int32.toNatClampNeg l1)) (v := (m_sA z18.2 6 (Int32.toNatClampNeg z13.1) ((z13.2.2.1 6 (Int32.toNatClampNeg z13.1)) + 1)).2.1 11 (Int32.toNatClampNeg l1)) fe_214_129 m_c_11 (m_lt hh (by decide)) (fun z => hg27 (Or.inl z)) rfl (fun z => hg27 (Or.inr z)) rfl ?_
                    refine r_callV (as := [.int z13.1, .int ((m_sA z18.2 6 (Int32.toNatClampNeg z13.1) ((z13.2.2.1 6 (Int32.toNatClampNeg z13.1)) + 1)).2.1 11 (Int32.toNatClampNeg l1))]) (r := [.int l1, .ref 141]) fe_214_130 lm_12_406 md_218 rfl rfl (Nat.le_of_ble_eq_true rfl) m_c_0 (m_lt hh (by decide)) (Nat.le_of_ble_eq_true rfl) (Nat.le_of_ble_eq_true rfl) ?_
                    cases hc29 : F218 n z13.1 ((m_sA z18.2 6 (Int32.toNatClampNeg z13.1) ((z13.2.2.1 6 (Int32.toNatClampNeg z13.1)) + 1)).2.1 11 (Int32.toNatClampNeg l1)) (m_sA z18.2 6 (Int32.toNatClampNeg z13.1) ((z13.2.2.1 6 (Int32.toNatClampNeg z13.1)) + 1)) with
                    | none => rw [hc29] at hf; cases hf
                    | some z28 =>
                      rw [hc29, Option.bind_some] at hf
                      refine F218c (r0 := z28.1) (S0 := z28.2) hh hc29 ?_
                      by_cases hg30 : ¬ (l1 < 0 ∨ 13 ≤ (l1).toNatClampNeg)
                      rotate_left
                      · rw [if_neg hg30] at hf; cases hf
                      rw [if_pos hg30] at hf
                      refine mr_iast (k := 11) (n := 13) (j := (Int32.toNatClampNeg l1)) hh fe_214_133 rfl (by decide) (by decide) rfl rfl (fun z => hg30 (Or.inl z)) rfl (fun z => hg30 (Or.inr z)) ?_
                      refine r_vret fe_214_134 ?_
                      exact dfin (P := fun _ T => Q none (mst T h)) hf hQ
          · rw [if_neg hb9] at hf
            refine r_ic_f (t := 59) fe_214_48 (by decide) (Bool.eq_false_iff.mpr hb9) ?_
            refine r_aload_n fe_214_51 rfl ?_
            refine r_iload_n fe_214_52 rfl ?_
            refine r_iconst (v := 1) fe_214_53 (by decide) ?_
            refine r_iconst (v := -1) fe_214_54 (by decide) ?_
            refine r_callV (as := [.int l1, .int 1, .int (-1)]) (r := []) fe_214_55 lm_12_402 md_216 rfl rfl (Nat.le_of_ble_eq_true rfl) m_c_0 (m_lt hh (by decide)) (Nat.le_of_ble_eq_true rfl) (Nat.le_of_ble_eq_true rfl) ?_
            cases hc32 : F216 n l1 1 (-1) z2.2 with
            | none => rw [hc32] at hf; cases hf
            | some z31 =>
              rw [hc32, Option.bind_some] at hf
              refine F216c (r0 := z31.1) (S0 := z31.2) hh hc32 ?_
              refine r_vret fe_214_58 ?_
              exact dfin (P := fun _ T => Q none (mst T h)) hf hQ
        · rw [if_neg hb6] at hf
          refine r_if_f (t := 34) fe_214_20 (by decide) (Bool.eq_false_iff.mpr hb6) ?_
          refine r_aload_n fe_214_23 rfl ?_
          refine mr_getf hh fe_214_24 lf_12_43 rfl ?_
          refine r_iload_n fe_214_27 rfl ?_
          refine r_dup2 fe_214_28 ⟨rfl, rfl⟩ ?_
          by_cases hg33 : ¬ (l1 < 0 ∨ 13 ≤ (l1).toNatClampNeg)
          rotate_left
          · rw [if_neg hg33] at hf; cases hf
          rw [if_pos hg33] at hf
          refine r_iald (j := (Int32.toNatClampNeg l1)) (v := z2.2.2.1 12 (Int32.toNatClampNeg l1)) fe_214_29 m_c_12 (m_lt hh (by decide)) (fun z => hg33 (Or.inl z)) rfl (fun z => hg33 (Or.inr z)) rfl ?_
          refine r_iconst (v := 1) fe_214_30 (by decide) ?_
          refine r_isub (v := ((z2.2.2.1 12 (Int32.toNatClampNeg l1)) - 1)) fe_214_31 rfl ?_
          by_cases hg34 : ¬ (l1 < 0 ∨ 13 ≤ (l1).toNatClampNeg)
          rotate_left
          · rw [if_neg hg34] at hf; cases hf
          rw [if_pos hg34] at hf
          refine mr_iast (k := 12) (n := 13) (j := (Int32.toNatClampNeg l1)) hh fe_214_32 rfl (by decide) (by decide) rfl rfl (fun z => hg34 (Or.inl z)) rfl (fun z => hg34 (Or.inr z)) ?_
          refine r_vret fe_214_33 ?_
          exact dfin (P := fun _ T => Q none (mst T h)) hf hQ
      · rw [if_neg hb4] at hf
        refine r_if_f (t := 14) fe_214_10 (by decide) (Bool.eq_false_iff.mpr hb4) ?_
        refine r_vret fe_214_13 ?_
        exact dfin (P := fun _ T => Q none (mst T h)) hf hQ
theorem F214c {xs : Nat → Int32} {L9 d n : Nat} {h : AmH} {Q : Option Value → AmH → Prop} {r0 : Unit} {S0 S : mS} {l1 : Int32} (hh : 172 ≤ h.2.1) (hf : F214 n l1 S = some (r0, S0)) (hQ : Q none (mst S0 h)) : Ca (am_X xs L9) (d + 3) 214 [.ref 130, .int l1] (mst S h) Q := (F214l hh hQ n) l1 S hf
def F229b0 (F : Nat → Int32 → mS → Option (Unit × mS)) (n : Nat) (l1 : Int32) (S : mS) : Option (Unit × mS) := F 2 0 S
def F229b2 (F : Nat → Int32 → mS → Option (Unit × mS)) (n : Nat) (l1 : Int32) (S : mS) : Option (Unit × mS) := (if am_ic .ge l1 (S.2.1 1 4) = true then some ((), S) else ((F202 n l1 S).bind (fun z2 => (if am_if .eq z2.1 = true then F 2 (l1 + 1) z2.2 else (if ¬ (l1 < 0 ∨ 13 ≤ (l1).toNatClampNeg) then ((F200 n (z2.2.2.1 10 (Int32.toNatClampNeg l1)) z2.2).bind (fun z6 => (if am_ic .eq z6.1 (-1) = true then F 2 (l1 + 1) z6.2 else (if ¬ (l1 < 0 ∨ 13 ≤ (l1).toNatClampNeg) then ((F217 n (z6.2.2.1 11 (Int32.toNatClampNeg l1)) z6.2).bind (fun z10 => (if ¬ (z6.1 < 0 ∨ 13 ≤ (z6.1).toNatClampNeg) then (if am_ic .lt z10.1 (z10.2.2.1 9 (Int32.toNatClampNeg z6.1)) = true then F 2 (l1 + 1) z10.2 else (if ¬ (l1 < 0 ∨ 13 ≤ (l1).toNatClampNeg) then ((F216 n l1 2 (z10.2.2.1 10 (Int32.toNatClampNeg l1)) z10.2).bind (fun z15 => F 2 (l1 + 1) z15.2)) else none)) else none))) else none)))) else none)))))
def F229f : Nat → Nat → Int32 → mS → Option (Unit × mS)
  | 0, _, _, _ => none
  | n + 1, c, l1, S => if c = 0 then F229b0 (F229f n) n l1 S else F229b2 (F229f n) n l1 S
theorem F229e0 (n : Nat) (l1 : Int32) (S : mS) : F229f (n + 1) 0 l1 S = F229b0 (F229f n) n l1 S := if_pos rfl
theorem F229e2 (n : Nat) (l1 : Int32) (S : mS) : F229f (n + 1) 2 l1 S = F229b2 (F229f n) n l1 S := if_neg (by decide)
def F229 (n : Nat)  (S : mS) : Option (Unit × mS) := F229f n 0 0 S
set_option maxRecDepth 20000 in
set_option maxHeartbeats 2000000 in
theorem F229l {xs : Nat → Int32} {L9 d : Nat} {h : AmH} {Q : Option Value → AmH → Prop} {r0 : Unit} {S0 : mS} (hh : 172 ≤ h.2.1) (hQ : Q none (mst S0 h)) : ∀ n : Nat, (∀ (l1 : Int32) (S : mS), F229f n 0 l1 S = some (r0, S0) → Go (am_X xs L9) (d + 2) 229 0 [.ref 130, .float 0, .float 0] [] (mst S h) Q) ∧ (∀ (l1 : Int32) (S : mS), F229f n 2 l1 S = some (r0, S0) → Go (am_X xs L9) (d + 2) 229 2 [.ref 130, .int l1, .float 0] [] (mst S h) Q) := by
  intro n
  induction n with
  | zero => exact ⟨fun l1 S hf => (by cases hf), fun l1 S hf => (by cases hf)⟩
  | succ n ih =>
    refine ⟨?_, ?_⟩
    · intro l1 S hf
      rw [F229e0] at hf
      unfold F229b0 at hf
      refine r_iconst (v := 0) fe_229_0 (by decide) ?_
      refine r_istore_n fe_229_1 (Nat.le_of_ble_eq_true rfl) rfl ?_
      refine go_weak (L0 := [.ref 130, .int 0, .float 0]) (lwk_c (Or.inl rfl) (lwk_c (Or.inl rfl) (lwk_c (Or.inl rfl) (lwk_rf [])))) ?_
      exact ih.2 0 S hf
    · intro l1 S hf
      rw [F229e2] at hf
      unfold F229b2 at hf
      refine r_iload_n fe_229_2 rfl ?_
      refine r_aload_n fe_229_3 rfl ?_
      refine mr_getf hh fe_229_4 lf_12_9 rfl ?_
      refine r_iconst (v := 4) fe_229_7 (by decide) ?_
      refine r_iald (j := 4) (v := S.2.1 1 4) fe_229_8 m_c_1 (m_lt hh (by decide)) (by decide) (by decide) (by decide) rfl ?_
      by_cases hb1 : am_ic .ge l1 (S.2.1 1 4) = true
      · rw [if_pos hb1] at hf
        refine r_ic_t (t := 76) fe_229_9 (by decide) hb1 ?_
        refine r_vret fe_229_76 ?_
        exact dfin (P := fun _ T => Q none (mst T h)) hf hQ
      · rw [if_neg hb1] at hf
        refine r_ic_f (t := 76) fe_229_9 (by decide) (Bool.eq_false_iff.mpr hb1) ?_
        refine r_aload_n fe_229_12 rfl ?_
        refine r_iload_n fe_229_13 rfl ?_
        refine r_callV (as := [.int l1]) (r := []) fe_229_14 lm_12_374 md_202 rfl rfl (Nat.le_of_ble_eq_true rfl) m_c_0 (m_lt hh (by decide)) (Nat.le_of_ble_eq_true rfl) (Nat.le_of_ble_eq_true rfl) ?_
        cases hc3 : F202 n l1 S with
        | none => rw [hc3] at hf; cases hf
        | some z2 =>
          rw [hc3, Option.bind_some] at hf
          refine F202c (r0 := z2.1) (S0 := z2.2) hh hc3 ?_
          by_cases hb4 : am_if .eq z2.1 = true
          · rw [if_pos hb4] at hf
            refine r_if_t (t := 33) fe_229_17 (by decide) hb4 ?_
            refine r_iconst (v := -1) fe_229_33 (by decide) ?_
            refine r_istore_n fe_229_34 (Nat.le_of_ble_eq_true rfl) rfl ?_
            refine r_iload_n fe_229_35 rfl ?_
            refine r_iconst (v := -1) fe_229_36 (by decide) ?_
            refine r_ic_t (t := 70) fe_229_37 (by decide) (by decide) ?_
            refine r_iinc (v := (l1 + 1)) fe_229_70 rfl rfl rfl ?_
            refine r_goto (t := 2) fe_229_73 (by decide) ?_
            refine go_weak (L0 := [.ref 130, .int (l1 + 1), .float 0]) (lwk_c (Or.inl rfl) (lwk_c (Or.inl rfl) (lwk_c (Or.inr rfl) (lwk_rf [])))) ?_
            exact ih.2 (l1 + 1) z2.2 hf
          · rw [if_neg hb4] at hf
            refine r_if_f (t := 33) fe_229_17 (by decide) (Bool.eq_false_iff.mpr hb4) ?_
            refine r_aload_n fe_229_20 rfl ?_
            refine r_aload_n fe_229_21 rfl ?_
            refine mr_getf hh fe_229_22 lf_12_37 rfl ?_
            refine r_iload_n fe_229_25 rfl ?_
            by_cases hg5 : ¬ (l1 < 0 ∨ 13 ≤ (l1).toNatClampNeg)
            rotate_left
            · rw [if_neg hg5] at hf; cases hf
            rw [if_pos hg5] at hf
            refine r_iald (j := (Int32.toNatClampNeg l1)) (v := z2.2.2.1 10 (Int32.toNatClampNeg l1)) fe_229_26 m_c_10 (m_lt hh (by decide)) (fun z => hg5 (Or.inl z)) rfl (fun z => hg5 (Or.inr z)) rfl ?_
            refine r_callV (as := [.int (z2.2.2.1 10 (Int32.toNatClampNeg l1))]) (r := []) fe_229_27 lm_12_390 md_200 rfl rfl (Nat.le_of_ble_eq_true rfl) m_c_0 (m_lt hh (by decide)) (Nat.le_of_ble_eq_true rfl) (Nat.le_of_ble_eq_true rfl) ?_
            cases hc7 : F200 n (z2.2.2.1 10 (Int32.toNatClampNeg l1)) z2.2 with
            | none => rw [hc7] at hf; cases hf
            | some z6 =>
              rw [hc7, Option.bind_some] at hf
              refine F200c (r0 := z6.1) (S0 := z6.2) hh hc7 ?_
              refine r_goto (t := 34) fe_229_30 (by decide) ?_
              refine r_istore_n fe_229_34 (Nat.le_of_ble_eq_true rfl) rfl ?_
              refine r_iload_n fe_229_35 rfl ?_
              refine r_iconst (v := -1) fe_229_36 (by decide) ?_
              by_cases hb8 : am_ic .eq z6.1 (-1) = true
              · rw [if_pos hb8] at hf
                refine r_ic_t (t := 70) fe_229_37 (by decide) hb8 ?_
                refine r_iinc (v := (l1 + 1)) fe_229_70 rfl rfl rfl ?_
                refine r_goto (t := 2) fe_229_73 (by decide) ?_
                refine go_weak (L0 := [.ref 130, .int (l1 + 1), .float 0]) (lwk_c (Or.inl rfl) (lwk_c (Or.inl rfl) (lwk_c (Or.inr rfl) (lwk_rf [])))) ?_
                exact ih.2 (l1 + 1) z6.2 hf
              · rw [if_neg hb8] at hf
                refine r_ic_f (t := 70) fe_229_37 (by decide) (Bool.eq_false_iff.mpr hb8) ?_
                refine r_aload_n fe_229_40 rfl ?_
                refine mr_getf hh fe_229_41 lf_12_40 rfl ?_
                refine r_iload_n fe_229_44 rfl ?_
                by_cases hg9 : ¬ (l1 < 0 ∨ 13 ≤ (l1).toNatClampNeg)
                rotate_left
                · rw [if_neg hg9] at hf; cases hf
                rw [if_pos hg9] at hf
                refine r_iald (j := (Int32.toNatClampNeg l1)) (v := z6.2.2.1 11 (Int32.toNatClampNeg l1)) fe_229_45 m_c_11 (m_lt hh (by decide)) (fun z => hg9 (Or.inl z)) rfl (fun z => hg9 (Or.inr z)) rfl ?_
                refine r_callS (as := [.int (z6.2.2.1 11 (Int32.toNatClampNeg l1))]) (r := []) fe_229_46 lm_12_151 md_217 rfl rfl (Nat.le_of_ble_eq_true rfl) (Nat.le_of_ble_eq_true rfl) (Nat.le_of_ble_eq_true rfl) ?_
                cases hc11 : F217 n (z6.2.2.1 11 (Int32.toNatClampNeg l1)) z6.2 with
                | none => rw [hc11] at hf; cases hf
                | some z10 =>
                  rw [hc11, Option.bind_some] at hf
                  refine F217c (r0 := z10.1) (S0 := z10.2) hh hc11 ?_
                  refine r_aload_n fe_229_49 rfl ?_
                  refine mr_getf hh fe_229_50 lf_12_34 rfl ?_
                  refine r_iload_n fe_229_53 rfl ?_
                  by_cases hg12 : ¬ (z6.1 < 0 ∨ 13 ≤ (z6.1).toNatClampNeg)
                  rotate_left
                  · rw [if_neg hg12] at hf; cases hf
                  rw [if_pos hg12] at hf
                  refine r_iald (j := (Int32.toNatClampNeg z6.1)) (v := z10.2.2.1 9 (Int32.toNatClampNeg z6.1)) fe_229_54 m_c_9 (m_lt hh (by decide)) (fun z => hg12 (Or.inl z)) rfl (fun z => hg12 (Or.inr z)) rfl ?_
                  by_cases hb13 : am_ic .lt z10.1 (z10.2.2.1 9 (Int32.toNatClampNeg z6.1)) = true
                  · rw [if_pos hb13] at hf
                    refine r_ic_t (t := 70) fe_229_55 (by decide) hb13 ?_
                    refine r_iinc (v := (l1 + 1)) fe_229_70 rfl rfl rfl ?_
                    refine r_goto (t := 2) fe_229_73 (by decide) ?_
                    refine go_weak (L0 := [.ref 130, .int (l1 + 1), .float 0]) (lwk_c (Or.inl rfl) (lwk_c (Or.inl rfl) (lwk_c (Or.inr rfl) (lwk_rf [])))) ?_
                    exact ih.2 (l1 + 1) z10.2 hf
                  · rw [if_neg hb13] at hf
                    refine r_ic_f (t := 70) fe_229_55 (by decide) (Bool.eq_false_iff.mpr hb13) ?_
                    refine r_aload_n fe_229_58 rfl ?_
                    refine r_iload_n fe_229_59 rfl ?_
                    refine r_iconst (v := 2) fe_229_60 (by decide) ?_
                    refine r_aload_n fe_229_61 rfl ?_
                    refine mr_getf hh fe_229_62 lf_12_37 rfl ?_
                    refine r_iload_n fe_229_65 rfl ?_
                    by_cases hg14 : ¬ (l1 < 0 ∨ 13 ≤ (l1).toNatClampNeg)
                    rotate_left
                    · rw [if_neg hg14] at hf; cases hf
                    rw [if_pos hg14] at hf
                    refine r_iald (j := (Int32.toNatClampNeg l1)) (v := z10.2.2.1 10 (Int32.toNatClampNeg l1)) fe_229_66 m_c_10 (m_lt hh (by decide)) (fun z => hg14 (Or.inl z)) rfl (fun z => hg14 (Or.inr z)) rfl ?_
                    refine r_callV (as := [.int l1, .int 2, .int (z10.2.2.1 10 (Int32.toNatClampNeg l1))]) (r := []) fe_229_67 lm_12_402 md_216 rfl rfl (Nat.le_of_ble_eq_true rfl) m_c_0 (m_lt hh (by decide)) (Nat.le_of_ble_eq_true rfl) (Nat.le_of_ble_eq_true rfl) ?_
                    cases hc16 : F216 n l1 2 (z10.2.2.1 10 (Int32.toNatClampNeg l1)) z10.2 with
                    | none => rw [hc16] at hf; cases hf
                    | some z15 =>
                      rw [hc16, Option.bind_some] at hf
                      refine F216c (r0 := z15.1) (S0 := z15.2) hh hc16 ?_
                      refine r_iinc (v := (l1 + 1)) fe_229_70 rfl rfl rfl ?_
                      refine r_goto (t := 2) fe_229_73 (by decide) ?_
                      refine go_weak (L0 := [.ref 130, .int (l1 + 1), .float 0]) (lwk_c (Or.inl rfl) (lwk_c (Or.inl rfl) (lwk_c (Or.inr rfl) (lwk_rf [])))) ?_
                      exact ih.2 (l1 + 1) z15.2 hf
theorem F229c {xs : Nat → Int32} {L9 d n : Nat} {h : AmH} {Q : Option Value → AmH → Prop} {r0 : Unit} {S0 S : mS}  (hh : 172 ≤ h.2.1) (hf : F229 n  S = some (r0, S0)) (hQ : Q none (mst S0 h)) : Ca (am_X xs L9) (d + 2) 229 [.ref 130] (mst S h) Q := (F229l hh hQ n).1 0 S hf
def F223b0 (F : Nat → Int32 → Int32 → Int32 → mS → Option (Int32 × mS)) (n : Nat) (l0 : Int32) (l1 : Int32) (l2 : Int32) (S : mS) : Option (Int32 × mS) := F 4 l0 0 0 S
def F223b4 (F : Nat → Int32 → Int32 → Int32 → mS → Option (Int32 × mS)) (n : Nat) (l0 : Int32) (l1 : Int32) (l2 : Int32) (S : mS) : Option (Int32 × mS) := (if am_ic .ge l2 16 = true then some (l1, S) else F 4 l0 (l1 + ((l0 >>> (l2 &&& 31)) &&& 1)) (l2 + 1) S)
def F223f : Nat → Nat → Int32 → Int32 → Int32 → mS → Option (Int32 × mS)
  | 0, _, _, _, _, _ => none
  | n + 1, c, l0, l1, l2, S => if c = 0 then F223b0 (F223f n) n l0 l1 l2 S else F223b4 (F223f n) n l0 l1 l2 S
theorem F223e0 (n : Nat) (l0 : Int32) (l1 : Int32) (l2 : Int32) (S : mS) : F223f (n + 1) 0 l0 l1 l2 S = F223b0 (F223f n) n l0 l1 l2 S := if_pos rfl
theorem F223e4 (n : Nat) (l0 : Int32) (l1 : Int32) (l2 : Int32) (S : mS) : F223f (n + 1) 4 l0 l1 l2 S = F223b4 (F223f n) n l0 l1 l2 S := if_neg (by decide)
def F223 (n : Nat) (l0 : Int32) (S : mS) : Option (Int32 × mS) := F223f n 0 l0 0 0 S
set_option maxRecDepth 20000 in
set_option maxHeartbeats 2000000 in
theorem F223l {xs : Nat → Int32} {L9 d : Nat} {h : AmH} {Q : Option Value → AmH → Prop} {r0 : Int32} {S0 : mS} (hh : 172 ≤ h.2.1) (hQ : Q (some (.int r0)) (mst S0 h)) : ∀ n : Nat, (∀ (l0 : Int32) (l1 : Int32) (l2 : Int32) (S : mS), F223f n 0 l0 l1 l2 S = some (r0, S0) → Go (am_X xs L9) (d + 0) 223 0 [.int l0, .float 0, .float 0] [] (mst S h) Q) ∧ (∀ (l0 : Int32) (l1 : Int32) (l2 : Int32) (S : mS), F223f n 4 l0 l1 l2 S = some (r0, S0) → Go (am_X xs L9) (d + 0) 223 4 [.int l0, .int l1, .int l2] [] (mst S h) Q) := by
  intro n
  induction n with
  | zero => exact ⟨fun l0 l1 l2 S hf => (by cases hf), fun l0 l1 l2 S hf => (by cases hf)⟩
  | succ n ih =>
    refine ⟨?_, ?_⟩
    · intro l0 l1 l2 S hf
      rw [F223e0] at hf
      unfold F223b0 at hf
      refine r_iconst (v := 0) fe_223_0 (by decide) ?_
      refine r_istore_n fe_223_1 (Nat.le_of_ble_eq_true rfl) rfl ?_
      refine r_iconst (v := 0) fe_223_2 (by decide) ?_
      refine r_istore_n fe_223_3 (Nat.le_of_ble_eq_true rfl) rfl ?_
      refine go_weak (L0 := [.int l0, .int 0, .int 0]) (lwk_c (Or.inl rfl) (lwk_c (Or.inl rfl) (lwk_c (Or.inl rfl) (lwk_rf [])))) ?_
      exact ih.2 l0 0 0 S hf
    · intro l0 l1 l2 S hf
      rw [F223e4] at hf
      unfold F223b4 at hf
      refine r_iload_n fe_223_4 rfl ?_
      refine r_bipush (v := 16) fe_223_5 (by decide) ?_
      by_cases hb1 : am_ic .ge l2 16 = true
      · rw [if_pos hb1] at hf
        refine r_ic_t (t := 24) fe_223_7 (by decide) hb1 ?_
        refine r_iload_n fe_223_24 rfl ?_
        refine r_iret fe_223_25 ⟨rfl, by decide⟩ ?_
        exact dfin (P := fun r T => Q (some (.int r)) (mst T h)) hf hQ
      · rw [if_neg hb1] at hf
        refine r_ic_f (t := 24) fe_223_7 (by decide) (Bool.eq_false_iff.mpr hb1) ?_
        refine r_iload_n fe_223_10 rfl ?_
        refine r_iload_n fe_223_11 rfl ?_
        refine r_iload_n fe_223_12 rfl ?_
        refine r_ishr (v := (l0 >>> (l2 &&& 31))) fe_223_13 rfl ?_
        refine r_iconst (v := 1) fe_223_14 (by decide) ?_
        refine r_iand (v := ((l0 >>> (l2 &&& 31)) &&& 1)) fe_223_15 rfl ?_
        refine r_iadd (v := (l1 + ((l0 >>> (l2 &&& 31)) &&& 1))) fe_223_16 rfl ?_
        refine r_istore_n fe_223_17 (Nat.le_of_ble_eq_true rfl) rfl ?_
        refine r_iinc (v := (l2 + 1)) fe_223_18 rfl rfl rfl ?_
        refine r_goto (t := 4) fe_223_21 (by decide) ?_
        refine go_weak (L0 := [.int l0, .int (l1 + ((l0 >>> (l2 &&& 31)) &&& 1)), .int (l2 + 1)]) (lwk_c (Or.inl rfl) (lwk_c (Or.inl rfl) (lwk_c (Or.inl rfl) (lwk_rf [])))) ?_
        exact ih.2 l0 (l1 + ((l0 >>> (l2 &&& 31)) &&& 1)) (l2 + 1) S hf
theorem F223c {xs : Nat → Int32} {L9 d n : Nat} {h : AmH} {Q : Option Value → AmH → Prop} {r0 : Int32} {S0 S : mS} {l0 : Int32} (hh : 172 ≤ h.2.1) (hf : F223 n l0 S = some (r0, S0)) (hQ : Q (some (.int r0)) (mst S0 h)) : Ca (am_X xs L9) (d + 0) 223 [.int l0] (mst S h) Q := (F223l hh hQ n).1 l0 0 0 S hf
def F221b0 (F : Nat → Int32 → Int32 → mS → Option (Int32 × mS)) (n : Nat) (l0 : Int32) (l1 : Int32) (S : mS) : Option (Int32 × mS) := F 2 0 l0 S
def F221b2 (F : Nat → Int32 → Int32 → mS → Option (Int32 × mS)) (n : Nat) (l0 : Int32) (l1 : Int32) (S : mS) : Option (Int32 × mS) := (if am_ic .le l1 9 = true then some (l1, S) else F 2 0 (l1 / 10) S)
def F221f : Nat → Nat → Int32 → Int32 → mS → Option (Int32 × mS)
  | 0, _, _, _, _ => none
  | n + 1, c, l0, l1, S => if c = 0 then F221b0 (F221f n) n l0 l1 S else F221b2 (F221f n) n l0 l1 S
theorem F221e0 (n : Nat) (l0 : Int32) (l1 : Int32) (S : mS) : F221f (n + 1) 0 l0 l1 S = F221b0 (F221f n) n l0 l1 S := if_pos rfl
theorem F221e2 (n : Nat) (l0 : Int32) (l1 : Int32) (S : mS) : F221f (n + 1) 2 l0 l1 S = F221b2 (F221f n) n l0 l1 S := if_neg (by decide)
def F221 (n : Nat) (l0 : Int32) (S : mS) : Option (Int32 × mS) := F221f n 0 l0 0 S
set_option maxRecDepth 20000 in
set_option maxHeartbeats 2000000 in
theorem F221l {xs : Nat → Int32} {L9 d : Nat} {h : AmH} {Q : Option Value → AmH → Prop} {r0 : Int32} {S0 : mS} (hh : 172 ≤ h.2.1) (hQ : Q (some (.int r0)) (mst S0 h)) : ∀ n : Nat, (∀ (l0 : Int32) (l1 : Int32) (S : mS), F221f n 0 l0 l1 S = some (r0, S0) → Go (am_X xs L9) (d + 0) 221 0 [.int l0, .float 0] [] (mst S h) Q) ∧ (∀ (l0 : Int32) (l1 : Int32) (S : mS), F221f n 2 l0 l1 S = some (r0, S0) → Go (am_X xs L9) (d + 0) 221 2 [.float 0, .int l1] [] (mst S h) Q) := by
  intro n
  induction n with
  | zero => exact ⟨fun l0 l1 S hf => (by cases hf), fun l0 l1 S hf => (by cases hf)⟩
  | succ n ih =>
    refine ⟨?_, ?_⟩
    · intro l0 l1 S hf
      rw [F221e0] at hf
      unfold F221b0 at hf
      refine r_iload_n fe_221_0 rfl ?_
      refine r_istore_n fe_221_1 (Nat.le_of_ble_eq_true rfl) rfl ?_
      refine go_weak (L0 := [.float 0, .int l0]) (lwk_c (Or.inr rfl) (lwk_c (Or.inl rfl) (lwk_rf []))) ?_
      exact ih.2 0 l0 S hf
    · intro l0 l1 S hf
      rw [F221e2] at hf
      unfold F221b2 at hf
      refine r_iload_n fe_221_2 rfl ?_
      refine r_bipush (v := 9) fe_221_3 (by decide) ?_
      by_cases hb1 : am_ic .le l1 9 = true
      · rw [if_pos hb1] at hf
        refine r_ic_t (t := 16) fe_221_5 (by decide) hb1 ?_
        refine r_iload_n fe_221_16 rfl ?_
        refine r_iret fe_221_17 ⟨rfl, by decide⟩ ?_
        exact dfin (P := fun r T => Q (some (.int r)) (mst T h)) hf hQ
      · rw [if_neg hb1] at hf
        refine r_ic_f (t := 16) fe_221_5 (by decide) (Bool.eq_false_iff.mpr hb1) ?_
        refine r_iload_n fe_221_8 rfl ?_
        refine r_bipush (v := 10) fe_221_9 (by decide) ?_
        refine r_idiv (v := (l1 / 10)) fe_221_11 (by decide) rfl ?_
        refine r_istore_n fe_221_12 (Nat.le_of_ble_eq_true rfl) rfl ?_
        refine r_goto (t := 2) fe_221_13 (by decide) ?_
        refine go_weak (L0 := [.float 0, .int (l1 / 10)]) (lwk_c (Or.inl rfl) (lwk_c (Or.inl rfl) (lwk_rf []))) ?_
        exact ih.2 0 (l1 / 10) S hf
theorem F221c {xs : Nat → Int32} {L9 d n : Nat} {h : AmH} {Q : Option Value → AmH → Prop} {r0 : Int32} {S0 S : mS} {l0 : Int32} (hh : 172 ≤ h.2.1) (hf : F221 n l0 S = some (r0, S0)) (hQ : Q (some (.int r0)) (mst S0 h)) : Ca (am_X xs L9) (d + 0) 221 [.int l0] (mst S h) Q := (F221l hh hQ n).1 l0 0 S hf
def F222b0 (F : Nat → Int32 → Int32 → Int32 → mS → Option (Int32 × mS)) (n : Nat) (l0 : Int32) (l1 : Int32) (l2 : Int32) (S : mS) : Option (Int32 × mS) := F 4 0 0 l0 S
def F222b4 (F : Nat → Int32 → Int32 → Int32 → mS → Option (Int32 × mS)) (n : Nat) (l0 : Int32) (l1 : Int32) (l2 : Int32) (S : mS) : Option (Int32 × mS) := (if am_if .le l2 = true then some (l1, S) else F 4 0 (l1 ||| (1 <<< ((l2 - l2 / 10 * 10) &&& 31))) (l2 / 10) S)
def F222f : Nat → Nat → Int32 → Int32 → Int32 → mS → Option (Int32 × mS)
  | 0, _, _, _, _, _ => none
  | n + 1, c, l0, l1, l2, S => if c = 0 then F222b0 (F222f n) n l0 l1 l2 S else F222b4 (F222f n) n l0 l1 l2 S
theorem F222e0 (n : Nat) (l0 : Int32) (l1 : Int32) (l2 : Int32) (S : mS) : F222f (n + 1) 0 l0 l1 l2 S = F222b0 (F222f n) n l0 l1 l2 S := if_pos rfl
theorem F222e4 (n : Nat) (l0 : Int32) (l1 : Int32) (l2 : Int32) (S : mS) : F222f (n + 1) 4 l0 l1 l2 S = F222b4 (F222f n) n l0 l1 l2 S := if_neg (by decide)
def F222 (n : Nat) (l0 : Int32) (S : mS) : Option (Int32 × mS) := F222f n 0 l0 0 0 S
set_option maxRecDepth 20000 in
set_option maxHeartbeats 2000000 in
theorem F222l {xs : Nat → Int32} {L9 d : Nat} {h : AmH} {Q : Option Value → AmH → Prop} {r0 : Int32} {S0 : mS} (hh : 172 ≤ h.2.1) (hQ : Q (some (.int r0)) (mst S0 h)) : ∀ n : Nat, (∀ (l0 : Int32) (l1 : Int32) (l2 : Int32) (S : mS), F222f n 0 l0 l1 l2 S = some (r0, S0) → Go (am_X xs L9) (d + 0) 222 0 [.int l0, .float 0, .float 0] [] (mst S h) Q) ∧ (∀ (l0 : Int32) (l1 : Int32) (l2 : Int32) (S : mS), F222f n 4 l0 l1 l2 S = some (r0, S0) → Go (am_X xs L9) (d + 0) 222 4 [.float 0, .int l1, .int l2] [] (mst S h) Q) := by
  intro n
  induction n with
  | zero => exact ⟨fun l0 l1 l2 S hf => (by cases hf), fun l0 l1 l2 S hf => (by cases hf)⟩
  | succ n ih =>
    refine ⟨?_, ?_⟩
    · intro l0 l1 l2 S hf
      rw [F222e0] at hf
      unfold F222b0 at hf
      refine r_iconst (v := 0) fe_222_0 (by decide) ?_
      refine r_istore_n fe_222_1 (Nat.le_of_ble_eq_true rfl) rfl ?_
      refine r_iload_n fe_222_2 rfl ?_
      refine r_istore_n fe_222_3 (Nat.le_of_ble_eq_true rfl) rfl ?_
      refine go_weak (L0 := [.float 0, .int 0, .int l0]) (lwk_c (Or.inr rfl) (lwk_c (Or.inl rfl) (lwk_c (Or.inl rfl) (lwk_rf [])))) ?_
      exact ih.2 0 0 l0 S hf
    · intro l0 l1 l2 S hf
      rw [F222e4] at hf
      unfold F222b4 at hf
      refine r_iload_n fe_222_4 rfl ?_
      by_cases hb1 : am_if .le l2 = true
      · rw [if_pos hb1] at hf
        refine r_if_t (t := 25) fe_222_5 (by decide) hb1 ?_
        refine r_iload_n fe_222_25 rfl ?_
        refine r_iret fe_222_26 ⟨rfl, by decide⟩ ?_
        exact dfin (P := fun r T => Q (some (.int r)) (mst T h)) hf hQ
      · rw [if_neg hb1] at hf
        refine r_if_f (t := 25) fe_222_5 (by decide) (Bool.eq_false_iff.mpr hb1) ?_
        refine r_iload_n fe_222_8 rfl ?_
        refine r_iconst (v := 1) fe_222_9 (by decide) ?_
        refine r_iload_n fe_222_10 rfl ?_
        refine r_bipush (v := 10) fe_222_11 (by decide) ?_
        refine r_irem (v := (l2 - l2 / 10 * 10)) fe_222_13 (by decide) rfl ?_
        refine r_ishl (v := (1 <<< ((l2 - l2 / 10 * 10) &&& 31))) fe_222_14 rfl ?_
        refine r_ior (v := (l1 ||| (1 <<< ((l2 - l2 / 10 * 10) &&& 31)))) fe_222_15 rfl ?_
        refine r_istore_n fe_222_16 (Nat.le_of_ble_eq_true rfl) rfl ?_
        refine r_iload_n fe_222_17 rfl ?_
        refine r_bipush (v := 10) fe_222_18 (by decide) ?_
        refine r_idiv (v := (l2 / 10)) fe_222_20 (by decide) rfl ?_
        refine r_istore_n fe_222_21 (Nat.le_of_ble_eq_true rfl) rfl ?_
        refine r_goto (t := 4) fe_222_22 (by decide) ?_
        refine go_weak (L0 := [.float 0, .int (l1 ||| (1 <<< ((l2 - l2 / 10 * 10) &&& 31))), .int (l2 / 10)]) (lwk_c (Or.inl rfl) (lwk_c (Or.inl rfl) (lwk_c (Or.inl rfl) (lwk_rf [])))) ?_
        exact ih.2 0 (l1 ||| (1 <<< ((l2 - l2 / 10 * 10) &&& 31))) (l2 / 10) S hf
theorem F222c {xs : Nat → Int32} {L9 d n : Nat} {h : AmH} {Q : Option Value → AmH → Prop} {r0 : Int32} {S0 S : mS} {l0 : Int32} (hh : 172 ≤ h.2.1) (hf : F222 n l0 S = some (r0, S0)) (hQ : Q (some (.int r0)) (mst S0 h)) : Ca (am_X xs L9) (d + 0) 222 [.int l0] (mst S h) Q := (F222l hh hQ n).1 l0 0 0 S hf
def F227b0 (F : Nat → Int32 → mS → Option (Int64 × mS)) (n : Nat) (l0 : Int32) (S : mS) : Option (Int64 × mS) := (if am_if .eq l0 = true then some (0, S) else some (1, S))
def F227f : Nat → Nat → Int32 → mS → Option (Int64 × mS)
  | 0, _, _, _ => none
  | n + 1, c, l0, S => F227b0 (F227f n) n l0 S
theorem F227e0 (n : Nat) (l0 : Int32) (S : mS) : F227f (n + 1) 0 l0 S = F227b0 (F227f n) n l0 S := rfl
def F227 (n : Nat) (l0 : Int32) (S : mS) : Option (Int64 × mS) := F227f n 0 l0 S
set_option maxRecDepth 20000 in
set_option maxHeartbeats 2000000 in
theorem F227l {xs : Nat → Int32} {L9 d : Nat} {h : AmH} {Q : Option Value → AmH → Prop} {r0 : Int64} {S0 : mS} (hh : 172 ≤ h.2.1) (hQ : Q (some (.long r0)) (mst S0 h)) : ∀ n : Nat, (∀ (l0 : Int32) (S : mS), F227f n 0 l0 S = some (r0, S0) → Go (am_X xs L9) (d + 0) 227 0 [.int l0] [] (mst S h) Q) := by
  intro n
  induction n with
  | zero => exact fun l0 S hf => (by cases hf)
  | succ n ih =>
    intro l0 S hf
    rw [F227e0] at hf
    unfold F227b0 at hf
    refine r_iload_n fe_227_0 rfl ?_
    by_cases hb1 : am_if .eq l0 = true
    · rw [if_pos hb1] at hf
      refine r_if_t (t := 8) fe_227_1 (by decide) hb1 ?_
      refine r_lconst (v := 0) fe_227_8 (by decide) ?_
      refine r_lret fe_227_9 ?_
      exact dfin (P := fun r T => Q (some (.long r)) (mst T h)) hf hQ
    · rw [if_neg hb1] at hf
      refine r_if_f (t := 8) fe_227_1 (by decide) (Bool.eq_false_iff.mpr hb1) ?_
      refine r_lconst (v := 1) fe_227_4 (by decide) ?_
      refine r_goto (t := 9) fe_227_5 (by decide) ?_
      refine r_lret fe_227_9 ?_
      exact dfin (P := fun r T => Q (some (.long r)) (mst T h)) hf hQ
theorem F227c {xs : Nat → Int32} {L9 d n : Nat} {h : AmH} {Q : Option Value → AmH → Prop} {r0 : Int64} {S0 S : mS} {l0 : Int32} (hh : 172 ≤ h.2.1) (hf : F227 n l0 S = some (r0, S0)) (hQ : Q (some (.long r0)) (mst S0 h)) : Ca (am_X xs L9) (d + 0) 227 [.int l0] (mst S h) Q := (F227l hh hQ n) l0 S hf
def F226b0 (F : Nat → Int32 → Int64 → Int64 → mS → Option (Int64 × mS)) (n : Nat) (l0 : Int32) (l1 : Int64) (l3 : Int64) (S : mS) : Option (Int64 × mS) := (if ((l0).toInt < 2 ∨ 15 < (l0).toInt) then some ((l1 ||| l3), S) else (if l0 = 2 then some ((l1 + l3), S) else (if l0 = 3 then some ((l1 - l3), S) else (if l0 = 4 then (if am_if .ge (lg_cmp l1 l3) = true then ((F227 n 0 S).bind (fun z6 => some (z6.1, z6.2))) else ((F227 n 1 S).bind (fun z8 => some (z8.1, z8.2)))) else (if l0 = 5 then (if am_if .gt (lg_cmp l1 l3) = true then ((F227 n 0 S).bind (fun z12 => some (z12.1, z12.2))) else ((F227 n 1 S).bind (fun z14 => some (z14.1, z14.2)))) else (if l0 = 6 then (if am_if .ne (lg_cmp l1 l3) = true then ((F227 n 0 S).bind (fun z18 => some (z18.1, z18.2))) else ((F227 n 1 S).bind (fun z20 => some (z20.1, z20.2)))) else (if l0 = 7 then (if am_if .lt (lg_cmp l1 l3) = true then ((F227 n 0 S).bind (fun z24 => some (z24.1, z24.2))) else ((F227 n 1 S).bind (fun z26 => some (z26.1, z26.2)))) else (if l0 = 8 then (if am_if .le (lg_cmp l1 l3) = true then ((F227 n 0 S).bind (fun z30 => some (z30.1, z30.2))) else ((F227 n 1 S).bind (fun z32 => some (z32.1, z32.2)))) else (if l0 = 9 then some ((l1 ||| l3), S) else (if l0 = 10 then some ((l1 &&& l3), S) else (if l0 = 11 then some ((l1 ||| l3), S) else (if l0 = 12 then some ((l1 ||| l3), S) else (if l0 = 13 then some ((l1 * l3), S) else (if l0 = 14 then (if am_if .ne (lg_cmp l3 0) = true then (if l3 = 0 then none else some ((l1 / l3), S)) else some (0, S)) else (if l0 = 15 then (if am_if .ne (lg_cmp l3 0) = true then (if l3 = 0 then none else some ((l1 - l1 / l3 * l3), S)) else some (0, S)) else none)))))))))))))))
def F226f : Nat → Nat → Int32 → Int64 → Int64 → mS → Option (Int64 × mS)
  | 0, _, _, _, _, _ => none
  | n + 1, c, l0, l1, l3, S => F226b0 (F226f n) n l0 l1 l3 S
theorem F226e0 (n : Nat) (l0 : Int32) (l1 : Int64) (l3 : Int64) (S : mS) : F226f (n + 1) 0 l0 l1 l3 S = F226b0 (F226f n) n l0 l1 l3 S := rfl
def F226 (n : Nat) (l0 : Int32) (l1 : Int64) (l3 : Int64) (S : mS) : Option (Int64 × mS) := F226f n 0 l0 l1 l3 S
set_option maxRecDepth 20000 in
set_option maxHeartbeats 2000000 in
theorem F226l {xs : Nat → Int32} {L9 d : Nat} {h : AmH} {Q : Option Value → AmH → Prop} {r0 : Int64} {S0 : mS} (hh : 172 ≤ h.2.1) (hQ : Q (some (.long r0)) (mst S0 h)) : ∀ n : Nat, (∀ (l0 : Int32) (l1 : Int64) (l3 : Int64) (S : mS), F226f n 0 l0 l1 l3 S = some (r0, S0) → Go (am_X xs L9) (d + 1) 226 0 [.int l0, .long l1, .float 0, .long l3, .float 0] [] (mst S h) Q) := by
  intro n
  induction n with
  | zero => exact fun l0 l1 l3 S hf => (by cases hf)
  | succ n ih =>
    intro l0 l1 l3 S hf
    rw [F226e0] at hf
    unfold F226b0 at hf
    refine r_iload_n fe_226_0 rfl ?_
    by_cases hs1 : ((l0).toInt < 2 ∨ 15 < (l0).toInt)
    · rw [if_pos hs1] at hf
      refine r_tabO (t := 191) fe_226_1 hs1 (by decide) ?_
      refine r_lload_n fe_226_191 rfl ?_
      refine r_lload_n fe_226_192 rfl ?_
      refine r_lor (v := (l1 ||| l3)) fe_226_193 rfl ?_
      refine r_lret fe_226_194 ?_
      exact dfin (P := fun r T => Q (some (.long r)) (mst T h)) hf hQ
    · rw [if_neg hs1] at hf
      by_cases hx2 : l0 = 2
      · rw [if_pos hx2] at hf
        refine r_tabI (off := 71) (t := 72) fe_226_1 hs1 (by rw [hx2]; decide) (by decide) ?_
        refine r_lload_n fe_226_72 rfl ?_
        refine r_lload_n fe_226_73 rfl ?_
        refine r_ladd (v := (l1 + l3)) fe_226_74 rfl ?_
        refine r_lret fe_226_75 ?_
        exact dfin (P := fun r T => Q (some (.long r)) (mst T h)) hf hQ
      · rw [if_neg hx2] at hf
        by_cases hx3 : l0 = 3
        · rw [if_pos hx3] at hf
          refine r_tabI (off := 75) (t := 76) fe_226_1 hs1 (by rw [hx3]; decide) (by decide) ?_
          refine r_lload_n fe_226_76 rfl ?_
          refine r_lload_n fe_226_77 rfl ?_
          refine r_lsub (v := (l1 - l3)) fe_226_78 rfl ?_
          refine r_lret fe_226_79 ?_
          exact dfin (P := fun r T => Q (some (.long r)) (mst T h)) hf hQ
        · rw [if_neg hx3] at hf
          by_cases hx4 : l0 = 4
          · rw [if_pos hx4] at hf
            refine r_tabI (off := 111) (t := 112) fe_226_1 hs1 (by rw [hx4]; decide) (by decide) ?_
            refine r_lload_n fe_226_112 rfl ?_
            refine r_lload_n fe_226_113 rfl ?_
            refine r_lcmp (v := (lg_cmp l1 l3)) fe_226_114 rfl ?_
            by_cases hb5 : am_if .ge (lg_cmp l1 l3) = true
            · rw [if_pos hb5] at hf
              refine r_if_t (t := 122) fe_226_115 (by decide) hb5 ?_
              refine r_iconst (v := 0) fe_226_122 (by decide) ?_
              refine r_callS (as := [.int 0]) (r := []) fe_226_123 lm_12_366 md_227 rfl rfl (Nat.le_of_ble_eq_true rfl) (Nat.le_of_ble_eq_true rfl) (Nat.le_of_ble_eq_true rfl) ?_
              cases hc7 : F227 n 0 S with
              | none => rw [hc7] at hf; cases hf
              | some z6 =>
                rw [hc7, Option.bind_some] at hf
                refine F227c (r0 := z6.1) (S0 := z6.2) hh hc7 ?_
                refine r_lret fe_226_126 ?_
                exact dfin (P := fun r T => Q (some (.long r)) (mst T h)) hf hQ
            · rw [if_neg hb5] at hf
              refine r_if_f (t := 122) fe_226_115 (by decide) (Bool.eq_false_iff.mpr hb5) ?_
              refine r_iconst (v := 1) fe_226_118 (by decide) ?_
              refine r_goto (t := 123) fe_226_119 (by decide) ?_
              refine r_callS (as := [.int 1]) (r := []) fe_226_123 lm_12_366 md_227 rfl rfl (Nat.le_of_ble_eq_true rfl) (Nat.le_of_ble_eq_true rfl) (Nat.le_of_ble_eq_true rfl) ?_
              cases hc9 : F227 n 1 S with
              | none => rw [hc9] at hf; cases hf
              | some z8 =>
                rw [hc9, Option.bind_some] at hf
                refine F227c (r0 := z8.1) (S0 := z8.2) hh hc9 ?_
                refine r_lret fe_226_126 ?_
                exact dfin (P := fun r T => Q (some (.long r)) (mst T h)) hf hQ
          · rw [if_neg hx4] at hf
            by_cases hx10 : l0 = 5
            · rw [if_pos hx10] at hf
              refine r_tabI (off := 126) (t := 127) fe_226_1 hs1 (by rw [hx10]; decide) (by decide) ?_
              refine r_lload_n fe_226_127 rfl ?_
              refine r_lload_n fe_226_128 rfl ?_
              refine r_lcmp (v := (lg_cmp l1 l3)) fe_226_129 rfl ?_
              by_cases hb11 : am_if .gt (lg_cmp l1 l3) = true
              · rw [if_pos hb11] at hf
                refine r_if_t (t := 137) fe_226_130 (by decide) hb11 ?_
                refine r_iconst (v := 0) fe_226_137 (by decide) ?_
                refine r_callS (as := [.int 0]) (r := []) fe_226_138 lm_12_366 md_227 rfl rfl (Nat.le_of_ble_eq_true rfl) (Nat.le_of_ble_eq_true rfl) (Nat.le_of_ble_eq_true rfl) ?_
                cases hc13 : F227 n 0 S with
                | none => rw [hc13] at hf; cases hf
                | some z12 =>
                  rw [hc13, Option.bind_some] at hf
                  refine F227c (r0 := z12.1) (S0 := z12.2) hh hc13 ?_
                  refine r_lret fe_226_141 ?_
                  exact dfin (P := fun r T => Q (some (.long r)) (mst T h)) hf hQ
              · rw [if_neg hb11] at hf
                refine r_if_f (t := 137) fe_226_130 (by decide) (Bool.eq_false_iff.mpr hb11) ?_
                refine r_iconst (v := 1) fe_226_133 (by decide) ?_
                refine r_goto (t := 138) fe_226_134 (by decide) ?_
                refine r_callS (as := [.int 1]) (r := []) fe_226_138 lm_12_366 md_227 rfl rfl (Nat.le_of_ble_eq_true rfl) (Nat.le_of_ble_eq_true rfl) (Nat.le_of_ble_eq_true rfl) ?_
                cases hc15 : F227 n 1 S with
                | none => rw [hc15] at hf; cases hf
                | some z14 =>
                  rw [hc15, Option.bind_some] at hf
                  refine F227c (r0 := z14.1) (S0 := z14.2) hh hc15 ?_
                  refine r_lret fe_226_141 ?_
                  exact dfin (P := fun r T => Q (some (.long r)) (mst T h)) hf hQ
            · rw [if_neg hx10] at hf
              by_cases hx16 : l0 = 6
              · rw [if_pos hx16] at hf
                refine r_tabI (off := 141) (t := 142) fe_226_1 hs1 (by rw [hx16]; decide) (by decide) ?_
                refine r_lload_n fe_226_142 rfl ?_
                refine r_lload_n fe_226_143 rfl ?_
                refine r_lcmp (v := (lg_cmp l1 l3)) fe_226_144 rfl ?_
                by_cases hb17 : am_if .ne (lg_cmp l1 l3) = true
                · rw [if_pos hb17] at hf
                  refine r_if_t (t := 152) fe_226_145 (by decide) hb17 ?_
                  refine r_iconst (v := 0) fe_226_152 (by decide) ?_
                  refine r_callS (as := [.int 0]) (r := []) fe_226_153 lm_12_366 md_227 rfl rfl (Nat.le_of_ble_eq_true rfl) (Nat.le_of_ble_eq_true rfl) (Nat.le_of_ble_eq_true rfl) ?_
                  cases hc19 : F227 n 0 S with
                  | none => rw [hc19] at hf; cases hf
                  | some z18 =>
                    rw [hc19, Option.bind_some] at hf
                    refine F227c (r0 := z18.1) (S0 := z18.2) hh hc19 ?_
                    refine r_lret fe_226_156 ?_
                    exact dfin (P := fun r T => Q (some (.long r)) (mst T h)) hf hQ
                · rw [if_neg hb17] at hf
                  refine r_if_f (t := 152) fe_226_145 (by decide) (Bool.eq_false_iff.mpr hb17) ?_
                  refine r_iconst (v := 1) fe_226_148 (by decide) ?_
                  refine r_goto (t := 153) fe_226_149 (by decide) ?_
                  refine r_callS (as := [.int 1]) (r := []) fe_226_153 lm_12_366 md_227 rfl rfl (Nat.le_of_ble_eq_true rfl) (Nat.le_of_ble_eq_true rfl) (Nat.le_of_ble_eq_true rfl) ?_
                  cases hc21 : F227 n 1 S with
                  | none => rw [hc21] at hf; cases hf
                  | some z20 =>
                    rw [hc21, Option.bind_some] at hf
                    refine F227c (r0 := z20.1) (S0 := z20.2) hh hc21 ?_
                    refine r_lret fe_226_156 ?_
                    exact dfin (P := fun r T => Q (some (.long r)) (mst T h)) hf hQ
              · rw [if_neg hx16] at hf
                by_cases hx22 : l0 = 7
                · rw [if_pos hx22] at hf
                  refine r_tabI (off := 156) (t := 157) fe_226_1 hs1 (by rw [hx22]; decide) (by decide) ?_
                  refine r_lload_n fe_226_157 rfl ?_
                  refine r_lload_n fe_226_158 rfl ?_
                  refine r_lcmp (v := (lg_cmp l1 l3)) fe_226_159 rfl ?_
                  by_cases hb23 : am_if .lt (lg_cmp l1 l3) = true
                  · rw [if_pos hb23] at hf
                    refine r_if_t (t := 167) fe_226_160 (by decide) hb23 ?_
                    refine r_iconst (v := 0) fe_226_167 (by decide) ?_
                    refine r_callS (as := [.int 0]) (r := []) fe_226_168 lm_12_366 md_227 rfl rfl (Nat.le_of_ble_eq_true rfl) (Nat.le_of_ble_eq_true rfl) (Nat.le_of_ble_eq_true rfl) ?_
                    cases hc25 : F227 n 0 S with
                    | none => rw [hc25] at hf; cases hf
                    | some z24 =>
                      rw [hc25, Option.bind_some] at hf
                      refine F227c (r0 := z24.1) (S0 := z24.2) hh hc25 ?_
                      refine r_lret fe_226_171 ?_
                      exact dfin (P := fun r T => Q (some (.long r)) (mst T h)) hf hQ
                  · rw [if_neg hb23] at hf
                    refine r_if_f (t := 167) fe_226_160 (by decide) (Bool.eq_false_iff.mpr hb23) ?_
                    refine r_iconst (v := 1) fe_226_163 (by decide) ?_
                    refine r_goto (t := 168) fe_226_164 (by decide) ?_
                    refine r_callS (as := [.int 1]) (r := []) fe_226_168 lm_12_366 md_227 rfl rfl (Nat.le_of_ble_eq_true rfl) (Nat.le_of_ble_eq_true rfl) (Nat.le_of_ble_eq_true rfl) ?_
                    cases hc27 : F227 n 1 S with
                    | none => rw [hc27] at hf; cases hf
                    | some z26 =>
                      rw [hc27, Option.bind_some] at hf
                      refine F227c (r0 := z26.1) (S0 := z26.2) hh hc27 ?_
                      refine r_lret fe_226_171 ?_
                      exact dfin (P := fun r T => Q (some (.long r)) (mst T h)) hf hQ
                · rw [if_neg hx22] at hf
                  by_cases hx28 : l0 = 8
                  · rw [if_pos hx28] at hf
                    refine r_tabI (off := 171) (t := 172) fe_226_1 hs1 (by rw [hx28]; decide) (by decide) ?_
                    refine r_lload_n fe_226_172 rfl ?_
                    refine r_lload_n fe_226_173 rfl ?_
                    refine r_lcmp (v := (lg_cmp l1 l3)) fe_226_174 rfl ?_
                    by_cases hb29 : am_if .le (lg_cmp l1 l3) = true
                    · rw [if_pos hb29] at hf
                      refine r_if_t (t := 182) fe_226_175 (by decide) hb29 ?_
                      refine r_iconst (v := 0) fe_226_182 (by decide) ?_
                      refine r_callS (as := [.int 0]) (r := []) fe_226_183 lm_12_366 md_227 rfl rfl (Nat.le_of_ble_eq_true rfl) (Nat.le_of_ble_eq_true rfl) (Nat.le_of_ble_eq_true rfl) ?_
                      cases hc31 : F227 n 0 S with
                      | none => rw [hc31] at hf; cases hf
                      | some z30 =>
                        rw [hc31, Option.bind_some] at hf
                        refine F227c (r0 := z30.1) (S0 := z30.2) hh hc31 ?_
                        refine r_lret fe_226_186 ?_
                        exact dfin (P := fun r T => Q (some (.long r)) (mst T h)) hf hQ
                    · rw [if_neg hb29] at hf
                      refine r_if_f (t := 182) fe_226_175 (by decide) (Bool.eq_false_iff.mpr hb29) ?_
                      refine r_iconst (v := 1) fe_226_178 (by decide) ?_
                      refine r_goto (t := 183) fe_226_179 (by decide) ?_
                      refine r_callS (as := [.int 1]) (r := []) fe_226_183 lm_12_366 md_227 rfl rfl (Nat.le_of_ble_eq_true rfl) (Nat.le_of_ble_eq_true rfl) (Nat.le_of_ble_eq_true rfl) ?_
                      cases hc33 : F227 n 1 S with
                      | none => rw [hc33] at hf; cases hf
                      | some z32 =>
                        rw [hc33, Option.bind_some] at hf
                        refine F227c (r0 := z32.1) (S0 := z32.2) hh hc33 ?_
                        refine r_lret fe_226_186 ?_
                        exact dfin (P := fun r T => Q (some (.long r)) (mst T h)) hf hQ
                  · rw [if_neg hx28] at hf
                    by_cases hx34 : l0 = 9
                    · rw [if_pos hx34] at hf
                      refine r_tabI (off := 190) (t := 191) fe_226_1 hs1 (by rw [hx34]; decide) (by decide) ?_
                      refine r_lload_n fe_226_191 rfl ?_
                      refine r_lload_n fe_226_192 rfl ?_
                      refine r_lor (v := (l1 ||| l3)) fe_226_193 rfl ?_
                      refine r_lret fe_226_194 ?_
                      exact dfin (P := fun r T => Q (some (.long r)) (mst T h)) hf hQ
                    · rw [if_neg hx34] at hf
                      by_cases hx35 : l0 = 10
                      · rw [if_pos hx35] at hf
                        refine r_tabI (off := 186) (t := 187) fe_226_1 hs1 (by rw [hx35]; decide) (by decide) ?_
                        refine r_lload_n fe_226_187 rfl ?_
                        refine r_lload_n fe_226_188 rfl ?_
                        refine r_land (v := (l1 &&& l3)) fe_226_189 rfl ?_
                        refine r_lret fe_226_190 ?_
                        exact dfin (P := fun r T => Q (some (.long r)) (mst T h)) hf hQ
                      · rw [if_neg hx35] at hf
                        by_cases hx36 : l0 = 11
                        · rw [if_pos hx36] at hf
                          refine r_tabI (off := 190) (t := 191) fe_226_1 hs1 (by rw [hx36]; decide) (by decide) ?_
                          refine r_lload_n fe_226_191 rfl ?_
                          refine r_lload_n fe_226_192 rfl ?_
                          refine r_lor (v := (l1 ||| l3)) fe_226_193 rfl ?_
                          refine r_lret fe_226_194 ?_
                          exact dfin (P := fun r T => Q (some (.long r)) (mst T h)) hf hQ
                        · rw [if_neg hx36] at hf
                          by_cases hx37 : l0 = 12
                          · rw [if_pos hx37] at hf
                            refine r_tabI (off := 190) (t := 191) fe_226_1 hs1 (by rw [hx37]; decide) (by decide) ?_
                            refine r_lload_n fe_226_191 rfl ?_
                            refine r_lload_n fe_226_192 rfl ?_
                            refine r_lor (v := (l1 ||| l3)) fe_226_193 rfl ?_
                            refine r_lret fe_226_194 ?_
                            exact dfin (P := fun r T => Q (some (.long r)) (mst T h)) hf hQ
                          · rw [if_neg hx37] at hf
                            by_cases hx38 : l0 = 13
                            · rw [if_pos hx38] at hf
                              refine r_tabI (off := 79) (t := 80) fe_226_1 hs1 (by rw [hx38]; decide) (by decide) ?_
                              refine r_lload_n fe_226_80 rfl ?_
                              refine r_lload_n fe_226_81 rfl ?_
                              refine r_lmul (v := (l1 * l3)) fe_226_82 rfl ?_
                              refine r_lret fe_226_83 ?_
                              exact dfin (P := fun r T => Q (some (.long r)) (mst T h)) hf hQ
                            · rw [if_neg hx38] at hf
                              by_cases hx39 : l0 = 14
                              · rw [if_pos hx39] at hf
                                refine r_tabI (off := 83) (t := 84) fe_226_1 hs1 (by rw [hx39]; decide) (by decide) ?_
                                refine r_lload_n fe_226_84 rfl ?_
                                refine r_lconst (v := 0) fe_226_85 (by decide) ?_
                                refine r_lcmp (v := (lg_cmp l3 0)) fe_226_86 rfl ?_
                                by_cases hb40 : am_if .ne (lg_cmp l3 0) = true
                                · rw [if_pos hb40] at hf
                                  refine r_if_t (t := 94) fe_226_87 (by decide) hb40 ?_
                                  refine r_lload_n fe_226_94 rfl ?_
                                  refine r_lload_n fe_226_95 rfl ?_
                                  by_cases hz41 : l3 = 0
                                  · rw [if_pos hz41] at hf; cases hf
                                  rw [if_neg hz41] at hf
                                  refine r_ldiv (v := (l1 / l3)) fe_226_96 hz41 rfl ?_
                                  refine r_lret fe_226_97 ?_
                                  exact dfin (P := fun r T => Q (some (.long r)) (mst T h)) hf hQ
                                · rw [if_neg hb40] at hf
                                  refine r_if_f (t := 94) fe_226_87 (by decide) (Bool.eq_false_iff.mpr hb40) ?_
                                  refine r_lconst (v := 0) fe_226_90 (by decide) ?_
                                  refine r_goto (t := 97) fe_226_91 (by decide) ?_
                                  refine r_lret fe_226_97 ?_
                                  exact dfin (P := fun r T => Q (some (.long r)) (mst T h)) hf hQ
                              · rw [if_neg hx39] at hf
                                by_cases hx42 : l0 = 15
                                · rw [if_pos hx42] at hf
                                  refine r_tabI (off := 97) (t := 98) fe_226_1 hs1 (by rw [hx42]; decide) (by decide) ?_
                                  refine r_lload_n fe_226_98 rfl ?_
                                  refine r_lconst (v := 0) fe_226_99 (by decide) ?_
                                  refine r_lcmp (v := (lg_cmp l3 0)) fe_226_100 rfl ?_
                                  by_cases hb43 : am_if .ne (lg_cmp l3 0) = true
                                  · rw [if_pos hb43] at hf
                                    refine r_if_t (t := 108) fe_226_101 (by decide) hb43 ?_
                                    refine r_lload_n fe_226_108 rfl ?_
                                    refine r_lload_n fe_226_109 rfl ?_
                                    by_cases hz44 : l3 = 0
                                    · rw [if_pos hz44] at hf; cases hf
                                    rw [if_neg hz44] at hf
                                    refine r_lrem (v := (l1 - l1 / l3 * l3)) fe_226_110 hz44 rfl ?_
                                    refine r_lret fe_226_111 ?_
                                    exact dfin (P := fun r T => Q (some (.long r)) (mst T h)) hf hQ
                                  · rw [if_neg hb43] at hf
                                    refine r_if_f (t := 108) fe_226_101 (by decide) (Bool.eq_false_iff.mpr hb43) ?_
                                    refine r_lconst (v := 0) fe_226_104 (by decide) ?_
                                    refine r_goto (t := 111) fe_226_105 (by decide) ?_
                                    refine r_lret fe_226_111 ?_
                                    exact dfin (P := fun r T => Q (some (.long r)) (mst T h)) hf hQ
                                · rw [if_neg hx42] at hf
                                  cases hf
theorem F226c {xs : Nat → Int32} {L9 d n : Nat} {h : AmH} {Q : Option Value → AmH → Prop} {r0 : Int64} {S0 S : mS} {l0 : Int32} {l1 : Int64} {l3 : Int64} (hh : 172 ≤ h.2.1) (hf : F226 n l0 l1 l3 S = some (r0, S0)) (hQ : Q (some (.long r0)) (mst S0 h)) : Ca (am_X xs L9) (d + 1) 226 [.int l0, .long l1, .long l3] (mst S h) Q := (F226l hh hQ n) l0 l1 l3 S hf
def F225b0 (F : Nat → Int32 → Int32 → Int32 → Int32 → Int32 → mS → Option (Int64 × mS)) (n : Nat) (l1 : Int32) (l2 : Int32) (l3 : Int32) (l4 : Int32) (l5 : Int32) (S : mS) : Option (Int64 × mS) := F 6 l1 0 l3 0 l2 S
def F225b6 (F : Nat → Int32 → Int32 → Int32 → Int32 → Int32 → mS → Option (Int64 × mS)) (n : Nat) (l1 : Int32) (l2 : Int32) (l3 : Int32) (l4 : Int32) (l5 : Int32) (S : mS) : Option (Int64 × mS) := (if am_ic .ge l5 l3 = true then some ((S.2.2 34 0), S) else (if ¬ (((300 * l1) + l5) < 0 ∨ 1800 ≤ (((300 * l1) + l5)).toNatClampNeg) then (if ¬ (((300 * l1) + l5) < 0 ∨ 1800 ≤ (((300 * l1) + l5)).toNatClampNeg) then (if am_if .eq (S.2.1 27 (Int32.toNatClampNeg ((300 * l1) + l5))) = true then (if am_if .ne (S.2.1 27 (Int32.toNatClampNeg ((300 * l1) + l5))) = true then (if ¬ ((S.2.1 28 (Int32.toNatClampNeg ((300 * l1) + l5))) < 0 ∨ 11 ≤ ((S.2.1 28 (Int32.toNatClampNeg ((300 * l1) + l5)))).toNatClampNeg) then (if ¬ (l4 < 0 ∨ 300 ≤ (l4).toNatClampNeg) then F 6 l1 0 l3 (l4 + 1) (l5 + 1) (m_sL S 34 (Int32.toNatClampNeg l4) (S.2.2 33 (Int32.toNatClampNeg (S.2.1 28 (Int32.toNatClampNeg ((300 * l1) + l5)))))) else none) else none) else (if ¬ (l4 < 0 ∨ 300 ≤ (l4).toNatClampNeg) then F 6 l1 0 l3 (l4 + 1) (l5 + 1) (m_sL S 34 (Int32.toNatClampNeg l4) (Int32.toInt64 (S.2.1 28 (Int32.toNatClampNeg ((300 * l1) + l5))))) else none)) else (if am_ic .ne (S.2.1 27 (Int32.toNatClampNeg ((300 * l1) + l5))) 1 = true then (if am_ic .ne (S.2.1 27 (Int32.toNatClampNeg ((300 * l1) + l5))) 9 = true then (if ¬ (((l4 + (-1)) - 1) < 0 ∨ 300 ≤ (((l4 + (-1)) - 1)).toNatClampNeg) then (if ¬ ((l4 + (-1)) < 0 ∨ 300 ≤ ((l4 + (-1))).toNatClampNeg) then ((F226 n (S.2.1 27 (Int32.toNatClampNeg ((300 * l1) + l5))) (S.2.2 34 (Int32.toNatClampNeg ((l4 + (-1)) - 1))) (S.2.2 34 (Int32.toNatClampNeg (l4 + (-1)))) S).bind (fun z13 => (if ¬ (((l4 + (-1)) - 1) < 0 ∨ 300 ≤ (((l4 + (-1)) - 1)).toNatClampNeg) then F 6 l1 0 l3 (l4 + (-1)) (l5 + 1) (m_sL z13.2 34 (Int32.toNatClampNeg ((l4 + (-1)) - 1)) z13.1) else none))) else none) else none) else (if ¬ ((l4 - 1) < 0 ∨ 300 ≤ ((l4 - 1)).toNatClampNeg) then (if ¬ ((l4 - 1) < 0 ∨ 300 ≤ ((l4 - 1)).toNatClampNeg) then F 6 l1 0 l3 l4 (l5 + 1) (m_sL S 34 (Int32.toNatClampNeg (l4 - 1)) (1 - (S.2.2 34 (Int32.toNatClampNeg (l4 - 1))))) else none) else none)) else (if am_if .ne (S.2.1 27 (Int32.toNatClampNeg ((300 * l1) + l5))) = true then (if ¬ ((S.2.1 28 (Int32.toNatClampNeg ((300 * l1) + l5))) < 0 ∨ 11 ≤ ((S.2.1 28 (Int32.toNatClampNeg ((300 * l1) + l5)))).toNatClampNeg) then (if ¬ (l4 < 0 ∨ 300 ≤ (l4).toNatClampNeg) then F 6 l1 0 l3 (l4 + 1) (l5 + 1) (m_sL S 34 (Int32.toNatClampNeg l4) (S.2.2 33 (Int32.toNatClampNeg (S.2.1 28 (Int32.toNatClampNeg ((300 * l1) + l5)))))) else none) else none) else (if ¬ (l4 < 0 ∨ 300 ≤ (l4).toNatClampNeg) then F 6 l1 0 l3 (l4 + 1) (l5 + 1) (m_sL S 34 (Int32.toNatClampNeg l4) (Int32.toInt64 (S.2.1 28 (Int32.toNatClampNeg ((300 * l1) + l5))))) else none)))) else none) else none))
def F225f : Nat → Nat → Int32 → Int32 → Int32 → Int32 → Int32 → mS → Option (Int64 × mS)
  | 0, _, _, _, _, _, _, _ => none
  | n + 1, c, l1, l2, l3, l4, l5, S => if c = 0 then F225b0 (F225f n) n l1 l2 l3 l4 l5 S else F225b6 (F225f n) n l1 l2 l3 l4 l5 S
theorem F225e0 (n : Nat) (l1 : Int32) (l2 : Int32) (l3 : Int32) (l4 : Int32) (l5 : Int32) (S : mS) : F225f (n + 1) 0 l1 l2 l3 l4 l5 S = F225b0 (F225f n) n l1 l2 l3 l4 l5 S := if_pos rfl
theorem F225e6 (n : Nat) (l1 : Int32) (l2 : Int32) (l3 : Int32) (l4 : Int32) (l5 : Int32) (S : mS) : F225f (n + 1) 6 l1 l2 l3 l4 l5 S = F225b6 (F225f n) n l1 l2 l3 l4 l5 S := if_neg (by decide)
def F225 (n : Nat) (l1 : Int32) (l2 : Int32) (l3 : Int32) (S : mS) : Option (Int64 × mS) := F225f n 0 l1 l2 l3 0 0 S
set_option maxRecDepth 20000 in
set_option maxHeartbeats 2000000 in
theorem F225l {xs : Nat → Int32} {L9 d : Nat} {h : AmH} {Q : Option Value → AmH → Prop} {r0 : Int64} {S0 : mS} (hh : 172 ≤ h.2.1) (hQ : Q (some (.long r0)) (mst S0 h)) : ∀ n : Nat, (∀ (l1 : Int32) (l2 : Int32) (l3 : Int32) (l4 : Int32) (l5 : Int32) (S : mS), F225f n 0 l1 l2 l3 l4 l5 S = some (r0, S0) → Go (am_X xs L9) (d + 2) 225 0 [.ref 130, .int l1, .int l2, .int l3, .float 0, .float 0, .float 0, .float 0] [] (mst S h) Q) ∧ (∀ (l1 : Int32) (l2 : Int32) (l3 : Int32) (l4 : Int32) (l5 : Int32) (S : mS), F225f n 6 l1 l2 l3 l4 l5 S = some (r0, S0) → Go (am_X xs L9) (d + 2) 225 6 [.ref 130, .int l1, .float 0, .int l3, .int l4, .int l5, .float 0, .float 0] [] (mst S h) Q) := by
  intro n
  induction n with
  | zero => exact ⟨fun l1 l2 l3 l4 l5 S hf => (by cases hf), fun l1 l2 l3 l4 l5 S hf => (by cases hf)⟩
  | succ n ih =>
    refine ⟨?_, ?_⟩
    · intro l1 l2 l3 l4 l5 S hf
      rw [F225e0] at hf
      unfold F225b0 at hf
      refine r_iconst (v := 0) fe_225_0 (by decide) ?_
      refine r_istore fe_225_1 (Nat.le_of_ble_eq_true rfl) rfl ?_
      refine r_iload_n fe_225_3 rfl ?_
      refine r_istore fe_225_4 (Nat.le_of_ble_eq_true rfl) rfl ?_
      refine go_weak (L0 := [.ref 130, .int l1, .float 0, .int l3, .int 0, .int l2, .float 0, .float 0]) (lwk_c (Or.inl rfl) (lwk_c (Or.inl rfl) (lwk_c (Or.inr rfl) (lwk_c (Or.inl rfl) (lwk_c (Or.inl rfl) (lwk_c (Or.inl rfl) (lwk_c (Or.inl rfl) (lwk_c (Or.inl rfl) (lwk_rf []))))))))) ?_
      exact ih.2 l1 0 l3 0 l2 S hf
    · intro l1 l2 l3 l4 l5 S hf
      rw [F225e6] at hf
      unfold F225b6 at hf
      refine r_iload fe_225_6 rfl ?_
      refine r_iload_n fe_225_8 rfl ?_
      by_cases hb1 : am_ic .ge l5 l3 = true
      · rw [if_pos hb1] at hf
        refine r_ic_t (t := 153) fe_225_9 (by decide) hb1 ?_
        refine r_aload_n fe_225_153 rfl ?_
        refine mr_getf hh fe_225_154 lf_12_115 rfl ?_
        refine r_iconst (v := 0) fe_225_157 (by decide) ?_
        refine r_lald (j := 0) (v := S.2.2 34 0) fe_225_158 m_c_34 (m_lt hh (by decide)) (by decide) (by decide) (by decide) (by decide) rfl ?_
        refine r_lret fe_225_159 ?_
        exact dfin (P := fun r T => Q (some (.long r)) (mst T h)) hf hQ
      · rw [if_neg hb1] at hf
        refine r_ic_f (t := 153) fe_225_9 (by decide) (Bool.eq_false_iff.mpr hb1) ?_
        refine r_aload_n fe_225_12 rfl ?_
        refine mr_getf hh fe_225_13 lf_12_93 rfl ?_
        refine r_sipush (v := 300) fe_225_16 (by decide) ?_
        refine r_iload_n fe_225_19 rfl ?_
        refine r_imul (v := (300 * l1)) fe_225_20 rfl ?_
        refine r_iload fe_225_21 rfl ?_
        refine r_iadd (v := ((300 * l1) + l5)) fe_225_23 rfl ?_
        by_cases hg2 : ¬ (((300 * l1) + l5) < 0 ∨ 1800 ≤ (((300 * l1) + l5)).toNatClampNeg)
        rotate_left
        · rw [if_neg hg2] at hf; cases hf
        rw [if_pos hg2] at hf
        refine r_iald (j := (Int32.toNatClampNeg ((300 * l1) + l5))) (v := S.2.1 27 (Int32.toNatClampNeg ((300 * l1) + l5))) fe_225_24 m_c_27 (m_lt hh (by decide)) (fun z => hg2 (Or.inl z)) rfl (fun z => hg2 (Or.inr z)) rfl ?_
        refine r_istore fe_225_25 (Nat.le_of_ble_eq_true rfl) rfl ?_
        refine r_aload_n fe_225_27 rfl ?_
        refine mr_getf hh fe_225_28 lf_12_96 rfl ?_
        refine r_sipush (v := 300) fe_225_31 (by decide) ?_
        refine r_iload_n fe_225_34 rfl ?_
        refine r_imul (v := (300 * l1)) fe_225_35 rfl ?_
        refine r_iload fe_225_36 rfl ?_
        refine r_iadd (v := ((300 * l1) + l5)) fe_225_38 rfl ?_
        by_cases hg3 : ¬ (((300 * l1) + l5) < 0 ∨ 1800 ≤ (((300 * l1) + l5)).toNatClampNeg)
        rotate_left
        · rw [if_neg hg3] at hf; cases hf
        rw [if_pos hg3] at hf
        refine r_iald (j := (Int32.toNatClampNeg ((300 * l1) + l5))) (v := S.2.1 28 (Int32.toNatClampNeg ((300 * l1) + l5))) fe_225_39 m_c_28 (m_lt hh (by decide)) (fun z => hg3 (Or.inl z)) rfl (fun z => hg3 (Or.inr z)) rfl ?_
        refine r_istore fe_225_40 (Nat.le_of_ble_eq_true rfl) rfl ?_
        refine r_iload fe_225_42 rfl ?_
        by_cases hb4 : am_if .eq (S.2.1 27 (Int32.toNatClampNeg ((300 * l1) + l5))) = true
        · rw [if_pos hb4] at hf
          refine r_if_t (t := 53) fe_225_44 (by decide) hb4 ?_
          refine r_aload_n fe_225_53 rfl ?_
          refine mr_getf hh fe_225_54 lf_12_115 rfl ?_
          refine r_iload fe_225_57 rfl ?_
          refine r_iload fe_225_59 rfl ?_
          by_cases hb5 : am_if .ne (S.2.1 27 (Int32.toNatClampNeg ((300 * l1) + l5))) = true
          · rw [if_pos hb5] at hf
            refine r_if_t (t := 70) fe_225_61 (by decide) hb5 ?_
            refine r_aload_n fe_225_70 rfl ?_
            refine mr_getf hh fe_225_71 lf_12_111 rfl ?_
            refine r_iload fe_225_74 rfl ?_
            by_cases hg6 : ¬ ((S.2.1 28 (Int32.toNatClampNeg ((300 * l1) + l5))) < 0 ∨ 11 ≤ ((S.2.1 28 (Int32.toNatClampNeg ((300 * l1) + l5)))).toNatClampNeg)
            rotate_left
            · rw [if_neg hg6] at hf; cases hf
            rw [if_pos hg6] at hf
            refine r_lald (j := (Int32.toNatClampNeg (S.2.1 28 (Int32.toNatClampNeg ((300 * l1) + l5))))) (v := S.2.2 33 (Int32.toNatClampNeg (S.2.1 28 (Int32.toNatClampNeg ((300 * l1) + l5))))) fe_225_76 m_c_33 (m_lt hh (by decide)) (by decide) (fun z => hg6 (Or.inl z)) rfl (fun z => hg6 (Or.inr z)) rfl ?_
            by_cases hg7 : ¬ (l4 < 0 ∨ 300 ≤ (l4).toNatClampNeg)
            rotate_left
            · rw [if_neg hg7] at hf; cases hf
            rw [if_pos hg7] at hf
            refine mr_last (k := 34) (n := 300) (j := (Int32.toNatClampNeg l4)) hh fe_225_77 rfl (by decide) rfl (fun z => hg7 (Or.inl z)) rfl (fun z => hg7 (Or.inr z)) ?_
            refine r_iinc (v := (l4 + 1)) fe_225_78 rfl rfl rfl ?_
            refine r_goto (t := 147) fe_225_81 (by decide) ?_
            refine r_iinc (v := (l5 + 1)) fe_225_147 rfl rfl rfl ?_
            refine r_goto (t := 6) fe_225_150 (by decide) ?_
            refine go_weak (L0 := [.ref 130, .int l1, .float 0, .int l3, .int (l4 + 1), .int (l5 + 1), .float 0, .float 0]) (lwk_c (Or.inl rfl) (lwk_c (Or.inl rfl) (lwk_c (Or.inl rfl) (lwk_c (Or.inl rfl) (lwk_c (Or.inl rfl) (lwk_c (Or.inl rfl) (lwk_c (Or.inr rfl) (lwk_c (Or.inr rfl) (lwk_rf []))))))))) ?_
            exact ih.2 l1 0 l3 (l4 + 1) (l5 + 1) (m_sL S 34 (Int32.toNatClampNeg l4) (S.2.2 33 (Int32.toNatClampNeg (S.2.1 28 (Int32.toNatClampNeg ((300 * l1) + l5)))))) hf
          · rw [if_neg hb5] at hf
            refine r_if_f (t := 70) fe_225_61 (by decide) (Bool.eq_false_iff.mpr hb5) ?_
            refine r_iload fe_225_64 rfl ?_
            refine r_i2l (v := (Int32.toInt64 (S.2.1 28 (Int32.toNatClampNeg ((300 * l1) + l5))))) fe_225_66 rfl ?_
            refine r_goto (t := 77) fe_225_67 (by decide) ?_
            by_cases hg8 : ¬ (l4 < 0 ∨ 300 ≤ (l4).toNatClampNeg)
            rotate_left
            · rw [if_neg hg8] at hf; cases hf
            rw [if_pos hg8] at hf
            refine mr_last (k := 34) (n := 300) (j := (Int32.toNatClampNeg l4)) hh fe_225_77 rfl (by decide) rfl (fun z => hg8 (Or.inl z)) rfl (fun z => hg8 (Or.inr z)) ?_
            refine r_iinc (v := (l4 + 1)) fe_225_78 rfl rfl rfl ?_
            refine r_goto (t := 147) fe_225_81 (by decide) ?_
            refine r_iinc (v := (l5 + 1)) fe_225_147 rfl rfl rfl ?_
            refine r_goto (t := 6) fe_225_150 (by decide) ?_
            refine go_weak (L0 := [.ref 130, .int l1, .float 0, .int l3, .int (l4 + 1), .int (l5 + 1), .float 0, .float 0]) (lwk_c (Or.inl rfl) (lwk_c (Or.inl rfl) (lwk_c (Or.inl rfl) (lwk_c (Or.inl rfl) (lwk_c (Or.inl rfl) (lwk_c (Or.inl rfl) (lwk_c (Or.inr rfl) (lwk_c (Or.inr rfl) (lwk_rf []))))))))) ?_
            exact ih.2 l1 0 l3 (l4 + 1) (l5 + 1) (m_sL S 34 (Int32.toNatClampNeg l4) (Int32.toInt64 (S.2.1 28 (Int32.toNatClampNeg ((300 * l1) + l5))))) hf
        · rw [if_neg hb4] at hf
          refine r_if_f (t := 53) fe_225_44 (by decide) (Bool.eq_false_iff.mpr hb4) ?_
          refine r_iload fe_225_47 rfl ?_
          refine r_iconst (v := 1) fe_225_49 (by decide) ?_
          by_cases hb9 : am_ic .ne (S.2.1 27 (Int32.toNatClampNeg ((300 * l1) + l5))) 1 = true
          · rw [if_pos hb9] at hf
            refine r_ic_t (t := 84) fe_225_50 (by decide) hb9 ?_
            refine r_iload fe_225_84 rfl ?_
            refine r_bipush (v := 9) fe_225_86 (by decide) ?_
            by_cases hb10 : am_ic .ne (S.2.1 27 (Int32.toNatClampNeg ((300 * l1) + l5))) 9 = true
            · rw [if_pos hb10] at hf
              refine r_ic_t (t := 114) fe_225_88 (by decide) hb10 ?_
              refine r_iinc (v := (l4 + (-1))) fe_225_114 rfl rfl rfl ?_
              refine r_aload_n fe_225_117 rfl ?_
              refine mr_getf hh fe_225_118 lf_12_115 rfl ?_
              refine r_iload fe_225_121 rfl ?_
              refine r_iconst (v := 1) fe_225_123 (by decide) ?_
              refine r_isub (v := ((l4 + (-1)) - 1)) fe_225_124 rfl ?_
              refine r_iload fe_225_125 rfl ?_
              refine r_aload_n fe_225_127 rfl ?_
              refine mr_getf hh fe_225_128 lf_12_115 rfl ?_
              refine r_iload fe_225_131 rfl ?_
              refine r_iconst (v := 1) fe_225_133 (by decide) ?_
              refine r_isub (v := ((l4 + (-1)) - 1)) fe_225_134 rfl ?_
              by_cases hg11 : ¬ (((l4 + (-1)) - 1) < 0 ∨ 300 ≤ (((l4 + (-1)) - 1)).toNatClampNeg)
              rotate_left
              · rw [if_neg hg11] at hf; cases hf
              rw [if_pos hg11] at hf
              refine r_lald (j := (Int32.toNatClampNeg ((l4 + (-1)) - 1))) (v := S.2.2 34 (Int32.toNatClampNeg ((l4 + (-1)) - 1))) fe_225_135 m_c_34 (m_lt hh (by decide)) (by decide) (fun z => hg11 (Or.inl z)) rfl (fun z => hg11 (Or.inr z)) rfl ?_
              refine r_aload_n fe_225_136 rfl ?_
              refine mr_getf hh fe_225_137 lf_12_115 rfl ?_
              refine r_iload fe_225_140 rfl ?_
              by_cases hg12 : ¬ ((l4 + (-1)) < 0 ∨ 300 ≤ ((l4 + (-1))).toNatClampNeg)
              rotate_left
              · rw [if_neg hg12] at hf; cases hf
              rw [if_pos hg12] at hf
              refine r_lald (j := (Int32.toNatClampNeg (l4 + (-1)))) (v := S.2.2 34 (Int32.toNatClampNeg (l4 + (-1)))) fe_225_142 m_c_34 (m_lt hh (by decide)) (by decide) (fun z => hg12 (Or.inl z)) rfl (fun z => hg12 (Or.inr z)) rfl ?_
              refine r_callS (as := [.int (S.2.1 27 (Int32.toNatClampNeg ((300 * l1) + l5))), .long (S.2.2 34 (Int32.toNatClampNeg ((l4 + (-1)) - 1))), .long (S.2.2 34 (Int32.toNatClampNeg (l4 + (-1))))]) (r := [.int ((l4 + (-1)) - 1), .ref 164]) fe_225_143 lm_12_370 md_226 rfl rfl (Nat.le_of_ble_eq_true rfl) (Nat.le_of_ble_eq_true rfl) (Nat.le_of_ble_eq_true rfl) ?_
              cases hc14 : F226 n (S.2.1 27 (Int32.toNatClampNeg ((300 * l1) + l5))) (S.2.2 34 (Int32.toNatClampNeg ((l4 + (-1)) - 1))) (S.2.2 34 (Int32.toNatClampNeg (l4 + (-1)))) S with
              | none => rw [hc14] at hf; cases hf
              | some z13 =>
                rw [hc14, Option.bind_some] at hf
                refine F226c (r0 := z13.1) (S0 := z13.2) hh hc14 ?_
                by_cases hg15 : ¬ (((l4 + (-1)) - 1) < 0 ∨ 300 ≤ (((l4 + (-1)) - 1)).toNatClampNeg)
                rotate_left
                · rw [if_neg hg15] at hf; cases hf
                rw [if_pos hg15] at hf
                refine mr_last (k := 34) (n := 300) (j := (Int32.toNatClampNeg ((l4 + (-1)) - 1))) hh fe_225_146 rfl (by decide) rfl (fun z => hg15 (Or.inl z)) rfl (fun z => hg15 (Or.inr z)) ?_
                refine r_iinc (v := (l5 + 1)) fe_225_147 rfl rfl rfl ?_
                refine r_goto (t := 6) fe_225_150 (by decide) ?_
                refine go_weak (L0 := [.ref 130, .int l1, .float 0, .int l3, .int (l4 + (-1)), .int (l5 + 1), .float 0, .float 0]) (lwk_c (Or.inl rfl) (lwk_c (Or.inl rfl) (lwk_c (Or.inl rfl) (lwk_c (Or.inl rfl) (lwk_c (Or.inl rfl) (lwk_c (Or.inl rfl) (lwk_c (Or.inr rfl) (lwk_c (Or.inr rfl) (lwk_rf []))))))))) ?_
                exact ih.2 l1 0 l3 (l4 + (-1)) (l5 + 1) (m_sL z13.2 34 (Int32.toNatClampNeg ((l4 + (-1)) - 1)) z13.1) hf
            · rw [if_neg hb10] at hf
              refine r_ic_f (t := 114) fe_225_88 (by decide) (Bool.eq_false_iff.mpr hb10) ?_
              refine r_aload_n fe_225_91 rfl ?_
              refine mr_getf hh fe_225_92 lf_12_115 rfl ?_
              refine r_iload fe_225_95 rfl ?_
              refine r_iconst (v := 1) fe_225_97 (by decide) ?_
              refine r_isub (v := (l4 - 1)) fe_225_98 rfl ?_
              refine r_lconst (v := 1) fe_225_99 (by decide) ?_
              refine r_aload_n fe_225_100 rfl ?_
              refine mr_getf hh fe_225_101 lf_12_115 rfl ?_
              refine r_iload fe_225_104 rfl ?_
              refine r_iconst (v := 1) fe_225_106 (by decide) ?_
              refine r_isub (v := (l4 - 1)) fe_225_107 rfl ?_
              by_cases hg16 : ¬ ((l4 - 1) < 0 ∨ 300 ≤ ((l4 - 1)).toNatClampNeg)
              rotate_left
              · rw [if_neg hg16] at hf; cases hf
              rw [if_pos hg16] at hf
              refine r_lald (j := (Int32.toNatClampNeg (l4 - 1))) (v := S.2.2 34 (Int32.toNatClampNeg (l4 - 1))) fe_225_108 m_c_34 (m_lt hh (by decide)) (by decide) (fun z => hg16 (Or.inl z)) rfl (fun z => hg16 (Or.inr z)) rfl ?_
              refine r_lsub (v := (1 - (S.2.2 34 (Int32.toNatClampNeg (l4 - 1))))) fe_225_109 rfl ?_
              by_cases hg17 : ¬ ((l4 - 1) < 0 ∨ 300 ≤ ((l4 - 1)).toNatClampNeg)
              rotate_left
              · rw [if_neg hg17] at hf; cases hf
              rw [if_pos hg17] at hf
              refine mr_last (k := 34) (n := 300) (j := (Int32.toNatClampNeg (l4 - 1))) hh fe_225_110 rfl (by decide) rfl (fun z => hg17 (Or.inl z)) rfl (fun z => hg17 (Or.inr z)) ?_
              refine r_goto (t := 147) fe_225_111 (by decide) ?_
              refine r_iinc (v := (l5 + 1)) fe_225_147 rfl rfl rfl ?_
              refine r_goto (t := 6) fe_225_150 (by decide) ?_
              refine go_weak (L0 := [.ref 130, .int l1, .float 0, .int l3, .int l4, .int (l5 + 1), .float 0, .float 0]) (lwk_c (Or.inl rfl) (lwk_c (Or.inl rfl) (lwk_c (Or.inl rfl) (lwk_c (Or.inl rfl) (lwk_c (Or.inl rfl) (lwk_c (Or.inl rfl) (lwk_c (Or.inr rfl) (lwk_c (Or.inr rfl) (lwk_rf []))))))))) ?_
              exact ih.2 l1 0 l3 l4 (l5 + 1) (m_sL S 34 (Int32.toNatClampNeg (l4 - 1)) (1 - (S.2.2 34 (Int32.toNatClampNeg (l4 - 1))))) hf
          · rw [if_neg hb9] at hf
            refine r_ic_f (t := 84) fe_225_50 (by decide) (Bool.eq_false_iff.mpr hb9) ?_
            refine r_aload_n fe_225_53 rfl ?_
            refine mr_getf hh fe_225_54 lf_12_115 rfl ?_
            refine r_iload fe_225_57 rfl ?_
            refine r_iload fe_225_59 rfl ?_
            by_cases hb18 : am_if .ne (S.2.1 27 (Int32.toNatClampNeg ((300 * l1) + l5))) = true
            · rw [if_pos hb18] at hf
              refine r_if_t (t := 70) fe_225_61 (by decide) hb18 ?_
              refine r_aload_n fe_225_70 rfl ?_
              refine mr_getf hh fe_225_71 lf_12_111 rfl ?_
              refine r_iload fe_225_74 rfl ?_
              by_cases hg19 : ¬ ((S.2.1 28 (Int32.toNatClampNeg ((300 * l1) + l5))) < 0 ∨ 11 ≤ ((S.2.1 28 (Int32.toNatClampNeg ((300 * l1) + l5)))).toNatClampNeg)
              rotate_left
              · rw [if_neg hg19] at hf; cases hf
              rw [if_pos hg19] at hf
              refine r_lald (j := (Int32.toNatClampNeg (S.2.1 28 (Int32.toNatClampNeg ((300 * l1) + l5))))) (v := S.2.2 33 (Int32.toNatClampNeg (S.2.1 28 (Int32.toNatClampNeg ((300 * l1) + l5))))) fe_225_76 m_c_33 (m_lt hh (by decide)) (by decide) (fun z => hg19 (Or.inl z)) rfl (fun z => hg19 (Or.inr z)) rfl ?_
              by_cases hg20 : ¬ (l4 < 0 ∨ 300 ≤ (l4).toNatClampNeg)
              rotate_left
              · rw [if_neg hg20] at hf; cases hf
              rw [if_pos hg20] at hf
              refine mr_last (k := 34) (n := 300) (j := (Int32.toNatClampNeg l4)) hh fe_225_77 rfl (by decide) rfl (fun z => hg20 (Or.inl z)) rfl (fun z => hg20 (Or.inr z)) ?_
              refine r_iinc (v := (l4 + 1)) fe_225_78 rfl rfl rfl ?_
              refine r_goto (t := 147) fe_225_81 (by decide) ?_
              refine r_iinc (v := (l5 + 1)) fe_225_147 rfl rfl rfl ?_
              refine r_goto (t := 6) fe_225_150 (by decide) ?_
              refine go_weak (L0 := [.ref 130, .int l1, .float 0, .int l3, .int (l4 + 1), .int (l5 + 1), .float 0, .float 0]) (lwk_c (Or.inl rfl) (lwk_c (Or.inl rfl) (lwk_c (Or.inl rfl) (lwk_c (Or.inl rfl) (lwk_c (Or.inl rfl) (lwk_c (Or.inl rfl) (lwk_c (Or.inr rfl) (lwk_c (Or.inr rfl) (lwk_rf []))))))))) ?_
              exact ih.2 l1 0 l3 (l4 + 1) (l5 + 1) (m_sL S 34 (Int32.toNatClampNeg l4) (S.2.2 33 (Int32.toNatClampNeg (S.2.1 28 (Int32.toNatClampNeg ((300 * l1) + l5)))))) hf
            · rw [if_neg hb18] at hf
              refine r_if_f (t := 70) fe_225_61 (by decide) (Bool.eq_false_iff.mpr hb18) ?_
              refine r_iload fe_225_64 rfl ?_
              refine r_i2l (v := (Int32.toInt64 (S.2.1 28 (Int32.toNatClampNeg ((300 * l1) + l5))))) fe_225_66 rfl ?_
              refine r_goto (t := 77) fe_225_67 (by decide) ?_
              by_cases hg21 : ¬ (l4 < 0 ∨ 300 ≤ (l4).toNatClampNeg)
              rotate_left
              · rw [if_neg hg21] at hf; cases hf
              rw [if_pos hg21] at hf
              refine mr_last (k := 34) (n := 300) (j := (Int32.toNatClampNeg l4)) hh fe_225_77 rfl (by decide) rfl (fun z => hg21 (Or.inl z)) rfl (fun z => hg21 (Or.inr z)) ?_
              refine r_iinc (v := (l4 + 1)) fe_225_78 rfl rfl rfl ?_
              refine r_goto (t := 147) fe_225_81 (by decide) ?_
              refine r_iinc (v := (l5 + 1)) fe_225_147 rfl rfl rfl ?_
              refine r_goto (t := 6) fe_225_150 (by decide) ?_
              refine go_weak (L0 := [.ref 130, .int l1, .float 0, .int l3, .int (l4 + 1), .int (l5 + 1), .float 0, .float 0]) (lwk_c (Or.inl rfl) (lwk_c (Or.inl rfl) (lwk_c (Or.inl rfl) (lwk_c (Or.inl rfl) (lwk_c (Or.inl rfl) (lwk_c (Or.inl rfl) (lwk_c (Or.inr rfl) (lwk_c (Or.inr rfl) (lwk_rf []))))))))) ?_
              exact ih.2 l1 0 l3 (l4 + 1) (l5 + 1) (m_sL S 34 (Int32.toNatClampNeg l4) (Int32.toInt64 (S.2.1 28 (Int32.toNatClampNeg ((300 * l1) + l5))))) hf
theorem F225c {xs : Nat → Int32} {L9 d n : Nat} {h : AmH} {Q : Option Value → AmH → Prop} {r0 : Int64} {S0 S : mS} {l1 : Int32} {l2 : Int32} {l3 : Int32} (hh : 172 ≤ h.2.1) (hf : F225 n l1 l2 l3 S = some (r0, S0)) (hQ : Q (some (.long r0)) (mst S0 h)) : Ca (am_X xs L9) (d + 2) 225 [.ref 130, .int l1, .int l2, .int l3] (mst S h) Q := (F225l hh hQ n).1 l1 l2 l3 0 0 S hf
def F224b0 (F : Nat → Int32 → Int32 → mS → Option (Int32 × mS)) (n : Nat) (l1 : Int32) (l2 : Int32) (S : mS) : Option (Int32 × mS) := F 13 (S.2.1 1 8) (12 * (S.2.1 1 8)) S
def F224b13 (F : Nat → Int32 → Int32 → mS → Option (Int32 × mS)) (n : Nat) (l1 : Int32) (l2 : Int32) (S : mS) : Option (Int32 × mS) := (if ¬ (l1 < 0 ∨ 6 ≤ (l1).toNatClampNeg) then (if am_ic .ge l2 ((12 * l1) + (S.2.1 29 (Int32.toNatClampNeg l1))) = true then some (0, S) else (if ¬ (l2 < 0 ∨ 72 ≤ (l2).toNatClampNeg) then (if ¬ (l2 < 0 ∨ 72 ≤ (l2).toNatClampNeg) then ((F225 n l1 (S.2.1 30 (Int32.toNatClampNeg l2)) (S.2.1 31 (Int32.toNatClampNeg l2)) S).bind (fun z5 => (if am_if .ne (lg_cmp z5.1 1) = true then F 13 l1 (l2 + 1) z5.2 else some (1, z5.2)))) else none) else none)) else none)
def F224f : Nat → Nat → Int32 → Int32 → mS → Option (Int32 × mS)
  | 0, _, _, _, _ => none
  | n + 1, c, l1, l2, S => if c = 0 then F224b0 (F224f n) n l1 l2 S else F224b13 (F224f n) n l1 l2 S
theorem F224e0 (n : Nat) (l1 : Int32) (l2 : Int32) (S : mS) : F224f (n + 1) 0 l1 l2 S = F224b0 (F224f n) n l1 l2 S := if_pos rfl
theorem F224e13 (n : Nat) (l1 : Int32) (l2 : Int32) (S : mS) : F224f (n + 1) 13 l1 l2 S = F224b13 (F224f n) n l1 l2 S := if_neg (by decide)
def F224 (n : Nat)  (S : mS) : Option (Int32 × mS) := F224f n 0 0 0 S
set_option maxRecDepth 20000 in
set_option maxHeartbeats 2000000 in
theorem F224l {xs : Nat → Int32} {L9 d : Nat} {h : AmH} {Q : Option Value → AmH → Prop} {r0 : Int32} {S0 : mS} (hh : 172 ≤ h.2.1) (hQ : Q (some (.int r0)) (mst S0 h)) : ∀ n : Nat, (∀ (l1 : Int32) (l2 : Int32) (S : mS), F224f n 0 l1 l2 S = some (r0, S0) → Go (am_X xs L9) (d + 3) 224 0 [.ref 130, .float 0, .float 0] [] (mst S h) Q) ∧ (∀ (l1 : Int32) (l2 : Int32) (S : mS), F224f n 13 l1 l2 S = some (r0, S0) → Go (am_X xs L9) (d + 3) 224 13 [.ref 130, .int l1, .int l2] [] (mst S h) Q) := by
  intro n
  induction n with
  | zero => exact ⟨fun l1 l2 S hf => (by cases hf), fun l1 l2 S hf => (by cases hf)⟩
  | succ n ih =>
    refine ⟨?_, ?_⟩
    · intro l1 l2 S hf
      rw [F224e0] at hf
      unfold F224b0 at hf
      refine r_aload_n fe_224_0 rfl ?_
      refine mr_getf hh fe_224_1 lf_12_9 rfl ?_
      refine r_bipush (v := 8) fe_224_4 (by decide) ?_
      refine r_iald (j := 8) (v := S.2.1 1 8) fe_224_6 m_c_1 (m_lt hh (by decide)) (by decide) (by decide) (by decide) rfl ?_
      refine r_istore_n fe_224_7 (Nat.le_of_ble_eq_true rfl) rfl ?_
      refine r_bipush (v := 12) fe_224_8 (by decide) ?_
      refine r_iload_n fe_224_10 rfl ?_
      refine r_imul (v := (12 * (S.2.1 1 8))) fe_224_11 rfl ?_
      refine r_istore_n fe_224_12 (Nat.le_of_ble_eq_true rfl) rfl ?_
      refine go_weak (L0 := [.ref 130, .int (S.2.1 1 8), .int (12 * (S.2.1 1 8))]) (lwk_c (Or.inl rfl) (lwk_c (Or.inl rfl) (lwk_c (Or.inl rfl) (lwk_rf [])))) ?_
      exact ih.2 (S.2.1 1 8) (12 * (S.2.1 1 8)) S hf
    · intro l1 l2 S hf
      rw [F224e13] at hf
      unfold F224b13 at hf
      refine r_iload_n fe_224_13 rfl ?_
      refine r_bipush (v := 12) fe_224_14 (by decide) ?_
      refine r_iload_n fe_224_16 rfl ?_
      refine r_imul (v := (12 * l1)) fe_224_17 rfl ?_
      refine r_aload_n fe_224_18 rfl ?_
      refine mr_getf hh fe_224_19 lf_12_99 rfl ?_
      refine r_iload_n fe_224_22 rfl ?_
      by_cases hg1 : ¬ (l1 < 0 ∨ 6 ≤ (l1).toNatClampNeg)
      rotate_left
      · rw [if_neg hg1] at hf; cases hf
      rw [if_pos hg1] at hf
      refine r_iald (j := (Int32.toNatClampNeg l1)) (v := S.2.1 29 (Int32.toNatClampNeg l1)) fe_224_23 m_c_29 (m_lt hh (by decide)) (fun z => hg1 (Or.inl z)) rfl (fun z => hg1 (Or.inr z)) rfl ?_
      refine r_iadd (v := ((12 * l1) + (S.2.1 29 (Int32.toNatClampNeg l1)))) fe_224_24 rfl ?_
      by_cases hb2 : am_ic .ge l2 ((12 * l1) + (S.2.1 29 (Int32.toNatClampNeg l1))) = true
      · rw [if_pos hb2] at hf
        refine r_ic_t (t := 58) fe_224_25 (by decide) hb2 ?_
        refine r_iconst (v := 0) fe_224_58 (by decide) ?_
        refine r_iret fe_224_59 ⟨rfl, by decide⟩ ?_
        exact dfin (P := fun r T => Q (some (.int r)) (mst T h)) hf hQ
      · rw [if_neg hb2] at hf
        refine r_ic_f (t := 58) fe_224_25 (by decide) (Bool.eq_false_iff.mpr hb2) ?_
        refine r_aload_n fe_224_28 rfl ?_
        refine r_iload_n fe_224_29 rfl ?_
        refine r_aload_n fe_224_30 rfl ?_
        refine mr_getf hh fe_224_31 lf_12_102 rfl ?_
        refine r_iload_n fe_224_34 rfl ?_
        by_cases hg3 : ¬ (l2 < 0 ∨ 72 ≤ (l2).toNatClampNeg)
        rotate_left
        · rw [if_neg hg3] at hf; cases hf
        rw [if_pos hg3] at hf
        refine r_iald (j := (Int32.toNatClampNeg l2)) (v := S.2.1 30 (Int32.toNatClampNeg l2)) fe_224_35 m_c_30 (m_lt hh (by decide)) (fun z => hg3 (Or.inl z)) rfl (fun z => hg3 (Or.inr z)) rfl ?_
        refine r_aload_n fe_224_36 rfl ?_
        refine mr_getf hh fe_224_37 lf_12_105 rfl ?_
        refine r_iload_n fe_224_40 rfl ?_
        by_cases hg4 : ¬ (l2 < 0 ∨ 72 ≤ (l2).toNatClampNeg)
        rotate_left
        · rw [if_neg hg4] at hf; cases hf
        rw [if_pos hg4] at hf
        refine r_iald (j := (Int32.toNatClampNeg l2)) (v := S.2.1 31 (Int32.toNatClampNeg l2)) fe_224_41 m_c_31 (m_lt hh (by decide)) (fun z => hg4 (Or.inl z)) rfl (fun z => hg4 (Or.inr z)) rfl ?_
        refine r_callV (as := [.int l1, .int (S.2.1 30 (Int32.toNatClampNeg l2)), .int (S.2.1 31 (Int32.toNatClampNeg l2))]) (r := []) fe_224_42 lm_12_362 md_225 rfl rfl (Nat.le_of_ble_eq_true rfl) m_c_0 (m_lt hh (by decide)) (Nat.le_of_ble_eq_true rfl) (Nat.le_of_ble_eq_true rfl) ?_
        cases hc6 : F225 n l1 (S.2.1 30 (Int32.toNatClampNeg l2)) (S.2.1 31 (Int32.toNatClampNeg l2)) S with
        | none => rw [hc6] at hf; cases hf
        | some z5 =>
          rw [hc6, Option.bind_some] at hf
          refine F225c (r0 := z5.1) (S0 := z5.2) hh hc6 ?_
          refine r_lconst (v := 1) fe_224_45 (by decide) ?_
          refine r_lcmp (v := (lg_cmp z5.1 1)) fe_224_46 rfl ?_
          by_cases hb7 : am_if .ne (lg_cmp z5.1 1) = true
          · rw [if_pos hb7] at hf
            refine r_if_t (t := 52) fe_224_47 (by decide) hb7 ?_
            refine r_iinc (v := (l2 + 1)) fe_224_52 rfl rfl rfl ?_
            refine r_goto (t := 13) fe_224_55 (by decide) ?_
            refine go_weak (L0 := [.ref 130, .int l1, .int (l2 + 1)]) (lwk_c (Or.inl rfl) (lwk_c (Or.inl rfl) (lwk_c (Or.inl rfl) (lwk_rf [])))) ?_
            exact ih.2 l1 (l2 + 1) z5.2 hf
          · rw [if_neg hb7] at hf
            refine r_if_f (t := 52) fe_224_47 (by decide) (Bool.eq_false_iff.mpr hb7) ?_
            refine r_iconst (v := 1) fe_224_50 (by decide) ?_
            refine r_iret fe_224_51 ⟨rfl, by decide⟩ ?_
            exact dfin (P := fun r T => Q (some (.int r)) (mst T h)) hf hQ
theorem F224c {xs : Nat → Int32} {L9 d n : Nat} {h : AmH} {Q : Option Value → AmH → Prop} {r0 : Int32} {S0 S : mS}  (hh : 172 ≤ h.2.1) (hf : F224 n  S = some (r0, S0)) (hQ : Q (some (.int r0)) (mst S0 h)) : Ca (am_X xs L9) (d + 3) 224 [.ref 130] (mst S h) Q := (F224l hh hQ n).1 0 0 S hf
def F220b0 (F : Nat → Int32 → Int32 → mS → Option (Int32 × mS)) (n : Nat) (l1 : Int32) (l2 : Int32) (S : mS) : Option (Int32 × mS) := (if ¬ (l1 < 0 ∨ 13 ≤ (l1).toNatClampNeg) then ((F217 n (S.2.1 11 (Int32.toNatClampNeg l1)) S).bind (fun z2 => (if ¬ (l2 < 0 ∨ 13 ≤ (l2).toNatClampNeg) then ((F217 n (z2.2.2.1 11 (Int32.toNatClampNeg l2)) z2.2).bind (fun z5 => (if am_ic .le (z2.1 + z5.1) 8 = true then (if am_ic .ne (z5.2.2.1 1 8) (-1) = true then (if ¬ (l1 < 0 ∨ 13 ≤ (l1).toNatClampNeg) then ((F217 n (z5.2.2.1 11 (Int32.toNatClampNeg l1)) z5.2).bind (fun z10 => (if ¬ (l2 < 0 ∨ 13 ≤ (l2).toNatClampNeg) then ((F217 n ((m_sL z10.2 33 0 (Int32.toInt64 z10.1)).2.1 11 (Int32.toNatClampNeg l2)) (m_sL z10.2 33 0 (Int32.toInt64 z10.1))).bind (fun z13 => (if ¬ (l1 < 0 ∨ 13 ≤ (l1).toNatClampNeg) then (if ¬ (l2 < 0 ∨ 13 ≤ (l2).toNatClampNeg) then ((F221 n ((m_sL (m_sL z13.2 33 1 (Int32.toInt64 z13.1)) 33 2 (Int32.toInt64 (((m_sL z13.2 33 1 (Int32.toInt64 z13.1)).2.1 11 (Int32.toNatClampNeg l1)) - ((m_sL z13.2 33 1 (Int32.toInt64 z13.1)).2.1 11 (Int32.toNatClampNeg l1)) / 10 * 10))).2.1 11 (Int32.toNatClampNeg l2)) (m_sL (m_sL z13.2 33 1 (Int32.toInt64 z13.1)) 33 2 (Int32.toInt64 (((m_sL z13.2 33 1 (Int32.toInt64 z13.1)).2.1 11 (Int32.toNatClampNeg l1)) - ((m_sL z13.2 33 1 (Int32.toInt64 z13.1)).2.1 11 (Int32.toNatClampNeg l1)) / 10 * 10)))).bind (fun z17 => (if ¬ (l1 < 0 ∨ 13 ≤ (l1).toNatClampNeg) then ((F222 n ((m_sL z17.2 33 3 (Int32.toInt64 z17.1)).2.1 11 (Int32.toNatClampNeg l1)) (m_sL z17.2 33 3 (Int32.toInt64 z17.1))).bind (fun z20 => (if ¬ (l2 < 0 ∨ 13 ≤ (l2).toNatClampNeg) then ((F222 n (z20.2.2.1 11 (Int32.toNatClampNeg l2)) z20.2).bind (fun z23 => ((F223 n (z20.1 &&& z23.1) z23.2).bind (fun z25 => (if ¬ (l1 < 0 ∨ 13 ≤ (l1).toNatClampNeg) then (if ¬ (l1 < 0 ∨ 13 ≤ (l1).toNatClampNeg) then ((F201 n ((m_sL (m_sL (m_sL (m_sL (m_sL z25.2 33 4 (Int32.toInt64 z25.1)) 33 5 (Int32.toInt64 ((m_sL z25.2 33 4 (Int32.toInt64 z25.1)).2.1 10 (Int32.toNatClampNeg l1)))) 33 6 (Int32.toInt64 ((m_sL (m_sL z25.2 33 4 (Int32.toInt64 z25.1)) 33 5 (Int32.toInt64 ((m_sL z25.2 33 4 (Int32.toInt64 z25.1)).2.1 10 (Int32.toNatClampNeg l1)))).2.1 1 6))) 33 7 (Int32.toInt64 l1)) 33 8 (Int32.toInt64 l2)).2.1 10 (Int32.toNatClampNeg l1)) (m_sL (m_sL (m_sL (m_sL (m_sL z25.2 33 4 (Int32.toInt64 z25.1)) 33 5 (Int32.toInt64 ((m_sL z25.2 33 4 (Int32.toInt64 z25.1)).2.1 10 (Int32.toNatClampNeg l1)))) 33 6 (Int32.toInt64 ((m_sL (m_sL z25.2 33 4 (Int32.toInt64 z25.1)) 33 5 (Int32.toInt64 ((m_sL z25.2 33 4 (Int32.toInt64 z25.1)).2.1 10 (Int32.toNatClampNeg l1)))).2.1 1 6))) 33 7 (Int32.toInt64 l1)) 33 8 (Int32.toInt64 l2))).bind (fun z29 => ((F223 n z29.1 z29.2).bind (fun z31 => (if ¬ (l1 < 0 ∨ 13 ≤ (l1).toNatClampNeg) then ((F224 n  (m_sL (m_sL z31.2 33 9 (Int32.toInt64 z31.1)) 33 10 (Int32.toInt64 ((m_sL z31.2 33 9 (Int32.toInt64 z31.1)).2.1 12 (Int32.toNatClampNeg l1))))).bind (fun z34 => (if narrow .boolean (.int z34.1) = .int z34.1 then some (z34.1, z34.2) else none))) else none))))) else none) else none))))) else none))) else none))) else none) else none))) else none))) else none) else (if ¬ (l1 < 0 ∨ 13 ≤ (l1).toNatClampNeg) then (if ¬ (l2 < 0 ∨ 13 ≤ (l2).toNatClampNeg) then ((F221 n (z5.2.2.1 11 (Int32.toNatClampNeg l2)) z5.2).bind (fun z39 => (if am_ic .ne ((z5.2.2.1 11 (Int32.toNatClampNeg l1)) - (z5.2.2.1 11 (Int32.toNatClampNeg l1)) / 10 * 10) z39.1 = true then some (0, z39.2) else some (1, z39.2)))) else none) else none)) else some (0, z5.2)))) else none))) else none)
def F220f : Nat → Nat → Int32 → Int32 → mS → Option (Int32 × mS)
  | 0, _, _, _, _ => none
  | n + 1, c, l1, l2, S => F220b0 (F220f n) n l1 l2 S
theorem F220e0 (n : Nat) (l1 : Int32) (l2 : Int32) (S : mS) : F220f (n + 1) 0 l1 l2 S = F220b0 (F220f n) n l1 l2 S := rfl
def F220 (n : Nat) (l1 : Int32) (l2 : Int32) (S : mS) : Option (Int32 × mS) := F220f n 0 l1 l2 S
set_option maxRecDepth 20000 in
set_option maxHeartbeats 2000000 in
theorem F220l {xs : Nat → Int32} {L9 d : Nat} {h : AmH} {Q : Option Value → AmH → Prop} {r0 : Int32} {S0 : mS} (hh : 172 ≤ h.2.1) (hQ : Q (some (.int r0)) (mst S0 h)) : ∀ n : Nat, (∀ (l1 : Int32) (l2 : Int32) (S : mS), F220f n 0 l1 l2 S = some (r0, S0) → Go (am_X xs L9) (d + 4) 220 0 [.ref 130, .int l1, .int l2] [] (mst S h) Q) := by
  intro n
  induction n with
  | zero => exact fun l1 l2 S hf => (by cases hf)
  | succ n ih =>
    intro l1 l2 S hf
    rw [F220e0] at hf
    unfold F220b0 at hf
    refine r_aload_n fe_220_0 rfl ?_
    refine mr_getf hh fe_220_1 lf_12_40 rfl ?_
    refine r_iload_n fe_220_4 rfl ?_
    by_cases hg1 : ¬ (l1 < 0 ∨ 13 ≤ (l1).toNatClampNeg)
    rotate_left
    · rw [if_neg hg1] at hf; cases hf
    rw [if_pos hg1] at hf
    refine r_iald (j := (Int32.toNatClampNeg l1)) (v := S.2.1 11 (Int32.toNatClampNeg l1)) fe_220_5 m_c_11 (m_lt hh (by decide)) (fun z => hg1 (Or.inl z)) rfl (fun z => hg1 (Or.inr z)) rfl ?_
    refine r_callS (as := [.int (S.2.1 11 (Int32.toNatClampNeg l1))]) (r := []) fe_220_6 lm_12_151 md_217 rfl rfl (Nat.le_of_ble_eq_true rfl) (Nat.le_of_ble_eq_true rfl) (Nat.le_of_ble_eq_true rfl) ?_
    cases hc3 : F217 n (S.2.1 11 (Int32.toNatClampNeg l1)) S with
    | none => rw [hc3] at hf; cases hf
    | some z2 =>
      rw [hc3, Option.bind_some] at hf
      refine F217c (r0 := z2.1) (S0 := z2.2) hh hc3 ?_
      refine r_aload_n fe_220_9 rfl ?_
      refine mr_getf hh fe_220_10 lf_12_40 rfl ?_
      refine r_iload_n fe_220_13 rfl ?_
      by_cases hg4 : ¬ (l2 < 0 ∨ 13 ≤ (l2).toNatClampNeg)
      rotate_left
      · rw [if_neg hg4] at hf; cases hf
      rw [if_pos hg4] at hf
      refine r_iald (j := (Int32.toNatClampNeg l2)) (v := z2.2.2.1 11 (Int32.toNatClampNeg l2)) fe_220_14 m_c_11 (m_lt hh (by decide)) (fun z => hg4 (Or.inl z)) rfl (fun z => hg4 (Or.inr z)) rfl ?_
      refine r_callS (as := [.int (z2.2.2.1 11 (Int32.toNatClampNeg l2))]) (r := [.int z2.1]) fe_220_15 lm_12_151 md_217 rfl rfl (Nat.le_of_ble_eq_true rfl) (Nat.le_of_ble_eq_true rfl) (Nat.le_of_ble_eq_true rfl) ?_
      cases hc6 : F217 n (z2.2.2.1 11 (Int32.toNatClampNeg l2)) z2.2 with
      | none => rw [hc6] at hf; cases hf
      | some z5 =>
        rw [hc6, Option.bind_some] at hf
        refine F217c (r0 := z5.1) (S0 := z5.2) hh hc6 ?_
        refine r_iadd (v := (z2.1 + z5.1)) fe_220_18 rfl ?_
        refine r_bipush (v := 8) fe_220_19 (by decide) ?_
        by_cases hb7 : am_ic .le (z2.1 + z5.1) 8 = true
        · rw [if_pos hb7] at hf
          refine r_ic_t (t := 26) fe_220_21 (by decide) hb7 ?_
          refine r_aload_n fe_220_26 rfl ?_
          refine mr_getf hh fe_220_27 lf_12_9 rfl ?_
          refine r_bipush (v := 8) fe_220_30 (by decide) ?_
          refine r_iald (j := 8) (v := z5.2.2.1 1 8) fe_220_32 m_c_1 (m_lt hh (by decide)) (by decide) (by decide) (by decide) rfl ?_
          refine r_iconst (v := -1) fe_220_33 (by decide) ?_
          by_cases hb8 : am_ic .ne (z5.2.2.1 1 8) (-1) = true
          · rw [if_pos hb8] at hf
            refine r_ic_t (t := 64) fe_220_34 (by decide) hb8 ?_
            refine r_aload_n fe_220_64 rfl ?_
            refine mr_getf hh fe_220_65 lf_12_111 rfl ?_
            refine r_iconst (v := 0) fe_220_68 (by decide) ?_
            refine r_aload_n fe_220_69 rfl ?_
            refine mr_getf hh fe_220_70 lf_12_40 rfl ?_
            refine r_iload_n fe_220_73 rfl ?_
            by_cases hg9 : ¬ (l1 < 0 ∨ 13 ≤ (l1).toNatClampNeg)
            rotate_left
            · rw [if_neg hg9] at hf; cases hf
            rw [if_pos hg9] at hf
            refine r_iald (j := (Int32.toNatClampNeg l1)) (v := z5.2.2.1 11 (Int32.toNatClampNeg l1)) fe_220_74 m_c_11 (m_lt hh (by decide)) (fun z => hg9 (Or.inl z)) rfl (fun z => hg9 (Or.inr z)) rfl ?_
            refine r_callS (as := [.int (z5.2.2.1 11 (Int32.toNatClampNeg l1))]) (r := [.int 0, .ref 163]) fe_220_75 lm_12_151 md_217 rfl rfl (Nat.le_of_ble_eq_true rfl) (Nat.le_of_ble_eq_true rfl) (Nat.le_of_ble_eq_true rfl) ?_
            cases hc11 : F217 n (z5.2.2.1 11 (Int32.toNatClampNeg l1)) z5.2 with
            | none => rw [hc11] at hf; cases hf
            | some z10 =>
              rw [hc11, Option.bind_some] at hf
              refine F217c (r0 := z10.1) (S0 := z10.2) hh hc11 ?_
              refine r_i2l (v := (Int32.toInt64 z10.1)) fe_220_78 rfl ?_
              refine mr_last (k := 33) (n := 11) (j := 0) hh fe_220_79 rfl (by decide) rfl (by decide) (by decide) (by decide) ?_
              refine r_aload_n fe_220_80 rfl ?_
              refine mr_getf hh fe_220_81 lf_12_111 rfl ?_
              refine r_iconst (v := 1) fe_220_84 (by decide) ?_
              refine r_aload_n fe_220_85 rfl ?_
              refine mr_getf hh fe_220_86 lf_12_40 rfl ?_
              refine r_iload_n fe_220_89 rfl ?_
              by_cases hg12 : ¬ (l2 < 0 ∨ 13 ≤ (l2).toNatClampNeg)
              rotate_left
              · rw [if_neg hg12] at hf; cases hf
              rw [if_pos hg12] at hf
              refine r_iald (j := (Int32.toNatClampNeg l2)) (v := (m_sL z10.2 33 0 (Int32.toInt64 z10.1)).2.1 11 (Int32.toNatClampNeg l2)) fe_220_90 m_c_11 (m_lt hh (by decide)) (fun z => hg12 (Or.inl z)) rfl (fun z => hg12 (Or.inr z)) rfl ?_
              refine r_callS (as := [.int ((m_sL z10.2 33 0 (Int32.toInt64 z10.1)).2.1 11 (Int32.toNatClampNeg l2))]) (r := [.int 1, .ref 163]) fe_220_91 lm_12_151 md_217 rfl rfl (Nat.le_of_ble_eq_true rfl) (Nat.le_of_ble_eq_true rfl) (Nat.le_of_ble_eq_true rfl) ?_
              cases hc14 : F217 n ((m_sL z10.2 33 0 (Int32.toInt64 z10.1)).2.1 11 (Int32.toNatClampNeg l2)) (m_sL z10.2 33 0 (Int32.toInt64 z10.1)) with
              | none => rw [hc14] at hf; cases hf
              | some z13 =>
                rw [hc14, Option.bind_some] at hf
                refine F217c (r0 := z13.1) (S0 := z13.2) hh hc14 ?_
                refine r_i2l (v := (Int32.toInt64 z13.1)) fe_220_94 rfl ?_
                refine mr_last (k := 33) (n := 11) (j := 1) hh fe_220_95 rfl (by decide) rfl (by decide) (by decide) (by decide) ?_
                refine r_aload_n fe_220_96 rfl ?_
                refine mr_getf hh fe_220_97 lf_12_111 rfl ?_
                refine r_iconst (v := 2) fe_220_100 (by decide) ?_
                refine r_aload_n fe_220_101 rfl ?_
                refine mr_getf hh fe_220_102 lf_12_40 rfl ?_
                refine r_iload_n fe_220_105 rfl ?_
                by_cases hg15 : ¬ (l1 < 0 ∨ 13 ≤ (l1).toNatClampNeg)
                rotate_left
                · rw [if_neg hg15] at hf; cases hf
                rw [if_pos hg15] at hf
                refine r_iald (j := (Int32.toNatClampNeg l1)) (v := (m_sL z13.2 33 1 (Int32.toInt64 z13.1)).2.1 11 (Int32.toNatClampNeg l1)) fe_220_106 m_c_11 (m_lt hh (by decide)) (fun z => hg15 (Or.inl z)) rfl (fun z => hg15 (Or.inr z)) rfl ?_
                refine r_bipush (v := 10) fe_220_107 (by decide) ?_
                refine r_irem (v := (((m_sL z13.2 33 1 (Int32.toInt64 z13.1)).2.1 11 (Int32.toNatClampNeg l1)) - ((m_sL z13.2 33 1 (Int32.toInt64 z13.1)).2.1 11 (Int32.toNatClampNeg l1)) / 10 * 10)) fe_220_109 (by decide) rfl ?_
                refine r_i2l (v := (Int32.toInt64 (((m_sL z13.2 33 1 (Int32.toInt64 z13.1)).2.1 11 (Int32.toNatClampNeg l1)) - ((m_sL z13.2 33 1 (Int32.toInt64 z13.1)).2.1 11 (Int32.toNatClampNeg l1)) / 10 * 10))) fe_220_110 rfl ?_
                refine mr_last (k := 33) (n := 11) (j := 2) hh fe_220_111 rfl (by decide) rfl (by decide) (by decide) (by decide) ?_
                refine r_aload_n fe_220_112 rfl ?_
                refine mr_getf hh fe_220_113 lf_12_111 rfl ?_
                refine r_iconst (v := 3) fe_220_116 (by decide) ?_
                refine r_aload_n fe_220_117 rfl ?_
                refine mr_getf hh fe_220_118 lf_12_40 rfl ?_
                refine r_iload_n fe_220_121 rfl ?_
                by_cases hg16 : ¬ (l2 < 0 ∨ 13 ≤ (l2).toNatClampNeg)
                rotate_left
                · rw [if_neg hg16] at hf; cases hf
                rw [if_pos hg16] at hf
                refine r_iald (j := (Int32.toNatClampNeg l2)) (v := (m_sL (m_sL z13.2 33 1 (Int32.toInt64 z13.1)) 33 2 (Int32.toInt64 (((m_sL z13.2 33 1 (Int32.toInt64 z13.1)).2.1 11 (Int32.toNatClampNeg l1)) - ((m_sL z13.2 33 1 (Int32.toInt64 z13.1)).2.1 11 (Int32.toNatClampNeg l1)) / 10 * 10))).2.1 11 (Int32.toNatClampNeg l2)) fe_220_122 m_c_11 (m_lt hh (by decide)) (fun z => hg16 (Or.inl z)) rfl (fun z => hg16 (Or.inr z)) rfl ?_
                refine r_callS (as := [.int ((m_sL (m_sL z13.2 33 1 (Int32.toInt64 z13.1)) 33 2 (Int32.toInt64 (((m_sL z13.2 33 1 (Int32.toInt64 z13.1)).2.1 11 (Int32.toNatClampNeg l1)) - ((m_sL z13.2 33 1 (Int32.toInt64 z13.1)).2.1 11 (Int32.toNatClampNeg l1)) / 10 * 10))).2.1 11 (Int32.toNatClampNeg l2))]) (r := [.int 3, .ref 163]) fe_220_123 lm_12_409 md_221 rfl rfl (Nat.le_of_ble_eq_true rfl) (Nat.le_of_ble_eq_true rfl) (Nat.le_of_ble_eq_true rfl) ?_
                cases hc18 : F221 n ((m_sL (m_sL z13.2 33 1 (Int32.toInt64 z13.1)) 33 2 (Int32.toInt64 (((m_sL z13.2 33 1 (Int32.toInt64 z13.1)).2.1 11 (Int32.toNatClampNeg l1)) - ((m_sL z13.2 33 1 (Int32.toInt64 z13.1)).2.1 11 (Int32.toNatClampNeg l1)) / 10 * 10))).2.1 11 (Int32.toNatClampNeg l2)) (m_sL (m_sL z13.2 33 1 (Int32.toInt64 z13.1)) 33 2 (Int32.toInt64 (((m_sL z13.2 33 1 (Int32.toInt64 z13.1)).2.1 11 (Int32.toNatClampNeg l1)) - ((m_sL z13.2 33 1 (Int32.toInt64 z13.1)).2.1 11 (Int32.toNatClampNeg l1)) / 10 * 10))) with
                | none => rw [hc18] at hf; cases hf
                | some z17 =>
                  rw [hc18, Option.bind_some] at hf
                  refine F221c (r0 := z17.1) (S0 := z17.2) hh hc18 ?_
                  refine r_i2l (v := (Int32.toInt64 z17.1)) fe_220_126 rfl ?_
                  refine mr_last (k := 33) (n := 11) (j := 3) hh fe_220_127 rfl (by decide) rfl (by decide) (by decide) (by decide) ?_
                  refine r_aload_n fe_220_128 rfl ?_
                  refine mr_getf hh fe_220_129 lf_12_111 rfl ?_
                  refine r_iconst (v := 4) fe_220_132 (by decide) ?_
                  refine r_aload_n fe_220_133 rfl ?_
                  refine mr_getf hh fe_220_134 lf_12_40 rfl ?_
                  refine r_iload_n fe_220_137 rfl ?_
                  by_cases hg19 : ¬ (l1 < 0 ∨ 13 ≤ (l1).toNatClampNeg)
                  rotate_left
                  · rw [if_neg hg19] at hf; cases hf
                  rw [if_pos hg19] at hf
                  refine r_iald (j := (Int32.toNatClampNeg l1)) (v := (m_sL z17.2 33 3 (Int32.toInt64 z17.1)).2.1 11 (Int32.toNatClampNeg l1)) fe_220_138 m_c_11 (m_lt hh (by decide)) (fun z => hg19 (Or.inl z)) rfl (fun z => hg19 (Or.inr z)) rfl ?_
                  refine r_callS (as := [.int ((m_sL z17.2 33 3 (Int32.toInt64 z17.1)).2.1 11 (Int32.toNatClampNeg l1))]) (r := [.int 4, .ref 163]) fe_220_139 lm_12_412 md_222 rfl rfl (Nat.le_of_ble_eq_true rfl) (Nat.le_of_ble_eq_true rfl) (Nat.le_of_ble_eq_true rfl) ?_
                  cases hc21 : F222 n ((m_sL z17.2 33 3 (Int32.toInt64 z17.1)).2.1 11 (Int32.toNatClampNeg l1)) (m_sL z17.2 33 3 (Int32.toInt64 z17.1)) with
                  | none => rw [hc21] at hf; cases hf
                  | some z20 =>
                    rw [hc21, Option.bind_some] at hf
                    refine F222c (r0 := z20.1) (S0 := z20.2) hh hc21 ?_
                    refine r_aload_n fe_220_142 rfl ?_
                    refine mr_getf hh fe_220_143 lf_12_40 rfl ?_
                    refine r_iload_n fe_220_146 rfl ?_
                    by_cases hg22 : ¬ (l2 < 0 ∨ 13 ≤ (l2).toNatClampNeg)
                    rotate_left
                    · rw [if_neg hg22] at hf; cases hf
                    rw [if_pos hg22] at hf
                    refine r_iald (j := (Int32.toNatClampNeg l2)) (v := z20.2.2.1 11 (Int32.toNatClampNeg l2)) fe_220_147 m_c_11 (m_lt hh (by decide)) (fun z => hg22 (Or.inl z)) rfl (fun z => hg22 (Or.inr z)) rfl ?_
                    refine r_callS (as := [.int (z20.2.2.1 11 (Int32.toNatClampNeg l2))]) (r := [.int z20.1, .int 4, .ref 163]) fe_220_148 lm_12_412 md_222 rfl rfl (Nat.le_of_ble_eq_true rfl) (Nat.le_of_ble_eq_true rfl) (Nat.le_of_ble_eq_true rfl) ?_
                    cases hc24 : F222 n (z20.2.2.1 11 (Int32.toNatClampNeg l2)) z20.2 with
                    | none => rw [hc24] at hf; cases hf
                    | some z23 =>
                      rw [hc24, Option.bind_some] at hf
                      refine F222c (r0 := z23.1) (S0 := z23.2) hh hc24 ?_
                      refine r_iand (v := (z20.1 &&& z23.1)) fe_220_151 rfl ?_
                      refine r_callS (as := [.int (z20.1 &&& z23.1)]) (r := [.int 4, .ref 163]) fe_220_152 lm_12_415 md_223 rfl rfl (Nat.le_of_ble_eq_true rfl) (Nat.le_of_ble_eq_true rfl) (Nat.le_of_ble_eq_true rfl) ?_
                      cases hc26 : F223 n (z20.1 &&& z23.1) z23.2 with
                      | none => rw [hc26] at hf; cases hf
                      | some z25 =>
                        rw [hc26, Option.bind_some] at hf
                        refine F223c (r0 := z25.1) (S0 := z25.2) hh hc26 ?_
                        refine r_i2l (v := (Int32.toInt64 z25.1)) fe_220_155 rfl ?_
                        refine mr_last (k := 33) (n := 11) (j := 4) hh fe_220_156 rfl (by decide) rfl (by decide) (by decide) (by decide) ?_
                        refine r_aload_n fe_220_157 rfl ?_
                        refine mr_getf hh fe_220_158 lf_12_111 rfl ?_
                        refine r_iconst (v := 5) fe_220_161 (by decide) ?_
                        refine r_aload_n fe_220_162 rfl ?_
                        refine mr_getf hh fe_220_163 lf_12_37 rfl ?_
                        refine r_iload_n fe_220_166 rfl ?_
                        by_cases hg27 : ¬ (l1 < 0 ∨ 13 ≤ (l1).toNatClampNeg)
                        rotate_left
                        · rw [if_neg hg27] at hf; cases hf
                        rw [if_pos hg27] at hf
                        refine r_iald (j := (Int32.toNatClampNeg l1)) (v := (m_sL z25.2 33 4 (Int32.toInt64 z25.1)).2.1 10 (Int32.toNatClampNeg l1)) fe_220_167 m_c_10 (m_lt hh (by decide)) (fun z => hg27 (Or.inl z)) rfl (fun z => hg27 (Or.inr z)) rfl ?_
                        refine r_i2l (v := (Int32.toInt64 ((m_sL z25.2 33 4 (Int32.toInt64 z25.1)).2.1 10 (Int32.toNatClampNeg l1)))) fe_220_168 rfl ?_
                        refine mr_last (k := 33) (n := 11) (j := 5) hh fe_220_169 rfl (by decide) rfl (by decide) (by decide) (by decide) ?_
                        refine r_aload_n fe_220_170 rfl ?_
                        refine mr_getf hh fe_220_171 lf_12_111 rfl ?_
                        refine r_bipush (v := 6) fe_220_174 (by decide) ?_
                        refine r_aload_n fe_220_176 rfl ?_
                        refine mr_getf hh fe_220_177 lf_12_9 rfl ?_
                        refine r_bipush (v := 6) fe_220_180 (by decide) ?_
                        refine r_iald (j := 6) (v := (m_sL (m_sL z25.2 33 4 (Int32.toInt64 z25.1)) 33 5 (Int32.toInt64 ((m_sL z25.2 33 4 (Int32.toInt64 z25.1)).2.1 10 (Int32.toNatClampNeg l1)))).2.1 1 6) fe_220_182 m_c_1 (m_lt hh (by decide)) (by decide) (by decide) (by decide) rfl ?_
                        refine r_i2l (v := (Int32.toInt64 ((m_sL (m_sL z25.2 33 4 (Int32.toInt64 z25.1)) 33 5 (Int32.toInt64 ((m_sL z25.2 33 4 (Int32.toInt64 z25.1)).2.1 10 (Int32.toNatClampNeg l1)))).2.1 1 6))) fe_220_183 rfl ?_
                        refine mr_last (k := 33) (n := 11) (j := 6) hh fe_220_184 rfl (by decide) rfl (by decide) (by decide) (by decide) ?_
                        refine r_aload_n fe_220_185 rfl ?_
                        refine mr_getf hh fe_220_186 lf_12_111 rfl ?_
                        refine r_bipush (v := 7) fe_220_189 (by decide) ?_
                        refine r_iload_n fe_220_191 rfl ?_
                        refine r_i2l (v := (Int32.toInt64 l1)) fe_220_192 rfl ?_
                        refine mr_last (k := 33) (n := 11) (j := 7) hh fe_220_193 rfl (by decide) rfl (by decide) (by decide) (by decide) ?_
                        refine r_aload_n fe_220_194 rfl ?_
                        refine mr_getf hh fe_220_195 lf_12_111 rfl ?_
                        refine r_bipush (v := 8) fe_220_198 (by decide) ?_
                        refine r_iload_n fe_220_200 rfl ?_
                        refine r_i2l (v := (Int32.toInt64 l2)) fe_220_201 rfl ?_
                        refine mr_last (k := 33) (n := 11) (j := 8) hh fe_220_202 rfl (by decide) rfl (by decide) (by decide) (by decide) ?_
                        refine r_aload_n fe_220_203 rfl ?_
                        refine mr_getf hh fe_220_204 lf_12_111 rfl ?_
                        refine r_bipush (v := 9) fe_220_207 (by decide) ?_
                        refine r_aload_n fe_220_209 rfl ?_
                        refine r_aload_n fe_220_210 rfl ?_
                        refine mr_getf hh fe_220_211 lf_12_37 rfl ?_
                        refine r_iload_n fe_220_214 rfl ?_
                        by_cases hg28 : ¬ (l1 < 0 ∨ 13 ≤ (l1).toNatClampNeg)
                        rotate_left
                        · rw [if_neg hg28] at hf; cases hf
                        rw [if_pos hg28] at hf
                        refine r_iald (j := (Int32.toNatClampNeg l1)) (v := (m_sL (m_sL (m_sL (m_sL (m_sL z25.2 33 4 (Int32.toInt64 z25.1)) 33 5 (Int32.toInt64 ((m_sL z25.2 33 4 (Int32.toInt64 z25.1)).2.1 10 (Int32.toNatClampNeg l1)))) 33 6 (Int32.toInt64 ((m_sL (m_sL z25.2 33 4 (Int32.toInt64 z25.1)) 33 5 (Int32.toInt64 ((m_sL z25.2 33 4 (Int32.toInt64 z25.1)).2.1 10 (Int32.toNatClampNeg l1)))).2.1 1 6))) 33 7 (Int32.toInt64 l1)) 33 8 (Int32.toInt64 l2)).2.1 10 (Int32.toNatClampNeg l1)) fe_220_215 m_c_10 (m_lt hh (by decide)) (fun z => hg28 (Or.inl z)) rfl (fun z => hg28 (Or.inr z)) rfl ?_
                        refine r_callV (as := [.int ((m_sL (m_sL (m_sL (m_sL (m_sL z25.2 33 4 (Int32.toInt64 z25.1)) 33 5 (Int32.toInt64 ((m_sL z25.2 33 4 (Int32.toInt64 z25.1)).2.1 10 (Int32.toNatClampNeg l1)))) 33 6 (Int32.toInt64 ((m_sL (m_sL z25.2 33 4 (Int32.toInt64 z25.1)) 33 5 (Int32.toInt64 ((m_sL z25.2 33 4 (Int32.toInt64 z25.1)).2.1 10 (Int32.toNatClampNeg l1)))).2.1 1 6))) 33 7 (Int32.toInt64 l1)) 33 8 (Int32.toInt64 l2)).2.1 10 (Int32.toNatClampNeg l1))]) (r := [.int 9, .ref 163]) fe_220_216 lm_12_393 md_201 rfl rfl (Nat.le_of_ble_eq_true rfl) m_c_0 (m_lt hh (by decide)) (Nat.le_of_ble_eq_true rfl) (Nat.le_of_ble_eq_true rfl) ?_
                        cases hc30 : F201 n ((m_sL (m_sL (m_sL (m_sL (m_sL z25.2 33 4 (Int32.toInt64 z25.1)) 33 5 (Int32.toInt64 ((m_sL z25.2 33 4 (Int32.toInt64 z25.1)).2.1 10 (Int32.toNatClampNeg l1)))) 33 6 (Int32.toInt64 ((m_sL (m_sL z25.2 33 4 (Int32.toInt64 z25.1)) 33 5 (Int32.toInt64 ((m_sL z25.2 33 4 (Int32.toInt64 z25.1)).2.1 10 (Int32.toNatClampNeg l1)))).2.1 1 6))) 33 7 (Int32.toInt64 l1)) 33 8 (Int32.toInt64 l2)).2.1 10 (Int32.toNatClampNeg l1)) (m_sL (m_sL (m_sL (m_sL (m_sL z25.2 33 4 (Int32.toInt64 z25.1)) 33 5 (Int32.toInt64 ((m_sL z25.2 33 4 (Int32.toInt64 z25.1)).2.1 10 (Int32.toNatClampNeg l1)))) 33 6 (Int32.toInt64 ((m_sL (m_sL z25.2 33 4 (Int32.toInt64 z25.1)) 33 5 (Int32.toInt64 ((m_sL z25.2 33 4 (Int32.toInt64 z25.1)).2.1 10 (Int32.toNatClampNeg l1)))).2.1 1 6))) 33 7 (Int32.toInt64 l1)) 33 8 (Int32.toInt64 l2)) with
                        | none => rw [hc30] at hf; cases hf
                        | some z29 =>
                          rw [hc30, Option.bind_some] at hf
                          refine F201c (r0 := z29.1) (S0 := z29.2) hh hc30 ?_
                          refine r_callS (as := [.int z29.1]) (r := [.int 9, .ref 163]) fe_220_219 lm_12_415 md_223 rfl rfl (Nat.le_of_ble_eq_true rfl) (Nat.le_of_ble_eq_true rfl) (Nat.le_of_ble_eq_true rfl) ?_
                          cases hc32 : F223 n z29.1 z29.2 with
                          | none => rw [hc32] at hf; cases hf
                          | some z31 =>
                            rw [hc32, Option.bind_some] at hf
                            refine F223c (r0 := z31.1) (S0 := z31.2) hh hc32 ?_
                            refine r_i2l (v := (Int32.toInt64 z31.1)) fe_220_222 rfl ?_
                            refine mr_last (k := 33) (n := 11) (j := 9) hh fe_220_223 rfl (by decide) rfl (by decide) (by decide) (by decide) ?_
                            refine r_aload_n fe_220_224 rfl ?_
                            refine mr_getf hh fe_220_225 lf_12_111 rfl ?_
                            refine r_bipush (v := 10) fe_220_228 (by decide) ?_
                            refine r_aload_n fe_220_230 rfl ?_
                            refine mr_getf hh fe_220_231 lf_12_43 rfl ?_
                            refine r_iload_n fe_220_234 rfl ?_
                            by_cases hg33 : ¬ (l1 < 0 ∨ 13 ≤ (l1).toNatClampNeg)
                            rotate_left
                            · rw [if_neg hg33] at hf; cases hf
                            rw [if_pos hg33] at hf
                            refine r_iald (j := (Int32.toNatClampNeg l1)) (v := (m_sL z31.2 33 9 (Int32.toInt64 z31.1)).2.1 12 (Int32.toNatClampNeg l1)) fe_220_235 m_c_12 (m_lt hh (by decide)) (fun z => hg33 (Or.inl z)) rfl (fun z => hg33 (Or.inr z)) rfl ?_
                            refine r_i2l (v := (Int32.toInt64 ((m_sL z31.2 33 9 (Int32.toInt64 z31.1)).2.1 12 (Int32.toNatClampNeg l1)))) fe_220_236 rfl ?_
                            refine mr_last (k := 33) (n := 11) (j := 10) hh fe_220_237 rfl (by decide) rfl (by decide) (by decide) (by decide) ?_
                            refine r_aload_n fe_220_238 rfl ?_
                            refine r_callV (as := []) (r := []) fe_220_239 lm_12_418 md_224 rfl rfl (Nat.le_of_ble_eq_true rfl) m_c_0 (m_lt hh (by decide)) (Nat.le_of_ble_eq_true rfl) (Nat.le_of_ble_eq_true rfl) ?_
                            cases hc35 : F224 n  (m_sL (m_sL z31.2 33 9 (Int32.toInt64 z31.1)) 33 10 (Int32.toInt64 ((m_sL z31.2 33 9 (Int32.toInt64 z31.1)).2.1 12 (Int32.toNatClampNeg l1)))) with
                            | none => rw [hc35] at hf; cases hf
                            | some z34 =>
                              rw [hc35, Option.bind_some] at hf
                              refine F224c (r0 := z34.1) (S0 := z34.2) hh hc35 ?_
                              by_cases hz36 : narrow .boolean (.int z34.1) = .int z34.1
                              rotate_left
                              · rw [if_neg hz36] at hf; cases hf
                              rw [if_pos hz36] at hf
                              refine r_iret fe_220_242 ⟨hz36, by decide⟩ ?_
                              exact dfin (P := fun r T => Q (some (.int r)) (mst T h)) hf hQ
          · rw [if_neg hb8] at hf
            refine r_ic_f (t := 64) fe_220_34 (by decide) (Bool.eq_false_iff.mpr hb8) ?_
            refine r_aload_n fe_220_37 rfl ?_
            refine mr_getf hh fe_220_38 lf_12_40 rfl ?_
            refine r_iload_n fe_220_41 rfl ?_
            by_cases hg37 : ¬ (l1 < 0 ∨ 13 ≤ (l1).toNatClampNeg)
            rotate_left
            · rw [if_neg hg37] at hf; cases hf
            rw [if_pos hg37] at hf
            refine r_iald (j := (Int32.toNatClampNeg l1)) (v := z5.2.2.1 11 (Int32.toNatClampNeg l1)) fe_220_42 m_c_11 (m_lt hh (by decide)) (fun z => hg37 (Or.inl z)) rfl (fun z => hg37 (Or.inr z)) rfl ?_
            refine r_bipush (v := 10) fe_220_43 (by decide) ?_
            refine r_irem (v := ((z5.2.2.1 11 (Int32.toNatClampNeg l1)) - (z5.2.2.1 11 (Int32.toNatClampNeg l1)) / 10 * 10)) fe_220_45 (by decide) rfl ?_
            refine r_aload_n fe_220_46 rfl ?_
            refine mr_getf hh fe_220_47 lf_12_40 rfl ?_
            refine r_iload_n fe_220_50 rfl ?_
            by_cases hg38 : ¬ (l2 < 0 ∨ 13 ≤ (l2).toNatClampNeg)
            rotate_left
            · rw [if_neg hg38] at hf; cases hf
            rw [if_pos hg38] at hf
            refine r_iald (j := (Int32.toNatClampNeg l2)) (v := z5.2.2.1 11 (Int32.toNatClampNeg l2)) fe_220_51 m_c_11 (m_lt hh (by decide)) (fun z => hg38 (Or.inl z)) rfl (fun z => hg38 (Or.inr z)) rfl ?_
            refine r_callS (as := [.int (z5.2.2.1 11 (Int32.toNatClampNeg l2))]) (r := [.int ((z5.2.2.1 11 (Int32.toNatClampNeg l1)) - (z5.2.2.1 11 (Int32.toNatClampNeg l1)) / 10 * 10)]) fe_220_52 lm_12_409 md_221 rfl rfl (Nat.le_of_ble_eq_true rfl) (Nat.le_of_ble_eq_true rfl) (Nat.le_of_ble_eq_true rfl) ?_
            cases hc40 : F221 n (z5.2.2.1 11 (Int32.toNatClampNeg l2)) z5.2 with
            | none => rw [hc40] at hf; cases hf
            | some z39 =>
              rw [hc40, Option.bind_some] at hf
              refine F221c (r0 := z39.1) (S0 := z39.2) hh hc40 ?_
              by_cases hb41 : am_ic .ne ((z5.2.2.1 11 (Int32.toNatClampNeg l1)) - (z5.2.2.1 11 (Int32.toNatClampNeg l1)) / 10 * 10) z39.1 = true
              · rw [if_pos hb41] at hf
                refine r_ic_t (t := 62) fe_220_55 (by decide) hb41 ?_
                refine r_iconst (v := 0) fe_220_62 (by decide) ?_
                refine r_iret fe_220_63 ⟨rfl, by decide⟩ ?_
                exact dfin (P := fun r T => Q (some (.int r)) (mst T h)) hf hQ
              · rw [if_neg hb41] at hf
                refine r_ic_f (t := 62) fe_220_55 (by decide) (Bool.eq_false_iff.mpr hb41) ?_
                refine r_iconst (v := 1) fe_220_58 (by decide) ?_
                refine r_goto (t := 63) fe_220_59 (by decide) ?_
                refine r_iret fe_220_63 ⟨rfl, by decide⟩ ?_
                exact dfin (P := fun r T => Q (some (.int r)) (mst T h)) hf hQ
        · rw [if_neg hb7] at hf
          refine r_ic_f (t := 26) fe_220_21 (by decide) (Bool.eq_false_iff.mpr hb7) ?_
          refine r_iconst (v := 0) fe_220_24 (by decide) ?_
          refine r_iret fe_220_25 ⟨rfl, by decide⟩ ?_
          exact dfin (P := fun r T => Q (some (.int r)) (mst T h)) hf hQ
theorem F220c {xs : Nat → Int32} {L9 d n : Nat} {h : AmH} {Q : Option Value → AmH → Prop} {r0 : Int32} {S0 S : mS} {l1 : Int32} {l2 : Int32} (hh : 172 ≤ h.2.1) (hf : F220 n l1 l2 S = some (r0, S0)) (hQ : Q (some (.int r0)) (mst S0 h)) : Ca (am_X xs L9) (d + 4) 220 [.ref 130, .int l1, .int l2] (mst S h) Q := (F220l hh hQ n) l1 l2 S hf
