theorem dfin {α β : Type} {P : α → β → Prop} {a a0 : α} {b b0 : β} (hf : some (a, b) = some (a0, b0)) (hQ : P a0 b0) : P a b := by cases hf; exact hQ
def F155b0 (F : Nat → Int32 → Int32 → mS → Option (Unit × mS)) (n : Nat) (l1 : Int32) (l2 : Int32) (S : mS) : Option (Unit × mS) := F 3 l1 24 S
def F155b3 (F : Nat → Int32 → Int32 → mS → Option (Unit × mS)) (n : Nat) (l1 : Int32) (l2 : Int32) (S : mS) : Option (Unit × mS) := (if am_if .lt l2 = true then some ((), S) else (if ¬ ((S.1 26) < 0 ∨ 400 ≤ ((S.1 26)).toNatClampNeg) then F 3 l1 (l2 + (-8)) (m_sI (m_sA S 26 (Int32.toNatClampNeg (S.1 26)) (vp_nar .byte ((Int32.toInt8 (l1 >>> (l2 &&& 31))).toInt32))) 26 (((m_sA S 26 (Int32.toNatClampNeg (S.1 26)) (vp_nar .byte ((Int32.toInt8 (l1 >>> (l2 &&& 31))).toInt32))).1 26) + 1)) else none))
def F155f : Nat → Nat → Int32 → Int32 → mS → Option (Unit × mS)
  | 0, _, _, _, _ => none
  | n + 1, c, l1, l2, S => if c = 0 then F155b0 (F155f n) n l1 l2 S else F155b3 (F155f n) n l1 l2 S
theorem F155e0 (n : Nat) (l1 : Int32) (l2 : Int32) (S : mS) : F155f (n + 1) 0 l1 l2 S = F155b0 (F155f n) n l1 l2 S := if_pos rfl
theorem F155e3 (n : Nat) (l1 : Int32) (l2 : Int32) (S : mS) : F155f (n + 1) 3 l1 l2 S = F155b3 (F155f n) n l1 l2 S := if_neg (by decide)
def F155 (n : Nat) (l1 : Int32) (S : mS) : Option (Unit × mS) := F155f n 0 l1 0 S
set_option maxRecDepth 20000 in
set_option maxHeartbeats 2000000 in
theorem F155l {xs : Nat → Int32} {L9 d : Nat} {h : AmH} {Q : Option Value → AmH → Prop} {r0 : Unit} {S0 : mS} (hh : 172 ≤ h.2.1) (hQ : Q none (mst S0 h)) : ∀ n : Nat, (∀ (l1 : Int32) (l2 : Int32) (S : mS), F155f n 0 l1 l2 S = some (r0, S0) → Go (am_X xs L9) (d + 0) 155 0 [.ref 130, .int l1, .float 0] [] (mst S h) Q) ∧ (∀ (l1 : Int32) (l2 : Int32) (S : mS), F155f n 3 l1 l2 S = some (r0, S0) → Go (am_X xs L9) (d + 0) 155 3 [.ref 130, .int l1, .int l2] [] (mst S h) Q) := by
  intro n
  induction n with
  | zero => exact ⟨fun l1 l2 S hf => (by cases hf), fun l1 l2 S hf => (by cases hf)⟩
  | succ n ih =>
    refine ⟨?_, ?_⟩
    · intro l1 l2 S hf
      rw [F155e0] at hf
      unfold F155b0 at hf
      refine r_bipush (v := 24) fe_155_0 (by decide) ?_
      refine r_istore_n fe_155_2 (Nat.le_of_ble_eq_true rfl) rfl ?_
      refine go_weak (L0 := [.ref 130, .int l1, .int 24]) (lwk_c (Or.inl rfl) (lwk_c (Or.inl rfl) (lwk_c (Or.inl rfl) (lwk_rf [])))) ?_
      exact ih.2 l1 24 S hf
    · intro l1 l2 S hf
      rw [F155e3] at hf
      unfold F155b3 at hf
      refine r_iload_n fe_155_3 rfl ?_
      by_cases hb1 : am_if .lt l2 = true
      · rw [if_pos hb1] at hf
        refine r_if_t (t := 36) fe_155_4 (by decide) hb1 ?_
        refine r_vret fe_155_36 ?_
        exact dfin (P := fun _ T => Q none (mst T h)) hf hQ
      · rw [if_neg hb1] at hf
        refine r_if_f (t := 36) fe_155_4 (by decide) (Bool.eq_false_iff.mpr hb1) ?_
        refine r_aload_n fe_155_7 rfl ?_
        refine mr_getf hh fe_155_8 lf_12_89 rfl ?_
        refine r_aload_n fe_155_11 rfl ?_
        refine mr_getf hh fe_155_12 lf_12_157 rfl ?_
        refine r_iload_n fe_155_15 rfl ?_
        refine r_iload_n fe_155_16 rfl ?_
        refine r_ishr (v := (l1 >>> (l2 &&& 31))) fe_155_17 rfl ?_
        refine r_i2b (v := (Int32.toInt8 (l1 >>> (l2 &&& 31))).toInt32) fe_155_18 rfl ?_
        by_cases hg2 : ¬ ((S.1 26) < 0 ∨ 400 ≤ ((S.1 26)).toNatClampNeg)
        rotate_left
        · rw [if_neg hg2] at hf; cases hf
        rw [if_pos hg2] at hf
        refine mr_bast (j := (Int32.toNatClampNeg (S.1 26))) hh fe_155_19 (fun z => hg2 (Or.inl z)) rfl (fun z => hg2 (Or.inr z)) ?_
        refine r_aload_n fe_155_20 rfl ?_
        refine r_dup fe_155_21 rfl ?_
        refine mr_getf hh fe_155_22 lf_12_157 rfl ?_
        refine r_iconst (v := 1) fe_155_25 (by decide) ?_
        refine r_iadd (v := (((m_sA S 26 (Int32.toNatClampNeg (S.1 26)) (vp_nar .byte ((Int32.toInt8 (l1 >>> (l2 &&& 31))).toInt32))).1 26) + 1)) fe_155_26 rfl ?_
        refine mr_putf hh fe_155_27 lf_12_157 (m_f_26 _ _) (by decide) rfl rfl rfl ?_
        refine r_iinc (v := (l2 + (-8))) fe_155_30 rfl rfl rfl ?_
        refine r_goto (t := 3) fe_155_33 (by decide) ?_
        refine go_weak (L0 := [.ref 130, .int l1, .int (l2 + (-8))]) (lwk_c (Or.inl rfl) (lwk_c (Or.inl rfl) (lwk_c (Or.inl rfl) (lwk_rf [])))) ?_
        exact ih.2 l1 (l2 + (-8)) (m_sI (m_sA S 26 (Int32.toNatClampNeg (S.1 26)) (vp_nar .byte ((Int32.toInt8 (l1 >>> (l2 &&& 31))).toInt32))) 26 (((m_sA S 26 (Int32.toNatClampNeg (S.1 26)) (vp_nar .byte ((Int32.toInt8 (l1 >>> (l2 &&& 31))).toInt32))).1 26) + 1)) hf
theorem F155c {xs : Nat → Int32} {L9 d n : Nat} {h : AmH} {Q : Option Value → AmH → Prop} {r0 : Unit} {S0 S : mS} {l1 : Int32} (hh : 172 ≤ h.2.1) (hf : F155 n l1 S = some (r0, S0)) (hQ : Q none (mst S0 h)) : Ca (am_X xs L9) (d + 0) 155 [.ref 130, .int l1] (mst S h) Q := (F155l hh hQ n).1 l1 0 S hf
def F154b0 (F : Nat → Int32 → Int32 → Int32 → Int32 → Int32 → mS → Option (Int32 × mS)) (n : Nat) (l1 : Int32) (l2 : Int32) (l3 : Int32) (l4 : Int32) (l5 : Int32) (S : mS) : Option (Int32 × mS) := (if am_ic .le ((S.1 26) + 20) 400 = true then ((F155 n l1 S).bind (fun z2 => ((F155 n l2 z2.2).bind (fun z4 => ((F155 n l3 z4.2).bind (fun z6 => ((F155 n l4 z6.2).bind (fun z8 => ((F155 n l5 z8.2).bind (fun z10 => some ((z10.2.1 26), z10.2))))))))))) else some ((-1), S))
def F154f : Nat → Nat → Int32 → Int32 → Int32 → Int32 → Int32 → mS → Option (Int32 × mS)
  | 0, _, _, _, _, _, _, _ => none
  | n + 1, c, l1, l2, l3, l4, l5, S => F154b0 (F154f n) n l1 l2 l3 l4 l5 S
theorem F154e0 (n : Nat) (l1 : Int32) (l2 : Int32) (l3 : Int32) (l4 : Int32) (l5 : Int32) (S : mS) : F154f (n + 1) 0 l1 l2 l3 l4 l5 S = F154b0 (F154f n) n l1 l2 l3 l4 l5 S := rfl
def F154 (n : Nat) (l1 : Int32) (l2 : Int32) (l3 : Int32) (l4 : Int32) (l5 : Int32) (S : mS) : Option (Int32 × mS) := F154f n 0 l1 l2 l3 l4 l5 S
set_option maxRecDepth 20000 in
set_option maxHeartbeats 2000000 in
theorem F154l {xs : Nat → Int32} {L9 d : Nat} {h : AmH} {Q : Option Value → AmH → Prop} {r0 : Int32} {S0 : mS} (hh : 172 ≤ h.2.1) (hQ : Q (some (.int r0)) (mst S0 h)) : ∀ n : Nat, (∀ (l1 : Int32) (l2 : Int32) (l3 : Int32) (l4 : Int32) (l5 : Int32) (S : mS), F154f n 0 l1 l2 l3 l4 l5 S = some (r0, S0) → Go (am_X xs L9) (d + 1) 154 0 [.ref 130, .int l1, .int l2, .int l3, .int l4, .int l5] [] (mst S h) Q) := by
  intro n
  induction n with
  | zero => exact fun l1 l2 l3 l4 l5 S hf => (by cases hf)
  | succ n ih =>
    intro l1 l2 l3 l4 l5 S hf
    rw [F154e0] at hf
    unfold F154b0 at hf
    refine r_aload_n fe_154_0 rfl ?_
    refine mr_getf hh fe_154_1 lf_12_157 rfl ?_
    refine r_bipush (v := 20) fe_154_4 (by decide) ?_
    refine r_iadd (v := ((S.1 26) + 20)) fe_154_6 rfl ?_
    refine r_sipush (v := 400) fe_154_7 (by decide) ?_
    by_cases hb1 : am_ic .le ((S.1 26) + 20) 400 = true
    · rw [if_pos hb1] at hf
      refine r_ic_t (t := 15) fe_154_10 (by decide) hb1 ?_
      refine r_aload_n fe_154_15 rfl ?_
      refine r_iload_n fe_154_16 rfl ?_
      refine r_callV (as := [.int l1]) (r := []) fe_154_17 lm_12_160 md_155 rfl rfl (Nat.le_of_ble_eq_true rfl) m_c_0 (m_lt hh (by decide)) (Nat.le_of_ble_eq_true rfl) (Nat.le_of_ble_eq_true rfl) ?_
      cases hc3 : F155 n l1 S with
      | none => rw [hc3] at hf; cases hf
      | some z2 =>
        rw [hc3, Option.bind_some] at hf
        refine F155c (r0 := z2.1) (S0 := z2.2) hh hc3 ?_
        refine r_aload_n fe_154_20 rfl ?_
        refine r_iload_n fe_154_21 rfl ?_
        refine r_callV (as := [.int l2]) (r := []) fe_154_22 lm_12_160 md_155 rfl rfl (Nat.le_of_ble_eq_true rfl) m_c_0 (m_lt hh (by decide)) (Nat.le_of_ble_eq_true rfl) (Nat.le_of_ble_eq_true rfl) ?_
        cases hc5 : F155 n l2 z2.2 with
        | none => rw [hc5] at hf; cases hf
        | some z4 =>
          rw [hc5, Option.bind_some] at hf
          refine F155c (r0 := z4.1) (S0 := z4.2) hh hc5 ?_
          refine r_aload_n fe_154_25 rfl ?_
          refine r_iload_n fe_154_26 rfl ?_
          refine r_callV (as := [.int l3]) (r := []) fe_154_27 lm_12_160 md_155 rfl rfl (Nat.le_of_ble_eq_true rfl) m_c_0 (m_lt hh (by decide)) (Nat.le_of_ble_eq_true rfl) (Nat.le_of_ble_eq_true rfl) ?_
          cases hc7 : F155 n l3 z4.2 with
          | none => rw [hc7] at hf; cases hf
          | some z6 =>
            rw [hc7, Option.bind_some] at hf
            refine F155c (r0 := z6.1) (S0 := z6.2) hh hc7 ?_
            refine r_aload_n fe_154_30 rfl ?_
            refine r_iload fe_154_31 rfl ?_
            refine r_callV (as := [.int l4]) (r := []) fe_154_33 lm_12_160 md_155 rfl rfl (Nat.le_of_ble_eq_true rfl) m_c_0 (m_lt hh (by decide)) (Nat.le_of_ble_eq_true rfl) (Nat.le_of_ble_eq_true rfl) ?_
            cases hc9 : F155 n l4 z6.2 with
            | none => rw [hc9] at hf; cases hf
            | some z8 =>
              rw [hc9, Option.bind_some] at hf
              refine F155c (r0 := z8.1) (S0 := z8.2) hh hc9 ?_
              refine r_aload_n fe_154_36 rfl ?_
              refine r_iload fe_154_37 rfl ?_
              refine r_callV (as := [.int l5]) (r := []) fe_154_39 lm_12_160 md_155 rfl rfl (Nat.le_of_ble_eq_true rfl) m_c_0 (m_lt hh (by decide)) (Nat.le_of_ble_eq_true rfl) (Nat.le_of_ble_eq_true rfl) ?_
              cases hc11 : F155 n l5 z8.2 with
              | none => rw [hc11] at hf; cases hf
              | some z10 =>
                rw [hc11, Option.bind_some] at hf
                refine F155c (r0 := z10.1) (S0 := z10.2) hh hc11 ?_
                refine r_aload_n fe_154_42 rfl ?_
                refine mr_getf hh fe_154_43 lf_12_157 rfl ?_
                refine r_iret fe_154_46 ⟨rfl, by decide⟩ ?_
                exact dfin (P := fun r T => Q (some (.int r)) (mst T h)) hf hQ
    · rw [if_neg hb1] at hf
      refine r_ic_f (t := 15) fe_154_10 (by decide) (Bool.eq_false_iff.mpr hb1) ?_
      refine r_iconst (v := -1) fe_154_13 (by decide) ?_
      refine r_iret fe_154_14 ⟨rfl, by decide⟩ ?_
      exact dfin (P := fun r T => Q (some (.int r)) (mst T h)) hf hQ
theorem F154c {xs : Nat → Int32} {L9 d n : Nat} {h : AmH} {Q : Option Value → AmH → Prop} {r0 : Int32} {S0 S : mS} {l1 : Int32} {l2 : Int32} {l3 : Int32} {l4 : Int32} {l5 : Int32} (hh : 172 ≤ h.2.1) (hf : F154 n l1 l2 l3 l4 l5 S = some (r0, S0)) (hQ : Q (some (.int r0)) (mst S0 h)) : Ca (am_X xs L9) (d + 1) 154 [.ref 130, .int l1, .int l2, .int l3, .int l4, .int l5] (mst S h) Q := (F154l hh hQ n) l1 l2 l3 l4 l5 S hf
def F156b0 (F : Nat → Int32 → mS → Option (Int32 × mS)) (n : Nat) (l1 : Int32) (S : mS) : Option (Int32 × mS) := (if am_if .lt l1 = true then some ((-1), S) else (if am_ic .le l1 (S.1 26) = true then some (l1, (m_sI S 26 l1)) else some ((-1), S)))
def F156f : Nat → Nat → Int32 → mS → Option (Int32 × mS)
  | 0, _, _, _ => none
  | n + 1, c, l1, S => F156b0 (F156f n) n l1 S
theorem F156e0 (n : Nat) (l1 : Int32) (S : mS) : F156f (n + 1) 0 l1 S = F156b0 (F156f n) n l1 S := rfl
def F156 (n : Nat) (l1 : Int32) (S : mS) : Option (Int32 × mS) := F156f n 0 l1 S
set_option maxRecDepth 20000 in
set_option maxHeartbeats 2000000 in
theorem F156l {xs : Nat → Int32} {L9 d : Nat} {h : AmH} {Q : Option Value → AmH → Prop} {r0 : Int32} {S0 : mS} (hh : 172 ≤ h.2.1) (hQ : Q (some (.int r0)) (mst S0 h)) : ∀ n : Nat, (∀ (l1 : Int32) (S : mS), F156f n 0 l1 S = some (r0, S0) → Go (am_X xs L9) (d + 0) 156 0 [.ref 130, .int l1] [] (mst S h) Q) := by
  intro n
  induction n with
  | zero => exact fun l1 S hf => (by cases hf)
  | succ n ih =>
    intro l1 S hf
    rw [F156e0] at hf
    unfold F156b0 at hf
    refine r_iload_n fe_156_0 rfl ?_
    by_cases hb1 : am_if .lt l1 = true
    · rw [if_pos hb1] at hf
      refine r_if_t (t := 12) fe_156_1 (by decide) hb1 ?_
      refine r_iconst (v := -1) fe_156_12 (by decide) ?_
      refine r_iret fe_156_13 ⟨rfl, by decide⟩ ?_
      exact dfin (P := fun r T => Q (some (.int r)) (mst T h)) hf hQ
    · rw [if_neg hb1] at hf
      refine r_if_f (t := 12) fe_156_1 (by decide) (Bool.eq_false_iff.mpr hb1) ?_
      refine r_iload_n fe_156_4 rfl ?_
      refine r_aload_n fe_156_5 rfl ?_
      refine mr_getf hh fe_156_6 lf_12_157 rfl ?_
      by_cases hb2 : am_ic .le l1 (S.1 26) = true
      · rw [if_pos hb2] at hf
        refine r_ic_t (t := 14) fe_156_9 (by decide) hb2 ?_
        refine r_aload_n fe_156_14 rfl ?_
        refine r_iload_n fe_156_15 rfl ?_
        refine mr_putf hh fe_156_16 lf_12_157 (m_f_26 _ _) (by decide) rfl rfl rfl ?_
        refine r_iload_n fe_156_19 rfl ?_
        refine r_iret fe_156_20 ⟨rfl, by decide⟩ ?_
        exact dfin (P := fun r T => Q (some (.int r)) (mst T h)) hf hQ
      · rw [if_neg hb2] at hf
        refine r_ic_f (t := 14) fe_156_9 (by decide) (Bool.eq_false_iff.mpr hb2) ?_
        refine r_iconst (v := -1) fe_156_12 (by decide) ?_
        refine r_iret fe_156_13 ⟨rfl, by decide⟩ ?_
        exact dfin (P := fun r T => Q (some (.int r)) (mst T h)) hf hQ
theorem F156c {xs : Nat → Int32} {L9 d n : Nat} {h : AmH} {Q : Option Value → AmH → Prop} {r0 : Int32} {S0 S : mS} {l1 : Int32} (hh : 172 ≤ h.2.1) (hf : F156 n l1 S = some (r0, S0)) (hQ : Q (some (.int r0)) (mst S0 h)) : Ca (am_X xs L9) (d + 0) 156 [.ref 130, .int l1] (mst S h) Q := (F156l hh hQ n) l1 S hf
def F159b0 (F : Nat → mS → Option (Unit × mS)) (n : Nat)  (S : mS) : Option (Unit × mS) := some ((), (m_sI (m_sI (m_sI (m_sI (m_sI S 27 0) 28 0) 31 0) 32 0) 33 0))
def F159f : Nat → Nat → mS → Option (Unit × mS)
  | 0, _, _ => none
  | n + 1, c, S => F159b0 (F159f n) n  S
theorem F159e0 (n : Nat)  (S : mS) : F159f (n + 1) 0  S = F159b0 (F159f n) n  S := rfl
def F159 (n : Nat)  (S : mS) : Option (Unit × mS) := F159f n 0  S
set_option maxRecDepth 20000 in
set_option maxHeartbeats 2000000 in
theorem F159l {xs : Nat → Int32} {L9 d : Nat} {h : AmH} {Q : Option Value → AmH → Prop} {r0 : Unit} {S0 : mS} (hh : 172 ≤ h.2.1) (hQ : Q none (mst S0 h)) : ∀ n : Nat, (∀ (S : mS), F159f n 0 S = some (r0, S0) → Go (am_X xs L9) (d + 0) 159 0 [.ref 130] [] (mst S h) Q) := by
  intro n
  induction n with
  | zero => exact fun  S hf => (by cases hf)
  | succ n ih =>
    intro  S hf
    rw [F159e0] at hf
    unfold F159b0 at hf
    refine r_aload_n fe_159_0 rfl ?_
    refine r_iconst (v := 0) fe_159_1 (by decide) ?_
    refine mr_putf hh fe_159_2 lf_12_188 (m_f_27 _ _) (by decide) rfl rfl rfl ?_
    refine r_aload_n fe_159_5 rfl ?_
    refine r_iconst (v := 0) fe_159_6 (by decide) ?_
    refine mr_putf hh fe_159_7 lf_12_185 (m_f_28 _ _) (by decide) rfl rfl rfl ?_
    refine r_aload_n fe_159_10 rfl ?_
    refine r_iconst (v := 0) fe_159_11 (by decide) ?_
    refine mr_putf hh fe_159_12 lf_12_218 (m_f_31 _ _) (by decide) rfl rfl rfl ?_
    refine r_aload_n fe_159_15 rfl ?_
    refine r_iconst (v := 0) fe_159_16 (by decide) ?_
    refine mr_putf hh fe_159_17 lf_12_258 (m_f_32 _ _) (by decide) rfl rfl rfl ?_
    refine r_aload_n fe_159_20 rfl ?_
    refine r_iconst (v := 0) fe_159_21 (by decide) ?_
    refine mr_putf hh fe_159_22 lf_12_221 (m_f_33 _ _) (by decide) rfl rfl rfl ?_
    refine r_vret fe_159_25 ?_
    exact dfin (P := fun _ T => Q none (mst T h)) hf hQ
theorem F159c {xs : Nat → Int32} {L9 d n : Nat} {h : AmH} {Q : Option Value → AmH → Prop} {r0 : Unit} {S0 S : mS}  (hh : 172 ≤ h.2.1) (hf : F159 n  S = some (r0, S0)) (hQ : Q none (mst S0 h)) : Ca (am_X xs L9) (d + 0) 159 [.ref 130] (mst S h) Q := (F159l hh hQ n)  S hf
def F162b0 (F : Nat → mS → Option (Int32 × mS)) (n : Nat)  (S : mS) : Option (Int32 × mS) := (if am_ic .ge (S.1 27) (S.1 26) = true then some ((-1), S) else (if ¬ ((S.1 27) < 0 ∨ 400 ≤ ((S.1 27)).toNatClampNeg) then some (((S.2.1 26 (Int32.toNatClampNeg (S.1 27))) &&& 255), S) else none))
def F162f : Nat → Nat → mS → Option (Int32 × mS)
  | 0, _, _ => none
  | n + 1, c, S => F162b0 (F162f n) n  S
theorem F162e0 (n : Nat)  (S : mS) : F162f (n + 1) 0  S = F162b0 (F162f n) n  S := rfl
def F162 (n : Nat)  (S : mS) : Option (Int32 × mS) := F162f n 0  S
set_option maxRecDepth 20000 in
set_option maxHeartbeats 2000000 in
theorem F162l {xs : Nat → Int32} {L9 d : Nat} {h : AmH} {Q : Option Value → AmH → Prop} {r0 : Int32} {S0 : mS} (hh : 172 ≤ h.2.1) (hQ : Q (some (.int r0)) (mst S0 h)) : ∀ n : Nat, (∀ (S : mS), F162f n 0 S = some (r0, S0) → Go (am_X xs L9) (d + 0) 162 0 [.ref 130] [] (mst S h) Q) := by
  intro n
  induction n with
  | zero => exact fun  S hf => (by cases hf)
  | succ n ih =>
    intro  S hf
    rw [F162e0] at hf
    unfold F162b0 at hf
    refine r_aload_n fe_162_0 rfl ?_
    refine mr_getf hh fe_162_1 lf_12_188 rfl ?_
    refine r_aload_n fe_162_4 rfl ?_
    refine mr_getf hh fe_162_5 lf_12_157 rfl ?_
    by_cases hb1 : am_ic .ge (S.1 27) (S.1 26) = true
    · rw [if_pos hb1] at hf
      refine r_ic_t (t := 27) fe_162_8 (by decide) hb1 ?_
      refine r_iconst (v := -1) fe_162_27 (by decide) ?_
      refine r_iret fe_162_28 ⟨rfl, by decide⟩ ?_
      exact dfin (P := fun r T => Q (some (.int r)) (mst T h)) hf hQ
    · rw [if_neg hb1] at hf
      refine r_ic_f (t := 27) fe_162_8 (by decide) (Bool.eq_false_iff.mpr hb1) ?_
      refine r_aload_n fe_162_11 rfl ?_
      refine mr_getf hh fe_162_12 lf_12_89 rfl ?_
      refine r_aload_n fe_162_15 rfl ?_
      refine mr_getf hh fe_162_16 lf_12_188 rfl ?_
      by_cases hg2 : ¬ ((S.1 27) < 0 ∨ 400 ≤ ((S.1 27)).toNatClampNeg)
      rotate_left
      · rw [if_neg hg2] at hf; cases hf
      rw [if_pos hg2] at hf
      refine r_bald (j := (Int32.toNatClampNeg (S.1 27))) (v := S.2.1 26 (Int32.toNatClampNeg (S.1 27))) fe_162_19 m_c_26 (m_lt hh (by decide)) (fun z => hg2 (Or.inl z)) rfl (fun z => hg2 (Or.inr z)) rfl ?_
      refine r_sipush (v := 255) fe_162_20 (by decide) ?_
      refine r_iand (v := ((S.2.1 26 (Int32.toNatClampNeg (S.1 27))) &&& 255)) fe_162_23 rfl ?_
      refine r_goto (t := 28) fe_162_24 (by decide) ?_
      refine r_iret fe_162_28 ⟨rfl, by decide⟩ ?_
      exact dfin (P := fun r T => Q (some (.int r)) (mst T h)) hf hQ
theorem F162c {xs : Nat → Int32} {L9 d n : Nat} {h : AmH} {Q : Option Value → AmH → Prop} {r0 : Int32} {S0 S : mS}  (hh : 172 ≤ h.2.1) (hf : F162 n  S = some (r0, S0)) (hQ : Q (some (.int r0)) (mst S0 h)) : Ca (am_X xs L9) (d + 0) 162 [.ref 130] (mst S h) Q := (F162l hh hQ n)  S hf
def F161b0 (F : Nat → mS → Option (Unit × mS)) (n : Nat)  (S : mS) : Option (Unit × mS) := ((F162 n  S).bind (fun z1 => (if am_ic .ne z1.1 32 = true then some ((), z1.2) else F 0 (m_sI z1.2 27 ((z1.2.1 27) + 1)))))
def F161f : Nat → Nat → mS → Option (Unit × mS)
  | 0, _, _ => none
  | n + 1, c, S => F161b0 (F161f n) n  S
theorem F161e0 (n : Nat)  (S : mS) : F161f (n + 1) 0  S = F161b0 (F161f n) n  S := rfl
def F161 (n : Nat)  (S : mS) : Option (Unit × mS) := F161f n 0  S
set_option maxRecDepth 20000 in
set_option maxHeartbeats 2000000 in
theorem F161l {xs : Nat → Int32} {L9 d : Nat} {h : AmH} {Q : Option Value → AmH → Prop} {r0 : Unit} {S0 : mS} (hh : 172 ≤ h.2.1) (hQ : Q none (mst S0 h)) : ∀ n : Nat, (∀ (S : mS), F161f n 0 S = some (r0, S0) → Go (am_X xs L9) (d + 1) 161 0 [.ref 130] [] (mst S h) Q) := by
  intro n
  induction n with
  | zero => exact fun  S hf => (by cases hf)
  | succ n ih =>
    intro  S hf
    rw [F161e0] at hf
    unfold F161b0 at hf
    refine r_aload_n fe_161_0 rfl ?_
    refine r_callV (as := []) (r := []) fe_161_1 lm_12_191 md_162 rfl rfl (Nat.le_of_ble_eq_true rfl) m_c_0 (m_lt hh (by decide)) (Nat.le_of_ble_eq_true rfl) (Nat.le_of_ble_eq_true rfl) ?_
    cases hc2 : F162 n  S with
    | none => rw [hc2] at hf; cases hf
    | some z1 =>
      rw [hc2, Option.bind_some] at hf
      refine F162c (r0 := z1.1) (S0 := z1.2) hh hc2 ?_
      refine r_bipush (v := 32) fe_161_4 (by decide) ?_
      by_cases hb3 : am_ic .ne z1.1 32 = true
      · rw [if_pos hb3] at hf
        refine r_ic_t (t := 22) fe_161_6 (by decide) hb3 ?_
        refine r_vret fe_161_22 ?_
        exact dfin (P := fun _ T => Q none (mst T h)) hf hQ
      · rw [if_neg hb3] at hf
        refine r_ic_f (t := 22) fe_161_6 (by decide) (Bool.eq_false_iff.mpr hb3) ?_
        refine r_aload_n fe_161_9 rfl ?_
        refine r_dup fe_161_10 rfl ?_
        refine mr_getf hh fe_161_11 lf_12_188 rfl ?_
        refine r_iconst (v := 1) fe_161_14 (by decide) ?_
        refine r_iadd (v := ((z1.2.1 27) + 1)) fe_161_15 rfl ?_
        refine mr_putf hh fe_161_16 lf_12_188 (m_f_27 _ _) (by decide) rfl rfl rfl ?_
        refine r_goto (t := 0) fe_161_19 (by decide) ?_
        refine go_weak (L0 := [.ref 130]) (lwk_c (Or.inl rfl) (lwk_rf [])) ?_
        exact ih  (m_sI z1.2 27 ((z1.2.1 27) + 1)) hf
theorem F161c {xs : Nat → Int32} {L9 d n : Nat} {h : AmH} {Q : Option Value → AmH → Prop} {r0 : Unit} {S0 S : mS}  (hh : 172 ≤ h.2.1) (hf : F161 n  S = some (r0, S0)) (hQ : Q none (mst S0 h)) : Ca (am_X xs L9) (d + 1) 161 [.ref 130] (mst S h) Q := (F161l hh hQ n)  S hf
def F166b0 (F : Nat → Int32 → Int32 → mS → Option (Int32 × mS)) (n : Nat) (l1 : Int32) (l2 : Int32) (S : mS) : Option (Int32 × mS) := (if am_ic .eq l2 40 = true then some (1, S) else (if am_if .ne l1 = true then (if am_if .ne l2 = true then (if ((l1).toInt < 4 ∨ 7 < (l1).toInt) then some (0, S) else (if l1 = 4 then (if am_ic .ne (S.2.1 16 1) 6 = true then some (0, S) else some (1, S)) else (if l1 = 5 then (if am_ic .ne (S.2.1 16 2) 4 = true then some (0, S) else some (1, S)) else (if l1 = 6 then (if am_ic .ne (S.2.1 16 3) 5 = true then some (0, S) else some (1, S)) else (if l1 = 7 then (if am_ic .ne (S.2.1 16 4) 10 = true then some (0, S) else some (1, S)) else none))))) else some (1, S)) else (if am_if .ne l2 = true then some (1, S) else (if ((l1).toInt < 4 ∨ 7 < (l1).toInt) then some (0, S) else (if l1 = 4 then (if am_ic .ne (S.2.1 16 1) 6 = true then some (0, S) else some (1, S)) else (if l1 = 5 then (if am_ic .ne (S.2.1 16 2) 4 = true then some (0, S) else some (1, S)) else (if l1 = 6 then (if am_ic .ne (S.2.1 16 3) 5 = true then some (0, S) else some (1, S)) else (if l1 = 7 then (if am_ic .ne (S.2.1 16 4) 10 = true then some (0, S) else some (1, S)) else none))))))))
def F166f : Nat → Nat → Int32 → Int32 → mS → Option (Int32 × mS)
  | 0, _, _, _, _ => none
  | n + 1, c, l1, l2, S => F166b0 (F166f n) n l1 l2 S
theorem F166e0 (n : Nat) (l1 : Int32) (l2 : Int32) (S : mS) : F166f (n + 1) 0 l1 l2 S = F166b0 (F166f n) n l1 l2 S := rfl
def F166 (n : Nat) (l1 : Int32) (l2 : Int32) (S : mS) : Option (Int32 × mS) := F166f n 0 l1 l2 S
set_option maxRecDepth 20000 in
set_option maxHeartbeats 2000000 in
theorem F166l {xs : Nat → Int32} {L9 d : Nat} {h : AmH} {Q : Option Value → AmH → Prop} {r0 : Int32} {S0 : mS} (hh : 172 ≤ h.2.1) (hQ : Q (some (.int r0)) (mst S0 h)) : ∀ n : Nat, (∀ (l1 : Int32) (l2 : Int32) (S : mS), F166f n 0 l1 l2 S = some (r0, S0) → Go (am_X xs L9) (d + 0) 166 0 [.ref 130, .int l1, .int l2] [] (mst S h) Q) := by
  intro n
  induction n with
  | zero => exact fun l1 l2 S hf => (by cases hf)
  | succ n ih =>
    intro l1 l2 S hf
    rw [F166e0] at hf
    unfold F166b0 at hf
    refine r_iload_n fe_166_0 rfl ?_
    refine r_bipush (v := 40) fe_166_1 (by decide) ?_
    by_cases hb1 : am_ic .eq l2 40 = true
    · rw [if_pos hb1] at hf
      refine r_ic_t (t := 27) fe_166_3 (by decide) hb1 ?_
      refine r_iconst (v := 1) fe_166_27 (by decide) ?_
      refine r_iret fe_166_28 ⟨rfl, by decide⟩ ?_
      exact dfin (P := fun r T => Q (some (.int r)) (mst T h)) hf hQ
    · rw [if_neg hb1] at hf
      refine r_ic_f (t := 27) fe_166_3 (by decide) (Bool.eq_false_iff.mpr hb1) ?_
      refine r_iload_n fe_166_6 rfl ?_
      by_cases hb2 : am_if .ne l1 = true
      · rw [if_pos hb2] at hf
        refine r_if_t (t := 14) fe_166_7 (by decide) hb2 ?_
        refine r_iconst (v := 0) fe_166_14 (by decide) ?_
        refine r_iload_n fe_166_15 rfl ?_
        by_cases hb3 : am_if .ne l2 = true
        · rw [if_pos hb3] at hf
          refine r_if_t (t := 23) fe_166_16 (by decide) hb3 ?_
          refine r_iconst (v := 0) fe_166_23 (by decide) ?_
          refine r_ic_t (t := 29) fe_166_24 (by decide) (by decide) ?_
          refine r_iload_n fe_166_29 rfl ?_
          by_cases hs4 : ((l1).toInt < 4 ∨ 7 < (l1).toInt)
          · rw [if_pos hs4] at hf
            refine r_tabO (t := 126) fe_166_30 hs4 (by decide) ?_
            refine r_iconst (v := 0) fe_166_126 (by decide) ?_
            refine r_iret fe_166_127 ⟨rfl, by decide⟩ ?_
            exact dfin (P := fun r T => Q (some (.int r)) (mst T h)) hf hQ
          · rw [if_neg hs4] at hf
            by_cases hx5 : l1 = 4
            · rw [if_pos hx5] at hf
              refine r_tabI (off := 30) (t := 60) fe_166_30 hs4 (by rw [hx5]; decide) (by decide) ?_
              refine r_aload_n fe_166_60 rfl ?_
              refine mr_getf hh fe_166_61 lf_12_55 rfl ?_
              refine r_iconst (v := 1) fe_166_64 (by decide) ?_
              refine r_iald (j := 1) (v := S.2.1 16 1) fe_166_65 m_c_16 (m_lt hh (by decide)) (by decide) (by decide) (by decide) rfl ?_
              refine r_bipush (v := 6) fe_166_66 (by decide) ?_
              by_cases hb6 : am_ic .ne (S.2.1 16 1) 6 = true
              · rw [if_pos hb6] at hf
                refine r_ic_t (t := 75) fe_166_68 (by decide) hb6 ?_
                refine r_iconst (v := 0) fe_166_75 (by decide) ?_
                refine r_iret fe_166_76 ⟨rfl, by decide⟩ ?_
                exact dfin (P := fun r T => Q (some (.int r)) (mst T h)) hf hQ
              · rw [if_neg hb6] at hf
                refine r_ic_f (t := 75) fe_166_68 (by decide) (Bool.eq_false_iff.mpr hb6) ?_
                refine r_iconst (v := 1) fe_166_71 (by decide) ?_
                refine r_goto (t := 76) fe_166_72 (by decide) ?_
                refine r_iret fe_166_76 ⟨rfl, by decide⟩ ?_
                exact dfin (P := fun r T => Q (some (.int r)) (mst T h)) hf hQ
            · rw [if_neg hx5] at hf
              by_cases hx7 : l1 = 5
              · rw [if_pos hx7] at hf
                refine r_tabI (off := 47) (t := 77) fe_166_30 hs4 (by rw [hx7]; decide) (by decide) ?_
                refine r_aload_n fe_166_77 rfl ?_
                refine mr_getf hh fe_166_78 lf_12_55 rfl ?_
                refine r_iconst (v := 2) fe_166_81 (by decide) ?_
                refine r_iald (j := 2) (v := S.2.1 16 2) fe_166_82 m_c_16 (m_lt hh (by decide)) (by decide) (by decide) (by decide) rfl ?_
                refine r_iconst (v := 4) fe_166_83 (by decide) ?_
                by_cases hb8 : am_ic .ne (S.2.1 16 2) 4 = true
                · rw [if_pos hb8] at hf
                  refine r_ic_t (t := 91) fe_166_84 (by decide) hb8 ?_
                  refine r_iconst (v := 0) fe_166_91 (by decide) ?_
                  refine r_iret fe_166_92 ⟨rfl, by decide⟩ ?_
                  exact dfin (P := fun r T => Q (some (.int r)) (mst T h)) hf hQ
                · rw [if_neg hb8] at hf
                  refine r_ic_f (t := 91) fe_166_84 (by decide) (Bool.eq_false_iff.mpr hb8) ?_
                  refine r_iconst (v := 1) fe_166_87 (by decide) ?_
                  refine r_goto (t := 92) fe_166_88 (by decide) ?_
                  refine r_iret fe_166_92 ⟨rfl, by decide⟩ ?_
                  exact dfin (P := fun r T => Q (some (.int r)) (mst T h)) hf hQ
              · rw [if_neg hx7] at hf
                by_cases hx9 : l1 = 6
                · rw [if_pos hx9] at hf
                  refine r_tabI (off := 63) (t := 93) fe_166_30 hs4 (by rw [hx9]; decide) (by decide) ?_
                  refine r_aload_n fe_166_93 rfl ?_
                  refine mr_getf hh fe_166_94 lf_12_55 rfl ?_
                  refine r_iconst (v := 3) fe_166_97 (by decide) ?_
                  refine r_iald (j := 3) (v := S.2.1 16 3) fe_166_98 m_c_16 (m_lt hh (by decide)) (by decide) (by decide) (by decide) rfl ?_
                  refine r_iconst (v := 5) fe_166_99 (by decide) ?_
                  by_cases hb10 : am_ic .ne (S.2.1 16 3) 5 = true
                  · rw [if_pos hb10] at hf
                    refine r_ic_t (t := 107) fe_166_100 (by decide) hb10 ?_
                    refine r_iconst (v := 0) fe_166_107 (by decide) ?_
                    refine r_iret fe_166_108 ⟨rfl, by decide⟩ ?_
                    exact dfin (P := fun r T => Q (some (.int r)) (mst T h)) hf hQ
                  · rw [if_neg hb10] at hf
                    refine r_ic_f (t := 107) fe_166_100 (by decide) (Bool.eq_false_iff.mpr hb10) ?_
                    refine r_iconst (v := 1) fe_166_103 (by decide) ?_
                    refine r_goto (t := 108) fe_166_104 (by decide) ?_
                    refine r_iret fe_166_108 ⟨rfl, by decide⟩ ?_
                    exact dfin (P := fun r T => Q (some (.int r)) (mst T h)) hf hQ
                · rw [if_neg hx9] at hf
                  by_cases hx11 : l1 = 7
                  · rw [if_pos hx11] at hf
                    refine r_tabI (off := 79) (t := 109) fe_166_30 hs4 (by rw [hx11]; decide) (by decide) ?_
                    refine r_aload_n fe_166_109 rfl ?_
                    refine mr_getf hh fe_166_110 lf_12_55 rfl ?_
                    refine r_iconst (v := 4) fe_166_113 (by decide) ?_
                    refine r_iald (j := 4) (v := S.2.1 16 4) fe_166_114 m_c_16 (m_lt hh (by decide)) (by decide) (by decide) (by decide) rfl ?_
                    refine r_bipush (v := 10) fe_166_115 (by decide) ?_
                    by_cases hb12 : am_ic .ne (S.2.1 16 4) 10 = true
                    · rw [if_pos hb12] at hf
                      refine r_ic_t (t := 124) fe_166_117 (by decide) hb12 ?_
                      refine r_iconst (v := 0) fe_166_124 (by decide) ?_
                      refine r_iret fe_166_125 ⟨rfl, by decide⟩ ?_
                      exact dfin (P := fun r T => Q (some (.int r)) (mst T h)) hf hQ
                    · rw [if_neg hb12] at hf
                      refine r_ic_f (t := 124) fe_166_117 (by decide) (Bool.eq_false_iff.mpr hb12) ?_
                      refine r_iconst (v := 1) fe_166_120 (by decide) ?_
                      refine r_goto (t := 125) fe_166_121 (by decide) ?_
                      refine r_iret fe_166_125 ⟨rfl, by decide⟩ ?_
                      exact dfin (P := fun r T => Q (some (.int r)) (mst T h)) hf hQ
                  · rw [if_neg hx11] at hf
                    cases hf
        · rw [if_neg hb3] at hf
          refine r_if_f (t := 23) fe_166_16 (by decide) (Bool.eq_false_iff.mpr hb3) ?_
          refine r_iconst (v := 1) fe_166_19 (by decide) ?_
          refine r_goto (t := 24) fe_166_20 (by decide) ?_
          refine r_ic_f (t := 29) fe_166_24 (by decide) (by decide) ?_
          refine r_iconst (v := 1) fe_166_27 (by decide) ?_
          refine r_iret fe_166_28 ⟨rfl, by decide⟩ ?_
          exact dfin (P := fun r T => Q (some (.int r)) (mst T h)) hf hQ
      · rw [if_neg hb2] at hf
        refine r_if_f (t := 14) fe_166_7 (by decide) (Bool.eq_false_iff.mpr hb2) ?_
        refine r_iconst (v := 1) fe_166_10 (by decide) ?_
        refine r_goto (t := 15) fe_166_11 (by decide) ?_
        refine r_iload_n fe_166_15 rfl ?_
        by_cases hb13 : am_if .ne l2 = true
        · rw [if_pos hb13] at hf
          refine r_if_t (t := 23) fe_166_16 (by decide) hb13 ?_
          refine r_iconst (v := 0) fe_166_23 (by decide) ?_
          refine r_ic_f (t := 29) fe_166_24 (by decide) (by decide) ?_
          refine r_iconst (v := 1) fe_166_27 (by decide) ?_
          refine r_iret fe_166_28 ⟨rfl, by decide⟩ ?_
          exact dfin (P := fun r T => Q (some (.int r)) (mst T h)) hf hQ
        · rw [if_neg hb13] at hf
          refine r_if_f (t := 23) fe_166_16 (by decide) (Bool.eq_false_iff.mpr hb13) ?_
          refine r_iconst (v := 1) fe_166_19 (by decide) ?_
          refine r_goto (t := 24) fe_166_20 (by decide) ?_
          refine r_ic_t (t := 29) fe_166_24 (by decide) (by decide) ?_
          refine r_iload_n fe_166_29 rfl ?_
          by_cases hs14 : ((l1).toInt < 4 ∨ 7 < (l1).toInt)
          · rw [if_pos hs14] at hf
            refine r_tabO (t := 126) fe_166_30 hs14 (by decide) ?_
            refine r_iconst (v := 0) fe_166_126 (by decide) ?_
            refine r_iret fe_166_127 ⟨rfl, by decide⟩ ?_
            exact dfin (P := fun r T => Q (some (.int r)) (mst T h)) hf hQ
          · rw [if_neg hs14] at hf
            by_cases hx15 : l1 = 4
            · rw [if_pos hx15] at hf
              refine r_tabI (off := 30) (t := 60) fe_166_30 hs14 (by rw [hx15]; decide) (by decide) ?_
              refine r_aload_n fe_166_60 rfl ?_
              refine mr_getf hh fe_166_61 lf_12_55 rfl ?_
              refine r_iconst (v := 1) fe_166_64 (by decide) ?_
              refine r_iald (j := 1) (v := S.2.1 16 1) fe_166_65 m_c_16 (m_lt hh (by decide)) (by decide) (by decide) (by decide) rfl ?_
              refine r_bipush (v := 6) fe_166_66 (by decide) ?_
              by_cases hb16 : am_ic .ne (S.2.1 16 1) 6 = true
              · rw [if_pos hb16] at hf
                refine r_ic_t (t := 75) fe_166_68 (by decide) hb16 ?_
                refine r_iconst (v := 0) fe_166_75 (by decide) ?_
                refine r_iret fe_166_76 ⟨rfl, by decide⟩ ?_
                exact dfin (P := fun r T => Q (some (.int r)) (mst T h)) hf hQ
              · rw [if_neg hb16] at hf
                refine r_ic_f (t := 75) fe_166_68 (by decide) (Bool.eq_false_iff.mpr hb16) ?_
                refine r_iconst (v := 1) fe_166_71 (by decide) ?_
                refine r_goto (t := 76) fe_166_72 (by decide) ?_
                refine r_iret fe_166_76 ⟨rfl, by decide⟩ ?_
                exact dfin (P := fun r T => Q (some (.int r)) (mst T h)) hf hQ
            · rw [if_neg hx15] at hf
              by_cases hx17 : l1 = 5
              · rw [if_pos hx17] at hf
                refine r_tabI (off := 47) (t := 77) fe_166_30 hs14 (by rw [hx17]; decide) (by decide) ?_
                refine r_aload_n fe_166_77 rfl ?_
                refine mr_getf hh fe_166_78 lf_12_55 rfl ?_
                refine r_iconst (v := 2) fe_166_81 (by decide) ?_
                refine r_iald (j := 2) (v := S.2.1 16 2) fe_166_82 m_c_16 (m_lt hh (by decide)) (by decide) (by decide) (by decide) rfl ?_
                refine r_iconst (v := 4) fe_166_83 (by decide) ?_
                by_cases hb18 : am_ic .ne (S.2.1 16 2) 4 = true
                · rw [if_pos hb18] at hf
                  refine r_ic_t (t := 91) fe_166_84 (by decide) hb18 ?_
                  refine r_iconst (v := 0) fe_166_91 (by decide) ?_
                  refine r_iret fe_166_92 ⟨rfl, by decide⟩ ?_
                  exact dfin (P := fun r T => Q (some (.int r)) (mst T h)) hf hQ
                · rw [if_neg hb18] at hf
                  refine r_ic_f (t := 91) fe_166_84 (by decide) (Bool.eq_false_iff.mpr hb18) ?_
                  refine r_iconst (v := 1) fe_166_87 (by decide) ?_
                  refine r_goto (t := 92) fe_166_88 (by decide) ?_
                  refine r_iret fe_166_92 ⟨rfl, by decide⟩ ?_
                  exact dfin (P := fun r T => Q (some (.int r)) (mst T h)) hf hQ
              · rw [if_neg hx17] at hf
                by_cases hx19 : l1 = 6
                · rw [if_pos hx19] at hf
                  refine r_tabI (off := 63) (t := 93) fe_166_30 hs14 (by rw [hx19]; decide) (by decide) ?_
                  refine r_aload_n fe_166_93 rfl ?_
                  refine mr_getf hh fe_166_94 lf_12_55 rfl ?_
                  refine r_iconst (v := 3) fe_166_97 (by decide) ?_
                  refine r_iald (j := 3) (v := S.2.1 16 3) fe_166_98 m_c_16 (m_lt hh (by decide)) (by decide) (by decide) (by decide) rfl ?_
                  refine r_iconst (v := 5) fe_166_99 (by decide) ?_
                  by_cases hb20 : am_ic .ne (S.2.1 16 3) 5 = true
                  · rw [if_pos hb20] at hf
                    refine r_ic_t (t := 107) fe_166_100 (by decide) hb20 ?_
                    refine r_iconst (v := 0) fe_166_107 (by decide) ?_
                    refine r_iret fe_166_108 ⟨rfl, by decide⟩ ?_
                    exact dfin (P := fun r T => Q (some (.int r)) (mst T h)) hf hQ
                  · rw [if_neg hb20] at hf
                    refine r_ic_f (t := 107) fe_166_100 (by decide) (Bool.eq_false_iff.mpr hb20) ?_
                    refine r_iconst (v := 1) fe_166_103 (by decide) ?_
                    refine r_goto (t := 108) fe_166_104 (by decide) ?_
                    refine r_iret fe_166_108 ⟨rfl, by decide⟩ ?_
                    exact dfin (P := fun r T => Q (some (.int r)) (mst T h)) hf hQ
                · rw [if_neg hx19] at hf
                  by_cases hx21 : l1 = 7
                  · rw [if_pos hx21] at hf
                    refine r_tabI (off := 79) (t := 109) fe_166_30 hs14 (by rw [hx21]; decide) (by decide) ?_
                    refine r_aload_n fe_166_109 rfl ?_
                    refine mr_getf hh fe_166_110 lf_12_55 rfl ?_
                    refine r_iconst (v := 4) fe_166_113 (by decide) ?_
                    refine r_iald (j := 4) (v := S.2.1 16 4) fe_166_114 m_c_16 (m_lt hh (by decide)) (by decide) (by decide) (by decide) rfl ?_
                    refine r_bipush (v := 10) fe_166_115 (by decide) ?_
                    by_cases hb22 : am_ic .ne (S.2.1 16 4) 10 = true
                    · rw [if_pos hb22] at hf
                      refine r_ic_t (t := 124) fe_166_117 (by decide) hb22 ?_
                      refine r_iconst (v := 0) fe_166_124 (by decide) ?_
                      refine r_iret fe_166_125 ⟨rfl, by decide⟩ ?_
                      exact dfin (P := fun r T => Q (some (.int r)) (mst T h)) hf hQ
                    · rw [if_neg hb22] at hf
                      refine r_ic_f (t := 124) fe_166_117 (by decide) (Bool.eq_false_iff.mpr hb22) ?_
                      refine r_iconst (v := 1) fe_166_120 (by decide) ?_
                      refine r_goto (t := 125) fe_166_121 (by decide) ?_
                      refine r_iret fe_166_125 ⟨rfl, by decide⟩ ?_
                      exact dfin (P := fun r T => Q (some (.int r)) (mst T h)) hf hQ
                  · rw [if_neg hx21] at hf
                    cases hf
theorem F166c {xs : Nat → Int32} {L9 d n : Nat} {h : AmH} {Q : Option Value → AmH → Prop} {r0 : Int32} {S0 S : mS} {l1 : Int32} {l2 : Int32} (hh : 172 ≤ h.2.1) (hf : F166 n l1 l2 S = some (r0, S0)) (hQ : Q (some (.int r0)) (mst S0 h)) : Ca (am_X xs L9) (d + 0) 166 [.ref 130, .int l1, .int l2] (mst S h) Q := (F166l hh hQ n) l1 l2 S hf
def F163b0 (F : Nat → Int32 → mS → Option (Nat × mS)) (n : Nat) (l0 : Int32) (S : mS) : Option (Nat × mS) := (if ((l0).toInt < 0 ∨ 6 < (l0).toInt) then some (28, S) else (if l0 = 0 then some (14, S) else (if l0 = 1 then some (16, S) else (if l0 = 2 then some (18, S) else (if l0 = 3 then some (20, S) else (if l0 = 4 then some (22, S) else (if l0 = 5 then some (24, S) else (if l0 = 6 then some (26, S) else none))))))))
def F163f : Nat → Nat → Int32 → mS → Option (Nat × mS)
  | 0, _, _, _ => none
  | n + 1, c, l0, S => F163b0 (F163f n) n l0 S
theorem F163e0 (n : Nat) (l0 : Int32) (S : mS) : F163f (n + 1) 0 l0 S = F163b0 (F163f n) n l0 S := rfl
def F163 (n : Nat) (l0 : Int32) (S : mS) : Option (Nat × mS) := F163f n 0 l0 S
set_option maxRecDepth 20000 in
set_option maxHeartbeats 2000000 in
theorem F163l {xs : Nat → Int32} {L9 d : Nat} {h : AmH} {Q : Option Value → AmH → Prop} {r0 : Nat} {S0 : mS} (hh : 172 ≤ h.2.1) (hQ : Q (some (.ref r0)) (mst S0 h)) : ∀ n : Nat, (∀ (l0 : Int32) (S : mS), F163f n 0 l0 S = some (r0, S0) → Go (am_X xs L9) (d + 0) 163 0 [.int l0] [] (mst S h) Q) := by
  intro n
  induction n with
  | zero => exact fun l0 S hf => (by cases hf)
  | succ n ih =>
    intro l0 S hf
    rw [F163e0] at hf
    unfold F163b0 at hf
    refine r_iload_n fe_163_0 rfl ?_
    by_cases hs1 : ((l0).toInt < 0 ∨ 6 < (l0).toInt)
    · rw [if_pos hs1] at hf
      refine r_tabO (t := 72) fe_163_1 hs1 (by decide) ?_
      refine r_ldc_wS fe_163_72 lk_12_305 ?_
      refine r_aretO fe_163_75 ?_
      exact dfin (P := fun r T => Q (some (.ref r)) (mst T h)) hf hQ
    · rw [if_neg hs1] at hf
      by_cases hx2 : l0 = 0
      · rw [if_pos hx2] at hf
        refine r_tabI (off := 43) (t := 44) fe_163_1 hs1 (by rw [hx2]; decide) (by decide) ?_
        refine r_ldc_wS fe_163_44 lk_12_293 ?_
        refine r_aretO fe_163_47 ?_
        exact dfin (P := fun r T => Q (some (.ref r)) (mst T h)) hf hQ
      · rw [if_neg hx2] at hf
        by_cases hx3 : l0 = 1
        · rw [if_pos hx3] at hf
          refine r_tabI (off := 47) (t := 48) fe_163_1 hs1 (by rw [hx3]; decide) (by decide) ?_
          refine r_ldc_wS fe_163_48 lk_12_295 ?_
          refine r_aretO fe_163_51 ?_
          exact dfin (P := fun r T => Q (some (.ref r)) (mst T h)) hf hQ
        · rw [if_neg hx3] at hf
          by_cases hx4 : l0 = 2
          · rw [if_pos hx4] at hf
            refine r_tabI (off := 51) (t := 52) fe_163_1 hs1 (by rw [hx4]; decide) (by decide) ?_
            refine r_ldc_wS fe_163_52 lk_12_296 ?_
            refine r_aretO fe_163_55 ?_
            exact dfin (P := fun r T => Q (some (.ref r)) (mst T h)) hf hQ
          · rw [if_neg hx4] at hf
            by_cases hx5 : l0 = 3
            · rw [if_pos hx5] at hf
              refine r_tabI (off := 55) (t := 56) fe_163_1 hs1 (by rw [hx5]; decide) (by decide) ?_
              refine r_ldc_wS fe_163_56 lk_12_298 ?_
              refine r_aretO fe_163_59 ?_
              exact dfin (P := fun r T => Q (some (.ref r)) (mst T h)) hf hQ
            · rw [if_neg hx5] at hf
              by_cases hx6 : l0 = 4
              · rw [if_pos hx6] at hf
                refine r_tabI (off := 59) (t := 60) fe_163_1 hs1 (by rw [hx6]; decide) (by decide) ?_
                refine r_ldc_wS fe_163_60 lk_12_299 ?_
                refine r_aretO fe_163_63 ?_
                exact dfin (P := fun r T => Q (some (.ref r)) (mst T h)) hf hQ
              · rw [if_neg hx6] at hf
                by_cases hx7 : l0 = 5
                · rw [if_pos hx7] at hf
                  refine r_tabI (off := 63) (t := 64) fe_163_1 hs1 (by rw [hx7]; decide) (by decide) ?_
                  refine r_ldc_wS fe_163_64 lk_12_301 ?_
                  refine r_aretO fe_163_67 ?_
                  exact dfin (P := fun r T => Q (some (.ref r)) (mst T h)) hf hQ
                · rw [if_neg hx7] at hf
                  by_cases hx8 : l0 = 6
                  · rw [if_pos hx8] at hf
                    refine r_tabI (off := 67) (t := 68) fe_163_1 hs1 (by rw [hx8]; decide) (by decide) ?_
                    refine r_ldc_wS fe_163_68 lk_12_303 ?_
                    refine r_aretO fe_163_71 ?_
                    exact dfin (P := fun r T => Q (some (.ref r)) (mst T h)) hf hQ
                  · rw [if_neg hx8] at hf
                    cases hf
theorem F163c {xs : Nat → Int32} {L9 d n : Nat} {h : AmH} {Q : Option Value → AmH → Prop} {r0 : Nat} {S0 S : mS} {l0 : Int32} (hh : 172 ≤ h.2.1) (hf : F163 n l0 S = some (r0, S0)) (hQ : Q (some (.ref r0)) (mst S0 h)) : Ca (am_X xs L9) (d + 0) 163 [.int l0] (mst S h) Q := (F163l hh hQ n) l0 S hf
def F172b0 (F : Nat → Int64 → Int64 → Int64 → mS → Option (Int32 × mS)) (n : Nat) (l0 : Int64) (l2 : Int64) (l4 : Int64) (S : mS) : Option (Int32 × mS) := (if am_if .lt (lg_cmp l0 l2) = true then some (0, S) else (if am_if .gt (lg_cmp l0 l4) = true then some (0, S) else some (1, S)))
def F172f : Nat → Nat → Int64 → Int64 → Int64 → mS → Option (Int32 × mS)
  | 0, _, _, _, _, _ => none
  | n + 1, c, l0, l2, l4, S => F172b0 (F172f n) n l0 l2 l4 S
theorem F172e0 (n : Nat) (l0 : Int64) (l2 : Int64) (l4 : Int64) (S : mS) : F172f (n + 1) 0 l0 l2 l4 S = F172b0 (F172f n) n l0 l2 l4 S := rfl
def F172 (n : Nat) (l0 : Int64) (l2 : Int64) (l4 : Int64) (S : mS) : Option (Int32 × mS) := F172f n 0 l0 l2 l4 S
set_option maxRecDepth 20000 in
set_option maxHeartbeats 2000000 in
theorem F172l {xs : Nat → Int32} {L9 d : Nat} {h : AmH} {Q : Option Value → AmH → Prop} {r0 : Int32} {S0 : mS} (hh : 172 ≤ h.2.1) (hQ : Q (some (.int r0)) (mst S0 h)) : ∀ n : Nat, (∀ (l0 : Int64) (l2 : Int64) (l4 : Int64) (S : mS), F172f n 0 l0 l2 l4 S = some (r0, S0) → Go (am_X xs L9) (d + 0) 172 0 [.long l0, .float 0, .long l2, .float 0, .long l4, .float 0] [] (mst S h) Q) := by
  intro n
  induction n with
  | zero => exact fun l0 l2 l4 S hf => (by cases hf)
  | succ n ih =>
    intro l0 l2 l4 S hf
    rw [F172e0] at hf
    unfold F172b0 at hf
    refine r_lload_n fe_172_0 rfl ?_
    refine r_lload_n fe_172_1 rfl ?_
    refine r_lcmp (v := (lg_cmp l0 l2)) fe_172_2 rfl ?_
    by_cases hb1 : am_if .lt (lg_cmp l0 l2) = true
    · rw [if_pos hb1] at hf
      refine r_if_t (t := 17) fe_172_3 (by decide) hb1 ?_
      refine r_iconst (v := 0) fe_172_17 (by decide) ?_
      refine r_iret fe_172_18 ⟨rfl, by decide⟩ ?_
      exact dfin (P := fun r T => Q (some (.int r)) (mst T h)) hf hQ
    · rw [if_neg hb1] at hf
      refine r_if_f (t := 17) fe_172_3 (by decide) (Bool.eq_false_iff.mpr hb1) ?_
      refine r_lload_n fe_172_6 rfl ?_
      refine r_lload fe_172_7 rfl ?_
      refine r_lcmp (v := (lg_cmp l0 l4)) fe_172_9 rfl ?_
      by_cases hb2 : am_if .gt (lg_cmp l0 l4) = true
      · rw [if_pos hb2] at hf
        refine r_if_t (t := 17) fe_172_10 (by decide) hb2 ?_
        refine r_iconst (v := 0) fe_172_17 (by decide) ?_
        refine r_iret fe_172_18 ⟨rfl, by decide⟩ ?_
        exact dfin (P := fun r T => Q (some (.int r)) (mst T h)) hf hQ
      · rw [if_neg hb2] at hf
        refine r_if_f (t := 17) fe_172_10 (by decide) (Bool.eq_false_iff.mpr hb2) ?_
        refine r_iconst (v := 1) fe_172_13 (by decide) ?_
        refine r_goto (t := 18) fe_172_14 (by decide) ?_
        refine r_iret fe_172_18 ⟨rfl, by decide⟩ ?_
        exact dfin (P := fun r T => Q (some (.int r)) (mst T h)) hf hQ
theorem F172c {xs : Nat → Int32} {L9 d n : Nat} {h : AmH} {Q : Option Value → AmH → Prop} {r0 : Int32} {S0 S : mS} {l0 : Int64} {l2 : Int64} {l4 : Int64} (hh : 172 ≤ h.2.1) (hf : F172 n l0 l2 l4 S = some (r0, S0)) (hQ : Q (some (.int r0)) (mst S0 h)) : Ca (am_X xs L9) (d + 0) 172 [.long l0, .long l2, .long l4] (mst S h) Q := (F172l hh hQ n) l0 l2 l4 S hf
def F165b0 (F : Nat → Int32 → Int32 → mS → Option (Unit × mS)) (n : Nat) (l1 : Int32) (l2 : Int32) (S : mS) : Option (Unit × mS) := (if am_if .ne (S.1 28) = true then some ((), (m_sI S 28 (S.1 28))) else some ((), (m_sI S 28 ((1 + (8 * l2)) + l1))))
def F165f : Nat → Nat → Int32 → Int32 → mS → Option (Unit × mS)
  | 0, _, _, _, _ => none
  | n + 1, c, l1, l2, S => F165b0 (F165f n) n l1 l2 S
theorem F165e0 (n : Nat) (l1 : Int32) (l2 : Int32) (S : mS) : F165f (n + 1) 0 l1 l2 S = F165b0 (F165f n) n l1 l2 S := rfl
def F165 (n : Nat) (l1 : Int32) (l2 : Int32) (S : mS) : Option (Unit × mS) := F165f n 0 l1 l2 S
set_option maxRecDepth 20000 in
set_option maxHeartbeats 2000000 in
theorem F165l {xs : Nat → Int32} {L9 d : Nat} {h : AmH} {Q : Option Value → AmH → Prop} {r0 : Unit} {S0 : mS} (hh : 172 ≤ h.2.1) (hQ : Q none (mst S0 h)) : ∀ n : Nat, (∀ (l1 : Int32) (l2 : Int32) (S : mS), F165f n 0 l1 l2 S = some (r0, S0) → Go (am_X xs L9) (d + 0) 165 0 [.ref 130, .int l1, .int l2] [] (mst S h) Q) := by
  intro n
  induction n with
  | zero => exact fun l1 l2 S hf => (by cases hf)
  | succ n ih =>
    intro l1 l2 S hf
    rw [F165e0] at hf
    unfold F165b0 at hf
    refine r_aload_n fe_165_0 rfl ?_
    refine r_aload_n fe_165_1 rfl ?_
    refine mr_getf hh fe_165_2 lf_12_185 rfl ?_
    by_cases hb1 : am_if .ne (S.1 28) = true
    · rw [if_pos hb1] at hf
      refine r_if_t (t := 19) fe_165_5 (by decide) hb1 ?_
      refine r_aload_n fe_165_19 rfl ?_
      refine mr_getf hh fe_165_20 lf_12_185 rfl ?_
      refine mr_putf hh fe_165_23 lf_12_185 (m_f_28 _ _) (by decide) rfl rfl rfl ?_
      refine r_vret fe_165_26 ?_
      exact dfin (P := fun _ T => Q none (mst T h)) hf hQ
    · rw [if_neg hb1] at hf
      refine r_if_f (t := 19) fe_165_5 (by decide) (Bool.eq_false_iff.mpr hb1) ?_
      refine r_iconst (v := 1) fe_165_8 (by decide) ?_
      refine r_bipush (v := 8) fe_165_9 (by decide) ?_
      refine r_iload_n fe_165_11 rfl ?_
      refine r_imul (v := (8 * l2)) fe_165_12 rfl ?_
      refine r_iadd (v := (1 + (8 * l2))) fe_165_13 rfl ?_
      refine r_iload_n fe_165_14 rfl ?_
      refine r_iadd (v := ((1 + (8 * l2)) + l1)) fe_165_15 rfl ?_
      refine r_goto (t := 23) fe_165_16 (by decide) ?_
      refine mr_putf hh fe_165_23 lf_12_185 (m_f_28 _ _) (by decide) rfl rfl rfl ?_
      refine r_vret fe_165_26 ?_
      exact dfin (P := fun _ T => Q none (mst T h)) hf hQ
theorem F165c {xs : Nat → Int32} {L9 d n : Nat} {h : AmH} {Q : Option Value → AmH → Prop} {r0 : Unit} {S0 S : mS} {l1 : Int32} {l2 : Int32} (hh : 172 ≤ h.2.1) (hf : F165 n l1 l2 S = some (r0, S0)) (hQ : Q none (mst S0 h)) : Ca (am_X xs L9) (d + 0) 165 [.ref 130, .int l1, .int l2] (mst S h) Q := (F165l hh hQ n) l1 l2 S hf
def F171b0 (F : Nat → mS → Option (Int32 × mS)) (n : Nat)  (S : mS) : Option (Int32 × mS) := ((F162 n  S).bind (fun z1 => ((F172 n (Int32.toInt64 z1.1) 48 57 z1.2).bind (fun z3 => (if narrow .boolean (.int z3.1) = .int z3.1 then some (z3.1, z3.2) else none)))))
def F171f : Nat → Nat → mS → Option (Int32 × mS)
  | 0, _, _ => none
  | n + 1, c, S => F171b0 (F171f n) n  S
theorem F171e0 (n : Nat)  (S : mS) : F171f (n + 1) 0  S = F171b0 (F171f n) n  S := rfl
def F171 (n : Nat)  (S : mS) : Option (Int32 × mS) := F171f n 0  S
set_option maxRecDepth 20000 in
set_option maxHeartbeats 2000000 in
theorem F171l {xs : Nat → Int32} {L9 d : Nat} {h : AmH} {Q : Option Value → AmH → Prop} {r0 : Int32} {S0 : mS} (hh : 172 ≤ h.2.1) (hQ : Q (some (.int r0)) (mst S0 h)) : ∀ n : Nat, (∀ (S : mS), F171f n 0 S = some (r0, S0) → Go (am_X xs L9) (d + 1) 171 0 [.ref 130] [] (mst S h) Q) := by
  intro n
  induction n with
  | zero => exact fun  S hf => (by cases hf)
  | succ n ih =>
    intro  S hf
    rw [F171e0] at hf
    unfold F171b0 at hf
    refine r_aload_n fe_171_0 rfl ?_
    refine r_callV (as := []) (r := []) fe_171_1 lm_12_191 md_162 rfl rfl (Nat.le_of_ble_eq_true rfl) m_c_0 (m_lt hh (by decide)) (Nat.le_of_ble_eq_true rfl) (Nat.le_of_ble_eq_true rfl) ?_
    cases hc2 : F162 n  S with
    | none => rw [hc2] at hf; cases hf
    | some z1 =>
      rw [hc2, Option.bind_some] at hf
      refine F162c (r0 := z1.1) (S0 := z1.2) hh hc2 ?_
      refine r_i2l (v := (Int32.toInt64 z1.1)) fe_171_4 rfl ?_
      refine r_ldc2 fe_171_5 lk_12_195 ?_
      refine r_ldc2 fe_171_8 lk_12_197 ?_
      refine r_callS (as := [.long (Int32.toInt64 z1.1), .long 48, .long 57]) (r := []) fe_171_11 lm_12_143 md_172 rfl rfl (Nat.le_of_ble_eq_true rfl) (Nat.le_of_ble_eq_true rfl) (Nat.le_of_ble_eq_true rfl) ?_
      cases hc4 : F172 n (Int32.toInt64 z1.1) 48 57 z1.2 with
      | none => rw [hc4] at hf; cases hf
      | some z3 =>
        rw [hc4, Option.bind_some] at hf
        refine F172c (r0 := z3.1) (S0 := z3.2) hh hc4 ?_
        by_cases hz5 : narrow .boolean (.int z3.1) = .int z3.1
        rotate_left
        · rw [if_neg hz5] at hf; cases hf
        rw [if_pos hz5] at hf
        refine r_iret fe_171_14 ⟨hz5, by decide⟩ ?_
        exact dfin (P := fun r T => Q (some (.int r)) (mst T h)) hf hQ
theorem F171c {xs : Nat → Int32} {L9 d n : Nat} {h : AmH} {Q : Option Value → AmH → Prop} {r0 : Int32} {S0 S : mS}  (hh : 172 ≤ h.2.1) (hf : F171 n  S = some (r0, S0)) (hQ : Q (some (.int r0)) (mst S0 h)) : Ca (am_X xs L9) (d + 1) 171 [.ref 130] (mst S h) Q := (F171l hh hQ n)  S hf
def F170b0 (F : Nat → Int32 → Int32 → Int32 → mS → Option (Int32 × mS)) (n : Nat) (l1 : Int32) (l2 : Int32) (l3 : Int32) (S : mS) : Option (Int32 × mS) := ((F171 n  S).bind (fun z1 => (if am_if .ne z1.1 = true then F 25 l1 (z1.2.1 27) 0 z1.2 else ((F165 n 0 (z1.2.1 27) z1.2).bind (fun z4 => some (0, z4.2))))))
def F170b25 (F : Nat → Int32 → Int32 → Int32 → mS → Option (Int32 × mS)) (n : Nat) (l1 : Int32) (l2 : Int32) (l3 : Int32) (S : mS) : Option (Int32 × mS) := ((F171 n  S).bind (fun z6 => (if am_if .eq z6.1 = true then (if am_ic .gt ((z6.2.1 27) - l2) 5 = true then ((F165 n 1 l2 z6.2).bind (fun z10 => some (l3, z10.2))) else (if am_ic .le l3 l1 = true then some (l3, z6.2) else ((F165 n 1 l2 z6.2).bind (fun z13 => some (l3, z13.2))))) else (if am_ic .ge ((z6.2.1 27) - l2) 5 = true then F 25 l1 l2 l3 (m_sI z6.2 27 ((z6.2.1 27) + 1)) else ((F162 n  z6.2).bind (fun z16 => F 25 l1 l2 (((10 * l3) + z16.1) - 48) (m_sI z16.2 27 ((z16.2.1 27) + 1))))))))
def F170f : Nat → Nat → Int32 → Int32 → Int32 → mS → Option (Int32 × mS)
  | 0, _, _, _, _, _ => none
  | n + 1, c, l1, l2, l3, S => if c = 0 then F170b0 (F170f n) n l1 l2 l3 S else F170b25 (F170f n) n l1 l2 l3 S
theorem F170e0 (n : Nat) (l1 : Int32) (l2 : Int32) (l3 : Int32) (S : mS) : F170f (n + 1) 0 l1 l2 l3 S = F170b0 (F170f n) n l1 l2 l3 S := if_pos rfl
theorem F170e25 (n : Nat) (l1 : Int32) (l2 : Int32) (l3 : Int32) (S : mS) : F170f (n + 1) 25 l1 l2 l3 S = F170b25 (F170f n) n l1 l2 l3 S := if_neg (by decide)
def F170 (n : Nat) (l1 : Int32) (S : mS) : Option (Int32 × mS) := F170f n 0 l1 0 0 S
set_option maxRecDepth 20000 in
set_option maxHeartbeats 2000000 in
theorem F170l {xs : Nat → Int32} {L9 d : Nat} {h : AmH} {Q : Option Value → AmH → Prop} {r0 : Int32} {S0 : mS} (hh : 172 ≤ h.2.1) (hQ : Q (some (.int r0)) (mst S0 h)) : ∀ n : Nat, (∀ (l1 : Int32) (l2 : Int32) (l3 : Int32) (S : mS), F170f n 0 l1 l2 l3 S = some (r0, S0) → Go (am_X xs L9) (d + 2) 170 0 [.ref 130, .int l1, .float 0, .float 0] [] (mst S h) Q) ∧ (∀ (l1 : Int32) (l2 : Int32) (l3 : Int32) (S : mS), F170f n 25 l1 l2 l3 S = some (r0, S0) → Go (am_X xs L9) (d + 2) 170 25 [.ref 130, .int l1, .int l2, .int l3] [] (mst S h) Q) := by
  intro n
  induction n with
  | zero => exact ⟨fun l1 l2 l3 S hf => (by cases hf), fun l1 l2 l3 S hf => (by cases hf)⟩
  | succ n ih =>
    refine ⟨?_, ?_⟩
    · intro l1 l2 l3 S hf
      rw [F170e0] at hf
      unfold F170b0 at hf
      refine r_aload_n fe_170_0 rfl ?_
      refine r_callV (as := []) (r := []) fe_170_1 lm_12_228 md_171 rfl rfl (Nat.le_of_ble_eq_true rfl) m_c_0 (m_lt hh (by decide)) (Nat.le_of_ble_eq_true rfl) (Nat.le_of_ble_eq_true rfl) ?_
      cases hc2 : F171 n  S with
      | none => rw [hc2] at hf; cases hf
      | some z1 =>
        rw [hc2, Option.bind_some] at hf
        refine F171c (r0 := z1.1) (S0 := z1.2) hh hc2 ?_
        by_cases hb3 : am_if .ne z1.1 = true
        · rw [if_pos hb3] at hf
          refine r_if_t (t := 18) fe_170_4 (by decide) hb3 ?_
          refine r_aload_n fe_170_18 rfl ?_
          refine mr_getf hh fe_170_19 lf_12_188 rfl ?_
          refine r_istore_n fe_170_22 (Nat.le_of_ble_eq_true rfl) rfl ?_
          refine r_iconst (v := 0) fe_170_23 (by decide) ?_
          refine r_istore_n fe_170_24 (Nat.le_of_ble_eq_true rfl) rfl ?_
          refine go_weak (L0 := [.ref 130, .int l1, .int (z1.2.1 27), .int 0]) (lwk_c (Or.inl rfl) (lwk_c (Or.inl rfl) (lwk_c (Or.inl rfl) (lwk_c (Or.inl rfl) (lwk_rf []))))) ?_
          exact ih.2 l1 (z1.2.1 27) 0 z1.2 hf
        · rw [if_neg hb3] at hf
          refine r_if_f (t := 18) fe_170_4 (by decide) (Bool.eq_false_iff.mpr hb3) ?_
          refine r_aload_n fe_170_7 rfl ?_
          refine r_iconst (v := 0) fe_170_8 (by decide) ?_
          refine r_aload_n fe_170_9 rfl ?_
          refine mr_getf hh fe_170_10 lf_12_188 rfl ?_
          refine r_callV (as := [.int 0, .int (z1.2.1 27)]) (r := []) fe_170_13 lm_12_224 md_165 rfl rfl (Nat.le_of_ble_eq_true rfl) m_c_0 (m_lt hh (by decide)) (Nat.le_of_ble_eq_true rfl) (Nat.le_of_ble_eq_true rfl) ?_
          cases hc5 : F165 n 0 (z1.2.1 27) z1.2 with
          | none => rw [hc5] at hf; cases hf
          | some z4 =>
            rw [hc5, Option.bind_some] at hf
            refine F165c (r0 := z4.1) (S0 := z4.2) hh hc5 ?_
            refine r_iconst (v := 0) fe_170_16 (by decide) ?_
            refine r_iret fe_170_17 ⟨rfl, by decide⟩ ?_
            exact dfin (P := fun r T => Q (some (.int r)) (mst T h)) hf hQ
    · intro l1 l2 l3 S hf
      rw [F170e25] at hf
      unfold F170b25 at hf
      refine r_aload_n fe_170_25 rfl ?_
      refine r_callV (as := []) (r := []) fe_170_26 lm_12_228 md_171 rfl rfl (Nat.le_of_ble_eq_true rfl) m_c_0 (m_lt hh (by decide)) (Nat.le_of_ble_eq_true rfl) (Nat.le_of_ble_eq_true rfl) ?_
      cases hc7 : F171 n  S with
      | none => rw [hc7] at hf; cases hf
      | some z6 =>
        rw [hc7, Option.bind_some] at hf
        refine F171c (r0 := z6.1) (S0 := z6.2) hh hc7 ?_
        by_cases hb8 : am_if .eq z6.1 = true
        · rw [if_pos hb8] at hf
          refine r_if_t (t := 72) fe_170_29 (by decide) hb8 ?_
          refine r_aload_n fe_170_72 rfl ?_
          refine mr_getf hh fe_170_73 lf_12_188 rfl ?_
          refine r_iload_n fe_170_76 rfl ?_
          refine r_isub (v := ((z6.2.1 27) - l2)) fe_170_77 rfl ?_
          refine r_iconst (v := 5) fe_170_78 (by decide) ?_
          by_cases hb9 : am_ic .gt ((z6.2.1 27) - l2) 5 = true
          · rw [if_pos hb9] at hf
            refine r_ic_t (t := 87) fe_170_79 (by decide) hb9 ?_
            refine r_aload_n fe_170_87 rfl ?_
            refine r_iconst (v := 1) fe_170_88 (by decide) ?_
            refine r_iload_n fe_170_89 rfl ?_
            refine r_callV (as := [.int 1, .int l2]) (r := []) fe_170_90 lm_12_224 md_165 rfl rfl (Nat.le_of_ble_eq_true rfl) m_c_0 (m_lt hh (by decide)) (Nat.le_of_ble_eq_true rfl) (Nat.le_of_ble_eq_true rfl) ?_
            cases hc11 : F165 n 1 l2 z6.2 with
            | none => rw [hc11] at hf; cases hf
            | some z10 =>
              rw [hc11, Option.bind_some] at hf
              refine F165c (r0 := z10.1) (S0 := z10.2) hh hc11 ?_
              refine r_iload_n fe_170_93 rfl ?_
              refine r_iret fe_170_94 ⟨rfl, by decide⟩ ?_
              exact dfin (P := fun r T => Q (some (.int r)) (mst T h)) hf hQ
          · rw [if_neg hb9] at hf
            refine r_ic_f (t := 87) fe_170_79 (by decide) (Bool.eq_false_iff.mpr hb9) ?_
            refine r_iload_n fe_170_82 rfl ?_
            refine r_iload_n fe_170_83 rfl ?_
            by_cases hb12 : am_ic .le l3 l1 = true
            · rw [if_pos hb12] at hf
              refine r_ic_t (t := 93) fe_170_84 (by decide) hb12 ?_
              refine r_iload_n fe_170_93 rfl ?_
              refine r_iret fe_170_94 ⟨rfl, by decide⟩ ?_
              exact dfin (P := fun r T => Q (some (.int r)) (mst T h)) hf hQ
            · rw [if_neg hb12] at hf
              refine r_ic_f (t := 93) fe_170_84 (by decide) (Bool.eq_false_iff.mpr hb12) ?_
              refine r_aload_n fe_170_87 rfl ?_
              refine r_iconst (v := 1) fe_170_88 (by decide) ?_
              refine r_iload_n fe_170_89 rfl ?_
              refine r_callV (as := [.int 1, .int l2]) (r := []) fe_170_90 lm_12_224 md_165 rfl rfl (Nat.le_of_ble_eq_true rfl) m_c_0 (m_lt hh (by decide)) (Nat.le_of_ble_eq_true rfl) (Nat.le_of_ble_eq_true rfl) ?_
              cases hc14 : F165 n 1 l2 z6.2 with
              | none => rw [hc14] at hf; cases hf
              | some z13 =>
                rw [hc14, Option.bind_some] at hf
                refine F165c (r0 := z13.1) (S0 := z13.2) hh hc14 ?_
                refine r_iload_n fe_170_93 rfl ?_
                refine r_iret fe_170_94 ⟨rfl, by decide⟩ ?_
                exact dfin (P := fun r T => Q (some (.int r)) (mst T h)) hf hQ
        · rw [if_neg hb8] at hf
          refine r_if_f (t := 72) fe_170_29 (by decide) (Bool.eq_false_iff.mpr hb8) ?_
          refine r_aload_n fe_170_32 rfl ?_
          refine mr_getf hh fe_170_33 lf_12_188 rfl ?_
          refine r_iload_n fe_170_36 rfl ?_
          refine r_isub (v := ((z6.2.1 27) - l2)) fe_170_37 rfl ?_
          refine r_iconst (v := 5) fe_170_38 (by decide) ?_
          by_cases hb15 : am_ic .ge ((z6.2.1 27) - l2) 5 = true
          · rw [if_pos hb15] at hf
            refine r_ic_t (t := 57) fe_170_39 (by decide) hb15 ?_
            refine r_iload_n fe_170_57 rfl ?_
            refine r_istore_n fe_170_58 (Nat.le_of_ble_eq_true rfl) rfl ?_
            refine r_aload_n fe_170_59 rfl ?_
            refine r_dup fe_170_60 rfl ?_
            refine mr_getf hh fe_170_61 lf_12_188 rfl ?_
            refine r_iconst (v := 1) fe_170_64 (by decide) ?_
            refine r_iadd (v := ((z6.2.1 27) + 1)) fe_170_65 rfl ?_
            refine mr_putf hh fe_170_66 lf_12_188 (m_f_27 _ _) (by decide) rfl rfl rfl ?_
            refine r_goto (t := 25) fe_170_69 (by decide) ?_
            refine go_weak (L0 := [.ref 130, .int l1, .int l2, .int l3]) (lwk_c (Or.inl rfl) (lwk_c (Or.inl rfl) (lwk_c (Or.inl rfl) (lwk_c (Or.inl rfl) (lwk_rf []))))) ?_
            exact ih.2 l1 l2 l3 (m_sI z6.2 27 ((z6.2.1 27) + 1)) hf
          · rw [if_neg hb15] at hf
            refine r_ic_f (t := 57) fe_170_39 (by decide) (Bool.eq_false_iff.mpr hb15) ?_
            refine r_bipush (v := 10) fe_170_42 (by decide) ?_
            refine r_iload_n fe_170_44 rfl ?_
            refine r_imul (v := (10 * l3)) fe_170_45 rfl ?_
            refine r_aload_n fe_170_46 rfl ?_
            refine r_callV (as := []) (r := [.int (10 * l3)]) fe_170_47 lm_12_191 md_162 rfl rfl (Nat.le_of_ble_eq_true rfl) m_c_0 (m_lt hh (by decide)) (Nat.le_of_ble_eq_true rfl) (Nat.le_of_ble_eq_true rfl) ?_
            cases hc17 : F162 n  z6.2 with
            | none => rw [hc17] at hf; cases hf
            | some z16 =>
              rw [hc17, Option.bind_some] at hf
              refine F162c (r0 := z16.1) (S0 := z16.2) hh hc17 ?_
              refine r_iadd (v := ((10 * l3) + z16.1)) fe_170_50 rfl ?_
              refine r_bipush (v := 48) fe_170_51 (by decide) ?_
              refine r_isub (v := (((10 * l3) + z16.1) - 48)) fe_170_53 rfl ?_
              refine r_goto (t := 58) fe_170_54 (by decide) ?_
              refine r_istore_n fe_170_58 (Nat.le_of_ble_eq_true rfl) rfl ?_
              refine r_aload_n fe_170_59 rfl ?_
              refine r_dup fe_170_60 rfl ?_
              refine mr_getf hh fe_170_61 lf_12_188 rfl ?_
              refine r_iconst (v := 1) fe_170_64 (by decide) ?_
              refine r_iadd (v := ((z16.2.1 27) + 1)) fe_170_65 rfl ?_
              refine mr_putf hh fe_170_66 lf_12_188 (m_f_27 _ _) (by decide) rfl rfl rfl ?_
              refine r_goto (t := 25) fe_170_69 (by decide) ?_
              refine go_weak (L0 := [.ref 130, .int l1, .int l2, .int (((10 * l3) + z16.1) - 48)]) (lwk_c (Or.inl rfl) (lwk_c (Or.inl rfl) (lwk_c (Or.inl rfl) (lwk_c (Or.inl rfl) (lwk_rf []))))) ?_
              exact ih.2 l1 l2 (((10 * l3) + z16.1) - 48) (m_sI z16.2 27 ((z16.2.1 27) + 1)) hf
theorem F170c {xs : Nat → Int32} {L9 d n : Nat} {h : AmH} {Q : Option Value → AmH → Prop} {r0 : Int32} {S0 S : mS} {l1 : Int32} (hh : 172 ≤ h.2.1) (hf : F170 n l1 S = some (r0, S0)) (hQ : Q (some (.int r0)) (mst S0 h)) : Ca (am_X xs L9) (d + 2) 170 [.ref 130, .int l1] (mst S h) Q := (F170l hh hQ n).1 l1 0 0 S hf
def F169b0 (F : Nat → Int32 → Int32 → mS → Option (Int32 × mS)) (n : Nat) (l1 : Int32) (l2 : Int32) (S : mS) : Option (Int32 × mS) := ((F161 n  S).bind (fun z1 => (if am_if .ne (z1.2.1 28) = true then (if am_if .ne (z1.2.1 28) = true then some (0, z1.2) else ((F172 n 0 (Int32.toInt64 l1) (Int32.toInt64 l2) z1.2).bind (fun z5 => (if am_if .ne z5.1 = true then some (0, z5.2) else ((F165 n 1 (z1.2.1 27) z5.2).bind (fun z8 => some (0, z8.2))))))) else ((F170 n 99999 z1.2).bind (fun z10 => (if am_if .ne (z10.2.1 28) = true then some (z10.1, z10.2) else ((F172 n (Int32.toInt64 z10.1) (Int32.toInt64 l1) (Int32.toInt64 l2) z10.2).bind (fun z13 => (if am_if .ne z13.1 = true then some (z10.1, z13.2) else ((F165 n 1 (z1.2.1 27) z13.2).bind (fun z16 => some (z10.1, z16.2))))))))))))
def F169f : Nat → Nat → Int32 → Int32 → mS → Option (Int32 × mS)
  | 0, _, _, _, _ => none
  | n + 1, c, l1, l2, S => F169b0 (F169f n) n l1 l2 S
theorem F169e0 (n : Nat) (l1 : Int32) (l2 : Int32) (S : mS) : F169f (n + 1) 0 l1 l2 S = F169b0 (F169f n) n l1 l2 S := rfl
def F169 (n : Nat) (l1 : Int32) (l2 : Int32) (S : mS) : Option (Int32 × mS) := F169f n 0 l1 l2 S
set_option maxRecDepth 20000 in
set_option maxHeartbeats 2000000 in
theorem F169l {xs : Nat → Int32} {L9 d : Nat} {h : AmH} {Q : Option Value → AmH → Prop} {r0 : Int32} {S0 : mS} (hh : 172 ≤ h.2.1) (hQ : Q (some (.int r0)) (mst S0 h)) : ∀ n : Nat, (∀ (l1 : Int32) (l2 : Int32) (S : mS), F169f n 0 l1 l2 S = some (r0, S0) → Go (am_X xs L9) (d + 3) 169 0 [.ref 130, .int l1, .int l2, .float 0, .float 0] [] (mst S h) Q) := by
  intro n
  induction n with
  | zero => exact fun l1 l2 S hf => (by cases hf)
  | succ n ih =>
    intro l1 l2 S hf
    rw [F169e0] at hf
    unfold F169b0 at hf
    refine r_aload_n fe_169_0 rfl ?_
    refine r_callV (as := []) (r := []) fe_169_1 lm_12_208 md_161 rfl rfl (Nat.le_of_ble_eq_true rfl) m_c_0 (m_lt hh (by decide)) (Nat.le_of_ble_eq_true rfl) (Nat.le_of_ble_eq_true rfl) ?_
    cases hc2 : F161 n  S with
    | none => rw [hc2] at hf; cases hf
    | some z1 =>
      rw [hc2, Option.bind_some] at hf
      refine F161c (r0 := z1.1) (S0 := z1.2) hh hc2 ?_
      refine r_aload_n fe_169_4 rfl ?_
      refine mr_getf hh fe_169_5 lf_12_188 rfl ?_
      refine r_istore_n fe_169_8 (Nat.le_of_ble_eq_true rfl) rfl ?_
      refine r_aload_n fe_169_9 rfl ?_
      refine mr_getf hh fe_169_10 lf_12_185 rfl ?_
      by_cases hb3 : am_if .ne (z1.2.1 28) = true
      · rw [if_pos hb3] at hf
        refine r_if_t (t := 25) fe_169_13 (by decide) hb3 ?_
        refine r_iconst (v := 0) fe_169_25 (by decide) ?_
        refine r_istore fe_169_26 (Nat.le_of_ble_eq_true rfl) rfl ?_
        refine r_aload_n fe_169_28 rfl ?_
        refine mr_getf hh fe_169_29 lf_12_185 rfl ?_
        by_cases hb4 : am_if .ne (z1.2.1 28) = true
        · rw [if_pos hb4] at hf
          refine r_if_t (t := 54) fe_169_32 (by decide) hb4 ?_
          refine r_iload fe_169_54 rfl ?_
          refine r_iret fe_169_56 ⟨rfl, by decide⟩ ?_
          exact dfin (P := fun r T => Q (some (.int r)) (mst T h)) hf hQ
        · rw [if_neg hb4] at hf
          refine r_if_f (t := 54) fe_169_32 (by decide) (Bool.eq_false_iff.mpr hb4) ?_
          refine r_iload fe_169_35 rfl ?_
          refine r_i2l (v := 0) fe_169_37 (by decide) ?_
          refine r_iload_n fe_169_38 rfl ?_
          refine r_i2l (v := (Int32.toInt64 l1)) fe_169_39 rfl ?_
          refine r_iload_n fe_169_40 rfl ?_
          refine r_i2l (v := (Int32.toInt64 l2)) fe_169_41 rfl ?_
          refine r_callS (as := [.long 0, .long (Int32.toInt64 l1), .long (Int32.toInt64 l2)]) (r := []) fe_169_42 lm_12_143 md_172 rfl rfl (Nat.le_of_ble_eq_true rfl) (Nat.le_of_ble_eq_true rfl) (Nat.le_of_ble_eq_true rfl) ?_
          cases hc6 : F172 n 0 (Int32.toInt64 l1) (Int32.toInt64 l2) z1.2 with
          | none => rw [hc6] at hf; cases hf
          | some z5 =>
            rw [hc6, Option.bind_some] at hf
            refine F172c (r0 := z5.1) (S0 := z5.2) hh hc6 ?_
            by_cases hb7 : am_if .ne z5.1 = true
            · rw [if_pos hb7] at hf
              refine r_if_t (t := 54) fe_169_45 (by decide) hb7 ?_
              refine r_iload fe_169_54 rfl ?_
              refine r_iret fe_169_56 ⟨rfl, by decide⟩ ?_
              exact dfin (P := fun r T => Q (some (.int r)) (mst T h)) hf hQ
            · rw [if_neg hb7] at hf
              refine r_if_f (t := 54) fe_169_45 (by decide) (Bool.eq_false_iff.mpr hb7) ?_
              refine r_aload_n fe_169_48 rfl ?_
              refine r_iconst (v := 1) fe_169_49 (by decide) ?_
              refine r_iload_n fe_169_50 rfl ?_
              refine r_callV (as := [.int 1, .int (z1.2.1 27)]) (r := []) fe_169_51 lm_12_224 md_165 rfl rfl (Nat.le_of_ble_eq_true rfl) m_c_0 (m_lt hh (by decide)) (Nat.le_of_ble_eq_true rfl) (Nat.le_of_ble_eq_true rfl) ?_
              cases hc9 : F165 n 1 (z1.2.1 27) z5.2 with
              | none => rw [hc9] at hf; cases hf
              | some z8 =>
                rw [hc9, Option.bind_some] at hf
                refine F165c (r0 := z8.1) (S0 := z8.2) hh hc9 ?_
                refine r_iload fe_169_54 rfl ?_
                refine r_iret fe_169_56 ⟨rfl, by decide⟩ ?_
                exact dfin (P := fun r T => Q (some (.int r)) (mst T h)) hf hQ
      · rw [if_neg hb3] at hf
        refine r_if_f (t := 25) fe_169_13 (by decide) (Bool.eq_false_iff.mpr hb3) ?_
        refine r_aload_n fe_169_16 rfl ?_
        refine r_ldc fe_169_17 lk_12_232 ?_
        refine r_callV (as := [.int 99999]) (r := []) fe_169_19 lm_12_233 md_170 rfl rfl (Nat.le_of_ble_eq_true rfl) m_c_0 (m_lt hh (by decide)) (Nat.le_of_ble_eq_true rfl) (Nat.le_of_ble_eq_true rfl) ?_
        cases hc11 : F170 n 99999 z1.2 with
        | none => rw [hc11] at hf; cases hf
        | some z10 =>
          rw [hc11, Option.bind_some] at hf
          refine F170c (r0 := z10.1) (S0 := z10.2) hh hc11 ?_
          refine r_goto (t := 26) fe_169_22 (by decide) ?_
          refine r_istore fe_169_26 (Nat.le_of_ble_eq_true rfl) rfl ?_
          refine r_aload_n fe_169_28 rfl ?_
          refine mr_getf hh fe_169_29 lf_12_185 rfl ?_
          by_cases hb12 : am_if .ne (z10.2.1 28) = true
          · rw [if_pos hb12] at hf
            refine r_if_t (t := 54) fe_169_32 (by decide) hb12 ?_
            refine r_iload fe_169_54 rfl ?_
            refine r_iret fe_169_56 ⟨rfl, by decide⟩ ?_
            exact dfin (P := fun r T => Q (some (.int r)) (mst T h)) hf hQ
          · rw [if_neg hb12] at hf
            refine r_if_f (t := 54) fe_169_32 (by decide) (Bool.eq_false_iff.mpr hb12) ?_
            refine r_iload fe_169_35 rfl ?_
            refine r_i2l (v := (Int32.toInt64 z10.1)) fe_169_37 rfl ?_
            refine r_iload_n fe_169_38 rfl ?_
            refine r_i2l (v := (Int32.toInt64 l1)) fe_169_39 rfl ?_
            refine r_iload_n fe_169_40 rfl ?_
            refine r_i2l (v := (Int32.toInt64 l2)) fe_169_41 rfl ?_
            refine r_callS (as := [.long (Int32.toInt64 z10.1), .long (Int32.toInt64 l1), .long (Int32.toInt64 l2)]) (r := []) fe_169_42 lm_12_143 md_172 rfl rfl (Nat.le_of_ble_eq_true rfl) (Nat.le_of_ble_eq_true rfl) (Nat.le_of_ble_eq_true rfl) ?_
            cases hc14 : F172 n (Int32.toInt64 z10.1) (Int32.toInt64 l1) (Int32.toInt64 l2) z10.2 with
            | none => rw [hc14] at hf; cases hf
            | some z13 =>
              rw [hc14, Option.bind_some] at hf
              refine F172c (r0 := z13.1) (S0 := z13.2) hh hc14 ?_
              by_cases hb15 : am_if .ne z13.1 = true
              · rw [if_pos hb15] at hf
                refine r_if_t (t := 54) fe_169_45 (by decide) hb15 ?_
                refine r_iload fe_169_54 rfl ?_
                refine r_iret fe_169_56 ⟨rfl, by decide⟩ ?_
                exact dfin (P := fun r T => Q (some (.int r)) (mst T h)) hf hQ
              · rw [if_neg hb15] at hf
                refine r_if_f (t := 54) fe_169_45 (by decide) (Bool.eq_false_iff.mpr hb15) ?_
                refine r_aload_n fe_169_48 rfl ?_
                refine r_iconst (v := 1) fe_169_49 (by decide) ?_
                refine r_iload_n fe_169_50 rfl ?_
                refine r_callV (as := [.int 1, .int (z1.2.1 27)]) (r := []) fe_169_51 lm_12_224 md_165 rfl rfl (Nat.le_of_ble_eq_true rfl) m_c_0 (m_lt hh (by decide)) (Nat.le_of_ble_eq_true rfl) (Nat.le_of_ble_eq_true rfl) ?_
                cases hc17 : F165 n 1 (z1.2.1 27) z13.2 with
                | none => rw [hc17] at hf; cases hf
                | some z16 =>
                  rw [hc17, Option.bind_some] at hf
                  refine F165c (r0 := z16.1) (S0 := z16.2) hh hc17 ?_
                  refine r_iload fe_169_54 rfl ?_
                  refine r_iret fe_169_56 ⟨rfl, by decide⟩ ?_
                  exact dfin (P := fun r T => Q (some (.int r)) (mst T h)) hf hQ
theorem F169c {xs : Nat → Int32} {L9 d n : Nat} {h : AmH} {Q : Option Value → AmH → Prop} {r0 : Int32} {S0 S : mS} {l1 : Int32} {l2 : Int32} (hh : 172 ≤ h.2.1) (hf : F169 n l1 l2 S = some (r0, S0)) (hQ : Q (some (.int r0)) (mst S0 h)) : Ca (am_X xs L9) (d + 3) 169 [.ref 130, .int l1, .int l2] (mst S h) Q := (F169l hh hQ n) l1 l2 S hf
def F174b0 (F : Nat → mS → Option (Int32 × mS)) (n : Nat)  (S : mS) : Option (Int32 × mS) := ((F169 n 0 ((S.2.1 16 0) - 1) S).bind (fun z1 => some (z1.1, z1.2)))
def F174f : Nat → Nat → mS → Option (Int32 × mS)
  | 0, _, _ => none
  | n + 1, c, S => F174b0 (F174f n) n  S
theorem F174e0 (n : Nat)  (S : mS) : F174f (n + 1) 0  S = F174b0 (F174f n) n  S := rfl
def F174 (n : Nat)  (S : mS) : Option (Int32 × mS) := F174f n 0  S
set_option maxRecDepth 20000 in
set_option maxHeartbeats 2000000 in
theorem F174l {xs : Nat → Int32} {L9 d : Nat} {h : AmH} {Q : Option Value → AmH → Prop} {r0 : Int32} {S0 : mS} (hh : 172 ≤ h.2.1) (hQ : Q (some (.int r0)) (mst S0 h)) : ∀ n : Nat, (∀ (S : mS), F174f n 0 S = some (r0, S0) → Go (am_X xs L9) (d + 4) 174 0 [.ref 130] [] (mst S h) Q) := by
  intro n
  induction n with
  | zero => exact fun  S hf => (by cases hf)
  | succ n ih =>
    intro  S hf
    rw [F174e0] at hf
    unfold F174b0 at hf
    refine r_aload_n fe_174_0 rfl ?_
    refine r_iconst (v := 0) fe_174_1 (by decide) ?_
    refine r_aload_n fe_174_2 rfl ?_
    refine mr_getf hh fe_174_3 lf_12_55 rfl ?_
    refine r_iconst (v := 0) fe_174_6 (by decide) ?_
    refine r_iald (j := 0) (v := S.2.1 16 0) fe_174_7 m_c_16 (m_lt hh (by decide)) (by decide) (by decide) (by decide) rfl ?_
    refine r_iconst (v := 1) fe_174_8 (by decide) ?_
    refine r_isub (v := ((S.2.1 16 0) - 1)) fe_174_9 rfl ?_
    refine r_callV (as := [.int 0, .int ((S.2.1 16 0) - 1)]) (r := []) fe_174_10 lm_12_282 md_169 rfl rfl (Nat.le_of_ble_eq_true rfl) m_c_0 (m_lt hh (by decide)) (Nat.le_of_ble_eq_true rfl) (Nat.le_of_ble_eq_true rfl) ?_
    cases hc2 : F169 n 0 ((S.2.1 16 0) - 1) S with
    | none => rw [hc2] at hf; cases hf
    | some z1 =>
      rw [hc2, Option.bind_some] at hf
      refine F169c (r0 := z1.1) (S0 := z1.2) hh hc2 ?_
      refine r_iret fe_174_13 ⟨rfl, by decide⟩ ?_
      exact dfin (P := fun r T => Q (some (.int r)) (mst T h)) hf hQ
theorem F174c {xs : Nat → Int32} {L9 d n : Nat} {h : AmH} {Q : Option Value → AmH → Prop} {r0 : Int32} {S0 S : mS}  (hh : 172 ≤ h.2.1) (hf : F174 n  S = some (r0, S0)) (hQ : Q (some (.int r0)) (mst S0 h)) : Ca (am_X xs L9) (d + 4) 174 [.ref 130] (mst S h) Q := (F174l hh hQ n)  S hf
def F177b0 (F : Nat → Int32 → Int32 → Int32 → mS → Option (Int32 × mS)) (n : Nat) (l1 : Int32) (l2 : Int32) (l3 : Int32) (S : mS) : Option (Int32 × mS) := ((F161 n  S).bind (fun z1 => (if am_if .ne (z1.2.1 28) = true then F 41 l1 0 0 z1.2 else ((F162 n  z1.2).bind (fun z4 => ((F172 n (Int32.toInt64 z4.1) 97 122 z4.2).bind (fun z6 => (if am_if .ne z6.1 = true then F 41 l1 0 0 z6.2 else ((F165 n 0 (z6.2.1 27) z6.2).bind (fun z9 => F 41 l1 0 0 z9.2))))))))))
def F177b41 (F : Nat → Int32 → Int32 → Int32 → mS → Option (Int32 × mS)) (n : Nat) (l1 : Int32) (l2 : Int32) (l3 : Int32) (S : mS) : Option (Int32 × mS) := (if am_if .ne (S.1 28) = true then some (l2, S) else ((F162 n  S).bind (fun z12 => ((F172 n (Int32.toInt64 z12.1) 97 122 z12.2).bind (fun z14 => (if am_if .eq z14.1 = true then some (l2, z14.2) else ((F162 n  z14.2).bind (fun z17 => (if am_ic .gt z17.1 102 = true then ((F165 n 0 (z17.2.1 27) z17.2).bind (fun z20 => F 41 l1 l2 l3 z20.2)) else (if am_ic .ne l3 l1 = true then ((F162 n  z17.2).bind (fun z23 => F 41 l1 ((((10 * l2) + z23.1) - 97) + 1) (l3 + 1) (m_sI z23.2 27 ((z23.2.1 27) + 1)))) else ((F165 n 0 (z17.2.1 27) z17.2).bind (fun z25 => F 41 l1 l2 l3 z25.2))))))))))))
def F177f : Nat → Nat → Int32 → Int32 → Int32 → mS → Option (Int32 × mS)
  | 0, _, _, _, _, _ => none
  | n + 1, c, l1, l2, l3, S => if c = 0 then F177b0 (F177f n) n l1 l2 l3 S else F177b41 (F177f n) n l1 l2 l3 S
theorem F177e0 (n : Nat) (l1 : Int32) (l2 : Int32) (l3 : Int32) (S : mS) : F177f (n + 1) 0 l1 l2 l3 S = F177b0 (F177f n) n l1 l2 l3 S := if_pos rfl
theorem F177e41 (n : Nat) (l1 : Int32) (l2 : Int32) (l3 : Int32) (S : mS) : F177f (n + 1) 41 l1 l2 l3 S = F177b41 (F177f n) n l1 l2 l3 S := if_neg (by decide)
def F177 (n : Nat) (l1 : Int32) (S : mS) : Option (Int32 × mS) := F177f n 0 l1 0 0 S
set_option maxRecDepth 20000 in
set_option maxHeartbeats 2000000 in
theorem F177l {xs : Nat → Int32} {L9 d : Nat} {h : AmH} {Q : Option Value → AmH → Prop} {r0 : Int32} {S0 : mS} (hh : 172 ≤ h.2.1) (hQ : Q (some (.int r0)) (mst S0 h)) : ∀ n : Nat, (∀ (l1 : Int32) (l2 : Int32) (l3 : Int32) (S : mS), F177f n 0 l1 l2 l3 S = some (r0, S0) → Go (am_X xs L9) (d + 2) 177 0 [.ref 130, .int l1, .float 0, .float 0] [] (mst S h) Q) ∧ (∀ (l1 : Int32) (l2 : Int32) (l3 : Int32) (S : mS), F177f n 41 l1 l2 l3 S = some (r0, S0) → Go (am_X xs L9) (d + 2) 177 41 [.ref 130, .int l1, .int l2, .int l3] [] (mst S h) Q) := by
  intro n
  induction n with
  | zero => exact ⟨fun l1 l2 l3 S hf => (by cases hf), fun l1 l2 l3 S hf => (by cases hf)⟩
  | succ n ih =>
    refine ⟨?_, ?_⟩
    · intro l1 l2 l3 S hf
      rw [F177e0] at hf
      unfold F177b0 at hf
      refine r_aload_n fe_177_0 rfl ?_
      refine r_callV (as := []) (r := []) fe_177_1 lm_12_208 md_161 rfl rfl (Nat.le_of_ble_eq_true rfl) m_c_0 (m_lt hh (by decide)) (Nat.le_of_ble_eq_true rfl) (Nat.le_of_ble_eq_true rfl) ?_
      cases hc2 : F161 n  S with
      | none => rw [hc2] at hf; cases hf
      | some z1 =>
        rw [hc2, Option.bind_some] at hf
        refine F161c (r0 := z1.1) (S0 := z1.2) hh hc2 ?_
        refine r_iconst (v := 0) fe_177_4 (by decide) ?_
        refine r_istore_n fe_177_5 (Nat.le_of_ble_eq_true rfl) rfl ?_
        refine r_iconst (v := 0) fe_177_6 (by decide) ?_
        refine r_istore_n fe_177_7 (Nat.le_of_ble_eq_true rfl) rfl ?_
        refine r_aload_n fe_177_8 rfl ?_
        refine mr_getf hh fe_177_9 lf_12_185 rfl ?_
        by_cases hb3 : am_if .ne (z1.2.1 28) = true
        · rw [if_pos hb3] at hf
          refine r_if_t (t := 41) fe_177_12 (by decide) hb3 ?_
          refine go_weak (L0 := [.ref 130, .int l1, .int 0, .int 0]) (lwk_c (Or.inl rfl) (lwk_c (Or.inl rfl) (lwk_c (Or.inl rfl) (lwk_c (Or.inl rfl) (lwk_rf []))))) ?_
          exact ih.2 l1 0 0 z1.2 hf
        · rw [if_neg hb3] at hf
          refine r_if_f (t := 41) fe_177_12 (by decide) (Bool.eq_false_iff.mpr hb3) ?_
          refine r_aload_n fe_177_15 rfl ?_
          refine r_callV (as := []) (r := []) fe_177_16 lm_12_191 md_162 rfl rfl (Nat.le_of_ble_eq_true rfl) m_c_0 (m_lt hh (by decide)) (Nat.le_of_ble_eq_true rfl) (Nat.le_of_ble_eq_true rfl) ?_
          cases hc5 : F162 n  z1.2 with
          | none => rw [hc5] at hf; cases hf
          | some z4 =>
            rw [hc5, Option.bind_some] at hf
            refine F162c (r0 := z4.1) (S0 := z4.2) hh hc5 ?_
            refine r_i2l (v := (Int32.toInt64 z4.1)) fe_177_19 rfl ?_
            refine r_ldc2 fe_177_20 lk_12_289 ?_
            refine r_ldc2 fe_177_23 lk_12_291 ?_
            refine r_callS (as := [.long (Int32.toInt64 z4.1), .long 97, .long 122]) (r := []) fe_177_26 lm_12_143 md_172 rfl rfl (Nat.le_of_ble_eq_true rfl) (Nat.le_of_ble_eq_true rfl) (Nat.le_of_ble_eq_true rfl) ?_
            cases hc7 : F172 n (Int32.toInt64 z4.1) 97 122 z4.2 with
            | none => rw [hc7] at hf; cases hf
            | some z6 =>
              rw [hc7, Option.bind_some] at hf
              refine F172c (r0 := z6.1) (S0 := z6.2) hh hc7 ?_
              by_cases hb8 : am_if .ne z6.1 = true
              · rw [if_pos hb8] at hf
                refine r_if_t (t := 41) fe_177_29 (by decide) hb8 ?_
                refine go_weak (L0 := [.ref 130, .int l1, .int 0, .int 0]) (lwk_c (Or.inl rfl) (lwk_c (Or.inl rfl) (lwk_c (Or.inl rfl) (lwk_c (Or.inl rfl) (lwk_rf []))))) ?_
                exact ih.2 l1 0 0 z6.2 hf
              · rw [if_neg hb8] at hf
                refine r_if_f (t := 41) fe_177_29 (by decide) (Bool.eq_false_iff.mpr hb8) ?_
                refine r_aload_n fe_177_32 rfl ?_
                refine r_iconst (v := 0) fe_177_33 (by decide) ?_
                refine r_aload_n fe_177_34 rfl ?_
                refine mr_getf hh fe_177_35 lf_12_188 rfl ?_
                refine r_callV (as := [.int 0, .int (z6.2.1 27)]) (r := []) fe_177_38 lm_12_224 md_165 rfl rfl (Nat.le_of_ble_eq_true rfl) m_c_0 (m_lt hh (by decide)) (Nat.le_of_ble_eq_true rfl) (Nat.le_of_ble_eq_true rfl) ?_
                cases hc10 : F165 n 0 (z6.2.1 27) z6.2 with
                | none => rw [hc10] at hf; cases hf
                | some z9 =>
                  rw [hc10, Option.bind_some] at hf
                  refine F165c (r0 := z9.1) (S0 := z9.2) hh hc10 ?_
                  refine go_weak (L0 := [.ref 130, .int l1, .int 0, .int 0]) (lwk_c (Or.inl rfl) (lwk_c (Or.inl rfl) (lwk_c (Or.inl rfl) (lwk_c (Or.inl rfl) (lwk_rf []))))) ?_
                  exact ih.2 l1 0 0 z9.2 hf
    · intro l1 l2 l3 S hf
      rw [F177e41] at hf
      unfold F177b41 at hf
      refine r_aload_n fe_177_41 rfl ?_
      refine mr_getf hh fe_177_42 lf_12_185 rfl ?_
      by_cases hb11 : am_if .ne (S.1 28) = true
      · rw [if_pos hb11] at hf
        refine r_if_t (t := 122) fe_177_45 (by decide) hb11 ?_
        refine r_iload_n fe_177_122 rfl ?_
        refine r_iret fe_177_123 ⟨rfl, by decide⟩ ?_
        exact dfin (P := fun r T => Q (some (.int r)) (mst T h)) hf hQ
      · rw [if_neg hb11] at hf
        refine r_if_f (t := 122) fe_177_45 (by decide) (Bool.eq_false_iff.mpr hb11) ?_
        refine r_aload_n fe_177_48 rfl ?_
        refine r_callV (as := []) (r := []) fe_177_49 lm_12_191 md_162 rfl rfl (Nat.le_of_ble_eq_true rfl) m_c_0 (m_lt hh (by decide)) (Nat.le_of_ble_eq_true rfl) (Nat.le_of_ble_eq_true rfl) ?_
        cases hc13 : F162 n  S with
        | none => rw [hc13] at hf; cases hf
        | some z12 =>
          rw [hc13, Option.bind_some] at hf
          refine F162c (r0 := z12.1) (S0 := z12.2) hh hc13 ?_
          refine r_i2l (v := (Int32.toInt64 z12.1)) fe_177_52 rfl ?_
          refine r_ldc2 fe_177_53 lk_12_289 ?_
          refine r_ldc2 fe_177_56 lk_12_291 ?_
          refine r_callS (as := [.long (Int32.toInt64 z12.1), .long 97, .long 122]) (r := []) fe_177_59 lm_12_143 md_172 rfl rfl (Nat.le_of_ble_eq_true rfl) (Nat.le_of_ble_eq_true rfl) (Nat.le_of_ble_eq_true rfl) ?_
          cases hc15 : F172 n (Int32.toInt64 z12.1) 97 122 z12.2 with
          | none => rw [hc15] at hf; cases hf
          | some z14 =>
            rw [hc15, Option.bind_some] at hf
            refine F172c (r0 := z14.1) (S0 := z14.2) hh hc15 ?_
            by_cases hb16 : am_if .eq z14.1 = true
            · rw [if_pos hb16] at hf
              refine r_if_t (t := 122) fe_177_62 (by decide) hb16 ?_
              refine r_iload_n fe_177_122 rfl ?_
              refine r_iret fe_177_123 ⟨rfl, by decide⟩ ?_
              exact dfin (P := fun r T => Q (some (.int r)) (mst T h)) hf hQ
            · rw [if_neg hb16] at hf
              refine r_if_f (t := 122) fe_177_62 (by decide) (Bool.eq_false_iff.mpr hb16) ?_
              refine r_aload_n fe_177_65 rfl ?_
              refine r_callV (as := []) (r := []) fe_177_66 lm_12_191 md_162 rfl rfl (Nat.le_of_ble_eq_true rfl) m_c_0 (m_lt hh (by decide)) (Nat.le_of_ble_eq_true rfl) (Nat.le_of_ble_eq_true rfl) ?_
              cases hc18 : F162 n  z14.2 with
              | none => rw [hc18] at hf; cases hf
              | some z17 =>
                rw [hc18, Option.bind_some] at hf
                refine F162c (r0 := z17.1) (S0 := z17.2) hh hc18 ?_
                refine r_bipush (v := 102) fe_177_69 (by decide) ?_
                by_cases hb19 : am_ic .gt z17.1 102 = true
                · rw [if_pos hb19] at hf
                  refine r_ic_t (t := 79) fe_177_71 (by decide) hb19 ?_
                  refine r_aload_n fe_177_79 rfl ?_
                  refine r_iconst (v := 0) fe_177_80 (by decide) ?_
                  refine r_aload_n fe_177_81 rfl ?_
                  refine mr_getf hh fe_177_82 lf_12_188 rfl ?_
                  refine r_callV (as := [.int 0, .int (z17.2.1 27)]) (r := []) fe_177_85 lm_12_224 md_165 rfl rfl (Nat.le_of_ble_eq_true rfl) m_c_0 (m_lt hh (by decide)) (Nat.le_of_ble_eq_true rfl) (Nat.le_of_ble_eq_true rfl) ?_
                  cases hc21 : F165 n 0 (z17.2.1 27) z17.2 with
                  | none => rw [hc21] at hf; cases hf
                  | some z20 =>
                    rw [hc21, Option.bind_some] at hf
                    refine F165c (r0 := z20.1) (S0 := z20.2) hh hc21 ?_
                    refine r_goto (t := 41) fe_177_88 (by decide) ?_
                    refine go_weak (L0 := [.ref 130, .int l1, .int l2, .int l3]) (lwk_c (Or.inl rfl) (lwk_c (Or.inl rfl) (lwk_c (Or.inl rfl) (lwk_c (Or.inl rfl) (lwk_rf []))))) ?_
                    exact ih.2 l1 l2 l3 z20.2 hf
                · rw [if_neg hb19] at hf
                  refine r_ic_f (t := 79) fe_177_71 (by decide) (Bool.eq_false_iff.mpr hb19) ?_
                  refine r_iload_n fe_177_74 rfl ?_
                  refine r_iload_n fe_177_75 rfl ?_
                  by_cases hb22 : am_ic .ne l3 l1 = true
                  · rw [if_pos hb22] at hf
                    refine r_ic_t (t := 91) fe_177_76 (by decide) hb22 ?_
                    refine r_bipush (v := 10) fe_177_91 (by decide) ?_
                    refine r_iload_n fe_177_93 rfl ?_
                    refine r_imul (v := (10 * l2)) fe_177_94 rfl ?_
                    refine r_aload_n fe_177_95 rfl ?_
                    refine r_callV (as := []) (r := [.int (10 * l2)]) fe_177_96 lm_12_191 md_162 rfl rfl (Nat.le_of_ble_eq_true rfl) m_c_0 (m_lt hh (by decide)) (Nat.le_of_ble_eq_true rfl) (Nat.le_of_ble_eq_true rfl) ?_
                    cases hc24 : F162 n  z17.2 with
                    | none => rw [hc24] at hf; cases hf
                    | some z23 =>
                      rw [hc24, Option.bind_some] at hf
                      refine F162c (r0 := z23.1) (S0 := z23.2) hh hc24 ?_
                      refine r_iadd (v := ((10 * l2) + z23.1)) fe_177_99 rfl ?_
                      refine r_bipush (v := 97) fe_177_100 (by decide) ?_
                      refine r_isub (v := (((10 * l2) + z23.1) - 97)) fe_177_102 rfl ?_
                      refine r_iconst (v := 1) fe_177_103 (by decide) ?_
                      refine r_iadd (v := ((((10 * l2) + z23.1) - 97) + 1)) fe_177_104 rfl ?_
                      refine r_istore_n fe_177_105 (Nat.le_of_ble_eq_true rfl) rfl ?_
                      refine r_iinc (v := (l3 + 1)) fe_177_106 rfl rfl rfl ?_
                      refine r_aload_n fe_177_109 rfl ?_
                      refine r_dup fe_177_110 rfl ?_
                      refine mr_getf hh fe_177_111 lf_12_188 rfl ?_
                      refine r_iconst (v := 1) fe_177_114 (by decide) ?_
                      refine r_iadd (v := ((z23.2.1 27) + 1)) fe_177_115 rfl ?_
                      refine mr_putf hh fe_177_116 lf_12_188 (m_f_27 _ _) (by decide) rfl rfl rfl ?_
                      refine r_goto (t := 41) fe_177_119 (by decide) ?_
                      refine go_weak (L0 := [.ref 130, .int l1, .int ((((10 * l2) + z23.1) - 97) + 1), .int (l3 + 1)]) (lwk_c (Or.inl rfl) (lwk_c (Or.inl rfl) (lwk_c (Or.inl rfl) (lwk_c (Or.inl rfl) (lwk_rf []))))) ?_
                      exact ih.2 l1 ((((10 * l2) + z23.1) - 97) + 1) (l3 + 1) (m_sI z23.2 27 ((z23.2.1 27) + 1)) hf
                  · rw [if_neg hb22] at hf
                    refine r_ic_f (t := 91) fe_177_76 (by decide) (Bool.eq_false_iff.mpr hb22) ?_
                    refine r_aload_n fe_177_79 rfl ?_
                    refine r_iconst (v := 0) fe_177_80 (by decide) ?_
                    refine r_aload_n fe_177_81 rfl ?_
                    refine mr_getf hh fe_177_82 lf_12_188 rfl ?_
                    refine r_callV (as := [.int 0, .int (z17.2.1 27)]) (r := []) fe_177_85 lm_12_224 md_165 rfl rfl (Nat.le_of_ble_eq_true rfl) m_c_0 (m_lt hh (by decide)) (Nat.le_of_ble_eq_true rfl) (Nat.le_of_ble_eq_true rfl) ?_
                    cases hc26 : F165 n 0 (z17.2.1 27) z17.2 with
                    | none => rw [hc26] at hf; cases hf
                    | some z25 =>
                      rw [hc26, Option.bind_some] at hf
                      refine F165c (r0 := z25.1) (S0 := z25.2) hh hc26 ?_
                      refine r_goto (t := 41) fe_177_88 (by decide) ?_
                      refine go_weak (L0 := [.ref 130, .int l1, .int l2, .int l3]) (lwk_c (Or.inl rfl) (lwk_c (Or.inl rfl) (lwk_c (Or.inl rfl) (lwk_c (Or.inl rfl) (lwk_rf []))))) ?_
                      exact ih.2 l1 l2 l3 z25.2 hf
theorem F177c {xs : Nat → Int32} {L9 d n : Nat} {h : AmH} {Q : Option Value → AmH → Prop} {r0 : Int32} {S0 S : mS} {l1 : Int32} (hh : 172 ≤ h.2.1) (hf : F177 n l1 S = some (r0, S0)) (hQ : Q (some (.int r0)) (mst S0 h)) : Ca (am_X xs L9) (d + 2) 177 [.ref 130, .int l1] (mst S h) Q := (F177l hh hQ n).1 l1 0 0 S hf
def F168b0 (F : Nat → Int32 → Int32 → mS → Option (Unit × mS)) (n : Nat) (l1 : Int32) (l2 : Int32) (S : mS) : Option (Unit × mS) := ((F169 n 2 16 S).bind (fun z1 => (if am_if .ne (z1.2.1 28) = true then F 28 z1.1 0 (m_sA z1.2 16 0 0) else F 28 z1.1 0 (m_sA z1.2 16 0 z1.1))))
def F168b28 (F : Nat → Int32 → Int32 → mS → Option (Unit × mS)) (n : Nat) (l1 : Int32) (l2 : Int32) (S : mS) : Option (Unit × mS) := (if am_ic .ge l2 (S.2.1 16 0) = true then some ((), S) else (if am_ic .ge (l2 + 1) l1 = true then (if ¬ (l2 < 0 ∨ 16 ≤ (l2).toNatClampNeg) then (if ¬ (l2 < 0 ∨ 16 ≤ (l2).toNatClampNeg) then F 28 l1 (l2 + 1) (m_sA (m_sA S 17 (Int32.toNatClampNeg l2) (-1)) 18 (Int32.toNatClampNeg l2) 0) else none) else none) else (if ¬ (l2 < 0 ∨ 16 ≤ (l2).toNatClampNeg) then (if ¬ (l2 < 0 ∨ 16 ≤ (l2).toNatClampNeg) then F 28 l1 (l2 + 1) (m_sA (m_sA S 17 (Int32.toNatClampNeg l2) (l2 + 1)) 18 (Int32.toNatClampNeg l2) 0) else none) else none)))
def F168f : Nat → Nat → Int32 → Int32 → mS → Option (Unit × mS)
  | 0, _, _, _, _ => none
  | n + 1, c, l1, l2, S => if c = 0 then F168b0 (F168f n) n l1 l2 S else F168b28 (F168f n) n l1 l2 S
theorem F168e0 (n : Nat) (l1 : Int32) (l2 : Int32) (S : mS) : F168f (n + 1) 0 l1 l2 S = F168b0 (F168f n) n l1 l2 S := if_pos rfl
theorem F168e28 (n : Nat) (l1 : Int32) (l2 : Int32) (S : mS) : F168f (n + 1) 28 l1 l2 S = F168b28 (F168f n) n l1 l2 S := if_neg (by decide)
def F168 (n : Nat)  (S : mS) : Option (Unit × mS) := F168f n 0 0 0 S
set_option maxRecDepth 20000 in
set_option maxHeartbeats 2000000 in
theorem F168l {xs : Nat → Int32} {L9 d : Nat} {h : AmH} {Q : Option Value → AmH → Prop} {r0 : Unit} {S0 : mS} (hh : 172 ≤ h.2.1) (hQ : Q none (mst S0 h)) : ∀ n : Nat, (∀ (l1 : Int32) (l2 : Int32) (S : mS), F168f n 0 l1 l2 S = some (r0, S0) → Go (am_X xs L9) (d + 4) 168 0 [.ref 130, .float 0, .float 0] [] (mst S h) Q) ∧ (∀ (l1 : Int32) (l2 : Int32) (S : mS), F168f n 28 l1 l2 S = some (r0, S0) → Go (am_X xs L9) (d + 4) 168 28 [.ref 130, .int l1, .int l2] [] (mst S h) Q) := by
  intro n
  induction n with
  | zero => exact ⟨fun l1 l2 S hf => (by cases hf), fun l1 l2 S hf => (by cases hf)⟩
  | succ n ih =>
    refine ⟨?_, ?_⟩
    · intro l1 l2 S hf
      rw [F168e0] at hf
      unfold F168b0 at hf
      refine r_aload_n fe_168_0 rfl ?_
      refine r_iconst (v := 2) fe_168_1 (by decide) ?_
      refine r_bipush (v := 16) fe_168_2 (by decide) ?_
      refine r_callV (as := [.int 2, .int 16]) (r := []) fe_168_4 lm_12_282 md_169 rfl rfl (Nat.le_of_ble_eq_true rfl) m_c_0 (m_lt hh (by decide)) (Nat.le_of_ble_eq_true rfl) (Nat.le_of_ble_eq_true rfl) ?_
      cases hc2 : F169 n 2 16 S with
      | none => rw [hc2] at hf; cases hf
      | some z1 =>
        rw [hc2, Option.bind_some] at hf
        refine F169c (r0 := z1.1) (S0 := z1.2) hh hc2 ?_
        refine r_istore_n fe_168_7 (Nat.le_of_ble_eq_true rfl) rfl ?_
        refine r_aload_n fe_168_8 rfl ?_
        refine mr_getf hh fe_168_9 lf_12_55 rfl ?_
        refine r_iconst (v := 0) fe_168_12 (by decide) ?_
        refine r_aload_n fe_168_13 rfl ?_
        refine mr_getf hh fe_168_14 lf_12_185 rfl ?_
        by_cases hb3 : am_if .ne (z1.2.1 28) = true
        · rw [if_pos hb3] at hf
          refine r_if_t (t := 24) fe_168_17 (by decide) hb3 ?_
          refine r_iconst (v := 0) fe_168_24 (by decide) ?_
          refine mr_iast (k := 16) (n := 5) (j := 0) hh fe_168_25 rfl (by decide) (by decide) rfl rfl (by decide) (by decide) (by decide) ?_
          refine r_iconst (v := 0) fe_168_26 (by decide) ?_
          refine r_istore_n fe_168_27 (Nat.le_of_ble_eq_true rfl) rfl ?_
          refine go_weak (L0 := [.ref 130, .int z1.1, .int 0]) (lwk_c (Or.inl rfl) (lwk_c (Or.inl rfl) (lwk_c (Or.inl rfl) (lwk_rf [])))) ?_
          exact ih.2 z1.1 0 (m_sA z1.2 16 0 0) hf
        · rw [if_neg hb3] at hf
          refine r_if_f (t := 24) fe_168_17 (by decide) (Bool.eq_false_iff.mpr hb3) ?_
          refine r_iload_n fe_168_20 rfl ?_
          refine r_goto (t := 25) fe_168_21 (by decide) ?_
          refine mr_iast (k := 16) (n := 5) (j := 0) hh fe_168_25 rfl (by decide) (by decide) rfl rfl (by decide) (by decide) (by decide) ?_
          refine r_iconst (v := 0) fe_168_26 (by decide) ?_
          refine r_istore_n fe_168_27 (Nat.le_of_ble_eq_true rfl) rfl ?_
          refine go_weak (L0 := [.ref 130, .int z1.1, .int 0]) (lwk_c (Or.inl rfl) (lwk_c (Or.inl rfl) (lwk_c (Or.inl rfl) (lwk_rf [])))) ?_
          exact ih.2 z1.1 0 (m_sA z1.2 16 0 z1.1) hf
    · intro l1 l2 S hf
      rw [F168e28] at hf
      unfold F168b28 at hf
      refine r_iload_n fe_168_28 rfl ?_
      refine r_aload_n fe_168_29 rfl ?_
      refine mr_getf hh fe_168_30 lf_12_55 rfl ?_
      refine r_iconst (v := 0) fe_168_33 (by decide) ?_
      refine r_iald (j := 0) (v := S.2.1 16 0) fe_168_34 m_c_16 (m_lt hh (by decide)) (by decide) (by decide) (by decide) rfl ?_
      by_cases hb4 : am_ic .ge l2 (S.2.1 16 0) = true
      · rw [if_pos hb4] at hf
        refine r_ic_t (t := 71) fe_168_35 (by decide) hb4 ?_
        refine r_vret fe_168_71 ?_
        exact dfin (P := fun _ T => Q none (mst T h)) hf hQ
      · rw [if_neg hb4] at hf
        refine r_ic_f (t := 71) fe_168_35 (by decide) (Bool.eq_false_iff.mpr hb4) ?_
        refine r_aload_n fe_168_38 rfl ?_
        refine mr_getf hh fe_168_39 lf_12_58 rfl ?_
        refine r_iload_n fe_168_42 rfl ?_
        refine r_iload_n fe_168_43 rfl ?_
        refine r_iconst (v := 1) fe_168_44 (by decide) ?_
        refine r_iadd (v := (l2 + 1)) fe_168_45 rfl ?_
        refine r_iload_n fe_168_46 rfl ?_
        by_cases hb5 : am_ic .ge (l2 + 1) l1 = true
        · rw [if_pos hb5] at hf
          refine r_ic_t (t := 56) fe_168_47 (by decide) hb5 ?_
          refine r_iconst (v := -1) fe_168_56 (by decide) ?_
          by_cases hg6 : ¬ (l2 < 0 ∨ 16 ≤ (l2).toNatClampNeg)
          rotate_left
          · rw [if_neg hg6] at hf; cases hf
          rw [if_pos hg6] at hf
          refine mr_iast (k := 17) (n := 16) (j := (Int32.toNatClampNeg l2)) hh fe_168_57 rfl (by decide) (by decide) rfl rfl (fun z => hg6 (Or.inl z)) rfl (fun z => hg6 (Or.inr z)) ?_
          refine r_aload_n fe_168_58 rfl ?_
          refine mr_getf hh fe_168_59 lf_12_61 rfl ?_
          refine r_iload_n fe_168_62 rfl ?_
          refine r_iconst (v := 0) fe_168_63 (by decide) ?_
          by_cases hg7 : ¬ (l2 < 0 ∨ 16 ≤ (l2).toNatClampNeg)
          rotate_left
          · rw [if_neg hg7] at hf; cases hf
          rw [if_pos hg7] at hf
          refine mr_iast (k := 18) (n := 16) (j := (Int32.toNatClampNeg l2)) hh fe_168_64 rfl (by decide) (by decide) rfl rfl (fun z => hg7 (Or.inl z)) rfl (fun z => hg7 (Or.inr z)) ?_
          refine r_iinc (v := (l2 + 1)) fe_168_65 rfl rfl rfl ?_
          refine r_goto (t := 28) fe_168_68 (by decide) ?_
          refine go_weak (L0 := [.ref 130, .int l1, .int (l2 + 1)]) (lwk_c (Or.inl rfl) (lwk_c (Or.inl rfl) (lwk_c (Or.inl rfl) (lwk_rf [])))) ?_
          exact ih.2 l1 (l2 + 1) (m_sA (m_sA S 17 (Int32.toNatClampNeg l2) (-1)) 18 (Int32.toNatClampNeg l2) 0) hf
        · rw [if_neg hb5] at hf
          refine r_ic_f (t := 56) fe_168_47 (by decide) (Bool.eq_false_iff.mpr hb5) ?_
          refine r_iload_n fe_168_50 rfl ?_
          refine r_iconst (v := 1) fe_168_51 (by decide) ?_
          refine r_iadd (v := (l2 + 1)) fe_168_52 rfl ?_
          refine r_goto (t := 57) fe_168_53 (by decide) ?_
          by_cases hg8 : ¬ (l2 < 0 ∨ 16 ≤ (l2).toNatClampNeg)
          rotate_left
          · rw [if_neg hg8] at hf; cases hf
          rw [if_pos hg8] at hf
          refine mr_iast (k := 17) (n := 16) (j := (Int32.toNatClampNeg l2)) hh fe_168_57 rfl (by decide) (by decide) rfl rfl (fun z => hg8 (Or.inl z)) rfl (fun z => hg8 (Or.inr z)) ?_
          refine r_aload_n fe_168_58 rfl ?_
          refine mr_getf hh fe_168_59 lf_12_61 rfl ?_
          refine r_iload_n fe_168_62 rfl ?_
          refine r_iconst (v := 0) fe_168_63 (by decide) ?_
          by_cases hg9 : ¬ (l2 < 0 ∨ 16 ≤ (l2).toNatClampNeg)
          rotate_left
          · rw [if_neg hg9] at hf; cases hf
          rw [if_pos hg9] at hf
          refine mr_iast (k := 18) (n := 16) (j := (Int32.toNatClampNeg l2)) hh fe_168_64 rfl (by decide) (by decide) rfl rfl (fun z => hg9 (Or.inl z)) rfl (fun z => hg9 (Or.inr z)) ?_
          refine r_iinc (v := (l2 + 1)) fe_168_65 rfl rfl rfl ?_
          refine r_goto (t := 28) fe_168_68 (by decide) ?_
          refine go_weak (L0 := [.ref 130, .int l1, .int (l2 + 1)]) (lwk_c (Or.inl rfl) (lwk_c (Or.inl rfl) (lwk_c (Or.inl rfl) (lwk_rf [])))) ?_
          exact ih.2 l1 (l2 + 1) (m_sA (m_sA S 17 (Int32.toNatClampNeg l2) (l2 + 1)) 18 (Int32.toNatClampNeg l2) 0) hf
theorem F168c {xs : Nat → Int32} {L9 d n : Nat} {h : AmH} {Q : Option Value → AmH → Prop} {r0 : Unit} {S0 S : mS}  (hh : 172 ≤ h.2.1) (hf : F168 n  S = some (r0, S0)) (hQ : Q none (mst S0 h)) : Ca (am_X xs L9) (d + 4) 168 [.ref 130] (mst S h) Q := (F168l hh hQ n).1 0 0 S hf
def F173b0 (F : Nat → mS → Option (Unit × mS)) (n : Nat)  (S : mS) : Option (Unit × mS) := ((F174 n  S).bind (fun z1 => ((F161 n  z1.2).bind (fun z3 => ((F174 n  z3.2).bind (fun z5 => (if am_if .ne (z5.2.1 28) = true then (if am_if .ne (z5.2.1 28) = true then some ((), z5.2) else (if ¬ (z1.1 < 0 ∨ 16 ≤ (z1.1).toNatClampNeg) then some ((), (m_sA z5.2 17 (Int32.toNatClampNeg z1.1) z5.1)) else none)) else (if am_ic .ne z5.1 z1.1 = true then (if am_if .ne (z5.2.1 28) = true then some ((), z5.2) else (if ¬ (z1.1 < 0 ∨ 16 ≤ (z1.1).toNatClampNeg) then some ((), (m_sA z5.2 17 (Int32.toNatClampNeg z1.1) z5.1)) else none)) else ((F165 n 1 (z3.2.1 27) z5.2).bind (fun z13 => (if am_if .ne (z13.2.1 28) = true then some ((), z13.2) else (if ¬ (z1.1 < 0 ∨ 16 ≤ (z1.1).toNatClampNeg) then some ((), (m_sA z13.2 17 (Int32.toNatClampNeg z1.1) z5.1)) else none))))))))))))
def F173f : Nat → Nat → mS → Option (Unit × mS)
  | 0, _, _ => none
  | n + 1, c, S => F173b0 (F173f n) n  S
theorem F173e0 (n : Nat)  (S : mS) : F173f (n + 1) 0  S = F173b0 (F173f n) n  S := rfl
def F173 (n : Nat)  (S : mS) : Option (Unit × mS) := F173f n 0  S
set_option maxRecDepth 20000 in
set_option maxHeartbeats 2000000 in
theorem F173l {xs : Nat → Int32} {L9 d : Nat} {h : AmH} {Q : Option Value → AmH → Prop} {r0 : Unit} {S0 : mS} (hh : 172 ≤ h.2.1) (hQ : Q none (mst S0 h)) : ∀ n : Nat, (∀ (S : mS), F173f n 0 S = some (r0, S0) → Go (am_X xs L9) (d + 5) 173 0 [.ref 130, .float 0, .float 0, .float 0] [] (mst S h) Q) := by
  intro n
  induction n with
  | zero => exact fun  S hf => (by cases hf)
  | succ n ih =>
    intro  S hf
    rw [F173e0] at hf
    unfold F173b0 at hf
    refine r_aload_n fe_173_0 rfl ?_
    refine r_callV (as := []) (r := []) fe_173_1 lm_12_286 md_174 rfl rfl (Nat.le_of_ble_eq_true rfl) m_c_0 (m_lt hh (by decide)) (Nat.le_of_ble_eq_true rfl) (Nat.le_of_ble_eq_true rfl) ?_
    cases hc2 : F174 n  S with
    | none => rw [hc2] at hf; cases hf
    | some z1 =>
      rw [hc2, Option.bind_some] at hf
      refine F174c (r0 := z1.1) (S0 := z1.2) hh hc2 ?_
      refine r_istore_n fe_173_4 (Nat.le_of_ble_eq_true rfl) rfl ?_
      refine r_aload_n fe_173_5 rfl ?_
      refine r_callV (as := []) (r := []) fe_173_6 lm_12_208 md_161 rfl rfl (Nat.le_of_ble_eq_true rfl) m_c_0 (m_lt hh (by decide)) (Nat.le_of_ble_eq_true rfl) (Nat.le_of_ble_eq_true rfl) ?_
      cases hc4 : F161 n  z1.2 with
      | none => rw [hc4] at hf; cases hf
      | some z3 =>
        rw [hc4, Option.bind_some] at hf
        refine F161c (r0 := z3.1) (S0 := z3.2) hh hc4 ?_
        refine r_aload_n fe_173_9 rfl ?_
        refine mr_getf hh fe_173_10 lf_12_188 rfl ?_
        refine r_istore_n fe_173_13 (Nat.le_of_ble_eq_true rfl) rfl ?_
        refine r_aload_n fe_173_14 rfl ?_
        refine r_callV (as := []) (r := []) fe_173_15 lm_12_286 md_174 rfl rfl (Nat.le_of_ble_eq_true rfl) m_c_0 (m_lt hh (by decide)) (Nat.le_of_ble_eq_true rfl) (Nat.le_of_ble_eq_true rfl) ?_
        cases hc6 : F174 n  z3.2 with
        | none => rw [hc6] at hf; cases hf
        | some z5 =>
          rw [hc6, Option.bind_some] at hf
          refine F174c (r0 := z5.1) (S0 := z5.2) hh hc6 ?_
          refine r_istore_n fe_173_18 (Nat.le_of_ble_eq_true rfl) rfl ?_
          refine r_aload_n fe_173_19 rfl ?_
          refine mr_getf hh fe_173_20 lf_12_185 rfl ?_
          by_cases hb7 : am_if .ne (z5.2.1 28) = true
          · rw [if_pos hb7] at hf
            refine r_if_t (t := 37) fe_173_23 (by decide) hb7 ?_
            refine r_aload_n fe_173_37 rfl ?_
            refine mr_getf hh fe_173_38 lf_12_185 rfl ?_
            by_cases hb8 : am_if .ne (z5.2.1 28) = true
            · rw [if_pos hb8] at hf
              refine r_if_t (t := 51) fe_173_41 (by decide) hb8 ?_
              refine r_vret fe_173_51 ?_
              exact dfin (P := fun _ T => Q none (mst T h)) hf hQ
            · rw [if_neg hb8] at hf
              refine r_if_f (t := 51) fe_173_41 (by decide) (Bool.eq_false_iff.mpr hb8) ?_
              refine r_aload_n fe_173_44 rfl ?_
              refine mr_getf hh fe_173_45 lf_12_58 rfl ?_
              refine r_iload_n fe_173_48 rfl ?_
              refine r_iload_n fe_173_49 rfl ?_
              by_cases hg9 : ¬ (z1.1 < 0 ∨ 16 ≤ (z1.1).toNatClampNeg)
              rotate_left
              · rw [if_neg hg9] at hf; cases hf
              rw [if_pos hg9] at hf
              refine mr_iast (k := 17) (n := 16) (j := (Int32.toNatClampNeg z1.1)) hh fe_173_50 rfl (by decide) (by decide) rfl rfl (fun z => hg9 (Or.inl z)) rfl (fun z => hg9 (Or.inr z)) ?_
              refine r_vret fe_173_51 ?_
              exact dfin (P := fun _ T => Q none (mst T h)) hf hQ
          · rw [if_neg hb7] at hf
            refine r_if_f (t := 37) fe_173_23 (by decide) (Bool.eq_false_iff.mpr hb7) ?_
            refine r_iload_n fe_173_26 rfl ?_
            refine r_iload_n fe_173_27 rfl ?_
            by_cases hb10 : am_ic .ne z5.1 z1.1 = true
            · rw [if_pos hb10] at hf
              refine r_ic_t (t := 37) fe_173_28 (by decide) hb10 ?_
              refine r_aload_n fe_173_37 rfl ?_
              refine mr_getf hh fe_173_38 lf_12_185 rfl ?_
              by_cases hb11 : am_if .ne (z5.2.1 28) = true
              · rw [if_pos hb11] at hf
                refine r_if_t (t := 51) fe_173_41 (by decide) hb11 ?_
                refine r_vret fe_173_51 ?_
                exact dfin (P := fun _ T => Q none (mst T h)) hf hQ
              · rw [if_neg hb11] at hf
                refine r_if_f (t := 51) fe_173_41 (by decide) (Bool.eq_false_iff.mpr hb11) ?_
                refine r_aload_n fe_173_44 rfl ?_
                refine mr_getf hh fe_173_45 lf_12_58 rfl ?_
                refine r_iload_n fe_173_48 rfl ?_
                refine r_iload_n fe_173_49 rfl ?_
                by_cases hg12 : ¬ (z1.1 < 0 ∨ 16 ≤ (z1.1).toNatClampNeg)
                rotate_left
                · rw [if_neg hg12] at hf; cases hf
                rw [if_pos hg12] at hf
                refine mr_iast (k := 17) (n := 16) (j := (Int32.toNatClampNeg z1.1)) hh fe_173_50 rfl (by decide) (by decide) rfl rfl (fun z => hg12 (Or.inl z)) rfl (fun z => hg12 (Or.inr z)) ?_
                refine r_vret fe_173_51 ?_
                exact dfin (P := fun _ T => Q none (mst T h)) hf hQ
            · rw [if_neg hb10] at hf
              refine r_ic_f (t := 37) fe_173_28 (by decide) (Bool.eq_false_iff.mpr hb10) ?_
              refine r_aload_n fe_173_31 rfl ?_
              refine r_iconst (v := 1) fe_173_32 (by decide) ?_
              refine r_iload_n fe_173_33 rfl ?_
              refine r_callV (as := [.int 1, .int (z3.2.1 27)]) (r := []) fe_173_34 lm_12_224 md_165 rfl rfl (Nat.le_of_ble_eq_true rfl) m_c_0 (m_lt hh (by decide)) (Nat.le_of_ble_eq_true rfl) (Nat.le_of_ble_eq_true rfl) ?_
              cases hc14 : F165 n 1 (z3.2.1 27) z5.2 with
              | none => rw [hc14] at hf; cases hf
              | some z13 =>
                rw [hc14, Option.bind_some] at hf
                refine F165c (r0 := z13.1) (S0 := z13.2) hh hc14 ?_
                refine r_aload_n fe_173_37 rfl ?_
                refine mr_getf hh fe_173_38 lf_12_185 rfl ?_
                by_cases hb15 : am_if .ne (z13.2.1 28) = true
                · rw [if_pos hb15] at hf
                  refine r_if_t (t := 51) fe_173_41 (by decide) hb15 ?_
                  refine r_vret fe_173_51 ?_
                  exact dfin (P := fun _ T => Q none (mst T h)) hf hQ
                · rw [if_neg hb15] at hf
                  refine r_if_f (t := 51) fe_173_41 (by decide) (Bool.eq_false_iff.mpr hb15) ?_
                  refine r_aload_n fe_173_44 rfl ?_
                  refine mr_getf hh fe_173_45 lf_12_58 rfl ?_
                  refine r_iload_n fe_173_48 rfl ?_
                  refine r_iload_n fe_173_49 rfl ?_
                  by_cases hg16 : ¬ (z1.1 < 0 ∨ 16 ≤ (z1.1).toNatClampNeg)
                  rotate_left
                  · rw [if_neg hg16] at hf; cases hf
                  rw [if_pos hg16] at hf
                  refine mr_iast (k := 17) (n := 16) (j := (Int32.toNatClampNeg z1.1)) hh fe_173_50 rfl (by decide) (by decide) rfl rfl (fun z => hg16 (Or.inl z)) rfl (fun z => hg16 (Or.inr z)) ?_
                  refine r_vret fe_173_51 ?_
                  exact dfin (P := fun _ T => Q none (mst T h)) hf hQ
theorem F173c {xs : Nat → Int32} {L9 d n : Nat} {h : AmH} {Q : Option Value → AmH → Prop} {r0 : Unit} {S0 S : mS}  (hh : 172 ≤ h.2.1) (hf : F173 n  S = some (r0, S0)) (hQ : Q none (mst S0 h)) : Ca (am_X xs L9) (d + 5) 173 [.ref 130] (mst S h) Q := (F173l hh hQ n)  S hf
def F176_149b0 (F : Nat → Int32 → Int32 → Int32 → mS → Option (Int32 × mS)) (n : Nat) (l1 : Int32) (l2 : Int32) (l3 : Int32) (S : mS) : Option (Int32 × mS) := F 2 l1 l2 0 S
def F176_149b2 (F : Nat → Int32 → Int32 → Int32 → mS → Option (Int32 × mS)) (n : Nat) (l1 : Int32) (l2 : Int32) (l3 : Int32) (S : mS) : Option (Int32 × mS) := (if am_ic .ge l3 l1 = true then some ((-1), S) else (if ¬ (l3 < 0 ∨ 6 ≤ (l3).toNatClampNeg) then (if am_ic .ne (S.2.1 19 (Int32.toNatClampNeg l3)) l2 = true then F 2 l1 l2 (l3 + 1) S else some (l3, S)) else none))
def F176_149f : Nat → Nat → Int32 → Int32 → Int32 → mS → Option (Int32 × mS)
  | 0, _, _, _, _, _ => none
  | n + 1, c, l1, l2, l3, S => if c = 0 then F176_149b0 (F176_149f n) n l1 l2 l3 S else F176_149b2 (F176_149f n) n l1 l2 l3 S
theorem F176_149e0 (n : Nat) (l1 : Int32) (l2 : Int32) (l3 : Int32) (S : mS) : F176_149f (n + 1) 0 l1 l2 l3 S = F176_149b0 (F176_149f n) n l1 l2 l3 S := if_pos rfl
theorem F176_149e2 (n : Nat) (l1 : Int32) (l2 : Int32) (l3 : Int32) (S : mS) : F176_149f (n + 1) 2 l1 l2 l3 S = F176_149b2 (F176_149f n) n l1 l2 l3 S := if_neg (by decide)
def F176_149 (n : Nat) (l1 : Int32) (l2 : Int32) (S : mS) : Option (Int32 × mS) := F176_149f n 0 l1 l2 0 S
set_option maxRecDepth 20000 in
set_option maxHeartbeats 2000000 in
theorem F176_149l {xs : Nat → Int32} {L9 d : Nat} {h : AmH} {Q : Option Value → AmH → Prop} {r0 : Int32} {S0 : mS} (hh : 172 ≤ h.2.1) (hQ : Q (some (.int r0)) (mst S0 h)) : ∀ n : Nat, (∀ (l1 : Int32) (l2 : Int32) (l3 : Int32) (S : mS), F176_149f n 0 l1 l2 l3 S = some (r0, S0) → Go (am_X xs L9) (d + 0) 176 0 [.ref 149, .int l1, .int l2, .float 0] [] (mst S h) Q) ∧ (∀ (l1 : Int32) (l2 : Int32) (l3 : Int32) (S : mS), F176_149f n 2 l1 l2 l3 S = some (r0, S0) → Go (am_X xs L9) (d + 0) 176 2 [.ref 149, .int l1, .int l2, .int l3] [] (mst S h) Q) := by
  intro n
  induction n with
  | zero => exact ⟨fun l1 l2 l3 S hf => (by cases hf), fun l1 l2 l3 S hf => (by cases hf)⟩
  | succ n ih =>
    refine ⟨?_, ?_⟩
    · intro l1 l2 l3 S hf
      rw [F176_149e0] at hf
      unfold F176_149b0 at hf
      refine r_iconst (v := 0) fe_176_0 (by decide) ?_
      refine r_istore_n fe_176_1 (Nat.le_of_ble_eq_true rfl) rfl ?_
      refine go_weak (L0 := [.ref 149, .int l1, .int l2, .int 0]) (lwk_c (Or.inl rfl) (lwk_c (Or.inl rfl) (lwk_c (Or.inl rfl) (lwk_c (Or.inl rfl) (lwk_rf []))))) ?_
      exact ih.2 l1 l2 0 S hf
    · intro l1 l2 l3 S hf
      rw [F176_149e2] at hf
      unfold F176_149b2 at hf
      refine r_iload_n fe_176_2 rfl ?_
      refine r_iload_n fe_176_3 rfl ?_
      by_cases hb1 : am_ic .ge l3 l1 = true
      · rw [if_pos hb1] at hf
        refine r_ic_t (t := 22) fe_176_4 (by decide) hb1 ?_
        refine r_iconst (v := -1) fe_176_22 (by decide) ?_
        refine r_iret fe_176_23 ⟨rfl, by decide⟩ ?_
        exact dfin (P := fun r T => Q (some (.int r)) (mst T h)) hf hQ
      · rw [if_neg hb1] at hf
        refine r_ic_f (t := 22) fe_176_4 (by decide) (Bool.eq_false_iff.mpr hb1) ?_
        refine r_aload_n fe_176_7 rfl ?_
        refine r_iload_n fe_176_8 rfl ?_
        by_cases hg2 : ¬ (l3 < 0 ∨ 6 ≤ (l3).toNatClampNeg)
        rotate_left
        · rw [if_neg hg2] at hf; cases hf
        rw [if_pos hg2] at hf
        refine r_iald (j := (Int32.toNatClampNeg l3)) (v := S.2.1 19 (Int32.toNatClampNeg l3)) fe_176_9 m_c_19 (m_lt hh (by decide)) (fun z => hg2 (Or.inl z)) rfl (fun z => hg2 (Or.inr z)) rfl ?_
        refine r_iload_n fe_176_10 rfl ?_
        by_cases hb3 : am_ic .ne (S.2.1 19 (Int32.toNatClampNeg l3)) l2 = true
        · rw [if_pos hb3] at hf
          refine r_ic_t (t := 16) fe_176_11 (by decide) hb3 ?_
          refine r_iinc (v := (l3 + 1)) fe_176_16 rfl rfl rfl ?_
          refine r_goto (t := 2) fe_176_19 (by decide) ?_
          refine go_weak (L0 := [.ref 149, .int l1, .int l2, .int (l3 + 1)]) (lwk_c (Or.inl rfl) (lwk_c (Or.inl rfl) (lwk_c (Or.inl rfl) (lwk_c (Or.inl rfl) (lwk_rf []))))) ?_
          exact ih.2 l1 l2 (l3 + 1) S hf
        · rw [if_neg hb3] at hf
          refine r_ic_f (t := 16) fe_176_11 (by decide) (Bool.eq_false_iff.mpr hb3) ?_
          refine r_iload_n fe_176_14 rfl ?_
          refine r_iret fe_176_15 ⟨rfl, by decide⟩ ?_
          exact dfin (P := fun r T => Q (some (.int r)) (mst T h)) hf hQ
theorem F176_149c {xs : Nat → Int32} {L9 d n : Nat} {h : AmH} {Q : Option Value → AmH → Prop} {r0 : Int32} {S0 S : mS} {l1 : Int32} {l2 : Int32} (hh : 172 ≤ h.2.1) (hf : F176_149 n l1 l2 S = some (r0, S0)) (hQ : Q (some (.int r0)) (mst S0 h)) : Ca (am_X xs L9) (d + 0) 176 [.ref 149, .int l1, .int l2] (mst S h) Q := (F176_149l hh hQ n).1 l1 l2 0 S hf
def F175_149b0 (F : Nat → Int32 → mS → Option (Int32 × mS)) (n : Nat) (l2 : Int32) (S : mS) : Option (Int32 × mS) := ((F161 n  S).bind (fun z1 => ((F174 n  z1.2).bind (fun z3 => (if am_if .ne (z3.2.1 28) = true then some (z3.1, z3.2) else ((F176_149 n l2 z3.1 z3.2).bind (fun z6 => (if am_ic .eq z6.1 (-1) = true then some (z3.1, z6.2) else ((F165 n 1 (z1.2.1 27) z6.2).bind (fun z9 => some (z3.1, z9.2)))))))))))
def F175_149f : Nat → Nat → Int32 → mS → Option (Int32 × mS)
  | 0, _, _, _ => none
  | n + 1, c, l2, S => F175_149b0 (F175_149f n) n l2 S
theorem F175_149e0 (n : Nat) (l2 : Int32) (S : mS) : F175_149f (n + 1) 0 l2 S = F175_149b0 (F175_149f n) n l2 S := rfl
def F175_149 (n : Nat) (l2 : Int32) (S : mS) : Option (Int32 × mS) := F175_149f n 0 l2 S
set_option maxRecDepth 20000 in
set_option maxHeartbeats 2000000 in
theorem F175_149l {xs : Nat → Int32} {L9 d : Nat} {h : AmH} {Q : Option Value → AmH → Prop} {r0 : Int32} {S0 : mS} (hh : 172 ≤ h.2.1) (hQ : Q (some (.int r0)) (mst S0 h)) : ∀ n : Nat, (∀ (l2 : Int32) (S : mS), F175_149f n 0 l2 S = some (r0, S0) → Go (am_X xs L9) (d + 5) 175 0 [.ref 130, .ref 149, .int l2, .float 0, .float 0] [] (mst S h) Q) := by
  intro n
  induction n with
  | zero => exact fun l2 S hf => (by cases hf)
  | succ n ih =>
    intro l2 S hf
    rw [F175_149e0] at hf
    unfold F175_149b0 at hf
    refine r_aload_n fe_175_0 rfl ?_
    refine r_callV (as := []) (r := []) fe_175_1 lm_12_208 md_161 rfl rfl (Nat.le_of_ble_eq_true rfl) m_c_0 (m_lt hh (by decide)) (Nat.le_of_ble_eq_true rfl) (Nat.le_of_ble_eq_true rfl) ?_
    cases hc2 : F161 n  S with
    | none => rw [hc2] at hf; cases hf
    | some z1 =>
      rw [hc2, Option.bind_some] at hf
      refine F161c (r0 := z1.1) (S0 := z1.2) hh hc2 ?_
      refine r_aload_n fe_175_4 rfl ?_
      refine mr_getf hh fe_175_5 lf_12_188 rfl ?_
      refine r_istore_n fe_175_8 (Nat.le_of_ble_eq_true rfl) rfl ?_
      refine r_aload_n fe_175_9 rfl ?_
      refine r_callV (as := []) (r := []) fe_175_10 lm_12_286 md_174 rfl rfl (Nat.le_of_ble_eq_true rfl) m_c_0 (m_lt hh (by decide)) (Nat.le_of_ble_eq_true rfl) (Nat.le_of_ble_eq_true rfl) ?_
      cases hc4 : F174 n  z1.2 with
      | none => rw [hc4] at hf; cases hf
      | some z3 =>
        rw [hc4, Option.bind_some] at hf
        refine F174c (r0 := z3.1) (S0 := z3.2) hh hc4 ?_
        refine r_istore fe_175_13 (Nat.le_of_ble_eq_true rfl) rfl ?_
        refine r_aload_n fe_175_15 rfl ?_
        refine mr_getf hh fe_175_16 lf_12_185 rfl ?_
        by_cases hb5 : am_if .ne (z3.2.1 28) = true
        · rw [if_pos hb5] at hf
          refine r_if_t (t := 39) fe_175_19 (by decide) hb5 ?_
          refine r_iload fe_175_39 rfl ?_
          refine r_iret fe_175_41 ⟨rfl, by decide⟩ ?_
          exact dfin (P := fun r T => Q (some (.int r)) (mst T h)) hf hQ
        · rw [if_neg hb5] at hf
          refine r_if_f (t := 39) fe_175_19 (by decide) (Bool.eq_false_iff.mpr hb5) ?_
          refine r_aload_n fe_175_22 rfl ?_
          refine r_iload_n fe_175_23 rfl ?_
          refine r_iload fe_175_24 rfl ?_
          refine r_callS (as := [.ref 149, .int l2, .int z3.1]) (r := []) fe_175_26 lm_12_147 md_176 rfl rfl (Nat.le_of_ble_eq_true rfl) (Nat.le_of_ble_eq_true rfl) (Nat.le_of_ble_eq_true rfl) ?_
          cases hc7 : F176_149 n l2 z3.1 z3.2 with
          | none => rw [hc7] at hf; cases hf
          | some z6 =>
            rw [hc7, Option.bind_some] at hf
            refine F176_149c (r0 := z6.1) (S0 := z6.2) hh hc7 ?_
            refine r_iconst (v := -1) fe_175_29 (by decide) ?_
            by_cases hb8 : am_ic .eq z6.1 (-1) = true
            · rw [if_pos hb8] at hf
              refine r_ic_t (t := 39) fe_175_30 (by decide) hb8 ?_
              refine r_iload fe_175_39 rfl ?_
              refine r_iret fe_175_41 ⟨rfl, by decide⟩ ?_
              exact dfin (P := fun r T => Q (some (.int r)) (mst T h)) hf hQ
            · rw [if_neg hb8] at hf
              refine r_ic_f (t := 39) fe_175_30 (by decide) (Bool.eq_false_iff.mpr hb8) ?_
              refine r_aload_n fe_175_33 rfl ?_
              refine r_iconst (v := 1) fe_175_34 (by decide) ?_
              refine r_iload_n fe_175_35 rfl ?_
              refine r_callV (as := [.int 1, .int (z1.2.1 27)]) (r := []) fe_175_36 lm_12_224 md_165 rfl rfl (Nat.le_of_ble_eq_true rfl) m_c_0 (m_lt hh (by decide)) (Nat.le_of_ble_eq_true rfl) (Nat.le_of_ble_eq_true rfl) ?_
              cases hc10 : F165 n 1 (z1.2.1 27) z6.2 with
              | none => rw [hc10] at hf; cases hf
              | some z9 =>
                rw [hc10, Option.bind_some] at hf
                refine F165c (r0 := z9.1) (S0 := z9.2) hh hc10 ?_
                refine r_iload fe_175_39 rfl ?_
                refine r_iret fe_175_41 ⟨rfl, by decide⟩ ?_
                exact dfin (P := fun r T => Q (some (.int r)) (mst T h)) hf hQ
theorem F175_149c {xs : Nat → Int32} {L9 d n : Nat} {h : AmH} {Q : Option Value → AmH → Prop} {r0 : Int32} {S0 S : mS} {l2 : Int32} (hh : 172 ≤ h.2.1) (hf : F175_149 n l2 S = some (r0, S0)) (hQ : Q (some (.int r0)) (mst S0 h)) : Ca (am_X xs L9) (d + 5) 175 [.ref 130, .ref 149, .int l2] (mst S h) Q := (F175_149l hh hQ n) l2 S hf
def F176_151b0 (F : Nat → Int32 → Int32 → Int32 → mS → Option (Int32 × mS)) (n : Nat) (l1 : Int32) (l2 : Int32) (l3 : Int32) (S : mS) : Option (Int32 × mS) := F 2 l1 l2 0 S
def F176_151b2 (F : Nat → Int32 → Int32 → Int32 → mS → Option (Int32 × mS)) (n : Nat) (l1 : Int32) (l2 : Int32) (l3 : Int32) (S : mS) : Option (Int32 × mS) := (if am_ic .ge l3 l1 = true then some ((-1), S) else (if ¬ (l3 < 0 ∨ 4 ≤ (l3).toNatClampNeg) then (if am_ic .ne (S.2.1 21 (Int32.toNatClampNeg l3)) l2 = true then F 2 l1 l2 (l3 + 1) S else some (l3, S)) else none))
def F176_151f : Nat → Nat → Int32 → Int32 → Int32 → mS → Option (Int32 × mS)
  | 0, _, _, _, _, _ => none
  | n + 1, c, l1, l2, l3, S => if c = 0 then F176_151b0 (F176_151f n) n l1 l2 l3 S else F176_151b2 (F176_151f n) n l1 l2 l3 S
theorem F176_151e0 (n : Nat) (l1 : Int32) (l2 : Int32) (l3 : Int32) (S : mS) : F176_151f (n + 1) 0 l1 l2 l3 S = F176_151b0 (F176_151f n) n l1 l2 l3 S := if_pos rfl
theorem F176_151e2 (n : Nat) (l1 : Int32) (l2 : Int32) (l3 : Int32) (S : mS) : F176_151f (n + 1) 2 l1 l2 l3 S = F176_151b2 (F176_151f n) n l1 l2 l3 S := if_neg (by decide)
def F176_151 (n : Nat) (l1 : Int32) (l2 : Int32) (S : mS) : Option (Int32 × mS) := F176_151f n 0 l1 l2 0 S
set_option maxRecDepth 20000 in
set_option maxHeartbeats 2000000 in
theorem F176_151l {xs : Nat → Int32} {L9 d : Nat} {h : AmH} {Q : Option Value → AmH → Prop} {r0 : Int32} {S0 : mS} (hh : 172 ≤ h.2.1) (hQ : Q (some (.int r0)) (mst S0 h)) : ∀ n : Nat, (∀ (l1 : Int32) (l2 : Int32) (l3 : Int32) (S : mS), F176_151f n 0 l1 l2 l3 S = some (r0, S0) → Go (am_X xs L9) (d + 0) 176 0 [.ref 151, .int l1, .int l2, .float 0] [] (mst S h) Q) ∧ (∀ (l1 : Int32) (l2 : Int32) (l3 : Int32) (S : mS), F176_151f n 2 l1 l2 l3 S = some (r0, S0) → Go (am_X xs L9) (d + 0) 176 2 [.ref 151, .int l1, .int l2, .int l3] [] (mst S h) Q) := by
  intro n
  induction n with
  | zero => exact ⟨fun l1 l2 l3 S hf => (by cases hf), fun l1 l2 l3 S hf => (by cases hf)⟩
  | succ n ih =>
    refine ⟨?_, ?_⟩
    · intro l1 l2 l3 S hf
      rw [F176_151e0] at hf
      unfold F176_151b0 at hf
      refine r_iconst (v := 0) fe_176_0 (by decide) ?_
      refine r_istore_n fe_176_1 (Nat.le_of_ble_eq_true rfl) rfl ?_
      refine go_weak (L0 := [.ref 151, .int l1, .int l2, .int 0]) (lwk_c (Or.inl rfl) (lwk_c (Or.inl rfl) (lwk_c (Or.inl rfl) (lwk_c (Or.inl rfl) (lwk_rf []))))) ?_
      exact ih.2 l1 l2 0 S hf
    · intro l1 l2 l3 S hf
      rw [F176_151e2] at hf
      unfold F176_151b2 at hf
      refine r_iload_n fe_176_2 rfl ?_
      refine r_iload_n fe_176_3 rfl ?_
      by_cases hb1 : am_ic .ge l3 l1 = true
      · rw [if_pos hb1] at hf
        refine r_ic_t (t := 22) fe_176_4 (by decide) hb1 ?_
        refine r_iconst (v := -1) fe_176_22 (by decide) ?_
        refine r_iret fe_176_23 ⟨rfl, by decide⟩ ?_
        exact dfin (P := fun r T => Q (some (.int r)) (mst T h)) hf hQ
      · rw [if_neg hb1] at hf
        refine r_ic_f (t := 22) fe_176_4 (by decide) (Bool.eq_false_iff.mpr hb1) ?_
        refine r_aload_n fe_176_7 rfl ?_
        refine r_iload_n fe_176_8 rfl ?_
        by_cases hg2 : ¬ (l3 < 0 ∨ 4 ≤ (l3).toNatClampNeg)
        rotate_left
        · rw [if_neg hg2] at hf; cases hf
        rw [if_pos hg2] at hf
        refine r_iald (j := (Int32.toNatClampNeg l3)) (v := S.2.1 21 (Int32.toNatClampNeg l3)) fe_176_9 m_c_21 (m_lt hh (by decide)) (fun z => hg2 (Or.inl z)) rfl (fun z => hg2 (Or.inr z)) rfl ?_
        refine r_iload_n fe_176_10 rfl ?_
        by_cases hb3 : am_ic .ne (S.2.1 21 (Int32.toNatClampNeg l3)) l2 = true
        · rw [if_pos hb3] at hf
          refine r_ic_t (t := 16) fe_176_11 (by decide) hb3 ?_
          refine r_iinc (v := (l3 + 1)) fe_176_16 rfl rfl rfl ?_
          refine r_goto (t := 2) fe_176_19 (by decide) ?_
          refine go_weak (L0 := [.ref 151, .int l1, .int l2, .int (l3 + 1)]) (lwk_c (Or.inl rfl) (lwk_c (Or.inl rfl) (lwk_c (Or.inl rfl) (lwk_c (Or.inl rfl) (lwk_rf []))))) ?_
          exact ih.2 l1 l2 (l3 + 1) S hf
        · rw [if_neg hb3] at hf
          refine r_ic_f (t := 16) fe_176_11 (by decide) (Bool.eq_false_iff.mpr hb3) ?_
          refine r_iload_n fe_176_14 rfl ?_
          refine r_iret fe_176_15 ⟨rfl, by decide⟩ ?_
          exact dfin (P := fun r T => Q (some (.int r)) (mst T h)) hf hQ
theorem F176_151c {xs : Nat → Int32} {L9 d n : Nat} {h : AmH} {Q : Option Value → AmH → Prop} {r0 : Int32} {S0 S : mS} {l1 : Int32} {l2 : Int32} (hh : 172 ≤ h.2.1) (hf : F176_151 n l1 l2 S = some (r0, S0)) (hQ : Q (some (.int r0)) (mst S0 h)) : Ca (am_X xs L9) (d + 0) 176 [.ref 151, .int l1, .int l2] (mst S h) Q := (F176_151l hh hQ n).1 l1 l2 0 S hf
def F175_151b0 (F : Nat → Int32 → mS → Option (Int32 × mS)) (n : Nat) (l2 : Int32) (S : mS) : Option (Int32 × mS) := ((F161 n  S).bind (fun z1 => ((F174 n  z1.2).bind (fun z3 => (if am_if .ne (z3.2.1 28) = true then some (z3.1, z3.2) else ((F176_151 n l2 z3.1 z3.2).bind (fun z6 => (if am_ic .eq z6.1 (-1) = true then some (z3.1, z6.2) else ((F165 n 1 (z1.2.1 27) z6.2).bind (fun z9 => some (z3.1, z9.2)))))))))))
def F175_151f : Nat → Nat → Int32 → mS → Option (Int32 × mS)
  | 0, _, _, _ => none
  | n + 1, c, l2, S => F175_151b0 (F175_151f n) n l2 S
theorem F175_151e0 (n : Nat) (l2 : Int32) (S : mS) : F175_151f (n + 1) 0 l2 S = F175_151b0 (F175_151f n) n l2 S := rfl
def F175_151 (n : Nat) (l2 : Int32) (S : mS) : Option (Int32 × mS) := F175_151f n 0 l2 S
set_option maxRecDepth 20000 in
set_option maxHeartbeats 2000000 in
theorem F175_151l {xs : Nat → Int32} {L9 d : Nat} {h : AmH} {Q : Option Value → AmH → Prop} {r0 : Int32} {S0 : mS} (hh : 172 ≤ h.2.1) (hQ : Q (some (.int r0)) (mst S0 h)) : ∀ n : Nat, (∀ (l2 : Int32) (S : mS), F175_151f n 0 l2 S = some (r0, S0) → Go (am_X xs L9) (d + 5) 175 0 [.ref 130, .ref 151, .int l2, .float 0, .float 0] [] (mst S h) Q) := by
  intro n
  induction n with
  | zero => exact fun l2 S hf => (by cases hf)
  | succ n ih =>
    intro l2 S hf
    rw [F175_151e0] at hf
    unfold F175_151b0 at hf
    refine r_aload_n fe_175_0 rfl ?_
    refine r_callV (as := []) (r := []) fe_175_1 lm_12_208 md_161 rfl rfl (Nat.le_of_ble_eq_true rfl) m_c_0 (m_lt hh (by decide)) (Nat.le_of_ble_eq_true rfl) (Nat.le_of_ble_eq_true rfl) ?_
    cases hc2 : F161 n  S with
    | none => rw [hc2] at hf; cases hf
    | some z1 =>
      rw [hc2, Option.bind_some] at hf
      refine F161c (r0 := z1.1) (S0 := z1.2) hh hc2 ?_
      refine r_aload_n fe_175_4 rfl ?_
      refine mr_getf hh fe_175_5 lf_12_188 rfl ?_
      refine r_istore_n fe_175_8 (Nat.le_of_ble_eq_true rfl) rfl ?_
      refine r_aload_n fe_175_9 rfl ?_
      refine r_callV (as := []) (r := []) fe_175_10 lm_12_286 md_174 rfl rfl (Nat.le_of_ble_eq_true rfl) m_c_0 (m_lt hh (by decide)) (Nat.le_of_ble_eq_true rfl) (Nat.le_of_ble_eq_true rfl) ?_
      cases hc4 : F174 n  z1.2 with
      | none => rw [hc4] at hf; cases hf
      | some z3 =>
        rw [hc4, Option.bind_some] at hf
        refine F174c (r0 := z3.1) (S0 := z3.2) hh hc4 ?_
        refine r_istore fe_175_13 (Nat.le_of_ble_eq_true rfl) rfl ?_
        refine r_aload_n fe_175_15 rfl ?_
        refine mr_getf hh fe_175_16 lf_12_185 rfl ?_
        by_cases hb5 : am_if .ne (z3.2.1 28) = true
        · rw [if_pos hb5] at hf
          refine r_if_t (t := 39) fe_175_19 (by decide) hb5 ?_
          refine r_iload fe_175_39 rfl ?_
          refine r_iret fe_175_41 ⟨rfl, by decide⟩ ?_
          exact dfin (P := fun r T => Q (some (.int r)) (mst T h)) hf hQ
        · rw [if_neg hb5] at hf
          refine r_if_f (t := 39) fe_175_19 (by decide) (Bool.eq_false_iff.mpr hb5) ?_
          refine r_aload_n fe_175_22 rfl ?_
          refine r_iload_n fe_175_23 rfl ?_
          refine r_iload fe_175_24 rfl ?_
          refine r_callS (as := [.ref 151, .int l2, .int z3.1]) (r := []) fe_175_26 lm_12_147 md_176 rfl rfl (Nat.le_of_ble_eq_true rfl) (Nat.le_of_ble_eq_true rfl) (Nat.le_of_ble_eq_true rfl) ?_
          cases hc7 : F176_151 n l2 z3.1 z3.2 with
          | none => rw [hc7] at hf; cases hf
          | some z6 =>
            rw [hc7, Option.bind_some] at hf
            refine F176_151c (r0 := z6.1) (S0 := z6.2) hh hc7 ?_
            refine r_iconst (v := -1) fe_175_29 (by decide) ?_
            by_cases hb8 : am_ic .eq z6.1 (-1) = true
            · rw [if_pos hb8] at hf
              refine r_ic_t (t := 39) fe_175_30 (by decide) hb8 ?_
              refine r_iload fe_175_39 rfl ?_
              refine r_iret fe_175_41 ⟨rfl, by decide⟩ ?_
              exact dfin (P := fun r T => Q (some (.int r)) (mst T h)) hf hQ
            · rw [if_neg hb8] at hf
              refine r_ic_f (t := 39) fe_175_30 (by decide) (Bool.eq_false_iff.mpr hb8) ?_
              refine r_aload_n fe_175_33 rfl ?_
              refine r_iconst (v := 1) fe_175_34 (by decide) ?_
              refine r_iload_n fe_175_35 rfl ?_
              refine r_callV (as := [.int 1, .int (z1.2.1 27)]) (r := []) fe_175_36 lm_12_224 md_165 rfl rfl (Nat.le_of_ble_eq_true rfl) m_c_0 (m_lt hh (by decide)) (Nat.le_of_ble_eq_true rfl) (Nat.le_of_ble_eq_true rfl) ?_
              cases hc10 : F165 n 1 (z1.2.1 27) z6.2 with
              | none => rw [hc10] at hf; cases hf
              | some z9 =>
                rw [hc10, Option.bind_some] at hf
                refine F165c (r0 := z9.1) (S0 := z9.2) hh hc10 ?_
                refine r_iload fe_175_39 rfl ?_
                refine r_iret fe_175_41 ⟨rfl, by decide⟩ ?_
                exact dfin (P := fun r T => Q (some (.int r)) (mst T h)) hf hQ
theorem F175_151c {xs : Nat → Int32} {L9 d n : Nat} {h : AmH} {Q : Option Value → AmH → Prop} {r0 : Int32} {S0 S : mS} {l2 : Int32} (hh : 172 ≤ h.2.1) (hf : F175_151 n l2 S = some (r0, S0)) (hQ : Q (some (.int r0)) (mst S0 h)) : Ca (am_X xs L9) (d + 5) 175 [.ref 130, .ref 151, .int l2] (mst S h) Q := (F175_151l hh hQ n) l2 S hf
def F176_152b0 (F : Nat → Int32 → Int32 → Int32 → mS → Option (Int32 × mS)) (n : Nat) (l1 : Int32) (l2 : Int32) (l3 : Int32) (S : mS) : Option (Int32 × mS) := F 2 l1 l2 0 S
def F176_152b2 (F : Nat → Int32 → Int32 → Int32 → mS → Option (Int32 × mS)) (n : Nat) (l1 : Int32) (l2 : Int32) (l3 : Int32) (S : mS) : Option (Int32 × mS) := (if am_ic .ge l3 l1 = true then some ((-1), S) else (if ¬ (l3 < 0 ∨ 13 ≤ (l3).toNatClampNeg) then (if am_ic .ne (S.2.1 22 (Int32.toNatClampNeg l3)) l2 = true then F 2 l1 l2 (l3 + 1) S else some (l3, S)) else none))
def F176_152f : Nat → Nat → Int32 → Int32 → Int32 → mS → Option (Int32 × mS)
  | 0, _, _, _, _, _ => none
  | n + 1, c, l1, l2, l3, S => if c = 0 then F176_152b0 (F176_152f n) n l1 l2 l3 S else F176_152b2 (F176_152f n) n l1 l2 l3 S
theorem F176_152e0 (n : Nat) (l1 : Int32) (l2 : Int32) (l3 : Int32) (S : mS) : F176_152f (n + 1) 0 l1 l2 l3 S = F176_152b0 (F176_152f n) n l1 l2 l3 S := if_pos rfl
theorem F176_152e2 (n : Nat) (l1 : Int32) (l2 : Int32) (l3 : Int32) (S : mS) : F176_152f (n + 1) 2 l1 l2 l3 S = F176_152b2 (F176_152f n) n l1 l2 l3 S := if_neg (by decide)
def F176_152 (n : Nat) (l1 : Int32) (l2 : Int32) (S : mS) : Option (Int32 × mS) := F176_152f n 0 l1 l2 0 S
set_option maxRecDepth 20000 in
set_option maxHeartbeats 2000000 in
theorem F176_152l {xs : Nat → Int32} {L9 d : Nat} {h : AmH} {Q : Option Value → AmH → Prop} {r0 : Int32} {S0 : mS} (hh : 172 ≤ h.2.1) (hQ : Q (some (.int r0)) (mst S0 h)) : ∀ n : Nat, (∀ (l1 : Int32) (l2 : Int32) (l3 : Int32) (S : mS), F176_152f n 0 l1 l2 l3 S = some (r0, S0) → Go (am_X xs L9) (d + 0) 176 0 [.ref 152, .int l1, .int l2, .float 0] [] (mst S h) Q) ∧ (∀ (l1 : Int32) (l2 : Int32) (l3 : Int32) (S : mS), F176_152f n 2 l1 l2 l3 S = some (r0, S0) → Go (am_X xs L9) (d + 0) 176 2 [.ref 152, .int l1, .int l2, .int l3] [] (mst S h) Q) := by
  intro n
  induction n with
  | zero => exact ⟨fun l1 l2 l3 S hf => (by cases hf), fun l1 l2 l3 S hf => (by cases hf)⟩
  | succ n ih =>
    refine ⟨?_, ?_⟩
    · intro l1 l2 l3 S hf
      rw [F176_152e0] at hf
      unfold F176_152b0 at hf
      refine r_iconst (v := 0) fe_176_0 (by decide) ?_
      refine r_istore_n fe_176_1 (Nat.le_of_ble_eq_true rfl) rfl ?_
      refine go_weak (L0 := [.ref 152, .int l1, .int l2, .int 0]) (lwk_c (Or.inl rfl) (lwk_c (Or.inl rfl) (lwk_c (Or.inl rfl) (lwk_c (Or.inl rfl) (lwk_rf []))))) ?_
      exact ih.2 l1 l2 0 S hf
    · intro l1 l2 l3 S hf
      rw [F176_152e2] at hf
      unfold F176_152b2 at hf
      refine r_iload_n fe_176_2 rfl ?_
      refine r_iload_n fe_176_3 rfl ?_
      by_cases hb1 : am_ic .ge l3 l1 = true
      · rw [if_pos hb1] at hf
        refine r_ic_t (t := 22) fe_176_4 (by decide) hb1 ?_
        refine r_iconst (v := -1) fe_176_22 (by decide) ?_
        refine r_iret fe_176_23 ⟨rfl, by decide⟩ ?_
        exact dfin (P := fun r T => Q (some (.int r)) (mst T h)) hf hQ
      · rw [if_neg hb1] at hf
        refine r_ic_f (t := 22) fe_176_4 (by decide) (Bool.eq_false_iff.mpr hb1) ?_
        refine r_aload_n fe_176_7 rfl ?_
        refine r_iload_n fe_176_8 rfl ?_
        by_cases hg2 : ¬ (l3 < 0 ∨ 13 ≤ (l3).toNatClampNeg)
        rotate_left
        · rw [if_neg hg2] at hf; cases hf
        rw [if_pos hg2] at hf
        refine r_iald (j := (Int32.toNatClampNeg l3)) (v := S.2.1 22 (Int32.toNatClampNeg l3)) fe_176_9 m_c_22 (m_lt hh (by decide)) (fun z => hg2 (Or.inl z)) rfl (fun z => hg2 (Or.inr z)) rfl ?_
        refine r_iload_n fe_176_10 rfl ?_
        by_cases hb3 : am_ic .ne (S.2.1 22 (Int32.toNatClampNeg l3)) l2 = true
        · rw [if_pos hb3] at hf
          refine r_ic_t (t := 16) fe_176_11 (by decide) hb3 ?_
          refine r_iinc (v := (l3 + 1)) fe_176_16 rfl rfl rfl ?_
          refine r_goto (t := 2) fe_176_19 (by decide) ?_
          refine go_weak (L0 := [.ref 152, .int l1, .int l2, .int (l3 + 1)]) (lwk_c (Or.inl rfl) (lwk_c (Or.inl rfl) (lwk_c (Or.inl rfl) (lwk_c (Or.inl rfl) (lwk_rf []))))) ?_
          exact ih.2 l1 l2 (l3 + 1) S hf
        · rw [if_neg hb3] at hf
          refine r_ic_f (t := 16) fe_176_11 (by decide) (Bool.eq_false_iff.mpr hb3) ?_
          refine r_iload_n fe_176_14 rfl ?_
          refine r_iret fe_176_15 ⟨rfl, by decide⟩ ?_
          exact dfin (P := fun r T => Q (some (.int r)) (mst T h)) hf hQ
theorem F176_152c {xs : Nat → Int32} {L9 d n : Nat} {h : AmH} {Q : Option Value → AmH → Prop} {r0 : Int32} {S0 S : mS} {l1 : Int32} {l2 : Int32} (hh : 172 ≤ h.2.1) (hf : F176_152 n l1 l2 S = some (r0, S0)) (hQ : Q (some (.int r0)) (mst S0 h)) : Ca (am_X xs L9) (d + 0) 176 [.ref 152, .int l1, .int l2] (mst S h) Q := (F176_152l hh hQ n).1 l1 l2 0 S hf
def F175_152b0 (F : Nat → Int32 → mS → Option (Int32 × mS)) (n : Nat) (l2 : Int32) (S : mS) : Option (Int32 × mS) := ((F161 n  S).bind (fun z1 => ((F174 n  z1.2).bind (fun z3 => (if am_if .ne (z3.2.1 28) = true then some (z3.1, z3.2) else ((F176_152 n l2 z3.1 z3.2).bind (fun z6 => (if am_ic .eq z6.1 (-1) = true then some (z3.1, z6.2) else ((F165 n 1 (z1.2.1 27) z6.2).bind (fun z9 => some (z3.1, z9.2)))))))))))
def F175_152f : Nat → Nat → Int32 → mS → Option (Int32 × mS)
  | 0, _, _, _ => none
  | n + 1, c, l2, S => F175_152b0 (F175_152f n) n l2 S
theorem F175_152e0 (n : Nat) (l2 : Int32) (S : mS) : F175_152f (n + 1) 0 l2 S = F175_152b0 (F175_152f n) n l2 S := rfl
def F175_152 (n : Nat) (l2 : Int32) (S : mS) : Option (Int32 × mS) := F175_152f n 0 l2 S
set_option maxRecDepth 20000 in
set_option maxHeartbeats 2000000 in
theorem F175_152l {xs : Nat → Int32} {L9 d : Nat} {h : AmH} {Q : Option Value → AmH → Prop} {r0 : Int32} {S0 : mS} (hh : 172 ≤ h.2.1) (hQ : Q (some (.int r0)) (mst S0 h)) : ∀ n : Nat, (∀ (l2 : Int32) (S : mS), F175_152f n 0 l2 S = some (r0, S0) → Go (am_X xs L9) (d + 5) 175 0 [.ref 130, .ref 152, .int l2, .float 0, .float 0] [] (mst S h) Q) := by
  intro n
  induction n with
  | zero => exact fun l2 S hf => (by cases hf)
  | succ n ih =>
    intro l2 S hf
    rw [F175_152e0] at hf
    unfold F175_152b0 at hf
    refine r_aload_n fe_175_0 rfl ?_
    refine r_callV (as := []) (r := []) fe_175_1 lm_12_208 md_161 rfl rfl (Nat.le_of_ble_eq_true rfl) m_c_0 (m_lt hh (by decide)) (Nat.le_of_ble_eq_true rfl) (Nat.le_of_ble_eq_true rfl) ?_
    cases hc2 : F161 n  S with
    | none => rw [hc2] at hf; cases hf
    | some z1 =>
      rw [hc2, Option.bind_some] at hf
      refine F161c (r0 := z1.1) (S0 := z1.2) hh hc2 ?_
      refine r_aload_n fe_175_4 rfl ?_
      refine mr_getf hh fe_175_5 lf_12_188 rfl ?_
      refine r_istore_n fe_175_8 (Nat.le_of_ble_eq_true rfl) rfl ?_
      refine r_aload_n fe_175_9 rfl ?_
      refine r_callV (as := []) (r := []) fe_175_10 lm_12_286 md_174 rfl rfl (Nat.le_of_ble_eq_true rfl) m_c_0 (m_lt hh (by decide)) (Nat.le_of_ble_eq_true rfl) (Nat.le_of_ble_eq_true rfl) ?_
      cases hc4 : F174 n  z1.2 with
      | none => rw [hc4] at hf; cases hf
      | some z3 =>
        rw [hc4, Option.bind_some] at hf
        refine F174c (r0 := z3.1) (S0 := z3.2) hh hc4 ?_
        refine r_istore fe_175_13 (Nat.le_of_ble_eq_true rfl) rfl ?_
        refine r_aload_n fe_175_15 rfl ?_
        refine mr_getf hh fe_175_16 lf_12_185 rfl ?_
        by_cases hb5 : am_if .ne (z3.2.1 28) = true
        · rw [if_pos hb5] at hf
          refine r_if_t (t := 39) fe_175_19 (by decide) hb5 ?_
          refine r_iload fe_175_39 rfl ?_
          refine r_iret fe_175_41 ⟨rfl, by decide⟩ ?_
          exact dfin (P := fun r T => Q (some (.int r)) (mst T h)) hf hQ
        · rw [if_neg hb5] at hf
          refine r_if_f (t := 39) fe_175_19 (by decide) (Bool.eq_false_iff.mpr hb5) ?_
          refine r_aload_n fe_175_22 rfl ?_
          refine r_iload_n fe_175_23 rfl ?_
          refine r_iload fe_175_24 rfl ?_
          refine r_callS (as := [.ref 152, .int l2, .int z3.1]) (r := []) fe_175_26 lm_12_147 md_176 rfl rfl (Nat.le_of_ble_eq_true rfl) (Nat.le_of_ble_eq_true rfl) (Nat.le_of_ble_eq_true rfl) ?_
          cases hc7 : F176_152 n l2 z3.1 z3.2 with
          | none => rw [hc7] at hf; cases hf
          | some z6 =>
            rw [hc7, Option.bind_some] at hf
            refine F176_152c (r0 := z6.1) (S0 := z6.2) hh hc7 ?_
            refine r_iconst (v := -1) fe_175_29 (by decide) ?_
            by_cases hb8 : am_ic .eq z6.1 (-1) = true
            · rw [if_pos hb8] at hf
              refine r_ic_t (t := 39) fe_175_30 (by decide) hb8 ?_
              refine r_iload fe_175_39 rfl ?_
              refine r_iret fe_175_41 ⟨rfl, by decide⟩ ?_
              exact dfin (P := fun r T => Q (some (.int r)) (mst T h)) hf hQ
            · rw [if_neg hb8] at hf
              refine r_ic_f (t := 39) fe_175_30 (by decide) (Bool.eq_false_iff.mpr hb8) ?_
              refine r_aload_n fe_175_33 rfl ?_
              refine r_iconst (v := 1) fe_175_34 (by decide) ?_
              refine r_iload_n fe_175_35 rfl ?_
              refine r_callV (as := [.int 1, .int (z1.2.1 27)]) (r := []) fe_175_36 lm_12_224 md_165 rfl rfl (Nat.le_of_ble_eq_true rfl) m_c_0 (m_lt hh (by decide)) (Nat.le_of_ble_eq_true rfl) (Nat.le_of_ble_eq_true rfl) ?_
              cases hc10 : F165 n 1 (z1.2.1 27) z6.2 with
              | none => rw [hc10] at hf; cases hf
              | some z9 =>
                rw [hc10, Option.bind_some] at hf
                refine F165c (r0 := z9.1) (S0 := z9.2) hh hc10 ?_
                refine r_iload fe_175_39 rfl ?_
                refine r_iret fe_175_41 ⟨rfl, by decide⟩ ?_
                exact dfin (P := fun r T => Q (some (.int r)) (mst T h)) hf hQ
theorem F175_152c {xs : Nat → Int32} {L9 d n : Nat} {h : AmH} {Q : Option Value → AmH → Prop} {r0 : Int32} {S0 S : mS} {l2 : Int32} (hh : 172 ≤ h.2.1) (hf : F175_152 n l2 S = some (r0, S0)) (hQ : Q (some (.int r0)) (mst S0 h)) : Ca (am_X xs L9) (d + 5) 175 [.ref 130, .ref 152, .int l2] (mst S h) Q := (F175_152l hh hQ n) l2 S hf
def F167b0 (F : Nat → Int32 → mS → Option (Unit × mS)) (n : Nat) (l1 : Int32) (S : mS) : Option (Unit × mS) := (if ((l1).toInt < 0 ∨ 6 < (l1).toInt) then ((F174 n  S).bind (fun z2 => (if ¬ ((S.2.1 16 4) < 0 ∨ 13 ≤ ((S.2.1 16 4)).toNatClampNeg) then ((F177 n 8 (m_sA z2.2 24 (Int32.toNatClampNeg (S.2.1 16 4)) z2.1)).bind (fun z5 => (if ¬ ((S.2.1 16 4) < 0 ∨ 13 ≤ ((S.2.1 16 4)).toNatClampNeg) then some ((), (m_sA (m_sA z5.2 25 (Int32.toNatClampNeg (S.2.1 16 4)) z5.1) 16 4 (((m_sA z5.2 25 (Int32.toNatClampNeg (S.2.1 16 4)) z5.1).2.1 16 4) + 1))) else none))) else none))) else (if l1 = 0 then ((F168 n  S).bind (fun z9 => some ((), z9.2))) else (if l1 = 1 then ((F173 n  S).bind (fun z12 => some ((), z12.2))) else (if l1 = 2 then ((F174 n  S).bind (fun z15 => (if am_if .ne (z15.2.1 28) = true then some ((), z15.2) else (if ¬ (z15.1 < 0 ∨ 16 ≤ (z15.1).toNatClampNeg) then some ((), (m_sA z15.2 17 (Int32.toNatClampNeg z15.1) (-1))) else none)))) else (if l1 = 3 then ((F174 n  S).bind (fun z20 => ((F169 n 1 9 z20.2).bind (fun z22 => (if am_if .ne (z22.2.1 28) = true then some ((), z22.2) else (if ¬ (z20.1 < 0 ∨ 16 ≤ (z20.1).toNatClampNeg) then some ((), (m_sA z22.2 18 (Int32.toNatClampNeg z20.1) z22.1)) else none)))))) else (if l1 = 4 then ((F175_149 n (S.2.1 16 1) S).bind (fun z27 => (if ¬ ((S.2.1 16 1) < 0 ∨ 6 ≤ ((S.2.1 16 1)).toNatClampNeg) then ((F177 n 1 (m_sA z27.2 19 (Int32.toNatClampNeg (S.2.1 16 1)) z27.1)).bind (fun z30 => (if ¬ ((S.2.1 16 1) < 0 ∨ 6 ≤ ((S.2.1 16 1)).toNatClampNeg) then some ((), (m_sA (m_sA z30.2 20 (Int32.toNatClampNeg (S.2.1 16 1)) z30.1) 16 1 (((m_sA z30.2 20 (Int32.toNatClampNeg (S.2.1 16 1)) z30.1).2.1 16 1) + 1))) else none))) else none))) else (if l1 = 5 then ((F175_151 n (S.2.1 16 2) S).bind (fun z34 => (if ¬ ((S.2.1 16 2) < 0 ∨ 4 ≤ ((S.2.1 16 2)).toNatClampNeg) then some ((), (m_sA (m_sA z34.2 21 (Int32.toNatClampNeg (S.2.1 16 2)) z34.1) 16 2 (((m_sA z34.2 21 (Int32.toNatClampNeg (S.2.1 16 2)) z34.1).2.1 16 2) + 1))) else none))) else (if l1 = 6 then ((F175_152 n (S.2.1 16 3) S).bind (fun z38 => (if ¬ ((S.2.1 16 3) < 0 ∨ 13 ≤ ((S.2.1 16 3)).toNatClampNeg) then ((F169 n 1 8 (m_sA z38.2 22 (Int32.toNatClampNeg (S.2.1 16 3)) z38.1)).bind (fun z41 => (if ¬ ((S.2.1 16 3) < 0 ∨ 13 ≤ ((S.2.1 16 3)).toNatClampNeg) then some ((), (m_sA (m_sA z41.2 23 (Int32.toNatClampNeg (S.2.1 16 3)) z41.1) 16 3 (((m_sA z41.2 23 (Int32.toNatClampNeg (S.2.1 16 3)) z41.1).2.1 16 3) + 1))) else none))) else none))) else none))))))))
def F167f : Nat → Nat → Int32 → mS → Option (Unit × mS)
  | 0, _, _, _ => none
  | n + 1, c, l1, S => F167b0 (F167f n) n l1 S
theorem F167e0 (n : Nat) (l1 : Int32) (S : mS) : F167f (n + 1) 0 l1 S = F167b0 (F167f n) n l1 S := rfl
def F167 (n : Nat) (l1 : Int32) (S : mS) : Option (Unit × mS) := F167f n 0 l1 S
set_option maxRecDepth 20000 in
set_option maxHeartbeats 2000000 in
theorem F167l {xs : Nat → Int32} {L9 d : Nat} {h : AmH} {Q : Option Value → AmH → Prop} {r0 : Unit} {S0 : mS} (hh : 172 ≤ h.2.1) (hQ : Q none (mst S0 h)) : ∀ n : Nat, (∀ (l1 : Int32) (S : mS), F167f n 0 l1 S = some (r0, S0) → Go (am_X xs L9) (d + 6) 167 0 [.ref 130, .int l1, .float 0, .float 0] [] (mst S h) Q) := by
  intro n
  induction n with
  | zero => exact fun l1 S hf => (by cases hf)
  | succ n ih =>
    intro l1 S hf
    rw [F167e0] at hf
    unfold F167b0 at hf
    refine r_iload_n fe_167_0 rfl ?_
    by_cases hs1 : ((l1).toInt < 0 ∨ 6 < (l1).toInt)
    · rw [if_pos hs1] at hf
      refine r_tabO (t := 239) fe_167_1 hs1 (by decide) ?_
      refine r_aload_n fe_167_239 rfl ?_
      refine mr_getf hh fe_167_240 lf_12_55 rfl ?_
      refine r_iconst (v := 4) fe_167_243 (by decide) ?_
      refine r_iald (j := 4) (v := S.2.1 16 4) fe_167_244 m_c_16 (m_lt hh (by decide)) (by decide) (by decide) (by decide) rfl ?_
      refine r_istore_n fe_167_245 (Nat.le_of_ble_eq_true rfl) rfl ?_
      refine r_aload_n fe_167_246 rfl ?_
      refine mr_getf hh fe_167_247 lf_12_79 rfl ?_
      refine r_iload_n fe_167_250 rfl ?_
      refine r_aload_n fe_167_251 rfl ?_
      refine r_callV (as := []) (r := [.int (S.2.1 16 4), .ref 154]) fe_167_252 lm_12_286 md_174 rfl rfl (Nat.le_of_ble_eq_true rfl) m_c_0 (m_lt hh (by decide)) (Nat.le_of_ble_eq_true rfl) (Nat.le_of_ble_eq_true rfl) ?_
      cases hc3 : F174 n  S with
      | none => rw [hc3] at hf; cases hf
      | some z2 =>
        rw [hc3, Option.bind_some] at hf
        refine F174c (r0 := z2.1) (S0 := z2.2) hh hc3 ?_
        by_cases hg4 : ¬ ((S.2.1 16 4) < 0 ∨ 13 ≤ ((S.2.1 16 4)).toNatClampNeg)
        rotate_left
        · rw [if_neg hg4] at hf; cases hf
        rw [if_pos hg4] at hf
        refine mr_iast (k := 24) (n := 13) (j := (Int32.toNatClampNeg (S.2.1 16 4))) hh fe_167_255 rfl (by decide) (by decide) rfl rfl (fun z => hg4 (Or.inl z)) rfl (fun z => hg4 (Or.inr z)) ?_
        refine r_aload_n fe_167_256 rfl ?_
        refine mr_getf hh fe_167_257 lf_12_82 rfl ?_
        refine r_iload_n fe_167_260 rfl ?_
        refine r_aload_n fe_167_261 rfl ?_
        refine r_bipush (v := 8) fe_167_262 (by decide) ?_
        refine r_callV (as := [.int 8]) (r := [.int (S.2.1 16 4), .ref 155]) fe_167_264 lm_12_317 md_177 rfl rfl (Nat.le_of_ble_eq_true rfl) m_c_0 (m_lt hh (by decide)) (Nat.le_of_ble_eq_true rfl) (Nat.le_of_ble_eq_true rfl) ?_
        cases hc6 : F177 n 8 (m_sA z2.2 24 (Int32.toNatClampNeg (S.2.1 16 4)) z2.1) with
        | none => rw [hc6] at hf; cases hf
        | some z5 =>
          rw [hc6, Option.bind_some] at hf
          refine F177c (r0 := z5.1) (S0 := z5.2) hh hc6 ?_
          by_cases hg7 : ¬ ((S.2.1 16 4) < 0 ∨ 13 ≤ ((S.2.1 16 4)).toNatClampNeg)
          rotate_left
          · rw [if_neg hg7] at hf; cases hf
          rw [if_pos hg7] at hf
          refine mr_iast (k := 25) (n := 13) (j := (Int32.toNatClampNeg (S.2.1 16 4))) hh fe_167_267 rfl (by decide) (by decide) rfl rfl (fun z => hg7 (Or.inl z)) rfl (fun z => hg7 (Or.inr z)) ?_
          refine r_aload_n fe_167_268 rfl ?_
          refine mr_getf hh fe_167_269 lf_12_55 rfl ?_
          refine r_iconst (v := 4) fe_167_272 (by decide) ?_
          refine r_dup2 fe_167_273 ⟨rfl, rfl⟩ ?_
          refine r_iald (j := 4) (v := (m_sA z5.2 25 (Int32.toNatClampNeg (S.2.1 16 4)) z5.1).2.1 16 4) fe_167_274 m_c_16 (m_lt hh (by decide)) (by decide) (by decide) (by decide) rfl ?_
          refine r_iconst (v := 1) fe_167_275 (by decide) ?_
          refine r_iadd (v := (((m_sA z5.2 25 (Int32.toNatClampNeg (S.2.1 16 4)) z5.1).2.1 16 4) + 1)) fe_167_276 rfl ?_
          refine mr_iast (k := 16) (n := 5) (j := 4) hh fe_167_277 rfl (by decide) (by decide) rfl rfl (by decide) (by decide) (by decide) ?_
          refine r_vret fe_167_278 ?_
          exact dfin (P := fun _ T => Q none (mst T h)) hf hQ
    · rw [if_neg hs1] at hf
      by_cases hx8 : l1 = 0
      · rw [if_pos hx8] at hf
        refine r_tabI (off := 43) (t := 44) fe_167_1 hs1 (by rw [hx8]; decide) (by decide) ?_
        refine r_aload_n fe_167_44 rfl ?_
        refine r_callV (as := []) (r := []) fe_167_45 lm_12_307 md_168 rfl rfl (Nat.le_of_ble_eq_true rfl) m_c_0 (m_lt hh (by decide)) (Nat.le_of_ble_eq_true rfl) (Nat.le_of_ble_eq_true rfl) ?_
        cases hc10 : F168 n  S with
        | none => rw [hc10] at hf; cases hf
        | some z9 =>
          rw [hc10, Option.bind_some] at hf
          refine F168c (r0 := z9.1) (S0 := z9.2) hh hc10 ?_
          refine r_goto (t := 278) fe_167_48 (by decide) ?_
          refine r_vret fe_167_278 ?_
          exact dfin (P := fun _ T => Q none (mst T h)) hf hQ
      · rw [if_neg hx8] at hf
        by_cases hx11 : l1 = 1
        · rw [if_pos hx11] at hf
          refine r_tabI (off := 50) (t := 51) fe_167_1 hs1 (by rw [hx11]; decide) (by decide) ?_
          refine r_aload_n fe_167_51 rfl ?_
          refine r_callV (as := []) (r := []) fe_167_52 lm_12_310 md_173 rfl rfl (Nat.le_of_ble_eq_true rfl) m_c_0 (m_lt hh (by decide)) (Nat.le_of_ble_eq_true rfl) (Nat.le_of_ble_eq_true rfl) ?_
          cases hc13 : F173 n  S with
          | none => rw [hc13] at hf; cases hf
          | some z12 =>
            rw [hc13, Option.bind_some] at hf
            refine F173c (r0 := z12.1) (S0 := z12.2) hh hc13 ?_
            refine r_goto (t := 278) fe_167_55 (by decide) ?_
            refine r_vret fe_167_278 ?_
            exact dfin (P := fun _ T => Q none (mst T h)) hf hQ
        · rw [if_neg hx11] at hf
          by_cases hx14 : l1 = 2
          · rw [if_pos hx14] at hf
            refine r_tabI (off := 57) (t := 58) fe_167_1 hs1 (by rw [hx14]; decide) (by decide) ?_
            refine r_aload_n fe_167_58 rfl ?_
            refine r_callV (as := []) (r := []) fe_167_59 lm_12_286 md_174 rfl rfl (Nat.le_of_ble_eq_true rfl) m_c_0 (m_lt hh (by decide)) (Nat.le_of_ble_eq_true rfl) (Nat.le_of_ble_eq_true rfl) ?_
            cases hc16 : F174 n  S with
            | none => rw [hc16] at hf; cases hf
            | some z15 =>
              rw [hc16, Option.bind_some] at hf
              refine F174c (r0 := z15.1) (S0 := z15.2) hh hc16 ?_
              refine r_istore_n fe_167_62 (Nat.le_of_ble_eq_true rfl) rfl ?_
              refine r_aload_n fe_167_63 rfl ?_
              refine mr_getf hh fe_167_64 lf_12_185 rfl ?_
              by_cases hb17 : am_if .ne (z15.2.1 28) = true
              · rw [if_pos hb17] at hf
                refine r_if_t (t := 278) fe_167_67 (by decide) hb17 ?_
                refine r_vret fe_167_278 ?_
                exact dfin (P := fun _ T => Q none (mst T h)) hf hQ
              · rw [if_neg hb17] at hf
                refine r_if_f (t := 278) fe_167_67 (by decide) (Bool.eq_false_iff.mpr hb17) ?_
                refine r_aload_n fe_167_70 rfl ?_
                refine mr_getf hh fe_167_71 lf_12_58 rfl ?_
                refine r_iload_n fe_167_74 rfl ?_
                refine r_iconst (v := -1) fe_167_75 (by decide) ?_
                by_cases hg18 : ¬ (z15.1 < 0 ∨ 16 ≤ (z15.1).toNatClampNeg)
                rotate_left
                · rw [if_neg hg18] at hf; cases hf
                rw [if_pos hg18] at hf
                refine mr_iast (k := 17) (n := 16) (j := (Int32.toNatClampNeg z15.1)) hh fe_167_76 rfl (by decide) (by decide) rfl rfl (fun z => hg18 (Or.inl z)) rfl (fun z => hg18 (Or.inr z)) ?_
                refine r_goto (t := 278) fe_167_77 (by decide) ?_
                refine r_vret fe_167_278 ?_
                exact dfin (P := fun _ T => Q none (mst T h)) hf hQ
          · rw [if_neg hx14] at hf
            by_cases hx19 : l1 = 3
            · rw [if_pos hx19] at hf
              refine r_tabI (off := 79) (t := 80) fe_167_1 hs1 (by rw [hx19]; decide) (by decide) ?_
              refine r_aload_n fe_167_80 rfl ?_
              refine r_callV (as := []) (r := []) fe_167_81 lm_12_286 md_174 rfl rfl (Nat.le_of_ble_eq_true rfl) m_c_0 (m_lt hh (by decide)) (Nat.le_of_ble_eq_true rfl) (Nat.le_of_ble_eq_true rfl) ?_
              cases hc21 : F174 n  S with
              | none => rw [hc21] at hf; cases hf
              | some z20 =>
                rw [hc21, Option.bind_some] at hf
                refine F174c (r0 := z20.1) (S0 := z20.2) hh hc21 ?_
                refine r_istore_n fe_167_84 (Nat.le_of_ble_eq_true rfl) rfl ?_
                refine r_aload_n fe_167_85 rfl ?_
                refine r_iconst (v := 1) fe_167_86 (by decide) ?_
                refine r_bipush (v := 9) fe_167_87 (by decide) ?_
                refine r_callV (as := [.int 1, .int 9]) (r := []) fe_167_89 lm_12_282 md_169 rfl rfl (Nat.le_of_ble_eq_true rfl) m_c_0 (m_lt hh (by decide)) (Nat.le_of_ble_eq_true rfl) (Nat.le_of_ble_eq_true rfl) ?_
                cases hc23 : F169 n 1 9 z20.2 with
                | none => rw [hc23] at hf; cases hf
                | some z22 =>
                  rw [hc23, Option.bind_some] at hf
                  refine F169c (r0 := z22.1) (S0 := z22.2) hh hc23 ?_
                  refine r_istore_n fe_167_92 (Nat.le_of_ble_eq_true rfl) rfl ?_
                  refine r_aload_n fe_167_93 rfl ?_
                  refine mr_getf hh fe_167_94 lf_12_185 rfl ?_
                  by_cases hb24 : am_if .ne (z22.2.1 28) = true
                  · rw [if_pos hb24] at hf
                    refine r_if_t (t := 278) fe_167_97 (by decide) hb24 ?_
                    refine r_vret fe_167_278 ?_
                    exact dfin (P := fun _ T => Q none (mst T h)) hf hQ
                  · rw [if_neg hb24] at hf
                    refine r_if_f (t := 278) fe_167_97 (by decide) (Bool.eq_false_iff.mpr hb24) ?_
                    refine r_aload_n fe_167_100 rfl ?_
                    refine mr_getf hh fe_167_101 lf_12_61 rfl ?_
                    refine r_iload_n fe_167_104 rfl ?_
                    refine r_iload_n fe_167_105 rfl ?_
                    by_cases hg25 : ¬ (z20.1 < 0 ∨ 16 ≤ (z20.1).toNatClampNeg)
                    rotate_left
                    · rw [if_neg hg25] at hf; cases hf
                    rw [if_pos hg25] at hf
                    refine mr_iast (k := 18) (n := 16) (j := (Int32.toNatClampNeg z20.1)) hh fe_167_106 rfl (by decide) (by decide) rfl rfl (fun z => hg25 (Or.inl z)) rfl (fun z => hg25 (Or.inr z)) ?_
                    refine r_goto (t := 278) fe_167_107 (by decide) ?_
                    refine r_vret fe_167_278 ?_
                    exact dfin (P := fun _ T => Q none (mst T h)) hf hQ
            · rw [if_neg hx19] at hf
              by_cases hx26 : l1 = 4
              · rw [if_pos hx26] at hf
                refine r_tabI (off := 109) (t := 110) fe_167_1 hs1 (by rw [hx26]; decide) (by decide) ?_
                refine r_aload_n fe_167_110 rfl ?_
                refine mr_getf hh fe_167_111 lf_12_55 rfl ?_
                refine r_iconst (v := 1) fe_167_114 (by decide) ?_
                refine r_iald (j := 1) (v := S.2.1 16 1) fe_167_115 m_c_16 (m_lt hh (by decide)) (by decide) (by decide) (by decide) rfl ?_
                refine r_istore_n fe_167_116 (Nat.le_of_ble_eq_true rfl) rfl ?_
                refine r_aload_n fe_167_117 rfl ?_
                refine mr_getf hh fe_167_118 lf_12_64 rfl ?_
                refine r_iload_n fe_167_121 rfl ?_
                refine r_aload_n fe_167_122 rfl ?_
                refine r_aload_n fe_167_123 rfl ?_
                refine mr_getf hh fe_167_124 lf_12_64 rfl ?_
                refine r_iload_n fe_167_127 rfl ?_
                refine r_callV (as := [.ref 149, .int (S.2.1 16 1)]) (r := [.int (S.2.1 16 1), .ref 149]) fe_167_128 lm_12_313 md_175 rfl rfl (Nat.le_of_ble_eq_true rfl) m_c_0 (m_lt hh (by decide)) (Nat.le_of_ble_eq_true rfl) (Nat.le_of_ble_eq_true rfl) ?_
                cases hc28 : F175_149 n (S.2.1 16 1) S with
                | none => rw [hc28] at hf; cases hf
                | some z27 =>
                  rw [hc28, Option.bind_some] at hf
                  refine F175_149c (r0 := z27.1) (S0 := z27.2) hh hc28 ?_
                  by_cases hg29 : ¬ ((S.2.1 16 1) < 0 ∨ 6 ≤ ((S.2.1 16 1)).toNatClampNeg)
                  rotate_left
                  · rw [if_neg hg29] at hf; cases hf
                  rw [if_pos hg29] at hf
                  refine mr_iast (k := 19) (n := 6) (j := (Int32.toNatClampNeg (S.2.1 16 1))) hh fe_167_131 rfl (by decide) (by decide) rfl rfl (fun z => hg29 (Or.inl z)) rfl (fun z => hg29 (Or.inr z)) ?_
                  refine r_aload_n fe_167_132 rfl ?_
                  refine mr_getf hh fe_167_133 lf_12_67 rfl ?_
                  refine r_iload_n fe_167_136 rfl ?_
                  refine r_aload_n fe_167_137 rfl ?_
                  refine r_iconst (v := 1) fe_167_138 (by decide) ?_
                  refine r_callV (as := [.int 1]) (r := [.int (S.2.1 16 1), .ref 150]) fe_167_139 lm_12_317 md_177 rfl rfl (Nat.le_of_ble_eq_true rfl) m_c_0 (m_lt hh (by decide)) (Nat.le_of_ble_eq_true rfl) (Nat.le_of_ble_eq_true rfl) ?_
                  cases hc31 : F177 n 1 (m_sA z27.2 19 (Int32.toNatClampNeg (S.2.1 16 1)) z27.1) with
                  | none => rw [hc31] at hf; cases hf
                  | some z30 =>
                    rw [hc31, Option.bind_some] at hf
                    refine F177c (r0 := z30.1) (S0 := z30.2) hh hc31 ?_
                    by_cases hg32 : ¬ ((S.2.1 16 1) < 0 ∨ 6 ≤ ((S.2.1 16 1)).toNatClampNeg)
                    rotate_left
                    · rw [if_neg hg32] at hf; cases hf
                    rw [if_pos hg32] at hf
                    refine mr_iast (k := 20) (n := 6) (j := (Int32.toNatClampNeg (S.2.1 16 1))) hh fe_167_142 rfl (by decide) (by decide) rfl rfl (fun z => hg32 (Or.inl z)) rfl (fun z => hg32 (Or.inr z)) ?_
                    refine r_aload_n fe_167_143 rfl ?_
                    refine mr_getf hh fe_167_144 lf_12_55 rfl ?_
                    refine r_iconst (v := 1) fe_167_147 (by decide) ?_
                    refine r_dup2 fe_167_148 ⟨rfl, rfl⟩ ?_
                    refine r_iald (j := 1) (v := (m_sA z30.2 20 (Int32.toNatClampNeg (S.2.1 16 1)) z30.1).2.1 16 1) fe_167_149 m_c_16 (m_lt hh (by decide)) (by decide) (by decide) (by decide) rfl ?_
                    refine r_iconst (v := 1) fe_167_150 (by decide) ?_
                    refine r_iadd (v := (((m_sA z30.2 20 (Int32.toNatClampNeg (S.2.1 16 1)) z30.1).2.1 16 1) + 1)) fe_167_151 rfl ?_
                    refine mr_iast (k := 16) (n := 5) (j := 1) hh fe_167_152 rfl (by decide) (by decide) rfl rfl (by decide) (by decide) (by decide) ?_
                    refine r_goto (t := 278) fe_167_153 (by decide) ?_
                    refine r_vret fe_167_278 ?_
                    exact dfin (P := fun _ T => Q none (mst T h)) hf hQ
              · rw [if_neg hx26] at hf
                by_cases hx33 : l1 = 5
                · rw [if_pos hx33] at hf
                  refine r_tabI (off := 155) (t := 156) fe_167_1 hs1 (by rw [hx33]; decide) (by decide) ?_
                  refine r_aload_n fe_167_156 rfl ?_
                  refine mr_getf hh fe_167_157 lf_12_55 rfl ?_
                  refine r_iconst (v := 2) fe_167_160 (by decide) ?_
                  refine r_iald (j := 2) (v := S.2.1 16 2) fe_167_161 m_c_16 (m_lt hh (by decide)) (by decide) (by decide) (by decide) rfl ?_
                  refine r_istore_n fe_167_162 (Nat.le_of_ble_eq_true rfl) rfl ?_
                  refine r_aload_n fe_167_163 rfl ?_
                  refine mr_getf hh fe_167_164 lf_12_70 rfl ?_
                  refine r_iload_n fe_167_167 rfl ?_
                  refine r_aload_n fe_167_168 rfl ?_
                  refine r_aload_n fe_167_169 rfl ?_
                  refine mr_getf hh fe_167_170 lf_12_70 rfl ?_
                  refine r_iload_n fe_167_173 rfl ?_
                  refine r_callV (as := [.ref 151, .int (S.2.1 16 2)]) (r := [.int (S.2.1 16 2), .ref 151]) fe_167_174 lm_12_313 md_175 rfl rfl (Nat.le_of_ble_eq_true rfl) m_c_0 (m_lt hh (by decide)) (Nat.le_of_ble_eq_true rfl) (Nat.le_of_ble_eq_true rfl) ?_
                  cases hc35 : F175_151 n (S.2.1 16 2) S with
                  | none => rw [hc35] at hf; cases hf
                  | some z34 =>
                    rw [hc35, Option.bind_some] at hf
                    refine F175_151c (r0 := z34.1) (S0 := z34.2) hh hc35 ?_
                    by_cases hg36 : ¬ ((S.2.1 16 2) < 0 ∨ 4 ≤ ((S.2.1 16 2)).toNatClampNeg)
                    rotate_left
                    · rw [if_neg hg36] at hf; cases hf
                    rw [if_pos hg36] at hf
                    refine mr_iast (k := 21) (n := 4) (j := (Int32.toNatClampNeg (S.2.1 16 2))) hh fe_167_177 rfl (by decide) (by decide) rfl rfl (fun z => hg36 (Or.inl z)) rfl (fun z => hg36 (Or.inr z)) ?_
                    refine r_aload_n fe_167_178 rfl ?_
                    refine mr_getf hh fe_167_179 lf_12_55 rfl ?_
                    refine r_iconst (v := 2) fe_167_182 (by decide) ?_
                    refine r_dup2 fe_167_183 ⟨rfl, rfl⟩ ?_
                    refine r_iald (j := 2) (v := (m_sA z34.2 21 (Int32.toNatClampNeg (S.2.1 16 2)) z34.1).2.1 16 2) fe_167_184 m_c_16 (m_lt hh (by decide)) (by decide) (by decide) (by decide) rfl ?_
                    refine r_iconst (v := 1) fe_167_185 (by decide) ?_
                    refine r_iadd (v := (((m_sA z34.2 21 (Int32.toNatClampNeg (S.2.1 16 2)) z34.1).2.1 16 2) + 1)) fe_167_186 rfl ?_
                    refine mr_iast (k := 16) (n := 5) (j := 2) hh fe_167_187 rfl (by decide) (by decide) rfl rfl (by decide) (by decide) (by decide) ?_
                    refine r_goto (t := 278) fe_167_188 (by decide) ?_
                    refine r_vret fe_167_278 ?_
                    exact dfin (P := fun _ T => Q none (mst T h)) hf hQ
                · rw [if_neg hx33] at hf
                  by_cases hx37 : l1 = 6
                  · rw [if_pos hx37] at hf
                    refine r_tabI (off := 190) (t := 191) fe_167_1 hs1 (by rw [hx37]; decide) (by decide) ?_
                    refine r_aload_n fe_167_191 rfl ?_
                    refine mr_getf hh fe_167_192 lf_12_55 rfl ?_
                    refine r_iconst (v := 3) fe_167_195 (by decide) ?_
                    refine r_iald (j := 3) (v := S.2.1 16 3) fe_167_196 m_c_16 (m_lt hh (by decide)) (by decide) (by decide) (by decide) rfl ?_
                    refine r_istore_n fe_167_197 (Nat.le_of_ble_eq_true rfl) rfl ?_
                    refine r_aload_n fe_167_198 rfl ?_
                    refine mr_getf hh fe_167_199 lf_12_73 rfl ?_
                    refine r_iload_n fe_167_202 rfl ?_
                    refine r_aload_n fe_167_203 rfl ?_
                    refine r_aload_n fe_167_204 rfl ?_
                    refine mr_getf hh fe_167_205 lf_12_73 rfl ?_
                    refine r_iload_n fe_167_208 rfl ?_
                    refine r_callV (as := [.ref 152, .int (S.2.1 16 3)]) (r := [.int (S.2.1 16 3), .ref 152]) fe_167_209 lm_12_313 md_175 rfl rfl (Nat.le_of_ble_eq_true rfl) m_c_0 (m_lt hh (by decide)) (Nat.le_of_ble_eq_true rfl) (Nat.le_of_ble_eq_true rfl) ?_
                    cases hc39 : F175_152 n (S.2.1 16 3) S with
                    | none => rw [hc39] at hf; cases hf
                    | some z38 =>
                      rw [hc39, Option.bind_some] at hf
                      refine F175_152c (r0 := z38.1) (S0 := z38.2) hh hc39 ?_
                      by_cases hg40 : ¬ ((S.2.1 16 3) < 0 ∨ 13 ≤ ((S.2.1 16 3)).toNatClampNeg)
                      rotate_left
                      · rw [if_neg hg40] at hf; cases hf
                      rw [if_pos hg40] at hf
                      refine mr_iast (k := 22) (n := 13) (j := (Int32.toNatClampNeg (S.2.1 16 3))) hh fe_167_212 rfl (by decide) (by decide) rfl rfl (fun z => hg40 (Or.inl z)) rfl (fun z => hg40 (Or.inr z)) ?_
                      refine r_aload_n fe_167_213 rfl ?_
                      refine mr_getf hh fe_167_214 lf_12_76 rfl ?_
                      refine r_iload_n fe_167_217 rfl ?_
                      refine r_aload_n fe_167_218 rfl ?_
                      refine r_iconst (v := 1) fe_167_219 (by decide) ?_
                      refine r_bipush (v := 8) fe_167_220 (by decide) ?_
                      refine r_callV (as := [.int 1, .int 8]) (r := [.int (S.2.1 16 3), .ref 153]) fe_167_222 lm_12_282 md_169 rfl rfl (Nat.le_of_ble_eq_true rfl) m_c_0 (m_lt hh (by decide)) (Nat.le_of_ble_eq_true rfl) (Nat.le_of_ble_eq_true rfl) ?_
                      cases hc42 : F169 n 1 8 (m_sA z38.2 22 (Int32.toNatClampNeg (S.2.1 16 3)) z38.1) with
                      | none => rw [hc42] at hf; cases hf
                      | some z41 =>
                        rw [hc42, Option.bind_some] at hf
                        refine F169c (r0 := z41.1) (S0 := z41.2) hh hc42 ?_
                        by_cases hg43 : ¬ ((S.2.1 16 3) < 0 ∨ 13 ≤ ((S.2.1 16 3)).toNatClampNeg)
                        rotate_left
                        · rw [if_neg hg43] at hf; cases hf
                        rw [if_pos hg43] at hf
                        refine mr_iast (k := 23) (n := 13) (j := (Int32.toNatClampNeg (S.2.1 16 3))) hh fe_167_225 rfl (by decide) (by decide) rfl rfl (fun z => hg43 (Or.inl z)) rfl (fun z => hg43 (Or.inr z)) ?_
                        refine r_aload_n fe_167_226 rfl ?_
                        refine mr_getf hh fe_167_227 lf_12_55 rfl ?_
                        refine r_iconst (v := 3) fe_167_230 (by decide) ?_
                        refine r_dup2 fe_167_231 ⟨rfl, rfl⟩ ?_
                        refine r_iald (j := 3) (v := (m_sA z41.2 23 (Int32.toNatClampNeg (S.2.1 16 3)) z41.1).2.1 16 3) fe_167_232 m_c_16 (m_lt hh (by decide)) (by decide) (by decide) (by decide) rfl ?_
                        refine r_iconst (v := 1) fe_167_233 (by decide) ?_
                        refine r_iadd (v := (((m_sA z41.2 23 (Int32.toNatClampNeg (S.2.1 16 3)) z41.1).2.1 16 3) + 1)) fe_167_234 rfl ?_
                        refine mr_iast (k := 16) (n := 5) (j := 3) hh fe_167_235 rfl (by decide) (by decide) rfl rfl (by decide) (by decide) (by decide) ?_
                        refine r_goto (t := 278) fe_167_236 (by decide) ?_
                        refine r_vret fe_167_278 ?_
                        exact dfin (P := fun _ T => Q none (mst T h)) hf hQ
                  · rw [if_neg hx37] at hf
                    cases hf
theorem F167c {xs : Nat → Int32} {L9 d n : Nat} {h : AmH} {Q : Option Value → AmH → Prop} {r0 : Unit} {S0 S : mS} {l1 : Int32} (hh : 172 ≤ h.2.1) (hf : F167 n l1 S = some (r0, S0)) (hQ : Q none (mst S0 h)) : Ca (am_X xs L9) (d + 6) 167 [.ref 130, .int l1] (mst S h) Q := (F167l hh hQ n) l1 S hf
