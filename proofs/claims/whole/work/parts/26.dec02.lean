def F188b0 (F : Nat → Int32 → Int32 → mS → Option (Unit × mS)) (n : Nat) (l1 : Int32) (l2 : Int32) (S : mS) : Option (Unit × mS) := ((F161 n  S).bind (fun z1 => ((F171 n  z1.2).bind (fun z3 => (if am_if .eq z3.1 = true then F 37 (z1.2.1 27) 0 z3.2 else ((F170 n 99999 z3.2).bind (fun z6 => ((F189 n (z1.2.1 27) z6.2).bind (fun z8 => ((F190 n 0 z6.1 z8.2).bind (fun z10 => some ((), z10.2))))))))))))
def F188b37 (F : Nat → Int32 → Int32 → mS → Option (Unit × mS)) (n : Nat) (l1 : Int32) (l2 : Int32) (S : mS) : Option (Unit × mS) := (if am_ic .ge l2 (S.1 35) = true then (if am_ic .ne l2 (S.1 35) = true then ((F189 n l1 S).bind (fun z14 => ((F191 n l2 z14.2).bind (fun z16 => (if sB z16.1 = true then ((F190 n 1 l2 (m_sI z16.2 27 ((z14.2.1 27) + (nI (sTx z16.1).length)))).bind (fun z19 => some ((), z19.2))) else none))))) else ((F165 n 0 l1 S).bind (fun z21 => some ((), z21.2)))) else ((F191 n l2 S).bind (fun z23 => ((F164 n z23.1 z23.2).bind (fun z25 => (if am_if .ne z25.1 = true then (if am_ic .ne l2 (z25.2.1 35) = true then ((F189 n l1 z25.2).bind (fun z29 => ((F191 n l2 z29.2).bind (fun z31 => (if sB z31.1 = true then ((F190 n 1 l2 (m_sI z31.2 27 ((z29.2.1 27) + (nI (sTx z31.1).length)))).bind (fun z34 => some ((), z34.2))) else none))))) else ((F165 n 0 l1 z25.2).bind (fun z36 => some ((), z36.2)))) else F 37 l1 (l2 + 1) z25.2))))))
def F188f : Nat → Nat → Int32 → Int32 → mS → Option (Unit × mS)
  | 0, _, _, _, _ => none
  | n + 1, c, l1, l2, S => if c = 0 then F188b0 (F188f n) n l1 l2 S else F188b37 (F188f n) n l1 l2 S
theorem F188e0 (n : Nat) (l1 : Int32) (l2 : Int32) (S : mS) : F188f (n + 1) 0 l1 l2 S = F188b0 (F188f n) n l1 l2 S := if_pos rfl
theorem F188e37 (n : Nat) (l1 : Int32) (l2 : Int32) (S : mS) : F188f (n + 1) 37 l1 l2 S = F188b37 (F188f n) n l1 l2 S := if_neg (by decide)
def F188 (n : Nat)  (S : mS) : Option (Unit × mS) := F188f n 0 0 0 S
set_option maxRecDepth 20000 in
set_option maxHeartbeats 2000000 in
theorem F188l {xs : Nat → Int32} {L9 d : Nat} {h : AmH} {Q : Option Value → AmH → Prop} {r0 : Unit} {S0 : mS} (hh : 172 ≤ h.2.1) (hQ : Q none (mst S0 h)) : ∀ n : Nat, (∀ (l1 : Int32) (l2 : Int32) (S : mS), F188f n 0 l1 l2 S = some (r0, S0) → Go (am_X xs L9) (d + 5) 188 0 [.ref 130, .float 0, .float 0] [] (mst S h) Q) ∧ (∀ (l1 : Int32) (l2 : Int32) (S : mS), F188f n 37 l1 l2 S = some (r0, S0) → Go (am_X xs L9) (d + 5) 188 37 [.ref 130, .int l1, .int l2] [] (mst S h) Q) := by
  intro n
  induction n with
  | zero => exact ⟨fun l1 l2 S hf => (by cases hf), fun l1 l2 S hf => (by cases hf)⟩
  | succ n ih =>
    refine ⟨?_, ?_⟩
    · intro l1 l2 S hf
      rw [F188e0] at hf
      unfold F188b0 at hf
      refine r_aload_n fe_188_0 rfl ?_
      refine r_callV (as := []) (r := []) fe_188_1 lm_12_208 md_161 rfl rfl (Nat.le_of_ble_eq_true rfl) m_c_0 (m_lt hh (by decide)) (Nat.le_of_ble_eq_true rfl) (Nat.le_of_ble_eq_true rfl) ?_
      cases hc2 : F161 n  S with
      | none => rw [hc2] at hf; cases hf
      | some z1 =>
        rw [hc2, Option.bind_some] at hf
        refine F161c (r0 := z1.1) (S0 := z1.2) hh hc2 ?_
        refine r_aload_n fe_188_4 rfl ?_
        refine mr_getf hh fe_188_5 lf_12_188 rfl ?_
        refine r_istore_n fe_188_8 (Nat.le_of_ble_eq_true rfl) rfl ?_
        refine r_aload_n fe_188_9 rfl ?_
        refine r_callV (as := []) (r := []) fe_188_10 lm_12_228 md_171 rfl rfl (Nat.le_of_ble_eq_true rfl) m_c_0 (m_lt hh (by decide)) (Nat.le_of_ble_eq_true rfl) (Nat.le_of_ble_eq_true rfl) ?_
        cases hc4 : F171 n  z1.2 with
        | none => rw [hc4] at hf; cases hf
        | some z3 =>
          rw [hc4, Option.bind_some] at hf
          refine F171c (r0 := z3.1) (S0 := z3.2) hh hc4 ?_
          by_cases hb5 : am_if .eq z3.1 = true
          · rw [if_pos hb5] at hf
            refine r_if_t (t := 35) fe_188_13 (by decide) hb5 ?_
            refine r_iconst (v := 0) fe_188_35 (by decide) ?_
            refine r_istore_n fe_188_36 (Nat.le_of_ble_eq_true rfl) rfl ?_
            refine go_weak (L0 := [.ref 130, .int (z1.2.1 27), .int 0]) (lwk_c (Or.inl rfl) (lwk_c (Or.inl rfl) (lwk_c (Or.inl rfl) (lwk_rf [])))) ?_
            exact ih.2 (z1.2.1 27) 0 z3.2 hf
          · rw [if_neg hb5] at hf
            refine r_if_f (t := 35) fe_188_13 (by decide) (Bool.eq_false_iff.mpr hb5) ?_
            refine r_aload_n fe_188_16 rfl ?_
            refine r_ldc fe_188_17 lk_12_232 ?_
            refine r_callV (as := [.int 99999]) (r := []) fe_188_19 lm_12_233 md_170 rfl rfl (Nat.le_of_ble_eq_true rfl) m_c_0 (m_lt hh (by decide)) (Nat.le_of_ble_eq_true rfl) (Nat.le_of_ble_eq_true rfl) ?_
            cases hc7 : F170 n 99999 z3.2 with
            | none => rw [hc7] at hf; cases hf
            | some z6 =>
              rw [hc7, Option.bind_some] at hf
              refine F170c (r0 := z6.1) (S0 := z6.2) hh hc7 ?_
              refine r_istore_n fe_188_22 (Nat.le_of_ble_eq_true rfl) rfl ?_
              refine r_aload_n fe_188_23 rfl ?_
              refine r_iload_n fe_188_24 rfl ?_
              refine r_callV (as := [.int (z1.2.1 27)]) (r := []) fe_188_25 lm_12_236 md_189 rfl rfl (Nat.le_of_ble_eq_true rfl) m_c_0 (m_lt hh (by decide)) (Nat.le_of_ble_eq_true rfl) (Nat.le_of_ble_eq_true rfl) ?_
              cases hc9 : F189 n (z1.2.1 27) z6.2 with
              | none => rw [hc9] at hf; cases hf
              | some z8 =>
                rw [hc9, Option.bind_some] at hf
                refine F189c (r0 := z8.1) (S0 := z8.2) hh hc9 ?_
                refine r_aload_n fe_188_28 rfl ?_
                refine r_iconst (v := 0) fe_188_29 (by decide) ?_
                refine r_iload_n fe_188_30 rfl ?_
                refine r_callV (as := [.int 0, .int z6.1]) (r := []) fe_188_31 lm_12_239 md_190 rfl rfl (Nat.le_of_ble_eq_true rfl) m_c_0 (m_lt hh (by decide)) (Nat.le_of_ble_eq_true rfl) (Nat.le_of_ble_eq_true rfl) ?_
                cases hc11 : F190 n 0 z6.1 z8.2 with
                | none => rw [hc11] at hf; cases hf
                | some z10 =>
                  rw [hc11, Option.bind_some] at hf
                  refine F190c (r0 := z10.1) (S0 := z10.2) hh hc11 ?_
                  refine r_vret fe_188_34 ?_
                  exact dfin (P := fun _ T => Q none (mst T h)) hf hQ
    · intro l1 l2 S hf
      rw [F188e37] at hf
      unfold F188b37 at hf
      refine r_iload_n fe_188_37 rfl ?_
      refine r_aload_n fe_188_38 rfl ?_
      refine mr_getf hh fe_188_39 lf_12_85 rfl ?_
      by_cases hb12 : am_ic .ge l2 (S.1 35) = true
      · rw [if_pos hb12] at hf
        refine r_ic_t (t := 62) fe_188_42 (by decide) hb12 ?_
        refine r_iload_n fe_188_62 rfl ?_
        refine r_aload_n fe_188_63 rfl ?_
        refine mr_getf hh fe_188_64 lf_12_85 rfl ?_
        by_cases hb13 : am_ic .ne l2 (S.1 35) = true
        · rw [if_pos hb13] at hf
          refine r_ic_t (t := 77) fe_188_67 (by decide) hb13 ?_
          refine r_aload_n fe_188_77 rfl ?_
          refine r_iload_n fe_188_78 rfl ?_
          refine r_callV (as := [.int l1]) (r := []) fe_188_79 lm_12_236 md_189 rfl rfl (Nat.le_of_ble_eq_true rfl) m_c_0 (m_lt hh (by decide)) (Nat.le_of_ble_eq_true rfl) (Nat.le_of_ble_eq_true rfl) ?_
          cases hc15 : F189 n l1 S with
          | none => rw [hc15] at hf; cases hf
          | some z14 =>
            rw [hc15, Option.bind_some] at hf
            refine F189c (r0 := z14.1) (S0 := z14.2) hh hc15 ?_
            refine r_aload_n fe_188_82 rfl ?_
            refine r_dup fe_188_83 rfl ?_
            refine mr_getf hh fe_188_84 lf_12_188 rfl ?_
            refine r_iload_n fe_188_87 rfl ?_
            refine r_callS (as := [.int l2]) (r := [.int (z14.2.1 27), .ref 130]) fe_188_88 lm_12_242 md_191 rfl rfl (Nat.le_of_ble_eq_true rfl) (Nat.le_of_ble_eq_true rfl) (Nat.le_of_ble_eq_true rfl) ?_
            cases hc17 : F191 n l2 z14.2 with
            | none => rw [hc17] at hf; cases hf
            | some z16 =>
              rw [hc17, Option.bind_some] at hf
              refine F191c (r0 := z16.1) (S0 := z16.2) hh hc17 ?_
              by_cases hs18 : sB z16.1 = true
              rotate_left
              · rw [if_neg hs18] at hf; cases hf
              rw [if_pos hs18] at hf
              refine r_callV (as := []) (r := [.int (z14.2.1 27), .ref 130]) fe_188_91 lm_12_199 md_24 rfl rfl (Nat.le_of_ble_eq_true rfl) (s_c (sB_ok hs18)) (s_lt (sB_ok hs18) hh) (Nat.le_of_ble_eq_true rfl) (Nat.le_of_ble_eq_true rfl) ?_
              refine c_strlen (sB_ok hs18) (m_64 hh) ?_
              refine r_iadd (v := ((z14.2.1 27) + (nI (sTx z16.1).length))) fe_188_94 rfl ?_
              refine mr_putf hh fe_188_95 lf_12_188 (m_f_27 _ _) (by decide) rfl rfl rfl ?_
              refine r_aload_n fe_188_98 rfl ?_
              refine r_iconst (v := 1) fe_188_99 (by decide) ?_
              refine r_iload_n fe_188_100 rfl ?_
              refine r_callV (as := [.int 1, .int l2]) (r := []) fe_188_101 lm_12_239 md_190 rfl rfl (Nat.le_of_ble_eq_true rfl) m_c_0 (m_lt hh (by decide)) (Nat.le_of_ble_eq_true rfl) (Nat.le_of_ble_eq_true rfl) ?_
              cases hc20 : F190 n 1 l2 (m_sI z16.2 27 ((z14.2.1 27) + (nI (sTx z16.1).length))) with
              | none => rw [hc20] at hf; cases hf
              | some z19 =>
                rw [hc20, Option.bind_some] at hf
                refine F190c (r0 := z19.1) (S0 := z19.2) hh hc20 ?_
                refine r_vret fe_188_104 ?_
                exact dfin (P := fun _ T => Q none (mst T h)) hf hQ
        · rw [if_neg hb13] at hf
          refine r_ic_f (t := 77) fe_188_67 (by decide) (Bool.eq_false_iff.mpr hb13) ?_
          refine r_aload_n fe_188_70 rfl ?_
          refine r_iconst (v := 0) fe_188_71 (by decide) ?_
          refine r_iload_n fe_188_72 rfl ?_
          refine r_callV (as := [.int 0, .int l1]) (r := []) fe_188_73 lm_12_224 md_165 rfl rfl (Nat.le_of_ble_eq_true rfl) m_c_0 (m_lt hh (by decide)) (Nat.le_of_ble_eq_true rfl) (Nat.le_of_ble_eq_true rfl) ?_
          cases hc22 : F165 n 0 l1 S with
          | none => rw [hc22] at hf; cases hf
          | some z21 =>
            rw [hc22, Option.bind_some] at hf
            refine F165c (r0 := z21.1) (S0 := z21.2) hh hc22 ?_
            refine r_vret fe_188_76 ?_
            exact dfin (P := fun _ T => Q none (mst T h)) hf hQ
      · rw [if_neg hb12] at hf
        refine r_ic_f (t := 62) fe_188_42 (by decide) (Bool.eq_false_iff.mpr hb12) ?_
        refine r_aload_n fe_188_45 rfl ?_
        refine r_iload_n fe_188_46 rfl ?_
        refine r_callS (as := [.int l2]) (r := [.ref 130]) fe_188_47 lm_12_242 md_191 rfl rfl (Nat.le_of_ble_eq_true rfl) (Nat.le_of_ble_eq_true rfl) (Nat.le_of_ble_eq_true rfl) ?_
        cases hc24 : F191 n l2 S with
        | none => rw [hc24] at hf; cases hf
        | some z23 =>
          rw [hc24, Option.bind_some] at hf
          refine F191c (r0 := z23.1) (S0 := z23.2) hh hc24 ?_
          refine r_callV (as := [.ref z23.1]) (r := []) fe_188_50 lm_12_211 md_164 rfl rfl (Nat.le_of_ble_eq_true rfl) m_c_0 (m_lt hh (by decide)) (Nat.le_of_ble_eq_true rfl) (Nat.le_of_ble_eq_true rfl) ?_
          cases hc26 : F164 n z23.1 z23.2 with
          | none => rw [hc26] at hf; cases hf
          | some z25 =>
            rw [hc26, Option.bind_some] at hf
            refine F164c (r0 := z25.1) (S0 := z25.2) hh hc26 ?_
            by_cases hb27 : am_if .ne z25.1 = true
            · rw [if_pos hb27] at hf
              refine r_if_t (t := 62) fe_188_53 (by decide) hb27 ?_
              refine r_iload_n fe_188_62 rfl ?_
              refine r_aload_n fe_188_63 rfl ?_
              refine mr_getf hh fe_188_64 lf_12_85 rfl ?_
              by_cases hb28 : am_ic .ne l2 (z25.2.1 35) = true
              · rw [if_pos hb28] at hf
                refine r_ic_t (t := 77) fe_188_67 (by decide) hb28 ?_
                refine r_aload_n fe_188_77 rfl ?_
                refine r_iload_n fe_188_78 rfl ?_
                refine r_callV (as := [.int l1]) (r := []) fe_188_79 lm_12_236 md_189 rfl rfl (Nat.le_of_ble_eq_true rfl) m_c_0 (m_lt hh (by decide)) (Nat.le_of_ble_eq_true rfl) (Nat.le_of_ble_eq_true rfl) ?_
                cases hc30 : F189 n l1 z25.2 with
                | none => rw [hc30] at hf; cases hf
                | some z29 =>
                  rw [hc30, Option.bind_some] at hf
                  refine F189c (r0 := z29.1) (S0 := z29.2) hh hc30 ?_
                  refine r_aload_n fe_188_82 rfl ?_
                  refine r_dup fe_188_83 rfl ?_
                  refine mr_getf hh fe_188_84 lf_12_188 rfl ?_
                  refine r_iload_n fe_188_87 rfl ?_
                  refine r_callS (as := [.int l2]) (r := [.int (z29.2.1 27), .ref 130]) fe_188_88 lm_12_242 md_191 rfl rfl (Nat.le_of_ble_eq_true rfl) (Nat.le_of_ble_eq_true rfl) (Nat.le_of_ble_eq_true rfl) ?_
                  cases hc32 : F191 n l2 z29.2 with
                  | none => rw [hc32] at hf; cases hf
                  | some z31 =>
                    rw [hc32, Option.bind_some] at hf
                    refine F191c (r0 := z31.1) (S0 := z31.2) hh hc32 ?_
                    by_cases hs33 : sB z31.1 = true
                    rotate_left
                    · rw [if_neg hs33] at hf; cases hf
                    rw [if_pos hs33] at hf
                    refine r_callV (as := []) (r := [.int (z29.2.1 27), .ref 130]) fe_188_91 lm_12_199 md_24 rfl rfl (Nat.le_of_ble_eq_true rfl) (s_c (sB_ok hs33)) (s_lt (sB_ok hs33) hh) (Nat.le_of_ble_eq_true rfl) (Nat.le_of_ble_eq_true rfl) ?_
                    refine c_strlen (sB_ok hs33) (m_64 hh) ?_
                    refine r_iadd (v := ((z29.2.1 27) + (nI (sTx z31.1).length))) fe_188_94 rfl ?_
                    refine mr_putf hh fe_188_95 lf_12_188 (m_f_27 _ _) (by decide) rfl rfl rfl ?_
                    refine r_aload_n fe_188_98 rfl ?_
                    refine r_iconst (v := 1) fe_188_99 (by decide) ?_
                    refine r_iload_n fe_188_100 rfl ?_
                    refine r_callV (as := [.int 1, .int l2]) (r := []) fe_188_101 lm_12_239 md_190 rfl rfl (Nat.le_of_ble_eq_true rfl) m_c_0 (m_lt hh (by decide)) (Nat.le_of_ble_eq_true rfl) (Nat.le_of_ble_eq_true rfl) ?_
                    cases hc35 : F190 n 1 l2 (m_sI z31.2 27 ((z29.2.1 27) + (nI (sTx z31.1).length))) with
                    | none => rw [hc35] at hf; cases hf
                    | some z34 =>
                      rw [hc35, Option.bind_some] at hf
                      refine F190c (r0 := z34.1) (S0 := z34.2) hh hc35 ?_
                      refine r_vret fe_188_104 ?_
                      exact dfin (P := fun _ T => Q none (mst T h)) hf hQ
              · rw [if_neg hb28] at hf
                refine r_ic_f (t := 77) fe_188_67 (by decide) (Bool.eq_false_iff.mpr hb28) ?_
                refine r_aload_n fe_188_70 rfl ?_
                refine r_iconst (v := 0) fe_188_71 (by decide) ?_
                refine r_iload_n fe_188_72 rfl ?_
                refine r_callV (as := [.int 0, .int l1]) (r := []) fe_188_73 lm_12_224 md_165 rfl rfl (Nat.le_of_ble_eq_true rfl) m_c_0 (m_lt hh (by decide)) (Nat.le_of_ble_eq_true rfl) (Nat.le_of_ble_eq_true rfl) ?_
                cases hc37 : F165 n 0 l1 z25.2 with
                | none => rw [hc37] at hf; cases hf
                | some z36 =>
                  rw [hc37, Option.bind_some] at hf
                  refine F165c (r0 := z36.1) (S0 := z36.2) hh hc37 ?_
                  refine r_vret fe_188_76 ?_
                  exact dfin (P := fun _ T => Q none (mst T h)) hf hQ
            · rw [if_neg hb27] at hf
              refine r_if_f (t := 62) fe_188_53 (by decide) (Bool.eq_false_iff.mpr hb27) ?_
              refine r_iinc (v := (l2 + 1)) fe_188_56 rfl rfl rfl ?_
              refine r_goto (t := 37) fe_188_59 (by decide) ?_
              refine go_weak (L0 := [.ref 130, .int l1, .int (l2 + 1)]) (lwk_c (Or.inl rfl) (lwk_c (Or.inl rfl) (lwk_c (Or.inl rfl) (lwk_rf [])))) ?_
              exact ih.2 l1 (l2 + 1) z25.2 hf
theorem F188c {xs : Nat → Int32} {L9 d n : Nat} {h : AmH} {Q : Option Value → AmH → Prop} {r0 : Unit} {S0 S : mS}  (hh : 172 ≤ h.2.1) (hf : F188 n  S = some (r0, S0)) (hQ : Q none (mst S0 h)) : Ca (am_X xs L9) (d + 5) 188 [.ref 130] (mst S h) Q := (F188l hh hQ n).1 0 0 S hf
def F187b0 (F : Nat → mS → Option (Unit × mS)) (n : Nat)  (S : mS) : Option (Unit × mS) := ((F188 n  S).bind (fun z1 => ((F161 n  z1.2).bind (fun z3 => F 8 z3.2))))
def F187b8 (F : Nat → mS → Option (Unit × mS)) (n : Nat)  (S : mS) : Option (Unit × mS) := (if am_if .ne (S.1 28) = true then some ((), S) else ((F162 n  S).bind (fun z6 => (if am_ic .eq z6.1 42 = true then ((F162 n  z6.2).bind (fun z9 => (if am_ic .ne z9.1 42 = true then ((F162 n  z9.2).bind (fun z12 => (if am_ic .ne z12.1 47 = true then ((F188 n  (m_sI z12.2 27 ((z12.2.1 27) + 1))).bind (fun z15 => ((F190 n 15 0 z15.2).bind (fun z17 => ((F161 n  z17.2).bind (fun z19 => F 8 z19.2)))))) else ((F188 n  (m_sI z12.2 27 ((z12.2.1 27) + 1))).bind (fun z21 => ((F190 n 14 0 z21.2).bind (fun z23 => ((F161 n  z23.2).bind (fun z25 => F 8 z25.2))))))))) else ((F188 n  (m_sI z9.2 27 ((z9.2.1 27) + 1))).bind (fun z27 => ((F190 n 13 0 z27.2).bind (fun z29 => ((F161 n  z29.2).bind (fun z31 => F 8 z31.2))))))))) else ((F162 n  z6.2).bind (fun z33 => (if am_ic .eq z33.1 47 = true then ((F162 n  z33.2).bind (fun z36 => (if am_ic .ne z36.1 42 = true then ((F162 n  z36.2).bind (fun z39 => (if am_ic .ne z39.1 47 = true then ((F188 n  (m_sI z39.2 27 ((z39.2.1 27) + 1))).bind (fun z42 => ((F190 n 15 0 z42.2).bind (fun z44 => ((F161 n  z44.2).bind (fun z46 => F 8 z46.2)))))) else ((F188 n  (m_sI z39.2 27 ((z39.2.1 27) + 1))).bind (fun z48 => ((F190 n 14 0 z48.2).bind (fun z50 => ((F161 n  z50.2).bind (fun z52 => F 8 z52.2))))))))) else ((F188 n  (m_sI z36.2 27 ((z36.2.1 27) + 1))).bind (fun z54 => ((F190 n 13 0 z54.2).bind (fun z56 => ((F161 n  z56.2).bind (fun z58 => F 8 z58.2))))))))) else ((F162 n  z33.2).bind (fun z60 => (if am_ic .ne z60.1 37 = true then some ((), z60.2) else ((F162 n  z60.2).bind (fun z63 => (if am_ic .ne z63.1 42 = true then ((F162 n  z63.2).bind (fun z66 => (if am_ic .ne z66.1 47 = true then ((F188 n  (m_sI z66.2 27 ((z66.2.1 27) + 1))).bind (fun z69 => ((F190 n 15 0 z69.2).bind (fun z71 => ((F161 n  z71.2).bind (fun z73 => F 8 z73.2)))))) else ((F188 n  (m_sI z66.2 27 ((z66.2.1 27) + 1))).bind (fun z75 => ((F190 n 14 0 z75.2).bind (fun z77 => ((F161 n  z77.2).bind (fun z79 => F 8 z79.2))))))))) else ((F188 n  (m_sI z63.2 27 ((z63.2.1 27) + 1))).bind (fun z81 => ((F190 n 13 0 z81.2).bind (fun z83 => ((F161 n  z83.2).bind (fun z85 => F 8 z85.2)))))))))))))))))))
def F187f : Nat → Nat → mS → Option (Unit × mS)
  | 0, _, _ => none
  | n + 1, c, S => if c = 0 then F187b0 (F187f n) n  S else F187b8 (F187f n) n  S
theorem F187e0 (n : Nat)  (S : mS) : F187f (n + 1) 0  S = F187b0 (F187f n) n  S := if_pos rfl
theorem F187e8 (n : Nat)  (S : mS) : F187f (n + 1) 8  S = F187b8 (F187f n) n  S := if_neg (by decide)
def F187 (n : Nat)  (S : mS) : Option (Unit × mS) := F187f n 0  S
set_option maxRecDepth 20000 in
set_option maxHeartbeats 2000000 in
theorem F187l {xs : Nat → Int32} {L9 d : Nat} {h : AmH} {Q : Option Value → AmH → Prop} {r0 : Unit} {S0 : mS} (hh : 172 ≤ h.2.1) (hQ : Q none (mst S0 h)) : ∀ n : Nat, (∀ (S : mS), F187f n 0 S = some (r0, S0) → Go (am_X xs L9) (d + 6) 187 0 [.ref 130, .float 0] [] (mst S h) Q) ∧ (∀ (S : mS), F187f n 8 S = some (r0, S0) → Go (am_X xs L9) (d + 6) 187 8 [.ref 130, .float 0] [] (mst S h) Q) := by
  intro n
  induction n with
  | zero => exact ⟨fun  S hf => (by cases hf), fun  S hf => (by cases hf)⟩
  | succ n ih =>
    refine ⟨?_, ?_⟩
    · intro  S hf
      rw [F187e0] at hf
      unfold F187b0 at hf
      refine r_aload_n fe_187_0 rfl ?_
      refine r_callV (as := []) (r := []) fe_187_1 lm_12_246 md_188 rfl rfl (Nat.le_of_ble_eq_true rfl) m_c_0 (m_lt hh (by decide)) (Nat.le_of_ble_eq_true rfl) (Nat.le_of_ble_eq_true rfl) ?_
      cases hc2 : F188 n  S with
      | none => rw [hc2] at hf; cases hf
      | some z1 =>
        rw [hc2, Option.bind_some] at hf
        refine F188c (r0 := z1.1) (S0 := z1.2) hh hc2 ?_
        refine r_aload_n fe_187_4 rfl ?_
        refine r_callV (as := []) (r := []) fe_187_5 lm_12_208 md_161 rfl rfl (Nat.le_of_ble_eq_true rfl) m_c_0 (m_lt hh (by decide)) (Nat.le_of_ble_eq_true rfl) (Nat.le_of_ble_eq_true rfl) ?_
        cases hc4 : F161 n  z1.2 with
        | none => rw [hc4] at hf; cases hf
        | some z3 =>
          rw [hc4, Option.bind_some] at hf
          refine F161c (r0 := z3.1) (S0 := z3.2) hh hc4 ?_
          refine go_weak (L0 := [.ref 130, .float 0]) (lwk_c (Or.inl rfl) (lwk_c (Or.inl rfl) (lwk_rf []))) ?_
          exact ih.2  z3.2 hf
    · intro  S hf
      rw [F187e8] at hf
      unfold F187b8 at hf
      refine r_aload_n fe_187_8 rfl ?_
      refine mr_getf hh fe_187_9 lf_12_185 rfl ?_
      by_cases hb5 : am_if .ne (S.1 28) = true
      · rw [if_pos hb5] at hf
        refine r_if_t (t := 100) fe_187_12 (by decide) hb5 ?_
        refine r_vret fe_187_100 ?_
        exact dfin (P := fun _ T => Q none (mst T h)) hf hQ
      · rw [if_neg hb5] at hf
        refine r_if_f (t := 100) fe_187_12 (by decide) (Bool.eq_false_iff.mpr hb5) ?_
        refine r_aload_n fe_187_15 rfl ?_
        refine r_callV (as := []) (r := []) fe_187_16 lm_12_191 md_162 rfl rfl (Nat.le_of_ble_eq_true rfl) m_c_0 (m_lt hh (by decide)) (Nat.le_of_ble_eq_true rfl) (Nat.le_of_ble_eq_true rfl) ?_
        cases hc7 : F162 n  S with
        | none => rw [hc7] at hf; cases hf
        | some z6 =>
          rw [hc7, Option.bind_some] at hf
          refine F162c (r0 := z6.1) (S0 := z6.2) hh hc7 ?_
          refine r_bipush (v := 42) fe_187_19 (by decide) ?_
          by_cases hb8 : am_ic .eq z6.1 42 = true
          · rw [if_pos hb8] at hf
            refine r_ic_t (t := 42) fe_187_21 (by decide) hb8 ?_
            refine r_aload_n fe_187_42 rfl ?_
            refine r_callV (as := []) (r := []) fe_187_43 lm_12_191 md_162 rfl rfl (Nat.le_of_ble_eq_true rfl) m_c_0 (m_lt hh (by decide)) (Nat.le_of_ble_eq_true rfl) (Nat.le_of_ble_eq_true rfl) ?_
            cases hc10 : F162 n  z6.2 with
            | none => rw [hc10] at hf; cases hf
            | some z9 =>
              rw [hc10, Option.bind_some] at hf
              refine F162c (r0 := z9.1) (S0 := z9.2) hh hc10 ?_
              refine r_bipush (v := 42) fe_187_46 (by decide) ?_
              by_cases hb11 : am_ic .ne z9.1 42 = true
              · rw [if_pos hb11] at hf
                refine r_ic_t (t := 56) fe_187_48 (by decide) hb11 ?_
                refine r_aload_n fe_187_56 rfl ?_
                refine r_callV (as := []) (r := []) fe_187_57 lm_12_191 md_162 rfl rfl (Nat.le_of_ble_eq_true rfl) m_c_0 (m_lt hh (by decide)) (Nat.le_of_ble_eq_true rfl) (Nat.le_of_ble_eq_true rfl) ?_
                cases hc13 : F162 n  z9.2 with
                | none => rw [hc13] at hf; cases hf
                | some z12 =>
                  rw [hc13, Option.bind_some] at hf
                  refine F162c (r0 := z12.1) (S0 := z12.2) hh hc13 ?_
                  refine r_bipush (v := 47) fe_187_60 (by decide) ?_
                  by_cases hb14 : am_ic .ne z12.1 47 = true
                  · rw [if_pos hb14] at hf
                    refine r_ic_t (t := 70) fe_187_62 (by decide) hb14 ?_
                    refine r_bipush (v := 15) fe_187_70 (by decide) ?_
                    refine r_istore_n fe_187_72 (Nat.le_of_ble_eq_true rfl) rfl ?_
                    refine r_aload_n fe_187_73 rfl ?_
                    refine r_dup fe_187_74 rfl ?_
                    refine mr_getf hh fe_187_75 lf_12_188 rfl ?_
                    refine r_iconst (v := 1) fe_187_78 (by decide) ?_
                    refine r_iadd (v := ((z12.2.1 27) + 1)) fe_187_79 rfl ?_
                    refine mr_putf hh fe_187_80 lf_12_188 (m_f_27 _ _) (by decide) rfl rfl rfl ?_
                    refine r_aload_n fe_187_83 rfl ?_
                    refine r_callV (as := []) (r := []) fe_187_84 lm_12_246 md_188 rfl rfl (Nat.le_of_ble_eq_true rfl) m_c_0 (m_lt hh (by decide)) (Nat.le_of_ble_eq_true rfl) (Nat.le_of_ble_eq_true rfl) ?_
                    cases hc16 : F188 n  (m_sI z12.2 27 ((z12.2.1 27) + 1)) with
                    | none => rw [hc16] at hf; cases hf
                    | some z15 =>
                      rw [hc16, Option.bind_some] at hf
                      refine F188c (r0 := z15.1) (S0 := z15.2) hh hc16 ?_
                      refine r_aload_n fe_187_87 rfl ?_
                      refine r_iload_n fe_187_88 rfl ?_
                      refine r_iconst (v := 0) fe_187_89 (by decide) ?_
                      refine r_callV (as := [.int 15, .int 0]) (r := []) fe_187_90 lm_12_239 md_190 rfl rfl (Nat.le_of_ble_eq_true rfl) m_c_0 (m_lt hh (by decide)) (Nat.le_of_ble_eq_true rfl) (Nat.le_of_ble_eq_true rfl) ?_
                      cases hc18 : F190 n 15 0 z15.2 with
                      | none => rw [hc18] at hf; cases hf
                      | some z17 =>
                        rw [hc18, Option.bind_some] at hf
                        refine F190c (r0 := z17.1) (S0 := z17.2) hh hc18 ?_
                        refine r_aload_n fe_187_93 rfl ?_
                        refine r_callV (as := []) (r := []) fe_187_94 lm_12_208 md_161 rfl rfl (Nat.le_of_ble_eq_true rfl) m_c_0 (m_lt hh (by decide)) (Nat.le_of_ble_eq_true rfl) (Nat.le_of_ble_eq_true rfl) ?_
                        cases hc20 : F161 n  z17.2 with
                        | none => rw [hc20] at hf; cases hf
                        | some z19 =>
                          rw [hc20, Option.bind_some] at hf
                          refine F161c (r0 := z19.1) (S0 := z19.2) hh hc20 ?_
                          refine r_goto (t := 8) fe_187_97 (by decide) ?_
                          refine go_weak (L0 := [.ref 130, .float 0]) (lwk_c (Or.inl rfl) (lwk_c (Or.inr rfl) (lwk_rf []))) ?_
                          exact ih.2  z19.2 hf
                  · rw [if_neg hb14] at hf
                    refine r_ic_f (t := 70) fe_187_62 (by decide) (Bool.eq_false_iff.mpr hb14) ?_
                    refine r_bipush (v := 14) fe_187_65 (by decide) ?_
                    refine r_goto (t := 72) fe_187_67 (by decide) ?_
                    refine r_istore_n fe_187_72 (Nat.le_of_ble_eq_true rfl) rfl ?_
                    refine r_aload_n fe_187_73 rfl ?_
                    refine r_dup fe_187_74 rfl ?_
                    refine mr_getf hh fe_187_75 lf_12_188 rfl ?_
                    refine r_iconst (v := 1) fe_187_78 (by decide) ?_
                    refine r_iadd (v := ((z12.2.1 27) + 1)) fe_187_79 rfl ?_
                    refine mr_putf hh fe_187_80 lf_12_188 (m_f_27 _ _) (by decide) rfl rfl rfl ?_
                    refine r_aload_n fe_187_83 rfl ?_
                    refine r_callV (as := []) (r := []) fe_187_84 lm_12_246 md_188 rfl rfl (Nat.le_of_ble_eq_true rfl) m_c_0 (m_lt hh (by decide)) (Nat.le_of_ble_eq_true rfl) (Nat.le_of_ble_eq_true rfl) ?_
                    cases hc22 : F188 n  (m_sI z12.2 27 ((z12.2.1 27) + 1)) with
                    | none => rw [hc22] at hf; cases hf
                    | some z21 =>
                      rw [hc22, Option.bind_some] at hf
                      refine F188c (r0 := z21.1) (S0 := z21.2) hh hc22 ?_
                      refine r_aload_n fe_187_87 rfl ?_
                      refine r_iload_n fe_187_88 rfl ?_
                      refine r_iconst (v := 0) fe_187_89 (by decide) ?_
                      refine r_callV (as := [.int 14, .int 0]) (r := []) fe_187_90 lm_12_239 md_190 rfl rfl (Nat.le_of_ble_eq_true rfl) m_c_0 (m_lt hh (by decide)) (Nat.le_of_ble_eq_true rfl) (Nat.le_of_ble_eq_true rfl) ?_
                      cases hc24 : F190 n 14 0 z21.2 with
                      | none => rw [hc24] at hf; cases hf
                      | some z23 =>
                        rw [hc24, Option.bind_some] at hf
                        refine F190c (r0 := z23.1) (S0 := z23.2) hh hc24 ?_
                        refine r_aload_n fe_187_93 rfl ?_
                        refine r_callV (as := []) (r := []) fe_187_94 lm_12_208 md_161 rfl rfl (Nat.le_of_ble_eq_true rfl) m_c_0 (m_lt hh (by decide)) (Nat.le_of_ble_eq_true rfl) (Nat.le_of_ble_eq_true rfl) ?_
                        cases hc26 : F161 n  z23.2 with
                        | none => rw [hc26] at hf; cases hf
                        | some z25 =>
                          rw [hc26, Option.bind_some] at hf
                          refine F161c (r0 := z25.1) (S0 := z25.2) hh hc26 ?_
                          refine r_goto (t := 8) fe_187_97 (by decide) ?_
                          refine go_weak (L0 := [.ref 130, .float 0]) (lwk_c (Or.inl rfl) (lwk_c (Or.inr rfl) (lwk_rf []))) ?_
                          exact ih.2  z25.2 hf
              · rw [if_neg hb11] at hf
                refine r_ic_f (t := 56) fe_187_48 (by decide) (Bool.eq_false_iff.mpr hb11) ?_
                refine r_bipush (v := 13) fe_187_51 (by decide) ?_
                refine r_goto (t := 72) fe_187_53 (by decide) ?_
                refine r_istore_n fe_187_72 (Nat.le_of_ble_eq_true rfl) rfl ?_
                refine r_aload_n fe_187_73 rfl ?_
                refine r_dup fe_187_74 rfl ?_
                refine mr_getf hh fe_187_75 lf_12_188 rfl ?_
                refine r_iconst (v := 1) fe_187_78 (by decide) ?_
                refine r_iadd (v := ((z9.2.1 27) + 1)) fe_187_79 rfl ?_
                refine mr_putf hh fe_187_80 lf_12_188 (m_f_27 _ _) (by decide) rfl rfl rfl ?_
                refine r_aload_n fe_187_83 rfl ?_
                refine r_callV (as := []) (r := []) fe_187_84 lm_12_246 md_188 rfl rfl (Nat.le_of_ble_eq_true rfl) m_c_0 (m_lt hh (by decide)) (Nat.le_of_ble_eq_true rfl) (Nat.le_of_ble_eq_true rfl) ?_
                cases hc28 : F188 n  (m_sI z9.2 27 ((z9.2.1 27) + 1)) with
                | none => rw [hc28] at hf; cases hf
                | some z27 =>
                  rw [hc28, Option.bind_some] at hf
                  refine F188c (r0 := z27.1) (S0 := z27.2) hh hc28 ?_
                  refine r_aload_n fe_187_87 rfl ?_
                  refine r_iload_n fe_187_88 rfl ?_
                  refine r_iconst (v := 0) fe_187_89 (by decide) ?_
                  refine r_callV (as := [.int 13, .int 0]) (r := []) fe_187_90 lm_12_239 md_190 rfl rfl (Nat.le_of_ble_eq_true rfl) m_c_0 (m_lt hh (by decide)) (Nat.le_of_ble_eq_true rfl) (Nat.le_of_ble_eq_true rfl) ?_
                  cases hc30 : F190 n 13 0 z27.2 with
                  | none => rw [hc30] at hf; cases hf
                  | some z29 =>
                    rw [hc30, Option.bind_some] at hf
                    refine F190c (r0 := z29.1) (S0 := z29.2) hh hc30 ?_
                    refine r_aload_n fe_187_93 rfl ?_
                    refine r_callV (as := []) (r := []) fe_187_94 lm_12_208 md_161 rfl rfl (Nat.le_of_ble_eq_true rfl) m_c_0 (m_lt hh (by decide)) (Nat.le_of_ble_eq_true rfl) (Nat.le_of_ble_eq_true rfl) ?_
                    cases hc32 : F161 n  z29.2 with
                    | none => rw [hc32] at hf; cases hf
                    | some z31 =>
                      rw [hc32, Option.bind_some] at hf
                      refine F161c (r0 := z31.1) (S0 := z31.2) hh hc32 ?_
                      refine r_goto (t := 8) fe_187_97 (by decide) ?_
                      refine go_weak (L0 := [.ref 130, .float 0]) (lwk_c (Or.inl rfl) (lwk_c (Or.inr rfl) (lwk_rf []))) ?_
                      exact ih.2  z31.2 hf
          · rw [if_neg hb8] at hf
            refine r_ic_f (t := 42) fe_187_21 (by decide) (Bool.eq_false_iff.mpr hb8) ?_
            refine r_aload_n fe_187_24 rfl ?_
            refine r_callV (as := []) (r := []) fe_187_25 lm_12_191 md_162 rfl rfl (Nat.le_of_ble_eq_true rfl) m_c_0 (m_lt hh (by decide)) (Nat.le_of_ble_eq_true rfl) (Nat.le_of_ble_eq_true rfl) ?_
            cases hc34 : F162 n  z6.2 with
            | none => rw [hc34] at hf; cases hf
            | some z33 =>
              rw [hc34, Option.bind_some] at hf
              refine F162c (r0 := z33.1) (S0 := z33.2) hh hc34 ?_
              refine r_bipush (v := 47) fe_187_28 (by decide) ?_
              by_cases hb35 : am_ic .eq z33.1 47 = true
              · rw [if_pos hb35] at hf
                refine r_ic_t (t := 42) fe_187_30 (by decide) hb35 ?_
                refine r_aload_n fe_187_42 rfl ?_
                refine r_callV (as := []) (r := []) fe_187_43 lm_12_191 md_162 rfl rfl (Nat.le_of_ble_eq_true rfl) m_c_0 (m_lt hh (by decide)) (Nat.le_of_ble_eq_true rfl) (Nat.le_of_ble_eq_true rfl) ?_
                cases hc37 : F162 n  z33.2 with
                | none => rw [hc37] at hf; cases hf
                | some z36 =>
                  rw [hc37, Option.bind_some] at hf
                  refine F162c (r0 := z36.1) (S0 := z36.2) hh hc37 ?_
                  refine r_bipush (v := 42) fe_187_46 (by decide) ?_
                  by_cases hb38 : am_ic .ne z36.1 42 = true
                  · rw [if_pos hb38] at hf
                    refine r_ic_t (t := 56) fe_187_48 (by decide) hb38 ?_
                    refine r_aload_n fe_187_56 rfl ?_
                    refine r_callV (as := []) (r := []) fe_187_57 lm_12_191 md_162 rfl rfl (Nat.le_of_ble_eq_true rfl) m_c_0 (m_lt hh (by decide)) (Nat.le_of_ble_eq_true rfl) (Nat.le_of_ble_eq_true rfl) ?_
                    cases hc40 : F162 n  z36.2 with
                    | none => rw [hc40] at hf; cases hf
                    | some z39 =>
                      rw [hc40, Option.bind_some] at hf
                      refine F162c (r0 := z39.1) (S0 := z39.2) hh hc40 ?_
                      refine r_bipush (v := 47) fe_187_60 (by decide) ?_
                      by_cases hb41 : am_ic .ne z39.1 47 = true
                      · rw [if_pos hb41] at hf
                        refine r_ic_t (t := 70) fe_187_62 (by decide) hb41 ?_
                        refine r_bipush (v := 15) fe_187_70 (by decide) ?_
                        refine r_istore_n fe_187_72 (Nat.le_of_ble_eq_true rfl) rfl ?_
                        refine r_aload_n fe_187_73 rfl ?_
                        refine r_dup fe_187_74 rfl ?_
                        refine mr_getf hh fe_187_75 lf_12_188 rfl ?_
                        refine r_iconst (v := 1) fe_187_78 (by decide) ?_
                        refine r_iadd (v := ((z39.2.1 27) + 1)) fe_187_79 rfl ?_
                        refine mr_putf hh fe_187_80 lf_12_188 (m_f_27 _ _) (by decide) rfl rfl rfl ?_
                        refine r_aload_n fe_187_83 rfl ?_
                        refine r_callV (as := []) (r := []) fe_187_84 lm_12_246 md_188 rfl rfl (Nat.le_of_ble_eq_true rfl) m_c_0 (m_lt hh (by decide)) (Nat.le_of_ble_eq_true rfl) (Nat.le_of_ble_eq_true rfl) ?_
                        cases hc43 : F188 n  (m_sI z39.2 27 ((z39.2.1 27) + 1)) with
                        | none => rw [hc43] at hf; cases hf
                        | some z42 =>
                          rw [hc43, Option.bind_some] at hf
                          refine F188c (r0 := z42.1) (S0 := z42.2) hh hc43 ?_
                          refine r_aload_n fe_187_87 rfl ?_
                          refine r_iload_n fe_187_88 rfl ?_
                          refine r_iconst (v := 0) fe_187_89 (by decide) ?_
                          refine r_callV (as := [.int 15, .int 0]) (r := []) fe_187_90 lm_12_239 md_190 rfl rfl (Nat.le_of_ble_eq_true rfl) m_c_0 (m_lt hh (by decide)) (Nat.le_of_ble_eq_true rfl) (Nat.le_of_ble_eq_true rfl) ?_
                          cases hc45 : F190 n 15 0 z42.2 with
                          | none => rw [hc45] at hf; cases hf
                          | some z44 =>
                            rw [hc45, Option.bind_some] at hf
                            refine F190c (r0 := z44.1) (S0 := z44.2) hh hc45 ?_
                            refine r_aload_n fe_187_93 rfl ?_
                            refine r_callV (as := []) (r := []) fe_187_94 lm_12_208 md_161 rfl rfl (Nat.le_of_ble_eq_true rfl) m_c_0 (m_lt hh (by decide)) (Nat.le_of_ble_eq_true rfl) (Nat.le_of_ble_eq_true rfl) ?_
                            cases hc47 : F161 n  z44.2 with
                            | none => rw [hc47] at hf; cases hf
                            | some z46 =>
                              rw [hc47, Option.bind_some] at hf
                              refine F161c (r0 := z46.1) (S0 := z46.2) hh hc47 ?_
                              refine r_goto (t := 8) fe_187_97 (by decide) ?_
                              refine go_weak (L0 := [.ref 130, .float 0]) (lwk_c (Or.inl rfl) (lwk_c (Or.inr rfl) (lwk_rf []))) ?_
                              exact ih.2  z46.2 hf
                      · rw [if_neg hb41] at hf
                        refine r_ic_f (t := 70) fe_187_62 (by decide) (Bool.eq_false_iff.mpr hb41) ?_
                        refine r_bipush (v := 14) fe_187_65 (by decide) ?_
                        refine r_goto (t := 72) fe_187_67 (by decide) ?_
                        refine r_istore_n fe_187_72 (Nat.le_of_ble_eq_true rfl) rfl ?_
                        refine r_aload_n fe_187_73 rfl ?_
                        refine r_dup fe_187_74 rfl ?_
                        refine mr_getf hh fe_187_75 lf_12_188 rfl ?_
                        refine r_iconst (v := 1) fe_187_78 (by decide) ?_
                        refine r_iadd (v := ((z39.2.1 27) + 1)) fe_187_79 rfl ?_
                        refine mr_putf hh fe_187_80 lf_12_188 (m_f_27 _ _) (by decide) rfl rfl rfl ?_
                        refine r_aload_n fe_187_83 rfl ?_
                        refine r_callV (as := []) (r := []) fe_187_84 lm_12_246 md_188 rfl rfl (Nat.le_of_ble_eq_true rfl) m_c_0 (m_lt hh (by decide)) (Nat.le_of_ble_eq_true rfl) (Nat.le_of_ble_eq_true rfl) ?_
                        cases hc49 : F188 n  (m_sI z39.2 27 ((z39.2.1 27) + 1)) with
                        | none => rw [hc49] at hf; cases hf
                        | some z48 =>
                          rw [hc49, Option.bind_some] at hf
                          refine F188c (r0 := z48.1) (S0 := z48.2) hh hc49 ?_
                          refine r_aload_n fe_187_87 rfl ?_
                          refine r_iload_n fe_187_88 rfl ?_
                          refine r_iconst (v := 0) fe_187_89 (by decide) ?_
                          refine r_callV (as := [.int 14, .int 0]) (r := []) fe_187_90 lm_12_239 md_190 rfl rfl (Nat.le_of_ble_eq_true rfl) m_c_0 (m_lt hh (by decide)) (Nat.le_of_ble_eq_true rfl) (Nat.le_of_ble_eq_true rfl) ?_
                          cases hc51 : F190 n 14 0 z48.2 with
                          | none => rw [hc51] at hf; cases hf
                          | some z50 =>
                            rw [hc51, Option.bind_some] at hf
                            refine F190c (r0 := z50.1) (S0 := z50.2) hh hc51 ?_
                            refine r_aload_n fe_187_93 rfl ?_
                            refine r_callV (as := []) (r := []) fe_187_94 lm_12_208 md_161 rfl rfl (Nat.le_of_ble_eq_true rfl) m_c_0 (m_lt hh (by decide)) (Nat.le_of_ble_eq_true rfl) (Nat.le_of_ble_eq_true rfl) ?_
                            cases hc53 : F161 n  z50.2 with
                            | none => rw [hc53] at hf; cases hf
                            | some z52 =>
                              rw [hc53, Option.bind_some] at hf
                              refine F161c (r0 := z52.1) (S0 := z52.2) hh hc53 ?_
                              refine r_goto (t := 8) fe_187_97 (by decide) ?_
                              refine go_weak (L0 := [.ref 130, .float 0]) (lwk_c (Or.inl rfl) (lwk_c (Or.inr rfl) (lwk_rf []))) ?_
                              exact ih.2  z52.2 hf
                  · rw [if_neg hb38] at hf
                    refine r_ic_f (t := 56) fe_187_48 (by decide) (Bool.eq_false_iff.mpr hb38) ?_
                    refine r_bipush (v := 13) fe_187_51 (by decide) ?_
                    refine r_goto (t := 72) fe_187_53 (by decide) ?_
                    refine r_istore_n fe_187_72 (Nat.le_of_ble_eq_true rfl) rfl ?_
                    refine r_aload_n fe_187_73 rfl ?_
                    refine r_dup fe_187_74 rfl ?_
                    refine mr_getf hh fe_187_75 lf_12_188 rfl ?_
                    refine r_iconst (v := 1) fe_187_78 (by decide) ?_
                    refine r_iadd (v := ((z36.2.1 27) + 1)) fe_187_79 rfl ?_
                    refine mr_putf hh fe_187_80 lf_12_188 (m_f_27 _ _) (by decide) rfl rfl rfl ?_
                    refine r_aload_n fe_187_83 rfl ?_
                    refine r_callV (as := []) (r := []) fe_187_84 lm_12_246 md_188 rfl rfl (Nat.le_of_ble_eq_true rfl) m_c_0 (m_lt hh (by decide)) (Nat.le_of_ble_eq_true rfl) (Nat.le_of_ble_eq_true rfl) ?_
                    cases hc55 : F188 n  (m_sI z36.2 27 ((z36.2.1 27) + 1)) with
                    | none => rw [hc55] at hf; cases hf
                    | some z54 =>
                      rw [hc55, Option.bind_some] at hf
                      refine F188c (r0 := z54.1) (S0 := z54.2) hh hc55 ?_
                      refine r_aload_n fe_187_87 rfl ?_
                      refine r_iload_n fe_187_88 rfl ?_
                      refine r_iconst (v := 0) fe_187_89 (by decide) ?_
                      refine r_callV (as := [.int 13, .int 0]) (r := []) fe_187_90 lm_12_239 md_190 rfl rfl (Nat.le_of_ble_eq_true rfl) m_c_0 (m_lt hh (by decide)) (Nat.le_of_ble_eq_true rfl) (Nat.le_of_ble_eq_true rfl) ?_
                      cases hc57 : F190 n 13 0 z54.2 with
                      | none => rw [hc57] at hf; cases hf
                      | some z56 =>
                        rw [hc57, Option.bind_some] at hf
                        refine F190c (r0 := z56.1) (S0 := z56.2) hh hc57 ?_
                        refine r_aload_n fe_187_93 rfl ?_
                        refine r_callV (as := []) (r := []) fe_187_94 lm_12_208 md_161 rfl rfl (Nat.le_of_ble_eq_true rfl) m_c_0 (m_lt hh (by decide)) (Nat.le_of_ble_eq_true rfl) (Nat.le_of_ble_eq_true rfl) ?_
                        cases hc59 : F161 n  z56.2 with
                        | none => rw [hc59] at hf; cases hf
                        | some z58 =>
                          rw [hc59, Option.bind_some] at hf
                          refine F161c (r0 := z58.1) (S0 := z58.2) hh hc59 ?_
                          refine r_goto (t := 8) fe_187_97 (by decide) ?_
                          refine go_weak (L0 := [.ref 130, .float 0]) (lwk_c (Or.inl rfl) (lwk_c (Or.inr rfl) (lwk_rf []))) ?_
                          exact ih.2  z58.2 hf
              · rw [if_neg hb35] at hf
                refine r_ic_f (t := 42) fe_187_30 (by decide) (Bool.eq_false_iff.mpr hb35) ?_
                refine r_aload_n fe_187_33 rfl ?_
                refine r_callV (as := []) (r := []) fe_187_34 lm_12_191 md_162 rfl rfl (Nat.le_of_ble_eq_true rfl) m_c_0 (m_lt hh (by decide)) (Nat.le_of_ble_eq_true rfl) (Nat.le_of_ble_eq_true rfl) ?_
                cases hc61 : F162 n  z33.2 with
                | none => rw [hc61] at hf; cases hf
                | some z60 =>
                  rw [hc61, Option.bind_some] at hf
                  refine F162c (r0 := z60.1) (S0 := z60.2) hh hc61 ?_
                  refine r_bipush (v := 37) fe_187_37 (by decide) ?_
                  by_cases hb62 : am_ic .ne z60.1 37 = true
                  · rw [if_pos hb62] at hf
                    refine r_ic_t (t := 100) fe_187_39 (by decide) hb62 ?_
                    refine r_vret fe_187_100 ?_
                    exact dfin (P := fun _ T => Q none (mst T h)) hf hQ
                  · rw [if_neg hb62] at hf
                    refine r_ic_f (t := 100) fe_187_39 (by decide) (Bool.eq_false_iff.mpr hb62) ?_
                    refine r_aload_n fe_187_42 rfl ?_
                    refine r_callV (as := []) (r := []) fe_187_43 lm_12_191 md_162 rfl rfl (Nat.le_of_ble_eq_true rfl) m_c_0 (m_lt hh (by decide)) (Nat.le_of_ble_eq_true rfl) (Nat.le_of_ble_eq_true rfl) ?_
                    cases hc64 : F162 n  z60.2 with
                    | none => rw [hc64] at hf; cases hf
                    | some z63 =>
                      rw [hc64, Option.bind_some] at hf
                      refine F162c (r0 := z63.1) (S0 := z63.2) hh hc64 ?_
                      refine r_bipush (v := 42) fe_187_46 (by decide) ?_
                      by_cases hb65 : am_ic .ne z63.1 42 = true
                      · rw [if_pos hb65] at hf
                        refine r_ic_t (t := 56) fe_187_48 (by decide) hb65 ?_
                        refine r_aload_n fe_187_56 rfl ?_
                        refine r_callV (as := []) (r := []) fe_187_57 lm_12_191 md_162 rfl rfl (Nat.le_of_ble_eq_true rfl) m_c_0 (m_lt hh (by decide)) (Nat.le_of_ble_eq_true rfl) (Nat.le_of_ble_eq_true rfl) ?_
                        cases hc67 : F162 n  z63.2 with
                        | none => rw [hc67] at hf; cases hf
                        | some z66 =>
                          rw [hc67, Option.bind_some] at hf
                          refine F162c (r0 := z66.1) (S0 := z66.2) hh hc67 ?_
                          refine r_bipush (v := 47) fe_187_60 (by decide) ?_
                          by_cases hb68 : am_ic .ne z66.1 47 = true
                          · rw [if_pos hb68] at hf
                            refine r_ic_t (t := 70) fe_187_62 (by decide) hb68 ?_
                            refine r_bipush (v := 15) fe_187_70 (by decide) ?_
                            refine r_istore_n fe_187_72 (Nat.le_of_ble_eq_true rfl) rfl ?_
                            refine r_aload_n fe_187_73 rfl ?_
                            refine r_dup fe_187_74 rfl ?_
                            refine mr_getf hh fe_187_75 lf_12_188 rfl ?_
                            refine r_iconst (v := 1) fe_187_78 (by decide) ?_
                            refine r_iadd (v := ((z66.2.1 27) + 1)) fe_187_79 rfl ?_
                            refine mr_putf hh fe_187_80 lf_12_188 (m_f_27 _ _) (by decide) rfl rfl rfl ?_
                            refine r_aload_n fe_187_83 rfl ?_
                            refine r_callV (as := []) (r := []) fe_187_84 lm_12_246 md_188 rfl rfl (Nat.le_of_ble_eq_true rfl) m_c_0 (m_lt hh (by decide)) (Nat.le_of_ble_eq_true rfl) (Nat.le_of_ble_eq_true rfl) ?_
                            cases hc70 : F188 n  (m_sI z66.2 27 ((z66.2.1 27) + 1)) with
                            | none => rw [hc70] at hf; cases hf
                            | some z69 =>
                              rw [hc70, Option.bind_some] at hf
                              refine F188c (r0 := z69.1) (S0 := z69.2) hh hc70 ?_
                              refine r_aload_n fe_187_87 rfl ?_
                              refine r_iload_n fe_187_88 rfl ?_
                              refine r_iconst (v := 0) fe_187_89 (by decide) ?_
                              refine r_callV (as := [.int 15, .int 0]) (r := []) fe_187_90 lm_12_239 md_190 rfl rfl (Nat.le_of_ble_eq_true rfl) m_c_0 (m_lt hh (by decide)) (Nat.le_of_ble_eq_true rfl) (Nat.le_of_ble_eq_true rfl) ?_
                              cases hc72 : F190 n 15 0 z69.2 with
                              | none => rw [hc72] at hf; cases hf
                              | some z71 =>
                                rw [hc72, Option.bind_some] at hf
                                refine F190c (r0 := z71.1) (S0 := z71.2) hh hc72 ?_
                                refine r_aload_n fe_187_93 rfl ?_
                                refine r_callV (as := []) (r := []) fe_187_94 lm_12_208 md_161 rfl rfl (Nat.le_of_ble_eq_true rfl) m_c_0 (m_lt hh (by decide)) (Nat.le_of_ble_eq_true rfl) (Nat.le_of_ble_eq_true rfl) ?_
                                cases hc74 : F161 n  z71.2 with
                                | none => rw [hc74] at hf; cases hf
                                | some z73 =>
                                  rw [hc74, Option.bind_some] at hf
                                  refine F161c (r0 := z73.1) (S0 := z73.2) hh hc74 ?_
                                  refine r_goto (t := 8) fe_187_97 (by decide) ?_
                                  refine go_weak (L0 := [.ref 130, .float 0]) (lwk_c (Or.inl rfl) (lwk_c (Or.inr rfl) (lwk_rf []))) ?_
                                  exact ih.2  z73.2 hf
                          · rw [if_neg hb68] at hf
                            refine r_ic_f (t := 70) fe_187_62 (by decide) (Bool.eq_false_iff.mpr hb68) ?_
                            refine r_bipush (v := 14) fe_187_65 (by decide) ?_
                            refine r_goto (t := 72) fe_187_67 (by decide) ?_
                            refine r_istore_n fe_187_72 (Nat.le_of_ble_eq_true rfl) rfl ?_
                            refine r_aload_n fe_187_73 rfl ?_
                            refine r_dup fe_187_74 rfl ?_
                            refine mr_getf hh fe_187_75 lf_12_188 rfl ?_
                            refine r_iconst (v := 1) fe_187_78 (by decide) ?_
                            refine r_iadd (v := ((z66.2.1 27) + 1)) fe_187_79 rfl ?_
                            refine mr_putf hh fe_187_80 lf_12_188 (m_f_27 _ _) (by decide) rfl rfl rfl ?_
                            refine r_aload_n fe_187_83 rfl ?_
                            refine r_callV (as := []) (r := []) fe_187_84 lm_12_246 md_188 rfl rfl (Nat.le_of_ble_eq_true rfl) m_c_0 (m_lt hh (by decide)) (Nat.le_of_ble_eq_true rfl) (Nat.le_of_ble_eq_true rfl) ?_
                            cases hc76 : F188 n  (m_sI z66.2 27 ((z66.2.1 27) + 1)) with
                            | none => rw [hc76] at hf; cases hf
                            | some z75 =>
                              rw [hc76, Option.bind_some] at hf
                              refine F188c (r0 := z75.1) (S0 := z75.2) hh hc76 ?_
                              refine r_aload_n fe_187_87 rfl ?_
                              refine r_iload_n fe_187_88 rfl ?_
                              refine r_iconst (v := 0) fe_187_89 (by decide) ?_
                              refine r_callV (as := [.int 14, .int 0]) (r := []) fe_187_90 lm_12_239 md_190 rfl rfl (Nat.le_of_ble_eq_true rfl) m_c_0 (m_lt hh (by decide)) (Nat.le_of_ble_eq_true rfl) (Nat.le_of_ble_eq_true rfl) ?_
                              cases hc78 : F190 n 14 0 z75.2 with
                              | none => rw [hc78] at hf; cases hf
                              | some z77 =>
                                rw [hc78, Option.bind_some] at hf
                                refine F190c (r0 := z77.1) (S0 := z77.2) hh hc78 ?_
                                refine r_aload_n fe_187_93 rfl ?_
                                refine r_callV (as := []) (r := []) fe_187_94 lm_12_208 md_161 rfl rfl (Nat.le_of_ble_eq_true rfl) m_c_0 (m_lt hh (by decide)) (Nat.le_of_ble_eq_true rfl) (Nat.le_of_ble_eq_true rfl) ?_
                                cases hc80 : F161 n  z77.2 with
                                | none => rw [hc80] at hf; cases hf
                                | some z79 =>
                                  rw [hc80, Option.bind_some] at hf
                                  refine F161c (r0 := z79.1) (S0 := z79.2) hh hc80 ?_
                                  refine r_goto (t := 8) fe_187_97 (by decide) ?_
                                  refine go_weak (L0 := [.ref 130, .float 0]) (lwk_c (Or.inl rfl) (lwk_c (Or.inr rfl) (lwk_rf []))) ?_
                                  exact ih.2  z79.2 hf
                      · rw [if_neg hb65] at hf
                        refine r_ic_f (t := 56) fe_187_48 (by decide) (Bool.eq_false_iff.mpr hb65) ?_
                        refine r_bipush (v := 13) fe_187_51 (by decide) ?_
                        refine r_goto (t := 72) fe_187_53 (by decide) ?_
                        refine r_istore_n fe_187_72 (Nat.le_of_ble_eq_true rfl) rfl ?_
                        refine r_aload_n fe_187_73 rfl ?_
                        refine r_dup fe_187_74 rfl ?_
                        refine mr_getf hh fe_187_75 lf_12_188 rfl ?_
                        refine r_iconst (v := 1) fe_187_78 (by decide) ?_
                        refine r_iadd (v := ((z63.2.1 27) + 1)) fe_187_79 rfl ?_
                        refine mr_putf hh fe_187_80 lf_12_188 (m_f_27 _ _) (by decide) rfl rfl rfl ?_
                        refine r_aload_n fe_187_83 rfl ?_
                        refine r_callV (as := []) (r := []) fe_187_84 lm_12_246 md_188 rfl rfl (Nat.le_of_ble_eq_true rfl) m_c_0 (m_lt hh (by decide)) (Nat.le_of_ble_eq_true rfl) (Nat.le_of_ble_eq_true rfl) ?_
                        cases hc82 : F188 n  (m_sI z63.2 27 ((z63.2.1 27) + 1)) with
                        | none => rw [hc82] at hf; cases hf
                        | some z81 =>
                          rw [hc82, Option.bind_some] at hf
                          refine F188c (r0 := z81.1) (S0 := z81.2) hh hc82 ?_
                          refine r_aload_n fe_187_87 rfl ?_
                          refine r_iload_n fe_187_88 rfl ?_
                          refine r_iconst (v := 0) fe_187_89 (by decide) ?_
                          refine r_callV (as := [.int 13, .int 0]) (r := []) fe_187_90 lm_12_239 md_190 rfl rfl (Nat.le_of_ble_eq_true rfl) m_c_0 (m_lt hh (by decide)) (Nat.le_of_ble_eq_true rfl) (Nat.le_of_ble_eq_true rfl) ?_
                          cases hc84 : F190 n 13 0 z81.2 with
                          | none => rw [hc84] at hf; cases hf
                          | some z83 =>
                            rw [hc84, Option.bind_some] at hf
                            refine F190c (r0 := z83.1) (S0 := z83.2) hh hc84 ?_
                            refine r_aload_n fe_187_93 rfl ?_
                            refine r_callV (as := []) (r := []) fe_187_94 lm_12_208 md_161 rfl rfl (Nat.le_of_ble_eq_true rfl) m_c_0 (m_lt hh (by decide)) (Nat.le_of_ble_eq_true rfl) (Nat.le_of_ble_eq_true rfl) ?_
                            cases hc86 : F161 n  z83.2 with
                            | none => rw [hc86] at hf; cases hf
                            | some z85 =>
                              rw [hc86, Option.bind_some] at hf
                              refine F161c (r0 := z85.1) (S0 := z85.2) hh hc86 ?_
                              refine r_goto (t := 8) fe_187_97 (by decide) ?_
                              refine go_weak (L0 := [.ref 130, .float 0]) (lwk_c (Or.inl rfl) (lwk_c (Or.inr rfl) (lwk_rf []))) ?_
                              exact ih.2  z85.2 hf
theorem F187c {xs : Nat → Int32} {L9 d n : Nat} {h : AmH} {Q : Option Value → AmH → Prop} {r0 : Unit} {S0 S : mS}  (hh : 172 ≤ h.2.1) (hf : F187 n  S = some (r0, S0)) (hQ : Q none (mst S0 h)) : Ca (am_X xs L9) (d + 6) 187 [.ref 130] (mst S h) Q := (F187l hh hQ n).1  S hf
def F186b0 (F : Nat → mS → Option (Unit × mS)) (n : Nat)  (S : mS) : Option (Unit × mS) := ((F187 n  S).bind (fun z1 => F 4 z1.2))
def F186b4 (F : Nat → mS → Option (Unit × mS)) (n : Nat)  (S : mS) : Option (Unit × mS) := (if am_if .ne (S.1 28) = true then some ((), S) else ((F162 n  S).bind (fun z4 => (if am_ic .eq z4.1 43 = true then ((F162 n  z4.2).bind (fun z7 => (if am_ic .ne z7.1 43 = true then ((F187 n  (m_sI z7.2 27 ((z7.2.1 27) + 1))).bind (fun z10 => ((F190 n 3 0 z10.2).bind (fun z12 => F 4 z12.2)))) else ((F187 n  (m_sI z7.2 27 ((z7.2.1 27) + 1))).bind (fun z14 => ((F190 n 2 0 z14.2).bind (fun z16 => F 4 z16.2))))))) else ((F162 n  z4.2).bind (fun z18 => (if am_ic .ne z18.1 45 = true then some ((), z18.2) else ((F162 n  z18.2).bind (fun z21 => (if am_ic .ne z21.1 43 = true then ((F187 n  (m_sI z21.2 27 ((z21.2.1 27) + 1))).bind (fun z24 => ((F190 n 3 0 z24.2).bind (fun z26 => F 4 z26.2)))) else ((F187 n  (m_sI z21.2 27 ((z21.2.1 27) + 1))).bind (fun z28 => ((F190 n 2 0 z28.2).bind (fun z30 => F 4 z30.2))))))))))))))
def F186f : Nat → Nat → mS → Option (Unit × mS)
  | 0, _, _ => none
  | n + 1, c, S => if c = 0 then F186b0 (F186f n) n  S else F186b4 (F186f n) n  S
theorem F186e0 (n : Nat)  (S : mS) : F186f (n + 1) 0  S = F186b0 (F186f n) n  S := if_pos rfl
theorem F186e4 (n : Nat)  (S : mS) : F186f (n + 1) 4  S = F186b4 (F186f n) n  S := if_neg (by decide)
def F186 (n : Nat)  (S : mS) : Option (Unit × mS) := F186f n 0  S
set_option maxRecDepth 20000 in
set_option maxHeartbeats 2000000 in
theorem F186l {xs : Nat → Int32} {L9 d : Nat} {h : AmH} {Q : Option Value → AmH → Prop} {r0 : Unit} {S0 : mS} (hh : 172 ≤ h.2.1) (hQ : Q none (mst S0 h)) : ∀ n : Nat, (∀ (S : mS), F186f n 0 S = some (r0, S0) → Go (am_X xs L9) (d + 7) 186 0 [.ref 130, .float 0] [] (mst S h) Q) ∧ (∀ (S : mS), F186f n 4 S = some (r0, S0) → Go (am_X xs L9) (d + 7) 186 4 [.ref 130, .float 0] [] (mst S h) Q) := by
  intro n
  induction n with
  | zero => exact ⟨fun  S hf => (by cases hf), fun  S hf => (by cases hf)⟩
  | succ n ih =>
    refine ⟨?_, ?_⟩
    · intro  S hf
      rw [F186e0] at hf
      unfold F186b0 at hf
      refine r_aload_n fe_186_0 rfl ?_
      refine r_callV (as := []) (r := []) fe_186_1 lm_12_249 md_187 rfl rfl (Nat.le_of_ble_eq_true rfl) m_c_0 (m_lt hh (by decide)) (Nat.le_of_ble_eq_true rfl) (Nat.le_of_ble_eq_true rfl) ?_
      cases hc2 : F187 n  S with
      | none => rw [hc2] at hf; cases hf
      | some z1 =>
        rw [hc2, Option.bind_some] at hf
        refine F187c (r0 := z1.1) (S0 := z1.2) hh hc2 ?_
        refine go_weak (L0 := [.ref 130, .float 0]) (lwk_c (Or.inl rfl) (lwk_c (Or.inl rfl) (lwk_rf []))) ?_
        exact ih.2  z1.2 hf
    · intro  S hf
      rw [F186e4] at hf
      unfold F186b4 at hf
      refine r_aload_n fe_186_4 rfl ?_
      refine mr_getf hh fe_186_5 lf_12_185 rfl ?_
      by_cases hb3 : am_if .ne (S.1 28) = true
      · rw [if_pos hb3] at hf
        refine r_if_t (t := 67) fe_186_8 (by decide) hb3 ?_
        refine r_vret fe_186_67 ?_
        exact dfin (P := fun _ T => Q none (mst T h)) hf hQ
      · rw [if_neg hb3] at hf
        refine r_if_f (t := 67) fe_186_8 (by decide) (Bool.eq_false_iff.mpr hb3) ?_
        refine r_aload_n fe_186_11 rfl ?_
        refine r_callV (as := []) (r := []) fe_186_12 lm_12_191 md_162 rfl rfl (Nat.le_of_ble_eq_true rfl) m_c_0 (m_lt hh (by decide)) (Nat.le_of_ble_eq_true rfl) (Nat.le_of_ble_eq_true rfl) ?_
        cases hc5 : F162 n  S with
        | none => rw [hc5] at hf; cases hf
        | some z4 =>
          rw [hc5, Option.bind_some] at hf
          refine F162c (r0 := z4.1) (S0 := z4.2) hh hc5 ?_
          refine r_bipush (v := 43) fe_186_15 (by decide) ?_
          by_cases hb6 : am_ic .eq z4.1 43 = true
          · rw [if_pos hb6] at hf
            refine r_ic_t (t := 29) fe_186_17 (by decide) hb6 ?_
            refine r_aload_n fe_186_29 rfl ?_
            refine r_callV (as := []) (r := []) fe_186_30 lm_12_191 md_162 rfl rfl (Nat.le_of_ble_eq_true rfl) m_c_0 (m_lt hh (by decide)) (Nat.le_of_ble_eq_true rfl) (Nat.le_of_ble_eq_true rfl) ?_
            cases hc8 : F162 n  z4.2 with
            | none => rw [hc8] at hf; cases hf
            | some z7 =>
              rw [hc8, Option.bind_some] at hf
              refine F162c (r0 := z7.1) (S0 := z7.2) hh hc8 ?_
              refine r_bipush (v := 43) fe_186_33 (by decide) ?_
              by_cases hb9 : am_ic .ne z7.1 43 = true
              · rw [if_pos hb9] at hf
                refine r_ic_t (t := 42) fe_186_35 (by decide) hb9 ?_
                refine r_iconst (v := 3) fe_186_42 (by decide) ?_
                refine r_istore_n fe_186_43 (Nat.le_of_ble_eq_true rfl) rfl ?_
                refine r_aload_n fe_186_44 rfl ?_
                refine r_dup fe_186_45 rfl ?_
                refine mr_getf hh fe_186_46 lf_12_188 rfl ?_
                refine r_iconst (v := 1) fe_186_49 (by decide) ?_
                refine r_iadd (v := ((z7.2.1 27) + 1)) fe_186_50 rfl ?_
                refine mr_putf hh fe_186_51 lf_12_188 (m_f_27 _ _) (by decide) rfl rfl rfl ?_
                refine r_aload_n fe_186_54 rfl ?_
                refine r_callV (as := []) (r := []) fe_186_55 lm_12_249 md_187 rfl rfl (Nat.le_of_ble_eq_true rfl) m_c_0 (m_lt hh (by decide)) (Nat.le_of_ble_eq_true rfl) (Nat.le_of_ble_eq_true rfl) ?_
                cases hc11 : F187 n  (m_sI z7.2 27 ((z7.2.1 27) + 1)) with
                | none => rw [hc11] at hf; cases hf
                | some z10 =>
                  rw [hc11, Option.bind_some] at hf
                  refine F187c (r0 := z10.1) (S0 := z10.2) hh hc11 ?_
                  refine r_aload_n fe_186_58 rfl ?_
                  refine r_iload_n fe_186_59 rfl ?_
                  refine r_iconst (v := 0) fe_186_60 (by decide) ?_
                  refine r_callV (as := [.int 3, .int 0]) (r := []) fe_186_61 lm_12_239 md_190 rfl rfl (Nat.le_of_ble_eq_true rfl) m_c_0 (m_lt hh (by decide)) (Nat.le_of_ble_eq_true rfl) (Nat.le_of_ble_eq_true rfl) ?_
                  cases hc13 : F190 n 3 0 z10.2 with
                  | none => rw [hc13] at hf; cases hf
                  | some z12 =>
                    rw [hc13, Option.bind_some] at hf
                    refine F190c (r0 := z12.1) (S0 := z12.2) hh hc13 ?_
                    refine r_goto (t := 4) fe_186_64 (by decide) ?_
                    refine go_weak (L0 := [.ref 130, .float 0]) (lwk_c (Or.inl rfl) (lwk_c (Or.inr rfl) (lwk_rf []))) ?_
                    exact ih.2  z12.2 hf
              · rw [if_neg hb9] at hf
                refine r_ic_f (t := 42) fe_186_35 (by decide) (Bool.eq_false_iff.mpr hb9) ?_
                refine r_iconst (v := 2) fe_186_38 (by decide) ?_
                refine r_goto (t := 43) fe_186_39 (by decide) ?_
                refine r_istore_n fe_186_43 (Nat.le_of_ble_eq_true rfl) rfl ?_
                refine r_aload_n fe_186_44 rfl ?_
                refine r_dup fe_186_45 rfl ?_
                refine mr_getf hh fe_186_46 lf_12_188 rfl ?_
                refine r_iconst (v := 1) fe_186_49 (by decide) ?_
                refine r_iadd (v := ((z7.2.1 27) + 1)) fe_186_50 rfl ?_
                refine mr_putf hh fe_186_51 lf_12_188 (m_f_27 _ _) (by decide) rfl rfl rfl ?_
                refine r_aload_n fe_186_54 rfl ?_
                refine r_callV (as := []) (r := []) fe_186_55 lm_12_249 md_187 rfl rfl (Nat.le_of_ble_eq_true rfl) m_c_0 (m_lt hh (by decide)) (Nat.le_of_ble_eq_true rfl) (Nat.le_of_ble_eq_true rfl) ?_
                cases hc15 : F187 n  (m_sI z7.2 27 ((z7.2.1 27) + 1)) with
                | none => rw [hc15] at hf; cases hf
                | some z14 =>
                  rw [hc15, Option.bind_some] at hf
                  refine F187c (r0 := z14.1) (S0 := z14.2) hh hc15 ?_
                  refine r_aload_n fe_186_58 rfl ?_
                  refine r_iload_n fe_186_59 rfl ?_
                  refine r_iconst (v := 0) fe_186_60 (by decide) ?_
                  refine r_callV (as := [.int 2, .int 0]) (r := []) fe_186_61 lm_12_239 md_190 rfl rfl (Nat.le_of_ble_eq_true rfl) m_c_0 (m_lt hh (by decide)) (Nat.le_of_ble_eq_true rfl) (Nat.le_of_ble_eq_true rfl) ?_
                  cases hc17 : F190 n 2 0 z14.2 with
                  | none => rw [hc17] at hf; cases hf
                  | some z16 =>
                    rw [hc17, Option.bind_some] at hf
                    refine F190c (r0 := z16.1) (S0 := z16.2) hh hc17 ?_
                    refine r_goto (t := 4) fe_186_64 (by decide) ?_
                    refine go_weak (L0 := [.ref 130, .float 0]) (lwk_c (Or.inl rfl) (lwk_c (Or.inr rfl) (lwk_rf []))) ?_
                    exact ih.2  z16.2 hf
          · rw [if_neg hb6] at hf
            refine r_ic_f (t := 29) fe_186_17 (by decide) (Bool.eq_false_iff.mpr hb6) ?_
            refine r_aload_n fe_186_20 rfl ?_
            refine r_callV (as := []) (r := []) fe_186_21 lm_12_191 md_162 rfl rfl (Nat.le_of_ble_eq_true rfl) m_c_0 (m_lt hh (by decide)) (Nat.le_of_ble_eq_true rfl) (Nat.le_of_ble_eq_true rfl) ?_
            cases hc19 : F162 n  z4.2 with
            | none => rw [hc19] at hf; cases hf
            | some z18 =>
              rw [hc19, Option.bind_some] at hf
              refine F162c (r0 := z18.1) (S0 := z18.2) hh hc19 ?_
              refine r_bipush (v := 45) fe_186_24 (by decide) ?_
              by_cases hb20 : am_ic .ne z18.1 45 = true
              · rw [if_pos hb20] at hf
                refine r_ic_t (t := 67) fe_186_26 (by decide) hb20 ?_
                refine r_vret fe_186_67 ?_
                exact dfin (P := fun _ T => Q none (mst T h)) hf hQ
              · rw [if_neg hb20] at hf
                refine r_ic_f (t := 67) fe_186_26 (by decide) (Bool.eq_false_iff.mpr hb20) ?_
                refine r_aload_n fe_186_29 rfl ?_
                refine r_callV (as := []) (r := []) fe_186_30 lm_12_191 md_162 rfl rfl (Nat.le_of_ble_eq_true rfl) m_c_0 (m_lt hh (by decide)) (Nat.le_of_ble_eq_true rfl) (Nat.le_of_ble_eq_true rfl) ?_
                cases hc22 : F162 n  z18.2 with
                | none => rw [hc22] at hf; cases hf
                | some z21 =>
                  rw [hc22, Option.bind_some] at hf
                  refine F162c (r0 := z21.1) (S0 := z21.2) hh hc22 ?_
                  refine r_bipush (v := 43) fe_186_33 (by decide) ?_
                  by_cases hb23 : am_ic .ne z21.1 43 = true
                  · rw [if_pos hb23] at hf
                    refine r_ic_t (t := 42) fe_186_35 (by decide) hb23 ?_
                    refine r_iconst (v := 3) fe_186_42 (by decide) ?_
                    refine r_istore_n fe_186_43 (Nat.le_of_ble_eq_true rfl) rfl ?_
                    refine r_aload_n fe_186_44 rfl ?_
                    refine r_dup fe_186_45 rfl ?_
                    refine mr_getf hh fe_186_46 lf_12_188 rfl ?_
                    refine r_iconst (v := 1) fe_186_49 (by decide) ?_
                    refine r_iadd (v := ((z21.2.1 27) + 1)) fe_186_50 rfl ?_
                    refine mr_putf hh fe_186_51 lf_12_188 (m_f_27 _ _) (by decide) rfl rfl rfl ?_
                    refine r_aload_n fe_186_54 rfl ?_
                    refine r_callV (as := []) (r := []) fe_186_55 lm_12_249 md_187 rfl rfl (Nat.le_of_ble_eq_true rfl) m_c_0 (m_lt hh (by decide)) (Nat.le_of_ble_eq_true rfl) (Nat.le_of_ble_eq_true rfl) ?_
                    cases hc25 : F187 n  (m_sI z21.2 27 ((z21.2.1 27) + 1)) with
                    | none => rw [hc25] at hf; cases hf
                    | some z24 =>
                      rw [hc25, Option.bind_some] at hf
                      refine F187c (r0 := z24.1) (S0 := z24.2) hh hc25 ?_
                      refine r_aload_n fe_186_58 rfl ?_
                      refine r_iload_n fe_186_59 rfl ?_
                      refine r_iconst (v := 0) fe_186_60 (by decide) ?_
                      refine r_callV (as := [.int 3, .int 0]) (r := []) fe_186_61 lm_12_239 md_190 rfl rfl (Nat.le_of_ble_eq_true rfl) m_c_0 (m_lt hh (by decide)) (Nat.le_of_ble_eq_true rfl) (Nat.le_of_ble_eq_true rfl) ?_
                      cases hc27 : F190 n 3 0 z24.2 with
                      | none => rw [hc27] at hf; cases hf
                      | some z26 =>
                        rw [hc27, Option.bind_some] at hf
                        refine F190c (r0 := z26.1) (S0 := z26.2) hh hc27 ?_
                        refine r_goto (t := 4) fe_186_64 (by decide) ?_
                        refine go_weak (L0 := [.ref 130, .float 0]) (lwk_c (Or.inl rfl) (lwk_c (Or.inr rfl) (lwk_rf []))) ?_
                        exact ih.2  z26.2 hf
                  · rw [if_neg hb23] at hf
                    refine r_ic_f (t := 42) fe_186_35 (by decide) (Bool.eq_false_iff.mpr hb23) ?_
                    refine r_iconst (v := 2) fe_186_38 (by decide) ?_
                    refine r_goto (t := 43) fe_186_39 (by decide) ?_
                    refine r_istore_n fe_186_43 (Nat.le_of_ble_eq_true rfl) rfl ?_
                    refine r_aload_n fe_186_44 rfl ?_
                    refine r_dup fe_186_45 rfl ?_
                    refine mr_getf hh fe_186_46 lf_12_188 rfl ?_
                    refine r_iconst (v := 1) fe_186_49 (by decide) ?_
                    refine r_iadd (v := ((z21.2.1 27) + 1)) fe_186_50 rfl ?_
                    refine mr_putf hh fe_186_51 lf_12_188 (m_f_27 _ _) (by decide) rfl rfl rfl ?_
                    refine r_aload_n fe_186_54 rfl ?_
                    refine r_callV (as := []) (r := []) fe_186_55 lm_12_249 md_187 rfl rfl (Nat.le_of_ble_eq_true rfl) m_c_0 (m_lt hh (by decide)) (Nat.le_of_ble_eq_true rfl) (Nat.le_of_ble_eq_true rfl) ?_
                    cases hc29 : F187 n  (m_sI z21.2 27 ((z21.2.1 27) + 1)) with
                    | none => rw [hc29] at hf; cases hf
                    | some z28 =>
                      rw [hc29, Option.bind_some] at hf
                      refine F187c (r0 := z28.1) (S0 := z28.2) hh hc29 ?_
                      refine r_aload_n fe_186_58 rfl ?_
                      refine r_iload_n fe_186_59 rfl ?_
                      refine r_iconst (v := 0) fe_186_60 (by decide) ?_
                      refine r_callV (as := [.int 2, .int 0]) (r := []) fe_186_61 lm_12_239 md_190 rfl rfl (Nat.le_of_ble_eq_true rfl) m_c_0 (m_lt hh (by decide)) (Nat.le_of_ble_eq_true rfl) (Nat.le_of_ble_eq_true rfl) ?_
                      cases hc31 : F190 n 2 0 z28.2 with
                      | none => rw [hc31] at hf; cases hf
                      | some z30 =>
                        rw [hc31, Option.bind_some] at hf
                        refine F190c (r0 := z30.1) (S0 := z30.2) hh hc31 ?_
                        refine r_goto (t := 4) fe_186_64 (by decide) ?_
                        refine go_weak (L0 := [.ref 130, .float 0]) (lwk_c (Or.inl rfl) (lwk_c (Or.inr rfl) (lwk_rf []))) ?_
                        exact ih.2  z30.2 hf
theorem F186c {xs : Nat → Int32} {L9 d n : Nat} {h : AmH} {Q : Option Value → AmH → Prop} {r0 : Unit} {S0 S : mS}  (hh : 172 ≤ h.2.1) (hf : F186 n  S = some (r0, S0)) (hQ : Q none (mst S0 h)) : Ca (am_X xs L9) (d + 7) 186 [.ref 130] (mst S h) Q := (F186l hh hQ n).1  S hf
def F185b0 (F : Nat → mS → Option (Unit × mS)) (n : Nat)  (S : mS) : Option (Unit × mS) := ((F186 n  S).bind (fun z1 => ((F162 n  z1.2).bind (fun z3 => (if am_ic .eq z3.1 60 = true then ((F189 n (z3.2.1 27) z3.2).bind (fun z6 => (if am_ic .eq z3.1 61 = true then ((F186 n  (m_sI (m_sI z6.2 27 ((z6.2.1 27) + 1)) 27 (((m_sI z6.2 27 ((z6.2.1 27) + 1)).1 27) + 0))).bind (fun z9 => (if am_ic .ne z3.1 61 = true then (if am_ic .ne z3.1 60 = true then ((F190 n 8 0 z9.2).bind (fun z13 => some ((), z13.2))) else ((F190 n 4 0 z9.2).bind (fun z15 => some ((), z15.2)))) else ((F190 n 6 0 z9.2).bind (fun z17 => some ((), z17.2)))))) else ((F162 n  (m_sI z6.2 27 ((z6.2.1 27) + 1))).bind (fun z19 => (if am_ic .ne z19.1 61 = true then ((F186 n  (m_sI z19.2 27 ((z19.2.1 27) + 0))).bind (fun z22 => (if am_ic .ne z3.1 61 = true then (if am_ic .ne z3.1 60 = true then ((F190 n 8 0 z22.2).bind (fun z26 => some ((), z26.2))) else ((F190 n 4 0 z22.2).bind (fun z28 => some ((), z28.2)))) else ((F190 n 6 0 z22.2).bind (fun z30 => some ((), z30.2)))))) else ((F186 n  (m_sI z19.2 27 ((z19.2.1 27) + 1))).bind (fun z32 => (if am_ic .ne z3.1 61 = true then (if am_ic .ne z3.1 60 = true then ((F190 n 7 0 z32.2).bind (fun z36 => some ((), z36.2))) else ((F190 n 5 0 z32.2).bind (fun z38 => some ((), z38.2)))) else ((F190 n 6 0 z32.2).bind (fun z40 => some ((), z40.2)))))))))))) else (if am_ic .eq z3.1 61 = true then ((F189 n (z3.2.1 27) z3.2).bind (fun z43 => (if am_ic .eq z3.1 61 = true then ((F186 n  (m_sI (m_sI z43.2 27 ((z43.2.1 27) + 1)) 27 (((m_sI z43.2 27 ((z43.2.1 27) + 1)).1 27) + 0))).bind (fun z46 => (if am_ic .ne z3.1 61 = true then (if am_ic .ne z3.1 60 = true then ((F190 n 8 0 z46.2).bind (fun z50 => some ((), z50.2))) else ((F190 n 4 0 z46.2).bind (fun z52 => some ((), z52.2)))) else ((F190 n 6 0 z46.2).bind (fun z54 => some ((), z54.2)))))) else ((F162 n  (m_sI z43.2 27 ((z43.2.1 27) + 1))).bind (fun z56 => (if am_ic .ne z56.1 61 = true then ((F186 n  (m_sI z56.2 27 ((z56.2.1 27) + 0))).bind (fun z59 => (if am_ic .ne z3.1 61 = true then (if am_ic .ne z3.1 60 = true then ((F190 n 8 0 z59.2).bind (fun z63 => some ((), z63.2))) else ((F190 n 4 0 z59.2).bind (fun z65 => some ((), z65.2)))) else ((F190 n 6 0 z59.2).bind (fun z67 => some ((), z67.2)))))) else ((F186 n  (m_sI z56.2 27 ((z56.2.1 27) + 1))).bind (fun z69 => (if am_ic .ne z3.1 61 = true then (if am_ic .ne z3.1 60 = true then ((F190 n 7 0 z69.2).bind (fun z73 => some ((), z73.2))) else ((F190 n 5 0 z69.2).bind (fun z75 => some ((), z75.2)))) else ((F190 n 6 0 z69.2).bind (fun z77 => some ((), z77.2)))))))))))) else (if am_ic .eq z3.1 62 = true then ((F189 n (z3.2.1 27) z3.2).bind (fun z80 => (if am_ic .eq z3.1 61 = true then ((F186 n  (m_sI (m_sI z80.2 27 ((z80.2.1 27) + 1)) 27 (((m_sI z80.2 27 ((z80.2.1 27) + 1)).1 27) + 0))).bind (fun z83 => (if am_ic .ne z3.1 61 = true then (if am_ic .ne z3.1 60 = true then ((F190 n 8 0 z83.2).bind (fun z87 => some ((), z87.2))) else ((F190 n 4 0 z83.2).bind (fun z89 => some ((), z89.2)))) else ((F190 n 6 0 z83.2).bind (fun z91 => some ((), z91.2)))))) else ((F162 n  (m_sI z80.2 27 ((z80.2.1 27) + 1))).bind (fun z93 => (if am_ic .ne z93.1 61 = true then ((F186 n  (m_sI z93.2 27 ((z93.2.1 27) + 0))).bind (fun z96 => (if am_ic .ne z3.1 61 = true then (if am_ic .ne z3.1 60 = true then ((F190 n 8 0 z96.2).bind (fun z100 => some ((), z100.2))) else ((F190 n 4 0 z96.2).bind (fun z102 => some ((), z102.2)))) else ((F190 n 6 0 z96.2).bind (fun z104 => some ((), z104.2)))))) else ((F186 n  (m_sI z93.2 27 ((z93.2.1 27) + 1))).bind (fun z106 => (if am_ic .ne z3.1 61 = true then (if am_ic .ne z3.1 60 = true then ((F190 n 7 0 z106.2).bind (fun z110 => some ((), z110.2))) else ((F190 n 5 0 z106.2).bind (fun z112 => some ((), z112.2)))) else ((F190 n 6 0 z106.2).bind (fun z114 => some ((), z114.2)))))))))))) else ((F165 n 0 (z3.2.1 27) z3.2).bind (fun z116 => some ((), z116.2))))))))))
def F185f : Nat → Nat → mS → Option (Unit × mS)
  | 0, _, _ => none
  | n + 1, c, S => F185b0 (F185f n) n  S
theorem F185e0 (n : Nat)  (S : mS) : F185f (n + 1) 0  S = F185b0 (F185f n) n  S := rfl
def F185 (n : Nat)  (S : mS) : Option (Unit × mS) := F185f n 0  S
set_option maxRecDepth 20000 in
set_option maxHeartbeats 2000000 in
theorem F185l {xs : Nat → Int32} {L9 d : Nat} {h : AmH} {Q : Option Value → AmH → Prop} {r0 : Unit} {S0 : mS} (hh : 172 ≤ h.2.1) (hQ : Q none (mst S0 h)) : ∀ n : Nat, (∀ (S : mS), F185f n 0 S = some (r0, S0) → Go (am_X xs L9) (d + 8) 185 0 [.ref 130, .float 0, .float 0] [] (mst S h) Q) := by
  intro n
  induction n with
  | zero => exact fun  S hf => (by cases hf)
  | succ n ih =>
    intro  S hf
    rw [F185e0] at hf
    unfold F185b0 at hf
    refine r_aload_n fe_185_0 rfl ?_
    refine r_callV (as := []) (r := []) fe_185_1 lm_12_252 md_186 rfl rfl (Nat.le_of_ble_eq_true rfl) m_c_0 (m_lt hh (by decide)) (Nat.le_of_ble_eq_true rfl) (Nat.le_of_ble_eq_true rfl) ?_
    cases hc2 : F186 n  S with
    | none => rw [hc2] at hf; cases hf
    | some z1 =>
      rw [hc2, Option.bind_some] at hf
      refine F186c (r0 := z1.1) (S0 := z1.2) hh hc2 ?_
      refine r_aload_n fe_185_4 rfl ?_
      refine r_callV (as := []) (r := []) fe_185_5 lm_12_191 md_162 rfl rfl (Nat.le_of_ble_eq_true rfl) m_c_0 (m_lt hh (by decide)) (Nat.le_of_ble_eq_true rfl) (Nat.le_of_ble_eq_true rfl) ?_
      cases hc4 : F162 n  z1.2 with
      | none => rw [hc4] at hf; cases hf
      | some z3 =>
        rw [hc4, Option.bind_some] at hf
        refine F162c (r0 := z3.1) (S0 := z3.2) hh hc4 ?_
        refine r_istore_n fe_185_8 (Nat.le_of_ble_eq_true rfl) rfl ?_
        refine r_iload_n fe_185_9 rfl ?_
        refine r_bipush (v := 60) fe_185_10 (by decide) ?_
        by_cases hb5 : am_ic .eq z3.1 60 = true
        · rw [if_pos hb5] at hf
          refine r_ic_t (t := 37) fe_185_12 (by decide) hb5 ?_
          refine r_aload_n fe_185_37 rfl ?_
          refine r_aload_n fe_185_38 rfl ?_
          refine mr_getf hh fe_185_39 lf_12_188 rfl ?_
          refine r_callV (as := [.int (z3.2.1 27)]) (r := []) fe_185_42 lm_12_236 md_189 rfl rfl (Nat.le_of_ble_eq_true rfl) m_c_0 (m_lt hh (by decide)) (Nat.le_of_ble_eq_true rfl) (Nat.le_of_ble_eq_true rfl) ?_
          cases hc7 : F189 n (z3.2.1 27) z3.2 with
          | none => rw [hc7] at hf; cases hf
          | some z6 =>
            rw [hc7, Option.bind_some] at hf
            refine F189c (r0 := z6.1) (S0 := z6.2) hh hc7 ?_
            refine r_aload_n fe_185_45 rfl ?_
            refine r_dup fe_185_46 rfl ?_
            refine mr_getf hh fe_185_47 lf_12_188 rfl ?_
            refine r_iconst (v := 1) fe_185_50 (by decide) ?_
            refine r_iadd (v := ((z6.2.1 27) + 1)) fe_185_51 rfl ?_
            refine mr_putf hh fe_185_52 lf_12_188 (m_f_27 _ _) (by decide) rfl rfl rfl ?_
            refine r_iload_n fe_185_55 rfl ?_
            refine r_bipush (v := 61) fe_185_56 (by decide) ?_
            by_cases hb8 : am_ic .eq z3.1 61 = true
            · rw [if_pos hb8] at hf
              refine r_ic_t (t := 74) fe_185_58 (by decide) hb8 ?_
              refine r_iconst (v := 0) fe_185_74 (by decide) ?_
              refine r_istore_n fe_185_75 (Nat.le_of_ble_eq_true rfl) rfl ?_
              refine r_aload_n fe_185_76 rfl ?_
              refine r_dup fe_185_77 rfl ?_
              refine mr_getf hh fe_185_78 lf_12_188 rfl ?_
              refine r_iload_n fe_185_81 rfl ?_
              refine r_if_t (t := 89) fe_185_82 (by decide) (by decide) ?_
              refine r_iconst (v := 0) fe_185_89 (by decide) ?_
              refine r_iadd (v := (((m_sI z6.2 27 ((z6.2.1 27) + 1)).1 27) + 0)) fe_185_90 rfl ?_
              refine mr_putf hh fe_185_91 lf_12_188 (m_f_27 _ _) (by decide) rfl rfl rfl ?_
              refine r_aload_n fe_185_94 rfl ?_
              refine r_callV (as := []) (r := []) fe_185_95 lm_12_252 md_186 rfl rfl (Nat.le_of_ble_eq_true rfl) m_c_0 (m_lt hh (by decide)) (Nat.le_of_ble_eq_true rfl) (Nat.le_of_ble_eq_true rfl) ?_
              cases hc10 : F186 n  (m_sI (m_sI z6.2 27 ((z6.2.1 27) + 1)) 27 (((m_sI z6.2 27 ((z6.2.1 27) + 1)).1 27) + 0)) with
              | none => rw [hc10] at hf; cases hf
              | some z9 =>
                rw [hc10, Option.bind_some] at hf
                refine F186c (r0 := z9.1) (S0 := z9.2) hh hc10 ?_
                refine r_aload_n fe_185_98 rfl ?_
                refine r_iload_n fe_185_99 rfl ?_
                refine r_bipush (v := 61) fe_185_100 (by decide) ?_
                by_cases hb11 : am_ic .ne z3.1 61 = true
                · rw [if_pos hb11] at hf
                  refine r_ic_t (t := 110) fe_185_102 (by decide) hb11 ?_
                  refine r_iload_n fe_185_110 rfl ?_
                  refine r_bipush (v := 60) fe_185_111 (by decide) ?_
                  by_cases hb12 : am_ic .ne z3.1 60 = true
                  · rw [if_pos hb12] at hf
                    refine r_ic_t (t := 128) fe_185_113 (by decide) hb12 ?_
                    refine r_iload_n fe_185_128 rfl ?_
                    refine r_if_t (t := 137) fe_185_129 (by decide) (by decide) ?_
                    refine r_bipush (v := 8) fe_185_137 (by decide) ?_
                    refine r_iconst (v := 0) fe_185_139 (by decide) ?_
                    refine r_callV (as := [.int 8, .int 0]) (r := []) fe_185_140 lm_12_239 md_190 rfl rfl (Nat.le_of_ble_eq_true rfl) m_c_0 (m_lt hh (by decide)) (Nat.le_of_ble_eq_true rfl) (Nat.le_of_ble_eq_true rfl) ?_
                    cases hc14 : F190 n 8 0 z9.2 with
                    | none => rw [hc14] at hf; cases hf
                    | some z13 =>
                      rw [hc14, Option.bind_some] at hf
                      refine F190c (r0 := z13.1) (S0 := z13.2) hh hc14 ?_
                      refine r_vret fe_185_143 ?_
                      exact dfin (P := fun _ T => Q none (mst T h)) hf hQ
                  · rw [if_neg hb12] at hf
                    refine r_ic_f (t := 128) fe_185_113 (by decide) (Bool.eq_false_iff.mpr hb12) ?_
                    refine r_iload_n fe_185_116 rfl ?_
                    refine r_if_t (t := 124) fe_185_117 (by decide) (by decide) ?_
                    refine r_iconst (v := 4) fe_185_124 (by decide) ?_
                    refine r_goto (t := 139) fe_185_125 (by decide) ?_
                    refine r_iconst (v := 0) fe_185_139 (by decide) ?_
                    refine r_callV (as := [.int 4, .int 0]) (r := []) fe_185_140 lm_12_239 md_190 rfl rfl (Nat.le_of_ble_eq_true rfl) m_c_0 (m_lt hh (by decide)) (Nat.le_of_ble_eq_true rfl) (Nat.le_of_ble_eq_true rfl) ?_
                    cases hc16 : F190 n 4 0 z9.2 with
                    | none => rw [hc16] at hf; cases hf
                    | some z15 =>
                      rw [hc16, Option.bind_some] at hf
                      refine F190c (r0 := z15.1) (S0 := z15.2) hh hc16 ?_
                      refine r_vret fe_185_143 ?_
                      exact dfin (P := fun _ T => Q none (mst T h)) hf hQ
                · rw [if_neg hb11] at hf
                  refine r_ic_f (t := 110) fe_185_102 (by decide) (Bool.eq_false_iff.mpr hb11) ?_
                  refine r_bipush (v := 6) fe_185_105 (by decide) ?_
                  refine r_goto (t := 139) fe_185_107 (by decide) ?_
                  refine r_iconst (v := 0) fe_185_139 (by decide) ?_
                  refine r_callV (as := [.int 6, .int 0]) (r := []) fe_185_140 lm_12_239 md_190 rfl rfl (Nat.le_of_ble_eq_true rfl) m_c_0 (m_lt hh (by decide)) (Nat.le_of_ble_eq_true rfl) (Nat.le_of_ble_eq_true rfl) ?_
                  cases hc18 : F190 n 6 0 z9.2 with
                  | none => rw [hc18] at hf; cases hf
                  | some z17 =>
                    rw [hc18, Option.bind_some] at hf
                    refine F190c (r0 := z17.1) (S0 := z17.2) hh hc18 ?_
                    refine r_vret fe_185_143 ?_
                    exact dfin (P := fun _ T => Q none (mst T h)) hf hQ
            · rw [if_neg hb8] at hf
              refine r_ic_f (t := 74) fe_185_58 (by decide) (Bool.eq_false_iff.mpr hb8) ?_
              refine r_aload_n fe_185_61 rfl ?_
              refine r_callV (as := []) (r := []) fe_185_62 lm_12_191 md_162 rfl rfl (Nat.le_of_ble_eq_true rfl) m_c_0 (m_lt hh (by decide)) (Nat.le_of_ble_eq_true rfl) (Nat.le_of_ble_eq_true rfl) ?_
              cases hc20 : F162 n  (m_sI z6.2 27 ((z6.2.1 27) + 1)) with
              | none => rw [hc20] at hf; cases hf
              | some z19 =>
                rw [hc20, Option.bind_some] at hf
                refine F162c (r0 := z19.1) (S0 := z19.2) hh hc20 ?_
                refine r_bipush (v := 61) fe_185_65 (by decide) ?_
                by_cases hb21 : am_ic .ne z19.1 61 = true
                · rw [if_pos hb21] at hf
                  refine r_ic_t (t := 74) fe_185_67 (by decide) hb21 ?_
                  refine r_iconst (v := 0) fe_185_74 (by decide) ?_
                  refine r_istore_n fe_185_75 (Nat.le_of_ble_eq_true rfl) rfl ?_
                  refine r_aload_n fe_185_76 rfl ?_
                  refine r_dup fe_185_77 rfl ?_
                  refine mr_getf hh fe_185_78 lf_12_188 rfl ?_
                  refine r_iload_n fe_185_81 rfl ?_
                  refine r_if_t (t := 89) fe_185_82 (by decide) (by decide) ?_
                  refine r_iconst (v := 0) fe_185_89 (by decide) ?_
                  refine r_iadd (v := ((z19.2.1 27) + 0)) fe_185_90 rfl ?_
                  refine mr_putf hh fe_185_91 lf_12_188 (m_f_27 _ _) (by decide) rfl rfl rfl ?_
                  refine r_aload_n fe_185_94 rfl ?_
                  refine r_callV (as := []) (r := []) fe_185_95 lm_12_252 md_186 rfl rfl (Nat.le_of_ble_eq_true rfl) m_c_0 (m_lt hh (by decide)) (Nat.le_of_ble_eq_true rfl) (Nat.le_of_ble_eq_true rfl) ?_
                  cases hc23 : F186 n  (m_sI z19.2 27 ((z19.2.1 27) + 0)) with
                  | none => rw [hc23] at hf; cases hf
                  | some z22 =>
                    rw [hc23, Option.bind_some] at hf
                    refine F186c (r0 := z22.1) (S0 := z22.2) hh hc23 ?_
                    refine r_aload_n fe_185_98 rfl ?_
                    refine r_iload_n fe_185_99 rfl ?_
                    refine r_bipush (v := 61) fe_185_100 (by decide) ?_
                    by_cases hb24 : am_ic .ne z3.1 61 = true
                    · rw [if_pos hb24] at hf
                      refine r_ic_t (t := 110) fe_185_102 (by decide) hb24 ?_
                      refine r_iload_n fe_185_110 rfl ?_
                      refine r_bipush (v := 60) fe_185_111 (by decide) ?_
                      by_cases hb25 : am_ic .ne z3.1 60 = true
                      · rw [if_pos hb25] at hf
                        refine r_ic_t (t := 128) fe_185_113 (by decide) hb25 ?_
                        refine r_iload_n fe_185_128 rfl ?_
                        refine r_if_t (t := 137) fe_185_129 (by decide) (by decide) ?_
                        refine r_bipush (v := 8) fe_185_137 (by decide) ?_
                        refine r_iconst (v := 0) fe_185_139 (by decide) ?_
                        refine r_callV (as := [.int 8, .int 0]) (r := []) fe_185_140 lm_12_239 md_190 rfl rfl (Nat.le_of_ble_eq_true rfl) m_c_0 (m_lt hh (by decide)) (Nat.le_of_ble_eq_true rfl) (Nat.le_of_ble_eq_true rfl) ?_
                        cases hc27 : F190 n 8 0 z22.2 with
                        | none => rw [hc27] at hf; cases hf
                        | some z26 =>
                          rw [hc27, Option.bind_some] at hf
                          refine F190c (r0 := z26.1) (S0 := z26.2) hh hc27 ?_
                          refine r_vret fe_185_143 ?_
                          exact dfin (P := fun _ T => Q none (mst T h)) hf hQ
                      · rw [if_neg hb25] at hf
                        refine r_ic_f (t := 128) fe_185_113 (by decide) (Bool.eq_false_iff.mpr hb25) ?_
                        refine r_iload_n fe_185_116 rfl ?_
                        refine r_if_t (t := 124) fe_185_117 (by decide) (by decide) ?_
                        refine r_iconst (v := 4) fe_185_124 (by decide) ?_
                        refine r_goto (t := 139) fe_185_125 (by decide) ?_
                        refine r_iconst (v := 0) fe_185_139 (by decide) ?_
                        refine r_callV (as := [.int 4, .int 0]) (r := []) fe_185_140 lm_12_239 md_190 rfl rfl (Nat.le_of_ble_eq_true rfl) m_c_0 (m_lt hh (by decide)) (Nat.le_of_ble_eq_true rfl) (Nat.le_of_ble_eq_true rfl) ?_
                        cases hc29 : F190 n 4 0 z22.2 with
                        | none => rw [hc29] at hf; cases hf
                        | some z28 =>
                          rw [hc29, Option.bind_some] at hf
                          refine F190c (r0 := z28.1) (S0 := z28.2) hh hc29 ?_
                          refine r_vret fe_185_143 ?_
                          exact dfin (P := fun _ T => Q none (mst T h)) hf hQ
                    · rw [if_neg hb24] at hf
                      refine r_ic_f (t := 110) fe_185_102 (by decide) (Bool.eq_false_iff.mpr hb24) ?_
                      refine r_bipush (v := 6) fe_185_105 (by decide) ?_
                      refine r_goto (t := 139) fe_185_107 (by decide) ?_
                      refine r_iconst (v := 0) fe_185_139 (by decide) ?_
                      refine r_callV (as := [.int 6, .int 0]) (r := []) fe_185_140 lm_12_239 md_190 rfl rfl (Nat.le_of_ble_eq_true rfl) m_c_0 (m_lt hh (by decide)) (Nat.le_of_ble_eq_true rfl) (Nat.le_of_ble_eq_true rfl) ?_
                      cases hc31 : F190 n 6 0 z22.2 with
                      | none => rw [hc31] at hf; cases hf
                      | some z30 =>
                        rw [hc31, Option.bind_some] at hf
                        refine F190c (r0 := z30.1) (S0 := z30.2) hh hc31 ?_
                        refine r_vret fe_185_143 ?_
                        exact dfin (P := fun _ T => Q none (mst T h)) hf hQ
                · rw [if_neg hb21] at hf
                  refine r_ic_f (t := 74) fe_185_67 (by decide) (Bool.eq_false_iff.mpr hb21) ?_
                  refine r_iconst (v := 1) fe_185_70 (by decide) ?_
                  refine r_goto (t := 75) fe_185_71 (by decide) ?_
                  refine r_istore_n fe_185_75 (Nat.le_of_ble_eq_true rfl) rfl ?_
                  refine r_aload_n fe_185_76 rfl ?_
                  refine r_dup fe_185_77 rfl ?_
                  refine mr_getf hh fe_185_78 lf_12_188 rfl ?_
                  refine r_iload_n fe_185_81 rfl ?_
                  refine r_if_f (t := 89) fe_185_82 (by decide) (by decide) ?_
                  refine r_iconst (v := 1) fe_185_85 (by decide) ?_
                  refine r_goto (t := 90) fe_185_86 (by decide) ?_
                  refine r_iadd (v := ((z19.2.1 27) + 1)) fe_185_90 rfl ?_
                  refine mr_putf hh fe_185_91 lf_12_188 (m_f_27 _ _) (by decide) rfl rfl rfl ?_
                  refine r_aload_n fe_185_94 rfl ?_
                  refine r_callV (as := []) (r := []) fe_185_95 lm_12_252 md_186 rfl rfl (Nat.le_of_ble_eq_true rfl) m_c_0 (m_lt hh (by decide)) (Nat.le_of_ble_eq_true rfl) (Nat.le_of_ble_eq_true rfl) ?_
                  cases hc33 : F186 n  (m_sI z19.2 27 ((z19.2.1 27) + 1)) with
                  | none => rw [hc33] at hf; cases hf
                  | some z32 =>
                    rw [hc33, Option.bind_some] at hf
                    refine F186c (r0 := z32.1) (S0 := z32.2) hh hc33 ?_
                    refine r_aload_n fe_185_98 rfl ?_
                    refine r_iload_n fe_185_99 rfl ?_
                    refine r_bipush (v := 61) fe_185_100 (by decide) ?_
                    by_cases hb34 : am_ic .ne z3.1 61 = true
                    · rw [if_pos hb34] at hf
                      refine r_ic_t (t := 110) fe_185_102 (by decide) hb34 ?_
                      refine r_iload_n fe_185_110 rfl ?_
                      refine r_bipush (v := 60) fe_185_111 (by decide) ?_
                      by_cases hb35 : am_ic .ne z3.1 60 = true
                      · rw [if_pos hb35] at hf
                        refine r_ic_t (t := 128) fe_185_113 (by decide) hb35 ?_
                        refine r_iload_n fe_185_128 rfl ?_
                        refine r_if_f (t := 137) fe_185_129 (by decide) (by decide) ?_
                        refine r_bipush (v := 7) fe_185_132 (by decide) ?_
                        refine r_goto (t := 139) fe_185_134 (by decide) ?_
                        refine r_iconst (v := 0) fe_185_139 (by decide) ?_
                        refine r_callV (as := [.int 7, .int 0]) (r := []) fe_185_140 lm_12_239 md_190 rfl rfl (Nat.le_of_ble_eq_true rfl) m_c_0 (m_lt hh (by decide)) (Nat.le_of_ble_eq_true rfl) (Nat.le_of_ble_eq_true rfl) ?_
                        cases hc37 : F190 n 7 0 z32.2 with
                        | none => rw [hc37] at hf; cases hf
                        | some z36 =>
                          rw [hc37, Option.bind_some] at hf
                          refine F190c (r0 := z36.1) (S0 := z36.2) hh hc37 ?_
                          refine r_vret fe_185_143 ?_
                          exact dfin (P := fun _ T => Q none (mst T h)) hf hQ
                      · rw [if_neg hb35] at hf
                        refine r_ic_f (t := 128) fe_185_113 (by decide) (Bool.eq_false_iff.mpr hb35) ?_
                        refine r_iload_n fe_185_116 rfl ?_
                        refine r_if_f (t := 124) fe_185_117 (by decide) (by decide) ?_
                        refine r_iconst (v := 5) fe_185_120 (by decide) ?_
                        refine r_goto (t := 139) fe_185_121 (by decide) ?_
                        refine r_iconst (v := 0) fe_185_139 (by decide) ?_
                        refine r_callV (as := [.int 5, .int 0]) (r := []) fe_185_140 lm_12_239 md_190 rfl rfl (Nat.le_of_ble_eq_true rfl) m_c_0 (m_lt hh (by decide)) (Nat.le_of_ble_eq_true rfl) (Nat.le_of_ble_eq_true rfl) ?_
                        cases hc39 : F190 n 5 0 z32.2 with
                        | none => rw [hc39] at hf; cases hf
                        | some z38 =>
                          rw [hc39, Option.bind_some] at hf
                          refine F190c (r0 := z38.1) (S0 := z38.2) hh hc39 ?_
                          refine r_vret fe_185_143 ?_
                          exact dfin (P := fun _ T => Q none (mst T h)) hf hQ
                    · rw [if_neg hb34] at hf
                      refine r_ic_f (t := 110) fe_185_102 (by decide) (Bool.eq_false_iff.mpr hb34) ?_
                      refine r_bipush (v := 6) fe_185_105 (by decide) ?_
                      refine r_goto (t := 139) fe_185_107 (by decide) ?_
                      refine r_iconst (v := 0) fe_185_139 (by decide) ?_
                      refine r_callV (as := [.int 6, .int 0]) (r := []) fe_185_140 lm_12_239 md_190 rfl rfl (Nat.le_of_ble_eq_true rfl) m_c_0 (m_lt hh (by decide)) (Nat.le_of_ble_eq_true rfl) (Nat.le_of_ble_eq_true rfl) ?_
                      cases hc41 : F190 n 6 0 z32.2 with
                      | none => rw [hc41] at hf; cases hf
                      | some z40 =>
                        rw [hc41, Option.bind_some] at hf
                        refine F190c (r0 := z40.1) (S0 := z40.2) hh hc41 ?_
                        refine r_vret fe_185_143 ?_
                        exact dfin (P := fun _ T => Q none (mst T h)) hf hQ
        · rw [if_neg hb5] at hf
          refine r_ic_f (t := 37) fe_185_12 (by decide) (Bool.eq_false_iff.mpr hb5) ?_
          refine r_iload_n fe_185_15 rfl ?_
          refine r_bipush (v := 61) fe_185_16 (by decide) ?_
          by_cases hb42 : am_ic .eq z3.1 61 = true
          · rw [if_pos hb42] at hf
            refine r_ic_t (t := 37) fe_185_18 (by decide) hb42 ?_
            refine r_aload_n fe_185_37 rfl ?_
            refine r_aload_n fe_185_38 rfl ?_
            refine mr_getf hh fe_185_39 lf_12_188 rfl ?_
            refine r_callV (as := [.int (z3.2.1 27)]) (r := []) fe_185_42 lm_12_236 md_189 rfl rfl (Nat.le_of_ble_eq_true rfl) m_c_0 (m_lt hh (by decide)) (Nat.le_of_ble_eq_true rfl) (Nat.le_of_ble_eq_true rfl) ?_
            cases hc44 : F189 n (z3.2.1 27) z3.2 with
            | none => rw [hc44] at hf; cases hf
            | some z43 =>
              rw [hc44, Option.bind_some] at hf
              refine F189c (r0 := z43.1) (S0 := z43.2) hh hc44 ?_
              refine r_aload_n fe_185_45 rfl ?_
              refine r_dup fe_185_46 rfl ?_
              refine mr_getf hh fe_185_47 lf_12_188 rfl ?_
              refine r_iconst (v := 1) fe_185_50 (by decide) ?_
              refine r_iadd (v := ((z43.2.1 27) + 1)) fe_185_51 rfl ?_
              refine mr_putf hh fe_185_52 lf_12_188 (m_f_27 _ _) (by decide) rfl rfl rfl ?_
              refine r_iload_n fe_185_55 rfl ?_
              refine r_bipush (v := 61) fe_185_56 (by decide) ?_
              by_cases hb45 : am_ic .eq z3.1 61 = true
              · rw [if_pos hb45] at hf
                refine r_ic_t (t := 74) fe_185_58 (by decide) hb45 ?_
                refine r_iconst (v := 0) fe_185_74 (by decide) ?_
                refine r_istore_n fe_185_75 (Nat.le_of_ble_eq_true rfl) rfl ?_
                refine r_aload_n fe_185_76 rfl ?_
                refine r_dup fe_185_77 rfl ?_
                refine mr_getf hh fe_185_78 lf_12_188 rfl ?_
                refine r_iload_n fe_185_81 rfl ?_
                refine r_if_t (t := 89) fe_185_82 (by decide) (by decide) ?_
                refine r_iconst (v := 0) fe_185_89 (by decide) ?_
                refine r_iadd (v := (((m_sI z43.2 27 ((z43.2.1 27) + 1)).1 27) + 0)) fe_185_90 rfl ?_
                refine mr_putf hh fe_185_91 lf_12_188 (m_f_27 _ _) (by decide) rfl rfl rfl ?_
                refine r_aload_n fe_185_94 rfl ?_
                refine r_callV (as := []) (r := []) fe_185_95 lm_12_252 md_186 rfl rfl (Nat.le_of_ble_eq_true rfl) m_c_0 (m_lt hh (by decide)) (Nat.le_of_ble_eq_true rfl) (Nat.le_of_ble_eq_true rfl) ?_
                cases hc47 : F186 n  (m_sI (m_sI z43.2 27 ((z43.2.1 27) + 1)) 27 (((m_sI z43.2 27 ((z43.2.1 27) + 1)).1 27) + 0)) with
                | none => rw [hc47] at hf; cases hf
                | some z46 =>
                  rw [hc47, Option.bind_some] at hf
                  refine F186c (r0 := z46.1) (S0 := z46.2) hh hc47 ?_
                  refine r_aload_n fe_185_98 rfl ?_
                  refine r_iload_n fe_185_99 rfl ?_
                  refine r_bipush (v := 61) fe_185_100 (by decide) ?_
                  by_cases hb48 : am_ic .ne z3.1 61 = true
                  · rw [if_pos hb48] at hf
                    refine r_ic_t (t := 110) fe_185_102 (by decide) hb48 ?_
                    refine r_iload_n fe_185_110 rfl ?_
                    refine r_bipush (v := 60) fe_185_111 (by decide) ?_
                    by_cases hb49 : am_ic .ne z3.1 60 = true
                    · rw [if_pos hb49] at hf
                      refine r_ic_t (t := 128) fe_185_113 (by decide) hb49 ?_
                      refine r_iload_n fe_185_128 rfl ?_
                      refine r_if_t (t := 137) fe_185_129 (by decide) (by decide) ?_
                      refine r_bipush (v := 8) fe_185_137 (by decide) ?_
                      refine r_iconst (v := 0) fe_185_139 (by decide) ?_
                      refine r_callV (as := [.int 8, .int 0]) (r := []) fe_185_140 lm_12_239 md_190 rfl rfl (Nat.le_of_ble_eq_true rfl) m_c_0 (m_lt hh (by decide)) (Nat.le_of_ble_eq_true rfl) (Nat.le_of_ble_eq_true rfl) ?_
                      cases hc51 : F190 n 8 0 z46.2 with
                      | none => rw [hc51] at hf; cases hf
                      | some z50 =>
                        rw [hc51, Option.bind_some] at hf
                        refine F190c (r0 := z50.1) (S0 := z50.2) hh hc51 ?_
                        refine r_vret fe_185_143 ?_
                        exact dfin (P := fun _ T => Q none (mst T h)) hf hQ
                    · rw [if_neg hb49] at hf
                      refine r_ic_f (t := 128) fe_185_113 (by decide) (Bool.eq_false_iff.mpr hb49) ?_
                      refine r_iload_n fe_185_116 rfl ?_
                      refine r_if_t (t := 124) fe_185_117 (by decide) (by decide) ?_
                      refine r_iconst (v := 4) fe_185_124 (by decide) ?_
                      refine r_goto (t := 139) fe_185_125 (by decide) ?_
                      refine r_iconst (v := 0) fe_185_139 (by decide) ?_
                      refine r_callV (as := [.int 4, .int 0]) (r := []) fe_185_140 lm_12_239 md_190 rfl rfl (Nat.le_of_ble_eq_true rfl) m_c_0 (m_lt hh (by decide)) (Nat.le_of_ble_eq_true rfl) (Nat.le_of_ble_eq_true rfl) ?_
                      cases hc53 : F190 n 4 0 z46.2 with
                      | none => rw [hc53] at hf; cases hf
                      | some z52 =>
                        rw [hc53, Option.bind_some] at hf
                        refine F190c (r0 := z52.1) (S0 := z52.2) hh hc53 ?_
                        refine r_vret fe_185_143 ?_
                        exact dfin (P := fun _ T => Q none (mst T h)) hf hQ
                  · rw [if_neg hb48] at hf
                    refine r_ic_f (t := 110) fe_185_102 (by decide) (Bool.eq_false_iff.mpr hb48) ?_
                    refine r_bipush (v := 6) fe_185_105 (by decide) ?_
                    refine r_goto (t := 139) fe_185_107 (by decide) ?_
                    refine r_iconst (v := 0) fe_185_139 (by decide) ?_
                    refine r_callV (as := [.int 6, .int 0]) (r := []) fe_185_140 lm_12_239 md_190 rfl rfl (Nat.le_of_ble_eq_true rfl) m_c_0 (m_lt hh (by decide)) (Nat.le_of_ble_eq_true rfl) (Nat.le_of_ble_eq_true rfl) ?_
                    cases hc55 : F190 n 6 0 z46.2 with
                    | none => rw [hc55] at hf; cases hf
                    | some z54 =>
                      rw [hc55, Option.bind_some] at hf
                      refine F190c (r0 := z54.1) (S0 := z54.2) hh hc55 ?_
                      refine r_vret fe_185_143 ?_
                      exact dfin (P := fun _ T => Q none (mst T h)) hf hQ
              · rw [if_neg hb45] at hf
                refine r_ic_f (t := 74) fe_185_58 (by decide) (Bool.eq_false_iff.mpr hb45) ?_
                refine r_aload_n fe_185_61 rfl ?_
                refine r_callV (as := []) (r := []) fe_185_62 lm_12_191 md_162 rfl rfl (Nat.le_of_ble_eq_true rfl) m_c_0 (m_lt hh (by decide)) (Nat.le_of_ble_eq_true rfl) (Nat.le_of_ble_eq_true rfl) ?_
                cases hc57 : F162 n  (m_sI z43.2 27 ((z43.2.1 27) + 1)) with
                | none => rw [hc57] at hf; cases hf
                | some z56 =>
                  rw [hc57, Option.bind_some] at hf
                  refine F162c (r0 := z56.1) (S0 := z56.2) hh hc57 ?_
                  refine r_bipush (v := 61) fe_185_65 (by decide) ?_
                  by_cases hb58 : am_ic .ne z56.1 61 = true
                  · rw [if_pos hb58] at hf
                    refine r_ic_t (t := 74) fe_185_67 (by decide) hb58 ?_
                    refine r_iconst (v := 0) fe_185_74 (by decide) ?_
                    refine r_istore_n fe_185_75 (Nat.le_of_ble_eq_true rfl) rfl ?_
                    refine r_aload_n fe_185_76 rfl ?_
                    refine r_dup fe_185_77 rfl ?_
                    refine mr_getf hh fe_185_78 lf_12_188 rfl ?_
                    refine r_iload_n fe_185_81 rfl ?_
                    refine r_if_t (t := 89) fe_185_82 (by decide) (by decide) ?_
                    refine r_iconst (v := 0) fe_185_89 (by decide) ?_
                    refine r_iadd (v := ((z56.2.1 27) + 0)) fe_185_90 rfl ?_
                    refine mr_putf hh fe_185_91 lf_12_188 (m_f_27 _ _) (by decide) rfl rfl rfl ?_
                    refine r_aload_n fe_185_94 rfl ?_
                    refine r_callV (as := []) (r := []) fe_185_95 lm_12_252 md_186 rfl rfl (Nat.le_of_ble_eq_true rfl) m_c_0 (m_lt hh (by decide)) (Nat.le_of_ble_eq_true rfl) (Nat.le_of_ble_eq_true rfl) ?_
                    cases hc60 : F186 n  (m_sI z56.2 27 ((z56.2.1 27) + 0)) with
                    | none => rw [hc60] at hf; cases hf
                    | some z59 =>
                      rw [hc60, Option.bind_some] at hf
                      refine F186c (r0 := z59.1) (S0 := z59.2) hh hc60 ?_
                      refine r_aload_n fe_185_98 rfl ?_
                      refine r_iload_n fe_185_99 rfl ?_
                      refine r_bipush (v := 61) fe_185_100 (by decide) ?_
                      by_cases hb61 : am_ic .ne z3.1 61 = true
                      · rw [if_pos hb61] at hf
                        refine r_ic_t (t := 110) fe_185_102 (by decide) hb61 ?_
                        refine r_iload_n fe_185_110 rfl ?_
                        refine r_bipush (v := 60) fe_185_111 (by decide) ?_
                        by_cases hb62 : am_ic .ne z3.1 60 = true
                        · rw [if_pos hb62] at hf
                          refine r_ic_t (t := 128) fe_185_113 (by decide) hb62 ?_
                          refine r_iload_n fe_185_128 rfl ?_
                          refine r_if_t (t := 137) fe_185_129 (by decide) (by decide) ?_
                          refine r_bipush (v := 8) fe_185_137 (by decide) ?_
                          refine r_iconst (v := 0) fe_185_139 (by decide) ?_
                          refine r_callV (as := [.int 8, .int 0]) (r := []) fe_185_140 lm_12_239 md_190 rfl rfl (Nat.le_of_ble_eq_true rfl) m_c_0 (m_lt hh (by decide)) (Nat.le_of_ble_eq_true rfl) (Nat.le_of_ble_eq_true rfl) ?_
                          cases hc64 : F190 n 8 0 z59.2 with
                          | none => rw [hc64] at hf; cases hf
                          | some z63 =>
                            rw [hc64, Option.bind_some] at hf
                            refine F190c (r0 := z63.1) (S0 := z63.2) hh hc64 ?_
                            refine r_vret fe_185_143 ?_
                            exact dfin (P := fun _ T => Q none (mst T h)) hf hQ
                        · rw [if_neg hb62] at hf
                          refine r_ic_f (t := 128) fe_185_113 (by decide) (Bool.eq_false_iff.mpr hb62) ?_
                          refine r_iload_n fe_185_116 rfl ?_
                          refine r_if_t (t := 124) fe_185_117 (by decide) (by decide) ?_
                          refine r_iconst (v := 4) fe_185_124 (by decide) ?_
                          refine r_goto (t := 139) fe_185_125 (by decide) ?_
                          refine r_iconst (v := 0) fe_185_139 (by decide) ?_
                          refine r_callV (as := [.int 4, .int 0]) (r := []) fe_185_140 lm_12_239 md_190 rfl rfl (Nat.le_of_ble_eq_true rfl) m_c_0 (m_lt hh (by decide)) (Nat.le_of_ble_eq_true rfl) (Nat.le_of_ble_eq_true rfl) ?_
                          cases hc66 : F190 n 4 0 z59.2 with
                          | none => rw [hc66] at hf; cases hf
                          | some z65 =>
                            rw [hc66, Option.bind_some] at hf
                            refine F190c (r0 := z65.1) (S0 := z65.2) hh hc66 ?_
                            refine r_vret fe_185_143 ?_
                            exact dfin (P := fun _ T => Q none (mst T h)) hf hQ
                      · rw [if_neg hb61] at hf
                        refine r_ic_f (t := 110) fe_185_102 (by decide) (Bool.eq_false_iff.mpr hb61) ?_
                        refine r_bipush (v := 6) fe_185_105 (by decide) ?_
                        refine r_goto (t := 139) fe_185_107 (by decide) ?_
                        refine r_iconst (v := 0) fe_185_139 (by decide) ?_
                        refine r_callV (as := [.int 6, .int 0]) (r := []) fe_185_140 lm_12_239 md_190 rfl rfl (Nat.le_of_ble_eq_true rfl) m_c_0 (m_lt hh (by decide)) (Nat.le_of_ble_eq_true rfl) (Nat.le_of_ble_eq_true rfl) ?_
                        cases hc68 : F190 n 6 0 z59.2 with
                        | none => rw [hc68] at hf; cases hf
                        | some z67 =>
                          rw [hc68, Option.bind_some] at hf
                          refine F190c (r0 := z67.1) (S0 := z67.2) hh hc68 ?_
                          refine r_vret fe_185_143 ?_
                          exact dfin (P := fun _ T => Q none (mst T h)) hf hQ
                  · rw [if_neg hb58] at hf
                    refine r_ic_f (t := 74) fe_185_67 (by decide) (Bool.eq_false_iff.mpr hb58) ?_
                    refine r_iconst (v := 1) fe_185_70 (by decide) ?_
                    refine r_goto (t := 75) fe_185_71 (by decide) ?_
                    refine r_istore_n fe_185_75 (Nat.le_of_ble_eq_true rfl) rfl ?_
                    refine r_aload_n fe_185_76 rfl ?_
                    refine r_dup fe_185_77 rfl ?_
                    refine mr_getf hh fe_185_78 lf_12_188 rfl ?_
                    refine r_iload_n fe_185_81 rfl ?_
                    refine r_if_f (t := 89) fe_185_82 (by decide) (by decide) ?_
                    refine r_iconst (v := 1) fe_185_85 (by decide) ?_
                    refine r_goto (t := 90) fe_185_86 (by decide) ?_
                    refine r_iadd (v := ((z56.2.1 27) + 1)) fe_185_90 rfl ?_
                    refine mr_putf hh fe_185_91 lf_12_188 (m_f_27 _ _) (by decide) rfl rfl rfl ?_
                    refine r_aload_n fe_185_94 rfl ?_
                    refine r_callV (as := []) (r := []) fe_185_95 lm_12_252 md_186 rfl rfl (Nat.le_of_ble_eq_true rfl) m_c_0 (m_lt hh (by decide)) (Nat.le_of_ble_eq_true rfl) (Nat.le_of_ble_eq_true rfl) ?_
                    cases hc70 : F186 n  (m_sI z56.2 27 ((z56.2.1 27) + 1)) with
                    | none => rw [hc70] at hf; cases hf
                    | some z69 =>
                      rw [hc70, Option.bind_some] at hf
                      refine F186c (r0 := z69.1) (S0 := z69.2) hh hc70 ?_
                      refine r_aload_n fe_185_98 rfl ?_
                      refine r_iload_n fe_185_99 rfl ?_
                      refine r_bipush (v := 61) fe_185_100 (by decide) ?_
                      by_cases hb71 : am_ic .ne z3.1 61 = true
                      · rw [if_pos hb71] at hf
                        refine r_ic_t (t := 110) fe_185_102 (by decide) hb71 ?_
                        refine r_iload_n fe_185_110 rfl ?_
                        refine r_bipush (v := 60) fe_185_111 (by decide) ?_
                        by_cases hb72 : am_ic .ne z3.1 60 = true
                        · rw [if_pos hb72] at hf
                          refine r_ic_t (t := 128) fe_185_113 (by decide) hb72 ?_
                          refine r_iload_n fe_185_128 rfl ?_
                          refine r_if_f (t := 137) fe_185_129 (by decide) (by decide) ?_
                          refine r_bipush (v := 7) fe_185_132 (by decide) ?_
                          refine r_goto (t := 139) fe_185_134 (by decide) ?_
                          refine r_iconst (v := 0) fe_185_139 (by decide) ?_
                          refine r_callV (as := [.int 7, .int 0]) (r := []) fe_185_140 lm_12_239 md_190 rfl rfl (Nat.le_of_ble_eq_true rfl) m_c_0 (m_lt hh (by decide)) (Nat.le_of_ble_eq_true rfl) (Nat.le_of_ble_eq_true rfl) ?_
                          cases hc74 : F190 n 7 0 z69.2 with
                          | none => rw [hc74] at hf; cases hf
                          | some z73 =>
                            rw [hc74, Option.bind_some] at hf
                            refine F190c (r0 := z73.1) (S0 := z73.2) hh hc74 ?_
                            refine r_vret fe_185_143 ?_
                            exact dfin (P := fun _ T => Q none (mst T h)) hf hQ
                        · rw [if_neg hb72] at hf
                          refine r_ic_f (t := 128) fe_185_113 (by decide) (Bool.eq_false_iff.mpr hb72) ?_
                          refine r_iload_n fe_185_116 rfl ?_
                          refine r_if_f (t := 124) fe_185_117 (by decide) (by decide) ?_
                          refine r_iconst (v := 5) fe_185_120 (by decide) ?_
                          refine r_goto (t := 139) fe_185_121 (by decide) ?_
                          refine r_iconst (v := 0) fe_185_139 (by decide) ?_
                          refine r_callV (as := [.int 5, .int 0]) (r := []) fe_185_140 lm_12_239 md_190 rfl rfl (Nat.le_of_ble_eq_true rfl) m_c_0 (m_lt hh (by decide)) (Nat.le_of_ble_eq_true rfl) (Nat.le_of_ble_eq_true rfl) ?_
                          cases hc76 : F190 n 5 0 z69.2 with
                          | none => rw [hc76] at hf; cases hf
                          | some z75 =>
                            rw [hc76, Option.bind_some] at hf
                            refine F190c (r0 := z75.1) (S0 := z75.2) hh hc76 ?_
                            refine r_vret fe_185_143 ?_
                            exact dfin (P := fun _ T => Q none (mst T h)) hf hQ
                      · rw [if_neg hb71] at hf
                        refine r_ic_f (t := 110) fe_185_102 (by decide) (Bool.eq_false_iff.mpr hb71) ?_
                        refine r_bipush (v := 6) fe_185_105 (by decide) ?_
                        refine r_goto (t := 139) fe_185_107 (by decide) ?_
                        refine r_iconst (v := 0) fe_185_139 (by decide) ?_
                        refine r_callV (as := [.int 6, .int 0]) (r := []) fe_185_140 lm_12_239 md_190 rfl rfl (Nat.le_of_ble_eq_true rfl) m_c_0 (m_lt hh (by decide)) (Nat.le_of_ble_eq_true rfl) (Nat.le_of_ble_eq_true rfl) ?_
                        cases hc78 : F190 n 6 0 z69.2 with
                        | none => rw [hc78] at hf; cases hf
                        | some z77 =>
                          rw [hc78, Option.bind_some] at hf
                          refine F190c (r0 := z77.1) (S0 := z77.2) hh hc78 ?_
                          refine r_vret fe_185_143 ?_
                          exact dfin (P := fun _ T => Q none (mst T h)) hf hQ
          · rw [if_neg hb42] at hf
            refine r_ic_f (t := 37) fe_185_18 (by decide) (Bool.eq_false_iff.mpr hb42) ?_
            refine r_iload_n fe_185_21 rfl ?_
            refine r_bipush (v := 62) fe_185_22 (by decide) ?_
            by_cases hb79 : am_ic .eq z3.1 62 = true
            · rw [if_pos hb79] at hf
              refine r_ic_t (t := 37) fe_185_24 (by decide) hb79 ?_
              refine r_aload_n fe_185_37 rfl ?_
              refine r_aload_n fe_185_38 rfl ?_
              refine mr_getf hh fe_185_39 lf_12_188 rfl ?_
              refine r_callV (as := [.int (z3.2.1 27)]) (r := []) fe_185_42 lm_12_236 md_189 rfl rfl (Nat.le_of_ble_eq_true rfl) m_c_0 (m_lt hh (by decide)) (Nat.le_of_ble_eq_true rfl) (Nat.le_of_ble_eq_true rfl) ?_
              cases hc81 : F189 n (z3.2.1 27) z3.2 with
              | none => rw [hc81] at hf; cases hf
              | some z80 =>
                rw [hc81, Option.bind_some] at hf
                refine F189c (r0 := z80.1) (S0 := z80.2) hh hc81 ?_
                refine r_aload_n fe_185_45 rfl ?_
                refine r_dup fe_185_46 rfl ?_
                refine mr_getf hh fe_185_47 lf_12_188 rfl ?_
                refine r_iconst (v := 1) fe_185_50 (by decide) ?_
                refine r_iadd (v := ((z80.2.1 27) + 1)) fe_185_51 rfl ?_
                refine mr_putf hh fe_185_52 lf_12_188 (m_f_27 _ _) (by decide) rfl rfl rfl ?_
                refine r_iload_n fe_185_55 rfl ?_
                refine r_bipush (v := 61) fe_185_56 (by decide) ?_
                by_cases hb82 : am_ic .eq z3.1 61 = true
                · rw [if_pos hb82] at hf
                  refine r_ic_t (t := 74) fe_185_58 (by decide) hb82 ?_
                  refine r_iconst (v := 0) fe_185_74 (by decide) ?_
                  refine r_istore_n fe_185_75 (Nat.le_of_ble_eq_true rfl) rfl ?_
                  refine r_aload_n fe_185_76 rfl ?_
                  refine r_dup fe_185_77 rfl ?_
                  refine mr_getf hh fe_185_78 lf_12_188 rfl ?_
                  refine r_iload_n fe_185_81 rfl ?_
                  refine r_if_t (t := 89) fe_185_82 (by decide) (by decide) ?_
                  refine r_iconst (v := 0) fe_185_89 (by decide) ?_
                  refine r_iadd (v := (((m_sI z80.2 27 ((z80.2.1 27) + 1)).1 27) + 0)) fe_185_90 rfl ?_
                  refine mr_putf hh fe_185_91 lf_12_188 (m_f_27 _ _) (by decide) rfl rfl rfl ?_
                  refine r_aload_n fe_185_94 rfl ?_
                  refine r_callV (as := []) (r := []) fe_185_95 lm_12_252 md_186 rfl rfl (Nat.le_of_ble_eq_true rfl) m_c_0 (m_lt hh (by decide)) (Nat.le_of_ble_eq_true rfl) (Nat.le_of_ble_eq_true rfl) ?_
                  cases hc84 : F186 n  (m_sI (m_sI z80.2 27 ((z80.2.1 27) + 1)) 27 (((m_sI z80.2 27 ((z80.2.1 27) + 1)).1 27) + 0)) with
                  | none => rw [hc84] at hf; cases hf
                  | some z83 =>
                    rw [hc84, Option.bind_some] at hf
                    refine F186c (r0 := z83.1) (S0 := z83.2) hh hc84 ?_
                    refine r_aload_n fe_185_98 rfl ?_
                    refine r_iload_n fe_185_99 rfl ?_
                    refine r_bipush (v := 61) fe_185_100 (by decide) ?_
                    by_cases hb85 : am_ic .ne z3.1 61 = true
                    · rw [if_pos hb85] at hf
                      refine r_ic_t (t := 110) fe_185_102 (by decide) hb85 ?_
                      refine r_iload_n fe_185_110 rfl ?_
                      refine r_bipush (v := 60) fe_185_111 (by decide) ?_
                      by_cases hb86 : am_ic .ne z3.1 60 = true
                      · rw [if_pos hb86] at hf
                        refine r_ic_t (t := 128) fe_185_113 (by decide) hb86 ?_
                        refine r_iload_n fe_185_128 rfl ?_
                        refine r_if_t (t := 137) fe_185_129 (by decide) (by decide) ?_
                        refine r_bipush (v := 8) fe_185_137 (by decide) ?_
                        refine r_iconst (v := 0) fe_185_139 (by decide) ?_
                        refine r_callV (as := [.int 8, .int 0]) (r := []) fe_185_140 lm_12_239 md_190 rfl rfl (Nat.le_of_ble_eq_true rfl) m_c_0 (m_lt hh (by decide)) (Nat.le_of_ble_eq_true rfl) (Nat.le_of_ble_eq_true rfl) ?_
                        cases hc88 : F190 n 8 0 z83.2 with
                        | none => rw [hc88] at hf; cases hf
                        | some z87 =>
                          rw [hc88, Option.bind_some] at hf
                          refine F190c (r0 := z87.1) (S0 := z87.2) hh hc88 ?_
                          refine r_vret fe_185_143 ?_
                          exact dfin (P := fun _ T => Q none (mst T h)) hf hQ
                      · rw [if_neg hb86] at hf
                        refine r_ic_f (t := 128) fe_185_113 (by decide) (Bool.eq_false_iff.mpr hb86) ?_
                        refine r_iload_n fe_185_116 rfl ?_
                        refine r_if_t (t := 124) fe_185_117 (by decide) (by decide) ?_
                        refine r_iconst (v := 4) fe_185_124 (by decide) ?_
                        refine r_goto (t := 139) fe_185_125 (by decide) ?_
                        refine r_iconst (v := 0) fe_185_139 (by decide) ?_
                        refine r_callV (as := [.int 4, .int 0]) (r := []) fe_185_140 lm_12_239 md_190 rfl rfl (Nat.le_of_ble_eq_true rfl) m_c_0 (m_lt hh (by decide)) (Nat.le_of_ble_eq_true rfl) (Nat.le_of_ble_eq_true rfl) ?_
                        cases hc90 : F190 n 4 0 z83.2 with
                        | none => rw [hc90] at hf; cases hf
                        | some z89 =>
                          rw [hc90, Option.bind_some] at hf
                          refine F190c (r0 := z89.1) (S0 := z89.2) hh hc90 ?_
                          refine r_vret fe_185_143 ?_
                          exact dfin (P := fun _ T => Q none (mst T h)) hf hQ
                    · rw [if_neg hb85] at hf
                      refine r_ic_f (t := 110) fe_185_102 (by decide) (Bool.eq_false_iff.mpr hb85) ?_
                      refine r_bipush (v := 6) fe_185_105 (by decide) ?_
                      refine r_goto (t := 139) fe_185_107 (by decide) ?_
                      refine r_iconst (v := 0) fe_185_139 (by decide) ?_
                      refine r_callV (as := [.int 6, .int 0]) (r := []) fe_185_140 lm_12_239 md_190 rfl rfl (Nat.le_of_ble_eq_true rfl) m_c_0 (m_lt hh (by decide)) (Nat.le_of_ble_eq_true rfl) (Nat.le_of_ble_eq_true rfl) ?_
                      cases hc92 : F190 n 6 0 z83.2 with
                      | none => rw [hc92] at hf; cases hf
                      | some z91 =>
                        rw [hc92, Option.bind_some] at hf
                        refine F190c (r0 := z91.1) (S0 := z91.2) hh hc92 ?_
                        refine r_vret fe_185_143 ?_
                        exact dfin (P := fun _ T => Q none (mst T h)) hf hQ
                · rw [if_neg hb82] at hf
                  refine r_ic_f (t := 74) fe_185_58 (by decide) (Bool.eq_false_iff.mpr hb82) ?_
                  refine r_aload_n fe_185_61 rfl ?_
                  refine r_callV (as := []) (r := []) fe_185_62 lm_12_191 md_162 rfl rfl (Nat.le_of_ble_eq_true rfl) m_c_0 (m_lt hh (by decide)) (Nat.le_of_ble_eq_true rfl) (Nat.le_of_ble_eq_true rfl) ?_
                  cases hc94 : F162 n  (m_sI z80.2 27 ((z80.2.1 27) + 1)) with
                  | none => rw [hc94] at hf; cases hf
                  | some z93 =>
                    rw [hc94, Option.bind_some] at hf
                    refine F162c (r0 := z93.1) (S0 := z93.2) hh hc94 ?_
                    refine r_bipush (v := 61) fe_185_65 (by decide) ?_
                    by_cases hb95 : am_ic .ne z93.1 61 = true
                    · rw [if_pos hb95] at hf
                      refine r_ic_t (t := 74) fe_185_67 (by decide) hb95 ?_
                      refine r_iconst (v := 0) fe_185_74 (by decide) ?_
                      refine r_istore_n fe_185_75 (Nat.le_of_ble_eq_true rfl) rfl ?_
                      refine r_aload_n fe_185_76 rfl ?_
                      refine r_dup fe_185_77 rfl ?_
                      refine mr_getf hh fe_185_78 lf_12_188 rfl ?_
                      refine r_iload_n fe_185_81 rfl ?_
                      refine r_if_t (t := 89) fe_185_82 (by decide) (by decide) ?_
                      refine r_iconst (v := 0) fe_185_89 (by decide) ?_
                      refine r_iadd (v := ((z93.2.1 27) + 0)) fe_185_90 rfl ?_
                      refine mr_putf hh fe_185_91 lf_12_188 (m_f_27 _ _) (by decide) rfl rfl rfl ?_
                      refine r_aload_n fe_185_94 rfl ?_
                      refine r_callV (as := []) (r := []) fe_185_95 lm_12_252 md_186 rfl rfl (Nat.le_of_ble_eq_true rfl) m_c_0 (m_lt hh (by decide)) (Nat.le_of_ble_eq_true rfl) (Nat.le_of_ble_eq_true rfl) ?_
                      cases hc97 : F186 n  (m_sI z93.2 27 ((z93.2.1 27) + 0)) with
                      | none => rw [hc97] at hf; cases hf
                      | some z96 =>
                        rw [hc97, Option.bind_some] at hf
                        refine F186c (r0 := z96.1) (S0 := z96.2) hh hc97 ?_
                        refine r_aload_n fe_185_98 rfl ?_
                        refine r_iload_n fe_185_99 rfl ?_
                        refine r_bipush (v := 61) fe_185_100 (by decide) ?_
                        by_cases hb98 : am_ic .ne z3.1 61 = true
                        · rw [if_pos hb98] at hf
                          refine r_ic_t (t := 110) fe_185_102 (by decide) hb98 ?_
                          refine r_iload_n fe_185_110 rfl ?_
                          refine r_bipush (v := 60) fe_185_111 (by decide) ?_
                          by_cases hb99 : am_ic .ne z3.1 60 = true
                          · rw [if_pos hb99] at hf
                            refine r_ic_t (t := 128) fe_185_113 (by decide) hb99 ?_
                            refine r_iload_n fe_185_128 rfl ?_
                            refine r_if_t (t := 137) fe_185_129 (by decide) (by decide) ?_
                            refine r_bipush (v := 8) fe_185_137 (by decide) ?_
                            refine r_iconst (v := 0) fe_185_139 (by decide) ?_
                            refine r_callV (as := [.int 8, .int 0]) (r := []) fe_185_140 lm_12_239 md_190 rfl rfl (Nat.le_of_ble_eq_true rfl) m_c_0 (m_lt hh (by decide)) (Nat.le_of_ble_eq_true rfl) (Nat.le_of_ble_eq_true rfl) ?_
                            cases hc101 : F190 n 8 0 z96.2 with
                            | none => rw [hc101] at hf; cases hf
                            | some z100 =>
                              rw [hc101, Option.bind_some] at hf
                              refine F190c (r0 := z100.1) (S0 := z100.2) hh hc101 ?_
                              refine r_vret fe_185_143 ?_
                              exact dfin (P := fun _ T => Q none (mst T h)) hf hQ
                          · rw [if_neg hb99] at hf
                            refine r_ic_f (t := 128) fe_185_113 (by decide) (Bool.eq_false_iff.mpr hb99) ?_
                            refine r_iload_n fe_185_116 rfl ?_
                            refine r_if_t (t := 124) fe_185_117 (by decide) (by decide) ?_
                            refine r_iconst (v := 4) fe_185_124 (by decide) ?_
                            refine r_goto (t := 139) fe_185_125 (by decide) ?_
                            refine r_iconst (v := 0) fe_185_139 (by decide) ?_
                            refine r_callV (as := [.int 4, .int 0]) (r := []) fe_185_140 lm_12_239 md_190 rfl rfl (Nat.le_of_ble_eq_true rfl) m_c_0 (m_lt hh (by decide)) (Nat.le_of_ble_eq_true rfl) (Nat.le_of_ble_eq_true rfl) ?_
                            cases hc103 : F190 n 4 0 z96.2 with
                            | none => rw [hc103] at hf; cases hf
                            | some z102 =>
                              rw [hc103, Option.bind_some] at hf
                              refine F190c (r0 := z102.1) (S0 := z102.2) hh hc103 ?_
                              refine r_vret fe_185_143 ?_
                              exact dfin (P := fun _ T => Q none (mst T h)) hf hQ
                        · rw [if_neg hb98] at hf
                          refine r_ic_f (t := 110) fe_185_102 (by decide) (Bool.eq_false_iff.mpr hb98) ?_
                          refine r_bipush (v := 6) fe_185_105 (by decide) ?_
                          refine r_goto (t := 139) fe_185_107 (by decide) ?_
                          refine r_iconst (v := 0) fe_185_139 (by decide) ?_
                          refine r_callV (as := [.int 6, .int 0]) (r := []) fe_185_140 lm_12_239 md_190 rfl rfl (Nat.le_of_ble_eq_true rfl) m_c_0 (m_lt hh (by decide)) (Nat.le_of_ble_eq_true rfl) (Nat.le_of_ble_eq_true rfl) ?_
                          cases hc105 : F190 n 6 0 z96.2 with
                          | none => rw [hc105] at hf; cases hf
                          | some z104 =>
                            rw [hc105, Option.bind_some] at hf
                            refine F190c (r0 := z104.1) (S0 := z104.2) hh hc105 ?_
                            refine r_vret fe_185_143 ?_
                            exact dfin (P := fun _ T => Q none (mst T h)) hf hQ
                    · rw [if_neg hb95] at hf
                      refine r_ic_f (t := 74) fe_185_67 (by decide) (Bool.eq_false_iff.mpr hb95) ?_
                      refine r_iconst (v := 1) fe_185_70 (by decide) ?_
                      refine r_goto (t := 75) fe_185_71 (by decide) ?_
                      refine r_istore_n fe_185_75 (Nat.le_of_ble_eq_true rfl) rfl ?_
                      refine r_aload_n fe_185_76 rfl ?_
                      refine r_dup fe_185_77 rfl ?_
                      refine mr_getf hh fe_185_78 lf_12_188 rfl ?_
                      refine r_iload_n fe_185_81 rfl ?_
                      refine r_if_f (t := 89) fe_185_82 (by decide) (by decide) ?_
                      refine r_iconst (v := 1) fe_185_85 (by decide) ?_
                      refine r_goto (t := 90) fe_185_86 (by decide) ?_
                      refine r_iadd (v := ((z93.2.1 27) + 1)) fe_185_90 rfl ?_
                      refine mr_putf hh fe_185_91 lf_12_188 (m_f_27 _ _) (by decide) rfl rfl rfl ?_
                      refine r_aload_n fe_185_94 rfl ?_
                      refine r_callV (as := []) (r := []) fe_185_95 lm_12_252 md_186 rfl rfl (Nat.le_of_ble_eq_true rfl) m_c_0 (m_lt hh (by decide)) (Nat.le_of_ble_eq_true rfl) (Nat.le_of_ble_eq_true rfl) ?_
                      cases hc107 : F186 n  (m_sI z93.2 27 ((z93.2.1 27) + 1)) with
                      | none => rw [hc107] at hf; cases hf
                      | some z106 =>
                        rw [hc107, Option.bind_some] at hf
                        refine F186c (r0 := z106.1) (S0 := z106.2) hh hc107 ?_
                        refine r_aload_n fe_185_98 rfl ?_
                        refine r_iload_n fe_185_99 rfl ?_
                        refine r_bipush (v := 61) fe_185_100 (by decide) ?_
                        by_cases hb108 : am_ic .ne z3.1 61 = true
                        · rw [if_pos hb108] at hf
                          refine r_ic_t (t := 110) fe_185_102 (by decide) hb108 ?_
                          refine r_iload_n fe_185_110 rfl ?_
                          refine r_bipush (v := 60) fe_185_111 (by decide) ?_
                          by_cases hb109 : am_ic .ne z3.1 60 = true
                          · rw [if_pos hb109] at hf
                            refine r_ic_t (t := 128) fe_185_113 (by decide) hb109 ?_
                            refine r_iload_n fe_185_128 rfl ?_
                            refine r_if_f (t := 137) fe_185_129 (by decide) (by decide) ?_
                            refine r_bipush (v := 7) fe_185_132 (by decide) ?_
                            refine r_goto (t := 139) fe_185_134 (by decide) ?_
                            refine r_iconst (v := 0) fe_185_139 (by decide) ?_
                            refine r_callV (as := [.int 7, .int 0]) (r := []) fe_185_140 lm_12_239 md_190 rfl rfl (Nat.le_of_ble_eq_true rfl) m_c_0 (m_lt hh (by decide)) (Nat.le_of_ble_eq_true rfl) (Nat.le_of_ble_eq_true rfl) ?_
                            cases hc111 : F190 n 7 0 z106.2 with
                            | none => rw [hc111] at hf; cases hf
                            | some z110 =>
                              rw [hc111, Option.bind_some] at hf
                              refine F190c (r0 := z110.1) (S0 := z110.2) hh hc111 ?_
                              refine r_vret fe_185_143 ?_
                              exact dfin (P := fun _ T => Q none (mst T h)) hf hQ
                          · rw [if_neg hb109] at hf
                            refine r_ic_f (t := 128) fe_185_113 (by decide) (Bool.eq_false_iff.mpr hb109) ?_
                            refine r_iload_n fe_185_116 rfl ?_
                            refine r_if_f (t := 124) fe_185_117 (by decide) (by decide) ?_
                            refine r_iconst (v := 5) fe_185_120 (by decide) ?_
                            refine r_goto (t := 139) fe_185_121 (by decide) ?_
                            refine r_iconst (v := 0) fe_185_139 (by decide) ?_
                            refine r_callV (as := [.int 5, .int 0]) (r := []) fe_185_140 lm_12_239 md_190 rfl rfl (Nat.le_of_ble_eq_true rfl) m_c_0 (m_lt hh (by decide)) (Nat.le_of_ble_eq_true rfl) (Nat.le_of_ble_eq_true rfl) ?_
                            cases hc113 : F190 n 5 0 z106.2 with
                            | none => rw [hc113] at hf; cases hf
                            | some z112 =>
                              rw [hc113, Option.bind_some] at hf
                              refine F190c (r0 := z112.1) (S0 := z112.2) hh hc113 ?_
                              refine r_vret fe_185_143 ?_
                              exact dfin (P := fun _ T => Q none (mst T h)) hf hQ
                        · rw [if_neg hb108] at hf
                          refine r_ic_f (t := 110) fe_185_102 (by decide) (Bool.eq_false_iff.mpr hb108) ?_
                          refine r_bipush (v := 6) fe_185_105 (by decide) ?_
                          refine r_goto (t := 139) fe_185_107 (by decide) ?_
                          refine r_iconst (v := 0) fe_185_139 (by decide) ?_
                          refine r_callV (as := [.int 6, .int 0]) (r := []) fe_185_140 lm_12_239 md_190 rfl rfl (Nat.le_of_ble_eq_true rfl) m_c_0 (m_lt hh (by decide)) (Nat.le_of_ble_eq_true rfl) (Nat.le_of_ble_eq_true rfl) ?_
                          cases hc115 : F190 n 6 0 z106.2 with
                          | none => rw [hc115] at hf; cases hf
                          | some z114 =>
                            rw [hc115, Option.bind_some] at hf
                            refine F190c (r0 := z114.1) (S0 := z114.2) hh hc115 ?_
                            refine r_vret fe_185_143 ?_
                            exact dfin (P := fun _ T => Q none (mst T h)) hf hQ
            · rw [if_neg hb79] at hf
              refine r_ic_f (t := 37) fe_185_24 (by decide) (Bool.eq_false_iff.mpr hb79) ?_
              refine r_aload_n fe_185_27 rfl ?_
              refine r_iconst (v := 0) fe_185_28 (by decide) ?_
              refine r_aload_n fe_185_29 rfl ?_
              refine mr_getf hh fe_185_30 lf_12_188 rfl ?_
              refine r_callV (as := [.int 0, .int (z3.2.1 27)]) (r := []) fe_185_33 lm_12_224 md_165 rfl rfl (Nat.le_of_ble_eq_true rfl) m_c_0 (m_lt hh (by decide)) (Nat.le_of_ble_eq_true rfl) (Nat.le_of_ble_eq_true rfl) ?_
              cases hc117 : F165 n 0 (z3.2.1 27) z3.2 with
              | none => rw [hc117] at hf; cases hf
              | some z116 =>
                rw [hc117, Option.bind_some] at hf
                refine F165c (r0 := z116.1) (S0 := z116.2) hh hc117 ?_
                refine r_vret fe_185_36 ?_
                exact dfin (P := fun _ T => Q none (mst T h)) hf hQ
theorem F185c {xs : Nat → Int32} {L9 d n : Nat} {h : AmH} {Q : Option Value → AmH → Prop} {r0 : Unit} {S0 S : mS}  (hh : 172 ≤ h.2.1) (hf : F185 n  S = some (r0, S0)) (hQ : Q none (mst S0 h)) : Ca (am_X xs L9) (d + 8) 185 [.ref 130] (mst S h) Q := (F185l hh hQ n)  S hf
def F183b0 (F : Nat → mS → Option (Int32 × mS)) (n : Nat)  (S : mS) : Option (Int32 × mS) := ((F161 n  S).bind (fun z1 => ((F164 n 32 z1.2).bind (fun z3 => (if am_if .eq z3.1 = true then ((F162 n  z3.2).bind (fun z6 => (if am_ic .ne z6.1 91 = true then ((F185 n  z6.2).bind (fun z9 => some (1, z9.2))) else ((F184 n 12 z6.2).bind (fun z11 => some (0, (m_sI z11.2 27 ((z11.2.1 27) + 1)))))))) else ((F184 n 9 z3.2).bind (fun z13 => some (0, (m_sI z13.2 27 ((z13.2.1 27) + 3))))))))))
def F183f : Nat → Nat → mS → Option (Int32 × mS)
  | 0, _, _ => none
  | n + 1, c, S => F183b0 (F183f n) n  S
theorem F183e0 (n : Nat)  (S : mS) : F183f (n + 1) 0  S = F183b0 (F183f n) n  S := rfl
def F183 (n : Nat)  (S : mS) : Option (Int32 × mS) := F183f n 0  S
set_option maxRecDepth 20000 in
set_option maxHeartbeats 2000000 in
theorem F183l {xs : Nat → Int32} {L9 d : Nat} {h : AmH} {Q : Option Value → AmH → Prop} {r0 : Int32} {S0 : mS} (hh : 172 ≤ h.2.1) (hQ : Q (some (.int r0)) (mst S0 h)) : ∀ n : Nat, (∀ (S : mS), F183f n 0 S = some (r0, S0) → Go (am_X xs L9) (d + 9) 183 0 [.ref 130] [] (mst S h) Q) := by
  intro n
  induction n with
  | zero => exact fun  S hf => (by cases hf)
  | succ n ih =>
    intro  S hf
    rw [F183e0] at hf
    unfold F183b0 at hf
    refine r_aload_n fe_183_0 rfl ?_
    refine r_callV (as := []) (r := []) fe_183_1 lm_12_208 md_161 rfl rfl (Nat.le_of_ble_eq_true rfl) m_c_0 (m_lt hh (by decide)) (Nat.le_of_ble_eq_true rfl) (Nat.le_of_ble_eq_true rfl) ?_
    cases hc2 : F161 n  S with
    | none => rw [hc2] at hf; cases hf
    | some z1 =>
      rw [hc2, Option.bind_some] at hf
      refine F161c (r0 := z1.1) (S0 := z1.2) hh hc2 ?_
      refine r_aload_n fe_183_4 rfl ?_
      refine r_ldc_wS fe_183_5 lk_12_264 ?_
      refine r_callV (as := [.ref 32]) (r := []) fe_183_8 lm_12_211 md_164 rfl rfl (Nat.le_of_ble_eq_true rfl) m_c_0 (m_lt hh (by decide)) (Nat.le_of_ble_eq_true rfl) (Nat.le_of_ble_eq_true rfl) ?_
      cases hc4 : F164 n 32 z1.2 with
      | none => rw [hc4] at hf; cases hf
      | some z3 =>
        rw [hc4, Option.bind_some] at hf
        refine F164c (r0 := z3.1) (S0 := z3.2) hh hc4 ?_
        by_cases hb5 : am_if .eq z3.1 = true
        · rw [if_pos hb5] at hf
          refine r_if_t (t := 32) fe_183_11 (by decide) hb5 ?_
          refine r_aload_n fe_183_32 rfl ?_
          refine r_callV (as := []) (r := []) fe_183_33 lm_12_191 md_162 rfl rfl (Nat.le_of_ble_eq_true rfl) m_c_0 (m_lt hh (by decide)) (Nat.le_of_ble_eq_true rfl) (Nat.le_of_ble_eq_true rfl) ?_
          cases hc7 : F162 n  z3.2 with
          | none => rw [hc7] at hf; cases hf
          | some z6 =>
            rw [hc7, Option.bind_some] at hf
            refine F162c (r0 := z6.1) (S0 := z6.2) hh hc7 ?_
            refine r_bipush (v := 91) fe_183_36 (by decide) ?_
            by_cases hb8 : am_ic .ne z6.1 91 = true
            · rw [if_pos hb8] at hf
              refine r_ic_t (t := 59) fe_183_38 (by decide) hb8 ?_
              refine r_aload_n fe_183_59 rfl ?_
              refine r_callV (as := []) (r := []) fe_183_60 lm_12_269 md_185 rfl rfl (Nat.le_of_ble_eq_true rfl) m_c_0 (m_lt hh (by decide)) (Nat.le_of_ble_eq_true rfl) (Nat.le_of_ble_eq_true rfl) ?_
              cases hc10 : F185 n  z6.2 with
              | none => rw [hc10] at hf; cases hf
              | some z9 =>
                rw [hc10, Option.bind_some] at hf
                refine F185c (r0 := z9.1) (S0 := z9.2) hh hc10 ?_
                refine r_iconst (v := 1) fe_183_63 (by decide) ?_
                refine r_iret fe_183_64 ⟨rfl, by decide⟩ ?_
                exact dfin (P := fun r T => Q (some (.int r)) (mst T h)) hf hQ
            · rw [if_neg hb8] at hf
              refine r_ic_f (t := 59) fe_183_38 (by decide) (Bool.eq_false_iff.mpr hb8) ?_
              refine r_aload_n fe_183_41 rfl ?_
              refine r_bipush (v := 12) fe_183_42 (by decide) ?_
              refine r_callV (as := [.int 12]) (r := []) fe_183_44 lm_12_266 md_184 rfl rfl (Nat.le_of_ble_eq_true rfl) m_c_0 (m_lt hh (by decide)) (Nat.le_of_ble_eq_true rfl) (Nat.le_of_ble_eq_true rfl) ?_
              cases hc12 : F184 n 12 z6.2 with
              | none => rw [hc12] at hf; cases hf
              | some z11 =>
                rw [hc12, Option.bind_some] at hf
                refine F184c (r0 := z11.1) (S0 := z11.2) hh hc12 ?_
                refine r_aload_n fe_183_47 rfl ?_
                refine r_dup fe_183_48 rfl ?_
                refine mr_getf hh fe_183_49 lf_12_188 rfl ?_
                refine r_iconst (v := 1) fe_183_52 (by decide) ?_
                refine r_iadd (v := ((z11.2.1 27) + 1)) fe_183_53 rfl ?_
                refine mr_putf hh fe_183_54 lf_12_188 (m_f_27 _ _) (by decide) rfl rfl rfl ?_
                refine r_iconst (v := 0) fe_183_57 (by decide) ?_
                refine r_iret fe_183_58 ⟨rfl, by decide⟩ ?_
                exact dfin (P := fun r T => Q (some (.int r)) (mst T h)) hf hQ
        · rw [if_neg hb5] at hf
          refine r_if_f (t := 32) fe_183_11 (by decide) (Bool.eq_false_iff.mpr hb5) ?_
          refine r_aload_n fe_183_14 rfl ?_
          refine r_bipush (v := 9) fe_183_15 (by decide) ?_
          refine r_callV (as := [.int 9]) (r := []) fe_183_17 lm_12_266 md_184 rfl rfl (Nat.le_of_ble_eq_true rfl) m_c_0 (m_lt hh (by decide)) (Nat.le_of_ble_eq_true rfl) (Nat.le_of_ble_eq_true rfl) ?_
          cases hc14 : F184 n 9 z3.2 with
          | none => rw [hc14] at hf; cases hf
          | some z13 =>
            rw [hc14, Option.bind_some] at hf
            refine F184c (r0 := z13.1) (S0 := z13.2) hh hc14 ?_
            refine r_aload_n fe_183_20 rfl ?_
            refine r_dup fe_183_21 rfl ?_
            refine mr_getf hh fe_183_22 lf_12_188 rfl ?_
            refine r_iconst (v := 3) fe_183_25 (by decide) ?_
            refine r_iadd (v := ((z13.2.1 27) + 3)) fe_183_26 rfl ?_
            refine mr_putf hh fe_183_27 lf_12_188 (m_f_27 _ _) (by decide) rfl rfl rfl ?_
            refine r_iconst (v := 0) fe_183_30 (by decide) ?_
            refine r_iret fe_183_31 ⟨rfl, by decide⟩ ?_
            exact dfin (P := fun r T => Q (some (.int r)) (mst T h)) hf hQ
theorem F183c {xs : Nat → Int32} {L9 d n : Nat} {h : AmH} {Q : Option Value → AmH → Prop} {r0 : Int32} {S0 S : mS}  (hh : 172 ≤ h.2.1) (hf : F183 n  S = some (r0, S0)) (hQ : Q (some (.int r0)) (mst S0 h)) : Ca (am_X xs L9) (d + 9) 183 [.ref 130] (mst S h) Q := (F183l hh hQ n)  S hf
def F182b0 (F : Nat → Int32 → Int32 → mS → Option (Unit × mS)) (n : Nat) (l1 : Int32) (l2 : Int32) (S : mS) : Option (Unit × mS) := F 9 1 1 (m_sI S 34 0)
def F182b9 (F : Nat → Int32 → Int32 → mS → Option (Unit × mS)) (n : Nat) (l1 : Int32) (l2 : Int32) (S : mS) : Option (Unit × mS) := (if am_if .eq l2 = true then some ((), S) else (if am_if .ne (S.1 28) = true then some ((), S) else (if am_if .eq l1 = true then ((F192 n 9 S).bind (fun z4 => ((F161 n  z4.2).bind (fun z6 => ((F164 n 56 z6.2).bind (fun z8 => ((F164 n 58 z8.2).bind (fun z10 => ((F192 n 10 z10.2).bind (fun z12 => (if am_if .ne z8.1 = true then (if am_if .eq z10.1 = true then (if am_if .eq z8.1 = true then ((F184 n 11 z12.2).bind (fun z17 => (if am_if .eq z8.1 = true then F 9 1 l2 (m_sI z17.2 27 ((z17.2.1 27) + 2)) else F 9 1 l2 (m_sI z17.2 27 ((z17.2.1 27) + 3))))) else ((F184 n 10 z12.2).bind (fun z20 => (if am_if .eq z8.1 = true then F 9 1 l2 (m_sI z20.2 27 ((z20.2.1 27) + 2)) else F 9 1 l2 (m_sI z20.2 27 ((z20.2.1 27) + 3)))))) else ((F192 n 11 z12.2).bind (fun z23 => (if am_if .eq z8.1 = true then ((F184 n 11 z23.2).bind (fun z26 => (if am_if .eq z8.1 = true then F 9 1 l2 (m_sI z26.2 27 ((z26.2.1 27) + 2)) else F 9 1 l2 (m_sI z26.2 27 ((z26.2.1 27) + 3))))) else ((F184 n 10 z23.2).bind (fun z29 => (if am_if .eq z8.1 = true then F 9 1 l2 (m_sI z29.2 27 ((z29.2.1 27) + 2)) else F 9 1 l2 (m_sI z29.2 27 ((z29.2.1 27) + 3))))))))) else (if am_if .eq z10.1 = true then ((F192 n 11 z12.2).bind (fun z33 => ((F193 n  z33.2).bind (fun z35 => (if am_ic .ne z35.1 12 = true then F 9 l1 0 z35.2 else ((F162 n  z35.2).bind (fun z38 => (if am_ic .eq z38.1 93 = true then F 9 l1 l2 (m_sI (m_sI (m_sI z38.2 27 ((z38.2.1 27) + 1)) 34 (((m_sI z38.2 27 ((z38.2.1 27) + 1)).1 34) - 1)) 32 (((m_sI (m_sI z38.2 27 ((z38.2.1 27) + 1)) 34 (((m_sI z38.2 27 ((z38.2.1 27) + 1)).1 34) - 1)).1 32) - 1)) else ((F165 n 0 (z38.2.1 27) z38.2).bind (fun z41 => F 9 l1 l2 (m_sI (m_sI (m_sI z41.2 27 ((z41.2.1 27) + 1)) 34 (((m_sI z41.2 27 ((z41.2.1 27) + 1)).1 34) - 1)) 32 (((m_sI (m_sI z41.2 27 ((z41.2.1 27) + 1)) 34 (((m_sI z41.2 27 ((z41.2.1 27) + 1)).1 34) - 1)).1 32) - 1)))))))))))) else (if am_if .eq z10.1 = true then (if am_if .eq z8.1 = true then ((F184 n 11 z12.2).bind (fun z45 => (if am_if .eq z8.1 = true then F 9 1 l2 (m_sI z45.2 27 ((z45.2.1 27) + 2)) else F 9 1 l2 (m_sI z45.2 27 ((z45.2.1 27) + 3))))) else ((F184 n 10 z12.2).bind (fun z48 => (if am_if .eq z8.1 = true then F 9 1 l2 (m_sI z48.2 27 ((z48.2.1 27) + 2)) else F 9 1 l2 (m_sI z48.2 27 ((z48.2.1 27) + 3)))))) else ((F192 n 11 z12.2).bind (fun z51 => (if am_if .eq z8.1 = true then ((F184 n 11 z51.2).bind (fun z54 => (if am_if .eq z8.1 = true then F 9 1 l2 (m_sI z54.2 27 ((z54.2.1 27) + 2)) else F 9 1 l2 (m_sI z54.2 27 ((z54.2.1 27) + 3))))) else ((F184 n 10 z51.2).bind (fun z57 => (if am_if .eq z8.1 = true then F 9 1 l2 (m_sI z57.2 27 ((z57.2.1 27) + 2)) else F 9 1 l2 (m_sI z57.2 27 ((z57.2.1 27) + 3))))))))))))))))))))) else ((F183 n  S).bind (fun z60 => (if am_if .ne z60.1 = true then F 9 0 l2 z60.2 else F 9 1 l2 z60.2))))))
def F182f : Nat → Nat → Int32 → Int32 → mS → Option (Unit × mS)
  | 0, _, _, _, _ => none
  | n + 1, c, l1, l2, S => if c = 0 then F182b0 (F182f n) n l1 l2 S else F182b9 (F182f n) n l1 l2 S
theorem F182e0 (n : Nat) (l1 : Int32) (l2 : Int32) (S : mS) : F182f (n + 1) 0 l1 l2 S = F182b0 (F182f n) n l1 l2 S := if_pos rfl
theorem F182e9 (n : Nat) (l1 : Int32) (l2 : Int32) (S : mS) : F182f (n + 1) 9 l1 l2 S = F182b9 (F182f n) n l1 l2 S := if_neg (by decide)
def F182 (n : Nat)  (S : mS) : Option (Unit × mS) := F182f n 0 0 0 S
set_option maxRecDepth 20000 in
set_option maxHeartbeats 2000000 in
theorem F182l {xs : Nat → Int32} {L9 d : Nat} {h : AmH} {Q : Option Value → AmH → Prop} {r0 : Unit} {S0 : mS} (hh : 172 ≤ h.2.1) (hQ : Q none (mst S0 h)) : ∀ n : Nat, (∀ (l1 : Int32) (l2 : Int32) (S : mS), F182f n 0 l1 l2 S = some (r0, S0) → Go (am_X xs L9) (d + 10) 182 0 [.ref 130, .float 0, .float 0, .float 0, .float 0] [] (mst S h) Q) ∧ (∀ (l1 : Int32) (l2 : Int32) (S : mS), F182f n 9 l1 l2 S = some (r0, S0) → Go (am_X xs L9) (d + 10) 182 9 [.ref 130, .int l1, .int l2, .float 0, .float 0] [] (mst S h) Q) := by
  intro n
  induction n with
  | zero => exact ⟨fun l1 l2 S hf => (by cases hf), fun l1 l2 S hf => (by cases hf)⟩
  | succ n ih =>
    refine ⟨?_, ?_⟩
    · intro l1 l2 S hf
      rw [F182e0] at hf
      unfold F182b0 at hf
      refine r_aload_n fe_182_0 rfl ?_
      refine r_iconst (v := 0) fe_182_1 (by decide) ?_
      refine mr_putf hh fe_182_2 lf_12_255 (m_f_34 _ _) (by decide) rfl rfl rfl ?_
      refine r_iconst (v := 1) fe_182_5 (by decide) ?_
      refine r_istore_n fe_182_6 (Nat.le_of_ble_eq_true rfl) rfl ?_
      refine r_iconst (v := 1) fe_182_7 (by decide) ?_
      refine r_istore_n fe_182_8 (Nat.le_of_ble_eq_true rfl) rfl ?_
      refine go_weak (L0 := [.ref 130, .int 1, .int 1, .float 0, .float 0]) (lwk_c (Or.inl rfl) (lwk_c (Or.inl rfl) (lwk_c (Or.inl rfl) (lwk_c (Or.inl rfl) (lwk_c (Or.inl rfl) (lwk_rf [])))))) ?_
      exact ih.2 1 1 (m_sI S 34 0) hf
    · intro l1 l2 S hf
      rw [F182e9] at hf
      unfold F182b9 at hf
      refine r_iload_n fe_182_9 rfl ?_
      by_cases hb1 : am_if .eq l2 = true
      · rw [if_pos hb1] at hf
        refine r_if_t (t := 202) fe_182_10 (by decide) hb1 ?_
        refine r_vret fe_182_202 ?_
        exact dfin (P := fun _ T => Q none (mst T h)) hf hQ
      · rw [if_neg hb1] at hf
        refine r_if_f (t := 202) fe_182_10 (by decide) (Bool.eq_false_iff.mpr hb1) ?_
        refine r_aload_n fe_182_13 rfl ?_
        refine mr_getf hh fe_182_14 lf_12_185 rfl ?_
        by_cases hb2 : am_if .ne (S.1 28) = true
        · rw [if_pos hb2] at hf
          refine r_if_t (t := 202) fe_182_17 (by decide) hb2 ?_
          refine r_vret fe_182_202 ?_
          exact dfin (P := fun _ T => Q none (mst T h)) hf hQ
        · rw [if_neg hb2] at hf
          refine r_if_f (t := 202) fe_182_17 (by decide) (Bool.eq_false_iff.mpr hb2) ?_
          refine r_iload_n fe_182_20 rfl ?_
          by_cases hb3 : am_if .eq l1 = true
          · rw [if_pos hb3] at hf
            refine r_if_t (t := 40) fe_182_21 (by decide) hb3 ?_
            refine r_aload_n fe_182_40 rfl ?_
            refine r_bipush (v := 9) fe_182_41 (by decide) ?_
            refine r_callV (as := [.int 9]) (r := []) fe_182_43 lm_12_275 md_192 rfl rfl (Nat.le_of_ble_eq_true rfl) m_c_0 (m_lt hh (by decide)) (Nat.le_of_ble_eq_true rfl) (Nat.le_of_ble_eq_true rfl) ?_
            cases hc5 : F192 n 9 S with
            | none => rw [hc5] at hf; cases hf
            | some z4 =>
              rw [hc5, Option.bind_some] at hf
              refine F192c (r0 := z4.1) (S0 := z4.2) hh hc5 ?_
              refine r_aload_n fe_182_46 rfl ?_
              refine r_callV (as := []) (r := []) fe_182_47 lm_12_208 md_161 rfl rfl (Nat.le_of_ble_eq_true rfl) m_c_0 (m_lt hh (by decide)) (Nat.le_of_ble_eq_true rfl) (Nat.le_of_ble_eq_true rfl) ?_
              cases hc7 : F161 n  z4.2 with
              | none => rw [hc7] at hf; cases hf
              | some z6 =>
                rw [hc7, Option.bind_some] at hf
                refine F161c (r0 := z6.1) (S0 := z6.2) hh hc7 ?_
                refine r_aload_n fe_182_50 rfl ?_
                refine r_ldc_wS fe_182_51 lk_12_278 ?_
                refine r_callV (as := [.ref 56]) (r := []) fe_182_54 lm_12_211 md_164 rfl rfl (Nat.le_of_ble_eq_true rfl) m_c_0 (m_lt hh (by decide)) (Nat.le_of_ble_eq_true rfl) (Nat.le_of_ble_eq_true rfl) ?_
                cases hc9 : F164 n 56 z6.2 with
                | none => rw [hc9] at hf; cases hf
                | some z8 =>
                  rw [hc9, Option.bind_some] at hf
                  refine F164c (r0 := z8.1) (S0 := z8.2) hh hc9 ?_
                  refine r_istore_n fe_182_57 (Nat.le_of_ble_eq_true rfl) rfl ?_
                  refine r_aload_n fe_182_58 rfl ?_
                  refine r_ldc_wS fe_182_59 lk_12_280 ?_
                  refine r_callV (as := [.ref 58]) (r := []) fe_182_62 lm_12_211 md_164 rfl rfl (Nat.le_of_ble_eq_true rfl) m_c_0 (m_lt hh (by decide)) (Nat.le_of_ble_eq_true rfl) (Nat.le_of_ble_eq_true rfl) ?_
                  cases hc11 : F164 n 58 z8.2 with
                  | none => rw [hc11] at hf; cases hf
                  | some z10 =>
                    rw [hc11, Option.bind_some] at hf
                    refine F164c (r0 := z10.1) (S0 := z10.2) hh hc11 ?_
                    refine r_istore fe_182_65 (Nat.le_of_ble_eq_true rfl) rfl ?_
                    refine r_aload_n fe_182_67 rfl ?_
                    refine r_bipush (v := 10) fe_182_68 (by decide) ?_
                    refine r_callV (as := [.int 10]) (r := []) fe_182_70 lm_12_275 md_192 rfl rfl (Nat.le_of_ble_eq_true rfl) m_c_0 (m_lt hh (by decide)) (Nat.le_of_ble_eq_true rfl) (Nat.le_of_ble_eq_true rfl) ?_
                    cases hc13 : F192 n 10 z10.2 with
                    | none => rw [hc13] at hf; cases hf
                    | some z12 =>
                      rw [hc13, Option.bind_some] at hf
                      refine F192c (r0 := z12.1) (S0 := z12.2) hh hc13 ?_
                      refine r_iload_n fe_182_73 rfl ?_
                      by_cases hb14 : am_if .ne z8.1 = true
                      · rw [if_pos hb14] at hf
                        refine r_if_t (t := 82) fe_182_74 (by decide) hb14 ?_
                        refine r_iload fe_182_82 rfl ?_
                        by_cases hb15 : am_if .eq z10.1 = true
                        · rw [if_pos hb15] at hf
                          refine r_if_t (t := 93) fe_182_84 (by decide) hb15 ?_
                          refine r_aload_n fe_182_93 rfl ?_
                          refine r_iload_n fe_182_94 rfl ?_
                          by_cases hb16 : am_if .eq z8.1 = true
                          · rw [if_pos hb16] at hf
                            refine r_if_t (t := 103) fe_182_95 (by decide) hb16 ?_
                            refine r_bipush (v := 11) fe_182_103 (by decide) ?_
                            refine r_callV (as := [.int 11]) (r := []) fe_182_105 lm_12_266 md_184 rfl rfl (Nat.le_of_ble_eq_true rfl) m_c_0 (m_lt hh (by decide)) (Nat.le_of_ble_eq_true rfl) (Nat.le_of_ble_eq_true rfl) ?_
                            cases hc18 : F184 n 11 z12.2 with
                            | none => rw [hc18] at hf; cases hf
                            | some z17 =>
                              rw [hc18, Option.bind_some] at hf
                              refine F184c (r0 := z17.1) (S0 := z17.2) hh hc18 ?_
                              refine r_aload_n fe_182_108 rfl ?_
                              refine r_dup fe_182_109 rfl ?_
                              refine mr_getf hh fe_182_110 lf_12_188 rfl ?_
                              refine r_iload_n fe_182_113 rfl ?_
                              by_cases hb19 : am_if .eq z8.1 = true
                              · rw [if_pos hb19] at hf
                                refine r_if_t (t := 121) fe_182_114 (by decide) hb19 ?_
                                refine r_iconst (v := 2) fe_182_121 (by decide) ?_
                                refine r_iadd (v := ((z17.2.1 27) + 2)) fe_182_122 rfl ?_
                                refine mr_putf hh fe_182_123 lf_12_188 (m_f_27 _ _) (by decide) rfl rfl rfl ?_
                                refine r_iconst (v := 1) fe_182_126 (by decide) ?_
                                refine r_istore_n fe_182_127 (Nat.le_of_ble_eq_true rfl) rfl ?_
                                refine r_goto (t := 199) fe_182_128 (by decide) ?_
                                refine r_goto (t := 9) fe_182_199 (by decide) ?_
                                refine go_weak (L0 := [.ref 130, .int 1, .int l2, .float 0, .float 0]) (lwk_c (Or.inl rfl) (lwk_c (Or.inl rfl) (lwk_c (Or.inl rfl) (lwk_c (Or.inr rfl) (lwk_c (Or.inr rfl) (lwk_rf [])))))) ?_
                                exact ih.2 1 l2 (m_sI z17.2 27 ((z17.2.1 27) + 2)) hf
                              · rw [if_neg hb19] at hf
                                refine r_if_f (t := 121) fe_182_114 (by decide) (Bool.eq_false_iff.mpr hb19) ?_
                                refine r_iconst (v := 3) fe_182_117 (by decide) ?_
                                refine r_goto (t := 122) fe_182_118 (by decide) ?_
                                refine r_iadd (v := ((z17.2.1 27) + 3)) fe_182_122 rfl ?_
                                refine mr_putf hh fe_182_123 lf_12_188 (m_f_27 _ _) (by decide) rfl rfl rfl ?_
                                refine r_iconst (v := 1) fe_182_126 (by decide) ?_
                                refine r_istore_n fe_182_127 (Nat.le_of_ble_eq_true rfl) rfl ?_
                                refine r_goto (t := 199) fe_182_128 (by decide) ?_
                                refine r_goto (t := 9) fe_182_199 (by decide) ?_
                                refine go_weak (L0 := [.ref 130, .int 1, .int l2, .float 0, .float 0]) (lwk_c (Or.inl rfl) (lwk_c (Or.inl rfl) (lwk_c (Or.inl rfl) (lwk_c (Or.inr rfl) (lwk_c (Or.inr rfl) (lwk_rf [])))))) ?_
                                exact ih.2 1 l2 (m_sI z17.2 27 ((z17.2.1 27) + 3)) hf
                          · rw [if_neg hb16] at hf
                            refine r_if_f (t := 103) fe_182_95 (by decide) (Bool.eq_false_iff.mpr hb16) ?_
                            refine r_bipush (v := 10) fe_182_98 (by decide) ?_
                            refine r_goto (t := 105) fe_182_100 (by decide) ?_
                            refine r_callV (as := [.int 10]) (r := []) fe_182_105 lm_12_266 md_184 rfl rfl (Nat.le_of_ble_eq_true rfl) m_c_0 (m_lt hh (by decide)) (Nat.le_of_ble_eq_true rfl) (Nat.le_of_ble_eq_true rfl) ?_
                            cases hc21 : F184 n 10 z12.2 with
                            | none => rw [hc21] at hf; cases hf
                            | some z20 =>
                              rw [hc21, Option.bind_some] at hf
                              refine F184c (r0 := z20.1) (S0 := z20.2) hh hc21 ?_
                              refine r_aload_n fe_182_108 rfl ?_
                              refine r_dup fe_182_109 rfl ?_
                              refine mr_getf hh fe_182_110 lf_12_188 rfl ?_
                              refine r_iload_n fe_182_113 rfl ?_
                              by_cases hb22 : am_if .eq z8.1 = true
                              · rw [if_pos hb22] at hf
                                refine r_if_t (t := 121) fe_182_114 (by decide) hb22 ?_
                                refine r_iconst (v := 2) fe_182_121 (by decide) ?_
                                refine r_iadd (v := ((z20.2.1 27) + 2)) fe_182_122 rfl ?_
                                refine mr_putf hh fe_182_123 lf_12_188 (m_f_27 _ _) (by decide) rfl rfl rfl ?_
                                refine r_iconst (v := 1) fe_182_126 (by decide) ?_
                                refine r_istore_n fe_182_127 (Nat.le_of_ble_eq_true rfl) rfl ?_
                                refine r_goto (t := 199) fe_182_128 (by decide) ?_
                                refine r_goto (t := 9) fe_182_199 (by decide) ?_
                                refine go_weak (L0 := [.ref 130, .int 1, .int l2, .float 0, .float 0]) (lwk_c (Or.inl rfl) (lwk_c (Or.inl rfl) (lwk_c (Or.inl rfl) (lwk_c (Or.inr rfl) (lwk_c (Or.inr rfl) (lwk_rf [])))))) ?_
                                exact ih.2 1 l2 (m_sI z20.2 27 ((z20.2.1 27) + 2)) hf
                              · rw [if_neg hb22] at hf
                                refine r_if_f (t := 121) fe_182_114 (by decide) (Bool.eq_false_iff.mpr hb22) ?_
                                refine r_iconst (v := 3) fe_182_117 (by decide) ?_
                                refine r_goto (t := 122) fe_182_118 (by decide) ?_
                                refine r_iadd (v := ((z20.2.1 27) + 3)) fe_182_122 rfl ?_
                                refine mr_putf hh fe_182_123 lf_12_188 (m_f_27 _ _) (by decide) rfl rfl rfl ?_
                                refine r_iconst (v := 1) fe_182_126 (by decide) ?_
                                refine r_istore_n fe_182_127 (Nat.le_of_ble_eq_true rfl) rfl ?_
                                refine r_goto (t := 199) fe_182_128 (by decide) ?_
                                refine r_goto (t := 9) fe_182_199 (by decide) ?_
                                refine go_weak (L0 := [.ref 130, .int 1, .int l2, .float 0, .float 0]) (lwk_c (Or.inl rfl) (lwk_c (Or.inl rfl) (lwk_c (Or.inl rfl) (lwk_c (Or.inr rfl) (lwk_c (Or.inr rfl) (lwk_rf [])))))) ?_
                                exact ih.2 1 l2 (m_sI z20.2 27 ((z20.2.1 27) + 3)) hf
                        · rw [if_neg hb15] at hf
                          refine r_if_f (t := 93) fe_182_84 (by decide) (Bool.eq_false_iff.mpr hb15) ?_
                          refine r_aload_n fe_182_87 rfl ?_
                          refine r_bipush (v := 11) fe_182_88 (by decide) ?_
                          refine r_callV (as := [.int 11]) (r := []) fe_182_90 lm_12_275 md_192 rfl rfl (Nat.le_of_ble_eq_true rfl) m_c_0 (m_lt hh (by decide)) (Nat.le_of_ble_eq_true rfl) (Nat.le_of_ble_eq_true rfl) ?_
                          cases hc24 : F192 n 11 z12.2 with
                          | none => rw [hc24] at hf; cases hf
                          | some z23 =>
                            rw [hc24, Option.bind_some] at hf
                            refine F192c (r0 := z23.1) (S0 := z23.2) hh hc24 ?_
                            refine r_aload_n fe_182_93 rfl ?_
                            refine r_iload_n fe_182_94 rfl ?_
                            by_cases hb25 : am_if .eq z8.1 = true
                            · rw [if_pos hb25] at hf
                              refine r_if_t (t := 103) fe_182_95 (by decide) hb25 ?_
                              refine r_bipush (v := 11) fe_182_103 (by decide) ?_
                              refine r_callV (as := [.int 11]) (r := []) fe_182_105 lm_12_266 md_184 rfl rfl (Nat.le_of_ble_eq_true rfl) m_c_0 (m_lt hh (by decide)) (Nat.le_of_ble_eq_true rfl) (Nat.le_of_ble_eq_true rfl) ?_
                              cases hc27 : F184 n 11 z23.2 with
                              | none => rw [hc27] at hf; cases hf
                              | some z26 =>
                                rw [hc27, Option.bind_some] at hf
                                refine F184c (r0 := z26.1) (S0 := z26.2) hh hc27 ?_
                                refine r_aload_n fe_182_108 rfl ?_
                                refine r_dup fe_182_109 rfl ?_
                                refine mr_getf hh fe_182_110 lf_12_188 rfl ?_
                                refine r_iload_n fe_182_113 rfl ?_
                                by_cases hb28 : am_if .eq z8.1 = true
                                · rw [if_pos hb28] at hf
                                  refine r_if_t (t := 121) fe_182_114 (by decide) hb28 ?_
                                  refine r_iconst (v := 2) fe_182_121 (by decide) ?_
                                  refine r_iadd (v := ((z26.2.1 27) + 2)) fe_182_122 rfl ?_
                                  refine mr_putf hh fe_182_123 lf_12_188 (m_f_27 _ _) (by decide) rfl rfl rfl ?_
                                  refine r_iconst (v := 1) fe_182_126 (by decide) ?_
                                  refine r_istore_n fe_182_127 (Nat.le_of_ble_eq_true rfl) rfl ?_
                                  refine r_goto (t := 199) fe_182_128 (by decide) ?_
                                  refine r_goto (t := 9) fe_182_199 (by decide) ?_
                                  refine go_weak (L0 := [.ref 130, .int 1, .int l2, .float 0, .float 0]) (lwk_c (Or.inl rfl) (lwk_c (Or.inl rfl) (lwk_c (Or.inl rfl) (lwk_c (Or.inr rfl) (lwk_c (Or.inr rfl) (lwk_rf [])))))) ?_
                                  exact ih.2 1 l2 (m_sI z26.2 27 ((z26.2.1 27) + 2)) hf
                                · rw [if_neg hb28] at hf
                                  refine r_if_f (t := 121) fe_182_114 (by decide) (Bool.eq_false_iff.mpr hb28) ?_
                                  refine r_iconst (v := 3) fe_182_117 (by decide) ?_
                                  refine r_goto (t := 122) fe_182_118 (by decide) ?_
                                  refine r_iadd (v := ((z26.2.1 27) + 3)) fe_182_122 rfl ?_
                                  refine mr_putf hh fe_182_123 lf_12_188 (m_f_27 _ _) (by decide) rfl rfl rfl ?_
                                  refine r_iconst (v := 1) fe_182_126 (by decide) ?_
                                  refine r_istore_n fe_182_127 (Nat.le_of_ble_eq_true rfl) rfl ?_
                                  refine r_goto (t := 199) fe_182_128 (by decide) ?_
                                  refine r_goto (t := 9) fe_182_199 (by decide) ?_
                                  refine go_weak (L0 := [.ref 130, .int 1, .int l2, .float 0, .float 0]) (lwk_c (Or.inl rfl) (lwk_c (Or.inl rfl) (lwk_c (Or.inl rfl) (lwk_c (Or.inr rfl) (lwk_c (Or.inr rfl) (lwk_rf [])))))) ?_
                                  exact ih.2 1 l2 (m_sI z26.2 27 ((z26.2.1 27) + 3)) hf
                            · rw [if_neg hb25] at hf
                              refine r_if_f (t := 103) fe_182_95 (by decide) (Bool.eq_false_iff.mpr hb25) ?_
                              refine r_bipush (v := 10) fe_182_98 (by decide) ?_
                              refine r_goto (t := 105) fe_182_100 (by decide) ?_
                              refine r_callV (as := [.int 10]) (r := []) fe_182_105 lm_12_266 md_184 rfl rfl (Nat.le_of_ble_eq_true rfl) m_c_0 (m_lt hh (by decide)) (Nat.le_of_ble_eq_true rfl) (Nat.le_of_ble_eq_true rfl) ?_
                              cases hc30 : F184 n 10 z23.2 with
                              | none => rw [hc30] at hf; cases hf
                              | some z29 =>
                                rw [hc30, Option.bind_some] at hf
                                refine F184c (r0 := z29.1) (S0 := z29.2) hh hc30 ?_
                                refine r_aload_n fe_182_108 rfl ?_
                                refine r_dup fe_182_109 rfl ?_
                                refine mr_getf hh fe_182_110 lf_12_188 rfl ?_
                                refine r_iload_n fe_182_113 rfl ?_
                                by_cases hb31 : am_if .eq z8.1 = true
                                · rw [if_pos hb31] at hf
                                  refine r_if_t (t := 121) fe_182_114 (by decide) hb31 ?_
                                  refine r_iconst (v := 2) fe_182_121 (by decide) ?_
                                  refine r_iadd (v := ((z29.2.1 27) + 2)) fe_182_122 rfl ?_
                                  refine mr_putf hh fe_182_123 lf_12_188 (m_f_27 _ _) (by decide) rfl rfl rfl ?_
                                  refine r_iconst (v := 1) fe_182_126 (by decide) ?_
                                  refine r_istore_n fe_182_127 (Nat.le_of_ble_eq_true rfl) rfl ?_
                                  refine r_goto (t := 199) fe_182_128 (by decide) ?_
                                  refine r_goto (t := 9) fe_182_199 (by decide) ?_
                                  refine go_weak (L0 := [.ref 130, .int 1, .int l2, .float 0, .float 0]) (lwk_c (Or.inl rfl) (lwk_c (Or.inl rfl) (lwk_c (Or.inl rfl) (lwk_c (Or.inr rfl) (lwk_c (Or.inr rfl) (lwk_rf [])))))) ?_
                                  exact ih.2 1 l2 (m_sI z29.2 27 ((z29.2.1 27) + 2)) hf
                                · rw [if_neg hb31] at hf
                                  refine r_if_f (t := 121) fe_182_114 (by decide) (Bool.eq_false_iff.mpr hb31) ?_
                                  refine r_iconst (v := 3) fe_182_117 (by decide) ?_
                                  refine r_goto (t := 122) fe_182_118 (by decide) ?_
                                  refine r_iadd (v := ((z29.2.1 27) + 3)) fe_182_122 rfl ?_
                                  refine mr_putf hh fe_182_123 lf_12_188 (m_f_27 _ _) (by decide) rfl rfl rfl ?_
                                  refine r_iconst (v := 1) fe_182_126 (by decide) ?_
                                  refine r_istore_n fe_182_127 (Nat.le_of_ble_eq_true rfl) rfl ?_
                                  refine r_goto (t := 199) fe_182_128 (by decide) ?_
                                  refine r_goto (t := 9) fe_182_199 (by decide) ?_
                                  refine go_weak (L0 := [.ref 130, .int 1, .int l2, .float 0, .float 0]) (lwk_c (Or.inl rfl) (lwk_c (Or.inl rfl) (lwk_c (Or.inl rfl) (lwk_c (Or.inr rfl) (lwk_c (Or.inr rfl) (lwk_rf [])))))) ?_
                                  exact ih.2 1 l2 (m_sI z29.2 27 ((z29.2.1 27) + 3)) hf
                      · rw [if_neg hb14] at hf
                        refine r_if_f (t := 82) fe_182_74 (by decide) (Bool.eq_false_iff.mpr hb14) ?_
                        refine r_iload fe_182_77 rfl ?_
                        by_cases hb32 : am_if .eq z10.1 = true
                        · rw [if_pos hb32] at hf
                          refine r_if_t (t := 131) fe_182_79 (by decide) hb32 ?_
                          refine r_aload_n fe_182_131 rfl ?_
                          refine r_bipush (v := 11) fe_182_132 (by decide) ?_
                          refine r_callV (as := [.int 11]) (r := []) fe_182_134 lm_12_275 md_192 rfl rfl (Nat.le_of_ble_eq_true rfl) m_c_0 (m_lt hh (by decide)) (Nat.le_of_ble_eq_true rfl) (Nat.le_of_ble_eq_true rfl) ?_
                          cases hc34 : F192 n 11 z12.2 with
                          | none => rw [hc34] at hf; cases hf
                          | some z33 =>
                            rw [hc34, Option.bind_some] at hf
                            refine F192c (r0 := z33.1) (S0 := z33.2) hh hc34 ?_
                            refine r_aload_n fe_182_137 rfl ?_
                            refine r_callV (as := []) (r := []) fe_182_138 lm_12_261 md_193 rfl rfl (Nat.le_of_ble_eq_true rfl) m_c_0 (m_lt hh (by decide)) (Nat.le_of_ble_eq_true rfl) (Nat.le_of_ble_eq_true rfl) ?_
                            cases hc36 : F193 n  z33.2 with
                            | none => rw [hc36] at hf; cases hf
                            | some z35 =>
                              rw [hc36, Option.bind_some] at hf
                              refine F193c (r0 := z35.1) (S0 := z35.2) hh hc36 ?_
                              refine r_bipush (v := 12) fe_182_141 (by decide) ?_
                              by_cases hb37 : am_ic .ne z35.1 12 = true
                              · rw [if_pos hb37] at hf
                                refine r_ic_t (t := 197) fe_182_143 (by decide) hb37 ?_
                                refine r_iconst (v := 0) fe_182_197 (by decide) ?_
                                refine r_istore_n fe_182_198 (Nat.le_of_ble_eq_true rfl) rfl ?_
                                refine r_goto (t := 9) fe_182_199 (by decide) ?_
                                refine go_weak (L0 := [.ref 130, .int l1, .int 0, .float 0, .float 0]) (lwk_c (Or.inl rfl) (lwk_c (Or.inl rfl) (lwk_c (Or.inl rfl) (lwk_c (Or.inr rfl) (lwk_c (Or.inr rfl) (lwk_rf [])))))) ?_
                                exact ih.2 l1 0 z35.2 hf
                              · rw [if_neg hb37] at hf
                                refine r_ic_f (t := 197) fe_182_143 (by decide) (Bool.eq_false_iff.mpr hb37) ?_
                                refine r_aload_n fe_182_146 rfl ?_
                                refine r_callV (as := []) (r := []) fe_182_147 lm_12_191 md_162 rfl rfl (Nat.le_of_ble_eq_true rfl) m_c_0 (m_lt hh (by decide)) (Nat.le_of_ble_eq_true rfl) (Nat.le_of_ble_eq_true rfl) ?_
                                cases hc39 : F162 n  z35.2 with
                                | none => rw [hc39] at hf; cases hf
                                | some z38 =>
                                  rw [hc39, Option.bind_some] at hf
                                  refine F162c (r0 := z38.1) (S0 := z38.2) hh hc39 ?_
                                  refine r_bipush (v := 93) fe_182_150 (by decide) ?_
                                  by_cases hb40 : am_ic .eq z38.1 93 = true
                                  · rw [if_pos hb40] at hf
                                    refine r_ic_t (t := 164) fe_182_152 (by decide) hb40 ?_
                                    refine r_aload_n fe_182_164 rfl ?_
                                    refine r_dup fe_182_165 rfl ?_
                                    refine mr_getf hh fe_182_166 lf_12_188 rfl ?_
                                    refine r_iconst (v := 1) fe_182_169 (by decide) ?_
                                    refine r_iadd (v := ((z38.2.1 27) + 1)) fe_182_170 rfl ?_
                                    refine mr_putf hh fe_182_171 lf_12_188 (m_f_27 _ _) (by decide) rfl rfl rfl ?_
                                    refine r_aload_n fe_182_174 rfl ?_
                                    refine r_dup fe_182_175 rfl ?_
                                    refine mr_getf hh fe_182_176 lf_12_255 rfl ?_
                                    refine r_iconst (v := 1) fe_182_179 (by decide) ?_
                                    refine r_isub (v := (((m_sI z38.2 27 ((z38.2.1 27) + 1)).1 34) - 1)) fe_182_180 rfl ?_
                                    refine mr_putf hh fe_182_181 lf_12_255 (m_f_34 _ _) (by decide) rfl rfl rfl ?_
                                    refine r_aload_n fe_182_184 rfl ?_
                                    refine r_dup fe_182_185 rfl ?_
                                    refine mr_getf hh fe_182_186 lf_12_258 rfl ?_
                                    refine r_iconst (v := 1) fe_182_189 (by decide) ?_
                                    refine r_isub (v := (((m_sI (m_sI z38.2 27 ((z38.2.1 27) + 1)) 34 (((m_sI z38.2 27 ((z38.2.1 27) + 1)).1 34) - 1)).1 32) - 1)) fe_182_190 rfl ?_
                                    refine mr_putf hh fe_182_191 lf_12_258 (m_f_32 _ _) (by decide) rfl rfl rfl ?_
                                    refine r_goto (t := 199) fe_182_194 (by decide) ?_
                                    refine r_goto (t := 9) fe_182_199 (by decide) ?_
                                    refine go_weak (L0 := [.ref 130, .int l1, .int l2, .float 0, .float 0]) (lwk_c (Or.inl rfl) (lwk_c (Or.inl rfl) (lwk_c (Or.inl rfl) (lwk_c (Or.inr rfl) (lwk_c (Or.inr rfl) (lwk_rf [])))))) ?_
                                    exact ih.2 l1 l2 (m_sI (m_sI (m_sI z38.2 27 ((z38.2.1 27) + 1)) 34 (((m_sI z38.2 27 ((z38.2.1 27) + 1)).1 34) - 1)) 32 (((m_sI (m_sI z38.2 27 ((z38.2.1 27) + 1)) 34 (((m_sI z38.2 27 ((z38.2.1 27) + 1)).1 34) - 1)).1 32) - 1)) hf
                                  · rw [if_neg hb40] at hf
                                    refine r_ic_f (t := 164) fe_182_152 (by decide) (Bool.eq_false_iff.mpr hb40) ?_
                                    refine r_aload_n fe_182_155 rfl ?_
                                    refine r_iconst (v := 0) fe_182_156 (by decide) ?_
                                    refine r_aload_n fe_182_157 rfl ?_
                                    refine mr_getf hh fe_182_158 lf_12_188 rfl ?_
                                    refine r_callV (as := [.int 0, .int (z38.2.1 27)]) (r := []) fe_182_161 lm_12_224 md_165 rfl rfl (Nat.le_of_ble_eq_true rfl) m_c_0 (m_lt hh (by decide)) (Nat.le_of_ble_eq_true rfl) (Nat.le_of_ble_eq_true rfl) ?_
                                    cases hc42 : F165 n 0 (z38.2.1 27) z38.2 with
                                    | none => rw [hc42] at hf; cases hf
                                    | some z41 =>
                                      rw [hc42, Option.bind_some] at hf
                                      refine F165c (r0 := z41.1) (S0 := z41.2) hh hc42 ?_
                                      refine r_aload_n fe_182_164 rfl ?_
                                      refine r_dup fe_182_165 rfl ?_
                                      refine mr_getf hh fe_182_166 lf_12_188 rfl ?_
                                      refine r_iconst (v := 1) fe_182_169 (by decide) ?_
                                      refine r_iadd (v := ((z41.2.1 27) + 1)) fe_182_170 rfl ?_
                                      refine mr_putf hh fe_182_171 lf_12_188 (m_f_27 _ _) (by decide) rfl rfl rfl ?_
                                      refine r_aload_n fe_182_174 rfl ?_
                                      refine r_dup fe_182_175 rfl ?_
                                      refine mr_getf hh fe_182_176 lf_12_255 rfl ?_
                                      refine r_iconst (v := 1) fe_182_179 (by decide) ?_
                                      refine r_isub (v := (((m_sI z41.2 27 ((z41.2.1 27) + 1)).1 34) - 1)) fe_182_180 rfl ?_
                                      refine mr_putf hh fe_182_181 lf_12_255 (m_f_34 _ _) (by decide) rfl rfl rfl ?_
                                      refine r_aload_n fe_182_184 rfl ?_
                                      refine r_dup fe_182_185 rfl ?_
                                      refine mr_getf hh fe_182_186 lf_12_258 rfl ?_
                                      refine r_iconst (v := 1) fe_182_189 (by decide) ?_
                                      refine r_isub (v := (((m_sI (m_sI z41.2 27 ((z41.2.1 27) + 1)) 34 (((m_sI z41.2 27 ((z41.2.1 27) + 1)).1 34) - 1)).1 32) - 1)) fe_182_190 rfl ?_
                                      refine mr_putf hh fe_182_191 lf_12_258 (m_f_32 _ _) (by decide) rfl rfl rfl ?_
                                      refine r_goto (t := 199) fe_182_194 (by decide) ?_
                                      refine r_goto (t := 9) fe_182_199 (by decide) ?_
                                      refine go_weak (L0 := [.ref 130, .int l1, .int l2, .float 0, .float 0]) (lwk_c (Or.inl rfl) (lwk_c (Or.inl rfl) (lwk_c (Or.inl rfl) (lwk_c (Or.inr rfl) (lwk_c (Or.inr rfl) (lwk_rf [])))))) ?_
                                      exact ih.2 l1 l2 (m_sI (m_sI (m_sI z41.2 27 ((z41.2.1 27) + 1)) 34 (((m_sI z41.2 27 ((z41.2.1 27) + 1)).1 34) - 1)) 32 (((m_sI (m_sI z41.2 27 ((z41.2.1 27) + 1)) 34 (((m_sI z41.2 27 ((z41.2.1 27) + 1)).1 34) - 1)).1 32) - 1)) hf
                        · rw [if_neg hb32] at hf
                          refine r_if_f (t := 131) fe_182_79 (by decide) (Bool.eq_false_iff.mpr hb32) ?_
                          refine r_iload fe_182_82 rfl ?_
                          by_cases hb43 : am_if .eq z10.1 = true
                          · rw [if_pos hb43] at hf
                            refine r_if_t (t := 93) fe_182_84 (by decide) hb43 ?_
                            refine r_aload_n fe_182_93 rfl ?_
                            refine r_iload_n fe_182_94 rfl ?_
                            by_cases hb44 : am_if .eq z8.1 = true
                            · rw [if_pos hb44] at hf
                              refine r_if_t (t := 103) fe_182_95 (by decide) hb44 ?_
                              refine r_bipush (v := 11) fe_182_103 (by decide) ?_
                              refine r_callV (as := [.int 11]) (r := []) fe_182_105 lm_12_266 md_184 rfl rfl (Nat.le_of_ble_eq_true rfl) m_c_0 (m_lt hh (by decide)) (Nat.le_of_ble_eq_true rfl) (Nat.le_of_ble_eq_true rfl) ?_
                              cases hc46 : F184 n 11 z12.2 with
                              | none => rw [hc46] at hf; cases hf
                              | some z45 =>
                                rw [hc46, Option.bind_some] at hf
                                refine F184c (r0 := z45.1) (S0 := z45.2) hh hc46 ?_
                                refine r_aload_n fe_182_108 rfl ?_
                                refine r_dup fe_182_109 rfl ?_
                                refine mr_getf hh fe_182_110 lf_12_188 rfl ?_
                                refine r_iload_n fe_182_113 rfl ?_
                                by_cases hb47 : am_if .eq z8.1 = true
                                · rw [if_pos hb47] at hf
                                  refine r_if_t (t := 121) fe_182_114 (by decide) hb47 ?_
                                  refine r_iconst (v := 2) fe_182_121 (by decide) ?_
                                  refine r_iadd (v := ((z45.2.1 27) + 2)) fe_182_122 rfl ?_
                                  refine mr_putf hh fe_182_123 lf_12_188 (m_f_27 _ _) (by decide) rfl rfl rfl ?_
                                  refine r_iconst (v := 1) fe_182_126 (by decide) ?_
                                  refine r_istore_n fe_182_127 (Nat.le_of_ble_eq_true rfl) rfl ?_
                                  refine r_goto (t := 199) fe_182_128 (by decide) ?_
                                  refine r_goto (t := 9) fe_182_199 (by decide) ?_
                                  refine go_weak (L0 := [.ref 130, .int 1, .int l2, .float 0, .float 0]) (lwk_c (Or.inl rfl) (lwk_c (Or.inl rfl) (lwk_c (Or.inl rfl) (lwk_c (Or.inr rfl) (lwk_c (Or.inr rfl) (lwk_rf [])))))) ?_
                                  exact ih.2 1 l2 (m_sI z45.2 27 ((z45.2.1 27) + 2)) hf
                                · rw [if_neg hb47] at hf
                                  refine r_if_f (t := 121) fe_182_114 (by decide) (Bool.eq_false_iff.mpr hb47) ?_
                                  refine r_iconst (v := 3) fe_182_117 (by decide) ?_
                                  refine r_goto (t := 122) fe_182_118 (by decide) ?_
                                  refine r_iadd (v := ((z45.2.1 27) + 3)) fe_182_122 rfl ?_
                                  refine mr_putf hh fe_182_123 lf_12_188 (m_f_27 _ _) (by decide) rfl rfl rfl ?_
                                  refine r_iconst (v := 1) fe_182_126 (by decide) ?_
                                  refine r_istore_n fe_182_127 (Nat.le_of_ble_eq_true rfl) rfl ?_
                                  refine r_goto (t := 199) fe_182_128 (by decide) ?_
                                  refine r_goto (t := 9) fe_182_199 (by decide) ?_
                                  refine go_weak (L0 := [.ref 130, .int 1, .int l2, .float 0, .float 0]) (lwk_c (Or.inl rfl) (lwk_c (Or.inl rfl) (lwk_c (Or.inl rfl) (lwk_c (Or.inr rfl) (lwk_c (Or.inr rfl) (lwk_rf [])))))) ?_
                                  exact ih.2 1 l2 (m_sI z45.2 27 ((z45.2.1 27) + 3)) hf
                            · rw [if_neg hb44] at hf
                              refine r_if_f (t := 103) fe_182_95 (by decide) (Bool.eq_false_iff.mpr hb44) ?_
                              refine r_bipush (v := 10) fe_182_98 (by decide) ?_
                              refine r_goto (t := 105) fe_182_100 (by decide) ?_
                              refine r_callV (as := [.int 10]) (r := []) fe_182_105 lm_12_266 md_184 rfl rfl (Nat.le_of_ble_eq_true rfl) m_c_0 (m_lt hh (by decide)) (Nat.le_of_ble_eq_true rfl) (Nat.le_of_ble_eq_true rfl) ?_
                              cases hc49 : F184 n 10 z12.2 with
                              | none => rw [hc49] at hf; cases hf
                              | some z48 =>
                                rw [hc49, Option.bind_some] at hf
                                refine F184c (r0 := z48.1) (S0 := z48.2) hh hc49 ?_
                                refine r_aload_n fe_182_108 rfl ?_
                                refine r_dup fe_182_109 rfl ?_
                                refine mr_getf hh fe_182_110 lf_12_188 rfl ?_
                                refine r_iload_n fe_182_113 rfl ?_
                                by_cases hb50 : am_if .eq z8.1 = true
                                · rw [if_pos hb50] at hf
                                  refine r_if_t (t := 121) fe_182_114 (by decide) hb50 ?_
                                  refine r_iconst (v := 2) fe_182_121 (by decide) ?_
                                  refine r_iadd (v := ((z48.2.1 27) + 2)) fe_182_122 rfl ?_
                                  refine mr_putf hh fe_182_123 lf_12_188 (m_f_27 _ _) (by decide) rfl rfl rfl ?_
                                  refine r_iconst (v := 1) fe_182_126 (by decide) ?_
                                  refine r_istore_n fe_182_127 (Nat.le_of_ble_eq_true rfl) rfl ?_
                                  refine r_goto (t := 199) fe_182_128 (by decide) ?_
                                  refine r_goto (t := 9) fe_182_199 (by decide) ?_
                                  refine go_weak (L0 := [.ref 130, .int 1, .int l2, .float 0, .float 0]) (lwk_c (Or.inl rfl) (lwk_c (Or.inl rfl) (lwk_c (Or.inl rfl) (lwk_c (Or.inr rfl) (lwk_c (Or.inr rfl) (lwk_rf [])))))) ?_
                                  exact ih.2 1 l2 (m_sI z48.2 27 ((z48.2.1 27) + 2)) hf
                                · rw [if_neg hb50] at hf
                                  refine r_if_f (t := 121) fe_182_114 (by decide) (Bool.eq_false_iff.mpr hb50) ?_
                                  refine r_iconst (v := 3) fe_182_117 (by decide) ?_
                                  refine r_goto (t := 122) fe_182_118 (by decide) ?_
                                  refine r_iadd (v := ((z48.2.1 27) + 3)) fe_182_122 rfl ?_
                                  refine mr_putf hh fe_182_123 lf_12_188 (m_f_27 _ _) (by decide) rfl rfl rfl ?_
                                  refine r_iconst (v := 1) fe_182_126 (by decide) ?_
                                  refine r_istore_n fe_182_127 (Nat.le_of_ble_eq_true rfl) rfl ?_
                                  refine r_goto (t := 199) fe_182_128 (by decide) ?_
                                  refine r_goto (t := 9) fe_182_199 (by decide) ?_
                                  refine go_weak (L0 := [.ref 130, .int 1, .int l2, .float 0, .float 0]) (lwk_c (Or.inl rfl) (lwk_c (Or.inl rfl) (lwk_c (Or.inl rfl) (lwk_c (Or.inr rfl) (lwk_c (Or.inr rfl) (lwk_rf [])))))) ?_
                                  exact ih.2 1 l2 (m_sI z48.2 27 ((z48.2.1 27) + 3)) hf
                          · rw [if_neg hb43] at hf
                            refine r_if_f (t := 93) fe_182_84 (by decide) (Bool.eq_false_iff.mpr hb43) ?_
                            refine r_aload_n fe_182_87 rfl ?_
                            refine r_bipush (v := 11) fe_182_88 (by decide) ?_
                            refine r_callV (as := [.int 11]) (r := []) fe_182_90 lm_12_275 md_192 rfl rfl (Nat.le_of_ble_eq_true rfl) m_c_0 (m_lt hh (by decide)) (Nat.le_of_ble_eq_true rfl) (Nat.le_of_ble_eq_true rfl) ?_
                            cases hc52 : F192 n 11 z12.2 with
                            | none => rw [hc52] at hf; cases hf
                            | some z51 =>
                              rw [hc52, Option.bind_some] at hf
                              refine F192c (r0 := z51.1) (S0 := z51.2) hh hc52 ?_
                              refine r_aload_n fe_182_93 rfl ?_
                              refine r_iload_n fe_182_94 rfl ?_
                              by_cases hb53 : am_if .eq z8.1 = true
                              · rw [if_pos hb53] at hf
                                refine r_if_t (t := 103) fe_182_95 (by decide) hb53 ?_
                                refine r_bipush (v := 11) fe_182_103 (by decide) ?_
                                refine r_callV (as := [.int 11]) (r := []) fe_182_105 lm_12_266 md_184 rfl rfl (Nat.le_of_ble_eq_true rfl) m_c_0 (m_lt hh (by decide)) (Nat.le_of_ble_eq_true rfl) (Nat.le_of_ble_eq_true rfl) ?_
                                cases hc55 : F184 n 11 z51.2 with
                                | none => rw [hc55] at hf; cases hf
                                | some z54 =>
                                  rw [hc55, Option.bind_some] at hf
                                  refine F184c (r0 := z54.1) (S0 := z54.2) hh hc55 ?_
                                  refine r_aload_n fe_182_108 rfl ?_
                                  refine r_dup fe_182_109 rfl ?_
                                  refine mr_getf hh fe_182_110 lf_12_188 rfl ?_
                                  refine r_iload_n fe_182_113 rfl ?_
                                  by_cases hb56 : am_if .eq z8.1 = true
                                  · rw [if_pos hb56] at hf
                                    refine r_if_t (t := 121) fe_182_114 (by decide) hb56 ?_
                                    refine r_iconst (v := 2) fe_182_121 (by decide) ?_
                                    refine r_iadd (v := ((z54.2.1 27) + 2)) fe_182_122 rfl ?_
                                    refine mr_putf hh fe_182_123 lf_12_188 (m_f_27 _ _) (by decide) rfl rfl rfl ?_
                                    refine r_iconst (v := 1) fe_182_126 (by decide) ?_
                                    refine r_istore_n fe_182_127 (Nat.le_of_ble_eq_true rfl) rfl ?_
                                    refine r_goto (t := 199) fe_182_128 (by decide) ?_
                                    refine r_goto (t := 9) fe_182_199 (by decide) ?_
                                    refine go_weak (L0 := [.ref 130, .int 1, .int l2, .float 0, .float 0]) (lwk_c (Or.inl rfl) (lwk_c (Or.inl rfl) (lwk_c (Or.inl rfl) (lwk_c (Or.inr rfl) (lwk_c (Or.inr rfl) (lwk_rf [])))))) ?_
                                    exact ih.2 1 l2 (m_sI z54.2 27 ((z54.2.1 27) + 2)) hf
                                  · rw [if_neg hb56] at hf
                                    refine r_if_f (t := 121) fe_182_114 (by decide) (Bool.eq_false_iff.mpr hb56) ?_
                                    refine r_iconst (v := 3) fe_182_117 (by decide) ?_
                                    refine r_goto (t := 122) fe_182_118 (by decide) ?_
                                    refine r_iadd (v := ((z54.2.1 27) + 3)) fe_182_122 rfl ?_
                                    refine mr_putf hh fe_182_123 lf_12_188 (m_f_27 _ _) (by decide) rfl rfl rfl ?_
                                    refine r_iconst (v := 1) fe_182_126 (by decide) ?_
                                    refine r_istore_n fe_182_127 (Nat.le_of_ble_eq_true rfl) rfl ?_
                                    refine r_goto (t := 199) fe_182_128 (by decide) ?_
                                    refine r_goto (t := 9) fe_182_199 (by decide) ?_
                                    refine go_weak (L0 := [.ref 130, .int 1, .int l2, .float 0, .float 0]) (lwk_c (Or.inl rfl) (lwk_c (Or.inl rfl) (lwk_c (Or.inl rfl) (lwk_c (Or.inr rfl) (lwk_c (Or.inr rfl) (lwk_rf [])))))) ?_
                                    exact ih.2 1 l2 (m_sI z54.2 27 ((z54.2.1 27) + 3)) hf
                              · rw [if_neg hb53] at hf
                                refine r_if_f (t := 103) fe_182_95 (by decide) (Bool.eq_false_iff.mpr hb53) ?_
                                refine r_bipush (v := 10) fe_182_98 (by decide) ?_
                                refine r_goto (t := 105) fe_182_100 (by decide) ?_
                                refine r_callV (as := [.int 10]) (r := []) fe_182_105 lm_12_266 md_184 rfl rfl (Nat.le_of_ble_eq_true rfl) m_c_0 (m_lt hh (by decide)) (Nat.le_of_ble_eq_true rfl) (Nat.le_of_ble_eq_true rfl) ?_
                                cases hc58 : F184 n 10 z51.2 with
                                | none => rw [hc58] at hf; cases hf
                                | some z57 =>
                                  rw [hc58, Option.bind_some] at hf
                                  refine F184c (r0 := z57.1) (S0 := z57.2) hh hc58 ?_
                                  refine r_aload_n fe_182_108 rfl ?_
                                  refine r_dup fe_182_109 rfl ?_
                                  refine mr_getf hh fe_182_110 lf_12_188 rfl ?_
                                  refine r_iload_n fe_182_113 rfl ?_
                                  by_cases hb59 : am_if .eq z8.1 = true
                                  · rw [if_pos hb59] at hf
                                    refine r_if_t (t := 121) fe_182_114 (by decide) hb59 ?_
                                    refine r_iconst (v := 2) fe_182_121 (by decide) ?_
                                    refine r_iadd (v := ((z57.2.1 27) + 2)) fe_182_122 rfl ?_
                                    refine mr_putf hh fe_182_123 lf_12_188 (m_f_27 _ _) (by decide) rfl rfl rfl ?_
                                    refine r_iconst (v := 1) fe_182_126 (by decide) ?_
                                    refine r_istore_n fe_182_127 (Nat.le_of_ble_eq_true rfl) rfl ?_
                                    refine r_goto (t := 199) fe_182_128 (by decide) ?_
                                    refine r_goto (t := 9) fe_182_199 (by decide) ?_
                                    refine go_weak (L0 := [.ref 130, .int 1, .int l2, .float 0, .float 0]) (lwk_c (Or.inl rfl) (lwk_c (Or.inl rfl) (lwk_c (Or.inl rfl) (lwk_c (Or.inr rfl) (lwk_c (Or.inr rfl) (lwk_rf [])))))) ?_
                                    exact ih.2 1 l2 (m_sI z57.2 27 ((z57.2.1 27) + 2)) hf
                                  · rw [if_neg hb59] at hf
                                    refine r_if_f (t := 121) fe_182_114 (by decide) (Bool.eq_false_iff.mpr hb59) ?_
                                    refine r_iconst (v := 3) fe_182_117 (by decide) ?_
                                    refine r_goto (t := 122) fe_182_118 (by decide) ?_
                                    refine r_iadd (v := ((z57.2.1 27) + 3)) fe_182_122 rfl ?_
                                    refine mr_putf hh fe_182_123 lf_12_188 (m_f_27 _ _) (by decide) rfl rfl rfl ?_
                                    refine r_iconst (v := 1) fe_182_126 (by decide) ?_
                                    refine r_istore_n fe_182_127 (Nat.le_of_ble_eq_true rfl) rfl ?_
                                    refine r_goto (t := 199) fe_182_128 (by decide) ?_
                                    refine r_goto (t := 9) fe_182_199 (by decide) ?_
                                    refine go_weak (L0 := [.ref 130, .int 1, .int l2, .float 0, .float 0]) (lwk_c (Or.inl rfl) (lwk_c (Or.inl rfl) (lwk_c (Or.inl rfl) (lwk_c (Or.inr rfl) (lwk_c (Or.inr rfl) (lwk_rf [])))))) ?_
                                    exact ih.2 1 l2 (m_sI z57.2 27 ((z57.2.1 27) + 3)) hf
          · rw [if_neg hb3] at hf
            refine r_if_f (t := 40) fe_182_21 (by decide) (Bool.eq_false_iff.mpr hb3) ?_
            refine r_aload_n fe_182_24 rfl ?_
            refine r_callV (as := []) (r := []) fe_182_25 lm_12_272 md_183 rfl rfl (Nat.le_of_ble_eq_true rfl) m_c_0 (m_lt hh (by decide)) (Nat.le_of_ble_eq_true rfl) (Nat.le_of_ble_eq_true rfl) ?_
            cases hc61 : F183 n  S with
            | none => rw [hc61] at hf; cases hf
            | some z60 =>
              rw [hc61, Option.bind_some] at hf
              refine F183c (r0 := z60.1) (S0 := z60.2) hh hc61 ?_
              by_cases hb62 : am_if .ne z60.1 = true
              · rw [if_pos hb62] at hf
                refine r_if_t (t := 35) fe_182_28 (by decide) hb62 ?_
                refine r_iconst (v := 0) fe_182_35 (by decide) ?_
                refine r_istore_n fe_182_36 (Nat.le_of_ble_eq_true rfl) rfl ?_
                refine r_goto (t := 9) fe_182_37 (by decide) ?_
                refine go_weak (L0 := [.ref 130, .int 0, .int l2, .float 0, .float 0]) (lwk_c (Or.inl rfl) (lwk_c (Or.inl rfl) (lwk_c (Or.inl rfl) (lwk_c (Or.inl rfl) (lwk_c (Or.inl rfl) (lwk_rf [])))))) ?_
                exact ih.2 0 l2 z60.2 hf
              · rw [if_neg hb62] at hf
                refine r_if_f (t := 35) fe_182_28 (by decide) (Bool.eq_false_iff.mpr hb62) ?_
                refine r_iconst (v := 1) fe_182_31 (by decide) ?_
                refine r_goto (t := 36) fe_182_32 (by decide) ?_
                refine r_istore_n fe_182_36 (Nat.le_of_ble_eq_true rfl) rfl ?_
                refine r_goto (t := 9) fe_182_37 (by decide) ?_
                refine go_weak (L0 := [.ref 130, .int 1, .int l2, .float 0, .float 0]) (lwk_c (Or.inl rfl) (lwk_c (Or.inl rfl) (lwk_c (Or.inl rfl) (lwk_c (Or.inl rfl) (lwk_c (Or.inl rfl) (lwk_rf [])))))) ?_
                exact ih.2 1 l2 z60.2 hf
theorem F182c {xs : Nat → Int32} {L9 d n : Nat} {h : AmH} {Q : Option Value → AmH → Prop} {r0 : Unit} {S0 S : mS}  (hh : 172 ≤ h.2.1) (hf : F182 n  S = some (r0, S0)) (hQ : Q none (mst S0 h)) : Ca (am_X xs L9) (d + 10) 182 [.ref 130] (mst S h) Q := (F182l hh hQ n).1 0 0 S hf
