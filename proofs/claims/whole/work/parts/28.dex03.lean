def G82b0 (F : Nat → xS → Option (Int32 × xS)) (n : Nat)  (S : xS) : Option (Int32 × xS) := (if am_if .le (S.1 89 0) = true then some (0, S) else some (1, S))
def G82f : Nat → Nat → xS → Option (Int32 × xS)
  | 0, _, _ => none
  | n + 1, c, S => G82b0 (G82f n) n  S
theorem G82e0 (n : Nat)  (S : xS) : G82f (n + 1) 0  S = G82b0 (G82f n) n  S := rfl
def G82 (n : Nat)  (S : xS) : Option (Int32 × xS) := G82f n 0  S
set_option maxRecDepth 20000 in
set_option maxHeartbeats 4000000 in
theorem G82l {xs : Nat → Int32} {L9 d : Nat} {G : gS} {h : Nat → va_E} {Q : Option Value → AmH → Prop} {r0 : Int32} {S0 : xS} (hQ : Q (some (.int r0)) (xst S0 G h)) : ∀ n : Nat, (∀ (S : xS), G82f n 0  S = some (r0, S0) → Go (am_X xs L9) (d + 0) 82 0 [.ref 64] [] (xst S G h) Q) := by
  intro n
  induction n with
  | zero => exact fun  S hf => (by cases hf)
  | succ n ih =>
    intro  S hf
    rw [G82e0] at hf
    unfold G82b0 at hf
    refine r_aload_n fe_82_0 rfl ?_
    refine r_getf (v := .ref 88) fe_82_1 lf_11_43 (x_c xk_64 (by decide)) (x_lt xk_64 (by decide)) rfl ?_
    refine r_getf (v := .ref 89) fe_82_4 lf_11_83 (x_c xk_88 (by decide)) (x_lt xk_88 (by decide)) rfl ?_
    refine r_getf (v := .int (S.1 89 0)) fe_82_7 lf_11_257 (x_c xk_89 (by decide)) (x_lt xk_89 (by decide)) rfl ?_
    by_cases hb1 : am_if .le (S.1 89 0) = true
    · rw [if_pos hb1] at hf
      refine r_if_t (t := 17) fe_82_10 (by decide) hb1 ?_
      refine r_iconst (v := 0) fe_82_17 (by decide) ?_
      refine r_iret fe_82_18 ⟨rfl, by decide⟩ ?_
      exact dfin (P := fun r T => Q (some (.int r)) (xst T G h)) hf hQ
    · rw [if_neg hb1] at hf
      refine r_if_f (t := 17) fe_82_10 (by decide) (Bool.eq_false_iff.mpr hb1) ?_
      refine r_iconst (v := 1) fe_82_13 (by decide) ?_
      refine r_goto (t := 18) fe_82_14 (by decide) ?_
      refine r_iret fe_82_18 ⟨rfl, by decide⟩ ?_
      exact dfin (P := fun r T => Q (some (.int r)) (xst T G h)) hf hQ
theorem G82c {xs : Nat → Int32} {L9 d : Nat} {G : gS} {h : Nat → va_E} {n : Nat} {Q : Option Value → AmH → Prop} {r0 : Int32} {S0 S : xS}  (hf : G82 n  S = some (r0, S0)) (hQ : Q (some (.int r0)) (xst S0 G h)) : Ca (am_X xs L9) (d + 0) 82 [.ref 64] (xst S G h) Q := (G82l hQ n)  S hf
def G83b0 (l0 : Nat) (l1 : Nat) (F : Nat → (xS × gS) → Option (Unit × (xS × gS))) (n : Nat)  (U : (xS × gS)) : Option (Unit × (xS × gS)) := (if pB U.2 l0 = true then (if am_ic .ne (U.1.1 l0 2) 20 = true then (if ¬ ((((U.1.1 l0 1) + (U.1.1 l0 2)) - ((U.1.1 l0 1) + (U.1.1 l0 2)) / 20 * 20) < 0 ∨ 20 ≤ ((((U.1.1 l0 1) + (U.1.1 l0 2)) - ((U.1.1 l0 1) + (U.1.1 l0 2)) / 20 * 20)).toNatClampNeg) then (Option.elim (U.1.2.2.2 (l0 + 1) (Int32.toNatClampNeg (((U.1.1 l0 1) + (U.1.1 l0 2)) - ((U.1.1 l0 1) + (U.1.1 l0 2)) / 20 * 20))) ((some (x_nW U.1 U.2)).bind (fun U6 => (if pB U6.2 l0 = true then (if ¬ ((((U.1.1 l0 1) + (U.1.1 l0 2)) - ((U.1.1 l0 1) + (U.1.1 l0 2)) / 20 * 20) < 0 ∨ 20 ≤ ((((U.1.1 l0 1) + (U.1.1 l0 2)) - ((U.1.1 l0 1) + (U.1.1 l0 2)) / 20 * 20)).toNatClampNeg) then (if wB U6.2 (172 + U.2.2.1) = true then ((some (x_sQ U6.1 (l0 + 1) (Int32.toNatClampNeg (((U.1.1 l0 1) + (U.1.1 l0 2)) - ((U.1.1 l0 1) + (U.1.1 l0 2)) / 20 * 20)) (some (172 + U.2.2.1)))).bind (fun S11 => (if ¬ ((((U.1.1 l0 1) + (U.1.1 l0 2)) - ((U.1.1 l0 1) + (U.1.1 l0 2)) / 20 * 20) < 0 ∨ 20 ≤ ((((U.1.1 l0 1) + (U.1.1 l0 2)) - ((U.1.1 l0 1) + (U.1.1 l0 2)) / 20 * 20)).toNatClampNeg) then (Option.elim (S11.2.2.2 (l0 + 1) (Int32.toNatClampNeg (((U.1.1 l0 1) + (U.1.1 l0 2)) - ((U.1.1 l0 1) + (U.1.1 l0 2)) / 20 * 20))) none (fun q15 => (if wB U6.2 q15 = true then (if wB U6.2 l1 = true then ((G54 q15 l1 n  S11).bind (fun z18 => ((some (x_sI z18.2 l0 2 ((z18.2.1 l0 2) + 1))).bind (fun S20 => some ((), (S20, U6.2)))))) else none) else none))) else none))) else none) else none) else none))) (fun q5 => (if ¬ ((((U.1.1 l0 1) + (U.1.1 l0 2)) - ((U.1.1 l0 1) + (U.1.1 l0 2)) / 20 * 20) < 0 ∨ 20 ≤ ((((U.1.1 l0 1) + (U.1.1 l0 2)) - ((U.1.1 l0 1) + (U.1.1 l0 2)) / 20 * 20)).toNatClampNeg) then (if wB U.2 q5 = true then (if wB U.2 l1 = true then ((G54 q5 l1 n  U.1).bind (fun z27 => ((some (x_sI z27.2 l0 2 ((z27.2.1 l0 2) + 1))).bind (fun S29 => some ((), (S29, U.2)))))) else none) else none) else none))) else none) else ((some (x_sI U.1 l0 1 (((U.1.1 l0 1) + 1) - ((U.1.1 l0 1) + 1) / 20 * 20))).bind (fun S31 => ((some (x_sI S31 l0 2 ((S31.1 l0 2) - 1))).bind (fun S33 => (if ¬ ((((S33.1 l0 1) + (S33.1 l0 2)) - ((S33.1 l0 1) + (S33.1 l0 2)) / 20 * 20) < 0 ∨ 20 ≤ ((((S33.1 l0 1) + (S33.1 l0 2)) - ((S33.1 l0 1) + (S33.1 l0 2)) / 20 * 20)).toNatClampNeg) then (Option.elim (S33.2.2.2 (l0 + 1) (Int32.toNatClampNeg (((S33.1 l0 1) + (S33.1 l0 2)) - ((S33.1 l0 1) + (S33.1 l0 2)) / 20 * 20))) ((some (x_nW S33 U.2)).bind (fun U38 => (if pB U38.2 l0 = true then (if ¬ ((((S33.1 l0 1) + (S33.1 l0 2)) - ((S33.1 l0 1) + (S33.1 l0 2)) / 20 * 20) < 0 ∨ 20 ≤ ((((S33.1 l0 1) + (S33.1 l0 2)) - ((S33.1 l0 1) + (S33.1 l0 2)) / 20 * 20)).toNatClampNeg) then (if wB U38.2 (172 + U.2.2.1) = true then ((some (x_sQ U38.1 (l0 + 1) (Int32.toNatClampNeg (((S33.1 l0 1) + (S33.1 l0 2)) - ((S33.1 l0 1) + (S33.1 l0 2)) / 20 * 20)) (some (172 + U.2.2.1)))).bind (fun S43 => (if ¬ ((((S33.1 l0 1) + (S33.1 l0 2)) - ((S33.1 l0 1) + (S33.1 l0 2)) / 20 * 20) < 0 ∨ 20 ≤ ((((S33.1 l0 1) + (S33.1 l0 2)) - ((S33.1 l0 1) + (S33.1 l0 2)) / 20 * 20)).toNatClampNeg) then (Option.elim (S43.2.2.2 (l0 + 1) (Int32.toNatClampNeg (((S33.1 l0 1) + (S33.1 l0 2)) - ((S33.1 l0 1) + (S33.1 l0 2)) / 20 * 20))) none (fun q47 => (if wB U38.2 q47 = true then (if wB U38.2 l1 = true then ((G54 q47 l1 n  S43).bind (fun z50 => ((some (x_sI z50.2 l0 2 ((z50.2.1 l0 2) + 1))).bind (fun S52 => some ((), (S52, U38.2)))))) else none) else none))) else none))) else none) else none) else none))) (fun q37 => (if ¬ ((((S33.1 l0 1) + (S33.1 l0 2)) - ((S33.1 l0 1) + (S33.1 l0 2)) / 20 * 20) < 0 ∨ 20 ≤ ((((S33.1 l0 1) + (S33.1 l0 2)) - ((S33.1 l0 1) + (S33.1 l0 2)) / 20 * 20)).toNatClampNeg) then (if wB U.2 q37 = true then (if wB U.2 l1 = true then ((G54 q37 l1 n  S33).bind (fun z59 => ((some (x_sI z59.2 l0 2 ((z59.2.1 l0 2) + 1))).bind (fun S61 => some ((), (S61, U.2)))))) else none) else none) else none))) else none)))))) else none)
def G83f (l0 : Nat) (l1 : Nat) : Nat → Nat → (xS × gS) → Option (Unit × (xS × gS))
  | 0, _, _ => none
  | n + 1, c, U => G83b0 l0 l1 (G83f l0 l1 n) n  U
theorem G83e0 (l0 : Nat) (l1 : Nat) (n : Nat)  (U : (xS × gS)) : G83f l0 l1 (n + 1) 0  U = G83b0 l0 l1 (G83f l0 l1 n) n  U := rfl
def G83 (l0 : Nat) (l1 : Nat) (n : Nat)  (U : (xS × gS)) : Option (Unit × (xS × gS)) := G83f l0 l1 n 0  U
set_option maxRecDepth 20000 in
set_option maxHeartbeats 4000000 in
theorem G83l {xs : Nat → Int32} {L9 d : Nat} {h : Nat → va_E} {l0 : Nat} {l1 : Nat} {Q : Option Value → AmH → Prop} {r0 : Unit} {U0 : (xS × gS)} (hQ : Q none (xst U0.1 U0.2 h)) : ∀ n : Nat, (∀ (U : (xS × gS)), G83f l0 l1 n 0  U = some (r0, U0) → Go (am_X xs L9) (d + 1) 83 0 [.ref l0, .ref l1, .float 0] [] (xst U.1 U.2 h) Q) := by
  intro n
  induction n with
  | zero => exact fun  U hf => (by cases hf)
  | succ n ih =>
    intro  U hf
    rw [G83e0] at hf
    unfold G83b0 at hf
    refine r_aload_n fe_83_0 rfl ?_
    by_cases hb1 : pB U.2 l0 = true
    rotate_left
    · rw [if_neg hb1] at hf; cases hf
    rw [if_pos hb1] at hf
    refine r_getf (v := .int (U.1.1 l0 2)) fe_83_1 lf_4_21 (x_c (pk0 hb1) (by decide)) (x_lt (pk0 hb1) (by decide)) rfl ?_
    refine r_bipush (v := 20) fe_83_4 (by decide) ?_
    by_cases hb2 : am_ic .ne (U.1.1 l0 2) 20 = true
    · rw [if_pos hb2] at hf
      refine r_ic_t (t := 32) fe_83_6 (by decide) hb2 ?_
      refine r_aload_n fe_83_32 rfl ?_
      refine r_getf (v := .int (U.1.1 l0 1)) fe_83_33 lf_4_17 (x_c (pk0 hb1) (by decide)) (x_lt (pk0 hb1) (by decide)) rfl ?_
      refine r_aload_n fe_83_36 rfl ?_
      refine r_getf (v := .int (U.1.1 l0 2)) fe_83_37 lf_4_21 (x_c (pk0 hb1) (by decide)) (x_lt (pk0 hb1) (by decide)) rfl ?_
      refine r_iadd (v := ((U.1.1 l0 1) + (U.1.1 l0 2))) fe_83_40 rfl ?_
      refine r_bipush (v := 20) fe_83_41 (by decide) ?_
      refine r_irem (v := (((U.1.1 l0 1) + (U.1.1 l0 2)) - ((U.1.1 l0 1) + (U.1.1 l0 2)) / 20 * 20)) fe_83_43 (by decide) rfl ?_
      refine r_istore_n fe_83_44 (Nat.le_of_ble_eq_true rfl) rfl ?_
      refine r_aload_n fe_83_45 rfl ?_
      refine r_getf (v := .ref (l0 + 1)) fe_83_46 lf_4_11 (x_c (pk0 hb1) (by decide)) (x_lt (pk0 hb1) (by decide)) rfl ?_
      refine r_iload_n fe_83_49 rfl ?_
      by_cases hg3 : ¬ ((((U.1.1 l0 1) + (U.1.1 l0 2)) - ((U.1.1 l0 1) + (U.1.1 l0 2)) / 20 * 20) < 0 ∨ 20 ≤ ((((U.1.1 l0 1) + (U.1.1 l0 2)) - ((U.1.1 l0 1) + (U.1.1 l0 2)) / 20 * 20)).toNatClampNeg)
      rotate_left
      · rw [if_neg hg3] at hf; cases hf
      rw [if_pos hg3] at hf
      cases hm4 : U.1.2.2.2 (l0 + 1) (Int32.toNatClampNeg (((U.1.1 l0 1) + (U.1.1 l0 2)) - ((U.1.1 l0 1) + (U.1.1 l0 2)) / 20 * 20)) with
      | none =>
        rw [hm4, Option.elim_none] at hf
        refine r_aald (j := (Int32.toNatClampNeg (((U.1.1 l0 1) + (U.1.1 l0 2)) - ((U.1.1 l0 1) + (U.1.1 l0 2)) / 20 * 20))) (v := .null) fe_83_50 (x_c (pk1 hb1) (by decide)) (x_lt (pk1 hb1) (by decide)) (x_k6 (pk1 hb1) (by decide)) (by decide) (fun z => hg3 (Or.inl z)) rfl (fun z => hg3 (Or.inr z)) (by rw [hm4]; rfl) ?_
        refine r_ifnonnullN fe_83_51 ?_
        refine r_aload_n fe_83_54 rfl ?_
        refine r_getf (v := .ref (l0 + 1)) fe_83_55 lf_4_11 (x_c (pk0 hb1) (by decide)) (x_lt (pk0 hb1) (by decide)) rfl ?_
        refine r_iload_n fe_83_58 rfl ?_
        refine r_newW fe_83_59 fe_83_62 fe_83_63 lct_4_9 lm_4_24 (Nat.le_of_ble_eq_true rfl) ?_
        obtain ⟨U6, e7, hf⟩ := dbnd hf
        refine go_heap (h2 := xst U6.1 U6.2 h) (by rw [e7]) ?_
        by_cases hb8 : pB U6.2 l0 = true
        rotate_left
        · rw [if_neg hb8] at hf; cases hf
        rw [if_pos hb8] at hf
        by_cases hg9 : ¬ ((((U.1.1 l0 1) + (U.1.1 l0 2)) - ((U.1.1 l0 1) + (U.1.1 l0 2)) / 20 * 20) < 0 ∨ 20 ≤ ((((U.1.1 l0 1) + (U.1.1 l0 2)) - ((U.1.1 l0 1) + (U.1.1 l0 2)) / 20 * 20)).toNatClampNeg)
        rotate_left
        · rw [if_neg hg9] at hf; cases hf
        rw [if_pos hg9] at hf
        by_cases hb10 : wB U6.2 (172 + U.2.2.1) = true
        rotate_left
        · rw [if_neg hb10] at hf; cases hf
        rw [if_pos hb10] at hf
        refine r_aast (j := (Int32.toNatClampNeg (((U.1.1 l0 1) + (U.1.1 l0 2)) - ((U.1.1 l0 1) + (U.1.1 l0 2)) / 20 * 20))) fe_83_66 (x_h (pk1 hb8) (by decide)) (x_h (wk0 hb10) (by decide)) (x_lt (pk1 hb8) (by decide)) (x_k6 (pk1 hb8) (by decide)) (x_lt (wk0 hb10) (by decide)) (x_k6 (wk0 hb10) (by decide)) (by decide) (fun z => hg9 (Or.inl z)) rfl (fun z => hg9 (Or.inr z)) ?_
        obtain ⟨S11, e12, hf⟩ := dbnd hf
        refine go_heap (h2 := xst S11 U6.2 h) ((x_uQ (j := (Int32.toNatClampNeg (((U.1.1 l0 1) + (U.1.1 l0 2)) - ((U.1.1 l0 1) + (U.1.1 l0 2)) / 20 * 20))) (v := some (172 + U.2.2.1)) (pk1 hb8) (by decide)).trans (by rw [e12])) ?_
        refine r_aload_n fe_83_67 rfl ?_
        refine r_getf (v := .ref (l0 + 1)) fe_83_68 lf_4_11 (x_c (pk0 hb8) (by decide)) (x_lt (pk0 hb8) (by decide)) rfl ?_
        refine r_iload_n fe_83_71 rfl ?_
        by_cases hg13 : ¬ ((((U.1.1 l0 1) + (U.1.1 l0 2)) - ((U.1.1 l0 1) + (U.1.1 l0 2)) / 20 * 20) < 0 ∨ 20 ≤ ((((U.1.1 l0 1) + (U.1.1 l0 2)) - ((U.1.1 l0 1) + (U.1.1 l0 2)) / 20 * 20)).toNatClampNeg)
        rotate_left
        · rw [if_neg hg13] at hf; cases hf
        rw [if_pos hg13] at hf
        cases hm14 : S11.2.2.2 (l0 + 1) (Int32.toNatClampNeg (((U.1.1 l0 1) + (U.1.1 l0 2)) - ((U.1.1 l0 1) + (U.1.1 l0 2)) / 20 * 20)) with
        | none =>
          rw [hm14, Option.elim_none] at hf
          refine r_aald (j := (Int32.toNatClampNeg (((U.1.1 l0 1) + (U.1.1 l0 2)) - ((U.1.1 l0 1) + (U.1.1 l0 2)) / 20 * 20))) (v := .null) fe_83_72 (x_c (pk1 hb8) (by decide)) (x_lt (pk1 hb8) (by decide)) (x_k6 (pk1 hb8) (by decide)) (by decide) (fun z => hg13 (Or.inl z)) rfl (fun z => hg13 (Or.inr z)) (by rw [hm14]; rfl) ?_
          refine r_aload_n fe_83_73 rfl ?_
          cases hf
        | some q15 =>
          rw [hm14, Option.elim_some] at hf
          refine r_aald (j := (Int32.toNatClampNeg (((U.1.1 l0 1) + (U.1.1 l0 2)) - ((U.1.1 l0 1) + (U.1.1 l0 2)) / 20 * 20))) (v := .ref q15) fe_83_72 (x_c (pk1 hb8) (by decide)) (x_lt (pk1 hb8) (by decide)) (x_k6 (pk1 hb8) (by decide)) (by decide) (fun z => hg13 (Or.inl z)) rfl (fun z => hg13 (Or.inr z)) (by rw [hm14]; rfl) ?_
          refine r_aload_n fe_83_73 rfl ?_
          by_cases hb16 : wB U6.2 q15 = true
          rotate_left
          · rw [if_neg hb16] at hf; cases hf
          rw [if_pos hb16] at hf
          by_cases hb17 : wB U6.2 l1 = true
          rotate_left
          · rw [if_neg hb17] at hf; cases hf
          rw [if_pos hb17] at hf
          refine r_callV (as := [.ref l1]) (r := []) fe_83_74 lm_4_25 md_54 rfl rfl (Nat.le_of_ble_eq_true rfl) (x_c (wk0 hb16) (by decide)) (x_lt (wk0 hb16) (by decide)) (Nat.le_of_ble_eq_true rfl) (Nat.le_of_ble_eq_true rfl) ?_
          cases hc19 : G54 q15 l1 n  S11 with
          | none => rw [hc19] at hf; cases hf
          | some z18 =>
            rw [hc19, Option.bind_some] at hf
            refine G54c (r0 := z18.1) (S0 := z18.2) (h0 := hb16) (h1 := hb17) (hf := hc19) ?_
            refine r_aload_n fe_83_77 rfl ?_
            refine r_dup fe_83_78 rfl ?_
            refine r_getf (v := .int (z18.2.1 l0 2)) fe_83_79 lf_4_21 (x_c (pk0 hb8) (by decide)) (x_lt (pk0 hb8) (by decide)) rfl ?_
            refine r_iconst (v := 1) fe_83_82 (by decide) ?_
            refine r_iadd (v := ((z18.2.1 l0 2) + 1)) fe_83_83 rfl ?_
            refine r_putf fe_83_84 lf_4_21 (x_h (pk0 hb8) (by decide)) (x_lt (pk0 hb8) (by decide)) (x_k6 (pk0 hb8) (by decide)) (Nat.le_of_ble_eq_true rfl) rfl rfl (Or.inl rfl) ?_
            obtain ⟨S20, e21, hf⟩ := dbnd hf
            refine go_heap (h2 := xst S20 U6.2 h) ((x_uI (j := 2) (x := ((z18.2.1 l0 2) + 1)) (pk0 hb8) (by decide)).trans (by rw [e21])) ?_
            refine r_vret fe_83_87 ?_
            exact dfin (P := fun _ T => Q none (xst T.1 T.2 h)) hf hQ
      | some q5 =>
        rw [hm4, Option.elim_some] at hf
        refine r_aald (j := (Int32.toNatClampNeg (((U.1.1 l0 1) + (U.1.1 l0 2)) - ((U.1.1 l0 1) + (U.1.1 l0 2)) / 20 * 20))) (v := .ref q5) fe_83_50 (x_c (pk1 hb1) (by decide)) (x_lt (pk1 hb1) (by decide)) (x_k6 (pk1 hb1) (by decide)) (by decide) (fun z => hg3 (Or.inl z)) rfl (fun z => hg3 (Or.inr z)) (by rw [hm4]; rfl) ?_
        refine r_ifnonnull (t := 67) fe_83_51 (by decide) ?_
        refine r_aload_n fe_83_67 rfl ?_
        refine r_getf (v := .ref (l0 + 1)) fe_83_68 lf_4_11 (x_c (pk0 hb1) (by decide)) (x_lt (pk0 hb1) (by decide)) rfl ?_
        refine r_iload_n fe_83_71 rfl ?_
        by_cases hg22 : ¬ ((((U.1.1 l0 1) + (U.1.1 l0 2)) - ((U.1.1 l0 1) + (U.1.1 l0 2)) / 20 * 20) < 0 ∨ 20 ≤ ((((U.1.1 l0 1) + (U.1.1 l0 2)) - ((U.1.1 l0 1) + (U.1.1 l0 2)) / 20 * 20)).toNatClampNeg)
        rotate_left
        · rw [if_neg hg22] at hf; cases hf
        rw [if_pos hg22] at hf
        refine r_aald (j := (Int32.toNatClampNeg (((U.1.1 l0 1) + (U.1.1 l0 2)) - ((U.1.1 l0 1) + (U.1.1 l0 2)) / 20 * 20))) (v := .ref q5) fe_83_72 (x_c (pk1 hb1) (by decide)) (x_lt (pk1 hb1) (by decide)) (x_k6 (pk1 hb1) (by decide)) (by decide) (fun z => hg22 (Or.inl z)) rfl (fun z => hg22 (Or.inr z)) (by rw [hm4]; rfl) ?_
        refine r_aload_n fe_83_73 rfl ?_
        by_cases hb25 : wB U.2 q5 = true
        rotate_left
        · rw [if_neg hb25] at hf; cases hf
        rw [if_pos hb25] at hf
        by_cases hb26 : wB U.2 l1 = true
        rotate_left
        · rw [if_neg hb26] at hf; cases hf
        rw [if_pos hb26] at hf
        refine r_callV (as := [.ref l1]) (r := []) fe_83_74 lm_4_25 md_54 rfl rfl (Nat.le_of_ble_eq_true rfl) (x_c (wk0 hb25) (by decide)) (x_lt (wk0 hb25) (by decide)) (Nat.le_of_ble_eq_true rfl) (Nat.le_of_ble_eq_true rfl) ?_
        cases hc28 : G54 q5 l1 n  U.1 with
        | none => rw [hc28] at hf; cases hf
        | some z27 =>
          rw [hc28, Option.bind_some] at hf
          refine G54c (r0 := z27.1) (S0 := z27.2) (h0 := hb25) (h1 := hb26) (hf := hc28) ?_
          refine r_aload_n fe_83_77 rfl ?_
          refine r_dup fe_83_78 rfl ?_
          refine r_getf (v := .int (z27.2.1 l0 2)) fe_83_79 lf_4_21 (x_c (pk0 hb1) (by decide)) (x_lt (pk0 hb1) (by decide)) rfl ?_
          refine r_iconst (v := 1) fe_83_82 (by decide) ?_
          refine r_iadd (v := ((z27.2.1 l0 2) + 1)) fe_83_83 rfl ?_
          refine r_putf fe_83_84 lf_4_21 (x_h (pk0 hb1) (by decide)) (x_lt (pk0 hb1) (by decide)) (x_k6 (pk0 hb1) (by decide)) (Nat.le_of_ble_eq_true rfl) rfl rfl (Or.inl rfl) ?_
          obtain ⟨S29, e30, hf⟩ := dbnd hf
          refine go_heap (h2 := xst S29 U.2 h) ((x_uI (j := 2) (x := ((z27.2.1 l0 2) + 1)) (pk0 hb1) (by decide)).trans (by rw [e30])) ?_
          refine r_vret fe_83_87 ?_
          exact dfin (P := fun _ T => Q none (xst T.1 T.2 h)) hf hQ
    · rw [if_neg hb2] at hf
      refine r_ic_f (t := 32) fe_83_6 (by decide) (Bool.eq_false_iff.mpr hb2) ?_
      refine r_aload_n fe_83_9 rfl ?_
      refine r_aload_n fe_83_10 rfl ?_
      refine r_getf (v := .int (U.1.1 l0 1)) fe_83_11 lf_4_17 (x_c (pk0 hb1) (by decide)) (x_lt (pk0 hb1) (by decide)) rfl ?_
      refine r_iconst (v := 1) fe_83_14 (by decide) ?_
      refine r_iadd (v := ((U.1.1 l0 1) + 1)) fe_83_15 rfl ?_
      refine r_bipush (v := 20) fe_83_16 (by decide) ?_
      refine r_irem (v := (((U.1.1 l0 1) + 1) - ((U.1.1 l0 1) + 1) / 20 * 20)) fe_83_18 (by decide) rfl ?_
      refine r_putf fe_83_19 lf_4_17 (x_h (pk0 hb1) (by decide)) (x_lt (pk0 hb1) (by decide)) (x_k6 (pk0 hb1) (by decide)) (Nat.le_of_ble_eq_true rfl) rfl rfl (Or.inl rfl) ?_
      obtain ⟨S31, e32, hf⟩ := dbnd hf
      refine go_heap (h2 := xst S31 U.2 h) ((x_uI (j := 1) (x := (((U.1.1 l0 1) + 1) - ((U.1.1 l0 1) + 1) / 20 * 20)) (pk0 hb1) (by decide)).trans (by rw [e32])) ?_
      refine r_aload_n fe_83_22 rfl ?_
      refine r_dup fe_83_23 rfl ?_
      refine r_getf (v := .int (S31.1 l0 2)) fe_83_24 lf_4_21 (x_c (pk0 hb1) (by decide)) (x_lt (pk0 hb1) (by decide)) rfl ?_
      refine r_iconst (v := 1) fe_83_27 (by decide) ?_
      refine r_isub (v := ((S31.1 l0 2) - 1)) fe_83_28 rfl ?_
      refine r_putf fe_83_29 lf_4_21 (x_h (pk0 hb1) (by decide)) (x_lt (pk0 hb1) (by decide)) (x_k6 (pk0 hb1) (by decide)) (Nat.le_of_ble_eq_true rfl) rfl rfl (Or.inl rfl) ?_
      obtain ⟨S33, e34, hf⟩ := dbnd hf
      refine go_heap (h2 := xst S33 U.2 h) ((x_uI (j := 2) (x := ((S31.1 l0 2) - 1)) (pk0 hb1) (by decide)).trans (by rw [e34])) ?_
      refine r_aload_n fe_83_32 rfl ?_
      refine r_getf (v := .int (S33.1 l0 1)) fe_83_33 lf_4_17 (x_c (pk0 hb1) (by decide)) (x_lt (pk0 hb1) (by decide)) rfl ?_
      refine r_aload_n fe_83_36 rfl ?_
      refine r_getf (v := .int (S33.1 l0 2)) fe_83_37 lf_4_21 (x_c (pk0 hb1) (by decide)) (x_lt (pk0 hb1) (by decide)) rfl ?_
      refine r_iadd (v := ((S33.1 l0 1) + (S33.1 l0 2))) fe_83_40 rfl ?_
      refine r_bipush (v := 20) fe_83_41 (by decide) ?_
      refine r_irem (v := (((S33.1 l0 1) + (S33.1 l0 2)) - ((S33.1 l0 1) + (S33.1 l0 2)) / 20 * 20)) fe_83_43 (by decide) rfl ?_
      refine r_istore_n fe_83_44 (Nat.le_of_ble_eq_true rfl) rfl ?_
      refine r_aload_n fe_83_45 rfl ?_
      refine r_getf (v := .ref (l0 + 1)) fe_83_46 lf_4_11 (x_c (pk0 hb1) (by decide)) (x_lt (pk0 hb1) (by decide)) rfl ?_
      refine r_iload_n fe_83_49 rfl ?_
      by_cases hg35 : ¬ ((((S33.1 l0 1) + (S33.1 l0 2)) - ((S33.1 l0 1) + (S33.1 l0 2)) / 20 * 20) < 0 ∨ 20 ≤ ((((S33.1 l0 1) + (S33.1 l0 2)) - ((S33.1 l0 1) + (S33.1 l0 2)) / 20 * 20)).toNatClampNeg)
      rotate_left
      · rw [if_neg hg35] at hf; cases hf
      rw [if_pos hg35] at hf
      cases hm36 : S33.2.2.2 (l0 + 1) (Int32.toNatClampNeg (((S33.1 l0 1) + (S33.1 l0 2)) - ((S33.1 l0 1) + (S33.1 l0 2)) / 20 * 20)) with
      | none =>
        rw [hm36, Option.elim_none] at hf
        refine r_aald (j := (Int32.toNatClampNeg (((S33.1 l0 1) + (S33.1 l0 2)) - ((S33.1 l0 1) + (S33.1 l0 2)) / 20 * 20))) (v := .null) fe_83_50 (x_c (pk1 hb1) (by decide)) (x_lt (pk1 hb1) (by decide)) (x_k6 (pk1 hb1) (by decide)) (by decide) (fun z => hg35 (Or.inl z)) rfl (fun z => hg35 (Or.inr z)) (by rw [hm36]; rfl) ?_
        refine r_ifnonnullN fe_83_51 ?_
        refine r_aload_n fe_83_54 rfl ?_
        refine r_getf (v := .ref (l0 + 1)) fe_83_55 lf_4_11 (x_c (pk0 hb1) (by decide)) (x_lt (pk0 hb1) (by decide)) rfl ?_
        refine r_iload_n fe_83_58 rfl ?_
        refine r_newW fe_83_59 fe_83_62 fe_83_63 lct_4_9 lm_4_24 (Nat.le_of_ble_eq_true rfl) ?_
        obtain ⟨U38, e39, hf⟩ := dbnd hf
        refine go_heap (h2 := xst U38.1 U38.2 h) (by rw [e39]) ?_
        by_cases hb40 : pB U38.2 l0 = true
        rotate_left
        · rw [if_neg hb40] at hf; cases hf
        rw [if_pos hb40] at hf
        by_cases hg41 : ¬ ((((S33.1 l0 1) + (S33.1 l0 2)) - ((S33.1 l0 1) + (S33.1 l0 2)) / 20 * 20) < 0 ∨ 20 ≤ ((((S33.1 l0 1) + (S33.1 l0 2)) - ((S33.1 l0 1) + (S33.1 l0 2)) / 20 * 20)).toNatClampNeg)
        rotate_left
        · rw [if_neg hg41] at hf; cases hf
        rw [if_pos hg41] at hf
        by_cases hb42 : wB U38.2 (172 + U.2.2.1) = true
        rotate_left
        · rw [if_neg hb42] at hf; cases hf
        rw [if_pos hb42] at hf
        refine r_aast (j := (Int32.toNatClampNeg (((S33.1 l0 1) + (S33.1 l0 2)) - ((S33.1 l0 1) + (S33.1 l0 2)) / 20 * 20))) fe_83_66 (x_h (pk1 hb40) (by decide)) (x_h (wk0 hb42) (by decide)) (x_lt (pk1 hb40) (by decide)) (x_k6 (pk1 hb40) (by decide)) (x_lt (wk0 hb42) (by decide)) (x_k6 (wk0 hb42) (by decide)) (by decide) (fun z => hg41 (Or.inl z)) rfl (fun z => hg41 (Or.inr z)) ?_
        obtain ⟨S43, e44, hf⟩ := dbnd hf
        refine go_heap (h2 := xst S43 U38.2 h) ((x_uQ (j := (Int32.toNatClampNeg (((S33.1 l0 1) + (S33.1 l0 2)) - ((S33.1 l0 1) + (S33.1 l0 2)) / 20 * 20))) (v := some (172 + U.2.2.1)) (pk1 hb40) (by decide)).trans (by rw [e44])) ?_
        refine r_aload_n fe_83_67 rfl ?_
        refine r_getf (v := .ref (l0 + 1)) fe_83_68 lf_4_11 (x_c (pk0 hb40) (by decide)) (x_lt (pk0 hb40) (by decide)) rfl ?_
        refine r_iload_n fe_83_71 rfl ?_
        by_cases hg45 : ¬ ((((S33.1 l0 1) + (S33.1 l0 2)) - ((S33.1 l0 1) + (S33.1 l0 2)) / 20 * 20) < 0 ∨ 20 ≤ ((((S33.1 l0 1) + (S33.1 l0 2)) - ((S33.1 l0 1) + (S33.1 l0 2)) / 20 * 20)).toNatClampNeg)
        rotate_left
        · rw [if_neg hg45] at hf; cases hf
        rw [if_pos hg45] at hf
        cases hm46 : S43.2.2.2 (l0 + 1) (Int32.toNatClampNeg (((S33.1 l0 1) + (S33.1 l0 2)) - ((S33.1 l0 1) + (S33.1 l0 2)) / 20 * 20)) with
        | none =>
          rw [hm46, Option.elim_none] at hf
          refine r_aald (j := (Int32.toNatClampNeg (((S33.1 l0 1) + (S33.1 l0 2)) - ((S33.1 l0 1) + (S33.1 l0 2)) / 20 * 20))) (v := .null) fe_83_72 (x_c (pk1 hb40) (by decide)) (x_lt (pk1 hb40) (by decide)) (x_k6 (pk1 hb40) (by decide)) (by decide) (fun z => hg45 (Or.inl z)) rfl (fun z => hg45 (Or.inr z)) (by rw [hm46]; rfl) ?_
          refine r_aload_n fe_83_73 rfl ?_
          cases hf
        | some q47 =>
          rw [hm46, Option.elim_some] at hf
          refine r_aald (j := (Int32.toNatClampNeg (((S33.1 l0 1) + (S33.1 l0 2)) - ((S33.1 l0 1) + (S33.1 l0 2)) / 20 * 20))) (v := .ref q47) fe_83_72 (x_c (pk1 hb40) (by decide)) (x_lt (pk1 hb40) (by decide)) (x_k6 (pk1 hb40) (by decide)) (by decide) (fun z => hg45 (Or.inl z)) rfl (fun z => hg45 (Or.inr z)) (by rw [hm46]; rfl) ?_
          refine r_aload_n fe_83_73 rfl ?_
          by_cases hb48 : wB U38.2 q47 = true
          rotate_left
          · rw [if_neg hb48] at hf; cases hf
          rw [if_pos hb48] at hf
          by_cases hb49 : wB U38.2 l1 = true
          rotate_left
          · rw [if_neg hb49] at hf; cases hf
          rw [if_pos hb49] at hf
          refine r_callV (as := [.ref l1]) (r := []) fe_83_74 lm_4_25 md_54 rfl rfl (Nat.le_of_ble_eq_true rfl) (x_c (wk0 hb48) (by decide)) (x_lt (wk0 hb48) (by decide)) (Nat.le_of_ble_eq_true rfl) (Nat.le_of_ble_eq_true rfl) ?_
          cases hc51 : G54 q47 l1 n  S43 with
          | none => rw [hc51] at hf; cases hf
          | some z50 =>
            rw [hc51, Option.bind_some] at hf
            refine G54c (r0 := z50.1) (S0 := z50.2) (h0 := hb48) (h1 := hb49) (hf := hc51) ?_
            refine r_aload_n fe_83_77 rfl ?_
            refine r_dup fe_83_78 rfl ?_
            refine r_getf (v := .int (z50.2.1 l0 2)) fe_83_79 lf_4_21 (x_c (pk0 hb40) (by decide)) (x_lt (pk0 hb40) (by decide)) rfl ?_
            refine r_iconst (v := 1) fe_83_82 (by decide) ?_
            refine r_iadd (v := ((z50.2.1 l0 2) + 1)) fe_83_83 rfl ?_
            refine r_putf fe_83_84 lf_4_21 (x_h (pk0 hb40) (by decide)) (x_lt (pk0 hb40) (by decide)) (x_k6 (pk0 hb40) (by decide)) (Nat.le_of_ble_eq_true rfl) rfl rfl (Or.inl rfl) ?_
            obtain ⟨S52, e53, hf⟩ := dbnd hf
            refine go_heap (h2 := xst S52 U38.2 h) ((x_uI (j := 2) (x := ((z50.2.1 l0 2) + 1)) (pk0 hb40) (by decide)).trans (by rw [e53])) ?_
            refine r_vret fe_83_87 ?_
            exact dfin (P := fun _ T => Q none (xst T.1 T.2 h)) hf hQ
      | some q37 =>
        rw [hm36, Option.elim_some] at hf
        refine r_aald (j := (Int32.toNatClampNeg (((S33.1 l0 1) + (S33.1 l0 2)) - ((S33.1 l0 1) + (S33.1 l0 2)) / 20 * 20))) (v := .ref q37) fe_83_50 (x_c (pk1 hb1) (by decide)) (x_lt (pk1 hb1) (by decide)) (x_k6 (pk1 hb1) (by decide)) (by decide) (fun z => hg35 (Or.inl z)) rfl (fun z => hg35 (Or.inr z)) (by rw [hm36]; rfl) ?_
        refine r_ifnonnull (t := 67) fe_83_51 (by decide) ?_
        refine r_aload_n fe_83_67 rfl ?_
        refine r_getf (v := .ref (l0 + 1)) fe_83_68 lf_4_11 (x_c (pk0 hb1) (by decide)) (x_lt (pk0 hb1) (by decide)) rfl ?_
        refine r_iload_n fe_83_71 rfl ?_
        by_cases hg54 : ¬ ((((S33.1 l0 1) + (S33.1 l0 2)) - ((S33.1 l0 1) + (S33.1 l0 2)) / 20 * 20) < 0 ∨ 20 ≤ ((((S33.1 l0 1) + (S33.1 l0 2)) - ((S33.1 l0 1) + (S33.1 l0 2)) / 20 * 20)).toNatClampNeg)
        rotate_left
        · rw [if_neg hg54] at hf; cases hf
        rw [if_pos hg54] at hf
        refine r_aald (j := (Int32.toNatClampNeg (((S33.1 l0 1) + (S33.1 l0 2)) - ((S33.1 l0 1) + (S33.1 l0 2)) / 20 * 20))) (v := .ref q37) fe_83_72 (x_c (pk1 hb1) (by decide)) (x_lt (pk1 hb1) (by decide)) (x_k6 (pk1 hb1) (by decide)) (by decide) (fun z => hg54 (Or.inl z)) rfl (fun z => hg54 (Or.inr z)) (by rw [hm36]; rfl) ?_
        refine r_aload_n fe_83_73 rfl ?_
        by_cases hb57 : wB U.2 q37 = true
        rotate_left
        · rw [if_neg hb57] at hf; cases hf
        rw [if_pos hb57] at hf
        by_cases hb58 : wB U.2 l1 = true
        rotate_left
        · rw [if_neg hb58] at hf; cases hf
        rw [if_pos hb58] at hf
        refine r_callV (as := [.ref l1]) (r := []) fe_83_74 lm_4_25 md_54 rfl rfl (Nat.le_of_ble_eq_true rfl) (x_c (wk0 hb57) (by decide)) (x_lt (wk0 hb57) (by decide)) (Nat.le_of_ble_eq_true rfl) (Nat.le_of_ble_eq_true rfl) ?_
        cases hc60 : G54 q37 l1 n  S33 with
        | none => rw [hc60] at hf; cases hf
        | some z59 =>
          rw [hc60, Option.bind_some] at hf
          refine G54c (r0 := z59.1) (S0 := z59.2) (h0 := hb57) (h1 := hb58) (hf := hc60) ?_
          refine r_aload_n fe_83_77 rfl ?_
          refine r_dup fe_83_78 rfl ?_
          refine r_getf (v := .int (z59.2.1 l0 2)) fe_83_79 lf_4_21 (x_c (pk0 hb1) (by decide)) (x_lt (pk0 hb1) (by decide)) rfl ?_
          refine r_iconst (v := 1) fe_83_82 (by decide) ?_
          refine r_iadd (v := ((z59.2.1 l0 2) + 1)) fe_83_83 rfl ?_
          refine r_putf fe_83_84 lf_4_21 (x_h (pk0 hb1) (by decide)) (x_lt (pk0 hb1) (by decide)) (x_k6 (pk0 hb1) (by decide)) (Nat.le_of_ble_eq_true rfl) rfl rfl (Or.inl rfl) ?_
          obtain ⟨S61, e62, hf⟩ := dbnd hf
          refine go_heap (h2 := xst S61 U.2 h) ((x_uI (j := 2) (x := ((z59.2.1 l0 2) + 1)) (pk0 hb1) (by decide)).trans (by rw [e62])) ?_
          refine r_vret fe_83_87 ?_
          exact dfin (P := fun _ T => Q none (xst T.1 T.2 h)) hf hQ
theorem G83c {xs : Nat → Int32} {L9 d : Nat} {h : Nat → va_E} {l0 : Nat} {l1 : Nat} {n : Nat} {Q : Option Value → AmH → Prop} {r0 : Unit} {U0 U : (xS × gS)}  (hf : G83 l0 l1 n  U = some (r0, U0)) (hQ : Q none (xst U0.1 U0.2 h)) : Ca (am_X xs L9) (d + 1) 83 [.ref l0, .ref l1] (xst U.1 U.2 h) Q := (G83l hQ n)  U hf
def G84b0 (F : Nat → xS → Option ((Option Nat) × xS)) (n : Nat)  (S : xS) : Option ((Option Nat) × xS) := (if am_if .lt (S.1 88 3) = true then some (none, S) else (if am_ic .lt (S.1 88 3) (S.1 64 4) = true then (if ¬ ((S.1 88 3) < 0 ∨ 6 ≤ ((S.1 88 3)).toNatClampNeg) then (Option.elim (S.2.2.2 87 (Int32.toNatClampNeg (S.1 88 3))) (some (none, S)) (fun q5 => some (some q5, S))) else none) else some (none, S)))
def G84f : Nat → Nat → xS → Option ((Option Nat) × xS)
  | 0, _, _ => none
  | n + 1, c, S => G84b0 (G84f n) n  S
theorem G84e0 (n : Nat)  (S : xS) : G84f (n + 1) 0  S = G84b0 (G84f n) n  S := rfl
def G84 (n : Nat)  (S : xS) : Option ((Option Nat) × xS) := G84f n 0  S
set_option maxRecDepth 20000 in
set_option maxHeartbeats 4000000 in
theorem G84l {xs : Nat → Int32} {L9 d : Nat} {G : gS} {h : Nat → va_E} {Q : Option Value → AmH → Prop} {r0 : (Option Nat)} {S0 : xS} (hQ : Q (some (va_rf r0)) (xst S0 G h)) : ∀ n : Nat, (∀ (S : xS), G84f n 0  S = some (r0, S0) → Go (am_X xs L9) (d + 0) 84 0 [.ref 64] [] (xst S G h) Q) := by
  intro n
  induction n with
  | zero => exact fun  S hf => (by cases hf)
  | succ n ih =>
    intro  S hf
    rw [G84e0] at hf
    unfold G84b0 at hf
    refine r_aload_n fe_84_0 rfl ?_
    refine r_getf (v := .ref 88) fe_84_1 lf_11_43 (x_c xk_64 (by decide)) (x_lt xk_64 (by decide)) rfl ?_
    refine r_getf (v := .int (S.1 88 3)) fe_84_4 lf_11_121 (x_c xk_88 (by decide)) (x_lt xk_88 (by decide)) rfl ?_
    by_cases hb1 : am_if .lt (S.1 88 3) = true
    · rw [if_pos hb1] at hf
      refine r_if_t (t := 24) fe_84_7 (by decide) hb1 ?_
      refine r_null fe_84_24 ?_
      refine r_goto (t := 40) fe_84_25 (by decide) ?_
      refine r_aretN fe_84_40 ?_
      exact dfin (P := fun r T => Q (some (va_rf r)) (xst T G h)) hf hQ
    · rw [if_neg hb1] at hf
      refine r_if_f (t := 24) fe_84_7 (by decide) (Bool.eq_false_iff.mpr hb1) ?_
      refine r_aload_n fe_84_10 rfl ?_
      refine r_getf (v := .ref 88) fe_84_11 lf_11_43 (x_c xk_64 (by decide)) (x_lt xk_64 (by decide)) rfl ?_
      refine r_getf (v := .int (S.1 88 3)) fe_84_14 lf_11_121 (x_c xk_88 (by decide)) (x_lt xk_88 (by decide)) rfl ?_
      refine r_aload_n fe_84_17 rfl ?_
      refine r_getf (v := .int (S.1 64 4)) fe_84_18 lf_11_36 (x_c xk_64 (by decide)) (x_lt xk_64 (by decide)) rfl ?_
      by_cases hb2 : am_ic .lt (S.1 88 3) (S.1 64 4) = true
      · rw [if_pos hb2] at hf
        refine r_ic_t (t := 28) fe_84_21 (by decide) hb2 ?_
        refine r_aload_n fe_84_28 rfl ?_
        refine r_getf (v := .ref 87) fe_84_29 lf_11_32 (x_c xk_64 (by decide)) (x_lt xk_64 (by decide)) rfl ?_
        refine r_aload_n fe_84_32 rfl ?_
        refine r_getf (v := .ref 88) fe_84_33 lf_11_43 (x_c xk_64 (by decide)) (x_lt xk_64 (by decide)) rfl ?_
        refine r_getf (v := .int (S.1 88 3)) fe_84_36 lf_11_121 (x_c xk_88 (by decide)) (x_lt xk_88 (by decide)) rfl ?_
        by_cases hg3 : ¬ ((S.1 88 3) < 0 ∨ 6 ≤ ((S.1 88 3)).toNatClampNeg)
        rotate_left
        · rw [if_neg hg3] at hf; cases hf
        rw [if_pos hg3] at hf
        cases hm4 : S.2.2.2 87 (Int32.toNatClampNeg (S.1 88 3)) with
        | none =>
          rw [hm4, Option.elim_none] at hf
          refine r_aald (j := (Int32.toNatClampNeg (S.1 88 3))) (v := .null) fe_84_39 (x_c xk_87 (by decide)) (x_lt xk_87 (by decide)) (by decide) (by decide) (fun z => hg3 (Or.inl z)) rfl (fun z => hg3 (Or.inr z)) (by rw [hm4]; rfl) ?_
          refine r_aretN fe_84_40 ?_
          exact dfin (P := fun r T => Q (some (va_rf r)) (xst T G h)) hf hQ
        | some q5 =>
          rw [hm4, Option.elim_some] at hf
          refine r_aald (j := (Int32.toNatClampNeg (S.1 88 3))) (v := .ref q5) fe_84_39 (x_c xk_87 (by decide)) (x_lt xk_87 (by decide)) (by decide) (by decide) (fun z => hg3 (Or.inl z)) rfl (fun z => hg3 (Or.inr z)) (by rw [hm4]; rfl) ?_
          refine r_aretO fe_84_40 ?_
          exact dfin (P := fun r T => Q (some (va_rf r)) (xst T G h)) hf hQ
      · rw [if_neg hb2] at hf
        refine r_ic_f (t := 28) fe_84_21 (by decide) (Bool.eq_false_iff.mpr hb2) ?_
        refine r_null fe_84_24 ?_
        refine r_goto (t := 40) fe_84_25 (by decide) ?_
        refine r_aretN fe_84_40 ?_
        exact dfin (P := fun r T => Q (some (va_rf r)) (xst T G h)) hf hQ
theorem G84c {xs : Nat → Int32} {L9 d : Nat} {G : gS} {h : Nat → va_E} {n : Nat} {Q : Option Value → AmH → Prop} {r0 : (Option Nat)} {S0 S : xS}  (hf : G84 n  S = some (r0, S0)) (hQ : Q (some (va_rf r0)) (xst S0 G h)) : Ca (am_X xs L9) (d + 0) 84 [.ref 64] (xst S G h) Q := (G84l hQ n)  S hf
def G85b0 (l1 : Nat) (l2 : Nat) (l3 : Option Nat) (F : Nat → xS → Option (Unit × xS)) (n : Nat)  (S : xS) : Option (Unit × xS) := ((some (x_sQ S 109 3 (some l1))).bind (fun S1 => ((some (x_sQ S1 109 4 (some l2))).bind (fun S3 => ((some (x_sQ S3 109 5 l3)).bind (fun S5 => some ((), (x_sI (x_sI (x_sI S5 109 6 0) 109 7 0) 109 8 0))))))))
def G85f (l1 : Nat) (l2 : Nat) (l3 : Option Nat) : Nat → Nat → xS → Option (Unit × xS)
  | 0, _, _ => none
  | n + 1, c, S => G85b0 l1 l2 l3 (G85f l1 l2 l3 n) n  S
theorem G85e0 (l1 : Nat) (l2 : Nat) (l3 : Option Nat) (n : Nat)  (S : xS) : G85f l1 l2 l3 (n + 1) 0  S = G85b0 l1 l2 l3 (G85f l1 l2 l3 n) n  S := rfl
def G85 (l1 : Nat) (l2 : Nat) (l3 : Option Nat) (n : Nat)  (S : xS) : Option (Unit × xS) := G85f l1 l2 l3 n 0  S
set_option maxRecDepth 20000 in
set_option maxHeartbeats 4000000 in
theorem G85l {xs : Nat → Int32} {L9 d : Nat} {G : gS} {h : Nat → va_E} {l1 : Nat} {l2 : Nat} {l3 : Option Nat} {Q : Option Value → AmH → Prop} {r0 : Unit} {S0 : xS} (h1 : bB G l1 = true) (h2 : wB G l2 = true) (hQ : Q none (xst S0 G h)) : ∀ n : Nat, (∀ (S : xS), G85f l1 l2 l3 n 0  S = some (r0, S0) → Go (am_X xs L9) (d + 0) 85 0 [.ref 109, .ref l1, .ref l2, va_rf l3] [] (xst S G h) Q) := by
  intro n
  induction n with
  | zero => exact fun  S hf => (by cases hf)
  | succ n ih =>
    intro  S hf
    rw [G85e0] at hf
    unfold G85b0 at hf
    refine r_aload_n fe_85_0 rfl ?_
    refine r_aload_n fe_85_1 rfl ?_
    refine r_putf fe_85_2 lf_7_27 (x_h xk_109 (by decide)) (x_lt xk_109 (by decide)) (by decide) (Nat.le_of_ble_eq_true rfl) rfl rfl (Or.inl rfl) ?_
    obtain ⟨S1, e2, hf⟩ := dbnd hf
    refine go_heap (h2 := xst S1 G h) ((x_uQ (j := 3) (v := (some l1)) xk_109 (by decide)).trans (by rw [e2])) ?_
    refine r_aload_n fe_85_5 rfl ?_
    refine r_aload_n fe_85_6 rfl ?_
    refine r_putf fe_85_7 lf_7_31 (x_h xk_109 (by decide)) (x_lt xk_109 (by decide)) (by decide) (Nat.le_of_ble_eq_true rfl) rfl rfl (Or.inl rfl) ?_
    obtain ⟨S3, e4, hf⟩ := dbnd hf
    refine go_heap (h2 := xst S3 G h) ((x_uQ (j := 4) (v := (some l2)) xk_109 (by decide)).trans (by rw [e4])) ?_
    refine r_aload_n fe_85_10 rfl ?_
    refine r_aload_nO fe_85_11 rfl ?_
    refine r_putf fe_85_12 lf_7_34 (x_h xk_109 (by decide)) (x_lt xk_109 (by decide)) (by decide) (Nat.le_of_ble_eq_true rfl) (op_f _) (op_n _) (Or.inl rfl) ?_
    obtain ⟨S5, e6, hf⟩ := dbnd hf
    refine go_heap (h2 := xst S5 G h) ((x_uQ (j := 5) (v := l3) xk_109 (by decide)).trans (by rw [e6])) ?_
    refine r_aload_n fe_85_15 rfl ?_
    refine r_iconst (v := 0) fe_85_16 (by decide) ?_
    refine r_putf fe_85_17 lf_7_38 (x_h xk_109 (by decide)) (x_lt xk_109 (by decide)) (by decide) (Nat.le_of_ble_eq_true rfl) rfl rfl (Or.inl rfl) ?_
    refine go_heap (x_uI (j := 6) (x := 0) xk_109 (by decide)) ?_
    refine r_aload_n fe_85_20 rfl ?_
    refine r_iconst (v := 0) fe_85_21 (by decide) ?_
    refine r_putf fe_85_22 lf_7_42 (x_h xk_109 (by decide)) (x_lt xk_109 (by decide)) (by decide) (Nat.le_of_ble_eq_true rfl) rfl rfl (Or.inl rfl) ?_
    refine go_heap (x_uI (j := 7) (x := 0) xk_109 (by decide)) ?_
    refine r_aload_n fe_85_25 rfl ?_
    refine r_iconst (v := 0) fe_85_26 (by decide) ?_
    refine r_putf fe_85_27 lf_7_45 (x_h xk_109 (by decide)) (x_lt xk_109 (by decide)) (by decide) (Nat.le_of_ble_eq_true rfl) rfl rfl (Or.inl rfl) ?_
    refine go_heap (x_uI (j := 8) (x := 0) xk_109 (by decide)) ?_
    refine r_vret fe_85_30 ?_
    exact dfin (P := fun _ T => Q none (xst T G h)) hf hQ
theorem G85c {xs : Nat → Int32} {L9 d : Nat} {G : gS} {h : Nat → va_E} {l1 : Nat} {l2 : Nat} {l3 : Option Nat} {n : Nat} {Q : Option Value → AmH → Prop} {r0 : Unit} {S0 S : xS}  (h1 : bB G l1 = true) (h2 : wB G l2 = true) (hf : G85 l1 l2 l3 n  S = some (r0, S0)) (hQ : Q none (xst S0 G h)) : Ca (am_X xs L9) (d + 0) 85 [.ref 109, .ref l1, .ref l2, va_rf l3] (xst S G h) Q := by cases l3 <;> exact (G85l h1 h2 hQ n)  S hf
def G88b0 (l0 : Nat) (F : Nat → Int32 → Int32 → Int32 → xS → Option (Unit × xS)) (n : Nat) (l1 : Int32) (l2 : Int32) (l3 : Int32) (S : xS) : Option (Unit × xS) := (if ¬ (l1 < 0 ∨ 13 ≤ (l1).toNatClampNeg) then ((some (x_sA S (l0 + 1) (Int32.toNatClampNeg l1) (-1))).bind (fun S2 => (if ¬ (l1 < 0 ∨ 13 ≤ (l1).toNatClampNeg) then ((some (x_sA S2 (l0 + 5) (Int32.toNatClampNeg l1) 0)).bind (fun S5 => (if ¬ (l1 < 0 ∨ 13 ≤ (l1).toNatClampNeg) then ((some (x_sA S5 (l0 + 6) (Int32.toNatClampNeg l1) l2)).bind (fun S8 => (if ¬ (l1 < 0 ∨ 13 ≤ (l1).toNatClampNeg) then ((some (x_sA S8 (l0 + 7) (Int32.toNatClampNeg l1) l3)).bind (fun S11 => (if ¬ (l1 < 0 ∨ 13 ≤ (l1).toNatClampNeg) then ((some (x_sA S11 (l0 + 8) (Int32.toNatClampNeg l1) (S11.1 l0 0))).bind (fun S14 => some ((), S14))) else none))) else none))) else none))) else none))) else none)
def G88f (l0 : Nat) : Nat → Nat → Int32 → Int32 → Int32 → xS → Option (Unit × xS)
  | 0, _, _, _, _, _ => none
  | n + 1, c, l1, l2, l3, S => G88b0 l0 (G88f l0 n) n l1 l2 l3 S
theorem G88e0 (l0 : Nat) (n : Nat) (l1 : Int32) (l2 : Int32) (l3 : Int32) (S : xS) : G88f l0 (n + 1) 0 l1 l2 l3 S = G88b0 l0 (G88f l0 n) n l1 l2 l3 S := rfl
def G88 (l0 : Nat) (n : Nat) (l1 : Int32) (l2 : Int32) (l3 : Int32) (S : xS) : Option (Unit × xS) := G88f l0 n 0 l1 l2 l3 S
set_option maxRecDepth 20000 in
set_option maxHeartbeats 4000000 in
theorem G88l {xs : Nat → Int32} {L9 d : Nat} {G : gS} {h : Nat → va_E} {l0 : Nat} {Q : Option Value → AmH → Prop} {r0 : Unit} {S0 : xS} (h0 : wB G l0 = true) (hQ : Q none (xst S0 G h)) : ∀ n : Nat, (∀ (l1 : Int32) (l2 : Int32) (l3 : Int32) (S : xS), G88f l0 n 0 l1 l2 l3 S = some (r0, S0) → Go (am_X xs L9) (d + 0) 88 0 [.ref l0, .int l1, .int l2, .int l3] [] (xst S G h) Q) := by
  intro n
  induction n with
  | zero => exact fun l1 l2 l3 S hf => (by cases hf)
  | succ n ih =>
    intro l1 l2 l3 S hf
    rw [G88e0] at hf
    unfold G88b0 at hf
    refine r_aload_n fe_88_0 rfl ?_
    refine r_getf (v := .ref (l0 + 1)) fe_88_1 lf_9_21 (x_c (wk0 h0) (by decide)) (x_lt (wk0 h0) (by decide)) rfl ?_
    refine r_iload_n fe_88_4 rfl ?_
    refine r_iconst (v := -1) fe_88_5 (by decide) ?_
    by_cases hg1 : ¬ (l1 < 0 ∨ 13 ≤ (l1).toNatClampNeg)
    rotate_left
    · rw [if_neg hg1] at hf; cases hf
    rw [if_pos hg1] at hf
    refine r_iast (j := (Int32.toNatClampNeg l1)) fe_88_6 (x_h (wk1 h0) (by decide)) (x_lt (wk1 h0) (by decide)) (x_k6 (wk1 h0) (by decide)) (fun z => hg1 (Or.inl z)) rfl (fun z => hg1 (Or.inr z)) ?_
    obtain ⟨S2, e3, hf⟩ := dbnd hf
    refine go_heap (h2 := xst S2 G h) ((x_uA (wk1 h0)).trans (by rw [e3])) ?_
    refine r_aload_n fe_88_7 rfl ?_
    refine r_getf (v := .ref (l0 + 5)) fe_88_8 lf_9_34 (x_c (wk0 h0) (by decide)) (x_lt (wk0 h0) (by decide)) rfl ?_
    refine r_iload_n fe_88_11 rfl ?_
    refine r_iconst (v := 0) fe_88_12 (by decide) ?_
    by_cases hg4 : ¬ (l1 < 0 ∨ 13 ≤ (l1).toNatClampNeg)
    rotate_left
    · rw [if_neg hg4] at hf; cases hf
    rw [if_pos hg4] at hf
    refine r_iast (j := (Int32.toNatClampNeg l1)) fe_88_13 (x_h (wk5 h0) (by decide)) (x_lt (wk5 h0) (by decide)) (x_k6 (wk5 h0) (by decide)) (fun z => hg4 (Or.inl z)) rfl (fun z => hg4 (Or.inr z)) ?_
    obtain ⟨S5, e6, hf⟩ := dbnd hf
    refine go_heap (h2 := xst S5 G h) ((x_uA (wk5 h0)).trans (by rw [e6])) ?_
    refine r_aload_n fe_88_14 rfl ?_
    refine r_getf (v := .ref (l0 + 6)) fe_88_15 lf_9_37 (x_c (wk0 h0) (by decide)) (x_lt (wk0 h0) (by decide)) rfl ?_
    refine r_iload_n fe_88_18 rfl ?_
    refine r_iload_n fe_88_19 rfl ?_
    by_cases hg7 : ¬ (l1 < 0 ∨ 13 ≤ (l1).toNatClampNeg)
    rotate_left
    · rw [if_neg hg7] at hf; cases hf
    rw [if_pos hg7] at hf
    refine r_iast (j := (Int32.toNatClampNeg l1)) fe_88_20 (x_h (wk6 h0) (by decide)) (x_lt (wk6 h0) (by decide)) (x_k6 (wk6 h0) (by decide)) (fun z => hg7 (Or.inl z)) rfl (fun z => hg7 (Or.inr z)) ?_
    obtain ⟨S8, e9, hf⟩ := dbnd hf
    refine go_heap (h2 := xst S8 G h) ((x_uA (wk6 h0)).trans (by rw [e9])) ?_
    refine r_aload_n fe_88_21 rfl ?_
    refine r_getf (v := .ref (l0 + 7)) fe_88_22 lf_9_40 (x_c (wk0 h0) (by decide)) (x_lt (wk0 h0) (by decide)) rfl ?_
    refine r_iload_n fe_88_25 rfl ?_
    refine r_iload_n fe_88_26 rfl ?_
    by_cases hg10 : ¬ (l1 < 0 ∨ 13 ≤ (l1).toNatClampNeg)
    rotate_left
    · rw [if_neg hg10] at hf; cases hf
    rw [if_pos hg10] at hf
    refine r_iast (j := (Int32.toNatClampNeg l1)) fe_88_27 (x_h (wk7 h0) (by decide)) (x_lt (wk7 h0) (by decide)) (x_k6 (wk7 h0) (by decide)) (fun z => hg10 (Or.inl z)) rfl (fun z => hg10 (Or.inr z)) ?_
    obtain ⟨S11, e12, hf⟩ := dbnd hf
    refine go_heap (h2 := xst S11 G h) ((x_uA (wk7 h0)).trans (by rw [e12])) ?_
    refine r_aload_n fe_88_28 rfl ?_
    refine r_getf (v := .ref (l0 + 8)) fe_88_29 lf_9_43 (x_c (wk0 h0) (by decide)) (x_lt (wk0 h0) (by decide)) rfl ?_
    refine r_iload_n fe_88_32 rfl ?_
    refine r_aload_n fe_88_33 rfl ?_
    refine r_getf (v := .int (S11.1 l0 0)) fe_88_34 lf_9_9 (x_c (wk0 h0) (by decide)) (x_lt (wk0 h0) (by decide)) rfl ?_
    by_cases hg13 : ¬ (l1 < 0 ∨ 13 ≤ (l1).toNatClampNeg)
    rotate_left
    · rw [if_neg hg13] at hf; cases hf
    rw [if_pos hg13] at hf
    refine r_iast (j := (Int32.toNatClampNeg l1)) fe_88_37 (x_h (wk8 h0) (by decide)) (x_lt (wk8 h0) (by decide)) (x_k6 (wk8 h0) (by decide)) (fun z => hg13 (Or.inl z)) rfl (fun z => hg13 (Or.inr z)) ?_
    obtain ⟨S14, e15, hf⟩ := dbnd hf
    refine go_heap (h2 := xst S14 G h) ((x_uA (wk8 h0)).trans (by rw [e15])) ?_
    refine r_vret fe_88_38 ?_
    exact dfin (P := fun _ T => Q none (xst T G h)) hf hQ
theorem G88c {xs : Nat → Int32} {L9 d : Nat} {G : gS} {h : Nat → va_E} {l0 : Nat} {n : Nat} {Q : Option Value → AmH → Prop} {r0 : Unit} {S0 S : xS} {l1 : Int32} {l2 : Int32} {l3 : Int32} (h0 : wB G l0 = true) (hf : G88 l0 n l1 l2 l3 S = some (r0, S0)) (hQ : Q none (xst S0 G h)) : Ca (am_X xs L9) (d + 0) 88 [.ref l0, .int l1, .int l2, .int l3] (xst S G h) Q := (G88l h0 hQ n) l1 l2 l3 S hf
def G99b0 (wb : Nat) (lo : Option Nat) (ln : Nat) (F : Nat → Int32 → xS → Option (Unit × xS)) (n : Nat) (l1 : Int32) (S : xS) : Option (Unit × xS) := F 2 0 S
def G99b2 (wb : Nat) (lo : Option Nat) (ln : Nat) (F : Nat → Int32 → xS → Option (Unit × xS)) (n : Nat) (l1 : Int32) (S : xS) : Option (Unit × xS) := (if S.2.2.2 109 4 = some wb then (if am_ic .ge l1 (S.1 wb 1) = true then some ((), S) else (if ¬ (l1 < 0 ∨ 13 ≤ (l1).toNatClampNeg) then (if am_if .lt (S.2.1 (wb + 1) (Int32.toNatClampNeg l1)) = true then F 2 (l1 + 1) S else (if ¬ ((S.2.1 (wb + 1) (Int32.toNatClampNeg l1)) < 0 ∨ 16 ≤ ((S.2.1 (wb + 1) (Int32.toNatClampNeg l1))).toNatClampNeg) then (if am_if .le (S.2.1 (wb + 9) (Int32.toNatClampNeg (S.2.1 (wb + 1) (Int32.toNatClampNeg l1)))) = true then F 2 (l1 + 1) S else (if ¬ (l1 < 0 ∨ 13 ≤ (l1).toNatClampNeg) then (if ¬ ((S.2.1 (wb + 1) (Int32.toNatClampNeg l1)) < 0 ∨ 16 ≤ ((S.2.1 (wb + 1) (Int32.toNatClampNeg l1))).toNatClampNeg) then (if am_ic .lt (S.2.1 (wb + 3) (Int32.toNatClampNeg l1)) (S.2.1 (wb + 9) (Int32.toNatClampNeg (S.2.1 (wb + 1) (Int32.toNatClampNeg l1)))) = true then F 2 (l1 + 1) S else ((G88 wb n l1 2 (S.2.1 (wb + 1) (Int32.toNatClampNeg l1)) S).bind (fun z10 => F 2 (l1 + 1) (x_sI z10.2 109 7 ((z10.2.1 109 7) + 1))))) else none) else none)) else none)) else none)) else none)
def G99f (wb : Nat) (lo : Option Nat) (ln : Nat) : Nat → Nat → Int32 → xS → Option (Unit × xS)
  | 0, _, _, _ => none
  | n + 1, c, l1, S => if c = 0 then G99b0 wb lo ln (G99f wb lo ln n) n l1 S else G99b2 wb lo ln (G99f wb lo ln n) n l1 S
theorem G99e0 (wb : Nat) (lo : Option Nat) (ln : Nat) (n : Nat) (l1 : Int32) (S : xS) : G99f wb lo ln (n + 1) 0 l1 S = G99b0 wb lo ln (G99f wb lo ln n) n l1 S := if_pos rfl
theorem G99e2 (wb : Nat) (lo : Option Nat) (ln : Nat) (n : Nat) (l1 : Int32) (S : xS) : G99f wb lo ln (n + 1) 2 l1 S = G99b2 wb lo ln (G99f wb lo ln n) n l1 S := if_neg (by decide)
def G99 (wb : Nat) (lo : Option Nat) (ln : Nat) (n : Nat)  (S : xS) : Option (Unit × xS) := G99f wb lo ln n 0 0 S
set_option maxRecDepth 20000 in
set_option maxHeartbeats 4000000 in
theorem G99l {xs : Nat → Int32} {L9 d : Nat} {G : gS} {h : Nat → va_E} {wb : Nat} {lo : Option Nat} {ln : Nat} {Q : Option Value → AmH → Prop} {r0 : Unit} {S0 : xS} (hw : wB G wb = true) (hl : lwB G lo ln = true) (hQ : Q none (xst S0 G h)) : ∀ n : Nat, (∀ (l1 : Int32) (S : xS), G99f wb lo ln n 0 l1 S = some (r0, S0) → Go (am_X xs L9) (d + 1) 99 0 [.ref 109, .float 0, .float 0] [] (xst S G h) Q) ∧ (∀ (l1 : Int32) (S : xS), G99f wb lo ln n 2 l1 S = some (r0, S0) → Go (am_X xs L9) (d + 1) 99 2 [.ref 109, .int l1, .float 0] [] (xst S G h) Q) := by
  intro n
  induction n with
  | zero => exact ⟨fun l1 S hf => (by cases hf), fun l1 S hf => (by cases hf)⟩
  | succ n ih =>
    refine ⟨?_, ?_⟩
    · intro l1 S hf
      rw [G99e0] at hf
      unfold G99b0 at hf
      refine r_iconst (v := 0) fe_99_0 (by decide) ?_
      refine r_istore_n fe_99_1 (Nat.le_of_ble_eq_true rfl) rfl ?_
      refine go_weak (L0 := [.ref 109, .int 0, .float 0]) (lwk_c (Or.inl rfl) (lwk_c (Or.inl rfl) (lwk_c (Or.inl rfl) (lwk_rf [])))) ?_
      exact ih.2 0 S hf
    · intro l1 S hf
      rw [G99e2] at hf
      unfold G99b2 at hf
      refine r_iload_n fe_99_2 rfl ?_
      refine r_aload_n fe_99_3 rfl ?_
      by_cases hm1 : S.2.2.2 109 4 = some wb
      rotate_left
      · rw [if_neg hm1] at hf; cases hf
      rw [if_pos hm1] at hf
      refine r_getf (v := .ref wb) fe_99_4 lf_7_31 (x_c xk_109 (by decide)) (x_lt xk_109 (by decide)) (by show some (va_rf _) = _; rw [hm1]; rfl) ?_
      refine r_getf (v := .int (S.1 wb 1)) fe_99_7 lf_7_88 (x_c (wk0 hw) (by decide)) (x_lt (wk0 hw) (by decide)) rfl ?_
      by_cases hb2 : am_ic .ge l1 (S.1 wb 1) = true
      · rw [if_pos hb2] at hf
        refine r_ic_t (t := 86) fe_99_10 (by decide) hb2 ?_
        refine r_vret fe_99_86 ?_
        exact dfin (P := fun _ T => Q none (xst T G h)) hf hQ
      · rw [if_neg hb2] at hf
        refine r_ic_f (t := 86) fe_99_10 (by decide) (Bool.eq_false_iff.mpr hb2) ?_
        refine r_aload_n fe_99_13 rfl ?_
        refine r_getf (v := .ref wb) fe_99_14 lf_7_31 (x_c xk_109 (by decide)) (x_lt xk_109 (by decide)) (by show some (va_rf _) = _; rw [hm1]; rfl) ?_
        refine r_getf (v := .ref (wb + 1)) fe_99_17 lf_7_80 (x_c (wk0 hw) (by decide)) (x_lt (wk0 hw) (by decide)) rfl ?_
        refine r_iload_n fe_99_20 rfl ?_
        by_cases hg3 : ¬ (l1 < 0 ∨ 13 ≤ (l1).toNatClampNeg)
        rotate_left
        · rw [if_neg hg3] at hf; cases hf
        rw [if_pos hg3] at hf
        refine r_iald (j := (Int32.toNatClampNeg l1)) (v := S.2.1 (wb + 1) (Int32.toNatClampNeg l1)) fe_99_21 (x_c (wk1 hw) (by decide)) (x_lt (wk1 hw) (by decide)) (fun z => hg3 (Or.inl z)) rfl (fun z => hg3 (Or.inr z)) rfl ?_
        refine r_istore_n fe_99_22 (Nat.le_of_ble_eq_true rfl) rfl ?_
        refine r_iload_n fe_99_23 rfl ?_
        by_cases hb4 : am_if .lt (S.2.1 (wb + 1) (Int32.toNatClampNeg l1)) = true
        · rw [if_pos hb4] at hf
          refine r_if_t (t := 80) fe_99_24 (by decide) hb4 ?_
          refine r_iinc (v := (l1 + 1)) fe_99_80 rfl rfl rfl ?_
          refine r_goto (t := 2) fe_99_83 (by decide) ?_
          refine go_weak (L0 := [.ref 109, .int (l1 + 1), .float 0]) (lwk_c (Or.inl rfl) (lwk_c (Or.inl rfl) (lwk_c (Or.inr rfl) (lwk_rf [])))) ?_
          exact ih.2 (l1 + 1) S hf
        · rw [if_neg hb4] at hf
          refine r_if_f (t := 80) fe_99_24 (by decide) (Bool.eq_false_iff.mpr hb4) ?_
          refine r_aload_n fe_99_27 rfl ?_
          refine r_getf (v := .ref wb) fe_99_28 lf_7_31 (x_c xk_109 (by decide)) (x_lt xk_109 (by decide)) (by show some (va_rf _) = _; rw [hm1]; rfl) ?_
          refine r_getf (v := .ref (wb + 9)) fe_99_31 lf_7_169 (x_c (wk0 hw) (by decide)) (x_lt (wk0 hw) (by decide)) rfl ?_
          refine r_iload_n fe_99_34 rfl ?_
          by_cases hg5 : ¬ ((S.2.1 (wb + 1) (Int32.toNatClampNeg l1)) < 0 ∨ 16 ≤ ((S.2.1 (wb + 1) (Int32.toNatClampNeg l1))).toNatClampNeg)
          rotate_left
          · rw [if_neg hg5] at hf; cases hf
          rw [if_pos hg5] at hf
          refine r_iald (j := (Int32.toNatClampNeg (S.2.1 (wb + 1) (Int32.toNatClampNeg l1)))) (v := S.2.1 (wb + 9) (Int32.toNatClampNeg (S.2.1 (wb + 1) (Int32.toNatClampNeg l1)))) fe_99_35 (x_c (wk9 hw) (by decide)) (x_lt (wk9 hw) (by decide)) (fun z => hg5 (Or.inl z)) rfl (fun z => hg5 (Or.inr z)) rfl ?_
          by_cases hb6 : am_if .le (S.2.1 (wb + 9) (Int32.toNatClampNeg (S.2.1 (wb + 1) (Int32.toNatClampNeg l1)))) = true
          · rw [if_pos hb6] at hf
            refine r_if_t (t := 80) fe_99_36 (by decide) hb6 ?_
            refine r_iinc (v := (l1 + 1)) fe_99_80 rfl rfl rfl ?_
            refine r_goto (t := 2) fe_99_83 (by decide) ?_
            refine go_weak (L0 := [.ref 109, .int (l1 + 1), .float 0]) (lwk_c (Or.inl rfl) (lwk_c (Or.inl rfl) (lwk_c (Or.inr rfl) (lwk_rf [])))) ?_
            exact ih.2 (l1 + 1) S hf
          · rw [if_neg hb6] at hf
            refine r_if_f (t := 80) fe_99_36 (by decide) (Bool.eq_false_iff.mpr hb6) ?_
            refine r_aload_n fe_99_39 rfl ?_
            refine r_getf (v := .ref wb) fe_99_40 lf_7_31 (x_c xk_109 (by decide)) (x_lt xk_109 (by decide)) (by show some (va_rf _) = _; rw [hm1]; rfl) ?_
            refine r_getf (v := .ref (wb + 3)) fe_99_43 lf_7_128 (x_c (wk0 hw) (by decide)) (x_lt (wk0 hw) (by decide)) rfl ?_
            refine r_iload_n fe_99_46 rfl ?_
            by_cases hg7 : ¬ (l1 < 0 ∨ 13 ≤ (l1).toNatClampNeg)
            rotate_left
            · rw [if_neg hg7] at hf; cases hf
            rw [if_pos hg7] at hf
            refine r_iald (j := (Int32.toNatClampNeg l1)) (v := S.2.1 (wb + 3) (Int32.toNatClampNeg l1)) fe_99_47 (x_c (wk3 hw) (by decide)) (x_lt (wk3 hw) (by decide)) (fun z => hg7 (Or.inl z)) rfl (fun z => hg7 (Or.inr z)) rfl ?_
            refine r_aload_n fe_99_48 rfl ?_
            refine r_getf (v := .ref wb) fe_99_49 lf_7_31 (x_c xk_109 (by decide)) (x_lt xk_109 (by decide)) (by show some (va_rf _) = _; rw [hm1]; rfl) ?_
            refine r_getf (v := .ref (wb + 9)) fe_99_52 lf_7_169 (x_c (wk0 hw) (by decide)) (x_lt (wk0 hw) (by decide)) rfl ?_
            refine r_iload_n fe_99_55 rfl ?_
            by_cases hg8 : ¬ ((S.2.1 (wb + 1) (Int32.toNatClampNeg l1)) < 0 ∨ 16 ≤ ((S.2.1 (wb + 1) (Int32.toNatClampNeg l1))).toNatClampNeg)
            rotate_left
            · rw [if_neg hg8] at hf; cases hf
            rw [if_pos hg8] at hf
            refine r_iald (j := (Int32.toNatClampNeg (S.2.1 (wb + 1) (Int32.toNatClampNeg l1)))) (v := S.2.1 (wb + 9) (Int32.toNatClampNeg (S.2.1 (wb + 1) (Int32.toNatClampNeg l1)))) fe_99_56 (x_c (wk9 hw) (by decide)) (x_lt (wk9 hw) (by decide)) (fun z => hg8 (Or.inl z)) rfl (fun z => hg8 (Or.inr z)) rfl ?_
            by_cases hb9 : am_ic .lt (S.2.1 (wb + 3) (Int32.toNatClampNeg l1)) (S.2.1 (wb + 9) (Int32.toNatClampNeg (S.2.1 (wb + 1) (Int32.toNatClampNeg l1)))) = true
            · rw [if_pos hb9] at hf
              refine r_ic_t (t := 80) fe_99_57 (by decide) hb9 ?_
              refine r_iinc (v := (l1 + 1)) fe_99_80 rfl rfl rfl ?_
              refine r_goto (t := 2) fe_99_83 (by decide) ?_
              refine go_weak (L0 := [.ref 109, .int (l1 + 1), .float 0]) (lwk_c (Or.inl rfl) (lwk_c (Or.inl rfl) (lwk_c (Or.inr rfl) (lwk_rf [])))) ?_
              exact ih.2 (l1 + 1) S hf
            · rw [if_neg hb9] at hf
              refine r_ic_f (t := 80) fe_99_57 (by decide) (Bool.eq_false_iff.mpr hb9) ?_
              refine r_aload_n fe_99_60 rfl ?_
              refine r_getf (v := .ref wb) fe_99_61 lf_7_31 (x_c xk_109 (by decide)) (x_lt xk_109 (by decide)) (by show some (va_rf _) = _; rw [hm1]; rfl) ?_
              refine r_iload_n fe_99_64 rfl ?_
              refine r_iconst (v := 2) fe_99_65 (by decide) ?_
              refine r_iload_n fe_99_66 rfl ?_
              refine r_callV (as := [.int l1, .int 2, .int (S.2.1 (wb + 1) (Int32.toNatClampNeg l1))]) (r := []) fe_99_67 lm_7_118 md_88 rfl rfl (Nat.le_of_ble_eq_true rfl) (x_c (wk0 hw) (by decide)) (x_lt (wk0 hw) (by decide)) (Nat.le_of_ble_eq_true rfl) (Nat.le_of_ble_eq_true rfl) ?_
              cases hc11 : G88 wb n l1 2 (S.2.1 (wb + 1) (Int32.toNatClampNeg l1)) S with
              | none => rw [hc11] at hf; cases hf
              | some z10 =>
                rw [hc11, Option.bind_some] at hf
                refine G88c (r0 := z10.1) (S0 := z10.2) (h0 := hw) (hf := hc11) ?_
                refine r_aload_n fe_99_70 rfl ?_
                refine r_dup fe_99_71 rfl ?_
                refine r_getf (v := .int (z10.2.1 109 7)) fe_99_72 lf_7_42 (x_c xk_109 (by decide)) (x_lt xk_109 (by decide)) rfl ?_
                refine r_iconst (v := 1) fe_99_75 (by decide) ?_
                refine r_iadd (v := ((z10.2.1 109 7) + 1)) fe_99_76 rfl ?_
                refine r_putf fe_99_77 lf_7_42 (x_h xk_109 (by decide)) (x_lt xk_109 (by decide)) (by decide) (Nat.le_of_ble_eq_true rfl) rfl rfl (Or.inl rfl) ?_
                refine go_heap (x_uI (j := 7) (x := ((z10.2.1 109 7) + 1)) xk_109 (by decide)) ?_
                refine r_iinc (v := (l1 + 1)) fe_99_80 rfl rfl rfl ?_
                refine r_goto (t := 2) fe_99_83 (by decide) ?_
                refine go_weak (L0 := [.ref 109, .int (l1 + 1), .float 0]) (lwk_c (Or.inl rfl) (lwk_c (Or.inl rfl) (lwk_c (Or.inr rfl) (lwk_rf [])))) ?_
                exact ih.2 (l1 + 1) (x_sI z10.2 109 7 ((z10.2.1 109 7) + 1)) hf
theorem G99c {xs : Nat → Int32} {L9 d : Nat} {G : gS} {h : Nat → va_E} {wb : Nat} {lo : Option Nat} {ln : Nat} {n : Nat} {Q : Option Value → AmH → Prop} {r0 : Unit} {S0 S : xS}  (hw : wB G wb = true) (hl : lwB G lo ln = true) (hf : G99 wb lo ln n  S = some (r0, S0)) (hQ : Q none (xst S0 G h)) : Ca (am_X xs L9) (d + 1) 99 [.ref 109] (xst S G h) Q := (G99l hw hl hQ n).1 0 S hf
def G100b0 (wb : Nat) (lo : Option Nat) (ln : Nat) (F : Nat → Int32 → xS → Option (Unit × xS)) (n : Nat) (l1 : Int32) (S : xS) : Option (Unit × xS) := (if S.2.2.2 109 4 = some wb then ((some (x_sI S wb 0 (if 999 < ((S.1 wb 0) + l1) then 999 else ((S.1 wb 0) + l1)))).bind (fun S2 => some ((), S2))) else none)
def G100f (wb : Nat) (lo : Option Nat) (ln : Nat) : Nat → Nat → Int32 → xS → Option (Unit × xS)
  | 0, _, _, _ => none
  | n + 1, c, l1, S => G100b0 wb lo ln (G100f wb lo ln n) n l1 S
theorem G100e0 (wb : Nat) (lo : Option Nat) (ln : Nat) (n : Nat) (l1 : Int32) (S : xS) : G100f wb lo ln (n + 1) 0 l1 S = G100b0 wb lo ln (G100f wb lo ln n) n l1 S := rfl
def G100 (wb : Nat) (lo : Option Nat) (ln : Nat) (n : Nat) (l1 : Int32) (S : xS) : Option (Unit × xS) := G100f wb lo ln n 0 l1 S
set_option maxRecDepth 20000 in
set_option maxHeartbeats 4000000 in
theorem G100l {xs : Nat → Int32} {L9 d : Nat} {G : gS} {h : Nat → va_E} {wb : Nat} {lo : Option Nat} {ln : Nat} {Q : Option Value → AmH → Prop} {r0 : Unit} {S0 : xS} (hw : wB G wb = true) (hl : lwB G lo ln = true) (hQ : Q none (xst S0 G h)) : ∀ n : Nat, (∀ (l1 : Int32) (S : xS), G100f wb lo ln n 0 l1 S = some (r0, S0) → Go (am_X xs L9) (d + 0) 100 0 [.ref 109, .int l1] [] (xst S G h) Q) := by
  intro n
  induction n with
  | zero => exact fun l1 S hf => (by cases hf)
  | succ n ih =>
    intro l1 S hf
    rw [G100e0] at hf
    unfold G100b0 at hf
    refine r_aload_n fe_100_0 rfl ?_
    by_cases hm1 : S.2.2.2 109 4 = some wb
    rotate_left
    · rw [if_neg hm1] at hf; cases hf
    rw [if_pos hm1] at hf
    refine r_getf (v := .ref wb) fe_100_1 lf_7_31 (x_c xk_109 (by decide)) (x_lt xk_109 (by decide)) (by show some (va_rf _) = _; rw [hm1]; rfl) ?_
    refine r_aload_n fe_100_4 rfl ?_
    refine r_getf (v := .ref wb) fe_100_5 lf_7_31 (x_c xk_109 (by decide)) (x_lt xk_109 (by decide)) (by show some (va_rf _) = _; rw [hm1]; rfl) ?_
    refine r_getf (v := .int (S.1 wb 0)) fe_100_8 lf_7_71 (x_c (wk0 hw) (by decide)) (x_lt (wk0 hw) (by decide)) rfl ?_
    refine r_iload_n fe_100_11 rfl ?_
    refine r_iadd (v := ((S.1 wb 0) + l1)) fe_100_12 rfl ?_
    refine r_sipush (v := 999) fe_100_13 (by decide) ?_
    refine r_min (v := (if 999 < ((S.1 wb 0) + l1) then 999 else ((S.1 wb 0) + l1))) fe_100_16 lm_7_74 (Nat.le_of_ble_eq_true rfl) rfl ?_
    refine r_putf fe_100_19 lf_7_71 (x_h (wk0 hw) (by decide)) (x_lt (wk0 hw) (by decide)) (x_k6 (wk0 hw) (by decide)) (Nat.le_of_ble_eq_true rfl) rfl rfl (Or.inl rfl) ?_
    obtain ⟨S2, e3, hf⟩ := dbnd hf
    refine go_heap (h2 := xst S2 G h) ((x_uI (j := 0) (x := (if 999 < ((S.1 wb 0) + l1) then 999 else ((S.1 wb 0) + l1))) (wk0 hw) (by decide)).trans (by rw [e3])) ?_
    have hm4 : S2.2.2.2 109 4 = some wb := (congrArg (fun T => T.2.2.2 109 4) e3).trans hm1
    refine r_vret fe_100_22 ?_
    exact dfin (P := fun _ T => Q none (xst T G h)) hf hQ
theorem G100c {xs : Nat → Int32} {L9 d : Nat} {G : gS} {h : Nat → va_E} {wb : Nat} {lo : Option Nat} {ln : Nat} {n : Nat} {Q : Option Value → AmH → Prop} {r0 : Unit} {S0 S : xS} {l1 : Int32} (hw : wB G wb = true) (hl : lwB G lo ln = true) (hf : G100 wb lo ln n l1 S = some (r0, S0)) (hQ : Q none (xst S0 G h)) : Ca (am_X xs L9) (d + 0) 100 [.ref 109, .int l1] (xst S G h) Q := (G100l hw hl hQ n) l1 S hf
def G89b0 (l0 : Nat) (F : Nat → Int32 → Int32 → xS → Option (Unit × xS)) (n : Nat) (l1 : Int32) (l2 : Int32) (S : xS) : Option (Unit × xS) := (if ¬ (l1 < 0 ∨ 13 ≤ (l1).toNatClampNeg) then (if ¬ (l1 < 0 ∨ 13 ≤ (l1).toNatClampNeg) then ((some (x_sA S (l0 + 2) (Int32.toNatClampNeg l1) (((S.2.1 (l0 + 2) (Int32.toNatClampNeg l1)) * 10) + l2))).bind (fun S3 => (if ¬ (l1 < 0 ∨ 13 ≤ (l1).toNatClampNeg) then (if ¬ (l1 < 0 ∨ 13 ≤ (l1).toNatClampNeg) then ((some (x_sA S3 (l0 + 4) (Int32.toNatClampNeg l1) ((S3.2.1 (l0 + 4) (Int32.toNatClampNeg l1)) ||| (1 <<< (l2 &&& 31))))).bind (fun S7 => (if ¬ (l1 < 0 ∨ 13 ≤ (l1).toNatClampNeg) then (if ¬ (l1 < 0 ∨ 13 ≤ (l1).toNatClampNeg) then ((some (x_sA S7 (l0 + 3) (Int32.toNatClampNeg l1) ((S7.2.1 (l0 + 3) (Int32.toNatClampNeg l1)) + 1))).bind (fun S11 => some ((), S11))) else none) else none))) else none) else none))) else none) else none)
def G89f (l0 : Nat) : Nat → Nat → Int32 → Int32 → xS → Option (Unit × xS)
  | 0, _, _, _, _ => none
  | n + 1, c, l1, l2, S => G89b0 l0 (G89f l0 n) n l1 l2 S
theorem G89e0 (l0 : Nat) (n : Nat) (l1 : Int32) (l2 : Int32) (S : xS) : G89f l0 (n + 1) 0 l1 l2 S = G89b0 l0 (G89f l0 n) n l1 l2 S := rfl
def G89 (l0 : Nat) (n : Nat) (l1 : Int32) (l2 : Int32) (S : xS) : Option (Unit × xS) := G89f l0 n 0 l1 l2 S
set_option maxRecDepth 20000 in
set_option maxHeartbeats 4000000 in
theorem G89l {xs : Nat → Int32} {L9 d : Nat} {G : gS} {h : Nat → va_E} {l0 : Nat} {Q : Option Value → AmH → Prop} {r0 : Unit} {S0 : xS} (h0 : wB G l0 = true) (hQ : Q none (xst S0 G h)) : ∀ n : Nat, (∀ (l1 : Int32) (l2 : Int32) (S : xS), G89f l0 n 0 l1 l2 S = some (r0, S0) → Go (am_X xs L9) (d + 0) 89 0 [.ref l0, .int l1, .int l2] [] (xst S G h) Q) := by
  intro n
  induction n with
  | zero => exact fun l1 l2 S hf => (by cases hf)
  | succ n ih =>
    intro l1 l2 S hf
    rw [G89e0] at hf
    unfold G89b0 at hf
    refine r_aload_n fe_89_0 rfl ?_
    refine r_getf (v := .ref (l0 + 2)) fe_89_1 lf_9_25 (x_c (wk0 h0) (by decide)) (x_lt (wk0 h0) (by decide)) rfl ?_
    refine r_iload_n fe_89_4 rfl ?_
    refine r_aload_n fe_89_5 rfl ?_
    refine r_getf (v := .ref (l0 + 2)) fe_89_6 lf_9_25 (x_c (wk0 h0) (by decide)) (x_lt (wk0 h0) (by decide)) rfl ?_
    refine r_iload_n fe_89_9 rfl ?_
    by_cases hg1 : ¬ (l1 < 0 ∨ 13 ≤ (l1).toNatClampNeg)
    rotate_left
    · rw [if_neg hg1] at hf; cases hf
    rw [if_pos hg1] at hf
    refine r_iald (j := (Int32.toNatClampNeg l1)) (v := S.2.1 (l0 + 2) (Int32.toNatClampNeg l1)) fe_89_10 (x_c (wk2 h0) (by decide)) (x_lt (wk2 h0) (by decide)) (fun z => hg1 (Or.inl z)) rfl (fun z => hg1 (Or.inr z)) rfl ?_
    refine r_bipush (v := 10) fe_89_11 (by decide) ?_
    refine r_imul (v := ((S.2.1 (l0 + 2) (Int32.toNatClampNeg l1)) * 10)) fe_89_13 rfl ?_
    refine r_iload_n fe_89_14 rfl ?_
    refine r_iadd (v := (((S.2.1 (l0 + 2) (Int32.toNatClampNeg l1)) * 10) + l2)) fe_89_15 rfl ?_
    by_cases hg2 : ¬ (l1 < 0 ∨ 13 ≤ (l1).toNatClampNeg)
    rotate_left
    · rw [if_neg hg2] at hf; cases hf
    rw [if_pos hg2] at hf
    refine r_iast (j := (Int32.toNatClampNeg l1)) fe_89_16 (x_h (wk2 h0) (by decide)) (x_lt (wk2 h0) (by decide)) (x_k6 (wk2 h0) (by decide)) (fun z => hg2 (Or.inl z)) rfl (fun z => hg2 (Or.inr z)) ?_
    obtain ⟨S3, e4, hf⟩ := dbnd hf
    refine go_heap (h2 := xst S3 G h) ((x_uA (wk2 h0)).trans (by rw [e4])) ?_
    refine r_aload_n fe_89_17 rfl ?_
    refine r_getf (v := .ref (l0 + 4)) fe_89_18 lf_9_31 (x_c (wk0 h0) (by decide)) (x_lt (wk0 h0) (by decide)) rfl ?_
    refine r_iload_n fe_89_21 rfl ?_
    refine r_dup2 fe_89_22 ⟨rfl, rfl⟩ ?_
    by_cases hg5 : ¬ (l1 < 0 ∨ 13 ≤ (l1).toNatClampNeg)
    rotate_left
    · rw [if_neg hg5] at hf; cases hf
    rw [if_pos hg5] at hf
    refine r_iald (j := (Int32.toNatClampNeg l1)) (v := S3.2.1 (l0 + 4) (Int32.toNatClampNeg l1)) fe_89_23 (x_c (wk4 h0) (by decide)) (x_lt (wk4 h0) (by decide)) (fun z => hg5 (Or.inl z)) rfl (fun z => hg5 (Or.inr z)) rfl ?_
    refine r_iconst (v := 1) fe_89_24 (by decide) ?_
    refine r_iload_n fe_89_25 rfl ?_
    refine r_ishl (v := (1 <<< (l2 &&& 31))) fe_89_26 rfl ?_
    refine r_ior (v := ((S3.2.1 (l0 + 4) (Int32.toNatClampNeg l1)) ||| (1 <<< (l2 &&& 31)))) fe_89_27 rfl ?_
    by_cases hg6 : ¬ (l1 < 0 ∨ 13 ≤ (l1).toNatClampNeg)
    rotate_left
    · rw [if_neg hg6] at hf; cases hf
    rw [if_pos hg6] at hf
    refine r_iast (j := (Int32.toNatClampNeg l1)) fe_89_28 (x_h (wk4 h0) (by decide)) (x_lt (wk4 h0) (by decide)) (x_k6 (wk4 h0) (by decide)) (fun z => hg6 (Or.inl z)) rfl (fun z => hg6 (Or.inr z)) ?_
    obtain ⟨S7, e8, hf⟩ := dbnd hf
    refine go_heap (h2 := xst S7 G h) ((x_uA (wk4 h0)).trans (by rw [e8])) ?_
    refine r_aload_n fe_89_29 rfl ?_
    refine r_getf (v := .ref (l0 + 3)) fe_89_30 lf_9_28 (x_c (wk0 h0) (by decide)) (x_lt (wk0 h0) (by decide)) rfl ?_
    refine r_iload_n fe_89_33 rfl ?_
    refine r_dup2 fe_89_34 ⟨rfl, rfl⟩ ?_
    by_cases hg9 : ¬ (l1 < 0 ∨ 13 ≤ (l1).toNatClampNeg)
    rotate_left
    · rw [if_neg hg9] at hf; cases hf
    rw [if_pos hg9] at hf
    refine r_iald (j := (Int32.toNatClampNeg l1)) (v := S7.2.1 (l0 + 3) (Int32.toNatClampNeg l1)) fe_89_35 (x_c (wk3 h0) (by decide)) (x_lt (wk3 h0) (by decide)) (fun z => hg9 (Or.inl z)) rfl (fun z => hg9 (Or.inr z)) rfl ?_
    refine r_iconst (v := 1) fe_89_36 (by decide) ?_
    refine r_iadd (v := ((S7.2.1 (l0 + 3) (Int32.toNatClampNeg l1)) + 1)) fe_89_37 rfl ?_
    by_cases hg10 : ¬ (l1 < 0 ∨ 13 ≤ (l1).toNatClampNeg)
    rotate_left
    · rw [if_neg hg10] at hf; cases hf
    rw [if_pos hg10] at hf
    refine r_iast (j := (Int32.toNatClampNeg l1)) fe_89_38 (x_h (wk3 h0) (by decide)) (x_lt (wk3 h0) (by decide)) (x_k6 (wk3 h0) (by decide)) (fun z => hg10 (Or.inl z)) rfl (fun z => hg10 (Or.inr z)) ?_
    obtain ⟨S11, e12, hf⟩ := dbnd hf
    refine go_heap (h2 := xst S11 G h) ((x_uA (wk3 h0)).trans (by rw [e12])) ?_
    refine r_vret fe_89_39 ?_
    exact dfin (P := fun _ T => Q none (xst T G h)) hf hQ
theorem G89c {xs : Nat → Int32} {L9 d : Nat} {G : gS} {h : Nat → va_E} {l0 : Nat} {n : Nat} {Q : Option Value → AmH → Prop} {r0 : Unit} {S0 S : xS} {l1 : Int32} {l2 : Int32} (h0 : wB G l0 = true) (hf : G89 l0 n l1 l2 S = some (r0, S0)) (hQ : Q none (xst S0 G h)) : Ca (am_X xs L9) (d + 0) 89 [.ref l0, .int l1, .int l2] (xst S G h) Q := (G89l h0 hQ n) l1 l2 S hf
def G87b0 (wb : Nat) (lo : Option Nat) (ln : Nat) (F : Nat → Int32 → Int32 → xS → Option (Unit × xS)) (n : Nat) (l1 : Int32) (l2 : Int32) (S : xS) : Option (Unit × xS) := (if S.2.2.2 109 4 = some wb then (if ¬ (l1 < 0 ∨ 13 ≤ (l1).toNatClampNeg) then (if S.2.2.2 109 3 = some 89 then (if ¬ ((S.2.1 (wb + 1) (Int32.toNatClampNeg l1)) < 0 ∨ 16 ≤ ((S.2.1 (wb + 1) (Int32.toNatClampNeg l1))).toNatClampNeg) then (if am_if .lt (S.2.1 93 (Int32.toNatClampNeg (S.2.1 (wb + 1) (Int32.toNatClampNeg l1)))) = true then F 40 l1 (S.2.1 (wb + 1) (Int32.toNatClampNeg l1)) S else (if am_ic .ne (((S.1 wb 2) >>> ((S.2.1 93 (Int32.toNatClampNeg (S.2.1 (wb + 1) (Int32.toNatClampNeg l1)))) &&& 31)) &&& 1) 1 = true then F 40 l1 (S.2.1 (wb + 1) (Int32.toNatClampNeg l1)) S else some ((), S))) else none) else none) else none) else none)
def G87b40 (wb : Nat) (lo : Option Nat) (ln : Nat) (F : Nat → Int32 → Int32 → xS → Option (Unit × xS)) (n : Nat) (l1 : Int32) (l2 : Int32) (S : xS) : Option (Unit × xS) := (if S.2.2.2 109 4 = some wb then (if ¬ (l1 < 0 ∨ 13 ≤ (l1).toNatClampNeg) then (if am_if .le (S.2.1 (wb + 5) (Int32.toNatClampNeg l1)) = true then (if S.2.2.2 109 3 = some 89 then (if ¬ (l2 < 0 ∨ 16 ≤ (l2).toNatClampNeg) then (if am_if .ge (S.2.1 90 (Int32.toNatClampNeg l2)) = true then (if ¬ (l1 < 0 ∨ 13 ≤ (l1).toNatClampNeg) then ((some (x_sA S (wb + 1) (Int32.toNatClampNeg l1) (S.2.1 90 (Int32.toNatClampNeg l2)))).bind (fun S14 => (if ¬ ((S.2.1 90 (Int32.toNatClampNeg l2)) < 0 ∨ 16 ≤ ((S.2.1 90 (Int32.toNatClampNeg l2))).toNatClampNeg) then (if ¬ (l1 < 0 ∨ 13 ≤ (l1).toNatClampNeg) then ((some (x_sA S14 (wb + 5) (Int32.toNatClampNeg l1) (S14.2.1 91 (Int32.toNatClampNeg (S.2.1 90 (Int32.toNatClampNeg l2)))))).bind (fun S20 => (if ¬ ((S.2.1 90 (Int32.toNatClampNeg l2)) < 0 ∨ 16 ≤ ((S.2.1 90 (Int32.toNatClampNeg l2))).toNatClampNeg) then (if am_if .lt (S20.2.1 92 (Int32.toNatClampNeg (S.2.1 90 (Int32.toNatClampNeg l2)))) = true then some ((), S20) else (if ¬ (l1 < 0 ∨ 13 ≤ (l1).toNatClampNeg) then (if am_ic .ge (S20.2.1 (wb + 3) (Int32.toNatClampNeg l1)) 8 = true then some ((), S20) else (if ¬ ((S20.2.1 92 (Int32.toNatClampNeg (S.2.1 90 (Int32.toNatClampNeg l2)))) < 0 ∨ 6 ≤ ((S20.2.1 92 (Int32.toNatClampNeg (S.2.1 90 (Int32.toNatClampNeg l2))))).toNatClampNeg) then ((G89 wb n l1 (S20.2.1 94 (Int32.toNatClampNeg (S20.2.1 92 (Int32.toNatClampNeg (S.2.1 90 (Int32.toNatClampNeg l2)))))) S20).bind (fun z29 => (if z29.2.2.2.2 109 4 = some wb then (if ¬ ((S20.2.1 92 (Int32.toNatClampNeg (S.2.1 90 (Int32.toNatClampNeg l2)))) < 0 ∨ 6 ≤ ((S20.2.1 92 (Int32.toNatClampNeg (S.2.1 90 (Int32.toNatClampNeg l2))))).toNatClampNeg) then (if ¬ ((S20.2.1 92 (Int32.toNatClampNeg (S.2.1 90 (Int32.toNatClampNeg l2)))) < 0 ∨ 6 ≤ ((S20.2.1 92 (Int32.toNatClampNeg (S.2.1 90 (Int32.toNatClampNeg l2))))).toNatClampNeg) then ((some (x_sA z29.2 (wb + 10) (Int32.toNatClampNeg (S20.2.1 92 (Int32.toNatClampNeg (S.2.1 90 (Int32.toNatClampNeg l2))))) ((z29.2.2.1 (wb + 10) (Int32.toNatClampNeg (S20.2.1 92 (Int32.toNatClampNeg (S.2.1 90 (Int32.toNatClampNeg l2)))))) + 1))).bind (fun S34 => some ((), S34))) else none) else none) else none))) else none)) else none)) else none))) else none) else none))) else none) else ((G88 wb n l1 1 (-1) S).bind (fun z37 => some ((), (x_sI z37.2 109 6 ((z37.2.1 109 6) + 1)))))) else none) else none) else (if ¬ (l1 < 0 ∨ 13 ≤ (l1).toNatClampNeg) then (if ¬ (l1 < 0 ∨ 13 ≤ (l1).toNatClampNeg) then ((some (x_sA S (wb + 5) (Int32.toNatClampNeg l1) ((S.2.1 (wb + 5) (Int32.toNatClampNeg l1)) - 1))).bind (fun S41 => some ((), S41))) else none) else none)) else none) else none)
def G87f (wb : Nat) (lo : Option Nat) (ln : Nat) : Nat → Nat → Int32 → Int32 → xS → Option (Unit × xS)
  | 0, _, _, _, _ => none
  | n + 1, c, l1, l2, S => if c = 0 then G87b0 wb lo ln (G87f wb lo ln n) n l1 l2 S else G87b40 wb lo ln (G87f wb lo ln n) n l1 l2 S
theorem G87e0 (wb : Nat) (lo : Option Nat) (ln : Nat) (n : Nat) (l1 : Int32) (l2 : Int32) (S : xS) : G87f wb lo ln (n + 1) 0 l1 l2 S = G87b0 wb lo ln (G87f wb lo ln n) n l1 l2 S := if_pos rfl
theorem G87e40 (wb : Nat) (lo : Option Nat) (ln : Nat) (n : Nat) (l1 : Int32) (l2 : Int32) (S : xS) : G87f wb lo ln (n + 1) 40 l1 l2 S = G87b40 wb lo ln (G87f wb lo ln n) n l1 l2 S := if_neg (by decide)
def G87 (wb : Nat) (lo : Option Nat) (ln : Nat) (n : Nat) (l1 : Int32) (S : xS) : Option (Unit × xS) := G87f wb lo ln n 0 l1 0 S
set_option maxRecDepth 20000 in
set_option maxHeartbeats 4000000 in
theorem G87l {xs : Nat → Int32} {L9 d : Nat} {G : gS} {h : Nat → va_E} {wb : Nat} {lo : Option Nat} {ln : Nat} {Q : Option Value → AmH → Prop} {r0 : Unit} {S0 : xS} (hw : wB G wb = true) (hl : lwB G lo ln = true) (hQ : Q none (xst S0 G h)) : ∀ n : Nat, (∀ (l1 : Int32) (l2 : Int32) (S : xS), G87f wb lo ln n 0 l1 l2 S = some (r0, S0) → Go (am_X xs L9) (d + 1) 87 0 [.ref 109, .int l1, .float 0, .float 0, .float 0, .float 0] [] (xst S G h) Q) ∧ (∀ (l1 : Int32) (l2 : Int32) (S : xS), G87f wb lo ln n 40 l1 l2 S = some (r0, S0) → Go (am_X xs L9) (d + 1) 87 40 [.ref 109, .int l1, .int l2, .float 0, .float 0, .float 0] [] (xst S G h) Q) := by
  intro n
  induction n with
  | zero => exact ⟨fun l1 l2 S hf => (by cases hf), fun l1 l2 S hf => (by cases hf)⟩
  | succ n ih =>
    refine ⟨?_, ?_⟩
    · intro l1 l2 S hf
      rw [G87e0] at hf
      unfold G87b0 at hf
      refine r_aload_n fe_87_0 rfl ?_
      by_cases hm1 : S.2.2.2 109 4 = some wb
      rotate_left
      · rw [if_neg hm1] at hf; cases hf
      rw [if_pos hm1] at hf
      refine r_getf (v := .ref wb) fe_87_1 lf_7_31 (x_c xk_109 (by decide)) (x_lt xk_109 (by decide)) (by show some (va_rf _) = _; rw [hm1]; rfl) ?_
      refine r_getf (v := .ref (wb + 1)) fe_87_4 lf_7_80 (x_c (wk0 hw) (by decide)) (x_lt (wk0 hw) (by decide)) rfl ?_
      refine r_iload_n fe_87_7 rfl ?_
      by_cases hg2 : ¬ (l1 < 0 ∨ 13 ≤ (l1).toNatClampNeg)
      rotate_left
      · rw [if_neg hg2] at hf; cases hf
      rw [if_pos hg2] at hf
      refine r_iald (j := (Int32.toNatClampNeg l1)) (v := S.2.1 (wb + 1) (Int32.toNatClampNeg l1)) fe_87_8 (x_c (wk1 hw) (by decide)) (x_lt (wk1 hw) (by decide)) (fun z => hg2 (Or.inl z)) rfl (fun z => hg2 (Or.inr z)) rfl ?_
      refine r_istore_n fe_87_9 (Nat.le_of_ble_eq_true rfl) rfl ?_
      refine r_aload_n fe_87_10 rfl ?_
      by_cases hm3 : S.2.2.2 109 3 = some 89
      rotate_left
      · rw [if_neg hm3] at hf; cases hf
      rw [if_pos hm3] at hf
      refine r_getf (v := .ref 89) fe_87_11 lf_7_27 (x_c xk_109 (by decide)) (x_lt xk_109 (by decide)) (by show some (va_rf _) = _; rw [hm3]; rfl) ?_
      refine r_getf (v := .ref 93) fe_87_14 lf_7_104 (x_c xk_89 (by decide)) (x_lt xk_89 (by decide)) rfl ?_
      refine r_iload_n fe_87_17 rfl ?_
      by_cases hg4 : ¬ ((S.2.1 (wb + 1) (Int32.toNatClampNeg l1)) < 0 ∨ 16 ≤ ((S.2.1 (wb + 1) (Int32.toNatClampNeg l1))).toNatClampNeg)
      rotate_left
      · rw [if_neg hg4] at hf; cases hf
      rw [if_pos hg4] at hf
      refine r_iald (j := (Int32.toNatClampNeg (S.2.1 (wb + 1) (Int32.toNatClampNeg l1)))) (v := S.2.1 93 (Int32.toNatClampNeg (S.2.1 (wb + 1) (Int32.toNatClampNeg l1)))) fe_87_18 (x_c xk_93 (by decide)) (x_lt xk_93 (by decide)) (fun z => hg4 (Or.inl z)) rfl (fun z => hg4 (Or.inr z)) rfl ?_
      refine r_istore_n fe_87_19 (Nat.le_of_ble_eq_true rfl) rfl ?_
      refine r_iload_n fe_87_20 rfl ?_
      by_cases hb5 : am_if .lt (S.2.1 93 (Int32.toNatClampNeg (S.2.1 (wb + 1) (Int32.toNatClampNeg l1)))) = true
      · rw [if_pos hb5] at hf
        refine r_if_t (t := 40) fe_87_21 (by decide) hb5 ?_
        refine go_weak (L0 := [.ref 109, .int l1, .int (S.2.1 (wb + 1) (Int32.toNatClampNeg l1)), .float 0, .float 0, .float 0]) (lwk_c (Or.inl rfl) (lwk_c (Or.inl rfl) (lwk_c (Or.inl rfl) (lwk_c (Or.inr rfl) (lwk_c (Or.inl rfl) (lwk_c (Or.inl rfl) (lwk_rf []))))))) ?_
        exact ih.2 l1 (S.2.1 (wb + 1) (Int32.toNatClampNeg l1)) S hf
      · rw [if_neg hb5] at hf
        refine r_if_f (t := 40) fe_87_21 (by decide) (Bool.eq_false_iff.mpr hb5) ?_
        refine r_aload_n fe_87_24 rfl ?_
        refine r_getf (v := .ref wb) fe_87_25 lf_7_31 (x_c xk_109 (by decide)) (x_lt xk_109 (by decide)) (by show some (va_rf _) = _; rw [hm1]; rfl) ?_
        refine r_getf (v := .int (S.1 wb 2)) fe_87_28 lf_7_109 (x_c (wk0 hw) (by decide)) (x_lt (wk0 hw) (by decide)) rfl ?_
        refine r_iload_n fe_87_31 rfl ?_
        refine r_ishr (v := ((S.1 wb 2) >>> ((S.2.1 93 (Int32.toNatClampNeg (S.2.1 (wb + 1) (Int32.toNatClampNeg l1)))) &&& 31))) fe_87_32 rfl ?_
        refine r_iconst (v := 1) fe_87_33 (by decide) ?_
        refine r_iand (v := (((S.1 wb 2) >>> ((S.2.1 93 (Int32.toNatClampNeg (S.2.1 (wb + 1) (Int32.toNatClampNeg l1)))) &&& 31)) &&& 1)) fe_87_34 rfl ?_
        refine r_iconst (v := 1) fe_87_35 (by decide) ?_
        by_cases hb6 : am_ic .ne (((S.1 wb 2) >>> ((S.2.1 93 (Int32.toNatClampNeg (S.2.1 (wb + 1) (Int32.toNatClampNeg l1)))) &&& 31)) &&& 1) 1 = true
        · rw [if_pos hb6] at hf
          refine r_ic_t (t := 40) fe_87_36 (by decide) hb6 ?_
          refine go_weak (L0 := [.ref 109, .int l1, .int (S.2.1 (wb + 1) (Int32.toNatClampNeg l1)), .float 0, .float 0, .float 0]) (lwk_c (Or.inl rfl) (lwk_c (Or.inl rfl) (lwk_c (Or.inl rfl) (lwk_c (Or.inr rfl) (lwk_c (Or.inl rfl) (lwk_c (Or.inl rfl) (lwk_rf []))))))) ?_
          exact ih.2 l1 (S.2.1 (wb + 1) (Int32.toNatClampNeg l1)) S hf
        · rw [if_neg hb6] at hf
          refine r_ic_f (t := 40) fe_87_36 (by decide) (Bool.eq_false_iff.mpr hb6) ?_
          refine r_vret fe_87_39 ?_
          exact dfin (P := fun _ T => Q none (xst T G h)) hf hQ
    · intro l1 l2 S hf
      rw [G87e40] at hf
      unfold G87b40 at hf
      refine r_aload_n fe_87_40 rfl ?_
      by_cases hm7 : S.2.2.2 109 4 = some wb
      rotate_left
      · rw [if_neg hm7] at hf; cases hf
      rw [if_pos hm7] at hf
      refine r_getf (v := .ref wb) fe_87_41 lf_7_31 (x_c xk_109 (by decide)) (x_lt xk_109 (by decide)) (by show some (va_rf _) = _; rw [hm7]; rfl) ?_
      refine r_getf (v := .ref (wb + 5)) fe_87_44 lf_7_112 (x_c (wk0 hw) (by decide)) (x_lt (wk0 hw) (by decide)) rfl ?_
      refine r_iload_n fe_87_47 rfl ?_
      by_cases hg8 : ¬ (l1 < 0 ∨ 13 ≤ (l1).toNatClampNeg)
      rotate_left
      · rw [if_neg hg8] at hf; cases hf
      rw [if_pos hg8] at hf
      refine r_iald (j := (Int32.toNatClampNeg l1)) (v := S.2.1 (wb + 5) (Int32.toNatClampNeg l1)) fe_87_48 (x_c (wk5 hw) (by decide)) (x_lt (wk5 hw) (by decide)) (fun z => hg8 (Or.inl z)) rfl (fun z => hg8 (Or.inr z)) rfl ?_
      by_cases hb9 : am_if .le (S.2.1 (wb + 5) (Int32.toNatClampNeg l1)) = true
      · rw [if_pos hb9] at hf
        refine r_if_t (t := 66) fe_87_49 (by decide) hb9 ?_
        refine r_aload_n fe_87_66 rfl ?_
        by_cases hm10 : S.2.2.2 109 3 = some 89
        rotate_left
        · rw [if_neg hm10] at hf; cases hf
        rw [if_pos hm10] at hf
        refine r_getf (v := .ref 89) fe_87_67 lf_7_27 (x_c xk_109 (by decide)) (x_lt xk_109 (by decide)) (by show some (va_rf _) = _; rw [hm10]; rfl) ?_
        refine r_getf (v := .ref 90) fe_87_70 lf_7_115 (x_c xk_89 (by decide)) (x_lt xk_89 (by decide)) rfl ?_
        refine r_iload_n fe_87_73 rfl ?_
        by_cases hg11 : ¬ (l2 < 0 ∨ 16 ≤ (l2).toNatClampNeg)
        rotate_left
        · rw [if_neg hg11] at hf; cases hf
        rw [if_pos hg11] at hf
        refine r_iald (j := (Int32.toNatClampNeg l2)) (v := S.2.1 90 (Int32.toNatClampNeg l2)) fe_87_74 (x_c xk_90 (by decide)) (x_lt xk_90 (by decide)) (fun z => hg11 (Or.inl z)) rfl (fun z => hg11 (Or.inr z)) rfl ?_
        refine r_istore fe_87_75 (Nat.le_of_ble_eq_true rfl) rfl ?_
        refine r_iload fe_87_77 rfl ?_
        by_cases hb12 : am_if .ge (S.2.1 90 (Int32.toNatClampNeg l2)) = true
        · rw [if_pos hb12] at hf
          refine r_if_t (t := 103) fe_87_79 (by decide) hb12 ?_
          refine r_aload_n fe_87_103 rfl ?_
          refine r_getf (v := .ref wb) fe_87_104 lf_7_31 (x_c xk_109 (by decide)) (x_lt xk_109 (by decide)) (by show some (va_rf _) = _; rw [hm7]; rfl) ?_
          refine r_getf (v := .ref (wb + 1)) fe_87_107 lf_7_80 (x_c (wk0 hw) (by decide)) (x_lt (wk0 hw) (by decide)) rfl ?_
          refine r_iload_n fe_87_110 rfl ?_
          refine r_iload fe_87_111 rfl ?_
          by_cases hg13 : ¬ (l1 < 0 ∨ 13 ≤ (l1).toNatClampNeg)
          rotate_left
          · rw [if_neg hg13] at hf; cases hf
          rw [if_pos hg13] at hf
          refine r_iast (j := (Int32.toNatClampNeg l1)) fe_87_113 (x_h (wk1 hw) (by decide)) (x_lt (wk1 hw) (by decide)) (x_k6 (wk1 hw) (by decide)) (fun z => hg13 (Or.inl z)) rfl (fun z => hg13 (Or.inr z)) ?_
          obtain ⟨S14, e15, hf⟩ := dbnd hf
          refine go_heap (h2 := xst S14 G h) ((x_uA (wk1 hw)).trans (by rw [e15])) ?_
          have hm16 : S14.2.2.2 109 4 = some wb := (congrArg (fun T => T.2.2.2 109 4) e15).trans hm7
          have hm17 : S14.2.2.2 109 3 = some 89 := (congrArg (fun T => T.2.2.2 109 3) e15).trans hm10
          refine r_aload_n fe_87_114 rfl ?_
          refine r_getf (v := .ref wb) fe_87_115 lf_7_31 (x_c xk_109 (by decide)) (x_lt xk_109 (by decide)) (by show some (va_rf _) = _; rw [hm16]; rfl) ?_
          refine r_getf (v := .ref (wb + 5)) fe_87_118 lf_7_112 (x_c (wk0 hw) (by decide)) (x_lt (wk0 hw) (by decide)) rfl ?_
          refine r_iload_n fe_87_121 rfl ?_
          refine r_aload_n fe_87_122 rfl ?_
          refine r_getf (v := .ref 89) fe_87_123 lf_7_27 (x_c xk_109 (by decide)) (x_lt xk_109 (by decide)) (by show some (va_rf _) = _; rw [hm17]; rfl) ?_
          refine r_getf (v := .ref 91) fe_87_126 lf_7_122 (x_c xk_89 (by decide)) (x_lt xk_89 (by decide)) rfl ?_
          refine r_iload fe_87_129 rfl ?_
          by_cases hg18 : ¬ ((S.2.1 90 (Int32.toNatClampNeg l2)) < 0 ∨ 16 ≤ ((S.2.1 90 (Int32.toNatClampNeg l2))).toNatClampNeg)
          rotate_left
          · rw [if_neg hg18] at hf; cases hf
          rw [if_pos hg18] at hf
          refine r_iald (j := (Int32.toNatClampNeg (S.2.1 90 (Int32.toNatClampNeg l2)))) (v := S14.2.1 91 (Int32.toNatClampNeg (S.2.1 90 (Int32.toNatClampNeg l2)))) fe_87_131 (x_c xk_91 (by decide)) (x_lt xk_91 (by decide)) (fun z => hg18 (Or.inl z)) rfl (fun z => hg18 (Or.inr z)) rfl ?_
          by_cases hg19 : ¬ (l1 < 0 ∨ 13 ≤ (l1).toNatClampNeg)
          rotate_left
          · rw [if_neg hg19] at hf; cases hf
          rw [if_pos hg19] at hf
          refine r_iast (j := (Int32.toNatClampNeg l1)) fe_87_132 (x_h (wk5 hw) (by decide)) (x_lt (wk5 hw) (by decide)) (x_k6 (wk5 hw) (by decide)) (fun z => hg19 (Or.inl z)) rfl (fun z => hg19 (Or.inr z)) ?_
          obtain ⟨S20, e21, hf⟩ := dbnd hf
          refine go_heap (h2 := xst S20 G h) ((x_uA (wk5 hw)).trans (by rw [e21])) ?_
          have hm22 : S20.2.2.2 109 4 = some wb := (congrArg (fun T => T.2.2.2 109 4) e21).trans hm16
          have hm23 : S20.2.2.2 109 3 = some 89 := (congrArg (fun T => T.2.2.2 109 3) e21).trans hm17
          refine r_aload_n fe_87_133 rfl ?_
          refine r_getf (v := .ref 89) fe_87_134 lf_7_27 (x_c xk_109 (by decide)) (x_lt xk_109 (by decide)) (by show some (va_rf _) = _; rw [hm23]; rfl) ?_
          refine r_getf (v := .ref 92) fe_87_137 lf_7_125 (x_c xk_89 (by decide)) (x_lt xk_89 (by decide)) rfl ?_
          refine r_iload fe_87_140 rfl ?_
          by_cases hg24 : ¬ ((S.2.1 90 (Int32.toNatClampNeg l2)) < 0 ∨ 16 ≤ ((S.2.1 90 (Int32.toNatClampNeg l2))).toNatClampNeg)
          rotate_left
          · rw [if_neg hg24] at hf; cases hf
          rw [if_pos hg24] at hf
          refine r_iald (j := (Int32.toNatClampNeg (S.2.1 90 (Int32.toNatClampNeg l2)))) (v := S20.2.1 92 (Int32.toNatClampNeg (S.2.1 90 (Int32.toNatClampNeg l2)))) fe_87_142 (x_c xk_92 (by decide)) (x_lt xk_92 (by decide)) (fun z => hg24 (Or.inl z)) rfl (fun z => hg24 (Or.inr z)) rfl ?_
          refine r_istore fe_87_143 (Nat.le_of_ble_eq_true rfl) rfl ?_
          refine r_iload fe_87_145 rfl ?_
          by_cases hb25 : am_if .lt (S20.2.1 92 (Int32.toNatClampNeg (S.2.1 90 (Int32.toNatClampNeg l2)))) = true
          · rw [if_pos hb25] at hf
            refine r_if_t (t := 196) fe_87_147 (by decide) hb25 ?_
            refine r_vret fe_87_196 ?_
            exact dfin (P := fun _ T => Q none (xst T G h)) hf hQ
          · rw [if_neg hb25] at hf
            refine r_if_f (t := 196) fe_87_147 (by decide) (Bool.eq_false_iff.mpr hb25) ?_
            refine r_aload_n fe_87_150 rfl ?_
            refine r_getf (v := .ref wb) fe_87_151 lf_7_31 (x_c xk_109 (by decide)) (x_lt xk_109 (by decide)) (by show some (va_rf _) = _; rw [hm22]; rfl) ?_
            refine r_getf (v := .ref (wb + 3)) fe_87_154 lf_7_128 (x_c (wk0 hw) (by decide)) (x_lt (wk0 hw) (by decide)) rfl ?_
            refine r_iload_n fe_87_157 rfl ?_
            by_cases hg26 : ¬ (l1 < 0 ∨ 13 ≤ (l1).toNatClampNeg)
            rotate_left
            · rw [if_neg hg26] at hf; cases hf
            rw [if_pos hg26] at hf
            refine r_iald (j := (Int32.toNatClampNeg l1)) (v := S20.2.1 (wb + 3) (Int32.toNatClampNeg l1)) fe_87_158 (x_c (wk3 hw) (by decide)) (x_lt (wk3 hw) (by decide)) (fun z => hg26 (Or.inl z)) rfl (fun z => hg26 (Or.inr z)) rfl ?_
            refine r_bipush (v := 8) fe_87_159 (by decide) ?_
            by_cases hb27 : am_ic .ge (S20.2.1 (wb + 3) (Int32.toNatClampNeg l1)) 8 = true
            · rw [if_pos hb27] at hf
              refine r_ic_t (t := 196) fe_87_161 (by decide) hb27 ?_
              refine r_vret fe_87_196 ?_
              exact dfin (P := fun _ T => Q none (xst T G h)) hf hQ
            · rw [if_neg hb27] at hf
              refine r_ic_f (t := 196) fe_87_161 (by decide) (Bool.eq_false_iff.mpr hb27) ?_
              refine r_aload_n fe_87_164 rfl ?_
              refine r_getf (v := .ref wb) fe_87_165 lf_7_31 (x_c xk_109 (by decide)) (x_lt xk_109 (by decide)) (by show some (va_rf _) = _; rw [hm22]; rfl) ?_
              refine r_iload_n fe_87_168 rfl ?_
              refine r_aload_n fe_87_169 rfl ?_
              refine r_getf (v := .ref 89) fe_87_170 lf_7_27 (x_c xk_109 (by decide)) (x_lt xk_109 (by decide)) (by show some (va_rf _) = _; rw [hm23]; rfl) ?_
              refine r_getf (v := .ref 94) fe_87_173 lf_7_131 (x_c xk_89 (by decide)) (x_lt xk_89 (by decide)) rfl ?_
              refine r_iload fe_87_176 rfl ?_
              by_cases hg28 : ¬ ((S20.2.1 92 (Int32.toNatClampNeg (S.2.1 90 (Int32.toNatClampNeg l2)))) < 0 ∨ 6 ≤ ((S20.2.1 92 (Int32.toNatClampNeg (S.2.1 90 (Int32.toNatClampNeg l2))))).toNatClampNeg)
              rotate_left
              · rw [if_neg hg28] at hf; cases hf
              rw [if_pos hg28] at hf
              refine r_iald (j := (Int32.toNatClampNeg (S20.2.1 92 (Int32.toNatClampNeg (S.2.1 90 (Int32.toNatClampNeg l2)))))) (v := S20.2.1 94 (Int32.toNatClampNeg (S20.2.1 92 (Int32.toNatClampNeg (S.2.1 90 (Int32.toNatClampNeg l2)))))) fe_87_178 (x_c xk_94 (by decide)) (x_lt xk_94 (by decide)) (fun z => hg28 (Or.inl z)) rfl (fun z => hg28 (Or.inr z)) rfl ?_
              refine r_callV (as := [.int l1, .int (S20.2.1 94 (Int32.toNatClampNeg (S20.2.1 92 (Int32.toNatClampNeg (S.2.1 90 (Int32.toNatClampNeg l2))))))]) (r := []) fe_87_179 lm_7_134 md_89 rfl rfl (Nat.le_of_ble_eq_true rfl) (x_c (wk0 hw) (by decide)) (x_lt (wk0 hw) (by decide)) (Nat.le_of_ble_eq_true rfl) (Nat.le_of_ble_eq_true rfl) ?_
              cases hc30 : G89 wb n l1 (S20.2.1 94 (Int32.toNatClampNeg (S20.2.1 92 (Int32.toNatClampNeg (S.2.1 90 (Int32.toNatClampNeg l2)))))) S20 with
              | none => rw [hc30] at hf; cases hf
              | some z29 =>
                rw [hc30, Option.bind_some] at hf
                refine G89c (r0 := z29.1) (S0 := z29.2) (h0 := hw) (hf := hc30) ?_
                refine r_aload_n fe_87_182 rfl ?_
                by_cases hm31 : z29.2.2.2.2 109 4 = some wb
                rotate_left
                · rw [if_neg hm31] at hf; cases hf
                rw [if_pos hm31] at hf
                refine r_getf (v := .ref wb) fe_87_183 lf_7_31 (x_c xk_109 (by decide)) (x_lt xk_109 (by decide)) (by show some (va_rf _) = _; rw [hm31]; rfl) ?_
                refine r_getf (v := .ref (wb + 10)) fe_87_186 lf_7_138 (x_c (wk0 hw) (by decide)) (x_lt (wk0 hw) (by decide)) rfl ?_
                refine r_iload fe_87_189 rfl ?_
                refine r_dup2 fe_87_191 ⟨rfl, rfl⟩ ?_
                by_cases hg32 : ¬ ((S20.2.1 92 (Int32.toNatClampNeg (S.2.1 90 (Int32.toNatClampNeg l2)))) < 0 ∨ 6 ≤ ((S20.2.1 92 (Int32.toNatClampNeg (S.2.1 90 (Int32.toNatClampNeg l2))))).toNatClampNeg)
                rotate_left
                · rw [if_neg hg32] at hf; cases hf
                rw [if_pos hg32] at hf
                refine r_iald (j := (Int32.toNatClampNeg (S20.2.1 92 (Int32.toNatClampNeg (S.2.1 90 (Int32.toNatClampNeg l2)))))) (v := z29.2.2.1 (wb + 10) (Int32.toNatClampNeg (S20.2.1 92 (Int32.toNatClampNeg (S.2.1 90 (Int32.toNatClampNeg l2)))))) fe_87_192 (x_c (wk10 hw) (by decide)) (x_lt (wk10 hw) (by decide)) (fun z => hg32 (Or.inl z)) rfl (fun z => hg32 (Or.inr z)) rfl ?_
                refine r_iconst (v := 1) fe_87_193 (by decide) ?_
                refine r_iadd (v := ((z29.2.2.1 (wb + 10) (Int32.toNatClampNeg (S20.2.1 92 (Int32.toNatClampNeg (S.2.1 90 (Int32.toNatClampNeg l2)))))) + 1)) fe_87_194 rfl ?_
                by_cases hg33 : ¬ ((S20.2.1 92 (Int32.toNatClampNeg (S.2.1 90 (Int32.toNatClampNeg l2)))) < 0 ∨ 6 ≤ ((S20.2.1 92 (Int32.toNatClampNeg (S.2.1 90 (Int32.toNatClampNeg l2))))).toNatClampNeg)
                rotate_left
                · rw [if_neg hg33] at hf; cases hf
                rw [if_pos hg33] at hf
                refine r_iast (j := (Int32.toNatClampNeg (S20.2.1 92 (Int32.toNatClampNeg (S.2.1 90 (Int32.toNatClampNeg l2)))))) fe_87_195 (x_h (wk10 hw) (by decide)) (x_lt (wk10 hw) (by decide)) (x_k6 (wk10 hw) (by decide)) (fun z => hg33 (Or.inl z)) rfl (fun z => hg33 (Or.inr z)) ?_
                obtain ⟨S34, e35, hf⟩ := dbnd hf
                refine go_heap (h2 := xst S34 G h) ((x_uA (wk10 hw)).trans (by rw [e35])) ?_
                have hm36 : S34.2.2.2 109 4 = some wb := (congrArg (fun T => T.2.2.2 109 4) e35).trans hm31
                refine r_vret fe_87_196 ?_
                exact dfin (P := fun _ T => Q none (xst T G h)) hf hQ
        · rw [if_neg hb12] at hf
          refine r_if_f (t := 103) fe_87_79 (by decide) (Bool.eq_false_iff.mpr hb12) ?_
          refine r_aload_n fe_87_82 rfl ?_
          refine r_getf (v := .ref wb) fe_87_83 lf_7_31 (x_c xk_109 (by decide)) (x_lt xk_109 (by decide)) (by show some (va_rf _) = _; rw [hm7]; rfl) ?_
          refine r_iload_n fe_87_86 rfl ?_
          refine r_iconst (v := 1) fe_87_87 (by decide) ?_
          refine r_iconst (v := -1) fe_87_88 (by decide) ?_
          refine r_callV (as := [.int l1, .int 1, .int (-1)]) (r := []) fe_87_89 lm_7_118 md_88 rfl rfl (Nat.le_of_ble_eq_true rfl) (x_c (wk0 hw) (by decide)) (x_lt (wk0 hw) (by decide)) (Nat.le_of_ble_eq_true rfl) (Nat.le_of_ble_eq_true rfl) ?_
          cases hc38 : G88 wb n l1 1 (-1) S with
          | none => rw [hc38] at hf; cases hf
          | some z37 =>
            rw [hc38, Option.bind_some] at hf
            refine G88c (r0 := z37.1) (S0 := z37.2) (h0 := hw) (hf := hc38) ?_
            refine r_aload_n fe_87_92 rfl ?_
            refine r_dup fe_87_93 rfl ?_
            refine r_getf (v := .int (z37.2.1 109 6)) fe_87_94 lf_7_38 (x_c xk_109 (by decide)) (x_lt xk_109 (by decide)) rfl ?_
            refine r_iconst (v := 1) fe_87_97 (by decide) ?_
            refine r_iadd (v := ((z37.2.1 109 6) + 1)) fe_87_98 rfl ?_
            refine r_putf fe_87_99 lf_7_38 (x_h xk_109 (by decide)) (x_lt xk_109 (by decide)) (by decide) (Nat.le_of_ble_eq_true rfl) rfl rfl (Or.inl rfl) ?_
            refine go_heap (x_uI (j := 6) (x := ((z37.2.1 109 6) + 1)) xk_109 (by decide)) ?_
            refine r_vret fe_87_102 ?_
            exact dfin (P := fun _ T => Q none (xst T G h)) hf hQ
      · rw [if_neg hb9] at hf
        refine r_if_f (t := 66) fe_87_49 (by decide) (Bool.eq_false_iff.mpr hb9) ?_
        refine r_aload_n fe_87_52 rfl ?_
        refine r_getf (v := .ref wb) fe_87_53 lf_7_31 (x_c xk_109 (by decide)) (x_lt xk_109 (by decide)) (by show some (va_rf _) = _; rw [hm7]; rfl) ?_
        refine r_getf (v := .ref (wb + 5)) fe_87_56 lf_7_112 (x_c (wk0 hw) (by decide)) (x_lt (wk0 hw) (by decide)) rfl ?_
        refine r_iload_n fe_87_59 rfl ?_
        refine r_dup2 fe_87_60 ⟨rfl, rfl⟩ ?_
        by_cases hg39 : ¬ (l1 < 0 ∨ 13 ≤ (l1).toNatClampNeg)
        rotate_left
        · rw [if_neg hg39] at hf; cases hf
        rw [if_pos hg39] at hf
        refine r_iald (j := (Int32.toNatClampNeg l1)) (v := S.2.1 (wb + 5) (Int32.toNatClampNeg l1)) fe_87_61 (x_c (wk5 hw) (by decide)) (x_lt (wk5 hw) (by decide)) (fun z => hg39 (Or.inl z)) rfl (fun z => hg39 (Or.inr z)) rfl ?_
        refine r_iconst (v := 1) fe_87_62 (by decide) ?_
        refine r_isub (v := ((S.2.1 (wb + 5) (Int32.toNatClampNeg l1)) - 1)) fe_87_63 rfl ?_
        by_cases hg40 : ¬ (l1 < 0 ∨ 13 ≤ (l1).toNatClampNeg)
        rotate_left
        · rw [if_neg hg40] at hf; cases hf
        rw [if_pos hg40] at hf
        refine r_iast (j := (Int32.toNatClampNeg l1)) fe_87_64 (x_h (wk5 hw) (by decide)) (x_lt (wk5 hw) (by decide)) (x_k6 (wk5 hw) (by decide)) (fun z => hg40 (Or.inl z)) rfl (fun z => hg40 (Or.inr z)) ?_
        obtain ⟨S41, e42, hf⟩ := dbnd hf
        refine go_heap (h2 := xst S41 G h) ((x_uA (wk5 hw)).trans (by rw [e42])) ?_
        have hm43 : S41.2.2.2 109 4 = some wb := (congrArg (fun T => T.2.2.2 109 4) e42).trans hm7
        refine r_vret fe_87_65 ?_
        exact dfin (P := fun _ T => Q none (xst T G h)) hf hQ
theorem G87c {xs : Nat → Int32} {L9 d : Nat} {G : gS} {h : Nat → va_E} {wb : Nat} {lo : Option Nat} {ln : Nat} {n : Nat} {Q : Option Value → AmH → Prop} {r0 : Unit} {S0 S : xS} {l1 : Int32} (hw : wB G wb = true) (hl : lwB G lo ln = true) (hf : G87 wb lo ln n l1 S = some (r0, S0)) (hQ : Q none (xst S0 G h)) : Ca (am_X xs L9) (d + 1) 87 [.ref 109, .int l1] (xst S G h) Q := (G87l hw hl hQ n).1 l1 0 S hf
def G90b0 (l0 : Nat) (F : Nat → Int32 → Int32 → Int32 → Int32 → xS → Option (Int32 × xS)) (n : Nat) (l1 : Int32) (l2 : Int32) (l3 : Int32) (l4 : Int32) (S : xS) : Option (Int32 × xS) := F 7 l1 0 0 0 S
def G90b7 (l0 : Nat) (F : Nat → Int32 → Int32 → Int32 → Int32 → xS → Option (Int32 × xS)) (n : Nat) (l1 : Int32) (l2 : Int32) (l3 : Int32) (l4 : Int32) (S : xS) : Option (Int32 × xS) := (if am_ic .ge l4 (S.1 l0 1) = true then (if am_ic .ne l1 1 = true then some (l3, S) else some (l2, S)) else (if ¬ (l4 < 0 ∨ 13 ≤ (l4).toNatClampNeg) then (if am_if .lt (S.2.1 (l0 + 1) (Int32.toNatClampNeg l4)) = true then F 7 l1 l2 l3 (l4 + 1) S else (if ¬ (l4 < 0 ∨ 13 ≤ (l4).toNatClampNeg) then F 7 l1 (l2 ||| (1 <<< ((S.2.1 (l0 + 1) (Int32.toNatClampNeg l4)) &&& 31))) (l3 ||| (l2 &&& (1 <<< ((S.2.1 (l0 + 1) (Int32.toNatClampNeg l4)) &&& 31)))) (l4 + 1) S else none)) else none))
def G90f (l0 : Nat) : Nat → Nat → Int32 → Int32 → Int32 → Int32 → xS → Option (Int32 × xS)
  | 0, _, _, _, _, _, _ => none
  | n + 1, c, l1, l2, l3, l4, S => if c = 0 then G90b0 l0 (G90f l0 n) n l1 l2 l3 l4 S else G90b7 l0 (G90f l0 n) n l1 l2 l3 l4 S
theorem G90e0 (l0 : Nat) (n : Nat) (l1 : Int32) (l2 : Int32) (l3 : Int32) (l4 : Int32) (S : xS) : G90f l0 (n + 1) 0 l1 l2 l3 l4 S = G90b0 l0 (G90f l0 n) n l1 l2 l3 l4 S := if_pos rfl
theorem G90e7 (l0 : Nat) (n : Nat) (l1 : Int32) (l2 : Int32) (l3 : Int32) (l4 : Int32) (S : xS) : G90f l0 (n + 1) 7 l1 l2 l3 l4 S = G90b7 l0 (G90f l0 n) n l1 l2 l3 l4 S := if_neg (by decide)
def G90 (l0 : Nat) (n : Nat) (l1 : Int32) (S : xS) : Option (Int32 × xS) := G90f l0 n 0 l1 0 0 0 S
set_option maxRecDepth 20000 in
set_option maxHeartbeats 4000000 in
theorem G90l {xs : Nat → Int32} {L9 d : Nat} {G : gS} {h : Nat → va_E} {l0 : Nat} {Q : Option Value → AmH → Prop} {r0 : Int32} {S0 : xS} (h0 : wB G l0 = true) (hQ : Q (some (.int r0)) (xst S0 G h)) : ∀ n : Nat, (∀ (l1 : Int32) (l2 : Int32) (l3 : Int32) (l4 : Int32) (S : xS), G90f l0 n 0 l1 l2 l3 l4 S = some (r0, S0) → Go (am_X xs L9) (d + 0) 90 0 [.ref l0, .int l1, .float 0, .float 0, .float 0, .float 0] [] (xst S G h) Q) ∧ (∀ (l1 : Int32) (l2 : Int32) (l3 : Int32) (l4 : Int32) (S : xS), G90f l0 n 7 l1 l2 l3 l4 S = some (r0, S0) → Go (am_X xs L9) (d + 0) 90 7 [.ref l0, .int l1, .int l2, .int l3, .int l4, .float 0] [] (xst S G h) Q) := by
  intro n
  induction n with
  | zero => exact ⟨fun l1 l2 l3 l4 S hf => (by cases hf), fun l1 l2 l3 l4 S hf => (by cases hf)⟩
  | succ n ih =>
    refine ⟨?_, ?_⟩
    · intro l1 l2 l3 l4 S hf
      rw [G90e0] at hf
      unfold G90b0 at hf
      refine r_iconst (v := 0) fe_90_0 (by decide) ?_
      refine r_istore_n fe_90_1 (Nat.le_of_ble_eq_true rfl) rfl ?_
      refine r_iconst (v := 0) fe_90_2 (by decide) ?_
      refine r_istore_n fe_90_3 (Nat.le_of_ble_eq_true rfl) rfl ?_
      refine r_iconst (v := 0) fe_90_4 (by decide) ?_
      refine r_istore fe_90_5 (Nat.le_of_ble_eq_true rfl) rfl ?_
      refine go_weak (L0 := [.ref l0, .int l1, .int 0, .int 0, .int 0, .float 0]) (lwk_c (Or.inl rfl) (lwk_c (Or.inl rfl) (lwk_c (Or.inl rfl) (lwk_c (Or.inl rfl) (lwk_c (Or.inl rfl) (lwk_c (Or.inl rfl) (lwk_rf []))))))) ?_
      exact ih.2 l1 0 0 0 S hf
    · intro l1 l2 l3 l4 S hf
      rw [G90e7] at hf
      unfold G90b7 at hf
      refine r_iload fe_90_7 rfl ?_
      refine r_aload_n fe_90_9 rfl ?_
      refine r_getf (v := .int (S.1 l0 1)) fe_90_10 lf_9_15 (x_c (wk0 h0) (by decide)) (x_lt (wk0 h0) (by decide)) rfl ?_
      by_cases hb1 : am_ic .ge l4 (S.1 l0 1) = true
      · rw [if_pos hb1] at hf
        refine r_ic_t (t := 55) fe_90_13 (by decide) hb1 ?_
        refine r_iload_n fe_90_55 rfl ?_
        refine r_iconst (v := 1) fe_90_56 (by decide) ?_
        by_cases hb2 : am_ic .ne l1 1 = true
        · rw [if_pos hb2] at hf
          refine r_ic_t (t := 64) fe_90_57 (by decide) hb2 ?_
          refine r_iload_n fe_90_64 rfl ?_
          refine r_iret fe_90_65 ⟨rfl, by decide⟩ ?_
          exact dfin (P := fun r T => Q (some (.int r)) (xst T G h)) hf hQ
        · rw [if_neg hb2] at hf
          refine r_ic_f (t := 64) fe_90_57 (by decide) (Bool.eq_false_iff.mpr hb2) ?_
          refine r_iload_n fe_90_60 rfl ?_
          refine r_goto (t := 65) fe_90_61 (by decide) ?_
          refine r_iret fe_90_65 ⟨rfl, by decide⟩ ?_
          exact dfin (P := fun r T => Q (some (.int r)) (xst T G h)) hf hQ
      · rw [if_neg hb1] at hf
        refine r_ic_f (t := 55) fe_90_13 (by decide) (Bool.eq_false_iff.mpr hb1) ?_
        refine r_aload_n fe_90_16 rfl ?_
        refine r_getf (v := .ref (l0 + 1)) fe_90_17 lf_9_21 (x_c (wk0 h0) (by decide)) (x_lt (wk0 h0) (by decide)) rfl ?_
        refine r_iload fe_90_20 rfl ?_
        by_cases hg3 : ¬ (l4 < 0 ∨ 13 ≤ (l4).toNatClampNeg)
        rotate_left
        · rw [if_neg hg3] at hf; cases hf
        rw [if_pos hg3] at hf
        refine r_iald (j := (Int32.toNatClampNeg l4)) (v := S.2.1 (l0 + 1) (Int32.toNatClampNeg l4)) fe_90_22 (x_c (wk1 h0) (by decide)) (x_lt (wk1 h0) (by decide)) (fun z => hg3 (Or.inl z)) rfl (fun z => hg3 (Or.inr z)) rfl ?_
        by_cases hb4 : am_if .lt (S.2.1 (l0 + 1) (Int32.toNatClampNeg l4)) = true
        · rw [if_pos hb4] at hf
          refine r_if_t (t := 49) fe_90_23 (by decide) hb4 ?_
          refine r_iinc (v := (l4 + 1)) fe_90_49 rfl rfl rfl ?_
          refine r_goto (t := 7) fe_90_52 (by decide) ?_
          refine go_weak (L0 := [.ref l0, .int l1, .int l2, .int l3, .int (l4 + 1), .float 0]) (lwk_c (Or.inl rfl) (lwk_c (Or.inl rfl) (lwk_c (Or.inl rfl) (lwk_c (Or.inl rfl) (lwk_c (Or.inl rfl) (lwk_c (Or.inl rfl) (lwk_rf []))))))) ?_
          exact ih.2 l1 l2 l3 (l4 + 1) S hf
        · rw [if_neg hb4] at hf
          refine r_if_f (t := 49) fe_90_23 (by decide) (Bool.eq_false_iff.mpr hb4) ?_
          refine r_iconst (v := 1) fe_90_26 (by decide) ?_
          refine r_aload_n fe_90_27 rfl ?_
          refine r_getf (v := .ref (l0 + 1)) fe_90_28 lf_9_21 (x_c (wk0 h0) (by decide)) (x_lt (wk0 h0) (by decide)) rfl ?_
          refine r_iload fe_90_31 rfl ?_
          by_cases hg5 : ¬ (l4 < 0 ∨ 13 ≤ (l4).toNatClampNeg)
          rotate_left
          · rw [if_neg hg5] at hf; cases hf
          rw [if_pos hg5] at hf
          refine r_iald (j := (Int32.toNatClampNeg l4)) (v := S.2.1 (l0 + 1) (Int32.toNatClampNeg l4)) fe_90_33 (x_c (wk1 h0) (by decide)) (x_lt (wk1 h0) (by decide)) (fun z => hg5 (Or.inl z)) rfl (fun z => hg5 (Or.inr z)) rfl ?_
          refine r_ishl (v := (1 <<< ((S.2.1 (l0 + 1) (Int32.toNatClampNeg l4)) &&& 31))) fe_90_34 rfl ?_
          refine r_istore fe_90_35 (Nat.le_of_ble_eq_true rfl) rfl ?_
          refine r_iload_n fe_90_37 rfl ?_
          refine r_iload_n fe_90_38 rfl ?_
          refine r_iload fe_90_39 rfl ?_
          refine r_iand (v := (l2 &&& (1 <<< ((S.2.1 (l0 + 1) (Int32.toNatClampNeg l4)) &&& 31)))) fe_90_41 rfl ?_
          refine r_ior (v := (l3 ||| (l2 &&& (1 <<< ((S.2.1 (l0 + 1) (Int32.toNatClampNeg l4)) &&& 31))))) fe_90_42 rfl ?_
          refine r_istore_n fe_90_43 (Nat.le_of_ble_eq_true rfl) rfl ?_
          refine r_iload_n fe_90_44 rfl ?_
          refine r_iload fe_90_45 rfl ?_
          refine r_ior (v := (l2 ||| (1 <<< ((S.2.1 (l0 + 1) (Int32.toNatClampNeg l4)) &&& 31)))) fe_90_47 rfl ?_
          refine r_istore_n fe_90_48 (Nat.le_of_ble_eq_true rfl) rfl ?_
          refine r_iinc (v := (l4 + 1)) fe_90_49 rfl rfl rfl ?_
          refine r_goto (t := 7) fe_90_52 (by decide) ?_
          refine go_weak (L0 := [.ref l0, .int l1, .int (l2 ||| (1 <<< ((S.2.1 (l0 + 1) (Int32.toNatClampNeg l4)) &&& 31))), .int (l3 ||| (l2 &&& (1 <<< ((S.2.1 (l0 + 1) (Int32.toNatClampNeg l4)) &&& 31)))), .int (l4 + 1), .float 0]) (lwk_c (Or.inl rfl) (lwk_c (Or.inl rfl) (lwk_c (Or.inl rfl) (lwk_c (Or.inl rfl) (lwk_c (Or.inl rfl) (lwk_c (Or.inr rfl) (lwk_rf []))))))) ?_
          exact ih.2 l1 (l2 ||| (1 <<< ((S.2.1 (l0 + 1) (Int32.toNatClampNeg l4)) &&& 31))) (l3 ||| (l2 &&& (1 <<< ((S.2.1 (l0 + 1) (Int32.toNatClampNeg l4)) &&& 31)))) (l4 + 1) S hf
theorem G90c {xs : Nat → Int32} {L9 d : Nat} {G : gS} {h : Nat → va_E} {l0 : Nat} {n : Nat} {Q : Option Value → AmH → Prop} {r0 : Int32} {S0 S : xS} {l1 : Int32} (h0 : wB G l0 = true) (hf : G90 l0 n l1 S = some (r0, S0)) (hQ : Q (some (.int r0)) (xst S0 G h)) : Ca (am_X xs L9) (d + 0) 90 [.ref l0, .int l1] (xst S G h) Q := (G90l h0 hQ n).1 l1 0 0 0 S hf
def G98b0 (l0 : Nat) (F : Nat → Int32 → Int32 → xS → Option (Unit × xS)) (n : Nat) (l1 : Int32) (l2 : Int32) (S : xS) : Option (Unit × xS) := (if ¬ (l1 < 0 ∨ 13 ≤ (l1).toNatClampNeg) then (if ¬ (l2 < 0 ∨ 13 ≤ (l2).toNatClampNeg) then (if ¬ ((S.2.1 (l0 + 3) (Int32.toNatClampNeg l2)) < 0 ∨ 9 ≤ ((S.2.1 (l0 + 3) (Int32.toNatClampNeg l2))).toNatClampNeg) then (if ¬ (l2 < 0 ∨ 13 ≤ (l2).toNatClampNeg) then (if ¬ (l1 < 0 ∨ 13 ≤ (l1).toNatClampNeg) then ((some (x_sA S (l0 + 2) (Int32.toNatClampNeg l1) (((S.2.1 (l0 + 2) (Int32.toNatClampNeg l1)) * (am_tens.getD (Int32.toNatClampNeg (S.2.1 (l0 + 3) (Int32.toNatClampNeg l2))) 0)) + (S.2.1 (l0 + 2) (Int32.toNatClampNeg l2))))).bind (fun S6 => (if ¬ (l1 < 0 ∨ 13 ≤ (l1).toNatClampNeg) then (if ¬ (l2 < 0 ∨ 13 ≤ (l2).toNatClampNeg) then (if ¬ (l1 < 0 ∨ 13 ≤ (l1).toNatClampNeg) then ((some (x_sA S6 (l0 + 3) (Int32.toNatClampNeg l1) ((S6.2.1 (l0 + 3) (Int32.toNatClampNeg l1)) + (S6.2.1 (l0 + 3) (Int32.toNatClampNeg l2))))).bind (fun S11 => (if ¬ (l1 < 0 ∨ 13 ≤ (l1).toNatClampNeg) then (if ¬ (l2 < 0 ∨ 13 ≤ (l2).toNatClampNeg) then (if ¬ (l1 < 0 ∨ 13 ≤ (l1).toNatClampNeg) then ((some (x_sA S11 (l0 + 4) (Int32.toNatClampNeg l1) ((S11.2.1 (l0 + 4) (Int32.toNatClampNeg l1)) ||| (S11.2.1 (l0 + 4) (Int32.toNatClampNeg l2))))).bind (fun S16 => ((G88 l0 n l2 3 l1 S16).bind (fun z18 => some ((), z18.2))))) else none) else none) else none))) else none) else none) else none))) else none) else none) else none) else none) else none)
def G98f (l0 : Nat) : Nat → Nat → Int32 → Int32 → xS → Option (Unit × xS)
  | 0, _, _, _, _ => none
  | n + 1, c, l1, l2, S => G98b0 l0 (G98f l0 n) n l1 l2 S
theorem G98e0 (l0 : Nat) (n : Nat) (l1 : Int32) (l2 : Int32) (S : xS) : G98f l0 (n + 1) 0 l1 l2 S = G98b0 l0 (G98f l0 n) n l1 l2 S := rfl
def G98 (l0 : Nat) (n : Nat) (l1 : Int32) (l2 : Int32) (S : xS) : Option (Unit × xS) := G98f l0 n 0 l1 l2 S
set_option maxRecDepth 20000 in
set_option maxHeartbeats 4000000 in
theorem G98l {xs : Nat → Int32} {L9 d : Nat} {G : gS} {h : Nat → va_E} {l0 : Nat} {Q : Option Value → AmH → Prop} {r0 : Unit} {S0 : xS} (h0 : wB G l0 = true) (hQ : Q none (xst S0 G h)) : ∀ n : Nat, (∀ (l1 : Int32) (l2 : Int32) (S : xS), G98f l0 n 0 l1 l2 S = some (r0, S0) → Go (am_X xs L9) (d + 1) 98 0 [.ref l0, .int l1, .int l2] [] (xst S G h) Q) := by
  intro n
  induction n with
  | zero => exact fun l1 l2 S hf => (by cases hf)
  | succ n ih =>
    intro l1 l2 S hf
    rw [G98e0] at hf
    unfold G98b0 at hf
    refine r_aload_n fe_98_0 rfl ?_
    refine r_getf (v := .ref (l0 + 2)) fe_98_1 lf_9_25 (x_c (wk0 h0) (by decide)) (x_lt (wk0 h0) (by decide)) rfl ?_
    refine r_iload_n fe_98_4 rfl ?_
    refine r_aload_n fe_98_5 rfl ?_
    refine r_getf (v := .ref (l0 + 2)) fe_98_6 lf_9_25 (x_c (wk0 h0) (by decide)) (x_lt (wk0 h0) (by decide)) rfl ?_
    refine r_iload_n fe_98_9 rfl ?_
    by_cases hg1 : ¬ (l1 < 0 ∨ 13 ≤ (l1).toNatClampNeg)
    rotate_left
    · rw [if_neg hg1] at hf; cases hf
    rw [if_pos hg1] at hf
    refine r_iald (j := (Int32.toNatClampNeg l1)) (v := S.2.1 (l0 + 2) (Int32.toNatClampNeg l1)) fe_98_10 (x_c (wk2 h0) (by decide)) (x_lt (wk2 h0) (by decide)) (fun z => hg1 (Or.inl z)) rfl (fun z => hg1 (Or.inr z)) rfl ?_
    refine r_gets (v := .ref 1) fe_98_11 (by decide +kernel) ?_
    refine r_aload_n fe_98_14 rfl ?_
    refine r_getf (v := .ref (l0 + 3)) fe_98_15 lf_9_28 (x_c (wk0 h0) (by decide)) (x_lt (wk0 h0) (by decide)) rfl ?_
    refine r_iload_n fe_98_18 rfl ?_
    by_cases hg2 : ¬ (l2 < 0 ∨ 13 ≤ (l2).toNatClampNeg)
    rotate_left
    · rw [if_neg hg2] at hf; cases hf
    rw [if_pos hg2] at hf
    refine r_iald (j := (Int32.toNatClampNeg l2)) (v := S.2.1 (l0 + 3) (Int32.toNatClampNeg l2)) fe_98_19 (x_c (wk3 h0) (by decide)) (x_lt (wk3 h0) (by decide)) (fun z => hg2 (Or.inl z)) rfl (fun z => hg2 (Or.inr z)) rfl ?_
    by_cases hg3 : ¬ ((S.2.1 (l0 + 3) (Int32.toNatClampNeg l2)) < 0 ∨ 9 ≤ ((S.2.1 (l0 + 3) (Int32.toNatClampNeg l2))).toNatClampNeg)
    rotate_left
    · rw [if_neg hg3] at hf; cases hf
    rw [if_pos hg3] at hf
    refine r_iald (j := (Int32.toNatClampNeg (S.2.1 (l0 + 3) (Int32.toNatClampNeg l2)))) (v := am_tens.getD (Int32.toNatClampNeg (S.2.1 (l0 + 3) (Int32.toNatClampNeg l2))) 0) fe_98_20 x_c_1 x_lt1 (fun z => hg3 (Or.inl z)) rfl (fun z => hg3 (Or.inr z)) rfl ?_
    refine r_imul (v := ((S.2.1 (l0 + 2) (Int32.toNatClampNeg l1)) * (am_tens.getD (Int32.toNatClampNeg (S.2.1 (l0 + 3) (Int32.toNatClampNeg l2))) 0))) fe_98_21 rfl ?_
    refine r_aload_n fe_98_22 rfl ?_
    refine r_getf (v := .ref (l0 + 2)) fe_98_23 lf_9_25 (x_c (wk0 h0) (by decide)) (x_lt (wk0 h0) (by decide)) rfl ?_
    refine r_iload_n fe_98_26 rfl ?_
    by_cases hg4 : ¬ (l2 < 0 ∨ 13 ≤ (l2).toNatClampNeg)
    rotate_left
    · rw [if_neg hg4] at hf; cases hf
    rw [if_pos hg4] at hf
    refine r_iald (j := (Int32.toNatClampNeg l2)) (v := S.2.1 (l0 + 2) (Int32.toNatClampNeg l2)) fe_98_27 (x_c (wk2 h0) (by decide)) (x_lt (wk2 h0) (by decide)) (fun z => hg4 (Or.inl z)) rfl (fun z => hg4 (Or.inr z)) rfl ?_
    refine r_iadd (v := (((S.2.1 (l0 + 2) (Int32.toNatClampNeg l1)) * (am_tens.getD (Int32.toNatClampNeg (S.2.1 (l0 + 3) (Int32.toNatClampNeg l2))) 0)) + (S.2.1 (l0 + 2) (Int32.toNatClampNeg l2)))) fe_98_28 rfl ?_
    by_cases hg5 : ¬ (l1 < 0 ∨ 13 ≤ (l1).toNatClampNeg)
    rotate_left
    · rw [if_neg hg5] at hf; cases hf
    rw [if_pos hg5] at hf
    refine r_iast (j := (Int32.toNatClampNeg l1)) fe_98_29 (x_h (wk2 h0) (by decide)) (x_lt (wk2 h0) (by decide)) (x_k6 (wk2 h0) (by decide)) (fun z => hg5 (Or.inl z)) rfl (fun z => hg5 (Or.inr z)) ?_
    obtain ⟨S6, e7, hf⟩ := dbnd hf
    refine go_heap (h2 := xst S6 G h) ((x_uA (wk2 h0)).trans (by rw [e7])) ?_
    refine r_aload_n fe_98_30 rfl ?_
    refine r_getf (v := .ref (l0 + 3)) fe_98_31 lf_9_28 (x_c (wk0 h0) (by decide)) (x_lt (wk0 h0) (by decide)) rfl ?_
    refine r_iload_n fe_98_34 rfl ?_
    refine r_dup2 fe_98_35 ⟨rfl, rfl⟩ ?_
    by_cases hg8 : ¬ (l1 < 0 ∨ 13 ≤ (l1).toNatClampNeg)
    rotate_left
    · rw [if_neg hg8] at hf; cases hf
    rw [if_pos hg8] at hf
    refine r_iald (j := (Int32.toNatClampNeg l1)) (v := S6.2.1 (l0 + 3) (Int32.toNatClampNeg l1)) fe_98_36 (x_c (wk3 h0) (by decide)) (x_lt (wk3 h0) (by decide)) (fun z => hg8 (Or.inl z)) rfl (fun z => hg8 (Or.inr z)) rfl ?_
    refine r_aload_n fe_98_37 rfl ?_
    refine r_getf (v := .ref (l0 + 3)) fe_98_38 lf_9_28 (x_c (wk0 h0) (by decide)) (x_lt (wk0 h0) (by decide)) rfl ?_
    refine r_iload_n fe_98_41 rfl ?_
    by_cases hg9 : ¬ (l2 < 0 ∨ 13 ≤ (l2).toNatClampNeg)
    rotate_left
    · rw [if_neg hg9] at hf; cases hf
    rw [if_pos hg9] at hf
    refine r_iald (j := (Int32.toNatClampNeg l2)) (v := S6.2.1 (l0 + 3) (Int32.toNatClampNeg l2)) fe_98_42 (x_c (wk3 h0) (by decide)) (x_lt (wk3 h0) (by decide)) (fun z => hg9 (Or.inl z)) rfl (fun z => hg9 (Or.inr z)) rfl ?_
    refine r_iadd (v := ((S6.2.1 (l0 + 3) (Int32.toNatClampNeg l1)) + (S6.2.1 (l0 + 3) (Int32.toNatClampNeg l2)))) fe_98_43 rfl ?_
    by_cases hg10 : ¬ (l1 < 0 ∨ 13 ≤ (l1).toNatClampNeg)
    rotate_left
    · rw [if_neg hg10] at hf; cases hf
    rw [if_pos hg10] at hf
    refine r_iast (j := (Int32.toNatClampNeg l1)) fe_98_44 (x_h (wk3 h0) (by decide)) (x_lt (wk3 h0) (by decide)) (x_k6 (wk3 h0) (by decide)) (fun z => hg10 (Or.inl z)) rfl (fun z => hg10 (Or.inr z)) ?_
    obtain ⟨S11, e12, hf⟩ := dbnd hf
    refine go_heap (h2 := xst S11 G h) ((x_uA (wk3 h0)).trans (by rw [e12])) ?_
    refine r_aload_n fe_98_45 rfl ?_
    refine r_getf (v := .ref (l0 + 4)) fe_98_46 lf_9_31 (x_c (wk0 h0) (by decide)) (x_lt (wk0 h0) (by decide)) rfl ?_
    refine r_iload_n fe_98_49 rfl ?_
    refine r_dup2 fe_98_50 ⟨rfl, rfl⟩ ?_
    by_cases hg13 : ¬ (l1 < 0 ∨ 13 ≤ (l1).toNatClampNeg)
    rotate_left
    · rw [if_neg hg13] at hf; cases hf
    rw [if_pos hg13] at hf
    refine r_iald (j := (Int32.toNatClampNeg l1)) (v := S11.2.1 (l0 + 4) (Int32.toNatClampNeg l1)) fe_98_51 (x_c (wk4 h0) (by decide)) (x_lt (wk4 h0) (by decide)) (fun z => hg13 (Or.inl z)) rfl (fun z => hg13 (Or.inr z)) rfl ?_
    refine r_aload_n fe_98_52 rfl ?_
    refine r_getf (v := .ref (l0 + 4)) fe_98_53 lf_9_31 (x_c (wk0 h0) (by decide)) (x_lt (wk0 h0) (by decide)) rfl ?_
    refine r_iload_n fe_98_56 rfl ?_
    by_cases hg14 : ¬ (l2 < 0 ∨ 13 ≤ (l2).toNatClampNeg)
    rotate_left
    · rw [if_neg hg14] at hf; cases hf
    rw [if_pos hg14] at hf
    refine r_iald (j := (Int32.toNatClampNeg l2)) (v := S11.2.1 (l0 + 4) (Int32.toNatClampNeg l2)) fe_98_57 (x_c (wk4 h0) (by decide)) (x_lt (wk4 h0) (by decide)) (fun z => hg14 (Or.inl z)) rfl (fun z => hg14 (Or.inr z)) rfl ?_
    refine r_ior (v := ((S11.2.1 (l0 + 4) (Int32.toNatClampNeg l1)) ||| (S11.2.1 (l0 + 4) (Int32.toNatClampNeg l2)))) fe_98_58 rfl ?_
    by_cases hg15 : ¬ (l1 < 0 ∨ 13 ≤ (l1).toNatClampNeg)
    rotate_left
    · rw [if_neg hg15] at hf; cases hf
    rw [if_pos hg15] at hf
    refine r_iast (j := (Int32.toNatClampNeg l1)) fe_98_59 (x_h (wk4 h0) (by decide)) (x_lt (wk4 h0) (by decide)) (x_k6 (wk4 h0) (by decide)) (fun z => hg15 (Or.inl z)) rfl (fun z => hg15 (Or.inr z)) ?_
    obtain ⟨S16, e17, hf⟩ := dbnd hf
    refine go_heap (h2 := xst S16 G h) ((x_uA (wk4 h0)).trans (by rw [e17])) ?_
    refine r_aload_n fe_98_60 rfl ?_
    refine r_iload_n fe_98_61 rfl ?_
    refine r_iconst (v := 3) fe_98_62 (by decide) ?_
    refine r_iload_n fe_98_63 rfl ?_
    refine r_callV (as := [.int l2, .int 3, .int l1]) (r := []) fe_98_64 lm_9_71 md_88 rfl rfl (Nat.le_of_ble_eq_true rfl) (x_c (wk0 h0) (by decide)) (x_lt (wk0 h0) (by decide)) (Nat.le_of_ble_eq_true rfl) (Nat.le_of_ble_eq_true rfl) ?_
    cases hc19 : G88 l0 n l2 3 l1 S16 with
    | none => rw [hc19] at hf; cases hf
    | some z18 =>
      rw [hc19, Option.bind_some] at hf
      refine G88c (r0 := z18.1) (S0 := z18.2) (h0 := h0) (hf := hc19) ?_
      refine r_vret fe_98_67 ?_
      exact dfin (P := fun _ T => Q none (xst T G h)) hf hQ
theorem G98c {xs : Nat → Int32} {L9 d : Nat} {G : gS} {h : Nat → va_E} {l0 : Nat} {n : Nat} {Q : Option Value → AmH → Prop} {r0 : Unit} {S0 S : xS} {l1 : Int32} {l2 : Int32} (h0 : wB G l0 = true) (hf : G98 l0 n l1 l2 S = some (r0, S0)) (hQ : Q none (xst S0 G h)) : Ca (am_X xs L9) (d + 1) 98 [.ref l0, .int l1, .int l2] (xst S G h) Q := (G98l h0 hQ n) l1 l2 S hf
def G92b0 (F : Nat → Int32 → xS → Option (Int32 × xS)) (n : Nat) (l0 : Int32) (S : xS) : Option (Int32 × xS) := some (((((((((l0 - ((Int32.toUInt32 l0 >>> (Int32.toUInt32 1 &&& Int32.toUInt32 31)).toInt32 &&& 1431655765)) &&& 858993459) + ((Int32.toUInt32 (l0 - ((Int32.toUInt32 l0 >>> (Int32.toUInt32 1 &&& Int32.toUInt32 31)).toInt32 &&& 1431655765)) >>> (Int32.toUInt32 2 &&& Int32.toUInt32 31)).toInt32 &&& 858993459)) + (Int32.toUInt32 (((l0 - ((Int32.toUInt32 l0 >>> (Int32.toUInt32 1 &&& Int32.toUInt32 31)).toInt32 &&& 1431655765)) &&& 858993459) + ((Int32.toUInt32 (l0 - ((Int32.toUInt32 l0 >>> (Int32.toUInt32 1 &&& Int32.toUInt32 31)).toInt32 &&& 1431655765)) >>> (Int32.toUInt32 2 &&& Int32.toUInt32 31)).toInt32 &&& 858993459)) >>> (Int32.toUInt32 4 &&& Int32.toUInt32 31)).toInt32) &&& 252645135) + (Int32.toUInt32 (((((l0 - ((Int32.toUInt32 l0 >>> (Int32.toUInt32 1 &&& Int32.toUInt32 31)).toInt32 &&& 1431655765)) &&& 858993459) + ((Int32.toUInt32 (l0 - ((Int32.toUInt32 l0 >>> (Int32.toUInt32 1 &&& Int32.toUInt32 31)).toInt32 &&& 1431655765)) >>> (Int32.toUInt32 2 &&& Int32.toUInt32 31)).toInt32 &&& 858993459)) + (Int32.toUInt32 (((l0 - ((Int32.toUInt32 l0 >>> (Int32.toUInt32 1 &&& Int32.toUInt32 31)).toInt32 &&& 1431655765)) &&& 858993459) + ((Int32.toUInt32 (l0 - ((Int32.toUInt32 l0 >>> (Int32.toUInt32 1 &&& Int32.toUInt32 31)).toInt32 &&& 1431655765)) >>> (Int32.toUInt32 2 &&& Int32.toUInt32 31)).toInt32 &&& 858993459)) >>> (Int32.toUInt32 4 &&& Int32.toUInt32 31)).toInt32) &&& 252645135) >>> (Int32.toUInt32 8 &&& Int32.toUInt32 31)).toInt32) + (Int32.toUInt32 ((((((l0 - ((Int32.toUInt32 l0 >>> (Int32.toUInt32 1 &&& Int32.toUInt32 31)).toInt32 &&& 1431655765)) &&& 858993459) + ((Int32.toUInt32 (l0 - ((Int32.toUInt32 l0 >>> (Int32.toUInt32 1 &&& Int32.toUInt32 31)).toInt32 &&& 1431655765)) >>> (Int32.toUInt32 2 &&& Int32.toUInt32 31)).toInt32 &&& 858993459)) + (Int32.toUInt32 (((l0 - ((Int32.toUInt32 l0 >>> (Int32.toUInt32 1 &&& Int32.toUInt32 31)).toInt32 &&& 1431655765)) &&& 858993459) + ((Int32.toUInt32 (l0 - ((Int32.toUInt32 l0 >>> (Int32.toUInt32 1 &&& Int32.toUInt32 31)).toInt32 &&& 1431655765)) >>> (Int32.toUInt32 2 &&& Int32.toUInt32 31)).toInt32 &&& 858993459)) >>> (Int32.toUInt32 4 &&& Int32.toUInt32 31)).toInt32) &&& 252645135) + (Int32.toUInt32 (((((l0 - ((Int32.toUInt32 l0 >>> (Int32.toUInt32 1 &&& Int32.toUInt32 31)).toInt32 &&& 1431655765)) &&& 858993459) + ((Int32.toUInt32 (l0 - ((Int32.toUInt32 l0 >>> (Int32.toUInt32 1 &&& Int32.toUInt32 31)).toInt32 &&& 1431655765)) >>> (Int32.toUInt32 2 &&& Int32.toUInt32 31)).toInt32 &&& 858993459)) + (Int32.toUInt32 (((l0 - ((Int32.toUInt32 l0 >>> (Int32.toUInt32 1 &&& Int32.toUInt32 31)).toInt32 &&& 1431655765)) &&& 858993459) + ((Int32.toUInt32 (l0 - ((Int32.toUInt32 l0 >>> (Int32.toUInt32 1 &&& Int32.toUInt32 31)).toInt32 &&& 1431655765)) >>> (Int32.toUInt32 2 &&& Int32.toUInt32 31)).toInt32 &&& 858993459)) >>> (Int32.toUInt32 4 &&& Int32.toUInt32 31)).toInt32) &&& 252645135) >>> (Int32.toUInt32 8 &&& Int32.toUInt32 31)).toInt32) >>> (Int32.toUInt32 16 &&& Int32.toUInt32 31)).toInt32) &&& 63), S)
def G92f : Nat → Nat → Int32 → xS → Option (Int32 × xS)
  | 0, _, _, _ => none
  | n + 1, c, l0, S => G92b0 (G92f n) n l0 S
theorem G92e0 (n : Nat) (l0 : Int32) (S : xS) : G92f (n + 1) 0 l0 S = G92b0 (G92f n) n l0 S := rfl
def G92 (n : Nat) (l0 : Int32) (S : xS) : Option (Int32 × xS) := G92f n 0 l0 S
set_option maxRecDepth 20000 in
set_option maxHeartbeats 4000000 in
theorem G92l {xs : Nat → Int32} {L9 d : Nat} {G : gS} {h : Nat → va_E} {Q : Option Value → AmH → Prop} {r0 : Int32} {S0 : xS} (hQ : Q (some (.int r0)) (xst S0 G h)) : ∀ n : Nat, (∀ (l0 : Int32) (S : xS), G92f n 0 l0 S = some (r0, S0) → Go (am_X xs L9) (d + 0) 92 0 [.int l0] [] (xst S G h) Q) := by
  intro n
  induction n with
  | zero => exact fun l0 S hf => (by cases hf)
  | succ n ih =>
    intro l0 S hf
    rw [G92e0] at hf
    unfold G92b0 at hf
    refine r_iload_n fe_92_0 rfl ?_
    refine r_iload_n fe_92_1 rfl ?_
    refine r_iconst (v := 1) fe_92_2 (by decide) ?_
    refine r_iushr (v := (Int32.toUInt32 l0 >>> (Int32.toUInt32 1 &&& Int32.toUInt32 31)).toInt32) fe_92_3 rfl ?_
    refine r_ldc_w fe_92_4 lk_15_265 ?_
    refine r_iand (v := ((Int32.toUInt32 l0 >>> (Int32.toUInt32 1 &&& Int32.toUInt32 31)).toInt32 &&& 1431655765)) fe_92_7 rfl ?_
    refine r_isub (v := (l0 - ((Int32.toUInt32 l0 >>> (Int32.toUInt32 1 &&& Int32.toUInt32 31)).toInt32 &&& 1431655765))) fe_92_8 rfl ?_
    refine r_istore_n fe_92_9 (Nat.le_of_ble_eq_true rfl) rfl ?_
    refine r_iload_n fe_92_10 rfl ?_
    refine r_ldc_w fe_92_11 lk_15_266 ?_
    refine r_iand (v := ((l0 - ((Int32.toUInt32 l0 >>> (Int32.toUInt32 1 &&& Int32.toUInt32 31)).toInt32 &&& 1431655765)) &&& 858993459)) fe_92_14 rfl ?_
    refine r_iload_n fe_92_15 rfl ?_
    refine r_iconst (v := 2) fe_92_16 (by decide) ?_
    refine r_iushr (v := (Int32.toUInt32 (l0 - ((Int32.toUInt32 l0 >>> (Int32.toUInt32 1 &&& Int32.toUInt32 31)).toInt32 &&& 1431655765)) >>> (Int32.toUInt32 2 &&& Int32.toUInt32 31)).toInt32) fe_92_17 rfl ?_
    refine r_ldc_w fe_92_18 lk_15_266 ?_
    refine r_iand (v := ((Int32.toUInt32 (l0 - ((Int32.toUInt32 l0 >>> (Int32.toUInt32 1 &&& Int32.toUInt32 31)).toInt32 &&& 1431655765)) >>> (Int32.toUInt32 2 &&& Int32.toUInt32 31)).toInt32 &&& 858993459)) fe_92_21 rfl ?_
    refine r_iadd (v := (((l0 - ((Int32.toUInt32 l0 >>> (Int32.toUInt32 1 &&& Int32.toUInt32 31)).toInt32 &&& 1431655765)) &&& 858993459) + ((Int32.toUInt32 (l0 - ((Int32.toUInt32 l0 >>> (Int32.toUInt32 1 &&& Int32.toUInt32 31)).toInt32 &&& 1431655765)) >>> (Int32.toUInt32 2 &&& Int32.toUInt32 31)).toInt32 &&& 858993459))) fe_92_22 rfl ?_
    refine r_istore_n fe_92_23 (Nat.le_of_ble_eq_true rfl) rfl ?_
    refine r_iload_n fe_92_24 rfl ?_
    refine r_iload_n fe_92_25 rfl ?_
    refine r_iconst (v := 4) fe_92_26 (by decide) ?_
    refine r_iushr (v := (Int32.toUInt32 (((l0 - ((Int32.toUInt32 l0 >>> (Int32.toUInt32 1 &&& Int32.toUInt32 31)).toInt32 &&& 1431655765)) &&& 858993459) + ((Int32.toUInt32 (l0 - ((Int32.toUInt32 l0 >>> (Int32.toUInt32 1 &&& Int32.toUInt32 31)).toInt32 &&& 1431655765)) >>> (Int32.toUInt32 2 &&& Int32.toUInt32 31)).toInt32 &&& 858993459)) >>> (Int32.toUInt32 4 &&& Int32.toUInt32 31)).toInt32) fe_92_27 rfl ?_
    refine r_iadd (v := ((((l0 - ((Int32.toUInt32 l0 >>> (Int32.toUInt32 1 &&& Int32.toUInt32 31)).toInt32 &&& 1431655765)) &&& 858993459) + ((Int32.toUInt32 (l0 - ((Int32.toUInt32 l0 >>> (Int32.toUInt32 1 &&& Int32.toUInt32 31)).toInt32 &&& 1431655765)) >>> (Int32.toUInt32 2 &&& Int32.toUInt32 31)).toInt32 &&& 858993459)) + (Int32.toUInt32 (((l0 - ((Int32.toUInt32 l0 >>> (Int32.toUInt32 1 &&& Int32.toUInt32 31)).toInt32 &&& 1431655765)) &&& 858993459) + ((Int32.toUInt32 (l0 - ((Int32.toUInt32 l0 >>> (Int32.toUInt32 1 &&& Int32.toUInt32 31)).toInt32 &&& 1431655765)) >>> (Int32.toUInt32 2 &&& Int32.toUInt32 31)).toInt32 &&& 858993459)) >>> (Int32.toUInt32 4 &&& Int32.toUInt32 31)).toInt32)) fe_92_28 rfl ?_
    refine r_ldc_w fe_92_29 lk_15_267 ?_
    refine r_iand (v := (((((l0 - ((Int32.toUInt32 l0 >>> (Int32.toUInt32 1 &&& Int32.toUInt32 31)).toInt32 &&& 1431655765)) &&& 858993459) + ((Int32.toUInt32 (l0 - ((Int32.toUInt32 l0 >>> (Int32.toUInt32 1 &&& Int32.toUInt32 31)).toInt32 &&& 1431655765)) >>> (Int32.toUInt32 2 &&& Int32.toUInt32 31)).toInt32 &&& 858993459)) + (Int32.toUInt32 (((l0 - ((Int32.toUInt32 l0 >>> (Int32.toUInt32 1 &&& Int32.toUInt32 31)).toInt32 &&& 1431655765)) &&& 858993459) + ((Int32.toUInt32 (l0 - ((Int32.toUInt32 l0 >>> (Int32.toUInt32 1 &&& Int32.toUInt32 31)).toInt32 &&& 1431655765)) >>> (Int32.toUInt32 2 &&& Int32.toUInt32 31)).toInt32 &&& 858993459)) >>> (Int32.toUInt32 4 &&& Int32.toUInt32 31)).toInt32) &&& 252645135)) fe_92_32 rfl ?_
    refine r_istore_n fe_92_33 (Nat.le_of_ble_eq_true rfl) rfl ?_
    refine r_iload_n fe_92_34 rfl ?_
    refine r_iload_n fe_92_35 rfl ?_
    refine r_bipush (v := 8) fe_92_36 (by decide) ?_
    refine r_iushr (v := (Int32.toUInt32 (((((l0 - ((Int32.toUInt32 l0 >>> (Int32.toUInt32 1 &&& Int32.toUInt32 31)).toInt32 &&& 1431655765)) &&& 858993459) + ((Int32.toUInt32 (l0 - ((Int32.toUInt32 l0 >>> (Int32.toUInt32 1 &&& Int32.toUInt32 31)).toInt32 &&& 1431655765)) >>> (Int32.toUInt32 2 &&& Int32.toUInt32 31)).toInt32 &&& 858993459)) + (Int32.toUInt32 (((l0 - ((Int32.toUInt32 l0 >>> (Int32.toUInt32 1 &&& Int32.toUInt32 31)).toInt32 &&& 1431655765)) &&& 858993459) + ((Int32.toUInt32 (l0 - ((Int32.toUInt32 l0 >>> (Int32.toUInt32 1 &&& Int32.toUInt32 31)).toInt32 &&& 1431655765)) >>> (Int32.toUInt32 2 &&& Int32.toUInt32 31)).toInt32 &&& 858993459)) >>> (Int32.toUInt32 4 &&& Int32.toUInt32 31)).toInt32) &&& 252645135) >>> (Int32.toUInt32 8 &&& Int32.toUInt32 31)).toInt32) fe_92_38 rfl ?_
    refine r_iadd (v := ((((((l0 - ((Int32.toUInt32 l0 >>> (Int32.toUInt32 1 &&& Int32.toUInt32 31)).toInt32 &&& 1431655765)) &&& 858993459) + ((Int32.toUInt32 (l0 - ((Int32.toUInt32 l0 >>> (Int32.toUInt32 1 &&& Int32.toUInt32 31)).toInt32 &&& 1431655765)) >>> (Int32.toUInt32 2 &&& Int32.toUInt32 31)).toInt32 &&& 858993459)) + (Int32.toUInt32 (((l0 - ((Int32.toUInt32 l0 >>> (Int32.toUInt32 1 &&& Int32.toUInt32 31)).toInt32 &&& 1431655765)) &&& 858993459) + ((Int32.toUInt32 (l0 - ((Int32.toUInt32 l0 >>> (Int32.toUInt32 1 &&& Int32.toUInt32 31)).toInt32 &&& 1431655765)) >>> (Int32.toUInt32 2 &&& Int32.toUInt32 31)).toInt32 &&& 858993459)) >>> (Int32.toUInt32 4 &&& Int32.toUInt32 31)).toInt32) &&& 252645135) + (Int32.toUInt32 (((((l0 - ((Int32.toUInt32 l0 >>> (Int32.toUInt32 1 &&& Int32.toUInt32 31)).toInt32 &&& 1431655765)) &&& 858993459) + ((Int32.toUInt32 (l0 - ((Int32.toUInt32 l0 >>> (Int32.toUInt32 1 &&& Int32.toUInt32 31)).toInt32 &&& 1431655765)) >>> (Int32.toUInt32 2 &&& Int32.toUInt32 31)).toInt32 &&& 858993459)) + (Int32.toUInt32 (((l0 - ((Int32.toUInt32 l0 >>> (Int32.toUInt32 1 &&& Int32.toUInt32 31)).toInt32 &&& 1431655765)) &&& 858993459) + ((Int32.toUInt32 (l0 - ((Int32.toUInt32 l0 >>> (Int32.toUInt32 1 &&& Int32.toUInt32 31)).toInt32 &&& 1431655765)) >>> (Int32.toUInt32 2 &&& Int32.toUInt32 31)).toInt32 &&& 858993459)) >>> (Int32.toUInt32 4 &&& Int32.toUInt32 31)).toInt32) &&& 252645135) >>> (Int32.toUInt32 8 &&& Int32.toUInt32 31)).toInt32)) fe_92_39 rfl ?_
    refine r_istore_n fe_92_40 (Nat.le_of_ble_eq_true rfl) rfl ?_
    refine r_iload_n fe_92_41 rfl ?_
    refine r_iload_n fe_92_42 rfl ?_
    refine r_bipush (v := 16) fe_92_43 (by decide) ?_
    refine r_iushr (v := (Int32.toUInt32 ((((((l0 - ((Int32.toUInt32 l0 >>> (Int32.toUInt32 1 &&& Int32.toUInt32 31)).toInt32 &&& 1431655765)) &&& 858993459) + ((Int32.toUInt32 (l0 - ((Int32.toUInt32 l0 >>> (Int32.toUInt32 1 &&& Int32.toUInt32 31)).toInt32 &&& 1431655765)) >>> (Int32.toUInt32 2 &&& Int32.toUInt32 31)).toInt32 &&& 858993459)) + (Int32.toUInt32 (((l0 - ((Int32.toUInt32 l0 >>> (Int32.toUInt32 1 &&& Int32.toUInt32 31)).toInt32 &&& 1431655765)) &&& 858993459) + ((Int32.toUInt32 (l0 - ((Int32.toUInt32 l0 >>> (Int32.toUInt32 1 &&& Int32.toUInt32 31)).toInt32 &&& 1431655765)) >>> (Int32.toUInt32 2 &&& Int32.toUInt32 31)).toInt32 &&& 858993459)) >>> (Int32.toUInt32 4 &&& Int32.toUInt32 31)).toInt32) &&& 252645135) + (Int32.toUInt32 (((((l0 - ((Int32.toUInt32 l0 >>> (Int32.toUInt32 1 &&& Int32.toUInt32 31)).toInt32 &&& 1431655765)) &&& 858993459) + ((Int32.toUInt32 (l0 - ((Int32.toUInt32 l0 >>> (Int32.toUInt32 1 &&& Int32.toUInt32 31)).toInt32 &&& 1431655765)) >>> (Int32.toUInt32 2 &&& Int32.toUInt32 31)).toInt32 &&& 858993459)) + (Int32.toUInt32 (((l0 - ((Int32.toUInt32 l0 >>> (Int32.toUInt32 1 &&& Int32.toUInt32 31)).toInt32 &&& 1431655765)) &&& 858993459) + ((Int32.toUInt32 (l0 - ((Int32.toUInt32 l0 >>> (Int32.toUInt32 1 &&& Int32.toUInt32 31)).toInt32 &&& 1431655765)) >>> (Int32.toUInt32 2 &&& Int32.toUInt32 31)).toInt32 &&& 858993459)) >>> (Int32.toUInt32 4 &&& Int32.toUInt32 31)).toInt32) &&& 252645135) >>> (Int32.toUInt32 8 &&& Int32.toUInt32 31)).toInt32) >>> (Int32.toUInt32 16 &&& Int32.toUInt32 31)).toInt32) fe_92_45 rfl ?_
    refine r_iadd (v := (((((((l0 - ((Int32.toUInt32 l0 >>> (Int32.toUInt32 1 &&& Int32.toUInt32 31)).toInt32 &&& 1431655765)) &&& 858993459) + ((Int32.toUInt32 (l0 - ((Int32.toUInt32 l0 >>> (Int32.toUInt32 1 &&& Int32.toUInt32 31)).toInt32 &&& 1431655765)) >>> (Int32.toUInt32 2 &&& Int32.toUInt32 31)).toInt32 &&& 858993459)) + (Int32.toUInt32 (((l0 - ((Int32.toUInt32 l0 >>> (Int32.toUInt32 1 &&& Int32.toUInt32 31)).toInt32 &&& 1431655765)) &&& 858993459) + ((Int32.toUInt32 (l0 - ((Int32.toUInt32 l0 >>> (Int32.toUInt32 1 &&& Int32.toUInt32 31)).toInt32 &&& 1431655765)) >>> (Int32.toUInt32 2 &&& Int32.toUInt32 31)).toInt32 &&& 858993459)) >>> (Int32.toUInt32 4 &&& Int32.toUInt32 31)).toInt32) &&& 252645135) + (Int32.toUInt32 (((((l0 - ((Int32.toUInt32 l0 >>> (Int32.toUInt32 1 &&& Int32.toUInt32 31)).toInt32 &&& 1431655765)) &&& 858993459) + ((Int32.toUInt32 (l0 - ((Int32.toUInt32 l0 >>> (Int32.toUInt32 1 &&& Int32.toUInt32 31)).toInt32 &&& 1431655765)) >>> (Int32.toUInt32 2 &&& Int32.toUInt32 31)).toInt32 &&& 858993459)) + (Int32.toUInt32 (((l0 - ((Int32.toUInt32 l0 >>> (Int32.toUInt32 1 &&& Int32.toUInt32 31)).toInt32 &&& 1431655765)) &&& 858993459) + ((Int32.toUInt32 (l0 - ((Int32.toUInt32 l0 >>> (Int32.toUInt32 1 &&& Int32.toUInt32 31)).toInt32 &&& 1431655765)) >>> (Int32.toUInt32 2 &&& Int32.toUInt32 31)).toInt32 &&& 858993459)) >>> (Int32.toUInt32 4 &&& Int32.toUInt32 31)).toInt32) &&& 252645135) >>> (Int32.toUInt32 8 &&& Int32.toUInt32 31)).toInt32) + (Int32.toUInt32 ((((((l0 - ((Int32.toUInt32 l0 >>> (Int32.toUInt32 1 &&& Int32.toUInt32 31)).toInt32 &&& 1431655765)) &&& 858993459) + ((Int32.toUInt32 (l0 - ((Int32.toUInt32 l0 >>> (Int32.toUInt32 1 &&& Int32.toUInt32 31)).toInt32 &&& 1431655765)) >>> (Int32.toUInt32 2 &&& Int32.toUInt32 31)).toInt32 &&& 858993459)) + (Int32.toUInt32 (((l0 - ((Int32.toUInt32 l0 >>> (Int32.toUInt32 1 &&& Int32.toUInt32 31)).toInt32 &&& 1431655765)) &&& 858993459) + ((Int32.toUInt32 (l0 - ((Int32.toUInt32 l0 >>> (Int32.toUInt32 1 &&& Int32.toUInt32 31)).toInt32 &&& 1431655765)) >>> (Int32.toUInt32 2 &&& Int32.toUInt32 31)).toInt32 &&& 858993459)) >>> (Int32.toUInt32 4 &&& Int32.toUInt32 31)).toInt32) &&& 252645135) + (Int32.toUInt32 (((((l0 - ((Int32.toUInt32 l0 >>> (Int32.toUInt32 1 &&& Int32.toUInt32 31)).toInt32 &&& 1431655765)) &&& 858993459) + ((Int32.toUInt32 (l0 - ((Int32.toUInt32 l0 >>> (Int32.toUInt32 1 &&& Int32.toUInt32 31)).toInt32 &&& 1431655765)) >>> (Int32.toUInt32 2 &&& Int32.toUInt32 31)).toInt32 &&& 858993459)) + (Int32.toUInt32 (((l0 - ((Int32.toUInt32 l0 >>> (Int32.toUInt32 1 &&& Int32.toUInt32 31)).toInt32 &&& 1431655765)) &&& 858993459) + ((Int32.toUInt32 (l0 - ((Int32.toUInt32 l0 >>> (Int32.toUInt32 1 &&& Int32.toUInt32 31)).toInt32 &&& 1431655765)) >>> (Int32.toUInt32 2 &&& Int32.toUInt32 31)).toInt32 &&& 858993459)) >>> (Int32.toUInt32 4 &&& Int32.toUInt32 31)).toInt32) &&& 252645135) >>> (Int32.toUInt32 8 &&& Int32.toUInt32 31)).toInt32) >>> (Int32.toUInt32 16 &&& Int32.toUInt32 31)).toInt32)) fe_92_46 rfl ?_
    refine r_istore_n fe_92_47 (Nat.le_of_ble_eq_true rfl) rfl ?_
    refine r_iload_n fe_92_48 rfl ?_
    refine r_bipush (v := 63) fe_92_49 (by decide) ?_
    refine r_iand (v := ((((((((l0 - ((Int32.toUInt32 l0 >>> (Int32.toUInt32 1 &&& Int32.toUInt32 31)).toInt32 &&& 1431655765)) &&& 858993459) + ((Int32.toUInt32 (l0 - ((Int32.toUInt32 l0 >>> (Int32.toUInt32 1 &&& Int32.toUInt32 31)).toInt32 &&& 1431655765)) >>> (Int32.toUInt32 2 &&& Int32.toUInt32 31)).toInt32 &&& 858993459)) + (Int32.toUInt32 (((l0 - ((Int32.toUInt32 l0 >>> (Int32.toUInt32 1 &&& Int32.toUInt32 31)).toInt32 &&& 1431655765)) &&& 858993459) + ((Int32.toUInt32 (l0 - ((Int32.toUInt32 l0 >>> (Int32.toUInt32 1 &&& Int32.toUInt32 31)).toInt32 &&& 1431655765)) >>> (Int32.toUInt32 2 &&& Int32.toUInt32 31)).toInt32 &&& 858993459)) >>> (Int32.toUInt32 4 &&& Int32.toUInt32 31)).toInt32) &&& 252645135) + (Int32.toUInt32 (((((l0 - ((Int32.toUInt32 l0 >>> (Int32.toUInt32 1 &&& Int32.toUInt32 31)).toInt32 &&& 1431655765)) &&& 858993459) + ((Int32.toUInt32 (l0 - ((Int32.toUInt32 l0 >>> (Int32.toUInt32 1 &&& Int32.toUInt32 31)).toInt32 &&& 1431655765)) >>> (Int32.toUInt32 2 &&& Int32.toUInt32 31)).toInt32 &&& 858993459)) + (Int32.toUInt32 (((l0 - ((Int32.toUInt32 l0 >>> (Int32.toUInt32 1 &&& Int32.toUInt32 31)).toInt32 &&& 1431655765)) &&& 858993459) + ((Int32.toUInt32 (l0 - ((Int32.toUInt32 l0 >>> (Int32.toUInt32 1 &&& Int32.toUInt32 31)).toInt32 &&& 1431655765)) >>> (Int32.toUInt32 2 &&& Int32.toUInt32 31)).toInt32 &&& 858993459)) >>> (Int32.toUInt32 4 &&& Int32.toUInt32 31)).toInt32) &&& 252645135) >>> (Int32.toUInt32 8 &&& Int32.toUInt32 31)).toInt32) + (Int32.toUInt32 ((((((l0 - ((Int32.toUInt32 l0 >>> (Int32.toUInt32 1 &&& Int32.toUInt32 31)).toInt32 &&& 1431655765)) &&& 858993459) + ((Int32.toUInt32 (l0 - ((Int32.toUInt32 l0 >>> (Int32.toUInt32 1 &&& Int32.toUInt32 31)).toInt32 &&& 1431655765)) >>> (Int32.toUInt32 2 &&& Int32.toUInt32 31)).toInt32 &&& 858993459)) + (Int32.toUInt32 (((l0 - ((Int32.toUInt32 l0 >>> (Int32.toUInt32 1 &&& Int32.toUInt32 31)).toInt32 &&& 1431655765)) &&& 858993459) + ((Int32.toUInt32 (l0 - ((Int32.toUInt32 l0 >>> (Int32.toUInt32 1 &&& Int32.toUInt32 31)).toInt32 &&& 1431655765)) >>> (Int32.toUInt32 2 &&& Int32.toUInt32 31)).toInt32 &&& 858993459)) >>> (Int32.toUInt32 4 &&& Int32.toUInt32 31)).toInt32) &&& 252645135) + (Int32.toUInt32 (((((l0 - ((Int32.toUInt32 l0 >>> (Int32.toUInt32 1 &&& Int32.toUInt32 31)).toInt32 &&& 1431655765)) &&& 858993459) + ((Int32.toUInt32 (l0 - ((Int32.toUInt32 l0 >>> (Int32.toUInt32 1 &&& Int32.toUInt32 31)).toInt32 &&& 1431655765)) >>> (Int32.toUInt32 2 &&& Int32.toUInt32 31)).toInt32 &&& 858993459)) + (Int32.toUInt32 (((l0 - ((Int32.toUInt32 l0 >>> (Int32.toUInt32 1 &&& Int32.toUInt32 31)).toInt32 &&& 1431655765)) &&& 858993459) + ((Int32.toUInt32 (l0 - ((Int32.toUInt32 l0 >>> (Int32.toUInt32 1 &&& Int32.toUInt32 31)).toInt32 &&& 1431655765)) >>> (Int32.toUInt32 2 &&& Int32.toUInt32 31)).toInt32 &&& 858993459)) >>> (Int32.toUInt32 4 &&& Int32.toUInt32 31)).toInt32) &&& 252645135) >>> (Int32.toUInt32 8 &&& Int32.toUInt32 31)).toInt32) >>> (Int32.toUInt32 16 &&& Int32.toUInt32 31)).toInt32) &&& 63)) fe_92_51 rfl ?_
    refine r_iret fe_92_52 ⟨rfl, by decide⟩ ?_
    exact dfin (P := fun r T => Q (some (.int r)) (xst T G h)) hf hQ
theorem G92c {xs : Nat → Int32} {L9 d : Nat} {G : gS} {h : Nat → va_E} {n : Nat} {Q : Option Value → AmH → Prop} {r0 : Int32} {S0 S : xS} {l0 : Int32} (hf : G92 n l0 S = some (r0, S0)) (hQ : Q (some (.int r0)) (xst S0 G h)) : Ca (am_X xs L9) (d + 0) 92 [.int l0] (xst S G h) Q := (G92l hQ n) l0 S hf
def G97b0 (F : Nat → Int32 → Int64 → Int64 → xS → Option (Int64 × xS)) (n : Nat) (l0 : Int32) (l1 : Int64) (l3 : Int64) (S : xS) : Option (Int64 × xS) := (if ((l0).toInt < -22 ∨ -12 < (l0).toInt) then some ((l1 ||| l3), S) else (if l0 = (-22) then some ((l1 &&& l3), S) else (if l0 = (-21) then (if am_if .le (lg_cmp l1 l3) = true then some (0, S) else some (1, S)) else (if l0 = (-20) then (if am_if .lt (lg_cmp l1 l3) = true then some (0, S) else some (1, S)) else (if l0 = (-19) then (if am_if .ne (lg_cmp l1 l3) = true then some (0, S) else some (1, S)) else (if l0 = (-18) then (if am_if .gt (lg_cmp l1 l3) = true then some (0, S) else some (1, S)) else (if l0 = (-17) then (if am_if .ge (lg_cmp l1 l3) = true then some (0, S) else some (1, S)) else (if l0 = (-16) then (if am_if .ne (lg_cmp l3 0) = true then (if l3 = 0 then none else some ((l1 - l1 / l3 * l3), S)) else some (0, S)) else (if l0 = (-15) then (if am_if .ne (lg_cmp l3 0) = true then (if l3 = 0 then none else some ((l1 / l3), S)) else some (0, S)) else (if l0 = (-14) then some ((l1 * l3), S) else (if l0 = (-13) then some ((l1 - l3), S) else (if l0 = (-12) then some ((l1 + l3), S) else none))))))))))))
def G97f : Nat → Nat → Int32 → Int64 → Int64 → xS → Option (Int64 × xS)
  | 0, _, _, _, _, _ => none
  | n + 1, c, l0, l1, l3, S => G97b0 (G97f n) n l0 l1 l3 S
theorem G97e0 (n : Nat) (l0 : Int32) (l1 : Int64) (l3 : Int64) (S : xS) : G97f (n + 1) 0 l0 l1 l3 S = G97b0 (G97f n) n l0 l1 l3 S := rfl
def G97 (n : Nat) (l0 : Int32) (l1 : Int64) (l3 : Int64) (S : xS) : Option (Int64 × xS) := G97f n 0 l0 l1 l3 S
set_option maxRecDepth 20000 in
set_option maxHeartbeats 4000000 in
theorem G97l {xs : Nat → Int32} {L9 d : Nat} {G : gS} {h : Nat → va_E} {Q : Option Value → AmH → Prop} {r0 : Int64} {S0 : xS} (hQ : Q (some (.long r0)) (xst S0 G h)) : ∀ n : Nat, (∀ (l0 : Int32) (l1 : Int64) (l3 : Int64) (S : xS), G97f n 0 l0 l1 l3 S = some (r0, S0) → Go (am_X xs L9) (d + 0) 97 0 [.int l0, .long l1, .float 0, .long l3, .float 0] [] (xst S G h) Q) := by
  intro n
  induction n with
  | zero => exact fun l0 l1 l3 S hf => (by cases hf)
  | succ n ih =>
    intro l0 l1 l3 S hf
    rw [G97e0] at hf
    unfold G97b0 at hf
    refine r_iload_n fe_97_0 rfl ?_
    by_cases hs1 : ((l0).toInt < -22 ∨ -12 < (l0).toInt)
    · rw [if_pos hs1] at hf
      refine r_tabO (t := 164) fe_97_1 hs1 (by decide) ?_
      refine r_lload_n fe_97_164 rfl ?_
      refine r_lload_n fe_97_165 rfl ?_
      refine r_lor (v := (l1 ||| l3)) fe_97_166 rfl ?_
      refine r_lret fe_97_167 ?_
      exact dfin (P := fun r T => Q (some (.long r)) (xst T G h)) hf hQ
    · rw [if_neg hs1] at hf
      by_cases hx2 : l0 = (-22)
      · rw [if_pos hx2] at hf
        refine r_tabI (off := 159) (t := 160) fe_97_1 hs1 (by rw [hx2]; decide) (by decide) ?_
        refine r_lload_n fe_97_160 rfl ?_
        refine r_lload_n fe_97_161 rfl ?_
        refine r_land (v := (l1 &&& l3)) fe_97_162 rfl ?_
        refine r_lret fe_97_163 ?_
        exact dfin (P := fun r T => Q (some (.long r)) (xst T G h)) hf hQ
      · rw [if_neg hx2] at hf
        by_cases hx3 : l0 = (-21)
        · rw [if_pos hx3] at hf
          refine r_tabI (off := 147) (t := 148) fe_97_1 hs1 (by rw [hx3]; decide) (by decide) ?_
          refine r_lload_n fe_97_148 rfl ?_
          refine r_lload_n fe_97_149 rfl ?_
          refine r_lcmp (v := (lg_cmp l1 l3)) fe_97_150 rfl ?_
          by_cases hb4 : am_if .le (lg_cmp l1 l3) = true
          · rw [if_pos hb4] at hf
            refine r_if_t (t := 158) fe_97_151 (by decide) hb4 ?_
            refine r_lconst (v := 0) fe_97_158 (by decide) ?_
            refine r_lret fe_97_159 ?_
            exact dfin (P := fun r T => Q (some (.long r)) (xst T G h)) hf hQ
          · rw [if_neg hb4] at hf
            refine r_if_f (t := 158) fe_97_151 (by decide) (Bool.eq_false_iff.mpr hb4) ?_
            refine r_lconst (v := 1) fe_97_154 (by decide) ?_
            refine r_goto (t := 159) fe_97_155 (by decide) ?_
            refine r_lret fe_97_159 ?_
            exact dfin (P := fun r T => Q (some (.long r)) (xst T G h)) hf hQ
        · rw [if_neg hx3] at hf
          by_cases hx5 : l0 = (-20)
          · rw [if_pos hx5] at hf
            refine r_tabI (off := 135) (t := 136) fe_97_1 hs1 (by rw [hx5]; decide) (by decide) ?_
            refine r_lload_n fe_97_136 rfl ?_
            refine r_lload_n fe_97_137 rfl ?_
            refine r_lcmp (v := (lg_cmp l1 l3)) fe_97_138 rfl ?_
            by_cases hb6 : am_if .lt (lg_cmp l1 l3) = true
            · rw [if_pos hb6] at hf
              refine r_if_t (t := 146) fe_97_139 (by decide) hb6 ?_
              refine r_lconst (v := 0) fe_97_146 (by decide) ?_
              refine r_lret fe_97_147 ?_
              exact dfin (P := fun r T => Q (some (.long r)) (xst T G h)) hf hQ
            · rw [if_neg hb6] at hf
              refine r_if_f (t := 146) fe_97_139 (by decide) (Bool.eq_false_iff.mpr hb6) ?_
              refine r_lconst (v := 1) fe_97_142 (by decide) ?_
              refine r_goto (t := 147) fe_97_143 (by decide) ?_
              refine r_lret fe_97_147 ?_
              exact dfin (P := fun r T => Q (some (.long r)) (xst T G h)) hf hQ
          · rw [if_neg hx5] at hf
            by_cases hx7 : l0 = (-19)
            · rw [if_pos hx7] at hf
              refine r_tabI (off := 123) (t := 124) fe_97_1 hs1 (by rw [hx7]; decide) (by decide) ?_
              refine r_lload_n fe_97_124 rfl ?_
              refine r_lload_n fe_97_125 rfl ?_
              refine r_lcmp (v := (lg_cmp l1 l3)) fe_97_126 rfl ?_
              by_cases hb8 : am_if .ne (lg_cmp l1 l3) = true
              · rw [if_pos hb8] at hf
                refine r_if_t (t := 134) fe_97_127 (by decide) hb8 ?_
                refine r_lconst (v := 0) fe_97_134 (by decide) ?_
                refine r_lret fe_97_135 ?_
                exact dfin (P := fun r T => Q (some (.long r)) (xst T G h)) hf hQ
              · rw [if_neg hb8] at hf
                refine r_if_f (t := 134) fe_97_127 (by decide) (Bool.eq_false_iff.mpr hb8) ?_
                refine r_lconst (v := 1) fe_97_130 (by decide) ?_
                refine r_goto (t := 135) fe_97_131 (by decide) ?_
                refine r_lret fe_97_135 ?_
                exact dfin (P := fun r T => Q (some (.long r)) (xst T G h)) hf hQ
            · rw [if_neg hx7] at hf
              by_cases hx9 : l0 = (-18)
              · rw [if_pos hx9] at hf
                refine r_tabI (off := 111) (t := 112) fe_97_1 hs1 (by rw [hx9]; decide) (by decide) ?_
                refine r_lload_n fe_97_112 rfl ?_
                refine r_lload_n fe_97_113 rfl ?_
                refine r_lcmp (v := (lg_cmp l1 l3)) fe_97_114 rfl ?_
                by_cases hb10 : am_if .gt (lg_cmp l1 l3) = true
                · rw [if_pos hb10] at hf
                  refine r_if_t (t := 122) fe_97_115 (by decide) hb10 ?_
                  refine r_lconst (v := 0) fe_97_122 (by decide) ?_
                  refine r_lret fe_97_123 ?_
                  exact dfin (P := fun r T => Q (some (.long r)) (xst T G h)) hf hQ
                · rw [if_neg hb10] at hf
                  refine r_if_f (t := 122) fe_97_115 (by decide) (Bool.eq_false_iff.mpr hb10) ?_
                  refine r_lconst (v := 1) fe_97_118 (by decide) ?_
                  refine r_goto (t := 123) fe_97_119 (by decide) ?_
                  refine r_lret fe_97_123 ?_
                  exact dfin (P := fun r T => Q (some (.long r)) (xst T G h)) hf hQ
              · rw [if_neg hx9] at hf
                by_cases hx11 : l0 = (-17)
                · rw [if_pos hx11] at hf
                  refine r_tabI (off := 99) (t := 100) fe_97_1 hs1 (by rw [hx11]; decide) (by decide) ?_
                  refine r_lload_n fe_97_100 rfl ?_
                  refine r_lload_n fe_97_101 rfl ?_
                  refine r_lcmp (v := (lg_cmp l1 l3)) fe_97_102 rfl ?_
                  by_cases hb12 : am_if .ge (lg_cmp l1 l3) = true
                  · rw [if_pos hb12] at hf
                    refine r_if_t (t := 110) fe_97_103 (by decide) hb12 ?_
                    refine r_lconst (v := 0) fe_97_110 (by decide) ?_
                    refine r_lret fe_97_111 ?_
                    exact dfin (P := fun r T => Q (some (.long r)) (xst T G h)) hf hQ
                  · rw [if_neg hb12] at hf
                    refine r_if_f (t := 110) fe_97_103 (by decide) (Bool.eq_false_iff.mpr hb12) ?_
                    refine r_lconst (v := 1) fe_97_106 (by decide) ?_
                    refine r_goto (t := 111) fe_97_107 (by decide) ?_
                    refine r_lret fe_97_111 ?_
                    exact dfin (P := fun r T => Q (some (.long r)) (xst T G h)) hf hQ
                · rw [if_neg hx11] at hf
                  by_cases hx13 : l0 = (-16)
                  · rw [if_pos hx13] at hf
                    refine r_tabI (off := 85) (t := 86) fe_97_1 hs1 (by rw [hx13]; decide) (by decide) ?_
                    refine r_lload_n fe_97_86 rfl ?_
                    refine r_lconst (v := 0) fe_97_87 (by decide) ?_
                    refine r_lcmp (v := (lg_cmp l3 0)) fe_97_88 rfl ?_
                    by_cases hb14 : am_if .ne (lg_cmp l3 0) = true
                    · rw [if_pos hb14] at hf
                      refine r_if_t (t := 96) fe_97_89 (by decide) hb14 ?_
                      refine r_lload_n fe_97_96 rfl ?_
                      refine r_lload_n fe_97_97 rfl ?_
                      by_cases hz15 : l3 = 0
                      · rw [if_pos hz15] at hf; cases hf
                      rw [if_neg hz15] at hf
                      refine r_lrem (v := (l1 - l1 / l3 * l3)) fe_97_98 hz15 rfl ?_
                      refine r_lret fe_97_99 ?_
                      exact dfin (P := fun r T => Q (some (.long r)) (xst T G h)) hf hQ
                    · rw [if_neg hb14] at hf
                      refine r_if_f (t := 96) fe_97_89 (by decide) (Bool.eq_false_iff.mpr hb14) ?_
                      refine r_lconst (v := 0) fe_97_92 (by decide) ?_
                      refine r_goto (t := 99) fe_97_93 (by decide) ?_
                      refine r_lret fe_97_99 ?_
                      exact dfin (P := fun r T => Q (some (.long r)) (xst T G h)) hf hQ
                  · rw [if_neg hx13] at hf
                    by_cases hx16 : l0 = (-15)
                    · rw [if_pos hx16] at hf
                      refine r_tabI (off := 71) (t := 72) fe_97_1 hs1 (by rw [hx16]; decide) (by decide) ?_
                      refine r_lload_n fe_97_72 rfl ?_
                      refine r_lconst (v := 0) fe_97_73 (by decide) ?_
                      refine r_lcmp (v := (lg_cmp l3 0)) fe_97_74 rfl ?_
                      by_cases hb17 : am_if .ne (lg_cmp l3 0) = true
                      · rw [if_pos hb17] at hf
                        refine r_if_t (t := 82) fe_97_75 (by decide) hb17 ?_
                        refine r_lload_n fe_97_82 rfl ?_
                        refine r_lload_n fe_97_83 rfl ?_
                        by_cases hz18 : l3 = 0
                        · rw [if_pos hz18] at hf; cases hf
                        rw [if_neg hz18] at hf
                        refine r_ldiv (v := (l1 / l3)) fe_97_84 hz18 rfl ?_
                        refine r_lret fe_97_85 ?_
                        exact dfin (P := fun r T => Q (some (.long r)) (xst T G h)) hf hQ
                      · rw [if_neg hb17] at hf
                        refine r_if_f (t := 82) fe_97_75 (by decide) (Bool.eq_false_iff.mpr hb17) ?_
                        refine r_lconst (v := 0) fe_97_78 (by decide) ?_
                        refine r_goto (t := 85) fe_97_79 (by decide) ?_
                        refine r_lret fe_97_85 ?_
                        exact dfin (P := fun r T => Q (some (.long r)) (xst T G h)) hf hQ
                    · rw [if_neg hx16] at hf
                      by_cases hx19 : l0 = (-14)
                      · rw [if_pos hx19] at hf
                        refine r_tabI (off := 67) (t := 68) fe_97_1 hs1 (by rw [hx19]; decide) (by decide) ?_
                        refine r_lload_n fe_97_68 rfl ?_
                        refine r_lload_n fe_97_69 rfl ?_
                        refine r_lmul (v := (l1 * l3)) fe_97_70 rfl ?_
                        refine r_lret fe_97_71 ?_
                        exact dfin (P := fun r T => Q (some (.long r)) (xst T G h)) hf hQ
                      · rw [if_neg hx19] at hf
                        by_cases hx20 : l0 = (-13)
                        · rw [if_pos hx20] at hf
                          refine r_tabI (off := 63) (t := 64) fe_97_1 hs1 (by rw [hx20]; decide) (by decide) ?_
                          refine r_lload_n fe_97_64 rfl ?_
                          refine r_lload_n fe_97_65 rfl ?_
                          refine r_lsub (v := (l1 - l3)) fe_97_66 rfl ?_
                          refine r_lret fe_97_67 ?_
                          exact dfin (P := fun r T => Q (some (.long r)) (xst T G h)) hf hQ
                        · rw [if_neg hx20] at hf
                          by_cases hx21 : l0 = (-12)
                          · rw [if_pos hx21] at hf
                            refine r_tabI (off := 59) (t := 60) fe_97_1 hs1 (by rw [hx21]; decide) (by decide) ?_
                            refine r_lload_n fe_97_60 rfl ?_
                            refine r_lload_n fe_97_61 rfl ?_
                            refine r_ladd (v := (l1 + l3)) fe_97_62 rfl ?_
                            refine r_lret fe_97_63 ?_
                            exact dfin (P := fun r T => Q (some (.long r)) (xst T G h)) hf hQ
                          · rw [if_neg hx21] at hf
                            cases hf
theorem G97c {xs : Nat → Int32} {L9 d : Nat} {G : gS} {h : Nat → va_E} {n : Nat} {Q : Option Value → AmH → Prop} {r0 : Int64} {S0 S : xS} {l0 : Int32} {l1 : Int64} {l3 : Int64} (hf : G97 n l0 l1 l3 S = some (r0, S0)) (hQ : Q (some (.long r0)) (xst S0 G h)) : Ca (am_X xs L9) (d + 0) 97 [.int l0, .long l1, .long l3] (xst S G h) Q := (G97l hQ n) l0 l1 l3 S hf
def G96b0 (l0 : Nat) (ln : Nat) (F : Nat → Int32 → Int32 → xS → Option (Int32 × xS)) (n : Nat) (l3 : Int32) (l4 : Int32) (S : xS) : Option (Int32 × xS) := F 5 0 0 S
def G96b5 (l0 : Nat) (ln : Nat) (F : Nat → Int32 → Int32 → xS → Option (Int32 × xS)) (n : Nat) (l3 : Int32) (l4 : Int32) (S : xS) : Option (Int32 × xS) := (if am_ic .ge l4 (Int32.ofNat ln) = true then (if am_ic .ne l3 1 = true then some (0, S) else (if am_if .eq (lg_cmp (S.2.2.1 122 0) 0) = true then some (0, S) else some (1, S))) else (if ¬ (l4 < 0 ∨ ln ≤ (l4).toNatClampNeg) then (if am_ic .le (S.2.1 (l0 + 1) (Int32.toNatClampNeg l4)) (-12) = true then (if am_ic .ne (S.2.1 (l0 + 1) (Int32.toNatClampNeg l4)) (-24) = true then (if am_ic .ge l3 2 = true then (if ¬ (((l3 + (-1)) - 1) < 0 ∨ 60 ≤ (((l3 + (-1)) - 1)).toNatClampNeg) then (if ¬ ((l3 + (-1)) < 0 ∨ 60 ≤ ((l3 + (-1))).toNatClampNeg) then ((G97 n (S.2.1 (l0 + 1) (Int32.toNatClampNeg l4)) (S.2.2.1 122 (Int32.toNatClampNeg ((l3 + (-1)) - 1))) (S.2.2.1 122 (Int32.toNatClampNeg (l3 + (-1)))) S).bind (fun z10 => (if ¬ (((l3 + (-1)) - 1) < 0 ∨ 60 ≤ (((l3 + (-1)) - 1)).toNatClampNeg) then ((some (x_sL z10.2 122 (Int32.toNatClampNeg ((l3 + (-1)) - 1)) z10.1)).bind (fun S13 => F 5 (l3 + (-1)) (l4 + 1) S13)) else none))) else none) else none) else some (0, S)) else (if am_ic .ge l3 1 = true then (if ¬ ((l3 - 1) < 0 ∨ 60 ≤ ((l3 - 1)).toNatClampNeg) then (if ¬ ((l3 - 1) < 0 ∨ 60 ≤ ((l3 - 1)).toNatClampNeg) then ((some (x_sL S 122 (Int32.toNatClampNeg (l3 - 1)) (1 - (S.2.2.1 122 (Int32.toNatClampNeg (l3 - 1)))))).bind (fun S18 => F 5 l3 (l4 + 1) S18)) else none) else none) else some (0, S))) else (if am_ic .ge l3 60 = true then some (0, S) else (if am_ic .lt ((-1) - (S.2.1 (l0 + 1) (Int32.toNatClampNeg l4))) 11 = true then (if am_if .lt (S.2.1 (l0 + 1) (Int32.toNatClampNeg l4)) = true then (if ¬ (((-1) - (S.2.1 (l0 + 1) (Int32.toNatClampNeg l4))) < 0 ∨ 11 ≤ (((-1) - (S.2.1 (l0 + 1) (Int32.toNatClampNeg l4)))).toNatClampNeg) then (if ¬ (l3 < 0 ∨ 60 ≤ (l3).toNatClampNeg) then ((some (x_sL S 122 (Int32.toNatClampNeg l3) (S.2.2.1 121 (Int32.toNatClampNeg ((-1) - (S.2.1 (l0 + 1) (Int32.toNatClampNeg l4))))))).bind (fun S25 => F 5 (l3 + 1) (l4 + 1) S25)) else none) else none) else (if ¬ (l3 < 0 ∨ 60 ≤ (l3).toNatClampNeg) then ((some (x_sL S 122 (Int32.toNatClampNeg l3) (Int32.toInt64 (S.2.1 (l0 + 1) (Int32.toNatClampNeg l4))))).bind (fun S28 => F 5 (l3 + 1) (l4 + 1) S28)) else none)) else some (0, S)))) else none))
def G96f (l0 : Nat) (ln : Nat) : Nat → Nat → Int32 → Int32 → xS → Option (Int32 × xS)
  | 0, _, _, _, _ => none
  | n + 1, c, l3, l4, S => if c = 0 then G96b0 l0 ln (G96f l0 ln n) n l3 l4 S else G96b5 l0 ln (G96f l0 ln n) n l3 l4 S
theorem G96e0 (l0 : Nat) (ln : Nat) (n : Nat) (l3 : Int32) (l4 : Int32) (S : xS) : G96f l0 ln (n + 1) 0 l3 l4 S = G96b0 l0 ln (G96f l0 ln n) n l3 l4 S := if_pos rfl
theorem G96e5 (l0 : Nat) (ln : Nat) (n : Nat) (l3 : Int32) (l4 : Int32) (S : xS) : G96f l0 ln (n + 1) 5 l3 l4 S = G96b5 l0 ln (G96f l0 ln n) n l3 l4 S := if_neg (by decide)
def G96 (l0 : Nat) (ln : Nat) (n : Nat)  (S : xS) : Option (Int32 × xS) := G96f l0 ln n 0 0 0 S
set_option maxRecDepth 20000 in
set_option maxHeartbeats 4000000 in
theorem G96l {xs : Nat → Int32} {L9 d : Nat} {G : gS} {h : Nat → va_E} {l0 : Nat} {ln : Nat} {Q : Option Value → AmH → Prop} {r0 : Int32} {S0 : xS} (hq : lB G l0 ln = true) (hQ : Q (some (.int r0)) (xst S0 G h)) : ∀ n : Nat, (∀ (l3 : Int32) (l4 : Int32) (S : xS), G96f l0 ln n 0 l3 l4 S = some (r0, S0) → Go (am_X xs L9) (d + 1) 96 0 [.ref l0, .ref 121, .ref 122, .float 0, .float 0, .float 0] [] (xst S G h) Q) ∧ (∀ (l3 : Int32) (l4 : Int32) (S : xS), G96f l0 ln n 5 l3 l4 S = some (r0, S0) → Go (am_X xs L9) (d + 1) 96 5 [.ref l0, .ref 121, .ref 122, .int l3, .int l4, .float 0] [] (xst S G h) Q) := by
  intro n
  induction n with
  | zero => exact ⟨fun l3 l4 S hf => (by cases hf), fun l3 l4 S hf => (by cases hf)⟩
  | succ n ih =>
    refine ⟨?_, ?_⟩
    · intro l3 l4 S hf
      rw [G96e0] at hf
      unfold G96b0 at hf
      refine r_iconst (v := 0) fe_96_0 (by decide) ?_
      refine r_istore_n fe_96_1 (Nat.le_of_ble_eq_true rfl) rfl ?_
      refine r_iconst (v := 0) fe_96_2 (by decide) ?_
      refine r_istore fe_96_3 (Nat.le_of_ble_eq_true rfl) rfl ?_
      refine go_weak (L0 := [.ref l0, .ref 121, .ref 122, .int 0, .int 0, .float 0]) (lwk_c (Or.inl rfl) (lwk_c (Or.inl rfl) (lwk_c (Or.inl rfl) (lwk_c (Or.inl rfl) (lwk_c (Or.inl rfl) (lwk_c (Or.inl rfl) (lwk_rf []))))))) ?_
      exact ih.2 0 0 S hf
    · intro l3 l4 S hf
      rw [G96e5] at hf
      unfold G96b5 at hf
      refine r_iload fe_96_5 rfl ?_
      refine r_aload_n fe_96_7 rfl ?_
      refine r_getf (v := .ref (l0 + 1)) fe_96_8 lf_1_7 (x_c (lk0 hq) (by decide)) (x_lt (lk0 hq) (by decide)) rfl ?_
      refine r_alen (v := (Int32.ofNat ln)) fe_96_11 (x_c (lk1 hq) (Nat.succ_ne_zero _)) (x_lt (lk1 hq) (Nat.succ_ne_zero _)) (by decide) rfl ?_
      by_cases hb1 : am_ic .ge l4 (Int32.ofNat ln) = true
      · rw [if_pos hb1] at hf
        refine r_ic_t (t := 137) fe_96_12 (by decide) hb1 ?_
        refine r_iload_n fe_96_137 rfl ?_
        refine r_iconst (v := 1) fe_96_138 (by decide) ?_
        by_cases hb2 : am_ic .ne l3 1 = true
        · rw [if_pos hb2] at hf
          refine r_ic_t (t := 154) fe_96_139 (by decide) hb2 ?_
          refine r_iconst (v := 0) fe_96_154 (by decide) ?_
          refine r_iret fe_96_155 ⟨rfl, by decide⟩ ?_
          exact dfin (P := fun r T => Q (some (.int r)) (xst T G h)) hf hQ
        · rw [if_neg hb2] at hf
          refine r_ic_f (t := 154) fe_96_139 (by decide) (Bool.eq_false_iff.mpr hb2) ?_
          refine r_aload_n fe_96_142 rfl ?_
          refine r_iconst (v := 0) fe_96_143 (by decide) ?_
          refine r_lald (j := 0) (v := S.2.2.1 122 0) fe_96_144 (x_c xk_122 (by decide)) (x_lt xk_122 (by decide)) (by decide) (by decide) (by decide) (by decide) rfl ?_
          refine r_lconst (v := 0) fe_96_145 (by decide) ?_
          refine r_lcmp (v := (lg_cmp (S.2.2.1 122 0) 0)) fe_96_146 rfl ?_
          by_cases hb3 : am_if .eq (lg_cmp (S.2.2.1 122 0) 0) = true
          · rw [if_pos hb3] at hf
            refine r_if_t (t := 154) fe_96_147 (by decide) hb3 ?_
            refine r_iconst (v := 0) fe_96_154 (by decide) ?_
            refine r_iret fe_96_155 ⟨rfl, by decide⟩ ?_
            exact dfin (P := fun r T => Q (some (.int r)) (xst T G h)) hf hQ
          · rw [if_neg hb3] at hf
            refine r_if_f (t := 154) fe_96_147 (by decide) (Bool.eq_false_iff.mpr hb3) ?_
            refine r_iconst (v := 1) fe_96_150 (by decide) ?_
            refine r_goto (t := 155) fe_96_151 (by decide) ?_
            refine r_iret fe_96_155 ⟨rfl, by decide⟩ ?_
            exact dfin (P := fun r T => Q (some (.int r)) (xst T G h)) hf hQ
      · rw [if_neg hb1] at hf
        refine r_ic_f (t := 137) fe_96_12 (by decide) (Bool.eq_false_iff.mpr hb1) ?_
        refine r_aload_n fe_96_15 rfl ?_
        refine r_getf (v := .ref (l0 + 1)) fe_96_16 lf_1_7 (x_c (lk0 hq) (by decide)) (x_lt (lk0 hq) (by decide)) rfl ?_
        refine r_iload fe_96_19 rfl ?_
        by_cases hg4 : ¬ (l4 < 0 ∨ ln ≤ (l4).toNatClampNeg)
        rotate_left
        · rw [if_neg hg4] at hf; cases hf
        rw [if_pos hg4] at hf
        refine r_iald (j := (Int32.toNatClampNeg l4)) (v := S.2.1 (l0 + 1) (Int32.toNatClampNeg l4)) fe_96_21 (x_c (lk1 hq) (Nat.succ_ne_zero _)) (x_lt (lk1 hq) (Nat.succ_ne_zero _)) (fun z => hg4 (Or.inl z)) rfl (fun z => hg4 (Or.inr z)) rfl ?_
        refine r_istore fe_96_22 (Nat.le_of_ble_eq_true rfl) rfl ?_
        refine r_iload fe_96_24 rfl ?_
        refine r_bipush (v := -12) fe_96_26 (by decide) ?_
        by_cases hb5 : am_ic .le (S.2.1 (l0 + 1) (Int32.toNatClampNeg l4)) (-12) = true
        · rw [if_pos hb5] at hf
          refine r_ic_t (t := 74) fe_96_28 (by decide) hb5 ?_
          refine r_iload fe_96_74 rfl ?_
          refine r_bipush (v := -24) fe_96_76 (by decide) ?_
          by_cases hb6 : am_ic .ne (S.2.1 (l0 + 1) (Int32.toNatClampNeg l4)) (-24) = true
          · rw [if_pos hb6] at hf
            refine r_ic_t (t := 103) fe_96_78 (by decide) hb6 ?_
            refine r_iload_n fe_96_103 rfl ?_
            refine r_iconst (v := 2) fe_96_104 (by decide) ?_
            by_cases hb7 : am_ic .ge l3 2 = true
            · rw [if_pos hb7] at hf
              refine r_ic_t (t := 110) fe_96_105 (by decide) hb7 ?_
              refine r_iinc (v := (l3 + (-1))) fe_96_110 rfl rfl rfl ?_
              refine r_aload_n fe_96_113 rfl ?_
              refine r_iload_n fe_96_114 rfl ?_
              refine r_iconst (v := 1) fe_96_115 (by decide) ?_
              refine r_isub (v := ((l3 + (-1)) - 1)) fe_96_116 rfl ?_
              refine r_iload fe_96_117 rfl ?_
              refine r_aload_n fe_96_119 rfl ?_
              refine r_iload_n fe_96_120 rfl ?_
              refine r_iconst (v := 1) fe_96_121 (by decide) ?_
              refine r_isub (v := ((l3 + (-1)) - 1)) fe_96_122 rfl ?_
              by_cases hg8 : ¬ (((l3 + (-1)) - 1) < 0 ∨ 60 ≤ (((l3 + (-1)) - 1)).toNatClampNeg)
              rotate_left
              · rw [if_neg hg8] at hf; cases hf
              rw [if_pos hg8] at hf
              refine r_lald (j := (Int32.toNatClampNeg ((l3 + (-1)) - 1))) (v := S.2.2.1 122 (Int32.toNatClampNeg ((l3 + (-1)) - 1))) fe_96_123 (x_c xk_122 (by decide)) (x_lt xk_122 (by decide)) (by decide) (fun z => hg8 (Or.inl z)) rfl (fun z => hg8 (Or.inr z)) rfl ?_
              refine r_aload_n fe_96_124 rfl ?_
              refine r_iload_n fe_96_125 rfl ?_
              by_cases hg9 : ¬ ((l3 + (-1)) < 0 ∨ 60 ≤ ((l3 + (-1))).toNatClampNeg)
              rotate_left
              · rw [if_neg hg9] at hf; cases hf
              rw [if_pos hg9] at hf
              refine r_lald (j := (Int32.toNatClampNeg (l3 + (-1)))) (v := S.2.2.1 122 (Int32.toNatClampNeg (l3 + (-1)))) fe_96_126 (x_c xk_122 (by decide)) (x_lt xk_122 (by decide)) (by decide) (fun z => hg9 (Or.inl z)) rfl (fun z => hg9 (Or.inr z)) rfl ?_
              refine r_callS (as := [.int (S.2.1 (l0 + 1) (Int32.toNatClampNeg l4)), .long (S.2.2.1 122 (Int32.toNatClampNeg ((l3 + (-1)) - 1))), .long (S.2.2.1 122 (Int32.toNatClampNeg (l3 + (-1))))]) (r := [.int ((l3 + (-1)) - 1), .ref 122]) fe_96_127 lm_1_13 md_97 rfl rfl (Nat.le_of_ble_eq_true rfl) (Nat.le_of_ble_eq_true rfl) (Nat.le_of_ble_eq_true rfl) ?_
              cases hc11 : G97 n (S.2.1 (l0 + 1) (Int32.toNatClampNeg l4)) (S.2.2.1 122 (Int32.toNatClampNeg ((l3 + (-1)) - 1))) (S.2.2.1 122 (Int32.toNatClampNeg (l3 + (-1)))) S with
              | none => rw [hc11] at hf; cases hf
              | some z10 =>
                rw [hc11, Option.bind_some] at hf
                refine G97c (r0 := z10.1) (S0 := z10.2)  (hf := hc11) ?_
                by_cases hg12 : ¬ (((l3 + (-1)) - 1) < 0 ∨ 60 ≤ (((l3 + (-1)) - 1)).toNatClampNeg)
                rotate_left
                · rw [if_neg hg12] at hf; cases hf
                rw [if_pos hg12] at hf
                refine r_last (j := (Int32.toNatClampNeg ((l3 + (-1)) - 1))) fe_96_130 (x_h xk_122 (by decide)) (x_lt xk_122 (by decide)) (by decide) (fun z => hg12 (Or.inl z)) rfl (fun z => hg12 (Or.inr z)) ?_
                obtain ⟨S13, e14, hf⟩ := dbnd hf
                refine go_heap (h2 := xst S13 G h) ((x_uL xk_122).trans (by rw [e14])) ?_
                refine r_iinc (v := (l4 + 1)) fe_96_131 rfl rfl rfl ?_
                refine r_goto (t := 5) fe_96_134 (by decide) ?_
                refine go_weak (L0 := [.ref l0, .ref 121, .ref 122, .int (l3 + (-1)), .int (l4 + 1), .float 0]) (lwk_c (Or.inl rfl) (lwk_c (Or.inl rfl) (lwk_c (Or.inl rfl) (lwk_c (Or.inl rfl) (lwk_c (Or.inl rfl) (lwk_c (Or.inr rfl) (lwk_rf []))))))) ?_
                exact ih.2 (l3 + (-1)) (l4 + 1) S13 hf
            · rw [if_neg hb7] at hf
              refine r_ic_f (t := 110) fe_96_105 (by decide) (Bool.eq_false_iff.mpr hb7) ?_
              refine r_iconst (v := 0) fe_96_108 (by decide) ?_
              refine r_iret fe_96_109 ⟨rfl, by decide⟩ ?_
              exact dfin (P := fun r T => Q (some (.int r)) (xst T G h)) hf hQ
          · rw [if_neg hb6] at hf
            refine r_ic_f (t := 103) fe_96_78 (by decide) (Bool.eq_false_iff.mpr hb6) ?_
            refine r_iload_n fe_96_81 rfl ?_
            refine r_iconst (v := 1) fe_96_82 (by decide) ?_
            by_cases hb15 : am_ic .ge l3 1 = true
            · rw [if_pos hb15] at hf
              refine r_ic_t (t := 88) fe_96_83 (by decide) hb15 ?_
              refine r_aload_n fe_96_88 rfl ?_
              refine r_iload_n fe_96_89 rfl ?_
              refine r_iconst (v := 1) fe_96_90 (by decide) ?_
              refine r_isub (v := (l3 - 1)) fe_96_91 rfl ?_
              refine r_lconst (v := 1) fe_96_92 (by decide) ?_
              refine r_aload_n fe_96_93 rfl ?_
              refine r_iload_n fe_96_94 rfl ?_
              refine r_iconst (v := 1) fe_96_95 (by decide) ?_
              refine r_isub (v := (l3 - 1)) fe_96_96 rfl ?_
              by_cases hg16 : ¬ ((l3 - 1) < 0 ∨ 60 ≤ ((l3 - 1)).toNatClampNeg)
              rotate_left
              · rw [if_neg hg16] at hf; cases hf
              rw [if_pos hg16] at hf
              refine r_lald (j := (Int32.toNatClampNeg (l3 - 1))) (v := S.2.2.1 122 (Int32.toNatClampNeg (l3 - 1))) fe_96_97 (x_c xk_122 (by decide)) (x_lt xk_122 (by decide)) (by decide) (fun z => hg16 (Or.inl z)) rfl (fun z => hg16 (Or.inr z)) rfl ?_
              refine r_lsub (v := (1 - (S.2.2.1 122 (Int32.toNatClampNeg (l3 - 1))))) fe_96_98 rfl ?_
              by_cases hg17 : ¬ ((l3 - 1) < 0 ∨ 60 ≤ ((l3 - 1)).toNatClampNeg)
              rotate_left
              · rw [if_neg hg17] at hf; cases hf
              rw [if_pos hg17] at hf
              refine r_last (j := (Int32.toNatClampNeg (l3 - 1))) fe_96_99 (x_h xk_122 (by decide)) (x_lt xk_122 (by decide)) (by decide) (fun z => hg17 (Or.inl z)) rfl (fun z => hg17 (Or.inr z)) ?_
              obtain ⟨S18, e19, hf⟩ := dbnd hf
              refine go_heap (h2 := xst S18 G h) ((x_uL xk_122).trans (by rw [e19])) ?_
              refine r_goto (t := 131) fe_96_100 (by decide) ?_
              refine r_iinc (v := (l4 + 1)) fe_96_131 rfl rfl rfl ?_
              refine r_goto (t := 5) fe_96_134 (by decide) ?_
              refine go_weak (L0 := [.ref l0, .ref 121, .ref 122, .int l3, .int (l4 + 1), .float 0]) (lwk_c (Or.inl rfl) (lwk_c (Or.inl rfl) (lwk_c (Or.inl rfl) (lwk_c (Or.inl rfl) (lwk_c (Or.inl rfl) (lwk_c (Or.inr rfl) (lwk_rf []))))))) ?_
              exact ih.2 l3 (l4 + 1) S18 hf
            · rw [if_neg hb15] at hf
              refine r_ic_f (t := 88) fe_96_83 (by decide) (Bool.eq_false_iff.mpr hb15) ?_
              refine r_iconst (v := 0) fe_96_86 (by decide) ?_
              refine r_iret fe_96_87 ⟨rfl, by decide⟩ ?_
              exact dfin (P := fun r T => Q (some (.int r)) (xst T G h)) hf hQ
        · rw [if_neg hb5] at hf
          refine r_ic_f (t := 74) fe_96_28 (by decide) (Bool.eq_false_iff.mpr hb5) ?_
          refine r_iload_n fe_96_31 rfl ?_
          refine r_aload_n fe_96_32 rfl ?_
          refine r_alen (v := 60) fe_96_33 (x_c xk_122 (by decide)) (x_lt xk_122 (by decide)) (by decide) (by decide) ?_
          by_cases hb20 : am_ic .ge l3 60 = true
          · rw [if_pos hb20] at hf
            refine r_ic_t (t := 46) fe_96_34 (by decide) hb20 ?_
            refine r_iconst (v := 0) fe_96_46 (by decide) ?_
            refine r_iret fe_96_47 ⟨rfl, by decide⟩ ?_
            exact dfin (P := fun r T => Q (some (.int r)) (xst T G h)) hf hQ
          · rw [if_neg hb20] at hf
            refine r_ic_f (t := 46) fe_96_34 (by decide) (Bool.eq_false_iff.mpr hb20) ?_
            refine r_iconst (v := -1) fe_96_37 (by decide) ?_
            refine r_iload fe_96_38 rfl ?_
            refine r_isub (v := ((-1) - (S.2.1 (l0 + 1) (Int32.toNatClampNeg l4)))) fe_96_40 rfl ?_
            refine r_aload_n fe_96_41 rfl ?_
            refine r_alen (v := 11) fe_96_42 (x_c xk_121 (by decide)) (x_lt xk_121 (by decide)) (by decide) (by decide) ?_
            by_cases hb21 : am_ic .lt ((-1) - (S.2.1 (l0 + 1) (Int32.toNatClampNeg l4))) 11 = true
            · rw [if_pos hb21] at hf
              refine r_ic_t (t := 48) fe_96_43 (by decide) hb21 ?_
              refine r_aload_n fe_96_48 rfl ?_
              refine r_iload_n fe_96_49 rfl ?_
              refine r_iload fe_96_50 rfl ?_
              by_cases hb22 : am_if .lt (S.2.1 (l0 + 1) (Int32.toNatClampNeg l4)) = true
              · rw [if_pos hb22] at hf
                refine r_if_t (t := 61) fe_96_52 (by decide) hb22 ?_
                refine r_aload_n fe_96_61 rfl ?_
                refine r_iconst (v := -1) fe_96_62 (by decide) ?_
                refine r_iload fe_96_63 rfl ?_
                refine r_isub (v := ((-1) - (S.2.1 (l0 + 1) (Int32.toNatClampNeg l4)))) fe_96_65 rfl ?_
                by_cases hg23 : ¬ (((-1) - (S.2.1 (l0 + 1) (Int32.toNatClampNeg l4))) < 0 ∨ 11 ≤ (((-1) - (S.2.1 (l0 + 1) (Int32.toNatClampNeg l4)))).toNatClampNeg)
                rotate_left
                · rw [if_neg hg23] at hf; cases hf
                rw [if_pos hg23] at hf
                refine r_lald (j := (Int32.toNatClampNeg ((-1) - (S.2.1 (l0 + 1) (Int32.toNatClampNeg l4))))) (v := S.2.2.1 121 (Int32.toNatClampNeg ((-1) - (S.2.1 (l0 + 1) (Int32.toNatClampNeg l4))))) fe_96_66 (x_c xk_121 (by decide)) (x_lt xk_121 (by decide)) (by decide) (fun z => hg23 (Or.inl z)) rfl (fun z => hg23 (Or.inr z)) rfl ?_
                by_cases hg24 : ¬ (l3 < 0 ∨ 60 ≤ (l3).toNatClampNeg)
                rotate_left
                · rw [if_neg hg24] at hf; cases hf
                rw [if_pos hg24] at hf
                refine r_last (j := (Int32.toNatClampNeg l3)) fe_96_67 (x_h xk_122 (by decide)) (x_lt xk_122 (by decide)) (by decide) (fun z => hg24 (Or.inl z)) rfl (fun z => hg24 (Or.inr z)) ?_
                obtain ⟨S25, e26, hf⟩ := dbnd hf
                refine go_heap (h2 := xst S25 G h) ((x_uL xk_122).trans (by rw [e26])) ?_
                refine r_iinc (v := (l3 + 1)) fe_96_68 rfl rfl rfl ?_
                refine r_goto (t := 131) fe_96_71 (by decide) ?_
                refine r_iinc (v := (l4 + 1)) fe_96_131 rfl rfl rfl ?_
                refine r_goto (t := 5) fe_96_134 (by decide) ?_
                refine go_weak (L0 := [.ref l0, .ref 121, .ref 122, .int (l3 + 1), .int (l4 + 1), .float 0]) (lwk_c (Or.inl rfl) (lwk_c (Or.inl rfl) (lwk_c (Or.inl rfl) (lwk_c (Or.inl rfl) (lwk_c (Or.inl rfl) (lwk_c (Or.inr rfl) (lwk_rf []))))))) ?_
                exact ih.2 (l3 + 1) (l4 + 1) S25 hf
              · rw [if_neg hb22] at hf
                refine r_if_f (t := 61) fe_96_52 (by decide) (Bool.eq_false_iff.mpr hb22) ?_
                refine r_iload fe_96_55 rfl ?_
                refine r_i2l (v := (Int32.toInt64 (S.2.1 (l0 + 1) (Int32.toNatClampNeg l4)))) fe_96_57 rfl ?_
                refine r_goto (t := 67) fe_96_58 (by decide) ?_
                by_cases hg27 : ¬ (l3 < 0 ∨ 60 ≤ (l3).toNatClampNeg)
                rotate_left
                · rw [if_neg hg27] at hf; cases hf
                rw [if_pos hg27] at hf
                refine r_last (j := (Int32.toNatClampNeg l3)) fe_96_67 (x_h xk_122 (by decide)) (x_lt xk_122 (by decide)) (by decide) (fun z => hg27 (Or.inl z)) rfl (fun z => hg27 (Or.inr z)) ?_
                obtain ⟨S28, e29, hf⟩ := dbnd hf
                refine go_heap (h2 := xst S28 G h) ((x_uL xk_122).trans (by rw [e29])) ?_
                refine r_iinc (v := (l3 + 1)) fe_96_68 rfl rfl rfl ?_
                refine r_goto (t := 131) fe_96_71 (by decide) ?_
                refine r_iinc (v := (l4 + 1)) fe_96_131 rfl rfl rfl ?_
                refine r_goto (t := 5) fe_96_134 (by decide) ?_
                refine go_weak (L0 := [.ref l0, .ref 121, .ref 122, .int (l3 + 1), .int (l4 + 1), .float 0]) (lwk_c (Or.inl rfl) (lwk_c (Or.inl rfl) (lwk_c (Or.inl rfl) (lwk_c (Or.inl rfl) (lwk_c (Or.inl rfl) (lwk_c (Or.inr rfl) (lwk_rf []))))))) ?_
                exact ih.2 (l3 + 1) (l4 + 1) S28 hf
            · rw [if_neg hb21] at hf
              refine r_ic_f (t := 48) fe_96_43 (by decide) (Bool.eq_false_iff.mpr hb21) ?_
              refine r_iconst (v := 0) fe_96_46 (by decide) ?_
              refine r_iret fe_96_47 ⟨rfl, by decide⟩ ?_
              exact dfin (P := fun r T => Q (some (.int r)) (xst T G h)) hf hQ
theorem G96c {xs : Nat → Int32} {L9 d : Nat} {G : gS} {h : Nat → va_E} {l0 : Nat} {ln : Nat} {n : Nat} {Q : Option Value → AmH → Prop} {r0 : Int32} {S0 S : xS}  (hq : lB G l0 ln = true) (hf : G96 l0 ln n  S = some (r0, S0)) (hQ : Q (some (.int r0)) (xst S0 G h)) : Ca (am_X xs L9) (d + 1) 96 [.ref l0, .ref 121, .ref 122] (xst S G h) Q := (G96l hq hQ n).1 0 0 S hf
