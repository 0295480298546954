/-! what isn't read doesn't matter -/
section AmX
variable {X X' : Nat → va_E} {own mid pc : Nat} {L st : List Value} {h : AmH} {ins : Instr}
theorem am_c_ext (hX : ∀ p, X p = X' p ∨ X p = .inr (99, [])) (p : Nat) : am_c X h p = am_c X' h p ∨ am_c X h p = .inr (99, []) := by
  unfold am_c
  split
  · exact hX p
  · exact Or.inl rfl
theorem am_p7_ext {n : AmN} (hX : ∀ p, am_c X h p = am_c X' h p ∨ am_c X h p = .inr (99, [])) (hq : am_p7 X own pc L st h ins = some n) : am_p7 X' own pc L st h ins = some n := by
  unfold am_p7 at hq ⊢
  split at hq
  · split at hq
    · rename_i p r
      rcases hX p with e | e
      · simp only [← e]; exact hq
      · simp only [e] at hq
        split at hq
        · split at hq
          · simp at hq
          · cases hq
        · cases hq
    · cases hq
  · split at hq
    · rename_i p r
      rcases hX p with e | e
      · simp only [← e]; exact hq
      · simp only [e] at hq; cases hq
    · cases hq
  · split at hq
    · rename_i i p r
      rcases hX p with e | e
      · simp only [← e]; exact hq
      · simp only [e] at hq; cases hq
    · cases hq
  · split at hq
    · rename_i i p r
      rcases hX p with e | e
      · simp only [← e]; exact hq
      · simp only [e] at hq; cases hq
    · cases hq
  · split at hq
    · rename_i i p r
      rcases hX p with e | e
      · simp only [← e]; exact hq
      · simp only [e] at hq; cases hq
    · cases hq
  · split at hq
    · rename_i i p r
      rcases hX p with e | e
      · simp only [← e]; exact hq
      · simp only [e] at hq; cases hq
    · cases hq
  · cases hq
theorem am_p7_ext' (hX : ∀ p, am_c X h p = am_c X' h p ∨ am_c X h p = .inr (99, [])) : am_p7 X own pc L st h ins = none ∨ am_p7 X own pc L st h ins = am_p7 X' own pc L st h ins := by
  cases hq : am_p7 X own pc L st h ins with
  | none => exact Or.inl rfl
  | some n => exact Or.inr (am_p7_ext hX hq).symm
theorem am_q4_ext {n : Nat × List Value × List Value} (hX : ∀ p, am_c X h p = am_c X' h p ∨ am_c X h p = .inr (99, [])) (hq : am_q4 X own st h ins = some n) : am_q4 X' own st h ins = some n := by
  cases ins with
  | invokevirtual i =>
    simp only [am_q4] at hq ⊢
    cases hk : am_lk i (am_ml.getD own []) with
    | none => rw [hk] at hq; cases hq
    | some z =>
      obtain ⟨m', k⟩ := z
      rw [hk] at hq
      cases k with
      | succ k => cases hq
      | zero =>
        simp only at hq ⊢
        cases hq' : am_md[m']? with
        | none => rw [hq'] at hq; cases hq
        | some q =>
          rw [hq'] at hq
          simp only at hq ⊢
          split at hq
          · rename_i p as hr
            rcases hX p with e | e
            · rw [e] at hq; exact hq
            · rw [e] at hq
              simp only at hq
              split at hq
              · rename_i z
                have := am_md_lt hq'
                omega
              · cases hq
          · cases hq
  | invokespecial i => exact hq
  | invokestatic i => exact hq
  | _ => cases hq
def am_rd (ins : Instr) : Bool := match ins with
  | .getfield _ | .arraylength | .iaload | .baload | .laload | .aaload => true
  | _ => false
theorem am_p7_no (hr : am_rd ins = false) : am_p7 X own pc L st h ins = none := by
  unfold am_p7
  split <;> first | rfl | (simp [am_rd] at hr)
theorem am_rd_no {ret : Option FieldType} (hr : am_rd ins = true) : am_hp own mid pc L st h ins = none ∧ am_q4 X own st h ins = none ∧ am_q5 ret st ins = none := by
  unfold am_rd at hr
  split at hr
  all_goals first | exact ⟨rfl, rfl, rfl⟩ | cases hr
def am_iv (ins : Instr) : Bool := match ins with
  | .invokevirtual _ | .invokespecial _ | .invokestatic _ => true
  | _ => false
theorem am_q4_no (hr : am_iv ins = false) : am_q4 X own st h ins = none := by
  unfold am_q4
  split <;> first | rfl | (simp [am_iv] at hr)
theorem am_iv_no {ret : Option FieldType} (hr : am_iv ins = true) : am_q5 ret st ins = none := by
  unfold am_iv at hr
  split at hr
  all_goals first | rfl | cases hr
/-- instructions that read the heap, and no other kind of step -/
theorem am_st_ext {a : AmA} (hX : ∀ p, X p = X' p ∨ X p = .inr (99, [])) (hq : am_st X mid pc L st h = some a) : am_st X' mid pc L st h = some a := by
  have hC := fun p => am_c_ext (h := h) hX p
  unfold am_st at hq ⊢
  cases hf : am_fe mid pc with
  | none => rw [hf] at hq; cases hq
  | some x =>
    obtain ⟨own, ret, ins⟩ := x
    rw [hf] at hq
    simp only at hq ⊢
    unfold am_pr at hq ⊢
    cases h1 : am_p1 own pc L st ins with
    | some y => rw [h1] at hq; exact hq
    | none =>
      rw [h1] at hq
      simp only at hq ⊢
      cases h2 : am_p2 pc L st ins with
      | some y => rw [h2] at hq; exact hq
      | none =>
        rw [h2] at hq
        simp only at hq ⊢
        cases h3 : am_p3 pc L st ins with
        | some y => rw [h3] at hq; exact hq
        | none =>
          rw [h3] at hq
          simp only at hq ⊢
          cases h4 : am_p4 pc L st ins with
          | some y => rw [h4] at hq; exact hq
          | none =>
            rw [h4] at hq
            simp only at hq ⊢
            cases h5 : am_p5 pc L st ins with
            | some y => rw [h5] at hq; exact hq
            | none =>
              rw [h5] at hq
              simp only at hq ⊢
              cases h6 : am_p6 own pc L st ins with
              | some y => rw [h6] at hq; exact hq
              | none =>
                rw [h6] at hq
                simp only at hq ⊢
                cases h7 : am_p7 X own pc L st h ins with
                | some y => rw [h7] at hq; rw [am_p7_ext hC h7]; exact hq
                | none =>
                  rw [h7] at hq
                  simp only at hq
                  have h7' : am_p7 X' own pc L st h ins = none := by
                    cases hr : am_rd ins with
                    | false => exact am_p7_no hr
                    | true =>
                      obtain ⟨z1, z2, z3⟩ := am_rd_no (X := X) (own := own) (mid := mid) (pc := pc) (L := L) (st := st) (h := h) (ret := ret) hr
                      rw [z1, z2, z3] at hq
                      cases hq
                  rw [h7']
                  simp only
                  cases h8 : am_hp own mid pc L st h ins with
                  | some y => rw [h8] at hq; exact hq
                  | none =>
                    rw [h8] at hq
                    simp only at hq ⊢
                    cases h9 : am_q4 X own st h ins with
                    | some y => rw [h9] at hq; rw [am_q4_ext hC h9]; exact hq
                    | none =>
                      rw [h9] at hq
                      simp only at hq
                      have h9' : am_q4 X' own st h ins = none := by
                        cases hr : am_iv ins with
                        | false => exact am_q4_no hr
                        | true =>
                          rw [am_iv_no (st := st) (ret := ret) hr] at hq
                          cases hq
                      rw [h9']
                      exact hq
theorem am_ext (hX : ∀ p, X p = X' p ∨ X p = .inr (99, [])) : ∀ {n d mid pc : Nat} {L st : List Value} {h : AmH} {r : Option Value × AmH}, am X n d mid pc L st h = some r → am X' n d mid pc L st h = some r
  | 0, _, _, _, _, _, _, _, hq => by cases hq
  | n + 1, d, mid, pc, L, st, h, r, hq => by
    rw [am_succ] at hq ⊢
    cases hs : am_st X mid pc L st h with
    | none => rw [hs] at hq; cases hq
    | some a =>
      rw [hs] at hq
      rw [am_st_ext hX hs]
      match a, hq with
      | .inl ((pc', L', st'), h'), hq => exact am_ext hX hq
      | .inr (.inr v), hq => exact hq
      | .inr (.inl (m', as, r')), hq =>
        match d, hq with
        | 0, hq => cases hq
        | d' + 1, hq =>
          simp only at hq ⊢
          split at hq
          · rename_i hl
            rw [if_pos hl]
            split at hq
            · rename_i v h' hc
              rw [am_ext hX hc]
              exact am_ext hX hq
            · cases hq
          · cases hq
end AmX
