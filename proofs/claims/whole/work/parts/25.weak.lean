/-! a local that isn't known may hold anything -/
def lwk (a b : List Value) : Prop := a.length = b.length ∧ ∀ (i : Nat) (v : Value), a[i]? = some v → v = Value.float 0 ∨ b[i]? = some v
theorem lwk_get {a b : List Value} {i : Nat} {v : Value} (h : lwk a b) (hv : a[i]? = some v) (hn : v ≠ .float 0) : b[i]? = some v := (h.2 i v hv).resolve_left hn
theorem lwk_set {a b : List Value} {i : Nat} {v w : Value} (h : lwk a b) (hw : w = v ∨ w = .float 0) : lwk (a.set i w) (b.set i v) := by
  refine ⟨by rw [List.length_set, List.length_set]; exact h.1, fun j u hu => ?_⟩
  rw [List.getElem?_set] at hu ⊢
  by_cases hj : i = j
  · rw [if_pos hj] at hu ⊢
    rw [← h.1]
    split at hu
    · rename_i hl
      rw [if_pos hl]
      cases hu
      rcases hw with rfl | rfl
      · exact Or.inr rfl
      · exact Or.inl rfl
    · cases hu
  · rw [if_neg hj] at hu ⊢
    exact h.2 j u hu
theorem lwk_clr {a b : List Value} {i : Nat} (h : lwk a b) : lwk (a.set i (.float 0)) b := by
  refine ⟨by rw [List.length_set]; exact h.1, fun j u hu => ?_⟩
  rw [List.getElem?_set] at hu
  by_cases hj : i = j
  · rw [if_pos hj] at hu
    split at hu
    · cases hu; exact Or.inl rfl
    · cases hu
  · rw [if_neg hj] at hu
    exact h.2 j u hu
theorem lwk_clr2 {a b : List Value} {i : Nat} (h : lwk a b) (ha : ∀ v, a[i]? = some v → v = .float 0) : lwk a (b.set i (.float 0)) := by
  refine ⟨by rw [List.length_set]; exact h.1, fun j u hu => ?_⟩
  by_cases hj : i = j
  · subst hj; exact Or.inl (ha u hu)
  · rw [List.getElem?_set, if_neg hj]
    exact h.2 j u hu
theorem lwk_sl {a b : List Value} {i : Nat} {v : Value} (h : lwk a b) : lwk (am_sl a i v) (am_sl b i v) := by
  unfold am_sl
  cases i with
  | zero => exact lwk_set h (Or.inl rfl)
  | succ j =>
    apply lwk_set _ (Or.inl rfl)
    simp only
    cases ha : a[j]? with
    | none =>
      have hb : b[j]? = none := by
        rw [List.getElem?_eq_none_iff] at ha ⊢
        rw [← h.1]; exact ha
      rw [hb]
      exact h
    | some w =>
      cases w with
      | long x =>
        rw [lwk_get h ha (by intro z; cases z)]
        exact lwk_set h (Or.inl rfl)
      | double x =>
        rw [lwk_get h ha (by intro z; cases z)]
        exact lwk_set h (Or.inl rfl)
      | float x =>
        by_cases hx : (Value.float x) = .float 0
        · cases hb : b[j]? with
          | none => exact h
          | some u =>
            cases u with
            | long y => exact lwk_clr2 h (fun v hv => by rw [ha] at hv; cases hv; exact hx)
            | double y => exact lwk_clr2 h (fun v hv => by rw [ha] at hv; cases hv; exact hx)
            | _ => exact h
        · rw [lwk_get h ha hx]
          exact h
      | int x => rw [lwk_get h ha (by intro z; cases z)]; exact h
      | null => rw [lwk_get h ha (by intro z; cases z)]; exact h
      | ref x => rw [lwk_get h ha (by intro z; cases z)]; exact h
      | retAddr x => rw [lwk_get h ha (by intro z; cases z)]; exact h
section Wk
variable {X : Nat → va_E} {own mid pc : Nat} {L L0 L0' st st' : List Value} {h h' : AmH} {ins : Instr} {pc' : Nat}
theorem am_p1_wk (hw : lwk L0 L) (hq : am_p1 own pc L0 st ins = some (pc', L0', st')) : ∃ L', am_p1 own pc L st ins = some (pc', L', st') ∧ lwk L0' L' := by
  unfold am_p1 at hq ⊢
  split at hq
  · cases hq; exact ⟨L, rfl, hw⟩
  · cases hq; exact ⟨L, rfl, hw⟩
  · cases hq; exact ⟨L, rfl, hw⟩
  · cases hq; exact ⟨L, rfl, hw⟩
  · cases hq; exact ⟨L, rfl, hw⟩
  all_goals
    first
    | (split at hq
       · rename_i e; cases hq; exact ⟨L, by simp only [lwk_get hw e (by intro z; cases z)], hw⟩
       · cases hq; done)
    | (split at hq
       · rename_i e; cases hq; exact ⟨L, by simp only [lwk_get hw e (by intro z; cases z)], hw⟩
       · rename_i e; cases hq; exact ⟨L, by simp only [lwk_get hw e (by intro z; cases z)], hw⟩
       · cases hq)
    | cases hq
theorem am_p2_wk (hw : lwk L0 L) (hq : am_p2 pc L0 st ins = some (pc', L0', st')) : ∃ L', am_p2 pc L st ins = some (pc', L', st') ∧ lwk L0' L' := by
  unfold am_p2 at hq ⊢
  split at hq
  · split at hq
    · split at hq
      · rename_i hi; cases hq; exact ⟨_, if_pos (hw.1 ▸ hi), lwk_sl hw⟩
      · cases hq
    · cases hq
  · split at hq
    · split at hq
      · rename_i hi; cases hq; exact ⟨_, if_pos (hw.1 ▸ hi), lwk_sl hw⟩
      · cases hq
    · cases hq
  · split at hq
    · split at hq
      · rename_i hi; cases hq; exact ⟨_, if_pos (hw.1 ▸ hi), lwk_sl hw⟩
      · cases hq
    · split at hq
      · rename_i hi; cases hq; exact ⟨_, if_pos (hw.1 ▸ hi), lwk_sl hw⟩
      · cases hq
    · cases hq
  · split at hq
    · split at hq
      · rename_i hi; cases hq; exact ⟨_, if_pos (hw.1 ▸ hi), lwk_sl hw⟩
      · cases hq
    · split at hq
      · rename_i hi; cases hq; exact ⟨_, if_pos (hw.1 ▸ hi), lwk_sl hw⟩
      · cases hq
    · cases hq
  · split at hq
    · rename_i e; cases hq; exact ⟨_, by simp only [lwk_get hw e (by intro z; cases z)], lwk_sl hw⟩
    · cases hq
  · cases hq
def am_k1 (ins : Instr) : Bool := match ins with
  | .iconst _ | .bipush _ | .sipush _ | .lconst _ | .aconst_null | .iload_n _ | .iload _ | .lload_n _ | .lload _ | .aload_n _ | .aload _ => true
  | _ => false
def am_k2 (ins : Instr) : Bool := match ins with
  | .istore_n _ | .istore _ | .astore_n _ | .astore _ | .iinc .. => true
  | _ => false
theorem am_k1_no (hk : am_k1 ins = false) : am_p1 own pc L st ins = none := by
  unfold am_p1
  split <;> first | rfl | (simp [am_k1] at hk)
theorem am_k2_no (hk : am_k2 ins = false) : am_p2 pc L st ins = none := by
  unfold am_p2
  split <;> first | rfl | (simp [am_k2] at hk)
theorem am_k1_st {ret : Option FieldType} (hk : am_k1 ins = true) : am_p2 pc L st ins = none ∧ am_p3 pc L st ins = none ∧ am_p4 pc L st ins = none ∧ am_p5 pc L st ins = none ∧ am_p6 own pc L st ins = none ∧ am_p7 X own pc L st h ins = none ∧ am_hp own mid pc L st h ins = none ∧ am_q4 X own st h ins = none ∧ am_q5 ret st ins = none := by
  unfold am_k1 at hk
  split at hk
  all_goals first | exact ⟨rfl, am_p3_no rfl, rfl, rfl, rfl, rfl, rfl, rfl, rfl⟩ | cases hk
theorem am_k2_st {ret : Option FieldType} (hk : am_k2 ins = true) : am_p3 pc L st ins = none ∧ am_p4 pc L st ins = none ∧ am_p5 pc L st ins = none ∧ am_p6 own pc L st ins = none ∧ am_p7 X own pc L st h ins = none ∧ am_hp own mid pc L st h ins = none ∧ am_q4 X own st h ins = none ∧ am_q5 ret st ins = none := by
  unfold am_k2 at hk
  split at hk
  all_goals first | exact ⟨am_p3_no rfl, rfl, rfl, rfl, rfl, rfl, rfl, rfl⟩ | cases hk
theorem am_p3_L (hq : am_p3 pc L0 st ins = some (pc', L0', st')) : L0' = L0 ∧ am_p3 pc L st ins = some (pc', L, st') := by
  unfold am_p3 at hq ⊢
  repeat' split at hq
  all_goals first | (cases hq; done) | (cases hq; exact ⟨rfl, rfl⟩) | (cases hq; exact ⟨rfl, by simp only [*, not_false_eq_true, and_self, if_true, if_false, Bool.false_eq_true]⟩)
theorem am_p3_N (hq : am_p3 pc L0 st ins = none) : am_p3 pc L st ins = none := by
  cases e : am_p3 pc L st ins with
  | none => rfl
  | some z => rw [(am_p3_L (L := L0) (L0 := L) (L0' := z.2.1) (pc' := z.1) (st' := z.2.2) e).2] at hq; cases hq
theorem am_p4_L (hq : am_p4 pc L0 st ins = some (pc', L0', st')) : L0' = L0 ∧ am_p4 pc L st ins = some (pc', L, st') := by
  unfold am_p4 at hq ⊢
  repeat' split at hq
  all_goals first | (cases hq; done) | (cases hq; exact ⟨rfl, rfl⟩) | (cases hq; exact ⟨rfl, by simp only [*, not_false_eq_true, and_self, if_true, if_false, Bool.false_eq_true]⟩)
theorem am_p4_N (hq : am_p4 pc L0 st ins = none) : am_p4 pc L st ins = none := by
  cases e : am_p4 pc L st ins with
  | none => rfl
  | some z => rw [(am_p4_L (L := L0) (L0 := L) (L0' := z.2.1) (pc' := z.1) (st' := z.2.2) e).2] at hq; cases hq
theorem am_p5_L (hq : am_p5 pc L0 st ins = some (pc', L0', st')) : L0' = L0 ∧ am_p5 pc L st ins = some (pc', L, st') := by
  unfold am_p5 at hq ⊢
  repeat' split at hq
  all_goals first | (cases hq; done) | (cases hq; exact ⟨rfl, rfl⟩) | (cases hq; exact ⟨rfl, by simp only [*, not_false_eq_true, and_self, if_true, if_false, Bool.false_eq_true]⟩)
theorem am_p5_N (hq : am_p5 pc L0 st ins = none) : am_p5 pc L st ins = none := by
  cases e : am_p5 pc L st ins with
  | none => rfl
  | some z => rw [(am_p5_L (L := L0) (L0 := L) (L0' := z.2.1) (pc' := z.1) (st' := z.2.2) e).2] at hq; cases hq
theorem am_p6_L (hq : am_p6 own pc L0 st ins = some (pc', L0', st')) : L0' = L0 ∧ am_p6 own pc L st ins = some (pc', L, st') := by
  unfold am_p6 at hq ⊢
  repeat' split at hq
  all_goals first | (cases hq; done) | (cases hq; exact ⟨rfl, rfl⟩) | (cases hq; exact ⟨rfl, by simp only [*, not_false_eq_true, and_self, if_true, if_false, Bool.false_eq_true]⟩)
theorem am_p6_N (hq : am_p6 own pc L0 st ins = none) : am_p6 own pc L st ins = none := by
  cases e : am_p6 own pc L st ins with
  | none => rfl
  | some z => rw [(am_p6_L (L := L0) (L0 := L) (L0' := z.2.1) (pc' := z.1) (st' := z.2.2) e).2] at hq; cases hq
theorem am_p7_L (hq : am_p7 X own pc L0 st h ins = some (pc', L0', st')) : L0' = L0 ∧ am_p7 X own pc L st h ins = some (pc', L, st') := by
  unfold am_p7 at hq ⊢
  repeat' split at hq
  all_goals first | (cases hq; done) | (cases hq; exact ⟨rfl, rfl⟩) | (cases hq; exact ⟨rfl, by simp only [*, not_false_eq_true, and_self, if_true, if_false, Bool.false_eq_true]⟩)
theorem am_p7_N (hq : am_p7 X own pc L0 st h ins = none) : am_p7 X own pc L st h ins = none := by
  cases e : am_p7 X own pc L st h ins with
  | none => rfl
  | some z => rw [(am_p7_L (L := L0) (L0 := L) (L0' := z.2.1) (pc' := z.1) (st' := z.2.2) e).2] at hq; cases hq
theorem am_q1_L (hq : am_q1 own mid pc L0 st h ins = some ((pc', L0', st'), h')) : L0' = L0 ∧ am_q1 own mid pc L st h ins = some ((pc', L, st'), h') := by
  unfold am_q1 at hq ⊢
  repeat' split at hq
  all_goals first | (cases hq; done) | (cases hq; exact ⟨rfl, rfl⟩) | (cases hq; exact ⟨rfl, by simp only [*, not_false_eq_true, and_self, if_true, if_false, Bool.false_eq_true]⟩)
theorem am_q1_N (hq : am_q1 own mid pc L0 st h ins = none) : am_q1 own mid pc L st h ins = none := by
  cases e : am_q1 own mid pc L st h ins with
  | none => rfl
  | some z => rw [(am_q1_L (L := L0) (L0 := L) (L0' := z.1.2.1) (pc' := z.1.1) (st' := z.1.2.2) (h' := z.2) e).2] at hq; cases hq
theorem am_q2_L (hq : am_q2 own pc L0 st h ins = some ((pc', L0', st'), h')) : L0' = L0 ∧ am_q2 own pc L st h ins = some ((pc', L, st'), h') := by
  unfold am_q2 at hq ⊢
  repeat' split at hq
  all_goals first | (cases hq; done) | (cases hq; exact ⟨rfl, rfl⟩) | (cases hq; exact ⟨rfl, by simp only [*, not_false_eq_true, and_self, if_true, if_false, Bool.false_eq_true]⟩)
theorem am_q2_N (hq : am_q2 own pc L0 st h ins = none) : am_q2 own pc L st h ins = none := by
  cases e : am_q2 own pc L st h ins with
  | none => rfl
  | some z => rw [(am_q2_L (L := L0) (L0 := L) (L0' := z.1.2.1) (pc' := z.1.1) (st' := z.1.2.2) (h' := z.2) e).2] at hq; cases hq
theorem am_q3_L (hq : am_q3 own pc L0 st h ins = some ((pc', L0', st'), h')) : L0' = L0 ∧ am_q3 own pc L st h ins = some ((pc', L, st'), h') := by
  unfold am_q3 at hq ⊢
  repeat' split at hq
  all_goals first | (cases hq; done) | (cases hq; exact ⟨rfl, rfl⟩) | (cases hq; exact ⟨rfl, by simp only [*, not_false_eq_true, and_self, if_true, if_false, Bool.false_eq_true]⟩)
theorem am_q3_N (hq : am_q3 own pc L0 st h ins = none) : am_q3 own pc L st h ins = none := by
  cases e : am_q3 own pc L st h ins with
  | none => rfl
  | some z => rw [(am_q3_L (L := L0) (L0 := L) (L0' := z.1.2.1) (pc' := z.1.1) (st' := z.1.2.2) (h' := z.2) e).2] at hq; cases hq
theorem am_hp_L (hq : am_hp own mid pc L0 st h ins = some ((pc', L0', st'), h')) : L0' = L0 ∧ am_hp own mid pc L st h ins = some ((pc', L, st'), h') := by
  unfold am_hp at hq ⊢
  cases h1 : am_q1 own mid pc L0 st h ins with
  | some z => rw [h1] at hq; cases hq; obtain ⟨e1, e2⟩ := am_q1_L (L := L) h1; rw [e2]; exact ⟨e1, rfl⟩
  | none =>
    rw [h1] at hq
    rw [am_q1_N (L := L) h1]
    simp only at hq ⊢
    cases h2 : am_q2 own pc L0 st h ins with
    | some z => rw [h2] at hq; cases hq; obtain ⟨e1, e2⟩ := am_q2_L (L := L) h2; rw [e2]; exact ⟨e1, rfl⟩
    | none =>
      rw [h2] at hq
      rw [am_q2_N (L := L) h2]
      exact am_q3_L hq
theorem am_hp_N (hq : am_hp own mid pc L0 st h ins = none) : am_hp own mid pc L st h ins = none := by
  cases e : am_hp own mid pc L st h ins with
  | none => rfl
  | some z => rw [(am_hp_L (L := L0) (L0 := L) (L0' := z.1.2.1) (pc' := z.1.1) (st' := z.1.2.2) (h' := z.2) e).2] at hq; cases hq
/-- what a step with fewer locals known does, a step with more does -/
theorem am_st_wk {a : AmA} (hw : lwk L0 L) (hq : am_st X mid pc L0 st h = some a) : (∃ pc' L0' L' st' h', a = .inl ((pc', L0', st'), h') ∧ am_st X mid pc L st h = some (.inl ((pc', L', st'), h')) ∧ lwk L0' L') ∨ ((∃ z, a = .inr z) ∧ am_st X mid pc L st h = some a) := by
  unfold am_st at hq ⊢
  cases hf : am_fe mid pc with
  | none => rw [hf] at hq; cases hq
  | some x =>
    obtain ⟨own, ret, ins⟩ := x
    rw [hf] at hq
    simp only at hq ⊢
    unfold am_pr at hq ⊢
    cases h1 : am_p1 own pc L0 st ins with
    | some z =>
      obtain ⟨p9, l9, s9⟩ := z
      rw [h1] at hq; cases hq
      obtain ⟨L', e1, e2⟩ := am_p1_wk hw h1
      rw [e1]
      exact Or.inl ⟨_, _, _, _, _, rfl, rfl, e2⟩
    | none =>
      cases k1 : am_k1 ins with
      | true =>
        obtain ⟨z2, z3, z4, z5, z6, z7, z8, z9, z10⟩ := am_k1_st (X := X) (own := own) (mid := mid) (pc := pc) (L := L0) (st := st) (h := h) (ret := ret) k1
        rw [h1, z2, z3, z4, z5, z6, z7, z8, z9, z10] at hq
        cases hq
      | false =>
        rw [h1] at hq
        rw [am_k1_no k1]
        simp only at hq ⊢
        cases h2 : am_p2 pc L0 st ins with
        | some z =>
          obtain ⟨p9, l9, s9⟩ := z
          rw [h2] at hq; cases hq
          obtain ⟨L', e1, e2⟩ := am_p2_wk hw h2
          rw [e1]
          exact Or.inl ⟨_, _, _, _, _, rfl, rfl, e2⟩
        | none =>
          cases k2 : am_k2 ins with
          | true =>
            obtain ⟨z3, z4, z5, z6, z7, z8, z9, z10⟩ := am_k2_st (X := X) (own := own) (mid := mid) (pc := pc) (L := L0) (st := st) (h := h) (ret := ret) k2
            rw [h2, z3, z4, z5, z6, z7, z8, z9, z10] at hq
            cases hq
          | false =>
            rw [h2] at hq
            rw [am_k2_no k2]
            simp only at hq ⊢
            cases h3 : am_p3 pc L0 st ins with
            | some z => obtain ⟨p9, l9, s9⟩ := z; rw [h3] at hq; cases hq; obtain ⟨e1, e2⟩ := am_p3_L (L := L) h3; rw [e2]; exact Or.inl ⟨_, _, _, _, _, rfl, rfl, e1 ▸ hw⟩
            | none =>
              rw [h3] at hq; rw [am_p3_N (L := L) h3]; simp only at hq ⊢
              cases h4 : am_p4 pc L0 st ins with
              | some z => obtain ⟨p9, l9, s9⟩ := z; rw [h4] at hq; cases hq; obtain ⟨e1, e2⟩ := am_p4_L (L := L) h4; rw [e2]; exact Or.inl ⟨_, _, _, _, _, rfl, rfl, e1 ▸ hw⟩
              | none =>
                rw [h4] at hq; rw [am_p4_N (L := L) h4]; simp only at hq ⊢
                cases h5 : am_p5 pc L0 st ins with
                | some z => obtain ⟨p9, l9, s9⟩ := z; rw [h5] at hq; cases hq; obtain ⟨e1, e2⟩ := am_p5_L (L := L) h5; rw [e2]; exact Or.inl ⟨_, _, _, _, _, rfl, rfl, e1 ▸ hw⟩
                | none =>
                  rw [h5] at hq; rw [am_p5_N (L := L) h5]; simp only at hq ⊢
                  cases h6 : am_p6 own pc L0 st ins with
                  | some z => obtain ⟨p9, l9, s9⟩ := z; rw [h6] at hq; cases hq; obtain ⟨e1, e2⟩ := am_p6_L (L := L) h6; rw [e2]; exact Or.inl ⟨_, _, _, _, _, rfl, rfl, e1 ▸ hw⟩
                  | none =>
                    rw [h6] at hq; rw [am_p6_N (L := L) h6]; simp only at hq ⊢
                    cases h7 : am_p7 X own pc L0 st h ins with
                    | some z => obtain ⟨p9, l9, s9⟩ := z; rw [h7] at hq; cases hq; obtain ⟨e1, e2⟩ := am_p7_L (L := L) h7; rw [e2]; exact Or.inl ⟨_, _, _, _, _, rfl, rfl, e1 ▸ hw⟩
                    | none =>
                      rw [h7] at hq; rw [am_p7_N (L := L) h7]; simp only at hq ⊢
                      cases h8 : am_hp own mid pc L0 st h ins with
                      | some z => obtain ⟨⟨p9, l9, s9⟩, h9⟩ := z; rw [h8] at hq; cases hq; obtain ⟨e1, e2⟩ := am_hp_L (L := L) h8; rw [e2]; exact Or.inl ⟨_, _, _, _, _, rfl, rfl, e1 ▸ hw⟩
                      | none =>
                        rw [h8] at hq; rw [am_hp_N (L := L) h8]; simp only at hq ⊢
                        refine Or.inr ⟨?_, hq⟩
                        split at hq
                        · cases hq; exact ⟨_, rfl⟩
                        · split at hq
                          · cases hq; exact ⟨_, rfl⟩
                          · cases hq
end Wk
theorem am_wk {X : Nat → va_E} : ∀ {n d mid pc : Nat} {L0 L st : List Value} {h : AmH} {r : Option Value × AmH}, lwk L0 L → am X n d mid pc L0 st h = some r → am X n d mid pc L st h = some r
  | 0, _, _, _, _, _, _, _, _, _, hq => by cases hq
  | n + 1, d, mid, pc, L0, L, st, h, r, hw, hq => by
    rw [am_succ] at hq ⊢
    cases hs : am_st X mid pc L0 st h with
    | none => rw [hs] at hq; cases hq
    | some a =>
      rw [hs] at hq
      rcases am_st_wk hw hs with ⟨pc', L0', L', st', h', rfl, e2, e3⟩ | ⟨⟨z, rfl⟩, e2⟩
      · rw [e2]
        exact am_wk e3 hq
      · rw [e2]
        match z, hq with
        | .inr v, hq => exact hq
        | .inl (m', as, r'), hq =>
          match d, hq with
          | 0, hq => cases hq
          | d' + 1, hq =>
            simp only at hq ⊢
            split at hq
            · rename_i hl
              rw [if_pos hl]
              split at hq
              · rename_i v h' hc
                exact am_wk hw hq
              · cases hq
            · cases hq
theorem lwk_rf (a : List Value) : lwk a a := ⟨rfl, fun i v h => Or.inr h⟩
theorem lwk_c {a b : List Value} {v w : Value} (h : v = w ∨ v = .float 0) (h2 : lwk a b) : lwk (v :: a) (w :: b) := by
  refine ⟨by rw [List.length_cons, List.length_cons, h2.1], fun i u hu => ?_⟩
  cases i with
  | zero =>
    cases hu
    rcases h with rfl | rfl
    · exact Or.inr rfl
    · exact Or.inl rfl
  | succ i => exact h2.2 i u hu
theorem go_weak {X : Nat → va_E} {d mid pc : Nat} {L L0 st : List Value} {h : AmH} {Q : Option Value → AmH → Prop} (hw : lwk L0 L) (g : Go X d mid pc L0 st h Q) : Go X d mid pc L st h Q := by
  obtain ⟨n, v, hf, a, b⟩ := g
  exact ⟨n, v, hf, am_wk hw a, b⟩
