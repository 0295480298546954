theorem am_sl_len (L : List Value) (i : Nat) (v : Value) : (am_sl L i v).length = L.length := by
  unfold am_sl
  split
  · simp
  · split <;> simp
theorem am_sl_get {L : List Value} {i : Nat} {v w : Value} {j : Nat} (h : (am_sl L i v)[j]? = some w) (hf : ∀ x, w ≠ .float x) : (j = i ∧ w = v) ∨ (j ≠ i ∧ L[j]? = some w ∧ (j + 1 = i → ∀ x, w ≠ .long x ∧ ∀ y, w ≠ .double y)) := by
  unfold am_sl at h
  rw [List.getElem?_set] at h
  by_cases hj : i = j
  · rw [if_pos hj, Option.ite_none_right_eq_some] at h
    exact Or.inl ⟨hj.symm, (Option.some.inj h.2).symm⟩
  · rw [if_neg hj] at h
    refine Or.inr ⟨fun e => hj e.symm, ?_⟩
    split at h
    · exact ⟨h, fun e => by omega⟩
    · rename_i k
      split at h
      · rename_i x hk
        rw [List.getElem?_set] at h
        split at h
        · rename_i e
          subst e
          split at h
          · exact absurd (Option.some.inj h).symm (hf 0)
          · cases h
        · rename_i e
          exact ⟨h, fun e2 => by omega⟩
      · rename_i x hk
        rw [List.getElem?_set] at h
        split at h
        · rename_i e
          subst e
          split at h
          · exact absurd (Option.some.inj h).symm (hf 0)
          · cases h
        · rename_i e
          exact ⟨h, fun e2 => by omega⟩
      · rename_i h1 h2
        refine ⟨h, fun e2 x => ⟨fun e3 => ?_, fun y e3 => ?_⟩⟩
        · have : j = k := by omega
          subst this
          exact h1 x (e3 ▸ h)
        · have : j = k := by omega
          subst this
          exact h2 y (e3 ▸ h)
def am_ps (fv : Value) (ad : Nat → Nat) (L : List Value) : List (Nat × Value) := (List.range L.length).filterMap (fun i => match (L[i]? : Option Value) with
  | some (Value.float _) => none
  | some v => some (i, am_rv fv ad v)
  | none => none)
theorem am_ps_mem {fv : Value} {ad : Nat → Nat} {L : List Value} {q : Nat × Value} : q ∈ am_ps fv ad L ↔ ∃ v, L[q.1]? = some v ∧ (∀ x, v ≠ .float x) ∧ q.2 = am_rv fv ad v := by
  unfold am_ps
  rw [List.mem_filterMap]
  constructor
  · rintro ⟨i, hi, h⟩
    split at h
    · cases h
    · rename_i v hv hn
      cases h
      exact ⟨v, hn, fun x e => hv x e, rfl⟩
    · cases h
  · rintro ⟨v, h1, h2, h3⟩
    refine ⟨q.1, by rw [List.mem_range]; exact (List.getElem?_eq_some_iff.mp h1).1, ?_⟩
    rw [h1]
    split
    · rename_i x e
      exact absurd (Option.some.inj e) (h2 x)
    · rename_i w hw e
      cases e
      rw [← h3]
    · rename_i e
      cases e
theorem am_rv_cat {fv : Value} {ad : Nat → Nat} (hfv : fv = .null ∨ ∃ t, fv = .ref t) (v : Value) : (am_rv fv ad v).category = v.category := by
  cases v <;> first | rfl | (rcases hfv with rfl | ⟨t, rfl⟩ <;> rfl)
theorem am_L_has {fv : Value} {ad : Nat → Nat} {ls : Array Slot} {L : List Value} (h : am_L fv ad ls L) : lv_has ls L.length (am_ps fv ad L) := by
  refine ⟨h.1, h.2.1, fun q hq => ?_⟩
  obtain ⟨v, h1, h2, h3⟩ := am_ps_mem.mp hq
  rw [h3]
  exact h.2.2 q.1 v h1 h2
theorem am_L_store {fv : Value} {ad : Nat → Nat} (hfv : fv = .null ∨ ∃ t, fv = .ref t) {L : List Value} {i : Nat} {v : Value} {ls' : Array Slot}
    (h : lv_has ls' L.length ((i, am_rv fv ad v) :: (am_ps fv ad L).filter (fun q => !(q.1 == i) && !(q.1 + 1 == i && q.2.category == 2)))) : am_L fv ad ls' (am_sl L i v) := by
  refine ⟨by rw [am_sl_len]; exact h.1, h.2.1, fun j w hw hf => ?_⟩
  rcases am_sl_get hw hf with ⟨rfl, rfl⟩ | ⟨h1, h2, h3⟩
  · exact h.2.2 (j, am_rv fv ad w) List.mem_cons_self
  · refine h.2.2 (j, am_rv fv ad w) (List.mem_cons_of_mem _ (List.mem_filter.mpr ⟨am_ps_mem.mpr ⟨w, h2, hf, rfl⟩, ?_⟩))
    simp only [am_rv_cat hfv, Bool.and_eq_true, Bool.not_eq_true', beq_eq_false_iff_ne, ne_eq, Bool.and_eq_false_imp, beq_iff_eq]
    refine ⟨h1, fun e => ?_⟩
    have h4 := h3 e
    cases w with
    | long x => exact absurd rfl (h4 x).1
    | double y => exact absurd rfl ((h4 0).2 y)
    | _ => simp [Value.category]
