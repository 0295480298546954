section AmRet
variable {p : Program} {l : Launch} {e : Env} {R : Room} {s : State} {m : MethodId} {args : Array Value} {below : List Frame} {meth : Method} {c : Code} {H : Heap} {locs : List Loc} {cells slots : Nat} {Q : State → Prop}
variable {cc : ByteArray} {pc pc' len : Nat} {ls : Array Slot} {L L' st st' : List Value} {ins : Instr} {fv : Value} {own mid : Nat} {D : va_G} {tc : Nat → ClassId} {ex : Nat → Nat} {base : Nat} {X : Nat → va_E} {h h' : AmH}
theorem am_q5_ok {ret : Option FieldType} {v : Option Value} {ad : Nat → Nat} {Qc : Array Value → State → Outcome → State → Prop} {free : Addr → Prop} (hx : p.tables.exec = Jvm.exec) (hb : c.code = cc) (hdg : decode cc pc = .ok (ins, len)) (hln : (am_ln ins).getD len = len) (hr : meth.sig.returnType = ret) (hlocks : meth.locks = false)
    (hq : am_q5 ret st ins = some v) (hQ : ∀ t : State, t.heap = H → s.WarmedH t.vm → Qc args s (.returned (v.map (am_rv fv ad))) t) (hf : ∀ q ∈ locs, free q.base) : W p l e R s m args below meth c H locs cells slots (MQ below Qc args s cells slots free) (F0 m pc ls (st.map (am_rv fv ad))) := by
  unfold am_q5 at hq
  split at hq
  · obtain rfl : 1 = len := hln
    split at hq
    · split at hq
      · split at hq
        · rename_i hc; cases hq
          exact W.zret hx hb hr hc.1 hQ hf hdg
        · cases hq
      · cases hq
    · cases hq
  · obtain rfl : 1 = len := hln
    split at hq
    · split at hq
      · rename_i hc; cases hq
        subst hc
        exact W.lret hx hb hr hQ hf hdg
      · cases hq
    · cases hq
  · obtain rfl : 1 = len := hln
    split at hq
    · split at hq
      · split at hq
        · cases hq
          exact W.aret hx hb hr (Or.inl ⟨_, rfl⟩) (Or.inr ⟨_, rfl⟩) hQ hf hdg
        · cases hq
          exact W.aret hx hb hr (Or.inr ⟨_, rfl⟩) (Or.inr ⟨_, rfl⟩) hQ hf hdg
        · cases hq
      · split at hq
        · cases hq
          exact W.aret hx hb hr (Or.inl ⟨_, rfl⟩) (Or.inl rfl) hQ hf hdg
        · cases hq
          exact W.aret hx hb hr (Or.inr ⟨_, rfl⟩) (Or.inl rfl) hQ hf hdg
        · cases hq
      · cases hq
    · cases hq
  · obtain rfl : 1 = len := hln
    split at hq
    · split at hq
      · rename_i hc; cases hq
        subst hc
        exact W.vret hx hb hr hQ hf hdg
      · cases hq
    · cases hq
  · cases hq
end AmRet
theorem am_lo_args {fv : Value} {ad : Nat → Nat} (hfv : fv = .null ∨ ∃ t, fv = .ref t) : ∀ (as : List Value) (k i : Nat) (v : Value), (am_lo as)[i]? = some v → (∀ x, v ≠ .float x) → (k + i, am_rv fv ad v) ∈ lv_args k (as.map (am_rv fv ad))
  | [], k, i, v, h, _ => by simp [am_lo] at h
  | w :: r, k, i, v, h, hf => by
    unfold am_lo at h
    simp only [List.map_cons, lv_args, am_rv_cat hfv]
    by_cases hc : w.category = 2
    · rw [if_pos hc] at h
      rw [if_pos hc]
      match i, h with
      | 0, h => cases h; exact List.mem_cons_self
      | 1, h => cases h; exact absurd rfl (hf 0)
      | i + 2, h =>
        have := am_lo_args (ad := ad) hfv r (k + 2) i v h hf
        rw [show k + 2 + i = k + (i + 2) by omega] at this
        exact List.mem_cons_of_mem _ this
    · rw [if_neg hc] at h
      rw [if_neg hc]
      match i, h with
      | 0, h => cases h; exact List.mem_cons_self
      | i + 1, h =>
        have := am_lo_args (ad := ad) hfv r (k + 1) i v h hf
        rw [show k + 1 + i = k + (i + 1) by omega] at this
        exact List.mem_cons_of_mem _ this
theorem am_lo_len {fv : Value} {ad : Nat → Nat} (hfv : fv = .null ∨ ∃ t, fv = .ref t) : ∀ as : List Value, (lg_sl (as.map (am_rv fv ad))).length = (am_lo as).length
  | [] => rfl
  | w :: r => by
    have ih := am_lo_len (ad := ad) hfv r
    unfold lg_sl at ih
    unfold lg_sl am_lo
    simp only [List.map_cons, List.flatMap_cons, am_rv_cat hfv, List.length_append, ih]
    by_cases hc : w.category = 2
    · rw [if_pos hc, if_pos hc]; simp; omega
    · rw [if_neg hc, if_neg hc]; simp; omega
theorem am_entry {fv : Value} {ad : Nat → Nat} (hfv : fv = .null ∨ ∃ t, fv = .ref t) {as : List Value} {n : Nat} (h : (am_lo as).length ≤ n) : am_L fv ad ((lg_sl (as.map (am_rv fv ad)) ++ List.replicate (n - (lg_sl (as.map (am_rv fv ad))).length) Slot.unset).toArray) (am_lo as ++ List.replicate (n - (am_lo as).length) (.float 0)) := by
  have h1 := lv_entry (as.map (am_rv fv ad)) (n := n) (by rw [am_lo_len hfv]; exact h)
  refine ⟨by rw [h1.1, List.length_append, List.length_replicate]; omega, h1.2.1, fun i v hv hf => ?_⟩
  rw [List.getElem?_append] at hv
  split at hv
  · have := am_lo_args (ad := ad) hfv as 0 i v hv hf
    rw [Nat.zero_add] at this
    exact h1.2.2 _ this
  · rw [List.getElem?_replicate] at hv
    split at hv
    · cases hv; exact absurd rfl (hf 0)
    · cases hv
theorem am_hp_mono {own mid pc pc' : Nat} {L st L' st' : List Value} {h h' : AmH} {ins : Instr} (hq : am_hp own mid pc L st h ins = some ((pc', L', st'), h')) : h.2.1 ≤ h'.2.1 ∧ h.2.2 ≤ h'.2.2 := by
  unfold am_hp at hq
  split at hq
  · rename_i h1; cases hq
    have := am_q1_2 h1
    rw [this]
    exact ⟨Nat.le_refl _, Nat.le_refl _⟩
  · split at hq
    · rename_i h1; cases hq
      have := am_q2_2 h1
      exact ⟨by omega, this.2⟩
    · have := am_q3_2 hq
      rw [this]
      exact ⟨Nat.le_refl _, Nat.le_refl _⟩
theorem am_mono {X : Nat → va_E} : ∀ {n d mid pc : Nat} {L st : List Value} {h hf : AmH} {v : Option Value}, am X n d mid pc L st h = some (v, hf) → h.2.1 ≤ hf.2.1 ∧ h.2.2 ≤ hf.2.2
  | 0, _, _, _, _, _, _, _, _, hq => by cases hq
  | n + 1, d, mid, pc, L, st, h, hf, v, hq => by
    unfold am at hq
    split at hq
    · rename_i pc' L' st' h' hs
      have ih := am_mono hq
      unfold am_st at hs
      split at hs
      · cases hs
      · split at hs
        · cases hs; exact ih
        · split at hs
          · rename_i h2
            cases hs
            have := am_hp_mono h2
            exact ⟨Nat.le_trans this.1 ih.1, Nat.le_trans this.2 ih.2⟩
          · split at hs
            · cases hs
            · split at hs
              · cases hs
              · cases hs
    · split at hq
      · cases hq
      · split at hq
        · split at hq
          · rename_i h2
            have i1 := am_mono h2
            have i2 := am_mono hq
            exact ⟨Nat.le_trans i1.1 i2.1, Nat.le_trans i1.2 i2.2⟩
          · cases hq
        · cases hq
    · cases hq
      exact ⟨Nat.le_refl _, Nat.le_refl _⟩
    · cases hq
