theorem am_cell_i (cA : ClassId) (n : Nat) (f : Nat → Int32) (k : Nat) (x : Int32) : (vp_cell cA (n, .inl f)).setSlot k (.int x) = vp_cell cA (n, .inl (upd f k x)) := by
  rw [vp_cell_i, vp_cell_i, arrV_store]
  congr 2
  funext q
  by_cases hq : q = k
  · subst hq; simp [updV, upd]
  · simp [updV, upd, hq]
theorem am_cell_l (cA : ClassId) (n : Nat) (f : Nat → Int64) (k : Nat) (x : Int64) : (vp_cell cA (n, .inr (.inl f))).setSlot k (.long x) = vp_cell cA (n, .inr (.inl (vp_updL f k x))) := by
  rw [vp_cell_l, vp_cell_l, arrV_store]
  congr 2
  funext q
  by_cases hq : q = k
  · subst hq; simp [updV, vp_updL]
  · simp [updV, vp_updL, hq]
theorem am_cell_q (cA : ClassId) (n : Nat) (f : Nat → Option Nat) (k v : Nat) : (vp_cell cA (n, .inr (.inr (.inr (.inr f))))).setSlot k (.ref v) = vp_cell cA (n, .inr (.inr (.inr (.inr (va_up f k (some v)))))) := by
  rw [vp_cell_q, vp_cell_q, arrV_store]
  congr 2
  funext q
  by_cases hq : q = k
  · subst hq; simp [updV, va_up, va_rf]
  · simp [updV, va_up, hq]
theorem am_nar_b (x : Int32) : narrow .byte (.int x) = .int (vp_nar .byte x) := rfl
theorem am_nar_z (x : Int32) : narrow .boolean (.int x) = .int (vp_nar .boolean x) := rfl
theorem am_fits {ty : FieldType} {fv v : Value} {ad : Nat → Nat} (h : fits ty v = true) : fits ty (am_rv fv ad v) = true := by
  cases ty <;> cases v <;> first | exact h | (simp [fits] at h) | (simp [fits, am_rv])
theorem am_narrow {ty : FieldType} {fv v : Value} {ad : Nat → Nat} (hf : fits ty v = true) (h : narrow ty v = v) : narrow ty (am_rv fv ad v) = am_rv fv ad v := by
  cases ty <;> cases v <;> first | exact h | rfl | (simp [fits] at hf; done) | (simp [narrow, am_rv]; done)
section AmS
variable {fv : Value} {D : va_G} {tc : Nat → ClassId} {ex : Nat → Nat} {base : Nat} {h : AmH} {H H1 : Heap} {locs : List Loc} {H0 : Heap}
/-- what a state of the abstract machine says of a heap -/
def am_P (D : va_G) (tc : Nat → ClassId) (ex : Nat → Nat) (base : Nat) (fv : Value) (h : AmH) (H0 H : Heap) (locs : List Loc) : Prop := va_P D am_cl (am_ws fv (am_ad ex base) tc base h) H ∧ va_S (fun q => base ≤ q) H0 H locs ∧ H.size = base + (h.2.1 - 64) ∧ 64 ≤ h.2.1
theorem am_stored {q k : Nat} {en : va_E} (hP : am_P D tc ex base fv h H0 H locs) (h1 : 64 ≤ q) (h2 : q < h.2.1) (hat : va_at D am_cl (base + (q - 64), am_re fv (am_ad ex base) tc en) H1) (z : H1.size = H.size) (oq : ∀ x : Nat, x ≠ base + (q - 64) → H1[x]? = H[x]?) : am_P D tc ex base fv (am_up h q en) H0 H1 (locs ++ [⟨base + (q - 64), k⟩]) := by
  obtain ⟨p1, p2, p3, p4⟩ := hP
  refine ⟨?_, p2.put z oq (Nat.le_add_right _ _), by rw [z]; exact p3, p4⟩
  rw [← am_ws_set h1 h2]
  exact p1.set am_ws_D (am_ws_get h1 h2) hat oq
theorem am_made {k : Nat} {en : va_E} (hP : am_P D tc ex base fv h H0 H locs) (hb0 : base ≤ H0.size) (hat : va_at D am_cl (base + (h.2.1 - 64), am_re fv (am_ad ex base) tc en) H1) (z : H1.size = H.size + 1) (oq : ∀ x : Nat, x < H.size → H1[x]? = H[x]?) : am_P D tc ex base fv (am_pu h en k) H0 H1 locs := by
  obtain ⟨p1, p2, p3, p4⟩ := hP
  refine ⟨?_, ⟨Nat.le_trans p2.1 (by omega), fun x h1 h2 => (oq x (Nat.lt_of_lt_of_le h1 p2.1)).trans (p2.2.1 x h1 h2), p2.2.2⟩, ?_, ?_⟩
  · rw [am_ws_pu p4]
    refine va_P.app (p1.kept (fun i x hx => oq x.1 ((p1 i x hx).lt))) (fun i x hx => ?_)
    have hz : i < 1 := (List.getElem?_eq_some_iff.mp hx).1
    rw [show i = 0 by omega] at hx
    cases hx
    exact hat
  · show H1.size = base + (h.2.1 + 1 - 64)
    omega
  · show 64 ≤ h.2.1 + 1
    omega
end AmS
