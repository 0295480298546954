/-! what a function of fuel comes to, with enough fuel -/
def Ev {α : Type} (f : Nat → Option α) (r : α) : Prop := ∃ n0, ∀ n, n0 ≤ n → f n = some r
section EvR
variable {α β : Type} {f g : Nat → Option α} {r : α}
theorem ev_ret : Ev (fun _ => some r) r := ⟨0, fun _ _ => rfl⟩
theorem ev_get (h : Ev f r) : ∃ n, f n = some r := by
  obtain ⟨n, hn⟩ := h
  exact ⟨n, hn n (Nat.le_refl n)⟩
theorem ev_get2 {g : Nat → Option β} {q : β} (h : Ev f r) (h2 : Ev g q) : ∃ n n', f n = some r ∧ g n' = some q := by
  obtain ⟨n, hn⟩ := ev_get h
  obtain ⟨n', hn'⟩ := ev_get h2
  exact ⟨n, n', hn, hn'⟩
theorem ev_bind {k : Nat → Option β} {b : β} {g : Nat → β → Option α} (h1 : Ev k b) (h2 : Ev (fun n => g n b) r) : Ev (fun n => (k n).bind (g n)) r := by
  obtain ⟨a, ha⟩ := h1
  obtain ⟨c, hc⟩ := h2
  refine ⟨a + c, fun n hn => ?_⟩
  show (k n).bind (g n) = some r
  rw [ha n (by omega)]
  exact hc n (by omega)
theorem ev_succ (he : ∀ n, f (n + 1) = g n) (h : Ev g r) : Ev f r := by
  obtain ⟨a, ha⟩ := h
  refine ⟨a + 1, fun n hn => ?_⟩
  obtain ⟨m, rfl⟩ : ∃ m, n = m + 1 := ⟨n - 1, by omega⟩
  rw [he m]
  exact ha m (by omega)
theorem ev_eq (he : ∀ n, f n = g n) (h : Ev g r) : Ev f r := by
  obtain ⟨a, ha⟩ := h
  exact ⟨a, fun n hn => by rw [he n]; exact ha n hn⟩
theorem ev_to {r' : α} (h : Ev f r) (e : r = r') : Ev f r' := e ▸ h
end EvR
/-- a counted loop: f at j, j + 1, .., m times -/
def fold {α : Type} (f : Nat → α → α) : Nat → Nat → α → α
  | 0, _, x => x
  | m + 1, j, x => fold f m (j + 1) (f j x)
theorem fold_eq {α : Type} {f g : Nat → α → α} : ∀ (m j : Nat) (x : α), (∀ i y, j ≤ i → i < j + m → f i y = g i y) → fold f m j x = fold g m j x
  | 0, _, _, _ => rfl
  | m + 1, j, x, h => by
    show fold f m (j + 1) (f j x) = fold g m (j + 1) (g j x)
    rw [h j x (Nat.le_refl _) (by omega)]
    exact fold_eq m (j + 1) _ (fun i y h1 h2 => h i y (by omega) (by omega))
theorem fold_id {α : Type} {f : Nat → α → α} : ∀ (m j : Nat) (x : α), (∀ i y, j ≤ i → i < j + m → f i y = y) → fold f m j x = x
  | 0, _, _, _ => rfl
  | m + 1, j, x, h => by
    show fold f m (j + 1) (f j x) = x
    rw [h j x (Nat.le_refl _) (by omega)]
    exact fold_id m (j + 1) _ (fun i y h1 h2 => h i y (by omega) (by omega))
/-! conditions on small numbers -/
theorem nI_ltI' {a b : Nat} (ha : a < 2 ^ 31) (hb : b < 2 ^ 31) : nI a < nI b ↔ a < b := by
  rw [Int32.lt_iff_toInt_lt, nI_toInt ha, nI_toInt hb]; omega
theorem nI_leI' {a b : Nat} (ha : a < 2 ^ 31) (hb : b < 2 ^ 31) : nI a ≤ nI b ↔ a ≤ b := by
  rw [Int32.le_iff_toInt_le, nI_toInt ha, nI_toInt hb]; omega
theorem nI_eqI' {a b : Nat} (ha : a < 2 ^ 31) (hb : b < 2 ^ 31) : nI a = nI b ↔ a = b := by
  rw [← Int32.toInt_inj, nI_toInt ha, nI_toInt hb]; omega
theorem ic_ge {a b : Nat} (ha : a < 2 ^ 31) (hb : b < 2 ^ 31) : am_ic .ge (nI a) (nI b) = decide (b ≤ a) := by
  show decide (nI b ≤ nI a) = _
  exact decide_eq_decide.mpr (nI_leI' hb ha)
theorem ic_gt {a b : Nat} (ha : a < 2 ^ 31) (hb : b < 2 ^ 31) : am_ic .gt (nI a) (nI b) = decide (b < a) := by
  show decide (nI b < nI a) = _
  exact decide_eq_decide.mpr (nI_ltI' hb ha)
theorem ic_le {a b : Nat} (ha : a < 2 ^ 31) (hb : b < 2 ^ 31) : am_ic .le (nI a) (nI b) = decide (a ≤ b) := by
  show decide (nI a ≤ nI b) = _
  exact decide_eq_decide.mpr (nI_leI' ha hb)
theorem ic_lt {a b : Nat} (ha : a < 2 ^ 31) (hb : b < 2 ^ 31) : am_ic .lt (nI a) (nI b) = decide (a < b) := by
  show decide (nI a < nI b) = _
  exact decide_eq_decide.mpr (nI_ltI' ha hb)
theorem ic_eq {a b : Nat} (ha : a < 2 ^ 31) (hb : b < 2 ^ 31) : am_ic .eq (nI a) (nI b) = decide (a = b) := by
  show decide (nI a = nI b) = _
  exact decide_eq_decide.mpr (nI_eqI' ha hb)
theorem ic_ne {a b : Nat} (ha : a < 2 ^ 31) (hb : b < 2 ^ 31) : am_ic .ne (nI a) (nI b) = !decide (a = b) := by
  show (!decide (nI a = nI b)) = _
  rw [decide_eq_decide.mpr (nI_eqI' ha hb)]
theorem nI0 : (0 : Int32) = nI 0 := rfl
theorem if_lt {a : Nat} (ha : a < 2 ^ 31) : am_if .lt (nI a) = false := by
  show decide (nI a < nI 0) = false
  exact decide_eq_false (fun h => by have := (nI_ltI' ha (by decide)).mp h; omega)
theorem if_ge {a : Nat} (ha : a < 2 ^ 31) : am_if .ge (nI a) = true := by
  show decide (nI 0 ≤ nI a) = true
  exact decide_eq_true ((nI_leI' (by decide) ha).mpr (Nat.zero_le _))
theorem if_gt {a : Nat} (ha : a < 2 ^ 31) : am_if .gt (nI a) = decide (0 < a) := by
  show decide (nI 0 < nI a) = _
  exact decide_eq_decide.mpr (nI_ltI' (by decide) ha)
theorem if_le {a : Nat} (ha : a < 2 ^ 31) : am_if .le (nI a) = decide (a = 0) := by
  show decide (nI a ≤ nI 0) = _
  exact decide_eq_decide.mpr ((nI_leI' ha (by decide)).trans (by omega))
theorem if_eq {a : Nat} (ha : a < 2 ^ 31) : am_if .eq (nI a) = decide (a = 0) := by
  show decide (nI a = nI 0) = _
  exact decide_eq_decide.mpr (nI_eqI' ha (by decide))
theorem if_ne {a : Nat} (ha : a < 2 ^ 31) : am_if .ne (nI a) = !decide (a = 0) := by
  show (!decide (nI a = nI 0)) = _
  rw [decide_eq_decide.mpr (nI_eqI' ha (by decide))]
/-- an Int32 is nI of a number, or below 0 -/
theorem i32_cases (x : Int32) : (∃ a : Nat, a < 2 ^ 31 ∧ x = nI a) ∨ x < 0 := by
  by_cases h : x < 0
  · exact Or.inr h
  · refine Or.inl ⟨x.toInt.toNat, ?_, ?_⟩
    · have := Int32.toInt_lt x
      omega
    · apply Int32.toInt_inj.mp
      have h0 : ¬ x.toInt < 0 := fun z => h (Int32.lt_iff_toInt_lt.mpr (by rw [show (0 : Int32).toInt = 0 from by decide]; exact z))
      rw [nI_toInt (by have := Int32.toInt_lt x; omega)]
      omega
