/-! the beginning; all pairs of calls but one -/
def A0 : AA := ((0, fun _ => 0), (0, fun _ _ => false), d0A, fun _ => none)
theorem rI {p j : Nat} (h1 : 64 ≤ p) (h2 : p < 172) (hj : j < (am_tI.getD (p - 64) (0, 0, [])).2.1) : am_fn (am_hI.1 p) j = (if p = 131 ∧ j = 8 then -1 else 0) ∧ am_fq (am_hI.1 p) j = none := by
  have h := okI_p.2 (p - 64) (by omega) j hj
  rw [show 64 + (p - 64) = p by omega] at h
  exact ⟨h.1.1, h.2⟩
theorem ok0 : OkA 0 A0 := by
  refine ⟨Nat.zero_le _, fun i hi => absurd hi (Nat.not_lt_zero _), Nat.zero_le _, ⟨⟨Nat.zero_le _, Nat.zero_le _, Nat.zero_le _, fun i hi => absurd hi (Nat.not_lt_zero _), fun i hi => absurd hi (Nat.not_lt_zero _)⟩, Or.inl rfl, fun w hw => ?_, Nat.zero_le _, Nat.le_refl _, by decide⟩, fun i d h => absurd h (by simp [A0])⟩
  rcases hw with rfl | hw
  · exact ⟨⟨by decide, fun s hs => absurd hs (Nat.not_lt_zero _), fun i hi => ⟨Nat.zero_le _, fun h => absurd rfl h⟩, fun _ _ _ => rfl⟩, by decide, Nat.le_refl _, fun i hi => Nat.zero_le _, by decide⟩
  · exact absurd hw (by simp [A0, d0A])
theorem rc0g {g : Nat → va_E} (h4 : ∀ i, i < 16 → am_fn (g 104) i = 0) (h5 : ∀ i, i < 6 → am_fn (g 105) i = 0) (q8 : ∀ i, i < 4 → am_fq (g 108) i = none) (q7 : ∀ i, i < 20 → am_fq (g 107) i = none) : RC A0 (T0g g) G0 := by
  have q108 : ∀ i, i < 4 → (T0g g).2.2.2 108 i = none := fun i hi => q8 i hi
  have q107 : ∀ i, i < 20 → (T0g g).2.2.2 107 i = none := fun i hi => q7 i hi
  have wd : ∀ p, Wd (T0g g) p → p = 88 := by
    intro p hp
    rcases hp with h | ⟨i, hi, h⟩
    · exact h
    · rw [q108 i hi] at h
      exact absurd h (by simp)
  refine ⟨⟨rfl, fun i hi => absurd hi (Nat.not_lt_zero _)⟩, ⟨rfl, fun r hr => absurd hr (Nat.not_lt_zero _)⟩, ⟨⟨rfl, rfl, rfl, fun i hi => absurd hi (Nat.not_lt_zero _), fun i hi => absurd hi (Nat.not_lt_zero _)⟩, ⟨rfl, rfl, rfl, fun s hs => absurd hs (Nat.not_lt_zero _), fun i hi => h4 i hi, fun i hi => h5 i hi⟩, ⟨0, by decide, rfl, rfl, fun i w h => absurd h (by simp [A0, d0A])⟩, rfl, rfl⟩, fun i hi => q108 i hi, ?_⟩
  refine ⟨fun p hp => ?_, fun i p hi h => ?_, fun i j p hi hj h => ?_, fun p i q hp hi h => ?_, fun p i q p' i' hp hp' hi hi' h => ?_⟩
  · rw [wd p hp]
    decide +kernel
  · rw [q108 i hi] at h
    exact absurd h (by simp)
  · rw [q108 i hi] at h
    exact absurd h (by simp)
  · have e := wd p hp
    subst e
    have h : (T0g g).2.2.2 107 i = some q := h
    rw [q107 i hi] at h
    exact absurd h (by simp)
  · have e := wd p hp
    subst e
    have h : (T0g g).2.2.2 107 i = some q := h
    rw [q107 i hi] at h
    exact absurd h (by simp)
theorem rmBg {g : Nat → va_E} (r : ∀ k i, k < 42 → i < (am_tI.getD (66 + k) (0, 0, [])).2.1 → am_fn (g (130 + k)) i = if k = 1 ∧ i = 8 then -1 else 0) : RM A0 (S0g g) := by
  have r1 : ∀ i, i < 8 → (S0g g).2.1 1 i = nI 0 := fun i hi => by
    have := r 1 i (by decide) (Nat.lt_of_lt_of_le hi (by decide))
    rw [if_neg (by omega)] at this
    exact this
  refine ⟨⟨rfl, fun i hi => absurd hi (Nat.not_lt_zero _)⟩, ⟨rfl, rfl, fun r hr => absurd hr (Nat.not_lt_zero _)⟩, ⟨⟨r1 0 (by decide), r1 1 (by decide), r1 2 (by decide), fun i hi => absurd hi (Nat.not_lt_zero _), fun i hi => absurd hi (Nat.not_lt_zero _), ⟨fun _ => 0, fun k hk => absurd hk (Nat.not_lt_zero _), fun i hi => absurd hi (Nat.not_lt_zero _)⟩, ⟨fun _ => 0, fun k hk => absurd hk (Nat.not_lt_zero _), fun i hi => absurd hi (Nat.not_lt_zero _)⟩⟩, ⟨r1 4 (by decide), r1 6 (by decide), r1 5 (by decide), fun s hs => absurd hs (Nat.not_lt_zero _), fun i hi => ?_, ⟨0, fun _ => 0, by decide, r1 3 (by decide), by decide, fun k hk => absurd hk (Nat.not_lt_zero _), fun c _ hc => absurd rfl hc, fun j k hj => absurd hj (Nat.not_lt_zero _)⟩⟩, rfl, fun j w h => absurd h (by simp [A0, d0A]), ?_, r1 7 (by decide)⟩, fun i hi => ?_⟩
  · have := r 6 i (by decide) (Nat.lt_of_lt_of_le hi (by decide))
    rw [if_neg (by omega)] at this
    exact this
  · have := r 1 8 (by decide) (by decide)
    rw [if_pos ⟨rfl, rfl⟩] at this
    exact this
  · have := r 41 i (by decide) (Nat.lt_of_lt_of_le hi (by decide))
    rw [if_neg (by omega)] at this
    exact this
theorem rr0 : RR 0 S0 (T0, G0) := by
  unfold S0 T0
  have hr := @rI
  revert hr
  generalize am_hI.1 = g
  intro hr
  refine ⟨A0, ok0, rc0g (fun i hi => ?_) (fun i hi => ?_) (fun i hi => (hr (p := 108) (by decide) (by decide) (Nat.lt_of_lt_of_le hi (by decide))).2) (fun i hi => (hr (p := 107) (by decide) (by decide) (Nat.lt_of_lt_of_le hi (by decide))).2), rmBg (fun k i hk hi => ?_), (show G0.2.1 ≤ 260 * 0 by decide), (show G0.2.2 ≤ 23896 + 5000 * 0 by decide)⟩
  · have := (hr (p := 104) (j := i) (by decide) (by decide) (Nat.lt_of_lt_of_le hi (by decide))).1
    rw [if_neg (by omega)] at this
    exact this
  · have := (hr (p := 105) (j := i) (by decide) (by decide) (Nat.lt_of_lt_of_le hi (by decide))).1
    rw [if_neg (by omega)] at this
    exact this
  · have := (hr (p := 130 + k) (j := i) (by omega) (by omega) (by rw [show 130 + k - 64 = 66 + k by omega]; exact hi)).1
    rw [this]
    by_cases h : k = 1 ∧ i = 8
    · rw [if_pos h, if_pos ⟨by omega, h.2⟩]
    · rw [if_neg h, if_neg (fun z => h ⟨by omega, z.2⟩)]
theorem rr_b (k : Nat) (S : mS) (U : xS × gS) (hk : k ≤ 512) (h : RR k S U) : 172 + U.2.2.1 ≤ 600064 ∧ U.2.2.2 ≤ 5502250 := by
  obtain ⟨A, _, _, _, h1, h2⟩ := h
  exact ⟨by omega, by omega⟩
theorem simR_of (hrule : ∀ (k : Nat) (A : AA), k < 512 → OkA k A → ∃ r A', OkA (k + 1) A' ∧ CallX k (fun n => G56 n) A r A' ∧ CallM (fun n => F180 n) A r A') (xs : Nat → Int32) : SimR xs RR := by
  intro k S U hk h
  refine ⟨?_, fun a1 a2 a3 a4 a5 => ⟨simT h (fun A ok => sm_feed A ok), simT h (fun A ok => sm_end A ok), simT h (fun A ok => sm_river A ok), simX h (fun A ok => hrule k A hk ok), simT h (fun A ok => sm_force A ok), simT h (fun A ok => sm_cell A ok), simT h (fun A ok => sm_scrap A ok), simX h (fun A ok => sm_day hk A ok), simX h (fun A ok => sm_drop A ok), simX h (fun A ok => sm_tear A ok), ⟨simX h (fun A ok => sm_dam (x := 0) (Or.inl rfl) A ok), simX h (fun A ok => sm_dam (x := 1) (Or.inr rfl) A ok)⟩, simX h (fun A ok => sm_net A ok), simX h (fun A ok => sm_undo A ok), simX h (fun A ok => sm_ahead hk A ok), simX h (fun A ok => sm_mouth hk A ok), simX h (fun A ok => sm_fleet hk A ok), simX h (fun A ok => sm_put hk A ok), simT h (fun A ok => sm_rows hk A ok), simT h (fun A ok => sm_seen A ok), simX h (fun A ok => sm_gates hk A ok), simT h (fun A ok => sm_round A ok), simT h (fun A ok => sm_share hk A ok), simT h (fun A ok => sm_seed A ok), simX h (fun A ok => sm_years hk A ok), simT h (fun A ok => sm_count A ok), simX h (fun A ok => sm_image A ok), simX h (fun A ok => sm_back A ok)⟩⟩
  obtain ⟨A, ok, c, m, g⟩ := h
  exact ⟨A, OkA_s ok, c, m, RG_s g⟩
