/-! rivers told: the reference's new rows -/
def rN (r : Nat → Nat → Int32) : Nat → Nat → Int32 := fun k => r (if k = 1 then 16 else if k ≤ 5 then k + 15 else k + 14)
def MV (r : Nat → Nat → Int32) (b : AB) (w : AW) : Prop := MB (rN r) b ∧ r 16 4 = nI (w.1 0 1) ∧ (∀ s, s < w.1 0 1 → r 24 s = nI (w.1 1 s - 1) ∧ r 25 s = nI (w.1 2 s)) ∧ MN (rN r) w
theorem MV_0 {r : Nat → Nat → Int32} (h : ∀ i, i < 5 → r 16 i = nI 0) : MV r (stB 0) w0A := by
  refine ⟨⟨h 0 (by decide), h 1 (by decide), h 2 (by decide), fun i hi => absurd hi (Nat.not_lt_zero _), fun k hk => absurd hk (Nat.not_lt_zero _), ⟨fun _ => 0, fun k hk => absurd hk (Nat.not_lt_zero _), fun i hi => absurd hi (Nat.not_lt_zero _)⟩, ⟨fun _ => 0, fun k hk => absurd hk (Nat.not_lt_zero _), fun i hi => absurd hi (Nat.not_lt_zero _)⟩⟩, h 4 (by decide), fun s hs => absurd hs (Nat.not_lt_zero _), ⟨0, fun _ => 0, by decide, h 3 (by decide), by decide, fun k hk => absurd hk (Nat.not_lt_zero _), fun c _ hc => absurd rfl hc, fun j k hj => absurd hj (Nat.not_lt_zero _)⟩⟩
section Mv
variable {S : mS} {b : AB} {w : AW} {c v : Nat}
/-- flow, eddy -/
theorem MV_1 (h : MV S.2.1 b w) : MV (m_sA S 17 c (zI v)).2.1 (bS b 1 c v) w := by
  obtain ⟨⟨h0, h1, h2, h3, h4, ⟨ma, m1, m2⟩, ⟨da, d1, d2⟩⟩, k1, k2, hn⟩ := h
  refine ⟨⟨h0, h1, h2, fun i hi => ?_, h4, ⟨ma, m1, m2⟩, ⟨da, d1, d2⟩⟩, k1, k2, ?_⟩
  · obtain ⟨q1, q2⟩ := h3 i hi
    refine ⟨?_, q2⟩
    show (m_sA S 17 c (zI v)).2.1 17 i = zI (bS b 1 c v 1 i)
    by_cases e : i = c
    · rw [e, bS_e, m_rAe]
    · rw [bS_i e, m_rAi e]
      exact q1
  · exact hn
theorem MV_2 (h : MV S.2.1 b w) : MV (m_sA S 18 c (nI v)).2.1 (bS b 2 c v) w := by
  obtain ⟨⟨h0, h1, h2, h3, h4, ⟨ma, m1, m2⟩, ⟨da, d1, d2⟩⟩, k1, k2, hn⟩ := h
  refine ⟨⟨h0, h1, h2, fun i hi => ?_, h4, ⟨ma, m1, m2⟩, ⟨da, d1, d2⟩⟩, k1, k2, ?_⟩
  · obtain ⟨q1, q2⟩ := h3 i hi
    refine ⟨q1, ?_⟩
    show (m_sA S 18 c (nI v)).2.1 18 i = nI (bS b 2 c v 2 i)
    by_cases e : i = c
    · rw [e, bS_e, m_rAe]
    · rw [bS_i e, m_rAi e]
      exact q2
  · exact hn
/-- a mill -/
theorem MV_4 (h : MV S.2.1 b w) (hb : OkB b) (hc : c < b 0 0) (h0' : b 3 c = 0) : MV (m_sA (m_sA (m_sA S 19 (b 0 1) (nI c)) 20 (b 0 1) (nI v)) 16 1 (nI (b 0 1 + 1))).2.1 (bS (bS (bS b 3 c (b 0 1 + 1)) 5 (b 0 1) v) 0 1 (b 0 1 + 1)) w := by
  obtain ⟨⟨h0, h1, h2, h3, h4, ⟨ma, m1, m2⟩, ⟨da, d1, d2⟩⟩, k1, k2, hn⟩ := h
  have hne : ∀ k, k < b 0 1 → ma k ≠ c := fun k hk e => by
    have := (m1 k hk).2.2
    rw [e, h0'] at this
    omega
  refine ⟨⟨?_, m_rAe, ?_, fun i hi => ?_, fun k hk => ?_, ⟨va_up ma (b 0 1) c, fun k hk => ?_, fun i hi hne' => ?_⟩, ⟨da, d1, d2⟩⟩, ?_, fun s hs => ?_, ?_⟩
  · exact (m_rAi (by decide)).trans h0
  · exact (m_rAi (by decide)).trans h2
  · obtain ⟨q1, q2⟩ := h3 i hi
    refine ⟨?_, ?_⟩
    · show (m_sA (m_sA (m_sA S 19 (b 0 1) (nI c)) 20 (b 0 1) (nI v)) 16 1 (nI (b 0 1 + 1))).2.1 17 i = zI (b 1 i)
      simp (disch := decide) only [m_rAn]
      exact q1
    · show (m_sA (m_sA (m_sA S 19 (b 0 1) (nI c)) 20 (b 0 1) (nI v)) 16 1 (nI (b 0 1 + 1))).2.1 18 i = nI (b 2 i)
      simp (disch := decide) only [m_rAn]
      exact q2
  · have hk : k < b 0 1 + 1 := hk
    show (m_sA (m_sA (m_sA S 19 (b 0 1) (nI c)) 20 (b 0 1) (nI v)) 16 1 (nI (b 0 1 + 1))).2.1 20 k = nI (bS (bS b 3 c (b 0 1 + 1)) 5 (b 0 1) v 5 k)
    rw [m_rAn (by decide)]
    by_cases e : k = b 0 1
    · rw [e, bS_e, m_rAe]
    · rw [bS_i e, m_rAi e, m_rAn (by decide), bS_n (by decide)]
      exact h4 k (by omega)
  · have hk : k < b 0 1 + 1 := hk
    show va_up ma (b 0 1) c k < b 0 0 ∧ (m_sA (m_sA (m_sA S 19 (b 0 1) (nI c)) 20 (b 0 1) (nI v)) 16 1 (nI (b 0 1 + 1))).2.1 19 k = nI (va_up ma (b 0 1) c k) ∧ bS b 3 c (b 0 1 + 1) 3 (va_up ma (b 0 1) c k) = k + 1
    rw [m_rAn (by decide), m_rAn (by decide)]
    by_cases e : k = b 0 1
    · rw [e, va_upS, m_rAe, bS_e]
      exact ⟨hc, rfl, rfl⟩
    · obtain ⟨p1, p2, p3⟩ := m1 k (by omega)
      rw [va_upN e, m_rAi e, bS_i (hne k (by omega))]
      exact ⟨p1, p2, p3⟩
  · have hi : i < b 0 0 := hi
    have hne' : bS b 3 c (b 0 1 + 1) 3 i ≠ 0 := hne'
    show va_up ma (b 0 1) c (bS b 3 c (b 0 1 + 1) 3 i - 1) = i
    by_cases e : i = c
    · rw [e, bS_e, Nat.add_sub_cancel, va_upS]
    · rw [bS_i e] at hne' ⊢
      have h5 := m2 i hi hne'
      have h7 := (hb.2.2.2.1 i hi).2.2.1
      have h6 : b 3 i - 1 ≠ b 0 1 := by omega
      rw [va_upN h6]
      exact h5
  · show (m_sA (m_sA (m_sA S 19 (b 0 1) (nI c)) 20 (b 0 1) (nI v)) 16 1 (nI (b 0 1 + 1))).2.1 16 4 = _
    rw [m_rAi (by decide)]
    exact k1
  · exact k2 s hs
  · exact hn
/-- a dam -/
theorem MV_5 (h : MV S.2.1 b w) (hb : OkB b) (hc : c < b 0 0) (h0' : b 4 c = 0) : MV (m_sA (m_sA S 21 (b 0 2) (nI c)) 16 2 (nI (b 0 2 + 1))).2.1 (bS (bS b 4 c (b 0 2 + 1)) 0 2 (b 0 2 + 1)) w := by
  obtain ⟨⟨h0, h1, h2, h3, h4, ⟨ma, m1, m2⟩, ⟨da, d1, d2⟩⟩, k1, k2, hn⟩ := h
  have hne : ∀ k, k < b 0 2 → da k ≠ c := fun k hk e => by
    have := (d1 k hk).2.2
    rw [e, h0'] at this
    omega
  refine ⟨⟨?_, ?_, m_rAe, fun i hi => ?_, fun k hk => ?_, ⟨ma, fun k hk => ?_, m2⟩, ⟨va_up da (b 0 2) c, fun k hk => ?_, fun i hi hne' => ?_⟩⟩, ?_, fun s hs => ?_, ?_⟩
  · exact (m_rAi (by decide)).trans h0
  · exact (m_rAi (by decide)).trans h1
  · exact h3 i hi
  · exact h4 k hk
  · exact m1 k hk
  · have hk : k < b 0 2 + 1 := hk
    show va_up da (b 0 2) c k < b 0 0 ∧ (m_sA (m_sA S 21 (b 0 2) (nI c)) 16 2 (nI (b 0 2 + 1))).2.1 21 k = nI (va_up da (b 0 2) c k) ∧ bS b 4 c (b 0 2 + 1) 4 (va_up da (b 0 2) c k) = k + 1
    rw [m_rAn (by decide)]
    by_cases e : k = b 0 2
    · rw [e, va_upS, m_rAe, bS_e]
      exact ⟨hc, rfl, rfl⟩
    · obtain ⟨p1, p2, p3⟩ := d1 k (by omega)
      rw [va_upN e, m_rAi e, bS_i (hne k (by omega))]
      exact ⟨p1, p2, p3⟩
  · have hi : i < b 0 0 := hi
    have hne' : bS b 4 c (b 0 2 + 1) 4 i ≠ 0 := hne'
    show va_up da (b 0 2) c (bS b 4 c (b 0 2 + 1) 4 i - 1) = i
    by_cases e : i = c
    · rw [e, bS_e, Nat.add_sub_cancel, va_upS]
    · rw [bS_i e] at hne' ⊢
      have h5 := d2 i hi hne'
      have h7 := (hb.2.2.2.1 i hi).2.2.2
      have h6 : b 4 i - 1 ≠ b 0 2 := by omega
      rw [va_upN h6]
      exact h5
  · show (m_sA (m_sA S 21 (b 0 2) (nI c)) 16 2 (nI (b 0 2 + 1))).2.1 16 4 = _
    rw [m_rAi (by decide)]
    exact k1
  · exact k2 s hs
  · exact hn
/-- a net -/
theorem MV_6 {q : Nat} {a : Nat → Nat} (h : MV S.2.1 b w) (hm : MNw (rN S.2.1) w q a) (hq : q < 13) (hc : c < 16) (h0' : w.1 7 c = 0) (hv : v ≠ 0) : MV (m_sA (m_sA (m_sA S 22 q (nI c)) 23 q (nI v)) 16 3 (nI (q + 1))).2.1 b (aS w 7 c v) := by
  obtain ⟨⟨h0, h1, h2, h3, h4, hma, hda⟩, k1, k2, _⟩ := h
  refine ⟨⟨?_, ?_, ?_, h3, h4, hma, hda⟩, ?_, fun s hs => ?_, ?_⟩
  · exact (m_rAi (by decide)).trans h0
  · exact (m_rAi (by decide)).trans h1
  · exact (m_rAi (by decide)).trans h2
  · show (m_sA (m_sA (m_sA S 22 q (nI c)) 23 q (nI v)) 16 3 (nI (q + 1))).2.1 16 4 = _
    rw [m_rAi (by decide)]
    exact k1
  · exact k2 s hs
  · refine MN_add hm hq hc h0' hv m_rAe (fun i => ?_) (fun i => ?_)
    · show (m_sA (m_sA (m_sA S 22 q (nI c)) 23 q (nI v)) 16 3 (nI (q + 1))).2.1 22 i = if i = q then nI c else S.2.1 22 i
      rw [m_rAn (by decide), m_rAn (by decide)]
      by_cases e : i = q
      · rw [if_pos e, e, m_rAe]
      · rw [if_neg e, m_rAi e]
    · show (m_sA (m_sA (m_sA S 22 q (nI c)) 23 q (nI v)) 16 3 (nI (q + 1))).2.1 23 i = if i = q then nI v else S.2.1 23 i
      rw [m_rAn (by decide)]
      by_cases e : i = q
      · rw [if_pos e, e, m_rAe]
      · rw [if_neg e, m_rAi e, m_rAn (by decide)]
/-- a scrap -/
theorem MV_7 (h : MV S.2.1 b w) : MV (m_sA (m_sA (m_sA S 24 (w.1 0 1) (nI c)) 25 (w.1 0 1) (nI v)) 16 4 (nI (w.1 0 1 + 1))).2.1 b (addA w c v 0) := by
  obtain ⟨⟨h0, h1, h2, h3, h4, hma, hda⟩, k1, k2, hn⟩ := h
  refine ⟨⟨?_, ?_, ?_, h3, h4, hma, hda⟩, ?_, fun s hs => ?_, ?_⟩
  · exact (m_rAi (by decide)).trans h0
  · exact (m_rAi (by decide)).trans h1
  · exact (m_rAi (by decide)).trans h2
  · rw [addA_n]
    exact m_rAe
  · rw [addA_n] at hs
    by_cases e : s = w.1 0 1
    · subst e
      have q := addA_1 (w := w) (c := c) (t := v) (d := 0)
      rw [q.1, q.2.1, Nat.add_sub_cancel]
      refine ⟨?_, ?_⟩
      · rw [m_rAn (by decide), m_rAn (by decide), m_rAe]
      · rw [m_rAn (by decide), m_rAe]
    · rw [addA_o (by decide) e, addA_o (by decide) e]
      obtain ⟨x1, x2⟩ := k2 s (by omega)
      refine ⟨?_, ?_⟩
      · rw [m_rAn (by decide), m_rAn (by decide), m_rAi e]
        exact x1
      · rw [m_rAn (by decide), m_rAi e, m_rAn (by decide)]
        exact x2
  · exact MN_fr hn (m_rAi (by decide)) (fun i => rfl) (fun i => rfl) (fun i => rfl)
end Mv
