/-! what other places hold stays -/
theorem CP_of {T T' : xS} {G G' : gS} {p : Nat} {ps : List AW} (h : CP T G p ps) (h1 : T'.1 p = T.1 p) (hq : T'.2.2.2 (p + 1) = T.2.2.2 (p + 1)) (hw : ∀ i q w, i < 20 → T.2.2.2 (p + 1) i = some q → CW T q w → CW T' q w) : CP T' G' p ps := by
  obtain ⟨o, ho, e1, e2, e3⟩ := h
  refine ⟨o, ho, by rw [h1]; exact e1, by rw [h1]; exact e2, fun i w hi => ?_⟩
  obtain ⟨q, hq', hc⟩ := e3 i w hi
  exact ⟨q, by rw [hq]; exact hq', hw _ q w (Nat.mod_lt _ (by decide)) hq' hc⟩
theorem CD_of {T T' : xS} {G : gS} {p : Nat} {d : AD} (h : CD T G p d) (hp : Wd T p) (ow : OwC T G) (hf : ∀ q, (172 ≤ q ∨ (88 ≤ q ∧ q ≤ 107)) → T'.1 q = T.1 q ∧ T'.2.1 q = T.2.1 q) (hq : ∀ q, q ≠ 109 → T'.2.2.2 q = T.2.2.2 q) : CD T' G p d := by
  have hp2 : p = 88 ∨ 172 ≤ p := by
    rcases hp with e | ⟨i, hi, e⟩
    · exact Or.inl e
    · exact Or.inr (ow.2.1 i p hi e)
  obtain ⟨h1, h2, h3, h4, h5⟩ := h
  refine ⟨CB_of h1 (hf _ (by omega)).1 (fun k a b => (hf _ (by omega)).2), CW_of h2 (hf _ (by omega)).1 (fun k a b => (hf _ (by omega)).2), CP_of h3 (hf _ (by omega)).1 (hq _ (by omega)) (fun i q w hi e c => ?_), ?_, ?_⟩
  · have := (ow.2.2.2.1 p i q hp hi e).1
    exact CW_of c (hf _ (by omega)).1 (fun k a b => (hf _ (by omega)).2)
  · rw [(hf p (by omega)).1]
    exact h4
  · rw [(hf p (by omega)).1]
    exact h5
theorem Wd_of {T T' : xS} (hq : T'.2.2.2 108 = T.2.2.2 108) {p : Nat} : Wd T' p ↔ Wd T p := by
  unfold Wd
  rw [hq]
theorem OwC_of {T T' : xS} {G : gS} (h : OwC T G) (hq : ∀ q, q ≠ 109 → T'.2.2.2 q = T.2.2.2 q) : OwC T' G := by
  have h108 := hq 108 (by decide)
  obtain ⟨o1, o2, o3, o4, o5⟩ := h
  have hp2 : ∀ p, Wd T p → p + 19 ≠ 109 := by
    intro p hp
    rcases hp with e | ⟨i, hi, e⟩
    · omega
    · have := o2 i p hi e
      omega
  refine ⟨fun p hp => o1 p ((Wd_of h108).mp hp), fun i p hi e => o2 i p hi (by rw [← h108]; exact e), fun i j p hi hj e e' => o3 i j p hi hj (by rw [← h108]; exact e) (by rw [← h108]; exact e'), fun p i q hp hi e => ?_, fun p i q p' i' hp hp' hi hi' e e' => ?_⟩
  · have hp := (Wd_of h108).mp hp
    rw [hq _ (hp2 p hp)] at e
    obtain ⟨a1, a2, a3⟩ := o4 p i q hp hi e
    exact ⟨a1, a2, fun p' hp' => a3 p' ((Wd_of h108).mp hp')⟩
  · have hp := (Wd_of h108).mp hp
    have hp' := (Wd_of h108).mp hp'
    rw [hq _ (hp2 p hp)] at e
    rw [hq _ (hp2 p' hp')] at e'
    exact o5 p i q p' i' hp hp' hi hi' e e'
/-- the tape apart, all stays -/
theorem RC_keep {A A' : AA} {T T' : xS} {G : gS} (h : RC A T G) (hA : A'.2 = A.2) (ht : T'.1 65 1 = nI A'.1.1 ∧ ∀ i, i < A'.1.1 → T'.2.1 66 i = nI (A'.1.2 i)) (h4 : T'.1 64 4 = T.1 64 4) (hf : ∀ q, (172 ≤ q ∨ (88 ≤ q ∧ q ≤ 107)) → T'.1 q = T.1 q ∧ T'.2.1 q = T.2.1 q) (hq : ∀ q, q ≠ 109 → T'.2.2.2 q = T.2.2.2 q) : RC A' T' G := by
  obtain ⟨_, ⟨h1, h2⟩, h3, h5, ow⟩ := h
  unfold RC
  rw [hA]
  refine ⟨ht, ⟨by rw [h4]; exact h1, fun r hr => ?_⟩, CD_of h3 (Or.inl rfl) ow hf hq, fun i hi => ?_, OwC_of ow hq⟩
  · obtain ⟨q, n, e1, e2, e3⟩ := h2 r hr
    refine ⟨q, n, by rw [hq 87 (by decide)]; exact e1, e2, LC_fr e3 (fun q' e' h' => (hf (q' + 1) (by omega)).2)⟩
  · have := h5 i hi
    cases hd : A.2.2.2 i with
    | none =>
      rw [hd] at this
      show T'.2.2.2 108 i = none
      rw [hq 108 (by decide)]
      exact this
    | some d =>
      rw [hd] at this
      obtain ⟨p, e1, e2⟩ := this
      exact ⟨p, by rw [hq 108 (by decide)]; exact e1, CD_of e2 (Or.inr ⟨i, hi, e1⟩) ow hf hq⟩
theorem RC_same {A : AA} {T T' : xS} {G : gS} (h : RC A T G) (h5 : T'.1 65 = T.1 65 ∧ T'.2.1 66 = T.2.1 66 ∧ T'.1 64 = T.1 64) (hf : ∀ q, (172 ≤ q ∨ (88 ≤ q ∧ q ≤ 107)) → T'.1 q = T.1 q ∧ T'.2.1 q = T.2.1 q) (hq : ∀ q, q ≠ 109 → T'.2.2.2 q = T.2.2.2 q) : RC A T' G := RC_keep h rfl ⟨by rw [h5.1]; exact h.1.1, fun i hi => by rw [h5.2.1]; exact h.1.2 i hi⟩ (by rw [h5.2.2]) hf hq
/-! the world's simple numbers in the program -/
theorem RC_f {A A' : AA} {T : xS} {G : gS} {j : Nat} {x : Int32} (h : RC A T G) (hj : j = 3 ∨ j = 4) (h1 : A'.1 = A.1) (h2 : A'.2.1 = A.2.1) (h3 : A'.2.2.2 = A.2.2.2) (hd : A'.2.2.1.1 = A.2.2.1.1 ∧ A'.2.2.1.2.1 = A.2.2.1.2.1 ∧ A'.2.2.1.2.2.1 = A.2.2.1.2.2.1) (e3 : (x_sI T 88 j x).1 88 3 = zI A'.2.2.1.2.2.2.1) (e4 : (x_sI T 88 j x).1 88 4 = nI A'.2.2.1.2.2.2.2) : RC A' (x_sI T 88 j x) G := by
  obtain ⟨ht, ⟨hr1, hr2⟩, ⟨c1, c2, c3, c4, c5⟩, h5, ow⟩ := h
  have hn : ∀ q, q ≠ 88 → (x_sI T 88 j x).1 q = T.1 q := fun q hq => x_rIn hq
  unfold RC
  rw [h1, h2, h3]
  refine ⟨⟨by rw [hn 65 (by decide)]; exact ht.1, ht.2⟩, ⟨by rw [hn 64 (by decide)]; exact hr1, hr2⟩, ?_, fun i hi => ?_, ow⟩
  · unfold CD
    rw [hd.1, hd.2.1, hd.2.2]
    refine ⟨CB_of c1 (hn _ (by decide)) (fun _ _ _ => rfl), CW_of c2 (hn _ (by decide)) (fun _ _ _ => rfl), CP_of c3 (hn _ (by decide)) rfl (fun i q w hi e c => ?_), e3, e4⟩
    have := (ow.2.2.2.1 88 i q (Or.inl rfl) hi e).1
    exact CW_of c (hn _ (by omega)) (fun _ _ _ => rfl)
  · have := h5 i hi
    cases hd' : A.2.2.2 i with
    | none =>
      rw [hd'] at this
      exact this
    | some d =>
      rw [hd'] at this
      obtain ⟨p, e1, ⟨k1, k2, k3, k4, k5⟩⟩ := this
      have hp := ow.2.1 i p hi e1
      refine ⟨p, e1, CB_of k1 (hn _ (by omega)) (fun _ _ _ => rfl), CW_of k2 (hn _ (by omega)) (fun _ _ _ => rfl), CP_of k3 (hn _ (by omega)) rfl (fun i' q w hi' e c => ?_), ?_, ?_⟩
      · have := (ow.2.2.2.1 p i' q (Or.inr ⟨i, hi, e1⟩) hi' e).1
        exact CW_of c (hn _ (by omega)) (fun _ _ _ => rfl)
      · rw [hn p (by omega)]
        exact k4
      · rw [hn p (by omega)]
        exact k5
/-! the reference: rows that no relation speaks of -/
theorem MB_r {r r' : Nat → Nat → Int32} {b : AB} (h : MB r b) (hb : OkB b) (e : ∀ k i, (k = 1 ∧ i ≤ 2) ∨ (2 ≤ k ∧ k ≤ 3 ∧ i < 16) ∨ (4 ≤ k ∧ k ≤ 5 ∧ i < 6) ∨ (k = 7 ∧ i < 4) → r' k i = r k i) : MB r' b := by
  obtain ⟨h0, h1, h2, h3, h4, ⟨ma, m1, m2⟩, ⟨da, d1, d2⟩⟩ := h
  have b1 := hb.1
  have b2 := hb.2.1
  have b3 := hb.2.2.1
  refine ⟨?_, ?_, ?_, ?_, ?_, ⟨ma, ?_, m2⟩, ⟨da, ?_, d2⟩⟩
  · rw [e 1 0 (by omega)]; exact h0
  · rw [e 1 1 (by omega)]; exact h1
  · rw [e 1 2 (by omega)]; exact h2
  · intro i hi
    rw [e 2 i (by omega), e 3 i (by omega)]; exact h3 i hi
  · intro k hk
    rw [e 5 k (by omega)]; exact h4 k hk
  · intro k hk
    rw [e 4 k (by omega)]; exact m1 k hk
  · intro k hk
    rw [e 7 k (by omega)]; exact d1 k hk
theorem MN_r {r r' : Nat → Nat → Int32} {w : AW} (h : MN r w) (h3 : r' 1 3 = r 1 3) (h8 : ∀ i, i < 13 → r' 8 i = r 8 i) (h9 : ∀ i, i < 13 → r' 9 i = r 9 i) : MN r' w := by
  obtain ⟨q, a, a1, a2, a3, a4, a5, a6⟩ := h
  refine ⟨q, a, a1, by rw [h3]; exact a2, a3, fun k hk => ?_, a5, a6⟩
  rw [h8 k (by omega), h9 k (by omega)]
  exact a4 k hk
theorem MW_r {r r' : Nat → Nat → Int32} {w : AW} (h : MW r w) (hn : w.1 0 1 ≤ 13) (e : ∀ k i, (k = 1 ∧ 3 ≤ i ∧ i ≤ 6) ∨ (k = 6 ∧ i < 6) ∨ (8 ≤ k ∧ k ≤ 15 ∧ i < 13) → r' k i = r k i) : MW r' w := by
  obtain ⟨h0, h1, h2, h3, h4, h5⟩ := h
  refine ⟨by rw [e 1 4 (by omega)]; exact h0, by rw [e 1 6 (by omega)]; exact h1, by rw [e 1 5 (by omega)]; exact h2, ?_, ?_, ?_⟩
  · intro s hs
    rw [e 10 s (by omega), e 11 s (by omega), e 12 s (by omega), e 13 s (by omega), e 14 s (by omega), e 15 s (by omega)]
    exact h3 s hs
  · intro k hk
    rw [e 6 k (by omega)]
    exact h4 k hk
  · exact MN_r h5 (e 1 3 (by omega)) (fun i hi => e 8 i (by omega)) (fun i hi => e 9 i (by omega))
theorem OkD_n {k nr : Nat} {d : AD} (h : OkD k nr d) : d.2.1.1 0 1 ≤ 13 := (h.2.2.1 d.2.1 (Or.inl rfl)).1.1
theorem OkD_p {k nr j : Nat} {d : AD} {w : AW} (h : OkD k nr d) (hj : d.2.2.1[j]? = some w) : OkW d.1 w ∧ w.1 0 1 ≤ 13 ∧ j < 20 := by
  have hm := List.mem_of_getElem? hj
  have h1 := h.2.2.1 w (Or.inr hm)
  have h2 := List.getElem?_eq_some_iff.mp hj
  obtain ⟨hl, _⟩ := h2
  have := h.2.2.2.1
  exact ⟨h1.1, h1.1.1, by omega⟩
theorem MP_r {f f' : Nat → Int32} {ps : List AW} (h : MP f ps) (hp : ∀ j w, ps[j]? = some w → w.1 0 1 ≤ 13 ∧ j < 20) (e : ∀ j, j < 2280 → f' j = f j) : MP f' ps := by
  intro j w hj
  have h2 := hp j w hj
  refine MW_r (h j w hj) h2.1 (fun k i hk => ?_)
  unfold paR
  rcases hk with ⟨rfl, h3⟩ | ⟨rfl, h3⟩ | ⟨h3, h4, h5⟩
  · rw [if_pos rfl, if_pos rfl]
    have : (if i = 4 then 0 else if i = 3 then 1 else if i = 5 then 2 else 3) ≤ 3 := by
      split
      · omega
      · split
        · omega
        · split <;> omega
    exact e _ (by omega)
  · show f' (114 * j + (4 + i)) = f (114 * j + (4 + i))
    exact e _ (by omega)
  · rw [if_neg (by omega), if_neg (by omega), if_neg (by omega), if_neg (by omega)]
    exact e _ (by omega)
theorem MD_r {r r' : Nat → Nat → Int32} {pm pm' : Int32} {f f' : Nat → Int32} {d : AD} {k nr : Nat} (h : MD r pm f d) (ok : OkD k nr d) (e : ∀ k i, 1 ≤ k → k ≤ 15 → i < m_ln.getD k 0 → r' k i = r k i) (hp : pm' = pm) (ef : ∀ j, j < 2280 → f' j = f j) : MD r' pm' f' d := by
  obtain ⟨d1, d2, d3, d4, d5, d6⟩ := h
  have hln : m_ln.getD 1 0 = 9 ∧ m_ln.getD 2 0 = 16 ∧ m_ln.getD 3 0 = 16 ∧ m_ln.getD 4 0 = 6 ∧ m_ln.getD 5 0 = 6 ∧ m_ln.getD 6 0 = 6 ∧ m_ln.getD 7 0 = 4 := by decide
  have h13 : ∀ k, 8 ≤ k → k ≤ 15 → m_ln.getD k 0 = 13 := by
    intro k h1 h2
    exact (by decide : ∀ k, k < 16 → 8 ≤ k → m_ln.getD k 0 = 13) k (by omega) h1
  refine ⟨MB_r d1 ok.1 (fun k i hk => ?_), MW_r d2 (OkD_n ok) (fun k i hk => ?_), by rw [hp]; exact d3, MP_r d4 (fun j w hj => ⟨(OkD_p ok hj).2.1, (OkD_p ok hj).2.2⟩) ef, ?_, ?_⟩
  · rcases hk with ⟨rfl, h⟩ | ⟨h1, h2, h⟩ | ⟨h1, h2, h⟩ | ⟨rfl, h⟩
    · exact e _ _ (by omega) (by omega) (by omega)
    · have : k = 2 ∨ k = 3 := by omega
      rcases this with rfl | rfl <;> exact e _ _ (by omega) (by omega) (by omega)
    · have : k = 4 ∨ k = 5 := by omega
      rcases this with rfl | rfl <;> exact e _ _ (by omega) (by omega) (by omega)
    · exact e _ _ (by omega) (by omega) (by omega)
  · rcases hk with ⟨rfl, h⟩ | ⟨rfl, h⟩ | ⟨h1, h2, h⟩
    · exact e _ _ (by omega) (by omega) (by omega)
    · exact e _ _ (by omega) (by omega) (by omega)
    · exact e _ _ (by omega) (by omega) (by rw [h13 k h1 h2]; exact h)
  · rw [e 1 8 (by omega) (by omega) (by omega)]
    exact d5
  · rw [e 1 7 (by omega) (by omega) (by omega)]
    exact d6
theorem LMr_of {S S' : mS} {r : Nat} {f : (Nat → Int64) → Bool} (h : LMr S r f) (e : ∀ k i, 27 ≤ k → k ≤ 31 → S'.2.1 k i = S.2.1 k i) : LMr S' r f := fun S2 x e1 e2 e3 => h S2 x (fun k i a b c => (e1 k i a b c).trans (e k i a b)) e2 e3
theorem imO_le (k : Nat) (h : k ≤ 15) : imO.getD k 0 + m_ln.getD k 0 ≤ 168 := (by decide : ∀ k, k < 16 → imO.getD k 0 + m_ln.getD k 0 ≤ 168) k (by omega)
/-- images stay where their rows do -/
theorem IM_r {A : AA} {S S' : mS} {k : Nat} (ok : OkA k A) (h : ∀ i, i < 4 → match A.2.2.2 i with
  | none => S.2.1 41 i = nI 0
  | some d => S.2.1 41 i = nI 1 ∧ MD (imR (S.2.1 40) i) (S.2.1 40 (2500 * i)) (fun j => S.2.1 40 (2500 * i + (168 + j))) d) (e : ∀ j, j < 10000 → S'.2.1 40 j = S.2.1 40 j) (e1 : ∀ i, i < 4 → S'.2.1 41 i = S.2.1 41 i) : ∀ i, i < 4 → match A.2.2.2 i with
  | none => S'.2.1 41 i = nI 0
  | some d => S'.2.1 41 i = nI 1 ∧ MD (imR (S'.2.1 40) i) (S'.2.1 40 (2500 * i)) (fun j => S'.2.1 40 (2500 * i + (168 + j))) d := by
  intro i hi
  have := h i hi
  cases hd : A.2.2.2 i with
  | none =>
    rw [hd] at this
    show S'.2.1 41 i = nI 0
    rw [e1 i hi]
    exact this
  | some d =>
    rw [hd] at this
    obtain ⟨q1, q2⟩ := this
    refine ⟨by rw [e1 i hi]; exact q1, MD_r q2 (ok.2.2.2.2 i d hd) (fun k j h1 h2 h3 => ?_) (e _ (by omega)) (fun j hj => e _ (by omega))⟩
    have := imO_le k h2
    unfold imR
    exact e _ (by omega)
/-- the tape and the simple numbers apart, all stays -/
theorem RM_keep {A A' : AA} {S S' : mS} {k : Nat} (ok : OkA k A) (h : RM A S) (h2 : A'.2.1 = A.2.1) (h3 : A'.2.2.2 = A.2.2.2) (hd : A'.2.2.1.1 = A.2.2.1.1 ∧ A'.2.2.1.2.1 = A.2.2.1.2.1 ∧ A'.2.2.1.2.2.1 = A.2.2.1.2.2.1) (ht : S'.1 26 = nI A'.1.1 ∧ ∀ i, i < A'.1.1 → S'.2.1 26 i = sbI (A'.1.2 i)) (e8 : S'.2.1 1 8 = zI A'.2.2.1.2.2.2.1) (e7 : S'.2.1 1 7 = nI A'.2.2.1.2.2.2.2) (hi : S'.1 30 = S.1 30 ∧ S'.1 35 = S.1 35 ∧ S'.1 47 = S.1 47) (hr : ∀ k i, (1 ≤ k ∧ k ≤ 15 ∧ ¬ (k = 1 ∧ 7 ≤ i)) ∨ (27 ≤ k ∧ k ≤ 31) ∨ k = 35 ∨ (k = 40 ∧ i < 10000) ∨ k = 41 → S'.2.1 k i = S.2.1 k i) : RM A' S' := by
  obtain ⟨_, ⟨r1, r2, r3⟩, ⟨d1, d2, d3, d4, d5, d6⟩, im⟩ := h
  unfold RM
  rw [h2, h3]
  refine ⟨ht, ⟨by rw [hi.1]; exact r1, by rw [hi.2.1]; exact r2, fun r hr' => LMr_of (r3 r hr') (fun k i a b => hr k i (by omega))⟩, ?_, IM_r ok im (fun j hj => hr 40 j (by omega)) (fun i _ => hr 41 i (by omega))⟩
  have ok1 := ok.2.2.2.1
  unfold MD
  rw [hd.1, hd.2.1, hd.2.2]
  exact ⟨MB_r d1 ok1.1 (fun k i a => hr k i (by omega)), MW_r d2 (OkD_n ok1) (fun k i a => hr k i (by omega)), by rw [hi.2.2]; exact d3, MP_r d4 (fun j w hj => ⟨(OkD_p ok1 hj).2.1, (OkD_p ok1 hj).2.2⟩) (fun j _ => hr 35 j (by omega)), e8, e7⟩
/-- what the relation doesn't speak of may change -/
theorem RM_same {A : AA} {S S' : mS} {k : Nat} (ok : OkA k A) (h : RM A S) (hi : S'.1 26 = S.1 26 ∧ S'.1 30 = S.1 30 ∧ S'.1 35 = S.1 35 ∧ S'.1 47 = S.1 47) (hr : ∀ k i, (1 ≤ k ∧ k ≤ 15) ∨ (26 ≤ k ∧ k ≤ 31) ∨ k = 35 ∨ (k = 40 ∧ i < 10000) ∨ k = 41 → S'.2.1 k i = S.2.1 k i) : RM A S' := RM_keep ok h rfl rfl ⟨rfl, rfl, rfl⟩ ⟨by rw [hi.1]; exact h.1.1, fun i hi' => by rw [hr 26 i (by omega)]; exact h.1.2 i hi'⟩ (by rw [hr 1 8 (by omega)]; exact h.2.2.1.2.2.2.2.1) (by rw [hr 1 7 (by omega)]; exact h.2.2.1.2.2.2.2.2) hi.2 (fun k i hk => hr k i (by omega))
