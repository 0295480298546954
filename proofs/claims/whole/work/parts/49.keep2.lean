/-! keep, whole -/
theorem KpC_q {T T' : xS} {G G' : gS} {p q0 s0 q : Nat} {w : AW} (k : KpC T G p T' G' q0 s0) (hp : pB G p = true) (hq : wB G q = true) (hne : q ≠ q0) (c : CW T q w) : CW T' q w := by
  obtain ⟨k1, k2, k3, k4, k5, k6, k7, k8⟩ := k
  have hq' := GX_w k3 hq
  have hd := w_dis hq' k4 hne
  have ho := wk_out (p := p) hq (by rw [pk0 hp]; decide) (fun e => by
    have := wk0 hq
    rw [← e, pk0 hp] at this
    cases this)
  exact CW_of c (k8 q (by omega) (by omega)).1 (fun j a b => (k8 (q + j) (by omega) (by omega)).2)
theorem g83 {T : xS} {G : gS} {p l1 : Nat} {ps : List AW} {w : AW} (hp : pB G p = true) (hl : wB G l1 = true) (hw : CW T l1 w) (hn : w.1 0 1 ≤ 13) (hc : CP T G p ps) (hl20 : ps.length ≤ 20) (hs : ∀ i q, i < 20 → T.2.2.2 (p + 1) i = some q → 172 ≤ q ∧ wB G q = true ∧ q ≠ l1) (hin : ∀ i j q, i < 20 → j < 20 → T.2.2.2 (p + 1) i = some q → T.2.2.2 (p + 1) j = some q → i = j) : Ep (fun n => G83 p l1 n (T, G)) (fun z => ∃ q0 s0, KpC T G p z.2.1 z.2.2 q0 s0 ∧ CP z.2.1 z.2.2 p (keepA ps w)) := by
  refine ep_succ (fun n => G83e0 p l1 n ..) ?_
  have hc' := hc
  obtain ⟨o, ho, h1, h2, h3⟩ := hc
  have hne : ∀ T' G' q0 s0 i q v, KpC T G p T' G' q0 s0 → i < 20 → i ≠ s0 → T.2.2.2 (p + 1) i = some q → CW T q v → T'.2.2.2 (p + 1) i = some q ∧ CW T' q v := by
    intro T' G' q0 s0 i q v k hi his hq c
    have hqw := hs i q hi hq
    refine ⟨by rw [k.2.2.2.2.2.2.1 (p + 1) i (fun z => his z.2)]; exact hq, KpC_q k hp hqw.2.1 ?_ c⟩
    intro e
    subst e
    rcases k.2.1 with ⟨a, _⟩ | ⟨_, a, _⟩
    · exact his (hin i s0 q hi k.1 hq a)
    · have := wk_lt hqw.2.1 hqw.1
      omega
  by_cases e : ps.length = 20
  · have h2' : T.1 p 2 = nI 20 := by rw [h2, e]
    have hcnd : ¬ am_ic .ne (T.1 p 2) 20 = true := by
      rw [h2']
      decide
    have ex : ((T.1 p 1) + 1) - ((T.1 p 1) + 1) / 20 * 20 = nI ((o + 1) % 20) := by
      simp (disch := omega) only [h1, L0, L1, L2, L3, L4, L5, L6, L7, L8, L9, L10, L11, L12, L13, L16, L20, L31, L32, L40, L48, L57, L59, L60, L61, L91, L93, L97, L99, L100, L102, L103, L114, L122, L255, L300, L400, L402, L999, L2280, L2500, L99999, L63, L1431655765, L858993459, L252645135, nI_add, nI_divN, nI_r20]
    have key := g83c (T := T) (T1 := x_sI (x_sI T p 1 (((T.1 p 1) + 1) - ((T.1 p 1) + 1) / 20 * 20)) p 2 (((x_sI T p 1 (((T.1 p 1) + 1) - ((T.1 p 1) + 1) / 20 * 20)).1 p 2) - 1)) (o := (o + 1) % 20) (m := 19) (w := w) hp hl ?_ hn (by rw [x_rIi (by decide), x_rIe]; exact ex) (by rw [x_rIe, x_rIi (by decide), h2']; rfl) (Nat.mod_lt _ (by decide)) (by decide) ⟨fun q hq => by rw [x_rIn hq, x_rIn hq], rfl⟩ hs (fun z => ∃ q0 s0, KpC T G p z.2.1 z.2.2 q0 s0 ∧ CP z.2.1 z.2.2 p (keepA ps w)) ?_
    · refine ep_eq (fun n => ?_) key
      unfold G83b0
      rw [if_pos hp, if_neg hcnd]
      rfl
    · have ho1 := wk_out (p := p) hl (by rw [pk0 hp]; decide) (fun e => by
        have := wk0 hl
        rw [← e, pk0 hp] at this
        cases this)
      refine CW_of hw ?_ (fun _ _ _ => rfl)
      rw [x_rIn (by omega), x_rIn (by omega)]
    · intro T' G' q0 k c e1 e2
      have hs0 : ((o + 1) % 20 + 19) % 20 = o := by omega
      rw [hs0] at k
      refine ⟨q0, o, k, (o + 1) % 20, Nat.mod_lt _ (by decide), e1, ?_, fun i v hi => ?_⟩
      · rw [e2, keepA_len hl20, if_pos e]
      · unfold keepA at hi
        rw [if_pos e] at hi
        have ht : ps.tail.length = 19 := by rw [List.length_tail, e]
        by_cases hi19 : i < 19
        · rw [List.getElem?_append_left (by omega), List.getElem?_tail] at hi
          obtain ⟨q, hq, hcq⟩ := h3 (i + 1) v hi
          have heq : (o + (i + 1)) % 20 = ((o + 1) % 20 + i) % 20 := by omega
          rw [heq] at hq
          exact ⟨q, hne T' G' q0 o _ q v k (Nat.mod_lt _ (by decide)) (by omega) hq hcq⟩
        · rw [List.getElem?_append_right (by omega), ht] at hi
          have hi0 : i - 19 = 0 := by
            cases hd : i - 19 with
            | zero => rfl
            | succ m => rw [hd] at hi; cases hi
          rw [hi0] at hi
          have hv : v = w := (Option.some.inj hi).symm
          subst hv
          have hio : ((o + 1) % 20 + i) % 20 = o := by omega
          rw [hio]
          exact ⟨q0, k.2.2.2.2.2.1, c⟩
  · have hlt : ps.length < 20 := by omega
    simp (disch := omega) only [G83b0, hp, h2, L0, L1, L2, L3, L4, L5, L6, L7, L8, L9, L10, L11, L12, L13, L16, L20, L31, L32, L40, L48, L57, L59, L60, L61, L91, L93, L97, L99, L100, L102, L103, L114, L122, L255, L300, L400, L402, L999, L2280, L2500, L99999, L63, L1431655765, L858993459, L252645135, ic_ne, e, decide_eq_true_eq, decide_true, decide_false, Bool.not_eq_true, Bool.not_eq_true', Bool.not_true, Bool.not_false, decide_eq_false_iff_not, Bool.false_eq_true, not_false_eq_true, not_true_eq_false, if_true, if_false, ↓reduceIte, eq_self, Option.bind_some, Bool.true_and, Bool.false_and, Bool.and_true, Bool.and_false]
    have key := g83c (T := T) (T1 := T) (o := o) (m := ps.length) (w := w) hp hl hw hn h1 h2 ho hlt ⟨fun _ _ => rfl, rfl⟩ hs (fun z => ∃ q0 s0, KpC T G p z.2.1 z.2.2 q0 s0 ∧ CP z.2.1 z.2.2 p (keepA ps w)) ?_
    · simp only [h2, L0, L1, L2, L3, L4, L5, L6, L7, L8, L9, L10, L11, L12, L13, L16, L20, L31, L32, L40, L48, L57, L59, L60, L61, L91, L93, L97, L99, L100, L102, L103, L114, L122, L255, L300, L400, L402, L999, L2280, L2500, L99999, L63, L1431655765, L858993459, L252645135] at key
      exact key
    · intro T' G' q0 k c e1 e2
      refine ⟨q0, _, k, o, ho, e1, ?_, fun i v hi => ?_⟩
      · rw [e2, keepA_len hl20, if_neg e]
      · unfold keepA at hi
        rw [if_neg e] at hi
        by_cases hil : i < ps.length
        · rw [List.getElem?_append_left hil] at hi
          obtain ⟨q, hq, hcq⟩ := h3 i v hi
          exact ⟨q, hne T' G' q0 _ _ q v k (Nat.mod_lt _ (by decide)) (by omega) hq hcq⟩
        · rw [List.getElem?_append_right (by omega)] at hi
          have hi0 : i - ps.length = 0 := by
            cases hd : i - ps.length with
            | zero => rfl
            | succ m => rw [hd] at hi; cases hi
          rw [hi0] at hi
          have hv : v = w := (Option.some.inj hi).symm
          subst hv
          have hio : i = ps.length := by omega
          subst hio
          exact ⟨q0, k.2.2.2.2.2.1, c⟩
/-! what stays when a world's past is written -/
theorem law_out {G : gS} {q n q0 : Nat} (h : lB G q n = true) (hw : wB G q0 = true) : q + 1 < q0 ∨ q0 + 10 < q + 1 := by
  have a := wk_out (p := q) hw (by rw [lk0 h]; decide) (fun e => by
    have := lk0 h
    rw [e, wk0 hw] at this
    cases this)
  have b : q + 1 ≠ q0 := fun e => by
    have := lk1 h
    rw [e, wk0 hw] at this
    cases this
  omega
theorem wld_out {G : gS} {p q0 : Nat} (h : vB G p = true) (hw : wB G q0 = true) (hne : q0 ≠ p + 7) : q0 + 10 < p ∨ p + 19 < q0 := by
  have h0 := vk0 h
  have hb := vkb h
  have h7 := vkw h
  have h18 := vkp h
  have ne : ∀ r k, x_kd G r = k → k ≠ (19, 0) → q0 ≠ r := by
    intro r k hk hn e
    rw [← e, wk0 hw] at hk
    exact hn hk.symm
  have n0 := ne p _ h0 (by decide)
  have n1 := ne (p + 1) _ (bk0 hb) (by decide)
  have n2 := ne (p + 1 + 1) _ (bk1 hb) (by decide)
  have n3 := ne (p + 1 + 2) _ (bk2 hb) (by decide)
  have n4 := ne (p + 1 + 3) _ (bk3 hb) (by decide)
  have n5 := ne (p + 1 + 4) _ (bk4 hb) (by decide)
  have n6 := ne (p + 1 + 5) _ (bk5 hb) (by decide)
  have n18 := ne (p + 18) _ (pk0 h18) (by decide)
  have n19 := ne (p + 18 + 1) _ (pk1 h18) (by decide)
  have d7 := w_dis hw h7 hne
  have o0 := wk_out (p := p) hw (by rw [h0]; decide) (fun e => n0 e.symm)
  omega
theorem wld_dis {G : gS} {p p' : Nat} (h : vB G p = true) (h' : vB G p' = true) (hne : p ≠ p') : p + 19 < p' ∨ p' + 19 < p := by
  have d := wld_out h (vkw h') (fun e => hne (by omega))
  have d' := wld_out h' (vkw h) (fun e => hne (by omega))
  have ne : ∀ r k, x_kd G r = k → k ≠ (20, 0) → p' ≠ r := by
    intro r k hk hn e
    rw [← e, vk0 h'] at hk
    exact hn hk.symm
  have n18 := ne (p + 18) _ (pk0 (vkp h)) (by decide)
  have n19 := ne (p + 18 + 1) _ (pk1 (vkp h)) (by decide)
  have ne' : ∀ r k, x_kd G r = k → k ≠ (20, 0) → p ≠ r := by
    intro r k hk hn e
    rw [← e, vk0 h] at hk
    exact hn hk.symm
  have m18 := ne' (p' + 18) _ (pk0 (vkp h')) (by decide)
  have m19 := ne' (p' + 18 + 1) _ (pk1 (vkp h')) (by decide)
  omega
theorem Wd_r {T : xS} {G : gS} {p : Nat} (ow : OwC T G) (h : Wd T p) : p = 88 ∨ 172 ≤ p := by
  rcases h with e | ⟨i, hi, e⟩
  · exact Or.inl e
  · exact Or.inr (ow.2.1 i p hi e)
section KpR
variable {T T' : xS} {G G' : gS} {p q0 s0 : Nat}
theorem kp_Wd (ow : OwC T G) (hp : Wd T p) (k : KpC T G (p + 18) T' G' q0 s0) {p' : Nat} : Wd T' p' ↔ Wd T p' := by
  have hr := Wd_r ow hp
  have e : T'.2.2.2 108 = T.2.2.2 108 := by
    funext i
    exact k.2.2.2.2.2.2.1 108 i (by omega)
  exact Wd_of e
theorem kp_q0 (ow : OwC T G) (hp : Wd T p) (k : KpC T G (p + 18) T' G' q0 s0) {p' : Nat} (hp' : Wd T p') : q0 ≠ p' + 7 ∧ (q0 + 10 < p' ∨ p' + 19 < q0) := by
  have hv := GX_v k.2.2.1 (ow.1 p' hp')
  have hne : q0 ≠ p' + 7 := by
    rcases k.2.1 with ⟨a, _⟩ | ⟨_, a, _⟩
    · exact (ow.2.2.2.1 p s0 q0 hp k.1 a).2.2 p' hp'
    · have := kd_lt (G := G) (p := p' + 7) (by rw [wk0 (vkw (ow.1 p' hp'))]; decide)
      omega
  exact ⟨hne, wld_out hv k.2.2.2.1 hne⟩
theorem kp_slot (ow : OwC T G) (hp : Wd T p) (k : KpC T G (p + 18) T' G' q0 s0) {p' i q : Nat} (hp' : Wd T p') (hi : i < 20) (hq : T'.2.2.2 (p' + 19) i = some q) : (p' = p ∧ i = s0 ∧ q = q0) ∨ (T.2.2.2 (p' + 19) i = some q ∧ q ≠ q0 ∧ ¬ (p' = p ∧ i = s0)) := by
  by_cases e : p' = p ∧ i = s0
  · obtain ⟨rfl, rfl⟩ := e
    have := k.2.2.2.2.2.1
    rw [show p' + 18 + 1 = p' + 19 by omega] at this
    rw [this] at hq
    exact Or.inl ⟨rfl, rfl, (Option.some.inj hq).symm⟩
  · have h := k.2.2.2.2.2.2.1 (p' + 19) i (fun z => e ⟨by omega, z.2⟩)
    rw [h] at hq
    refine Or.inr ⟨hq, fun eq => ?_, e⟩
    subst eq
    rcases k.2.1 with ⟨a, _⟩ | ⟨_, a, _⟩
    · exact e (ow.2.2.2.2 p' i q p s0 hp' hp hi k.1 hq a)
    · have h2 := ow.2.2.2.1 p' i q hp' hi hq
      have := wk_lt h2.2.1 h2.1
      omega
theorem kp_Ow (ow : OwC T G) (hp : Wd T p) (k : KpC T G (p + 18) T' G' q0 s0) : OwC T' G' := by
  have hw := fun {p'} => kp_Wd (p' := p') ow hp k
  have hr := Wd_r ow hp
  have e108 : ∀ i, T'.2.2.2 108 i = T.2.2.2 108 i := fun i => k.2.2.2.2.2.2.1 108 i (by omega)
  refine ⟨fun p' h' => GX_v k.2.2.1 (ow.1 p' (hw.mp h')), fun i p' hi h' => ow.2.1 i p' hi (by rw [← e108]; exact h'), fun i j p' hi hj h1 h2 => ow.2.2.1 i j p' hi hj (by rw [← e108]; exact h1) (by rw [← e108]; exact h2), fun p' i q h' hi hq => ?_, fun p1 i q p2 j h1 h2 hi hj hq1 hq2 => ?_⟩
  · rcases kp_slot ow hp k (hw.mp h') hi hq with ⟨_, _, rfl⟩ | ⟨a, b, _⟩
    · exact ⟨k.2.2.2.2.1, k.2.2.2.1, fun p2 h2 => (kp_q0 ow hp k (hw.mp h2)).1⟩
    · have := ow.2.2.2.1 p' i q (hw.mp h') hi a
      exact ⟨this.1, GX_w k.2.2.1 this.2.1, fun p2 h2 => this.2.2 p2 (hw.mp h2)⟩
  · rcases kp_slot ow hp k (hw.mp h1) hi hq1 with ⟨a1, a2, a3⟩ | ⟨a, b, c⟩
    · rcases kp_slot ow hp k (hw.mp h2) hj hq2 with ⟨b1, b2, b3⟩ | ⟨_, b, _⟩
      · exact ⟨by rw [a1, b1], by rw [a2, b2]⟩
      · exact absurd a3 b
    · rcases kp_slot ow hp k (hw.mp h2) hj hq2 with ⟨_, _, b3⟩ | ⟨a', _, _⟩
      · exact absurd b3 b
      · exact ow.2.2.2.2 p1 i q p2 j (hw.mp h1) (hw.mp h2) hi hj a a'
/-- other worlds stay -/
theorem kp_CD {p' : Nat} {d : AD} (ow : OwC T G) (hp : Wd T p) (k : KpC T G (p + 18) T' G' q0 s0) (hp' : Wd T p') (hne : p' ≠ p) (c : CD T G p' d) : CD T' G' p' d := by
  obtain ⟨c1, c2, c3, c4, c5⟩ := c
  have h0 := (kp_q0 ow hp k hp').2
  have hd := wld_dis (ow.1 p' hp') (ow.1 p hp) hne
  have k8 := k.2.2.2.2.2.2.2
  refine ⟨CB_of c1 (k8 _ (by omega) (by omega)).1 (fun j a b => (k8 _ (by omega) (by omega)).2), CW_of c2 (k8 _ (by omega) (by omega)).1 (fun j a b => (k8 _ (by omega) (by omega)).2), CP_of c3 (k8 _ (by omega) (by omega)).1 ?_ (fun i q w hi hq cw => ?_), ?_, ?_⟩
  · funext i
    exact k.2.2.2.2.2.2.1 _ i (by omega)
  · have h2 := ow.2.2.2.1 p' i q hp' hi hq
    refine KpC_q k (vkp (ow.1 p hp)) h2.2.1 (fun e => ?_) cw
    subst e
    rcases k.2.1 with ⟨a, _⟩ | ⟨_, a, _⟩
    · exact hne (ow.2.2.2.2 p' i q p s0 hp' hp hi k.1 hq a).1
    · have := wk_lt h2.2.1 h2.1
      omega
  · rw [(k8 p' (by omega) (by omega)).1]
    exact c4
  · rw [(k8 p' (by omega) (by omega)).1]
    exact c5
/-- the world itself, but for its past -/
theorem kp_me {d : AD} {ps : List AW} (ow : OwC T G) (hp : Wd T p) (k : KpC T G (p + 18) T' G' q0 s0) (c : CD T G p d) (cp : CP T' G' (p + 18) ps) : CD T' G' p (d.1, d.2.1, ps, d.2.2.2) := by
  obtain ⟨c1, c2, c3, c4, c5⟩ := c
  have h0 := (kp_q0 ow hp k hp).2
  have k8 := k.2.2.2.2.2.2.2
  refine ⟨CB_of c1 (k8 _ (by omega) (by omega)).1 (fun j a b => (k8 _ (by omega) (by omega)).2), CW_of c2 (k8 _ (by omega) (by omega)).1 (fun j a b => (k8 _ (by omega) (by omega)).2), cp, ?_, ?_⟩
  · rw [(k8 p (by omega) (by omega)).1]
    exact c4
  · rw [(k8 p (by omega) (by omega)).1]
    exact c5
/-- tape and rules -/
theorem kp_rest {A : AA} (ow : OwC T G) (hp : Wd T p) (k : KpC T G (p + 18) T' G' q0 s0) (h : RC A T G) : (T'.1 65 1 = nI A.1.1 ∧ ∀ i, i < A.1.1 → T'.2.1 66 i = nI (A.1.2 i)) ∧ (T'.1 64 4 = nI A.2.1.1 ∧ ∀ r, r < A.2.1.1 → ∃ q n, T'.2.2.2 87 r = some q ∧ lB G' q n = true ∧ LC T' (some q) n (some (A.2.1.2 r))) := by
  have hr := Wd_r ow hp
  have k8 := k.2.2.2.2.2.2.2
  have h5 := k.2.2.2.2.1
  refine ⟨⟨by rw [(k8 65 (by omega) (by omega)).1]; exact h.1.1, fun i hi => by rw [(k8 66 (by omega) (by omega)).2]; exact h.1.2 i hi⟩, by rw [(k8 64 (by omega) (by omega)).1]; exact h.2.1.1, fun r hr' => ?_⟩
  obtain ⟨q, n, e1, e2, e3⟩ := h.2.1.2 r hr'
  have hl := GX_l k.2.2.1 e2
  have hlo := law_out hl k.2.2.2.1
  refine ⟨q, n, by rw [k.2.2.2.2.2.2.1 87 r (by omega)]; exact e1, hl, LC_fr e3 (fun q' eq h172 => ?_)⟩
  have eq : q = q' := Option.some.inj eq
  subst eq
  have hne : q + 1 ≠ p + 18 := fun e => by
    have h1 := lk1 e2
    rw [e, pk0 (vkp (ow.1 p hp))] at h1
    cases h1
  exact (k8 (q + 1) hne hlo).2
end KpR
/-- an act is kept by the program -/
theorem keepX {k : Nat} {A : AA} {T : xS} {G : gS} (ok : OkA k A) (h : RC A T G) : Ep (fun n => G83 106 95 n (T, G)) (fun z => RC (A.1, A.2.1, (A.2.2.1.1, A.2.2.1.2.1, keepA A.2.2.1.2.2.1 A.2.2.1.2.1, A.2.2.1.2.2.2), A.2.2.2) z.2.1 z.2.2 ∧ z.2.2.2.1 ≤ G.2.1 + 11 ∧ z.2.2.2.2 ≤ G.2.2 + 139) := by
  have ow := h.2.2.2.2
  have hw88 : Wd T 88 := Or.inl rfl
  have okd := ok.2.2.2.1
  refine ep_mono (g83 (p := 106) (l1 := 95) (ps := A.2.2.1.2.2.1) pS_106 wS_95 (CD_w h) (OkD_n okd) h.2.2.1.2.2.1 okd.2.2.2.1 (fun i q hi hq => ?_) (fun i j q hi hj h1 h2 => ?_)) ?_
  · have := ow.2.2.2.1 88 i q hw88 hi hq
    exact ⟨this.1, this.2.1, by omega⟩
  · exact (ow.2.2.2.2 88 i q 88 j hw88 hw88 hi hj h1 h2).2
  · rintro ⟨_, T', G'⟩ ⟨q0, s0, kp, cp⟩
    have kp : KpC T G (88 + 18) T' G' q0 s0 := kp
    refine ⟨⟨(kp_rest ow hw88 kp h).1, (kp_rest ow hw88 kp h).2, kp_me ow hw88 kp h.2.2.1 cp, fun i hi => ?_, kp_Ow ow hw88 kp⟩, ?_⟩
    · have hi' := h.2.2.2.1 i hi
      show match A.2.2.2 i with | none => T'.2.2.2 108 i = none | some d => ∃ p, T'.2.2.2 108 i = some p ∧ CD T' G' p d
      have e108 : T'.2.2.2 108 i = T.2.2.2 108 i := kp.2.2.2.2.2.2.1 108 i (by omega)
      cases hd : A.2.2.2 i with
      | none =>
        rw [hd] at hi'
        show T'.2.2.2 108 i = none
        rw [e108]
        exact hi'
      | some d =>
        rw [hd] at hi'
        obtain ⟨p, e1, e2⟩ := hi'
        have h172 := ow.2.1 i p hi e1
        exact ⟨p, by rw [e108]; exact e1, kp_CD ow hw88 kp (Or.inr ⟨i, hi, e1⟩) (by omega) e2⟩
    · rcases kp.2.1 with ⟨_, e⟩ | ⟨_, _, e1, e2⟩
      · show G'.2.1 ≤ _ ∧ G'.2.2 ≤ _
        rw [e]
        omega
      · show G'.2.1 ≤ _ ∧ G'.2.2 ≤ _
        omega
