/-! rivers told: what the program holds then -/
abbrev RVR : Type := Nat × AB × AW
def rvA (A : AA) : RVR := rvF A.1.2 A.1.1 41 0 (stB 0) w0A 0
def rivA (A : AA) : AA := if (rvA A).1 = 0 then ((0, A.1.2), A.2.1, ((rvA A).2.1, (rvA A).2.2, [], A.2.2.1.2.2.2), A.2.2.2) else ((0, A.1.2), A.2)
def rivR (A : AA) : Int32 := if (rvA A).1 = 0 then nI ((rvA A).2.2.1 0 1) else (-2) - nI (rvA A).1
theorem CD_hi {T T' : xS} {G : gS} {p : Nat} {d : AD} (h : CD T G p d) (hp : Wd T p) (hp2 : 172 ≤ p) (ow : OwC T G) (hf : ∀ q, 172 ≤ q → T'.1 q = T.1 q ∧ T'.2.1 q = T.2.1 q) (hq : T'.2.2.2 = T.2.2.2) : CD T' G p d := by
  obtain ⟨h1, h2, h3, h4, h5⟩ := h
  refine ⟨CB_of h1 (hf _ (by omega)).1 (fun k a b => (hf _ (by omega)).2), CW_of h2 (hf _ (by omega)).1 (fun k a b => (hf _ (by omega)).2), CP_of h3 (hf _ (by omega)).1 (by rw [hq]) (fun i q w hi e c => ?_), ?_, ?_⟩
  · have := (ow.2.2.2.1 p i q hp hi e).1
    exact CW_of c (hf _ (by omega)).1 (fun k a b => (hf _ (by omega)).2)
  · rw [(hf p (by omega)).1]
    exact h4
  · rw [(hf p (by omega)).1]
    exact h5
theorem rv_ok {A : AA} {k : Nat} (ok : OkA k A) {n : Nat} (hn : n ≠ 0) (h0 : (rvA A).1 = 0) (hr : OkR n (rvA A).2.1 (rvA A).2.2) : OkA (k + 1) (rivA A) := by
  obtain ⟨o1, o2, o3, o4, o5⟩ := OkA_s ok
  unfold rivA
  rw [if_pos h0]
  obtain ⟨hb, okw, d0, n10, sh, n5, p0, fr, h2, _⟩ := hr
  refine ⟨Nat.zero_le _, fun i hi => absurd hi (Nat.not_lt_zero _), o3, ⟨hb, Or.inr (h2 hn), fun w hw => ?_, Nat.zero_le _, o4.2.2.2.2.1, o4.2.2.2.2.2⟩, o5⟩
  rcases hw with rfl | hw
  · refine ⟨okw, ?_, ?_, fun i hi => ?_, n5⟩
    · show (rvA A).2.2.1 0 1 ≤ 12
      omega
    · show (rvA A).2.2.1 0 0 ≤ k + 1
      omega
    · show (rvA A).2.2.1 8 i ≤ _
      rw [p0 i hi]
      exact Nat.zero_le _
  · exact absurd hw (by simp)
theorem rv_ok' {A : AA} {k : Nat} (ok : OkA k A) (h0 : (rvA A).1 ≠ 0) : OkA (k + 1) (rivA A) := by
  obtain ⟨o1, o2, o3, o4, o5⟩ := OkA_s ok
  unfold rivA
  rw [if_neg h0]
  exact ⟨Nat.zero_le _, fun i hi => absurd hi (Nat.not_lt_zero _), o3, o4, o5⟩
theorem RC_TH {A : AA} {T : xS} {G : gS} {k : Nat} (ok : OkA k A) (h : RC A T G) : TH T A.1.2 A.1.1 := ⟨h.1.2, ok.1, ok.2.1⟩
theorem rv_le {A : AA} {k : Nat} (ok : OkA k A) : ∀ (m n : Nat) (b : AB) (w : AW) (i : Nat), i ≤ A.1.1 → OkR n b w → (m = 0 → n ≠ 0) → (rvF A.1.2 A.1.1 m n b w i).1 ≤ 8 * A.1.1 + 5 ∧ ((rvF A.1.2 A.1.1 m n b w i).1 = 0 → ∃ n', n' ≠ 0 ∧ OkR n' (rvF A.1.2 A.1.1 m n b w i).2.1 (rvF A.1.2 A.1.1 m n b w i).2.2)
  | 0, n, b, w, i, hi, h, hm => ⟨Nat.zero_le _, fun _ => ⟨n, hm rfl, h⟩⟩
  | m + 1, n, b, w, i, hi, h, hm => by
    obtain ⟨c1, c2, c3⟩ := cla_b (f := A.1.2) h ok.1 hi
    have hbk := bk_b (f := A.1.2) c2
    unfold rvF
    by_cases h0 : (claF A.1.2 A.1.1 n b w i).1 = 0
    · obtain ⟨_, okn⟩ := c3 h0
      rw [if_neg (fun z => z h0)]
      by_cases g2 : goF A.1.2 A.1.1 (claF A.1.2 A.1.1 n b w i).2.2.2 = 2
      · rw [if_pos g2]
        refine ⟨by show 1 + 8 * bk A.1.2 A.1.1 (claF A.1.2 A.1.1 n b w i).2.2.2 ≤ _; omega, fun z => ?_⟩
        have z : 1 + 8 * bk A.1.2 A.1.1 (claF A.1.2 A.1.1 n b w i).2.2.2 = 0 := z
        omega
      · rw [if_neg g2]
        by_cases g1 : goF A.1.2 A.1.1 (claF A.1.2 A.1.1 n b w i).2.2.2 = 1
        · rw [if_pos g1]
          have hlt : bk A.1.2 A.1.1 (claF A.1.2 A.1.1 n b w i).2.2.2 < A.1.1 := by
            unfold goF at g1
            refine Nat.lt_of_not_le (fun z => ?_)
            rw [if_neg (by omega)] at g1
            omega
          exact rv_le ok m (n + 1) _ _ _ (by omega) okn (fun _ => by omega)
        · rw [if_neg g1]
          exact ⟨Nat.zero_le _, fun _ => ⟨n + 1, by omega, okn⟩⟩
    · rw [if_pos h0]
      exact ⟨c1, fun z => absurd z h0⟩
theorem rv_a {A : AA} {k : Nat} (ok : OkA k A) : (rvA A).1 ≤ 8 * A.1.1 + 5 ∧ ((rvA A).1 = 0 → ∃ n', n' ≠ 0 ∧ OkR n' (rvA A).2.1 (rvA A).2.2) := rv_le ok 41 0 (stB 0) w0A 0 (Nat.zero_le _) OkR_0 (fun z => absurd z (by decide))
theorem g15 {A : AA} {k : Nat} (ok : OkA k A) : CallT (fun n => G15 n) A (rivR A) (rivA A) := by
  intro T G hR
  obtain ⟨e1, e2⟩ := rv_a ok
  have hL := ok.1
  refine ep_succ (fun n => G15e0 n ..) ?_
  simp only [G15b0]
  refine ep_bind (g16 (RC_TH ok hR) hR.1.1) ?_
  rintro ⟨z1, T1⟩ ⟨a1, a2, a3, a4⟩
  have a1 : z1 = nI (rvA A).1 := a1
  have a2 : (rvA A).1 = 0 → CB T1 68 (rvA A).2.1 ∧ CW T1 74 (rvA A).2.2 ∧ ∃ n, n ≠ 0 ∧ OkR n (rvA A).2.1 (rvA A).2.2 := a2
  have a3 : ∀ q, (q < 65 ∨ 84 < q) → T1.1 q = T.1 q ∧ T1.2.1 q = T.2.1 q := a3
  have a4 : T1.2.2 = T.2.2 := a4
  subst a1
  by_cases h0 : (rvA A).1 = 0
  · obtain ⟨cb, cw, n, hn, okr⟩ := a2 h0
    have eA : rivA A = ((0, A.1.2), A.2.1, ((rvA A).2.1, (rvA A).2.2, [], A.2.2.1.2.2.2), A.2.2.2) := if_pos h0
    have eR : rivR A = nI ((rvA A).2.2.1 0 1) := if_pos h0
    rw [h0, eA, eR]
    have c0 : am_if .eq (nI 0) = true := by decide
    simp only [c0, if_true, L0]
    refine ep_bind (g53 (p := 89) (q := 68) (CB_k cb (x_rIn (by decide)) (fun _ _ _ => rfl)) okr.1 (by omega)) ?_
    rintro ⟨_, T2⟩ ⟨b1, b2, b3⟩
    have b1 : CB T2 89 (rvA A).2.1 := b1
    have b2 : ∀ r, (r < 89 ∨ 89 + 5 < r) → T2.1 r = (x_sI T1 65 1 (nI 0)).1 r ∧ T2.2.1 r = T1.2.1 r := b2
    have b3 : T2.2.2 = T1.2.2 := b3
    have cw2 : CW T2 74 (rvA A).2.2 := CW_k cw (((b2 74 (by omega)).1).trans (x_rIn (by decide))) (fun q x y => (b2 q (by omega)).2)
    refine ep_bind (g54 (p := 95) (q := 74) cw2 okr.2.1.1 (by omega)) ?_
    rintro ⟨_, T3⟩ ⟨c1, c2⟩
    have c1 : CW T3 95 (rvA A).2.2 := c1
    have c2 : FrW 95 T2 T3 := c2
    refine ep_bind (R := fun z => z.2 = x_sI (x_sI T3 106 1 (nI 0)) 106 2 (nI 0)) (ep_succ (fun n => G55e0 106 n ..) ?_) ?_
    · simp only [G55b0, Option.bind_some, L0]
      exact ep_ret rfl
    · rintro ⟨_, T4⟩ d
      have d : T4 = x_sI (x_sI T3 106 1 (nI 0)) 106 2 (nI 0) := d
      subst d
      have q1 : ∀ q, q ≠ 106 → (x_sI (x_sI T3 106 1 (nI 0)) 106 2 (nI 0)).1 q = T3.1 q := fun q hq => by rw [x_rIn hq, x_rIn hq]
      have q2 : (x_sI (x_sI T3 106 1 (nI 0)) 106 2 (nI 0)).2 = T3.2 := rfl
      have all1 : ∀ q, (q < 65 ∨ 107 ≤ q ∨ q = 85 ∨ q = 86 ∨ q = 87 ∨ q = 88) → (x_sI (x_sI T3 106 1 (nI 0)) 106 2 (nI 0)).1 q = T.1 q ∧ (x_sI (x_sI T3 106 1 (nI 0)) 106 2 (nI 0)).2.1 q = T.2.1 q := by
        intro q hq
        rw [q1 q (by omega), q2, (c2.1 q (by omega)).1, (c2.1 q (by omega)).2, (b2 q (by omega)).1, (b2 q (by omega)).2, x_rIn (by omega)]
        exact a3 q (by omega)
      have all2 : (x_sI (x_sI T3 106 1 (nI 0)) 106 2 (nI 0)).2.2 = T.2.2 := by
        rw [q2, c2.2, b3, a4]
      obtain ⟨_, ⟨r1, r2⟩, ⟨d1, d2, d3, d4, d5⟩, im, ow⟩ := hR
      refine ep_ret ⟨(q1 95 (by decide) ▸ c1.2.1 : _), ⟨⟨?_, fun i hi => absurd hi (Nat.not_lt_zero _)⟩, ⟨?_, fun r hr => ?_⟩, ⟨?_, ?_, ?_, ?_, ?_⟩, fun j hj => ?_, OwC_of ow (fun q _ => by rw [all2])⟩⟩
      · show (x_sI (x_sI T3 106 1 (nI 0)) 106 2 (nI 0)).1 65 1 = nI 0
        rw [q1 65 (by decide), (c2.1 65 (by omega)).1, (b2 65 (by omega)).1, x_rIe]
      · rw [(all1 64 (by omega)).1]
        exact r1
      · obtain ⟨q, n', s1, s2, s3⟩ := r2 r hr
        exact ⟨q, n', by rw [all2]; exact s1, s2, LC_fr s3 (fun q' _ h' => (all1 (q' + 1) (by omega)).2)⟩
      · refine CB_k b1 ((q1 89 (by decide)).trans (c2.1 89 (by omega)).1) (fun q x y => ?_)
        rw [q2]
        exact (c2.1 q (by omega)).2
      · exact CW_k c1 (q1 95 (by decide)) (fun q x y => by rw [q2])
      · exact ⟨0, by decide, by rw [x_rIi (by decide), x_rIe], by rw [x_rIe]; rfl, fun i w hi => absurd hi (by simp)⟩
      · show (x_sI (x_sI T3 106 1 (nI 0)) 106 2 (nI 0)).1 88 3 = _
        rw [(all1 88 (by omega)).1]
        exact d4
      · show (x_sI (x_sI T3 106 1 (nI 0)) 106 2 (nI 0)).1 88 4 = _
        rw [(all1 88 (by omega)).1]
        exact d5
      · have := im j hj
        show match A.2.2.2 j with
          | none => (x_sI (x_sI T3 106 1 (nI 0)) 106 2 (nI 0)).2.2.2 108 j = none
          | some d => ∃ p, (x_sI (x_sI T3 106 1 (nI 0)) 106 2 (nI 0)).2.2.2 108 j = some p ∧ CD (x_sI (x_sI T3 106 1 (nI 0)) 106 2 (nI 0)) G p d
        cases hd : A.2.2.2 j with
        | none =>
          rw [hd] at this
          show (x_sI (x_sI T3 106 1 (nI 0)) 106 2 (nI 0)).2.2.2 108 j = none
          rw [all2]
          exact this
        | some d =>
          rw [hd] at this
          obtain ⟨p, s1, s2⟩ := this
          have hp := ow.2.1 j p hj s1
          exact ⟨p, by rw [all2]; exact s1, CD_hi s2 (Or.inr ⟨j, hj, s1⟩) hp ow (fun q hq => all1 q (by omega)) (by rw [all2])⟩
  · have eA : rivA A = ((0, A.1.2), A.2) := if_neg h0
    have eR : rivR A = (-2) - nI (rvA A).1 := if_neg h0
    have c0 : am_if .eq (nI (rvA A).1) = false := by
      rw [if_eq (by omega)]
      exact decide_eq_false h0
    rw [eA, eR]
    simp only [c0, Bool.false_eq_true, if_false]
    refine ep_ret ⟨rfl, RC_keep hR rfl ⟨x_rIe, fun i hi => absurd hi (Nat.not_lt_zero _)⟩ ?_ (fun q hq => ⟨?_, ?_⟩) (fun q _ => ?_)⟩
    · show (x_sI T1 65 1 (nI 0)).1 64 4 = T.1 64 4
      rw [x_rIn (by decide), (a3 64 (by omega)).1]
    · show (x_sI T1 65 1 (nI 0)).1 q = T.1 q
      rw [x_rIn (by omega)]
      exact (a3 q (by omega)).1
    · exact (a3 q (by omega)).2
    · show T1.2.2.2 q = T.2.2.2 q
      rw [a4]
