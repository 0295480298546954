/-! rivers told: as the document says it, and in the program -/
def rvW : List (List Nat) := [[114, 105, 118, 101, 114], [102, 108, 111, 119], [109, 111, 117, 116, 104], [101, 100, 100, 121], [109, 105, 108, 108], [100, 97, 109], [110, 101, 116], [115, 99, 114, 97, 112]]
def stB (N : Nat) : AB := fun r i => if r = 0 then (if i = 0 then N else 0) else if r = 1 then (if i + 1 < N then i + 2 else 0) else 0
def bS (b : AB) (r i v : Nat) : AB := fun r' i' => if r' = r ∧ i' = i then v else b r' i'
theorem bS_e {b : AB} {r i v : Nat} : bS b r i v r i = v := if_pos ⟨rfl, rfl⟩
theorem bS_n {b : AB} {r i v r' i' : Nat} (h : r' ≠ r) : bS b r i v r' i' = b r' i' := if_neg (fun e => h e.1)
theorem bS_i {b : AB} {r i v i' : Nat} (h : i' ≠ i) : bS b r i v r i' = b r i' := if_neg (fun e => h e.2)
def tlB (k c v : Nat) (b : AB) : AB := if k = 1 then bS b 1 c (v + 1) else if k = 2 then bS b 1 c 0 else if k = 3 then bS b 2 c v else if k = 4 then bS (bS (bS b 3 c (b 0 1 + 1)) 5 (b 0 1) v) 0 1 (b 0 1 + 1) else if k = 5 then bS (bS b 4 c (b 0 2 + 1)) 0 2 (b 0 2 + 1) else b
def tlW (k c v : Nat) (w : AW) : AW := if k = 6 then aS w 7 c v else if k = 7 then addA w c v 0 else w
def netsN (w : AW) : Nat := ctF (fun c => !decide (w.1 7 c = 0)) 16 0
def takB (b : AB) (w : AW) (k c : Nat) : Bool := if k = 4 then !decide (b 3 c = 0) else if k = 5 then !decide (b 4 c = 0) else if k = 6 then !decide (w.1 7 c = 0) else false
def fulB (b : AB) (w : AW) (k : Nat) : Bool := if k = 4 then decide (6 ≤ b 0 1) else if k = 5 then decide (4 ≤ b 0 2) else if k = 6 then decide (5 ≤ netsN w) else if k = 7 then decide (10 ≤ w.1 0 1) else false
def secF (f : Nat → Nat) (L : Nat) (b : AB) (k p : Nat) : Nat × Nat × Nat := if k = 1 then amF f L p 0 (b 0 0) else if k = 3 then amF f L p 1 10 else if k = 4 then leF2 f L p 1 else if k = 6 then amF f L p 1 9 else if k = 7 then leF2 f L p 8 else (0, 0, p)
/-- a clause of a cell: the fault, bed, water, place -/
def celF (f : Nat → Nat) (L k : Nat) (b : AB) (w : AW) (i : Nat) : Nat × AB × AW × Nat := if (amF f L i 0 (b 0 0)).1 ≠ 0 then ((amF f L i 0 (b 0 0)).1, b, w, (amF f L i 0 (b 0 0)).2.2) else if takB b w k (amF f L i 0 (b 0 0)).2.1 = true then (2 + 8 * bk f L i, b, w, (amF f L i 0 (b 0 0)).2.2) else if (secF f L b k (amF f L i 0 (b 0 0)).2.2).1 ≠ 0 then ((secF f L b k (amF f L i 0 (b 0 0)).2.2).1, b, w, (secF f L b k (amF f L i 0 (b 0 0)).2.2).2.2) else if k = 1 ∧ (secF f L b k (amF f L i 0 (b 0 0)).2.2).2.1 = (amF f L i 0 (b 0 0)).2.1 then (2 + 8 * bk f L (amF f L i 0 (b 0 0)).2.2, b, w, (secF f L b k (amF f L i 0 (b 0 0)).2.2).2.2) else (0, tlB k (amF f L i 0 (b 0 0)).2.1 (secF f L b k (amF f L i 0 (b 0 0)).2.2).2.1 b, tlW k (amF f L i 0 (b 0 0)).2.1 (secF f L b k (amF f L i 0 (b 0 0)).2.2).2.1 w, (secF f L b k (amF f L i 0 (b 0 0)).2.2).2.2)
def parF (f : Nat → Nat) (L k : Nat) (b : AB) (w : AW) (i : Nat) : Nat × AB × AW × Nat := if k = 0 then (if (amF f L i 2 17).1 ≠ 0 then ((amF f L i 2 17).1, b, w, (amF f L i 2 17).2.2) else (0, stB (amF f L i 2 17).2.1, w, (amF f L i 2 17).2.2)) else celF f L k b w i
def claF (f : Nat → Nat) (L n : Nat) (b : AB) (w : AW) (i : Nat) : Nat × AB × AW × Nat := match wiF f L (bk f L i) rvW 0 with
  | none => (1 + 8 * bk f L i, b, w, bk f L i)
  | some r => if 40 ≤ n ∨ ¬ (n = 0 ↔ r.1 = 0) ∨ fulB b w r.1 = true then (5 + 8 * bk f L i, b, w, bk f L i) else parF f L r.1 b w (bk f L i + r.2)
/-- all clauses -/
def rvF (f : Nat → Nat) (L : Nat) : Nat → Nat → AB → AW → Nat → Nat × AB × AW
  | 0, _, b, w, _ => (0, b, w)
  | m + 1, n, b, w, i => if (claF f L n b w i).1 ≠ 0 then ((claF f L n b w i).1, b, w) else if goF f L (claF f L n b w i).2.2.2 = 2 then (1 + 8 * bk f L (claF f L n b w i).2.2.2, b, w) else if goF f L (claF f L n b w i).2.2.2 = 1 then rvF f L m (n + 1) (claF f L n b w i).2.1 (claF f L n b w i).2.2.1 (bk f L (claF f L n b w i).2.2.2 + 1) else (0, (claF f L n b w i).2.1, (claF f L n b w i).2.2.1)
/-- well told so far: at clause n -/
def OkR (n : Nat) (b : AB) (w : AW) : Prop := OkB b ∧ OkW b w ∧ w.1 0 0 = 0 ∧ w.1 0 1 ≤ 10 ∧ w.2 = nI 0 ∧ netsN w ≤ 5 ∧ (∀ k, k < 6 → w.1 8 k = 0) ∧ (∀ s, s < w.1 0 1 → w.1 3 s = 0 ∧ w.1 4 s = 0 ∧ w.1 5 s = 0 ∧ w.1 6 s = 0 ∧ w.1 1 s ≠ 0) ∧ (n ≠ 0 → 2 ≤ b 0 0) ∧ (n = 0 → b 0 1 = 0 ∧ b 0 2 = 0 ∧ w.1 0 1 = 0 ∧ ∀ i, w.1 7 i = 0)
theorem k8 {k : Nat} (h : k ≤ 7) : k = 0 ∨ k = 1 ∨ k = 2 ∨ k = 3 ∨ k = 4 ∨ k = 5 ∨ k = 6 ∨ k = 7 := by omega
theorem stB_Ok {N : Nat} (h : N ≤ 16) : OkB (stB N) := by
  refine ⟨h, Nat.zero_le _, Nat.zero_le _, fun i hi => ⟨?_, Nat.zero_le _, Nat.zero_le _, Nat.zero_le _⟩, fun k hk => absurd hk (Nat.not_lt_zero _)⟩
  show (if i + 1 < N then i + 2 else 0) ≤ N
  split <;> omega
theorem wi_b {f : Nat → Nat} {L i : Nat} {r : Nat × Nat} : ∀ (ws : List (List Nat)) (k : Nat), wiF f L i ws k = some r → k ≤ r.1 ∧ r.1 < k + ws.length ∧ i + r.2 ≤ L
  | [], k, h => by
    unfold wiF at h
    exact absurd h (by simp)
  | w :: ws, k, h => by
    unfold wiF at h
    by_cases hm : wmB f L i w = true
    · rw [if_pos hm] at h
      have h := Option.some.inj h
      rw [← h]
      unfold wmB at hm
      rw [Bool.and_eq_true] at hm
      have := of_decide_eq_true hm.1
      exact ⟨Nat.le_refl _, by show k < k + (ws.length + 1); omega, this⟩
    · rw [if_neg hm] at h
      obtain ⟨a, b, c⟩ := wi_b ws (k + 1) h
      exact ⟨by omega, by show r.1 < k + (ws.length + 1); omega, c⟩
theorem tlB_Ok {k c v : Nat} {b : AB} (hb : OkB b) (hc : c < b 0 0) (hk : k ≤ 7) (h1 : k = 1 → v < b 0 0) (h3 : k = 3 → v ≤ 9) (h4 : k = 4 → b 0 1 < 6 ∧ 1 ≤ v ∧ v ≤ 6) (h5 : k = 5 → b 0 2 < 4) : OkB (tlB k c v b) ∧ tlB k c v b 0 0 = b 0 0 := by
  obtain ⟨a1, a2, a3, a4, a5⟩ := hb
  rcases k8 hk with rfl | rfl | rfl | rfl | rfl | rfl | rfl | rfl
  · exact ⟨⟨a1, a2, a3, a4, a5⟩, rfl⟩
  · have hv := h1 rfl
    show OkB (bS b 1 c (v + 1)) ∧ bS b 1 c (v + 1) 0 0 = b 0 0
    refine ⟨⟨a1, a2, a3, fun i hi => ?_, a5⟩, rfl⟩
    have hi : i < b 0 0 := hi
    obtain ⟨q1, q2, q3, q4⟩ := a4 i hi
    refine ⟨?_, q2, q3, q4⟩
    show bS b 1 c (v + 1) 1 i ≤ b 0 0
    by_cases e : i = c
    · rw [e, bS_e]
      omega
    · rw [bS_i e]
      exact q1
  · show OkB (bS b 1 c 0) ∧ bS b 1 c 0 0 0 = b 0 0
    refine ⟨⟨a1, a2, a3, fun i hi => ?_, a5⟩, rfl⟩
    have hi : i < b 0 0 := hi
    obtain ⟨q1, q2, q3, q4⟩ := a4 i hi
    refine ⟨?_, q2, q3, q4⟩
    show bS b 1 c 0 1 i ≤ b 0 0
    by_cases e : i = c
    · rw [e, bS_e]
      omega
    · rw [bS_i e]
      exact q1
  · have hv := h3 rfl
    show OkB (bS b 2 c v) ∧ bS b 2 c v 0 0 = b 0 0
    refine ⟨⟨a1, a2, a3, fun i hi => ?_, a5⟩, rfl⟩
    have hi : i < b 0 0 := hi
    obtain ⟨q1, q2, q3, q4⟩ := a4 i hi
    refine ⟨q1, ?_, q3, q4⟩
    show bS b 2 c v 2 i ≤ 9
    by_cases e : i = c
    · rw [e, bS_e]
      exact hv
    · rw [bS_i e]
      exact q2
  · obtain ⟨hv0, hv1, hv2⟩ := h4 rfl
    show OkB (bS (bS (bS b 3 c (b 0 1 + 1)) 5 (b 0 1) v) 0 1 (b 0 1 + 1)) ∧ bS (bS (bS b 3 c (b 0 1 + 1)) 5 (b 0 1) v) 0 1 (b 0 1 + 1) 0 0 = b 0 0
    refine ⟨⟨a1, ?_, a3, fun i hi => ?_, fun k hk => ?_⟩, rfl⟩
    · show b 0 1 + 1 ≤ 6
      omega
    · have hi : i < b 0 0 := hi
      obtain ⟨q1, q2, q3, q4⟩ := a4 i hi
      refine ⟨q1, q2, ?_, q4⟩
      show bS b 3 c (b 0 1 + 1) 3 i ≤ b 0 1 + 1
      by_cases e : i = c
      · rw [e, bS_e]
        omega
      · rw [bS_i e]
        omega
    · have hk : k < b 0 1 + 1 := hk
      show 1 ≤ bS (bS b 3 c (b 0 1 + 1)) 5 (b 0 1) v 5 k ∧ bS (bS b 3 c (b 0 1 + 1)) 5 (b 0 1) v 5 k ≤ 6
      by_cases e : k = b 0 1
      · rw [e, bS_e]
        exact ⟨hv1, hv2⟩
      · rw [bS_i e]
        exact a5 k (by omega)
  · have hv := h5 rfl
    show OkB (bS (bS b 4 c (b 0 2 + 1)) 0 2 (b 0 2 + 1)) ∧ bS (bS b 4 c (b 0 2 + 1)) 0 2 (b 0 2 + 1) 0 0 = b 0 0
    refine ⟨⟨a1, a2, ?_, fun i hi => ?_, a5⟩, rfl⟩
    · show b 0 2 + 1 ≤ 4
      omega
    · have hi : i < b 0 0 := hi
      obtain ⟨q1, q2, q3, q4⟩ := a4 i hi
      refine ⟨q1, q2, q3, ?_⟩
      show bS b 4 c (b 0 2 + 1) 4 i ≤ b 0 2 + 1
      by_cases e : i = c
      · rw [e, bS_e]
        omega
      · rw [bS_i e]
        omega
  · exact ⟨⟨a1, a2, a3, a4, a5⟩, rfl⟩
  · exact ⟨⟨a1, a2, a3, a4, a5⟩, rfl⟩
theorem OkW_b {b b' : AB} {w : AW} (ok : OkW b w) (h0 : b' 0 0 = b 0 0) (h8 : ∀ k, k < 6 → w.1 8 k = 0) : OkW b' w := by
  obtain ⟨a1, a2, a3, a4⟩ := ok
  refine ⟨a1, fun s hs => ?_, fun i hi => ?_, fun k hk _ => h8 k hk⟩
  · obtain ⟨q1, q2, q3, q4, q5, q6, q7⟩ := a2 s hs
    exact ⟨q1, q2, q3, by rw [h0]; exact q4, q5, q6, q7⟩
  · rw [h0]
    exact a3 i hi
theorem tlW_Ok {k c v : Nat} {b : AB} {w : AW} {n : Nat} (h : OkR n b w) (hc : c < b 0 0) (hb16 : b 0 0 ≤ 16) (hk : k ≤ 7) (h6 : k = 6 → netsN w < 5 ∧ w.1 7 c = 0 ∧ 1 ≤ v ∧ v ≤ 8) (h7 : k = 7 → w.1 0 1 < 10 ∧ isTx v = true) : OkW b (tlW k c v w) ∧ (tlW k c v w).1 0 0 = 0 ∧ (tlW k c v w).1 0 1 ≤ 10 ∧ (tlW k c v w).2 = nI 0 ∧ netsN (tlW k c v w) ≤ 5 ∧ (∀ k', k' < 6 → (tlW k c v w).1 8 k' = 0) ∧ (∀ s, s < (tlW k c v w).1 0 1 → (tlW k c v w).1 3 s = 0 ∧ (tlW k c v w).1 4 s = 0 ∧ (tlW k c v w).1 5 s = 0 ∧ (tlW k c v w).1 6 s = 0 ∧ (tlW k c v w).1 1 s ≠ 0) := by
  obtain ⟨hb, ok, d0, n10, sh, n5, p0, fr, _, _⟩ := h
  by_cases e6 : k = 6
  · obtain ⟨x1, x2, x3, x4⟩ := h6 e6
    have et : tlW k c v w = aS w 7 c v := if_pos e6
    rw [et]
    refine ⟨⟨ok.1, fun s hs => OkS_of (ok.2.1 s hs) (fun r _ _ => aS_n (by omega)), fun i hi => ?_, fun k' hk' h2 => ok.2.2.2 k' hk' h2⟩, d0, n10, sh, ?_, p0, fr⟩
    · by_cases ei : i = c
      · rw [ei, aS_e]
        exact ⟨x4, fun _ => hc⟩
      · rw [aS_i ei]
        exact ok.2.2.1 i hi
    · unfold netsN at x1 ⊢
      rw [ctF_up (P := fun c' => !decide (w.1 7 c' = 0)) (s := c) 16 0 (Nat.zero_le _) (by omega) (fun i hi => by rw [aS_i hi]) (by rw [x2]; rfl) (by rw [aS_e, decide_eq_false (by omega)]; rfl)]
      omega
  · by_cases e7 : k = 7
    · obtain ⟨x1, x2⟩ := h7 e7
      have et : tlW k c v w = addA w c v 0 := (if_neg e6).trans (if_pos e7)
      rw [et]
      refine ⟨addA_Ok ok (by omega) x2 hc (by decide), ?_, ?_, sh, ?_, ?_, fun s hs => ?_⟩
      · rw [addA_d]
        exact d0
      · rw [addA_n]
        omega
      · unfold netsN at n5 ⊢
        exact n5
      · exact p0
      · rw [addA_n] at hs
        by_cases es : s = w.1 0 1
        · subst es
          have q := addA_1 (w := w) (c := c) (t := v) (d := 0)
          refine ⟨q.2.2.1, q.2.2.2.1, q.2.2.2.2.1, q.2.2.2.2.2, ?_⟩
          rw [q.1]
          omega
        · rw [addA_o (by decide) es, addA_o (by decide) es, addA_o (by decide) es, addA_o (by decide) es, addA_o (by decide) es]
          exact fr s (by omega)
    · have et : tlW k c v w = w := (if_neg e6).trans (if_neg e7)
      rw [et]
      exact ⟨ok, d0, n10, sh, n5, p0, fr⟩
