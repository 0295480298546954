/-! fleet: other nets, and what they change -/
def rp (w : AW) (f : Nat → Nat) : AW := (fun r i => if r = 7 then f i else w.1 r i, w.2)
section Rp
variable {w : AW} {f : Nat → Nat} {b : AB} {l : LW}
theorem rp_n {r i : Nat} (h : r ≠ 7) : (rp w f).1 r i = w.1 r i := if_neg h
theorem rp_7 {i : Nat} : (rp w f).1 7 i = f i := by
  show (if (7 : Nat) = 7 then f i else w.1 7 i) = f i
  exact if_pos rfl
theorem rp_aS {r i v : Nat} (h : r ≠ 7) : aS (rp w f) r i v = rp (aS w r i v) f := by
  refine Prod.ext (funext (fun r' => funext (fun i' => ?_))) rfl
  show (if r' = r ∧ i' = i then v else if r' = 7 then f i' else w.1 r' i') = if r' = 7 then f i' else if r' = r ∧ i' = i then v else w.1 r' i'
  by_cases h7 : r' = 7
  · rw [if_neg (fun e => h (e.1.symm.trans h7)), if_pos h7, if_pos h7]
  · rw [if_neg h7, if_neg h7]
theorem rp_leave {s x h : Nat} : leaveA (rp w f) s x h = rp (leaveA w s x h) f := by
  unfold leaveA
  simp (disch := decide) only [rp_n, rp_aS]
theorem rp_move {s c : Nat} : moveA b (rp w f) s c = rp (moveA b w s c) f := by
  unfold moveA
  simp (disch := decide) only [rp_n, rp_aS]
  split <;> rfl
theorem rp_drift {s : Nat} : driftA b s (rp w f) = rp (driftA b s w) f := by
  have e : ∀ c, isShA b (rp w f) c = isShA b w c := fun _ => rfl
  unfold driftA
  simp (disch := decide) only [rp_n, e]
  split
  · rfl
  · split
    · rfl
    · split
      · split
        · exact rp_leave
        · exact rp_move
      · exact rp_aS (by decide)
theorem rp_fold {g : Nat → AW → AW} (h : ∀ i w, g i (rp w f) = rp (g i w) f) : ∀ (m j : Nat) (w : AW), fold g m j (rp w f) = rp (fold g m j w) f
  | 0, _, _ => rfl
  | m + 1, j, w => by
    show fold g m (j + 1) (g j (rp w f)) = rp (fold g m (j + 1) (g j w)) f
    rw [h, rp_fold h m]
theorem rp_ask {a j : Nat} : askA (rp w f) a j = askA w a j := by
  funext k
  unfold askA manyN
  simp (disch := decide) only [rp_n]
theorem rp_can {a j : Nat} : canA l (rp w f) a j = canA l w a j := by
  unfold canA
  rw [rp_ask]
  simp (disch := decide) only [rp_n]
theorem rp_fdB {c a : Nat} : ∀ m j, fdB l (rp w f) c a m j = fdB l w c a m j
  | 0, _ => rfl
  | m + 1, j => by
    unfold fdB
    rw [rp_fdB m (j + 1), rp_can, rp_n (by decide)]
theorem rp_fdA {c : Nat} : ∀ m a, fdA l (rp w f) c m a = fdA l w c m a
  | 0, _ => rfl
  | m + 1, a => by
    unfold fdA
    rw [rp_fdA m (a + 1), rp_fdB, rp_n (by decide)]
theorem rp_join {a j : Nat} : joinA (rp w f) a j = rp (joinA w a j) f := by
  unfold joinA
  simp (disch := decide) only [rp_n, rp_aS, rp_leave]
theorem rp_j1 {c : Nat} : j1A l c (rp w f) = (j1A l c w).map (fun x => rp x f) := by
  unfold j1A
  rw [rp_fdA, rp_n (by decide)]
  cases fdA l w c (w.1 0 1) 0 with
  | none => rfl
  | some p => exact congrArg some rp_join
end Rp
theorem rp_jn {f : Nat → Nat} {l : LW} {c : Nat} : ∀ (k : Nat) (w : AW), jnA l c k (rp w f) = rp (jnA l c k w) f
  | 0, _ => rfl
  | k + 1, w => by
    unfold jnA
    rw [rp_j1]
    cases j1A l c w with
    | none => rfl
    | some x => exact rp_jn k x
theorem rp_catch {w : AW} {f : Nat → Nat} {s : Nat} (h : w.1 1 s ≠ 0 → f (w.1 1 s - 1) = w.1 7 (w.1 1 s - 1)) : catchA s (rp w f) = rp (catchA s w) f := by
  unfold catchA
  rw [rp_n (r := 1) (by decide), rp_n (r := 2) (by decide), rp_7]
  by_cases h0 : w.1 1 s = 0
  · rw [if_neg (fun e => e.1 h0), if_neg (fun e => e.1 h0)]
  · rw [h h0]
    split
    · exact rp_leave
    · rfl
theorem catch_1 {w : AW} {s s' : Nat} : (catchA s w).1 1 s' = w.1 1 s' ∨ (catchA s w).1 1 s' = 0 := by
  unfold catchA
  split
  · by_cases e : s' = s
    · rw [e]
      exact Or.inr leaveA_1
    · exact Or.inl (leaveA_o e)
  · exact Or.inl rfl
theorem catch_7 {w : AW} {s i : Nat} : (catchA s w).1 7 i = w.1 7 i := by
  unfold catchA
  split
  · exact leaveA_r (by omega)
  · rfl
theorem rp_catchs {f : Nat → Nat} {N : Nat} : ∀ (m j : Nat) (w : AW), j + m = N → (∀ s p, s < N → w.1 1 s = p + 1 → f p = w.1 7 p) → fold catchA m j (rp w f) = rp (fold catchA m j w) f
  | 0, _, _, _, _ => rfl
  | m + 1, j, w, hj, h => by
    show fold catchA m (j + 1) (catchA j (rp w f)) = rp (fold catchA m (j + 1) (catchA j w)) f
    rw [rp_catch (fun h0 => h j (w.1 1 j - 1) (by omega) (by omega)), rp_catchs (N := N) m (j + 1) _ (by omega) (fun s p hs hp => ?_)]
    rw [catch_7]
    rcases catch_1 (w := w) (s := j) (s' := s) with e | e
    · exact h s p hs (by rw [← e]; exact hp)
    · omega
/-- who lies where no net is isn't caught -/
theorem catchs_stay {s p : Nat} : ∀ (m j : Nat) (w : AW), w.1 1 s = p + 1 → w.1 7 p = 0 → (fold catchA m j w).1 1 s = p + 1
  | 0, _, _, h, _ => h
  | m + 1, j, w, h, h7 => by
    refine catchs_stay m (j + 1) (catchA j w) ?_ (by rw [catch_7]; exact h7)
    unfold catchA
    by_cases e : j = s
    · subst e
      rw [h, Nat.add_sub_cancel, if_neg (fun e => e.2.1 h7)]
      exact h
    · split
      · rw [leaveA_o (fun z => e z.symm)]
        exact h
      · exact h
section Dy
variable {b : AB} {l : LW}
theorem day_rp {w : AW} {f : Nat → Nat} (hb : OkB b) (ok : OkW b w) (hf : ∀ p, f p ≠ w.1 7 p → w.1 7 p = 0) (he : ∀ s p, s < w.1 0 1 → (dayA b l w).1 1 s = p + 1 → f p = w.1 7 p) : dayA b l (rp w f) = rp (dayA b l w) f := by
  unfold dayA at *
  have e1 : driftsA b (rp w f) = rp (driftsA b w) f := by
    unfold driftsA
    rw [rp_n (by decide)]
    exact rp_fold (fun i w => rp_drift) _ _ _
  have e2 : joinsA b l (rp (driftsA b w) f) = rp (joinsA b l (driftsA b w)) f := rp_fold (fun i w => rp_jn 13 w) _ _ _
  have st := St_tr (driftsA_St hb ok) (joinsA_St (b := b) (l := l) (w := driftsA b w))
  obtain ⟨w1, hw1⟩ : ∃ w1, w1 = joinsA b l (driftsA b w) := ⟨_, rfl⟩
  rw [← hw1] at st he e2
  have n1 : w1.1 0 1 = w.1 0 1 := st.1.2.1 1
  have s7 : ∀ i, w1.1 7 i = w.1 7 i := st.1.2.2.1
  have e3 : catchesA (rp w1 f) = rp (catchesA w1) f := by
    unfold catchesA
    rw [rp_n (by decide)]
    refine rp_catchs (N := w1.1 0 1) _ 0 w1 (by omega) (fun s p hs hp => ?_)
    rw [s7]
    by_cases hd : f p = w.1 7 p
    · exact hd
    · have h0 := hf p hd
      refine he s p (by omega) ?_
      show (morrowA (catchesA w1)).1 1 s = _
      unfold morrowA
      rw [aS_n (by decide)]
      exact catchs_stay _ 0 w1 hp (by rw [s7]; exact h0)
  rw [e1, e2, e3, ← hw1]
  unfold morrowA
  rw [rp_n (by decide), rp_aS (by decide)]
theorem dys_7 (hb : OkB b) : ∀ (m : Nat) (w : AW) (i : Nat), OkW b w → (dysA b l m w).1 7 i = w.1 7 i
  | 0, _, _, _ => rfl
  | m + 1, w, i, ok => (dys_7 hb m (dayA b l w) i (dayA_Ok hb ok)).trans (dayA_7 hb ok i)
theorem dys_rp {f : Nat → Nat} (hb : OkB b) : ∀ (j : Nat) (w : AW), OkW b w → (∀ p, f p ≠ w.1 7 p → w.1 7 p = 0) → (∀ i s p, 1 ≤ i → i ≤ j → s < w.1 0 1 → (dysA b l i w).1 1 s = p + 1 → f p = w.1 7 p) → dysA b l j (rp w f) = rp (dysA b l j w) f
  | 0, _, _, _, _ => rfl
  | j + 1, w, ok, hf, he => by
    show dysA b l j (dayA b l (rp w f)) = rp (dysA b l j (dayA b l w)) f
    rw [day_rp hb ok hf (fun s p hs hp => he 1 s p (Nat.le_refl _) (by omega) hs hp)]
    refine dys_rp hb j (dayA b l w) (dayA_Ok hb ok) (fun p hp => ?_) (fun i s p h1 h2 hs hp => ?_)
    · rw [dayA_7 hb ok] at hp ⊢
      exact hf p hp
    · rw [dayA_7 hb ok]
      rw [dayA_n hb ok] at hs
      exact he (i + 1) s p (by omega) (by omega) hs hp
/-- what became of a scrap at last -/
def ltF (w : AW) : Nat → Nat → Nat
  | 0, s => w.1 4 s
  | m + 1, s => if w.1 4 s = 3 then ltF w m (w.1 5 s - 1) else w.1 4 s
theorem lt_rp {w : AW} {f : Nat → Nat} : ∀ m s, ltF (rp w f) m s = ltF w m s
  | 0, s => rp_n (by decide)
  | m + 1, s => by
    unfold ltF
    rw [rp_n (by decide), rp_n (by decide), lt_rp m]
theorem lt_le {w : AW} (ok : OkW b w) : ∀ m s, s ≤ m → s < w.1 0 1 → ltF w m s ≤ 2
  | 0, s, h, hn => by
    have h1 := ok.2.1 s hn
    have h2 := h1.2.1
    have h3 := h1.2.2.2.2.2.1
    show w.1 4 s ≤ 2
    omega
  | m + 1, s, h, hn => by
    have h1 := ok.2.1 s hn
    have h2 := h1.2.1
    have h3 := h1.2.2.2.2.2.1
    unfold ltF
    by_cases e : w.1 4 s = 3
    · rw [if_pos e]
      have := h3 e
      exact lt_le ok m _ (by omega) (by omega)
    · rw [if_neg e]
      omega
theorem lt_day {w : AW} (hb : OkB b) (ok : OkW b w) : ∀ m s, s ≤ m → s < w.1 0 1 → ltF w m s ≠ 0 → ltF (dayA b l w) m s = ltF w m s
  | 0, s, h, hn, h0 => by
    have h1 := ok.2.1 s hn
    exact dayA_off hb ok (h1.2.2.1.mpr h0) (by decide) (by decide)
  | m + 1, s, h, hn, h0 => by
    have h1 := ok.2.1 s hn
    have h3 := h1.2.2.2.2.2.1
    unfold ltF at h0 ⊢
    by_cases e : w.1 4 s = 3
    · have h4 : w.1 1 s = 0 := h1.2.2.1.mpr (by omega)
      rw [if_pos e] at h0 ⊢
      have := h3 e
      rw [dayA_off hb ok h4 (by decide) (by decide), dayA_off hb ok h4 (by decide) (by decide), if_pos e]
      exact lt_day hb ok m _ (by omega) (by omega) h0
    · rw [if_neg e] at h0 ⊢
      have h4 : w.1 1 s = 0 := h1.2.2.1.mpr h0
      rw [dayA_off hb ok h4 (by decide) (by decide), if_neg e]
theorem lt_dys (hb : OkB b) {s : Nat} (hs : s ≤ 13) : ∀ (j : Nat) (w : AW), OkW b w → s < w.1 0 1 → ltF w 13 s ≠ 0 → ltF (dysA b l j w) 13 s = ltF w 13 s
  | 0, _, _, _, _ => rfl
  | j + 1, w, ok, hn, h0 => by
    have e := lt_day (l := l) hb ok 13 s hs hn h0
    exact (lt_dys hb hs j (dayA b l w) (dayA_Ok hb ok) (by rw [dayA_n hb ok]; exact hn) (by rw [e]; exact h0)).trans e
def gtB (w : AW) (W : Nat) : Bool := alF (fun s => !W.testBit s || decide (ltF w 13 s = 2)) (w.1 0 1) 0
theorem gt_is {w : AW} {W : Nat} : gtB w W = true ↔ ∀ s, s < w.1 0 1 → W.testBit s = true → ltF w 13 s = 2 := by
  unfold gtB
  rw [al_is]
  refine ⟨fun h s hs hw => ?_, fun h s _ hs => ?_⟩
  · have := h s (Nat.zero_le _) (by omega)
    rw [hw] at this
    simpa using this
  · by_cases hw : W.testBit s = true
    · rw [hw, decide_eq_true (h s (by omega) hw)]
      rfl
    · rw [Bool.eq_false_iff.mpr hw]
      rfl
def nwA (w : AW) (m : Nat) : AW := rp w (fun i => if m.testBit i = true then 1 else w.1 7 i)
theorem nw_Ok {w : AW} {m : Nat} (ok : OkW b w) (hm : ∀ i, m.testBit i = true → i < b 0 0) : OkW b (nwA w m) := by
  refine ⟨?_, fun s hs => ?_, fun i hi => ?_, fun k h1 h2 => ?_⟩
  · exact ok.1
  · exact OkS_of (ok.2.1 s hs) (fun r h1 h5 => rp_n (by omega))
  · unfold nwA
    rw [rp_7]
    by_cases h : m.testBit i = true
    · rw [if_pos h]
      exact ⟨by decide, fun _ => hm i h⟩
    · rw [if_neg h]
      exact ok.2.2.1 i hi
  · exact ok.2.2.2 k h1 h2
def gets (b : AB) (l : LW) (w : AW) (W m : Nat) : Bool := gtB (dysA b l 60 (nwA w m)) W
/-- r tells where scraps rested with nets m, as far as it matters -/
def Gd (b : AB) (l : LW) (w : AW) (W m r : Nat) : Prop := ∃ D, D ≤ 60 ∧ (D = 60 ∨ ∃ s, s < w.1 0 1 ∧ W.testBit s = true ∧ ltF (dysA b l D (nwA w m)) 13 s = 1) ∧ ∀ c, c < 16 → r.testBit c = false → ∀ j s, 1 ≤ j → j ≤ D → s < w.1 0 1 → (dysA b l j (nwA w m)).1 1 s ≠ c + 1
theorem gd_step {w : AW} {W m r c : Nat} (hb : OkB b) (ok : OkW b w) (hm : ∀ i, m.testBit i = true → i < b 0 0) (hc : c < 16) (hcb : c < b 0 0) (h7 : w.1 7 c = 0) (hmc : m.testBit c = false) (hr : r.testBit c = false) (hg : gets b l w W m = false) (g : Gd b l w W m r) : gets b l w W (m ||| 2 ^ c) = false ∧ Gd b l w W (m ||| 2 ^ c) r := by
  obtain ⟨D, hD, h1, h2⟩ := g
  have ok1 := nw_Ok (w := w) ok hm
  have e0 : nwA w (m ||| 2 ^ c) = rp (nwA w m) (fun i => if (m ||| 2 ^ c).testBit i = true then 1 else w.1 7 i) := by
    refine Prod.ext (funext (fun r' => funext (fun i' => ?_))) rfl
    unfold nwA rp
    show (if r' = 7 then _ else _) = if r' = 7 then _ else _
    by_cases e : r' = 7
    · rw [if_pos e, if_pos e]
    · rw [if_neg e, if_neg e]
      show _ = if r' = 7 then _ else w.1 r' i'
      rw [if_neg e]
  have same : ∀ p, p ≠ c → (if (m ||| 2 ^ c).testBit p = true then 1 else w.1 7 p) = (nwA w m).1 7 p := by
    intro p hp
    unfold nwA
    rw [rp_7, Nat.testBit_or, Nat.testBit_two_pow, decide_eq_false (fun e => hp e.symm), Bool.or_false]
  have zero : (nwA w m).1 7 c = 0 := by
    unfold nwA
    rw [rp_7, if_neg (by rw [hmc]; decide)]
    exact h7
  have ej : ∀ j, j ≤ D → dysA b l j (nwA w (m ||| 2 ^ c)) = rp (dysA b l j (nwA w m)) (fun i => if (m ||| 2 ^ c).testBit i = true then 1 else w.1 7 i) := by
    intro j hj
    rw [e0]
    refine dys_rp hb j (nwA w m) ok1 (fun p hp => ?_) (fun i s p a1 a2 hs hp => ?_)
    · by_cases e : p = c
      · rw [e]
        exact zero
      · exact absurd (same p e) hp
    · by_cases e : p = c
      · rw [e] at hp
        exact absurd hp (h2 c hc hr i s a1 (by omega) hs)
      · exact same p e
  refine ⟨?_, D, hD, ?_, fun c' hc' hr' j s a1 a2 hs => ?_⟩
  · refine Bool.eq_false_iff.mpr (fun ht => ?_)
    unfold gets at ht hg
    rw [gt_is] at ht
    rcases h1 with rfl | ⟨s, hs, hW, hl⟩
    · rw [ej 60 (Nat.le_refl _)] at ht
      refine absurd (gt_is.mpr (fun s hs hW => ?_)) (Bool.eq_false_iff.mp hg)
      have := ht s hs hW
      rw [lt_rp] at this
      exact this
    · have ok2 := nw_Ok (w := w) (m := m ||| 2 ^ c) (b := b) ok
      have hok := dys_Ok (l := l) hb D _ ok1
      have hl' : ltF (dysA b l D (nwA w (m ||| 2 ^ c))) 13 s = 1 := by
        rw [ej D (Nat.le_refl _), lt_rp]
        exact hl
      have ok3 : OkW b (nwA w (m ||| 2 ^ c)) := ok2 (fun i hi => by
        rw [Nat.testBit_or, Nat.testBit_two_pow] at hi
        by_cases e : c = i
        · rw [← e]
          exact hcb
        · rw [decide_eq_false e, Bool.or_false] at hi
          exact hm i hi)
      have hok3 := dys_Ok (l := l) hb D _ ok3
      have hn3 : (dysA b l D (nwA w (m ||| 2 ^ c))).1 0 1 = w.1 0 1 := hok3.2.1
      have h13 := ok.1
      have hfin := lt_dys (l := l) hb (s := s) (by omega) (60 - D) _ hok3.1 (by omega) (by omega)
      rw [← dys_add, show D + (60 - D) = 60 by omega, hl'] at hfin
      have hok60 := dys_Ok (l := l) hb 60 _ ok3
      have := ht s (by rw [hok60.2.1]; exact hs) hW
      omega
  · rcases h1 with h | ⟨s, hs, hW, hl⟩
    · exact Or.inl h
    · exact Or.inr ⟨s, hs, hW, by rw [ej D (Nat.le_refl _), lt_rp]; exact hl⟩
  · rw [ej j a2, rp_n (by decide)]
    exact h2 c' hc' hr' j s a1 a2 hs
end Dy
