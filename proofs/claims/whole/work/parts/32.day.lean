/-! a day, as the document tells it -/
abbrev LW : Type := Option ((Nat → Int64) → Bool)
def shutB (x : Int32) (d : Nat) : Bool := decide ((x >>> (nI d &&& nI 31)) &&& nI 1 = nI 1)
def isShA (b : AB) (w : AW) (c : Nat) : Bool := !decide (b 4 c = 0) && shutB w.2 (b 4 c - 1)
def leaveA (w : AW) (s f h : Nat) : AW := aS (aS (aS (aS (aS w 1 s 0) 3 s 0) 4 s f) 5 s h) 6 s (w.1 0 0 + 1)
def moveA (b : AB) (w : AW) (s c : Nat) : AW := if b 3 c ≠ 0 ∧ lenN (w.1 2 s) < 8 then aS (aS (aS (aS w 1 s (c + 1)) 3 s (b 2 c)) 2 s (w.1 2 s * 10 + b 5 (b 3 c - 1))) 8 (b 3 c - 1) (w.1 8 (b 3 c - 1) + 1) else aS (aS w 1 s (c + 1)) 3 s (b 2 c)
def driftA (b : AB) (s : Nat) (w : AW) : AW := if w.1 1 s = 0 then w else if isShA b w (w.1 1 s - 1) = true then w else if w.1 3 s = 0 then (if b 1 (w.1 1 s - 1) = 0 then leaveA w s 1 0 else moveA b w s (b 1 (w.1 1 s - 1) - 1)) else aS w 3 s (w.1 3 s - 1)
def manyN (w : AW) (c : Nat) : Nat := ctF (fun s => decide (w.1 1 s = c + 1)) (w.1 0 1) 0
def samN (a t : Nat) : Nat := ctF (fun i => bt (letN 0 a) i && bt (letN 0 t) i) 16 0
def askA (w : AW) (a j k : Nat) : Int64 := if k = 0 then lN (lenN (w.1 2 a)) else if k = 1 then lN (lenN (w.1 2 j)) else if k = 2 then lN (w.1 2 a % 10) else if k = 3 then lN (fstN (w.1 2 j)) else if k = 4 then lN (samN (w.1 2 a) (w.1 2 j)) else if k = 5 then lN (w.1 1 a - 1) else if k = 6 then lN (w.1 0 0) else if k = 7 then lN a else if k = 8 then lN j else if k = 9 then lN (manyN w (w.1 1 a - 1)) else lN (w.1 3 a)
def canA (l : LW) (w : AW) (a j : Nat) : Bool := decide (lenN (w.1 2 a) + lenN (w.1 2 j) ≤ 8) && l.elim (decide (w.1 2 a % 10 = fstN (w.1 2 j))) (fun f => f (askA w a j))
def joinA (w : AW) (a j : Nat) : AW := leaveA (aS w 2 a (w.1 2 a * 10 ^ lenN (w.1 2 j) + w.1 2 j)) j 3 (a + 1)
def fdB (l : LW) (w : AW) (c a : Nat) : Nat → Nat → Option Nat
  | 0, _ => none
  | m + 1, j => if w.1 1 j = c + 1 ∧ canA l w a j = true then some j else fdB l w c a m (j + 1)
def fdA (l : LW) (w : AW) (c : Nat) : Nat → Nat → Option (Nat × Nat)
  | 0, _ => none
  | m + 1, a => if w.1 1 a = c + 1 then (fdB l w c a m (a + 1)).elim (fdA l w c m (a + 1)) (fun j => some (a, j)) else fdA l w c m (a + 1)
def j1A (l : LW) (c : Nat) (w : AW) : Option AW := (fdA l w c (w.1 0 1) 0).map (fun p => joinA w p.1 p.2)
def jnA (l : LW) (c : Nat) : Nat → AW → AW
  | 0, w => w
  | k + 1, w => (j1A l c w).elim w (jnA l c k)
def catchA (s : Nat) (w : AW) : AW := if w.1 1 s ≠ 0 ∧ w.1 7 (w.1 1 s - 1) ≠ 0 ∧ w.1 7 (w.1 1 s - 1) ≤ lenN (w.1 2 s) then leaveA w s 2 (w.1 1 s) else w
def driftsA (b : AB) (w : AW) : AW := fold (driftA b) (w.1 0 1) 0 w
def joinsA (b : AB) (l : LW) (w : AW) : AW := fold (fun c => jnA l c 13) (b 0 0) 0 w
def catchesA (w : AW) : AW := fold catchA (w.1 0 1) 0 w
def morrowA (w : AW) : AW := aS w 0 0 (w.1 0 0 + 1)
def dayA (b : AB) (l : LW) (w : AW) : AW := morrowA (catchesA (joinsA b l (driftsA b w)))
theorem fold_inv {α : Type} {I : α → Prop} {f : Nat → α → α} : ∀ (m j : Nat) (x : α), (∀ i y, j ≤ i → i < j + m → I y → I (f i y)) → I x → I (fold f m j x)
  | 0, _, _, _, hx => hx
  | m + 1, j, x, h, hx => fold_inv m (j + 1) (f j x) (fun i y h1 h2 => h i y (by omega) (by omega)) (h j x (Nat.le_refl _) (by omega) hx)
theorem leaveA_o {w : AW} {s f h r s' : Nat} (hs : s' ≠ s) : (leaveA w s f h).1 r s' = w.1 r s' := by
  unfold leaveA
  simp only [aS_r, hs, and_false, if_false]
theorem leaveA_r {w : AW} {s f h r i : Nat} (hr : r = 0 ∨ r = 2 ∨ 7 ≤ r) : (leaveA w s f h).1 r i = w.1 r i := by
  unfold leaveA
  rw [aS_n (by omega), aS_n (by omega), aS_n (by omega), aS_n (by omega), aS_n (by omega)]
theorem leaveA_2 {w : AW} {s f h : Nat} : (leaveA w s f h).2 = w.2 := rfl
theorem leaveA_1 {w : AW} {s f h : Nat} : (leaveA w s f h).1 1 s = 0 := by
  unfold leaveA
  rw [aS_n (by omega), aS_n (by omega), aS_n (by omega), aS_n (by omega), aS_e]
theorem leaveA_3 {w : AW} {s f h : Nat} : (leaveA w s f h).1 3 s = 0 := by
  unfold leaveA
  rw [aS_n (by omega), aS_n (by omega), aS_n (by omega), aS_e]
theorem leaveA_4 {w : AW} {s f h : Nat} : (leaveA w s f h).1 4 s = f := by
  unfold leaveA
  rw [aS_n (by omega), aS_n (by omega), aS_e]
theorem leaveA_5 {w : AW} {s f h : Nat} : (leaveA w s f h).1 5 s = h := by
  unfold leaveA
  rw [aS_n (by omega), aS_e]
theorem leaveA_6 {w : AW} {s f h : Nat} : (leaveA w s f h).1 6 s = w.1 0 0 + 1 := by
  unfold leaveA
  rw [aS_e]
theorem OkS_of {b : AB} {w w' : AW} {s : Nat} (h : OkS b w s) (e : ∀ r, 1 ≤ r → r ≤ 5 → w'.1 r s = w.1 r s) : OkS b w' s := by
  unfold OkS at *
  rw [e 1 (by omega) (by omega), e 2 (by omega) (by omega), e 3 (by omega) (by omega), e 4 (by omega) (by omega), e 5 (by omega) (by omega)]
  exact h
theorem OkS_leave {b : AB} {w : AW} {s f h : Nat} (ok : OkS b w s) (hf : 1 ≤ f ∧ f ≤ 3) (h3 : f = 3 → 1 ≤ h ∧ h ≤ s) : OkS b (leaveA w s f h) s := by
  refine ⟨?_, ?_, ?_, ?_, ?_, ?_⟩
  · rw [leaveA_r (by omega)]; exact ok.1
  · rw [leaveA_4]; omega
  · rw [leaveA_1, leaveA_4]; omega
  · rw [leaveA_1]; omega
  · rw [leaveA_3]; omega
  · rw [leaveA_4, leaveA_5, leaveA_1, leaveA_3]; exact ⟨h3, fun _ => rfl⟩
/-- the same shape: as many scraps, the day, nets, dams as they were; printed only by mills; who left stays as it is -/
def Kp (b : AB) (w w' : AW) : Prop := w'.2 = w.2 ∧ (∀ i, w'.1 0 i = w.1 0 i) ∧ (∀ i, w'.1 7 i = w.1 7 i) ∧ (∀ k, k < 6 → b 0 1 ≤ k → w'.1 8 k = w.1 8 k) ∧ (∀ s, w.1 1 s = 0 → ∀ r, r ≤ 6 → w'.1 r s = w.1 r s)
theorem Kp_rf {b : AB} {w : AW} : Kp b w w := ⟨rfl, fun _ => rfl, fun _ => rfl, fun _ _ _ => rfl, fun _ _ _ _ => rfl⟩
theorem Kp_tr {b : AB} {w1 w2 w3 : AW} (h : Kp b w1 w2) (h' : Kp b w2 w3) : Kp b w1 w3 := by
  refine ⟨h'.1.trans h.1, fun i => (h'.2.1 i).trans (h.2.1 i), fun i => (h'.2.2.1 i).trans (h.2.2.1 i), fun k h1 h2 => (h'.2.2.2.1 k h1 h2).trans (h.2.2.2.1 k h1 h2), fun s hs r hr => ?_⟩
  rw [h'.2.2.2.2 s (by rw [h.2.2.2.2 s hs 1 (by omega)]; exact hs) r hr, h.2.2.2.2 s hs r hr]
/-- a step that keeps the shape, and where each scrap is well -/
def St (b : AB) (w w' : AW) : Prop := Kp b w w' ∧ (OkW b w → OkW b w')
theorem St_rf {b : AB} {w : AW} : St b w w := ⟨Kp_rf, id⟩
theorem St_tr {b : AB} {w1 w2 w3 : AW} (h : St b w1 w2) (h' : St b w2 w3) : St b w1 w3 := ⟨Kp_tr h.1 h'.1, fun k => h'.2 (h.2 k)⟩
theorem OkW_of {b : AB} {w w' : AW} (ok : OkW b w) (k : Kp b w w') (h : ∀ s, s < w.1 0 1 → OkS b w' s) : OkW b w' := by
  refine ⟨?_, ?_, ?_, ?_⟩
  · rw [k.2.1 1]; exact ok.1
  · rw [k.2.1 1]; exact h
  · intro i hi
    rw [k.2.2.1 i]
    exact ok.2.2.1 i hi
  · intro i hi h2
    rw [k.2.2.2.1 i hi h2]
    exact ok.2.2.2 i hi h2
theorem leaveA_Kp {b : AB} {w : AW} {s f h : Nat} (hs : w.1 1 s ≠ 0) : Kp b w (leaveA w s f h) := by
  refine ⟨rfl, fun i => leaveA_r (by omega), fun i => leaveA_r (by omega), fun k _ _ => leaveA_r (by omega), fun s' hs' r _ => leaveA_o ?_⟩
  intro e
  rw [e] at hs'
  exact hs hs'
theorem leaveA_St {b : AB} {w : AW} {s f h : Nat} (hs : w.1 1 s ≠ 0) (hf : 1 ≤ f ∧ f ≤ 3) (h3 : f = 3 → 1 ≤ h ∧ h ≤ s) : St b w (leaveA w s f h) := by
  refine ⟨leaveA_Kp hs, fun ok => OkW_of ok (leaveA_Kp hs) (fun s' hs' => ?_)⟩
  by_cases e : s' = s
  · subst e
    exact OkS_leave (ok.2.1 s' hs') hf h3
  · exact OkS_of (ok.2.1 s' hs') (fun r _ _ => leaveA_o e)
theorem moveA_St {b : AB} {w : AW} {s c : Nat} (hb : OkB b) (hs : w.1 1 s ≠ 0) (hc : c < b 0 0) : St b w (moveA b w s c) := by
  obtain ⟨hb1, hb2, hb3, hb4, hb5⟩ := hb
  have hc16 : c < b 0 0 := by omega
  have hne : ∀ s', w.1 1 s' = 0 → s' ≠ s := fun s' h e => hs (by rw [← e]; exact h)
  have hk : Kp b w (moveA b w s c) := by
    unfold moveA
    split
    · rename_i hm
      have h3 := (hb4 c hc16).2.2.1
      refine ⟨rfl, fun i => ?_, fun i => ?_, fun k h6 hk => ?_, fun s' hs' r hr => ?_⟩
      · simp only [aS_r]; simp
      · simp only [aS_r]; simp
      · rw [aS_i (by omega), aS_n (by omega), aS_n (by omega), aS_n (by omega)]
      · have := hne s' hs'
        rw [aS_n (by omega)]
        simp only [aS_r, this, and_false, if_false]
    · refine ⟨rfl, fun i => ?_, fun i => ?_, fun k h6 hk => ?_, fun s' hs' r hr => ?_⟩
      · simp only [aS_r]; simp
      · simp only [aS_r]; simp
      · rw [aS_n (by omega), aS_n (by omega)]
      · have := hne s' hs'
        simp only [aS_r, this, and_false, if_false]
  refine ⟨hk, fun ok => OkW_of ok hk (fun s' hs' => ?_)⟩
  have o := ok.2.1 s' hs'
  by_cases e : s' = s
  · subst e
    have hf : w.1 4 s' = 0 := by
      by_cases h0 : w.1 4 s' = 0
      · exact h0
      · exact absurd (o.2.2.1.mpr h0) hs
    unfold moveA
    split
    · rename_i hm
      have hl := hb5 (b 3 c - 1) (by have := (hb4 c hc16).2.2.1; omega)
      refine ⟨?_, ?_, ?_, ?_, ?_, ?_⟩
      · rw [aS_n (by omega), aS_e]
        exact isTx_app o.1 hm.2 hl.1 hl.2
      · rw [aS_n (by omega), aS_n (by omega), aS_n (by omega), aS_n (by omega)]
        exact o.2.1
      · rw [aS_n (by omega), aS_n (by omega), aS_n (by omega), aS_e, aS_n (by omega), aS_n (by omega), aS_n (by omega), aS_n (by omega)]
        omega
      · rw [aS_n (by omega), aS_n (by omega), aS_n (by omega), aS_e]
        omega
      · rw [aS_n (by omega), aS_n (by omega), aS_e]
        exact (hb4 c hc16).2.1
      · simp (disch := omega) only [aS_n, aS_e]
        exact ⟨o.2.2.2.2.2.1, fun h => by omega⟩
    · refine ⟨?_, ?_, ?_, ?_, ?_, ?_⟩
      · rw [aS_n (by omega), aS_n (by omega)]
        exact o.1
      · rw [aS_n (by omega), aS_n (by omega)]
        exact o.2.1
      · rw [aS_n (by omega), aS_e, aS_n (by omega), aS_n (by omega)]
        omega
      · rw [aS_n (by omega), aS_e]
        omega
      · rw [aS_e]
        exact (hb4 c hc16).2.1
      · simp (disch := omega) only [aS_n, aS_e]
        exact ⟨o.2.2.2.2.2.1, fun h => by omega⟩
  · refine OkS_of o (fun r h1 h5 => ?_)
    unfold moveA
    split
    · rw [aS_n (by omega)]
      simp only [aS_r, e, and_false, if_false]
    · simp only [aS_r, e, and_false, if_false]
theorem driftA_St {b : AB} {w : AW} {s : Nat} (hb : OkB b) (hc : w.1 1 s ≤ b 0 0) : St b w (driftA b s w) := by
  have hb' := hb
  obtain ⟨hb1, hb2, hb3, hb4, hb5⟩ := hb
  unfold driftA
  split
  · exact St_rf
  · rename_i h0
    split
    · exact St_rf
    · split
      · split
        · exact leaveA_St h0 (by omega) (fun h => by omega)
        · have := (hb4 (w.1 1 s - 1) (by omega)).1
          exact moveA_St hb' h0 (by omega)
      · rename_i h3
        have hk : Kp b w (aS w 3 s (w.1 3 s - 1)) := by
          refine ⟨rfl, fun i => aS_n (by omega), fun i => aS_n (by omega), fun k _ _ => aS_n (by omega), fun s' hs' r hr => ?_⟩
          have : s' ≠ s := fun e => h0 (by rw [← e]; exact hs')
          simp only [aS_r, this, and_false, if_false]
        refine ⟨hk, fun ok => OkW_of ok hk (fun s' hs' => ?_)⟩
        have o := ok.2.1 s' hs'
        by_cases e : s' = s
        · subst e
          unfold OkS
          simp (disch := omega) only [aS_n, aS_e]
          exact ⟨o.1, o.2.1, o.2.2.1, o.2.2.2.1, by have := o.2.2.2.2.1; omega, o.2.2.2.2.2.1, fun h => absurd h h0⟩
        · refine OkS_of o (fun r h1 h5 => ?_)
          simp only [aS_r, e, and_false, if_false]
theorem fold_St {b : AB} {f : Nat → AW → AW} (hf : ∀ i y, OkW b y → i < y.1 0 1 → St b y (f i y)) : ∀ (m j : Nat) (w : AW), OkW b w → j + m ≤ w.1 0 1 → St b w (fold f m j w)
  | 0, _, _, _, _ => St_rf
  | m + 1, j, w, ok, h => by
    have h1 := hf j w ok (by omega)
    have e := h1.1.2.1 1
    exact St_tr h1 (fold_St hf m (j + 1) (f j w) (h1.2 ok) (by rw [e]; omega))
theorem driftsA_St {b : AB} {w : AW} (hb : OkB b) (ok : OkW b w) : St b w (driftsA b w) := fold_St (fun i y oy hi => driftA_St hb (oy.2.1 i hi).2.2.2.1) _ 0 w ok (by omega)
theorem catchA_St {b : AB} {w : AW} {s : Nat} : St b w (catchA s w) := by
  unfold catchA
  split
  · rename_i h
    exact leaveA_St h.1 (by omega) (fun h => by omega)
  · exact St_rf
theorem catchesA_St {b : AB} {w : AW} (ok : OkW b w) : St b w (catchesA w) := fold_St (fun i y oy hi => catchA_St) _ 0 w ok (by omega)
theorem fdB_ok {l : LW} {w : AW} {c a : Nat} : ∀ (m j j' : Nat), fdB l w c a m j = some j' → j ≤ j' ∧ j' < j + m ∧ w.1 1 j' = c + 1 ∧ canA l w a j' = true
  | 0, j, j', h => by cases h
  | m + 1, j, j', h => by
    unfold fdB at h
    split at h
    · rename_i hc
      cases h
      exact ⟨Nat.le_refl _, by omega, hc.1, hc.2⟩
    · have := fdB_ok m (j + 1) j' h
      exact ⟨by omega, by omega, this.2.2⟩
theorem fdA_ok {l : LW} {w : AW} {c : Nat} : ∀ (m a a' j' : Nat), fdA l w c m a = some (a', j') → a ≤ a' ∧ a' < j' ∧ j' < a + m ∧ w.1 1 a' = c + 1 ∧ w.1 1 j' = c + 1 ∧ canA l w a' j' = true
  | 0, a, a', j', h => by cases h
  | m + 1, a, a', j', h => by
    unfold fdA at h
    split at h
    · rename_i hc
      cases hb : fdB l w c a m (a + 1) with
      | none =>
        rw [hb] at h
        have := fdA_ok m (a + 1) a' j' h
        exact ⟨by omega, this.2.1, by omega, this.2.2.2⟩
      | some j =>
        rw [hb] at h
        have h : some (a, j) = some (a', j') := h
        obtain ⟨e1, e2⟩ := Prod.mk.inj (Option.some.inj h)
        have := fdB_ok m (a + 1) j hb
        rw [← e1, ← e2]
        exact ⟨Nat.le_refl _, by omega, by omega, hc, this.2.2.1, this.2.2.2⟩
    · have := fdA_ok m (a + 1) a' j' h
      exact ⟨by omega, this.2.1, by omega, this.2.2.2⟩
theorem canA_len {l : LW} {w : AW} {a j : Nat} (h : canA l w a j = true) : lenN (w.1 2 a) + lenN (w.1 2 j) ≤ 8 := by
  unfold canA at h
  rw [Bool.and_eq_true, decide_eq_true_eq] at h
  exact h.1
theorem joinA_St {b : AB} {w : AW} {a j : Nat} (haj : a < j) (hj : j < w.1 0 1) (h1 : w.1 1 a ≠ 0) (h2 : w.1 1 j ≠ 0) (h8 : lenN (w.1 2 a) + lenN (w.1 2 j) ≤ 8) : St b w (joinA w a j) := by
  have hj1 : (aS w 2 a (w.1 2 a * 10 ^ lenN (w.1 2 j) + w.1 2 j)).1 1 j ≠ 0 := by
    rw [aS_n (by omega)]
    exact h2
  have hk : Kp b w (aS w 2 a (w.1 2 a * 10 ^ lenN (w.1 2 j) + w.1 2 j)) := by
    refine ⟨rfl, fun i => aS_n (by omega), fun i => aS_n (by omega), fun k _ _ => aS_n (by omega), fun s' hs' r hr => ?_⟩
    have : s' ≠ a := fun e => h1 (by rw [← e]; exact hs')
    simp only [aS_r, this, and_false, if_false]
  have hs : OkW b w → OkW b (aS w 2 a (w.1 2 a * 10 ^ lenN (w.1 2 j) + w.1 2 j)) := by
    intro ok
    refine OkW_of ok hk (fun s' hs' => ?_)
    have o := ok.2.1 s' hs'
    by_cases e : s' = a
    · subst e
      unfold OkS
      rw [aS_e, aS_n (by omega), aS_n (by omega), aS_n (by omega), aS_n (by omega)]
      exact ⟨isTx_cat o.1 (ok.2.1 j hj).1 h8, o.2⟩
    · refine OkS_of o (fun r _ _ => ?_)
      simp only [aS_r, e, and_false, if_false]
  exact St_tr ⟨hk, hs⟩ (leaveA_St hj1 (by omega) (fun _ => by omega))
theorem j1A_St {b : AB} {l : LW} {c : Nat} {w w' : AW} (h : j1A l c w = some w') : St b w w' := by
  unfold j1A at h
  cases hf : fdA l w c (w.1 0 1) 0 with
  | none => rw [hf] at h; cases h
  | some p =>
    rw [hf] at h
    cases h
    obtain ⟨a, j⟩ := p
    have h := fdA_ok _ _ _ _ hf
    show St b w (joinA w a j)
    exact joinA_St h.2.1 (by omega) (by omega) (by omega) (canA_len h.2.2.2.2.2)
theorem jnA_St {b : AB} {l : LW} {c : Nat} : ∀ (k : Nat) (w : AW), St b w (jnA l c k w)
  | 0, w => St_rf
  | k + 1, w => by
    unfold jnA
    cases h : j1A l c w with
    | none => exact St_rf
    | some w' => exact St_tr (j1A_St h) (jnA_St k w')
theorem joinsA_St {b : AB} {l : LW} {w : AW} : St b w (joinsA b l w) := by
  unfold joinsA
  exact fold_inv (I := fun y => St b w y) _ 0 w (fun i y _ _ hy => St_tr hy (jnA_St 13 y)) St_rf
theorem dayA_eq {b : AB} {l : LW} {w : AW} : dayA b l w = morrowA (catchesA (joinsA b l (driftsA b w))) := rfl
theorem dayA_mid {b : AB} {l : LW} {w : AW} (hb : OkB b) (ok : OkW b w) : St b w (catchesA (joinsA b l (driftsA b w))) := by
  have h1 := driftsA_St hb ok
  have h2 := joinsA_St (b := b) (l := l) (w := driftsA b w)
  exact St_tr h1 (St_tr h2 (catchesA_St (h2.2 (h1.2 ok))))
theorem morrowA_Ok {b : AB} {w : AW} (ok : OkW b w) : OkW b (morrowA w) := by
  refine ⟨ok.1, fun s hs => ?_, ?_, ?_⟩
  · exact OkS_of (ok.2.1 s hs) (fun r _ _ => aS_n (by omega))
  · exact ok.2.2.1
  · exact ok.2.2.2
theorem dayA_Ok {b : AB} {l : LW} {w : AW} (hb : OkB b) (ok : OkW b w) : OkW b (dayA b l w) := morrowA_Ok ((dayA_mid hb ok).2 ok)
theorem dayA_n {b : AB} {l : LW} {w : AW} (hb : OkB b) (ok : OkW b w) : (dayA b l w).1 0 1 = w.1 0 1 := (dayA_mid hb ok).1.2.1 1
theorem dayA_d {b : AB} {l : LW} {w : AW} (hb : OkB b) (ok : OkW b w) : (dayA b l w).1 0 0 = w.1 0 0 + 1 := by
  have := (dayA_mid (l := l) hb ok).1.2.1 0
  show (morrowA _).1 0 0 = _
  unfold morrowA
  rw [aS_e, this]
theorem dayA_7 {b : AB} {l : LW} {w : AW} (hb : OkB b) (ok : OkW b w) (i : Nat) : (dayA b l w).1 7 i = w.1 7 i := (dayA_mid hb ok).1.2.2.1 i
theorem dayA_sh {b : AB} {l : LW} {w : AW} (hb : OkB b) (ok : OkW b w) : (dayA b l w).2 = w.2 := (dayA_mid hb ok).1.1
theorem dayA_off {b : AB} {l : LW} {w : AW} (hb : OkB b) (ok : OkW b w) {s r : Nat} (hs : w.1 1 s = 0) (h1 : 1 ≤ r) (h6 : r ≤ 6) : (dayA b l w).1 r s = w.1 r s := by
  have := (dayA_mid (l := l) hb ok).1.2.2.2.2 s hs r h6
  show (morrowA _).1 r s = _
  unfold morrowA
  rw [aS_n (by omega), this]
