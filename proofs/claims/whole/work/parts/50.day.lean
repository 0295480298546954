/-! acts: the water changes -/
def wA (A : AA) (w : AW) : AA := (A.1, A.2.1, (A.2.2.1.1, w, A.2.2.1.2.2), A.2.2.2)
def kA (A : AA) : AA := (A.1, A.2.1, (A.2.2.1.1, A.2.2.1.2.1, keepA A.2.2.1.2.2.1 A.2.2.1.2.1, A.2.2.1.2.2.2), A.2.2.2)
theorem RC_w {A : AA} {T T' : xS} {G : gS} {w : AW} (h : RC A T G) (c : CW T' 95 w) (hf : ∀ q, (q < 95 ∨ 105 < q) → q ≠ 109 → T'.1 q = T.1 q ∧ T'.2.1 q = T.2.1 q) (hq : ∀ q, q ≠ 109 → T'.2.2.2 q = T.2.2.2 q) : RC (wA A w) T' G := by
  obtain ⟨ht, ⟨hr1, hr2⟩, ⟨c1, c2, c3, c4, c5⟩, h5, ow⟩ := h
  have h1 : ∀ q, (q < 95 ∨ 105 < q) → q ≠ 109 → T'.1 q = T.1 q := fun q a b => (hf q a b).1
  have h2 : ∀ q, (q < 95 ∨ 105 < q) → q ≠ 109 → T'.2.1 q = T.2.1 q := fun q a b => (hf q a b).2
  refine ⟨⟨by rw [h1 65 (by omega) (by omega)]; exact ht.1, fun i hi => by rw [h2 66 (by omega) (by omega)]; exact ht.2 i hi⟩, ⟨by rw [h1 64 (by omega) (by omega)]; exact hr1, fun r hr => ?_⟩, ⟨CB_of c1 (h1 _ (by omega) (by omega)) (fun k a b => h2 _ (by omega) (by omega)), c, CP_of c3 (h1 _ (by omega) (by omega)) (hq _ (by omega)) (fun i q v hi e cv => ?_), ?_, ?_⟩, fun i hi => ?_, OwC_of ow hq⟩
  · obtain ⟨q, n, e1, e2, e3⟩ := hr2 r hr
    exact ⟨q, n, by rw [hq 87 (by decide)]; exact e1, e2, LC_fr e3 (fun q' e' h' => h2 (q' + 1) (by omega) (by omega))⟩
  · have := (ow.2.2.2.1 88 i q (Or.inl rfl) hi e).1
    exact CW_of cv (h1 _ (by omega) (by omega)) (fun k a b => h2 _ (by omega) (by omega))
  · rw [h1 88 (by omega) (by omega)]
    exact c4
  · rw [h1 88 (by omega) (by omega)]
    exact c5
  · have := h5 i hi
    show match A.2.2.2 i with | none => T'.2.2.2 108 i = none | some d => ∃ p, T'.2.2.2 108 i = some p ∧ CD T' G p d
    cases hd : A.2.2.2 i with
    | none =>
      rw [hd] at this
      show T'.2.2.2 108 i = none
      rw [hq 108 (by decide)]
      exact this
    | some d =>
      rw [hd] at this
      obtain ⟨p, e1, e2⟩ := this
      have h172 := ow.2.1 i p hi e1
      obtain ⟨k1, k2, k3, k4, k5⟩ := e2
      refine ⟨p, by rw [hq 108 (by decide)]; exact e1, CB_of k1 (h1 _ (by omega) (by omega)) (fun k a b => h2 _ (by omega) (by omega)), CW_of k2 (h1 _ (by omega) (by omega)) (fun k a b => h2 _ (by omega) (by omega)), CP_of k3 (h1 _ (by omega) (by omega)) (hq _ (by omega)) (fun i' q v hi' e cv => ?_), ?_, ?_⟩
      · have := (ow.2.2.2.1 p i' q (Or.inr ⟨i, hi, e1⟩) hi' e).1
        exact CW_of cv (h1 _ (by omega) (by omega)) (fun k a b => h2 _ (by omega) (by omega))
      · rw [h1 p (by omega) (by omega)]
        exact k4
      · rw [h1 p (by omega) (by omega)]
        exact k5
theorem RM_w {A : AA} {S S' : mS} {w : AW} {k : Nat} (ok : OkA k A) (h : RM A S) (m : MW S'.2.1 w) (hi : S'.1 26 = S.1 26 ∧ S'.1 30 = S.1 30 ∧ S'.1 35 = S.1 35 ∧ S'.1 47 = S.1 47) (hr : ∀ k i, (k = 1 ∧ (i ≤ 2 ∨ 7 ≤ i)) ∨ (2 ≤ k ∧ k ≤ 5) ∨ k = 7 ∨ (26 ≤ k ∧ k ≤ 31) ∨ k = 35 ∨ (k = 40 ∧ i < 10000) ∨ k = 41 → S'.2.1 k i = S.2.1 k i) : RM (wA A w) S' := by
  obtain ⟨t, ⟨r1, r2, r3⟩, ⟨d1, d2, d3, d4, d5, d6⟩, im⟩ := h
  have ok1 := ok.2.2.2.1
  refine ⟨⟨by rw [hi.1]; exact t.1, fun i hi' => by rw [hr 26 i (by omega)]; exact t.2 i hi'⟩, ⟨by rw [hi.2.1]; exact r1, by rw [hi.2.2.1]; exact r2, fun r hr' => LMr_of (r3 r hr') (fun k i a b => hr k i (by omega))⟩, ⟨MB_r d1 ok1.1 (fun k i a => hr k i (by omega)), m, by rw [hi.2.2.2]; exact d3, MP_r d4 (fun j w hj => ⟨(OkD_p ok1 hj).2.1, (OkD_p ok1 hj).2.2⟩) (fun j _ => hr 35 j (by omega)), ?_, ?_⟩, IM_r (A := A) ok im (fun j hj => hr 40 j (by omega)) (fun i _ => hr 41 i (by omega))⟩
  · rw [hr 1 8 (by omega)]
    exact d5
  · rw [hr 1 7 (by omega)]
    exact d6
theorem keepM {k : Nat} {A : AA} {S : mS} (ok : OkA k A) (h : RM A S) : Ep (fun n => F211 n S) (fun z => RM (kA A) z.2) := by
  have ok1 := ok.2.2.2.1
  obtain ⟨t, ⟨r1, r2, r3⟩, ⟨d1, d2, d3, d4, d5, d6⟩, im⟩ := h
  refine ep_mono (f211 d2 (OkD_n ok1) d4 d3 ok1.2.2.2.1 (fun j v hj => ⟨(OkD_p ok1 hj).2.1, (OkD_p ok1 hj).2.2⟩)) ?_
  rintro ⟨_, S'⟩ ⟨z1, z2, z3, z4, z5⟩
  have z1 : ∀ q, q ≠ 47 → q ≠ 48 → q ≠ 49 → S'.1 q = S.1 q := z1
  have z2 : ∀ q, q ≠ 35 → S'.2.1 q = S.2.1 q := z2
  refine ⟨⟨by rw [z1 26 (by decide) (by decide) (by decide)]; exact t.1, fun i hi => by rw [z2 26 (by decide)]; exact t.2 i hi⟩, ⟨by rw [z1 30 (by decide) (by decide) (by decide)]; exact r1, by rw [z1 35 (by decide) (by decide) (by decide)]; exact r2, fun r hr => LMr_of (r3 r hr) (fun k i a b => by rw [z2 k (by omega)])⟩, ⟨MB_r d1 ok1.1 (fun k i a => by rw [z2 k (by omega)]), MW_r d2 (OkD_n (d := A.2.2.1) ok1) (fun k i a => by rw [z2 k (by omega)]), z4, z5, ?_, ?_⟩, IM_r (A := A) ok im (fun j _ => by rw [z2 40 (by decide)]) (fun i _ => by rw [z2 41 (by decide)])⟩
  · rw [z2 1 (by decide)]
    exact d5
  · rw [z2 1 (by decide)]
    exact d6
theorem mem_keepA {ps : List AW} {w v : AW} (h : v ∈ keepA ps w) : v = w ∨ v ∈ ps := by
  unfold keepA at h
  rw [List.mem_append] at h
  rcases h with h | h
  · by_cases e : ps.length = 20
    · rw [if_pos e] at h
      exact Or.inr (List.mem_of_mem_tail h)
    · rw [if_neg e] at h
      exact Or.inr h
  · exact Or.inl (List.mem_singleton.mp h)
theorem OkA_k {k : Nat} {A : AA} (ok : OkA k A) : OkA k (kA A) := by
  obtain ⟨h1, h2, h3, ⟨b1, b2, b3, b4, b5, b6⟩, h5⟩ := ok
  refine ⟨h1, h2, h3, ⟨b1, b2, fun w hw => ?_, ?_, b5, b6⟩, h5⟩
  · rcases hw with e | e
    · exact b3 w (Or.inl e)
    · rcases mem_keepA e with e | e
      · exact b3 w (Or.inl e)
      · exact b3 w (Or.inr e)
  · show (keepA _ _).length ≤ 20
    rw [keepA_len b4]
    split <;> omega
theorem OkA_wk {k : Nat} {A : AA} {w : AW} (ok : OkA k A) (hw : OkW A.2.2.1.1 w ∧ w.1 0 1 ≤ 12 ∧ w.1 0 0 ≤ k + 1 ∧ (∀ i, i < 6 → w.1 8 i ≤ 13 * w.1 0 0) ∧ ctF (fun c => !decide (w.1 7 c = 0)) 16 0 ≤ 5) : OkA (k + 1) (wA (kA A) w) := by
  obtain ⟨h1, h2, h3, ⟨b1, b2, b3, b4, b5, b6⟩, h5⟩ := OkA_s (OkA_k ok)
  refine ⟨h1, h2, h3, ⟨b1, b2, fun v hv => ?_, b4, b5, b6⟩, h5⟩
  rcases hv with e | e
  · rw [e]
    exact hw
  · exact b3 v (Or.inr e)
/-! how many leave on a day -/
theorem ctF_pl {P Q R : Nat → Bool} : ∀ m j, (∀ i, j ≤ i → i < j + m → (if P i = true then 1 else 0) = (if Q i = true then 1 else 0) + (if R i = true then 1 else 0 : Nat)) → ctF P m j = ctF Q m j + ctF R m j
  | 0, _, _ => rfl
  | m + 1, j, h => by
    rw [ctF_s, ctF_s, ctF_s, h j (by omega) (by omega), ctF_pl m (j + 1) (fun i a b => h i (by omega) (by omega))]
    omega
def lfN (w w' : AW) (f : Nat) : Nat := ctF (fun s => !decide (w.1 1 s = 0) && decide (w'.1 4 s = f)) (w.1 0 1) 0
theorem cf_lf {b : AB} {w w' : AW} {f : Nat} (ok : OkW b w) (hn : w'.1 0 1 = w.1 0 1) (ho : ∀ s, w.1 1 s = 0 → w'.1 4 s = w.1 4 s) (hf : f ≠ 0) : cf w' f = cf w f + lfN w w' f := by
  unfold cf lfN
  rw [hn]
  refine ctF_pl _ _ (fun s _ hs => ?_)
  have o := ok.2.1 s (by omega)
  by_cases h : w.1 1 s = 0
  · rw [ho s h, decide_eq_true h]
    simp
  · have h4 : w.1 4 s = 0 := by
      by_cases e : w.1 4 s = 0
      · exact e
      · exact absurd (o.2.2.1.mpr e) h
    rw [h4, decide_eq_false h, decide_eq_false (show ¬ 0 = f by omega)]
    simp
theorem lf_sum {b : AB} {w w' : AW} (ok' : OkW b w') (hn : w'.1 0 1 = w.1 0 1) : lfN w w' 1 + lfN w w' 2 + lfN w w' 3 = leftN w w' := by
  unfold lfN leftN
  have h12 : ctF (fun s => !decide (w.1 1 s = 0) && (decide (w'.1 4 s = 1) || decide (w'.1 4 s = 2))) (w.1 0 1) 0 = ctF (fun s => !decide (w.1 1 s = 0) && decide (w'.1 4 s = 1)) (w.1 0 1) 0 + ctF (fun s => !decide (w.1 1 s = 0) && decide (w'.1 4 s = 2)) (w.1 0 1) 0 := by
    refine ctF_pl _ _ (fun s _ hs => ?_)
    by_cases h : w.1 1 s = 0
    · simp [h]
    · by_cases h1 : w'.1 4 s = 1
      · simp [h, h1]
      · by_cases h2 : w'.1 4 s = 2
        · simp [h, h2]
        · simp [h, h1, h2]
  rw [← h12]
  symm
  refine ctF_pl _ _ (fun s _ hs => ?_)
  have o := ok'.2.1 s (by omega)
  have h3 := o.2.1
  by_cases h : w.1 1 s = 0
  · simp [h]
  · by_cases h0 : w'.1 4 s = 0
    · have : ¬ w'.1 1 s = 0 := fun e => (o.2.2.1.mp e) h0
      simp [h, h0, this]
    · have : w'.1 1 s = 0 := o.2.2.1.mpr h0
      have h123 : w'.1 4 s = 1 ∨ w'.1 4 s = 2 ∨ w'.1 4 s = 3 := by omega
      rcases h123 with e | e | e <;> simp [h, this, e]
theorem KC_d {T : xS} {w w' : AW} {x : Int32} {f : Nat} {b : AB} (ok : OkW b w) (hn : w'.1 0 1 = w.1 0 1) (ho : ∀ s, w.1 1 s = 0 → w'.1 4 s = w.1 4 s) (hf : f ≠ 0) (h : x + nI (cf w f) = nI (cf w' f)) : x = nI (lfN w w' f) := by
  rw [cf_lf ok hn ho hf, ← nI_add, Int32.add_comm (nI (cf w f))] at h
  have h2 := congrArg (fun z => z - nI (cf w f)) h
  simp only [Int32.add_sub_cancel] at h2
  exact h2
/-! letters printed -/
theorem driftA_8 {b : AB} {w : AW} {s k : Nat} : (driftA b s w).1 8 k ≤ w.1 8 k + 1 := by
  unfold driftA
  split
  · omega
  · split
    · omega
    · split
      · split
        · rw [leaveA_r (by omega)]
          omega
        · unfold moveA
          split
          · rw [aS_r]
            split
            · rename_i h
              rw [h.2]
              exact Nat.le_refl _
            · rw [aS_n (by omega), aS_n (by omega), aS_n (by omega)]
              omega
          · rw [aS_n (by omega), aS_n (by omega)]
            omega
      · rw [aS_n (by omega)]
        omega
theorem fold_8 {b : AB} {k : Nat} : ∀ m j w, (fold (driftA b) m j w).1 8 k ≤ w.1 8 k + m
  | 0, _, w => Nat.le_refl _
  | m + 1, j, w => by
    have h1 := fold_8 (b := b) (k := k) m (j + 1) (driftA b j w)
    have h2 := driftA_8 (b := b) (w := w) (s := j) (k := k)
    show (fold (driftA b) m (j + 1) (driftA b j w)).1 8 k ≤ _
    omega
theorem jnA_8 {l : LW} {c k : Nat} : ∀ m w, (jnA l c m w).1 8 k = w.1 8 k
  | 0, w => rfl
  | m + 1, w => by
    unfold jnA
    cases h : j1A l c w with
    | none => rfl
    | some w' =>
      show (jnA l c m w').1 8 k = _
      rw [jnA_8 m w']
      unfold j1A at h
      cases hf : fdA l w c (w.1 0 1) 0 with
      | none => rw [hf] at h; cases h
      | some p =>
        rw [hf] at h
        cases h
        show (leaveA (aS w 2 _ _) _ 3 _).1 8 k = _
        rw [leaveA_r (by omega), aS_n (by omega)]
theorem catchA_8 {w : AW} {s k : Nat} : (catchA s w).1 8 k = w.1 8 k := by
  unfold catchA
  split
  · rw [leaveA_r (by omega)]
  · rfl
theorem dayA_8 {b : AB} {l : LW} {w : AW} {k : Nat} : (dayA b l w).1 8 k ≤ w.1 8 k + w.1 0 1 := by
  have h1 := fold_8 (b := b) (k := k) (w.1 0 1) 0 w
  have h2 : (joinsA b l (driftsA b w)).1 8 k = (driftsA b w).1 8 k := by
    unfold joinsA
    exact fold_inv (I := fun y : AW => y.1 8 k = (driftsA b w).1 8 k) _ 0 _ (fun i y _ _ hy => by rw [jnA_8]; exact hy) rfl
  have h3 : (catchesA (joinsA b l (driftsA b w))).1 8 k = (joinsA b l (driftsA b w)).1 8 k := by
    unfold catchesA
    exact fold_inv (I := fun y : AW => y.1 8 k = (joinsA b l (driftsA b w)).1 8 k) _ 0 _ (fun i y _ _ hy => by rw [catchA_8]; exact hy) rfl
  show (morrowA _).1 8 k ≤ _
  unfold morrowA
  rw [aS_n (by omega), h3, h2]
  exact h1
theorem dayA_fate {b : AB} {l : LW} {w : AW} (hb : OkB b) (ok : OkW b w) (s : Nat) (h : w.1 1 s = 0) : (dayA b l w).1 4 s = w.1 4 s := dayA_off hb ok h (by decide) (by decide)
/-! the law in force in the program -/
theorem g84 {k : Nat} {A : AA} {T : xS} {G : gS} (ok : OkA k A) (h : RC A T G) : ∃ lo, Ev (fun n => G84 n T) (lo, T) ∧ lwB G lo (lawN G lo) = true ∧ LC T lo (lawN G lo) (lawA A.2.1.2 A.2.2.1.2.2.2.1) := by
  have h3 : T.1 88 3 = zI A.2.2.1.2.2.2.1 := h.2.2.1.2.2.2.1
  have h4 := h.2.1.1
  have hf := ok.2.2.2.1.2.2.2.2.1
  have h6 := ok.2.2.1
  unfold lawA
  by_cases h0 : A.2.2.1.2.2.2.1 = 0
  · refine ⟨none, ?_, rfl, ?_⟩
    · refine ev_succ (fun n => G84e0 n ..) ?_
      simp (disch := omega) only [G84b0, h3, if_lt_zI, h0, decide_eq_true_eq, decide_true, decide_false, Bool.not_eq_true, Bool.not_eq_true', Bool.not_true, Bool.not_false, decide_eq_false_iff_not, Bool.false_eq_true, not_false_eq_true, not_true_eq_false, if_true, if_false, ↓reduceIte, eq_self, Option.bind_some, Bool.true_and, Bool.false_and, Bool.and_true, Bool.and_false]
      exact ev_ret
    · rw [if_pos h0]
      trivial
  · obtain ⟨r, hr⟩ : ∃ r, A.2.2.1.2.2.2.1 = r + 1 := ⟨A.2.2.1.2.2.2.1 - 1, by omega⟩
    obtain ⟨q, n, e1, e2, e3⟩ := h.2.1.2 r (by omega)
    have hn : lawN G (some q) = n := by
      unfold lawN
      show (x_kd G (q + 1)).2 = n
      rw [lk1 e2]
    refine ⟨some q, ?_, ?_, ?_⟩
    · refine ev_succ (fun n => G84e0 n ..) ?_
      have hlt : r < A.2.1.1 := by omega
      simp (disch := omega) only [G84b0, h3, hr, zI_s, L0, L1, L2, L3, L4, L5, L6, L7, L8, L9, L10, L11, L12, L13, L16, L20, L31, L32, L40, L48, L57, L59, L60, L61, L91, L93, L97, L99, L100, L102, L103, L114, L122, L255, L300, L400, L402, L999, L2280, L2500, L99999, L63, L1431655765, L858993459, L252645135, ic_ge, ic_gt, ic_le, ic_lt, ic_eq, ic_ne, if_lt, if_ge, if_gt, if_le, if_eq, if_ne, if_lt_zI, if_ge_zI, ic_ne_m1, ic_eq_m1, ic_nn_m1, ic_ee_m1, if_ne_b2i, if_eq_b2i, b2i_z, decide_eq_true_eq, decide_true, decide_false, Bool.not_eq_true, Bool.not_eq_true', Bool.not_true, Bool.not_false, decide_eq_false_iff_not, Bool.false_eq_true, not_false_eq_true, not_true_eq_false, if_true, if_false, ↓reduceIte, eq_self, Option.bind_some, Bool.true_and, Bool.false_and, Bool.and_true, Bool.and_false, nI_add, nI_subN, nI_clamp, gdF, gdF2, gdP, gdP2, zI_cl, zI_s, Lm1, nI_n0, zI_n0, leF, or_false, false_or, or_self, h4, hlt, e1, Option.elim]
      exact ev_ret
    · rw [hn]
      exact e2
    · rw [if_neg h0, hr, Nat.add_sub_cancel, hn]
      exact e3
theorem g85 {T : xS} {wb : Nat} {lo : Option Nat} {ln : Nat} {b : AB} {l : LW} {w : AW} (hwb : wb = 95 ∨ wb = 110) (hB : CB T 89 b) (hb : OkB b) (hl : LC T lo ln l) (hw : CW T wb w) (ok : OkW b w) : Ep (fun n => G85 89 wb lo n T) (fun z => DS z.2 z.2 wb lo ln b l (fun f => nI (cf w f)) w ∧ FrS wb T (z.2.1, z.2.2.1, z.2.2.2.1, T.2.2.2) ∧ (∀ q, q ≠ 109 → z.2.2.2.2 q = T.2.2.2 q)) := by
  refine ep_succ (fun n => G85e0 89 wb lo n ..) ?_
  simp (disch := omega) only [G85b0, L0, L1, L2, L3, L4, L5, L6, L7, L8, L9, L10, L11, L12, L13, L16, L20, L31, L32, L40, L48, L57, L59, L60, L61, L91, L93, L97, L99, L100, L102, L103, L114, L122, L255, L300, L400, L402, L999, L2280, L2500, L99999, L63, L1431655765, L858993459, L252645135, decide_eq_true_eq, decide_true, decide_false, Bool.not_eq_true, Bool.not_eq_true', Bool.not_true, Bool.not_false, decide_eq_false_iff_not, Bool.false_eq_true, not_false_eq_true, not_true_eq_false, if_true, if_false, ↓reduceIte, eq_self, Option.bind_some, Bool.true_and, Bool.false_and, Bool.and_true, Bool.and_false]
  have hc : CW (x_sI (x_sI (x_sI (x_sQ (x_sQ (x_sQ T 109 3 (some 89)) 109 4 (some wb)) 109 5 lo) 109 6 (nI 0)) 109 7 (nI 0)) 109 8 (nI 0)) wb w := by
    refine CW_of hw ?_ (fun _ _ _ => rfl)
    simp (disch := omega) only [x_rA1, x_rA3, x_rAe, x_rAn, x_rAi, x_rI2, x_rIe, x_rIn, x_rIi, x_rL1, x_rL2, x_rL4, x_rLe, x_rLi, x_rLn, x_rQ1, x_rQ2, x_rQ3, x_rQe, x_rQi, x_rQn, x_rR1, x_rR3, x_rRe, x_rRn]
  refine ep_ret ⟨⟨⟨hwb, ?_, ?_, ?_, ?_, hb, ?_⟩, hc, ok, ⟨?_, ?_, ?_⟩, FrS_rf⟩, ⟨fun q a b => ⟨?_, rfl⟩, rfl⟩, fun q hq => ?_⟩
  · simp (disch := omega) only [x_rA1, x_rA3, x_rAe, x_rAn, x_rAi, x_rI2, x_rIe, x_rIn, x_rIi, x_rL1, x_rL2, x_rL4, x_rLe, x_rLi, x_rLn, x_rQ1, x_rQ2, x_rQ3, x_rQe, x_rQi, x_rQn, x_rR1, x_rR3, x_rRe, x_rRn]
  · simp (disch := omega) only [x_rA1, x_rA3, x_rAe, x_rAn, x_rAi, x_rI2, x_rIe, x_rIn, x_rIi, x_rL1, x_rL2, x_rL4, x_rLe, x_rLi, x_rLn, x_rQ1, x_rQ2, x_rQ3, x_rQe, x_rQi, x_rQn, x_rR1, x_rR3, x_rRe, x_rRn]
  · simp (disch := omega) only [x_rA1, x_rA3, x_rAe, x_rAn, x_rAi, x_rI2, x_rIe, x_rIn, x_rIi, x_rL1, x_rL2, x_rL4, x_rLe, x_rLi, x_rLn, x_rQ1, x_rQ2, x_rQ3, x_rQe, x_rQi, x_rQn, x_rR1, x_rR3, x_rRe, x_rRn]
  · refine CB_of hB ?_ (fun _ _ _ => rfl)
    simp (disch := omega) only [x_rA1, x_rA3, x_rAe, x_rAn, x_rAi, x_rI2, x_rIe, x_rIn, x_rIi, x_rL1, x_rL2, x_rL4, x_rLe, x_rLi, x_rLn, x_rQ1, x_rQ2, x_rQ3, x_rQe, x_rQi, x_rQn, x_rR1, x_rR3, x_rRe, x_rRn]
  · exact LC_fr hl (fun _ _ _ => rfl)
  · simp (disch := omega) only [x_rA1, x_rA3, x_rAe, x_rAn, x_rAi, x_rI2, x_rIe, x_rIn, x_rIi, x_rL1, x_rL2, x_rL4, x_rLe, x_rLi, x_rLn, x_rQ1, x_rQ2, x_rQ3, x_rQe, x_rQi, x_rQn, x_rR1, x_rR3, x_rRe, x_rRn, nI_add, Nat.zero_add]
  · simp (disch := omega) only [x_rA1, x_rA3, x_rAe, x_rAn, x_rAi, x_rI2, x_rIe, x_rIn, x_rIi, x_rL1, x_rL2, x_rL4, x_rLe, x_rLi, x_rLn, x_rQ1, x_rQ2, x_rQ3, x_rQe, x_rQi, x_rQn, x_rR1, x_rR3, x_rRe, x_rRn, nI_add, Nat.zero_add]
  · simp (disch := omega) only [x_rA1, x_rA3, x_rAe, x_rAn, x_rAi, x_rI2, x_rIe, x_rIn, x_rIi, x_rL1, x_rL2, x_rL4, x_rLe, x_rLi, x_rLn, x_rQ1, x_rQ2, x_rQ3, x_rQe, x_rQi, x_rQn, x_rR1, x_rR3, x_rRe, x_rRn, nI_add, Nat.zero_add]
  · simp (disch := omega) only [x_rA1, x_rA3, x_rAe, x_rAn, x_rAi, x_rI2, x_rIe, x_rIn, x_rIi, x_rL1, x_rL2, x_rL4, x_rLe, x_rLi, x_rLn, x_rQ1, x_rQ2, x_rQ3, x_rQe, x_rQi, x_rQn, x_rR1, x_rR3, x_rRe, x_rRn]
  · simp (disch := omega) only [x_rA1, x_rA3, x_rAe, x_rAn, x_rAi, x_rI2, x_rIe, x_rIn, x_rIi, x_rL1, x_rL2, x_rL4, x_rLe, x_rLi, x_rLn, x_rQ1, x_rQ2, x_rQ3, x_rQe, x_rQi, x_rQn, x_rR1, x_rR3, x_rRe, x_rRn]
theorem sm_day {k : Nat} (hk : k < 512) (A : AA) (ok : OkA k A) : ∃ r A', OkA (k + 1) A' ∧ CallX k (fun n => G81 n) A r A' ∧ CallM (fun n => F209 n) A r A' := by
  have ok1 := OkA_s ok
  have hb := OkA_b ok
  have kw := OkA_w ok
  have hD := ok.2.2.2.1.2.2.1 A.2.2.1.2.1 (Or.inl rfl)
  have hday := hD.2.2.1
  have hb1 := hb.1
  by_cases h0 : A.2.2.1.1 0 0 = 0
  · refine ⟨zI 0, A, ok1, ?_, callM_id (fun S hm => ?_)⟩
    · intro T G hc hG
      have hc0 : T.1 89 0 = nI (A.2.2.1.1 0 0) := (CD_b hc).1
      refine ep_succ (fun n => G81e0 n ..) ?_
      simp only [G81b0]
      refine ep_bv (b := (nI 0, T)) ?_ ?_
      · refine ev_succ (fun n => G82e0 n ..) ?_
        simp (disch := omega) only [G82b0, hc0, h0, if_le, decide_eq_true_eq, decide_true, decide_false, Bool.not_eq_true, Bool.not_eq_true', Bool.not_true, Bool.not_false, decide_eq_false_iff_not, Bool.false_eq_true, not_false_eq_true, not_true_eq_false, if_true, if_false, ↓reduceIte, eq_self, Option.bind_some, Bool.true_and, Bool.false_and, Bool.and_true, Bool.and_false, L0, L1, L2, L3, L4, L5, L6, L7, L8, L9, L10, L11, L12, L13, L16, L20, L31, L32, L40, L48, L57, L59, L60, L61, L91, L93, L97, L99, L100, L102, L103, L114, L122, L255, L300, L400, L402, L999, L2280, L2500, L99999, L63, L1431655765, L858993459, L252645135]
        exact ev_ret
      · simp (disch := omega) only [if_eq, decide_eq_true_eq, decide_true, decide_false, Bool.not_eq_true, Bool.not_eq_true', Bool.not_true, Bool.not_false, decide_eq_false_iff_not, Bool.false_eq_true, not_false_eq_true, not_true_eq_false, if_true, if_false, ↓reduceIte, eq_self, Option.bind_some, Bool.true_and, Bool.false_and, Bool.and_true, Bool.and_false, L0, L1, L2, L3, L4, L5, L6, L7, L8, L9, L10, L11, L12, L13, L16, L20, L31, L32, L40, L48, L57, L59, L60, L61, L91, L93, L97, L99, L100, L102, L103, L114, L122, L255, L300, L400, L402, L999, L2280, L2500, L99999, L63, L1431655765, L858993459, L252645135, Lm1]
        exact ep_ret ⟨rfl, hc, RG_s hG⟩
    · have hc0 : S.2.1 1 0 = nI (A.2.2.1.1 0 0) := (MD_b hm).1
      refine ev_succ (fun n => F209e0 n ..) ?_
      simp only [F209b0]
      refine ev_bind (b := (nI 0, S)) ?_ ?_
      · refine ev_succ (fun n => F210e0 n ..) ?_
        simp (disch := omega) only [F210b0, hc0, h0, if_le, decide_eq_true_eq, decide_true, decide_false, Bool.not_eq_true, Bool.not_eq_true', Bool.not_true, Bool.not_false, decide_eq_false_iff_not, Bool.false_eq_true, not_false_eq_true, not_true_eq_false, if_true, if_false, ↓reduceIte, eq_self, Option.bind_some, Bool.true_and, Bool.false_and, Bool.and_true, Bool.and_false, L0, L1, L2, L3, L4, L5, L6, L7, L8, L9, L10, L11, L12, L13, L16, L20, L31, L32, L40, L48, L57, L59, L60, L61, L91, L93, L97, L99, L100, L102, L103, L114, L122, L255, L300, L400, L402, L999, L2280, L2500, L99999, L63, L1431655765, L858993459, L252645135]
        exact ev_ret
      · simp (disch := omega) only [if_eq, decide_eq_true_eq, decide_true, decide_false, Bool.not_eq_true, Bool.not_eq_true', Bool.not_true, Bool.not_false, decide_eq_false_iff_not, Bool.false_eq_true, not_false_eq_true, not_true_eq_false, if_true, if_false, ↓reduceIte, eq_self, Option.bind_some, Bool.true_and, Bool.false_and, Bool.and_true, Bool.and_false, L0, L1, L2, L3, L4, L5, L6, L7, L8, L9, L10, L11, L12, L13, L16, L20, L31, L32, L40, L48, L57, L59, L60, L61, L91, L93, L97, L99, L100, L102, L103, L114, L122, L255, L300, L400, L402, L999, L2280, L2500, L99999, L63, L1431655765, L858993459, L252645135, Lm1]
        exact ev_ret
  · have hlen : ctF (fun c => !decide ((dayA A.2.2.1.1 (lawA A.2.1.2 A.2.2.1.2.2.2.1) A.2.2.1.2.1).1 7 c = 0)) 16 0 = ctF (fun c => !decide (A.2.2.1.2.1.1 7 c = 0)) 16 0 := ctF_eq _ _ (fun i _ _ => by rw [dayA_7 hb kw])
    have hdn := dayA_n (l := lawA A.2.1.2 A.2.2.1.2.2.2.1) hb kw
    have hdd := dayA_d (l := lawA A.2.1.2 A.2.2.1.2.2.2.1) hb kw
    refine ⟨nI (leftN A.2.2.1.2.1 (dayA A.2.2.1.1 (lawA A.2.1.2 A.2.2.1.2.2.2.1) A.2.2.1.2.1)), wA (kA A) (dayA A.2.2.1.1 (lawA A.2.1.2 A.2.2.1.2.2.2.1) A.2.2.1.2.1), OkA_wk ok ⟨dayA_Ok hb kw, by rw [hdn]; exact hD.2.1, by rw [hdd]; omega, fun i hi => ?_, by rw [hlen]; exact hD.2.2.2.2⟩, ?_, ?_⟩
    · have h1 := dayA_8 (b := A.2.2.1.1) (l := lawA A.2.1.2 A.2.2.1.2.2.2.1) (w := A.2.2.1.2.1) (k := i)
      have h2 := hD.2.2.2.1 i hi
      have h3 := hD.2.1
      rw [hdd]
      omega
    · intro T G hc hG
      have hc0 : T.1 89 0 = nI (A.2.2.1.1 0 0) := (CD_b hc).1
      have hd0 : T.1 95 0 = nI (A.2.2.1.2.1.1 0 0) := (CD_w hc).1
      have h9 : A.2.2.1.2.1.1 0 0 < 999 := by omega
      refine ep_succ (fun n => G81e0 n ..) ?_
      simp only [G81b0]
      refine ep_bv (b := (nI 1, T)) ?_ ?_
      · refine ev_succ (fun n => G82e0 n ..) ?_
        simp (disch := omega) only [G82b0, hc0, h0, if_le, decide_eq_true_eq, decide_true, decide_false, Bool.not_eq_true, Bool.not_eq_true', Bool.not_true, Bool.not_false, decide_eq_false_iff_not, Bool.false_eq_true, not_false_eq_true, not_true_eq_false, if_true, if_false, ↓reduceIte, eq_self, Option.bind_some, Bool.true_and, Bool.false_and, Bool.and_true, Bool.and_false, L0, L1, L2, L3, L4, L5, L6, L7, L8, L9, L10, L11, L12, L13, L16, L20, L31, L32, L40, L48, L57, L59, L60, L61, L91, L93, L97, L99, L100, L102, L103, L114, L122, L255, L300, L400, L402, L999, L2280, L2500, L99999, L63, L1431655765, L858993459, L252645135]
        exact ev_ret
      · simp (disch := omega) only [if_eq, Nat.one_ne_zero, hd0, h9, ic_lt, decide_eq_true_eq, decide_true, decide_false, Bool.not_eq_true, Bool.not_eq_true', Bool.not_true, Bool.not_false, decide_eq_false_iff_not, Bool.false_eq_true, not_false_eq_true, not_true_eq_false, if_true, if_false, ↓reduceIte, eq_self, Option.bind_some, Bool.true_and, Bool.false_and, Bool.and_true, Bool.and_false, L0, L1, L2, L3, L4, L5, L6, L7, L8, L9, L10, L11, L12, L13, L16, L20, L31, L32, L40, L48, L57, L59, L60, L61, L91, L93, L97, L99, L100, L102, L103, L114, L122, L255, L300, L400, L402, L999, L2280, L2500, L99999, L63, L1431655765, L858993459, L252645135, Lm1]
        refine ep_bind (keepX ok hc) ?_
        rintro ⟨_, T1, G1⟩ ⟨hc1, hg1, hg2⟩
        have hc1 : RC (kA A) T1 G1 := hc1
        obtain ⟨lo, e1, e2, e3⟩ := g84 (OkA_k ok) hc1
        refine ep_bv e1 ?_
        simp only [e2, decide_eq_true_eq, decide_true, decide_false, Bool.not_eq_true, Bool.not_eq_true', Bool.not_true, Bool.not_false, decide_eq_false_iff_not, Bool.false_eq_true, not_false_eq_true, not_true_eq_false, if_true, if_false, ↓reduceIte, eq_self, Option.bind_some, Bool.true_and, Bool.false_and, Bool.and_true, Bool.and_false]
        refine ep_bind (g85 (Or.inl rfl) (CD_b hc1) hb e3 (CD_w hc1) kw) ?_
        rintro ⟨_, T2⟩ ⟨d1, d2, d3⟩
        refine ep_bind (g86 h9 d1) ?_
        rintro ⟨_, T3⟩ hds
        have hds : DS T2 T3 95 lo (lawN G1 lo) A.2.2.1.1 (lawA A.2.1.2 A.2.2.1.2.2.2.1) (fun f => nI (cf A.2.2.1.2.1 f)) (dayA A.2.2.1.1 (lawA A.2.1.2 A.2.2.1.2.2.2.1) A.2.2.1.2.1) := hds
        obtain ⟨k1, k2, k3, ⟨q1, q2, q3⟩, k5⟩ := hds
        have v1 := KC_d (T := T3) kw hdn (dayA_fate hb kw) (by decide) q1
        have v2 := KC_d (T := T3) kw hdn (dayA_fate hb kw) (by decide) q2
        have v3 := KC_d (T := T3) kw hdn (dayA_fate hb kw) (by decide) q3
        simp only [v1, v2, v3, nI_add]
        rw [lf_sum k3 hdn]
        refine ep_ret ⟨rfl, RC_w hc1 k2 (fun q a b => ?_) (fun q hq => ?_), ?_, ?_⟩
        · have a1 := d2.1 q (by omega) b
          have a2 := k5.1 q (by omega) b
          exact ⟨a2.1.trans a1.1, a2.2.trans a1.2⟩
        · rw [show T3.2.2.2 = T2.2.2.2 from k5.2]
          exact d3 q hq
        · have hG1 := hG.1
          have hg1 : G1.2.1 ≤ G.2.1 + 11 := hg1
          show G1.2.1 ≤ _
          omega
        · have hG1 := hG.2
          have hg2 : G1.2.2 ≤ G.2.2 + 139 := hg2
          show G1.2.2 ≤ _
          omega
    · intro S hm
      have hc0 : S.2.1 1 0 = nI (A.2.2.1.1 0 0) := (MD_b hm).1
      have hd0 : S.2.1 1 6 = nI (A.2.2.1.2.1.1 0 0) := (MD_w hm).2.1
      have h9 : ¬ A.2.2.1.2.1.1 0 0 = 999 := by omega
      refine ep_succ (fun n => F209e0 n ..) ?_
      simp only [F209b0]
      refine ep_bv (b := (nI 1, S)) ?_ ?_
      · refine ev_succ (fun n => F210e0 n ..) ?_
        simp (disch := omega) only [F210b0, hc0, h0, if_le, decide_eq_true_eq, decide_true, decide_false, Bool.not_eq_true, Bool.not_eq_true', Bool.not_true, Bool.not_false, decide_eq_false_iff_not, Bool.false_eq_true, not_false_eq_true, not_true_eq_false, if_true, if_false, ↓reduceIte, eq_self, Option.bind_some, Bool.true_and, Bool.false_and, Bool.and_true, Bool.and_false, L0, L1, L2, L3, L4, L5, L6, L7, L8, L9, L10, L11, L12, L13, L16, L20, L31, L32, L40, L48, L57, L59, L60, L61, L91, L93, L97, L99, L100, L102, L103, L114, L122, L255, L300, L400, L402, L999, L2280, L2500, L99999, L63, L1431655765, L858993459, L252645135]
        exact ev_ret
      · simp (disch := omega) only [if_eq, Nat.one_ne_zero, hd0, h9, ic_ne, decide_eq_true_eq, decide_true, decide_false, Bool.not_eq_true, Bool.not_eq_true', Bool.not_true, Bool.not_false, decide_eq_false_iff_not, Bool.false_eq_true, not_false_eq_true, not_true_eq_false, if_true, if_false, ↓reduceIte, eq_self, Option.bind_some, Bool.true_and, Bool.false_and, Bool.and_true, Bool.and_false, L0, L1, L2, L3, L4, L5, L6, L7, L8, L9, L10, L11, L12, L13, L16, L20, L31, L32, L40, L48, L57, L59, L60, L61, L91, L93, L97, L99, L100, L102, L103, L114, L122, L255, L300, L400, L402, L999, L2280, L2500, L99999, L63, L1431655765, L858993459, L252645135, Lm1]
        refine ep_bind (keepM ok hm) ?_
        rintro ⟨_, S1⟩ hm1
        have hm1 : RM (kA A) S1 := hm1
        have hlm := LM_of hm1 (f := A.2.2.1.2.2.2.1) ok.2.2.2.1.2.2.2.2.1 ok.2.2.1 hm1.2.2.1.2.2.2.2.1
        refine ep_bind (f212 (S0 := S1) (b := A.2.2.1.1) (l := lawA A.2.1.2 A.2.2.1.2.2.2.1) (w := A.2.2.1.2.1) (by omega) ⟨MD_b (A := kA A) hm1, hb, MD_w (A := kA A) hm1, kw, hlm, FrM_rf⟩) ?_
        rintro ⟨z1, S2⟩ ⟨e1, e2⟩
        have e2 : DM S1 S2 A.2.2.1.1 (lawA A.2.1.2 A.2.2.1.2.2.2.1) (dayA A.2.2.1.1 (lawA A.2.1.2 A.2.2.1.2.2.2.1) A.2.2.1.2.1) := e2
        refine ep_ret ⟨e1, RM_w (OkA_k ok) hm1 e2.2.2.1 ?_ (fun k i hk => e2.2.2.2.2.2.2 k i (by omega))⟩
        have := e2.2.2.2.2.2.1
        exact ⟨by rw [this], by rw [this], by rw [this], by rw [this]⟩
