/-! rules told: the program reads values, sums, signs -/
def opI (o : Nat) : Int32 := if o = 2 then -12 else if o = 3 then -13 else if o = 13 then -14 else if o = 14 then -15 else if o = 15 then -16 else if o = 4 then -17 else if o = 5 then -18 else if o = 6 then -19 else if o = 7 then -20 else if o = 8 then -21 else if o = 10 then -22 else if o = 11 then -23 else -24
def cdI (t : TK) : Int32 := if t.1 = 0 then nI t.2 else if t.1 = 1 then (-1) - nI t.2 else opI t.1
def opz (o : Nat) : Int32 := if o = 0 then nI 0 else opI o
def RuT (T00 T : xS) (L i e p : Nat) (pc : List TK) : Prop := (∃ m, TP T T L i m e) ∧ T.1 85 1 = nI pc.length ∧ T.1 85 2 = nI p ∧ (∀ k, k < pc.length → T.2.1 86 k = cdI (pc.getD k (0, 0))) ∧ (∀ q, q ≠ 65 → q ≠ 85 → T.1 q = T00.1 q) ∧ (∀ q, q ≠ 86 → T.2.1 q = T00.2.1 q) ∧ T.2.2 = T00.2.2
def RuZ (T00 : xS) (L : Nat) (P0 : List TK) (res : PS) (z : Int32 × xS) : Prop := z.1 = (if res.1 = 0 then nI 1 else nI 0) ∧ ∃ pos p' pc', RuT T00 z.2 L pos res.1 p' pc' ∧ (res.1 = 0 → pos = res.2.1 ∧ p' = res.2.2.1 ∧ pc' = P0 ++ res.2.2.2)
theorem ic_lt_z {k c : Nat} (hk : k < 2 ^ 30) (hc : c < 2 ^ 30) : am_ic .lt (zI k) (nI c) = decide (k < c + 1) := by
  cases k with
  | zero =>
    rw [decide_eq_true (by omega)]
    show decide (zI 0 < nI c) = true
    refine decide_eq_true ?_
    rw [Int32.lt_iff_toInt_lt, nI_toInt (by omega), show (zI 0).toInt = -1 from by decide]
    omega
  | succ x =>
    rw [zI_s, ic_lt (by omega) (by omega)]
    exact decide_eq_decide.mpr (by omega)
theorem ic_gt_z {k c : Nat} (hk : k < 2 ^ 30) (hc : c < 2 ^ 30) : am_ic .gt (zI k) (nI c) = decide (c + 1 < k) := by
  cases k with
  | zero =>
    rw [decide_eq_false (by omega)]
    show decide (nI c < zI 0) = false
    refine decide_eq_false (fun h => ?_)
    rw [Int32.lt_iff_toInt_lt, nI_toInt (by omega), show (zI 0).toInt = -1 from by decide] at h
    omega
  | succ x =>
    rw [zI_s, ic_gt (by omega) (by omega)]
    exact decide_eq_decide.mpr (by omega)
theorem zI_e {k c : Nat} (hk : k < 2 ^ 30) (hc : c < 2 ^ 30) : (zI k = nI c) = (k = c + 1) := by
  rw [← zI_s c]
  exact propext (zI_inj (by omega) (by omega))
theorem wd_Wd : WdB 8 0 wdW = true := by decide +kernel
section Ru
variable {T00 T : xS} {f : Nat → Nat} {L i e p : Nat} {pc P0 cs : List TK}
theorem RuT_tp {T' : xS} {i' m' e' : Nat} (h : RuT T00 T L i e p pc) (ht : TP T' T L i' m' e') : RuT T00 T' L i' e' p pc := by
  obtain ⟨_, h2, h3, h4, h5, h6, h7⟩ := h
  have hq := ht.2.2.2.2.1
  have hr := ht.2.2.2.2.2
  exact ⟨⟨m', TP_self ht⟩, by rw [hq 85 (by decide)]; exact h2, by rw [hq 85 (by decide)]; exact h3, fun k hk => by rw [hr]; exact h4 k hk, fun q a b => (hq q a).trans (h5 q a b), fun q a => by rw [hr]; exact h6 q a, by rw [hr]; exact h7⟩
theorem RuT_TH (hH : TH T00 f L) (h : RuT T00 T L i e p pc) : TH T f L := ⟨fun j hj => by rw [h.2.2.2.2.2.1 66 (by decide)]; exact hH.1 j hj, hH.2⟩
theorem g62 {t : TK} (h : RuT T00 T L i e p pc) (hl : pc.length < 400) : Ep (fun n => G62 n (cdI t) T) (fun z => RuT T00 z.2 L i e p (pc ++ [t])) := by
  obtain ⟨⟨m, t1, t2, t3, t4, _, _⟩, h2, h3, h4, h5, h6, h7⟩ := h
  have e1 : ¬ 400 ≤ pc.length := by omega
  refine ep_succ (fun n => G62e0 n ..) ?_
  simp (disch := omega) only [G62b0, L0, L1, L2, L3, L4, L5, L6, L7, L8, L9, L10, L11, L12, L13, L16, L20, L31, L32, L40, L48, L57, L59, L60, L61, L91, L93, L97, L99, L100, L102, L103, L114, L122, L255, L300, L400, L402, L999, L2280, L2500, L99999, L63, L1431655765, L858993459, L252645135, ic_ge, ic_gt, ic_le, ic_lt, ic_eq, ic_ne, if_lt, if_ge, if_gt, if_le, if_eq, if_ne, if_lt_zI, if_ge_zI, ic_ne_m1, ic_eq_m1, ic_nn_m1, ic_ee_m1, if_ne_b2i, if_eq_b2i, b2i_z, decide_eq_true_eq, decide_true, decide_false, Bool.not_eq_true, Bool.not_eq_true', Bool.not_true, Bool.not_false, decide_eq_false_iff_not, Bool.false_eq_true, not_false_eq_true, not_true_eq_false, if_true, if_false, ↓reduceIte, eq_self, Option.bind_some, Bool.true_and, Bool.false_and, Bool.and_true, Bool.and_false, nI_add, nI_subN, nI_clamp, gdF, gdF2, gdP, gdP2, zI_cl, zI_s, Lm1, nI_n0, zI_n0, leF, or_false, false_or, or_self, h2, e1, x_rA1]
  refine ep_ret ⟨⟨m, ?_, ?_, ?_, ?_, fun _ _ => rfl, rfl⟩, ?_, ?_, fun k hk => ?_, fun q a b => ?_, fun q a => ?_, h7⟩
  · rw [x_rIn (by decide)]
    exact t1
  · rw [x_rIn (by decide)]
    exact t2
  · rw [x_rIn (by decide)]
    exact t3
  · rw [x_rIn (by decide)]
    exact t4
  · rw [x_rIe, len1]
  · rw [x_rIi (by decide)]
    exact h3
  · rw [len1] at hk
    show (x_sA T 86 pc.length (cdI t)).2.1 86 k = cdI ((pc ++ [t]).getD k (0, 0))
    by_cases ek : k = pc.length
    · rw [ek, x_rAe, List.getD_eq_getElem?_getD, List.getElem?_append_right (Nat.le_refl _), Nat.sub_self]
      rfl
    · rw [x_rAi ek, List.getD_eq_getElem?_getD, List.getElem?_append_left (by omega), ← List.getD_eq_getElem?_getD]
      exact h4 k (by omega)
  · rw [x_rIn b]
    exact h5 q a b
  · show (x_sA T 86 pc.length (cdI t)).2.1 q = T00.2.1 q
    rw [x_rAn a]
    exact h6 q a
theorem g65 {pl : Nat} (h : RuT T00 T L i 0 p pc) (hp : p ≤ 60) : Ep (fun n => G65 n (nI pl) T) (fun z => (p < 60 → z.1 = nI 1 ∧ RuT T00 z.2 L i 0 (p + 1) pc) ∧ (60 ≤ p → z.1 = nI 0 ∧ RuT T00 z.2 L i (4 + 8 * pl) p pc)) := by
  obtain ⟨m, ht⟩ := h.1
  have h3 : T.1 85 2 = nI p := h.2.2.1
  refine ep_succ (fun n => G65e0 n ..) ?_
  by_cases h60 : p < 60
  · have e60 : am_ic .lt (nI p) (nI 60) = true := by
      rw [ic_lt (by omega) (by decide)]
      exact decide_eq_true h60
    have e60 : am_ic .lt (nI p) 60 = true := e60
    have ep : nI p + 1 = nI (p + 1) := by rw [← nI_add]; rfl
    simp only [G65b0, h3, e60, if_true, ep]
    refine ep_ret ⟨fun _ => ⟨rfl, ?_⟩, fun z => absurd h60 (Nat.not_lt_of_le z)⟩
    obtain ⟨⟨m, t1, t2, t3, t4, _, _⟩, h2, h3, h4, h5, h6, h7⟩ := h
    exact ⟨⟨m, by rw [x_rIn (by decide)]; exact t1, by rw [x_rIn (by decide)]; exact t2, by rw [x_rIn (by decide)]; exact t3, by rw [x_rIn (by decide)]; exact t4, fun _ _ => rfl, rfl⟩, by rw [x_rIi (by decide)]; exact h2, x_rIe, h4, fun q a b => by rw [x_rIn b]; exact h5 q a b, h6, h7⟩
  · have e60 : am_ic .lt (nI p) (nI 60) = false := by
      rw [ic_lt (by omega) (by decide)]
      exact decide_eq_false h60
    have e60 : am_ic .lt (nI p) 60 = false := e60
    simp only [G65b0, h3, e60, Bool.false_eq_true, if_false, L3]
    refine ep_bind (g36 ht) ?_
    rintro ⟨z, T1⟩ ⟨a1, a2⟩
    have a1 : z = nI 0 := a1
    have a2 : TP T1 T L i m (1 + 8 * pl + 3) := a2
    subst a1
    simp only [nbz, if_true]
    refine ep_ret ⟨fun z => absurd z h60, fun _ => ⟨rfl, ?_⟩⟩
    rw [show 4 + 8 * pl = 1 + 8 * pl + 3 by omega]
    exact RuT_tp h a2
/-- a piece is counted and written -/
theorem cnt_w {pl pos : Nat} {t : TK} (h : RuT T00 T L pos 0 p (P0 ++ cs)) (hp : p ≤ 60) (hl : (P0 ++ cs).length < 400) : Ep (fun n => (G65 n (nI pl) T).bind (fun z7 => if am_if .ne z7.1 = true then (G62 n (cdI t) z7.2).bind (fun z10 => some (nI 1, z10.2)) else some (nI 0, z7.2))) (RuZ T00 L P0 (if 60 ≤ p then (4 + 8 * pl, pos, p, cs) else (0, pos, p + 1, cs ++ [t]))) := by
  refine ep_bind (g65 h hp) ?_
  rintro ⟨z, T1⟩ ⟨a1, a2⟩
  by_cases h60 : 60 ≤ p
  · obtain ⟨x1, x2⟩ := a2 h60
    have x1 : z = nI 0 := x1
    subst x1
    have e1 : am_if .ne (nI 0) = false := by decide
    rw [if_pos h60]
    simp only [e1, Bool.false_eq_true, if_false]
    exact ep_ret ⟨(if_neg (show ¬ 4 + 8 * pl = 0 by omega)).symm, _, _, _, x2, fun z => absurd z (show ¬ 4 + 8 * pl = 0 by omega)⟩
  · obtain ⟨x1, x2⟩ := a1 (by omega)
    have x1 : z = nI 1 := x1
    subst x1
    have e1 : am_if .ne (nI 1) = true := by decide
    rw [if_neg h60]
    simp only [e1, if_true]
    refine ep_bind (g62 x2 hl) ?_
    rintro ⟨_, T2⟩ y
    exact ep_ret ⟨rfl, _, _, _, y, fun _ => ⟨rfl, rfl, by rw [List.append_assoc]⟩⟩
theorem g64 (hH : TH T00 f L) (h : RuT T00 T L i 0 p (P0 ++ cs)) (hp : p ≤ 60) (hl : (P0 ++ cs).length < 400) (hi : i ≤ L) : Ep (fun n => G64 n T) (RuZ T00 L P0 (vaF f L i p cs)) := by
  have hL := hH.2.1
  obtain ⟨m, ht⟩ := h.1
  have hb := bk_b (f := f) hi
  have hn := nm_b (f := f) hi
  have hd := dg_b (f := f) hb.2.1
  obtain ⟨res, hres⟩ : ∃ res, res = vaF f L i p cs := ⟨_, rfl⟩
  rw [← hres]
  unfold vaF at hres
  refine ep_succ (fun n => G64e0 n ..) ?_
  simp only [G64b0]
  refine ep_bind (g23 (RuT_TH hH h) hi ht) ?_
  rintro ⟨z1, T1⟩ ⟨a1, a2⟩
  have a1 : z1 = zI (sg f L (bk f L i)) := a1
  have a2 : TP T1 T L (bk f L i) m 0 := a2
  subst a1
  have r1 := RuT_tp h a2
  have hsg : sg f L (bk f L i) < 2 ^ 30 := by
    unfold sg
    by_cases hl : bk f L i < L
    · rw [if_pos hl]
      have := hH.2.2 _ hl
      omega
    · rw [if_neg hl]
      decide
  have word : Ep (fun n => (G22 n 8 T1).bind (fun z4 => if am_ic .ne z4.1 (-1) = true then (G65 n (z4.2.1 65 3) z4.2).bind (fun z7 => if am_if .ne z7.1 = true then (G62 n ((-1) - z4.1) z7.2).bind (fun z10 => some (1, z10.2)) else some (0, z7.2)) else some (0, z4.2))) (RuZ T00 L P0 (match wiF f L (bk f L i) wdW 0 with
    | none => (1 + 8 * bk f L i, bk f L i, p, cs)
    | some r => if 60 ≤ p then (4 + 8 * bk f L i, bk f L i + r.2, p, cs) else (0, bk f L i + r.2, p + 1, cs ++ [(1, r.1)]))) := by
    have g := g22 (RuT_TH hH r1) wd_Wd (by decide) (by decide) hb.2.1 (TP_self a2)
    rw [bk_id hi] at g
    refine ep_bind g ?_
    rintro ⟨z4, T2⟩ hz
    cases hw : wiF f L (bk f L i) wdW 0 with
    | none =>
      rw [hw] at hz
      obtain ⟨x1, x2⟩ := hz
      have x1 : z4 = zI 0 := x1
      subst x1
      have e1 : am_ic .ne (zI 0) (-1) = false := by decide
      simp only [e1, Bool.false_eq_true, if_false]
      exact ep_ret ⟨(if_neg (show ¬ 1 + 8 * bk f L i = 0 by omega)).symm, _, _, _, RuT_tp r1 x2, fun z => absurd z (show ¬ 1 + 8 * bk f L i = 0 by omega)⟩
    | some r =>
      rw [hw] at hz
      obtain ⟨w1, w2, w3⟩ := wi_b wdW 0 hw
      have w2 : r.1 < 0 + 11 := w2
      obtain ⟨x1, x2⟩ := hz
      have x1 : z4 = nI r.1 := x1
      have x2 : TP T2 T1 L (bk f L i + r.2) (bk f L i) 0 := x2
      subst x1
      have x3 : T2.1 65 3 = nI (bk f L i) := x2.2.2.1
      have e1 : am_ic .ne (nI r.1) (-1) = true := ic_nn_m1 (by omega)
      have ec : (-1) - nI r.1 = cdI (1, r.1) := rfl
      simp only [e1, if_true, x3, ec]
      exact cnt_w (t := (1, r.1)) (RuT_tp r1 x2) hp hl
  by_cases d0 : dg f L (bk f L i) = 0
  · rw [if_neg (fun z => z d0)] at hres
    have nd : sg f L (bk f L i) < 49 ∨ 58 < sg f L (bk f L i) := by
      by_cases hl2 : bk f L i < L
      · have := hd.2.2 (by omega)
        rw [d0, Nat.add_zero] at this
        have e : sg f L (bk f L i) = f (bk f L i) + 1 := if_pos hl2
        omega
      · have e : sg f L (bk f L i) = 0 := if_neg hl2
        omega
    rw [hres]
    by_cases h48 : sg f L (bk f L i) < 49
    · have e1 : am_ic .lt (zI (sg f L (bk f L i))) 48 = true := by
        have := ic_lt_z (k := sg f L (bk f L i)) (c := 48) hsg (by decide)
        rw [decide_eq_true h48] at this
        exact this
      simp only [e1, if_true]
      exact word
    · have e1 : am_ic .lt (zI (sg f L (bk f L i))) 48 = false := by
        have := ic_lt_z (k := sg f L (bk f L i)) (c := 48) hsg (by decide)
        rw [decide_eq_false h48] at this
        exact this
      have e2 : am_ic .gt (zI (sg f L (bk f L i))) 57 = true := by
        have := ic_gt_z (k := sg f L (bk f L i)) (c := 57) hsg (by decide)
        rw [decide_eq_true (show 57 + 1 < sg f L (bk f L i) by omega)] at this
        exact this
      simp only [e1, e2, if_true, Bool.false_eq_true, if_false]
      exact word
  · rw [if_pos d0] at hres
    have dd := hd.2.1 0 (by omega)
    rw [Nat.add_zero] at dd
    have hl2 : bk f L i < L := by
      have := hd.1
      omega
    have e : sg f L (bk f L i) = f (bk f L i) + 1 := if_pos hl2
    have e1 : am_ic .lt (zI (sg f L (bk f L i))) 48 = false := by
      have := ic_lt_z (k := sg f L (bk f L i)) (c := 48) hsg (by decide)
      rw [decide_eq_false (show ¬ sg f L (bk f L i) < 48 + 1 by omega)] at this
      exact this
    have e2 : am_ic .gt (zI (sg f L (bk f L i))) 57 = false := by
      have := ic_gt_z (k := sg f L (bk f L i)) (c := 57) hsg (by decide)
      rw [decide_eq_false (show ¬ 57 + 1 < sg f L (bk f L i) by omega)] at this
      exact this
    simp only [e1, e2, Bool.false_eq_true, if_false]
    have g := g41 (RuT_TH hH r1) hb.2.1 (TP_self a2)
    have enm : nmF f L (bk f L i) = nmF f L i := by
      unfold nmF
      rw [bk_id hi]
    rw [enm, bk_id hi] at g
    refine ep_bind g ?_
    rintro ⟨z4, T2⟩ ⟨x1, x2⟩
    have x1 : z4 = if (nmF f L i).1 = 0 then nI (nmF f L i).2.1 else zI 0 := x1
    have x2 : TP T2 T1 L (nmF f L i).2.2 (bk f L i) (nmF f L i).1 := x2
    subst x1
    by_cases h0 : (nmF f L i).1 = 0
    · rw [if_neg (fun z => z h0)] at hres
      rw [if_pos h0, hres]
      rw [h0] at x2
      have x3 : T2.1 65 3 = nI (bk f L i) := x2.2.2.1
      have e3 : am_ic .ne (nI (nmF f L i).2.1) (-1) = true := ic_nn_m1 (by omega)
      have ec : nI (nmF f L i).2.1 = cdI (0, (nmF f L i).2.1) := rfl
      simp only [e3, if_true, x3]
      rw [ec]
      exact cnt_w (t := (0, (nmF f L i).2.1)) (RuT_tp r1 x2) hp hl
    · rw [if_pos h0] at hres
      rw [if_neg h0, hres]
      have e3 : am_ic .ne (zI 0) (-1) = false := by decide
      simp only [e3, Bool.false_eq_true, if_false]
      exact ep_ret ⟨(if_neg h0).symm, _, _, _, RuT_tp r1 x2, fun z => absurd z h0⟩
theorem g66 {j : Nat} (hs : sg f L j < 2 ^ 30) : Ev (fun n => G66 n (zI (sg f L j)) T) (opz (muS f L j), T) := by
  refine ev_succ (fun n => G66e0 n ..) ?_
  have e37 : (zI (sg f L j) = (37 : Int32)) = (sg f L j = 38) := zI_e (c := 37) hs (by decide)
  have e42 : (zI (sg f L j) = (42 : Int32)) = (sg f L j = 43) := zI_e (c := 42) hs (by decide)
  have e47 : (zI (sg f L j) = (47 : Int32)) = (sg f L j = 48) := zI_e (c := 47) hs (by decide)
  simp only [G66b0, e37, e42, e47]
  unfold muS
  by_cases h1 : sg f L j = 38
  · simp only [h1, if_true]
    exact ev_ret
  · by_cases h2 : sg f L j = 43
    · simp only [h2, if_true]
      exact ev_ret
    · by_cases h3 : sg f L j = 48
      · simp only [h3, if_true]
        exact ev_ret
      · simp only [h1, h2, h3, if_false]
        exact ev_ret
theorem g67 {j : Nat} (hs : sg f L j < 2 ^ 30) : Ev (fun n => G67 n (zI (sg f L j)) T) (opz (adS f L j), T) := by
  refine ev_succ (fun n => G67e0 n ..) ?_
  have e43 : (zI (sg f L j) = (43 : Int32)) = (sg f L j = 44) := zI_e (c := 43) hs (by decide)
  have e45 : (zI (sg f L j) = (45 : Int32)) = (sg f L j = 46) := zI_e (c := 45) hs (by decide)
  simp only [G67b0, e43, e45]
  unfold adS
  by_cases h2 : sg f L j = 44
  · simp only [h2, if_true]
    exact ev_ret
  · by_cases h3 : sg f L j = 46
    · simp only [h3, if_true]
      exact ev_ret
    · simp only [h2, h3, if_false]
      exact ev_ret
end Ru
