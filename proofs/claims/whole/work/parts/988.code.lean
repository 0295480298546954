/-! what a code says: a stack of values, the top ahead -/
def opV (o : Nat) (a b : Int64) : Int64 := if o = 2 then a + b else if o = 3 then a - b else if o = 4 then (if am_if .ge (lg_cmp a b) = true then 0 else 1) else if o = 5 then (if am_if .gt (lg_cmp a b) = true then 0 else 1) else if o = 6 then (if am_if .ne (lg_cmp a b) = true then 0 else 1) else if o = 7 then (if am_if .lt (lg_cmp a b) = true then 0 else 1) else if o = 8 then (if am_if .le (lg_cmp a b) = true then 0 else 1) else if o = 10 then a &&& b else if o = 13 then a * b else if o = 14 then (if am_if .ne (lg_cmp b 0) = true then a / b else 0) else if o = 15 then (if am_if .ne (lg_cmp b 0) = true then a - a / b * b else 0) else a ||| b
def st1 (x : Nat → Int64) (t : TK) (st : List Int64) : List Int64 := if t.1 = 0 then Int32.toInt64 (nI t.2) :: st else if t.1 = 1 then x t.2 :: st else if t.1 = 9 then (match st with
  | [] => []
  | a :: s => (1 - a) :: s) else (match st with
  | b :: a :: s => opV t.1 a b :: s
  | _ => [])
def stk (x : Nat → Int64) : List TK → List Int64 → List Int64
  | [], st => st
  | t :: ts, st => stk x ts (st1 x t st)
def okt (t : TK) : Prop := t.1 ≤ 15 ∧ t.1 ≠ 12 ∧ (t.1 = 0 → t.2 ≤ 99999) ∧ (t.1 = 1 → t.2 < 11) ∧ (2 ≤ t.1 → t.2 = 0)
/-- from a height to a height, never above 60 -/
def okc : List TK → Nat → Nat → Prop
  | [], h, h' => h' = h
  | t :: ts, h, h' => okt t ∧ (if t.1 ≤ 1 then h < 60 ∧ okc ts (h + 1) h' else if t.1 = 9 then 1 ≤ h ∧ okc ts h h' else 2 ≤ h ∧ okc ts (h - 1) h')
theorem okc_app : ∀ (a : List TK) {b : List TK} {h h1 h2 : Nat}, okc a h h1 → okc b h1 h2 → okc (a ++ b) h h2
  | [], b, h, h1, h2, ha, hb => by
    have ha : h1 = h := ha
    subst ha
    exact hb
  | t :: ts, b, h, h1, h2, ha, hb => by
    obtain ⟨x, y⟩ := ha
    refine ⟨x, ?_⟩
    show if t.1 ≤ 1 then h < 60 ∧ okc (ts ++ b) (h + 1) h2 else if t.1 = 9 then 1 ≤ h ∧ okc (ts ++ b) h h2 else 2 ≤ h ∧ okc (ts ++ b) (h - 1) h2
    by_cases c1 : t.1 ≤ 1
    · rw [if_pos c1] at y ⊢
      exact ⟨y.1, okc_app ts y.2 hb⟩
    · rw [if_neg c1] at y ⊢
      by_cases c2 : t.1 = 9
      · rw [if_pos c2] at y ⊢
        exact ⟨y.1, okc_app ts y.2 hb⟩
      · rw [if_neg c2] at y ⊢
        exact ⟨y.1, okc_app ts y.2 hb⟩
theorem stk_app {x : Nat → Int64} : ∀ (a b : List TK) (st : List Int64), stk x (a ++ b) st = stk x b (stk x a st)
  | [], b, st => rfl
  | t :: ts, b, st => stk_app ts b (st1 x t st)
def bop (o : Nat) : Prop := 2 ≤ o ∧ o ≤ 15 ∧ o ≠ 9 ∧ o ≠ 12
theorem ok_op {o h : Nat} (ho : bop o) (hh : 2 ≤ h) : okc [(o, 0)] h (h - 1) := by
  obtain ⟨o1, o2, o3, o4⟩ := ho
  refine ⟨⟨o2, o4, fun z => absurd z (show ¬ o = 0 by omega), fun z => absurd z (show ¬ o = 1 by omega), fun _ => rfl⟩, ?_⟩
  rw [if_neg (show ¬ o ≤ 1 by omega), if_neg o3]
  exact ⟨hh, rfl⟩
theorem stk_op {x : Nat → Int64} {o : Nat} {a b : Int64} {st : List Int64} (ho : bop o) : stk x [(o, 0)] (b :: a :: st) = opV o a b :: st := by
  obtain ⟨o1, o2, o3, o4⟩ := ho
  show st1 x (o, 0) (b :: a :: st) = _
  unfold st1
  rw [if_neg (show ¬ o = 0 by omega), if_neg (show ¬ o = 1 by omega), if_neg o3]
def opl (o : Nat) : List TK := if o = 0 then [] else [(o, 0)]
theorem opL_eq {o : Nat} {cs : List TK} : opL o cs = cs ++ opl o := by
  unfold opL opl
  by_cases h : o = 0
  · rw [if_pos h, if_pos h, List.append_nil]
  · rw [if_neg h, if_neg h]
def opS (o : Nat) (a : Int64) : List Int64 := if o = 0 then [] else [a]
def oTn (o : Nat) : Prop := o = 0 ∨ bop o
/-- an operator that waits, behind its second value -/
theorem opl_v {o : Nat} (ho : oTn o) : (∀ h, okc (opl o) (h + na o + 1) (h + 1)) ∧ ∀ (x : Nat → Int64) (a v : Int64) (st : List Int64), ∃ w, stk x (opl o) (v :: (opS o a ++ st)) = w :: st := by
  rcases ho with h0 | ho
  · subst h0
    exact ⟨fun h => (rfl : h + 1 = h + na 0 + 1), fun x a v st => ⟨v, rfl⟩⟩
  · have hz : ¬ o = 0 := by have := ho.1; omega
    have e1 : opl o = [(o, 0)] := if_neg hz
    have e2 : na o = 1 := if_neg hz
    rw [e1, e2]
    refine ⟨fun h => ?_, fun x a v st => ?_⟩
    · have := ok_op (h := h + 1 + 1) ho (by omega)
      exact this
    · have e3 : opS o a = [a] := if_neg hz
      rw [e3]
      exact ⟨_, stk_op ho⟩
theorem va_c {f : Nat → Nat} {L i p : Nat} {cs : List TK} (hi : i ≤ L) (h : (vaF f L i p cs).1 = 0) : p < 60 ∧ ∃ t : TK, (vaF f L i p cs).2.2.2 = cs ++ [t] ∧ t.1 ≤ 1 ∧ okt t := by
  unfold vaF at h ⊢
  by_cases d0 : dg f L (bk f L i) = 0
  · rw [if_neg (fun z => z d0)] at h ⊢
    cases hw : wiF f L (bk f L i) wdW 0 with
    | none =>
      rw [hw] at h
      exact absurd h (show ¬ 1 + 8 * bk f L i = 0 by omega)
    | some r =>
      rw [hw] at h
      obtain ⟨w1, w2, w3⟩ := wi_b wdW 0 hw
      have w2 : r.1 < 0 + 11 := w2
      have h : (if 60 ≤ p then (4 + 8 * bk f L i, bk f L i + r.2, p, cs) else (0, bk f L i + r.2, p + 1, cs ++ [(1, r.1)]) : PS).1 = 0 := h
      show p < 60 ∧ ∃ t : TK, (if 60 ≤ p then (4 + 8 * bk f L i, bk f L i + r.2, p, cs) else (0, bk f L i + r.2, p + 1, cs ++ [(1, r.1)]) : PS).2.2.2 = cs ++ [t] ∧ t.1 ≤ 1 ∧ okt t
      by_cases h60 : 60 ≤ p
      · rw [if_pos h60] at h
        exact absurd h (show ¬ 4 + 8 * bk f L i = 0 by omega)
      · rw [if_neg h60]
        refine ⟨by omega, (1, r.1), rfl, Nat.le_refl _, show (1 : Nat) ≤ 15 by decide, show (1 : Nat) ≠ 12 by decide, fun z => absurd z (show ¬ (1 : Nat) = 0 by decide), fun _ => show r.1 < 11 by omega, fun z => absurd z (show ¬ (2 : Nat) ≤ 1 by decide)⟩
  · rw [if_pos d0] at h ⊢
    by_cases h0 : (nmF f L i).1 = 0
    · rw [if_neg (fun z => z h0)] at h ⊢
      by_cases h60 : 60 ≤ p
      · rw [if_pos h60] at h
        exact absurd h (show ¬ 4 + 8 * bk f L i = 0 by omega)
      · rw [if_neg h60]
        refine ⟨by omega, (0, (nmF f L i).2.1), rfl, Nat.zero_le _, show (0 : Nat) ≤ 15 by decide, show (0 : Nat) ≠ 12 by decide, fun _ => ?_, fun z => absurd z (show ¬ (0 : Nat) = 1 by decide), fun z => absurd z (show ¬ (2 : Nat) ≤ 0 by decide)⟩
        have := (nm_b (f := f) hi).2.1
        show (nmF f L i).2.1 ≤ 99999
        omega
    · rw [if_pos h0] at h
      exact absurd h h0
theorem ok_v {t : TK} {h : Nat} (ht : t.1 ≤ 1) (ho : okt t) (hh : h < 60) : okc [t] h (h + 1) := by
  refine ⟨ho, ?_⟩
  rw [if_pos ht]
  exact ⟨hh, rfl⟩
theorem stk_v {x : Nat → Int64} {t : TK} (st : List Int64) (ht : t.1 ≤ 1) : ∃ v, stk x [t] st = v :: st := by
  show ∃ v, st1 x t st = v :: st
  unfold st1
  by_cases h0 : t.1 = 0
  · rw [if_pos h0]
    exact ⟨_, rfl⟩
  · rw [if_neg h0, if_pos (by omega)]
    exact ⟨_, rfl⟩
theorem mu_n {f : Nat → Nat} {L j : Nat} : oTn (muS f L j) := by
  unfold muS oTn bop
  split
  · exact Or.inr (by decide)
  · split
    · exact Or.inr (by decide)
    · split
      · exact Or.inr (by decide)
      · exact Or.inl rfl
theorem ad_n {f : Nat → Nat} {L j : Nat} : oTn (adS f L j) := by
  unfold adS oTn bop
  split
  · exact Or.inr (by decide)
  · split
    · exact Or.inr (by decide)
    · exact Or.inl rfl
/-- a sum's code, with what waits -/
def Ws (ad tm : Nat) (c : List TK) (p : Nat) : Prop := (∀ h, h + na ad + na tm ≤ p → okc c (h + na ad + na tm) (h + 1)) ∧ ∀ (x : Nat → Int64) (a t : Int64) (st : List Int64), ∃ v, stk x c (opS tm t ++ (opS ad a ++ st)) = v :: st
theorem opS_1 {o : Nat} {a : Int64} (h : o ≠ 0) : opS o a = [a] := if_neg h
theorem opS_0 {a : Int64} : opS 0 a = [] := if_pos rfl
theorem sm_c {f : Nat → Nat} {L : Nat} : ∀ (m ad tm i p : Nat) (cs : List TK), m + p = 61 → p ≤ 60 → i ≤ L → oTn ad → oTn tm → (smF f L m ad tm i p cs).1 = 0 → ∃ c, (smF f L m ad tm i p cs).2.2.2 = cs ++ c ∧ Ws ad tm c p
  | 0, ad, tm, i, p, cs, hm, hp, hi, ha, ht, h => by omega
  | m + 1, ad, tm, i, p, cs, hm, hp, hi, ha, ht, h => by
    obtain ⟨v1, v2, v3⟩ := va_g (f := f) (cs := cs) hi hp
    have hb := bk_b (f := f) v2
    unfold smF at h ⊢
    by_cases h0 : (vaF f L i p cs).1 = 0
    · obtain ⟨p60, t, e1, t1, t2⟩ := va_c hi h0
      have hp1 : (vaF f L i p cs).2.2.1 = p + 1 := va_p h0
      obtain ⟨k1, k2⟩ := opl_v ht
      have et : opL tm (vaF f L i p cs).2.2.2 = cs ++ ([t] ++ opl tm) := by rw [opL_eq, e1, List.append_assoc]
      have ok1 : ∀ h, h + na ad + na tm ≤ p → okc ([t] ++ opl tm) (h + na ad + na tm) (h + na ad + 1) := fun h hh => okc_app [t] (ok_v t1 t2 (by omega)) (k1 (h + na ad))
      have st1 : ∀ (x : Nat → Int64) (b : Int64) (st : List Int64), ∃ v, stk x ([t] ++ opl tm) (opS tm b ++ st) = v :: st := fun x b st => by
        obtain ⟨v, hv⟩ := stk_v (x := x) (opS tm b ++ st) t1
        rw [stk_app, hv]
        exact k2 x b v st
      rw [if_neg (fun z => z h0)] at h ⊢
      by_cases hmu : muS f L (bk f L (vaF f L i p cs).2.1) = 0
      · rw [if_neg (fun z => z hmu)] at h ⊢
        obtain ⟨q1, q2⟩ := opl_v ha
        have ea : opL ad (opL tm (vaF f L i p cs).2.2.2) = cs ++ (([t] ++ opl tm) ++ opl ad) := by rw [opL_eq, et, List.append_assoc]
        have ok2 : ∀ h, h + na ad + na tm ≤ p → okc (([t] ++ opl tm) ++ opl ad) (h + na ad + na tm) (h + 1) := fun h hh => okc_app _ (ok1 h hh) (q1 h)
        have st2 : ∀ (x : Nat → Int64) (a b : Int64) (st : List Int64), ∃ v, stk x (([t] ++ opl tm) ++ opl ad) (opS tm b ++ (opS ad a ++ st)) = v :: st := fun x a b st => by
          obtain ⟨v, hv⟩ := st1 x b (opS ad a ++ st)
          rw [stk_app, hv]
          exact q2 x a v st
        by_cases had : adS f L (bk f L (vaF f L i p cs).2.1) = 0
        · rw [if_neg (fun z => z had)]
          exact ⟨_, ea, ok2, st2⟩
        · rw [if_pos had] at h ⊢
          have hl := ad_l had
          obtain ⟨c, c1, c2, c3⟩ := sm_c m _ _ _ _ _ (by omega) (by omega) (by omega) ad_n (Or.inl rfl) h
          refine ⟨(([t] ++ opl tm) ++ opl ad) ++ c, by rw [c1, ea, List.append_assoc], fun h hh => okc_app _ (ok2 h hh) ?_, fun x a b st => ?_⟩
          · have := c2 h (by rw [na_1 had, na_0]; omega)
            rw [na_1 had, na_0] at this
            exact this
          · obtain ⟨v, hv⟩ := st2 x a b st
            rw [stk_app, hv]
            have := c3 x v 0 st
            rw [opS_0, opS_1 had] at this
            exact this
      · rw [if_pos hmu] at h ⊢
        have hl := mu_l hmu
        obtain ⟨c, c1, c2, c3⟩ := sm_c m _ _ _ _ _ (by omega) (by omega) (by omega) ha mu_n h
        refine ⟨([t] ++ opl tm) ++ c, by rw [c1, et, List.append_assoc], fun h hh => okc_app _ (ok1 h hh) ?_, fun x a b st => ?_⟩
        · have := c2 h (by rw [na_1 hmu]; omega)
          rw [na_1 hmu] at this
          exact this
        · obtain ⟨v, hv⟩ := st1 x b (opS ad a ++ st)
          rw [stk_app, hv]
          have := c3 x a v st
          rw [opS_1 hmu] at this
          exact this
    · rw [if_pos h0] at h
      exact absurd h h0
theorem smG_c {f : Nat → Nat} {L i p : Nat} {cs : List TK} (hp : p ≤ 60) (hi : i ≤ L) (h : (smG f L i p cs).1 = 0) : ∃ c, (smG f L i p cs).2.2.2 = cs ++ c ∧ (∀ h, h ≤ p → okc c h (h + 1)) ∧ (∀ (x : Nat → Int64) (st : List Int64), ∃ v, stk x c st = v :: st) ∧ p + 1 ≤ (smG f L i p cs).2.2.1 := by
  unfold smG at h ⊢
  obtain ⟨c, c1, c2, c3⟩ := sm_c (61 - p) 0 0 i p cs (by omega) hp hi (Or.inl rfl) (Or.inl rfl) h
  refine ⟨c, c1, fun h hh => c2 h hh, fun x st => c3 x 0 0 st, sm_p (61 - p) 0 0 i p cs (by omega) hp hi h⟩
/-- a test's code -/
def v01 (v : Int64) : Prop := v = 0 ∨ v = 1
def Tst (c : List TK) (p : Nat) : Prop := (∀ h, h ≤ p → okc c h (h + 1)) ∧ ∀ (x : Nat → Int64) (st : List Int64), ∃ v, v01 v ∧ stk x c st = v :: st
theorem cmO_b {f : Nat → Nat} {L j : Nat} : bop (cmO f L j) ∧ ∀ a b, v01 (opV (cmO f L j) a b) := by
  have k : ∀ (x : Bool), v01 (if x = true then 0 else 1) := fun x => by cases x <;> (unfold v01; decide)
  have h : ∀ o, (o = 4 ∨ o = 5 ∨ o = 6 ∨ o = 7 ∨ o = 8) → bop o ∧ ∀ a b, v01 (opV o a b) := by
    intro o ho
    rcases ho with rfl | rfl | rfl | rfl | rfl
    · exact ⟨by unfold bop; decide, fun a b => k _⟩
    · exact ⟨by unfold bop; decide, fun a b => k _⟩
    · exact ⟨by unfold bop; decide, fun a b => k _⟩
    · exact ⟨by unfold bop; decide, fun a b => k _⟩
    · exact ⟨by unfold bop; decide, fun a b => k _⟩
  apply h
  unfold cmO
  split
  · omega
  · split
    · split
      · omega
      · omega
    · split
      · omega
      · omega
theorem cm_c {f : Nat → Nat} {L i p : Nat} {cs : List TK} (hp : p ≤ 60) (hi : i ≤ L) (h : (cmF f L i p cs).1 = 0) : ∃ c, (cmF f L i p cs).2.2.2 = cs ++ c ∧ Tst c p := by
  obtain ⟨⟨s1, s2, s3⟩, s4⟩ := smG_g (f := f) (cs := cs) hi hp
  unfold cmF at h ⊢
  by_cases h0 : (c2F f L (smG f L i p cs)).1 = 0
  · rw [if_neg (fun z => z h0)]
    show ∃ c, (c2F f L (smG f L i p cs)).2.2.2 ++ [(cmO f L (smG f L i p cs).2.1, 0)] = cs ++ c ∧ Tst c p
    unfold c2F at h0 ⊢
    by_cases k0 : (smG f L i p cs).1 = 0
    · obtain ⟨c, c1, c2, c3, c4⟩ := smG_c hp hi k0
      rw [if_neg (fun z => z k0)] at h0 ⊢
      by_cases hc : isC f L (smG f L i p cs).2.1 = false
      · rw [if_pos hc] at h0
        exact absurd h0 (show ¬ 1 + 8 * (smG f L i p cs).2.1 = 0 by omega)
      · rw [if_neg hc] at h0 ⊢
        have hc : isC f L (smG f L i p cs).2.1 = true := by simpa using hc
        have hl := is_l hc
        by_cases h60 : 60 ≤ (smG f L i p cs).2.2.1
        · rw [if_pos h60] at h0
          exact absurd h0 (show ¬ 4 + 8 * (smG f L i p cs).2.1 = 0 by omega)
        · rw [if_neg h60] at h0 ⊢
          obtain ⟨w1, w2⟩ := wi_1 (f := f) (L := L) (j := (smG f L i p cs).2.1)
          obtain ⟨d, d1, d2, d3, d4⟩ := smG_c (by omega) (by
            by_cases hw : wiS f L (smG f L i p cs).2.1 = 1
            · have := w2 hw
              omega
            · omega) h0
          obtain ⟨b1, b2⟩ := cmO_b (f := f) (L := L) (j := (smG f L i p cs).2.1)
          refine ⟨c ++ (d ++ [(cmO f L (smG f L i p cs).2.1, 0)]), by rw [d1, c1, List.append_assoc, List.append_assoc], fun h hh => ?_, fun x st => ?_⟩
          · refine okc_app c (c2 h hh) (okc_app d (d2 (h + 1) (by omega)) ?_)
            have := ok_op (h := h + 1 + 1) b1 (by omega)
            exact this
          · obtain ⟨v, hv⟩ := c3 x st
            obtain ⟨w, hw⟩ := d3 x (v :: st)
            rw [stk_app, hv, stk_app, hw, stk_op b1]
            exact ⟨_, b2 v w, rfl⟩
    · rw [if_pos k0] at h0
      exact absurd h0 k0
  · rw [if_pos h0] at h
    exact absurd h h0
/-- a test's code, with what waits -/
def bSt (o : Bool) (a : Int64) : List Int64 := if o = true then [a] else []
def Tsw (an o : Bool) (c : List TK) (p : Nat) : Prop := (∀ h, h + b1 o + b1 an ≤ p → okc c (h + b1 o + b1 an) (h + 1)) ∧ ∀ (x : Nat → Int64) (a b : Int64) (st : List Int64), v01 a → v01 b → ∃ v, v01 v ∧ stk x c (bSt an a ++ (bSt o b ++ st)) = v :: st
def bl (z : Bool) (o : Nat) : List TK := if z = true then [(o, 0)] else []
theorem bl_eq {z : Bool} {o : Nat} {cs : List TK} : (if z = true then cs ++ [(o, 0)] else cs) = cs ++ bl z o := by
  cases z with
  | true => rfl
  | false => exact (List.append_nil cs).symm
theorem bl_v {z : Bool} {o : Nat} (ho : bop o) (hv : ∀ a b, v01 a → v01 b → v01 (opV o a b)) : (∀ h, okc (bl z o) (h + b1 z + 1) (h + 1)) ∧ ∀ (x : Nat → Int64) (a v : Int64) (st : List Int64), v01 a → v01 v → ∃ w, v01 w ∧ stk x (bl z o) (v :: (bSt z a ++ st)) = w :: st := by
  cases z with
  | false => exact ⟨fun h => (rfl : h + 1 = h + 0 + 1), fun x a v st _ h => ⟨v, h, rfl⟩⟩
  | true =>
    refine ⟨fun h => ?_, fun x a v st ha h => ⟨_, hv a v ha h, stk_op ho⟩⟩
    have := ok_op (h := h + 1 + 1) ho (by omega)
    exact this
theorem and_v : ∀ a b, v01 a → v01 b → v01 (opV 10 a b) := by
  intro a b ha hb
  rcases ha with rfl | rfl <;> rcases hb with rfl | rfl <;> (unfold v01; decide)
theorem or_v : ∀ a b, v01 a → v01 b → v01 (opV 11 a b) := by
  intro a b ha hb
  rcases ha with rfl | rfl <;> rcases hb with rfl | rfl <;> (unfold v01; decide)
theorem not_v : ∀ a, v01 a → v01 (1 - a) := by
  intro a ha
  rcases ha with rfl | rfl <;> (unfold v01; decide)
theorem pr_c {f : Nat → Nat} {L : Nat} : ∀ (m : Nat) (k : Bool) (d : Nat) (an o : Bool) (i p : Nat) (cs : List TK), (prF f L m k d an o i p cs).1 = 0 → (k = true → 2 * (L - i) + 1 ≤ m) → (k = false → 2 * (L - i) + 2 ≤ m) → p ≤ 60 → i ≤ L → ∃ c, (prF f L m k d an o i p cs).2.2.2 = cs ++ c ∧ (k = true → Tst c p) ∧ (k = false → Tsw an o c p)
  | 0, true, d, an, o, i, p, cs, h, h1, h2, hp, hi => by
    have := h1 rfl
    omega
  | 0, false, d, an, o, i, p, cs, h, h1, h2, hp, hi => by
    have := h2 rfl
    omega
  | m + 1, true, d, an, o, i, p, cs, h, h1, h2, hp, hi => by
    have hm := h1 rfl
    have hb := bk_b (f := f) hi
    unfold prF at h ⊢
    by_cases hbr : sg f L (bk f L i) = 92
    · rw [if_pos hbr] at h ⊢
      have hl := sg_l (x := 91) hbr
      by_cases hd : 10 ≤ d
      · rw [if_pos hd] at h
        exact absurd h (show ¬ 3 + 8 * bk f L i = 0 by omega)
      · rw [if_neg hd] at h ⊢
        unfold brF at h ⊢
        by_cases h0 : (prF f L m false (d + 1) false false (bk f L i + 1) p cs).1 = 0
        · obtain ⟨c, c1, _, c2⟩ := pr_c m false (d + 1) false false (bk f L i + 1) p cs h0 (fun z => absurd z (by decide)) (fun _ => by omega) hp (by omega)
          obtain ⟨c3, c4⟩ := c2 rfl
          rw [if_neg (fun z => z h0)] at h ⊢
          by_cases hc : sg f L (bk f L (prF f L m false (d + 1) false false (bk f L i + 1) p cs).2.1) = 94
          · rw [if_pos hc]
            exact ⟨c, c1, fun _ => ⟨fun h hh => c3 h hh, fun x st => c4 x 0 0 st (Or.inl rfl) (Or.inl rfl)⟩, fun z => absurd z (by decide)⟩
          · rw [if_neg hc] at h
            exact absurd h (show ¬ 1 + 8 * bk f L (prF f L m false (d + 1) false false (bk f L i + 1) p cs).2.1 = 0 by omega)
        · rw [if_pos h0] at h
          exact absurd h h0
    · rw [if_neg hbr] at h ⊢
      by_cases hnt : wmB f L (bk f L i) wNot = true
      · rw [if_pos hnt] at h ⊢
        have hl : bk f L i + 3 ≤ L := wm_len hnt
        by_cases hd : 10 ≤ d
        · rw [if_pos hd] at h
          exact absurd h (show ¬ 3 + 8 * bk f L i = 0 by omega)
        · rw [if_neg hd] at h ⊢
          unfold ntF at h ⊢
          by_cases h0 : (prF f L m true (d + 1) false false (bk f L i + 3) p cs).1 = 0
          · obtain ⟨c, c1, c2, _⟩ := pr_c m true (d + 1) false false (bk f L i + 3) p cs h0 (fun _ => by omega) (fun z => absurd z (by decide)) hp hl
            obtain ⟨c3, c4⟩ := c2 rfl
            rw [if_neg (fun z => z h0)]
            refine ⟨c ++ [(9, 0)], by show (prF f L m true (d + 1) false false (bk f L i + 3) p cs).2.2.2 ++ [(9, 0)] = _; rw [c1, List.append_assoc], fun _ => ⟨fun h hh => okc_app c (c3 h hh) ?_, fun x st => ?_⟩, fun z => absurd z (by decide)⟩
            · refine ⟨⟨show (9 : Nat) ≤ 15 by decide, show (9 : Nat) ≠ 12 by decide, fun z => absurd z (show ¬ (9 : Nat) = 0 by decide), fun z => absurd z (show ¬ (9 : Nat) = 1 by decide), fun _ => rfl⟩, ?_⟩
              rw [if_neg (show ¬ (9 : Nat) ≤ 1 by decide), if_pos rfl]
              exact ⟨by omega, rfl⟩
            · obtain ⟨v, v1, v2⟩ := c4 x st
              rw [stk_app, v2]
              exact ⟨1 - v, not_v v v1, rfl⟩
          · rw [if_pos h0] at h
            exact absurd h h0
      · rw [if_neg hnt] at h ⊢
        obtain ⟨c, c1, c2⟩ := cm_c hp hb.2.1 h
        exact ⟨c, c1, fun _ => c2, fun z => absurd z (by decide)⟩
  | m + 1, false, d, an, o, i, p, cs, h, h1, h2, hp, hi => by
    have hm := h2 rfl
    obtain ⟨r1, r2, r3⟩ := pr_g (f := f) (L := L) m true d false false i p cs (fun _ => by omega) (fun z => absurd z (by decide)) hp hi
    rw [if_pos rfl] at r3
    have hb := bk_b (f := f) r2
    unfold prF at h ⊢
    by_cases h0 : (prF f L m true d false false i p cs).1 = 0
    · obtain ⟨g1, g2, g3, g4, g5, g6⟩ := r3 h0
      have hq := pr_q m true d false false i p cs h0 (fun _ => by omega) (fun z => absurd z (by decide)) hp hi
      obtain ⟨c, c1, c2, _⟩ := pr_c m true d false false i p cs h0 (fun _ => by omega) (fun z => absurd z (by decide)) hp hi
      obtain ⟨c3, c4⟩ := c2 rfl
      obtain ⟨a1, a2⟩ := bl_v (z := an) (o := 10) (by unfold bop; decide) and_v
      obtain ⟨o1, o2⟩ := bl_v (z := o) (o := 11) (by unfold bop; decide) or_v
      rw [if_neg (fun z => z h0)] at h ⊢
      have ea : (if an = true then (prF f L m true d false false i p cs).2.2.2 ++ [(10, 0)] else (prF f L m true d false false i p cs).2.2.2) = cs ++ (c ++ bl an 10) := by rw [bl_eq, c1, List.append_assoc]
      have ok1 : ∀ h, h + b1 o + b1 an ≤ p → okc (c ++ bl an 10) (h + b1 o + b1 an) (h + b1 o + 1) := fun h hh => okc_app c (c3 _ hh) (a1 (h + b1 o))
      have st1 : ∀ (x : Nat → Int64) (a : Int64) (st : List Int64), v01 a → ∃ v, v01 v ∧ stk x (c ++ bl an 10) (bSt an a ++ st) = v :: st := fun x a st ha => by
        obtain ⟨v, v1, v2⟩ := c4 x (bSt an a ++ st)
        rw [stk_app, v2]
        exact a2 x a v st ha v1
      have hb1 : b1 true = 1 := rfl
      have hb0 : b1 false = 0 := rfl
      by_cases hw : wmB f L (bk f L (prF f L m true d false false i p cs).2.1) wAnd = true
      · rw [if_pos hw] at h ⊢
        have hl : bk f L (prF f L m true d false false i p cs).2.1 + 3 ≤ L := wm_len hw
        obtain ⟨e, e1, _, e2⟩ := pr_c m false d true o _ _ _ h (fun z => absurd z (by decide)) (fun _ => by omega) g3 hl
        obtain ⟨e3, e4⟩ := e2 rfl
        refine ⟨(c ++ bl an 10) ++ e, by rw [e1, ea, List.append_assoc], fun z => absurd z (by decide), fun _ => ⟨fun h hh => okc_app _ (ok1 h hh) ?_, fun x a b st ha hb => ?_⟩⟩
        · have := e3 h (by omega)
          rw [hb1] at this
          exact this
        · obtain ⟨v, v1, v2⟩ := st1 x a (bSt o b ++ st) ha
          rw [stk_app, v2]
          exact e4 x v b st v1 hb
      · rw [if_neg hw] at h ⊢
        have eo : (if o = true then (if an = true then (prF f L m true d false false i p cs).2.2.2 ++ [(10, 0)] else (prF f L m true d false false i p cs).2.2.2) ++ [(11, 0)] else (if an = true then (prF f L m true d false false i p cs).2.2.2 ++ [(10, 0)] else (prF f L m true d false false i p cs).2.2.2)) = cs ++ ((c ++ bl an 10) ++ bl o 11) := by rw [bl_eq, ea, List.append_assoc]
        have ok2 : ∀ h, h + b1 o + b1 an ≤ p → okc ((c ++ bl an 10) ++ bl o 11) (h + b1 o + b1 an) (h + 1) := fun h hh => okc_app _ (ok1 h hh) (o1 h)
        have st2 : ∀ (x : Nat → Int64) (a b : Int64) (st : List Int64), v01 a → v01 b → ∃ v, v01 v ∧ stk x ((c ++ bl an 10) ++ bl o 11) (bSt an a ++ (bSt o b ++ st)) = v :: st := fun x a b st ha hb => by
          obtain ⟨v, v1, v2⟩ := st1 x a (bSt o b ++ st) ha
          rw [stk_app, v2]
          exact o2 x b v st hb v1
        by_cases hw2 : wmB f L (bk f L (prF f L m true d false false i p cs).2.1) wOr = true
        · rw [if_pos hw2] at h ⊢
          have hl : bk f L (prF f L m true d false false i p cs).2.1 + 2 ≤ L := wm_len hw2
          obtain ⟨e, e1, _, e2⟩ := pr_c m false d false true _ _ _ h (fun z => absurd z (by decide)) (fun _ => by omega) g3 hl
          obtain ⟨e3, e4⟩ := e2 rfl
          refine ⟨((c ++ bl an 10) ++ bl o 11) ++ e, by rw [e1, eo, List.append_assoc], fun z => absurd z (by decide), fun _ => ⟨fun h hh => okc_app _ (ok2 h hh) ?_, fun x a b st ha hb => ?_⟩⟩
          · have := e3 h (by omega)
            rw [hb1, hb0] at this
            exact this
          · obtain ⟨v, v1, v2⟩ := st2 x a b st ha hb
            rw [stk_app, v2]
            exact e4 x 0 v st (Or.inl rfl) v1
        · rw [if_neg hw2]
          exact ⟨_, eo, fun z => absurd z (by decide), fun _ => ⟨ok2, st2⟩⟩
    · rw [if_pos h0] at h
      exact absurd h h0
