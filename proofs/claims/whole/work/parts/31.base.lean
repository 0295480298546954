/-! numbers that may be none, literals, reading what was written -/
def zI (k : Nat) : Int32 := if k = 0 then -1 else nI (k - 1)
theorem zI_0 : zI 0 = -1 := rfl
theorem zI_s (c : Nat) : zI (c + 1) = nI c := by
  unfold zI
  rw [if_neg (Nat.succ_ne_zero c), Nat.add_sub_cancel]
theorem L0 : (0 : Int32) = nI 0 := rfl
theorem L1 : (1 : Int32) = nI 1 := rfl
theorem L2 : (2 : Int32) = nI 2 := rfl
theorem L3 : (3 : Int32) = nI 3 := rfl
theorem L4 : (4 : Int32) = nI 4 := rfl
theorem L5 : (5 : Int32) = nI 5 := rfl
theorem L6 : (6 : Int32) = nI 6 := rfl
theorem L7 : (7 : Int32) = nI 7 := rfl
theorem L8 : (8 : Int32) = nI 8 := rfl
theorem L9 : (9 : Int32) = nI 9 := rfl
theorem L10 : (10 : Int32) = nI 10 := rfl
theorem L11 : (11 : Int32) = nI 11 := rfl
theorem L12 : (12 : Int32) = nI 12 := rfl
theorem L13 : (13 : Int32) = nI 13 := rfl
theorem L16 : (16 : Int32) = nI 16 := rfl
theorem L20 : (20 : Int32) = nI 20 := rfl
theorem L31 : (31 : Int32) = nI 31 := rfl
theorem L32 : (32 : Int32) = nI 32 := rfl
theorem L40 : (40 : Int32) = nI 40 := rfl
theorem L48 : (48 : Int32) = nI 48 := rfl
theorem L57 : (57 : Int32) = nI 57 := rfl
theorem L59 : (59 : Int32) = nI 59 := rfl
theorem L60 : (60 : Int32) = nI 60 := rfl
theorem L61 : (61 : Int32) = nI 61 := rfl
theorem L91 : (91 : Int32) = nI 91 := rfl
theorem L93 : (93 : Int32) = nI 93 := rfl
theorem L97 : (97 : Int32) = nI 97 := rfl
theorem L99 : (99 : Int32) = nI 99 := rfl
theorem L100 : (100 : Int32) = nI 100 := rfl
theorem L102 : (102 : Int32) = nI 102 := rfl
theorem L103 : (103 : Int32) = nI 103 := rfl
theorem L114 : (114 : Int32) = nI 114 := rfl
theorem L122 : (122 : Int32) = nI 122 := rfl
theorem L255 : (255 : Int32) = nI 255 := rfl
theorem L300 : (300 : Int32) = nI 300 := rfl
theorem L400 : (400 : Int32) = nI 400 := rfl
theorem L402 : (402 : Int32) = nI 402 := rfl
theorem L999 : (999 : Int32) = nI 999 := rfl
theorem L2280 : (2280 : Int32) = nI 2280 := rfl
theorem L2500 : (2500 : Int32) = nI 2500 := rfl
theorem L99999 : (99999 : Int32) = nI 99999 := rfl
theorem L63 : (63 : Int32) = nI 63 := rfl
theorem L1431655765 : (1431655765 : Int32) = nI 1431655765 := rfl
theorem L858993459 : (858993459 : Int32) = nI 858993459 := rfl
theorem L252645135 : (252645135 : Int32) = nI 252645135 := rfl
theorem Lm1 : -(nI 1) = zI 0 := rfl
theorem Lm2 : -(nI 2) = -2 := rfl
theorem nI_subN {a b : Nat} (h : b ≤ a) : nI a - nI b = nI (a - b) := by
  obtain ⟨c, rfl⟩ : ∃ c, a = c + b := ⟨a - b, by omega⟩
  rw [Nat.add_sub_cancel, ← nI_add]
  exact Int32.add_sub_cancel _ _
theorem zI_lt0 {k : Nat} (hk : k < 2 ^ 31) : zI k < 0 ↔ k = 0 := by
  cases k with
  | zero => exact ⟨fun _ => rfl, fun _ => by decide⟩
  | succ c =>
    rw [zI_s]
    exact ⟨fun h => absurd h (nI_pos (by omega)), fun h => by omega⟩
theorem if_lt_zI {k : Nat} (hk : k < 2 ^ 31) : am_if .lt (zI k) = decide (k = 0) := by
  show decide (zI k < 0) = _
  exact decide_eq_decide.mpr (zI_lt0 hk)
theorem if_ge_zI {k : Nat} (hk : k < 2 ^ 31) : am_if .ge (zI k) = !decide (k = 0) := by
  cases k with
  | zero => rfl
  | succ c =>
    rw [zI_s, if_ge (by omega)]
    simp
theorem zI_inj {a b : Nat} (ha : a < 2 ^ 31) (hb : b < 2 ^ 31) : zI a = zI b ↔ a = b := by
  cases a with
  | zero =>
    cases b with
    | zero => simp
    | succ b =>
      rw [zI_s]
      refine ⟨fun h => ?_, fun h => by omega⟩
      have h1 : (zI 0).toInt = (nI b).toInt := by rw [h]
      rw [nI_toInt (by omega), show (zI 0).toInt = -1 from by decide] at h1
      omega
  | succ a =>
    cases b with
    | zero =>
      rw [zI_s]
      refine ⟨fun h => ?_, fun h => by omega⟩
      have h1 : (nI a).toInt = (zI 0).toInt := by rw [h]
      rw [nI_toInt (by omega), show (zI 0).toInt = -1 from by decide] at h1
      omega
    | succ b =>
      rw [zI_s, zI_s, nI_eqI' (by omega) (by omega)]
      omega
theorem ic_ne_m1 {k : Nat} (hk : k < 2 ^ 31) : am_ic .ne (zI k) (zI 0) = !decide (k = 0) := by
  show (!decide (zI k = zI 0)) = _
  rw [decide_eq_decide.mpr (zI_inj hk (by decide))]
theorem ic_eq_m1 {k : Nat} (hk : k < 2 ^ 31) : am_ic .eq (zI k) (zI 0) = decide (k = 0) := by
  show decide (zI k = zI 0) = _
  rw [decide_eq_decide.mpr (zI_inj hk (by decide))]
theorem ic_nn_m1 {k : Nat} (hk : k < 2 ^ 31) : am_ic .ne (nI k) (zI 0) = true := by
  rw [← zI_s]
  show (!decide (zI (k + 1) = zI 0)) = _
  rw [decide_eq_false (fun h => by rw [zI_s] at h; have h1 : (nI k).toInt = (zI 0).toInt := by { rw [h] }; rw [nI_toInt hk, show (zI 0).toInt = -1 from by decide] at h1; omega)]
  rfl
theorem ic_ee_m1 {k : Nat} (hk : k < 2 ^ 31) : am_ic .eq (nI k) (zI 0) = false := by
  have h := ic_nn_m1 hk
  have h2 : am_ic .ne (nI k) (zI 0) = !am_ic .eq (nI k) (zI 0) := rfl
  rw [h2] at h
  simpa using h
theorem gdF {c N : Nat} (h : c < N) (hN : N < 2 ^ 31) : (nI c < 0 ∨ N ≤ (nI c).toNatClampNeg) = False := eq_false (nI_in h hN)
theorem gdF2 {c N : Nat} (h : c < N) (hN : N < 2 ^ 31) : (nI c < nI 0 ∨ N ≤ c) = False := by
  have := gdF h hN
  rw [nI_clamp (by omega)] at this
  exact this
theorem zI_cl {k : Nat} (hk : k ≠ 0) (h : k < 2 ^ 31) : (zI k).toNatClampNeg = k - 1 := by
  obtain ⟨c, rfl⟩ : ∃ c, k = c + 1 := ⟨k - 1, by omega⟩
  rw [zI_s, nI_clamp (by omega)]
  rfl
theorem gdP {k N : Nat} (hk : k ≠ 0) (h : k ≤ N) (hN : N < 2 ^ 31) : (zI k < 0 ∨ N ≤ (zI k).toNatClampNeg) = False := by
  obtain ⟨c, rfl⟩ : ∃ c, k = c + 1 := ⟨k - 1, by omega⟩
  rw [zI_s]
  exact gdF (by omega) hN
theorem gdP2 {k N : Nat} (hk : k ≠ 0) (h : k ≤ N) (hN : N < 2 ^ 31) : (zI k < nI 0 ∨ N ≤ k - 1) = False := by
  have := gdP hk h hN
  rw [zI_cl hk (by omega)] at this
  exact this
theorem nI_p10 {r : Nat} (h : r < 2 ^ 31) : nI r / nI 10 = nI (r / 10) := pk_div h (by decide) (by decide)
theorem nI_r10 {r : Nat} (h : r < 2 ^ 31) : nI r - nI (r / 10) * nI 10 = nI (r % 10) := by
  rw [← nI_p10 h]
  exact pk_rem h (by decide) (by decide)
theorem nI_mul (a b : Nat) : nI a * nI b = nI (a * b) := (Int32.ofNat_mul a b).symm
section RdX
variable {T : xS} {p q i j : Nat} {x : Int32} {y : Int64} {r : Option Nat} {f : Nat → Int32}
theorem x_rA1 : (x_sA T p j x).1 = T.1 := rfl
theorem x_rA3 : (x_sA T p j x).2.2 = T.2.2 := rfl
theorem x_rAe : (x_sA T p j x).2.1 p j = x := by
  show va_up T.2.1 p (upd (T.2.1 p) j x) p j = x
  rw [va_upS]
  exact if_pos rfl
theorem x_rAn (h : q ≠ p) : (x_sA T p j x).2.1 q = T.2.1 q := va_upN h
theorem x_rAi (h : i ≠ j) : (x_sA T p j x).2.1 p i = T.2.1 p i := by
  show va_up T.2.1 p (upd (T.2.1 p) j x) p i = _
  rw [va_upS]
  exact if_neg h
theorem x_rI2 : (x_sI T p j x).2 = T.2 := rfl
theorem x_rIe : (x_sI T p j x).1 p j = x := by
  show va_up T.1 p (upd (T.1 p) j x) p j = x
  rw [va_upS]
  exact if_pos rfl
theorem x_rIn (h : q ≠ p) : (x_sI T p j x).1 q = T.1 q := va_upN h
theorem x_rIi (h : i ≠ j) : (x_sI T p j x).1 p i = T.1 p i := by
  show va_up T.1 p (upd (T.1 p) j x) p i = _
  rw [va_upS]
  exact if_neg h
theorem x_rR1 : (x_sR T p f).1 = T.1 := rfl
theorem x_rR3 : (x_sR T p f).2.2 = T.2.2 := rfl
theorem x_rRe : (x_sR T p f).2.1 p = f := va_upS
theorem x_rRn (h : q ≠ p) : (x_sR T p f).2.1 q = T.2.1 q := va_upN h
theorem x_rL1 : (x_sL T p j y).1 = T.1 := rfl
theorem x_rL2 : (x_sL T p j y).2.1 = T.2.1 := rfl
theorem x_rL4 : (x_sL T p j y).2.2.2 = T.2.2.2 := rfl
theorem x_rLe : (x_sL T p j y).2.2.1 p j = y := by
  show va_up T.2.2.1 p (vp_updL (T.2.2.1 p) j y) p j = y
  rw [va_upS]
  exact if_pos rfl
theorem x_rLn (h : q ≠ p) : (x_sL T p j y).2.2.1 q = T.2.2.1 q := va_upN h
theorem x_rLi (h : i ≠ j) : (x_sL T p j y).2.2.1 p i = T.2.2.1 p i := by
  show va_up T.2.2.1 p (vp_updL (T.2.2.1 p) j y) p i = _
  rw [va_upS]
  exact if_neg h
theorem x_rQ1 : (x_sQ T p j r).1 = T.1 := rfl
theorem x_rQ2 : (x_sQ T p j r).2.1 = T.2.1 := rfl
theorem x_rQ3 : (x_sQ T p j r).2.2.1 = T.2.2.1 := rfl
theorem x_rQe : (x_sQ T p j r).2.2.2 p j = r := by
  show va_up T.2.2.2 p (va_up (T.2.2.2 p) j r) p j = r
  rw [va_upS, va_upS]
theorem x_rQn (h : q ≠ p) : (x_sQ T p j r).2.2.2 q = T.2.2.2 q := va_upN h
theorem x_rQi (h : i ≠ j) : (x_sQ T p j r).2.2.2 p i = T.2.2.2 p i := by
  show va_up T.2.2.2 p (va_up (T.2.2.2 p) j r) p i = _
  rw [va_upS, va_upN h]
end RdX
section RdM
variable {S : mS} {k q i j : Nat} {x : Int32} {y : Int64}
theorem m_rA1 : (m_sA S k j x).1 = S.1 := rfl
theorem m_rA3 : (m_sA S k j x).2.2 = S.2.2 := rfl
theorem m_rAe : (m_sA S k j x).2.1 k j = x := by
  show va_up S.2.1 k (upd (S.2.1 k) j x) k j = x
  rw [va_upS]
  exact if_pos rfl
theorem m_rAn (h : q ≠ k) : (m_sA S k j x).2.1 q = S.2.1 q := va_upN h
theorem m_rAi (h : i ≠ j) : (m_sA S k j x).2.1 k i = S.2.1 k i := by
  show va_up S.2.1 k (upd (S.2.1 k) j x) k i = _
  rw [va_upS]
  exact if_neg h
theorem m_rI2 : (m_sI S k x).2 = S.2 := rfl
theorem m_rIe : (m_sI S k x).1 k = x := if_pos rfl
theorem m_rIn (h : q ≠ k) : (m_sI S k x).1 q = S.1 q := if_neg h
theorem m_rL1 : (m_sL S k j y).1 = S.1 := rfl
theorem m_rL2 : (m_sL S k j y).2.1 = S.2.1 := rfl
theorem m_rLe : (m_sL S k j y).2.2 k j = y := by
  show va_up S.2.2 k (vp_updL (S.2.2 k) j y) k j = y
  rw [va_upS]
  exact if_pos rfl
theorem m_rLn (h : q ≠ k) : (m_sL S k j y).2.2 q = S.2.2 q := va_upN h
theorem m_rLi (h : i ≠ j) : (m_sL S k j y).2.2 k i = S.2.2 k i := by
  show va_up S.2.2 k (vp_updL (S.2.2 k) j y) k i = _
  rw [va_upS]
  exact if_neg h
end RdM
/-! a water, a bed: rows of numbers. Water: row 0 the day and how many scraps; 1 the cell + 1 (0: not on the river), 2 the text, 3 days to wait, 4 the fate, 5 whose + 1, 6 left on + 1; 7 meshes by cells; 8 printed by mills; and which dams are shut. Bed: row 0 cells, mills, dams; 1 flow + 1, 2 eddy, 3 mill + 1, 4 dam + 1, by cells; 5 letters by mills -/
abbrev AW : Type := (Nat → Nat → Nat) × Int32
abbrev AB : Type := Nat → Nat → Nat
def aS (w : AW) (r i v : Nat) : AW := (fun r' i' => if r' = r ∧ i' = i then v else w.1 r' i', w.2)
theorem aS_2 {w : AW} {r i v : Nat} : (aS w r i v).2 = w.2 := rfl
theorem aS_e {w : AW} {r i v : Nat} : (aS w r i v).1 r i = v := if_pos ⟨rfl, rfl⟩
theorem aS_n {w : AW} {r i v r' i' : Nat} (h : r' ≠ r) : (aS w r i v).1 r' i' = w.1 r' i' := if_neg (fun e => h e.1)
theorem aS_i {w : AW} {r i v i' : Nat} (h : i' ≠ i) : (aS w r i v).1 r i' = w.1 r i' := if_neg (fun e => h e.2)
theorem aS_r {w : AW} {r i v r' i' : Nat} : (aS w r i v).1 r' i' = if r' = r ∧ i' = i then v else w.1 r' i' := rfl
/-- a water at place p of the program's state -/
def CW (T : xS) (p : Nat) (w : AW) : Prop := T.1 p 0 = nI (w.1 0 0) ∧ T.1 p 1 = nI (w.1 0 1) ∧ T.1 p 2 = w.2 ∧ (∀ s, s < w.1 0 1 → T.2.1 (p + 1) s = zI (w.1 1 s) ∧ T.2.1 (p + 2) s = nI (w.1 2 s) ∧ T.2.1 (p + 3) s = nI (lenN (w.1 2 s)) ∧ T.2.1 (p + 4) s = letN 0 (w.1 2 s) ∧ T.2.1 (p + 5) s = nI (w.1 3 s) ∧ T.2.1 (p + 6) s = nI (w.1 4 s) ∧ T.2.1 (p + 7) s = zI (w.1 5 s) ∧ T.2.1 (p + 8) s = zI (w.1 6 s)) ∧ (∀ i, i < 16 → T.2.1 (p + 9) i = nI (w.1 7 i)) ∧ (∀ k, k < 6 → T.2.1 (p + 10) k = nI (w.1 8 k))
/-- a bed at place p -/
def CB (T : xS) (p : Nat) (b : AB) : Prop := T.1 p 0 = nI (b 0 0) ∧ T.1 p 1 = nI (b 0 1) ∧ T.1 p 2 = nI (b 0 2) ∧ (∀ i, i < b 0 0 → T.2.1 (p + 1) i = zI (b 1 i) ∧ T.2.1 (p + 2) i = nI (b 2 i) ∧ T.2.1 (p + 3) i = zI (b 3 i) ∧ T.2.1 (p + 4) i = zI (b 4 i)) ∧ (∀ k, k < b 0 1 → T.2.1 (p + 5) k = nI (b 5 k))
def OkB (b : AB) : Prop := b 0 0 ≤ 16 ∧ b 0 1 ≤ 6 ∧ b 0 2 ≤ 4 ∧ (∀ i, i < b 0 0 → b 1 i ≤ b 0 0 ∧ b 2 i ≤ 9 ∧ b 3 i ≤ b 0 1 ∧ b 4 i ≤ b 0 2) ∧ (∀ k, k < b 0 1 → 1 ≤ b 5 k ∧ b 5 k ≤ 6)
def OkS (b : AB) (w : AW) (s : Nat) : Prop := isTx (w.1 2 s) = true ∧ w.1 4 s ≤ 3 ∧ (w.1 1 s = 0 ↔ w.1 4 s ≠ 0) ∧ w.1 1 s ≤ b 0 0 ∧ w.1 3 s ≤ 9 ∧ (w.1 4 s = 3 → 1 ≤ w.1 5 s ∧ w.1 5 s ≤ s) ∧ (w.1 1 s = 0 → w.1 3 s = 0)
def OkW (b : AB) (w : AW) : Prop := w.1 0 1 ≤ 13 ∧ (∀ s, s < w.1 0 1 → OkS b w s) ∧ (∀ i, i < 16 → w.1 7 i ≤ 8 ∧ (w.1 7 i ≠ 0 → i < b 0 0)) ∧ (∀ k, k < 6 → b 0 1 ≤ k → w.1 8 k = 0)
/-- nothing but the water at wb has changed -/
def FrW (wb : Nat) (T T' : xS) : Prop := (∀ q, (q < wb ∨ wb + 10 < q) → T'.1 q = T.1 q ∧ T'.2.1 q = T.2.1 q) ∧ T'.2.2 = T.2.2
/-- nothing but the water at wb, the stream's counts and its rows of longs -/
def FrS (wb : Nat) (T T' : xS) : Prop := (∀ q, (q < wb ∨ wb + 10 < q) → q ≠ 109 → T'.1 q = T.1 q ∧ T'.2.1 q = T.2.1 q) ∧ T'.2.2.2 = T.2.2.2
theorem FrW_rf {wb : Nat} {T : xS} : FrW wb T T := ⟨fun _ _ => ⟨rfl, rfl⟩, rfl⟩
theorem FrW_tr {wb : Nat} {T1 T2 T3 : xS} (h1 : FrW wb T1 T2) (h2 : FrW wb T2 T3) : FrW wb T1 T3 := ⟨fun q hq => ⟨(h2.1 q hq).1.trans (h1.1 q hq).1, (h2.1 q hq).2.trans (h1.1 q hq).2⟩, h2.2.trans h1.2⟩
theorem FrS_rf {wb : Nat} {T : xS} : FrS wb T T := ⟨fun _ _ _ => ⟨rfl, rfl⟩, rfl⟩
theorem FrS_tr {wb : Nat} {T1 T2 T3 : xS} (h1 : FrS wb T1 T2) (h2 : FrS wb T2 T3) : FrS wb T1 T3 := ⟨fun q hq h9 => ⟨(h2.1 q hq h9).1.trans (h1.1 q hq h9).1, (h2.1 q hq h9).2.trans (h1.1 q hq h9).2⟩, h2.2.trans h1.2⟩
theorem FrW_S {wb : Nat} {T T' : xS} (h : FrW wb T T') : FrS wb T T' := ⟨fun q hq _ => h.1 q hq, congrArg (·.2) h.2⟩
theorem FrW_A {wb p j : Nat} {T : xS} {x : Int32} (h : wb ≤ p ∧ p ≤ wb + 10) : FrW wb T (x_sA T p j x) := ⟨fun q hq => ⟨rfl, x_rAn (by omega)⟩, rfl⟩
theorem FrW_R {wb p : Nat} {T : xS} {f : Nat → Int32} (h : wb ≤ p ∧ p ≤ wb + 10) : FrW wb T (x_sR T p f) := ⟨fun q hq => ⟨rfl, x_rRn (by omega)⟩, rfl⟩
theorem FrW_I {wb j : Nat} {T : xS} {x : Int32} : FrW wb T (x_sI T wb j x) := ⟨fun q hq => ⟨x_rIn (by omega), rfl⟩, rfl⟩
theorem FrS_I9 {wb j : Nat} {T : xS} {x : Int32} : FrS wb T (x_sI T 109 j x) := ⟨fun q hq h9 => ⟨x_rIn h9, rfl⟩, rfl⟩
theorem FrS_L {wb p j : Nat} {T : xS} {y : Int64} : FrS wb T (x_sL T p j y) := ⟨fun q hq h9 => ⟨rfl, rfl⟩, rfl⟩
/-- a water, a bed read the same where their places are the same -/
theorem CW_of {T T' : xS} {p : Nat} {w : AW} (h : CW T p w) (h1 : T'.1 p = T.1 p) (h2 : ∀ k, 1 ≤ k → k ≤ 10 → T'.2.1 (p + k) = T.2.1 (p + k)) : CW T' p w := by
  unfold CW at *
  rw [h1, h2 1 (by omega) (by omega), h2 2 (by omega) (by omega), h2 3 (by omega) (by omega), h2 4 (by omega) (by omega), h2 5 (by omega) (by omega), h2 6 (by omega) (by omega), h2 7 (by omega) (by omega), h2 8 (by omega) (by omega), h2 9 (by omega) (by omega), h2 10 (by omega) (by omega)]
  exact h
theorem CB_of {T T' : xS} {p : Nat} {b : AB} (h : CB T p b) (h1 : T'.1 p = T.1 p) (h2 : ∀ k, 1 ≤ k → k ≤ 5 → T'.2.1 (p + k) = T.2.1 (p + k)) : CB T' p b := by
  unfold CB at *
  rw [h1, h2 1 (by omega) (by omega), h2 2 (by omega) (by omega), h2 3 (by omega) (by omega), h2 4 (by omega) (by omega), h2 5 (by omega) (by omega)]
  exact h
theorem isTx_len {t : Nat} (h : isTx t = true) : 1 ≤ lenN t ∧ lenN t ≤ 8 ∧ 1 ≤ t := by
  unfold isTx at h
  simp only [Bool.and_eq_true, decide_eq_true_eq] at h
  refine ⟨?_, h.2.1, h.1⟩
  rw [lenN_s (by omega)]
  omega
theorem lenN_lt : ∀ (k t : Nat), lenN t ≤ k → t < 10 ^ k := by
  intro k
  induction k with
  | zero =>
    intro t h
    by_cases h0 : t = 0
    · subst h0; decide
    · rw [lenN_s h0] at h; omega
  | succ k ih =>
    intro t h
    by_cases h0 : t = 0
    · subst h0; exact Nat.pow_pos (by decide)
    · rw [lenN_s h0] at h
      have := ih (t / 10) (by omega)
      rw [Nat.pow_succ]
      omega
theorem isTx_lt {t : Nat} (h : isTx t = true) : t < 100000000 := lenN_lt 8 t (isTx_len h).2.1
