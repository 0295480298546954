/-! the class's object and all that it holds, by kinds of places: 64 to 129 from its making on, from 172 on what is made later. The state: numbers by place and field, rows by place, rows of longs, rows of references (and the stream's three, by field); beside it the kinds of the later places, how many they are, and the room used -/
abbrev xS : Type := (Nat → Nat → Int32) × (Nat → Nat → Int32) × (Nat → Nat → Int64) × (Nat → Nat → Option Nat)
abbrev gS : Type := (Nat → Nat × Nat) × Nat × Nat
def x_k0 : List (Nat × Nat) := [(21, 0), (18, 0), (1, 400), (15, 0), (10, 0), (1, 16), (1, 16), (1, 16), (1, 16), (1, 6), (19, 0), (1, 13), (1, 13), (1, 13), (1, 13), (1, 13), (1, 13), (1, 13), (1, 13), (1, 16), (1, 6), (16, 0), (1, 400), (4, 6), (20, 0), (10, 0), (1, 16), (1, 16), (1, 16), (1, 16), (1, 6), (19, 0), (1, 13), (1, 13), (1, 13), (1, 13), (1, 13), (1, 13), (1, 13), (1, 13), (1, 16), (1, 6), (14, 0), (5, 20), (6, 4), (17, 0), (19, 0), (1, 13), (1, 13), (1, 13), (1, 13), (1, 13), (1, 13), (1, 13), (1, 13), (1, 16), (1, 6), (2, 11), (2, 60), (12, 0), (1, 289), (13, 0), (1, 8), (1, 8), (1, 8), (1, 2048)]
def x_kd (G : gS) (p : Nat) : Nat × Nat := if p < 130 then (if p < 64 then (0, 0) else x_k0.getD (p - 64) (0, 0)) else if p < 172 then (0, 0) else if p < 172 + G.2.1 then G.1 p else (0, 0)
def x_ce (p : Nat) (i a : Nat → Int32) (l : Nat → Int64) (r : Nat → Option Nat) (k : Nat × Nat) : va_E := if k.1 = 1 then .inl (0, k.2, .inl a) else if k.1 = 2 then .inl (1, k.2, .inr (.inl l)) else if k.1 < 10 then .inl (k.1, k.2, .inr (.inr (.inr (.inr r)))) else if k.1 = 10 then .inr (0, [.int (i 0), .int (i 1), .int (i 2), .ref (p + 1), .ref (p + 2), .ref (p + 3), .ref (p + 4), .ref (p + 5)]) else if k.1 = 11 then .inr (1, [.ref (p + 1)]) else if k.1 = 12 then .inr (2, [.ref (p + 1), .int (i 1)]) else if k.1 = 13 then .inr (3, [.ref (p + 1), .ref (p + 2), .ref (p + 3), .ref (p + 4), .int (i 4)]) else if k.1 = 14 then .inr (4, [.ref (p + 1), .int (i 1), .int (i 2)]) else if k.1 = 15 then .inr (5, [.ref (p + 1), .ref (p + 7)]) else if k.1 = 16 then .inr (6, [.ref (p + 1), .int (i 1), .int (i 2)]) else if k.1 = 17 then .inr (7, [.ref (p + 1), .ref (p + 12), .ref (p + 13), va_rf (r 3), va_rf (r 4), va_rf (r 5), .int (i 6), .int (i 7), .int (i 8)]) else if k.1 = 18 then .inr (8, [.ref (p + 1), .int (i 1), .int (i 2), .int (i 3), .int (i 4)]) else if k.1 = 19 then .inr (9, [.int (i 0), .int (i 1), .int (i 2), .ref (p + 1), .ref (p + 2), .ref (p + 3), .ref (p + 4), .ref (p + 5), .ref (p + 6), .ref (p + 7), .ref (p + 8), .ref (p + 9), .ref (p + 10)]) else if k.1 = 20 then .inr (10, [.ref (p + 1), .ref (p + 7), .ref (p + 18), .int (i 3), .int (i 4)]) else if k.1 = 21 then .inr (11, [.ref (p + 1), .ref (p + 3), .ref (p + 21), .ref (p + 23), .int (i 4), .ref (p + 24), .ref (p + 44), .ref (p + 45), .ref (p + 59), .ref (p + 61)]) else .inr (99, [])
def xst (T : xS) (G : gS) (h : Nat → va_E) : AmH := (fun p => if (x_kd G p).1 = 0 then h p else x_ce p (T.1 p) (T.2.1 p) (T.2.2.1 p) (T.2.2.2 p) (x_kd G p), 172 + G.2.1, G.2.2)
def x_sI (T : xS) (p k : Nat) (x : Int32) : xS := (va_up T.1 p (upd (T.1 p) k x), T.2)
def x_sR (T : xS) (p : Nat) (f : Nat → Int32) : xS := (T.1, va_up T.2.1 p f, T.2.2)
def x_sA (T : xS) (p j : Nat) (x : Int32) : xS := x_sR T p (upd (T.2.1 p) j x)
def x_sL (T : xS) (p j : Nat) (x : Int64) : xS := (T.1, T.2.1, va_up T.2.2.1 p (vp_updL (T.2.2.1 p) j x), T.2.2.2)
def x_sQ (T : xS) (p j : Nat) (r : Option Nat) : xS := (T.1, T.2.1, T.2.2.1, va_up T.2.2.2 p (va_up (T.2.2.2 p) j r))
theorem x_k6 {G : gS} {p : Nat} {k : Nat × Nat} (hk : x_kd G p = k) (h0 : k.1 ≠ 0) : 64 ≤ p := by
  refine Nat.le_of_not_lt (fun hp => h0 ?_)
  rw [← hk]
  unfold x_kd
  rw [if_pos (by omega), if_pos hp]
theorem x_lt {T : xS} {G : gS} {h : Nat → va_E} {p : Nat} {k : Nat × Nat} (hk : x_kd G p = k) (h0 : k.1 ≠ 0) : p < (xst T G h).2.1 := by
  refine Nat.lt_of_not_le (fun hp => h0 ?_)
  rw [← hk]
  have hp' : 172 + G.2.1 ≤ p := hp
  unfold x_kd
  rw [if_neg (by omega), if_neg (by omega), if_neg (by omega)]
theorem x_h {T : xS} {G : gS} {h : Nat → va_E} {p : Nat} {k : Nat × Nat} (hk : x_kd G p = k) (h0 : k.1 ≠ 0) : (xst T G h).1 p = x_ce p (T.1 p) (T.2.1 p) (T.2.2.1 p) (T.2.2.2 p) k := by
  subst hk
  exact if_neg h0
theorem x_c {X : Nat → va_E} {T : xS} {G : gS} {h : Nat → va_E} {p : Nat} {k : Nat × Nat} (hk : x_kd G p = k) (h0 : k.1 ≠ 0) : am_c X (xst T G h) p = x_ce p (T.1 p) (T.2.1 p) (T.2.2.1 p) (T.2.2.2 p) k := by
  have h6 := x_k6 hk h0
  unfold am_c
  rw [if_neg (by omega)]
  exact x_h hk h0
theorem x_upg {T T' : xS} {G : gS} {h : Nat → va_E} {p : Nat} {k : Nat × Nat} {c : va_E} (hk : x_kd G p = k) (h0 : k.1 ≠ 0) (hc : c = x_ce p (T'.1 p) (T'.2.1 p) (T'.2.2.1 p) (T'.2.2.2 p) k) (hd : ∀ q, q ≠ p → T'.1 q = T.1 q ∧ T'.2.1 q = T.2.1 q ∧ T'.2.2.1 q = T.2.2.1 q ∧ T'.2.2.2 q = T.2.2.2 q) : am_up (xst T G h) p c = xst T' G h := by
  subst hk
  unfold am_up xst
  congr 1
  funext q
  unfold va_up
  by_cases hq : q = p
  · subst hq
    rw [if_pos rfl, if_neg h0]
    exact hc
  · rw [if_neg hq]
    obtain ⟨e1, e2, e3, e4⟩ := hd q hq
    rw [e1, e2, e3, e4]
theorem va_upN {α : Type} {f : Nat → α} {p q : Nat} {x : α} (h : q ≠ p) : va_up f p x q = f q := if_neg h
theorem va_upS {α : Type} {f : Nat → α} {p : Nat} {x : α} : va_up f p x p = x := if_pos rfl
theorem x_uI {T : xS} {G : gS} {h : Nat → va_E} {p j : Nat} {x : Int32} {k : Nat × Nat} (hk : x_kd G p = k) (h0 : k.1 ≠ 0) : am_up (xst T G h) p (x_ce p (upd (T.1 p) j x) (T.2.1 p) (T.2.2.1 p) (T.2.2.2 p) k) = xst (x_sI T p j x) G h :=
  x_upg hk h0 (by show _ = x_ce p (va_up T.1 p (upd (T.1 p) j x) p) _ _ _ k; rw [va_upS]; rfl) (fun q hq => ⟨va_upN hq, rfl, rfl, rfl⟩)
theorem x_uR {T : xS} {G : gS} {h : Nat → va_E} {p : Nat} {f : Nat → Int32} {k : Nat × Nat} (hk : x_kd G p = k) (h0 : k.1 ≠ 0) : am_up (xst T G h) p (x_ce p (T.1 p) f (T.2.2.1 p) (T.2.2.2 p) k) = xst (x_sR T p f) G h :=
  x_upg hk h0 (by show _ = x_ce p _ (va_up T.2.1 p f p) _ _ k; rw [va_upS]; rfl) (fun q hq => ⟨rfl, va_upN hq, rfl, rfl⟩)
theorem x_uA {T : xS} {G : gS} {h : Nat → va_E} {p n j : Nat} {x : Int32} (hk : x_kd G p = (1, n)) : am_up (xst T G h) p (.inl (0, n, .inl (upd (T.2.1 p) j x))) = xst (x_sA T p j x) G h := x_uR hk (Nat.succ_ne_zero _)
theorem x_uC {T : xS} {G : gS} {h : Nat → va_E} {p n : Nat} {f : Nat → Int32} (hk : x_kd G p = (1, n)) : am_up (xst T G h) p (.inl (0, n, .inl f)) = xst (x_sR T p f) G h := x_uR hk (Nat.succ_ne_zero _)
theorem x_uL {T : xS} {G : gS} {h : Nat → va_E} {p n j : Nat} {x : Int64} (hk : x_kd G p = (2, n)) : am_up (xst T G h) p (.inl (1, n, .inr (.inl (vp_updL (T.2.2.1 p) j x)))) = xst (x_sL T p j x) G h :=
  x_upg hk (Nat.succ_ne_zero _) (by show _ = x_ce p _ _ (va_up T.2.2.1 p (vp_updL (T.2.2.1 p) j x) p) _ (2, n); rw [va_upS]; rfl) (fun q hq => ⟨rfl, rfl, va_upN hq, rfl⟩)
theorem x_uQ {T : xS} {G : gS} {h : Nat → va_E} {p j : Nat} {v : Option Nat} {k : Nat × Nat} (hk : x_kd G p = k) (h0 : k.1 ≠ 0) : am_up (xst T G h) p (x_ce p (T.1 p) (T.2.1 p) (T.2.2.1 p) (va_up (T.2.2.2 p) j v) k) = xst (x_sQ T p j v) G h :=
  x_upg hk h0 (by show _ = x_ce p _ _ _ (va_up T.2.2.2 p (va_up (T.2.2.2 p) j v) p) k; rw [va_upS]; rfl) (fun q hq => ⟨rfl, rfl, rfl, va_upN hq⟩)
theorem go_heap {X : Nat → va_E} {d mid pc : Nat} {L st : List Value} {h1 h2 : AmH} {Q : Option Value → AmH → Prop} (e : h1 = h2) (g : Go X d mid pc L st h2 Q) : Go X d mid pc L st h1 Q := e ▸ g
theorem xk_64 {G : gS} : x_kd G 64 = (21, 0) := rfl
theorem xk_65 {G : gS} : x_kd G 65 = (18, 0) := rfl
theorem xk_66 {G : gS} : x_kd G 66 = (1, 400) := rfl
theorem xk_67 {G : gS} : x_kd G 67 = (15, 0) := rfl
theorem xk_68 {G : gS} : x_kd G 68 = (10, 0) := rfl
theorem xk_69 {G : gS} : x_kd G 69 = (1, 16) := rfl
theorem xk_70 {G : gS} : x_kd G 70 = (1, 16) := rfl
theorem xk_71 {G : gS} : x_kd G 71 = (1, 16) := rfl
theorem xk_72 {G : gS} : x_kd G 72 = (1, 16) := rfl
theorem xk_73 {G : gS} : x_kd G 73 = (1, 6) := rfl
theorem xk_74 {G : gS} : x_kd G 74 = (19, 0) := rfl
theorem xk_75 {G : gS} : x_kd G 75 = (1, 13) := rfl
theorem xk_76 {G : gS} : x_kd G 76 = (1, 13) := rfl
theorem xk_77 {G : gS} : x_kd G 77 = (1, 13) := rfl
theorem xk_78 {G : gS} : x_kd G 78 = (1, 13) := rfl
theorem xk_79 {G : gS} : x_kd G 79 = (1, 13) := rfl
theorem xk_80 {G : gS} : x_kd G 80 = (1, 13) := rfl
theorem xk_81 {G : gS} : x_kd G 81 = (1, 13) := rfl
theorem xk_82 {G : gS} : x_kd G 82 = (1, 13) := rfl
theorem xk_83 {G : gS} : x_kd G 83 = (1, 16) := rfl
theorem xk_84 {G : gS} : x_kd G 84 = (1, 6) := rfl
theorem xk_85 {G : gS} : x_kd G 85 = (16, 0) := rfl
theorem xk_86 {G : gS} : x_kd G 86 = (1, 400) := rfl
theorem xk_87 {G : gS} : x_kd G 87 = (4, 6) := rfl
theorem xk_88 {G : gS} : x_kd G 88 = (20, 0) := rfl
theorem xk_89 {G : gS} : x_kd G 89 = (10, 0) := rfl
theorem xk_90 {G : gS} : x_kd G 90 = (1, 16) := rfl
theorem xk_91 {G : gS} : x_kd G 91 = (1, 16) := rfl
theorem xk_92 {G : gS} : x_kd G 92 = (1, 16) := rfl
theorem xk_93 {G : gS} : x_kd G 93 = (1, 16) := rfl
theorem xk_94 {G : gS} : x_kd G 94 = (1, 6) := rfl
theorem xk_95 {G : gS} : x_kd G 95 = (19, 0) := rfl
theorem xk_96 {G : gS} : x_kd G 96 = (1, 13) := rfl
theorem xk_97 {G : gS} : x_kd G 97 = (1, 13) := rfl
theorem xk_98 {G : gS} : x_kd G 98 = (1, 13) := rfl
theorem xk_99 {G : gS} : x_kd G 99 = (1, 13) := rfl
theorem xk_100 {G : gS} : x_kd G 100 = (1, 13) := rfl
theorem xk_101 {G : gS} : x_kd G 101 = (1, 13) := rfl
theorem xk_102 {G : gS} : x_kd G 102 = (1, 13) := rfl
theorem xk_103 {G : gS} : x_kd G 103 = (1, 13) := rfl
theorem xk_104 {G : gS} : x_kd G 104 = (1, 16) := rfl
theorem xk_105 {G : gS} : x_kd G 105 = (1, 6) := rfl
theorem xk_106 {G : gS} : x_kd G 106 = (14, 0) := rfl
theorem xk_107 {G : gS} : x_kd G 107 = (5, 20) := rfl
theorem xk_108 {G : gS} : x_kd G 108 = (6, 4) := rfl
theorem xk_109 {G : gS} : x_kd G 109 = (17, 0) := rfl
theorem xk_110 {G : gS} : x_kd G 110 = (19, 0) := rfl
theorem xk_111 {G : gS} : x_kd G 111 = (1, 13) := rfl
theorem xk_112 {G : gS} : x_kd G 112 = (1, 13) := rfl
theorem xk_113 {G : gS} : x_kd G 113 = (1, 13) := rfl
theorem xk_114 {G : gS} : x_kd G 114 = (1, 13) := rfl
theorem xk_115 {G : gS} : x_kd G 115 = (1, 13) := rfl
theorem xk_116 {G : gS} : x_kd G 116 = (1, 13) := rfl
theorem xk_117 {G : gS} : x_kd G 117 = (1, 13) := rfl
theorem xk_118 {G : gS} : x_kd G 118 = (1, 13) := rfl
theorem xk_119 {G : gS} : x_kd G 119 = (1, 16) := rfl
theorem xk_120 {G : gS} : x_kd G 120 = (1, 6) := rfl
theorem xk_121 {G : gS} : x_kd G 121 = (2, 11) := rfl
theorem xk_122 {G : gS} : x_kd G 122 = (2, 60) := rfl
theorem xk_123 {G : gS} : x_kd G 123 = (12, 0) := rfl
theorem xk_124 {G : gS} : x_kd G 124 = (1, 289) := rfl
theorem xk_125 {G : gS} : x_kd G 125 = (13, 0) := rfl
theorem xk_126 {G : gS} : x_kd G 126 = (1, 8) := rfl
theorem xk_127 {G : gS} : x_kd G 127 = (1, 8) := rfl
theorem xk_128 {G : gS} : x_kd G 128 = (1, 8) := rfl
theorem xk_129 {G : gS} : x_kd G 129 = (1, 2048) := rfl
def wB (G : gS) (b : Nat) : Bool := decide (x_kd G b = (19, 0) ∧ x_kd G (b + 1) = (1, 13) ∧ x_kd G (b + 2) = (1, 13) ∧ x_kd G (b + 3) = (1, 13) ∧ x_kd G (b + 4) = (1, 13) ∧ x_kd G (b + 5) = (1, 13) ∧ x_kd G (b + 6) = (1, 13) ∧ x_kd G (b + 7) = (1, 13) ∧ x_kd G (b + 8) = (1, 13) ∧ x_kd G (b + 9) = (1, 16) ∧ x_kd G (b + 10) = (1, 6))
theorem wk0 {G : gS} {b : Nat} (hb : wB G b = true) : x_kd G b = (19, 0) := (of_decide_eq_true hb).1
theorem wk1 {G : gS} {b : Nat} (hb : wB G b = true) : x_kd G (b + 1) = (1, 13) := (of_decide_eq_true hb).2.1
theorem wk2 {G : gS} {b : Nat} (hb : wB G b = true) : x_kd G (b + 2) = (1, 13) := (of_decide_eq_true hb).2.2.1
theorem wk3 {G : gS} {b : Nat} (hb : wB G b = true) : x_kd G (b + 3) = (1, 13) := (of_decide_eq_true hb).2.2.2.1
theorem wk4 {G : gS} {b : Nat} (hb : wB G b = true) : x_kd G (b + 4) = (1, 13) := (of_decide_eq_true hb).2.2.2.2.1
theorem wk5 {G : gS} {b : Nat} (hb : wB G b = true) : x_kd G (b + 5) = (1, 13) := (of_decide_eq_true hb).2.2.2.2.2.1
theorem wk6 {G : gS} {b : Nat} (hb : wB G b = true) : x_kd G (b + 6) = (1, 13) := (of_decide_eq_true hb).2.2.2.2.2.2.1
theorem wk7 {G : gS} {b : Nat} (hb : wB G b = true) : x_kd G (b + 7) = (1, 13) := (of_decide_eq_true hb).2.2.2.2.2.2.2.1
theorem wk8 {G : gS} {b : Nat} (hb : wB G b = true) : x_kd G (b + 8) = (1, 13) := (of_decide_eq_true hb).2.2.2.2.2.2.2.2.1
theorem wk9 {G : gS} {b : Nat} (hb : wB G b = true) : x_kd G (b + 9) = (1, 16) := (of_decide_eq_true hb).2.2.2.2.2.2.2.2.2.1
theorem wk10 {G : gS} {b : Nat} (hb : wB G b = true) : x_kd G (b + 10) = (1, 6) := (of_decide_eq_true hb).2.2.2.2.2.2.2.2.2.2
def bB (G : gS) (b : Nat) : Bool := decide (x_kd G b = (10, 0) ∧ x_kd G (b + 1) = (1, 16) ∧ x_kd G (b + 2) = (1, 16) ∧ x_kd G (b + 3) = (1, 16) ∧ x_kd G (b + 4) = (1, 16) ∧ x_kd G (b + 5) = (1, 6))
theorem bk0 {G : gS} {b : Nat} (hb : bB G b = true) : x_kd G b = (10, 0) := (of_decide_eq_true hb).1
theorem bk1 {G : gS} {b : Nat} (hb : bB G b = true) : x_kd G (b + 1) = (1, 16) := (of_decide_eq_true hb).2.1
theorem bk2 {G : gS} {b : Nat} (hb : bB G b = true) : x_kd G (b + 2) = (1, 16) := (of_decide_eq_true hb).2.2.1
theorem bk3 {G : gS} {b : Nat} (hb : bB G b = true) : x_kd G (b + 3) = (1, 16) := (of_decide_eq_true hb).2.2.2.1
theorem bk4 {G : gS} {b : Nat} (hb : bB G b = true) : x_kd G (b + 4) = (1, 16) := (of_decide_eq_true hb).2.2.2.2.1
theorem bk5 {G : gS} {b : Nat} (hb : bB G b = true) : x_kd G (b + 5) = (1, 6) := (of_decide_eq_true hb).2.2.2.2.2
def pB (G : gS) (b : Nat) : Bool := decide (x_kd G b = (14, 0) ∧ x_kd G (b + 1) = (5, 20))
theorem pk0 {G : gS} {b : Nat} (hb : pB G b = true) : x_kd G b = (14, 0) := (of_decide_eq_true hb).1
theorem pk1 {G : gS} {b : Nat} (hb : pB G b = true) : x_kd G (b + 1) = (5, 20) := (of_decide_eq_true hb).2
def vB (G : gS) (b : Nat) : Bool := decide (x_kd G b = (20, 0)) && bB G (b + 1) && wB G (b + 7) && pB G (b + 18)
theorem vk0 {G : gS} {b : Nat} (hb : vB G b = true) : x_kd G b = (20, 0) := by simp only [vB, Bool.and_eq_true, decide_eq_true_eq] at hb; exact hb.1.1.1
theorem vkb {G : gS} {b : Nat} (hb : vB G b = true) : bB G (b + 1) = true := by simp only [vB, Bool.and_eq_true, decide_eq_true_eq] at hb; exact hb.1.1.2
theorem vkw {G : gS} {b : Nat} (hb : vB G b = true) : wB G (b + 7) = true := by simp only [vB, Bool.and_eq_true, decide_eq_true_eq] at hb; exact hb.1.2
theorem vkp {G : gS} {b : Nat} (hb : vB G b = true) : pB G (b + 18) = true := by simp only [vB, Bool.and_eq_true, decide_eq_true_eq] at hb; exact hb.2
def lB (G : gS) (q n : Nat) : Bool := decide (x_kd G q = (11, 0) ∧ x_kd G (q + 1) = (1, n))
theorem lk0 {G : gS} {q n : Nat} (hb : lB G q n = true) : x_kd G q = (11, 0) := (of_decide_eq_true hb).1
theorem lk1 {G : gS} {q n : Nat} (hb : lB G q n = true) : x_kd G (q + 1) = (1, n) := (of_decide_eq_true hb).2
theorem wS_74 {G : gS} : wB G 74 = true := decide_eq_true ⟨rfl, rfl, rfl, rfl, rfl, rfl, rfl, rfl, rfl, rfl, rfl⟩
theorem wS_95 {G : gS} : wB G 95 = true := decide_eq_true ⟨rfl, rfl, rfl, rfl, rfl, rfl, rfl, rfl, rfl, rfl, rfl⟩
theorem wS_110 {G : gS} : wB G 110 = true := decide_eq_true ⟨rfl, rfl, rfl, rfl, rfl, rfl, rfl, rfl, rfl, rfl, rfl⟩
theorem bS_68 {G : gS} : bB G 68 = true := decide_eq_true ⟨rfl, rfl, rfl, rfl, rfl, rfl⟩
theorem bS_89 {G : gS} : bB G 89 = true := decide_eq_true ⟨rfl, rfl, rfl, rfl, rfl, rfl⟩
theorem pS_106 {G : gS} : pB G 106 = true := decide_eq_true ⟨rfl, rfl⟩
theorem vS_88 {G : gS} : vB G 88 = true := by unfold vB; rw [bS_89, wS_95, pS_106]; rfl
theorem x_c_1 {xs : Nat → Int32} {L9 : Nat} {T : xS} {G : gS} {h : Nat → va_E} : am_c (am_X xs L9) (xst T G h) 1 = .inl (0, 9, .inl (fun j => am_tens.getD j 0)) := rfl
theorem x_lt1 {T : xS} {G : gS} {h : Nat → va_E} : 1 < (xst T G h).2.1 := by show 1 < 172 + G.2.1; omega
theorem xs_lt {S : xS} {G : gS} {h : Nat → va_E} {p : Nat} (hs : sOk p) : p < (xst S G h).2.1 := Nat.lt_of_lt_of_le (Nat.lt_trans hs.2.2 (by decide : 60 < 172)) (Nat.le_add_right _ _)
theorem x_64 {S : xS} {G : gS} {h : Nat → va_E} : 64 ≤ (xst S G h).2.1 := by show 64 ≤ 172 + G.2.1; omega
