/-! the class's object and what it holds from its making on: places 64 to 129. Its state: numbers by place and field, rows by place, rows of longs, the stream's three references by field, rows of references -/
abbrev xS : Type := (Nat → Nat → Int32) × (Nat → Nat → Int32) × (Nat → Nat → Int64) × (Nat → Option Nat) × (Nat → Nat → Option Nat)
def x_tab (T : xS) : List va_E := [
  .inr (11, [.ref 65, .ref 67, .ref 85, .ref 87, .int (T.1 64 4), .ref 88, .ref 108, .ref 109, .ref 123, .ref 125]),
  .inr (8, [.ref 66, .int (T.1 65 1), .int (T.1 65 2), .int (T.1 65 3), .int (T.1 65 4)]),
  .inl (0, 400, .inl (T.2.1 66)),
  .inr (5, [.ref 68, .ref 74]),
  .inr (0, [.int (T.1 68 0), .int (T.1 68 1), .int (T.1 68 2), .ref 69, .ref 70, .ref 71, .ref 72, .ref 73]),
  .inl (0, 16, .inl (T.2.1 69)),
  .inl (0, 16, .inl (T.2.1 70)),
  .inl (0, 16, .inl (T.2.1 71)),
  .inl (0, 16, .inl (T.2.1 72)),
  .inl (0, 6, .inl (T.2.1 73)),
  .inr (9, [.int (T.1 74 0), .int (T.1 74 1), .int (T.1 74 2), .ref 75, .ref 76, .ref 77, .ref 78, .ref 79, .ref 80, .ref 81, .ref 82, .ref 83, .ref 84]),
  .inl (0, 13, .inl (T.2.1 75)),
  .inl (0, 13, .inl (T.2.1 76)),
  .inl (0, 13, .inl (T.2.1 77)),
  .inl (0, 13, .inl (T.2.1 78)),
  .inl (0, 13, .inl (T.2.1 79)),
  .inl (0, 13, .inl (T.2.1 80)),
  .inl (0, 13, .inl (T.2.1 81)),
  .inl (0, 13, .inl (T.2.1 82)),
  .inl (0, 16, .inl (T.2.1 83)),
  .inl (0, 6, .inl (T.2.1 84)),
  .inr (6, [.ref 86, .int (T.1 85 1), .int (T.1 85 2)]),
  .inl (0, 400, .inl (T.2.1 86)),
  .inl (4, 6, .inr (.inr (.inr (.inr (T.2.2.2.2 87))))),
  .inr (10, [.ref 89, .ref 95, .ref 106, .int (T.1 88 3), .int (T.1 88 4)]),
  .inr (0, [.int (T.1 89 0), .int (T.1 89 1), .int (T.1 89 2), .ref 90, .ref 91, .ref 92, .ref 93, .ref 94]),
  .inl (0, 16, .inl (T.2.1 90)),
  .inl (0, 16, .inl (T.2.1 91)),
  .inl (0, 16, .inl (T.2.1 92)),
  .inl (0, 16, .inl (T.2.1 93)),
  .inl (0, 6, .inl (T.2.1 94)),
  .inr (9, [.int (T.1 95 0), .int (T.1 95 1), .int (T.1 95 2), .ref 96, .ref 97, .ref 98, .ref 99, .ref 100, .ref 101, .ref 102, .ref 103, .ref 104, .ref 105]),
  .inl (0, 13, .inl (T.2.1 96)),
  .inl (0, 13, .inl (T.2.1 97)),
  .inl (0, 13, .inl (T.2.1 98)),
  .inl (0, 13, .inl (T.2.1 99)),
  .inl (0, 13, .inl (T.2.1 100)),
  .inl (0, 13, .inl (T.2.1 101)),
  .inl (0, 13, .inl (T.2.1 102)),
  .inl (0, 13, .inl (T.2.1 103)),
  .inl (0, 16, .inl (T.2.1 104)),
  .inl (0, 6, .inl (T.2.1 105)),
  .inr (4, [.ref 107, .int (T.1 106 1), .int (T.1 106 2)]),
  .inl (5, 20, .inr (.inr (.inr (.inr (T.2.2.2.2 107))))),
  .inl (6, 4, .inr (.inr (.inr (.inr (T.2.2.2.2 108))))),
  .inr (7, [.ref 110, .ref 121, .ref 122, va_rf (T.2.2.2.1 3), va_rf (T.2.2.2.1 4), va_rf (T.2.2.2.1 5), .int (T.1 109 6), .int (T.1 109 7), .int (T.1 109 8)]),
  .inr (9, [.int (T.1 110 0), .int (T.1 110 1), .int (T.1 110 2), .ref 111, .ref 112, .ref 113, .ref 114, .ref 115, .ref 116, .ref 117, .ref 118, .ref 119, .ref 120]),
  .inl (0, 13, .inl (T.2.1 111)),
  .inl (0, 13, .inl (T.2.1 112)),
  .inl (0, 13, .inl (T.2.1 113)),
  .inl (0, 13, .inl (T.2.1 114)),
  .inl (0, 13, .inl (T.2.1 115)),
  .inl (0, 13, .inl (T.2.1 116)),
  .inl (0, 13, .inl (T.2.1 117)),
  .inl (0, 13, .inl (T.2.1 118)),
  .inl (0, 16, .inl (T.2.1 119)),
  .inl (0, 6, .inl (T.2.1 120)),
  .inl (1, 11, .inr (.inl (T.2.2.1 121))),
  .inl (1, 60, .inr (.inl (T.2.2.1 122))),
  .inr (2, [.ref 124, .int (T.1 123 1)]),
  .inl (0, 289, .inl (T.2.1 124)),
  .inr (3, [.ref 126, .ref 127, .ref 128, .ref 129, .int (T.1 125 4)]),
  .inl (0, 8, .inl (T.2.1 126)),
  .inl (0, 8, .inl (T.2.1 127)),
  .inl (0, 8, .inl (T.2.1 128)),
  .inl (0, 2048, .inl (T.2.1 129))]
def xst (T : xS) (h : AmH) : AmH := (fun p => if 64 ≤ p ∧ p < 130 then (x_tab T).getD (p - 64) (.inr (99, [])) else h.1 p, h.2)
def x_sI (T : xS) (p k : Nat) (x : Int32) : xS := (va_up T.1 p (upd (T.1 p) k x), T.2)
def x_sA (T : xS) (p j : Nat) (x : Int32) : xS := (T.1, va_up T.2.1 p (upd (T.2.1 p) j x), T.2.2)
def x_sR (T : xS) (p : Nat) (f : Nat → Int32) : xS := (T.1, va_up T.2.1 p f, T.2.2)
def x_sL (T : xS) (p j : Nat) (x : Int64) : xS := (T.1, T.2.1, va_up T.2.2.1 p (vp_updL (T.2.2.1 p) j x), T.2.2.2)
def x_sF (T : xS) (k : Nat) (r : Option Nat) : xS := (T.1, T.2.1, T.2.2.1, va_up T.2.2.2.1 k r, T.2.2.2.2)
def x_sQ (T : xS) (p j : Nat) (r : Option Nat) : xS := (T.1, T.2.1, T.2.2.1, T.2.2.2.1, va_up T.2.2.2.2 p (va_up (T.2.2.2.2 p) j r))
theorem x_lt {T : xS} {h : AmH} {p : Nat} (hh : 172 ≤ h.2.1) (hp : p < 130) : p < (xst T h).2.1 := Nat.lt_of_lt_of_le (Nat.lt_trans hp (by decide)) hh
theorem x_up {T T' : xS} {h : AmH} {p : Nat} {c : va_E} (hp : 64 ≤ p ∧ p < 130) (ht : x_tab T' = (x_tab T).set (p - 64) c) : am_up (xst T h) p c = xst T' h := by
  unfold am_up xst
  congr 1
  funext q
  unfold va_up
  by_cases hq : q = p
  · subst hq
    rw [if_pos rfl, if_pos hp, ht, List.getD_eq_getElem?_getD, List.getElem?_set_self (show q - 64 < (x_tab T).length by show q - 64 < 66; omega)]
    rfl
  · rw [if_neg hq]
    dsimp only
    by_cases hb : 64 ≤ q ∧ q < 130
    · rw [if_pos hb, if_pos hb, ht, List.getD_eq_getElem?_getD, List.getD_eq_getElem?_getD, List.getElem?_set_ne (by omega)]
    · rw [if_neg hb, if_neg hb]
theorem x_c_64 {X : Nat → va_E} {T : xS} {h : AmH} : am_c X (xst T h) 64 = .inr (11, [.ref 65, .ref 67, .ref 85, .ref 87, .int (T.1 64 4), .ref 88, .ref 108, .ref 109, .ref 123, .ref 125]) := rfl
theorem x_h_64 {T : xS} {h : AmH} : (xst T h).1 64 = .inr (11, [.ref 65, .ref 67, .ref 85, .ref 87, .int (T.1 64 4), .ref 88, .ref 108, .ref 109, .ref 123, .ref 125]) := rfl
theorem x_u_64_4 {T : xS} {h : AmH} {x : Int32} : am_up (xst T h) 64 (.inr (11, [.ref 65, .ref 67, .ref 85, .ref 87, .int x, .ref 88, .ref 108, .ref 109, .ref 123, .ref 125])) = xst (x_sI T 64 4 x) h := x_up (by decide) rfl
theorem x_c_65 {X : Nat → va_E} {T : xS} {h : AmH} : am_c X (xst T h) 65 = .inr (8, [.ref 66, .int (T.1 65 1), .int (T.1 65 2), .int (T.1 65 3), .int (T.1 65 4)]) := rfl
theorem x_h_65 {T : xS} {h : AmH} : (xst T h).1 65 = .inr (8, [.ref 66, .int (T.1 65 1), .int (T.1 65 2), .int (T.1 65 3), .int (T.1 65 4)]) := rfl
theorem x_u_65_1 {T : xS} {h : AmH} {x : Int32} : am_up (xst T h) 65 (.inr (8, [.ref 66, .int x, .int (T.1 65 2), .int (T.1 65 3), .int (T.1 65 4)])) = xst (x_sI T 65 1 x) h := x_up (by decide) rfl
theorem x_u_65_2 {T : xS} {h : AmH} {x : Int32} : am_up (xst T h) 65 (.inr (8, [.ref 66, .int (T.1 65 1), .int x, .int (T.1 65 3), .int (T.1 65 4)])) = xst (x_sI T 65 2 x) h := x_up (by decide) rfl
theorem x_u_65_3 {T : xS} {h : AmH} {x : Int32} : am_up (xst T h) 65 (.inr (8, [.ref 66, .int (T.1 65 1), .int (T.1 65 2), .int x, .int (T.1 65 4)])) = xst (x_sI T 65 3 x) h := x_up (by decide) rfl
theorem x_u_65_4 {T : xS} {h : AmH} {x : Int32} : am_up (xst T h) 65 (.inr (8, [.ref 66, .int (T.1 65 1), .int (T.1 65 2), .int (T.1 65 3), .int x])) = xst (x_sI T 65 4 x) h := x_up (by decide) rfl
theorem x_c_66 {X : Nat → va_E} {T : xS} {h : AmH} : am_c X (xst T h) 66 = .inl (0, 400, .inl (T.2.1 66)) := rfl
theorem x_h_66 {T : xS} {h : AmH} : (xst T h).1 66 = .inl (0, 400, .inl (T.2.1 66)) := rfl
theorem x_u_66 {T : xS} {h : AmH} {j : Nat} {x : Int32} : am_up (xst T h) 66 (.inl (0, 400, .inl (upd (T.2.1 66) j x))) = xst (x_sA T 66 j x) h := x_up (by decide) rfl
theorem x_r_66 {T : xS} {h : AmH} {f : Nat → Int32} : am_up (xst T h) 66 (.inl (0, 400, .inl f)) = xst (x_sR T 66 f) h := x_up (by decide) rfl
theorem x_c_67 {X : Nat → va_E} {T : xS} {h : AmH} : am_c X (xst T h) 67 = .inr (5, [.ref 68, .ref 74]) := rfl
theorem x_h_67 {T : xS} {h : AmH} : (xst T h).1 67 = .inr (5, [.ref 68, .ref 74]) := rfl
theorem x_c_68 {X : Nat → va_E} {T : xS} {h : AmH} : am_c X (xst T h) 68 = .inr (0, [.int (T.1 68 0), .int (T.1 68 1), .int (T.1 68 2), .ref 69, .ref 70, .ref 71, .ref 72, .ref 73]) := rfl
theorem x_h_68 {T : xS} {h : AmH} : (xst T h).1 68 = .inr (0, [.int (T.1 68 0), .int (T.1 68 1), .int (T.1 68 2), .ref 69, .ref 70, .ref 71, .ref 72, .ref 73]) := rfl
theorem x_u_68_0 {T : xS} {h : AmH} {x : Int32} : am_up (xst T h) 68 (.inr (0, [.int x, .int (T.1 68 1), .int (T.1 68 2), .ref 69, .ref 70, .ref 71, .ref 72, .ref 73])) = xst (x_sI T 68 0 x) h := x_up (by decide) rfl
theorem x_u_68_1 {T : xS} {h : AmH} {x : Int32} : am_up (xst T h) 68 (.inr (0, [.int (T.1 68 0), .int x, .int (T.1 68 2), .ref 69, .ref 70, .ref 71, .ref 72, .ref 73])) = xst (x_sI T 68 1 x) h := x_up (by decide) rfl
theorem x_u_68_2 {T : xS} {h : AmH} {x : Int32} : am_up (xst T h) 68 (.inr (0, [.int (T.1 68 0), .int (T.1 68 1), .int x, .ref 69, .ref 70, .ref 71, .ref 72, .ref 73])) = xst (x_sI T 68 2 x) h := x_up (by decide) rfl
theorem x_c_69 {X : Nat → va_E} {T : xS} {h : AmH} : am_c X (xst T h) 69 = .inl (0, 16, .inl (T.2.1 69)) := rfl
theorem x_h_69 {T : xS} {h : AmH} : (xst T h).1 69 = .inl (0, 16, .inl (T.2.1 69)) := rfl
theorem x_u_69 {T : xS} {h : AmH} {j : Nat} {x : Int32} : am_up (xst T h) 69 (.inl (0, 16, .inl (upd (T.2.1 69) j x))) = xst (x_sA T 69 j x) h := x_up (by decide) rfl
theorem x_r_69 {T : xS} {h : AmH} {f : Nat → Int32} : am_up (xst T h) 69 (.inl (0, 16, .inl f)) = xst (x_sR T 69 f) h := x_up (by decide) rfl
theorem x_c_70 {X : Nat → va_E} {T : xS} {h : AmH} : am_c X (xst T h) 70 = .inl (0, 16, .inl (T.2.1 70)) := rfl
theorem x_h_70 {T : xS} {h : AmH} : (xst T h).1 70 = .inl (0, 16, .inl (T.2.1 70)) := rfl
theorem x_u_70 {T : xS} {h : AmH} {j : Nat} {x : Int32} : am_up (xst T h) 70 (.inl (0, 16, .inl (upd (T.2.1 70) j x))) = xst (x_sA T 70 j x) h := x_up (by decide) rfl
theorem x_r_70 {T : xS} {h : AmH} {f : Nat → Int32} : am_up (xst T h) 70 (.inl (0, 16, .inl f)) = xst (x_sR T 70 f) h := x_up (by decide) rfl
theorem x_c_71 {X : Nat → va_E} {T : xS} {h : AmH} : am_c X (xst T h) 71 = .inl (0, 16, .inl (T.2.1 71)) := rfl
theorem x_h_71 {T : xS} {h : AmH} : (xst T h).1 71 = .inl (0, 16, .inl (T.2.1 71)) := rfl
theorem x_u_71 {T : xS} {h : AmH} {j : Nat} {x : Int32} : am_up (xst T h) 71 (.inl (0, 16, .inl (upd (T.2.1 71) j x))) = xst (x_sA T 71 j x) h := x_up (by decide) rfl
theorem x_r_71 {T : xS} {h : AmH} {f : Nat → Int32} : am_up (xst T h) 71 (.inl (0, 16, .inl f)) = xst (x_sR T 71 f) h := x_up (by decide) rfl
theorem x_c_72 {X : Nat → va_E} {T : xS} {h : AmH} : am_c X (xst T h) 72 = .inl (0, 16, .inl (T.2.1 72)) := rfl
theorem x_h_72 {T : xS} {h : AmH} : (xst T h).1 72 = .inl (0, 16, .inl (T.2.1 72)) := rfl
theorem x_u_72 {T : xS} {h : AmH} {j : Nat} {x : Int32} : am_up (xst T h) 72 (.inl (0, 16, .inl (upd (T.2.1 72) j x))) = xst (x_sA T 72 j x) h := x_up (by decide) rfl
theorem x_r_72 {T : xS} {h : AmH} {f : Nat → Int32} : am_up (xst T h) 72 (.inl (0, 16, .inl f)) = xst (x_sR T 72 f) h := x_up (by decide) rfl
theorem x_c_73 {X : Nat → va_E} {T : xS} {h : AmH} : am_c X (xst T h) 73 = .inl (0, 6, .inl (T.2.1 73)) := rfl
theorem x_h_73 {T : xS} {h : AmH} : (xst T h).1 73 = .inl (0, 6, .inl (T.2.1 73)) := rfl
theorem x_u_73 {T : xS} {h : AmH} {j : Nat} {x : Int32} : am_up (xst T h) 73 (.inl (0, 6, .inl (upd (T.2.1 73) j x))) = xst (x_sA T 73 j x) h := x_up (by decide) rfl
theorem x_r_73 {T : xS} {h : AmH} {f : Nat → Int32} : am_up (xst T h) 73 (.inl (0, 6, .inl f)) = xst (x_sR T 73 f) h := x_up (by decide) rfl
theorem x_c_74 {X : Nat → va_E} {T : xS} {h : AmH} : am_c X (xst T h) 74 = .inr (9, [.int (T.1 74 0), .int (T.1 74 1), .int (T.1 74 2), .ref 75, .ref 76, .ref 77, .ref 78, .ref 79, .ref 80, .ref 81, .ref 82, .ref 83, .ref 84]) := rfl
theorem x_h_74 {T : xS} {h : AmH} : (xst T h).1 74 = .inr (9, [.int (T.1 74 0), .int (T.1 74 1), .int (T.1 74 2), .ref 75, .ref 76, .ref 77, .ref 78, .ref 79, .ref 80, .ref 81, .ref 82, .ref 83, .ref 84]) := rfl
theorem x_u_74_0 {T : xS} {h : AmH} {x : Int32} : am_up (xst T h) 74 (.inr (9, [.int x, .int (T.1 74 1), .int (T.1 74 2), .ref 75, .ref 76, .ref 77, .ref 78, .ref 79, .ref 80, .ref 81, .ref 82, .ref 83, .ref 84])) = xst (x_sI T 74 0 x) h := x_up (by decide) rfl
theorem x_u_74_1 {T : xS} {h : AmH} {x : Int32} : am_up (xst T h) 74 (.inr (9, [.int (T.1 74 0), .int x, .int (T.1 74 2), .ref 75, .ref 76, .ref 77, .ref 78, .ref 79, .ref 80, .ref 81, .ref 82, .ref 83, .ref 84])) = xst (x_sI T 74 1 x) h := x_up (by decide) rfl
theorem x_u_74_2 {T : xS} {h : AmH} {x : Int32} : am_up (xst T h) 74 (.inr (9, [.int (T.1 74 0), .int (T.1 74 1), .int x, .ref 75, .ref 76, .ref 77, .ref 78, .ref 79, .ref 80, .ref 81, .ref 82, .ref 83, .ref 84])) = xst (x_sI T 74 2 x) h := x_up (by decide) rfl
theorem x_c_75 {X : Nat → va_E} {T : xS} {h : AmH} : am_c X (xst T h) 75 = .inl (0, 13, .inl (T.2.1 75)) := rfl
theorem x_h_75 {T : xS} {h : AmH} : (xst T h).1 75 = .inl (0, 13, .inl (T.2.1 75)) := rfl
theorem x_u_75 {T : xS} {h : AmH} {j : Nat} {x : Int32} : am_up (xst T h) 75 (.inl (0, 13, .inl (upd (T.2.1 75) j x))) = xst (x_sA T 75 j x) h := x_up (by decide) rfl
theorem x_r_75 {T : xS} {h : AmH} {f : Nat → Int32} : am_up (xst T h) 75 (.inl (0, 13, .inl f)) = xst (x_sR T 75 f) h := x_up (by decide) rfl
theorem x_c_76 {X : Nat → va_E} {T : xS} {h : AmH} : am_c X (xst T h) 76 = .inl (0, 13, .inl (T.2.1 76)) := rfl
theorem x_h_76 {T : xS} {h : AmH} : (xst T h).1 76 = .inl (0, 13, .inl (T.2.1 76)) := rfl
theorem x_u_76 {T : xS} {h : AmH} {j : Nat} {x : Int32} : am_up (xst T h) 76 (.inl (0, 13, .inl (upd (T.2.1 76) j x))) = xst (x_sA T 76 j x) h := x_up (by decide) rfl
theorem x_r_76 {T : xS} {h : AmH} {f : Nat → Int32} : am_up (xst T h) 76 (.inl (0, 13, .inl f)) = xst (x_sR T 76 f) h := x_up (by decide) rfl
theorem x_c_77 {X : Nat → va_E} {T : xS} {h : AmH} : am_c X (xst T h) 77 = .inl (0, 13, .inl (T.2.1 77)) := rfl
theorem x_h_77 {T : xS} {h : AmH} : (xst T h).1 77 = .inl (0, 13, .inl (T.2.1 77)) := rfl
theorem x_u_77 {T : xS} {h : AmH} {j : Nat} {x : Int32} : am_up (xst T h) 77 (.inl (0, 13, .inl (upd (T.2.1 77) j x))) = xst (x_sA T 77 j x) h := x_up (by decide) rfl
theorem x_r_77 {T : xS} {h : AmH} {f : Nat → Int32} : am_up (xst T h) 77 (.inl (0, 13, .inl f)) = xst (x_sR T 77 f) h := x_up (by decide) rfl
theorem x_c_78 {X : Nat → va_E} {T : xS} {h : AmH} : am_c X (xst T h) 78 = .inl (0, 13, .inl (T.2.1 78)) := rfl
theorem x_h_78 {T : xS} {h : AmH} : (xst T h).1 78 = .inl (0, 13, .inl (T.2.1 78)) := rfl
theorem x_u_78 {T : xS} {h : AmH} {j : Nat} {x : Int32} : am_up (xst T h) 78 (.inl (0, 13, .inl (upd (T.2.1 78) j x))) = xst (x_sA T 78 j x) h := x_up (by decide) rfl
theorem x_r_78 {T : xS} {h : AmH} {f : Nat → Int32} : am_up (xst T h) 78 (.inl (0, 13, .inl f)) = xst (x_sR T 78 f) h := x_up (by decide) rfl
theorem x_c_79 {X : Nat → va_E} {T : xS} {h : AmH} : am_c X (xst T h) 79 = .inl (0, 13, .inl (T.2.1 79)) := rfl
theorem x_h_79 {T : xS} {h : AmH} : (xst T h).1 79 = .inl (0, 13, .inl (T.2.1 79)) := rfl
theorem x_u_79 {T : xS} {h : AmH} {j : Nat} {x : Int32} : am_up (xst T h) 79 (.inl (0, 13, .inl (upd (T.2.1 79) j x))) = xst (x_sA T 79 j x) h := x_up (by decide) rfl
theorem x_r_79 {T : xS} {h : AmH} {f : Nat → Int32} : am_up (xst T h) 79 (.inl (0, 13, .inl f)) = xst (x_sR T 79 f) h := x_up (by decide) rfl
theorem x_c_80 {X : Nat → va_E} {T : xS} {h : AmH} : am_c X (xst T h) 80 = .inl (0, 13, .inl (T.2.1 80)) := rfl
theorem x_h_80 {T : xS} {h : AmH} : (xst T h).1 80 = .inl (0, 13, .inl (T.2.1 80)) := rfl
theorem x_u_80 {T : xS} {h : AmH} {j : Nat} {x : Int32} : am_up (xst T h) 80 (.inl (0, 13, .inl (upd (T.2.1 80) j x))) = xst (x_sA T 80 j x) h := x_up (by decide) rfl
theorem x_r_80 {T : xS} {h : AmH} {f : Nat → Int32} : am_up (xst T h) 80 (.inl (0, 13, .inl f)) = xst (x_sR T 80 f) h := x_up (by decide) rfl
theorem x_c_81 {X : Nat → va_E} {T : xS} {h : AmH} : am_c X (xst T h) 81 = .inl (0, 13, .inl (T.2.1 81)) := rfl
theorem x_h_81 {T : xS} {h : AmH} : (xst T h).1 81 = .inl (0, 13, .inl (T.2.1 81)) := rfl
theorem x_u_81 {T : xS} {h : AmH} {j : Nat} {x : Int32} : am_up (xst T h) 81 (.inl (0, 13, .inl (upd (T.2.1 81) j x))) = xst (x_sA T 81 j x) h := x_up (by decide) rfl
theorem x_r_81 {T : xS} {h : AmH} {f : Nat → Int32} : am_up (xst T h) 81 (.inl (0, 13, .inl f)) = xst (x_sR T 81 f) h := x_up (by decide) rfl
theorem x_c_82 {X : Nat → va_E} {T : xS} {h : AmH} : am_c X (xst T h) 82 = .inl (0, 13, .inl (T.2.1 82)) := rfl
theorem x_h_82 {T : xS} {h : AmH} : (xst T h).1 82 = .inl (0, 13, .inl (T.2.1 82)) := rfl
theorem x_u_82 {T : xS} {h : AmH} {j : Nat} {x : Int32} : am_up (xst T h) 82 (.inl (0, 13, .inl (upd (T.2.1 82) j x))) = xst (x_sA T 82 j x) h := x_up (by decide) rfl
theorem x_r_82 {T : xS} {h : AmH} {f : Nat → Int32} : am_up (xst T h) 82 (.inl (0, 13, .inl f)) = xst (x_sR T 82 f) h := x_up (by decide) rfl
theorem x_c_83 {X : Nat → va_E} {T : xS} {h : AmH} : am_c X (xst T h) 83 = .inl (0, 16, .inl (T.2.1 83)) := rfl
theorem x_h_83 {T : xS} {h : AmH} : (xst T h).1 83 = .inl (0, 16, .inl (T.2.1 83)) := rfl
theorem x_u_83 {T : xS} {h : AmH} {j : Nat} {x : Int32} : am_up (xst T h) 83 (.inl (0, 16, .inl (upd (T.2.1 83) j x))) = xst (x_sA T 83 j x) h := x_up (by decide) rfl
theorem x_r_83 {T : xS} {h : AmH} {f : Nat → Int32} : am_up (xst T h) 83 (.inl (0, 16, .inl f)) = xst (x_sR T 83 f) h := x_up (by decide) rfl
theorem x_c_84 {X : Nat → va_E} {T : xS} {h : AmH} : am_c X (xst T h) 84 = .inl (0, 6, .inl (T.2.1 84)) := rfl
theorem x_h_84 {T : xS} {h : AmH} : (xst T h).1 84 = .inl (0, 6, .inl (T.2.1 84)) := rfl
theorem x_u_84 {T : xS} {h : AmH} {j : Nat} {x : Int32} : am_up (xst T h) 84 (.inl (0, 6, .inl (upd (T.2.1 84) j x))) = xst (x_sA T 84 j x) h := x_up (by decide) rfl
theorem x_r_84 {T : xS} {h : AmH} {f : Nat → Int32} : am_up (xst T h) 84 (.inl (0, 6, .inl f)) = xst (x_sR T 84 f) h := x_up (by decide) rfl
theorem x_c_85 {X : Nat → va_E} {T : xS} {h : AmH} : am_c X (xst T h) 85 = .inr (6, [.ref 86, .int (T.1 85 1), .int (T.1 85 2)]) := rfl
theorem x_h_85 {T : xS} {h : AmH} : (xst T h).1 85 = .inr (6, [.ref 86, .int (T.1 85 1), .int (T.1 85 2)]) := rfl
theorem x_u_85_1 {T : xS} {h : AmH} {x : Int32} : am_up (xst T h) 85 (.inr (6, [.ref 86, .int x, .int (T.1 85 2)])) = xst (x_sI T 85 1 x) h := x_up (by decide) rfl
theorem x_u_85_2 {T : xS} {h : AmH} {x : Int32} : am_up (xst T h) 85 (.inr (6, [.ref 86, .int (T.1 85 1), .int x])) = xst (x_sI T 85 2 x) h := x_up (by decide) rfl
theorem x_c_86 {X : Nat → va_E} {T : xS} {h : AmH} : am_c X (xst T h) 86 = .inl (0, 400, .inl (T.2.1 86)) := rfl
theorem x_h_86 {T : xS} {h : AmH} : (xst T h).1 86 = .inl (0, 400, .inl (T.2.1 86)) := rfl
theorem x_u_86 {T : xS} {h : AmH} {j : Nat} {x : Int32} : am_up (xst T h) 86 (.inl (0, 400, .inl (upd (T.2.1 86) j x))) = xst (x_sA T 86 j x) h := x_up (by decide) rfl
theorem x_r_86 {T : xS} {h : AmH} {f : Nat → Int32} : am_up (xst T h) 86 (.inl (0, 400, .inl f)) = xst (x_sR T 86 f) h := x_up (by decide) rfl
theorem x_c_87 {X : Nat → va_E} {T : xS} {h : AmH} : am_c X (xst T h) 87 = .inl (4, 6, .inr (.inr (.inr (.inr (T.2.2.2.2 87))))) := rfl
theorem x_h_87 {T : xS} {h : AmH} : (xst T h).1 87 = .inl (4, 6, .inr (.inr (.inr (.inr (T.2.2.2.2 87))))) := rfl
theorem x_u_87 {T : xS} {h : AmH} {j z : Nat} : am_up (xst T h) 87 (.inl (4, 6, .inr (.inr (.inr (.inr (va_up (T.2.2.2.2 87) j (some z))))))) = xst (x_sQ T 87 j (some z)) h := x_up (by decide) rfl
theorem x_c_88 {X : Nat → va_E} {T : xS} {h : AmH} : am_c X (xst T h) 88 = .inr (10, [.ref 89, .ref 95, .ref 106, .int (T.1 88 3), .int (T.1 88 4)]) := rfl
theorem x_h_88 {T : xS} {h : AmH} : (xst T h).1 88 = .inr (10, [.ref 89, .ref 95, .ref 106, .int (T.1 88 3), .int (T.1 88 4)]) := rfl
theorem x_u_88_3 {T : xS} {h : AmH} {x : Int32} : am_up (xst T h) 88 (.inr (10, [.ref 89, .ref 95, .ref 106, .int x, .int (T.1 88 4)])) = xst (x_sI T 88 3 x) h := x_up (by decide) rfl
theorem x_u_88_4 {T : xS} {h : AmH} {x : Int32} : am_up (xst T h) 88 (.inr (10, [.ref 89, .ref 95, .ref 106, .int (T.1 88 3), .int x])) = xst (x_sI T 88 4 x) h := x_up (by decide) rfl
theorem x_c_89 {X : Nat → va_E} {T : xS} {h : AmH} : am_c X (xst T h) 89 = .inr (0, [.int (T.1 89 0), .int (T.1 89 1), .int (T.1 89 2), .ref 90, .ref 91, .ref 92, .ref 93, .ref 94]) := rfl
theorem x_h_89 {T : xS} {h : AmH} : (xst T h).1 89 = .inr (0, [.int (T.1 89 0), .int (T.1 89 1), .int (T.1 89 2), .ref 90, .ref 91, .ref 92, .ref 93, .ref 94]) := rfl
theorem x_u_89_0 {T : xS} {h : AmH} {x : Int32} : am_up (xst T h) 89 (.inr (0, [.int x, .int (T.1 89 1), .int (T.1 89 2), .ref 90, .ref 91, .ref 92, .ref 93, .ref 94])) = xst (x_sI T 89 0 x) h := x_up (by decide) rfl
theorem x_u_89_1 {T : xS} {h : AmH} {x : Int32} : am_up (xst T h) 89 (.inr (0, [.int (T.1 89 0), .int x, .int (T.1 89 2), .ref 90, .ref 91, .ref 92, .ref 93, .ref 94])) = xst (x_sI T 89 1 x) h := x_up (by decide) rfl
theorem x_u_89_2 {T : xS} {h : AmH} {x : Int32} : am_up (xst T h) 89 (.inr (0, [.int (T.1 89 0), .int (T.1 89 1), .int x, .ref 90, .ref 91, .ref 92, .ref 93, .ref 94])) = xst (x_sI T 89 2 x) h := x_up (by decide) rfl
theorem x_c_90 {X : Nat → va_E} {T : xS} {h : AmH} : am_c X (xst T h) 90 = .inl (0, 16, .inl (T.2.1 90)) := rfl
theorem x_h_90 {T : xS} {h : AmH} : (xst T h).1 90 = .inl (0, 16, .inl (T.2.1 90)) := rfl
theorem x_u_90 {T : xS} {h : AmH} {j : Nat} {x : Int32} : am_up (xst T h) 90 (.inl (0, 16, .inl (upd (T.2.1 90) j x))) = xst (x_sA T 90 j x) h := x_up (by decide) rfl
theorem x_r_90 {T : xS} {h : AmH} {f : Nat → Int32} : am_up (xst T h) 90 (.inl (0, 16, .inl f)) = xst (x_sR T 90 f) h := x_up (by decide) rfl
theorem x_c_91 {X : Nat → va_E} {T : xS} {h : AmH} : am_c X (xst T h) 91 = .inl (0, 16, .inl (T.2.1 91)) := rfl
theorem x_h_91 {T : xS} {h : AmH} : (xst T h).1 91 = .inl (0, 16, .inl (T.2.1 91)) := rfl
theorem x_u_91 {T : xS} {h : AmH} {j : Nat} {x : Int32} : am_up (xst T h) 91 (.inl (0, 16, .inl (upd (T.2.1 91) j x))) = xst (x_sA T 91 j x) h := x_up (by decide) rfl
theorem x_r_91 {T : xS} {h : AmH} {f : Nat → Int32} : am_up (xst T h) 91 (.inl (0, 16, .inl f)) = xst (x_sR T 91 f) h := x_up (by decide) rfl
theorem x_c_92 {X : Nat → va_E} {T : xS} {h : AmH} : am_c X (xst T h) 92 = .inl (0, 16, .inl (T.2.1 92)) := rfl
theorem x_h_92 {T : xS} {h : AmH} : (xst T h).1 92 = .inl (0, 16, .inl (T.2.1 92)) := rfl
theorem x_u_92 {T : xS} {h : AmH} {j : Nat} {x : Int32} : am_up (xst T h) 92 (.inl (0, 16, .inl (upd (T.2.1 92) j x))) = xst (x_sA T 92 j x) h := x_up (by decide) rfl
theorem x_r_92 {T : xS} {h : AmH} {f : Nat → Int32} : am_up (xst T h) 92 (.inl (0, 16, .inl f)) = xst (x_sR T 92 f) h := x_up (by decide) rfl
theorem x_c_93 {X : Nat → va_E} {T : xS} {h : AmH} : am_c X (xst T h) 93 = .inl (0, 16, .inl (T.2.1 93)) := rfl
theorem x_h_93 {T : xS} {h : AmH} : (xst T h).1 93 = .inl (0, 16, .inl (T.2.1 93)) := rfl
theorem x_u_93 {T : xS} {h : AmH} {j : Nat} {x : Int32} : am_up (xst T h) 93 (.inl (0, 16, .inl (upd (T.2.1 93) j x))) = xst (x_sA T 93 j x) h := x_up (by decide) rfl
theorem x_r_93 {T : xS} {h : AmH} {f : Nat → Int32} : am_up (xst T h) 93 (.inl (0, 16, .inl f)) = xst (x_sR T 93 f) h := x_up (by decide) rfl
theorem x_c_94 {X : Nat → va_E} {T : xS} {h : AmH} : am_c X (xst T h) 94 = .inl (0, 6, .inl (T.2.1 94)) := rfl
theorem x_h_94 {T : xS} {h : AmH} : (xst T h).1 94 = .inl (0, 6, .inl (T.2.1 94)) := rfl
theorem x_u_94 {T : xS} {h : AmH} {j : Nat} {x : Int32} : am_up (xst T h) 94 (.inl (0, 6, .inl (upd (T.2.1 94) j x))) = xst (x_sA T 94 j x) h := x_up (by decide) rfl
theorem x_r_94 {T : xS} {h : AmH} {f : Nat → Int32} : am_up (xst T h) 94 (.inl (0, 6, .inl f)) = xst (x_sR T 94 f) h := x_up (by decide) rfl
theorem x_c_95 {X : Nat → va_E} {T : xS} {h : AmH} : am_c X (xst T h) 95 = .inr (9, [.int (T.1 95 0), .int (T.1 95 1), .int (T.1 95 2), .ref 96, .ref 97, .ref 98, .ref 99, .ref 100, .ref 101, .ref 102, .ref 103, .ref 104, .ref 105]) := rfl
theorem x_h_95 {T : xS} {h : AmH} : (xst T h).1 95 = .inr (9, [.int (T.1 95 0), .int (T.1 95 1), .int (T.1 95 2), .ref 96, .ref 97, .ref 98, .ref 99, .ref 100, .ref 101, .ref 102, .ref 103, .ref 104, .ref 105]) := rfl
theorem x_u_95_0 {T : xS} {h : AmH} {x : Int32} : am_up (xst T h) 95 (.inr (9, [.int x, .int (T.1 95 1), .int (T.1 95 2), .ref 96, .ref 97, .ref 98, .ref 99, .ref 100, .ref 101, .ref 102, .ref 103, .ref 104, .ref 105])) = xst (x_sI T 95 0 x) h := x_up (by decide) rfl
theorem x_u_95_1 {T : xS} {h : AmH} {x : Int32} : am_up (xst T h) 95 (.inr (9, [.int (T.1 95 0), .int x, .int (T.1 95 2), .ref 96, .ref 97, .ref 98, .ref 99, .ref 100, .ref 101, .ref 102, .ref 103, .ref 104, .ref 105])) = xst (x_sI T 95 1 x) h := x_up (by decide) rfl
theorem x_u_95_2 {T : xS} {h : AmH} {x : Int32} : am_up (xst T h) 95 (.inr (9, [.int (T.1 95 0), .int (T.1 95 1), .int x, .ref 96, .ref 97, .ref 98, .ref 99, .ref 100, .ref 101, .ref 102, .ref 103, .ref 104, .ref 105])) = xst (x_sI T 95 2 x) h := x_up (by decide) rfl
theorem x_c_96 {X : Nat → va_E} {T : xS} {h : AmH} : am_c X (xst T h) 96 = .inl (0, 13, .inl (T.2.1 96)) := rfl
theorem x_h_96 {T : xS} {h : AmH} : (xst T h).1 96 = .inl (0, 13, .inl (T.2.1 96)) := rfl
theorem x_u_96 {T : xS} {h : AmH} {j : Nat} {x : Int32} : am_up (xst T h) 96 (.inl (0, 13, .inl (upd (T.2.1 96) j x))) = xst (x_sA T 96 j x) h := x_up (by decide) rfl
theorem x_r_96 {T : xS} {h : AmH} {f : Nat → Int32} : am_up (xst T h) 96 (.inl (0, 13, .inl f)) = xst (x_sR T 96 f) h := x_up (by decide) rfl
theorem x_c_97 {X : Nat → va_E} {T : xS} {h : AmH} : am_c X (xst T h) 97 = .inl (0, 13, .inl (T.2.1 97)) := rfl
theorem x_h_97 {T : xS} {h : AmH} : (xst T h).1 97 = .inl (0, 13, .inl (T.2.1 97)) := rfl
theorem x_u_97 {T : xS} {h : AmH} {j : Nat} {x : Int32} : am_up (xst T h) 97 (.inl (0, 13, .inl (upd (T.2.1 97) j x))) = xst (x_sA T 97 j x) h := x_up (by decide) rfl
theorem x_r_97 {T : xS} {h : AmH} {f : Nat → Int32} : am_up (xst T h) 97 (.inl (0, 13, .inl f)) = xst (x_sR T 97 f) h := x_up (by decide) rfl
theorem x_c_98 {X : Nat → va_E} {T : xS} {h : AmH} : am_c X (xst T h) 98 = .inl (0, 13, .inl (T.2.1 98)) := rfl
theorem x_h_98 {T : xS} {h : AmH} : (xst T h).1 98 = .inl (0, 13, .inl (T.2.1 98)) := rfl
theorem x_u_98 {T : xS} {h : AmH} {j : Nat} {x : Int32} : am_up (xst T h) 98 (.inl (0, 13, .inl (upd (T.2.1 98) j x))) = xst (x_sA T 98 j x) h := x_up (by decide) rfl
theorem x_r_98 {T : xS} {h : AmH} {f : Nat → Int32} : am_up (xst T h) 98 (.inl (0, 13, .inl f)) = xst (x_sR T 98 f) h := x_up (by decide) rfl
theorem x_c_99 {X : Nat → va_E} {T : xS} {h : AmH} : am_c X (xst T h) 99 = .inl (0, 13, .inl (T.2.1 99)) := rfl
theorem x_h_99 {T : xS} {h : AmH} : (xst T h).1 99 = .inl (0, 13, .inl (T.2.1 99)) := rfl
theorem x_u_99 {T : xS} {h : AmH} {j : Nat} {x : Int32} : am_up (xst T h) 99 (.inl (0, 13, .inl (upd (T.2.1 99) j x))) = xst (x_sA T 99 j x) h := x_up (by decide) rfl
theorem x_r_99 {T : xS} {h : AmH} {f : Nat → Int32} : am_up (xst T h) 99 (.inl (0, 13, .inl f)) = xst (x_sR T 99 f) h := x_up (by decide) rfl
theorem x_c_100 {X : Nat → va_E} {T : xS} {h : AmH} : am_c X (xst T h) 100 = .inl (0, 13, .inl (T.2.1 100)) := rfl
theorem x_h_100 {T : xS} {h : AmH} : (xst T h).1 100 = .inl (0, 13, .inl (T.2.1 100)) := rfl
theorem x_u_100 {T : xS} {h : AmH} {j : Nat} {x : Int32} : am_up (xst T h) 100 (.inl (0, 13, .inl (upd (T.2.1 100) j x))) = xst (x_sA T 100 j x) h := x_up (by decide) rfl
theorem x_r_100 {T : xS} {h : AmH} {f : Nat → Int32} : am_up (xst T h) 100 (.inl (0, 13, .inl f)) = xst (x_sR T 100 f) h := x_up (by decide) rfl
theorem x_c_101 {X : Nat → va_E} {T : xS} {h : AmH} : am_c X (xst T h) 101 = .inl (0, 13, .inl (T.2.1 101)) := rfl
theorem x_h_101 {T : xS} {h : AmH} : (xst T h).1 101 = .inl (0, 13, .inl (T.2.1 101)) := rfl
theorem x_u_101 {T : xS} {h : AmH} {j : Nat} {x : Int32} : am_up (xst T h) 101 (.inl (0, 13, .inl (upd (T.2.1 101) j x))) = xst (x_sA T 101 j x) h := x_up (by decide) rfl
theorem x_r_101 {T : xS} {h : AmH} {f : Nat → Int32} : am_up (xst T h) 101 (.inl (0, 13, .inl f)) = xst (x_sR T 101 f) h := x_up (by decide) rfl
theorem x_c_102 {X : Nat → va_E} {T : xS} {h : AmH} : am_c X (xst T h) 102 = .inl (0, 13, .inl (T.2.1 102)) := rfl
theorem x_h_102 {T : xS} {h : AmH} : (xst T h).1 102 = .inl (0, 13, .inl (T.2.1 102)) := rfl
theorem x_u_102 {T : xS} {h : AmH} {j : Nat} {x : Int32} : am_up (xst T h) 102 (.inl (0, 13, .inl (upd (T.2.1 102) j x))) = xst (x_sA T 102 j x) h := x_up (by decide) rfl
theorem x_r_102 {T : xS} {h : AmH} {f : Nat → Int32} : am_up (xst T h) 102 (.inl (0, 13, .inl f)) = xst (x_sR T 102 f) h := x_up (by decide) rfl
theorem x_c_103 {X : Nat → va_E} {T : xS} {h : AmH} : am_c X (xst T h) 103 = .inl (0, 13, .inl (T.2.1 103)) := rfl
theorem x_h_103 {T : xS} {h : AmH} : (xst T h).1 103 = .inl (0, 13, .inl (T.2.1 103)) := rfl
theorem x_u_103 {T : xS} {h : AmH} {j : Nat} {x : Int32} : am_up (xst T h) 103 (.inl (0, 13, .inl (upd (T.2.1 103) j x))) = xst (x_sA T 103 j x) h := x_up (by decide) rfl
theorem x_r_103 {T : xS} {h : AmH} {f : Nat → Int32} : am_up (xst T h) 103 (.inl (0, 13, .inl f)) = xst (x_sR T 103 f) h := x_up (by decide) rfl
theorem x_c_104 {X : Nat → va_E} {T : xS} {h : AmH} : am_c X (xst T h) 104 = .inl (0, 16, .inl (T.2.1 104)) := rfl
theorem x_h_104 {T : xS} {h : AmH} : (xst T h).1 104 = .inl (0, 16, .inl (T.2.1 104)) := rfl
theorem x_u_104 {T : xS} {h : AmH} {j : Nat} {x : Int32} : am_up (xst T h) 104 (.inl (0, 16, .inl (upd (T.2.1 104) j x))) = xst (x_sA T 104 j x) h := x_up (by decide) rfl
theorem x_r_104 {T : xS} {h : AmH} {f : Nat → Int32} : am_up (xst T h) 104 (.inl (0, 16, .inl f)) = xst (x_sR T 104 f) h := x_up (by decide) rfl
theorem x_c_105 {X : Nat → va_E} {T : xS} {h : AmH} : am_c X (xst T h) 105 = .inl (0, 6, .inl (T.2.1 105)) := rfl
theorem x_h_105 {T : xS} {h : AmH} : (xst T h).1 105 = .inl (0, 6, .inl (T.2.1 105)) := rfl
theorem x_u_105 {T : xS} {h : AmH} {j : Nat} {x : Int32} : am_up (xst T h) 105 (.inl (0, 6, .inl (upd (T.2.1 105) j x))) = xst (x_sA T 105 j x) h := x_up (by decide) rfl
theorem x_r_105 {T : xS} {h : AmH} {f : Nat → Int32} : am_up (xst T h) 105 (.inl (0, 6, .inl f)) = xst (x_sR T 105 f) h := x_up (by decide) rfl
theorem x_c_106 {X : Nat → va_E} {T : xS} {h : AmH} : am_c X (xst T h) 106 = .inr (4, [.ref 107, .int (T.1 106 1), .int (T.1 106 2)]) := rfl
theorem x_h_106 {T : xS} {h : AmH} : (xst T h).1 106 = .inr (4, [.ref 107, .int (T.1 106 1), .int (T.1 106 2)]) := rfl
theorem x_u_106_1 {T : xS} {h : AmH} {x : Int32} : am_up (xst T h) 106 (.inr (4, [.ref 107, .int x, .int (T.1 106 2)])) = xst (x_sI T 106 1 x) h := x_up (by decide) rfl
theorem x_u_106_2 {T : xS} {h : AmH} {x : Int32} : am_up (xst T h) 106 (.inr (4, [.ref 107, .int (T.1 106 1), .int x])) = xst (x_sI T 106 2 x) h := x_up (by decide) rfl
theorem x_c_107 {X : Nat → va_E} {T : xS} {h : AmH} : am_c X (xst T h) 107 = .inl (5, 20, .inr (.inr (.inr (.inr (T.2.2.2.2 107))))) := rfl
theorem x_h_107 {T : xS} {h : AmH} : (xst T h).1 107 = .inl (5, 20, .inr (.inr (.inr (.inr (T.2.2.2.2 107))))) := rfl
theorem x_u_107 {T : xS} {h : AmH} {j z : Nat} : am_up (xst T h) 107 (.inl (5, 20, .inr (.inr (.inr (.inr (va_up (T.2.2.2.2 107) j (some z))))))) = xst (x_sQ T 107 j (some z)) h := x_up (by decide) rfl
theorem x_c_108 {X : Nat → va_E} {T : xS} {h : AmH} : am_c X (xst T h) 108 = .inl (6, 4, .inr (.inr (.inr (.inr (T.2.2.2.2 108))))) := rfl
theorem x_h_108 {T : xS} {h : AmH} : (xst T h).1 108 = .inl (6, 4, .inr (.inr (.inr (.inr (T.2.2.2.2 108))))) := rfl
theorem x_u_108 {T : xS} {h : AmH} {j z : Nat} : am_up (xst T h) 108 (.inl (6, 4, .inr (.inr (.inr (.inr (va_up (T.2.2.2.2 108) j (some z))))))) = xst (x_sQ T 108 j (some z)) h := x_up (by decide) rfl
theorem x_c_109 {X : Nat → va_E} {T : xS} {h : AmH} : am_c X (xst T h) 109 = .inr (7, [.ref 110, .ref 121, .ref 122, va_rf (T.2.2.2.1 3), va_rf (T.2.2.2.1 4), va_rf (T.2.2.2.1 5), .int (T.1 109 6), .int (T.1 109 7), .int (T.1 109 8)]) := rfl
theorem x_h_109 {T : xS} {h : AmH} : (xst T h).1 109 = .inr (7, [.ref 110, .ref 121, .ref 122, va_rf (T.2.2.2.1 3), va_rf (T.2.2.2.1 4), va_rf (T.2.2.2.1 5), .int (T.1 109 6), .int (T.1 109 7), .int (T.1 109 8)]) := rfl
theorem x_u_109_3N {T : xS} {h : AmH} : am_up (xst T h) 109 (.inr (7, [.ref 110, .ref 121, .ref 122, .null, va_rf (T.2.2.2.1 4), va_rf (T.2.2.2.1 5), .int (T.1 109 6), .int (T.1 109 7), .int (T.1 109 8)])) = xst (x_sF T 3 none) h := x_up (by decide) rfl
theorem x_u_109_3R {T : xS} {h : AmH} {z : Nat} : am_up (xst T h) 109 (.inr (7, [.ref 110, .ref 121, .ref 122, .ref z, va_rf (T.2.2.2.1 4), va_rf (T.2.2.2.1 5), .int (T.1 109 6), .int (T.1 109 7), .int (T.1 109 8)])) = xst (x_sF T 3 (some z)) h := x_up (by decide) rfl
theorem x_u_109_4N {T : xS} {h : AmH} : am_up (xst T h) 109 (.inr (7, [.ref 110, .ref 121, .ref 122, va_rf (T.2.2.2.1 3), .null, va_rf (T.2.2.2.1 5), .int (T.1 109 6), .int (T.1 109 7), .int (T.1 109 8)])) = xst (x_sF T 4 none) h := x_up (by decide) rfl
theorem x_u_109_4R {T : xS} {h : AmH} {z : Nat} : am_up (xst T h) 109 (.inr (7, [.ref 110, .ref 121, .ref 122, va_rf (T.2.2.2.1 3), .ref z, va_rf (T.2.2.2.1 5), .int (T.1 109 6), .int (T.1 109 7), .int (T.1 109 8)])) = xst (x_sF T 4 (some z)) h := x_up (by decide) rfl
theorem x_u_109_5N {T : xS} {h : AmH} : am_up (xst T h) 109 (.inr (7, [.ref 110, .ref 121, .ref 122, va_rf (T.2.2.2.1 3), va_rf (T.2.2.2.1 4), .null, .int (T.1 109 6), .int (T.1 109 7), .int (T.1 109 8)])) = xst (x_sF T 5 none) h := x_up (by decide) rfl
theorem x_u_109_5R {T : xS} {h : AmH} {z : Nat} : am_up (xst T h) 109 (.inr (7, [.ref 110, .ref 121, .ref 122, va_rf (T.2.2.2.1 3), va_rf (T.2.2.2.1 4), .ref z, .int (T.1 109 6), .int (T.1 109 7), .int (T.1 109 8)])) = xst (x_sF T 5 (some z)) h := x_up (by decide) rfl
theorem x_u_109_6 {T : xS} {h : AmH} {x : Int32} : am_up (xst T h) 109 (.inr (7, [.ref 110, .ref 121, .ref 122, va_rf (T.2.2.2.1 3), va_rf (T.2.2.2.1 4), va_rf (T.2.2.2.1 5), .int x, .int (T.1 109 7), .int (T.1 109 8)])) = xst (x_sI T 109 6 x) h := x_up (by decide) rfl
theorem x_u_109_7 {T : xS} {h : AmH} {x : Int32} : am_up (xst T h) 109 (.inr (7, [.ref 110, .ref 121, .ref 122, va_rf (T.2.2.2.1 3), va_rf (T.2.2.2.1 4), va_rf (T.2.2.2.1 5), .int (T.1 109 6), .int x, .int (T.1 109 8)])) = xst (x_sI T 109 7 x) h := x_up (by decide) rfl
theorem x_u_109_8 {T : xS} {h : AmH} {x : Int32} : am_up (xst T h) 109 (.inr (7, [.ref 110, .ref 121, .ref 122, va_rf (T.2.2.2.1 3), va_rf (T.2.2.2.1 4), va_rf (T.2.2.2.1 5), .int (T.1 109 6), .int (T.1 109 7), .int x])) = xst (x_sI T 109 8 x) h := x_up (by decide) rfl
theorem x_c_110 {X : Nat → va_E} {T : xS} {h : AmH} : am_c X (xst T h) 110 = .inr (9, [.int (T.1 110 0), .int (T.1 110 1), .int (T.1 110 2), .ref 111, .ref 112, .ref 113, .ref 114, .ref 115, .ref 116, .ref 117, .ref 118, .ref 119, .ref 120]) := rfl
theorem x_h_110 {T : xS} {h : AmH} : (xst T h).1 110 = .inr (9, [.int (T.1 110 0), .int (T.1 110 1), .int (T.1 110 2), .ref 111, .ref 112, .ref 113, .ref 114, .ref 115, .ref 116, .ref 117, .ref 118, .ref 119, .ref 120]) := rfl
theorem x_u_110_0 {T : xS} {h : AmH} {x : Int32} : am_up (xst T h) 110 (.inr (9, [.int x, .int (T.1 110 1), .int (T.1 110 2), .ref 111, .ref 112, .ref 113, .ref 114, .ref 115, .ref 116, .ref 117, .ref 118, .ref 119, .ref 120])) = xst (x_sI T 110 0 x) h := x_up (by decide) rfl
theorem x_u_110_1 {T : xS} {h : AmH} {x : Int32} : am_up (xst T h) 110 (.inr (9, [.int (T.1 110 0), .int x, .int (T.1 110 2), .ref 111, .ref 112, .ref 113, .ref 114, .ref 115, .ref 116, .ref 117, .ref 118, .ref 119, .ref 120])) = xst (x_sI T 110 1 x) h := x_up (by decide) rfl
theorem x_u_110_2 {T : xS} {h : AmH} {x : Int32} : am_up (xst T h) 110 (.inr (9, [.int (T.1 110 0), .int (T.1 110 1), .int x, .ref 111, .ref 112, .ref 113, .ref 114, .ref 115, .ref 116, .ref 117, .ref 118, .ref 119, .ref 120])) = xst (x_sI T 110 2 x) h := x_up (by decide) rfl
theorem x_c_111 {X : Nat → va_E} {T : xS} {h : AmH} : am_c X (xst T h) 111 = .inl (0, 13, .inl (T.2.1 111)) := rfl
theorem x_h_111 {T : xS} {h : AmH} : (xst T h).1 111 = .inl (0, 13, .inl (T.2.1 111)) := rfl
theorem x_u_111 {T : xS} {h : AmH} {j : Nat} {x : Int32} : am_up (xst T h) 111 (.inl (0, 13, .inl (upd (T.2.1 111) j x))) = xst (x_sA T 111 j x) h := x_up (by decide) rfl
theorem x_r_111 {T : xS} {h : AmH} {f : Nat → Int32} : am_up (xst T h) 111 (.inl (0, 13, .inl f)) = xst (x_sR T 111 f) h := x_up (by decide) rfl
theorem x_c_112 {X : Nat → va_E} {T : xS} {h : AmH} : am_c X (xst T h) 112 = .inl (0, 13, .inl (T.2.1 112)) := rfl
theorem x_h_112 {T : xS} {h : AmH} : (xst T h).1 112 = .inl (0, 13, .inl (T.2.1 112)) := rfl
theorem x_u_112 {T : xS} {h : AmH} {j : Nat} {x : Int32} : am_up (xst T h) 112 (.inl (0, 13, .inl (upd (T.2.1 112) j x))) = xst (x_sA T 112 j x) h := x_up (by decide) rfl
theorem x_r_112 {T : xS} {h : AmH} {f : Nat → Int32} : am_up (xst T h) 112 (.inl (0, 13, .inl f)) = xst (x_sR T 112 f) h := x_up (by decide) rfl
theorem x_c_113 {X : Nat → va_E} {T : xS} {h : AmH} : am_c X (xst T h) 113 = .inl (0, 13, .inl (T.2.1 113)) := rfl
theorem x_h_113 {T : xS} {h : AmH} : (xst T h).1 113 = .inl (0, 13, .inl (T.2.1 113)) := rfl
theorem x_u_113 {T : xS} {h : AmH} {j : Nat} {x : Int32} : am_up (xst T h) 113 (.inl (0, 13, .inl (upd (T.2.1 113) j x))) = xst (x_sA T 113 j x) h := x_up (by decide) rfl
theorem x_r_113 {T : xS} {h : AmH} {f : Nat → Int32} : am_up (xst T h) 113 (.inl (0, 13, .inl f)) = xst (x_sR T 113 f) h := x_up (by decide) rfl
theorem x_c_114 {X : Nat → va_E} {T : xS} {h : AmH} : am_c X (xst T h) 114 = .inl (0, 13, .inl (T.2.1 114)) := rfl
theorem x_h_114 {T : xS} {h : AmH} : (xst T h).1 114 = .inl (0, 13, .inl (T.2.1 114)) := rfl
theorem x_u_114 {T : xS} {h : AmH} {j : Nat} {x : Int32} : am_up (xst T h) 114 (.inl (0, 13, .inl (upd (T.2.1 114) j x))) = xst (x_sA T 114 j x) h := x_up (by decide) rfl
theorem x_r_114 {T : xS} {h : AmH} {f : Nat → Int32} : am_up (xst T h) 114 (.inl (0, 13, .inl f)) = xst (x_sR T 114 f) h := x_up (by decide) rfl
theorem x_c_115 {X : Nat → va_E} {T : xS} {h : AmH} : am_c X (xst T h) 115 = .inl (0, 13, .inl (T.2.1 115)) := rfl
theorem x_h_115 {T : xS} {h : AmH} : (xst T h).1 115 = .inl (0, 13, .inl (T.2.1 115)) := rfl
theorem x_u_115 {T : xS} {h : AmH} {j : Nat} {x : Int32} : am_up (xst T h) 115 (.inl (0, 13, .inl (upd (T.2.1 115) j x))) = xst (x_sA T 115 j x) h := x_up (by decide) rfl
theorem x_r_115 {T : xS} {h : AmH} {f : Nat → Int32} : am_up (xst T h) 115 (.inl (0, 13, .inl f)) = xst (x_sR T 115 f) h := x_up (by decide) rfl
theorem x_c_116 {X : Nat → va_E} {T : xS} {h : AmH} : am_c X (xst T h) 116 = .inl (0, 13, .inl (T.2.1 116)) := rfl
theorem x_h_116 {T : xS} {h : AmH} : (xst T h).1 116 = .inl (0, 13, .inl (T.2.1 116)) := rfl
theorem x_u_116 {T : xS} {h : AmH} {j : Nat} {x : Int32} : am_up (xst T h) 116 (.inl (0, 13, .inl (upd (T.2.1 116) j x))) = xst (x_sA T 116 j x) h := x_up (by decide) rfl
theorem x_r_116 {T : xS} {h : AmH} {f : Nat → Int32} : am_up (xst T h) 116 (.inl (0, 13, .inl f)) = xst (x_sR T 116 f) h := x_up (by decide) rfl
theorem x_c_117 {X : Nat → va_E} {T : xS} {h : AmH} : am_c X (xst T h) 117 = .inl (0, 13, .inl (T.2.1 117)) := rfl
theorem x_h_117 {T : xS} {h : AmH} : (xst T h).1 117 = .inl (0, 13, .inl (T.2.1 117)) := rfl
theorem x_u_117 {T : xS} {h : AmH} {j : Nat} {x : Int32} : am_up (xst T h) 117 (.inl (0, 13, .inl (upd (T.2.1 117) j x))) = xst (x_sA T 117 j x) h := x_up (by decide) rfl
theorem x_r_117 {T : xS} {h : AmH} {f : Nat → Int32} : am_up (xst T h) 117 (.inl (0, 13, .inl f)) = xst (x_sR T 117 f) h := x_up (by decide) rfl
theorem x_c_118 {X : Nat → va_E} {T : xS} {h : AmH} : am_c X (xst T h) 118 = .inl (0, 13, .inl (T.2.1 118)) := rfl
theorem x_h_118 {T : xS} {h : AmH} : (xst T h).1 118 = .inl (0, 13, .inl (T.2.1 118)) := rfl
theorem x_u_118 {T : xS} {h : AmH} {j : Nat} {x : Int32} : am_up (xst T h) 118 (.inl (0, 13, .inl (upd (T.2.1 118) j x))) = xst (x_sA T 118 j x) h := x_up (by decide) rfl
theorem x_r_118 {T : xS} {h : AmH} {f : Nat → Int32} : am_up (xst T h) 118 (.inl (0, 13, .inl f)) = xst (x_sR T 118 f) h := x_up (by decide) rfl
theorem x_c_119 {X : Nat → va_E} {T : xS} {h : AmH} : am_c X (xst T h) 119 = .inl (0, 16, .inl (T.2.1 119)) := rfl
theorem x_h_119 {T : xS} {h : AmH} : (xst T h).1 119 = .inl (0, 16, .inl (T.2.1 119)) := rfl
theorem x_u_119 {T : xS} {h : AmH} {j : Nat} {x : Int32} : am_up (xst T h) 119 (.inl (0, 16, .inl (upd (T.2.1 119) j x))) = xst (x_sA T 119 j x) h := x_up (by decide) rfl
theorem x_r_119 {T : xS} {h : AmH} {f : Nat → Int32} : am_up (xst T h) 119 (.inl (0, 16, .inl f)) = xst (x_sR T 119 f) h := x_up (by decide) rfl
theorem x_c_120 {X : Nat → va_E} {T : xS} {h : AmH} : am_c X (xst T h) 120 = .inl (0, 6, .inl (T.2.1 120)) := rfl
theorem x_h_120 {T : xS} {h : AmH} : (xst T h).1 120 = .inl (0, 6, .inl (T.2.1 120)) := rfl
theorem x_u_120 {T : xS} {h : AmH} {j : Nat} {x : Int32} : am_up (xst T h) 120 (.inl (0, 6, .inl (upd (T.2.1 120) j x))) = xst (x_sA T 120 j x) h := x_up (by decide) rfl
theorem x_r_120 {T : xS} {h : AmH} {f : Nat → Int32} : am_up (xst T h) 120 (.inl (0, 6, .inl f)) = xst (x_sR T 120 f) h := x_up (by decide) rfl
theorem x_c_121 {X : Nat → va_E} {T : xS} {h : AmH} : am_c X (xst T h) 121 = .inl (1, 11, .inr (.inl (T.2.2.1 121))) := rfl
theorem x_h_121 {T : xS} {h : AmH} : (xst T h).1 121 = .inl (1, 11, .inr (.inl (T.2.2.1 121))) := rfl
theorem x_u_121 {T : xS} {h : AmH} {j : Nat} {x : Int64} : am_up (xst T h) 121 (.inl (1, 11, .inr (.inl (vp_updL (T.2.2.1 121) j x)))) = xst (x_sL T 121 j x) h := x_up (by decide) rfl
theorem x_c_122 {X : Nat → va_E} {T : xS} {h : AmH} : am_c X (xst T h) 122 = .inl (1, 60, .inr (.inl (T.2.2.1 122))) := rfl
theorem x_h_122 {T : xS} {h : AmH} : (xst T h).1 122 = .inl (1, 60, .inr (.inl (T.2.2.1 122))) := rfl
theorem x_u_122 {T : xS} {h : AmH} {j : Nat} {x : Int64} : am_up (xst T h) 122 (.inl (1, 60, .inr (.inl (vp_updL (T.2.2.1 122) j x)))) = xst (x_sL T 122 j x) h := x_up (by decide) rfl
theorem x_c_123 {X : Nat → va_E} {T : xS} {h : AmH} : am_c X (xst T h) 123 = .inr (2, [.ref 124, .int (T.1 123 1)]) := rfl
theorem x_h_123 {T : xS} {h : AmH} : (xst T h).1 123 = .inr (2, [.ref 124, .int (T.1 123 1)]) := rfl
theorem x_u_123_1 {T : xS} {h : AmH} {x : Int32} : am_up (xst T h) 123 (.inr (2, [.ref 124, .int x])) = xst (x_sI T 123 1 x) h := x_up (by decide) rfl
theorem x_c_124 {X : Nat → va_E} {T : xS} {h : AmH} : am_c X (xst T h) 124 = .inl (0, 289, .inl (T.2.1 124)) := rfl
theorem x_h_124 {T : xS} {h : AmH} : (xst T h).1 124 = .inl (0, 289, .inl (T.2.1 124)) := rfl
theorem x_u_124 {T : xS} {h : AmH} {j : Nat} {x : Int32} : am_up (xst T h) 124 (.inl (0, 289, .inl (upd (T.2.1 124) j x))) = xst (x_sA T 124 j x) h := x_up (by decide) rfl
theorem x_r_124 {T : xS} {h : AmH} {f : Nat → Int32} : am_up (xst T h) 124 (.inl (0, 289, .inl f)) = xst (x_sR T 124 f) h := x_up (by decide) rfl
theorem x_c_125 {X : Nat → va_E} {T : xS} {h : AmH} : am_c X (xst T h) 125 = .inr (3, [.ref 126, .ref 127, .ref 128, .ref 129, .int (T.1 125 4)]) := rfl
theorem x_h_125 {T : xS} {h : AmH} : (xst T h).1 125 = .inr (3, [.ref 126, .ref 127, .ref 128, .ref 129, .int (T.1 125 4)]) := rfl
theorem x_u_125_4 {T : xS} {h : AmH} {x : Int32} : am_up (xst T h) 125 (.inr (3, [.ref 126, .ref 127, .ref 128, .ref 129, .int x])) = xst (x_sI T 125 4 x) h := x_up (by decide) rfl
theorem x_c_126 {X : Nat → va_E} {T : xS} {h : AmH} : am_c X (xst T h) 126 = .inl (0, 8, .inl (T.2.1 126)) := rfl
theorem x_h_126 {T : xS} {h : AmH} : (xst T h).1 126 = .inl (0, 8, .inl (T.2.1 126)) := rfl
theorem x_u_126 {T : xS} {h : AmH} {j : Nat} {x : Int32} : am_up (xst T h) 126 (.inl (0, 8, .inl (upd (T.2.1 126) j x))) = xst (x_sA T 126 j x) h := x_up (by decide) rfl
theorem x_r_126 {T : xS} {h : AmH} {f : Nat → Int32} : am_up (xst T h) 126 (.inl (0, 8, .inl f)) = xst (x_sR T 126 f) h := x_up (by decide) rfl
theorem x_c_127 {X : Nat → va_E} {T : xS} {h : AmH} : am_c X (xst T h) 127 = .inl (0, 8, .inl (T.2.1 127)) := rfl
theorem x_h_127 {T : xS} {h : AmH} : (xst T h).1 127 = .inl (0, 8, .inl (T.2.1 127)) := rfl
theorem x_u_127 {T : xS} {h : AmH} {j : Nat} {x : Int32} : am_up (xst T h) 127 (.inl (0, 8, .inl (upd (T.2.1 127) j x))) = xst (x_sA T 127 j x) h := x_up (by decide) rfl
theorem x_r_127 {T : xS} {h : AmH} {f : Nat → Int32} : am_up (xst T h) 127 (.inl (0, 8, .inl f)) = xst (x_sR T 127 f) h := x_up (by decide) rfl
theorem x_c_128 {X : Nat → va_E} {T : xS} {h : AmH} : am_c X (xst T h) 128 = .inl (0, 8, .inl (T.2.1 128)) := rfl
theorem x_h_128 {T : xS} {h : AmH} : (xst T h).1 128 = .inl (0, 8, .inl (T.2.1 128)) := rfl
theorem x_u_128 {T : xS} {h : AmH} {j : Nat} {x : Int32} : am_up (xst T h) 128 (.inl (0, 8, .inl (upd (T.2.1 128) j x))) = xst (x_sA T 128 j x) h := x_up (by decide) rfl
theorem x_r_128 {T : xS} {h : AmH} {f : Nat → Int32} : am_up (xst T h) 128 (.inl (0, 8, .inl f)) = xst (x_sR T 128 f) h := x_up (by decide) rfl
theorem x_c_129 {X : Nat → va_E} {T : xS} {h : AmH} : am_c X (xst T h) 129 = .inl (0, 2048, .inl (T.2.1 129)) := rfl
theorem x_h_129 {T : xS} {h : AmH} : (xst T h).1 129 = .inl (0, 2048, .inl (T.2.1 129)) := rfl
theorem x_u_129 {T : xS} {h : AmH} {j : Nat} {x : Int32} : am_up (xst T h) 129 (.inl (0, 2048, .inl (upd (T.2.1 129) j x))) = xst (x_sA T 129 j x) h := x_up (by decide) rfl
theorem x_r_129 {T : xS} {h : AmH} {f : Nat → Int32} : am_up (xst T h) 129 (.inl (0, 2048, .inl f)) = xst (x_sR T 129 f) h := x_up (by decide) rfl
