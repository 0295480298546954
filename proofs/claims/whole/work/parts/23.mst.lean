/-! the reference's object: one block of places, 130 to 171. Its state: numbers by field, rows by place (from 130), rows of longs by place -/
abbrev mS : Type := (Nat → Int32) × (Nat → Nat → Int32) × (Nat → Nat → Int64)
def m_fs (a : Nat → Int32) : List Value := [.int (a 0), .ref 131, .ref 132, .ref 133, .ref 134, .ref 135, .ref 136, .ref 137, .ref 138, .ref 139, .ref 140, .ref 141, .ref 142, .ref 143, .ref 144, .ref 145, .ref 146, .ref 147, .ref 148, .ref 149, .ref 150, .ref 151, .ref 152, .ref 153, .ref 154, .ref 155, .int (a 26), .int (a 27), .int (a 28), .int (a 29), .int (a 30), .int (a 31), .int (a 32), .int (a 33), .int (a 34), .int (a 35), .ref 156, .ref 157, .ref 158, .ref 159, .ref 160, .ref 161, .ref 162, .ref 163, .ref 164, .ref 165, .ref 166, .int (a 47), .int (a 48), .int (a 49), .ref 167, .ref 168, .ref 169, .int (a 53), .ref 170, .ref 171, .int (a 56), .int (a 57)]
def m_ln : List Nat := [0, 9, 16, 16, 6, 6, 6, 4, 13, 13, 13, 13, 13, 13, 13, 13, 5, 16, 16, 6, 6, 4, 13, 13, 13, 13, 400, 1800, 1800, 6, 72, 72, 402, 11, 300, 2280, 1, 9, 9, 21, 12500, 4]
def m_tg : List Nat := [0, 0, 0, 0, 0, 0, 0, 0, 0, 0, 0, 0, 0, 0, 0, 0, 0, 0, 0, 0, 0, 0, 0, 0, 0, 0, 2, 0, 0, 0, 0, 0, 0, 1, 1, 0, 0, 0, 0, 0, 0, 3]
def m_ce (S : mS) (k : Nat) : va_E := if k = 0 then .inr (12, m_fs S.1) else if k = 33 ∨ k = 34 then .inl (1, m_ln.getD k 0, .inr (.inl (S.2.2 k))) else .inl (m_tg.getD k 0, m_ln.getD k 0, .inl (S.2.1 k))
/-- the heap with the reference's object in state S -/
def mst (S : mS) (h : AmH) : AmH := (fun p => if 130 ≤ p ∧ p < 172 then m_ce S (p - 130) else h.1 p, h.2)
def m_sI (S : mS) (k : Nat) (x : Int32) : mS := (upd S.1 k x, S.2)
def m_sA (S : mS) (k j : Nat) (x : Int32) : mS := (S.1, va_up S.2.1 k (upd (S.2.1 k) j x), S.2.2)
def m_sL (S : mS) (k j : Nat) (x : Int64) : mS := (S.1, S.2.1, va_up S.2.2 k (vp_updL (S.2.2 k) j x))
theorem m_lt {S : mS} {h : AmH} {p : Nat} (hh : 172 ≤ h.2.1) (hp : p < 172) : p < (mst S h).2.1 := Nat.lt_of_lt_of_le hp hh
theorem m_up_a {S : mS} {h : AmH} {k j : Nat} {x : Int32} (h1 : 1 ≤ k ∧ k < 42) (h2 : k ≠ 33 ∧ k ≠ 34) : am_up (mst S h) (130 + k) (.inl (m_tg.getD k 0, m_ln.getD k 0, .inl (upd (S.2.1 k) j x))) = mst (m_sA S k j x) h := by
  unfold am_up mst
  congr 1
  funext p
  unfold va_up
  by_cases hp : p = 130 + k
  · subst hp
    rw [if_pos rfl, if_pos (by omega), show 130 + k - 130 = k by omega]
    unfold m_ce
    rw [if_neg (by omega), if_neg (by omega)]
    show _ = Sum.inl (_, _, Sum.inl (va_up S.2.1 k _ k))
    simp [va_up]
  · rw [if_neg hp]
    dsimp only
    by_cases hb : 130 ≤ p ∧ p < 172
    · rw [if_pos hb, if_pos hb]
      unfold m_ce
      have : p - 130 ≠ k := by omega
      simp [m_sA, va_up, this]
    · rw [if_neg hb, if_neg hb]
theorem m_up_l {S : mS} {h : AmH} {k j : Nat} {x : Int64} (h1 : k = 33 ∨ k = 34) : am_up (mst S h) (130 + k) (.inl (1, m_ln.getD k 0, .inr (.inl (vp_updL (S.2.2 k) j x)))) = mst (m_sL S k j x) h := by
  unfold am_up mst
  congr 1
  funext p
  unfold va_up
  by_cases hp : p = 130 + k
  · subst hp
    rw [if_pos rfl, if_pos (by omega), show 130 + k - 130 = k by omega]
    unfold m_ce
    rw [if_neg (by omega), if_pos h1]
    show _ = Sum.inl (_, _, Sum.inr (Sum.inl (va_up S.2.2 k _ k)))
    simp [va_up]
  · rw [if_neg hp]
    dsimp only
    by_cases hb : 130 ≤ p ∧ p < 172
    · rw [if_pos hb, if_pos hb]
      unfold m_ce
      have : p - 130 ≠ k := by omega
      simp [m_sL, va_up, this]
    · rw [if_neg hb, if_neg hb]
theorem m_up_i {S : mS} {h : AmH} {k : Nat} {x : Int32} (hf : (m_fs S.1).set k (.int x) = m_fs (upd S.1 k x)) : am_up (mst S h) 130 (.inr (12, (m_fs S.1).set k (.int x))) = mst (m_sI S k x) h := by
  unfold am_up mst
  congr 1
  funext p
  unfold va_up
  by_cases hp : p = 130
  · subst hp
    rw [if_pos rfl, if_pos (by omega), hf]
    rfl
  · rw [if_neg hp]
    dsimp only
    by_cases hb : 130 ≤ p ∧ p < 172
    · rw [if_pos hb, if_pos hb]
      unfold m_ce
      have : p - 130 ≠ 0 := by omega
      simp [m_sI, this]
    · rw [if_neg hb, if_neg hb]
theorem m_f_0 (a : Nat → Int32) (x : Int32) : (m_fs a).set 0 (.int x) = m_fs (upd a 0 x) := rfl
theorem m_f_26 (a : Nat → Int32) (x : Int32) : (m_fs a).set 26 (.int x) = m_fs (upd a 26 x) := rfl
theorem m_f_27 (a : Nat → Int32) (x : Int32) : (m_fs a).set 27 (.int x) = m_fs (upd a 27 x) := rfl
theorem m_f_28 (a : Nat → Int32) (x : Int32) : (m_fs a).set 28 (.int x) = m_fs (upd a 28 x) := rfl
theorem m_f_29 (a : Nat → Int32) (x : Int32) : (m_fs a).set 29 (.int x) = m_fs (upd a 29 x) := rfl
theorem m_f_30 (a : Nat → Int32) (x : Int32) : (m_fs a).set 30 (.int x) = m_fs (upd a 30 x) := rfl
theorem m_f_31 (a : Nat → Int32) (x : Int32) : (m_fs a).set 31 (.int x) = m_fs (upd a 31 x) := rfl
theorem m_f_32 (a : Nat → Int32) (x : Int32) : (m_fs a).set 32 (.int x) = m_fs (upd a 32 x) := rfl
theorem m_f_33 (a : Nat → Int32) (x : Int32) : (m_fs a).set 33 (.int x) = m_fs (upd a 33 x) := rfl
theorem m_f_34 (a : Nat → Int32) (x : Int32) : (m_fs a).set 34 (.int x) = m_fs (upd a 34 x) := rfl
theorem m_f_35 (a : Nat → Int32) (x : Int32) : (m_fs a).set 35 (.int x) = m_fs (upd a 35 x) := rfl
theorem m_f_47 (a : Nat → Int32) (x : Int32) : (m_fs a).set 47 (.int x) = m_fs (upd a 47 x) := rfl
theorem m_f_48 (a : Nat → Int32) (x : Int32) : (m_fs a).set 48 (.int x) = m_fs (upd a 48 x) := rfl
theorem m_f_49 (a : Nat → Int32) (x : Int32) : (m_fs a).set 49 (.int x) = m_fs (upd a 49 x) := rfl
theorem m_f_53 (a : Nat → Int32) (x : Int32) : (m_fs a).set 53 (.int x) = m_fs (upd a 53 x) := rfl
theorem m_f_56 (a : Nat → Int32) (x : Int32) : (m_fs a).set 56 (.int x) = m_fs (upd a 56 x) := rfl
theorem m_f_57 (a : Nat → Int32) (x : Int32) : (m_fs a).set 57 (.int x) = m_fs (upd a 57 x) := rfl
theorem m_c_0 {X : Nat → va_E} {S : mS} {h : AmH} : am_c X (mst S h) 130 = .inr (12, m_fs S.1) := rfl
theorem m_h_0 {S : mS} {h : AmH} : (mst S h).1 130 = .inr (12, m_fs S.1) := rfl
theorem m_c_1 {X : Nat → va_E} {S : mS} {h : AmH} : am_c X (mst S h) 131 = .inl (0, 9, .inl (S.2.1 1)) := rfl
theorem m_h_1 {S : mS} {h : AmH} : (mst S h).1 131 = .inl (0, 9, .inl (S.2.1 1)) := rfl
theorem m_c_2 {X : Nat → va_E} {S : mS} {h : AmH} : am_c X (mst S h) 132 = .inl (0, 16, .inl (S.2.1 2)) := rfl
theorem m_h_2 {S : mS} {h : AmH} : (mst S h).1 132 = .inl (0, 16, .inl (S.2.1 2)) := rfl
theorem m_c_3 {X : Nat → va_E} {S : mS} {h : AmH} : am_c X (mst S h) 133 = .inl (0, 16, .inl (S.2.1 3)) := rfl
theorem m_h_3 {S : mS} {h : AmH} : (mst S h).1 133 = .inl (0, 16, .inl (S.2.1 3)) := rfl
theorem m_c_4 {X : Nat → va_E} {S : mS} {h : AmH} : am_c X (mst S h) 134 = .inl (0, 6, .inl (S.2.1 4)) := rfl
theorem m_h_4 {S : mS} {h : AmH} : (mst S h).1 134 = .inl (0, 6, .inl (S.2.1 4)) := rfl
theorem m_c_5 {X : Nat → va_E} {S : mS} {h : AmH} : am_c X (mst S h) 135 = .inl (0, 6, .inl (S.2.1 5)) := rfl
theorem m_h_5 {S : mS} {h : AmH} : (mst S h).1 135 = .inl (0, 6, .inl (S.2.1 5)) := rfl
theorem m_c_6 {X : Nat → va_E} {S : mS} {h : AmH} : am_c X (mst S h) 136 = .inl (0, 6, .inl (S.2.1 6)) := rfl
theorem m_h_6 {S : mS} {h : AmH} : (mst S h).1 136 = .inl (0, 6, .inl (S.2.1 6)) := rfl
theorem m_c_7 {X : Nat → va_E} {S : mS} {h : AmH} : am_c X (mst S h) 137 = .inl (0, 4, .inl (S.2.1 7)) := rfl
theorem m_h_7 {S : mS} {h : AmH} : (mst S h).1 137 = .inl (0, 4, .inl (S.2.1 7)) := rfl
theorem m_c_8 {X : Nat → va_E} {S : mS} {h : AmH} : am_c X (mst S h) 138 = .inl (0, 13, .inl (S.2.1 8)) := rfl
theorem m_h_8 {S : mS} {h : AmH} : (mst S h).1 138 = .inl (0, 13, .inl (S.2.1 8)) := rfl
theorem m_c_9 {X : Nat → va_E} {S : mS} {h : AmH} : am_c X (mst S h) 139 = .inl (0, 13, .inl (S.2.1 9)) := rfl
theorem m_h_9 {S : mS} {h : AmH} : (mst S h).1 139 = .inl (0, 13, .inl (S.2.1 9)) := rfl
theorem m_c_10 {X : Nat → va_E} {S : mS} {h : AmH} : am_c X (mst S h) 140 = .inl (0, 13, .inl (S.2.1 10)) := rfl
theorem m_h_10 {S : mS} {h : AmH} : (mst S h).1 140 = .inl (0, 13, .inl (S.2.1 10)) := rfl
theorem m_c_11 {X : Nat → va_E} {S : mS} {h : AmH} : am_c X (mst S h) 141 = .inl (0, 13, .inl (S.2.1 11)) := rfl
theorem m_h_11 {S : mS} {h : AmH} : (mst S h).1 141 = .inl (0, 13, .inl (S.2.1 11)) := rfl
theorem m_c_12 {X : Nat → va_E} {S : mS} {h : AmH} : am_c X (mst S h) 142 = .inl (0, 13, .inl (S.2.1 12)) := rfl
theorem m_h_12 {S : mS} {h : AmH} : (mst S h).1 142 = .inl (0, 13, .inl (S.2.1 12)) := rfl
theorem m_c_13 {X : Nat → va_E} {S : mS} {h : AmH} : am_c X (mst S h) 143 = .inl (0, 13, .inl (S.2.1 13)) := rfl
theorem m_h_13 {S : mS} {h : AmH} : (mst S h).1 143 = .inl (0, 13, .inl (S.2.1 13)) := rfl
theorem m_c_14 {X : Nat → va_E} {S : mS} {h : AmH} : am_c X (mst S h) 144 = .inl (0, 13, .inl (S.2.1 14)) := rfl
theorem m_h_14 {S : mS} {h : AmH} : (mst S h).1 144 = .inl (0, 13, .inl (S.2.1 14)) := rfl
theorem m_c_15 {X : Nat → va_E} {S : mS} {h : AmH} : am_c X (mst S h) 145 = .inl (0, 13, .inl (S.2.1 15)) := rfl
theorem m_h_15 {S : mS} {h : AmH} : (mst S h).1 145 = .inl (0, 13, .inl (S.2.1 15)) := rfl
theorem m_c_16 {X : Nat → va_E} {S : mS} {h : AmH} : am_c X (mst S h) 146 = .inl (0, 5, .inl (S.2.1 16)) := rfl
theorem m_h_16 {S : mS} {h : AmH} : (mst S h).1 146 = .inl (0, 5, .inl (S.2.1 16)) := rfl
theorem m_c_17 {X : Nat → va_E} {S : mS} {h : AmH} : am_c X (mst S h) 147 = .inl (0, 16, .inl (S.2.1 17)) := rfl
theorem m_h_17 {S : mS} {h : AmH} : (mst S h).1 147 = .inl (0, 16, .inl (S.2.1 17)) := rfl
theorem m_c_18 {X : Nat → va_E} {S : mS} {h : AmH} : am_c X (mst S h) 148 = .inl (0, 16, .inl (S.2.1 18)) := rfl
theorem m_h_18 {S : mS} {h : AmH} : (mst S h).1 148 = .inl (0, 16, .inl (S.2.1 18)) := rfl
theorem m_c_19 {X : Nat → va_E} {S : mS} {h : AmH} : am_c X (mst S h) 149 = .inl (0, 6, .inl (S.2.1 19)) := rfl
theorem m_h_19 {S : mS} {h : AmH} : (mst S h).1 149 = .inl (0, 6, .inl (S.2.1 19)) := rfl
theorem m_c_20 {X : Nat → va_E} {S : mS} {h : AmH} : am_c X (mst S h) 150 = .inl (0, 6, .inl (S.2.1 20)) := rfl
theorem m_h_20 {S : mS} {h : AmH} : (mst S h).1 150 = .inl (0, 6, .inl (S.2.1 20)) := rfl
theorem m_c_21 {X : Nat → va_E} {S : mS} {h : AmH} : am_c X (mst S h) 151 = .inl (0, 4, .inl (S.2.1 21)) := rfl
theorem m_h_21 {S : mS} {h : AmH} : (mst S h).1 151 = .inl (0, 4, .inl (S.2.1 21)) := rfl
theorem m_c_22 {X : Nat → va_E} {S : mS} {h : AmH} : am_c X (mst S h) 152 = .inl (0, 13, .inl (S.2.1 22)) := rfl
theorem m_h_22 {S : mS} {h : AmH} : (mst S h).1 152 = .inl (0, 13, .inl (S.2.1 22)) := rfl
theorem m_c_23 {X : Nat → va_E} {S : mS} {h : AmH} : am_c X (mst S h) 153 = .inl (0, 13, .inl (S.2.1 23)) := rfl
theorem m_h_23 {S : mS} {h : AmH} : (mst S h).1 153 = .inl (0, 13, .inl (S.2.1 23)) := rfl
theorem m_c_24 {X : Nat → va_E} {S : mS} {h : AmH} : am_c X (mst S h) 154 = .inl (0, 13, .inl (S.2.1 24)) := rfl
theorem m_h_24 {S : mS} {h : AmH} : (mst S h).1 154 = .inl (0, 13, .inl (S.2.1 24)) := rfl
theorem m_c_25 {X : Nat → va_E} {S : mS} {h : AmH} : am_c X (mst S h) 155 = .inl (0, 13, .inl (S.2.1 25)) := rfl
theorem m_h_25 {S : mS} {h : AmH} : (mst S h).1 155 = .inl (0, 13, .inl (S.2.1 25)) := rfl
theorem m_c_26 {X : Nat → va_E} {S : mS} {h : AmH} : am_c X (mst S h) 156 = .inl (2, 400, .inl (S.2.1 26)) := rfl
theorem m_h_26 {S : mS} {h : AmH} : (mst S h).1 156 = .inl (2, 400, .inl (S.2.1 26)) := rfl
theorem m_c_27 {X : Nat → va_E} {S : mS} {h : AmH} : am_c X (mst S h) 157 = .inl (0, 1800, .inl (S.2.1 27)) := rfl
theorem m_h_27 {S : mS} {h : AmH} : (mst S h).1 157 = .inl (0, 1800, .inl (S.2.1 27)) := rfl
theorem m_c_28 {X : Nat → va_E} {S : mS} {h : AmH} : am_c X (mst S h) 158 = .inl (0, 1800, .inl (S.2.1 28)) := rfl
theorem m_h_28 {S : mS} {h : AmH} : (mst S h).1 158 = .inl (0, 1800, .inl (S.2.1 28)) := rfl
theorem m_c_29 {X : Nat → va_E} {S : mS} {h : AmH} : am_c X (mst S h) 159 = .inl (0, 6, .inl (S.2.1 29)) := rfl
theorem m_h_29 {S : mS} {h : AmH} : (mst S h).1 159 = .inl (0, 6, .inl (S.2.1 29)) := rfl
theorem m_c_30 {X : Nat → va_E} {S : mS} {h : AmH} : am_c X (mst S h) 160 = .inl (0, 72, .inl (S.2.1 30)) := rfl
theorem m_h_30 {S : mS} {h : AmH} : (mst S h).1 160 = .inl (0, 72, .inl (S.2.1 30)) := rfl
theorem m_c_31 {X : Nat → va_E} {S : mS} {h : AmH} : am_c X (mst S h) 161 = .inl (0, 72, .inl (S.2.1 31)) := rfl
theorem m_h_31 {S : mS} {h : AmH} : (mst S h).1 161 = .inl (0, 72, .inl (S.2.1 31)) := rfl
theorem m_c_32 {X : Nat → va_E} {S : mS} {h : AmH} : am_c X (mst S h) 162 = .inl (0, 402, .inl (S.2.1 32)) := rfl
theorem m_h_32 {S : mS} {h : AmH} : (mst S h).1 162 = .inl (0, 402, .inl (S.2.1 32)) := rfl
theorem m_c_33 {X : Nat → va_E} {S : mS} {h : AmH} : am_c X (mst S h) 163 = .inl (1, 11, .inr (.inl (S.2.2 33))) := rfl
theorem m_h_33 {S : mS} {h : AmH} : (mst S h).1 163 = .inl (1, 11, .inr (.inl (S.2.2 33))) := rfl
theorem m_c_34 {X : Nat → va_E} {S : mS} {h : AmH} : am_c X (mst S h) 164 = .inl (1, 300, .inr (.inl (S.2.2 34))) := rfl
theorem m_h_34 {S : mS} {h : AmH} : (mst S h).1 164 = .inl (1, 300, .inr (.inl (S.2.2 34))) := rfl
theorem m_c_35 {X : Nat → va_E} {S : mS} {h : AmH} : am_c X (mst S h) 165 = .inl (0, 2280, .inl (S.2.1 35)) := rfl
theorem m_h_35 {S : mS} {h : AmH} : (mst S h).1 165 = .inl (0, 2280, .inl (S.2.1 35)) := rfl
theorem m_c_36 {X : Nat → va_E} {S : mS} {h : AmH} : am_c X (mst S h) 166 = .inl (0, 1, .inl (S.2.1 36)) := rfl
theorem m_h_36 {S : mS} {h : AmH} : (mst S h).1 166 = .inl (0, 1, .inl (S.2.1 36)) := rfl
theorem m_c_37 {X : Nat → va_E} {S : mS} {h : AmH} : am_c X (mst S h) 167 = .inl (0, 9, .inl (S.2.1 37)) := rfl
theorem m_h_37 {S : mS} {h : AmH} : (mst S h).1 167 = .inl (0, 9, .inl (S.2.1 37)) := rfl
theorem m_c_38 {X : Nat → va_E} {S : mS} {h : AmH} : am_c X (mst S h) 168 = .inl (0, 9, .inl (S.2.1 38)) := rfl
theorem m_h_38 {S : mS} {h : AmH} : (mst S h).1 168 = .inl (0, 9, .inl (S.2.1 38)) := rfl
theorem m_c_39 {X : Nat → va_E} {S : mS} {h : AmH} : am_c X (mst S h) 169 = .inl (0, 21, .inl (S.2.1 39)) := rfl
theorem m_h_39 {S : mS} {h : AmH} : (mst S h).1 169 = .inl (0, 21, .inl (S.2.1 39)) := rfl
theorem m_c_40 {X : Nat → va_E} {S : mS} {h : AmH} : am_c X (mst S h) 170 = .inl (0, 12500, .inl (S.2.1 40)) := rfl
theorem m_h_40 {S : mS} {h : AmH} : (mst S h).1 170 = .inl (0, 12500, .inl (S.2.1 40)) := rfl
theorem m_c_41 {X : Nat → va_E} {S : mS} {h : AmH} : am_c X (mst S h) 171 = .inl (3, 4, .inl (S.2.1 41)) := rfl
theorem m_h_41 {S : mS} {h : AmH} : (mst S h).1 171 = .inl (3, 4, .inl (S.2.1 41)) := rfl
theorem lf_0_9 : am_lk 9 (am_ft.getD 0 []) = some (0, 0) := by decide +kernel
theorem lf_0_15 : am_lk 15 (am_ft.getD 0 []) = some (0, 1) := by decide +kernel
theorem lf_0_18 : am_lk 18 (am_ft.getD 0 []) = some (0, 2) := by decide +kernel
theorem lf_0_21 : am_lk 21 (am_ft.getD 0 []) = some (0, 3) := by decide +kernel
theorem lf_0_25 : am_lk 25 (am_ft.getD 0 []) = some (0, 4) := by decide +kernel
theorem lf_0_28 : am_lk 28 (am_ft.getD 0 []) = some (0, 5) := by decide +kernel
theorem lf_0_31 : am_lk 31 (am_ft.getD 0 []) = some (0, 6) := by decide +kernel
theorem lf_0_34 : am_lk 34 (am_ft.getD 0 []) = some (0, 7) := by decide +kernel
theorem lf_1_7 : am_lk 7 (am_ft.getD 1 []) = some (1, 0) := by decide +kernel
theorem lf_2_11 : am_lk 11 (am_ft.getD 2 []) = some (2, 0) := by decide +kernel
theorem lf_2_15 : am_lk 15 (am_ft.getD 2 []) = some (2, 1) := by decide +kernel
theorem lf_2_19 : am_lk 19 (am_ft.getD 2 []) = some (10, 0) := by decide +kernel
theorem lf_2_25 : am_lk 25 (am_ft.getD 2 []) = some (0, 0) := by decide +kernel
theorem lf_2_30 : am_lk 30 (am_ft.getD 2 []) = some (10, 1) := by decide +kernel
theorem lf_2_34 : am_lk 34 (am_ft.getD 2 []) = some (9, 11) := by decide +kernel
theorem lf_2_76 : am_lk 76 (am_ft.getD 2 []) = some (7, 4) := by decide +kernel
theorem lf_2_87 : am_lk 87 (am_ft.getD 2 []) = some (9, 1) := by decide +kernel
theorem lf_3_9 : am_lk 9 (am_ft.getD 3 []) = some (3, 0) := by decide +kernel
theorem lf_3_15 : am_lk 15 (am_ft.getD 3 []) = some (3, 1) := by decide +kernel
theorem lf_3_18 : am_lk 18 (am_ft.getD 3 []) = some (3, 2) := by decide +kernel
theorem lf_3_21 : am_lk 21 (am_ft.getD 3 []) = some (3, 3) := by decide +kernel
theorem lf_3_24 : am_lk 24 (am_ft.getD 3 []) = some (3, 4) := by decide +kernel
theorem lf_3_28 : am_lk 28 (am_ft.getD 3 []) = some (9, 1) := by decide +kernel
theorem lf_4_11 : am_lk 11 (am_ft.getD 4 []) = some (4, 0) := by decide +kernel
theorem lf_4_17 : am_lk 17 (am_ft.getD 4 []) = some (4, 1) := by decide +kernel
theorem lf_4_21 : am_lk 21 (am_ft.getD 4 []) = some (4, 2) := by decide +kernel
theorem lf_5_12 : am_lk 12 (am_ft.getD 5 []) = some (5, 0) := by decide +kernel
theorem lf_5_21 : am_lk 21 (am_ft.getD 5 []) = some (5, 1) := by decide +kernel
theorem lf_5_44 : am_lk 44 (am_ft.getD 5 []) = some (8, 4) := by decide +kernel
theorem lf_5_58 : am_lk 58 (am_ft.getD 5 []) = some (8, 3) := by decide +kernel
theorem lf_5_76 : am_lk 76 (am_ft.getD 5 []) = some (0, 0) := by decide +kernel
theorem lf_5_94 : am_lk 94 (am_ft.getD 5 []) = some (0, 3) := by decide +kernel
theorem lf_5_98 : am_lk 98 (am_ft.getD 5 []) = some (0, 4) := by decide +kernel
theorem lf_5_108 : am_lk 108 (am_ft.getD 5 []) = some (9, 11) := by decide +kernel
theorem lf_5_114 : am_lk 114 (am_ft.getD 5 []) = some (0, 5) := by decide +kernel
theorem lf_5_117 : am_lk 117 (am_ft.getD 5 []) = some (0, 6) := by decide +kernel
theorem lf_5_120 : am_lk 120 (am_ft.getD 5 []) = some (0, 1) := by decide +kernel
theorem lf_5_123 : am_lk 123 (am_ft.getD 5 []) = some (0, 2) := by decide +kernel
theorem lf_5_130 : am_lk 130 (am_ft.getD 5 []) = some (9, 1) := by decide +kernel
theorem lf_6_9 : am_lk 9 (am_ft.getD 6 []) = some (6, 0) := by decide +kernel
theorem lf_6_15 : am_lk 15 (am_ft.getD 6 []) = some (6, 1) := by decide +kernel
theorem lf_6_19 : am_lk 19 (am_ft.getD 6 []) = some (6, 2) := by decide +kernel
theorem lf_6_44 : am_lk 44 (am_ft.getD 6 []) = some (8, 3) := by decide +kernel
theorem lf_6_63 : am_lk 63 (am_ft.getD 6 []) = some (8, 4) := by decide +kernel
theorem lf_6_77 : am_lk 77 (am_ft.getD 6 []) = some (8, 2) := by decide +kernel
theorem lf_6_100 : am_lk 100 (am_ft.getD 6 []) = some (8, 1) := by decide +kernel
theorem lf_6_101 : am_lk 101 (am_ft.getD 6 []) = some (8, 0) := by decide +kernel
theorem lf_7_12 : am_lk 12 (am_ft.getD 7 []) = some (7, 0) := by decide +kernel
theorem lf_7_20 : am_lk 20 (am_ft.getD 7 []) = some (7, 1) := by decide +kernel
theorem lf_7_24 : am_lk 24 (am_ft.getD 7 []) = some (7, 2) := by decide +kernel
theorem lf_7_27 : am_lk 27 (am_ft.getD 7 []) = some (7, 3) := by decide +kernel
theorem lf_7_31 : am_lk 31 (am_ft.getD 7 []) = some (7, 4) := by decide +kernel
theorem lf_7_34 : am_lk 34 (am_ft.getD 7 []) = some (7, 5) := by decide +kernel
theorem lf_7_38 : am_lk 38 (am_ft.getD 7 []) = some (7, 6) := by decide +kernel
theorem lf_7_42 : am_lk 42 (am_ft.getD 7 []) = some (7, 7) := by decide +kernel
theorem lf_7_45 : am_lk 45 (am_ft.getD 7 []) = some (7, 8) := by decide +kernel
theorem lf_7_48 : am_lk 48 (am_ft.getD 7 []) = some (10, 1) := by decide +kernel
theorem lf_7_55 : am_lk 55 (am_ft.getD 7 []) = some (10, 0) := by decide +kernel
theorem lf_7_71 : am_lk 71 (am_ft.getD 7 []) = some (9, 0) := by decide +kernel
theorem lf_7_80 : am_lk 80 (am_ft.getD 7 []) = some (9, 3) := by decide +kernel
theorem lf_7_88 : am_lk 88 (am_ft.getD 7 []) = some (9, 1) := by decide +kernel
theorem lf_7_91 : am_lk 91 (am_ft.getD 7 []) = some (9, 8) := by decide +kernel
theorem lf_7_104 : am_lk 104 (am_ft.getD 7 []) = some (0, 6) := by decide +kernel
theorem lf_7_109 : am_lk 109 (am_ft.getD 7 []) = some (9, 2) := by decide +kernel
theorem lf_7_112 : am_lk 112 (am_ft.getD 7 []) = some (9, 7) := by decide +kernel
theorem lf_7_115 : am_lk 115 (am_ft.getD 7 []) = some (0, 3) := by decide +kernel
theorem lf_7_122 : am_lk 122 (am_ft.getD 7 []) = some (0, 4) := by decide +kernel
theorem lf_7_125 : am_lk 125 (am_ft.getD 7 []) = some (0, 5) := by decide +kernel
theorem lf_7_128 : am_lk 128 (am_ft.getD 7 []) = some (9, 5) := by decide +kernel
theorem lf_7_131 : am_lk 131 (am_ft.getD 7 []) = some (0, 7) := by decide +kernel
theorem lf_7_138 : am_lk 138 (am_ft.getD 7 []) = some (9, 12) := by decide +kernel
theorem lf_7_162 : am_lk 162 (am_ft.getD 7 []) = some (9, 6) := by decide +kernel
theorem lf_7_169 : am_lk 169 (am_ft.getD 7 []) = some (9, 11) := by decide +kernel
theorem lf_8_9 : am_lk 9 (am_ft.getD 8 []) = some (8, 0) := by decide +kernel
theorem lf_8_15 : am_lk 15 (am_ft.getD 8 []) = some (8, 1) := by decide +kernel
theorem lf_8_19 : am_lk 19 (am_ft.getD 8 []) = some (8, 2) := by decide +kernel
theorem lf_8_22 : am_lk 22 (am_ft.getD 8 []) = some (8, 3) := by decide +kernel
theorem lf_8_25 : am_lk 25 (am_ft.getD 8 []) = some (8, 4) := by decide +kernel
theorem lf_9_9 : am_lk 9 (am_ft.getD 9 []) = some (9, 0) := by decide +kernel
theorem lf_9_15 : am_lk 15 (am_ft.getD 9 []) = some (9, 1) := by decide +kernel
theorem lf_9_18 : am_lk 18 (am_ft.getD 9 []) = some (9, 2) := by decide +kernel
theorem lf_9_21 : am_lk 21 (am_ft.getD 9 []) = some (9, 3) := by decide +kernel
theorem lf_9_25 : am_lk 25 (am_ft.getD 9 []) = some (9, 4) := by decide +kernel
theorem lf_9_28 : am_lk 28 (am_ft.getD 9 []) = some (9, 5) := by decide +kernel
theorem lf_9_31 : am_lk 31 (am_ft.getD 9 []) = some (9, 6) := by decide +kernel
theorem lf_9_34 : am_lk 34 (am_ft.getD 9 []) = some (9, 7) := by decide +kernel
theorem lf_9_37 : am_lk 37 (am_ft.getD 9 []) = some (9, 8) := by decide +kernel
theorem lf_9_40 : am_lk 40 (am_ft.getD 9 []) = some (9, 9) := by decide +kernel
theorem lf_9_43 : am_lk 43 (am_ft.getD 9 []) = some (9, 10) := by decide +kernel
theorem lf_9_46 : am_lk 46 (am_ft.getD 9 []) = some (9, 11) := by decide +kernel
theorem lf_9_49 : am_lk 49 (am_ft.getD 9 []) = some (9, 12) := by decide +kernel
theorem lf_10_12 : am_lk 12 (am_ft.getD 10 []) = some (10, 0) := by decide +kernel
theorem lf_10_21 : am_lk 21 (am_ft.getD 10 []) = some (10, 1) := by decide +kernel
theorem lf_10_28 : am_lk 28 (am_ft.getD 10 []) = some (10, 2) := by decide +kernel
theorem lf_10_32 : am_lk 32 (am_ft.getD 10 []) = some (10, 3) := by decide +kernel
theorem lf_10_36 : am_lk 36 (am_ft.getD 10 []) = some (10, 4) := by decide +kernel
theorem lf_11_12 : am_lk 12 (am_ft.getD 11 []) = some (11, 0) := by decide +kernel
theorem lf_11_19 : am_lk 19 (am_ft.getD 11 []) = some (11, 1) := by decide +kernel
theorem lf_11_26 : am_lk 26 (am_ft.getD 11 []) = some (11, 2) := by decide +kernel
theorem lf_11_32 : am_lk 32 (am_ft.getD 11 []) = some (11, 3) := by decide +kernel
theorem lf_11_36 : am_lk 36 (am_ft.getD 11 []) = some (11, 4) := by decide +kernel
theorem lf_11_43 : am_lk 43 (am_ft.getD 11 []) = some (11, 5) := by decide +kernel
theorem lf_11_47 : am_lk 47 (am_ft.getD 11 []) = some (11, 6) := by decide +kernel
theorem lf_11_54 : am_lk 54 (am_ft.getD 11 []) = some (11, 7) := by decide +kernel
theorem lf_11_61 : am_lk 61 (am_ft.getD 11 []) = some (11, 8) := by decide +kernel
theorem lf_11_68 : am_lk 68 (am_ft.getD 11 []) = some (11, 9) := by decide +kernel
theorem lf_11_72 : am_lk 72 (am_ft.getD 11 []) = some (8, 1) := by decide +kernel
theorem lf_11_83 : am_lk 83 (am_ft.getD 11 []) = some (10, 0) := by decide +kernel
theorem lf_11_87 : am_lk 87 (am_ft.getD 11 []) = some (5, 0) := by decide +kernel
theorem lf_11_94 : am_lk 94 (am_ft.getD 11 []) = some (10, 1) := by decide +kernel
theorem lf_11_98 : am_lk 98 (am_ft.getD 11 []) = some (5, 1) := by decide +kernel
theorem lf_11_104 : am_lk 104 (am_ft.getD 11 []) = some (10, 2) := by decide +kernel
theorem lf_11_113 : am_lk 113 (am_ft.getD 11 []) = some (9, 1) := by decide +kernel
theorem lf_11_121 : am_lk 121 (am_ft.getD 11 []) = some (10, 3) := by decide +kernel
theorem lf_11_128 : am_lk 128 (am_ft.getD 11 []) = some (0, 3) := by decide +kernel
theorem lf_11_132 : am_lk 132 (am_ft.getD 11 []) = some (0, 4) := by decide +kernel
theorem lf_11_142 : am_lk 142 (am_ft.getD 11 []) = some (9, 11) := by decide +kernel
theorem lf_11_151 : am_lk 151 (am_ft.getD 11 []) = some (9, 3) := by decide +kernel
theorem lf_11_154 : am_lk 154 (am_ft.getD 11 []) = some (9, 4) := by decide +kernel
theorem lf_11_157 : am_lk 157 (am_ft.getD 11 []) = some (9, 7) := by decide +kernel
theorem lf_11_160 : am_lk 160 (am_ft.getD 11 []) = some (9, 8) := by decide +kernel
theorem lf_11_163 : am_lk 163 (am_ft.getD 11 []) = some (9, 9) := by decide +kernel
theorem lf_11_166 : am_lk 166 (am_ft.getD 11 []) = some (9, 10) := by decide +kernel
theorem lf_11_173 : am_lk 173 (am_ft.getD 11 []) = some (9, 0) := by decide +kernel
theorem lf_11_189 : am_lk 189 (am_ft.getD 11 []) = some (7, 6) := by decide +kernel
theorem lf_11_192 : am_lk 192 (am_ft.getD 11 []) = some (7, 7) := by decide +kernel
theorem lf_11_195 : am_lk 195 (am_ft.getD 11 []) = some (7, 8) := by decide +kernel
theorem lf_11_205 : am_lk 205 (am_ft.getD 11 []) = some (9, 5) := by decide +kernel
theorem lf_11_215 : am_lk 215 (am_ft.getD 11 []) = some (9, 2) := by decide +kernel
theorem lf_11_218 : am_lk 218 (am_ft.getD 11 []) = some (0, 6) := by decide +kernel
theorem lf_11_225 : am_lk 225 (am_ft.getD 11 []) = some (4, 2) := by decide +kernel
theorem lf_11_238 : am_lk 238 (am_ft.getD 11 []) = some (7, 4) := by decide +kernel
theorem lf_11_257 : am_lk 257 (am_ft.getD 11 []) = some (0, 0) := by decide +kernel
theorem lf_11_277 : am_lk 277 (am_ft.getD 11 []) = some (0, 2) := by decide +kernel
theorem lf_11_289 : am_lk 289 (am_ft.getD 11 []) = some (0, 1) := by decide +kernel
theorem lf_11_295 : am_lk 295 (am_ft.getD 11 []) = some (9, 12) := by decide +kernel
theorem lf_11_301 : am_lk 301 (am_ft.getD 11 []) = some (10, 4) := by decide +kernel
theorem lf_12_9 : am_lk 9 (am_ft.getD 12 []) = some (12, 1) := by decide +kernel
theorem lf_12_13 : am_lk 13 (am_ft.getD 12 []) = some (12, 2) := by decide +kernel
theorem lf_12_16 : am_lk 16 (am_ft.getD 12 []) = some (12, 3) := by decide +kernel
theorem lf_12_19 : am_lk 19 (am_ft.getD 12 []) = some (12, 4) := by decide +kernel
theorem lf_12_22 : am_lk 22 (am_ft.getD 12 []) = some (12, 5) := by decide +kernel
theorem lf_12_25 : am_lk 25 (am_ft.getD 12 []) = some (12, 6) := by decide +kernel
theorem lf_12_28 : am_lk 28 (am_ft.getD 12 []) = some (12, 7) := by decide +kernel
theorem lf_12_31 : am_lk 31 (am_ft.getD 12 []) = some (12, 8) := by decide +kernel
theorem lf_12_34 : am_lk 34 (am_ft.getD 12 []) = some (12, 9) := by decide +kernel
theorem lf_12_37 : am_lk 37 (am_ft.getD 12 []) = some (12, 10) := by decide +kernel
theorem lf_12_40 : am_lk 40 (am_ft.getD 12 []) = some (12, 11) := by decide +kernel
theorem lf_12_43 : am_lk 43 (am_ft.getD 12 []) = some (12, 12) := by decide +kernel
theorem lf_12_46 : am_lk 46 (am_ft.getD 12 []) = some (12, 13) := by decide +kernel
theorem lf_12_49 : am_lk 49 (am_ft.getD 12 []) = some (12, 14) := by decide +kernel
theorem lf_12_52 : am_lk 52 (am_ft.getD 12 []) = some (12, 15) := by decide +kernel
theorem lf_12_55 : am_lk 55 (am_ft.getD 12 []) = some (12, 16) := by decide +kernel
theorem lf_12_58 : am_lk 58 (am_ft.getD 12 []) = some (12, 17) := by decide +kernel
theorem lf_12_61 : am_lk 61 (am_ft.getD 12 []) = some (12, 18) := by decide +kernel
theorem lf_12_64 : am_lk 64 (am_ft.getD 12 []) = some (12, 19) := by decide +kernel
theorem lf_12_67 : am_lk 67 (am_ft.getD 12 []) = some (12, 20) := by decide +kernel
theorem lf_12_70 : am_lk 70 (am_ft.getD 12 []) = some (12, 21) := by decide +kernel
theorem lf_12_73 : am_lk 73 (am_ft.getD 12 []) = some (12, 22) := by decide +kernel
theorem lf_12_76 : am_lk 76 (am_ft.getD 12 []) = some (12, 23) := by decide +kernel
theorem lf_12_79 : am_lk 79 (am_ft.getD 12 []) = some (12, 24) := by decide +kernel
theorem lf_12_82 : am_lk 82 (am_ft.getD 12 []) = some (12, 25) := by decide +kernel
theorem lf_12_85 : am_lk 85 (am_ft.getD 12 []) = some (12, 35) := by decide +kernel
theorem lf_12_89 : am_lk 89 (am_ft.getD 12 []) = some (12, 36) := by decide +kernel
theorem lf_12_93 : am_lk 93 (am_ft.getD 12 []) = some (12, 37) := by decide +kernel
theorem lf_12_96 : am_lk 96 (am_ft.getD 12 []) = some (12, 38) := by decide +kernel
theorem lf_12_99 : am_lk 99 (am_ft.getD 12 []) = some (12, 39) := by decide +kernel
theorem lf_12_102 : am_lk 102 (am_ft.getD 12 []) = some (12, 40) := by decide +kernel
theorem lf_12_105 : am_lk 105 (am_ft.getD 12 []) = some (12, 41) := by decide +kernel
theorem lf_12_108 : am_lk 108 (am_ft.getD 12 []) = some (12, 42) := by decide +kernel
theorem lf_12_111 : am_lk 111 (am_ft.getD 12 []) = some (12, 43) := by decide +kernel
theorem lf_12_115 : am_lk 115 (am_ft.getD 12 []) = some (12, 44) := by decide +kernel
theorem lf_12_118 : am_lk 118 (am_ft.getD 12 []) = some (12, 45) := by decide +kernel
theorem lf_12_121 : am_lk 121 (am_ft.getD 12 []) = some (12, 46) := by decide +kernel
theorem lf_12_124 : am_lk 124 (am_ft.getD 12 []) = some (12, 50) := by decide +kernel
theorem lf_12_127 : am_lk 127 (am_ft.getD 12 []) = some (12, 51) := by decide +kernel
theorem lf_12_130 : am_lk 130 (am_ft.getD 12 []) = some (12, 52) := by decide +kernel
theorem lf_12_133 : am_lk 133 (am_ft.getD 12 []) = some (12, 54) := by decide +kernel
theorem lf_12_136 : am_lk 136 (am_ft.getD 12 []) = some (12, 55) := by decide +kernel
theorem lf_12_157 : am_lk 157 (am_ft.getD 12 []) = some (12, 26) := by decide +kernel
theorem lf_12_185 : am_lk 185 (am_ft.getD 12 []) = some (12, 28) := by decide +kernel
theorem lf_12_188 : am_lk 188 (am_ft.getD 12 []) = some (12, 27) := by decide +kernel
theorem lf_12_215 : am_lk 215 (am_ft.getD 12 []) = some (12, 29) := by decide +kernel
theorem lf_12_218 : am_lk 218 (am_ft.getD 12 []) = some (12, 31) := by decide +kernel
theorem lf_12_221 : am_lk 221 (am_ft.getD 12 []) = some (12, 33) := by decide +kernel
theorem lf_12_255 : am_lk 255 (am_ft.getD 12 []) = some (12, 34) := by decide +kernel
theorem lf_12_258 : am_lk 258 (am_ft.getD 12 []) = some (12, 32) := by decide +kernel
theorem lf_12_346 : am_lk 346 (am_ft.getD 12 []) = some (12, 47) := by decide +kernel
theorem lf_12_354 : am_lk 354 (am_ft.getD 12 []) = some (12, 30) := by decide +kernel
theorem lf_12_439 : am_lk 439 (am_ft.getD 12 []) = some (12, 49) := by decide +kernel
theorem lf_12_443 : am_lk 443 (am_ft.getD 12 []) = some (12, 48) := by decide +kernel
theorem lf_12_508 : am_lk 508 (am_ft.getD 12 []) = some (12, 53) := by decide +kernel
theorem lf_12_541 : am_lk 541 (am_ft.getD 12 []) = some (12, 57) := by decide +kernel
theorem lf_12_544 : am_lk 544 (am_ft.getD 12 []) = some (12, 56) := by decide +kernel
theorem lf_13_9 : am_lk 9 (am_ft.getD 13 []) = some (13, 0) := by decide +kernel
theorem lf_13_15 : am_lk 15 (am_ft.getD 13 []) = some (13, 1) := by decide +kernel
theorem lm_0_3 : am_lk 3 (am_ml.getD 0 []) = some (0, 9) := by decide +kernel
theorem lm_0_37 : am_lk 37 (am_ml.getD 0 []) = some (0, 10) := by decide +kernel
theorem lm_1_1 : am_lk 1 (am_ml.getD 1 []) = some (0, 9) := by decide +kernel
theorem lm_1_13 : am_lk 13 (am_ml.getD 1 []) = some (97, 1) := by decide +kernel
theorem lm_2_3 : am_lk 3 (am_ml.getD 2 []) = some (0, 9) := by decide +kernel
theorem lm_2_39 : am_lk 39 (am_ml.getD 2 []) = some (116, 0) := by decide +kernel
theorem lm_2_43 : am_lk 43 (am_ml.getD 2 []) = some (109, 0) := by decide +kernel
theorem lm_2_49 : am_lk 49 (am_ml.getD 2 []) = some (120, 0) := by decide +kernel
theorem lm_2_53 : am_lk 53 (am_ml.getD 2 []) = some (119, 0) := by decide +kernel
theorem lm_2_57 : am_lk 57 (am_ml.getD 2 []) = some (123, 1) := by decide +kernel
theorem lm_2_62 : am_lk 62 (am_ml.getD 2 []) = some (117, 1) := by decide +kernel
theorem lm_2_67 : am_lk 67 (am_ml.getD 2 []) = some (118, 1) := by decide +kernel
theorem lm_2_70 : am_lk 70 (am_ml.getD 2 []) = some (0, 11) := by decide +kernel
theorem lm_2_77 : am_lk 77 (am_ml.getD 2 []) = some (121, 1) := by decide +kernel
theorem lm_2_81 : am_lk 81 (am_ml.getD 2 []) = some (86, 0) := by decide +kernel
theorem lm_2_84 : am_lk 84 (am_ml.getD 2 []) = some (90, 0) := by decide +kernel
theorem lm_2_90 : am_lk 90 (am_ml.getD 2 []) = some (122, 0) := by decide +kernel
theorem lm_3_3 : am_lk 3 (am_ml.getD 3 []) = some (0, 9) := by decide +kernel
theorem lm_3_33 : am_lk 33 (am_ml.getD 3 []) = some (95, 0) := by decide +kernel
theorem lm_3_37 : am_lk 37 (am_ml.getD 3 []) = some (94, 0) := by decide +kernel
theorem lm_3_40 : am_lk 40 (am_ml.getD 3 []) = some (128, 0) := by decide +kernel
theorem lm_3_44 : am_lk 44 (am_ml.getD 3 []) = some (129, 0) := by decide +kernel
theorem lm_3_48 : am_lk 48 (am_ml.getD 3 []) = some (132, 0) := by decide +kernel
theorem lm_4_3 : am_lk 3 (am_ml.getD 4 []) = some (0, 9) := by decide +kernel
theorem lm_4_24 : am_lk 24 (am_ml.getD 4 []) = some (5, 5) := by decide +kernel
theorem lm_4_25 : am_lk 25 (am_ml.getD 4 []) = some (54, 0) := by decide +kernel
theorem lm_4_29 : am_lk 29 (am_ml.getD 4 []) = some (55, 0) := by decide +kernel
theorem lm_4_32 : am_lk 32 (am_ml.getD 4 []) = some (83, 0) := by decide +kernel
theorem lm_5_3 : am_lk 3 (am_ml.getD 5 []) = some (0, 9) := by decide +kernel
theorem lm_5_11 : am_lk 11 (am_ml.getD 5 []) = some (4, 5) := by decide +kernel
theorem lm_5_20 : am_lk 20 (am_ml.getD 5 []) = some (5, 5) := by decide +kernel
theorem lm_5_25 : am_lk 25 (am_ml.getD 5 []) = some (17, 0) := by decide +kernel
theorem lm_5_30 : am_lk 30 (am_ml.getD 5 []) = some (18, 0) := by decide +kernel
theorem lm_5_34 : am_lk 34 (am_ml.getD 5 []) = some (19, 0) := by decide +kernel
theorem lm_5_36 : am_lk 36 (am_ml.getD 5 []) = some (21, 0) := by decide +kernel
theorem lm_5_40 : am_lk 40 (am_ml.getD 5 []) = some (52, 0) := by decide +kernel
theorem lm_5_50 : am_lk 50 (am_ml.getD 5 []) = some (22, 0) := by decide +kernel
theorem lm_5_54 : am_lk 54 (am_ml.getD 5 []) = some (37, 0) := by decide +kernel
theorem lm_5_61 : am_lk 61 (am_ml.getD 5 []) = some (36, 0) := by decide +kernel
theorem lm_5_65 : am_lk 65 (am_ml.getD 5 []) = some (39, 0) := by decide +kernel
theorem lm_5_69 : am_lk 69 (am_ml.getD 5 []) = some (42, 0) := by decide +kernel
theorem lm_5_72 : am_lk 72 (am_ml.getD 5 []) = some (40, 0) := by decide +kernel
theorem lm_5_79 : am_lk 79 (am_ml.getD 5 []) = some (43, 0) := by decide +kernel
theorem lm_5_82 : am_lk 82 (am_ml.getD 5 []) = some (44, 0) := by decide +kernel
theorem lm_5_86 : am_lk 86 (am_ml.getD 5 []) = some (47, 0) := by decide +kernel
theorem lm_5_90 : am_lk 90 (am_ml.getD 5 []) = some (45, 0) := by decide +kernel
theorem lm_5_101 : am_lk 101 (am_ml.getD 5 []) = some (48, 0) := by decide +kernel
theorem lm_5_105 : am_lk 105 (am_ml.getD 5 []) = some (49, 0) := by decide +kernel
theorem lm_5_111 : am_lk 111 (am_ml.getD 5 []) = some (50, 0) := by decide +kernel
theorem lm_5_126 : am_lk 126 (am_ml.getD 5 []) = some (38, 0) := by decide +kernel
theorem lm_6_3 : am_lk 3 (am_ml.getD 6 []) = some (0, 9) := by decide +kernel
theorem lm_6_24 : am_lk 24 (am_ml.getD 6 []) = some (70, 1) := by decide +kernel
theorem lm_6_30 : am_lk 30 (am_ml.getD 6 []) = some (72, 2) := by decide +kernel
theorem lm_6_33 : am_lk 33 (am_ml.getD 6 []) = some (17, 0) := by decide +kernel
theorem lm_6_40 : am_lk 40 (am_ml.getD 6 []) = some (22, 0) := by decide +kernel
theorem lm_6_47 : am_lk 47 (am_ml.getD 6 []) = some (36, 0) := by decide +kernel
theorem lm_6_51 : am_lk 51 (am_ml.getD 6 []) = some (58, 0) := by decide +kernel
theorem lm_6_55 : am_lk 55 (am_ml.getD 6 []) = some (62, 0) := by decide +kernel
theorem lm_6_59 : am_lk 59 (am_ml.getD 6 []) = some (52, 0) := by decide +kernel
theorem lm_6_66 : am_lk 66 (am_ml.getD 6 []) = some (59, 0) := by decide +kernel
theorem lm_6_71 : am_lk 71 (am_ml.getD 6 []) = some (61, 0) := by decide +kernel
theorem lm_6_80 : am_lk 80 (am_ml.getD 6 []) = some (23, 0) := by decide +kernel
theorem lm_6_84 : am_lk 84 (am_ml.getD 6 []) = some (60, 0) := by decide +kernel
theorem lm_6_89 : am_lk 89 (am_ml.getD 6 []) = some (63, 0) := by decide +kernel
theorem lm_6_93 : am_lk 93 (am_ml.getD 6 []) = some (68, 0) := by decide +kernel
theorem lm_6_97 : am_lk 97 (am_ml.getD 6 []) = some (65, 0) := by decide +kernel
theorem lm_6_104 : am_lk 104 (am_ml.getD 6 []) = some (64, 0) := by decide +kernel
theorem lm_6_107 : am_lk 107 (am_ml.getD 6 []) = some (66, 1) := by decide +kernel
theorem lm_6_111 : am_lk 111 (am_ml.getD 6 []) = some (67, 1) := by decide +kernel
theorem lm_6_114 : am_lk 114 (am_ml.getD 6 []) = some (41, 0) := by decide +kernel
theorem lm_7_3 : am_lk 3 (am_ml.getD 7 []) = some (0, 9) := by decide +kernel
theorem lm_7_11 : am_lk 11 (am_ml.getD 7 []) = some (5, 5) := by decide +kernel
theorem lm_7_51 : am_lk 51 (am_ml.getD 7 []) = some (54, 0) := by decide +kernel
theorem lm_7_56 : am_lk 56 (am_ml.getD 7 []) = some (85, 0) := by decide +kernel
theorem lm_7_60 : am_lk 60 (am_ml.getD 7 []) = some (90, 0) := by decide +kernel
theorem lm_7_64 : am_lk 64 (am_ml.getD 7 []) = some (100, 0) := by decide +kernel
theorem lm_7_68 : am_lk 68 (am_ml.getD 7 []) = some (86, 0) := by decide +kernel
theorem lm_7_74 : am_lk 74 (am_ml.getD 7 []) = some (0, 11) := by decide +kernel
theorem lm_7_84 : am_lk 84 (am_ml.getD 7 []) = some (113, 0) := by decide +kernel
theorem lm_7_94 : am_lk 94 (am_ml.getD 7 []) = some (87, 0) := by decide +kernel
theorem lm_7_97 : am_lk 97 (am_ml.getD 7 []) = some (91, 0) := by decide +kernel
theorem lm_7_101 : am_lk 101 (am_ml.getD 7 []) = some (99, 0) := by decide +kernel
theorem lm_7_118 : am_lk 118 (am_ml.getD 7 []) = some (88, 0) := by decide +kernel
theorem lm_7_134 : am_lk 134 (am_ml.getD 7 []) = some (89, 0) := by decide +kernel
theorem lm_7_141 : am_lk 141 (am_ml.getD 7 []) = some (78, 0) := by decide +kernel
theorem lm_7_144 : am_lk 144 (am_ml.getD 7 []) = some (92, 1) := by decide +kernel
theorem lm_7_149 : am_lk 149 (am_ml.getD 7 []) = some (93, 0) := by decide +kernel
theorem lm_7_153 : am_lk 153 (am_ml.getD 7 []) = some (98, 0) := by decide +kernel
theorem lm_7_156 : am_lk 156 (am_ml.getD 7 []) = some (94, 0) := by decide +kernel
theorem lm_7_159 : am_lk 159 (am_ml.getD 7 []) = some (95, 0) := by decide +kernel
theorem lm_7_165 : am_lk 165 (am_ml.getD 7 []) = some (96, 0) := by decide +kernel
theorem lm_8_3 : am_lk 3 (am_ml.getD 8 []) = some (0, 9) := by decide +kernel
theorem lm_8_28 : am_lk 28 (am_ml.getD 8 []) = some (23, 0) := by decide +kernel
theorem lm_8_32 : am_lk 32 (am_ml.getD 8 []) = some (36, 0) := by decide +kernel
theorem lm_8_36 : am_lk 36 (am_ml.getD 8 []) = some (41, 0) := by decide +kernel
theorem lm_8_39 : am_lk 39 (am_ml.getD 8 []) = some (46, 0) := by decide +kernel
theorem lm_8_43 : am_lk 43 (am_ml.getD 8 []) = some (24, 0) := by decide +kernel
theorem lm_8_47 : am_lk 47 (am_ml.getD 8 []) = some (26, 0) := by decide +kernel
theorem lm_8_51 : am_lk 51 (am_ml.getD 8 []) = some (35, 0) := by decide +kernel
theorem lm_9_3 : am_lk 3 (am_ml.getD 9 []) = some (0, 9) := by decide +kernel
theorem lm_9_52 : am_lk 52 (am_ml.getD 9 []) = some (20, 1) := by decide +kernel
theorem lm_9_58 : am_lk 58 (am_ml.getD 9 []) = some (0, 10) := by decide +kernel
theorem lm_9_64 : am_lk 64 (am_ml.getD 9 []) = some (51, 0) := by decide +kernel
theorem lm_9_71 : am_lk 71 (am_ml.getD 9 []) = some (88, 0) := by decide +kernel
theorem lm_10_3 : am_lk 3 (am_ml.getD 10 []) = some (0, 9) := by decide +kernel
theorem lm_10_11 : am_lk 11 (am_ml.getD 10 []) = some (4, 5) := by decide +kernel
theorem lm_10_20 : am_lk 20 (am_ml.getD 10 []) = some (5, 5) := by decide +kernel
theorem lm_10_27 : am_lk 27 (am_ml.getD 10 []) = some (8, 5) := by decide +kernel
theorem lm_10_39 : am_lk 39 (am_ml.getD 10 []) = some (53, 0) := by decide +kernel
theorem lm_10_43 : am_lk 43 (am_ml.getD 10 []) = some (54, 0) := by decide +kernel
theorem lm_10_46 : am_lk 46 (am_ml.getD 10 []) = some (151, 0) := by decide +kernel
theorem lm_11_3 : am_lk 3 (am_ml.getD 11 []) = some (0, 9) := by decide +kernel
theorem lm_11_11 : am_lk 11 (am_ml.getD 11 []) = some (2, 5) := by decide +kernel
theorem lm_11_18 : am_lk 18 (am_ml.getD 11 []) = some (3, 5) := by decide +kernel
theorem lm_11_25 : am_lk 25 (am_ml.getD 11 []) = some (6, 5) := by decide +kernel
theorem lm_11_42 : am_lk 42 (am_ml.getD 11 []) = some (7, 5) := by decide +kernel
theorem lm_11_53 : am_lk 53 (am_ml.getD 11 []) = some (9, 5) := by decide +kernel
theorem lm_11_60 : am_lk 60 (am_ml.getD 11 []) = some (10, 5) := by decide +kernel
theorem lm_11_67 : am_lk 67 (am_ml.getD 11 []) = some (11, 5) := by decide +kernel
theorem lm_11_75 : am_lk 75 (am_ml.getD 11 []) = some (13, 0) := by decide +kernel
theorem lm_11_79 : am_lk 79 (am_ml.getD 11 []) = some (16, 0) := by decide +kernel
theorem lm_11_88 : am_lk 88 (am_ml.getD 11 []) = some (53, 0) := by decide +kernel
theorem lm_11_99 : am_lk 99 (am_ml.getD 11 []) = some (54, 0) := by decide +kernel
theorem lm_11_108 : am_lk 108 (am_ml.getD 11 []) = some (55, 0) := by decide +kernel
theorem lm_11_116 : am_lk 116 (am_ml.getD 11 []) = some (57, 0) := by decide +kernel
theorem lm_11_117 : am_lk 117 (am_ml.getD 11 []) = some (69, 0) := by decide +kernel
theorem lm_11_124 : am_lk 124 (am_ml.getD 11 []) = some (75, 0) := by decide +kernel
theorem lm_11_135 : am_lk 135 (am_ml.getD 11 []) = some (76, 0) := by decide +kernel
theorem lm_11_139 : am_lk 139 (am_ml.getD 11 []) = some (77, 0) := by decide +kernel
theorem lm_11_145 : am_lk 145 (am_ml.getD 11 []) = some (78, 0) := by decide +kernel
theorem lm_11_148 : am_lk 148 (am_ml.getD 11 []) = some (80, 0) := by decide +kernel
theorem lm_11_169 : am_lk 169 (am_ml.getD 11 []) = some (82, 0) := by decide +kernel
theorem lm_11_176 : am_lk 176 (am_ml.getD 11 []) = some (83, 0) := by decide +kernel
theorem lm_11_179 : am_lk 179 (am_ml.getD 11 []) = some (84, 0) := by decide +kernel
theorem lm_11_182 : am_lk 182 (am_ml.getD 11 []) = some (85, 0) := by decide +kernel
theorem lm_11_186 : am_lk 186 (am_ml.getD 11 []) = some (86, 0) := by decide +kernel
theorem lm_11_198 : am_lk 198 (am_ml.getD 11 []) = some (102, 1) := by decide +kernel
theorem lm_11_201 : am_lk 201 (am_ml.getD 11 []) = some (50, 0) := by decide +kernel
theorem lm_11_211 : am_lk 211 (am_ml.getD 11 []) = some (51, 0) := by decide +kernel
theorem lm_11_221 : am_lk 221 (am_ml.getD 11 []) = some (38, 0) := by decide +kernel
theorem lm_11_228 : am_lk 228 (am_ml.getD 11 []) = some (107, 0) := by decide +kernel
theorem lm_11_231 : am_lk 231 (am_ml.getD 11 []) = some (109, 0) := by decide +kernel
theorem lm_11_235 : am_lk 235 (am_ml.getD 11 []) = some (110, 0) := by decide +kernel
theorem lm_11_239 : am_lk 239 (am_ml.getD 11 []) = some (112, 0) := by decide +kernel
theorem lm_11_242 : am_lk 242 (am_ml.getD 11 []) = some (113, 0) := by decide +kernel
theorem lm_11_245 : am_lk 245 (am_ml.getD 11 []) = some (115, 0) := by decide +kernel
theorem lm_11_249 : am_lk 249 (am_ml.getD 11 []) = some (92, 1) := by decide +kernel
theorem lm_11_254 : am_lk 254 (am_ml.getD 11 []) = some (125, 1) := by decide +kernel
theorem lm_11_260 : am_lk 260 (am_ml.getD 11 []) = some (127, 0) := by decide +kernel
theorem lm_11_264 : am_lk 264 (am_ml.getD 11 []) = some (130, 0) := by decide +kernel
theorem lm_11_267 : am_lk 267 (am_ml.getD 11 []) = some (131, 0) := by decide +kernel
theorem lm_11_270 : am_lk 270 (am_ml.getD 11 []) = some (134, 0) := by decide +kernel
theorem lm_11_274 : am_lk 274 (am_ml.getD 11 []) = some (117, 1) := by decide +kernel
theorem lm_11_280 : am_lk 280 (am_ml.getD 11 []) = some (136, 0) := by decide +kernel
theorem lm_11_283 : am_lk 283 (am_ml.getD 11 []) = some (137, 0) := by decide +kernel
theorem lm_11_286 : am_lk 286 (am_ml.getD 11 []) = some (139, 0) := by decide +kernel
theorem lm_11_292 : am_lk 292 (am_ml.getD 11 []) = some (141, 0) := by decide +kernel
theorem lm_11_298 : am_lk 298 (am_ml.getD 11 []) = some (142, 1) := by decide +kernel
theorem lm_11_304 : am_lk 304 (am_ml.getD 11 []) = some (145, 0) := by decide +kernel
theorem lm_11_307 : am_lk 307 (am_ml.getD 11 []) = some (150, 0) := by decide +kernel
theorem lm_11_310 : am_lk 310 (am_ml.getD 11 []) = some (146, 1) := by decide +kernel
theorem lm_11_313 : am_lk 313 (am_ml.getD 11 []) = some (147, 1) := by decide +kernel
theorem lm_12_3 : am_lk 3 (am_ml.getD 12 []) = some (0, 9) := by decide +kernel
theorem lm_12_143 : am_lk 143 (am_ml.getD 12 []) = some (172, 1) := by decide +kernel
theorem lm_12_147 : am_lk 147 (am_ml.getD 12 []) = some (176, 1) := by decide +kernel
theorem lm_12_151 : am_lk 151 (am_ml.getD 12 []) = some (217, 1) := by decide +kernel
theorem lm_12_160 : am_lk 160 (am_ml.getD 12 []) = some (155, 0) := by decide +kernel
theorem lm_12_191 : am_lk 191 (am_ml.getD 12 []) = some (162, 0) := by decide +kernel
theorem lm_12_199 : am_lk 199 (am_ml.getD 12 []) = some (24, 0) := by decide +kernel
theorem lm_12_204 : am_lk 204 (am_ml.getD 12 []) = some (26, 0) := by decide +kernel
theorem lm_12_208 : am_lk 208 (am_ml.getD 12 []) = some (161, 0) := by decide +kernel
theorem lm_12_211 : am_lk 211 (am_ml.getD 12 []) = some (164, 0) := by decide +kernel
theorem lm_12_224 : am_lk 224 (am_ml.getD 12 []) = some (165, 0) := by decide +kernel
theorem lm_12_228 : am_lk 228 (am_ml.getD 12 []) = some (171, 0) := by decide +kernel
theorem lm_12_233 : am_lk 233 (am_ml.getD 12 []) = some (170, 0) := by decide +kernel
theorem lm_12_236 : am_lk 236 (am_ml.getD 12 []) = some (189, 0) := by decide +kernel
theorem lm_12_239 : am_lk 239 (am_ml.getD 12 []) = some (190, 0) := by decide +kernel
theorem lm_12_242 : am_lk 242 (am_ml.getD 12 []) = some (191, 1) := by decide +kernel
theorem lm_12_246 : am_lk 246 (am_ml.getD 12 []) = some (188, 0) := by decide +kernel
theorem lm_12_249 : am_lk 249 (am_ml.getD 12 []) = some (187, 0) := by decide +kernel
theorem lm_12_252 : am_lk 252 (am_ml.getD 12 []) = some (186, 0) := by decide +kernel
theorem lm_12_261 : am_lk 261 (am_ml.getD 12 []) = some (193, 0) := by decide +kernel
theorem lm_12_266 : am_lk 266 (am_ml.getD 12 []) = some (184, 0) := by decide +kernel
theorem lm_12_269 : am_lk 269 (am_ml.getD 12 []) = some (185, 0) := by decide +kernel
theorem lm_12_272 : am_lk 272 (am_ml.getD 12 []) = some (183, 0) := by decide +kernel
theorem lm_12_275 : am_lk 275 (am_ml.getD 12 []) = some (192, 0) := by decide +kernel
theorem lm_12_282 : am_lk 282 (am_ml.getD 12 []) = some (169, 0) := by decide +kernel
theorem lm_12_286 : am_lk 286 (am_ml.getD 12 []) = some (174, 0) := by decide +kernel
theorem lm_12_307 : am_lk 307 (am_ml.getD 12 []) = some (168, 0) := by decide +kernel
theorem lm_12_310 : am_lk 310 (am_ml.getD 12 []) = some (173, 0) := by decide +kernel
theorem lm_12_313 : am_lk 313 (am_ml.getD 12 []) = some (175, 0) := by decide +kernel
theorem lm_12_317 : am_lk 317 (am_ml.getD 12 []) = some (177, 0) := by decide +kernel
theorem lm_12_320 : am_lk 320 (am_ml.getD 12 []) = some (163, 1) := by decide +kernel
theorem lm_12_323 : am_lk 323 (am_ml.getD 12 []) = some (166, 0) := by decide +kernel
theorem lm_12_327 : am_lk 327 (am_ml.getD 12 []) = some (167, 0) := by decide +kernel
theorem lm_12_330 : am_lk 330 (am_ml.getD 12 []) = some (159, 0) := by decide +kernel
theorem lm_12_333 : am_lk 333 (am_ml.getD 12 []) = some (160, 0) := by decide +kernel
theorem lm_12_336 : am_lk 336 (am_ml.getD 12 []) = some (178, 0) := by decide +kernel
theorem lm_12_339 : am_lk 339 (am_ml.getD 12 []) = some (158, 0) := by decide +kernel
theorem lm_12_342 : am_lk 342 (am_ml.getD 12 []) = some (179, 1) := by decide +kernel
theorem lm_12_351 : am_lk 351 (am_ml.getD 12 []) = some (182, 0) := by decide +kernel
theorem lm_12_357 : am_lk 357 (am_ml.getD 12 []) = some (181, 0) := by decide +kernel
theorem lm_12_362 : am_lk 362 (am_ml.getD 12 []) = some (225, 0) := by decide +kernel
theorem lm_12_366 : am_lk 366 (am_ml.getD 12 []) = some (227, 1) := by decide +kernel
theorem lm_12_370 : am_lk 370 (am_ml.getD 12 []) = some (226, 1) := by decide +kernel
theorem lm_12_374 : am_lk 374 (am_ml.getD 12 []) = some (202, 0) := by decide +kernel
theorem lm_12_378 : am_lk 378 (am_ml.getD 12 []) = some (196, 0) := by decide +kernel
theorem lm_12_381 : am_lk 381 (am_ml.getD 12 []) = some (197, 0) := by decide +kernel
theorem lm_12_384 : am_lk 384 (am_ml.getD 12 []) = some (198, 0) := by decide +kernel
theorem lm_12_387 : am_lk 387 (am_ml.getD 12 []) = some (199, 1) := by decide +kernel
theorem lm_12_390 : am_lk 390 (am_ml.getD 12 []) = some (200, 0) := by decide +kernel
theorem lm_12_393 : am_lk 393 (am_ml.getD 12 []) = some (201, 0) := by decide +kernel
theorem lm_12_396 : am_lk 396 (am_ml.getD 12 []) = some (204, 0) := by decide +kernel
theorem lm_12_399 : am_lk 399 (am_ml.getD 12 []) = some (215, 0) := by decide +kernel
theorem lm_12_402 : am_lk 402 (am_ml.getD 12 []) = some (216, 0) := by decide +kernel
theorem lm_12_406 : am_lk 406 (am_ml.getD 12 []) = some (218, 0) := by decide +kernel
theorem lm_12_409 : am_lk 409 (am_ml.getD 12 []) = some (221, 1) := by decide +kernel
theorem lm_12_412 : am_lk 412 (am_ml.getD 12 []) = some (222, 1) := by decide +kernel
theorem lm_12_415 : am_lk 415 (am_ml.getD 12 []) = some (223, 1) := by decide +kernel
theorem lm_12_418 : am_lk 418 (am_ml.getD 12 []) = some (224, 0) := by decide +kernel
theorem lm_12_421 : am_lk 421 (am_ml.getD 12 []) = some (220, 0) := by decide +kernel
theorem lm_12_424 : am_lk 424 (am_ml.getD 12 []) = some (228, 1) := by decide +kernel
theorem lm_12_427 : am_lk 427 (am_ml.getD 12 []) = some (213, 0) := by decide +kernel
theorem lm_12_430 : am_lk 430 (am_ml.getD 12 []) = some (214, 0) := by decide +kernel
theorem lm_12_433 : am_lk 433 (am_ml.getD 12 []) = some (219, 0) := by decide +kernel
theorem lm_12_436 : am_lk 436 (am_ml.getD 12 []) = some (229, 0) := by decide +kernel
theorem lm_12_446 : am_lk 446 (am_ml.getD 12 []) = some (207, 0) := by decide +kernel
theorem lm_12_449 : am_lk 449 (am_ml.getD 12 []) = some (208, 0) := by decide +kernel
theorem lm_12_453 : am_lk 453 (am_ml.getD 12 []) = some (206, 0) := by decide +kernel
theorem lm_12_457 : am_lk 457 (am_ml.getD 12 []) = some (210, 0) := by decide +kernel
theorem lm_12_460 : am_lk 460 (am_ml.getD 12 []) = some (211, 0) := by decide +kernel
theorem lm_12_463 : am_lk 463 (am_ml.getD 12 []) = some (212, 0) := by decide +kernel
theorem lm_12_466 : am_lk 466 (am_ml.getD 12 []) = some (231, 1) := by decide +kernel
theorem lm_12_469 : am_lk 469 (am_ml.getD 12 []) = some (232, 0) := by decide +kernel
theorem lm_12_475 : am_lk 475 (am_ml.getD 12 []) = some (236, 0) := by decide +kernel
theorem lm_12_478 : am_lk 478 (am_ml.getD 12 []) = some (237, 0) := by decide +kernel
theorem lm_12_481 : am_lk 481 (am_ml.getD 12 []) = some (240, 0) := by decide +kernel
theorem lm_12_488 : am_lk 488 (am_ml.getD 12 []) = some (239, 0) := by decide +kernel
theorem lm_12_491 : am_lk 491 (am_ml.getD 12 []) = some (242, 0) := by decide +kernel
theorem lm_12_494 : am_lk 494 (am_ml.getD 12 []) = some (243, 0) := by decide +kernel
theorem lm_12_497 : am_lk 497 (am_ml.getD 12 []) = some (247, 0) := by decide +kernel
theorem lm_12_500 : am_lk 500 (am_ml.getD 12 []) = some (246, 0) := by decide +kernel
theorem lm_12_505 : am_lk 505 (am_ml.getD 12 []) = some (250, 0) := by decide +kernel
theorem lm_12_511 : am_lk 511 (am_ml.getD 12 []) = some (252, 0) := by decide +kernel
theorem lm_12_514 : am_lk 514 (am_ml.getD 12 []) = some (253, 0) := by decide +kernel
theorem lm_12_517 : am_lk 517 (am_ml.getD 12 []) = some (255, 0) := by decide +kernel
theorem lm_12_520 : am_lk 520 (am_ml.getD 12 []) = some (257, 0) := by decide +kernel
theorem lm_12_523 : am_lk 523 (am_ml.getD 12 []) = some (259, 0) := by decide +kernel
theorem lm_12_535 : am_lk 535 (am_ml.getD 12 []) = some (262, 0) := by decide +kernel
theorem lm_12_538 : am_lk 538 (am_ml.getD 12 []) = some (263, 0) := by decide +kernel
theorem lm_12_547 : am_lk 547 (am_ml.getD 12 []) = some (241, 0) := by decide +kernel
theorem lm_13_335 : am_lk 335 (am_ml.getD 13 []) = some (25, 0) := by decide +kernel
theorem lm_13_492 : am_lk 492 (am_ml.getD 13 []) = some (27, 0) := by decide +kernel
theorem lm_13_495 : am_lk 495 (am_ml.getD 13 []) = some (28, 1) := by decide +kernel
theorem lm_13_498 : am_lk 498 (am_ml.getD 13 []) = some (31, 1) := by decide +kernel
theorem lm_13_1059 : am_lk 1059 (am_ml.getD 13 []) = some (30, 1) := by decide +kernel
theorem lm_14_9 : am_lk 9 (am_ml.getD 14 []) = some (29, 1) := by decide +kernel
theorem lm_17_150 : am_lk 150 (am_ml.getD 17 []) = some (0, 10) := by decide +kernel
theorem lm_17_304 : am_lk 304 (am_ml.getD 17 []) = some (0, 11) := by decide +kernel
theorem lm_18_9 : am_lk 9 (am_ml.getD 18 []) = some (0, 2) := by decide +kernel
theorem lm_18_12 : am_lk 12 (am_ml.getD 18 []) = some (153, 2) := by decide +kernel
theorem lm_18_13 : am_lk 13 (am_ml.getD 18 []) = some (12, 0) := by decide +kernel
theorem lm_18_17 : am_lk 17 (am_ml.getD 18 []) = some (154, 0) := by decide +kernel
theorem lm_18_18 : am_lk 18 (am_ml.getD 18 []) = some (14, 0) := by decide +kernel
theorem lm_18_22 : am_lk 22 (am_ml.getD 18 []) = some (156, 0) := by decide +kernel
theorem lm_18_23 : am_lk 23 (am_ml.getD 18 []) = some (15, 0) := by decide +kernel
theorem lm_18_27 : am_lk 27 (am_ml.getD 18 []) = some (157, 0) := by decide +kernel
theorem lm_18_28 : am_lk 28 (am_ml.getD 18 []) = some (56, 0) := by decide +kernel
theorem lm_18_31 : am_lk 31 (am_ml.getD 18 []) = some (180, 0) := by decide +kernel
theorem lm_18_32 : am_lk 32 (am_ml.getD 18 []) = some (73, 0) := by decide +kernel
theorem lm_18_35 : am_lk 35 (am_ml.getD 18 []) = some (194, 0) := by decide +kernel
theorem lm_18_36 : am_lk 36 (am_ml.getD 18 []) = some (74, 0) := by decide +kernel
theorem lm_18_40 : am_lk 40 (am_ml.getD 18 []) = some (195, 0) := by decide +kernel
theorem lm_18_41 : am_lk 41 (am_ml.getD 18 []) = some (79, 0) := by decide +kernel
theorem lm_18_44 : am_lk 44 (am_ml.getD 18 []) = some (203, 0) := by decide +kernel
theorem lm_18_45 : am_lk 45 (am_ml.getD 18 []) = some (81, 0) := by decide +kernel
theorem lm_18_48 : am_lk 48 (am_ml.getD 18 []) = some (209, 0) := by decide +kernel
theorem lm_18_49 : am_lk 49 (am_ml.getD 18 []) = some (101, 0) := by decide +kernel
theorem lm_18_52 : am_lk 52 (am_ml.getD 18 []) = some (230, 0) := by decide +kernel
theorem lm_18_53 : am_lk 53 (am_ml.getD 18 []) = some (103, 0) := by decide +kernel
theorem lm_18_56 : am_lk 56 (am_ml.getD 18 []) = some (233, 0) := by decide +kernel
theorem lm_18_57 : am_lk 57 (am_ml.getD 18 []) = some (104, 0) := by decide +kernel
theorem lm_18_61 : am_lk 61 (am_ml.getD 18 []) = some (234, 0) := by decide +kernel
theorem lm_18_62 : am_lk 62 (am_ml.getD 18 []) = some (105, 0) := by decide +kernel
theorem lm_18_65 : am_lk 65 (am_ml.getD 18 []) = some (235, 0) := by decide +kernel
theorem lm_18_66 : am_lk 66 (am_ml.getD 18 []) = some (106, 0) := by decide +kernel
theorem lm_18_69 : am_lk 69 (am_ml.getD 18 []) = some (205, 0) := by decide +kernel
theorem lm_18_70 : am_lk 70 (am_ml.getD 18 []) = some (108, 0) := by decide +kernel
theorem lm_18_74 : am_lk 74 (am_ml.getD 18 []) = some (238, 0) := by decide +kernel
theorem lm_18_75 : am_lk 75 (am_ml.getD 18 []) = some (111, 0) := by decide +kernel
theorem lm_18_78 : am_lk 78 (am_ml.getD 18 []) = some (244, 0) := by decide +kernel
theorem lm_18_79 : am_lk 79 (am_ml.getD 18 []) = some (114, 0) := by decide +kernel
theorem lm_18_82 : am_lk 82 (am_ml.getD 18 []) = some (245, 0) := by decide +kernel
theorem lm_18_83 : am_lk 83 (am_ml.getD 18 []) = some (124, 0) := by decide +kernel
theorem lm_18_87 : am_lk 87 (am_ml.getD 18 []) = some (248, 0) := by decide +kernel
theorem lm_18_88 : am_lk 88 (am_ml.getD 18 []) = some (126, 0) := by decide +kernel
theorem lm_18_91 : am_lk 91 (am_ml.getD 18 []) = some (249, 0) := by decide +kernel
theorem lm_18_92 : am_lk 92 (am_ml.getD 18 []) = some (133, 0) := by decide +kernel
theorem lm_18_95 : am_lk 95 (am_ml.getD 18 []) = some (251, 0) := by decide +kernel
theorem lm_18_96 : am_lk 96 (am_ml.getD 18 []) = some (135, 0) := by decide +kernel
theorem lm_18_99 : am_lk 99 (am_ml.getD 18 []) = some (254, 0) := by decide +kernel
theorem lm_18_100 : am_lk 100 (am_ml.getD 18 []) = some (138, 0) := by decide +kernel
theorem lm_18_103 : am_lk 103 (am_ml.getD 18 []) = some (256, 0) := by decide +kernel
theorem lm_18_104 : am_lk 104 (am_ml.getD 18 []) = some (140, 0) := by decide +kernel
theorem lm_18_107 : am_lk 107 (am_ml.getD 18 []) = some (258, 0) := by decide +kernel
theorem lm_18_108 : am_lk 108 (am_ml.getD 18 []) = some (143, 0) := by decide +kernel
theorem lm_18_111 : am_lk 111 (am_ml.getD 18 []) = some (260, 0) := by decide +kernel
theorem lm_18_112 : am_lk 112 (am_ml.getD 18 []) = some (144, 0) := by decide +kernel
theorem lm_18_115 : am_lk 115 (am_ml.getD 18 []) = some (261, 0) := by decide +kernel
theorem lm_18_116 : am_lk 116 (am_ml.getD 18 []) = some (148, 0) := by decide +kernel
theorem lm_18_119 : am_lk 119 (am_ml.getD 18 []) = some (264, 0) := by decide +kernel
theorem lm_18_120 : am_lk 120 (am_ml.getD 18 []) = some (149, 0) := by decide +kernel
theorem lm_18_123 : am_lk 123 (am_ml.getD 18 []) = some (265, 0) := by decide +kernel
theorem lm_18_124 : am_lk 124 (am_ml.getD 18 []) = some (152, 0) := by decide +kernel
theorem lm_18_127 : am_lk 127 (am_ml.getD 18 []) = some (266, 0) := by decide +kernel
theorem lm_19_48 : am_lk 48 (am_ml.getD 19 []) = some (33, 1) := by decide +kernel
theorem lm_19_67 : am_lk 67 (am_ml.getD 19 []) = some (32, 1) := by decide +kernel
theorem lm_19_71 : am_lk 71 (am_ml.getD 19 []) = some (34, 1) := by decide +kernel
theorem lm_19_414 : am_lk 414 (am_ml.getD 19 []) = some (29, 1) := by decide +kernel
theorem lk_2_61 : am_lk 61 (am_kt.getD 2 []) = some (.int (65536)) := by decide +kernel
theorem lk_5_48 : am_lk 48 (am_kt.getD 5 []) = some (.ref 2) := by decide +kernel
theorem lk_6_38 : am_lk 38 (am_kt.getD 6 []) = some (.ref 4) := by decide +kernel
theorem lk_6_69 : am_lk 69 (am_kt.getD 6 []) = some (.ref 10) := by decide +kernel
theorem lk_6_75 : am_lk 75 (am_kt.getD 6 []) = some (.ref 12) := by decide +kernel
theorem lk_6_87 : am_lk 87 (am_kt.getD 6 []) = some (.ref 6) := by decide +kernel
theorem lk_6_117 : am_lk 117 (am_kt.getD 6 []) = some (.ref 8) := by decide +kernel
theorem lk_11_316 : am_lk 316 (am_kt.getD 11 []) = some (.long (1103515245)) := by decide +kernel
theorem lk_11_318 : am_lk 318 (am_kt.getD 11 []) = some (.long (12345)) := by decide +kernel
theorem lk_11_320 : am_lk 320 (am_kt.getD 11 []) = some (.long (2147483648)) := by decide +kernel
theorem lk_11_322 : am_lk 322 (am_kt.getD 11 []) = some (.int (65536)) := by decide +kernel
theorem lk_12_155 : am_lk 155 (am_kt.getD 12 []) = some (.long (6)) := by decide +kernel
theorem lk_12_164 : am_lk 164 (am_kt.getD 12 []) = some (.ref 34) := by decide +kernel
theorem lk_12_166 : am_lk 166 (am_kt.getD 12 []) = some (.ref 36) := by decide +kernel
theorem lk_12_168 : am_lk 168 (am_kt.getD 12 []) = some (.ref 38) := by decide +kernel
theorem lk_12_170 : am_lk 170 (am_kt.getD 12 []) = some (.ref 40) := by decide +kernel
theorem lk_12_172 : am_lk 172 (am_kt.getD 12 []) = some (.ref 42) := by decide +kernel
theorem lk_12_174 : am_lk 174 (am_kt.getD 12 []) = some (.ref 44) := by decide +kernel
theorem lk_12_176 : am_lk 176 (am_kt.getD 12 []) = some (.ref 46) := by decide +kernel
theorem lk_12_178 : am_lk 178 (am_kt.getD 12 []) = some (.ref 48) := by decide +kernel
theorem lk_12_180 : am_lk 180 (am_kt.getD 12 []) = some (.ref 50) := by decide +kernel
theorem lk_12_182 : am_lk 182 (am_kt.getD 12 []) = some (.ref 52) := by decide +kernel
theorem lk_12_184 : am_lk 184 (am_kt.getD 12 []) = some (.ref 54) := by decide +kernel
theorem lk_12_195 : am_lk 195 (am_kt.getD 12 []) = some (.long (48)) := by decide +kernel
theorem lk_12_197 : am_lk 197 (am_kt.getD 12 []) = some (.long (57)) := by decide +kernel
theorem lk_12_232 : am_lk 232 (am_kt.getD 12 []) = some (.int (99999)) := by decide +kernel
theorem lk_12_264 : am_lk 264 (am_kt.getD 12 []) = some (.ref 32) := by decide +kernel
theorem lk_12_278 : am_lk 278 (am_kt.getD 12 []) = some (.ref 56) := by decide +kernel
theorem lk_12_280 : am_lk 280 (am_kt.getD 12 []) = some (.ref 58) := by decide +kernel
theorem lk_12_289 : am_lk 289 (am_kt.getD 12 []) = some (.long (97)) := by decide +kernel
theorem lk_12_291 : am_lk 291 (am_kt.getD 12 []) = some (.long (122)) := by decide +kernel
theorem lk_12_293 : am_lk 293 (am_kt.getD 12 []) = some (.ref 14) := by decide +kernel
theorem lk_12_295 : am_lk 295 (am_kt.getD 12 []) = some (.ref 16) := by decide +kernel
theorem lk_12_296 : am_lk 296 (am_kt.getD 12 []) = some (.ref 18) := by decide +kernel
theorem lk_12_298 : am_lk 298 (am_kt.getD 12 []) = some (.ref 20) := by decide +kernel
theorem lk_12_299 : am_lk 299 (am_kt.getD 12 []) = some (.ref 22) := by decide +kernel
theorem lk_12_301 : am_lk 301 (am_kt.getD 12 []) = some (.ref 24) := by decide +kernel
theorem lk_12_303 : am_lk 303 (am_kt.getD 12 []) = some (.ref 26) := by decide +kernel
theorem lk_12_305 : am_lk 305 (am_kt.getD 12 []) = some (.ref 28) := by decide +kernel
theorem lk_12_349 : am_lk 349 (am_kt.getD 12 []) = some (.ref 30) := by decide +kernel
theorem lk_12_360 : am_lk 360 (am_kt.getD 12 []) = some (.long (-1)) := by decide +kernel
theorem lk_12_473 : am_lk 473 (am_kt.getD 12 []) = some (.long (8)) := by decide +kernel
theorem lk_12_484 : am_lk 484 (am_kt.getD 12 []) = some (.long (60)) := by decide +kernel
theorem lk_12_486 : am_lk 486 (am_kt.getD 12 []) = some (.long (2)) := by decide +kernel
theorem lk_12_503 : am_lk 503 (am_kt.getD 12 []) = some (.long (12)) := by decide +kernel
theorem lk_12_526 : am_lk 526 (am_kt.getD 12 []) = some (.long (1103515245)) := by decide +kernel
theorem lk_12_528 : am_lk 528 (am_kt.getD 12 []) = some (.long (12345)) := by decide +kernel
theorem lk_12_530 : am_lk 530 (am_kt.getD 12 []) = some (.long (2147483648)) := by decide +kernel
theorem lk_12_532 : am_lk 532 (am_kt.getD 12 []) = some (.int (65536)) := by decide +kernel
theorem lk_12_533 : am_lk 533 (am_kt.getD 12 []) = some (.long (10)) := by decide +kernel
theorem lk_12_550 : am_lk 550 (am_kt.getD 12 []) = some (.long (3)) := by decide +kernel
theorem lk_15_264 : am_lk 264 (am_kt.getD 15 []) = some (.int (65536)) := by decide +kernel
theorem lk_15_265 : am_lk 265 (am_kt.getD 15 []) = some (.int (1431655765)) := by decide +kernel
theorem lk_15_266 : am_lk 266 (am_kt.getD 15 []) = some (.int (858993459)) := by decide +kernel
theorem lk_15_267 : am_lk 267 (am_kt.getD 15 []) = some (.int (252645135)) := by decide +kernel
set_option maxRecDepth 20000 in
theorem md_0 : am_md[0]? = some (11, prog_1_method_1_code, 1, none, 1) := rfl
set_option maxRecDepth 20000 in
theorem md_2 : am_md[2]? = some (8, prog_10_method_1_code, 1, none, 1) := rfl
set_option maxRecDepth 20000 in
theorem md_3 : am_md[3]? = some (5, prog_7_method_1_code, 1, none, 1) := rfl
set_option maxRecDepth 20000 in
theorem md_4 : am_md[4]? = some (0, prog_2_method_1_code, 1, none, 1) := rfl
set_option maxRecDepth 20000 in
theorem md_5 : am_md[5]? = some (9, prog_11_method_1_code, 1, none, 1) := rfl
set_option maxRecDepth 20000 in
theorem md_6 : am_md[6]? = some (6, prog_8_method_1_code, 1, none, 1) := rfl
set_option maxRecDepth 20000 in
theorem md_7 : am_md[7]? = some (10, prog_12_method_1_code, 1, none, 1) := rfl
set_option maxRecDepth 20000 in
theorem md_8 : am_md[8]? = some (4, prog_6_method_1_code, 1, none, 1) := rfl
set_option maxRecDepth 20000 in
theorem md_9 : am_md[9]? = some (7, prog_9_method_1_code, 1, none, 1) := rfl
set_option maxRecDepth 20000 in
theorem md_10 : am_md[10]? = some (2, prog_4_method_1_code, 1, none, 1) := rfl
set_option maxRecDepth 20000 in
theorem md_11 : am_md[11]? = some (3, prog_5_method_1_code, 1, none, 1) := rfl
set_option maxRecDepth 20000 in
theorem md_12 : am_md[12]? = some (11, prog_1_method_2_code, 6, some .int, 6) := rfl
set_option maxRecDepth 20000 in
theorem md_13 : am_md[13]? = some (8, prog_10_method_2_code, 3, none, 2) := rfl
set_option maxRecDepth 20000 in
theorem md_14 : am_md[14]? = some (11, prog_1_method_3_code, 2, some .int, 2) := rfl
set_option maxRecDepth 20000 in
theorem md_15 : am_md[15]? = some (11, prog_1_method_4_code, 2, some .int, 1) := rfl
set_option maxRecDepth 20000 in
theorem md_16 : am_md[16]? = some (5, prog_7_method_2_code, 3, some .int, 2) := rfl
set_option maxRecDepth 20000 in
theorem md_17 : am_md[17]? = some (8, prog_10_method_3_code, 1, none, 1) := rfl
set_option maxRecDepth 20000 in
theorem md_18 : am_md[18]? = some (0, prog_2_method_2_code, 3, none, 2) := rfl
set_option maxRecDepth 20000 in
theorem md_19 : am_md[19]? = some (9, prog_11_method_2_code, 1, none, 1) := rfl
set_option maxRecDepth 20000 in
theorem md_20 : am_md[20]? = some (17, prog_22_method_103_code, 4, none, 2) := rfl
set_option maxRecDepth 20000 in
theorem md_21 : am_md[21]? = some (5, prog_7_method_3_code, 4, some .boolean, 3) := rfl
set_option maxRecDepth 20000 in
theorem md_22 : am_md[22]? = some (8, prog_10_method_11_code, 5, some .int, 2) := rfl
set_option maxRecDepth 20000 in
theorem md_23 : am_md[23]? = some (8, prog_10_method_6_code, 1, some .int, 1) := rfl
set_option maxRecDepth 20000 in
theorem md_24 : am_md[24]? = some (13, prog_18_method_54_code, 1, some .int, 1) := rfl
set_option maxRecDepth 20000 in
theorem md_25 : am_md[25]? = some (13, prog_18_method_152_code, 1, some .byte, 1) := rfl
set_option maxRecDepth 20000 in
theorem md_26 : am_md[26]? = some (13, prog_18_method_56_code, 2, some .char, 2) := rfl
set_option maxRecDepth 20000 in
theorem md_27 : am_md[27]? = some (13, prog_18_method_154_code, 1, some .boolean, 1) := rfl
set_option maxRecDepth 20000 in
theorem md_28 : am_md[28]? = some (14, prog_19_method_2_code, 2, some .char, 2) := rfl
set_option maxRecDepth 20000 in
theorem md_29 : am_md[29]? = some (13, prog_18_method_155_code, 2, none, 2) := rfl
set_option maxRecDepth 20000 in
theorem md_30 : am_md[30]? = some (21, prog_23_method_11_code, 3, some .int, 3) := rfl
set_option maxRecDepth 20000 in
theorem md_31 : am_md[31]? = some (19, prog_20_method_83_code, 2, some .char, 2) := rfl
set_option maxRecDepth 20000 in
theorem md_32 : am_md[32]? = some (19, prog_20_method_91_code, 2, none, 2) := rfl
set_option maxRecDepth 20000 in
theorem md_33 : am_md[33]? = some (19, prog_20_method_6_code, 1, some .int, 1) := rfl
set_option maxRecDepth 20000 in
theorem md_34 : am_md[34]? = some (19, prog_20_method_5_code, 2, some .char, 2) := rfl
set_option maxRecDepth 20000 in
theorem md_35 : am_md[35]? = some (8, prog_10_method_13_code, 6, some .boolean, 4) := rfl
set_option maxRecDepth 20000 in
theorem md_36 : am_md[36]? = some (8, prog_10_method_4_code, 3, some .boolean, 3) := rfl
set_option maxRecDepth 20000 in
theorem md_37 : am_md[37]? = some (5, prog_7_method_9_code, 2, some .boolean, 2) := rfl
set_option maxRecDepth 20000 in
theorem md_38 : am_md[38]? = some (9, prog_11_method_15_code, 3, some .int, 1) := rfl
set_option maxRecDepth 20000 in
theorem md_39 : am_md[39]? = some (5, prog_7_method_4_code, 3, some .boolean, 2) := rfl
set_option maxRecDepth 20000 in
theorem md_40 : am_md[40]? = some (8, prog_10_method_9_code, 4, some .int, 3) := rfl
set_option maxRecDepth 20000 in
theorem md_41 : am_md[41]? = some (8, prog_10_method_8_code, 3, some .int, 1) := rfl
set_option maxRecDepth 20000 in
theorem md_42 : am_md[42]? = some (5, prog_7_method_5_code, 5, some .boolean, 3) := rfl
set_option maxRecDepth 20000 in
theorem md_43 : am_md[43]? = some (5, prog_7_method_8_code, 3, some .boolean, 3) := rfl
set_option maxRecDepth 20000 in
theorem md_44 : am_md[44]? = some (5, prog_7_method_6_code, 3, some .int, 3) := rfl
set_option maxRecDepth 20000 in
theorem md_45 : am_md[45]? = some (8, prog_10_method_10_code, 4, some .int, 2) := rfl
set_option maxRecDepth 20000 in
theorem md_46 : am_md[46]? = some (8, prog_10_method_5_code, 2, some .boolean, 2) := rfl
set_option maxRecDepth 20000 in
theorem md_47 : am_md[47]? = some (5, prog_7_method_7_code, 4, none, 4) := rfl
set_option maxRecDepth 20000 in
theorem md_48 : am_md[48]? = some (0, prog_2_method_4_code, 3, none, 3) := rfl
set_option maxRecDepth 20000 in
theorem md_49 : am_md[49]? = some (0, prog_2_method_5_code, 2, none, 2) := rfl
set_option maxRecDepth 20000 in
theorem md_50 : am_md[50]? = some (9, prog_11_method_4_code, 4, some .int, 3) := rfl
set_option maxRecDepth 20000 in
theorem md_51 : am_md[51]? = some (9, prog_11_method_5_code, 5, none, 3) := rfl
set_option maxRecDepth 20000 in
theorem md_52 : am_md[52]? = some (8, prog_10_method_7_code, 2, some .boolean, 1) := rfl
set_option maxRecDepth 20000 in
theorem md_53 : am_md[53]? = some (0, prog_2_method_3_code, 2, none, 2) := rfl
set_option maxRecDepth 20000 in
theorem md_54 : am_md[54]? = some (9, prog_11_method_3_code, 2, none, 2) := rfl
set_option maxRecDepth 20000 in
theorem md_55 : am_md[55]? = some (4, prog_6_method_2_code, 1, none, 1) := rfl
set_option maxRecDepth 20000 in
theorem md_56 : am_md[56]? = some (11, prog_1_method_5_code, 2, some .int, 1) := rfl
set_option maxRecDepth 20000 in
theorem md_57 : am_md[57]? = some (6, prog_8_method_3_code, 3, some .int, 2) := rfl
set_option maxRecDepth 20000 in
theorem md_58 : am_md[58]? = some (6, prog_8_method_6_code, 6, some .boolean, 3) := rfl
set_option maxRecDepth 20000 in
theorem md_59 : am_md[59]? = some (6, prog_8_method_7_code, 4, some .boolean, 3) := rfl
set_option maxRecDepth 20000 in
theorem md_60 : am_md[60]? = some (6, prog_8_method_8_code, 3, some .boolean, 3) := rfl
set_option maxRecDepth 20000 in
theorem md_61 : am_md[61]? = some (8, prog_10_method_12_code, 2, some .boolean, 2) := rfl
set_option maxRecDepth 20000 in
theorem md_62 : am_md[62]? = some (6, prog_8_method_4_code, 2, none, 2) := rfl
set_option maxRecDepth 20000 in
theorem md_63 : am_md[63]? = some (6, prog_8_method_10_code, 5, some .boolean, 2) := rfl
set_option maxRecDepth 20000 in
theorem md_64 : am_md[64]? = some (6, prog_8_method_13_code, 5, some .boolean, 2) := rfl
set_option maxRecDepth 20000 in
theorem md_65 : am_md[65]? = some (6, prog_8_method_5_code, 3, some .boolean, 3) := rfl
set_option maxRecDepth 20000 in
theorem md_66 : am_md[66]? = some (6, prog_8_method_11_code, 1, some .int, 1) := rfl
set_option maxRecDepth 20000 in
theorem md_67 : am_md[67]? = some (6, prog_8_method_12_code, 1, some .int, 1) := rfl
set_option maxRecDepth 20000 in
theorem md_68 : am_md[68]? = some (6, prog_8_method_9_code, 5, some .int, 2) := rfl
set_option maxRecDepth 20000 in
theorem md_69 : am_md[69]? = some (6, prog_8_method_2_code, 1, some (.object "PaperRiver$Law"), 1) := rfl
set_option maxRecDepth 20000 in
theorem md_70 : am_md[70]? = some (17, prog_22_method_123_code, 3, some (.array .int), 2) := rfl
set_option maxRecDepth 20000 in
theorem md_71 : am_md[71]? = some (16, prog_17_method_69_code, 2, some .int, 2) := rfl
set_option maxRecDepth 20000 in
theorem md_72 : am_md[72]? = some (1, prog_3_method_1_code, 2, none, 2) := rfl
set_option maxRecDepth 20000 in
theorem md_73 : am_md[73]? = some (11, prog_1_method_6_code, 3, some .int, 2) := rfl
set_option maxRecDepth 20000 in
theorem md_74 : am_md[74]? = some (11, prog_1_method_7_code, 3, some .int, 3) := rfl
set_option maxRecDepth 20000 in
theorem md_75 : am_md[75]? = some (11, prog_1_method_30_code, 2, some .boolean, 2) := rfl
set_option maxRecDepth 20000 in
theorem md_76 : am_md[76]? = some (0, prog_2_method_6_code, 3, some .int, 2) := rfl
set_option maxRecDepth 20000 in
theorem md_77 : am_md[77]? = some (11, prog_1_method_34_code, 3, some .int, 2) := rfl
set_option maxRecDepth 20000 in
theorem md_78 : am_md[78]? = some (9, prog_11_method_11_code, 4, some .int, 2) := rfl
set_option maxRecDepth 20000 in
theorem md_79 : am_md[79]? = some (11, prog_1_method_8_code, 4, some .int, 3) := rfl
set_option maxRecDepth 20000 in
theorem md_80 : am_md[80]? = some (11, prog_1_method_31_code, 2, some .boolean, 2) := rfl
set_option maxRecDepth 20000 in
theorem md_81 : am_md[81]? = some (11, prog_1_method_9_code, 1, some .int, 1) := rfl
set_option maxRecDepth 20000 in
theorem md_82 : am_md[82]? = some (11, prog_1_method_29_code, 1, some .boolean, 1) := rfl
set_option maxRecDepth 20000 in
theorem md_83 : am_md[83]? = some (4, prog_6_method_3_code, 3, none, 2) := rfl
set_option maxRecDepth 20000 in
theorem md_84 : am_md[84]? = some (11, prog_1_method_33_code, 1, some (.object "PaperRiver$Law"), 1) := rfl
set_option maxRecDepth 20000 in
theorem md_85 : am_md[85]? = some (7, prog_9_method_2_code, 4, none, 4) := rfl
set_option maxRecDepth 20000 in
theorem md_86 : am_md[86]? = some (7, prog_9_method_8_code, 5, none, 1) := rfl
set_option maxRecDepth 20000 in
theorem md_87 : am_md[87]? = some (7, prog_9_method_9_code, 6, none, 2) := rfl
set_option maxRecDepth 20000 in
theorem md_88 : am_md[88]? = some (9, prog_11_method_8_code, 4, none, 4) := rfl
set_option maxRecDepth 20000 in
theorem md_89 : am_md[89]? = some (9, prog_11_method_6_code, 3, none, 3) := rfl
set_option maxRecDepth 20000 in
theorem md_90 : am_md[90]? = some (9, prog_11_method_13_code, 6, some .int, 2) := rfl
set_option maxRecDepth 20000 in
theorem md_91 : am_md[91]? = some (7, prog_9_method_10_code, 5, some .boolean, 2) := rfl
set_option maxRecDepth 20000 in
theorem md_92 : am_md[92]? = some (15, prog_16_method_49_code, 1, some .int, 1) := rfl
set_option maxRecDepth 20000 in
theorem md_93 : am_md[93]? = some (7, prog_9_method_11_code, 4, some .boolean, 4) := rfl
set_option maxRecDepth 20000 in
theorem md_94 : am_md[94]? = some (9, prog_11_method_10_code, 2, some .int, 2) := rfl
set_option maxRecDepth 20000 in
theorem md_95 : am_md[95]? = some (9, prog_11_method_9_code, 3, some .int, 2) := rfl
set_option maxRecDepth 20000 in
theorem md_96 : am_md[96]? = some (1, prog_3_method_2_code, 6, some .boolean, 3) := rfl
set_option maxRecDepth 20000 in
theorem md_97 : am_md[97]? = some (1, prog_3_method_3_code, 5, some .long, 3) := rfl
set_option maxRecDepth 20000 in
theorem md_98 : am_md[98]? = some (9, prog_11_method_7_code, 3, none, 3) := rfl
set_option maxRecDepth 20000 in
theorem md_99 : am_md[99]? = some (7, prog_9_method_12_code, 3, none, 1) := rfl
set_option maxRecDepth 20000 in
theorem md_100 : am_md[100]? = some (7, prog_9_method_5_code, 2, none, 2) := rfl
set_option maxRecDepth 20000 in
theorem md_101 : am_md[101]? = some (11, prog_1_method_10_code, 3, some .int, 3) := rfl
set_option maxRecDepth 20000 in
theorem md_102 : am_md[102]? = some (11, prog_1_method_35_code, 4, some .int, 1) := rfl
set_option maxRecDepth 20000 in
theorem md_103 : am_md[103]? = some (11, prog_1_method_11_code, 6, some .int, 2) := rfl
set_option maxRecDepth 20000 in
theorem md_104 : am_md[104]? = some (11, prog_1_method_12_code, 4, some .boolean, 3) := rfl
set_option maxRecDepth 20000 in
theorem md_105 : am_md[105]? = some (11, prog_1_method_13_code, 4, some .int, 3) := rfl
set_option maxRecDepth 20000 in
theorem md_106 : am_md[106]? = some (11, prog_1_method_14_code, 1, some .int, 1) := rfl
set_option maxRecDepth 20000 in
theorem md_107 : am_md[107]? = some (4, prog_6_method_4_code, 3, none, 2) := rfl
set_option maxRecDepth 20000 in
theorem md_108 : am_md[108]? = some (11, prog_1_method_15_code, 5, some .int, 4) := rfl
set_option maxRecDepth 20000 in
theorem md_109 : am_md[109]? = some (7, prog_9_method_3_code, 3, none, 3) := rfl
set_option maxRecDepth 20000 in
theorem md_110 : am_md[110]? = some (7, prog_9_method_6_code, 4, none, 3) := rfl
set_option maxRecDepth 20000 in
theorem md_111 : am_md[111]? = some (11, prog_1_method_16_code, 4, some .int, 3) := rfl
set_option maxRecDepth 20000 in
theorem md_112 : am_md[112]? = some (7, prog_9_method_7_code, 6, some .int, 2) := rfl
set_option maxRecDepth 20000 in
theorem md_113 : am_md[113]? = some (9, prog_11_method_12_code, 3, some .int, 1) := rfl
set_option maxRecDepth 20000 in
theorem md_114 : am_md[114]? = some (11, prog_1_method_17_code, 4, some .int, 3) := rfl
set_option maxRecDepth 20000 in
theorem md_115 : am_md[115]? = some (2, prog_4_method_2_code, 9, some .int, 5) := rfl
set_option maxRecDepth 20000 in
theorem md_116 : am_md[116]? = some (2, prog_4_method_4_code, 7, some .boolean, 3) := rfl
set_option maxRecDepth 20000 in
theorem md_117 : am_md[117]? = some (15, prog_16_method_48_code, 2, some .int, 1) := rfl
set_option maxRecDepth 20000 in
theorem md_118 : am_md[118]? = some (2, prog_4_method_6_code, 4, some .int, 1) := rfl
set_option maxRecDepth 20000 in
theorem md_119 : am_md[119]? = some (2, prog_4_method_5_code, 3, none, 3) := rfl
set_option maxRecDepth 20000 in
theorem md_120 : am_md[120]? = some (2, prog_4_method_7_code, 6, some .boolean, 4) := rfl
set_option maxRecDepth 20000 in
theorem md_121 : am_md[121]? = some (2, prog_4_method_8_code, 5, some .boolean, 2) := rfl
set_option maxRecDepth 20000 in
theorem md_122 : am_md[122]? = some (9, prog_11_method_17_code, 4, some .int, 2) := rfl
set_option maxRecDepth 20000 in
theorem md_123 : am_md[123]? = some (2, prog_4_method_3_code, 3, some .int, 1) := rfl
set_option maxRecDepth 20000 in
theorem md_124 : am_md[124]? = some (11, prog_1_method_18_code, 9, some .int, 5) := rfl
set_option maxRecDepth 20000 in
theorem md_125 : am_md[125]? = some (11, prog_1_method_32_code, 1, some .boolean, 1) := rfl
set_option maxRecDepth 20000 in
theorem md_126 : am_md[126]? = some (11, prog_1_method_19_code, 5, some .int, 3) := rfl
set_option maxRecDepth 20000 in
theorem md_127 : am_md[127]? = some (3, prog_5_method_2_code, 6, none, 3) := rfl
set_option maxRecDepth 20000 in
theorem md_128 : am_md[128]? = some (3, prog_5_method_3_code, 5, some .int, 3) := rfl
set_option maxRecDepth 20000 in
theorem md_129 : am_md[129]? = some (3, prog_5_method_4_code, 4, some .boolean, 4) := rfl
set_option maxRecDepth 20000 in
theorem md_130 : am_md[130]? = some (3, prog_5_method_5_code, 1, some .int, 1) := rfl
set_option maxRecDepth 20000 in
theorem md_131 : am_md[131]? = some (3, prog_5_method_6_code, 5, some .int, 2) := rfl
set_option maxRecDepth 20000 in
theorem md_132 : am_md[132]? = some (3, prog_5_method_7_code, 4, some .int, 3) := rfl
set_option maxRecDepth 20000 in
theorem md_133 : am_md[133]? = some (11, prog_1_method_20_code, 10, some .int, 4) := rfl
set_option maxRecDepth 20000 in
theorem md_134 : am_md[134]? = some (11, prog_1_method_36_code, 12, some .int, 4) := rfl
set_option maxRecDepth 20000 in
theorem md_135 : am_md[135]? = some (11, prog_1_method_21_code, 8, some .int, 3) := rfl
set_option maxRecDepth 20000 in
theorem md_136 : am_md[136]? = some (7, prog_9_method_4_code, 3, none, 2) := rfl
set_option maxRecDepth 20000 in
theorem md_137 : am_md[137]? = some (9, prog_11_method_14_code, 4, some .int, 2) := rfl
set_option maxRecDepth 20000 in
theorem md_138 : am_md[138]? = some (11, prog_1_method_22_code, 6, some .int, 3) := rfl
set_option maxRecDepth 20000 in
theorem md_139 : am_md[139]? = some (0, prog_2_method_7_code, 5, some .int, 2) := rfl
set_option maxRecDepth 20000 in
theorem md_140 : am_md[140]? = some (11, prog_1_method_23_code, 6, some .int, 3) := rfl
set_option maxRecDepth 20000 in
theorem md_141 : am_md[141]? = some (9, prog_11_method_16_code, 3, some .int, 1) := rfl
set_option maxRecDepth 20000 in
theorem md_142 : am_md[142]? = some (11, prog_1_method_40_code, 6, some .int, 2) := rfl
set_option maxRecDepth 20000 in
theorem md_143 : am_md[143]? = some (11, prog_1_method_24_code, 3, some .int, 2) := rfl
set_option maxRecDepth 20000 in
theorem md_144 : am_md[144]? = some (11, prog_1_method_25_code, 7, some .int, 4) := rfl
set_option maxRecDepth 20000 in
theorem md_145 : am_md[145]? = some (11, prog_1_method_37_code, 7, some .int, 3) := rfl
set_option maxRecDepth 20000 in
theorem md_146 : am_md[146]? = some (11, prog_1_method_38_code, 1, some .int, 1) := rfl
set_option maxRecDepth 20000 in
theorem md_147 : am_md[147]? = some (11, prog_1_method_39_code, 1, some .int, 1) := rfl
set_option maxRecDepth 20000 in
theorem md_148 : am_md[148]? = some (11, prog_1_method_26_code, 2, some .int, 2) := rfl
set_option maxRecDepth 20000 in
theorem md_149 : am_md[149]? = some (11, prog_1_method_27_code, 2, some .int, 2) := rfl
set_option maxRecDepth 20000 in
theorem md_150 : am_md[150]? = some (10, prog_12_method_2_code, 2, none, 2) := rfl
set_option maxRecDepth 20000 in
theorem md_151 : am_md[151]? = some (4, prog_6_method_5_code, 4, none, 2) := rfl
set_option maxRecDepth 20000 in
theorem md_152 : am_md[152]? = some (11, prog_1_method_28_code, 2, some .int, 2) := rfl
set_option maxRecDepth 20000 in
theorem md_153 : am_md[153]? = some (12, prog_14_method_1_code, 1, none, 1) := rfl
set_option maxRecDepth 20000 in
theorem md_154 : am_md[154]? = some (12, prog_14_method_19_code, 6, some .int, 6) := rfl
set_option maxRecDepth 20000 in
theorem md_155 : am_md[155]? = some (12, prog_14_method_20_code, 3, none, 2) := rfl
set_option maxRecDepth 20000 in
theorem md_156 : am_md[156]? = some (12, prog_14_method_21_code, 2, some .int, 2) := rfl
set_option maxRecDepth 20000 in
theorem md_157 : am_md[157]? = some (12, prog_14_method_55_code, 2, some .int, 1) := rfl
set_option maxRecDepth 20000 in
theorem md_158 : am_md[158]? = some (12, prog_14_method_54_code, 3, none, 1) := rfl
set_option maxRecDepth 20000 in
theorem md_159 : am_md[159]? = some (12, prog_14_method_53_code, 1, none, 1) := rfl
set_option maxRecDepth 20000 in
theorem md_160 : am_md[160]? = some (12, prog_14_method_50_code, 4, none, 2) := rfl
set_option maxRecDepth 20000 in
theorem md_161 : am_md[161]? = some (12, prog_14_method_25_code, 1, none, 1) := rfl
set_option maxRecDepth 20000 in
theorem md_162 : am_md[162]? = some (12, prog_14_method_24_code, 1, some .int, 1) := rfl
set_option maxRecDepth 20000 in
theorem md_163 : am_md[163]? = some (12, prog_14_method_45_code, 1, some (.object "java/lang/String"), 1) := rfl
set_option maxRecDepth 20000 in
theorem md_164 : am_md[164]? = some (12, prog_14_method_27_code, 5, some .boolean, 2) := rfl
set_option maxRecDepth 20000 in
theorem md_165 : am_md[165]? = some (12, prog_14_method_23_code, 3, none, 3) := rfl
set_option maxRecDepth 20000 in
theorem md_166 : am_md[166]? = some (12, prog_14_method_49_code, 3, some .boolean, 3) := rfl
set_option maxRecDepth 20000 in
theorem md_167 : am_md[167]? = some (12, prog_14_method_48_code, 4, none, 2) := rfl
set_option maxRecDepth 20000 in
theorem md_168 : am_md[168]? = some (12, prog_14_method_46_code, 3, none, 1) := rfl
set_option maxRecDepth 20000 in
theorem md_169 : am_md[169]? = some (12, prog_14_method_41_code, 5, some .int, 3) := rfl
set_option maxRecDepth 20000 in
theorem md_170 : am_md[170]? = some (12, prog_14_method_31_code, 4, some .int, 2) := rfl
set_option maxRecDepth 20000 in
theorem md_171 : am_md[171]? = some (12, prog_14_method_26_code, 1, some .boolean, 1) := rfl
set_option maxRecDepth 20000 in
theorem md_172 : am_md[172]? = some (12, prog_14_method_3_code, 6, some .boolean, 3) := rfl
set_option maxRecDepth 20000 in
theorem md_173 : am_md[173]? = some (12, prog_14_method_47_code, 4, none, 1) := rfl
set_option maxRecDepth 20000 in
theorem md_174 : am_md[174]? = some (12, prog_14_method_42_code, 1, some .int, 1) := rfl
set_option maxRecDepth 20000 in
theorem md_175 : am_md[175]? = some (12, prog_14_method_43_code, 5, some .int, 3) := rfl
set_option maxRecDepth 20000 in
theorem md_176 : am_md[176]? = some (12, prog_14_method_10_code, 4, some .int, 3) := rfl
set_option maxRecDepth 20000 in
theorem md_177 : am_md[177]? = some (12, prog_14_method_44_code, 4, some .int, 2) := rfl
set_option maxRecDepth 20000 in
theorem md_178 : am_md[178]? = some (12, prog_14_method_52_code, 2, some .boolean, 1) := rfl
set_option maxRecDepth 20000 in
theorem md_179 : am_md[179]? = some (12, prog_14_method_51_code, 3, none, 2) := rfl
set_option maxRecDepth 20000 in
theorem md_180 : am_md[180]? = some (12, prog_14_method_57_code, 3, some .int, 1) := rfl
set_option maxRecDepth 20000 in
theorem md_181 : am_md[181]? = some (12, prog_14_method_56_code, 4, none, 2) := rfl
set_option maxRecDepth 20000 in
theorem md_182 : am_md[182]? = some (12, prog_14_method_40_code, 5, none, 1) := rfl
set_option maxRecDepth 20000 in
theorem md_183 : am_md[183]? = some (12, prog_14_method_39_code, 1, some .boolean, 1) := rfl
set_option maxRecDepth 20000 in
theorem md_184 : am_md[184]? = some (12, prog_14_method_37_code, 2, none, 2) := rfl
set_option maxRecDepth 20000 in
theorem md_185 : am_md[185]? = some (12, prog_14_method_35_code, 3, none, 1) := rfl
set_option maxRecDepth 20000 in
theorem md_186 : am_md[186]? = some (12, prog_14_method_34_code, 2, none, 1) := rfl
set_option maxRecDepth 20000 in
theorem md_187 : am_md[187]? = some (12, prog_14_method_33_code, 2, none, 1) := rfl
set_option maxRecDepth 20000 in
theorem md_188 : am_md[188]? = some (12, prog_14_method_32_code, 3, none, 1) := rfl
set_option maxRecDepth 20000 in
theorem md_189 : am_md[189]? = some (12, prog_14_method_30_code, 2, none, 2) := rfl
set_option maxRecDepth 20000 in
theorem md_190 : am_md[190]? = some (12, prog_14_method_29_code, 3, none, 3) := rfl
set_option maxRecDepth 20000 in
theorem md_191 : am_md[191]? = some (12, prog_14_method_22_code, 1, some (.object "java/lang/String"), 1) := rfl
set_option maxRecDepth 20000 in
theorem md_192 : am_md[192]? = some (12, prog_14_method_38_code, 2, none, 2) := rfl
set_option maxRecDepth 20000 in
theorem md_193 : am_md[193]? = some (12, prog_14_method_36_code, 1, some .int, 1) := rfl
set_option maxRecDepth 20000 in
theorem md_194 : am_md[194]? = some (12, prog_14_method_58_code, 3, some .int, 2) := rfl
set_option maxRecDepth 20000 in
theorem md_195 : am_md[195]? = some (12, prog_14_method_65_code, 3, some .int, 3) := rfl
set_option maxRecDepth 20000 in
theorem md_196 : am_md[196]? = some (12, prog_14_method_7_code, 2, some .boolean, 2) := rfl
set_option maxRecDepth 20000 in
theorem md_197 : am_md[197]? = some (12, prog_14_method_11_code, 2, some .int, 2) := rfl
set_option maxRecDepth 20000 in
theorem md_198 : am_md[198]? = some (12, prog_14_method_12_code, 2, some .int, 2) := rfl
set_option maxRecDepth 20000 in
theorem md_199 : am_md[199]? = some (12, prog_14_method_5_code, 2, some .boolean, 2) := rfl
set_option maxRecDepth 20000 in
theorem md_200 : am_md[200]? = some (12, prog_14_method_13_code, 2, some .int, 2) := rfl
set_option maxRecDepth 20000 in
theorem md_201 : am_md[201]? = some (12, prog_14_method_64_code, 4, some .int, 2) := rfl
set_option maxRecDepth 20000 in
theorem md_202 : am_md[202]? = some (12, prog_14_method_9_code, 2, some .boolean, 2) := rfl
set_option maxRecDepth 20000 in
theorem md_203 : am_md[203]? = some (12, prog_14_method_66_code, 3, some .int, 3) := rfl
set_option maxRecDepth 20000 in
theorem md_204 : am_md[204]? = some (12, prog_14_method_8_code, 2, some .boolean, 2) := rfl
set_option maxRecDepth 20000 in
theorem md_205 : am_md[205]? = some (12, prog_14_method_79_code, 1, some .int, 1) := rfl
set_option maxRecDepth 20000 in
theorem md_206 : am_md[206]? = some (12, prog_14_method_77_code, 3, none, 3) := rfl
set_option maxRecDepth 20000 in
theorem md_207 : am_md[207]? = some (12, prog_14_method_75_code, 3, some .int, 2) := rfl
set_option maxRecDepth 20000 in
theorem md_208 : am_md[208]? = some (12, prog_14_method_76_code, 3, none, 2) := rfl
set_option maxRecDepth 20000 in
theorem md_209 : am_md[209]? = some (12, prog_14_method_80_code, 1, some .int, 1) := rfl
set_option maxRecDepth 20000 in
theorem md_210 : am_md[210]? = some (12, prog_14_method_6_code, 1, some .boolean, 1) := rfl
set_option maxRecDepth 20000 in
theorem md_211 : am_md[211]? = some (12, prog_14_method_78_code, 2, none, 1) := rfl
set_option maxRecDepth 20000 in
theorem md_212 : am_md[212]? = some (12, prog_14_method_74_code, 4, some .int, 1) := rfl
set_option maxRecDepth 20000 in
theorem md_213 : am_md[213]? = some (12, prog_14_method_63_code, 3, some .int, 1) := rfl
set_option maxRecDepth 20000 in
theorem md_214 : am_md[214]? = some (12, prog_14_method_70_code, 4, none, 2) := rfl
set_option maxRecDepth 20000 in
theorem md_215 : am_md[215]? = some (12, prog_14_method_68_code, 3, some .boolean, 2) := rfl
set_option maxRecDepth 20000 in
theorem md_216 : am_md[216]? = some (12, prog_14_method_67_code, 4, none, 4) := rfl
set_option maxRecDepth 20000 in
theorem md_217 : am_md[217]? = some (12, prog_14_method_14_code, 3, some .int, 1) := rfl
set_option maxRecDepth 20000 in
theorem md_218 : am_md[218]? = some (12, prog_14_method_69_code, 3, some .int, 3) := rfl
set_option maxRecDepth 20000 in
theorem md_219 : am_md[219]? = some (12, prog_14_method_72_code, 5, some .boolean, 2) := rfl
set_option maxRecDepth 20000 in
theorem md_220 : am_md[220]? = some (12, prog_14_method_71_code, 3, some .boolean, 3) := rfl
set_option maxRecDepth 20000 in
theorem md_221 : am_md[221]? = some (12, prog_14_method_15_code, 2, some .int, 1) := rfl
set_option maxRecDepth 20000 in
theorem md_222 : am_md[222]? = some (12, prog_14_method_18_code, 3, some .int, 1) := rfl
set_option maxRecDepth 20000 in
theorem md_223 : am_md[223]? = some (12, prog_14_method_4_code, 3, some .int, 1) := rfl
set_option maxRecDepth 20000 in
theorem md_224 : am_md[224]? = some (12, prog_14_method_59_code, 3, some .boolean, 1) := rfl
set_option maxRecDepth 20000 in
theorem md_225 : am_md[225]? = some (12, prog_14_method_62_code, 8, some .long, 4) := rfl
set_option maxRecDepth 20000 in
theorem md_226 : am_md[226]? = some (12, prog_14_method_61_code, 5, some .long, 3) := rfl
set_option maxRecDepth 20000 in
theorem md_227 : am_md[227]? = some (12, prog_14_method_60_code, 1, some .long, 1) := rfl
set_option maxRecDepth 20000 in
theorem md_228 : am_md[228]? = some (12, prog_14_method_16_code, 3, some .int, 1) := rfl
set_option maxRecDepth 20000 in
theorem md_229 : am_md[229]? = some (12, prog_14_method_73_code, 3, none, 1) := rfl
set_option maxRecDepth 20000 in
theorem md_230 : am_md[230]? = some (12, prog_14_method_82_code, 3, some .int, 3) := rfl
set_option maxRecDepth 20000 in
theorem md_231 : am_md[231]? = some (12, prog_14_method_17_code, 2, some .boolean, 1) := rfl
set_option maxRecDepth 20000 in
theorem md_232 : am_md[232]? = some (12, prog_14_method_81_code, 5, some .int, 4) := rfl
set_option maxRecDepth 20000 in
theorem md_233 : am_md[233]? = some (12, prog_14_method_83_code, 5, some .int, 2) := rfl
set_option maxRecDepth 20000 in
theorem md_234 : am_md[234]? = some (12, prog_14_method_84_code, 3, some .boolean, 3) := rfl
set_option maxRecDepth 20000 in
theorem md_235 : am_md[235]? = some (12, prog_14_method_87_code, 5, some .int, 3) := rfl
set_option maxRecDepth 20000 in
theorem md_236 : am_md[236]? = some (12, prog_14_method_85_code, 3, none, 2) := rfl
set_option maxRecDepth 20000 in
theorem md_237 : am_md[237]? = some (12, prog_14_method_86_code, 3, none, 3) := rfl
set_option maxRecDepth 20000 in
theorem md_238 : am_md[238]? = some (12, prog_14_method_91_code, 5, some .int, 4) := rfl
set_option maxRecDepth 20000 in
theorem md_239 : am_md[239]? = some (12, prog_14_method_88_code, 1, none, 1) := rfl
set_option maxRecDepth 20000 in
theorem md_240 : am_md[240]? = some (12, prog_14_method_114_code, 3, none, 3) := rfl
set_option maxRecDepth 20000 in
theorem md_241 : am_md[241]? = some (12, prog_14_method_113_code, 3, none, 2) := rfl
set_option maxRecDepth 20000 in
theorem md_242 : am_md[242]? = some (12, prog_14_method_90_code, 3, none, 2) := rfl
set_option maxRecDepth 20000 in
theorem md_243 : am_md[243]? = some (12, prog_14_method_89_code, 1, none, 1) := rfl
set_option maxRecDepth 20000 in
theorem md_244 : am_md[244]? = some (12, prog_14_method_92_code, 9, some .int, 3) := rfl
set_option maxRecDepth 20000 in
theorem md_245 : am_md[245]? = some (12, prog_14_method_95_code, 6, some .int, 3) := rfl
set_option maxRecDepth 20000 in
theorem md_246 : am_md[246]? = some (12, prog_14_method_94_code, 5, some .boolean, 3) := rfl
set_option maxRecDepth 20000 in
theorem md_247 : am_md[247]? = some (12, prog_14_method_93_code, 3, some .boolean, 2) := rfl
set_option maxRecDepth 20000 in
theorem md_248 : am_md[248]? = some (12, prog_14_method_96_code, 10, some .int, 5) := rfl
set_option maxRecDepth 20000 in
theorem md_249 : am_md[249]? = some (12, prog_14_method_98_code, 4, some .int, 3) := rfl
set_option maxRecDepth 20000 in
theorem md_250 : am_md[250]? = some (12, prog_14_method_97_code, 6, some .int, 2) := rfl
set_option maxRecDepth 20000 in
theorem md_251 : am_md[251]? = some (12, prog_14_method_101_code, 9, some .int, 4) := rfl
set_option maxRecDepth 20000 in
theorem md_252 : am_md[252]? = some (12, prog_14_method_99_code, 6, some .int, 3) := rfl
set_option maxRecDepth 20000 in
theorem md_253 : am_md[253]? = some (12, prog_14_method_100_code, 7, some .boolean, 2) := rfl
set_option maxRecDepth 20000 in
theorem md_254 : am_md[254]? = some (12, prog_14_method_103_code, 7, some .int, 3) := rfl
set_option maxRecDepth 20000 in
theorem md_255 : am_md[255]? = some (12, prog_14_method_102_code, 3, some .int, 1) := rfl
set_option maxRecDepth 20000 in
theorem md_256 : am_md[256]? = some (12, prog_14_method_105_code, 5, some .int, 3) := rfl
set_option maxRecDepth 20000 in
theorem md_257 : am_md[257]? = some (12, prog_14_method_104_code, 4, some .int, 2) := rfl
set_option maxRecDepth 20000 in
theorem md_258 : am_md[258]? = some (12, prog_14_method_107_code, 7, some .int, 3) := rfl
set_option maxRecDepth 20000 in
theorem md_259 : am_md[259]? = some (12, prog_14_method_106_code, 3, some .int, 1) := rfl
set_option maxRecDepth 20000 in
theorem md_260 : am_md[260]? = some (12, prog_14_method_108_code, 3, some .int, 2) := rfl
set_option maxRecDepth 20000 in
theorem md_261 : am_md[261]? = some (12, prog_14_method_111_code, 11, some .int, 4) := rfl
set_option maxRecDepth 20000 in
theorem md_262 : am_md[262]? = some (12, prog_14_method_110_code, 4, some .int, 2) := rfl
set_option maxRecDepth 20000 in
theorem md_263 : am_md[263]? = some (12, prog_14_method_109_code, 2, some .int, 2) := rfl
set_option maxRecDepth 20000 in
theorem md_264 : am_md[264]? = some (12, prog_14_method_112_code, 2, some .int, 2) := rfl
set_option maxRecDepth 20000 in
theorem md_265 : am_md[265]? = some (12, prog_14_method_115_code, 2, some .int, 2) := rfl
set_option maxRecDepth 20000 in
theorem md_266 : am_md[266]? = some (12, prog_14_method_116_code, 2, some .int, 2) := rfl
section MR
variable {X : Nat → va_E} {d mid pc : Nat} {L st : List Value} {h : AmH} {Q : Option Value → AmH → Prop} {own : Nat} {ret : Option FieldType} {S : mS}
theorem mr_getf {i k : Nat} {v : Value} (hh : 172 ≤ h.2.1) (f : am_fe mid pc = some (own, ret, .getfield i)) (e : am_lk i (am_ft.getD own []) = some (12, k)) (hv : (m_fs S.1)[k]? = some v) (g : Go X d mid (pc + 3) L (v :: st) (mst S h) Q) : Go X d mid pc L (.ref 130 :: st) (mst S h) Q := r_getf f e m_c_0 (m_lt hh (by decide)) hv g
theorem mr_putf {i k : Nat} {x : Int32} (hh : 172 ≤ h.2.1) (f : am_fe mid pc = some (own, ret, .putfield i)) (e : am_lk i (am_ft.getD own []) = some (12, k)) (hs : (m_fs S.1).set k (.int x) = m_fs (upd S.1 k x)) (hk : k < 58) (hf : fits ((am_yl.getD 12 (fun _ => .int)) k) (.int x) = true) (hn : narrow ((am_yl.getD 12 (fun _ => .int)) k) (.int x) = .int x) (hfin : (((am_cl.getD 12 ("", fun _ => ("", "", "", true), 0)).2.1 k).2.2.2 = false)) (g : Go X d mid (pc + 3) L st (mst (m_sI S k x) h) Q) : Go X d mid pc L (.int x :: .ref 130 :: st) (mst S h) Q := r_putf f e m_h_0 (m_lt hh (by decide)) (by decide) hk hf hn (Or.inl hfin) (by rw [m_up_i hs]; exact g)
theorem mr_iast {k p n j : Nat} {i x : Int32} (hh : 172 ≤ h.2.1) (f : am_fe mid pc = some (own, ret, .iastore)) (hp : p = 130 + k) (h1 : 1 ≤ k ∧ k < 42) (h2 : k ≠ 33 ∧ k ≠ 34) (ht : m_tg.getD k 0 = 0) (hl : m_ln.getD k 0 = n) (h0 : ¬ i < 0) (hj : i.toNatClampNeg = j) (hn : ¬ n ≤ j) (g : Go X d mid (pc + 1) L st (mst (m_sA S k j x) h) Q) : Go X d mid pc L (.int x :: .int i :: .ref p :: st) (mst S h) Q := by
  subst hp
  refine r_iast (n := n) (a := S.2.1 k) f ?_ (m_lt hh (by omega)) (by omega) h0 hj hn ?_
  · show (if 130 ≤ 130 + k ∧ 130 + k < 172 then m_ce S (130 + k - 130) else h.1 (130 + k)) = _
    rw [if_pos (by omega), show 130 + k - 130 = k by omega]
    unfold m_ce
    rw [if_neg (by omega), if_neg (by omega), ht, hl]
  · have e := m_up_a (S := S) (h := h) (j := j) (x := x) h1 h2
    rw [ht, hl] at e
    rw [e]
    exact g
theorem mr_bast {j : Nat} {i x : Int32} (hh : 172 ≤ h.2.1) (f : am_fe mid pc = some (own, ret, .bastore)) (h0 : ¬ i < 0) (hj : i.toNatClampNeg = j) (hn : ¬ 400 ≤ j) (g : Go X d mid (pc + 1) L st (mst (m_sA S 26 j (vp_nar .byte x)) h) Q) : Go X d mid pc L (.int x :: .int i :: .ref 156 :: st) (mst S h) Q := by
  refine r_bast f m_h_26 (m_lt hh (by decide)) (by decide) h0 hj hn ?_
  have e := m_up_a (S := S) (h := h) (k := 26) (j := j) (x := vp_nar .byte x) (by decide) (by decide)
  have e2 : am_up (mst S h) 156 (.inl (2, 400, .inl (upd (S.2.1 26) j (vp_nar .byte x)))) = mst (m_sA S 26 j (vp_nar .byte x)) h := e
  rw [e2]
  exact g
theorem mr_zast {j : Nat} {i x : Int32} (hh : 172 ≤ h.2.1) (f : am_fe mid pc = some (own, ret, .bastore)) (h0 : ¬ i < 0) (hj : i.toNatClampNeg = j) (hn : ¬ 4 ≤ j) (g : Go X d mid (pc + 1) L st (mst (m_sA S 41 j (vp_nar .boolean x)) h) Q) : Go X d mid pc L (.int x :: .int i :: .ref 171 :: st) (mst S h) Q := by
  refine r_zast f m_h_41 (m_lt hh (by decide)) (by decide) h0 hj hn ?_
  have e := m_up_a (S := S) (h := h) (k := 41) (j := j) (x := vp_nar .boolean x) (by decide) (by decide)
  have e2 : am_up (mst S h) 171 (.inl (3, 4, .inl (upd (S.2.1 41) j (vp_nar .boolean x)))) = mst (m_sA S 41 j (vp_nar .boolean x)) h := e
  rw [e2]
  exact g
theorem mr_last {k p n j : Nat} {i : Int32} {x : Int64} (hh : 172 ≤ h.2.1) (f : am_fe mid pc = some (own, ret, .lastore)) (hp : p = 130 + k) (h1 : k = 33 ∨ k = 34) (hl : m_ln.getD k 0 = n) (h0 : ¬ i < 0) (hj : i.toNatClampNeg = j) (hn : ¬ n ≤ j) (g : Go X d mid (pc + 1) L st (mst (m_sL S k j x) h) Q) : Go X d mid pc L (.long x :: .int i :: .ref p :: st) (mst S h) Q := by
  subst hp
  refine r_last (n := n) (a := S.2.2 k) f ?_ (m_lt hh (by omega)) (by omega) h0 hj hn ?_
  · show (if 130 ≤ 130 + k ∧ 130 + k < 172 then m_ce S (130 + k - 130) else h.1 (130 + k)) = _
    rw [if_pos (by omega), show 130 + k - 130 = k by omega]
    unfold m_ce
    rw [if_neg (by omega), if_pos h1, hl]
  · have e := m_up_l (S := S) (h := h) (j := j) (x := x) h1
    rw [hl] at e
    rw [e]
    exact g
end MR
