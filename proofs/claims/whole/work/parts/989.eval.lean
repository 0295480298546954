/-! what codes come to -/
theorem lg_nz {b : Int64} (h : am_if .ne (lg_cmp b 0) = true) : b ≠ 0 := fun z => by
  subst z
  exact absurd h (by decide)
theorem bop_c {o : Nat} (h : bop o) : o = 2 ∨ o = 3 ∨ o = 4 ∨ o = 5 ∨ o = 6 ∨ o = 7 ∨ o = 8 ∨ o = 10 ∨ o = 11 ∨ o = 13 ∨ o = 14 ∨ o = 15 := by
  obtain ⟨h1, h2, h3, h4⟩ := h
  omega
theorem g97 {o : Nat} {a b : Int64} {T : xS} (ho : bop o) : Ev (fun n => G97 n (cdI (o, 0)) a b T) (opV o a b, T) := by
  refine ev_succ (fun n => G97e0 n ..) ?_
  unfold G97b0
  rcases bop_c ho with rfl | rfl | rfl | rfl | rfl | rfl | rfl | rfl | rfl | rfl | rfl | rfl
  · rw [if_neg (show ¬ ((cdI (2, 0)).toInt < -22 ∨ -12 < (cdI (2, 0)).toInt) by decide), if_neg (show ¬ cdI (2, 0) = (-22) by decide), if_neg (show ¬ cdI (2, 0) = (-21) by decide), if_neg (show ¬ cdI (2, 0) = (-20) by decide), if_neg (show ¬ cdI (2, 0) = (-19) by decide), if_neg (show ¬ cdI (2, 0) = (-18) by decide), if_neg (show ¬ cdI (2, 0) = (-17) by decide), if_neg (show ¬ cdI (2, 0) = (-16) by decide), if_neg (show ¬ cdI (2, 0) = (-15) by decide), if_neg (show ¬ cdI (2, 0) = (-14) by decide), if_neg (show ¬ cdI (2, 0) = (-13) by decide), if_pos (show cdI (2, 0) = (-12) by decide)]
    exact ev_ret
  · rw [if_neg (show ¬ ((cdI (3, 0)).toInt < -22 ∨ -12 < (cdI (3, 0)).toInt) by decide), if_neg (show ¬ cdI (3, 0) = (-22) by decide), if_neg (show ¬ cdI (3, 0) = (-21) by decide), if_neg (show ¬ cdI (3, 0) = (-20) by decide), if_neg (show ¬ cdI (3, 0) = (-19) by decide), if_neg (show ¬ cdI (3, 0) = (-18) by decide), if_neg (show ¬ cdI (3, 0) = (-17) by decide), if_neg (show ¬ cdI (3, 0) = (-16) by decide), if_neg (show ¬ cdI (3, 0) = (-15) by decide), if_neg (show ¬ cdI (3, 0) = (-14) by decide), if_pos (show cdI (3, 0) = (-13) by decide)]
    exact ev_ret
  · rw [if_neg (show ¬ ((cdI (4, 0)).toInt < -22 ∨ -12 < (cdI (4, 0)).toInt) by decide), if_neg (show ¬ cdI (4, 0) = (-22) by decide), if_neg (show ¬ cdI (4, 0) = (-21) by decide), if_neg (show ¬ cdI (4, 0) = (-20) by decide), if_neg (show ¬ cdI (4, 0) = (-19) by decide), if_neg (show ¬ cdI (4, 0) = (-18) by decide), if_pos (show cdI (4, 0) = (-17) by decide)]
    by_cases hc : am_if .ge (lg_cmp a b) = true
    · have e : opV 4 a b = 0 := (show (if am_if .ge (lg_cmp a b) = true then (0 : Int64) else 1) = 0 from if_pos hc)
      rw [if_pos hc, e]
      exact ev_ret
    · have e : opV 4 a b = 1 := (show (if am_if .ge (lg_cmp a b) = true then (0 : Int64) else 1) = 1 from if_neg hc)
      rw [if_neg hc, e]
      exact ev_ret
  · rw [if_neg (show ¬ ((cdI (5, 0)).toInt < -22 ∨ -12 < (cdI (5, 0)).toInt) by decide), if_neg (show ¬ cdI (5, 0) = (-22) by decide), if_neg (show ¬ cdI (5, 0) = (-21) by decide), if_neg (show ¬ cdI (5, 0) = (-20) by decide), if_neg (show ¬ cdI (5, 0) = (-19) by decide), if_pos (show cdI (5, 0) = (-18) by decide)]
    by_cases hc : am_if .gt (lg_cmp a b) = true
    · have e : opV 5 a b = 0 := (show (if am_if .gt (lg_cmp a b) = true then (0 : Int64) else 1) = 0 from if_pos hc)
      rw [if_pos hc, e]
      exact ev_ret
    · have e : opV 5 a b = 1 := (show (if am_if .gt (lg_cmp a b) = true then (0 : Int64) else 1) = 1 from if_neg hc)
      rw [if_neg hc, e]
      exact ev_ret
  · rw [if_neg (show ¬ ((cdI (6, 0)).toInt < -22 ∨ -12 < (cdI (6, 0)).toInt) by decide), if_neg (show ¬ cdI (6, 0) = (-22) by decide), if_neg (show ¬ cdI (6, 0) = (-21) by decide), if_neg (show ¬ cdI (6, 0) = (-20) by decide), if_pos (show cdI (6, 0) = (-19) by decide)]
    by_cases hc : am_if .ne (lg_cmp a b) = true
    · have e : opV 6 a b = 0 := (show (if am_if .ne (lg_cmp a b) = true then (0 : Int64) else 1) = 0 from if_pos hc)
      rw [if_pos hc, e]
      exact ev_ret
    · have e : opV 6 a b = 1 := (show (if am_if .ne (lg_cmp a b) = true then (0 : Int64) else 1) = 1 from if_neg hc)
      rw [if_neg hc, e]
      exact ev_ret
  · rw [if_neg (show ¬ ((cdI (7, 0)).toInt < -22 ∨ -12 < (cdI (7, 0)).toInt) by decide), if_neg (show ¬ cdI (7, 0) = (-22) by decide), if_neg (show ¬ cdI (7, 0) = (-21) by decide), if_pos (show cdI (7, 0) = (-20) by decide)]
    by_cases hc : am_if .lt (lg_cmp a b) = true
    · have e : opV 7 a b = 0 := (show (if am_if .lt (lg_cmp a b) = true then (0 : Int64) else 1) = 0 from if_pos hc)
      rw [if_pos hc, e]
      exact ev_ret
    · have e : opV 7 a b = 1 := (show (if am_if .lt (lg_cmp a b) = true then (0 : Int64) else 1) = 1 from if_neg hc)
      rw [if_neg hc, e]
      exact ev_ret
  · rw [if_neg (show ¬ ((cdI (8, 0)).toInt < -22 ∨ -12 < (cdI (8, 0)).toInt) by decide), if_neg (show ¬ cdI (8, 0) = (-22) by decide), if_pos (show cdI (8, 0) = (-21) by decide)]
    by_cases hc : am_if .le (lg_cmp a b) = true
    · have e : opV 8 a b = 0 := (show (if am_if .le (lg_cmp a b) = true then (0 : Int64) else 1) = 0 from if_pos hc)
      rw [if_pos hc, e]
      exact ev_ret
    · have e : opV 8 a b = 1 := (show (if am_if .le (lg_cmp a b) = true then (0 : Int64) else 1) = 1 from if_neg hc)
      rw [if_neg hc, e]
      exact ev_ret
  · rw [if_neg (show ¬ ((cdI (10, 0)).toInt < -22 ∨ -12 < (cdI (10, 0)).toInt) by decide), if_pos (show cdI (10, 0) = (-22) by decide)]
    exact ev_ret
  · rw [if_pos (show ((cdI (11, 0)).toInt < -22 ∨ -12 < (cdI (11, 0)).toInt) by decide)]
    exact ev_ret
  · rw [if_neg (show ¬ ((cdI (13, 0)).toInt < -22 ∨ -12 < (cdI (13, 0)).toInt) by decide), if_neg (show ¬ cdI (13, 0) = (-22) by decide), if_neg (show ¬ cdI (13, 0) = (-21) by decide), if_neg (show ¬ cdI (13, 0) = (-20) by decide), if_neg (show ¬ cdI (13, 0) = (-19) by decide), if_neg (show ¬ cdI (13, 0) = (-18) by decide), if_neg (show ¬ cdI (13, 0) = (-17) by decide), if_neg (show ¬ cdI (13, 0) = (-16) by decide), if_neg (show ¬ cdI (13, 0) = (-15) by decide), if_pos (show cdI (13, 0) = (-14) by decide)]
    exact ev_ret
  · rw [if_neg (show ¬ ((cdI (14, 0)).toInt < -22 ∨ -12 < (cdI (14, 0)).toInt) by decide), if_neg (show ¬ cdI (14, 0) = (-22) by decide), if_neg (show ¬ cdI (14, 0) = (-21) by decide), if_neg (show ¬ cdI (14, 0) = (-20) by decide), if_neg (show ¬ cdI (14, 0) = (-19) by decide), if_neg (show ¬ cdI (14, 0) = (-18) by decide), if_neg (show ¬ cdI (14, 0) = (-17) by decide), if_neg (show ¬ cdI (14, 0) = (-16) by decide), if_pos (show cdI (14, 0) = (-15) by decide)]
    by_cases hc : am_if .ne (lg_cmp b 0) = true
    · have e : opV 14 a b = a / b := (show (if am_if .ne (lg_cmp b 0) = true then a / b else (0 : Int64)) = a / b from if_pos hc)
      rw [if_pos hc, if_neg (lg_nz hc), e]
      exact ev_ret
    · have e : opV 14 a b = 0 := (show (if am_if .ne (lg_cmp b 0) = true then a / b else (0 : Int64)) = 0 from if_neg hc)
      rw [if_neg hc, e]
      exact ev_ret
  · rw [if_neg (show ¬ ((cdI (15, 0)).toInt < -22 ∨ -12 < (cdI (15, 0)).toInt) by decide), if_neg (show ¬ cdI (15, 0) = (-22) by decide), if_neg (show ¬ cdI (15, 0) = (-21) by decide), if_neg (show ¬ cdI (15, 0) = (-20) by decide), if_neg (show ¬ cdI (15, 0) = (-19) by decide), if_neg (show ¬ cdI (15, 0) = (-18) by decide), if_neg (show ¬ cdI (15, 0) = (-17) by decide), if_pos (show cdI (15, 0) = (-16) by decide)]
    by_cases hc : am_if .ne (lg_cmp b 0) = true
    · have e : opV 15 a b = a - a / b * b := (show (if am_if .ne (lg_cmp b 0) = true then a - a / b * b else (0 : Int64)) = a - a / b * b from if_pos hc)
      rw [if_pos hc, if_neg (lg_nz hc), e]
      exact ev_ret
    · have e : opV 15 a b = 0 := (show (if am_if .ne (lg_cmp b 0) = true then a - a / b * b else (0 : Int64)) = 0 from if_neg hc)
      rw [if_neg hc, e]
      exact ev_ret
theorem f227 {x : Bool} {S : mS} : Ev (fun n => F227 n (b2i x) S) (if x = true then 1 else 0, S) := by
  refine ev_succ (fun n => F227e0 n ..) ?_
  unfold F227b0
  cases x with
  | true =>
    rw [if_neg (show ¬ am_if .eq (b2i true) = true by decide), if_pos rfl]
    exact ev_ret
  | false =>
    rw [if_pos (show am_if .eq (b2i false) = true by decide), if_neg (by decide)]
    exact ev_ret
theorem f226 {o : Nat} {a b : Int64} {S : mS} (ho : bop o) : Ev (fun n => F226 n (nI o) a b S) (opV o a b, S) := by
  refine ev_succ (fun n => F226e0 n ..) ?_
  unfold F226b0
  rcases bop_c ho with rfl | rfl | rfl | rfl | rfl | rfl | rfl | rfl | rfl | rfl | rfl | rfl
  · simp only [eq_false (show ¬ ((nI 2).toInt < 2 ∨ 15 < (nI 2).toInt) by decide), eq_true (show nI 2 = 2 by decide), if_true, if_false]
    exact ev_ret
  · simp only [eq_false (show ¬ ((nI 3).toInt < 2 ∨ 15 < (nI 3).toInt) by decide), eq_false (show ¬ nI 3 = 2 by decide), eq_true (show nI 3 = 3 by decide), if_true, if_false]
    exact ev_ret
  · simp only [eq_false (show ¬ ((nI 4).toInt < 2 ∨ 15 < (nI 4).toInt) by decide), eq_false (show ¬ nI 4 = 2 by decide), eq_false (show ¬ nI 4 = 3 by decide), eq_true (show nI 4 = 4 by decide), if_true, if_false]
    by_cases hc : am_if .ge (lg_cmp a b) = true
    · have e : opV 4 a b = 0 := (show (if am_if .ge (lg_cmp a b) = true then (0 : Int64) else 1) = 0 from if_pos hc)
      simp only [hc, if_true]
      rw [e]
      exact ev_bind (f227 (x := false)) ev_ret
    · have e : opV 4 a b = 1 := (show (if am_if .ge (lg_cmp a b) = true then (0 : Int64) else 1) = 1 from if_neg hc)
      simp only [hc, Bool.false_eq_true, if_false]
      rw [e]
      exact ev_bind (f227 (x := true)) ev_ret
  · simp only [eq_false (show ¬ ((nI 5).toInt < 2 ∨ 15 < (nI 5).toInt) by decide), eq_false (show ¬ nI 5 = 2 by decide), eq_false (show ¬ nI 5 = 3 by decide), eq_false (show ¬ nI 5 = 4 by decide), eq_true (show nI 5 = 5 by decide), if_true, if_false]
    by_cases hc : am_if .gt (lg_cmp a b) = true
    · have e : opV 5 a b = 0 := (show (if am_if .gt (lg_cmp a b) = true then (0 : Int64) else 1) = 0 from if_pos hc)
      simp only [hc, if_true]
      rw [e]
      exact ev_bind (f227 (x := false)) ev_ret
    · have e : opV 5 a b = 1 := (show (if am_if .gt (lg_cmp a b) = true then (0 : Int64) else 1) = 1 from if_neg hc)
      simp only [hc, Bool.false_eq_true, if_false]
      rw [e]
      exact ev_bind (f227 (x := true)) ev_ret
  · simp only [eq_false (show ¬ ((nI 6).toInt < 2 ∨ 15 < (nI 6).toInt) by decide), eq_false (show ¬ nI 6 = 2 by decide), eq_false (show ¬ nI 6 = 3 by decide), eq_false (show ¬ nI 6 = 4 by decide), eq_false (show ¬ nI 6 = 5 by decide), eq_true (show nI 6 = 6 by decide), if_true, if_false]
    by_cases hc : am_if .ne (lg_cmp a b) = true
    · have e : opV 6 a b = 0 := (show (if am_if .ne (lg_cmp a b) = true then (0 : Int64) else 1) = 0 from if_pos hc)
      simp only [hc, if_true]
      rw [e]
      exact ev_bind (f227 (x := false)) ev_ret
    · have e : opV 6 a b = 1 := (show (if am_if .ne (lg_cmp a b) = true then (0 : Int64) else 1) = 1 from if_neg hc)
      simp only [hc, Bool.false_eq_true, if_false]
      rw [e]
      exact ev_bind (f227 (x := true)) ev_ret
  · simp only [eq_false (show ¬ ((nI 7).toInt < 2 ∨ 15 < (nI 7).toInt) by decide), eq_false (show ¬ nI 7 = 2 by decide), eq_false (show ¬ nI 7 = 3 by decide), eq_false (show ¬ nI 7 = 4 by decide), eq_false (show ¬ nI 7 = 5 by decide), eq_false (show ¬ nI 7 = 6 by decide), eq_true (show nI 7 = 7 by decide), if_true, if_false]
    by_cases hc : am_if .lt (lg_cmp a b) = true
    · have e : opV 7 a b = 0 := (show (if am_if .lt (lg_cmp a b) = true then (0 : Int64) else 1) = 0 from if_pos hc)
      simp only [hc, if_true]
      rw [e]
      exact ev_bind (f227 (x := false)) ev_ret
    · have e : opV 7 a b = 1 := (show (if am_if .lt (lg_cmp a b) = true then (0 : Int64) else 1) = 1 from if_neg hc)
      simp only [hc, Bool.false_eq_true, if_false]
      rw [e]
      exact ev_bind (f227 (x := true)) ev_ret
  · simp only [eq_false (show ¬ ((nI 8).toInt < 2 ∨ 15 < (nI 8).toInt) by decide), eq_false (show ¬ nI 8 = 2 by decide), eq_false (show ¬ nI 8 = 3 by decide), eq_false (show ¬ nI 8 = 4 by decide), eq_false (show ¬ nI 8 = 5 by decide), eq_false (show ¬ nI 8 = 6 by decide), eq_false (show ¬ nI 8 = 7 by decide), eq_true (show nI 8 = 8 by decide), if_true, if_false]
    by_cases hc : am_if .le (lg_cmp a b) = true
    · have e : opV 8 a b = 0 := (show (if am_if .le (lg_cmp a b) = true then (0 : Int64) else 1) = 0 from if_pos hc)
      simp only [hc, if_true]
      rw [e]
      exact ev_bind (f227 (x := false)) ev_ret
    · have e : opV 8 a b = 1 := (show (if am_if .le (lg_cmp a b) = true then (0 : Int64) else 1) = 1 from if_neg hc)
      simp only [hc, Bool.false_eq_true, if_false]
      rw [e]
      exact ev_bind (f227 (x := true)) ev_ret
  · simp only [eq_false (show ¬ ((nI 10).toInt < 2 ∨ 15 < (nI 10).toInt) by decide), eq_false (show ¬ nI 10 = 2 by decide), eq_false (show ¬ nI 10 = 3 by decide), eq_false (show ¬ nI 10 = 4 by decide), eq_false (show ¬ nI 10 = 5 by decide), eq_false (show ¬ nI 10 = 6 by decide), eq_false (show ¬ nI 10 = 7 by decide), eq_false (show ¬ nI 10 = 8 by decide), eq_false (show ¬ nI 10 = 9 by decide), eq_true (show nI 10 = 10 by decide), if_true, if_false]
    exact ev_ret
  · simp only [eq_false (show ¬ ((nI 11).toInt < 2 ∨ 15 < (nI 11).toInt) by decide), eq_false (show ¬ nI 11 = 2 by decide), eq_false (show ¬ nI 11 = 3 by decide), eq_false (show ¬ nI 11 = 4 by decide), eq_false (show ¬ nI 11 = 5 by decide), eq_false (show ¬ nI 11 = 6 by decide), eq_false (show ¬ nI 11 = 7 by decide), eq_false (show ¬ nI 11 = 8 by decide), eq_false (show ¬ nI 11 = 9 by decide), eq_false (show ¬ nI 11 = 10 by decide), eq_true (show nI 11 = 11 by decide), if_true, if_false]
    exact ev_ret
  · simp only [eq_false (show ¬ ((nI 13).toInt < 2 ∨ 15 < (nI 13).toInt) by decide), eq_false (show ¬ nI 13 = 2 by decide), eq_false (show ¬ nI 13 = 3 by decide), eq_false (show ¬ nI 13 = 4 by decide), eq_false (show ¬ nI 13 = 5 by decide), eq_false (show ¬ nI 13 = 6 by decide), eq_false (show ¬ nI 13 = 7 by decide), eq_false (show ¬ nI 13 = 8 by decide), eq_false (show ¬ nI 13 = 9 by decide), eq_false (show ¬ nI 13 = 10 by decide), eq_false (show ¬ nI 13 = 11 by decide), eq_false (show ¬ nI 13 = 12 by decide), eq_true (show nI 13 = 13 by decide), if_true, if_false]
    exact ev_ret
  · simp only [eq_false (show ¬ ((nI 14).toInt < 2 ∨ 15 < (nI 14).toInt) by decide), eq_false (show ¬ nI 14 = 2 by decide), eq_false (show ¬ nI 14 = 3 by decide), eq_false (show ¬ nI 14 = 4 by decide), eq_false (show ¬ nI 14 = 5 by decide), eq_false (show ¬ nI 14 = 6 by decide), eq_false (show ¬ nI 14 = 7 by decide), eq_false (show ¬ nI 14 = 8 by decide), eq_false (show ¬ nI 14 = 9 by decide), eq_false (show ¬ nI 14 = 10 by decide), eq_false (show ¬ nI 14 = 11 by decide), eq_false (show ¬ nI 14 = 12 by decide), eq_false (show ¬ nI 14 = 13 by decide), eq_true (show nI 14 = 14 by decide), if_true, if_false]
    by_cases hc : am_if .ne (lg_cmp b 0) = true
    · have e : opV 14 a b = a / b := (show (if am_if .ne (lg_cmp b 0) = true then a / b else (0 : Int64)) = a / b from if_pos hc)
      simp only [hc, lg_nz hc, if_true, if_false]
      rw [e]
      exact ev_ret
    · have e : opV 14 a b = 0 := (show (if am_if .ne (lg_cmp b 0) = true then a / b else (0 : Int64)) = 0 from if_neg hc)
      simp only [hc, Bool.false_eq_true, if_false]
      rw [e]
      exact ev_ret
  · simp only [eq_false (show ¬ ((nI 15).toInt < 2 ∨ 15 < (nI 15).toInt) by decide), eq_false (show ¬ nI 15 = 2 by decide), eq_false (show ¬ nI 15 = 3 by decide), eq_false (show ¬ nI 15 = 4 by decide), eq_false (show ¬ nI 15 = 5 by decide), eq_false (show ¬ nI 15 = 6 by decide), eq_false (show ¬ nI 15 = 7 by decide), eq_false (show ¬ nI 15 = 8 by decide), eq_false (show ¬ nI 15 = 9 by decide), eq_false (show ¬ nI 15 = 10 by decide), eq_false (show ¬ nI 15 = 11 by decide), eq_false (show ¬ nI 15 = 12 by decide), eq_false (show ¬ nI 15 = 13 by decide), eq_false (show ¬ nI 15 = 14 by decide), eq_true (show nI 15 = 15 by decide), if_true, if_false]
    by_cases hc : am_if .ne (lg_cmp b 0) = true
    · have e : opV 15 a b = a - a / b * b := (show (if am_if .ne (lg_cmp b 0) = true then a - a / b * b else (0 : Int64)) = a - a / b * b from if_pos hc)
      simp only [hc, lg_nz hc, if_true, if_false]
      rw [e]
      exact ev_ret
    · have e : opV 15 a b = 0 := (show (if am_if .ne (lg_cmp b 0) = true then a - a / b * b else (0 : Int64)) = 0 from if_neg hc)
      simp only [hc, Bool.false_eq_true, if_false]
      rw [e]
      exact ev_ret
/-- a stack in a row -/
def StR (row : Nat → Int64) : List Int64 → Prop
  | [] => True
  | v :: s => row s.length = v ∧ StR row s
theorem StR_fr {row row' : Nat → Int64} : ∀ (st : List Int64), StR row st → (∀ k, k < st.length → row' k = row k) → StR row' st
  | [], _, _ => trivial
  | v :: s, h, e => ⟨(e s.length (show s.length < s.length + 1 by omega)).trans h.1, StR_fr s h.2 (fun k hk => e k (show k < s.length + 1 by omega))⟩
theorem nI_p1 (k : Nat) : nI k + 1 = nI (k + 1) := by rw [← nI_add]; rfl
theorem nI_m1 (k : Nat) : nI (k + 1) + (-1) = nI k := nI_an (a := k + 1) (b := 1) (by omega)
theorem nI_s1 (k : Nat) : nI (k + 1) - 1 = nI k := nI_subN (a := k + 1) (b := 1) (by omega)
theorem gdN {c N : Nat} (h : c < N) (hN : N < 2 ^ 31) : (nI c < 0 ∨ N ≤ c) = False := by
  have := gdF h hN
  rw [nI_clamp (by omega)] at this
  exact this
theorem cd_0 {c : Nat} (h : c ≤ 99999) : am_ic .le (nI c) (-12) = false ∧ am_ic .lt ((-1) - nI c) 11 = true ∧ am_if .lt (nI c) = false := by
  have t : (nI c).toInt = c := nI_toInt (by omega)
  refine ⟨?_, ?_, ?_⟩
  · show decide (nI c ≤ -12) = false
    refine decide_eq_false (fun z => ?_)
    rw [Int32.le_iff_toInt_le, t, show (-12 : Int32).toInt = -12 by decide] at z
    omega
  · show decide ((-1) - nI c < 11) = true
    refine decide_eq_true ?_
    rw [Int32.lt_iff_toInt_lt, Int32.toInt_sub, t, show (-1 : Int32).toInt = -1 by decide, show (11 : Int32).toInt = 11 by decide, Int.bmod_eq_of_le (by omega) (by omega)]
    omega
  · show decide (nI c < 0) = false
    refine decide_eq_false (fun z => ?_)
    rw [Int32.lt_iff_toInt_lt, t, show (0 : Int32).toInt = 0 by decide] at z
    omega
theorem cd_1 {w : Nat} (h : w < 11) : am_ic .le (cdI (1, w)) (-12) = false ∧ am_ic .lt ((-1) - cdI (1, w)) 11 = true ∧ am_if .lt (cdI (1, w)) = true ∧ (-1) - cdI (1, w) = nI w := (by decide : ∀ w, w < 11 → am_ic .le (cdI (1, w)) (-12) = false ∧ am_ic .lt ((-1) - cdI (1, w)) 11 = true ∧ am_if .lt (cdI (1, w)) = true ∧ (-1) - cdI (1, w) = nI w) w h
theorem cd_2 {o : Nat} (h : o < 16) (h2 : 2 ≤ o) : am_ic .le (cdI (o, 0)) (-12) = true ∧ am_ic .ne (cdI (o, 0)) (-24) = !decide (o = 9 ∨ o = 12) := (by decide : ∀ o, o < 16 → 2 ≤ o → am_ic .le (cdI (o, 0)) (-12) = true ∧ am_ic .ne (cdI (o, 0)) (-24) = !decide (o = 9 ∨ o = 12)) o h h2
theorem getD_0 {t : TK} {ts : List TK} : (t :: ts).getD 0 (0, 0) = t := rfl
theorem getD_s {t : TK} {ts : List TK} {k : Nat} : (t :: ts).getD (k + 1) (0, 0) = ts.getD k (0, 0) := rfl
theorem g96l {q ln : Nat} {x : Nat → Int64} (hln : ln ≤ 400) : ∀ (ts : List TK) (st : List Int64) (a : Nat) (v : Int64) (T : xS), okc ts st.length 1 → st.length ≤ 60 → stk x ts st = [v] → a + ts.length = ln → (∀ k, k < ts.length → T.2.1 (q + 1) (a + k) = cdI (ts.getD k (0, 0))) → (∀ k, k < 11 → T.2.2.1 121 k = x k) → StR (T.2.2.1 122) st → ∃ y, Ev (fun n => G96f q ln n 5 (nI st.length) (nI a) T) (b2i (!decide (v = 0)), (T.1, T.2.1, y, T.2.2.2))
  | [], st, a, v, T, hk, h60, hs, ha, hr, hx, hS => by
    have hs : st = [v] := hs
    subst hs
    have ha : a = ln := ha
    subst ha
    have e1 : am_ic .ge (nI a) (Int32.ofNat a) = true := by
      have := ic_ge (a := a) (b := a) (by omega) (by omega)
      rw [decide_eq_true (Nat.le_refl _)] at this
      exact this
    have e2 : am_ic .ne (nI 1) 1 = false := by decide
    have e3 : T.2.2.1 122 0 = v := hS.1
    refine ⟨T.2.2.1, ev_succ (fun n => G96e5 q a n ..) ?_⟩
    show Ev (fun n => G96b5 q a (G96f q a n) n (nI 1) (nI a) T) _
    simp only [G96b5, e1, e2, e3, if_true, Bool.false_eq_true, if_false]
    by_cases hv : v = 0
    · subst hv
      have e4 : am_if .eq (lg_cmp 0 0) = true := by decide
      simp only [e4, if_true]
      exact ev_ret
    · have e4 : am_if .eq (lg_cmp v 0) = false := by
        show decide (lg_cmp v 0 = 0) = false
        exact decide_eq_false (fun z => hv ((lg_cmp_eq v 0).mp z))
      simp only [e4, Bool.false_eq_true, if_false, hv, decide_false, Bool.not_false]
      exact ev_ret
  | t :: ts, st, a, v, T, hk, h60, hs, ha, hr, hx, hS => by
    obtain ⟨⟨t15, t12, t0, t1, t2⟩, hk⟩ := hk
    have ha : a + (ts.length + 1) = ln := ha
    have hs : stk x ts (st1 x t st) = [v] := hs
    have er : T.2.1 (q + 1) a = cdI t := hr 0 (show 0 < ts.length + 1 by omega)
    have hr' : ∀ k, k < ts.length → T.2.1 (q + 1) (a + 1 + k) = cdI (ts.getD k (0, 0)) := fun k hk => by
      have := hr (k + 1) (show k + 1 < ts.length + 1 by omega)
      rw [getD_s] at this
      rw [show a + 1 + k = a + (k + 1) by omega]
      exact this
    have e1 : am_ic .ge (nI a) (Int32.ofNat ln) = false := by
      have := ic_ge (a := a) (b := ln) (by omega) (by omega)
      rw [decide_eq_false (by omega)] at this
      exact this
    have g1 : (nI a < 0 ∨ ln ≤ a) = False := gdN (by omega) (by omega)
    have e2 : Int32.toNatClampNeg (nI a) = a := nI_clamp (by omega)
    by_cases c1 : t.1 ≤ 1
    · rw [if_pos c1] at hk
      obtain ⟨h59, hk⟩ := hk
      have e60 : am_ic .ge (nI st.length) 60 = false := by
        have := ic_ge (a := st.length) (b := 60) (by omega) (by decide)
        rw [decide_eq_false (by omega)] at this
        exact this
      have g2 : (nI st.length < 0 ∨ 60 ≤ st.length) = False := gdN h59 (by decide)
      have e3 : Int32.toNatClampNeg (nI st.length) = st.length := nI_clamp (by omega)
      have push : ∀ w : Int64, st1 x t st = w :: st → ∃ y, Ev (fun n => G96f q ln n 5 (nI (st.length + 1)) (nI (a + 1)) (x_sL T 122 st.length w)) (b2i (!decide (v = 0)), (T.1, T.2.1, y, T.2.2.2)) := fun w hw => by
        rw [hw] at hs
        exact g96l hln ts (w :: st) (a + 1) v (x_sL T 122 st.length w) hk (show st.length + 1 ≤ 60 by omega) hs (by omega) hr' (fun k hk => by rw [x_rLn (by decide)]; exact hx k hk) ⟨x_rLe, StR_fr st hS (fun k hk => x_rLi (by omega))⟩
      by_cases c0 : t.1 = 0
      · obtain ⟨u, c⟩ := t
        have c0 : u = 0 := c0
        subst c0
        have hc : c ≤ 99999 := t0 rfl
        obtain ⟨k1, k2, k3⟩ := cd_0 hc
        have er : T.2.1 (q + 1) a = nI c := er
        obtain ⟨y, hy⟩ := push (Int32.toInt64 (nI c)) rfl
        refine ⟨y, ev_succ (fun n => G96e5 q ln n ..) ?_⟩
        simp only [G96b5, e1, e2, er, k1, k2, k3, e60, e3, g1, g2, not_false_eq_true, Bool.false_eq_true, if_false, if_true]
        simp only [Option.bind_some, nI_p1]
        exact hy
      · obtain ⟨u, c⟩ := t
        have c0 : u = 1 := by
          have c0 : ¬ u = 0 := c0
          have c1 : u ≤ 1 := c1
          omega
        subst c0
        have hc : c < 11 := t1 rfl
        obtain ⟨k1, k2, k3, k4⟩ := cd_1 hc
        obtain ⟨y, hy⟩ := push (x c) rfl
        have g3 : (nI c < 0 ∨ 11 ≤ c) = False := gdN hc (by decide)
        have e4 : Int32.toNatClampNeg (nI c) = c := nI_clamp (by omega)
        have e5 : T.2.2.1 121 c = x c := hx c hc
        have k2' : am_ic .lt (nI c) 11 = true := by rw [← k4]; exact k2
        refine ⟨y, ev_succ (fun n => G96e5 q ln n ..) ?_⟩
        simp only [G96b5, e1, e2, er, k1, k3, k4, k2', e60, e3, e4, e5, g1, g3, g2, not_false_eq_true, Bool.false_eq_true, if_false, if_true]
        simp only [Option.bind_some, nI_p1]
        exact hy
    · rw [if_neg c1] at hk
      obtain ⟨o, c⟩ := t
      have c1 : ¬ o ≤ 1 := c1
      have hc0 : c = 0 := t2 (show 2 ≤ o by omega)
      subst hc0
      have t15 : o ≤ 15 := t15
      have t12 : o ≠ 12 := t12
      obtain ⟨k1, k2⟩ := cd_2 (o := o) (by omega) (by omega)
      by_cases c9 : o = 9
      · rw [if_pos c9] at hk
        obtain ⟨hh, hk⟩ := hk
        subst c9
        match st, hh, h60, hk, hs, hS with
        | w :: s, hh, h60, hk, hs, hS =>
          have h60 : s.length + 1 ≤ 60 := h60
          have hk : okc ts (s.length + 1) 1 := hk
          have hs : stk x ts ((1 - w) :: s) = [v] := hs
          obtain ⟨y, hy⟩ := g96l hln ts ((1 - w) :: s) (a + 1) v (x_sL T 122 s.length (1 - w)) hk h60 hs (by omega) hr' (fun k hk => by rw [x_rLn (by decide)]; exact hx k hk) ⟨x_rLe, StR_fr s hS.2 (fun k hk => x_rLi (by omega))⟩
          have e3 : am_ic .ge (nI (s.length + 1)) 1 = true := by
            have := ic_ge (a := s.length + 1) (b := 1) (by omega) (by decide)
            rw [decide_eq_true (by omega)] at this
            exact this
          have k2 : am_ic .ne (cdI (9, 0)) (-24) = false := by decide
          have g2 : (nI s.length < 0 ∨ 60 ≤ s.length) = False := gdN (by omega) (by decide)
          have e4 : Int32.toNatClampNeg (nI s.length) = s.length := nI_clamp (by omega)
          have e5 : T.2.2.1 122 s.length = w := hS.1
          refine ⟨y, ev_succ (fun n => G96e5 q ln n ..) ?_⟩
          show Ev (fun n => G96b5 q ln (G96f q ln n) n (nI (s.length + 1)) (nI a) T) _
          simp only [G96b5, e1, e2, er, k1, k2, e3, nI_s1, e4, e5, g1, g2, not_false_eq_true, Bool.false_eq_true, if_false, if_true]
          simp only [Option.bind_some, nI_p1]
          exact hy
      · rw [if_neg c9] at hk
        obtain ⟨hh, hk⟩ := hk
        match st, hh, h60, hk, hs, hS with
        | w2 :: w1 :: s, hh, h60, hk, hs, hS =>
          have h60 : s.length + 1 + 1 ≤ 60 := h60
          have hk : okc ts (s.length + 1) 1 := hk
          have bo : bop o := ⟨by omega, t15, c9, t12⟩
          have es : st1 x (o, 0) (w2 :: w1 :: s) = opV o w1 w2 :: s := stk_op bo
          rw [es] at hs
          obtain ⟨y, hy⟩ := g96l hln ts (opV o w1 w2 :: s) (a + 1) v (x_sL T 122 s.length (opV o w1 w2)) hk (show s.length + 1 ≤ 60 by omega) hs (by omega) hr' (fun k hk => by rw [x_rLn (by decide)]; exact hx k hk) ⟨x_rLe, StR_fr s hS.2.2 (fun k hk => x_rLi (by omega))⟩
          have e3 : am_ic .ge (nI (s.length + 1 + 1)) 2 = true := by
            have := ic_ge (a := s.length + 1 + 1) (b := 2) (by omega) (by decide)
            rw [decide_eq_true (by omega)] at this
            exact this
          have k2 : am_ic .ne (cdI (o, 0)) (-24) = true := by rw [k2, decide_eq_false (by omega)]; rfl
          have g2 : (nI s.length < 0 ∨ 60 ≤ s.length) = False := gdN (by omega) (by decide)
          have g3 : (nI (s.length + 1) < 0 ∨ 60 ≤ (s.length + 1)) = False := gdN (by omega) (by decide)
          have e4 : Int32.toNatClampNeg (nI s.length) = s.length := nI_clamp (by omega)
          have e4' : Int32.toNatClampNeg (nI (s.length + 1)) = s.length + 1 := nI_clamp (by omega)
          have e5 : T.2.2.1 122 s.length = w1 := hS.2.1
          have e6 : T.2.2.1 122 (s.length + 1) = w2 := hS.1
          refine ⟨y, ev_succ (fun n => G96e5 q ln n ..) ?_⟩
          show Ev (fun n => G96b5 q ln (G96f q ln n) n (nI (s.length + 1 + 1)) (nI a) T) _
          simp only [G96b5, e1, e2, er, k1, k2, e3, nI_m1, nI_s1, e4, e4', e5, e6, g1, g2, g3, not_false_eq_true, Bool.false_eq_true, if_false, if_true]
          refine ev_bind (g97 bo) ?_
          simp only [Option.bind_some, nI_p1]
          exact hy
