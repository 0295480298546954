/-! the two objects as they are made: a closed run -/
def am_X0 : Nat → va_E := fun p => if p = 0 then .inr (99, []) else am_X (fun _ => 0) 0 p
theorem am_X0_ok (xs : Nat → Int32) (L p : Nat) : am_X0 p = am_X xs L p ∨ am_X0 p = .inr (99, []) := by
  unfold am_X0
  by_cases h : p = 0
  · rw [if_pos h]; exact Or.inr rfl
  · rw [if_neg h]
    refine Or.inl ?_
    unfold am_X
    rw [if_neg h, if_neg h]
def am_hA : AmH := am_pu am_h0 (.inr (11, [.null, .null, .null, .null, .int 0, .null, .null, .null, .null, .null])) 10
def am_r1 : Option (Option Value × AmH) := am am_X0 3000 20 0 0 (am_en 0 [.ref 64]) [] am_hA
def am_gh (r : Option (Option Value × AmH)) : AmH := match r with
  | some (_, h) => h
  | none => am_h0
def am_nn (r : Option (Option Value × AmH)) : Bool := match r with
  | some (none, _) => true
  | _ => false
theorem am_nn_ok {r : Option (Option Value × AmH)} (h : am_nn r = true) : r = some (none, am_gh r) := by
  unfold am_nn at h
  split at h
  · rfl
  · cases h
def am_hB : AmH := am_gh am_r1
def am_hC : AmH := am_pu am_hB (.inr (12, [.int 0, .null, .null, .null, .null, .null, .null, .null, .null, .null, .null, .null, .null, .null, .null, .null, .null, .null, .null, .null, .null, .null, .null, .null, .null, .null, .int 0, .int 0, .int 0, .int 0, .int 0, .int 0, .int 0, .int 0, .int 0, .int 0, .null, .null, .null, .null, .null, .null, .null, .null, .null, .null, .null, .int 0, .int 0, .int 0, .null, .null, .null, .int 0, .null, .null, .int 0, .int 0])) 58
def am_r2 : Option (Option Value × AmH) := am am_X0 3000 20 153 0 (am_en 153 [.ref 130]) [] am_hC
def am_hI : AmH := am_gh am_r2
/-- what a cell is, without its contents -/
def am_sm (e : va_E) : Nat × Nat × List Value := match e with
  | .inr q => (q.1, 0, q.2)
  | .inl (t, n, .inl _) => (t, n + 1, [])
  | .inl (t, n, .inr (.inl _)) => (t, n + 1, [.long 0])
  | .inl (t, n, .inr (.inr (.inr (.inr _)))) => (t, n + 1, [.null])
  | _ => (99, 0, [.int 1])
def am_fn (e : va_E) : Nat → Int32 := match e with
  | .inl (_, _, .inl f) => f
  | _ => fun _ => 0
def am_fl (e : va_E) : Nat → Int64 := match e with
  | .inl (_, _, .inr (.inl f)) => f
  | _ => fun _ => 0
def am_fq (e : va_E) : Nat → Option Nat := match e with
  | .inl (_, _, .inr (.inr (.inr (.inr f)))) => f
  | _ => fun _ => none
theorem am_sm_o {e : va_E} {ci : Nat} {fs : List Value} (h : am_sm e = (ci, 0, fs)) (hc : ci ≠ 99) : e = .inr (ci, fs) := by
  unfold am_sm at h
  split at h
  · cases h; rfl
  · cases h
  · cases h
  · cases h
  · cases h; exact absurd rfl hc
theorem am_sm_i {e : va_E} {t n : Nat} (h : am_sm e = (t, n + 1, [])) : e = .inl (t, n, .inl (am_fn e)) := by
  unfold am_sm at h
  split at h
  · cases h
  · cases h; rfl
  · cases h
  · cases h
  · cases h
theorem am_sm_l {e : va_E} {t n : Nat} (h : am_sm e = (t, n + 1, [.long 0])) : e = .inl (t, n, .inr (.inl (am_fl e))) := by
  unfold am_sm at h
  split at h
  · cases h
  · cases h
  · cases h; rfl
  · cases h
  · cases h
theorem am_sm_q {e : va_E} {t n : Nat} (h : am_sm e = (t, n + 1, [.null])) : e = .inl (t, n, .inr (.inr (.inr (.inr (am_fq e))))) := by
  unfold am_sm at h
  split at h
  · cases h
  · cases h
  · cases h
  · cases h; rfl
  · cases h
def am_tI : List (Nat × Nat × List Value) := [
  (11, 0, [.ref 65, .ref 67, .ref 85, .ref 87, .int (0), .ref 88, .ref 108, .ref 109, .ref 123, .ref 125]),
  (8, 0, [.ref 66, .int (0), .int (0), .int (0), .int (0)]),
  (0, 401, []),
  (5, 0, [.ref 68, .ref 74]),
  (0, 0, [.int (0), .int (0), .int (0), .ref 69, .ref 70, .ref 71, .ref 72, .ref 73]),
  (0, 17, []),
  (0, 17, []),
  (0, 17, []),
  (0, 17, []),
  (0, 7, []),
  (9, 0, [.int (0), .int (0), .int (0), .ref 75, .ref 76, .ref 77, .ref 78, .ref 79, .ref 80, .ref 81, .ref 82, .ref 83, .ref 84]),
  (0, 14, []),
  (0, 14, []),
  (0, 14, []),
  (0, 14, []),
  (0, 14, []),
  (0, 14, []),
  (0, 14, []),
  (0, 14, []),
  (0, 17, []),
  (0, 7, []),
  (6, 0, [.ref 86, .int (0), .int (0)]),
  (0, 401, []),
  (4, 7, [.null]),
  (10, 0, [.ref 89, .ref 95, .ref 106, .int (-1), .int (0)]),
  (0, 0, [.int (0), .int (0), .int (0), .ref 90, .ref 91, .ref 92, .ref 93, .ref 94]),
  (0, 17, []),
  (0, 17, []),
  (0, 17, []),
  (0, 17, []),
  (0, 7, []),
  (9, 0, [.int (0), .int (0), .int (0), .ref 96, .ref 97, .ref 98, .ref 99, .ref 100, .ref 101, .ref 102, .ref 103, .ref 104, .ref 105]),
  (0, 14, []),
  (0, 14, []),
  (0, 14, []),
  (0, 14, []),
  (0, 14, []),
  (0, 14, []),
  (0, 14, []),
  (0, 14, []),
  (0, 17, []),
  (0, 7, []),
  (4, 0, [.ref 107, .int (0), .int (0)]),
  (5, 21, [.null]),
  (6, 5, [.null]),
  (7, 0, [.ref 110, .ref 121, .ref 122, .null, .ref 110, .null, .int (0), .int (0), .int (0)]),
  (9, 0, [.int (0), .int (0), .int (0), .ref 111, .ref 112, .ref 113, .ref 114, .ref 115, .ref 116, .ref 117, .ref 118, .ref 119, .ref 120]),
  (0, 14, []),
  (0, 14, []),
  (0, 14, []),
  (0, 14, []),
  (0, 14, []),
  (0, 14, []),
  (0, 14, []),
  (0, 14, []),
  (0, 17, []),
  (0, 7, []),
  (1, 12, [.long 0]),
  (1, 61, [.long 0]),
  (2, 0, [.ref 124, .int (0)]),
  (0, 290, []),
  (3, 0, [.ref 126, .ref 127, .ref 128, .ref 129, .int (0)]),
  (0, 9, []),
  (0, 9, []),
  (0, 9, []),
  (0, 2049, []),
  (12, 0, [.int (0), .ref 131, .ref 132, .ref 133, .ref 134, .ref 135, .ref 136, .ref 137, .ref 138, .ref 139, .ref 140, .ref 141, .ref 142, .ref 143, .ref 144, .ref 145, .ref 146, .ref 147, .ref 148, .ref 149, .ref 150, .ref 151, .ref 152, .ref 153, .ref 154, .ref 155, .int (0), .int (0), .int (0), .int (0), .int (0), .int (0), .int (0), .int (0), .int (0), .int (11), .ref 156, .ref 157, .ref 158, .ref 159, .ref 160, .ref 161, .ref 162, .ref 163, .ref 164, .ref 165, .ref 166, .int (0), .int (0), .int (0), .ref 167, .ref 168, .ref 169, .int (0), .ref 170, .ref 171, .int (0), .int (0)]),
  (0, 10, []),
  (0, 17, []),
  (0, 17, []),
  (0, 7, []),
  (0, 7, []),
  (0, 7, []),
  (0, 5, []),
  (0, 14, []),
  (0, 14, []),
  (0, 14, []),
  (0, 14, []),
  (0, 14, []),
  (0, 14, []),
  (0, 14, []),
  (0, 14, []),
  (0, 6, []),
  (0, 17, []),
  (0, 17, []),
  (0, 7, []),
  (0, 7, []),
  (0, 5, []),
  (0, 14, []),
  (0, 14, []),
  (0, 14, []),
  (0, 14, []),
  (2, 401, []),
  (0, 1801, []),
  (0, 1801, []),
  (0, 7, []),
  (0, 73, []),
  (0, 73, []),
  (0, 403, []),
  (1, 12, [.long 0]),
  (1, 301, [.long 0]),
  (0, 2281, []),
  (0, 2, []),
  (0, 10, []),
  (0, 10, []),
  (0, 22, []),
  (0, 12501, []),
  (3, 5, [])]
def am_okI : Bool := am_nn am_r1 && am_nn am_r2 && decide (am_hB.2 = (130, 3879)) && decide (am_hI.2 = (172, 23896)) && (List.range 108).all (fun i => decide (am_sm (am_hI.1 (64 + i)) = am_tI.getD i (0, 0, []))) && (List.range 108).all (fun i => (List.range (am_tI.getD i (0, 0, [])).2.1).all (fun j => decide (am_fn (am_hI.1 (64 + i)) j = if 64 + i = 131 ∧ j = 8 then -1 else 0) && decide (am_fl (am_hI.1 (64 + i)) j = 0) && decide (am_fq (am_hI.1 (64 + i)) j = none)))
theorem am_okI_t : am_okI = true := by decide +kernel
