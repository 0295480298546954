/-- what stands ahead of the run: 0 the script, 1 the powers of ten, from 2 on the texts and their bytes -/
def am_X (xs : Nat → Int32) (L : Nat) : Nat → va_E := fun p =>
  if p = 0 then .inl (0, L, .inl xs) else
  if p = 1 then .inl (0, 9, .inl (fun j => ([1, 10, 100, 1000, 10000, 100000, 1000000, 10000000, 100000000] : List Int32).getD j 0)) else
  if p < 2 + 2 * am_tx.length then (if p % 2 = 0 then .inr (13, [.ref (p + 1), .int 0]) else .inl (2, (am_tx.getD ((p - 2) / 2) []).length, .inl (fun j => (am_tx.getD ((p - 2) / 2) []).getD j 0))) else
  .inr (99, [])
def am_h0 : AmH := (fun _ => .inr (99, []), 64, 0)
def am_law (n : Nat) (xs : List Int32) : Option (Option Value × AmH) := am (am_X (fun j => xs.getD j 0) xs.length) n 20 267 0 (am_en 267 [.ref 0]) [] am_h0
def am_ans (r : Option (Option Value × AmH)) : Option (Value × Nat × Nat) := match r with
  | some (some v, h) => some (v, h.2.1, h.2.2)
  | _ => none
