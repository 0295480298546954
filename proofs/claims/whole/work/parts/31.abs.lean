/-! the state of the document: waters, beds, worlds -/
structure AW where
  n : Nat
  day : Nat
  sh : Int32
  pl : Nat → Nat
  tx : Nat → Nat
  wt : Nat → Nat
  ft : Nat → Nat
  hd : Nat → Int32
  lf : Nat → Int32
  ms : Nat → Nat
  pr : Nat → Nat
structure AB where
  c : Nat
  m : Nat
  d : Nat
  fl : Nat → Option Nat
  ed : Nat → Nat
  ma : Nat → Nat
  ml : Nat → Nat
  da : Nat → Nat
structure AD where
  b : AB
  w : AW
  ps : List AW
  fc : Option Nat
  sd : Nat
/-- the first k below n with f k = x -/
def idx (f : Nat → Nat) (x : Nat) : Nat → Nat → Option Nat
  | 0, _ => none
  | m + 1, j => if f j = x then some j else idx f x m (j + 1)
def oI : Option Nat → Int32
  | none => -1
  | some k => nI k
/-- how many of the first m have one -/
def cnt (f : Nat → Nat) : Nat → Nat
  | 0 => 0
  | m + 1 => cnt f m + (if f m = 0 then 0 else 1)
def AB.ok (b : AB) : Prop := b.c ≤ 16 ∧ (b.c = 0 ∨ 2 ≤ b.c) ∧ b.m ≤ 6 ∧ b.d ≤ 4 ∧ (∀ i j, i < b.c → b.fl i = some j → j < b.c) ∧ (∀ i, i < b.c → b.ed i ≤ 9) ∧ (∀ k, k < b.m → b.ma k < b.c ∧ 1 ≤ b.ml k ∧ b.ml k ≤ 6) ∧ (∀ k, k < b.d → b.da k < b.c) ∧ (∀ j k, j < b.m → k < b.m → b.ma j = b.ma k → j = k) ∧ (∀ j k, j < b.d → k < b.d → b.da j = b.da k → j = k)
def AW.ok (w : AW) (b : AB) (N K : Nat) : Prop := w.n ≤ N ∧ w.day ≤ K ∧ (∀ s, s < w.n → isTx (w.tx s) = true ∧ w.ft s ≤ 3 ∧ (w.ft s = 0 → w.pl s < b.c ∧ w.wt s ≤ 9) ∧ (w.ft s = 3 → ∃ t, t < s ∧ w.hd s = nI t)) ∧ (∀ i, w.ms i ≤ 8) ∧ (∀ i, w.ms i ≠ 0 → i < b.c) ∧ (∀ k, w.pr k ≤ 13 * w.day) ∧ (∀ k, b.m ≤ k → w.pr k = 0)
/-- a bed in the class's state, its object at p -/
def CB (T : xS) (p : Nat) (b : AB) : Prop := T.1 p 0 = nI b.c ∧ T.1 p 1 = nI b.m ∧ T.1 p 2 = nI b.d ∧ (∀ i, i < b.c → T.2.1 (p + 1) i = oI (b.fl i) ∧ T.2.1 (p + 2) i = nI (b.ed i) ∧ T.2.1 (p + 3) i = oI (idx b.ma i b.m 0) ∧ T.2.1 (p + 4) i = oI (idx b.da i b.d 0)) ∧ (∀ k, k < b.m → T.2.1 (p + 5) k = nI (b.ml k))
/-- a water in the class's state, its object at p -/
def CW (T : xS) (p : Nat) (w : AW) : Prop := T.1 p 0 = nI w.day ∧ T.1 p 1 = nI w.n ∧ T.1 p 2 = w.sh ∧ (∀ s, s < w.n → T.2.1 (p + 1) s = (if w.ft s = 0 then nI (w.pl s) else -1) ∧ T.2.1 (p + 2) s = nI (w.tx s) ∧ T.2.1 (p + 3) s = nI (lenN (w.tx s)) ∧ T.2.1 (p + 4) s = letN 0 (w.tx s) ∧ T.2.1 (p + 5) s = (if w.ft s = 0 then nI (w.wt s) else 0) ∧ T.2.1 (p + 6) s = nI (w.ft s) ∧ T.2.1 (p + 7) s = w.hd s ∧ T.2.1 (p + 8) s = w.lf s) ∧ (∀ i, i < 16 → T.2.1 (p + 9) i = nI (w.ms i)) ∧ (∀ k, k < 6 → T.2.1 (p + 10) k = nI (w.pr k))
/-- a bed in the reference's rows r -/
def MB (r : Nat → Nat → Int32) (b : AB) : Prop := r 1 0 = nI b.c ∧ r 1 1 = nI b.m ∧ r 1 2 = nI b.d ∧ (∀ i, i < b.c → r 2 i = oI (b.fl i) ∧ r 3 i = nI (b.ed i)) ∧ (∀ k, k < b.m → r 4 k = nI (b.ma k) ∧ r 5 k = nI (b.ml k)) ∧ (∀ k, k < b.d → r 7 k = nI (b.da k))
/-- a water in the reference's rows r -/
def MW (r : Nat → Nat → Int32) (w : AW) : Prop := r 1 4 = nI w.n ∧ r 1 6 = nI w.day ∧ r 1 5 = w.sh ∧ r 1 3 = nI (cnt w.ms 16) ∧ (∀ s, s < w.n → (w.ft s = 0 → r 10 s = nI (w.pl s) ∧ r 12 s = nI (w.wt s)) ∧ r 11 s = nI (w.tx s) ∧ r 13 s = nI (w.ft s) ∧ r 14 s = w.hd s ∧ r 15 s = w.lf s) ∧ (∀ k, k < 6 → r 6 k = nI (w.pr k)) ∧ (∀ i, i < cnt w.ms 16 → ∃ c, c < 16 ∧ r 8 i = nI c ∧ r 9 i = nI (w.ms c) ∧ w.ms c ≠ 0) ∧ (∀ i j, i < cnt w.ms 16 → j < cnt w.ms 16 → r 8 i = r 8 j → i = j) ∧ (∀ c, c < 16 → w.ms c ≠ 0 → ∃ i, i < cnt w.ms 16 ∧ r 8 i = nI c)
