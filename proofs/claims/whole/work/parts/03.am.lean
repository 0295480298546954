/-! the abstract machine: a method's run as a function. A reference is a place: below 64 what stood before, from 64 on what was made, in the order of the making. -/
abbrev AmH : Type := (Nat → va_E) × Nat × Nat
abbrev AmN : Type := Nat × List Value × List Value
abbrev AmA : Type := (AmN × AmH) ⊕ ((Nat × List Value × List Value) ⊕ Option Value)
def am_lk {α : Type} (k : Nat) : List (Nat × α) → Option α
  | [] => none
  | q :: r => if q.1 = k then some q.2 else am_lk k r
def am_c (X : Nat → va_E) (h : AmH) (p : Nat) : va_E := if p < 64 then X p else h.1 p
def am_tg (pc : Nat) (off : Int) : Option Nat := if (pc : Int) + off = ((((pc : Int) + off).toNat : Nat) : Int) then some ((pc : Int) + off).toNat else none
/-- a store to a local: a long that began one ahead of it is gone -/
def am_sl (L : List Value) (i : Nat) (v : Value) : List Value :=
  (match i with
   | 0 => L
   | j + 1 => match L[j]? with
     | some (.long _) => L.set j (.float 0)
     | some (.double _) => L.set j (.float 0)
     | _ => L).set i v
def am_p1 (own : Nat) (pc : Nat) (L st : List Value) (ins : Instr) : Option AmN := match ins with
  | .iconst n => some (pc + 1, L, .int (Int32.ofInt n) :: st)
  | .bipush n => some (pc + 2, L, .int (Int8.ofInt n).toInt32 :: st)
  | .sipush n => some (pc + 3, L, .int (Int16.ofInt n).toInt32 :: st)
  | .lconst n => some (pc + 1, L, .long (Int64.ofNat (n : Nat)) :: st)
  | .aconst_null => some (pc + 1, L, .null :: st)
  | .iload_n k => match L[(k : Nat)]? with
    | some (.int x) => some (pc + 1, L, .int x :: st)
    | _ => none
  | .iload i => match L[i]? with
    | some (.int x) => some (pc + 2, L, .int x :: st)
    | _ => none
  | .lload_n k => match L[(k : Nat)]? with
    | some (.long x) => some (pc + 1, L, .long x :: st)
    | _ => none
  | .lload i => match L[i]? with
    | some (.long x) => some (pc + 2, L, .long x :: st)
    | _ => none
  | .aload_n k => match L[(k : Nat)]? with
    | some (.ref x) => some (pc + 1, L, .ref x :: st)
    | some .null => some (pc + 1, L, .null :: st)
    | _ => none
  | .aload i => match L[i]? with
    | some (.ref x) => some (pc + 2, L, .ref x :: st)
    | some .null => some (pc + 2, L, .null :: st)
    | _ => none
  | _ => none
def am_p2 (pc : Nat) (L st : List Value) (ins : Instr) : Option AmN := match ins with
  | .istore_n k => match st with
    | .int x :: r => if (k : Nat) < L.length then some (pc + 1, am_sl L k (.int x), r) else none
    | _ => none
  | .istore i => match st with
    | .int x :: r => if i < L.length then some (pc + 2, am_sl L i (.int x), r) else none
    | _ => none
  | .astore_n k => match st with
    | .ref x :: r => if (k : Nat) < L.length then some (pc + 1, am_sl L k (.ref x), r) else none
    | .null :: r => if (k : Nat) < L.length then some (pc + 1, am_sl L k .null, r) else none
    | _ => none
  | .astore i => match st with
    | .ref x :: r => if i < L.length then some (pc + 2, am_sl L i (.ref x), r) else none
    | .null :: r => if i < L.length then some (pc + 2, am_sl L i .null, r) else none
    | _ => none
  | .iinc i n => match L[i]? with
    | some (.int x) => some (pc + 3, am_sl L i (.int (x + Int32.ofInt n)), st)
    | _ => none
  | _ => none
def am_p3 (pc : Nat) (L st : List Value) (ins : Instr) : Option AmN := match st with
  | .int y :: .int x :: r => match ins with
    | .iadd => some (pc + 1, L, .int (x + y) :: r)
    | .isub => some (pc + 1, L, .int (x - y) :: r)
    | .imul => some (pc + 1, L, .int (x * y) :: r)
    | .iand => some (pc + 1, L, .int (x &&& y) :: r)
    | .ior => some (pc + 1, L, .int (x ||| y) :: r)
    | .ixor => some (pc + 1, L, .int (x ^^^ y) :: r)
    | .idiv => if y = 0 then none else some (pc + 1, L, .int (x / y) :: r)
    | .irem => if y = 0 then none else some (pc + 1, L, .int (x - x / y * y) :: r)
    | .ishl => some (pc + 1, L, .int (x <<< (y &&& 31)) :: r)
    | .ishr => some (pc + 1, L, .int (x >>> (y &&& 31)) :: r)
    | .iushr => some (pc + 1, L, .int (x.toUInt32 >>> (y.toUInt32 &&& Int32.toUInt32 31)).toInt32 :: r)
    | _ => none
  | .long y :: .long x :: r => match ins with
    | .ladd => some (pc + 1, L, .long (x + y) :: r)
    | .lsub => some (pc + 1, L, .long (x - y) :: r)
    | .lmul => some (pc + 1, L, .long (x * y) :: r)
    | .land => some (pc + 1, L, .long (x &&& y) :: r)
    | .lor => some (pc + 1, L, .long (x ||| y) :: r)
    | .ldiv => if y = 0 then none else some (pc + 1, L, .long (x / y) :: r)
    | .lrem => if y = 0 then none else some (pc + 1, L, .long (x - x / y * y) :: r)
    | .lcmp => some (pc + 1, L, .int (lg_cmp x y) :: r)
    | _ => none
  | _ => none
def am_p4 (pc : Nat) (L st : List Value) (ins : Instr) : Option AmN := match ins with
  | .ineg => match st with
    | .int x :: r => some (pc + 1, L, .int (-x) :: r)
    | _ => none
  | .i2l => match st with
    | .int x :: r => some (pc + 1, L, .long x.toInt64 :: r)
    | _ => none
  | .l2i => match st with
    | .long x :: r => some (pc + 1, L, .int x.toInt32 :: r)
    | _ => none
  | .i2b => match st with
    | .int x :: r => some (pc + 1, L, .int x.toInt8.toInt32 :: r)
    | _ => none
  | .i2c => match st with
    | .int x :: r => some (pc + 1, L, .int (x.toUInt32 % 65536).toInt32 :: r)
    | _ => none
  | .dup => match st with
    | a :: r => if a.category = 1 then some (pc + 1, L, a :: a :: r) else none
    | _ => none
  | .dup2 => match st with
    | a :: b :: r => if a.category = 1 ∧ b.category = 1 then some (pc + 1, L, a :: b :: a :: b :: r) else none
    | _ => none
  | .pop => match st with
    | a :: r => if a.category = 1 then some (pc + 1, L, r) else none
    | _ => none
  | _ => none
def am_if (c : ClassFile.Cond) (x : Int32) : Bool := match c with
  | .eq => decide (x = 0)
  | .ne => !decide (x = 0)
  | .lt => decide (x < 0)
  | .ge => decide (0 ≤ x)
  | .gt => decide (0 < x)
  | .le => decide (x ≤ 0)
def am_ic (c : ClassFile.Cond) (x y : Int32) : Bool := match c with
  | .eq => decide (x = y)
  | .ne => !decide (x = y)
  | .lt => decide (x < y)
  | .ge => decide (y ≤ x)
  | .gt => decide (y < x)
  | .le => decide (x ≤ y)
def am_p5 (pc : Nat) (L st : List Value) (ins : Instr) : Option AmN := match ins with
  | .ifCond c off => match st with
    | .int x :: r => match am_tg pc off with
      | some t => some (if am_if c x then t else pc + 3, L, r)
      | _ => none
    | _ => none
  | .if_icmp c off => match st with
    | .int y :: .int x :: r => match am_tg pc off with
      | some t => some (if am_ic c x y then t else pc + 3, L, r)
      | _ => none
    | _ => none
  | .goto off => match am_tg pc off with
    | some t => some (t, L, st)
    | _ => none
  | .ifnonnull off => match st with
    | .ref _ :: r => match am_tg pc off with
      | some t => some (t, L, r)
      | _ => none
    | .null :: r => some (pc + 3, L, r)
    | _ => none
  | .ifnull off => match st with
    | .ref _ :: r => some (pc + 3, L, r)
    | .null :: r => match am_tg pc off with
      | some t => some (t, L, r)
      | _ => none
    | _ => none
  | .tableswitch d lo hi offs => match st with
    | .int x :: r => if x.toInt < lo ∨ hi < x.toInt then (match am_tg pc d with
        | some t => some (t, L, r)
        | _ => none)
      else match offs[(x.toInt - lo).toNat]? with
        | some off => (match am_tg pc off with
          | some t => some (t, L, r)
          | _ => none)
        | _ => none
    | _ => none
  | .lookupswitch d ps => match st with
    | .int x :: r => if (ps.toList.zip (ps.toList.drop 1)).all (fun (a, next) => a.1 < next.1) = true then (match am_tg pc (Op.lookupswitch.offset ps.toList d x.toInt) with
        | some t => some (t, L, r)
        | _ => none) else none
    | _ => none
  | _ => none
/-- constants and static fields -/
def am_p6 (own : Nat) (pc : Nat) (L st : List Value) (ins : Instr) : Option AmN := match ins with
  | .ldc i => match am_lk i (am_kt.getD own []) with
    | some (.int v) => some (pc + 2, L, .int v :: st)
    | some (.ref p) => some (pc + 2, L, .ref p :: st)
    | _ => none
  | .ldc_w i => match am_lk i (am_kt.getD own []) with
    | some (.int v) => some (pc + 3, L, .int v :: st)
    | some (.ref p) => some (pc + 3, L, .ref p :: st)
    | _ => none
  | .ldc2_w i => match am_lk i (am_kt.getD own []) with
    | some (.long v) => some (pc + 3, L, .long v :: st)
    | _ => none
  | .getstatic i => match am_lk i (am_sf.getD own []) with
    | some v => some (pc + 3, L, v :: st)
    | _ => none
  | _ => none
/-- reads of the heap -/
def am_p7 (X : Nat → va_E) (own : Nat) (pc : Nat) (L st : List Value) (h : AmH) (ins : Instr) : Option AmN := match ins with
  | .getfield i => match st with
    | .ref p :: r => match am_lk i (am_ft.getD own []) with
      | some (ci, k) => match am_c X h p with
        | .inr (cj, fs) => if cj = ci ∧ p < h.2.1 then (match fs[k]? with
          | some v => some (pc + 3, L, v :: r)
          | _ => none) else none
        | _ => none
      | _ => none
    | _ => none
  | .arraylength => match st with
    | .ref p :: r => match am_c X h p with
      | .inl (t, n, _) => if p < h.2.1 ∧ t ≤ 6 then some (pc + 1, L, .int (Int32.ofNat n) :: r) else none
      | _ => none
    | _ => none
  | .iaload => match st with
    | .int i :: .ref p :: r => match am_c X h p with
      | .inl (0, n, .inl f) => if ¬ (i < 0 ∨ n ≤ i.toNatClampNeg) ∧ p < h.2.1 then some (pc + 1, L, .int (f i.toNatClampNeg) :: r) else none
      | _ => none
    | _ => none
  | .baload => match st with
    | .int i :: .ref p :: r => match am_c X h p with
      | .inl (2, n, .inl f) => if ¬ (i < 0 ∨ n ≤ i.toNatClampNeg) ∧ p < h.2.1 then some (pc + 1, L, .int (f i.toNatClampNeg) :: r) else none
      | .inl (3, n, .inl f) => if ¬ (i < 0 ∨ n ≤ i.toNatClampNeg) ∧ p < h.2.1 ∧ 64 ≤ p then some (pc + 1, L, .int (f i.toNatClampNeg) :: r) else none
      | _ => none
    | _ => none
  | .laload => match st with
    | .int i :: .ref p :: r => match am_c X h p with
      | .inl (1, n, .inr (.inl f)) => if ¬ (i < 0 ∨ n ≤ i.toNatClampNeg) ∧ p < h.2.1 ∧ 64 ≤ p then some (pc + 1, L, .long (f i.toNatClampNeg) :: r) else none
      | _ => none
    | _ => none
  | .aaload => match st with
    | .int i :: .ref p :: r => match am_c X h p with
      | .inl (t, n, .inr (.inr (.inr (.inr f)))) => if ¬ (i < 0 ∨ n ≤ i.toNatClampNeg) ∧ p < h.2.1 ∧ 64 ≤ p ∧ 4 ≤ t ∧ t ≤ 6 then some (pc + 1, L, va_rf (f i.toNatClampNeg) :: r) else none
      | _ => none
    | _ => none
  | _ => none
def am_up (h : AmH) (p : Nat) (e : va_E) : AmH := (va_up h.1 p e, h.2)
def am_pu (h : AmH) (e : va_E) (k : Nat) : AmH := (va_up h.1 h.2.1 e, h.2.1 + 1, h.2.2 + k)
/-- writes: (next, heap) -/
def am_q1 (own mid : Nat) (pc : Nat) (L st : List Value) (h : AmH) (ins : Instr) : Option (AmN × AmH) := match ins with
  | .putfield i => match st with
    | v :: .ref p :: r => match am_lk i (am_ft.getD own []) with
      | some (ci, k) => match h.1 p with
        | .inr (cj, fs) => if cj = ci ∧ p < h.2.1 ∧ 64 ≤ p ∧ k < fs.length ∧ fits ((am_yl.getD ci (fun _ => .int)) k) v = true ∧ narrow ((am_yl.getD ci (fun _ => .int)) k) v = v ∧ ((((am_cl.getD ci ("", fun _ => ("", "", "", true), 0)).2.1 k).2.2.2 = false) ∨ ((am_mn.getD mid ⟨"", "", ""⟩).name = "<init>" ∧ own = ci)) then some ((pc + 3, L, r), am_up h p (.inr (cj, fs.set k v))) else none
        | _ => none
      | _ => none
    | _ => none
  | .iastore => match st with
    | .int x :: .int i :: .ref p :: r => match h.1 p with
      | .inl (0, n, .inl f) => if ¬ (i < 0 ∨ n ≤ i.toNatClampNeg) ∧ p < h.2.1 ∧ 64 ≤ p then some ((pc + 1, L, r), am_up h p (.inl (0, n, .inl (upd f i.toNatClampNeg x)))) else none
      | _ => none
    | _ => none
  | .bastore => match st with
    | .int x :: .int i :: .ref p :: r => match h.1 p with
      | .inl (2, n, .inl f) => if ¬ (i < 0 ∨ n ≤ i.toNatClampNeg) ∧ p < h.2.1 ∧ 64 ≤ p then some ((pc + 1, L, r), am_up h p (.inl (2, n, .inl (upd f i.toNatClampNeg (vp_nar .byte x))))) else none
      | .inl (3, n, .inl f) => if ¬ (i < 0 ∨ n ≤ i.toNatClampNeg) ∧ p < h.2.1 ∧ 64 ≤ p then some ((pc + 1, L, r), am_up h p (.inl (3, n, .inl (upd f i.toNatClampNeg (vp_nar .boolean x))))) else none
      | _ => none
    | _ => none
  | .lastore => match st with
    | .long x :: .int i :: .ref p :: r => match h.1 p with
      | .inl (1, n, .inr (.inl f)) => if ¬ (i < 0 ∨ n ≤ i.toNatClampNeg) ∧ p < h.2.1 ∧ 64 ≤ p then some ((pc + 1, L, r), am_up h p (.inl (1, n, .inr (.inl (vp_updL f i.toNatClampNeg x))))) else none
      | _ => none
    | _ => none
  | .aastore => match st with
    | .ref v :: .int i :: .ref p :: r => match h.1 p with
      | .inl (t, n, .inr (.inr (.inr (.inr f)))) => match h.1 v with
        | .inr (ci, _) => if ¬ (i < 0 ∨ n ≤ i.toNatClampNeg) ∧ p < h.2.1 ∧ 64 ≤ p ∧ v < h.2.1 ∧ 64 ≤ v ∧ ((t = 4 ∧ ci = 1) ∨ (t = 5 ∧ ci = 9) ∨ (t = 6 ∧ ci = 10)) then some ((pc + 1, L, r), am_up h p (.inl (t, n, .inr (.inr (.inr (.inr (va_up f i.toNatClampNeg (some v)))))))) else none
        | _ => none
      | _ => none
    | _ => none
  | _ => none
/-- makings -/
def am_q2 (own : Nat) (pc : Nat) (L st : List Value) (h : AmH) (ins : Instr) : Option (AmN × AmH) := match ins with
  | .new i => match am_lk i (am_ct.getD own []) with
    | some ci => match am_cl[ci]? with
      | some q => some ((pc + 3, L, .ref h.2.1 :: st), am_pu h (.inr (ci, (List.range q.2.2).map (fun k => defaultValue ((am_yl.getD ci (fun _ => .int)) k)))) q.2.2)
      | _ => none
    | _ => none
  | .newarray t => match st with
    | .int n :: r => if n < 0 ∨ 10000000 < n.toNatClampNeg then none else match t with
      | .int => some ((pc + 2, L, .ref h.2.1 :: r), am_pu h (.inl (0, n.toNatClampNeg, .inl (fun _ => 0))) n.toNatClampNeg)
      | .long => some ((pc + 2, L, .ref h.2.1 :: r), am_pu h (.inl (1, n.toNatClampNeg, .inr (.inl (fun _ => 0)))) n.toNatClampNeg)
      | .byte => some ((pc + 2, L, .ref h.2.1 :: r), am_pu h (.inl (2, n.toNatClampNeg, .inl (fun _ => 0))) n.toNatClampNeg)
      | .boolean => some ((pc + 2, L, .ref h.2.1 :: r), am_pu h (.inl (3, n.toNatClampNeg, .inl (fun _ => 0))) n.toNatClampNeg)
      | _ => none
    | _ => none
  | .anewarray i => match st with
    | .int n :: r => if n < 0 ∨ 10000000 < n.toNatClampNeg then none else match am_lk i (am_ct.getD own []) with
      | some 1 => some ((pc + 3, L, .ref h.2.1 :: r), am_pu h (.inl (4, n.toNatClampNeg, .inr (.inr (.inr (.inr (fun _ => none)))))) n.toNatClampNeg)
      | some 9 => some ((pc + 3, L, .ref h.2.1 :: r), am_pu h (.inl (5, n.toNatClampNeg, .inr (.inr (.inr (.inr (fun _ => none)))))) n.toNatClampNeg)
      | some 10 => some ((pc + 3, L, .ref h.2.1 :: r), am_pu h (.inl (6, n.toNatClampNeg, .inr (.inr (.inr (.inr (fun _ => none)))))) n.toNatClampNeg)
      | _ => none
    | _ => none
  | _ => none
/-- Object's constructor, and arraycopy of ints -/
def am_q3 (own : Nat) (pc : Nat) (L st : List Value) (h : AmH) (ins : Instr) : Option (AmN × AmH) := match ins with
  | .invokespecial i => match am_lk i (am_ml.getD own []) with
    | some (_, 9) => match st with
      | .ref _ :: r => if (r.map fun v => v.category).sum ≤ 8 then some ((pc + 3, L, r), h) else none
      | _ => none
    | _ => none
  | .invokestatic i => match am_lk i (am_ml.getD own []) with
    | some (_, 10) => match st with
      | .int n :: .int dp :: .ref p :: .int sp :: .ref p0 :: r => match am_c (fun _ => .inr (99, [])) h p0 with
        | .inl (0, n0, .inl f) => match h.1 p with
          | .inl (0, n1, .inl g) => if p < h.2.1 ∧ 64 ≤ p ∧ p0 < h.2.1 ∧ ¬ sp < 0 ∧ ¬ dp < 0 ∧ ¬ n < 0 ∧ sp.toNatClampNeg + n.toNatClampNeg ≤ n0 ∧ dp.toNatClampNeg + n.toNatClampNeg ≤ n1 ∧ (r.map fun v => v.category).sum ≤ 8 then some ((pc + 3, L, r), am_up h p (.inl (0, n1, .inl (va_cpy f g sp.toNatClampNeg dp.toNatClampNeg n.toNatClampNeg)))) else none
          | _ => none
        | _ => none
      | _ => none
    | some (_, 11) => match st with
      | .int y :: .int x :: r => if (r.map fun v => v.category).sum ≤ 8 then some ((pc + 3, L, .int (if y < x then y else x) :: r), h) else none
      | _ => none
    | _ => none
  | _ => none
/-- a call: method, arguments, what is left on the stack -/
def am_q4 (X : Nat → va_E) (own : Nat) (st : List Value) (h : AmH) (ins : Instr) : Option (Nat × List Value × List Value) := match ins with
  | .invokevirtual i => match am_lk i (am_ml.getD own []) with
    | some (m', 0) => match am_md[m']? with
      | some q => match (st.take q.2.2.2.2).reverse with
        | .ref p :: as => match am_c X h p with
          | .inr (cj, _) => if cj = q.1 ∧ p < h.2.1 ∧ q.2.2.2.2 ≤ st.length ∧ ((st.drop q.2.2.2.2).map fun v => v.category).sum ≤ 8 then some (m', .ref p :: as, st.drop q.2.2.2.2) else none
          | _ => none
        | _ => none
      | _ => none
    | _ => none
  | .invokespecial i => match am_lk i (am_ml.getD own []) with
    | some (m', k) => match am_md[m']? with
      | some q => match (st.take q.2.2.2.2).reverse with
        | .ref p :: as => if (k = 2 ∨ k = 5) ∧ q.2.2.2.2 ≤ st.length ∧ ((st.drop q.2.2.2.2).map fun v => v.category).sum ≤ 8 then some (m', .ref p :: as, st.drop q.2.2.2.2) else none
        | _ => none
      | _ => none
    | _ => none
  | .invokestatic i => match am_lk i (am_ml.getD own []) with
    | some (m', 1) => match am_md[m']? with
      | some q => if q.2.2.2.2 ≤ st.length ∧ ((st.drop q.2.2.2.2).map fun v => v.category).sum ≤ 8 then some (m', (st.take q.2.2.2.2).reverse, st.drop q.2.2.2.2) else none
      | _ => none
    | _ => none
  | _ => none
def am_q5 (ret : Option FieldType) (st : List Value) (ins : Instr) : Option (Option Value) := match ins with
  | .ireturn => match st with
    | [.int v] => match ret with
      | some ty => if narrow ty (.int v) = .int v ∧ (ty = .int ∨ ty = .boolean ∨ ty = .char ∨ ty = .byte) then some (some (.int v)) else none
      | _ => none
    | _ => none
  | .lreturn => match st with
    | [.long v] => if ret = some .long then some (some (.long v)) else none
    | _ => none
  | .areturn => match st with
    | [v] => match v with
      | .ref p => match ret with
        | some (.object _) => some (some (.ref p))
        | some (.array _) => some (some (.ref p))
        | _ => none
      | .null => match ret with
        | some (.object _) => some (some .null)
        | some (.array _) => some (some .null)
        | _ => none
      | _ => none
    | _ => none
  | .return_ => match st with
    | [] => if ret = none then some none else none
    | _ => none
  | _ => none
/-- no change of the heap -/
def am_pr (X : Nat → va_E) (own : Nat) (pc : Nat) (L st : List Value) (h : AmH) (ins : Instr) : Option AmN :=
  match am_p1 own pc L st ins with
  | some x => some x
  | none => match am_p2 pc L st ins with
    | some x => some x
    | none => match am_p3 pc L st ins with
      | some x => some x
      | none => match am_p4 pc L st ins with
        | some x => some x
        | none => match am_p5 pc L st ins with
          | some x => some x
          | none => match am_p6 own pc L st ins with
            | some x => some x
            | none => am_p7 X own pc L st h ins
def am_hp (own mid : Nat) (pc : Nat) (L st : List Value) (h : AmH) (ins : Instr) : Option (AmN × AmH) :=
  match am_q1 own mid pc L st h ins with
  | some x => some x
  | none => match am_q2 own pc L st h ins with
    | some x => some x
    | none => am_q3 own pc L st h ins
/-- an instruction's length; none: any -/
def am_ln (ins : Instr) : Option Nat := match ins with
  | .tableswitch .. => none
  | .lookupswitch .. => none
  | .bipush _ | .iload _ | .lload _ | .aload _ | .istore _ | .astore _ | .ldc _ | .newarray _ => some 2
  | .sipush _ | .iinc .. | .ifCond .. | .if_icmp .. | .goto _ | .ifnull _ | .ifnonnull _ | .ldc_w _ | .ldc2_w _ | .getstatic _ | .getfield _ | .putfield _ | .new _ | .anewarray _ | .invokevirtual _ | .invokespecial _ | .invokestatic _ => some 3
  | _ => some 1
def am_fe (mid pc : Nat) : Option (Nat × Option FieldType × Instr) := match am_md[mid]? with
  | some q => match decode q.2.1 pc with
    | .ok x => if (am_ln x.1).getD x.2 = x.2 then some (q.1, q.2.2.2.1, x.1) else none
    | .error _ => none
  | none => none
def am_st (X : Nat → va_E) (mid pc : Nat) (L st : List Value) (h : AmH) : Option AmA := match am_fe mid pc with
  | none => none
  | some (own, ret, ins) => match am_pr X own pc L st h ins with
    | some n => some (.inl (n, h))
    | none => match am_hp own mid pc L st h ins with
      | some n => some (.inl n)
      | none => match am_q4 X own st h ins with
        | some c => some (.inr (.inl c))
        | none => match am_q5 ret st ins with
          | some r => some (.inr (.inr r))
          | none => none
/-- a method's locals at its start -/
def am_lo : List Value → List Value
  | [] => []
  | v :: r => if v.category = 2 then v :: .float 0 :: am_lo r else v :: am_lo r
def am_en (mid : Nat) (as : List Value) : List Value := am_lo as ++ List.replicate ((am_md.getD mid (0, code, 0, none, 0)).2.2.1 - (am_lo as).length) (.float 0)
def am (X : Nat → va_E) : Nat → Nat → Nat → Nat → List Value → List Value → AmH → Option (Option Value × AmH)
  | 0, _, _, _, _, _, _ => none
  | n + 1, d, mid, pc, L, st, h => match am_st X mid pc L st h with
    | some (.inl ((pc', L', st'), h')) => am X n d mid pc' L' st' h'
    | some (.inr (.inl (m', as, r))) => match d with
      | 0 => none
      | d' + 1 => if (am_lo as).length ≤ (am_md.getD m' (0, code, 0, none, 0)).2.2.1 then (match am X n d' m' 0 (am_en m' as) [] h with
        | some (v, h') => am X n (d' + 1) mid (pc + 3) L (v.toList ++ r) h'
        | none => none) else none
    | some (.inr (.inr v)) => some (v, h)
    | none => none
