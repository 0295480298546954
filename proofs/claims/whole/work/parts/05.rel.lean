/-! the abstract machine and the machine: how a state of the one stands for a state of the other -/
def am_T : List Cond := lw_tbl.filter goodWord
def am_ad (ex : Nat → Nat) (base p : Nat) : Nat := if p < 64 then ex p else base + (p - 64)
def am_rv (fv : Value) (ad : Nat → Nat) (v : Value) : Value := match v with
  | .ref p => .ref (ad p)
  | .retAddr _ => fv
  | .int x => .int x
  | .long x => .long x
  | .float x => .float x
  | .double x => .double x
  | .null => .null
def am_ra (ad : Nat → Nat) (a : vp_A) : vp_A := (a.1, match a.2 with
  | .inl f => .inl f
  | .inr (.inl f) => .inr (.inl f)
  | .inr (.inr (.inl f)) => .inr (.inr (.inl f))
  | .inr (.inr (.inr (.inl f))) => .inr (.inr (.inr (.inl f)))
  | .inr (.inr (.inr (.inr f))) => .inr (.inr (.inr (.inr (fun i => (f i).map ad)))))
def am_re (fv : Value) (ad : Nat → Nat) (tc : Nat → ClassId) (e : va_E) : va_E := match e with
  | .inl a => .inl (tc a.1, am_ra ad a.2)
  | .inr o => .inr (o.1, o.2.map (am_rv fv ad))
def am_ws (fv : Value) (ad : Nat → Nat) (tc : Nat → ClassId) (base : Nat) (h : AmH) : va_W := (List.range (h.2.1 - 64)).map (fun i => (base + i, am_re fv ad tc (h.1 (64 + i))))
theorem am_ws_get {fv : Value} {ad : Nat → Nat} {tc : Nat → ClassId} {base : Nat} {h : AmH} {p : Nat} (h1 : 64 ≤ p) (h2 : p < h.2.1) : (am_ws fv ad tc base h)[p - 64]? = some (base + (p - 64), am_re fv ad tc (h.1 p)) := by
  have e : 64 + (p - 64) = p := by omega
  simp [am_ws, List.getElem?_map, List.getElem?_range (show p - 64 < h.2.1 - 64 by omega), e]
theorem am_ws_set {fv : Value} {ad : Nat → Nat} {tc : Nat → ClassId} {base : Nat} {h : AmH} {p : Nat} {e : va_E} (h1 : 64 ≤ p) (h2 : p < h.2.1) : (am_ws fv ad tc base h).set (p - 64) (base + (p - 64), am_re fv ad tc e) = am_ws fv ad tc base (am_up h p e) := by
  apply List.ext_getElem?
  intro i
  rw [List.getElem?_set]
  by_cases hi : p - 64 = i
  · subst hi
    have e1 : 64 + (p - 64) = p := by omega
    simp [am_ws, am_up, va_up, List.getElem?_map, List.getElem?_range (show p - 64 < h.2.1 - 64 by omega), e1, show p - 64 < h.2.1 - 64 by omega]
  · rw [if_neg hi]
    by_cases hj : i < h.2.1 - 64
    · have e2 : ¬ 64 + i = p := by omega
      simp [am_ws, am_up, va_up, List.getElem?_map, List.getElem?_range hj, e2]
    · simp [am_ws, am_up, List.getElem?_map, List.getElem?_eq_none (l := List.range (h.2.1 - 64)) (by simpa using hj)]
theorem am_ws_pu {fv : Value} {ad : Nat → Nat} {tc : Nat → ClassId} {base k : Nat} {h : AmH} {e : va_E} (h1 : 64 ≤ h.2.1) : am_ws fv ad tc base (am_pu h e k) = am_ws fv ad tc base h ++ [(base + (h.2.1 - 64), am_re fv ad tc e)] := by
  have e1 : h.2.1 + 1 - 64 = (h.2.1 - 64) + 1 := by omega
  have e2 : 64 + (h.2.1 - 64) = h.2.1 := by omega
  simp only [am_ws, am_pu, e1, List.range_succ, List.map_append, List.map_cons, List.map_nil, e2, va_up]
  congr 1
  · apply List.map_congr_left
    intro i hi
    rw [List.mem_range] at hi
    have e3 : ¬ 64 + i = h.2.1 := by omega
    simp [e3]
theorem am_ws_D {fv : Value} {ad : Nat → Nat} {tc : Nat → ClassId} {base : Nat} {h : AmH} : va_D (fun q => base ≤ q) (am_ws fv ad tc base h) := by
  have key : ∀ (i : Nat) (q : Nat × va_E), (am_ws fv ad tc base h)[i]? = some q → q.1 = base + i := by
    intro i q hq
    simp only [am_ws, List.getElem?_map, Option.map_eq_some_iff] at hq
    obtain ⟨j, hj, rfl⟩ := hq
    have := List.getElem?_eq_some_iff.mp hj
    obtain ⟨_, h3⟩ := this
    simp at h3
    show base + j = base + i
    omega
  refine ⟨fun i j x y hx hy e => ?_, fun k q hq => ?_⟩
  · have := key i x hx
    have := key j y hy
    omega
  · have := key k q hq
    show base ≤ q.1
    omega
abbrev am_tys (tc : Nat → ClassId) : List (ClassId × FieldType) := [(tc 0, .int), (tc 1, .long), (tc 2, .byte), (tc 3, .boolean), (tc 4, .object "PaperRiver$Law"), (tc 5, .object "PaperRiver$Water"), (tc 6, .object "PaperRiver$World")]
/-- the constructors of nest mates -/
def am_nl : List (String × Nat × MethodName) := (am_cn.zip am_ml).flatMap (fun q => q.2.filterMap (fun e => if e.2.2 = 5 then some (q.1, e.1, am_mn.getD e.2.1 ⟨"", "", ""⟩) else none))
def am_sfn (k : Nat) : String × String := if k = 0 then ("value", "[B") else ("coder", "B")
/-- what a state gives at any time: the tables, and what stood before -/
def am_E (D : va_G) (tc : Nat → ClassId) (ex : Nat → Nat) (base : Nat) (fv : Value) (X : Nat → va_E) (s : State) : Prop :=
  va_K D am_cl (am_tys tc) s ∧
  (∀ q ∈ am_nl, va_Nw (.methodLinkNest q.1 q.2.1 q.2.2 "PaperRiver") s) ∧
  va_Nw (.fieldLinkNest "PaperRiver$Water" 68 "PaperRiver" "TENS" "[I" "PaperRiver") s ∧
  (va_AO "PaperRiver$Law" s ∧ va_AO "PaperRiver$Water" s ∧ va_AO "PaperRiver$World" s) ∧
  (∀ q ∈ am_sr, vk_R q.1 q.2.1 q.2.2.1 (ex q.2.2.2) s) ∧
  (va_Z "PaperRiver" "TENS" "[I" (.ref (ex 1)) (fun q => base ≤ q) s s.heap ∧ va_Z "java/lang/String" "COMPACT_STRINGS" "Z" (.int 1) (fun q => base ≤ q) s s.heap ∧ va_Z "jdk/internal/util/Preconditions" "SIOOBE_FORMATTER" "Ljava/util/function/BiFunction;" fv (fun q => base ≤ q) s s.heap) ∧
  (∀ (p t n : Nat) (f : Nat → Int32), p < 64 → X p = .inl (t, n, .inl f) → (t = 0 ∨ t = 2) ∧ va_T (am_tl.getD t .int) (ex p) n (fun j => .int (f j)) (fun q => base ≤ q) s s.heap) ∧
  (∀ (p t n : Nat) (y : (Nat → Int64) ⊕ (Nat → UInt32) ⊕ (Nat → UInt64) ⊕ (Nat → Option Nat)), p < 64 → ¬ X p = .inl (t, n, .inr y)) ∧
  (∀ (p ci : Nat) (fs : List Value), p < 64 → X p = .inr (ci, fs) → ci = 13 ∨ ci = 99) ∧
  (∀ (p : Nat) (fs : List Value), p < 64 → X p = .inr (13, fs) → va_O "java/lang/String" (ex p) (fun q => base ≤ q) s s.heap ∧ ∀ (k : Nat) (v : Value), fs[k]? = some v → k < 2 → va_OF "java/lang/String" (am_sfn k).1 (am_sfn k).2 (am_rv fv (am_ad ex base) v) (ex p) (fun q => base ≤ q) s s.heap) ∧
  base ≤ s.heap.size ∧ (fv = .null ∨ ∃ t, fv = .ref t)
theorem am_E_moved {D : va_G} {tc : Nat → ClassId} {ex : Nat → Nat} {base : Nat} {fv : Value} {X : Nat → va_E} {s U : State} {H : Heap} {locs : List Loc} (h : am_E D tc ex base fv X s) (hS : va_S (fun q => base ≤ q) s.heap H locs) (hU : U.heap = H) (hW : s.WarmedH U.vm) : am_E D tc ex base fv X U := by
  obtain ⟨e1, e2, e3, ⟨e4, e5, e6⟩, e7, ⟨e8, e9, e10⟩, e11, e12, e13, e14, e15, e16⟩ := h
  have hk : ∀ a : Nat, a < s.heap.size → ¬ (base ≤ a) → U.heap[a]? = s.heap[a]? := fun a h1 h2 => by rw [hU]; exact hS.2.1 a h1 h2
  have hA := hW.alike
  refine ⟨e1.moved hA, fun q hq => va_Nw.warmM hW (e2 q hq), va_Nw.warmF hW e3, ⟨e4.moved hA, e5.moved hA, e6.moved hA⟩, fun q hq => vk_R.warm hW (e7 q hq), ⟨(e8.moved hA).kept hk, (e9.moved hA).kept hk, (e10.moved hA).kept hk⟩, fun p t n f h1 h2 => ⟨(e11 p t n f h1 h2).1, ((e11 p t n f h1 h2).2.moved hA).kept hk⟩, e12, e13, fun p fs h1 h2 => ⟨((e14 p fs h1 h2).1.moved hA).kept hk, fun k v h3 h4 => (((e14 p fs h1 h2).2 k v h3 h4).moved hA).kept hk⟩, ?_, e16⟩
  rw [hU]
  exact Nat.le_trans e15 hS.1
/-- locals -/
def am_L (fv : Value) (ad : Nat → Nat) (ls : Array Slot) (L : List Value) : Prop := ls.size = L.length ∧ lv_wf ls ∧ ∀ (i : Nat) (v : Value), L[i]? = some v → (∀ x, v ≠ .float x) → ls[i]? = some (.val (am_rv fv ad v))
