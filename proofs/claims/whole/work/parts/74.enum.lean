/-! fleet: sets of cells in their order -/
def Eg : Nat → Nat → List Nat
  | 0, _ => [0]
  | _ + 1, 0 => []
  | k + 1, n + 1 => Eg (k + 1) n ++ (Eg k n).map (fun x => x + 2 ^ n)
theorem eg_mem : ∀ (n k m : Nat), m < 2 ^ n → ctF m.testBit n 0 = k → m ∈ Eg k n
  | 0, k, m, h, hc => by
    have hm : m = 0 := by
      rw [Nat.pow_zero] at h
      omega
    have hc : 0 = k := hc
    subst hm
    subst hc
    exact List.mem_singleton.mpr rfl
  | n + 1, 0, m, h, hc => by
    have hm : m = 0 := by
      refine Nat.eq_of_testBit_eq (fun i => ?_)
      rw [Nat.zero_testBit]
      refine Bool.eq_false_iff.mpr (fun hb => ?_)
      by_cases hi : i < n + 1
      · have := ctF_pos (P := m.testBit) (s := i) (n + 1) 0 (Nat.zero_le _) (by omega) hb
        omega
      · rw [Nat.testBit_lt_two_pow (Nat.lt_of_lt_of_le h (Nat.pow_le_pow_right (by decide) (by omega)))] at hb
        exact absurd hb (by decide)
    subst hm
    exact List.mem_singleton.mpr rfl
  | n + 1, k + 1, m, h, hc => by
    show m ∈ Eg (k + 1) n ++ (Eg k n).map (fun x => x + 2 ^ n)
    rw [ctF_s1] at hc
    by_cases hm : m < 2 ^ n
    · rw [Nat.testBit_lt_two_pow hm, if_neg (by decide), Nat.add_zero] at hc
      exact List.mem_append_left _ (eg_mem n (k + 1) m hm hc)
    · have hp : 2 ^ (n + 1) = 2 ^ n + 2 ^ n := by rw [Nat.pow_succ]; omega
      obtain ⟨m', rfl⟩ : ∃ m', m = 2 ^ n * 1 + m' := ⟨m - 2 ^ n, by omega⟩
      have hm' : m' < 2 ^ n := by omega
      have tb := fun j => Nat.testBit_two_pow_mul_add 1 hm' j
      have tn : (2 ^ n * 1 + m').testBit n = true := by
        rw [tb, if_neg (by omega), Nat.sub_self]
        decide
      rw [tn, if_pos rfl, ctF_eq (P := (2 ^ n * 1 + m').testBit) (Q := m'.testBit) n 0 (fun i _ hi => by rw [tb, if_pos (by omega)])] at hc
      refine List.mem_append_right _ (List.mem_map.mpr ⟨m', eg_mem n k m' hm' (by omega), ?_⟩)
      show m' + 2 ^ n = _
      omega
def czI (x : Int32) : Int32 := ctzI ((x ^^^ (-1)) &&& (x - 1))
theorem g117g {x : Int32} {T : xS} : Ev (fun n => G117 n x T) (czI x, T) := by
  refine ev_succ (fun n => G117e0 n ..) ?_
  simp only [g117e]
  exact ev_ret
def gosI (x : Int32) : Int32 := if am_if .ne x = true then ((x + (x &&& (-x))) ||| ((x ^^^ (x + (x &&& (-x)))) >>> ((2 + czI (x &&& (-x))) &&& 31))) else 65536
theorem g123 {x : Int32} {T : xS} : Ev (fun n => G123 n x T) (gosI x, T) := by
  refine ev_succ (fun n => G123e0 n ..) ?_
  unfold gosI
  by_cases h : am_if .ne x = true
  · simp only [G123b0, h, decide_eq_true_eq, decide_true, decide_false, Bool.not_eq_true, Bool.not_eq_true', Bool.not_true, Bool.not_false, decide_eq_false_iff_not, Bool.false_eq_true, not_false_eq_true, not_true_eq_false, if_true, if_false, ↓reduceIte, eq_self, Option.bind_some, Bool.true_and, Bool.false_and, Bool.and_true, Bool.and_false]
    refine ev_bind g117g ?_
    exact ev_ret
  · simp only [G123b0, h, decide_eq_true_eq, decide_true, decide_false, Bool.not_eq_true, Bool.not_eq_true', Bool.not_true, Bool.not_false, decide_eq_false_iff_not, Bool.false_eq_true, not_false_eq_true, not_true_eq_false, if_true, if_false, ↓reduceIte, eq_self, Option.bind_some, Bool.true_and, Bool.false_and, Bool.and_true, Bool.and_false]
    exact ev_ret
def ixI (x : Int32) : Int32 := if am_if .ne x = true then (if am_if .ne (x &&& (x - 1)) = true then (((if 16 < czI (x &&& (x - 1)) then 16 else czI (x &&& (x - 1))) * 17) + (if 16 < czI x then 16 else czI x)) else (((if (16 : Int32) < 16 then 16 else 16) * 17) + (if 16 < czI x then 16 else czI x))) else 288
theorem g118 {x : Int32} {T : xS} : Ev (fun n => G118 n x T) (ixI x, T) := by
  refine ev_succ (fun n => G118e0 n ..) ?_
  unfold ixI
  by_cases h : am_if .ne x = true
  · simp only [G118b0, h, decide_eq_true_eq, decide_true, decide_false, Bool.not_eq_true, Bool.not_eq_true', Bool.not_true, Bool.not_false, decide_eq_false_iff_not, Bool.false_eq_true, not_false_eq_true, not_true_eq_false, if_true, if_false, ↓reduceIte, eq_self, Option.bind_some, Bool.true_and, Bool.false_and, Bool.and_true, Bool.and_false]
    refine ev_bind g117g ?_
    by_cases h2 : am_if .ne (x &&& (x - 1)) = true
    · simp only [h2, decide_eq_true_eq, decide_true, decide_false, Bool.not_eq_true, Bool.not_eq_true', Bool.not_true, Bool.not_false, decide_eq_false_iff_not, Bool.false_eq_true, not_false_eq_true, not_true_eq_false, if_true, if_false, ↓reduceIte, eq_self, Option.bind_some, Bool.true_and, Bool.false_and, Bool.and_true, Bool.and_false]
      refine ev_bind g117g ?_
      exact ev_ret
    · simp only [h2, decide_eq_true_eq, decide_true, decide_false, Bool.not_eq_true, Bool.not_eq_true', Bool.not_true, Bool.not_false, decide_eq_false_iff_not, Bool.false_eq_true, not_false_eq_true, not_true_eq_false, if_true, if_false, ↓reduceIte, eq_self, Option.bind_some, Bool.true_and, Bool.false_and, Bool.and_true, Bool.and_false]
      exact ev_ret
  · simp only [G118b0, h, decide_eq_true_eq, decide_true, decide_false, Bool.not_eq_true, Bool.not_eq_true', Bool.not_true, Bool.not_false, decide_eq_false_iff_not, Bool.false_eq_true, not_false_eq_true, not_true_eq_false, if_true, if_false, ↓reduceIte, eq_self, Option.bind_some, Bool.true_and, Bool.false_and, Bool.and_true, Bool.and_false]
    exact ev_ret
def ixN (m : Nat) : Nat := (ixI (nI m)).toNatClampNeg
def invN (x : Nat) : Nat := (if x % 17 = 16 then 0 else 2 ^ (x % 17)) + (if x / 17 = 16 then 0 else 2 ^ (x / 17))
def chkI (L : List Nat) : Bool := L.all (fun m => decide (nI (ixN m) = ixI (nI m)) && decide (ixN m < 289) && decide (invN (ixN m) = m))
def chkC (k : Nat) (L : List Nat) : Bool := L.all (fun m => decide (m < 65536) && decide (ctF m.testBit 16 0 = k))
def chkN : List Nat → Bool
  | [] => true
  | [x] => decide (65536 ≤ (gosI (nI x)).toNatClampNeg) && decide (nI (gosI (nI x)).toNatClampNeg = gosI (nI x)) && decide ((gosI (nI x)).toNatClampNeg < 2 ^ 31)
  | x :: y :: r => decide (gosI (nI x) = nI y) && decide (x < y) && chkN (y :: r)
theorem ck_I : chkI (Eg 0 16) = true ∧ chkI (Eg 1 16) = true ∧ chkI (Eg 2 16) = true := by decide +kernel
theorem ck_C : chkC 0 (Eg 0 16) = true ∧ chkC 1 (Eg 1 16) = true ∧ chkC 2 (Eg 2 16) = true ∧ chkC 3 (Eg 3 16) = true := by decide +kernel
theorem ck_N : chkN (Eg 0 16) = true ∧ chkN (Eg 1 16) = true ∧ chkN (Eg 2 16) = true ∧ chkN (Eg 3 16) = true := by decide +kernel
theorem ck_L : (Eg 0 16).length = 1 ∧ (Eg 1 16).length = 16 ∧ (Eg 2 16).length = 120 ∧ (Eg 3 16).length = 560 := by decide +kernel
theorem ck_0 : (Eg 0 16).getD 0 0 = 0 ∧ (Eg 1 16).getD 0 0 = 1 ∧ (Eg 2 16).getD 0 0 = 3 ∧ (Eg 3 16).getD 0 0 = 7 := by decide +kernel
theorem chk_get : ∀ (L : List Nat), chkN L = true → ∀ i, i + 1 < L.length → gosI (nI (L.getD i 0)) = nI (L.getD (i + 1) 0) ∧ L.getD i 0 < L.getD (i + 1) 0
  | [], _, i, hi => absurd hi (Nat.not_lt_zero _)
  | [x], _, i, hi => by
    have : i + 1 < 1 := hi
    omega
  | x :: y :: r, h, i, hi => by
    unfold chkN at h
    simp only [Bool.and_eq_true, decide_eq_true_eq] at h
    cases i with
    | zero => exact h.1
    | succ i =>
      exact chk_get (y :: r) h.2 i (by simpa using hi)
theorem chk_last : ∀ (L : List Nat), chkN L = true → ∀ i, i + 1 = L.length → ∃ v, 65536 ≤ v ∧ v < 2 ^ 31 ∧ gosI (nI (L.getD i 0)) = nI v
  | [], _, i, hi => by
    have : i + 1 = 0 := hi
    omega
  | [x], h, i, hi => by
    have : i + 1 = 1 := hi
    have : i = 0 := by omega
    subst this
    unfold chkN at h
    simp only [Bool.and_eq_true, decide_eq_true_eq] at h
    exact ⟨_, h.1.1, h.2, h.1.2.symm⟩
  | x :: y :: r, h, i, hi => by
    unfold chkN at h
    simp only [Bool.and_eq_true, decide_eq_true_eq] at h
    cases i with
    | zero =>
      have : 0 + 1 = r.length + 1 + 1 := hi
      omega
    | succ i =>
      exact chk_last (y :: r) h.2 i (by simpa using hi)
def eN (k i : Nat) : Nat := (Eg k 16).getD i 0
def eL (k : Nat) : Nat := (Eg k 16).length
theorem k4 {k : Nat} (hk : k ≤ 3) : k = 0 ∨ k = 1 ∨ k = 2 ∨ k = 3 := by omega
theorem ck_N' {k : Nat} (hk : k ≤ 3) : chkN (Eg k 16) = true := by
  obtain ⟨a, b, c, d⟩ := ck_N
  rcases k4 hk with rfl | rfl | rfl | rfl
  · exact a
  · exact b
  · exact c
  · exact d
theorem ck_C' {k : Nat} (hk : k ≤ 3) : chkC k (Eg k 16) = true := by
  obtain ⟨a, b, c, d⟩ := ck_C
  rcases k4 hk with rfl | rfl | rfl | rfl
  · exact a
  · exact b
  · exact c
  · exact d
theorem eL_le {k : Nat} (hk : k ≤ 3) : 1 ≤ eL k ∧ eL k ≤ 560 := by
  obtain ⟨a, b, c, d⟩ := ck_L
  unfold eL
  rcases k4 hk with rfl | rfl | rfl | rfl <;> omega
theorem eN_0 {k : Nat} (hk : k ≤ 3) : eN k 0 = 2 ^ k - 1 := by
  obtain ⟨a, b, c, d⟩ := ck_0
  rcases k4 hk with rfl | rfl | rfl | rfl
  · exact a
  · exact b
  · exact c
  · exact d
theorem getD_mem {L : List Nat} {i : Nat} (h : i < L.length) : L.getD i 0 ∈ L := by
  rw [List.getD_eq_getElem?_getD, List.getElem?_eq_getElem h]
  exact List.getElem_mem h
theorem eN_c {k i : Nat} (hk : k ≤ 3) (hi : i < eL k) : eN k i < 65536 ∧ ctF (eN k i).testBit 16 0 = k := by
  have h := List.all_eq_true.mp (ck_C' hk) _ (getD_mem hi)
  simp only [Bool.and_eq_true, decide_eq_true_eq] at h
  exact h
theorem eN_g {k i : Nat} (hk : k ≤ 3) (hi : i + 1 < eL k) : gosI (nI (eN k i)) = nI (eN k (i + 1)) ∧ eN k i < eN k (i + 1) := chk_get _ (ck_N' hk) i hi
theorem eN_l {k i : Nat} (hk : k ≤ 3) (hi : i + 1 = eL k) : ∃ v, 65536 ≤ v ∧ v < 2 ^ 31 ∧ gosI (nI (eN k i)) = nI v := chk_last _ (ck_N' hk) i hi
theorem eN_m {k i : Nat} (hk : k ≤ 3) : ∀ d, i + d + 1 < eL k → eN k i < eN k (i + d + 1)
  | 0, h => (eN_g hk h).2
  | d + 1, h => Nat.lt_trans (eN_m hk d (by omega)) (eN_g hk h).2
theorem eN_lt {k i j : Nat} (hk : k ≤ 3) (h : i < j) (hj : j < eL k) : eN k i < eN k j := by
  obtain ⟨d, rfl⟩ : ∃ d, j = i + d + 1 := ⟨j - i - 1, by omega⟩
  exact eN_m hk d hj
theorem eN_all {k m : Nat} (hm : m < 65536) (hc : ctF m.testBit 16 0 = k) : ∃ i, i < eL k ∧ eN k i = m := by
  have h := eg_mem 16 k m hm hc
  obtain ⟨i, hi, e⟩ := List.getElem_of_mem h
  refine ⟨i, hi, ?_⟩
  unfold eN
  rw [List.getD_eq_getElem?_getD, List.getElem?_eq_getElem hi]
  exact e
theorem ix_f {m : Nat} (hm : m < 65536) (hc : ctF m.testBit 16 0 ≤ 2) : nI (ixN m) = ixI (nI m) ∧ ixN m < 289 ∧ invN (ixN m) = m := by
  have h := eg_mem 16 _ m hm rfl
  obtain ⟨a, b, c⟩ := ck_I
  have h3 : ctF m.testBit 16 0 = 0 ∨ ctF m.testBit 16 0 = 1 ∨ ctF m.testBit 16 0 = 2 := by omega
  have hh : ∀ k, chkI (Eg k 16) = true → m ∈ Eg k 16 → nI (ixN m) = ixI (nI m) ∧ ixN m < 289 ∧ invN (ixN m) = m := by
    intro k h1 h2
    have h := List.all_eq_true.mp h1 _ h2
    simp only [Bool.and_eq_true, decide_eq_true_eq] at h
    exact ⟨h.1.1, h.1.2, h.2⟩
  rcases h3 with e | e | e
  · rw [e] at h
    exact hh 0 a h
  · rw [e] at h
    exact hh 1 b h
  · rw [e] at h
    exact hh 2 c h
