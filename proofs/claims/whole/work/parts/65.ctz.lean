/-! how many noughts a number ends in -/
def ctzI (i : Int32) : Int32 := (if am_if .gt i = true then (if am_ic .le i 65536 = true then (if am_ic .le i 256 = true then (if am_ic .le i 16 = true then (if am_ic .le i 4 = true then ((1 + (Int32.toUInt32 i >>> (Int32.toUInt32 1 &&& Int32.toUInt32 31)).toInt32)) else ((3 + (Int32.toUInt32 ((Int32.toUInt32 i >>> (Int32.toUInt32 2 &&& Int32.toUInt32 31)).toInt32) >>> (Int32.toUInt32 1 &&& Int32.toUInt32 31)).toInt32))) else (if am_ic .le ((Int32.toUInt32 i >>> (Int32.toUInt32 4 &&& Int32.toUInt32 31)).toInt32) 4 = true then ((5 + (Int32.toUInt32 ((Int32.toUInt32 i >>> (Int32.toUInt32 4 &&& Int32.toUInt32 31)).toInt32) >>> (Int32.toUInt32 1 &&& Int32.toUInt32 31)).toInt32)) else ((7 + (Int32.toUInt32 ((Int32.toUInt32 ((Int32.toUInt32 i >>> (Int32.toUInt32 4 &&& Int32.toUInt32 31)).toInt32) >>> (Int32.toUInt32 2 &&& Int32.toUInt32 31)).toInt32) >>> (Int32.toUInt32 1 &&& Int32.toUInt32 31)).toInt32)))) else (if am_ic .le ((Int32.toUInt32 i >>> (Int32.toUInt32 8 &&& Int32.toUInt32 31)).toInt32) 16 = true then (if am_ic .le ((Int32.toUInt32 i >>> (Int32.toUInt32 8 &&& Int32.toUInt32 31)).toInt32) 4 = true then ((9 + (Int32.toUInt32 ((Int32.toUInt32 i >>> (Int32.toUInt32 8 &&& Int32.toUInt32 31)).toInt32) >>> (Int32.toUInt32 1 &&& Int32.toUInt32 31)).toInt32)) else ((11 + (Int32.toUInt32 ((Int32.toUInt32 ((Int32.toUInt32 i >>> (Int32.toUInt32 8 &&& Int32.toUInt32 31)).toInt32) >>> (Int32.toUInt32 2 &&& Int32.toUInt32 31)).toInt32) >>> (Int32.toUInt32 1 &&& Int32.toUInt32 31)).toInt32))) else (if am_ic .le ((Int32.toUInt32 ((Int32.toUInt32 i >>> (Int32.toUInt32 8 &&& Int32.toUInt32 31)).toInt32) >>> (Int32.toUInt32 4 &&& Int32.toUInt32 31)).toInt32) 4 = true then ((13 + (Int32.toUInt32 ((Int32.toUInt32 ((Int32.toUInt32 i >>> (Int32.toUInt32 8 &&& Int32.toUInt32 31)).toInt32) >>> (Int32.toUInt32 4 &&& Int32.toUInt32 31)).toInt32) >>> (Int32.toUInt32 1 &&& Int32.toUInt32 31)).toInt32)) else ((15 + (Int32.toUInt32 ((Int32.toUInt32 ((Int32.toUInt32 ((Int32.toUInt32 i >>> (Int32.toUInt32 8 &&& Int32.toUInt32 31)).toInt32) >>> (Int32.toUInt32 4 &&& Int32.toUInt32 31)).toInt32) >>> (Int32.toUInt32 2 &&& Int32.toUInt32 31)).toInt32) >>> (Int32.toUInt32 1 &&& Int32.toUInt32 31)).toInt32))))) else (if am_ic .le ((Int32.toUInt32 i >>> (Int32.toUInt32 16 &&& Int32.toUInt32 31)).toInt32) 256 = true then (if am_ic .le ((Int32.toUInt32 i >>> (Int32.toUInt32 16 &&& Int32.toUInt32 31)).toInt32) 16 = true then (if am_ic .le ((Int32.toUInt32 i >>> (Int32.toUInt32 16 &&& Int32.toUInt32 31)).toInt32) 4 = true then ((17 + (Int32.toUInt32 ((Int32.toUInt32 i >>> (Int32.toUInt32 16 &&& Int32.toUInt32 31)).toInt32) >>> (Int32.toUInt32 1 &&& Int32.toUInt32 31)).toInt32)) else ((19 + (Int32.toUInt32 ((Int32.toUInt32 ((Int32.toUInt32 i >>> (Int32.toUInt32 16 &&& Int32.toUInt32 31)).toInt32) >>> (Int32.toUInt32 2 &&& Int32.toUInt32 31)).toInt32) >>> (Int32.toUInt32 1 &&& Int32.toUInt32 31)).toInt32))) else (if am_ic .le ((Int32.toUInt32 ((Int32.toUInt32 i >>> (Int32.toUInt32 16 &&& Int32.toUInt32 31)).toInt32) >>> (Int32.toUInt32 4 &&& Int32.toUInt32 31)).toInt32) 4 = true then ((21 + (Int32.toUInt32 ((Int32.toUInt32 ((Int32.toUInt32 i >>> (Int32.toUInt32 16 &&& Int32.toUInt32 31)).toInt32) >>> (Int32.toUInt32 4 &&& Int32.toUInt32 31)).toInt32) >>> (Int32.toUInt32 1 &&& Int32.toUInt32 31)).toInt32)) else ((23 + (Int32.toUInt32 ((Int32.toUInt32 ((Int32.toUInt32 ((Int32.toUInt32 i >>> (Int32.toUInt32 16 &&& Int32.toUInt32 31)).toInt32) >>> (Int32.toUInt32 4 &&& Int32.toUInt32 31)).toInt32) >>> (Int32.toUInt32 2 &&& Int32.toUInt32 31)).toInt32) >>> (Int32.toUInt32 1 &&& Int32.toUInt32 31)).toInt32)))) else (if am_ic .le ((Int32.toUInt32 ((Int32.toUInt32 i >>> (Int32.toUInt32 16 &&& Int32.toUInt32 31)).toInt32) >>> (Int32.toUInt32 8 &&& Int32.toUInt32 31)).toInt32) 16 = true then (if am_ic .le ((Int32.toUInt32 ((Int32.toUInt32 i >>> (Int32.toUInt32 16 &&& Int32.toUInt32 31)).toInt32) >>> (Int32.toUInt32 8 &&& Int32.toUInt32 31)).toInt32) 4 = true then ((25 + (Int32.toUInt32 ((Int32.toUInt32 ((Int32.toUInt32 i >>> (Int32.toUInt32 16 &&& Int32.toUInt32 31)).toInt32) >>> (Int32.toUInt32 8 &&& Int32.toUInt32 31)).toInt32) >>> (Int32.toUInt32 1 &&& Int32.toUInt32 31)).toInt32)) else ((27 + (Int32.toUInt32 ((Int32.toUInt32 ((Int32.toUInt32 ((Int32.toUInt32 i >>> (Int32.toUInt32 16 &&& Int32.toUInt32 31)).toInt32) >>> (Int32.toUInt32 8 &&& Int32.toUInt32 31)).toInt32) >>> (Int32.toUInt32 2 &&& Int32.toUInt32 31)).toInt32) >>> (Int32.toUInt32 1 &&& Int32.toUInt32 31)).toInt32))) else (if am_ic .le ((Int32.toUInt32 ((Int32.toUInt32 ((Int32.toUInt32 i >>> (Int32.toUInt32 16 &&& Int32.toUInt32 31)).toInt32) >>> (Int32.toUInt32 8 &&& Int32.toUInt32 31)).toInt32) >>> (Int32.toUInt32 4 &&& Int32.toUInt32 31)).toInt32) 4 = true then ((29 + (Int32.toUInt32 ((Int32.toUInt32 ((Int32.toUInt32 ((Int32.toUInt32 i >>> (Int32.toUInt32 16 &&& Int32.toUInt32 31)).toInt32) >>> (Int32.toUInt32 8 &&& Int32.toUInt32 31)).toInt32) >>> (Int32.toUInt32 4 &&& Int32.toUInt32 31)).toInt32) >>> (Int32.toUInt32 1 &&& Int32.toUInt32 31)).toInt32)) else ((31 + (Int32.toUInt32 ((Int32.toUInt32 ((Int32.toUInt32 ((Int32.toUInt32 ((Int32.toUInt32 i >>> (Int32.toUInt32 16 &&& Int32.toUInt32 31)).toInt32) >>> (Int32.toUInt32 8 &&& Int32.toUInt32 31)).toInt32) >>> (Int32.toUInt32 4 &&& Int32.toUInt32 31)).toInt32) >>> (Int32.toUInt32 2 &&& Int32.toUInt32 31)).toInt32) >>> (Int32.toUInt32 1 &&& Int32.toUInt32 31)).toInt32)))))) else ((i &&& 32)))
theorem g117e {F : Nat → Int32 → xS → Option (Int32 × xS)} {n : Nat} {l0 : Int32} {S : xS} : G117b0 F n l0 S = some (ctzI ((l0 ^^^ (-1)) &&& (l0 - 1)), S) := by
  unfold G117b0 ctzI
  generalize ((l0 ^^^ (-1)) &&& (l0 - 1)) = i
  repeat' split
  all_goals rfl
theorem ctz_t {k : Nat} (h : k < 31) : ctzI (nI (2 ^ k - 1)) = nI k := (by decide +kernel : ∀ k, k < 31 → ctzI (nI (2 ^ k - 1)) = nI k) k h
theorem low_n {m k : Nat} : (2 ^ (k + 1) * m + 2 ^ k - 1) ^^^ ((2 ^ (k + 1) * m + 2 ^ k - 1) &&& (2 ^ (k + 1) * m + 2 ^ k)) = 2 ^ k - 1 := by
  have hk : 1 ≤ 2 ^ k := Nat.one_le_two_pow
  have e : 2 ^ (k + 1) * m + 2 ^ k - 1 = 2 ^ (k + 1) * m + (2 ^ k - 1) := by omega
  have h2 : 2 ^ k < 2 ^ (k + 1) := Nat.pow_lt_pow_right (by decide) (by omega)
  rw [e]
  refine Nat.eq_of_testBit_eq (fun i => ?_)
  rw [Nat.testBit_xor, Nat.testBit_and, Nat.testBit_two_pow_mul_add _ (show 2 ^ k - 1 < 2 ^ (k + 1) by omega), Nat.testBit_two_pow_mul_add _ h2, Nat.testBit_two_pow_sub_one, Nat.testBit_two_pow]
  by_cases h : i < k + 1
  · simp only [h, if_true]
    by_cases h3 : i < k
    · have : ¬ k = i := by omega
      simp [h3, this]
    · simp [h3]
  · have : ¬ i < k := by omega
    simp [h, this]
/-- the lowest bit -/
theorem low_ex : ∀ (n a : Nat), a ≠ 0 → a < 2 ^ n → ∃ k m, k < n ∧ a = 2 ^ (k + 1) * m + 2 ^ k
  | 0, a, h0, h => by omega
  | n + 1, a, h0, h => by
    by_cases h2 : a % 2 = 1
    · exact ⟨0, a / 2, by omega, by rw [Nat.zero_add, Nat.pow_one, Nat.pow_zero]; omega⟩
    · obtain ⟨k, m, h3, h4⟩ := low_ex n (a / 2) (by omega) (by rw [Nat.pow_succ] at h; omega)
      refine ⟨k + 1, m, by omega, ?_⟩
      have h5 : a = 2 * (a / 2) := by omega
      rw [h5, h4, Nat.pow_succ 2 (k + 1), Nat.pow_succ 2 k, Nat.mul_add, Nat.mul_comm (2 ^ k * 2) 2, Nat.mul_assoc 2, Nat.mul_comm 2 (2 ^ k)]
theorem low_tb {m k i : Nat} : (2 ^ (k + 1) * m + 2 ^ k).testBit i = if i < k + 1 then decide (k = i) else m.testBit (i - (k + 1)) := by
  have h2 : 2 ^ k < 2 ^ (k + 1) := Nat.pow_lt_pow_right (by decide) (by omega)
  rw [Nat.testBit_two_pow_mul_add _ h2, Nat.testBit_two_pow]
theorem g117 {a n : Nat} (h0 : a ≠ 0) (ha : a < 2 ^ n) (hn : n ≤ 31) {T : xS} : ∃ k, k < n ∧ a.testBit k = true ∧ (∀ i, i < k → a.testBit i = false) ∧ Ev (fun n => G117 n (nI a) T) (nI k, T) := by
  obtain ⟨k, m, hk, e⟩ := low_ex n a h0 ha
  have hb : a < 2 ^ 31 := Nat.lt_of_lt_of_le ha (Nat.pow_le_pow_right (by decide) hn)
  refine ⟨k, hk, ?_, fun i hi => ?_, ?_⟩
  · rw [e, low_tb, if_pos (by omega)]
    exact decide_eq_true rfl
  · rw [e, low_tb, if_pos (by omega)]
    exact decide_eq_false (by omega)
  · refine ev_succ (fun n => G117e0 n ..) ?_
    have h1 : (nI a ^^^ (-1)) &&& (nI a - 1) = nI (2 ^ k - 1) := by
      have h2 : nI a - 1 = nI (a - 1) := nI_subN (b := 1) (by omega)
      rw [h2, Int32.and_comm]
      have h3 := nI_dif (a - 1) a
      have h4 : nI (a - 1) &&& (nI a ^^^ -1) = nI ((a - 1) ^^^ ((a - 1) &&& a)) := h3
      rw [h4]
      have h5 : (a - 1) ^^^ ((a - 1) &&& a) = 2 ^ k - 1 := by
        rw [e]
        exact low_n
      rw [h5]
    simp only [g117e, h1, ctz_t (show k < 31 by omega)]
    exact ev_ret
theorem g117z {T : xS} : Ev (fun n => G117 n (nI 0) T) (nI 32, T) := by
  refine ev_succ (fun n => G117e0 n ..) ?_
  have h1 : ctzI ((nI 0 ^^^ (-1)) &&& (nI 0 - 1)) = nI 32 := by decide +kernel
  simp only [g117e, h1]
  exact ev_ret
