/-! numbers and texts: what the small static methods come to -/
theorem inL_nI {a lo hi : Nat} (ha : a < 2 ^ 31) (hlo : lo < 2 ^ 31) (hhi : hi < 2 ^ 31) : inL (nI a).toInt64 (lN lo) (lN hi) = decide (lo ≤ a ∧ a ≤ hi) := by
  have e1 : decide (lN a < lN lo) = decide (a < lo) := decide_eq_decide.mpr (lN_lt ha hlo)
  have e2 : decide (lN hi < lN a) = decide (hi < a) := decide_eq_decide.mpr (lN_lt hhi ha)
  unfold inL
  rw [nI_l ha, e1, e2]
  by_cases h1 : a < lo
  · have : ¬ (lo ≤ a ∧ a ≤ hi) := by omega
    simp [h1, this]
  · by_cases h2 : hi < a
    · have : ¬ (lo ≤ a ∧ a ≤ hi) := by omega
      simp [h1, h2, this]
    · have : lo ≤ a ∧ a ≤ hi := by omega
      simp [h1, h2, this]
theorem inL_neg {x : Int32} {hi : Int64} (h : x < 0) : inL x.toInt64 0 hi = false := by
  unfold inL
  have : x.toInt64 < 0 := by
    rw [Int64.lt_iff_toInt_lt, Int32.toInt_toInt64]
    exact Int32.lt_iff_toInt_lt.mp h
  rw [decide_eq_true this]
  rfl
theorem digN_s' {r : Nat} (h : r ≠ 0) : digN r = (decide (1 ≤ r % 10 ∧ r % 10 ≤ 6) && digN (r / 10)) := by
  rw [digN_s h]
  congr 1
  exact inL_nI (lo := 1) (hi := 6) (by omega) (by decide) (by decide)
theorem nI_m10' {r : Nat} (h : r < 2 ^ 31) : nI r - nI (r / 10) * 10 = nI (r % 10) := by
  rw [← nI_d10 h]
  exact nI_m10 h
theorem f217l : ∀ (r : Nat), r < 2 ^ 31 → ∀ (m : Nat) (S : mS), Ev (fun n => F217f n 4 0 (nI m) (nI r) S) (nI (m + lenN r), S) := by
  intro r
  induction r using Nat.strongRecOn with
  | ind r ih =>
    intro hr m S
    refine ev_succ (fun n => F217e4 n ..) ?_
    simp only [F217b4, if_le_nI hr]
    by_cases h : r = 0
    · simp only [h, decide_true, if_true, lenN_0, Nat.add_zero]
      exact ev_ret
    · simp only [h, decide_false, Bool.false_eq_true, if_false, nI_d10 hr, nI_1]
      refine ev_to (ih (r / 10) (by omega) (by omega) (m + 1) S) ?_
      rw [lenN_s h, Nat.add_assoc, Nat.add_comm 1]
theorem f217 {r : Nat} (hr : r < 2 ^ 31) (S : mS) : Ev (fun n => F217 n (nI r) S) (nI (lenN r), S) := by
  refine ev_succ (fun n => F217e0 n ..) ?_
  simp only [F217b0]
  exact ev_to (f217l r hr 0 S) (by rw [Nat.zero_add])
theorem f221l : ∀ (r : Nat), r < 2 ^ 31 → ∀ (S : mS), Ev (fun n => F221f n 2 0 (nI r) S) (nI (fstN r), S) := by
  intro r
  induction r using Nat.strongRecOn with
  | ind r ih =>
    intro hr S
    refine ev_succ (fun n => F221e2 n ..) ?_
    simp only [F221b2, show (9 : Int32) = nI 9 from rfl, ic_le_nI hr (show 9 < 2 ^ 31 by decide)]
    by_cases h : r ≤ 9
    · simp only [h, decide_true, if_true, fstN_0 h]
      exact ev_ret
    · simp only [h, decide_false, Bool.false_eq_true, if_false, nI_d10 hr]
      refine ev_to (ih (r / 10) (by omega) (by omega) S) ?_
      rw [fstN_s h]
theorem f221 {r : Nat} (hr : r < 2 ^ 31) (S : mS) : Ev (fun n => F221 n (nI r) S) (nI (fstN r), S) := by
  refine ev_succ (fun n => F221e0 n ..) ?_
  simp only [F221b0]
  exact f221l r hr S
theorem f222l : ∀ (r : Nat), r < 2 ^ 31 → ∀ (x : Int32) (S : mS), Ev (fun n => F222f n 4 0 x (nI r) S) (letN x r, S) := by
  intro r
  induction r using Nat.strongRecOn with
  | ind r ih =>
    intro hr x S
    refine ev_succ (fun n => F222e4 n ..) ?_
    simp only [F222b4, if_le_nI hr]
    by_cases h : r = 0
    · simp only [h, decide_true, if_true, letN_0]
      exact ev_ret
    · simp only [h, decide_false, Bool.false_eq_true, if_false, nI_m10' hr, nI_d10 hr]
      refine ev_to (ih (r / 10) (by omega) (by omega) _ S) ?_
      rw [letN_s h]
theorem f222 {r : Nat} (hr : r < 2 ^ 31) (S : mS) : Ev (fun n => F222 n (nI r) S) (letN 0 r, S) := by
  refine ev_succ (fun n => F222e0 n ..) ?_
  simp only [F222b0]
  exact f222l r hr 0 S
theorem f228l (t : Nat) (ht : t < 2 ^ 31) : ∀ (f k : Nat), k + f = t → ∀ (x : Int32) (S : mS), Ev (fun n => F228f n 4 (nI t) x (nI k) S) (tenF f x, S) := by
  intro f
  induction f with
  | zero =>
    intro k hk x S
    refine ev_succ (fun n => F228e4 n ..) ?_
    simp only [F228b4, ic_ge_nI (show k < 2 ^ 31 by omega) ht]
    simp only [show t ≤ k from by omega, decide_true, if_true]
    exact ev_ret
  | succ f ih =>
    intro k hk x S
    refine ev_succ (fun n => F228e4 n ..) ?_
    simp only [F228b4, ic_ge_nI (show k < 2 ^ 31 by omega) ht]
    simp only [show ¬ t ≤ k from by omega, decide_false, Bool.false_eq_true, if_false, nI_1]
    exact ih (k + 1) (by omega) _ S
theorem f228 {t : Nat} (ht : t < 2 ^ 31) (S : mS) : Ev (fun n => F228 n (nI t) S) (tenF t 1, S) := by
  refine ev_succ (fun n => F228e0 n ..) ?_
  simp only [F228b0]
  exact f228l t ht t 0 (by omega) 1 S
theorem f223l (a : Int32) : ∀ (f k : Nat), k + f = 16 → ∀ (x : Int32) (S : mS), Ev (fun n => F223f n 4 a x (nI k) S) (bitF a f k x, S) := by
  intro f
  induction f with
  | zero =>
    intro k hk x S
    refine ev_succ (fun n => F223e4 n ..) ?_
    simp only [F223b4, show (16 : Int32) = nI 16 from rfl, ic_ge_nI (show k < 2 ^ 31 by omega) (show 16 < 2 ^ 31 by decide)]
    simp only [show 16 ≤ k from by omega, decide_true, if_true]
    exact ev_ret
  | succ f ih =>
    intro k hk x S
    refine ev_succ (fun n => F223e4 n ..) ?_
    simp only [F223b4, show (16 : Int32) = nI 16 from rfl, ic_ge_nI (show k < 2 ^ 31 by omega) (show 16 < 2 ^ 31 by decide)]
    simp only [show ¬ 16 ≤ k from by omega, decide_false, Bool.false_eq_true, if_false, nI_1]
    exact ih (k + 1) (by omega) _ S
theorem f223 {a : Int32} (S : mS) : Ev (fun n => F223 n a S) (bitF a 16 0 0, S) := by
  refine ev_succ (fun n => F223e0 n ..) ?_
  simp only [F223b0]
  exact f223l a 16 0 (by omega) 0 S
theorem f172 {a b c : Int64} (S : mS) : Ev (fun n => F172 n a b c S) (b2i (inL a b c), S) := by
  refine ev_succ (fun n => F172e0 n ..) ?_
  simp only [F172b0, if_lt_cmp, if_gt_cmp]
  unfold inL
  by_cases h1 : a < b
  · simp only [h1, decide_true, if_true, Bool.not_true, Bool.false_and]
    exact ev_ret
  · by_cases h2 : c < a
    · simp only [h1, h2, decide_true, decide_false, if_true, if_false, Bool.false_eq_true, Bool.not_true, Bool.and_false]
      exact ev_ret
    · simp only [h1, h2, decide_false, if_false, Bool.false_eq_true, Bool.not_false, Bool.and_true]
      exact ev_ret
theorem f199 {a k : Int32} (S : mS) : Ev (fun n => F199 n a k S) (b2i (decide ((a >>> (k &&& 31)) &&& 1 = 1)), S) := by
  refine ev_succ (fun n => F199e0 n ..) ?_
  simp only [F199b0, am_ic]
  by_cases h : (a >>> (k &&& 31)) &&& 1 = 1
  · simp only [h, decide_true, Bool.not_true, Bool.false_eq_true, if_false]
    exact ev_ret
  · simp only [h, decide_false, Bool.not_false, if_true]
    exact ev_ret
theorem f231l : ∀ (r : Nat), r < 2 ^ 31 → ∀ (S : mS), Ev (fun n => F231f n 18 0 (nI r) S) (b2i (digN r), S) := by
  intro r
  induction r using Nat.strongRecOn with
  | ind r ih =>
    intro hr S
    refine ev_succ (fun n => F231e18 n ..) ?_
    simp only [F231b18, if_le_nI hr]
    by_cases h : r = 0
    · simp only [h, decide_true, if_true, digN_0]
      exact ev_ret
    · simp only [h, decide_false, Bool.false_eq_true, if_false, nI_m10' hr, nI_d10 hr]
      refine ev_bind (f172 S) ?_
      simp only [if_ne_b2i]
      rw [digN_s h]
      by_cases h2 : inL (nI (r % 10)).toInt64 1 6 = true
      · simp only [h2, if_true, Bool.true_and]
        exact ih (r / 10) (by omega) (by omega) S
      · simp only [h2, Bool.false_eq_true, if_false, Bool.false_and]
        exact ev_ret
theorem f231 {r : Nat} (hr : r < 2 ^ 31) (S : mS) : Ev (fun n => F231 n (nI r) S) (b2i (isTx r), S) := by
  refine ev_succ (fun n => F231e0 n ..) ?_
  simp only [F231b0, show (1 : Int32) = nI 1 from rfl, ic_lt_nI hr (show 1 < 2 ^ 31 by decide)]
  unfold isTx
  by_cases h1 : r < 1
  · simp only [h1, decide_true, if_true, show ¬ 1 ≤ r from by omega, decide_false, Bool.false_and]
    exact ev_ret
  · simp only [h1, decide_false, Bool.false_eq_true, if_false, show 1 ≤ r from by omega, decide_true, Bool.true_and]
    refine ev_bind (f217 hr S) ?_
    have h9 := lenN_le hr
    simp only [show (8 : Int32) = nI 8 from rfl, ic_le_nI (show lenN r < 2 ^ 31 by omega) (show 8 < 2 ^ 31 by decide)]
    by_cases h2 : lenN r ≤ 8
    · simp only [h2, decide_true, if_true, Bool.true_and]
      exact f231l r hr S
    · simp only [h2, decide_false, Bool.false_eq_true, if_false, Bool.false_and]
      exact ev_ret
theorem f231n {x : Int32} (hx : x < 0) (S : mS) : Ev (fun n => F231 n x S) (0, S) := by
  refine ev_succ (fun n => F231e0 n ..) ?_
  simp only [F231b0, nI_neg hx, if_true]
  exact ev_ret
theorem g102l : ∀ (r : Nat), r < 2 ^ 31 → ∀ (m : Nat) (T : xS), m ≤ 9 → Ev (fun n => G102f n 4 0 (nI m) (nI r) T) (nI (if m + lenN r ≤ 8 ∧ digN r = true then m + lenN r else 0), T) := by
  intro r
  induction r using Nat.strongRecOn with
  | ind r ih =>
    intro hr m T hm
    refine ev_succ (fun n => G102e4 n ..) ?_
    simp only [G102b4, if_le_nI hr, show (8 : Int32) = nI 8 from rfl, ic_le_nI (show m < 2 ^ 31 by omega) (show 8 < 2 ^ 31 by decide), ic_gt_nI (show m < 2 ^ 31 by omega) (show 8 < 2 ^ 31 by decide)]
    by_cases h : r = 0
    · subst h
      simp only [decide_true, if_true, lenN_0, Nat.add_zero, digN_0, and_true]
      by_cases h8 : m ≤ 8
      · simp only [h8, decide_true, if_true]
        exact ev_ret
      · simp only [h8, decide_false, Bool.false_eq_true, if_false]
        exact ev_ret
    · simp only [h, decide_false, Bool.false_eq_true, if_false, nI_m10' hr, nI_d10 hr, nI_1]
      rw [lenN_s h, digN_s' h]
      by_cases h8 : 8 < m
      · simp only [h8, decide_true, if_true, show ¬ m ≤ 8 from by omega, decide_false, Bool.false_eq_true, if_false, show ¬ m + (lenN (r / 10) + 1) ≤ 8 from by omega, false_and]
        exact ev_ret
      · simp only [h8, decide_false, Bool.false_eq_true, if_false, show (1 : Int32) = nI 1 from rfl, show (6 : Int32) = nI 6 from rfl, ic_lt_nI (show r % 10 < 2 ^ 31 by omega) (show 1 < 2 ^ 31 by decide), ic_le_nI (show r % 10 < 2 ^ 31 by omega) (show 6 < 2 ^ 31 by decide)]
        by_cases h1 : r % 10 < 1
        · simp only [h1, decide_true, if_true, show ¬ 1 ≤ r % 10 from by omega, false_and, decide_false, Bool.false_and, Bool.false_eq_true, and_false, if_false]
          exact ev_ret
        · simp only [h1, decide_false, Bool.false_eq_true, if_false]
          by_cases h6 : r % 10 ≤ 6
          · simp only [h6, decide_true, if_true, show 1 ≤ r % 10 from by omega, and_self, Bool.true_and]
            refine ev_to (ih (r / 10) (by omega) (by omega) (m + 1) T (by omega)) ?_
            rw [Nat.add_assoc m 1, Nat.add_comm 1 (lenN (r / 10))]
          · simp only [h6, decide_false, Bool.false_eq_true, if_false, and_false, Bool.false_and]
            exact ev_ret
theorem g102 {r : Nat} (hr : r < 2 ^ 31) (T : xS) : Ev (fun n => G102 n (nI r) T) (nI (if isTx r then lenN r else 0), T) := by
  refine ev_succ (fun n => G102e0 n ..) ?_
  simp only [G102b0]
  refine ev_to (g102l r hr 0 T (by omega)) ?_
  congr 2
  unfold isTx
  rw [Nat.zero_add]
  by_cases h : r = 0
  · subst h
    simp [lenN_0]
  · by_cases h2 : lenN r ≤ 8 <;> by_cases h3 : digN r = true <;> simp [h2, h3, show 1 ≤ r from by omega]
theorem g102n {x : Int32} (hx : x < 0) (T : xS) : Ev (fun n => G102 n x T) (0, T) := by
  refine ev_succ (fun n => G102e0 n ..) ?_
  simp only [G102b0]
  refine ev_succ (fun n => G102e4 n ..) ?_
  have h : am_if .le x = true := decide_eq_true (Int32.le_of_lt hx)
  simp only [G102b4, h, if_true, show am_ic .le 0 8 = true from by decide]
  exact ev_ret
