/-! contracts of the reference's small methods -/
def b2i (b : Bool) : Int32 := if b then 1 else 0
theorem if_lt_cmp (x y : Int64) : am_if .lt (lg_cmp x y) = decide (x < y) := by unfold am_if; exact decide_eq_decide.mpr (lg_cmp_lt x y)
theorem if_gt_cmp (x y : Int64) : am_if .gt (lg_cmp x y) = decide (y < x) := by unfold am_if; exact decide_eq_decide.mpr (lg_cmp_gt x y)
theorem if_ne_b2i (b : Bool) : am_if .ne (b2i b) = b := by cases b <;> rfl
theorem if_eq_b2i (b : Bool) : am_if .eq (b2i b) = !b := by cases b <;> rfl
theorem b2i_z (b : Bool) : narrow .boolean (.int (b2i b)) = .int (b2i b) := by cases b <;> rfl
theorem nI_le0 {r : Nat} (h : r < 2 ^ 31) : nI r ≤ 0 ↔ r = 0 := by
  have := nI_leI h (show 0 < 2 ^ 31 by decide)
  rw [nI_0] at this
  exact this.trans Nat.le_zero
theorem if_le_nI {r : Nat} (h : r < 2 ^ 31) : am_if .le (nI r) = decide (r = 0) := by unfold am_if; exact decide_eq_decide.mpr (nI_le0 h)
theorem ic_ge_nI {a b : Nat} (ha : a < 2 ^ 31) (hb : b < 2 ^ 31) : am_ic .ge (nI a) (nI b) = decide (b ≤ a) := by unfold am_ic; exact decide_eq_decide.mpr (nI_leI hb ha)
theorem ic_le_nI {a b : Nat} (ha : a < 2 ^ 31) (hb : b < 2 ^ 31) : am_ic .le (nI a) (nI b) = decide (a ≤ b) := by unfold am_ic; exact decide_eq_decide.mpr (nI_leI ha hb)
theorem ic_lt_nI {a b : Nat} (ha : a < 2 ^ 31) (hb : b < 2 ^ 31) : am_ic .lt (nI a) (nI b) = decide (a < b) := by unfold am_ic; exact decide_eq_decide.mpr (nI_ltI ha hb)
theorem ic_gt_nI {a b : Nat} (ha : a < 2 ^ 31) (hb : b < 2 ^ 31) : am_ic .gt (nI a) (nI b) = decide (b < a) := by unfold am_ic; exact decide_eq_decide.mpr (nI_ltI hb ha)
theorem ic_eq_nI {a b : Nat} (ha : a < 2 ^ 31) (hb : b < 2 ^ 31) : am_ic .eq (nI a) (nI b) = decide (a = b) := by unfold am_ic; exact decide_eq_decide.mpr (nI_eq ha hb)
theorem nI_inc1 (n : Nat) : nI n + Int32.ofInt 1 = nI (n + 1) := nI_1 n
theorem nI_d10 {r : Nat} (h : r < 2 ^ 31) : nI r / 10 = nI (r / 10) := pk_div (d := 10) h (by decide) (by decide)
theorem nI_m10 {r : Nat} (h : r < 2 ^ 31) : nI r - nI r / 10 * 10 = nI (r % 10) := pk_rem (d := 10) h (by decide) (by decide)
def inL (v lo hi : Int64) : Bool := !decide (v < lo) && !decide (hi < v)
/-- digits of a number -/
def lenN (r : Nat) : Nat := if h : r = 0 then 0 else lenN (r / 10) + 1
termination_by r
decreasing_by omega
theorem lenN_0 : lenN 0 = 0 := by unfold lenN; rfl
theorem lenN_s {r : Nat} (h : r ≠ 0) : lenN r = lenN (r / 10) + 1 := by rw [lenN, dif_neg h]
/-- the first digit -/
def fstN (r : Nat) : Nat := if h : r ≤ 9 then r else fstN (r / 10)
termination_by r
decreasing_by omega
theorem fstN_s {r : Nat} (h : ¬ r ≤ 9) : fstN r = fstN (r / 10) := by rw [fstN, dif_neg h]
theorem fstN_0 {r : Nat} (h : r ≤ 9) : fstN r = r := by rw [fstN, dif_pos h]
/-- the set of the digits -/
def letN (s : Int32) (r : Nat) : Int32 := if h : r = 0 then s else letN (s ||| (1 <<< (nI (r % 10) &&& 31))) (r / 10)
termination_by r
decreasing_by omega
theorem letN_0 (s : Int32) : letN s 0 = s := by unfold letN; rfl
theorem letN_s {s : Int32} {r : Nat} (h : r ≠ 0) : letN s r = letN (s ||| (1 <<< (nI (r % 10) &&& 31))) (r / 10) := by rw [letN, dif_neg h]
/-- every digit is 1 to 6 -/
def digN (r : Nat) : Bool := if h : r = 0 then true else inL (nI (r % 10)).toInt64 1 6 && digN (r / 10)
termination_by r
decreasing_by omega
theorem digN_0 : digN 0 = true := by unfold digN; rfl
theorem digN_s {r : Nat} (h : r ≠ 0) : digN r = (inL (nI (r % 10)).toInt64 1 6 && digN (r / 10)) := by rw [digN, dif_neg h]
/-- sixteen bits counted, from the k-th on -/
def bitF (a : Int32) : Nat → Nat → Int32 → Int32
  | 0, _, n => n
  | f + 1, k, n => bitF a f (k + 1) (n + ((a >>> (nI k &&& 31)) &&& 1))
def tenF : Nat → Int32 → Int32
  | 0, n => n
  | f + 1, n => tenF f (n * 10)
/-- the first place of c in a row of n, from k on -/
def plF (a : Nat → Int32) (c : Int32) : Nat → Nat → Int32
  | 0, _ => -1
  | f + 1, k => if a k = c then nI k else plF a c f (k + 1)
section C1
variable {X : Nat → va_E} {d : Nat} {h : AmH} {Q : Option Value → AmH → Prop} {S : mS}
theorem c_in {v lo hi : Int64}  (hQ : Q (some (.int (b2i (inL v lo hi)))) h) : Ca X (d + 0) 172 [.long v, .long lo, .long hi] h Q := by
  show Go X _ 172 0 [.long v, .float 0, .long lo, .float 0, .long hi, .float 0] [] h Q
  refine r_lload_n fe_172_0 rfl ?_
  refine r_lload_n fe_172_1 rfl ?_
  refine r_lcmp (v := (lg_cmp v lo)) fe_172_2 rfl ?_
  by_cases hb1 : am_if .lt (lg_cmp v lo) = true
  · refine r_if_t (t := 17) fe_172_3 (by decide) hb1 ?_
    refine r_iconst (v := 0) fe_172_17 (by decide) ?_
    refine r_iret fe_172_18 ⟨rfl, by decide⟩ ?_
    (simp only [if_lt_cmp, if_gt_cmp] at *; simp only [inL, b2i, Bool.not_true, Bool.not_false, Bool.false_and, Bool.and_false, Bool.true_and, Bool.and_true, if_true, if_false, Bool.false_eq_true, reduceIte, *] at hQ; exact hQ)
  · have hb1 := Bool.eq_false_iff.mpr hb1
    refine r_if_f (t := 17) fe_172_3 (by decide) hb1 ?_
    refine r_lload_n fe_172_6 rfl ?_
    refine r_lload fe_172_7 rfl ?_
    refine r_lcmp (v := (lg_cmp v hi)) fe_172_9 rfl ?_
    by_cases hb2 : am_if .gt (lg_cmp v hi) = true
    · refine r_if_t (t := 17) fe_172_10 (by decide) hb2 ?_
      refine r_iconst (v := 0) fe_172_17 (by decide) ?_
      refine r_iret fe_172_18 ⟨rfl, by decide⟩ ?_
      (simp only [if_lt_cmp, if_gt_cmp] at *; simp only [inL, b2i, Bool.not_true, Bool.not_false, Bool.false_and, Bool.and_false, Bool.true_and, Bool.and_true, if_true, if_false, Bool.false_eq_true, reduceIte, *] at hQ; exact hQ)
    · have hb2 := Bool.eq_false_iff.mpr hb2
      refine r_if_f (t := 17) fe_172_10 (by decide) hb2 ?_
      refine r_iconst (v := 1) fe_172_13 (by decide) ?_
      refine r_goto (t := 18) fe_172_14 (by decide) ?_
      refine r_iret fe_172_18 ⟨rfl, by decide⟩ ?_
      (simp only [if_lt_cmp, if_gt_cmp] at *; simp only [inL, b2i, Bool.not_true, Bool.not_false, Bool.false_and, Bool.and_false, Bool.true_and, Bool.and_true, if_true, if_false, Bool.false_eq_true, reduceIte, *] at hQ; exact hQ)
theorem c_has {a k : Int32}  (hQ : Q (some (.int (b2i (decide ((a >>> (k &&& 31)) &&& 1 = 1))))) h) : Ca X (d + 0) 199 [.int a, .int k] h Q := by
  show Go X _ 199 0 [.int a, .int k] [] h Q
  refine r_iload_n fe_199_0 rfl ?_
  refine r_iload_n fe_199_1 rfl ?_
  refine r_ishr (v := (a >>> (k &&& 31))) fe_199_2 rfl ?_
  refine r_iconst (v := 1) fe_199_3 (by decide) ?_
  refine r_iand (v := ((a >>> (k &&& 31)) &&& 1)) fe_199_4 rfl ?_
  refine r_iconst (v := 1) fe_199_5 (by decide) ?_
  by_cases hb1 : am_ic .ne ((a >>> (k &&& 31)) &&& 1) 1 = true
  · refine r_ic_t (t := 13) fe_199_6 (by decide) hb1 ?_
    refine r_iconst (v := 0) fe_199_13 (by decide) ?_
    refine r_iret fe_199_14 ⟨rfl, by decide⟩ ?_
    first | exact hQ | (simp only [b2i] at hQ; simp_all [am_ic])
  · have hb1 := Bool.eq_false_iff.mpr hb1
    refine r_ic_f (t := 13) fe_199_6 (by decide) hb1 ?_
    refine r_iconst (v := 1) fe_199_9 (by decide) ?_
    refine r_goto (t := 14) fe_199_10 (by decide) ?_
    refine r_iret fe_199_14 ⟨rfl, by decide⟩ ?_
    first | exact hQ | (simp only [b2i] at hQ; simp_all [am_ic])
theorem c_isRiver  (hh : 172 ≤ h.2.1) (hQ : Q (some (.int (b2i (!decide (S.2.1 1 0 ≤ 0))))) (mst S h)) : Ca X (d + 0) 210 [.ref 130] (mst S h) Q := by
  show Go X _ 210 0 [.ref 130] [] (mst S h) Q
  refine r_aload_n fe_210_0 rfl ?_
  refine mr_getf hh fe_210_1 lf_12_9 rfl ?_
  refine r_iconst (v := 0) fe_210_4 (by decide) ?_
  refine r_iald (j := 0) (v := S.2.1 1 0) fe_210_5 m_c_1 (m_lt hh (by decide)) (by decide) (by decide) (by decide) rfl ?_
  by_cases hb1 : am_if .le (S.2.1 1 0) = true
  · refine r_if_t (t := 13) fe_210_6 (by decide) hb1 ?_
    refine r_iconst (v := 0) fe_210_13 (by decide) ?_
    refine r_iret fe_210_14 ⟨rfl, by decide⟩ ?_
    (simp only [am_if] at *; simp only [b2i, Bool.not_true, Bool.not_false, Bool.false_and, Bool.and_false, Bool.true_and, Bool.and_true, if_true, if_false, Bool.false_eq_true, reduceIte, *] at hQ; exact hQ)
  · have hb1 := Bool.eq_false_iff.mpr hb1
    refine r_if_f (t := 13) fe_210_6 (by decide) hb1 ?_
    refine r_iconst (v := 1) fe_210_9 (by decide) ?_
    refine r_goto (t := 14) fe_210_10 (by decide) ?_
    refine r_iret fe_210_14 ⟨rfl, by decide⟩ ?_
    (simp only [am_if] at *; simp only [b2i, Bool.not_true, Bool.not_false, Bool.false_and, Bool.and_false, Bool.true_and, Bool.and_true, if_true, if_false, Bool.false_eq_true, reduceIte, *] at hQ; exact hQ)
theorem c_isCell {c : Int32} (hh : 172 ≤ h.2.1) (hQ : Q (some (.int (b2i (inL c.toInt64 0 (S.2.1 1 0 - 1).toInt64)))) (mst S h)) : Ca X (d + 1) 196 [.ref 130, .int c] (mst S h) Q := by
  show Go X _ 196 0 [.ref 130, .int c] [] (mst S h) Q
  refine r_iload_n fe_196_0 rfl ?_
  refine r_i2l (v := (Int32.toInt64 c)) fe_196_1 rfl ?_
  refine r_lconst (v := 0) fe_196_2 (by decide) ?_
  refine r_aload_n fe_196_3 rfl ?_
  refine mr_getf hh fe_196_4 lf_12_9 rfl ?_
  refine r_iconst (v := 0) fe_196_7 (by decide) ?_
  refine r_iald (j := 0) (v := S.2.1 1 0) fe_196_8 m_c_1 (m_lt hh (by decide)) (by decide) (by decide) (by decide) rfl ?_
  refine r_iconst (v := 1) fe_196_9 (by decide) ?_
  refine r_isub (v := ((S.2.1 1 0) - 1)) fe_196_10 rfl ?_
  refine r_i2l (v := (Int32.toInt64 ((S.2.1 1 0) - 1))) fe_196_11 rfl ?_
  refine r_callS (as := [.long (Int32.toInt64 c), .long 0, .long (Int32.toInt64 ((S.2.1 1 0) - 1))]) (r := []) fe_196_12 lm_12_143 md_172 rfl rfl (Nat.le_of_ble_eq_true rfl) (Nat.le_of_ble_eq_true rfl) (Nat.le_of_ble_eq_true rfl) ?_
  refine c_in ?_
  refine r_iret fe_196_15 ⟨b2i_z _, by decide⟩ ?_
  exact hQ
theorem c_isScrap {c : Int32} (hh : 172 ≤ h.2.1) (hQ : Q (some (.int (b2i (inL c.toInt64 0 (S.2.1 1 4 - 1).toInt64)))) (mst S h)) : Ca X (d + 1) 204 [.ref 130, .int c] (mst S h) Q := by
  show Go X _ 204 0 [.ref 130, .int c] [] (mst S h) Q
  refine r_iload_n fe_204_0 rfl ?_
  refine r_i2l (v := (Int32.toInt64 c)) fe_204_1 rfl ?_
  refine r_lconst (v := 0) fe_204_2 (by decide) ?_
  refine r_aload_n fe_204_3 rfl ?_
  refine mr_getf hh fe_204_4 lf_12_9 rfl ?_
  refine r_iconst (v := 4) fe_204_7 (by decide) ?_
  refine r_iald (j := 4) (v := S.2.1 1 4) fe_204_8 m_c_1 (m_lt hh (by decide)) (by decide) (by decide) (by decide) rfl ?_
  refine r_iconst (v := 1) fe_204_9 (by decide) ?_
  refine r_isub (v := ((S.2.1 1 4) - 1)) fe_204_10 rfl ?_
  refine r_i2l (v := (Int32.toInt64 ((S.2.1 1 4) - 1))) fe_204_11 rfl ?_
  refine r_callS (as := [.long (Int32.toInt64 c), .long 0, .long (Int32.toInt64 ((S.2.1 1 4) - 1))]) (r := []) fe_204_12 lm_12_143 md_172 rfl rfl (Nat.le_of_ble_eq_true rfl) (Nat.le_of_ble_eq_true rfl) (Nat.le_of_ble_eq_true rfl) ?_
  refine c_in ?_
  refine r_iret fe_204_15 ⟨b2i_z _, by decide⟩ ?_
  exact hQ
theorem c_floats {j : Nat} (hh : 172 ≤ h.2.1) (hj : j < 13) (hQ : Q (some (.int (b2i (decide (S.2.1 13 j = 0))))) (mst S h)) : Ca X (d + 0) 202 [.ref 130, .int (nI j)] (mst S h) Q := by
  show Go X _ 202 0 [.ref 130, .int (nI j)] [] (mst S h) Q
  refine r_aload_n fe_202_0 rfl ?_
  refine mr_getf hh fe_202_1 lf_12_46 rfl ?_
  refine r_iload_n fe_202_4 rfl ?_
  refine r_iald (j := j) (v := S.2.1 13 j) fe_202_5 m_c_13 (m_lt hh (by decide)) (nI_pos (by omega)) (nI_clamp (by omega)) (by omega) rfl ?_
  by_cases hb1 : am_if .ne (S.2.1 13 j) = true
  · refine r_if_t (t := 13) fe_202_6 (by decide) hb1 ?_
    refine r_iconst (v := 0) fe_202_13 (by decide) ?_
    refine r_iret fe_202_14 ⟨rfl, by decide⟩ ?_
    first | exact hQ | (simp only [b2i] at hQ; simp_all [am_if])
  · have hb1 := Bool.eq_false_iff.mpr hb1
    refine r_if_f (t := 13) fe_202_6 (by decide) hb1 ?_
    refine r_iconst (v := 1) fe_202_9 (by decide) ?_
    refine r_goto (t := 14) fe_202_10 (by decide) ?_
    refine r_iret fe_202_14 ⟨rfl, by decide⟩ ?_
    first | exact hQ | (simp only [b2i] at hQ; simp_all [am_if])
theorem l_lengthOf (D : Int32) : ∀ (r : Nat), r < 2 ^ 31 → ∀ (n : Nat), Q (some (.int (nI (n + lenN r)))) h → Go X d 217 4 [.int D, .int (nI n), .int (nI r)] [] h Q := by
  intro r
  induction r using Nat.strongRecOn with
  | ind r ih =>
    intro hr n hQ
    by_cases h0 : r = 0
    · refine r_iload_n fe_217_4 rfl ?_
      refine r_if_t (t := 19) fe_217_5 (by decide) (by rw [if_le_nI hr]; simp [h0]) ?_
      refine r_iload_n fe_217_19 rfl ?_
      refine r_iret fe_217_20 ⟨rfl, by decide⟩ ?_
      rw [h0, lenN_0, Nat.add_zero] at hQ
      exact hQ
    · refine r_iload_n fe_217_4 rfl ?_
      refine r_if_f (t := 19) fe_217_5 (by decide) (by rw [if_le_nI hr]; simp [h0]) ?_
      refine r_iload_n fe_217_8 rfl ?_
      refine r_bipush (v := 10) fe_217_9 (by decide) ?_
      refine r_idiv (v := (nI (r / 10))) fe_217_11 (by decide) (nI_d10 hr) ?_
      refine r_istore_n fe_217_12 (Nat.le_of_ble_eq_true rfl) rfl ?_
      refine r_iinc (v := (nI (n + 1))) fe_217_13 rfl (nI_inc1 n) rfl ?_
      refine r_goto (t := 4) fe_217_16 (by decide) ?_
      refine ih (r / 10) (by omega) (by omega) (n + 1) ?_
      rw [lenN_s h0] at hQ
      rw [show n + 1 + lenN (r / 10) = n + (lenN (r / 10) + 1) by omega]
      exact hQ
theorem c_lengthOf {r : Nat} (hr : r < 2 ^ 31) (hQ : Q (some (.int (nI (lenN r)))) h) : Ca X (d + 0) 217 [.int (nI r)] h Q := by
  show Go X _ 217 0 [.int (nI r), .float 0, .float 0] [] h Q
  refine r_iconst (v := 0) fe_217_0 (by decide) ?_
  refine r_istore_n fe_217_1 (Nat.le_of_ble_eq_true rfl) rfl ?_
  refine r_iload_n fe_217_2 rfl ?_
  refine r_istore_n fe_217_3 (Nat.le_of_ble_eq_true rfl) rfl ?_
  refine l_lengthOf (nI r) r hr 0 ?_
  rw [Nat.zero_add]
  exact hQ
theorem l_firstOf (D : Int32) : ∀ (r : Nat), r < 2 ^ 31 → Q (some (.int (nI (fstN r)))) h → Go X d 221 2 [.int D, .int (nI r)] [] h Q := by
  intro r
  induction r using Nat.strongRecOn with
  | ind r ih =>
    intro hr hQ
    by_cases h0 : r ≤ 9
    · refine r_iload_n fe_221_2 rfl ?_
      refine r_bipush (v := 9) fe_221_3 (by decide) ?_
      refine r_ic_t (t := 16) fe_221_5 (by decide) (by rw [show (9 : Int32) = nI 9 from rfl, ic_le_nI hr (by decide)]; simp [h0]) ?_
      refine r_iload_n fe_221_16 rfl ?_
      refine r_iret fe_221_17 ⟨rfl, by decide⟩ ?_
      rw [fstN_0 h0] at hQ
      exact hQ
    · refine r_iload_n fe_221_2 rfl ?_
      refine r_bipush (v := 9) fe_221_3 (by decide) ?_
      refine r_ic_f (t := 16) fe_221_5 (by decide) (by rw [show (9 : Int32) = nI 9 from rfl, ic_le_nI hr (by decide)]; simp [h0]) ?_
      refine r_iload_n fe_221_8 rfl ?_
      refine r_bipush (v := 10) fe_221_9 (by decide) ?_
      refine r_idiv (v := (nI (r / 10))) fe_221_11 (by decide) (nI_d10 hr) ?_
      refine r_istore_n fe_221_12 (Nat.le_of_ble_eq_true rfl) rfl ?_
      refine r_goto (t := 2) fe_221_13 (by decide) ?_
      rw [fstN_s h0] at hQ
      exact ih (r / 10) (by omega) (by omega) hQ
theorem c_firstOf {r : Nat} (hr : r < 2 ^ 31) (hQ : Q (some (.int (nI (fstN r)))) h) : Ca X (d + 0) 221 [.int (nI r)] h Q := by
  show Go X _ 221 0 [.int (nI r), .float 0] [] h Q
  refine r_iload_n fe_221_0 rfl ?_
  refine r_istore_n fe_221_1 (Nat.le_of_ble_eq_true rfl) rfl ?_
  exact l_firstOf (nI r) r hr hQ
theorem l_lettersOf (D : Int32) : ∀ (r : Nat), r < 2 ^ 31 → ∀ (n : Int32), Q (some (.int (letN n r))) h → Go X d 222 4 [.int D, .int n, .int (nI r)] [] h Q := by
  intro r
  induction r using Nat.strongRecOn with
  | ind r ih =>
    intro hr n hQ
    by_cases h0 : r = 0
    · refine r_iload_n fe_222_4 rfl ?_
      refine r_if_t (t := 25) fe_222_5 (by decide) (by rw [if_le_nI hr]; simp [h0]) ?_
      refine r_iload_n fe_222_25 rfl ?_
      refine r_iret fe_222_26 ⟨rfl, by decide⟩ ?_
      rw [h0, letN_0] at hQ
      exact hQ
    · refine r_iload_n fe_222_4 rfl ?_
      refine r_if_f (t := 25) fe_222_5 (by decide) (by rw [if_le_nI hr]; simp [h0]) ?_
      refine r_iload_n fe_222_8 rfl ?_
      refine r_iconst (v := 1) fe_222_9 (by decide) ?_
      refine r_iload_n fe_222_10 rfl ?_
      refine r_bipush (v := 10) fe_222_11 (by decide) ?_
      refine r_irem (v := (nI (r % 10))) fe_222_13 (by decide) (nI_m10 hr) ?_
      refine r_ishl (v := (1 <<< ((nI (r % 10)) &&& 31))) fe_222_14 rfl ?_
      refine r_ior (v := (n ||| (1 <<< ((nI (r % 10)) &&& 31)))) fe_222_15 rfl ?_
      refine r_istore_n fe_222_16 (Nat.le_of_ble_eq_true rfl) rfl ?_
      refine r_iload_n fe_222_17 rfl ?_
      refine r_bipush (v := 10) fe_222_18 (by decide) ?_
      refine r_idiv (v := (nI (r / 10))) fe_222_20 (by decide) (nI_d10 hr) ?_
      refine r_istore_n fe_222_21 (Nat.le_of_ble_eq_true rfl) rfl ?_
      refine r_goto (t := 4) fe_222_22 (by decide) ?_
      rw [letN_s h0] at hQ
      exact ih (r / 10) (by omega) (by omega) _ hQ
theorem c_lettersOf {r : Nat} (hr : r < 2 ^ 31) (hQ : Q (some (.int (letN 0 r))) h) : Ca X (d + 0) 222 [.int (nI r)] h Q := by
  show Go X _ 222 0 [.int (nI r), .float 0, .float 0] [] h Q
  refine r_iconst (v := 0) fe_222_0 (by decide) ?_
  refine r_istore_n fe_222_1 (Nat.le_of_ble_eq_true rfl) rfl ?_
  refine r_iload_n fe_222_2 rfl ?_
  refine r_istore_n fe_222_3 (Nat.le_of_ble_eq_true rfl) rfl ?_
  exact l_lettersOf (nI r) r hr 0 hQ
theorem l_bits (a : Int32) : ∀ (f k : Nat), k + f = 16 → ∀ (n : Int32), Q (some (.int (bitF a f k n))) h → Go X d 223 4 [.int a, .int n, .int (nI k)] [] h Q := by
  intro f
  induction f with
  | zero =>
    intro k hk n hQ
    refine r_iload_n fe_223_4 rfl ?_
    refine r_bipush (v := 16) fe_223_5 (by decide) ?_
    refine r_ic_t (t := 24) fe_223_7 (by decide) (by rw [show (16 : Int32) = nI 16 from rfl, ic_ge_nI (by omega) (by decide)]; simp; omega) ?_
    refine r_iload_n fe_223_24 rfl ?_
    refine r_iret fe_223_25 ⟨rfl, by decide⟩ ?_
    exact hQ
  | succ f ih =>
    intro k hk n hQ
    refine r_iload_n fe_223_4 rfl ?_
    refine r_bipush (v := 16) fe_223_5 (by decide) ?_
    refine r_ic_f (t := 24) fe_223_7 (by decide) (by rw [show (16 : Int32) = nI 16 from rfl, ic_ge_nI (by omega) (by decide)]; simp; omega) ?_
    refine r_iload_n fe_223_10 rfl ?_
    refine r_iload_n fe_223_11 rfl ?_
    refine r_iload_n fe_223_12 rfl ?_
    refine r_ishr (v := (a >>> ((nI k) &&& 31))) fe_223_13 rfl ?_
    refine r_iconst (v := 1) fe_223_14 (by decide) ?_
    refine r_iand (v := ((a >>> ((nI k) &&& 31)) &&& 1)) fe_223_15 rfl ?_
    refine r_iadd (v := (n + ((a >>> ((nI k) &&& 31)) &&& 1))) fe_223_16 rfl ?_
    refine r_istore_n fe_223_17 (Nat.le_of_ble_eq_true rfl) rfl ?_
    refine r_iinc (v := (nI (k + 1))) fe_223_18 rfl (nI_inc1 k) rfl ?_
    refine r_goto (t := 4) fe_223_21 (by decide) ?_
    exact ih (k + 1) (by omega) _ hQ
theorem c_bits {a : Int32}  (hQ : Q (some (.int (bitF a 16 0 0))) h) : Ca X (d + 0) 223 [.int a] h Q := by
  show Go X _ 223 0 [.int a, .float 0, .float 0] [] h Q
  refine r_iconst (v := 0) fe_223_0 (by decide) ?_
  refine r_istore_n fe_223_1 (Nat.le_of_ble_eq_true rfl) rfl ?_
  refine r_iconst (v := 0) fe_223_2 (by decide) ?_
  refine r_istore_n fe_223_3 (Nat.le_of_ble_eq_true rfl) rfl ?_
  exact l_bits a 16 0 rfl 0 hQ
theorem l_tens (t : Nat) (ht : t < 2 ^ 31) : ∀ (f k : Nat), k + f = t → ∀ (n : Int32), Q (some (.int (tenF f n))) h → Go X d 228 4 [.int (nI t), .int n, .int (nI k)] [] h Q := by
  intro f
  induction f with
  | zero =>
    intro k hk n hQ
    refine r_iload_n fe_228_4 rfl ?_
    refine r_iload_n fe_228_5 rfl ?_
    refine r_ic_t (t := 20) fe_228_6 (by decide) (by rw [ic_ge_nI (by omega) ht]; simp; omega) ?_
    refine r_iload_n fe_228_20 rfl ?_
    refine r_iret fe_228_21 ⟨rfl, by decide⟩ ?_
    exact hQ
  | succ f ih =>
    intro k hk n hQ
    refine r_iload_n fe_228_4 rfl ?_
    refine r_iload_n fe_228_5 rfl ?_
    refine r_ic_f (t := 20) fe_228_6 (by decide) (by rw [ic_ge_nI (by omega) ht]; simp; omega) ?_
    refine r_iload_n fe_228_9 rfl ?_
    refine r_bipush (v := 10) fe_228_10 (by decide) ?_
    refine r_imul (v := (n * 10)) fe_228_12 rfl ?_
    refine r_istore_n fe_228_13 (Nat.le_of_ble_eq_true rfl) rfl ?_
    refine r_iinc (v := (nI (k + 1))) fe_228_14 rfl (nI_inc1 k) rfl ?_
    refine r_goto (t := 4) fe_228_17 (by decide) ?_
    exact ih (k + 1) (by omega) _ hQ
theorem c_tens {t : Nat} (ht : t < 2 ^ 31) (hQ : Q (some (.int (tenF t 1))) h) : Ca X (d + 0) 228 [.int (nI t)] h Q := by
  show Go X _ 228 0 [.int (nI t), .float 0, .float 0] [] h Q
  refine r_iconst (v := 1) fe_228_0 (by decide) ?_
  refine r_istore_n fe_228_1 (Nat.le_of_ble_eq_true rfl) rfl ?_
  refine r_iconst (v := 0) fe_228_2 (by decide) ?_
  refine r_istore_n fe_228_3 (Nat.le_of_ble_eq_true rfl) rfl ?_
  exact l_tens t ht t 0 (Nat.zero_add t) 1 hQ
theorem l_isText (D : Int32) : ∀ (r : Nat), r < 2 ^ 31 → Q (some (.int (b2i (digN r)))) h → Go X (d + 1) 231 18 [.int D, .int (nI r)] [] h Q := by
  intro r
  induction r using Nat.strongRecOn with
  | ind r ih =>
    intro hr hQ
    by_cases h0 : r = 0
    · refine r_iload_n fe_231_18 rfl ?_
      refine r_if_t (t := 47) fe_231_19 (by decide) (by rw [if_le_nI hr]; simp [h0]) ?_
      refine r_iconst (v := 1) fe_231_47 (by decide) ?_
      refine r_iret fe_231_48 ⟨rfl, by decide⟩ ?_
      rw [h0, digN_0] at hQ
      exact hQ
    · cases h2 : inL (nI (r % 10)).toInt64 1 6 with
      | false =>
        refine r_iload_n fe_231_18 rfl ?_
        refine r_if_f (t := 47) fe_231_19 (by decide) (by rw [if_le_nI hr]; simp [h0]) ?_
        refine r_iload_n fe_231_22 rfl ?_
        refine r_bipush (v := 10) fe_231_23 (by decide) ?_
        refine r_irem (v := (nI (r % 10))) fe_231_25 (by decide) (nI_m10 hr) ?_
        refine r_i2l (v := (Int32.toInt64 (nI (r % 10)))) fe_231_26 rfl ?_
        refine r_lconst (v := 1) fe_231_27 (by decide) ?_
        refine r_ldc2 fe_231_28 lk_12_155 ?_
        refine r_callS (as := [.long (Int32.toInt64 (nI (r % 10))), .long 1, .long 6]) (r := []) fe_231_31 lm_12_143 md_172 rfl rfl (Nat.le_of_ble_eq_true rfl) (Nat.le_of_ble_eq_true rfl) (Nat.le_of_ble_eq_true rfl) ?_
        refine c_in ?_
        refine r_if_f (t := 39) fe_231_34 (by decide) (by rw [if_ne_b2i]; exact h2) ?_
        refine r_iconst (v := 0) fe_231_37 (by decide) ?_
        refine r_iret fe_231_38 ⟨rfl, by decide⟩ ?_
        rw [digN_s h0, h2] at hQ
        exact hQ
      | true =>
        refine r_iload_n fe_231_18 rfl ?_
        refine r_if_f (t := 47) fe_231_19 (by decide) (by rw [if_le_nI hr]; simp [h0]) ?_
        refine r_iload_n fe_231_22 rfl ?_
        refine r_bipush (v := 10) fe_231_23 (by decide) ?_
        refine r_irem (v := (nI (r % 10))) fe_231_25 (by decide) (nI_m10 hr) ?_
        refine r_i2l (v := (Int32.toInt64 (nI (r % 10)))) fe_231_26 rfl ?_
        refine r_lconst (v := 1) fe_231_27 (by decide) ?_
        refine r_ldc2 fe_231_28 lk_12_155 ?_
        refine r_callS (as := [.long (Int32.toInt64 (nI (r % 10))), .long 1, .long 6]) (r := []) fe_231_31 lm_12_143 md_172 rfl rfl (Nat.le_of_ble_eq_true rfl) (Nat.le_of_ble_eq_true rfl) (Nat.le_of_ble_eq_true rfl) ?_
        refine c_in ?_
        refine r_if_t (t := 39) fe_231_34 (by decide) (by rw [if_ne_b2i]; exact h2) ?_
        refine r_iload_n fe_231_39 rfl ?_
        refine r_bipush (v := 10) fe_231_40 (by decide) ?_
        refine r_idiv (v := (nI (r / 10))) fe_231_42 (by decide) (nI_d10 hr) ?_
        refine r_istore_n fe_231_43 (Nat.le_of_ble_eq_true rfl) rfl ?_
        refine r_goto (t := 18) fe_231_44 (by decide) ?_
        rw [digN_s h0, h2, Bool.true_and] at hQ
        exact ih (r / 10) (by omega) (by omega) hQ
/-- a text: one to eight digits, each 1 to 6 -/
def isTx (r : Nat) : Bool := decide (1 ≤ r) && (decide (lenN r ≤ 8) && digN r)
theorem nI_neg {x : Int32} (hx : x < 0) : am_ic .lt x 1 = true := by
  unfold am_ic
  rw [decide_eq_true_eq, Int32.lt_iff_toInt_lt] at *
  have e0 : (0 : Int32).toInt = 0 := by decide
  have e1 : (1 : Int32).toInt = 1 := by decide
  omega
theorem lenN_le : ∀ {r : Nat}, r < 2 ^ 31 → lenN r ≤ 10 := by
  have key : ∀ (k r : Nat), r < 10 ^ k → lenN r ≤ k := by
    intro k
    induction k with
    | zero => intro r hr; obtain rfl : r = 0 := by omega
              rw [lenN_0]; exact Nat.le_refl _
    | succ k ih =>
      intro r hr
      by_cases h : r = 0
      · subst h; rw [lenN_0]; exact Nat.zero_le _
      · rw [lenN_s h]
        have := ih (r / 10) (by rw [Nat.pow_succ] at hr; omega)
        omega
  intro r hr
  exact key 10 r (Nat.lt_of_lt_of_le hr (by decide))
theorem c_isText {r : Nat} (hr : r < 2 ^ 31) (hQ : Q (some (.int (b2i (isTx r)))) h) : Ca X (d + 1) 231 [.int (nI r)] h Q := by
  show Go X _ 231 0 [.int (nI r), .float 0] [] h Q
  by_cases h1 : 1 ≤ r
  · by_cases h2 : lenN r ≤ 8
    · refine r_iload_n fe_231_0 rfl ?_
      refine r_iconst (v := 1) fe_231_1 (by decide) ?_
      refine r_ic_f (t := 14) fe_231_2 (by decide) (by rw [show (1 : Int32) = nI 1 from rfl, ic_lt_nI hr (by decide)]; simp; omega) ?_
      refine r_iload_n fe_231_5 rfl ?_
      refine r_callS (as := [.int (nI r)]) (r := []) fe_231_6 lm_12_151 md_217 rfl rfl (Nat.le_of_ble_eq_true rfl) (Nat.le_of_ble_eq_true rfl) (Nat.le_of_ble_eq_true rfl) ?_
      refine c_lengthOf hr ?_
      refine r_bipush (v := 8) fe_231_9 (by decide) ?_
      refine r_ic_t (t := 16) fe_231_11 (by decide) (by rw [show (8 : Int32) = nI 8 from rfl, ic_le_nI (by have := lenN_le hr; omega) (by decide)]; simp; omega) ?_
      refine r_iload_n fe_231_16 rfl ?_
      refine r_istore_n fe_231_17 (Nat.le_of_ble_eq_true rfl) rfl ?_
      exact l_isText (nI r) r hr (by simpa [isTx, h1, h2] using hQ)
    · refine r_iload_n fe_231_0 rfl ?_
      refine r_iconst (v := 1) fe_231_1 (by decide) ?_
      refine r_ic_f (t := 14) fe_231_2 (by decide) (by rw [show (1 : Int32) = nI 1 from rfl, ic_lt_nI hr (by decide)]; simp; omega) ?_
      refine r_iload_n fe_231_5 rfl ?_
      refine r_callS (as := [.int (nI r)]) (r := []) fe_231_6 lm_12_151 md_217 rfl rfl (Nat.le_of_ble_eq_true rfl) (Nat.le_of_ble_eq_true rfl) (Nat.le_of_ble_eq_true rfl) ?_
      refine c_lengthOf hr ?_
      refine r_bipush (v := 8) fe_231_9 (by decide) ?_
      refine r_ic_f (t := 16) fe_231_11 (by decide) (by rw [show (8 : Int32) = nI 8 from rfl, ic_le_nI (by have := lenN_le hr; omega) (by decide)]; simp; omega) ?_
      refine r_iconst (v := 0) fe_231_14 (by decide) ?_
      refine r_iret fe_231_15 ⟨rfl, by decide⟩ ?_
      simpa [isTx, h1, h2, b2i] using hQ
  · refine r_iload_n fe_231_0 rfl ?_
    refine r_iconst (v := 1) fe_231_1 (by decide) ?_
    refine r_ic_t (t := 14) fe_231_2 (by decide) (by rw [show (1 : Int32) = nI 1 from rfl, ic_lt_nI hr (by decide)]; simp; omega) ?_
    refine r_iconst (v := 0) fe_231_14 (by decide) ?_
    refine r_iret fe_231_15 ⟨rfl, by decide⟩ ?_
    simpa [isTx, h1, b2i] using hQ
end C1
