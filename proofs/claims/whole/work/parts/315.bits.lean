/-! bits (bt .. b_sshr, nx_and .. nx_ush, bp_b: from the given bits family) -/
def bt (x : Int32) (i : Nat) : Bool := x.toBitVec.getLsbD i
theorem b_ext {x y : Int32} (h : ∀ i, i < 32 → bt x i = bt y i) : x = y := Int32.toBitVec_inj.mp (BitVec.eq_of_getLsbD_eq (fun i hi => h i hi))
theorem b_or (x y : Int32) (i : Nat) : bt (x ||| y) i = (bt x i || bt y i) := by unfold bt; rw [Int32.toBitVec_or, BitVec.getLsbD_or]
theorem b_and (x y : Int32) (i : Nat) : bt (x &&& y) i = (bt x i && bt y i) := by unfold bt; rw [Int32.toBitVec_and, BitVec.getLsbD_and]
theorem b_xor (x y : Int32) (i : Nat) : bt (x ^^^ y) i = (bt x i ^^ bt y i) := by unfold bt; rw [Int32.toBitVec_xor, BitVec.getLsbD_xor]
theorem b_big {x : Int32} {i : Nat} (h : 32 ≤ i) : bt x i = false := BitVec.getLsbD_of_ge _ _ h
theorem b_255 (i : Nat) : bt 255 i = decide (i < 8) := by
  rcases Nat.lt_or_ge i 32 with h | h
  · exact (by decide +kernel : ∀ i, i < 32 → bt 255 i = decide (i < 8)) i h
  · rw [b_big h, decide_eq_false (by omega)]
theorem b_65535 (i : Nat) : bt 65535 i = decide (i < 16) := by
  rcases Nat.lt_or_ge i 32 with h | h
  · exact (by decide +kernel : ∀ i, i < 32 → bt 65535 i = decide (i < 16)) i h
  · rw [b_big h, decide_eq_false (by omega)]
theorem b_m1 : ∀ i, i < 32 → bt (-1) i = true := by decide +kernel
theorem b_0 (i : Nat) : bt 0 i = false := BitVec.getLsbD_zero
theorem s_l : ∀ n, n < 32 → ((nI n &&& 31).toBitVec.smod 32).toNat = n := by decide +kernel
theorem s_u : ∀ n, n < 32 → (((nI n).toUInt32 &&& Int32.toUInt32 31).toBitVec % 32).toNat = n := by decide +kernel
theorem b_shl (n : Nat) (hn : n < 32) (x : Int32) {i : Nat} (hi : i < 32) : bt (x <<< (nI n &&& 31)) i = (decide (n ≤ i) && bt x (i - n)) := by
  unfold bt
  rw [Int32.toBitVec_shiftLeft]
  show (x.toBitVec <<< ((nI n &&& 31).toBitVec.smod 32).toNat).getLsbD i = _
  rw [s_l n hn, BitVec.getLsbD_shiftLeft]
  rcases Nat.lt_or_ge i n with h | h
  · simp [h, Nat.not_le.mpr h]
  · simp [hi, h, Nat.not_lt.mpr h]
theorem b_ushr (n : Nat) (hn : n < 32) (x : Int32) (i : Nat) : bt ((x.toUInt32 >>> ((nI n).toUInt32 &&& Int32.toUInt32 31)).toInt32) i = bt x (n + i) := by
  show (x.toUInt32 >>> ((nI n).toUInt32 &&& Int32.toUInt32 31)).toBitVec.getLsbD i = x.toUInt32.toBitVec.getLsbD (n + i)
  rw [UInt32.toBitVec_shiftRight]
  show (x.toUInt32.toBitVec >>> (((nI n).toUInt32 &&& Int32.toUInt32 31).toBitVec % 32).toNat).getLsbD i = _
  rw [s_u n hn, BitVec.getLsbD_ushiftRight]
theorem b_sshr (n : Nat) (hn : n < 32) (x : Int32) {i : Nat} (hi : i < 32) : bt (x >>> (nI n &&& 31)) i = if n + i < 32 then bt x (n + i) else bt x 31 := by
  unfold bt
  rw [Int32.toBitVec_shiftRight]
  show (x.toBitVec.sshiftRight ((nI n &&& 31).toBitVec.smod 32).toNat).getLsbD i = _
  rw [s_l n hn, BitVec.getLsbD_sshiftRight, BitVec.msb_eq_getLsbD_last]
  simp [hi]
theorem nx_and (a b : Nat) : nI a &&& nI b = nI (a &&& b) := by
  apply Int32.toBitVec_inj.1
  show BitVec.ofNat 32 a &&& BitVec.ofNat 32 b = BitVec.ofNat 32 (a &&& b)
  apply BitVec.eq_of_getLsbD_eq
  intro i hi
  simp [hi]
theorem nx_xor (a b : Nat) : nI a ^^^ nI b = nI (a ^^^ b) := by
  apply Int32.toBitVec_inj.1
  show BitVec.ofNat 32 a ^^^ BitVec.ofNat 32 b = BitVec.ofNat 32 (a ^^^ b)
  apply BitVec.eq_of_getLsbD_eq
  intro i hi
  simp [hi]
theorem nx_cnt : ∀ j : Fin 32, (UInt32.ofNat j.val &&& Int32.toUInt32 31).toNat % 32 = j.val := by decide +kernel
theorem nx_ush {k j : Nat} (hk : k < 65536) (hj : j < 32) : ((nI k).toUInt32 >>> ((nI j).toUInt32 &&& Int32.toUInt32 31)).toInt32 = nI (k >>> j) := by
  have hs : k >>> j ≤ k := by
    rw [Nat.shiftRight_eq_div_pow]
    exact Nat.div_le_self _ _
  have e2 : UInt32.ofNat k >>> (UInt32.ofNat j &&& Int32.toUInt32 31) = UInt32.ofNat (k >>> j) := by
    apply UInt32.toNat_inj.1
    have h1 : (UInt32.ofNat k).toNat = k := Nat.mod_eq_of_lt (by omega)
    have h2 : (UInt32.ofNat (k >>> j)).toNat = k >>> j := Nat.mod_eq_of_lt (by omega)
    rw [UInt32.toNat_shiftRight, nx_cnt ⟨j, hj⟩, h1, h2]
  show (UInt32.ofNat k >>> (UInt32.ofNat j &&& Int32.toUInt32 31)).toInt32 = _
  rw [e2]
  rfl
theorem bp_b (x : Int32) : x.toInt8.toInt32 &&& 255 = x &&& 255 := by
  apply Int32.toBitVec_inj.mp
  rw [Int32.toBitVec_and, Int32.toBitVec_and, Int8.toBitVec_toInt32, Int32.toBitVec_toInt8]
  apply BitVec.eq_of_getLsbD_eq
  intro i hi
  rw [BitVec.getLsbD_and, BitVec.getLsbD_and]
  have hm : ∀ i < 32, 8 ≤ i → (255 : Int32).toBitVec.getLsbD i = false := by decide
  rcases Nat.lt_or_ge i 8 with z | z
  · rw [BitVec.getLsbD_signExtend, BitVec.getLsbD_signExtend, if_pos z, if_pos hi]
    simp only [z, hi, decide_true, Bool.true_and]
  · rw [hm i hi z]; simp

theorem nx_or (a b : Nat) : nI a ||| nI b = nI (a ||| b) := by
  apply Int32.toBitVec_inj.1
  show BitVec.ofNat 32 a ||| BitVec.ofNat 32 b = BitVec.ofNat 32 (a ||| b)
  apply BitVec.eq_of_getLsbD_eq
  intro i hi
  simp [hi]
theorem bt_nI {a i : Nat} (hi : i < 32) : bt (nI a) i = a.testBit i := by
  show (BitVec.ofNat 32 a).getLsbD i = _
  rw [BitVec.getLsbD_ofNat]
  simp [hi]
theorem nI_shl {s : Nat} (hs : s < 31) : nI 1 <<< (nI s &&& nI 31) = nI (2 ^ s) := (by decide +kernel : ∀ s, s < 31 → nI 1 <<< (nI s &&& nI 31) = nI (2 ^ s)) s hs
theorem nI_shr {a s : Nat} (ha : a < 2 ^ 31) (hs : s < 32) : nI a >>> (nI s &&& nI 31) = nI (a >>> s) := by
  apply b_ext
  intro i hi
  have e := b_sshr s hs (nI a) hi
  have e2 : bt (nI a >>> (nI s &&& nI 31)) i = bt (nI a >>> (nI s &&& 31)) i := rfl
  rw [e2, e, bt_nI hi, Nat.testBit_shiftRight]
  by_cases h : s + i < 32
  · rw [if_pos h, bt_nI h]
  · rw [if_neg h, bt_nI (by omega), Nat.testBit_lt_two_pow ha, Nat.testBit_lt_two_pow (Nat.lt_of_lt_of_le ha (Nat.pow_le_pow_right (by decide) (by omega)))]
theorem nI_shl2 {s : Nat} (hs : s < 31) : nI 1 <<< nI (s &&& 31) = nI (2 ^ s) := by
  rw [← nx_and]
  exact nI_shl hs
theorem nI_shr2 {a s : Nat} (ha : a < 2 ^ 31) (hs : s < 32) : nI a >>> nI (s &&& 31) = nI (a >>> s) := by
  rw [← nx_and]
  exact nI_shr ha hs
theorem nI_bit {a s : Nat} (ha : a < 2 ^ 31) (hs : s < 32) : (nI a >>> (nI s &&& nI 31)) &&& nI 1 = b2i (a.testBit s) := by
  rw [nI_shr ha hs, nx_and, Nat.and_one_is_mod, Nat.testBit_eq_decide_div_mod_eq, Nat.shiftRight_eq_div_pow]
  generalize a / 2 ^ s = z
  rcases Nat.mod_two_eq_zero_or_one z with h | h <;> rw [h] <;> rfl
theorem ic_ne_b2i (b : Bool) : am_ic .ne (b2i b) (nI 1) = !b := by cases b <;> rfl
theorem ic_eq_b2i (b : Bool) : am_ic .eq (b2i b) (nI 1) = b := by cases b <;> rfl
theorem nI_dif (a b : Nat) : nI a &&& (nI b ^^^ zI 0) = nI (a ^^^ (a &&& b)) := by
  apply b_ext
  intro i hi
  rw [b_and, b_xor, bt_nI hi, bt_nI hi, bt_nI hi, Nat.testBit_xor, Nat.testBit_and, zI_0, b_m1 i hi]
  cases a.testBit i <;> cases b.testBit i <;> rfl
/-- how many of j, j + 1, .., m of them, are such -/
def ctF (P : Nat → Bool) : Nat → Nat → Nat
  | 0, _ => 0
  | m + 1, j => (if P j = true then 1 else 0) + ctF P m (j + 1)
theorem ctF_s {P : Nat → Bool} {m j : Nat} : ctF P (m + 1) j = (if P j = true then 1 else 0) + ctF P m (j + 1) := rfl
theorem ctF_le (P : Nat → Bool) : ∀ m j, ctF P m j ≤ m
  | 0, _ => Nat.le_refl 0
  | m + 1, j => by
    have := ctF_le P m (j + 1)
    unfold ctF
    by_cases h : P j = true <;> simp only [h, if_true, if_false, Bool.false_eq_true] <;> omega
theorem ctF_eq {P Q : Nat → Bool} : ∀ m j, (∀ i, j ≤ i → i < j + m → P i = Q i) → ctF P m j = ctF Q m j
  | 0, _, _ => rfl
  | m + 1, j, h => by
    unfold ctF
    rw [h j (Nat.le_refl _) (by omega), ctF_eq m (j + 1) (fun i h1 h2 => h i (by omega) (by omega))]
theorem ctF_0 {P : Nat → Bool} : ∀ m j, (∀ i, j ≤ i → i < j + m → P i = false) → ctF P m j = 0
  | 0, _, _ => rfl
  | m + 1, j, h => by
    unfold ctF
    rw [h j (Nat.le_refl _) (by omega), ctF_0 m (j + 1) (fun i h1 h2 => h i (by omega) (by omega))]
    rfl
theorem ctF_add {P : Nat → Bool} : ∀ m k j, ctF P (m + k) j = ctF P m j + ctF P k (j + m)
  | 0, k, j => by
    rw [Nat.zero_add, Nat.add_zero]
    show _ = 0 + _
    rw [Nat.zero_add]
  | m + 1, k, j => by
    rw [show m + 1 + k = (m + k) + 1 by omega, ctF_s, ctF_s, ctF_add m k (j + 1), show j + 1 + m = j + (m + 1) by omega]
    omega
/-- one place more -/
theorem ctF_up {P Q : Nat → Bool} {s : Nat} : ∀ m j, j ≤ s → s < j + m → (∀ i, i ≠ s → Q i = P i) → P s = false → Q s = true → ctF Q m j = ctF P m j + 1
  | 0, j, h1, h2, _, _, _ => by omega
  | m + 1, j, h1, h2, h3, h4, h5 => by
    unfold ctF
    by_cases e : j = s
    · subst e
      rw [h4, h5, ctF_eq (P := Q) (Q := P) m (j + 1) (fun i a _ => h3 i (by omega))]
      simp only [if_true, Bool.false_eq_true, if_false]
      omega
    · rw [h3 j e, ctF_up m (j + 1) (by omega) (by omega) h3 h4 h5]
      omega
theorem ctF_pos {P : Nat → Bool} {s : Nat} : ∀ m j, j ≤ s → s < j + m → P s = true → 1 ≤ ctF P m j
  | 0, j, h1, h2, _ => by omega
  | m + 1, j, h1, h2, h => by
    unfold ctF
    by_cases e : j = s
    · subst e
      rw [if_pos h]
      omega
    · have := ctF_pos m (j + 1) (by omega) (by omega) h
      omega
theorem ctF_le2 {P Q : Nat → Bool} : ∀ m j, (∀ i, j ≤ i → i < j + m → P i = true → Q i = true) → ctF P m j ≤ ctF Q m j
  | 0, _, _ => Nat.le_refl 0
  | m + 1, j, h => by
    have := ctF_le2 (P := P) (Q := Q) m (j + 1) (fun i h1 h2 => h i (by omega) (by omega))
    have h0 := h j (Nat.le_refl _) (by omega)
    unfold ctF
    by_cases hp : P j = true
    · rw [if_pos hp, if_pos (h0 hp)]
      omega
    · rw [if_neg hp]
      omega
/-- the set, as bits, of those of j, j + 1, .. that are such -/
def bsF (P : Nat → Bool) : Nat → Nat → Nat → Nat
  | 0, _, x => x
  | m + 1, j, x => bsF P m (j + 1) (if P j = true then x ||| 2 ^ j else x)
theorem bsF_tb {P : Nat → Bool} : ∀ m j x k, (bsF P m j x).testBit k = (x.testBit k || (decide (j ≤ k ∧ k < j + m) && P k))
  | 0, j, x, k => by
    unfold bsF
    rw [decide_eq_false (by omega)]
    simp
  | m + 1, j, x, k => by
    unfold bsF
    rw [bsF_tb m (j + 1) _ k]
    by_cases hp : P j = true
    · rw [if_pos hp, Nat.testBit_or, Nat.testBit_two_pow]
      by_cases e : j = k
      · subst e
        rw [hp]
        simp
      · have hd : decide (j + 1 ≤ k ∧ k < j + 1 + m) = decide (j ≤ k ∧ k < j + (m + 1)) := decide_eq_decide.mpr (by omega)
        rw [decide_eq_false e, hd]
        simp
    · rw [if_neg hp]
      by_cases e : j = k
      · subst e
        rw [Bool.not_eq_true] at hp
        rw [hp]
        simp
      · rw [decide_eq_decide.mpr (show (j + 1 ≤ k ∧ k < j + 1 + m) ↔ (j ≤ k ∧ k < j + (m + 1)) by omega)]
theorem bsF_lt {P : Nat → Bool} {N : Nat} : ∀ m j x, x < 2 ^ N → j + m ≤ N → bsF P m j x < 2 ^ N
  | 0, j, x, h, _ => h
  | m + 1, j, x, h, h2 => by
    unfold bsF
    refine bsF_lt m (j + 1) _ ?_ (by omega)
    by_cases hp : P j = true
    · rw [if_pos hp]
      exact Nat.or_lt_two_pow h (Nat.pow_lt_pow_right (by decide) (by omega))
    · rw [if_neg hp]
      exact h
def bsN (P : Nat → Bool) (n : Nat) : Nat := bsF P n 0 0
theorem bsN_tb {P : Nat → Bool} {n k : Nat} : (bsN P n).testBit k = (decide (k < n) && P k) := by
  unfold bsN
  rw [bsF_tb, Nat.zero_testBit, Bool.false_or, decide_eq_decide.mpr (show (0 ≤ k ∧ k < 0 + n) ↔ k < n by omega)]
theorem bsN_lt {P : Nat → Bool} {n N : Nat} (h : n ≤ N) : bsN P n < 2 ^ N := bsF_lt n 0 0 (Nat.pow_pos (by decide)) (by omega)
theorem bsN_eq {P Q : Nat → Bool} {n : Nat} (h : ∀ i, i < n → P i = Q i) : bsN P n = bsN Q n := by
  apply Nat.eq_of_testBit_eq
  intro k
  rw [bsN_tb, bsN_tb]
  by_cases hk : k < n
  · rw [h k hk]
  · rw [decide_eq_false hk]
    rfl
/-- bits counted by the reference -/
theorem bitF_ct {a : Nat} (ha : a < 2 ^ 31) : ∀ (f k n : Nat), k + f ≤ 31 → bitF (nI a) f k (nI n) = nI (n + ctF a.testBit f k)
  | 0, k, n, _ => rfl
  | f + 1, k, n, h => by
    unfold bitF ctF
    have e : (nI a >>> (nI k &&& 31)) &&& 1 = b2i (a.testBit k) := nI_bit ha (by omega)
    rw [e]
    have e2 : nI n + b2i (a.testBit k) = nI (n + if a.testBit k = true then 1 else 0) := by
      cases a.testBit k <;> exact nI_add _ _
    rw [e2, bitF_ct ha f (k + 1) _ (by omega), Nat.add_assoc]
theorem ct_bs {P : Nat → Bool} {n m : Nat} (h : n ≤ m) : ctF (bsN P n).testBit m 0 = ctF P n 0 := by
  obtain ⟨k, rfl⟩ : ∃ k, m = n + k := ⟨m - n, by omega⟩
  rw [ctF_add, ctF_0 k (0 + n) (fun i h1 h2 => by rw [bsN_tb, decide_eq_false (by omega)]; rfl), Nat.add_zero]
  exact ctF_eq n 0 (fun i h1 h2 => by rw [bsN_tb, decide_eq_true (by omega)]; rfl)
/-- bits counted by the library -/
def bcS (x : Nat) : Nat :=
  let a := x - ((x >>> 1) &&& 1431655765)
  let b := (a &&& 858993459) + ((a >>> 2) &&& 858993459)
  let c := (b + (b >>> 4)) &&& 252645135
  let d := c + (c >>> 8)
  (d + (d >>> 16)) &&& 63
theorem sp_t {a y k : Nat} (ha : a < 256) : (a + 256 * y).testBit k = if k < 8 then a.testBit k else y.testBit (k - 8) := by
  have := Nat.testBit_two_pow_mul_add y (b := a) (i := 8) ha k
  rw [Nat.add_comm]
  exact this
theorem and_256 {a m : Nat} (ha : a < 256) : a &&& m < 256 := Nat.lt_of_le_of_lt Nat.and_le_left ha
theorem sp_and {a y m M : Nat} (ha : a < 256) (hm : m < 256) : (a + 256 * y) &&& (m + 256 * M) = (a &&& m) + 256 * (y &&& M) := by
  apply Nat.eq_of_testBit_eq
  intro k
  rw [Nat.testBit_and, sp_t ha, sp_t hm, sp_t (and_256 ha), Nat.testBit_and, Nat.testBit_and]
  by_cases h : k < 8
  · rw [if_pos h, if_pos h, if_pos h]
  · rw [if_neg h, if_neg h, if_neg h]
theorem shr_le (a s : Nat) : a >>> s ≤ a := by
  rw [Nat.shiftRight_eq_div_pow]
  exact Nat.div_le_self _ _
theorem sp_sh {a y s m M : Nat} (ha : a < 256) (hs : s ≤ 8) (hm : m < 2 ^ (8 - s)) : ((a + 256 * y) >>> s) &&& (m + 256 * M) = ((a >>> s) &&& m) + 256 * ((y >>> s) &&& M) := by
  have hm8 : m < 256 := Nat.lt_of_lt_of_le hm (Nat.pow_le_pow_right (n := 2) (by decide) (show 8 - s ≤ 8 by omega))
  have ha8 : a >>> s < 256 := Nat.lt_of_le_of_lt (shr_le a s) ha
  apply Nat.eq_of_testBit_eq
  intro k
  rw [Nat.testBit_and, Nat.testBit_shiftRight, sp_t ha, sp_t hm8, sp_t (and_256 ha8), Nat.testBit_and, Nat.testBit_and, Nat.testBit_shiftRight, Nat.testBit_shiftRight]
  by_cases h : k < 8
  · rw [if_pos h, if_pos h]
    by_cases h2 : s + k < 8
    · rw [if_pos h2]
    · have : m.testBit k = false := Nat.testBit_lt_two_pow (Nat.lt_of_lt_of_le hm (Nat.pow_le_pow_right (by decide) (by omega)))
      rw [this, Bool.and_false, Bool.and_false]
  · rw [if_neg h, if_neg h, if_neg (by omega), show s + k - 8 = s + (k - 8) by omega]
def bc1 (M x : Nat) : Nat := x - ((x >>> 1) &&& M)
def bc2 (M x : Nat) : Nat := (x &&& M) + ((x >>> 2) &&& M)
def bc3 (M x : Nat) : Nat := (x + (x >>> 4)) &&& M
theorem bc1_sp {a y M : Nat} (ha : a < 256) : bc1 (85 + 256 * M) (a + 256 * y) = bc1 85 a + 256 * bc1 M y := by
  unfold bc1
  rw [sp_sh ha (by decide) (by decide)]
  have h1 : (a >>> 1) &&& 85 ≤ a := Nat.le_trans Nat.and_le_left (shr_le a 1)
  have h2 : (y >>> 1) &&& M ≤ y := Nat.le_trans Nat.and_le_left (shr_le y 1)
  omega
theorem bc2_sp {a y M : Nat} (ha : a < 256) : bc2 (51 + 256 * M) (a + 256 * y) = bc2 51 a + 256 * bc2 M y := by
  unfold bc2
  rw [sp_sh ha (by decide) (by decide), sp_and ha (by decide)]
  omega
theorem bc3_sp {a y M : Nat} (h1 : a % 16 ≤ 4) (h2 : a / 16 ≤ 4) (h3 : y % 16 ≤ 4) : bc3 (15 + 256 * M) (a + 256 * y) = bc3 15 a + 256 * bc3 M y := by
  unfold bc3
  rw [Nat.shiftRight_eq_div_pow, Nat.shiftRight_eq_div_pow, Nat.shiftRight_eq_div_pow, show (2 : Nat) ^ 4 = 16 from rfl]
  rw [show a + 256 * y + (a + 256 * y) / 16 = (a + a / 16 + 16 * (y % 16)) + 256 * (y + y / 16) by omega, sp_and (by omega) (by decide)]
  congr 1
  rw [show (15 : Nat) = 2 ^ 4 - 1 from rfl, Nat.and_two_pow_sub_one_eq_mod, Nat.and_two_pow_sub_one_eq_mod]
  omega
theorem bc_b : ∀ a, a < 256 → bc1 85 a < 256 ∧ bc2 51 (bc1 85 a) < 256 ∧ bc2 51 (bc1 85 a) % 16 ≤ 4 ∧ bc2 51 (bc1 85 a) / 16 ≤ 4 ∧ bc3 15 (bc2 51 (bc1 85 a)) = ctF a.testBit 8 0 := by decide +kernel
theorem bc_t : ∀ a, a < 256 → bc1 21845 a = bc1 85 a ∧ bc2 13107 (bc1 85 a) = bc2 51 (bc1 85 a) ∧ bc3 3855 (bc2 51 (bc1 85 a)) = bc3 15 (bc2 51 (bc1 85 a)) := by decide +kernel
theorem bcS_eq (x : Nat) : bcS x = ((bc3 252645135 (bc2 858993459 (bc1 1431655765 x)) + (bc3 252645135 (bc2 858993459 (bc1 1431655765 x)) >>> 8)) + ((bc3 252645135 (bc2 858993459 (bc1 1431655765 x)) + (bc3 252645135 (bc2 858993459 (bc1 1431655765 x)) >>> 8)) >>> 16)) &&& 63 := rfl
theorem ct_sp {a y m : Nat} (ha : a < 256) : ctF (a + 256 * y).testBit (8 + m) 0 = ctF a.testBit 8 0 + ctF y.testBit m 0 := by
  rw [ctF_add]
  congr 1
  · exact ctF_eq _ _ (fun i _ h => by rw [sp_t ha, if_pos (by omega)])
  · have : ∀ (m j : Nat), 8 ≤ j → ctF (a + 256 * y).testBit m j = ctF y.testBit m (j - 8) := by
      intro m
      induction m with
      | zero => intro j _; rfl
      | succ m ih =>
        intro j hj
        have e : (a + 256 * y).testBit j = y.testBit (j - 8) := by rw [sp_t ha, if_neg (by omega)]
        rw [ctF_s, ctF_s, ih (j + 1) (by omega), e, show j + 1 - 8 = j - 8 + 1 by omega]
    exact this m 8 (by omega)
theorem bc_end {A B C : Nat} (h1 : A ≤ 8) (h2 : B ≤ 8) (h3 : C ≤ 8) : ((A + 256 * (B + 256 * C) + ((A + 256 * (B + 256 * C)) >>> 8)) + ((A + 256 * (B + 256 * C) + ((A + 256 * (B + 256 * C)) >>> 8)) >>> 16)) &&& 63 = A + B + C := by
  rw [Nat.shiftRight_eq_div_pow, Nat.shiftRight_eq_div_pow, show (63 : Nat) = 2 ^ 6 - 1 from rfl, Nat.and_two_pow_sub_one_eq_mod, show (A + 256 * (B + 256 * C)) / 2 ^ 8 = B + 256 * C by omega, show (A + 256 * (B + 256 * C) + (B + 256 * C)) / 2 ^ 16 = C by omega]
  omega
theorem bc_ct {x : Nat} (h : x < 16777216) : bcS x = ctF x.testBit 24 0 := by
  obtain ⟨a, y, ha, e⟩ : ∃ a y, a < 256 ∧ x = a + 256 * y := ⟨x % 256, x / 256, by omega, by omega⟩
  obtain ⟨b, c, hb, e2⟩ : ∃ b c, b < 256 ∧ y = b + 256 * c := ⟨y % 256, y / 256, by omega, by omega⟩
  have hc : c < 256 := by omega
  subst e2
  subst e
  obtain ⟨a1, a2, a3, a4, a5⟩ := bc_b a ha
  obtain ⟨b1, b2, b3, b4, b5⟩ := bc_b b hb
  obtain ⟨c1, c2, c3, c4, c5⟩ := bc_b c hc
  obtain ⟨t1, t2, t3⟩ := bc_t c hc
  have E1 : bc1 1431655765 (a + 256 * (b + 256 * c)) = bc1 85 a + 256 * (bc1 85 b + 256 * bc1 85 c) := by
    rw [show 1431655765 = 85 + 256 * (85 + 256 * 21845) from rfl, bc1_sp ha, bc1_sp hb, t1]
  have E2 : bc2 858993459 (bc1 85 a + 256 * (bc1 85 b + 256 * bc1 85 c)) = bc2 51 (bc1 85 a) + 256 * (bc2 51 (bc1 85 b) + 256 * bc2 51 (bc1 85 c)) := by
    rw [show 858993459 = 51 + 256 * (51 + 256 * 13107) from rfl, bc2_sp a1, bc2_sp b1, t2]
  have E3 : bc3 252645135 (bc2 51 (bc1 85 a) + 256 * (bc2 51 (bc1 85 b) + 256 * bc2 51 (bc1 85 c))) = ctF a.testBit 8 0 + 256 * (ctF b.testBit 8 0 + 256 * ctF c.testBit 8 0) := by
    rw [show 252645135 = 15 + 256 * (15 + 256 * 3855) from rfl, bc3_sp a3 a4 (by omega), bc3_sp b3 b4 c3, t3, a5, b5, c5]
  rw [bcS_eq, E1, E2, E3, show 24 = 8 + (8 + 8) from rfl, ct_sp ha, ct_sp hb]
  have u1 := ctF_le a.testBit 8 0
  have u2 := ctF_le b.testBit 8 0
  have u3 := ctF_le c.testBit 8 0
  rw [bc_end u1 u2 u3, Nat.add_assoc]
theorem ct_wid {x m M : Nat} (h : x < 2 ^ m) (hm : m ≤ M) : ctF x.testBit M 0 = ctF x.testBit m 0 := by
  obtain ⟨k, rfl⟩ : ∃ k, M = m + k := ⟨M - m, by omega⟩
  rw [ctF_add, ctF_0 k (0 + m) (fun i h1 _ => Nat.testBit_lt_two_pow (Nat.lt_of_lt_of_le h (Nat.pow_le_pow_right (by decide) (by omega)))), Nat.add_zero]
