/-! round: where the flow goes -/
def nxN (b : AB) (z : Nat) : Nat := if z = 0 then 0 else b 1 (z - 1)
def itN (b : AB) : Nat → Nat → Nat
  | 0, z => z
  | k + 1, z => itN b k (nxN b z)
section It
variable {b : AB}
theorem nx_0 : nxN b 0 = 0 := rfl
theorem nx_s {c : Nat} : nxN b (c + 1) = b 1 c := rfl
theorem it_0 : ∀ k, itN b k 0 = 0
  | 0 => rfl
  | k + 1 => it_0 k
theorem it_add : ∀ (j k z : Nat), itN b (j + k) z = itN b k (itN b j z)
  | 0, k, z => by
    rw [Nat.zero_add]
    rfl
  | j + 1, k, z => by
    rw [show j + 1 + k = (j + k) + 1 by omega]
    exact it_add j k (nxN b z)
theorem it_s {k z : Nat} : itN b (k + 1) z = nxN b (itN b k z) := it_add k 1 z
theorem nx_le (hb : OkB b) {z : Nat} (hz : z ≤ b 0 0) : nxN b z ≤ b 0 0 := by
  unfold nxN
  split
  · omega
  · exact (hb.2.2.2.1 (z - 1) (by omega)).1
theorem it_le (hb : OkB b) : ∀ (k z : Nat), z ≤ b 0 0 → itN b k z ≤ b 0 0
  | 0, z, hz => hz
  | k + 1, z, hz => it_le hb k _ (nx_le hb hz)
theorem it_nz {j k z : Nat} (h : itN b (j + k) z ≠ 0) : itN b j z ≠ 0 := by
  intro e
  rw [it_add, e, it_0] at h
  exact h rfl
theorem it_mul {p z : Nat} (h : itN b p z = z) : ∀ m, itN b (m * p) z = z
  | 0 => by
    rw [Nat.zero_mul]
    rfl
  | m + 1 => by
    rw [Nat.succ_mul, it_add, it_mul h m, h]
theorem it_mod {p z : Nat} (h : itN b p z = z) (i : Nat) : itN b i z = itN b (i % p) z := by
  have e := Nat.div_add_mod i p
  rw [Nat.mul_comm] at e
  have h1 := it_add (b := b) (i / p * p) (i % p) z
  rw [e, it_mul h] at h1
  exact h1
theorem it_per {p z : Nat} (h : itN b p z = z) (d : Nat) : itN b p (itN b d z) = itN b d z := by
  rw [← it_add, Nat.add_comm, it_add, h]
theorem it_bk {p z : Nat} (hp : 1 ≤ p) (h : itN b p z = z) (d : Nat) : ∃ e, itN b e (itN b d z) = z := by
  refine ⟨d * p - d, ?_⟩
  have h1 : d ≤ d * p := Nat.le_mul_of_pos_right d hp
  rw [← it_add, show d + (d * p - d) = d * p by omega]
  exact it_mul h d
theorem pig : ∀ (n : Nat) (f : Nat → Nat), (∀ i, i ≤ n → f i < n) → ∃ i j, i < j ∧ j ≤ n ∧ f i = f j
  | 0, f, h => absurd (h 0 (Nat.le_refl _)) (Nat.not_lt_zero _)
  | n + 1, f, h => by
    by_cases hx : ∃ i, i ≤ n ∧ f i = f (n + 1)
    · obtain ⟨i, h1, h2⟩ := hx
      exact ⟨i, n + 1, by omega, Nat.le_refl _, h2⟩
    · have hne : ∀ i, i ≤ n → f i ≠ f (n + 1) := fun i hi e => hx ⟨i, hi, e⟩
      obtain ⟨i, j, h1, h2, h3⟩ := pig n (fun i => if f (n + 1) < f i then f i - 1 else f i) (fun i hi => by
        have h1 := h i (by omega)
        have h2 := h (n + 1) (Nat.le_refl _)
        have h3 := hne i hi
        show (if f (n + 1) < f i then f i - 1 else f i) < n
        split <;> omega)
      refine ⟨i, j, h1, by omega, ?_⟩
      have h3 : (if f (n + 1) < f i then f i - 1 else f i) = (if f (n + 1) < f j then f j - 1 else f j) := h3
      have hi := hne i (by omega)
      have hj := hne j (by omega)
      split at h3 <;> split at h3 <;> omega
/-- who goes on for long comes round -/
theorem it_pig (hb : OkB b) {z : Nat} (hz : z ≤ b 0 0) (h : itN b (b 0 0) z ≠ 0) : ∃ i p, i ≤ b 0 0 ∧ 1 ≤ p ∧ p ≤ b 0 0 ∧ itN b p (itN b i z) = itN b i z := by
  obtain ⟨i, j, h1, h2, h3⟩ := pig (b 0 0) (fun i => itN b i z - 1) (fun i hi => by
    have h1 := it_le hb i z hz
    have h2 : itN b i z ≠ 0 := it_nz (k := b 0 0 - i) (by rw [show i + (b 0 0 - i) = b 0 0 by omega]; exact h)
    show itN b i z - 1 < b 0 0
    omega)
  have e1 : itN b i z ≠ 0 := it_nz (k := b 0 0 - i) (by rw [show i + (b 0 0 - i) = b 0 0 by omega]; exact h)
  have e2 : itN b j z ≠ 0 := it_nz (k := b 0 0 - j) (by rw [show j + (b 0 0 - j) = b 0 0 by omega]; exact h)
  have h3 : itN b i z - 1 = itN b j z - 1 := h3
  refine ⟨i, j - i, by omega, by omega, by omega, ?_⟩
  rw [← it_add, show i + (j - i) = j by omega]
  omega
/-- how long the way round is -/
def MinP (b : AB) (z p : Nat) : Prop := 1 ≤ p ∧ itN b p z = z ∧ ∀ j, 1 ≤ j → j < p → itN b j z ≠ z
theorem MinP_u {z p q : Nat} (h : MinP b z p) (h' : MinP b z q) : p = q := by
  rcases Nat.lt_trichotomy p q with e | e | e
  · exact absurd h.2.1 (h'.2.2 p h.1 e)
  · exact e
  · exact absurd h'.2.1 (h.2.2 q h'.1 e)
theorem MinP_it {z p : Nat} (h : MinP b z p) (d : Nat) : MinP b (itN b d z) p := by
  refine ⟨h.1, it_per h.2.1 d, fun j h1 h2 e => ?_⟩
  obtain ⟨e', he⟩ := it_bk h.1 h.2.1 d
  have := it_per e e'
  rw [he] at this
  exact h.2.2 j h1 h2 this
def lpF (b : AB) (z : Nat) : Nat → Nat → Nat → Nat
  | 0, _, _ => 0
  | m + 1, k, y => if y = 0 then 0 else if y = z then k else lpF b z m (k + 1) (nxN b y)
def lpN (b : AB) (z : Nat) : Nat := lpF b z 16 1 (nxN b z)
theorem lpF_is {z : Nat} (hz : z ≠ 0) : ∀ (m k : Nat), 1 ≤ k → (∀ j, 1 ≤ j → j < k → itN b j z ≠ z) → (lpF b z m k (itN b k z) = 0 ∧ ∀ j, 1 ≤ j → j < k + m → itN b j z ≠ z) ∨ (lpF b z m k (itN b k z) < k + m ∧ MinP b z (lpF b z m k (itN b k z)))
  | 0, k, h1, h2 => Or.inl ⟨rfl, fun j a c => h2 j a (by omega)⟩
  | m + 1, k, h1, h2 => by
    unfold lpF
    by_cases e0 : itN b k z = 0
    · rw [if_pos e0]
      refine Or.inl ⟨rfl, fun j a c e => ?_⟩
      by_cases hj : j < k
      · exact h2 j a hj e
      · rw [show j = k + (j - k) by omega, it_add, e0, it_0] at e
        exact hz e.symm
    · rw [if_neg e0]
      by_cases e1 : itN b k z = z
      · rw [if_pos e1]
        exact Or.inr ⟨by omega, h1, e1, h2⟩
      · rw [if_neg e1, ← it_s]
        have := lpF_is hz m (k + 1) (by omega) (fun j a c => by
          by_cases hj : j = k
          · rw [hj]
            exact e1
          · exact h2 j a (by omega))
        rw [show k + 1 + m = k + (m + 1) by omega] at this
        exact this
theorem lpN_0 : lpN b 0 = 0 := rfl
theorem lpN_is {z : Nat} (hz : z ≠ 0) : (lpN b z = 0 ∧ ∀ j, 1 ≤ j → j < 17 → itN b j z ≠ z) ∨ (lpN b z < 17 ∧ MinP b z (lpN b z)) := lpF_is hz 16 1 (Nat.le_refl _) (fun j a c => by omega)
theorem lpN_of {z p : Nat} (hz : z ≠ 0) (h1 : 1 ≤ p) (h2 : p ≤ 16) (h : itN b p z = z) : MinP b z (lpN b z) := by
  rcases lpN_is (b := b) hz with ⟨_, h3⟩ | ⟨_, h3⟩
  · exact absurd h (h3 p h1 (by omega))
  · exact h3
theorem lpN_le {z : Nat} : lpN b z ≤ 16 := by
  by_cases hz : z = 0
  · subst hz
    rw [lpN_0]
    omega
  · rcases lpN_is (b := b) hz with ⟨h3, _⟩ | ⟨h3, _⟩ <;> omega
/-- the walk until it stops -/
def rdF (b : AB) (st : Nat → Bool) : Nat → Nat → Nat → Nat × Nat
  | 0, k, z => (k, z)
  | m + 1, k, z => if st z = true then (k, z) else rdF b st m (k + 1) (nxN b z)
theorem rd_eq {s t : Nat → Bool} : ∀ (m k z : Nat), (∀ i, i < m → s (itN b i z) = t (itN b i z)) → rdF b s m k z = rdF b t m k z
  | 0, k, z, _ => rfl
  | m + 1, k, z, h => by
    unfold rdF
    have h0 : s z = t z := h 0 (by omega)
    rw [h0, rd_eq m (k + 1) (nxN b z) (fun i hi => h (i + 1) (by omega))]
theorem rd_is {s : Nat → Bool} : ∀ (m k z : Nat), (∃ i, i ≤ m ∧ s (itN b i z) = true) → ∃ i, i ≤ m ∧ rdF b s m k z = (k + i, itN b i z) ∧ s (itN b i z) = true
  | 0, k, z, ⟨i, h1, h2⟩ => by
    have : i = 0 := by omega
    subst this
    exact ⟨0, Nat.le_refl _, rfl, h2⟩
  | m + 1, k, z, ⟨i, h1, h2⟩ => by
    unfold rdF
    by_cases h0 : s z = true
    · rw [if_pos h0]
      exact ⟨0, Nat.zero_le _, rfl, h0⟩
    · rw [if_neg h0]
      have hi : i ≠ 0 := by
        intro e
        subst e
        exact h0 h2
      obtain ⟨j, rfl⟩ : ∃ j, i = j + 1 := ⟨i - 1, by omega⟩
      obtain ⟨i', a1, a2, a3⟩ := rd_is m (k + 1) (nxN b z) ⟨j, by omega, h2⟩
      exact ⟨i' + 1, by omega, by rw [a2, show k + 1 + i' = k + (i' + 1) by omega]; rfl, a3⟩
def rstN (b : AB) (z : Nat) : Bool := decide (z = 0) || !decide (lpN b z = 0)
/-- the cells that the way goes through -/
def mkF (b : AB) : Nat → Nat → Nat → Nat
  | 0, a, _ => a
  | m + 1, a, y => if y = 0 then a else mkF b m (a ||| 2 ^ (y - 1)) (nxN b y)
def exI (b : AB) (c : Nat) : Nat → Nat → Bool
  | 0, _ => false
  | m + 1, y => decide (y = c + 1) || exI b c m (nxN b y)
theorem exI_0 {c : Nat} : ∀ m, exI b c m 0 = false
  | 0 => rfl
  | m + 1 => by
    show (decide (0 = c + 1) || exI b c m 0) = false
    rw [exI_0 m]
    simp
theorem exI_is {c : Nat} : ∀ (m y : Nat), exI b c m y = true ↔ ∃ i, i < m ∧ itN b i y = c + 1
  | 0, y => ⟨fun h => (by cases h), fun ⟨i, h, _⟩ => (by omega)⟩
  | m + 1, y => by
    show (decide (y = c + 1) || exI b c m (nxN b y)) = true ↔ _
    rw [Bool.or_eq_true, decide_eq_true_eq, exI_is m (nxN b y)]
    constructor
    · rintro (h | ⟨i, h1, h2⟩)
      · exact ⟨0, by omega, h⟩
      · exact ⟨i + 1, by omega, h2⟩
    · rintro ⟨i, h1, h2⟩
      cases i with
      | zero => exact Or.inl h2
      | succ i => exact Or.inr ⟨i, by omega, h2⟩
theorem mkF_tb {c : Nat} : ∀ (m a y : Nat), (mkF b m a y).testBit c = (a.testBit c || exI b c m y)
  | 0, a, y => by
    show a.testBit c = (a.testBit c || false)
    rw [Bool.or_false]
  | m + 1, a, y => by
    unfold mkF
    by_cases h0 : y = 0
    · rw [if_pos h0, h0, exI_0, Bool.or_false]
    · rw [if_neg h0, mkF_tb m _ _, Nat.testBit_or, Nat.testBit_two_pow, Bool.or_assoc]
      show _ = (a.testBit c || (decide (y = c + 1) || exI b c m (nxN b y)))
      rw [decide_eq_decide.mpr (show y - 1 = c ↔ y = c + 1 by omega)]
theorem mkF_lt (hb : OkB b) : ∀ (m a y : Nat), a < 65536 → y ≤ b 0 0 → mkF b m a y < 65536
  | 0, a, y, ha, _ => ha
  | m + 1, a, y, ha, hy => by
    unfold mkF
    by_cases h0 : y = 0
    · rw [if_pos h0]
      exact ha
    · rw [if_neg h0]
      have h1 := hb.1
      have h2 : 2 ^ (y - 1) < 2 ^ 16 := Nat.pow_lt_pow_right (by decide) (by omega)
      exact mkF_lt hb m _ _ (Nat.or_lt_two_pow (n := 16) ha h2) (nx_le hb hy)
theorem exI_last {c : Nat} {m y : Nat} : exI b c (m + 1) y = (exI b c m y || decide (itN b m y = c + 1)) := by
  rw [Bool.eq_iff_iff, Bool.or_eq_true, decide_eq_true_eq, exI_is, exI_is]
  constructor
  · rintro ⟨i, h1, h2⟩
    by_cases e : i = m
    · subst e
      exact Or.inr h2
    · exact Or.inl ⟨i, by omega, h2⟩
  · rintro (⟨i, h1, h2⟩ | h)
    · exact ⟨i, by omega, h2⟩
    · exact ⟨m, by omega, h⟩
theorem ex_ct (hb : OkB b) {y p : Nat} (hy : y ≠ 0) (hyn : y ≤ b 0 0) (hp : MinP b y p) : ∀ j, j ≤ p → ctF (fun c => exI b c j y) 16 0 = j
  | 0, _ => ctF_0 _ _ (fun _ _ _ => rfl)
  | j + 1, hj => by
    have hl := it_le hb j y hyn
    have hb1 := hb.1
    have hnz : itN b j y ≠ 0 := by
      intro e
      have h1 := it_add (b := b) j (p - j) y
      rw [e, it_0, show j + (p - j) = p by omega, hp.2.1] at h1
      exact hy h1
    have a1 : ∀ i, i ≠ itN b j y - 1 → exI b i (j + 1) y = exI b i j y := by
      intro i hi
      rw [exI_last, decide_eq_false (by omega), Bool.or_false]
    have a2 : exI b (itN b j y - 1) j y = false := by
      rw [Bool.eq_false_iff]
      intro h
      obtain ⟨i, h1, h2⟩ := (exI_is _ _).mp h
      have h3 : itN b i y = itN b j y := by omega
      have h4 : itN b (i + (p - j)) y = y := by
        rw [it_add, h3, ← it_add, show j + (p - j) = p by omega, hp.2.1]
      exact hp.2.2 (i + (p - j)) (by omega) (by omega) h4
    have a3 : exI b (itN b j y - 1) (j + 1) y = true := by
      rw [exI_last, decide_eq_true (show itN b j y = itN b j y - 1 + 1 by omega), Bool.or_true]
    rw [ctF_up (P := fun c => exI b c j y) (Q := fun c => exI b c (j + 1) y) (s := itN b j y - 1) 16 0 (Nat.zero_le _) (by omega) a1 a2 a3, ex_ct hb hy hyn hp j (by omega)]
theorem ex_n {c y p n : Nat} (hp : MinP b y p) (hn : p ≤ n) : exI b c n y = exI b c p y := by
  rw [Bool.eq_iff_iff, exI_is, exI_is]
  constructor
  · rintro ⟨i, h1, h2⟩
    exact ⟨i % p, Nat.mod_lt _ hp.1, by rw [← it_mod hp.2.1]; exact h2⟩
  · rintro ⟨i, h1, h2⟩
    exact ⟨i, by omega, h2⟩
/-- both ways to stop are the same -/
theorem rou_st (hb : OkB b) {z : Nat} (hz : z ≤ b 0 0) (hz0 : z ≠ 0) (k : Nat) : (decide (itN b k z = 0) || (mkF b (b 0 0) 0 (itN b (b 0 0) z)).testBit (itN b k z - 1)) = rstN b (itN b k z) := by
  have hb1 := hb.1
  unfold rstN
  by_cases h0 : itN b k z = 0
  · rw [decide_eq_true h0]
    rfl
  rw [decide_eq_false h0, Bool.false_or, Bool.false_or, mkF_tb, Nat.zero_testBit, Bool.false_or]
  have hk1 : itN b k z - 1 + 1 = itN b k z := by omega
  by_cases hy : itN b (b 0 0) z = 0
  · rw [hy, exI_0]
    have : lpN b (itN b k z) = 0 := by
      rcases lpN_is (b := b) h0 with ⟨h1, _⟩ | ⟨_, h1⟩
      · exact h1
      · exfalso
        have h2 := it_mul h1.2.1 (b 0 0)
        have h3 : b 0 0 ≤ b 0 0 * lpN b (itN b k z) := Nat.le_mul_of_pos_right _ h1.1
        rw [← it_add, show k + b 0 0 * lpN b (itN b k z) = b 0 0 + (k + b 0 0 * lpN b (itN b k z) - b 0 0) by omega, it_add, hy, it_0] at h2
        exact h0 h2.symm
    rw [this]
    rfl
  · obtain ⟨i, p, hi, p1, p2, hp⟩ := it_pig hb hz hy
    have hyp : itN b p (itN b (b 0 0) z) = itN b (b 0 0) z := by
      have := it_per hp (b 0 0 - i)
      rw [← it_add i (b 0 0 - i), show i + (b 0 0 - i) = b 0 0 by omega] at this
      exact this
    have hm := lpN_of hy p1 (by omega) hyp
    have hmp : lpN b (itN b (b 0 0) z) ≤ p := by
      by_cases h : lpN b (itN b (b 0 0) z) ≤ p
      · exact h
      · exact absurd hyp (hm.2.2 p p1 (by omega))
    rw [Bool.eq_iff_iff, exI_is, Bool.not_eq_true', decide_eq_false_iff_not]
    constructor
    · rintro ⟨j, h1, h2⟩
      rw [hk1] at h2
      have h3 := MinP_it hm j
      rw [h2] at h3
      have h4 := lpN_of h0 p1 (by omega) (by rw [← h2]; exact it_per hyp j)
      have := h4.1
      omega
    · intro h
      have hmk : MinP b (itN b k z) (lpN b (itN b k z)) := by
        rcases lpN_is (b := b) h0 with ⟨h1, _⟩ | ⟨_, h1⟩
        · exact absurd h1 h
        · exact h1
      have hex : ∃ e, itN b e (itN b (b 0 0) z) = itN b k z := by
        by_cases hkn : k ≤ b 0 0
        · have := it_bk hmk.1 hmk.2.1 (b 0 0 - k)
          rw [← it_add, show k + (b 0 0 - k) = b 0 0 by omega] at this
          exact this
        · exact ⟨k - b 0 0, by rw [← it_add, show b 0 0 + (k - b 0 0) = k by omega]⟩
      obtain ⟨e, he⟩ := hex
      refine ⟨e % p, Nat.lt_of_lt_of_le (Nat.mod_lt _ p1) p2, ?_⟩
      rw [← it_mod hyp, he]
      omega
def rouA (b : AB) (c : Nat) : Nat × Nat := rdF b (rstN b) 16 0 (c + 1)
theorem rou_is (hb : OkB b) {z : Nat} (hz : z ≤ b 0 0) (hz0 : z ≠ 0) : ∃ i, i ≤ b 0 0 ∧ rstN b (itN b i z) = true := by
  have hb1 := hb.1
  by_cases hy : itN b (b 0 0) z = 0
  · exact ⟨b 0 0, Nat.le_refl _, by unfold rstN; rw [decide_eq_true hy]; rfl⟩
  · obtain ⟨i, p, hi, p1, p2, hp⟩ := it_pig hb hz hy
    have e1 : itN b i z ≠ 0 := it_nz (k := b 0 0 - i) (by rw [show i + (b 0 0 - i) = b 0 0 by omega]; exact hy)
    have hm := lpN_of e1 p1 (by omega) hp
    refine ⟨i, hi, ?_⟩
    unfold rstN
    rw [decide_eq_false (show ¬ lpN b (itN b i z) = 0 from by have := hm.1; omega)]
    simp
theorem rou_ct (hb : OkB b) {c : Nat} (hc : c < b 0 0) : ctF (mkF b (b 0 0) 0 (itN b (b 0 0) (c + 1))).testBit 16 0 = lpN b (rouA b c).2 := by
  have hb1 := hb.1
  obtain ⟨i0, hi0, hs0⟩ := rou_is hb (z := c + 1) (by omega) (by omega)
  obtain ⟨k, hk, e1, e2⟩ := rd_is 16 0 (c + 1) ⟨i0, by omega, hs0⟩
  have e1 : rouA b c = (0 + k, itN b k (c + 1)) := e1
  rw [e1]
  show _ = lpN b (itN b k (c + 1))
  by_cases hy : itN b (b 0 0) (c + 1) = 0
  · rw [hy, ctF_0 _ _ (fun i _ _ => by rw [mkF_tb, exI_0, Nat.zero_testBit]; rfl)]
    have h1 := rou_st hb (z := c + 1) (by omega) (by omega) k
    rw [e2, hy, mkF_tb, exI_0, Nat.zero_testBit, Bool.or_false, Bool.or_false] at h1
    rw [of_decide_eq_true h1, lpN_0]
  · obtain ⟨i, p, hi, p1, p2, hp⟩ := it_pig hb (z := c + 1) (by omega) hy
    have hyp : itN b p (itN b (b 0 0) (c + 1)) = itN b (b 0 0) (c + 1) := by
      have := it_per hp (b 0 0 - i)
      rw [← it_add i (b 0 0 - i), show i + (b 0 0 - i) = b 0 0 by omega] at this
      exact this
    have hm := lpN_of hy p1 (by omega) hyp
    have hmp : lpN b (itN b (b 0 0) (c + 1)) ≤ p := by
      by_cases h : lpN b (itN b (b 0 0) (c + 1)) ≤ p
      · exact h
      · exact absurd hyp (hm.2.2 p p1 (by omega))
    have hyl := it_le hb (b 0 0) (c + 1) (by omega)
    rw [ctF_eq (Q := fun c' => exI b c' (lpN b (itN b (b 0 0) (c + 1))) (itN b (b 0 0) (c + 1))) 16 0 (fun i _ _ => by rw [mkF_tb, Nat.zero_testBit, Bool.false_or]; exact ex_n hm (by omega)), ex_ct hb hy hyl hm _ (Nat.le_refl _)]
    by_cases hkn : k ≤ b 0 0
    · have hk0 : itN b k (c + 1) ≠ 0 := it_nz (k := b 0 0 - k) (by rw [show k + (b 0 0 - k) = b 0 0 by omega]; exact hy)
      have hmk : MinP b (itN b k (c + 1)) (lpN b (itN b k (c + 1))) := by
        rcases lpN_is (b := b) hk0 with ⟨h1, _⟩ | ⟨_, h1⟩
        · exfalso
          unfold rstN at e2
          rw [decide_eq_false hk0, h1] at e2
          cases e2
        · exact h1
      have h2 := MinP_it hmk (b 0 0 - k)
      rw [← it_add, show k + (b 0 0 - k) = b 0 0 by omega] at h2
      exact MinP_u hm h2
    · have h2 := MinP_it hm (k - b 0 0)
      rw [← it_add, show b 0 0 + (k - b 0 0) = k by omega] at h2
      have hk0 : itN b k (c + 1) ≠ 0 := by
        intro e
        obtain ⟨e', he'⟩ := it_bk p1 hyp (k - b 0 0)
        rw [← it_add (b 0 0) (k - b 0 0), show b 0 0 + (k - b 0 0) = k by omega, e, it_0] at he'
        exact hy he'.symm
      have h3 := lpN_of hk0 h2.1 (by omega) h2.2.1
      exact MinP_u h2 h3
end It
/-! round, in both -/
theorem g139a {T : xS} {b : AB} {p : Nat} (hB : CB T p b) (hb : OkB b) {P : Int32 × xS → Prop} : ∀ (m k z : Nat), k + m = b 0 0 → z ≤ b 0 0 → Ep (fun n => G139f p n 34 (nI 0) (zI (itN b m z)) (nI 0) (nI 0) T) P → Ep (fun n => G139f p n 4 (nI 0) (zI z) (nI k) (nI 0) T) P := by
  have hb1 := hb.1
  intro m
  induction m with
  | zero =>
    intro k z hk hz h
    refine ep_succ (fun n => G139e4 p n ..) ?_
    have e : b 0 0 ≤ k := by omega
    simp (disch := omega) only [G139b4, hB.1, L0, L1, L2, L3, L4, L5, L6, L7, L8, L9, L10, L11, L12, L13, L16, L20, L31, L32, L40, L48, L57, L59, L60, L61, L91, L93, L97, L99, L100, L102, L103, L114, L122, L255, L300, L400, L402, L999, L2280, L2500, L99999, L63, L1431655765, L858993459, L252645135, ic_ge, ic_gt, ic_le, ic_lt, ic_eq, ic_ne, if_lt, if_ge, if_gt, if_le, if_eq, if_ne, if_lt_zI, if_ge_zI, ic_ne_m1, ic_eq_m1, ic_nn_m1, ic_ee_m1, if_ne_b2i, if_eq_b2i, b2i_z, decide_eq_true_eq, decide_true, decide_false, Bool.not_eq_true, Bool.not_eq_true', Bool.not_true, Bool.not_false, decide_eq_false_iff_not, Bool.false_eq_true, not_false_eq_true, not_true_eq_false, if_true, if_false, ↓reduceIte, eq_self, Option.bind_some, Bool.true_and, Bool.false_and, Bool.and_true, Bool.and_false, nI_add, nI_subN, nI_clamp, gdF, gdF2, gdP, gdP2, zI_cl, zI_s, Lm1, nI_n0, zI_n0, leF, or_false, false_or, or_self, e]
    exact h
  | succ m ih =>
    intro k z hk hz h
    refine ep_succ (fun n => G139e4 p n ..) ?_
    have e : ¬ b 0 0 ≤ k := by omega
    by_cases h0 : z = 0
    · subst h0
      rw [it_0] at h
      simp (disch := omega) only [G139b4, hB.1, L0, L1, L2, L3, L4, L5, L6, L7, L8, L9, L10, L11, L12, L13, L16, L20, L31, L32, L40, L48, L57, L59, L60, L61, L91, L93, L97, L99, L100, L102, L103, L114, L122, L255, L300, L400, L402, L999, L2280, L2500, L99999, L63, L1431655765, L858993459, L252645135, ic_ge, ic_gt, ic_le, ic_lt, ic_eq, ic_ne, if_lt, if_ge, if_gt, if_le, if_eq, if_ne, if_lt_zI, if_ge_zI, ic_ne_m1, ic_eq_m1, ic_nn_m1, ic_ee_m1, if_ne_b2i, if_eq_b2i, b2i_z, decide_eq_true_eq, decide_true, decide_false, Bool.not_eq_true, Bool.not_eq_true', Bool.not_true, Bool.not_false, decide_eq_false_iff_not, Bool.false_eq_true, not_false_eq_true, not_true_eq_false, if_true, if_false, ↓reduceIte, eq_self, Option.bind_some, Bool.true_and, Bool.false_and, Bool.and_true, Bool.and_false, nI_add, nI_subN, nI_clamp, gdF, gdF2, gdP, gdP2, zI_cl, zI_s, Lm1, nI_n0, zI_n0, leF, or_false, false_or, or_self, e]
      exact h
    · obtain ⟨c, rfl⟩ : ∃ c, z = c + 1 := ⟨z - 1, by omega⟩
      have r1 := (hB.2.2.2.1 c (by omega)).1
      simp (disch := omega) only [G139b4, hB.1, L0, L1, L2, L3, L4, L5, L6, L7, L8, L9, L10, L11, L12, L13, L16, L20, L31, L32, L40, L48, L57, L59, L60, L61, L91, L93, L97, L99, L100, L102, L103, L114, L122, L255, L300, L400, L402, L999, L2280, L2500, L99999, L63, L1431655765, L858993459, L252645135, ic_ge, ic_gt, ic_le, ic_lt, ic_eq, ic_ne, if_lt, if_ge, if_gt, if_le, if_eq, if_ne, if_lt_zI, if_ge_zI, ic_ne_m1, ic_eq_m1, ic_nn_m1, ic_ee_m1, if_ne_b2i, if_eq_b2i, b2i_z, decide_eq_true_eq, decide_true, decide_false, Bool.not_eq_true, Bool.not_eq_true', Bool.not_true, Bool.not_false, decide_eq_false_iff_not, Bool.false_eq_true, not_false_eq_true, not_true_eq_false, if_true, if_false, ↓reduceIte, eq_self, Option.bind_some, Bool.true_and, Bool.false_and, Bool.and_true, Bool.and_false, nI_add, nI_subN, nI_clamp, gdF, gdF2, gdP, gdP2, zI_cl, zI_s, Lm1, nI_n0, zI_n0, leF, or_false, false_or, or_self, e, r1]
      exact ih (k + 1) (b 1 c) (by omega) ((hb.2.2.2.1 c (by omega)).1) h
theorem g139b {T : xS} {b : AB} {p : Nat} (hB : CB T p b) (hb : OkB b) : ∀ (m k z a : Nat), k + m = b 0 0 → z ≤ b 0 0 → Ev (fun n => G139f p n 34 (nI 0) (zI z) (nI a) (nI k) T) (nI (mkF b m a z), T) := by
  have hb1 := hb.1
  intro m
  induction m with
  | zero =>
    intro k z a hk hz
    refine ev_succ (fun n => G139e34 p n ..) ?_
    have e : b 0 0 ≤ k := by omega
    simp (disch := omega) only [G139b34, hB.1, L0, L1, L2, L3, L4, L5, L6, L7, L8, L9, L10, L11, L12, L13, L16, L20, L31, L32, L40, L48, L57, L59, L60, L61, L91, L93, L97, L99, L100, L102, L103, L114, L122, L255, L300, L400, L402, L999, L2280, L2500, L99999, L63, L1431655765, L858993459, L252645135, ic_ge, ic_gt, ic_le, ic_lt, ic_eq, ic_ne, if_lt, if_ge, if_gt, if_le, if_eq, if_ne, if_lt_zI, if_ge_zI, ic_ne_m1, ic_eq_m1, ic_nn_m1, ic_ee_m1, if_ne_b2i, if_eq_b2i, b2i_z, decide_eq_true_eq, decide_true, decide_false, Bool.not_eq_true, Bool.not_eq_true', Bool.not_true, Bool.not_false, decide_eq_false_iff_not, Bool.false_eq_true, not_false_eq_true, not_true_eq_false, if_true, if_false, ↓reduceIte, eq_self, Option.bind_some, Bool.true_and, Bool.false_and, Bool.and_true, Bool.and_false, nI_add, nI_subN, nI_clamp, gdF, gdF2, gdP, gdP2, zI_cl, zI_s, Lm1, nI_n0, zI_n0, leF, or_false, false_or, or_self, e]
    exact ev_ret
  | succ m ih =>
    intro k z a hk hz
    refine ev_succ (fun n => G139e34 p n ..) ?_
    have e : ¬ b 0 0 ≤ k := by omega
    unfold mkF
    by_cases h0 : z = 0
    · subst h0
      simp (disch := omega) only [G139b34, hB.1, L0, L1, L2, L3, L4, L5, L6, L7, L8, L9, L10, L11, L12, L13, L16, L20, L31, L32, L40, L48, L57, L59, L60, L61, L91, L93, L97, L99, L100, L102, L103, L114, L122, L255, L300, L400, L402, L999, L2280, L2500, L99999, L63, L1431655765, L858993459, L252645135, ic_ge, ic_gt, ic_le, ic_lt, ic_eq, ic_ne, if_lt, if_ge, if_gt, if_le, if_eq, if_ne, if_lt_zI, if_ge_zI, ic_ne_m1, ic_eq_m1, ic_nn_m1, ic_ee_m1, if_ne_b2i, if_eq_b2i, b2i_z, decide_eq_true_eq, decide_true, decide_false, Bool.not_eq_true, Bool.not_eq_true', Bool.not_true, Bool.not_false, decide_eq_false_iff_not, Bool.false_eq_true, not_false_eq_true, not_true_eq_false, if_true, if_false, ↓reduceIte, eq_self, Option.bind_some, Bool.true_and, Bool.false_and, Bool.and_true, Bool.and_false, nI_add, nI_subN, nI_clamp, gdF, gdF2, gdP, gdP2, zI_cl, zI_s, Lm1, nI_n0, zI_n0, leF, or_false, false_or, or_self, e]
      exact ev_ret
    · obtain ⟨c, rfl⟩ : ∃ c, z = c + 1 := ⟨z - 1, by omega⟩
      have r1 := (hB.2.2.2.1 c (by omega)).1
      have hs : nI 1 <<< (nI c &&& nI 31) = nI (2 ^ c) := nI_shl (by omega)
      rw [if_neg h0]
      simp (disch := omega) only [G139b34, hB.1, L0, L1, L2, L3, L4, L5, L6, L7, L8, L9, L10, L11, L12, L13, L16, L20, L31, L32, L40, L48, L57, L59, L60, L61, L91, L93, L97, L99, L100, L102, L103, L114, L122, L255, L300, L400, L402, L999, L2280, L2500, L99999, L63, L1431655765, L858993459, L252645135, ic_ge, ic_gt, ic_le, ic_lt, ic_eq, ic_ne, if_lt, if_ge, if_gt, if_le, if_eq, if_ne, if_lt_zI, if_ge_zI, ic_ne_m1, ic_eq_m1, ic_nn_m1, ic_ee_m1, if_ne_b2i, if_eq_b2i, b2i_z, decide_eq_true_eq, decide_true, decide_false, Bool.not_eq_true, Bool.not_eq_true', Bool.not_true, Bool.not_false, decide_eq_false_iff_not, Bool.false_eq_true, not_false_eq_true, not_true_eq_false, if_true, if_false, ↓reduceIte, eq_self, Option.bind_some, Bool.true_and, Bool.false_and, Bool.and_true, Bool.and_false, nI_add, nI_subN, nI_clamp, gdF, gdF2, gdP, gdP2, zI_cl, zI_s, Lm1, nI_n0, zI_n0, leF, or_false, false_or, or_self, e, r1, hs, nx_or]
      exact ih (k + 1) (b 1 c) _ (by omega) ((hb.2.2.2.1 c (by omega)).1)
theorem g139 {T : xS} {b : AB} {p c : Nat} (hB : CB T p b) (hb : OkB b) (hc : c < b 0 0) : Ep (fun n => G139 p n (nI c) T) (fun z => z = (nI (mkF b (b 0 0) 0 (itN b (b 0 0) (c + 1))), T)) := by
  refine ep_succ (fun n => G139e0 p n ..) ?_
  simp only [G139b0, L0]
  rw [← zI_s]
  exact g139a hB hb (b 0 0) 0 (c + 1) (by omega) (by omega) ⟨_, g139b hB hb (b 0 0) 0 _ 0 (by omega) (it_le hb _ _ (by omega)), rfl⟩
theorem g138l {T : xS} {b : AB} {M : Nat} (hB : CB T 89 b) (hb : OkB b) (hM : M < 65536) : ∀ (m k z : Nat), k + m = 16 → z ≤ b 0 0 → Ev (fun n => G138f n 46 (nI 0) (nI 0) (nI M) (nI k) (zI z) T) (nI (rdF b (fun z => decide (z = 0) || M.testBit (z - 1)) m k z).1, T) := by
  have hb1 := hb.1
  intro m
  induction m with
  | zero =>
    intro k z hk hz
    refine ev_succ (fun n => G138e46 n ..) ?_
    have e : 16 ≤ k := by omega
    simp (disch := omega) only [G138b46, L0, L1, L2, L3, L4, L5, L6, L7, L8, L9, L10, L11, L12, L13, L16, L20, L31, L32, L40, L48, L57, L59, L60, L61, L91, L93, L97, L99, L100, L102, L103, L114, L122, L255, L300, L400, L402, L999, L2280, L2500, L99999, L63, L1431655765, L858993459, L252645135, ic_ge, ic_gt, ic_le, ic_lt, ic_eq, ic_ne, if_lt, if_ge, if_gt, if_le, if_eq, if_ne, if_lt_zI, if_ge_zI, ic_ne_m1, ic_eq_m1, ic_nn_m1, ic_ee_m1, if_ne_b2i, if_eq_b2i, b2i_z, decide_eq_true_eq, decide_true, decide_false, Bool.not_eq_true, Bool.not_eq_true', Bool.not_true, Bool.not_false, decide_eq_false_iff_not, Bool.false_eq_true, not_false_eq_true, not_true_eq_false, if_true, if_false, ↓reduceIte, eq_self, Option.bind_some, Bool.true_and, Bool.false_and, Bool.and_true, Bool.and_false, nI_add, nI_subN, nI_clamp, gdF, gdF2, gdP, gdP2, zI_cl, zI_s, Lm1, nI_n0, zI_n0, leF, or_false, false_or, or_self, e]
    exact ev_ret
  | succ m ih =>
    intro k z hk hz
    refine ev_succ (fun n => G138e46 n ..) ?_
    have e : ¬ 16 ≤ k := by omega
    unfold rdF
    by_cases h0 : z = 0
    · subst h0
      simp (disch := omega) only [G138b46, L0, L1, L2, L3, L4, L5, L6, L7, L8, L9, L10, L11, L12, L13, L16, L20, L31, L32, L40, L48, L57, L59, L60, L61, L91, L93, L97, L99, L100, L102, L103, L114, L122, L255, L300, L400, L402, L999, L2280, L2500, L99999, L63, L1431655765, L858993459, L252645135, ic_ge, ic_gt, ic_le, ic_lt, ic_eq, ic_ne, if_lt, if_ge, if_gt, if_le, if_eq, if_ne, if_lt_zI, if_ge_zI, ic_ne_m1, ic_eq_m1, ic_nn_m1, ic_ee_m1, if_ne_b2i, if_eq_b2i, b2i_z, decide_eq_true_eq, decide_true, decide_false, Bool.not_eq_true, Bool.not_eq_true', Bool.not_true, Bool.not_false, decide_eq_false_iff_not, Bool.false_eq_true, not_false_eq_true, not_true_eq_false, if_true, if_false, ↓reduceIte, eq_self, Option.bind_some, Bool.true_and, Bool.false_and, Bool.and_true, Bool.and_false, nI_add, nI_subN, nI_clamp, gdF, gdF2, gdP, gdP2, zI_cl, zI_s, Lm1, nI_n0, zI_n0, leF, or_false, false_or, or_self, e, Bool.true_or]
      exact ev_ret
    · obtain ⟨c, rfl⟩ : ∃ c, z = c + 1 := ⟨z - 1, by omega⟩
      have r1 : T.2.1 90 c = zI (b 1 c) := (hB.2.2.2.1 c (by omega)).1
      have hbit := nI_bit (a := M) (s := c) (by omega) (by omega)
      simp (disch := omega) only [G138b46, L0, L1, L2, L3, L4, L5, L6, L7, L8, L9, L10, L11, L12, L13, L16, L20, L31, L32, L40, L48, L57, L59, L60, L61, L91, L93, L97, L99, L100, L102, L103, L114, L122, L255, L300, L400, L402, L999, L2280, L2500, L99999, L63, L1431655765, L858993459, L252645135, ic_ge, ic_gt, ic_le, ic_lt, ic_eq, ic_ne, if_lt, if_ge, if_gt, if_le, if_eq, if_ne, if_lt_zI, if_ge_zI, ic_ne_m1, ic_eq_m1, ic_nn_m1, ic_ee_m1, if_ne_b2i, if_eq_b2i, b2i_z, decide_eq_true_eq, decide_true, decide_false, Bool.not_eq_true, Bool.not_eq_true', Bool.not_true, Bool.not_false, decide_eq_false_iff_not, Bool.false_eq_true, not_false_eq_true, not_true_eq_false, if_true, if_false, ↓reduceIte, eq_self, Option.bind_some, Bool.true_and, Bool.false_and, Bool.and_true, Bool.and_false, nI_add, nI_subN, nI_clamp, gdF, gdF2, gdP, gdP2, zI_cl, zI_s, Lm1, nI_n0, zI_n0, leF, or_false, false_or, or_self, e, r1, hbit, Nat.add_sub_cancel, decide_eq_false h0, Bool.false_or]
      by_cases hM' : M.testBit c = true
      · simp only [hM', decide_eq_true_eq, decide_true, decide_false, Bool.not_eq_true, Bool.not_eq_true', Bool.not_true, Bool.not_false, decide_eq_false_iff_not, Bool.false_eq_true, not_false_eq_true, not_true_eq_false, if_true, if_false, ↓reduceIte, eq_self, Option.bind_some, Bool.true_and, Bool.false_and, Bool.and_true, Bool.and_false]
        exact ev_ret
      · simp only [hM', decide_eq_true_eq, decide_true, decide_false, Bool.not_eq_true, Bool.not_eq_true', Bool.not_true, Bool.not_false, decide_eq_false_iff_not, Bool.false_eq_true, not_false_eq_true, not_true_eq_false, if_true, if_false, ↓reduceIte, eq_self, Option.bind_some, Bool.true_and, Bool.false_and, Bool.and_true, Bool.and_false]
        exact ih (k + 1) (b 1 c) (by omega) ((hb.2.2.2.1 c (by omega)).1)
theorem f257l {S : mS} {b : AB} {c : Nat} (hB : MB S.2.1 b) (hb : OkB b) (hc : c < b 0 0) : ∀ (m k y : Nat), k + m = 17 → y ≤ b 0 0 → Ev (fun n => F257f n 9 (nI c) (zI y) (nI k) S) (nI (lpF b (c + 1) m k y), S) := by
  have hb1 := hb.1
  intro m
  induction m with
  | zero =>
    intro k y hk hy
    refine ev_succ (fun n => F257e9 n ..) ?_
    have e : 16 < k := by omega
    simp (disch := omega) only [F257b9, L0, L1, L2, L3, L4, L5, L6, L7, L8, L9, L10, L11, L12, L13, L16, L20, L31, L32, L40, L48, L57, L59, L60, L61, L91, L93, L97, L99, L100, L102, L103, L114, L122, L255, L300, L400, L402, L999, L2280, L2500, L99999, L63, L1431655765, L858993459, L252645135, ic_ge, ic_gt, ic_le, ic_lt, ic_eq, ic_ne, if_lt, if_ge, if_gt, if_le, if_eq, if_ne, if_lt_zI, if_ge_zI, ic_ne_m1, ic_eq_m1, ic_nn_m1, ic_ee_m1, if_ne_b2i, if_eq_b2i, b2i_z, decide_eq_true_eq, decide_true, decide_false, Bool.not_eq_true, Bool.not_eq_true', Bool.not_true, Bool.not_false, decide_eq_false_iff_not, Bool.false_eq_true, not_false_eq_true, not_true_eq_false, if_true, if_false, ↓reduceIte, eq_self, Option.bind_some, Bool.true_and, Bool.false_and, Bool.and_true, Bool.and_false, nI_add, nI_subN, nI_clamp, gdF, gdF2, gdP, gdP2, zI_cl, zI_s, Lm1, nI_n0, zI_n0, leF, or_false, false_or, or_self, e]
    exact ev_ret
  | succ m ih =>
    intro k y hk hy
    refine ev_succ (fun n => F257e9 n ..) ?_
    have e : ¬ 16 < k := by omega
    unfold lpF
    by_cases h0 : y = 0
    · subst h0
      simp (disch := omega) only [F257b9, L0, L1, L2, L3, L4, L5, L6, L7, L8, L9, L10, L11, L12, L13, L16, L20, L31, L32, L40, L48, L57, L59, L60, L61, L91, L93, L97, L99, L100, L102, L103, L114, L122, L255, L300, L400, L402, L999, L2280, L2500, L99999, L63, L1431655765, L858993459, L252645135, ic_ge, ic_gt, ic_le, ic_lt, ic_eq, ic_ne, if_lt, if_ge, if_gt, if_le, if_eq, if_ne, if_lt_zI, if_ge_zI, ic_ne_m1, ic_eq_m1, ic_nn_m1, ic_ee_m1, if_ne_b2i, if_eq_b2i, b2i_z, decide_eq_true_eq, decide_true, decide_false, Bool.not_eq_true, Bool.not_eq_true', Bool.not_true, Bool.not_false, decide_eq_false_iff_not, Bool.false_eq_true, not_false_eq_true, not_true_eq_false, if_true, if_false, ↓reduceIte, eq_self, Option.bind_some, Bool.true_and, Bool.false_and, Bool.and_true, Bool.and_false, nI_add, nI_subN, nI_clamp, gdF, gdF2, gdP, gdP2, zI_cl, zI_s, Lm1, nI_n0, zI_n0, leF, or_false, false_or, or_self, e]
      exact ev_ret
    · obtain ⟨d, rfl⟩ : ∃ d, y = d + 1 := ⟨y - 1, by omega⟩
      have r1 := (hB.2.2.2.1 d (by omega)).1
      rw [if_neg h0]
      by_cases h1 : d + 1 = c + 1
      · have h2 : d = c := by omega
        subst h2
        simp (disch := omega) only [F257b9, L0, L1, L2, L3, L4, L5, L6, L7, L8, L9, L10, L11, L12, L13, L16, L20, L31, L32, L40, L48, L57, L59, L60, L61, L91, L93, L97, L99, L100, L102, L103, L114, L122, L255, L300, L400, L402, L999, L2280, L2500, L99999, L63, L1431655765, L858993459, L252645135, ic_ge, ic_gt, ic_le, ic_lt, ic_eq, ic_ne, if_lt, if_ge, if_gt, if_le, if_eq, if_ne, if_lt_zI, if_ge_zI, ic_ne_m1, ic_eq_m1, ic_nn_m1, ic_ee_m1, if_ne_b2i, if_eq_b2i, b2i_z, decide_eq_true_eq, decide_true, decide_false, Bool.not_eq_true, Bool.not_eq_true', Bool.not_true, Bool.not_false, decide_eq_false_iff_not, Bool.false_eq_true, not_false_eq_true, not_true_eq_false, if_true, if_false, ↓reduceIte, eq_self, Option.bind_some, Bool.true_and, Bool.false_and, Bool.and_true, Bool.and_false, nI_add, nI_subN, nI_clamp, gdF, gdF2, gdP, gdP2, zI_cl, zI_s, Lm1, nI_n0, zI_n0, leF, or_false, false_or, or_self, e, r1]
        exact ev_ret
      · have h2 : ¬ d = c := by omega
        simp (disch := omega) only [F257b9, L0, L1, L2, L3, L4, L5, L6, L7, L8, L9, L10, L11, L12, L13, L16, L20, L31, L32, L40, L48, L57, L59, L60, L61, L91, L93, L97, L99, L100, L102, L103, L114, L122, L255, L300, L400, L402, L999, L2280, L2500, L99999, L63, L1431655765, L858993459, L252645135, ic_ge, ic_gt, ic_le, ic_lt, ic_eq, ic_ne, if_lt, if_ge, if_gt, if_le, if_eq, if_ne, if_lt_zI, if_ge_zI, ic_ne_m1, ic_eq_m1, ic_nn_m1, ic_ee_m1, if_ne_b2i, if_eq_b2i, b2i_z, decide_eq_true_eq, decide_true, decide_false, Bool.not_eq_true, Bool.not_eq_true', Bool.not_true, Bool.not_false, decide_eq_false_iff_not, Bool.false_eq_true, not_false_eq_true, not_true_eq_false, if_true, if_false, ↓reduceIte, eq_self, Option.bind_some, Bool.true_and, Bool.false_and, Bool.and_true, Bool.and_false, nI_add, nI_subN, nI_clamp, gdF, gdF2, gdP, gdP2, zI_cl, zI_s, Lm1, nI_n0, zI_n0, leF, or_false, false_or, or_self, e, r1, h2, h1]
        exact ih (k + 1) (b 1 d) (by omega) ((hb.2.2.2.1 d (by omega)).1)
theorem f257 {S : mS} {b : AB} {c : Nat} (hB : MB S.2.1 b) (hb : OkB b) (hc : c < b 0 0) : Ev (fun n => F257 n (nI c) S) (nI (lpN b (c + 1)), S) := by
  have hb1 := hb.1
  have r1 := (hB.2.2.2.1 c hc).1
  refine ev_succ (fun n => F257e0 n ..) ?_
  simp (disch := omega) only [F257b0, L0, L1, L2, L3, L4, L5, L6, L7, L8, L9, L10, L11, L12, L13, L16, L20, L31, L32, L40, L48, L57, L59, L60, L61, L91, L93, L97, L99, L100, L102, L103, L114, L122, L255, L300, L400, L402, L999, L2280, L2500, L99999, L63, L1431655765, L858993459, L252645135, ic_ge, ic_gt, ic_le, ic_lt, ic_eq, ic_ne, if_lt, if_ge, if_gt, if_le, if_eq, if_ne, if_lt_zI, if_ge_zI, ic_ne_m1, ic_eq_m1, ic_nn_m1, ic_ee_m1, if_ne_b2i, if_eq_b2i, b2i_z, decide_eq_true_eq, decide_true, decide_false, Bool.not_eq_true, Bool.not_eq_true', Bool.not_true, Bool.not_false, decide_eq_false_iff_not, Bool.false_eq_true, not_false_eq_true, not_true_eq_false, if_true, if_false, ↓reduceIte, eq_self, Option.bind_some, Bool.true_and, Bool.false_and, Bool.and_true, Bool.and_false, nI_add, nI_subN, nI_clamp, gdF, gdF2, gdP, gdP2, zI_cl, zI_s, Lm1, nI_n0, zI_n0, leF, or_false, false_or, or_self, r1]
  exact f257l hB hb hc 16 1 (b 1 c) (by decide) ((hb.2.2.2.1 c hc).1)
theorem f256l {S : mS} {b : AB} {v : Nat} (hB : MB S.2.1 b) (hb : OkB b) (hv : v ≤ 1) : ∀ (m k z : Nat), k + m ≤ 17 → z ≤ b 0 0 → (∃ i, i ≤ m ∧ rstN b (itN b i z) = true) → Ev (fun n => F256f n 25 (nI 0) (nI v) (zI z) (nI k) S) (nI (if v = 0 then lpN b (rdF b (rstN b) m k z).2 else (rdF b (rstN b) m k z).1), S) := by
  have hb1 := hb.1
  have stop : ∀ (k z : Nat), z ≤ b 0 0 → rstN b z = true → Ev (fun n => F256f n 25 (nI 0) (nI v) (zI z) (nI k) S) (nI (if v = 0 then lpN b z else k), S) := by
    intro k z hz hs
    refine ev_succ (fun n => F256e25 n ..) ?_
    have hv' : v = 0 ∨ v = 1 := by omega
    by_cases h0 : z = 0
    · subst h0
      rcases hv' with rfl | rfl
      · simp (disch := omega) only [F256b25, L0, L1, L2, L3, L4, L5, L6, L7, L8, L9, L10, L11, L12, L13, L16, L20, L31, L32, L40, L48, L57, L59, L60, L61, L91, L93, L97, L99, L100, L102, L103, L114, L122, L255, L300, L400, L402, L999, L2280, L2500, L99999, L63, L1431655765, L858993459, L252645135, ic_ge, ic_gt, ic_le, ic_lt, ic_eq, ic_ne, if_lt, if_ge, if_gt, if_le, if_eq, if_ne, if_lt_zI, if_ge_zI, ic_ne_m1, ic_eq_m1, ic_nn_m1, ic_ee_m1, if_ne_b2i, if_eq_b2i, b2i_z, decide_eq_true_eq, decide_true, decide_false, Bool.not_eq_true, Bool.not_eq_true', Bool.not_true, Bool.not_false, decide_eq_false_iff_not, Bool.false_eq_true, not_false_eq_true, not_true_eq_false, if_true, if_false, ↓reduceIte, eq_self, Option.bind_some, Bool.true_and, Bool.false_and, Bool.and_true, Bool.and_false, nI_add, nI_subN, nI_clamp, gdF, gdF2, gdP, gdP2, zI_cl, zI_s, Lm1, nI_n0, zI_n0, leF, or_false, false_or, or_self, lpN_0, show ¬ 0 = 1 by decide]
        exact ev_ret
      · simp (disch := omega) only [F256b25, L0, L1, L2, L3, L4, L5, L6, L7, L8, L9, L10, L11, L12, L13, L16, L20, L31, L32, L40, L48, L57, L59, L60, L61, L91, L93, L97, L99, L100, L102, L103, L114, L122, L255, L300, L400, L402, L999, L2280, L2500, L99999, L63, L1431655765, L858993459, L252645135, ic_ge, ic_gt, ic_le, ic_lt, ic_eq, ic_ne, if_lt, if_ge, if_gt, if_le, if_eq, if_ne, if_lt_zI, if_ge_zI, ic_ne_m1, ic_eq_m1, ic_nn_m1, ic_ee_m1, if_ne_b2i, if_eq_b2i, b2i_z, decide_eq_true_eq, decide_true, decide_false, Bool.not_eq_true, Bool.not_eq_true', Bool.not_true, Bool.not_false, decide_eq_false_iff_not, Bool.false_eq_true, not_false_eq_true, not_true_eq_false, if_true, if_false, ↓reduceIte, eq_self, Option.bind_some, Bool.true_and, Bool.false_and, Bool.and_true, Bool.and_false, nI_add, nI_subN, nI_clamp, gdF, gdF2, gdP, gdP2, zI_cl, zI_s, Lm1, nI_n0, zI_n0, leF, or_false, false_or, or_self, Nat.one_ne_zero]
        exact ev_ret
    · obtain ⟨c, rfl⟩ : ∃ c, z = c + 1 := ⟨z - 1, by omega⟩
      have hl := lpN_le (b := b) (z := c + 1)
      have hne : ¬ lpN b (c + 1) = 0 := by
        intro e
        unfold rstN at hs
        rw [decide_eq_false h0, e] at hs
        cases hs
      have ff := f257 (S := S) (c := c) hB hb (by omega)
      simp (disch := omega) only [F256b25, L0, L1, L2, L3, L4, L5, L6, L7, L8, L9, L10, L11, L12, L13, L16, L20, L31, L32, L40, L48, L57, L59, L60, L61, L91, L93, L97, L99, L100, L102, L103, L114, L122, L255, L300, L400, L402, L999, L2280, L2500, L99999, L63, L1431655765, L858993459, L252645135, ic_ge, ic_gt, ic_le, ic_lt, ic_eq, ic_ne, if_lt, if_ge, if_gt, if_le, if_eq, if_ne, if_lt_zI, if_ge_zI, ic_ne_m1, ic_eq_m1, ic_nn_m1, ic_ee_m1, if_ne_b2i, if_eq_b2i, b2i_z, decide_eq_true_eq, decide_true, decide_false, Bool.not_eq_true, Bool.not_eq_true', Bool.not_true, Bool.not_false, decide_eq_false_iff_not, Bool.false_eq_true, not_false_eq_true, not_true_eq_false, if_true, if_false, ↓reduceIte, eq_self, Option.bind_some, Bool.true_and, Bool.false_and, Bool.and_true, Bool.and_false, nI_add, nI_subN, nI_clamp, gdF, gdF2, gdP, gdP2, zI_cl, zI_s, Lm1, nI_n0, zI_n0, leF, or_false, false_or, or_self]
      refine ev_bind ff ?_
      rcases hv' with rfl | rfl
      · simp (disch := omega) only [L0, L1, L2, L3, L4, L5, L6, L7, L8, L9, L10, L11, L12, L13, L16, L20, L31, L32, L40, L48, L57, L59, L60, L61, L91, L93, L97, L99, L100, L102, L103, L114, L122, L255, L300, L400, L402, L999, L2280, L2500, L99999, L63, L1431655765, L858993459, L252645135, ic_ge, ic_gt, ic_le, ic_lt, ic_eq, ic_ne, if_lt, if_ge, if_gt, if_le, if_eq, if_ne, if_lt_zI, if_ge_zI, ic_ne_m1, ic_eq_m1, ic_nn_m1, ic_ee_m1, if_ne_b2i, if_eq_b2i, b2i_z, decide_eq_true_eq, decide_true, decide_false, Bool.not_eq_true, Bool.not_eq_true', Bool.not_true, Bool.not_false, decide_eq_false_iff_not, Bool.false_eq_true, not_false_eq_true, not_true_eq_false, if_true, if_false, ↓reduceIte, eq_self, Option.bind_some, Bool.true_and, Bool.false_and, Bool.and_true, Bool.and_false, nI_add, nI_subN, nI_clamp, gdF, gdF2, gdP, gdP2, zI_cl, zI_s, Lm1, nI_n0, zI_n0, leF, or_false, false_or, or_self, hne, show ¬ 0 = 1 by decide]
        refine ev_bind ff ?_
        exact ev_ret
      · simp (disch := omega) only [L0, L1, L2, L3, L4, L5, L6, L7, L8, L9, L10, L11, L12, L13, L16, L20, L31, L32, L40, L48, L57, L59, L60, L61, L91, L93, L97, L99, L100, L102, L103, L114, L122, L255, L300, L400, L402, L999, L2280, L2500, L99999, L63, L1431655765, L858993459, L252645135, ic_ge, ic_gt, ic_le, ic_lt, ic_eq, ic_ne, if_lt, if_ge, if_gt, if_le, if_eq, if_ne, if_lt_zI, if_ge_zI, ic_ne_m1, ic_eq_m1, ic_nn_m1, ic_ee_m1, if_ne_b2i, if_eq_b2i, b2i_z, decide_eq_true_eq, decide_true, decide_false, Bool.not_eq_true, Bool.not_eq_true', Bool.not_true, Bool.not_false, decide_eq_false_iff_not, Bool.false_eq_true, not_false_eq_true, not_true_eq_false, if_true, if_false, ↓reduceIte, eq_self, Option.bind_some, Bool.true_and, Bool.false_and, Bool.and_true, Bool.and_false, nI_add, nI_subN, nI_clamp, gdF, gdF2, gdP, gdP2, zI_cl, zI_s, Lm1, nI_n0, zI_n0, leF, or_false, false_or, or_self, hne, Nat.one_ne_zero]
        exact ev_ret
  intro m
  induction m with
  | zero =>
    rintro k z hk hz ⟨i, h1, h2⟩
    have : i = 0 := by omega
    subst this
    exact stop k z hz h2
  | succ m ih =>
    rintro k z hk hz ⟨i, h1, h2⟩
    unfold rdF
    by_cases hs : rstN b z = true
    · rw [if_pos hs]
      exact stop k z hz hs
    · rw [if_neg hs]
      have h0 : z ≠ 0 := by
        intro e
        subst e
        exact hs rfl
      have hi : i ≠ 0 := by
        intro e
        subst e
        exact hs h2
      obtain ⟨j, rfl⟩ : ∃ j, i = j + 1 := ⟨i - 1, by omega⟩
      obtain ⟨c, rfl⟩ : ∃ c, z = c + 1 := ⟨z - 1, by omega⟩
      have hl : lpN b (c + 1) = 0 := by
        by_cases h : lpN b (c + 1) = 0
        · exact h
        · exfalso
          apply hs
          unfold rstN
          rw [decide_eq_false h]
          simp
      have r1 := (hB.2.2.2.1 c (by omega)).1
      refine ev_succ (fun n => F256e25 n ..) ?_
      simp (disch := omega) only [F256b25, L0, L1, L2, L3, L4, L5, L6, L7, L8, L9, L10, L11, L12, L13, L16, L20, L31, L32, L40, L48, L57, L59, L60, L61, L91, L93, L97, L99, L100, L102, L103, L114, L122, L255, L300, L400, L402, L999, L2280, L2500, L99999, L63, L1431655765, L858993459, L252645135, ic_ge, ic_gt, ic_le, ic_lt, ic_eq, ic_ne, if_lt, if_ge, if_gt, if_le, if_eq, if_ne, if_lt_zI, if_ge_zI, ic_ne_m1, ic_eq_m1, ic_nn_m1, ic_ee_m1, if_ne_b2i, if_eq_b2i, b2i_z, decide_eq_true_eq, decide_true, decide_false, Bool.not_eq_true, Bool.not_eq_true', Bool.not_true, Bool.not_false, decide_eq_false_iff_not, Bool.false_eq_true, not_false_eq_true, not_true_eq_false, if_true, if_false, ↓reduceIte, eq_self, Option.bind_some, Bool.true_and, Bool.false_and, Bool.and_true, Bool.and_false, nI_add, nI_subN, nI_clamp, gdF, gdF2, gdP, gdP2, zI_cl, zI_s, Lm1, nI_n0, zI_n0, leF, or_false, false_or, or_self]
      refine ev_bind (f257 (S := S) (c := c) hB hb (by omega)) ?_
      simp (disch := omega) only [hl, L0, L1, L2, L3, L4, L5, L6, L7, L8, L9, L10, L11, L12, L13, L16, L20, L31, L32, L40, L48, L57, L59, L60, L61, L91, L93, L97, L99, L100, L102, L103, L114, L122, L255, L300, L400, L402, L999, L2280, L2500, L99999, L63, L1431655765, L858993459, L252645135, ic_ge, ic_gt, ic_le, ic_lt, ic_eq, ic_ne, if_lt, if_ge, if_gt, if_le, if_eq, if_ne, if_lt_zI, if_ge_zI, ic_ne_m1, ic_eq_m1, ic_nn_m1, ic_ee_m1, if_ne_b2i, if_eq_b2i, b2i_z, decide_eq_true_eq, decide_true, decide_false, Bool.not_eq_true, Bool.not_eq_true', Bool.not_true, Bool.not_false, decide_eq_false_iff_not, Bool.false_eq_true, not_false_eq_true, not_true_eq_false, if_true, if_false, ↓reduceIte, eq_self, Option.bind_some, Bool.true_and, Bool.false_and, Bool.and_true, Bool.and_false, nI_add, nI_subN, nI_clamp, gdF, gdF2, gdP, gdP2, zI_cl, zI_s, Lm1, nI_n0, zI_n0, leF, or_false, false_or, or_self, r1]
      exact ih (k + 1) (b 1 c) (by omega) ((hb.2.2.2.1 c (by omega)).1) ⟨j, by omega, h2⟩
theorem sm_round {k : Nat} {a1 a2 : Int32} (A : AA) (ok : OkA k A) : ∃ r A', OkA (k + 1) A' ∧ CallT (fun n => G138 n a1 a2) A r A' ∧ CallM (fun n => F256 n a1 a2) A r A' := by
  have ok1 := OkA_s ok
  have hb := OkA_b ok
  have hb1 := hb.1
  by_cases hall : (∃ c, c < A.2.2.1.1 0 0 ∧ a1 = nI c) ∧ (∃ j, j ≤ 1 ∧ a2 = nI j)
  · obtain ⟨⟨c, hc, rfl⟩, ⟨v, hv, rfl⟩⟩ := hall
    have in1 : inL (nI v).toInt64 0 1 = true := by
      have := inK (a := v) (k := 1) (by omega) (by decide)
      rw [decide_eq_true hv] at this
      exact this
    have hMl := mkF_lt hb (A.2.2.1.1 0 0) 0 (itN A.2.2.1.1 (A.2.2.1.1 0 0) (c + 1)) (by decide) (it_le hb _ _ (by omega))
    refine ⟨nI (if v = 0 then lpN A.2.2.1.1 (rouA A.2.2.1.1 c).2 else (rouA A.2.2.1.1 c).1), A, ok1, fun T G hR => ?_, callM_id (fun S hS => ?_)⟩
    · refine ep_succ (fun n => G138e0 n ..) ?_
      simp only [G138b0]
      refine ep_bv (g75n ok hR (by omega)) ?_
      simp (disch := omega) only [hc, if_eq_b2i, L0, L1, L2, L3, L4, L5, L6, L7, L8, L9, L10, L11, L12, L13, L16, L20, L31, L32, L40, L48, L57, L59, L60, L61, L91, L93, L97, L99, L100, L102, L103, L114, L122, L255, L300, L400, L402, L999, L2280, L2500, L99999, L63, L1431655765, L858993459, L252645135, ic_ge, ic_gt, ic_le, ic_lt, ic_eq, ic_ne, if_lt, if_ge, if_gt, if_le, if_eq, if_ne, if_lt_zI, if_ge_zI, ic_ne_m1, ic_eq_m1, ic_nn_m1, ic_ee_m1, if_ne_b2i, if_eq_b2i, b2i_z, decide_eq_true_eq, decide_true, decide_false, Bool.not_eq_true, Bool.not_eq_true', Bool.not_true, Bool.not_false, decide_eq_false_iff_not, Bool.false_eq_true, not_false_eq_true, not_true_eq_false, if_true, if_false, ↓reduceIte, eq_self, Option.bind_some, Bool.true_and, Bool.false_and, Bool.and_true, Bool.and_false, nI_add, nI_subN, nI_clamp, gdF, gdF2, gdP, gdP2, zI_cl, zI_s, Lm1, nI_n0, zI_n0, leF, or_false, false_or, or_self, hv]
      refine ep_bind (g139 (p := 89) (CD_b hR) hb hc) ?_
      rintro _ rfl
      have hv' : v = 0 ∨ v = 1 := by omega
      rcases hv' with rfl | rfl
      · simp (disch := omega) only [L0, L1, L2, L3, L4, L5, L6, L7, L8, L9, L10, L11, L12, L13, L16, L20, L31, L32, L40, L48, L57, L59, L60, L61, L91, L93, L97, L99, L100, L102, L103, L114, L122, L255, L300, L400, L402, L999, L2280, L2500, L99999, L63, L1431655765, L858993459, L252645135, ic_ge, ic_gt, ic_le, ic_lt, ic_eq, ic_ne, if_lt, if_ge, if_gt, if_le, if_eq, if_ne, if_lt_zI, if_ge_zI, ic_ne_m1, ic_eq_m1, ic_nn_m1, ic_ee_m1, if_ne_b2i, if_eq_b2i, b2i_z, decide_eq_true_eq, decide_true, decide_false, Bool.not_eq_true, Bool.not_eq_true', Bool.not_true, Bool.not_false, decide_eq_false_iff_not, Bool.false_eq_true, not_false_eq_true, not_true_eq_false, if_true, if_false, ↓reduceIte, eq_self, Option.bind_some, Bool.true_and, Bool.false_and, Bool.and_true, Bool.and_false, nI_add, nI_subN, nI_clamp, gdF, gdF2, gdP, gdP2, zI_cl, zI_s, Lm1, nI_n0, zI_n0, leF, or_false, false_or, or_self]
        refine ep_bv (g92 hMl) ?_
        refine ep_ret ⟨?_, hR⟩
        show nI _ = nI _
        rw [rou_ct hb hc]
      · simp (disch := omega) only [L0, L1, L2, L3, L4, L5, L6, L7, L8, L9, L10, L11, L12, L13, L16, L20, L31, L32, L40, L48, L57, L59, L60, L61, L91, L93, L97, L99, L100, L102, L103, L114, L122, L255, L300, L400, L402, L999, L2280, L2500, L99999, L63, L1431655765, L858993459, L252645135, ic_ge, ic_gt, ic_le, ic_lt, ic_eq, ic_ne, if_lt, if_ge, if_gt, if_le, if_eq, if_ne, if_lt_zI, if_ge_zI, ic_ne_m1, ic_eq_m1, ic_nn_m1, ic_ee_m1, if_ne_b2i, if_eq_b2i, b2i_z, decide_eq_true_eq, decide_true, decide_false, Bool.not_eq_true, Bool.not_eq_true', Bool.not_true, Bool.not_false, decide_eq_false_iff_not, Bool.false_eq_true, not_false_eq_true, not_true_eq_false, if_true, if_false, ↓reduceIte, eq_self, Option.bind_some, Bool.true_and, Bool.false_and, Bool.and_true, Bool.and_false, nI_add, nI_subN, nI_clamp, gdF, gdF2, gdP, gdP2, zI_cl, zI_s, Lm1, nI_n0, zI_n0, leF, or_false, false_or, or_self, Nat.one_ne_zero]
        have := g138l (CD_b hR) hb hMl 16 0 (c + 1) (by decide) (by omega)
        rw [rd_eq (t := rstN A.2.2.1.1) 16 0 (c + 1) (fun i _ => rou_st hb (by omega) (by omega) i), zI_s] at this
        exact ⟨_, this, rfl, hR⟩
    · refine ev_succ (fun n => F256e0 n ..) ?_
      simp only [F256b0]
      refine ev_bind (f196n ok hS (by omega)) ?_
      simp only [hc, if_eq_b2i, decide_eq_true_eq, decide_true, decide_false, Bool.not_eq_true, Bool.not_eq_true', Bool.not_true, Bool.not_false, decide_eq_false_iff_not, Bool.false_eq_true, not_false_eq_true, not_true_eq_false, if_true, if_false, ↓reduceIte, eq_self, Option.bind_some, Bool.true_and, Bool.false_and, Bool.and_true, Bool.and_false]
      refine ev_bind (f172 S) ?_
      rw [in1]
      simp only [if_ne_b2i, decide_eq_true_eq, decide_true, decide_false, Bool.not_eq_true, Bool.not_eq_true', Bool.not_true, Bool.not_false, decide_eq_false_iff_not, Bool.false_eq_true, not_false_eq_true, not_true_eq_false, if_true, if_false, ↓reduceIte, eq_self, Option.bind_some, Bool.true_and, Bool.false_and, Bool.and_true, Bool.and_false]
      obtain ⟨i0, hi0, hs0⟩ := rou_is hb (z := c + 1) (by omega) (by omega)
      have := f256l (MD_b hS) hb hv 16 0 (c + 1) (by decide) (by omega) ⟨i0, by omega, hs0⟩
      rw [zI_s] at this
      exact this
  · refine ⟨zI 0, A, ok1, callT_id (fun T G hR => ?_), callM_id (fun S hS => ?_)⟩
    · refine ev_succ (fun n => G138e0 n ..) ?_
      simp only [G138b0]
      rcases arg_C ok a1 with ⟨c, hc, rfl⟩ | hC
      · refine ev_bind (g75n ok hR (by omega)) ?_
        simp only [hc, if_eq_b2i, decide_eq_true_eq, decide_true, decide_false, Bool.not_eq_true, Bool.not_eq_true', Bool.not_true, Bool.not_false, decide_eq_false_iff_not, Bool.false_eq_true, not_false_eq_true, not_true_eq_false, if_true, if_false, ↓reduceIte, eq_self, Option.bind_some, Bool.true_and, Bool.false_and, Bool.and_true, Bool.and_false]
        rcases arg_W a2 (v := 1) (by decide) with ⟨j, hj, rfl⟩ | ⟨h4 | ⟨h4, h5⟩, _⟩
        · exact absurd ⟨⟨c, hc, rfl⟩, ⟨j, hj, rfl⟩⟩ hall
        · simp only [h4, decide_eq_true_eq, decide_true, decide_false, Bool.not_eq_true, Bool.not_eq_true', Bool.not_true, Bool.not_false, decide_eq_false_iff_not, Bool.false_eq_true, not_false_eq_true, not_true_eq_false, if_true, if_false, ↓reduceIte, eq_self, Option.bind_some, Bool.true_and, Bool.false_and, Bool.and_true, Bool.and_false]
          exact ev_ret
        · simp only [h4, L1, h5, decide_eq_true_eq, decide_true, decide_false, Bool.not_eq_true, Bool.not_eq_true', Bool.not_true, Bool.not_false, decide_eq_false_iff_not, Bool.false_eq_true, not_false_eq_true, not_true_eq_false, if_true, if_false, ↓reduceIte, eq_self, Option.bind_some, Bool.true_and, Bool.false_and, Bool.and_true, Bool.and_false]
          exact ev_ret
      · refine ev_bind (hC.1 T G hR) ?_
        simp only [if_eq_b2i, decide_eq_true_eq, decide_true, decide_false, Bool.not_eq_true, Bool.not_eq_true', Bool.not_true, Bool.not_false, decide_eq_false_iff_not, Bool.false_eq_true, not_false_eq_true, not_true_eq_false, if_true, if_false, ↓reduceIte, eq_self, Option.bind_some, Bool.true_and, Bool.false_and, Bool.and_true, Bool.and_false]
        exact ev_ret
    · refine ev_succ (fun n => F256e0 n ..) ?_
      simp only [F256b0]
      rcases arg_C ok a1 with ⟨c, hc, rfl⟩ | hC
      · refine ev_bind (f196n ok hS (by omega)) ?_
        simp only [hc, if_eq_b2i, decide_eq_true_eq, decide_true, decide_false, Bool.not_eq_true, Bool.not_eq_true', Bool.not_true, Bool.not_false, decide_eq_false_iff_not, Bool.false_eq_true, not_false_eq_true, not_true_eq_false, if_true, if_false, ↓reduceIte, eq_self, Option.bind_some, Bool.true_and, Bool.false_and, Bool.and_true, Bool.and_false]
        refine ev_bind (f172 S) ?_
        rcases arg_W a2 (v := 1) (by decide) with ⟨j, hj, rfl⟩ | ⟨_, h5⟩
        · exact absurd ⟨⟨c, hc, rfl⟩, ⟨j, hj, rfl⟩⟩ hall
        · have h5 : inL a2.toInt64 0 1 = false := h5
          rw [h5]
          simp only [if_ne_b2i, decide_eq_true_eq, decide_true, decide_false, Bool.not_eq_true, Bool.not_eq_true', Bool.not_true, Bool.not_false, decide_eq_false_iff_not, Bool.false_eq_true, not_false_eq_true, not_true_eq_false, if_true, if_false, ↓reduceIte, eq_self, Option.bind_some, Bool.true_and, Bool.false_and, Bool.and_true, Bool.and_false]
          exact ev_ret
      · refine ev_bind (hC.2 S hS) ?_
        simp only [if_eq_b2i, decide_eq_true_eq, decide_true, decide_false, Bool.not_eq_true, Bool.not_eq_true', Bool.not_true, Bool.not_false, decide_eq_false_iff_not, Bool.false_eq_true, not_false_eq_true, not_true_eq_false, if_true, if_false, ↓reduceIte, eq_self, Option.bind_some, Bool.true_and, Bool.false_and, Bool.and_true, Bool.and_false]
        exact ev_ret
