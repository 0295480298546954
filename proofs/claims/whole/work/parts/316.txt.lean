/-! runs with a condition on what they come to -/
def Ep {α : Type} (f : Nat → Option α) (P : α → Prop) : Prop := ∃ r, Ev f r ∧ P r
section EpR
variable {α β : Type} {f g : Nat → Option α} {P Q : α → Prop} {r : α}
theorem ep_ret (h : P r) : Ep (fun _ => some r) P := ⟨r, ev_ret, h⟩
theorem ep_ev (h : Ev f r) (hp : P r) : Ep f P := ⟨r, h, hp⟩
theorem ep_bind {k : Nat → Option β} {R : β → Prop} {g : Nat → β → Option α} (h1 : Ep k R) (h2 : ∀ b, R b → Ep (fun n => g n b) P) : Ep (fun n => (k n).bind (g n)) P := by
  obtain ⟨b, hb, hr⟩ := h1
  obtain ⟨r, h, hp⟩ := h2 b hr
  exact ⟨r, ev_bind hb h, hp⟩
theorem ep_bv {k : Nat → Option β} {b : β} {g : Nat → β → Option α} (h1 : Ev k b) (h2 : Ep (fun n => g n b) P) : Ep (fun n => (k n).bind (g n)) P := by
  obtain ⟨r, h, hp⟩ := h2
  exact ⟨r, ev_bind h1 h, hp⟩
theorem ep_succ (he : ∀ n, f (n + 1) = g n) (h : Ep g P) : Ep f P := by
  obtain ⟨r, h, hp⟩ := h
  exact ⟨r, ev_succ he h, hp⟩
theorem ep_mono (h : Ep f Q) (hq : ∀ r, Q r → P r) : Ep f P := by
  obtain ⟨r, h, hp⟩ := h
  exact ⟨r, h, hq r hp⟩
theorem ep_eq (he : ∀ n, f n = g n) (h : Ep g P) : Ep f P := by
  obtain ⟨r, h, hp⟩ := h
  exact ⟨r, ev_eq he h, hp⟩
theorem ev_fun {r' : α} (h : Ev f r) (h' : Ev f r') : r = r' := by
  obtain ⟨a, ha⟩ := h
  obtain ⟨b, hb⟩ := h'
  have e := (ha (a + b) (by omega)).symm.trans (hb (a + b) (by omega))
  exact Option.some.inj e
end EpR
/-! texts -/
theorem lenN_app {t l : Nat} (ht : 1 ≤ t) (hl : l < 10) : lenN (t * 10 + l) = lenN t + 1 := by
  rw [lenN_s (by omega), show (t * 10 + l) / 10 = t by omega]
theorem digN_app {t l : Nat} (ht : 1 ≤ t) (h1 : 1 ≤ l) (h6 : l ≤ 6) : digN (t * 10 + l) = digN t := by
  rw [digN_s' (by omega), show (t * 10 + l) / 10 = t by omega, show (t * 10 + l) % 10 = l by omega, decide_eq_true ⟨h1, h6⟩, Bool.true_and]
theorem isTx_iff {t : Nat} : isTx t = true ↔ 1 ≤ t ∧ lenN t ≤ 8 ∧ digN t = true := by
  unfold isTx
  simp only [Bool.and_eq_true, decide_eq_true_eq]
theorem isTx_app {t l : Nat} (h : isTx t = true) (h8 : lenN t < 8) (h1 : 1 ≤ l) (h6 : l ≤ 6) : isTx (t * 10 + l) = true := by
  rw [isTx_iff] at *
  refine ⟨by omega, ?_, ?_⟩
  · rw [lenN_app h.1 (by omega)]
    omega
  · rw [digN_app h.1 h1 h6]
    exact h.2.2
theorem cat_d {a P t : Nat} : (a * (P * 10) + t) / 10 = a * P + t / 10 := by
  rw [← Nat.mul_assoc]
  generalize a * P = q
  omega
theorem cat_m {a P t : Nat} : (a * (P * 10) + t) % 10 = t % 10 := by
  rw [← Nat.mul_assoc]
  generalize a * P = q
  omega
theorem cat_0 {a k t : Nat} (ha : 1 ≤ a) : a * 10 ^ k + t ≠ 0 := by
  have : 0 < a * 10 ^ k := Nat.mul_pos ha (Nat.pow_pos (by decide))
  omega
theorem lenN_z {t : Nat} (h : lenN t = 0) : t = 0 := by
  by_cases h0 : t = 0
  · exact h0
  · rw [lenN_s h0] at h
    omega
theorem lenN_cat {a : Nat} (ha : 1 ≤ a) : ∀ (k t : Nat), lenN t = k → lenN (a * 10 ^ k + t) = lenN a + k
  | 0, t, h => by
    rw [lenN_z h]
    simp
  | k + 1, t, h => by
    have h0 : t ≠ 0 := fun e => by rw [e, lenN_0] at h; omega
    rw [lenN_s h0] at h
    rw [lenN_s (cat_0 ha), Nat.pow_succ, cat_d, lenN_cat ha k (t / 10) (by omega)]
    omega
theorem digN_cat {a : Nat} (ha : 1 ≤ a) : ∀ (k t : Nat), lenN t = k → digN (a * 10 ^ k + t) = (digN t && digN a)
  | 0, t, h => by
    rw [lenN_z h, digN_0]
    simp
  | k + 1, t, h => by
    have h0 : t ≠ 0 := fun e => by rw [e, lenN_0] at h; omega
    rw [lenN_s h0] at h
    rw [digN_s' (cat_0 ha), Nat.pow_succ, cat_d, cat_m, digN_cat ha k (t / 10) (by omega), digN_s' h0, Bool.and_assoc]
theorem or_comm (x y : Int32) : x ||| y = y ||| x := by
  apply b_ext
  intro i _
  rw [b_or, b_or, Bool.or_comm]
theorem or_assoc' (x y z : Int32) : x ||| y ||| z = x ||| (y ||| z) := by
  apply b_ext
  intro i _
  rw [b_or, b_or, b_or, b_or, Bool.or_assoc]
theorem or_z (x : Int32) : x ||| 0 = x := by
  apply b_ext
  intro i _
  rw [b_or, b_0, Bool.or_false]
theorem z_or (x : Int32) : 0 ||| x = x := by rw [or_comm, or_z]
theorem letN_acc : ∀ (t : Nat) (x : Int32), letN x t = x ||| letN 0 t := by
  intro t
  induction t using Nat.strongRecOn with
  | ind t ih =>
    intro x
    by_cases h : t = 0
    · rw [h, letN_0, letN_0, or_z]
    · rw [letN_s h, letN_s h, ih (t / 10) (by omega), ih (t / 10) (by omega) (0 ||| _), z_or, or_assoc']
theorem letN_cat {a : Nat} (ha : 1 ≤ a) : ∀ (k t : Nat) (x : Int32), lenN t = k → letN x (a * 10 ^ k + t) = letN (letN x t) a
  | 0, t, x, h => by
    rw [lenN_z h, letN_0]
    simp
  | k + 1, t, x, h => by
    have h0 : t ≠ 0 := fun e => by rw [e, lenN_0] at h; omega
    rw [lenN_s h0] at h
    rw [letN_s (cat_0 ha), letN_s h0, Nat.pow_succ, cat_d, cat_m, letN_cat ha k (t / 10) _ (by omega)]
theorem letN_cat' {a t : Nat} (ha : 1 ≤ a) : letN 0 (a * 10 ^ lenN t + t) = letN 0 a ||| letN 0 t := by
  rw [letN_cat ha (lenN t) t 0 rfl, letN_acc, or_comm]
theorem letN_app {t l : Nat} (ht : 1 ≤ t) (hl : l < 10) : letN 0 (t * 10 + l) = letN 0 t ||| (nI 1 <<< (nI l &&& nI 31)) := by
  rw [letN_s (by omega), show (t * 10 + l) / 10 = t by omega, show (t * 10 + l) % 10 = l by omega, letN_acc, z_or, or_comm]
  rfl
theorem isTx_cat {a t : Nat} (ha : isTx a = true) (ht : isTx t = true) (h8 : lenN a + lenN t ≤ 8) : isTx (a * 10 ^ lenN t + t) = true := by
  rw [isTx_iff] at *
  refine ⟨?_, ?_, ?_⟩
  · have := cat_0 (k := lenN t) (t := t) ha.1
    omega
  · rw [lenN_cat ha.1 (lenN t) t rfl]
    exact h8
  · rw [digN_cat ha.1 (lenN t) t rfl, ht.2.2, ha.2.2]
    rfl
theorem tenF_n : ∀ (k x : Nat), tenF k (nI x) = nI (x * 10 ^ k)
  | 0, x => by rw [Nat.pow_zero, Nat.mul_one]; rfl
  | k + 1, x => by
    show tenF k (nI x * nI 10) = _
    rw [nI_mul, tenF_n k (x * 10), Nat.pow_succ, Nat.mul_assoc, Nat.mul_comm 10]
theorem tenF_1 (k : Nat) : tenF k 1 = nI (10 ^ k) := by
  have := tenF_n k 1
  rw [Nat.one_mul] at this
  exact this
theorem tens_n {k : Nat} (h : k < 9) : am_tens.getD k (nI 0) = nI (10 ^ k) := (by decide +kernel : ∀ k, k < 9 → am_tens.getD k (nI 0) = nI (10 ^ k)) k h
theorem p10_le {k : Nat} (h : k ≤ 8) : 10 ^ k ≤ 100000000 := Nat.pow_le_pow_right (by decide) h
theorem p10_pos (k : Nat) : 0 < 10 ^ k := Nat.pow_pos (by decide)
theorem lenN_ge : ∀ (k t : Nat), lenN t = k + 1 → 10 ^ k ≤ t
  | 0, t, h => by
    by_cases h0 : t = 0
    · rw [h0, lenN_0] at h
      omega
    · rw [Nat.pow_zero]
      omega
  | k + 1, t, h => by
    have h0 : t ≠ 0 := fun e => by rw [e, lenN_0] at h; omega
    rw [lenN_s h0] at h
    have := lenN_ge k (t / 10) (by omega)
    rw [Nat.pow_succ]
    omega
theorem fstN_div : ∀ (k t : Nat), lenN t = k + 1 → t / 10 ^ k = fstN t
  | 0, t, h => by
    have := lenN_lt 1 t (by omega)
    rw [Nat.pow_zero, Nat.div_one, fstN_0 (by omega)]
  | k + 1, t, h => by
    have h0 : t ≠ 0 := fun e => by rw [e, lenN_0] at h; omega
    have h1 := lenN_ge (k + 1) t h
    have h9 : ¬ t ≤ 9 := by
      have := p10_pos k
      rw [Nat.pow_succ] at h1
      omega
    rw [lenN_s h0] at h
    rw [fstN_s h9, ← fstN_div k (t / 10) (by omega), Nat.div_div_eq_div_mul, Nat.pow_succ, Nat.mul_comm]
theorem fstN_le {t : Nat} (h : 1 ≤ lenN t) : fstN t ≤ 9 := by
  obtain ⟨k, hk⟩ : ∃ k, lenN t = k + 1 := ⟨lenN t - 1, by omega⟩
  rw [← fstN_div k t hk]
  have := lenN_lt (k + 1) t (by omega)
  rw [Nat.pow_succ] at this
  have h2 : t < 10 * 10 ^ k := by omega
  have := Nat.div_lt_of_lt_mul (show t < 10 ^ k * 10 by omega)
  omega
theorem letN_b : ∀ (t : Nat), digN t = true → ∃ v, v < 128 ∧ letN 0 t = nI v := by
  intro t
  induction t using Nat.strongRecOn with
  | ind t ih =>
    intro hd
    by_cases h : t = 0
    · exact ⟨0, by decide, by rw [h, letN_0]; rfl⟩
    · rw [digN_s' h, Bool.and_eq_true, decide_eq_true_eq] at hd
      obtain ⟨v, hv, e⟩ := ih (t / 10) (by omega) hd.2
      have hs : (1 : Int32) <<< (nI (t % 10) &&& 31) = nI (2 ^ (t % 10)) := nI_shl (by omega)
      refine ⟨2 ^ (t % 10) ||| v, Nat.or_lt_two_pow (n := 7) (Nat.pow_lt_pow_right (by decide) (by omega)) hv, ?_⟩
      rw [letN_s h, letN_acc, e, z_or, hs, nx_or]
