/-! the reference carries rows: p its counter, a the long row -/
def svG (p a : Nat) (S : mS) (k pos len : Nat) : mS := (upd S.1 p (nI (pos + len)), va_up S.2.1 a (fun i => if pos ≤ i ∧ i < pos + len then S.2.1 k (i - pos) else S.2.1 a i), S.2.2)
def ldG (p a : Nat) (S : mS) (k pos len : Nat) : mS := (upd S.1 p (nI (pos + len)), va_up S.2.1 k (fun i => if i < len then S.2.1 a (pos + i) else S.2.1 k i), S.2.2)
theorem upd_e {f : Nat → Int32} {k : Nat} {x : Int32} : upd f k x k = x := if_pos rfl
theorem upd_n {f : Nat → Int32} {k j : Nat} {x : Int32} (h : j ≠ k) : upd f k x j = f j := if_neg h
theorem upd_id {f : Nat → Int32} {k : Nat} {x : Int32} (h : f k = x) : upd f k x = f := by
  funext j
  by_cases e : j = k
  · rw [e, upd_e, h]
  · rw [upd_n e]
theorem upd_up {f : Nat → Int32} {k : Nat} {x y : Int32} : upd (upd f k x) k y = upd f k y := by
  funext j
  by_cases e : j = k
  · rw [e, upd_e, upd_e]
  · rw [upd_n e, upd_n e, upd_n e]
theorem va_id {α : Type} {f : Nat → α} {k : Nat} {x : α} (h : f k = x) : va_up f k x = f := by
  funext j
  by_cases e : j = k
  · rw [e, va_upS, h]
  · rw [va_upN e]
theorem sv_0 {p a : Nat} {S : mS} {k pos : Nat} (h : S.1 p = nI pos) : svG p a S k pos 0 = S := by
  unfold svG
  refine Prod.ext (upd_id (by rw [Nat.add_zero]; exact h)) (Prod.ext (va_id ?_) rfl)
  funext i
  exact (if_neg (by omega)).symm
theorem ld_0 {p a : Nat} {S : mS} {k pos : Nat} (h : S.1 p = nI pos) : ldG p a S k pos 0 = S := by
  unfold ldG
  refine Prod.ext (upd_id (by rw [Nat.add_zero]; exact h)) (Prod.ext (va_id ?_) rfl)
  funext i
  exact (if_neg (by omega)).symm
theorem sv_s {p a : Nat} {S : mS} {k pos j : Nat} : m_sI (m_sA (svG p a S k pos j) a (pos + j) (S.2.1 k j)) p (nI (pos + j + 1)) = svG p a S k pos (j + 1) := by
  unfold svG m_sI m_sA
  refine Prod.ext ?_ (Prod.ext ?_ rfl)
  · exact upd_up
  · funext q
    by_cases e : q = a
    · subst e
      simp only [va_upS]
      funext i
      by_cases ei : i = pos + j
      · subst ei
        rw [upd_e, if_pos (by omega), Nat.add_sub_cancel_left]
      · rw [upd_n ei]
        by_cases h : pos ≤ i ∧ i < pos + j
        · rw [if_pos h, if_pos (by omega)]
        · rw [if_neg h, if_neg (by omega)]
    · simp only [va_upN e]
theorem ld_s {p a : Nat} {S : mS} {k pos j : Nat} : m_sI (m_sA (ldG p a S k pos j) k j (S.2.1 a (pos + j))) p (nI (pos + j + 1)) = ldG p a S k pos (j + 1) := by
  unfold ldG m_sI m_sA
  refine Prod.ext ?_ (Prod.ext ?_ rfl)
  · exact upd_up
  · funext q
    by_cases e : q = k
    · subst e
      simp only [va_upS]
      funext i
      by_cases ei : i = j
      · subst ei
        rw [upd_e, if_pos (by omega)]
      · rw [upd_n ei]
        by_cases h : i < j
        · rw [if_pos h, if_pos (by omega)]
        · rw [if_neg h, if_neg (by omega)]
    · simp only [va_upN e]
theorem m_sA_id {S : mS} {k j : Nat} {x : Int32} (h : S.2.1 k j = x) : m_sA S k j x = S := by
  unfold m_sA
  refine Prod.ext rfl (Prod.ext (va_id ?_) rfl)
  exact (upd_id h).symm
section RdG
variable {p a k pos len q i : Nat} {S : mS}
theorem sv_p : (svG p a S k pos len).1 p = nI (pos + len) := upd_e
theorem sv_n (h : q ≠ p) : (svG p a S k pos len).1 q = S.1 q := upd_n h
theorem sv_r (h : q ≠ a) : (svG p a S k pos len).2.1 q = S.2.1 q := va_upN h
theorem sv_a : (svG p a S k pos len).2.1 a i = if pos ≤ i ∧ i < pos + len then S.2.1 k (i - pos) else S.2.1 a i := by
  unfold svG
  simp only [va_upS]
theorem ld_p : (ldG p a S k pos len).1 p = nI (pos + len) := upd_e
theorem ld_n (h : q ≠ p) : (ldG p a S k pos len).1 q = S.1 q := upd_n h
theorem ld_r (h : q ≠ k) : (ldG p a S k pos len).2.1 q = S.2.1 q := va_upN h
theorem ld_a : (ldG p a S k pos len).2.1 k i = if i < len then S.2.1 a (pos + i) else S.2.1 k i := by
  unfold ldG
  simp only [va_upS]
theorem sv_2 : (svG p a S k pos len).2.2 = S.2.2 := rfl
theorem ld_2 : (ldG p a S k pos len).2.2 = S.2.2 := rfl
end RdG
theorem f241_166sl {S : mS} {pos : Nat} (h7 : S.1 57 = nI 0) (hp : pos + 1 ≤ 12500) : ∀ m j, j + m = 1 → Ev (fun n => F241_166f n 2 (nI j) (svG 56 40 S 36 pos j)) ((), svG 56 40 S 36 pos 1) := by
  intro m
  induction m with
  | zero =>
    intro j hj
    refine ev_succ (fun n => F241_166e2 n ..) ?_
    have hj : j = 1 := by omega
    subst hj
    simp only [F241_166b2, L0, L1, L2, L3, L4, L5, L6, L7, L8, L9, L10, L11, L12, L13, L16, L20, L31, L32, L40, L48, L57, L59, L60, L61, L91, L93, L97, L99, L100, L102, L103, L114, L122, L255, L300, L400, L402, L999, L2280, L2500, L99999, L63, L1431655765, L858993459, L252645135]
    simp (disch := omega) only [ic_ge, Nat.le_refl, decide_eq_true_eq, decide_true, decide_false, Bool.not_eq_true, Bool.not_eq_true', Bool.not_true, Bool.not_false, decide_eq_false_iff_not, Bool.false_eq_true, not_false_eq_true, not_true_eq_false, if_true, if_false, ↓reduceIte, eq_self, Option.bind_some, Bool.true_and, Bool.false_and, Bool.and_true, Bool.and_false]
    exact ev_ret
  | succ m ih =>
    intro j hj
    refine ev_succ (fun n => F241_166e2 n ..) ?_
    have e : ¬ 1 ≤ j := by omega
    have e57 : (svG 56 40 S 36 pos j).1 57 = nI 0 := by rw [sv_n (by decide)]; exact h7
    have e56 : (svG 56 40 S 36 pos j).1 56 = nI (pos + j) := sv_p
    have er : (svG 56 40 S 36 pos j).2.1 36 j = S.2.1 36 j := by rw [sv_r (by decide)]
    simp (disch := omega) only [F241_166b2, L0, L1, L2, L3, L4, L5, L6, L7, L8, L9, L10, L11, L12, L13, L16, L20, L31, L32, L40, L48, L57, L59, L60, L61, L91, L93, L97, L99, L100, L102, L103, L114, L122, L255, L300, L400, L402, L999, L2280, L2500, L99999, L63, L1431655765, L858993459, L252645135, ic_ge, ic_gt, ic_le, ic_lt, ic_eq, ic_ne, if_lt, if_ge, if_gt, if_le, if_eq, if_ne, if_lt_zI, if_ge_zI, ic_ne_m1, ic_eq_m1, ic_nn_m1, ic_ee_m1, if_ne_b2i, if_eq_b2i, b2i_z, decide_eq_true_eq, decide_true, decide_false, Bool.not_eq_true, Bool.not_eq_true', Bool.not_true, Bool.not_false, decide_eq_false_iff_not, Bool.false_eq_true, not_false_eq_true, not_true_eq_false, if_true, if_false, ↓reduceIte, eq_self, Option.bind_some, Bool.true_and, Bool.false_and, Bool.and_true, Bool.and_false, nI_add, nI_subN, nI_clamp, gdF, gdF2, gdP, gdP2, zI_cl, zI_s, Lm1, nI_n0, zI_n0, leF, or_false, false_or, or_self, e, e57, e56, er, m_rA1, m_rA3, m_rAe, m_rAn, m_rAi, m_rI2, m_rIe, m_rIn, m_rL1, m_rL2, m_rLe, m_rLi, m_rLn]
    rw [sv_s]
    exact ih (j + 1) (by omega)
theorem f241_166s {S : mS} {pos : Nat} (h6 : S.1 56 = nI pos) (h7 : S.1 57 = nI 0) (hp : pos + 1 ≤ 12500) : Ev (fun n => F241_166 n S) ((), svG 56 40 S 36 pos 1) := by
  refine ev_succ (fun n => F241_166e0 n ..) ?_
  simp only [F241_166b0, L0]
  have := f241_166sl h7 hp 1 0 (by omega)
  rw [sv_0 h6] at this
  exact this
theorem f241_166bl {S : mS} {pos : Nat} (h7 : S.1 57 = nI 1) (hp : pos + 1 ≤ 12500) : ∀ m j, j + m = 1 → Ev (fun n => F241_166f n 2 (nI j) (ldG 56 40 S 36 pos j)) ((), ldG 56 40 S 36 pos 1) := by
  intro m
  induction m with
  | zero =>
    intro j hj
    refine ev_succ (fun n => F241_166e2 n ..) ?_
    have hj : j = 1 := by omega
    subst hj
    simp only [F241_166b2, L0, L1, L2, L3, L4, L5, L6, L7, L8, L9, L10, L11, L12, L13, L16, L20, L31, L32, L40, L48, L57, L59, L60, L61, L91, L93, L97, L99, L100, L102, L103, L114, L122, L255, L300, L400, L402, L999, L2280, L2500, L99999, L63, L1431655765, L858993459, L252645135]
    simp (disch := omega) only [ic_ge, Nat.le_refl, decide_eq_true_eq, decide_true, decide_false, Bool.not_eq_true, Bool.not_eq_true', Bool.not_true, Bool.not_false, decide_eq_false_iff_not, Bool.false_eq_true, not_false_eq_true, not_true_eq_false, if_true, if_false, ↓reduceIte, eq_self, Option.bind_some, Bool.true_and, Bool.false_and, Bool.and_true, Bool.and_false]
    exact ev_ret
  | succ m ih =>
    intro j hj
    refine ev_succ (fun n => F241_166e2 n ..) ?_
    have e : ¬ 1 ≤ j := by omega
    have e57 : (ldG 56 40 S 36 pos j).1 57 = nI 1 := by rw [ld_n (by decide)]; exact h7
    have e56 : (ldG 56 40 S 36 pos j).1 56 = nI (pos + j) := ld_p
    have er : (ldG 56 40 S 36 pos j).2.1 40 (pos + j) = S.2.1 40 (pos + j) := by rw [ld_r (by decide)]
    simp (disch := omega) only [F241_166b2, L0, L1, L2, L3, L4, L5, L6, L7, L8, L9, L10, L11, L12, L13, L16, L20, L31, L32, L40, L48, L57, L59, L60, L61, L91, L93, L97, L99, L100, L102, L103, L114, L122, L255, L300, L400, L402, L999, L2280, L2500, L99999, L63, L1431655765, L858993459, L252645135, ic_ge, ic_gt, ic_le, ic_lt, ic_eq, ic_ne, if_lt, if_ge, if_gt, if_le, if_eq, if_ne, if_lt_zI, if_ge_zI, ic_ne_m1, ic_eq_m1, ic_nn_m1, ic_ee_m1, if_ne_b2i, if_eq_b2i, b2i_z, decide_eq_true_eq, decide_true, decide_false, Bool.not_eq_true, Bool.not_eq_true', Bool.not_true, Bool.not_false, decide_eq_false_iff_not, Bool.false_eq_true, not_false_eq_true, not_true_eq_false, if_true, if_false, ↓reduceIte, eq_self, Option.bind_some, Bool.true_and, Bool.false_and, Bool.and_true, Bool.and_false, nI_add, nI_subN, nI_clamp, gdF, gdF2, gdP, gdP2, zI_cl, zI_s, Lm1, nI_n0, zI_n0, leF, or_false, false_or, or_self, e, e57, e56, er, m_rA1, m_rA3, m_rAe, m_rAn, m_rAi, m_rI2, m_rIe, m_rIn, m_rL1, m_rL2, m_rLe, m_rLi, m_rLn, Nat.one_ne_zero]
    rw [ld_s]
    exact ih (j + 1) (by omega)
theorem f241_166b {S : mS} {pos : Nat} (h6 : S.1 56 = nI pos) (h7 : S.1 57 = nI 1) (hp : pos + 1 ≤ 12500) : Ev (fun n => F241_166 n S) ((), ldG 56 40 S 36 pos 1) := by
  refine ev_succ (fun n => F241_166e0 n ..) ?_
  simp only [F241_166b0, L0]
  have := f241_166bl h7 hp 1 0 (by omega)
  rw [ld_0 h6] at this
  exact this
theorem f241_131sl {S : mS} {pos : Nat} (h7 : S.1 57 = nI 0) (hp : pos + 9 ≤ 12500) : ∀ m j, j + m = 9 → Ev (fun n => F241_131f n 2 (nI j) (svG 56 40 S 1 pos j)) ((), svG 56 40 S 1 pos 9) := by
  intro m
  induction m with
  | zero =>
    intro j hj
    refine ev_succ (fun n => F241_131e2 n ..) ?_
    have hj : j = 9 := by omega
    subst hj
    simp only [F241_131b2, L0, L1, L2, L3, L4, L5, L6, L7, L8, L9, L10, L11, L12, L13, L16, L20, L31, L32, L40, L48, L57, L59, L60, L61, L91, L93, L97, L99, L100, L102, L103, L114, L122, L255, L300, L400, L402, L999, L2280, L2500, L99999, L63, L1431655765, L858993459, L252645135]
    simp (disch := omega) only [ic_ge, Nat.le_refl, decide_eq_true_eq, decide_true, decide_false, Bool.not_eq_true, Bool.not_eq_true', Bool.not_true, Bool.not_false, decide_eq_false_iff_not, Bool.false_eq_true, not_false_eq_true, not_true_eq_false, if_true, if_false, ↓reduceIte, eq_self, Option.bind_some, Bool.true_and, Bool.false_and, Bool.and_true, Bool.and_false]
    exact ev_ret
  | succ m ih =>
    intro j hj
    refine ev_succ (fun n => F241_131e2 n ..) ?_
    have e : ¬ 9 ≤ j := by omega
    have e57 : (svG 56 40 S 1 pos j).1 57 = nI 0 := by rw [sv_n (by decide)]; exact h7
    have e56 : (svG 56 40 S 1 pos j).1 56 = nI (pos + j) := sv_p
    have er : (svG 56 40 S 1 pos j).2.1 1 j = S.2.1 1 j := by rw [sv_r (by decide)]
    simp (disch := omega) only [F241_131b2, L0, L1, L2, L3, L4, L5, L6, L7, L8, L9, L10, L11, L12, L13, L16, L20, L31, L32, L40, L48, L57, L59, L60, L61, L91, L93, L97, L99, L100, L102, L103, L114, L122, L255, L300, L400, L402, L999, L2280, L2500, L99999, L63, L1431655765, L858993459, L252645135, ic_ge, ic_gt, ic_le, ic_lt, ic_eq, ic_ne, if_lt, if_ge, if_gt, if_le, if_eq, if_ne, if_lt_zI, if_ge_zI, ic_ne_m1, ic_eq_m1, ic_nn_m1, ic_ee_m1, if_ne_b2i, if_eq_b2i, b2i_z, decide_eq_true_eq, decide_true, decide_false, Bool.not_eq_true, Bool.not_eq_true', Bool.not_true, Bool.not_false, decide_eq_false_iff_not, Bool.false_eq_true, not_false_eq_true, not_true_eq_false, if_true, if_false, ↓reduceIte, eq_self, Option.bind_some, Bool.true_and, Bool.false_and, Bool.and_true, Bool.and_false, nI_add, nI_subN, nI_clamp, gdF, gdF2, gdP, gdP2, zI_cl, zI_s, Lm1, nI_n0, zI_n0, leF, or_false, false_or, or_self, e, e57, e56, er, m_rA1, m_rA3, m_rAe, m_rAn, m_rAi, m_rI2, m_rIe, m_rIn, m_rL1, m_rL2, m_rLe, m_rLi, m_rLn]
    rw [sv_s]
    exact ih (j + 1) (by omega)
theorem f241_131s {S : mS} {pos : Nat} (h6 : S.1 56 = nI pos) (h7 : S.1 57 = nI 0) (hp : pos + 9 ≤ 12500) : Ev (fun n => F241_131 n S) ((), svG 56 40 S 1 pos 9) := by
  refine ev_succ (fun n => F241_131e0 n ..) ?_
  simp only [F241_131b0, L0]
  have := f241_131sl h7 hp 9 0 (by omega)
  rw [sv_0 h6] at this
  exact this
theorem f241_131bl {S : mS} {pos : Nat} (h7 : S.1 57 = nI 1) (hp : pos + 9 ≤ 12500) : ∀ m j, j + m = 9 → Ev (fun n => F241_131f n 2 (nI j) (ldG 56 40 S 1 pos j)) ((), ldG 56 40 S 1 pos 9) := by
  intro m
  induction m with
  | zero =>
    intro j hj
    refine ev_succ (fun n => F241_131e2 n ..) ?_
    have hj : j = 9 := by omega
    subst hj
    simp only [F241_131b2, L0, L1, L2, L3, L4, L5, L6, L7, L8, L9, L10, L11, L12, L13, L16, L20, L31, L32, L40, L48, L57, L59, L60, L61, L91, L93, L97, L99, L100, L102, L103, L114, L122, L255, L300, L400, L402, L999, L2280, L2500, L99999, L63, L1431655765, L858993459, L252645135]
    simp (disch := omega) only [ic_ge, Nat.le_refl, decide_eq_true_eq, decide_true, decide_false, Bool.not_eq_true, Bool.not_eq_true', Bool.not_true, Bool.not_false, decide_eq_false_iff_not, Bool.false_eq_true, not_false_eq_true, not_true_eq_false, if_true, if_false, ↓reduceIte, eq_self, Option.bind_some, Bool.true_and, Bool.false_and, Bool.and_true, Bool.and_false]
    exact ev_ret
  | succ m ih =>
    intro j hj
    refine ev_succ (fun n => F241_131e2 n ..) ?_
    have e : ¬ 9 ≤ j := by omega
    have e57 : (ldG 56 40 S 1 pos j).1 57 = nI 1 := by rw [ld_n (by decide)]; exact h7
    have e56 : (ldG 56 40 S 1 pos j).1 56 = nI (pos + j) := ld_p
    have er : (ldG 56 40 S 1 pos j).2.1 40 (pos + j) = S.2.1 40 (pos + j) := by rw [ld_r (by decide)]
    simp (disch := omega) only [F241_131b2, L0, L1, L2, L3, L4, L5, L6, L7, L8, L9, L10, L11, L12, L13, L16, L20, L31, L32, L40, L48, L57, L59, L60, L61, L91, L93, L97, L99, L100, L102, L103, L114, L122, L255, L300, L400, L402, L999, L2280, L2500, L99999, L63, L1431655765, L858993459, L252645135, ic_ge, ic_gt, ic_le, ic_lt, ic_eq, ic_ne, if_lt, if_ge, if_gt, if_le, if_eq, if_ne, if_lt_zI, if_ge_zI, ic_ne_m1, ic_eq_m1, ic_nn_m1, ic_ee_m1, if_ne_b2i, if_eq_b2i, b2i_z, decide_eq_true_eq, decide_true, decide_false, Bool.not_eq_true, Bool.not_eq_true', Bool.not_true, Bool.not_false, decide_eq_false_iff_not, Bool.false_eq_true, not_false_eq_true, not_true_eq_false, if_true, if_false, ↓reduceIte, eq_self, Option.bind_some, Bool.true_and, Bool.false_and, Bool.and_true, Bool.and_false, nI_add, nI_subN, nI_clamp, gdF, gdF2, gdP, gdP2, zI_cl, zI_s, Lm1, nI_n0, zI_n0, leF, or_false, false_or, or_self, e, e57, e56, er, m_rA1, m_rA3, m_rAe, m_rAn, m_rAi, m_rI2, m_rIe, m_rIn, m_rL1, m_rL2, m_rLe, m_rLi, m_rLn, Nat.one_ne_zero]
    rw [ld_s]
    exact ih (j + 1) (by omega)
theorem f241_131b {S : mS} {pos : Nat} (h6 : S.1 56 = nI pos) (h7 : S.1 57 = nI 1) (hp : pos + 9 ≤ 12500) : Ev (fun n => F241_131 n S) ((), ldG 56 40 S 1 pos 9) := by
  refine ev_succ (fun n => F241_131e0 n ..) ?_
  simp only [F241_131b0, L0]
  have := f241_131bl h7 hp 9 0 (by omega)
  rw [ld_0 h6] at this
  exact this
theorem f241_132sl {S : mS} {pos : Nat} (h7 : S.1 57 = nI 0) (hp : pos + 16 ≤ 12500) : ∀ m j, j + m = 16 → Ev (fun n => F241_132f n 2 (nI j) (svG 56 40 S 2 pos j)) ((), svG 56 40 S 2 pos 16) := by
  intro m
  induction m with
  | zero =>
    intro j hj
    refine ev_succ (fun n => F241_132e2 n ..) ?_
    have hj : j = 16 := by omega
    subst hj
    simp only [F241_132b2, L0, L1, L2, L3, L4, L5, L6, L7, L8, L9, L10, L11, L12, L13, L16, L20, L31, L32, L40, L48, L57, L59, L60, L61, L91, L93, L97, L99, L100, L102, L103, L114, L122, L255, L300, L400, L402, L999, L2280, L2500, L99999, L63, L1431655765, L858993459, L252645135]
    simp (disch := omega) only [ic_ge, Nat.le_refl, decide_eq_true_eq, decide_true, decide_false, Bool.not_eq_true, Bool.not_eq_true', Bool.not_true, Bool.not_false, decide_eq_false_iff_not, Bool.false_eq_true, not_false_eq_true, not_true_eq_false, if_true, if_false, ↓reduceIte, eq_self, Option.bind_some, Bool.true_and, Bool.false_and, Bool.and_true, Bool.and_false]
    exact ev_ret
  | succ m ih =>
    intro j hj
    refine ev_succ (fun n => F241_132e2 n ..) ?_
    have e : ¬ 16 ≤ j := by omega
    have e57 : (svG 56 40 S 2 pos j).1 57 = nI 0 := by rw [sv_n (by decide)]; exact h7
    have e56 : (svG 56 40 S 2 pos j).1 56 = nI (pos + j) := sv_p
    have er : (svG 56 40 S 2 pos j).2.1 2 j = S.2.1 2 j := by rw [sv_r (by decide)]
    simp (disch := omega) only [F241_132b2, L0, L1, L2, L3, L4, L5, L6, L7, L8, L9, L10, L11, L12, L13, L16, L20, L31, L32, L40, L48, L57, L59, L60, L61, L91, L93, L97, L99, L100, L102, L103, L114, L122, L255, L300, L400, L402, L999, L2280, L2500, L99999, L63, L1431655765, L858993459, L252645135, ic_ge, ic_gt, ic_le, ic_lt, ic_eq, ic_ne, if_lt, if_ge, if_gt, if_le, if_eq, if_ne, if_lt_zI, if_ge_zI, ic_ne_m1, ic_eq_m1, ic_nn_m1, ic_ee_m1, if_ne_b2i, if_eq_b2i, b2i_z, decide_eq_true_eq, decide_true, decide_false, Bool.not_eq_true, Bool.not_eq_true', Bool.not_true, Bool.not_false, decide_eq_false_iff_not, Bool.false_eq_true, not_false_eq_true, not_true_eq_false, if_true, if_false, ↓reduceIte, eq_self, Option.bind_some, Bool.true_and, Bool.false_and, Bool.and_true, Bool.and_false, nI_add, nI_subN, nI_clamp, gdF, gdF2, gdP, gdP2, zI_cl, zI_s, Lm1, nI_n0, zI_n0, leF, or_false, false_or, or_self, e, e57, e56, er, m_rA1, m_rA3, m_rAe, m_rAn, m_rAi, m_rI2, m_rIe, m_rIn, m_rL1, m_rL2, m_rLe, m_rLi, m_rLn]
    rw [sv_s]
    exact ih (j + 1) (by omega)
theorem f241_132s {S : mS} {pos : Nat} (h6 : S.1 56 = nI pos) (h7 : S.1 57 = nI 0) (hp : pos + 16 ≤ 12500) : Ev (fun n => F241_132 n S) ((), svG 56 40 S 2 pos 16) := by
  refine ev_succ (fun n => F241_132e0 n ..) ?_
  simp only [F241_132b0, L0]
  have := f241_132sl h7 hp 16 0 (by omega)
  rw [sv_0 h6] at this
  exact this
theorem f241_132bl {S : mS} {pos : Nat} (h7 : S.1 57 = nI 1) (hp : pos + 16 ≤ 12500) : ∀ m j, j + m = 16 → Ev (fun n => F241_132f n 2 (nI j) (ldG 56 40 S 2 pos j)) ((), ldG 56 40 S 2 pos 16) := by
  intro m
  induction m with
  | zero =>
    intro j hj
    refine ev_succ (fun n => F241_132e2 n ..) ?_
    have hj : j = 16 := by omega
    subst hj
    simp only [F241_132b2, L0, L1, L2, L3, L4, L5, L6, L7, L8, L9, L10, L11, L12, L13, L16, L20, L31, L32, L40, L48, L57, L59, L60, L61, L91, L93, L97, L99, L100, L102, L103, L114, L122, L255, L300, L400, L402, L999, L2280, L2500, L99999, L63, L1431655765, L858993459, L252645135]
    simp (disch := omega) only [ic_ge, Nat.le_refl, decide_eq_true_eq, decide_true, decide_false, Bool.not_eq_true, Bool.not_eq_true', Bool.not_true, Bool.not_false, decide_eq_false_iff_not, Bool.false_eq_true, not_false_eq_true, not_true_eq_false, if_true, if_false, ↓reduceIte, eq_self, Option.bind_some, Bool.true_and, Bool.false_and, Bool.and_true, Bool.and_false]
    exact ev_ret
  | succ m ih =>
    intro j hj
    refine ev_succ (fun n => F241_132e2 n ..) ?_
    have e : ¬ 16 ≤ j := by omega
    have e57 : (ldG 56 40 S 2 pos j).1 57 = nI 1 := by rw [ld_n (by decide)]; exact h7
    have e56 : (ldG 56 40 S 2 pos j).1 56 = nI (pos + j) := ld_p
    have er : (ldG 56 40 S 2 pos j).2.1 40 (pos + j) = S.2.1 40 (pos + j) := by rw [ld_r (by decide)]
    simp (disch := omega) only [F241_132b2, L0, L1, L2, L3, L4, L5, L6, L7, L8, L9, L10, L11, L12, L13, L16, L20, L31, L32, L40, L48, L57, L59, L60, L61, L91, L93, L97, L99, L100, L102, L103, L114, L122, L255, L300, L400, L402, L999, L2280, L2500, L99999, L63, L1431655765, L858993459, L252645135, ic_ge, ic_gt, ic_le, ic_lt, ic_eq, ic_ne, if_lt, if_ge, if_gt, if_le, if_eq, if_ne, if_lt_zI, if_ge_zI, ic_ne_m1, ic_eq_m1, ic_nn_m1, ic_ee_m1, if_ne_b2i, if_eq_b2i, b2i_z, decide_eq_true_eq, decide_true, decide_false, Bool.not_eq_true, Bool.not_eq_true', Bool.not_true, Bool.not_false, decide_eq_false_iff_not, Bool.false_eq_true, not_false_eq_true, not_true_eq_false, if_true, if_false, ↓reduceIte, eq_self, Option.bind_some, Bool.true_and, Bool.false_and, Bool.and_true, Bool.and_false, nI_add, nI_subN, nI_clamp, gdF, gdF2, gdP, gdP2, zI_cl, zI_s, Lm1, nI_n0, zI_n0, leF, or_false, false_or, or_self, e, e57, e56, er, m_rA1, m_rA3, m_rAe, m_rAn, m_rAi, m_rI2, m_rIe, m_rIn, m_rL1, m_rL2, m_rLe, m_rLi, m_rLn, Nat.one_ne_zero]
    rw [ld_s]
    exact ih (j + 1) (by omega)
theorem f241_132b {S : mS} {pos : Nat} (h6 : S.1 56 = nI pos) (h7 : S.1 57 = nI 1) (hp : pos + 16 ≤ 12500) : Ev (fun n => F241_132 n S) ((), ldG 56 40 S 2 pos 16) := by
  refine ev_succ (fun n => F241_132e0 n ..) ?_
  simp only [F241_132b0, L0]
  have := f241_132bl h7 hp 16 0 (by omega)
  rw [ld_0 h6] at this
  exact this
theorem f241_133sl {S : mS} {pos : Nat} (h7 : S.1 57 = nI 0) (hp : pos + 16 ≤ 12500) : ∀ m j, j + m = 16 → Ev (fun n => F241_133f n 2 (nI j) (svG 56 40 S 3 pos j)) ((), svG 56 40 S 3 pos 16) := by
  intro m
  induction m with
  | zero =>
    intro j hj
    refine ev_succ (fun n => F241_133e2 n ..) ?_
    have hj : j = 16 := by omega
    subst hj
    simp only [F241_133b2, L0, L1, L2, L3, L4, L5, L6, L7, L8, L9, L10, L11, L12, L13, L16, L20, L31, L32, L40, L48, L57, L59, L60, L61, L91, L93, L97, L99, L100, L102, L103, L114, L122, L255, L300, L400, L402, L999, L2280, L2500, L99999, L63, L1431655765, L858993459, L252645135]
    simp (disch := omega) only [ic_ge, Nat.le_refl, decide_eq_true_eq, decide_true, decide_false, Bool.not_eq_true, Bool.not_eq_true', Bool.not_true, Bool.not_false, decide_eq_false_iff_not, Bool.false_eq_true, not_false_eq_true, not_true_eq_false, if_true, if_false, ↓reduceIte, eq_self, Option.bind_some, Bool.true_and, Bool.false_and, Bool.and_true, Bool.and_false]
    exact ev_ret
  | succ m ih =>
    intro j hj
    refine ev_succ (fun n => F241_133e2 n ..) ?_
    have e : ¬ 16 ≤ j := by omega
    have e57 : (svG 56 40 S 3 pos j).1 57 = nI 0 := by rw [sv_n (by decide)]; exact h7
    have e56 : (svG 56 40 S 3 pos j).1 56 = nI (pos + j) := sv_p
    have er : (svG 56 40 S 3 pos j).2.1 3 j = S.2.1 3 j := by rw [sv_r (by decide)]
    simp (disch := omega) only [F241_133b2, L0, L1, L2, L3, L4, L5, L6, L7, L8, L9, L10, L11, L12, L13, L16, L20, L31, L32, L40, L48, L57, L59, L60, L61, L91, L93, L97, L99, L100, L102, L103, L114, L122, L255, L300, L400, L402, L999, L2280, L2500, L99999, L63, L1431655765, L858993459, L252645135, ic_ge, ic_gt, ic_le, ic_lt, ic_eq, ic_ne, if_lt, if_ge, if_gt, if_le, if_eq, if_ne, if_lt_zI, if_ge_zI, ic_ne_m1, ic_eq_m1, ic_nn_m1, ic_ee_m1, if_ne_b2i, if_eq_b2i, b2i_z, decide_eq_true_eq, decide_true, decide_false, Bool.not_eq_true, Bool.not_eq_true', Bool.not_true, Bool.not_false, decide_eq_false_iff_not, Bool.false_eq_true, not_false_eq_true, not_true_eq_false, if_true, if_false, ↓reduceIte, eq_self, Option.bind_some, Bool.true_and, Bool.false_and, Bool.and_true, Bool.and_false, nI_add, nI_subN, nI_clamp, gdF, gdF2, gdP, gdP2, zI_cl, zI_s, Lm1, nI_n0, zI_n0, leF, or_false, false_or, or_self, e, e57, e56, er, m_rA1, m_rA3, m_rAe, m_rAn, m_rAi, m_rI2, m_rIe, m_rIn, m_rL1, m_rL2, m_rLe, m_rLi, m_rLn]
    rw [sv_s]
    exact ih (j + 1) (by omega)
theorem f241_133s {S : mS} {pos : Nat} (h6 : S.1 56 = nI pos) (h7 : S.1 57 = nI 0) (hp : pos + 16 ≤ 12500) : Ev (fun n => F241_133 n S) ((), svG 56 40 S 3 pos 16) := by
  refine ev_succ (fun n => F241_133e0 n ..) ?_
  simp only [F241_133b0, L0]
  have := f241_133sl h7 hp 16 0 (by omega)
  rw [sv_0 h6] at this
  exact this
theorem f241_133bl {S : mS} {pos : Nat} (h7 : S.1 57 = nI 1) (hp : pos + 16 ≤ 12500) : ∀ m j, j + m = 16 → Ev (fun n => F241_133f n 2 (nI j) (ldG 56 40 S 3 pos j)) ((), ldG 56 40 S 3 pos 16) := by
  intro m
  induction m with
  | zero =>
    intro j hj
    refine ev_succ (fun n => F241_133e2 n ..) ?_
    have hj : j = 16 := by omega
    subst hj
    simp only [F241_133b2, L0, L1, L2, L3, L4, L5, L6, L7, L8, L9, L10, L11, L12, L13, L16, L20, L31, L32, L40, L48, L57, L59, L60, L61, L91, L93, L97, L99, L100, L102, L103, L114, L122, L255, L300, L400, L402, L999, L2280, L2500, L99999, L63, L1431655765, L858993459, L252645135]
    simp (disch := omega) only [ic_ge, Nat.le_refl, decide_eq_true_eq, decide_true, decide_false, Bool.not_eq_true, Bool.not_eq_true', Bool.not_true, Bool.not_false, decide_eq_false_iff_not, Bool.false_eq_true, not_false_eq_true, not_true_eq_false, if_true, if_false, ↓reduceIte, eq_self, Option.bind_some, Bool.true_and, Bool.false_and, Bool.and_true, Bool.and_false]
    exact ev_ret
  | succ m ih =>
    intro j hj
    refine ev_succ (fun n => F241_133e2 n ..) ?_
    have e : ¬ 16 ≤ j := by omega
    have e57 : (ldG 56 40 S 3 pos j).1 57 = nI 1 := by rw [ld_n (by decide)]; exact h7
    have e56 : (ldG 56 40 S 3 pos j).1 56 = nI (pos + j) := ld_p
    have er : (ldG 56 40 S 3 pos j).2.1 40 (pos + j) = S.2.1 40 (pos + j) := by rw [ld_r (by decide)]
    simp (disch := omega) only [F241_133b2, L0, L1, L2, L3, L4, L5, L6, L7, L8, L9, L10, L11, L12, L13, L16, L20, L31, L32, L40, L48, L57, L59, L60, L61, L91, L93, L97, L99, L100, L102, L103, L114, L122, L255, L300, L400, L402, L999, L2280, L2500, L99999, L63, L1431655765, L858993459, L252645135, ic_ge, ic_gt, ic_le, ic_lt, ic_eq, ic_ne, if_lt, if_ge, if_gt, if_le, if_eq, if_ne, if_lt_zI, if_ge_zI, ic_ne_m1, ic_eq_m1, ic_nn_m1, ic_ee_m1, if_ne_b2i, if_eq_b2i, b2i_z, decide_eq_true_eq, decide_true, decide_false, Bool.not_eq_true, Bool.not_eq_true', Bool.not_true, Bool.not_false, decide_eq_false_iff_not, Bool.false_eq_true, not_false_eq_true, not_true_eq_false, if_true, if_false, ↓reduceIte, eq_self, Option.bind_some, Bool.true_and, Bool.false_and, Bool.and_true, Bool.and_false, nI_add, nI_subN, nI_clamp, gdF, gdF2, gdP, gdP2, zI_cl, zI_s, Lm1, nI_n0, zI_n0, leF, or_false, false_or, or_self, e, e57, e56, er, m_rA1, m_rA3, m_rAe, m_rAn, m_rAi, m_rI2, m_rIe, m_rIn, m_rL1, m_rL2, m_rLe, m_rLi, m_rLn, Nat.one_ne_zero]
    rw [ld_s]
    exact ih (j + 1) (by omega)
theorem f241_133b {S : mS} {pos : Nat} (h6 : S.1 56 = nI pos) (h7 : S.1 57 = nI 1) (hp : pos + 16 ≤ 12500) : Ev (fun n => F241_133 n S) ((), ldG 56 40 S 3 pos 16) := by
  refine ev_succ (fun n => F241_133e0 n ..) ?_
  simp only [F241_133b0, L0]
  have := f241_133bl h7 hp 16 0 (by omega)
  rw [ld_0 h6] at this
  exact this
theorem f241_134sl {S : mS} {pos : Nat} (h7 : S.1 57 = nI 0) (hp : pos + 6 ≤ 12500) : ∀ m j, j + m = 6 → Ev (fun n => F241_134f n 2 (nI j) (svG 56 40 S 4 pos j)) ((), svG 56 40 S 4 pos 6) := by
  intro m
  induction m with
  | zero =>
    intro j hj
    refine ev_succ (fun n => F241_134e2 n ..) ?_
    have hj : j = 6 := by omega
    subst hj
    simp only [F241_134b2, L0, L1, L2, L3, L4, L5, L6, L7, L8, L9, L10, L11, L12, L13, L16, L20, L31, L32, L40, L48, L57, L59, L60, L61, L91, L93, L97, L99, L100, L102, L103, L114, L122, L255, L300, L400, L402, L999, L2280, L2500, L99999, L63, L1431655765, L858993459, L252645135]
    simp (disch := omega) only [ic_ge, Nat.le_refl, decide_eq_true_eq, decide_true, decide_false, Bool.not_eq_true, Bool.not_eq_true', Bool.not_true, Bool.not_false, decide_eq_false_iff_not, Bool.false_eq_true, not_false_eq_true, not_true_eq_false, if_true, if_false, ↓reduceIte, eq_self, Option.bind_some, Bool.true_and, Bool.false_and, Bool.and_true, Bool.and_false]
    exact ev_ret
  | succ m ih =>
    intro j hj
    refine ev_succ (fun n => F241_134e2 n ..) ?_
    have e : ¬ 6 ≤ j := by omega
    have e57 : (svG 56 40 S 4 pos j).1 57 = nI 0 := by rw [sv_n (by decide)]; exact h7
    have e56 : (svG 56 40 S 4 pos j).1 56 = nI (pos + j) := sv_p
    have er : (svG 56 40 S 4 pos j).2.1 4 j = S.2.1 4 j := by rw [sv_r (by decide)]
    simp (disch := omega) only [F241_134b2, L0, L1, L2, L3, L4, L5, L6, L7, L8, L9, L10, L11, L12, L13, L16, L20, L31, L32, L40, L48, L57, L59, L60, L61, L91, L93, L97, L99, L100, L102, L103, L114, L122, L255, L300, L400, L402, L999, L2280, L2500, L99999, L63, L1431655765, L858993459, L252645135, ic_ge, ic_gt, ic_le, ic_lt, ic_eq, ic_ne, if_lt, if_ge, if_gt, if_le, if_eq, if_ne, if_lt_zI, if_ge_zI, ic_ne_m1, ic_eq_m1, ic_nn_m1, ic_ee_m1, if_ne_b2i, if_eq_b2i, b2i_z, decide_eq_true_eq, decide_true, decide_false, Bool.not_eq_true, Bool.not_eq_true', Bool.not_true, Bool.not_false, decide_eq_false_iff_not, Bool.false_eq_true, not_false_eq_true, not_true_eq_false, if_true, if_false, ↓reduceIte, eq_self, Option.bind_some, Bool.true_and, Bool.false_and, Bool.and_true, Bool.and_false, nI_add, nI_subN, nI_clamp, gdF, gdF2, gdP, gdP2, zI_cl, zI_s, Lm1, nI_n0, zI_n0, leF, or_false, false_or, or_self, e, e57, e56, er, m_rA1, m_rA3, m_rAe, m_rAn, m_rAi, m_rI2, m_rIe, m_rIn, m_rL1, m_rL2, m_rLe, m_rLi, m_rLn]
    rw [sv_s]
    exact ih (j + 1) (by omega)
theorem f241_134s {S : mS} {pos : Nat} (h6 : S.1 56 = nI pos) (h7 : S.1 57 = nI 0) (hp : pos + 6 ≤ 12500) : Ev (fun n => F241_134 n S) ((), svG 56 40 S 4 pos 6) := by
  refine ev_succ (fun n => F241_134e0 n ..) ?_
  simp only [F241_134b0, L0]
  have := f241_134sl h7 hp 6 0 (by omega)
  rw [sv_0 h6] at this
  exact this
theorem f241_134bl {S : mS} {pos : Nat} (h7 : S.1 57 = nI 1) (hp : pos + 6 ≤ 12500) : ∀ m j, j + m = 6 → Ev (fun n => F241_134f n 2 (nI j) (ldG 56 40 S 4 pos j)) ((), ldG 56 40 S 4 pos 6) := by
  intro m
  induction m with
  | zero =>
    intro j hj
    refine ev_succ (fun n => F241_134e2 n ..) ?_
    have hj : j = 6 := by omega
    subst hj
    simp only [F241_134b2, L0, L1, L2, L3, L4, L5, L6, L7, L8, L9, L10, L11, L12, L13, L16, L20, L31, L32, L40, L48, L57, L59, L60, L61, L91, L93, L97, L99, L100, L102, L103, L114, L122, L255, L300, L400, L402, L999, L2280, L2500, L99999, L63, L1431655765, L858993459, L252645135]
    simp (disch := omega) only [ic_ge, Nat.le_refl, decide_eq_true_eq, decide_true, decide_false, Bool.not_eq_true, Bool.not_eq_true', Bool.not_true, Bool.not_false, decide_eq_false_iff_not, Bool.false_eq_true, not_false_eq_true, not_true_eq_false, if_true, if_false, ↓reduceIte, eq_self, Option.bind_some, Bool.true_and, Bool.false_and, Bool.and_true, Bool.and_false]
    exact ev_ret
  | succ m ih =>
    intro j hj
    refine ev_succ (fun n => F241_134e2 n ..) ?_
    have e : ¬ 6 ≤ j := by omega
    have e57 : (ldG 56 40 S 4 pos j).1 57 = nI 1 := by rw [ld_n (by decide)]; exact h7
    have e56 : (ldG 56 40 S 4 pos j).1 56 = nI (pos + j) := ld_p
    have er : (ldG 56 40 S 4 pos j).2.1 40 (pos + j) = S.2.1 40 (pos + j) := by rw [ld_r (by decide)]
    simp (disch := omega) only [F241_134b2, L0, L1, L2, L3, L4, L5, L6, L7, L8, L9, L10, L11, L12, L13, L16, L20, L31, L32, L40, L48, L57, L59, L60, L61, L91, L93, L97, L99, L100, L102, L103, L114, L122, L255, L300, L400, L402, L999, L2280, L2500, L99999, L63, L1431655765, L858993459, L252645135, ic_ge, ic_gt, ic_le, ic_lt, ic_eq, ic_ne, if_lt, if_ge, if_gt, if_le, if_eq, if_ne, if_lt_zI, if_ge_zI, ic_ne_m1, ic_eq_m1, ic_nn_m1, ic_ee_m1, if_ne_b2i, if_eq_b2i, b2i_z, decide_eq_true_eq, decide_true, decide_false, Bool.not_eq_true, Bool.not_eq_true', Bool.not_true, Bool.not_false, decide_eq_false_iff_not, Bool.false_eq_true, not_false_eq_true, not_true_eq_false, if_true, if_false, ↓reduceIte, eq_self, Option.bind_some, Bool.true_and, Bool.false_and, Bool.and_true, Bool.and_false, nI_add, nI_subN, nI_clamp, gdF, gdF2, gdP, gdP2, zI_cl, zI_s, Lm1, nI_n0, zI_n0, leF, or_false, false_or, or_self, e, e57, e56, er, m_rA1, m_rA3, m_rAe, m_rAn, m_rAi, m_rI2, m_rIe, m_rIn, m_rL1, m_rL2, m_rLe, m_rLi, m_rLn, Nat.one_ne_zero]
    rw [ld_s]
    exact ih (j + 1) (by omega)
theorem f241_134b {S : mS} {pos : Nat} (h6 : S.1 56 = nI pos) (h7 : S.1 57 = nI 1) (hp : pos + 6 ≤ 12500) : Ev (fun n => F241_134 n S) ((), ldG 56 40 S 4 pos 6) := by
  refine ev_succ (fun n => F241_134e0 n ..) ?_
  simp only [F241_134b0, L0]
  have := f241_134bl h7 hp 6 0 (by omega)
  rw [ld_0 h6] at this
  exact this
theorem f241_135sl {S : mS} {pos : Nat} (h7 : S.1 57 = nI 0) (hp : pos + 6 ≤ 12500) : ∀ m j, j + m = 6 → Ev (fun n => F241_135f n 2 (nI j) (svG 56 40 S 5 pos j)) ((), svG 56 40 S 5 pos 6) := by
  intro m
  induction m with
  | zero =>
    intro j hj
    refine ev_succ (fun n => F241_135e2 n ..) ?_
    have hj : j = 6 := by omega
    subst hj
    simp only [F241_135b2, L0, L1, L2, L3, L4, L5, L6, L7, L8, L9, L10, L11, L12, L13, L16, L20, L31, L32, L40, L48, L57, L59, L60, L61, L91, L93, L97, L99, L100, L102, L103, L114, L122, L255, L300, L400, L402, L999, L2280, L2500, L99999, L63, L1431655765, L858993459, L252645135]
    simp (disch := omega) only [ic_ge, Nat.le_refl, decide_eq_true_eq, decide_true, decide_false, Bool.not_eq_true, Bool.not_eq_true', Bool.not_true, Bool.not_false, decide_eq_false_iff_not, Bool.false_eq_true, not_false_eq_true, not_true_eq_false, if_true, if_false, ↓reduceIte, eq_self, Option.bind_some, Bool.true_and, Bool.false_and, Bool.and_true, Bool.and_false]
    exact ev_ret
  | succ m ih =>
    intro j hj
    refine ev_succ (fun n => F241_135e2 n ..) ?_
    have e : ¬ 6 ≤ j := by omega
    have e57 : (svG 56 40 S 5 pos j).1 57 = nI 0 := by rw [sv_n (by decide)]; exact h7
    have e56 : (svG 56 40 S 5 pos j).1 56 = nI (pos + j) := sv_p
    have er : (svG 56 40 S 5 pos j).2.1 5 j = S.2.1 5 j := by rw [sv_r (by decide)]
    simp (disch := omega) only [F241_135b2, L0, L1, L2, L3, L4, L5, L6, L7, L8, L9, L10, L11, L12, L13, L16, L20, L31, L32, L40, L48, L57, L59, L60, L61, L91, L93, L97, L99, L100, L102, L103, L114, L122, L255, L300, L400, L402, L999, L2280, L2500, L99999, L63, L1431655765, L858993459, L252645135, ic_ge, ic_gt, ic_le, ic_lt, ic_eq, ic_ne, if_lt, if_ge, if_gt, if_le, if_eq, if_ne, if_lt_zI, if_ge_zI, ic_ne_m1, ic_eq_m1, ic_nn_m1, ic_ee_m1, if_ne_b2i, if_eq_b2i, b2i_z, decide_eq_true_eq, decide_true, decide_false, Bool.not_eq_true, Bool.not_eq_true', Bool.not_true, Bool.not_false, decide_eq_false_iff_not, Bool.false_eq_true, not_false_eq_true, not_true_eq_false, if_true, if_false, ↓reduceIte, eq_self, Option.bind_some, Bool.true_and, Bool.false_and, Bool.and_true, Bool.and_false, nI_add, nI_subN, nI_clamp, gdF, gdF2, gdP, gdP2, zI_cl, zI_s, Lm1, nI_n0, zI_n0, leF, or_false, false_or, or_self, e, e57, e56, er, m_rA1, m_rA3, m_rAe, m_rAn, m_rAi, m_rI2, m_rIe, m_rIn, m_rL1, m_rL2, m_rLe, m_rLi, m_rLn]
    rw [sv_s]
    exact ih (j + 1) (by omega)
theorem f241_135s {S : mS} {pos : Nat} (h6 : S.1 56 = nI pos) (h7 : S.1 57 = nI 0) (hp : pos + 6 ≤ 12500) : Ev (fun n => F241_135 n S) ((), svG 56 40 S 5 pos 6) := by
  refine ev_succ (fun n => F241_135e0 n ..) ?_
  simp only [F241_135b0, L0]
  have := f241_135sl h7 hp 6 0 (by omega)
  rw [sv_0 h6] at this
  exact this
theorem f241_135bl {S : mS} {pos : Nat} (h7 : S.1 57 = nI 1) (hp : pos + 6 ≤ 12500) : ∀ m j, j + m = 6 → Ev (fun n => F241_135f n 2 (nI j) (ldG 56 40 S 5 pos j)) ((), ldG 56 40 S 5 pos 6) := by
  intro m
  induction m with
  | zero =>
    intro j hj
    refine ev_succ (fun n => F241_135e2 n ..) ?_
    have hj : j = 6 := by omega
    subst hj
    simp only [F241_135b2, L0, L1, L2, L3, L4, L5, L6, L7, L8, L9, L10, L11, L12, L13, L16, L20, L31, L32, L40, L48, L57, L59, L60, L61, L91, L93, L97, L99, L100, L102, L103, L114, L122, L255, L300, L400, L402, L999, L2280, L2500, L99999, L63, L1431655765, L858993459, L252645135]
    simp (disch := omega) only [ic_ge, Nat.le_refl, decide_eq_true_eq, decide_true, decide_false, Bool.not_eq_true, Bool.not_eq_true', Bool.not_true, Bool.not_false, decide_eq_false_iff_not, Bool.false_eq_true, not_false_eq_true, not_true_eq_false, if_true, if_false, ↓reduceIte, eq_self, Option.bind_some, Bool.true_and, Bool.false_and, Bool.and_true, Bool.and_false]
    exact ev_ret
  | succ m ih =>
    intro j hj
    refine ev_succ (fun n => F241_135e2 n ..) ?_
    have e : ¬ 6 ≤ j := by omega
    have e57 : (ldG 56 40 S 5 pos j).1 57 = nI 1 := by rw [ld_n (by decide)]; exact h7
    have e56 : (ldG 56 40 S 5 pos j).1 56 = nI (pos + j) := ld_p
    have er : (ldG 56 40 S 5 pos j).2.1 40 (pos + j) = S.2.1 40 (pos + j) := by rw [ld_r (by decide)]
    simp (disch := omega) only [F241_135b2, L0, L1, L2, L3, L4, L5, L6, L7, L8, L9, L10, L11, L12, L13, L16, L20, L31, L32, L40, L48, L57, L59, L60, L61, L91, L93, L97, L99, L100, L102, L103, L114, L122, L255, L300, L400, L402, L999, L2280, L2500, L99999, L63, L1431655765, L858993459, L252645135, ic_ge, ic_gt, ic_le, ic_lt, ic_eq, ic_ne, if_lt, if_ge, if_gt, if_le, if_eq, if_ne, if_lt_zI, if_ge_zI, ic_ne_m1, ic_eq_m1, ic_nn_m1, ic_ee_m1, if_ne_b2i, if_eq_b2i, b2i_z, decide_eq_true_eq, decide_true, decide_false, Bool.not_eq_true, Bool.not_eq_true', Bool.not_true, Bool.not_false, decide_eq_false_iff_not, Bool.false_eq_true, not_false_eq_true, not_true_eq_false, if_true, if_false, ↓reduceIte, eq_self, Option.bind_some, Bool.true_and, Bool.false_and, Bool.and_true, Bool.and_false, nI_add, nI_subN, nI_clamp, gdF, gdF2, gdP, gdP2, zI_cl, zI_s, Lm1, nI_n0, zI_n0, leF, or_false, false_or, or_self, e, e57, e56, er, m_rA1, m_rA3, m_rAe, m_rAn, m_rAi, m_rI2, m_rIe, m_rIn, m_rL1, m_rL2, m_rLe, m_rLi, m_rLn, Nat.one_ne_zero]
    rw [ld_s]
    exact ih (j + 1) (by omega)
theorem f241_135b {S : mS} {pos : Nat} (h6 : S.1 56 = nI pos) (h7 : S.1 57 = nI 1) (hp : pos + 6 ≤ 12500) : Ev (fun n => F241_135 n S) ((), ldG 56 40 S 5 pos 6) := by
  refine ev_succ (fun n => F241_135e0 n ..) ?_
  simp only [F241_135b0, L0]
  have := f241_135bl h7 hp 6 0 (by omega)
  rw [ld_0 h6] at this
  exact this
theorem f241_136sl {S : mS} {pos : Nat} (h7 : S.1 57 = nI 0) (hp : pos + 6 ≤ 12500) : ∀ m j, j + m = 6 → Ev (fun n => F241_136f n 2 (nI j) (svG 56 40 S 6 pos j)) ((), svG 56 40 S 6 pos 6) := by
  intro m
  induction m with
  | zero =>
    intro j hj
    refine ev_succ (fun n => F241_136e2 n ..) ?_
    have hj : j = 6 := by omega
    subst hj
    simp only [F241_136b2, L0, L1, L2, L3, L4, L5, L6, L7, L8, L9, L10, L11, L12, L13, L16, L20, L31, L32, L40, L48, L57, L59, L60, L61, L91, L93, L97, L99, L100, L102, L103, L114, L122, L255, L300, L400, L402, L999, L2280, L2500, L99999, L63, L1431655765, L858993459, L252645135]
    simp (disch := omega) only [ic_ge, Nat.le_refl, decide_eq_true_eq, decide_true, decide_false, Bool.not_eq_true, Bool.not_eq_true', Bool.not_true, Bool.not_false, decide_eq_false_iff_not, Bool.false_eq_true, not_false_eq_true, not_true_eq_false, if_true, if_false, ↓reduceIte, eq_self, Option.bind_some, Bool.true_and, Bool.false_and, Bool.and_true, Bool.and_false]
    exact ev_ret
  | succ m ih =>
    intro j hj
    refine ev_succ (fun n => F241_136e2 n ..) ?_
    have e : ¬ 6 ≤ j := by omega
    have e57 : (svG 56 40 S 6 pos j).1 57 = nI 0 := by rw [sv_n (by decide)]; exact h7
    have e56 : (svG 56 40 S 6 pos j).1 56 = nI (pos + j) := sv_p
    have er : (svG 56 40 S 6 pos j).2.1 6 j = S.2.1 6 j := by rw [sv_r (by decide)]
    simp (disch := omega) only [F241_136b2, L0, L1, L2, L3, L4, L5, L6, L7, L8, L9, L10, L11, L12, L13, L16, L20, L31, L32, L40, L48, L57, L59, L60, L61, L91, L93, L97, L99, L100, L102, L103, L114, L122, L255, L300, L400, L402, L999, L2280, L2500, L99999, L63, L1431655765, L858993459, L252645135, ic_ge, ic_gt, ic_le, ic_lt, ic_eq, ic_ne, if_lt, if_ge, if_gt, if_le, if_eq, if_ne, if_lt_zI, if_ge_zI, ic_ne_m1, ic_eq_m1, ic_nn_m1, ic_ee_m1, if_ne_b2i, if_eq_b2i, b2i_z, decide_eq_true_eq, decide_true, decide_false, Bool.not_eq_true, Bool.not_eq_true', Bool.not_true, Bool.not_false, decide_eq_false_iff_not, Bool.false_eq_true, not_false_eq_true, not_true_eq_false, if_true, if_false, ↓reduceIte, eq_self, Option.bind_some, Bool.true_and, Bool.false_and, Bool.and_true, Bool.and_false, nI_add, nI_subN, nI_clamp, gdF, gdF2, gdP, gdP2, zI_cl, zI_s, Lm1, nI_n0, zI_n0, leF, or_false, false_or, or_self, e, e57, e56, er, m_rA1, m_rA3, m_rAe, m_rAn, m_rAi, m_rI2, m_rIe, m_rIn, m_rL1, m_rL2, m_rLe, m_rLi, m_rLn]
    rw [sv_s]
    exact ih (j + 1) (by omega)
theorem f241_136s {S : mS} {pos : Nat} (h6 : S.1 56 = nI pos) (h7 : S.1 57 = nI 0) (hp : pos + 6 ≤ 12500) : Ev (fun n => F241_136 n S) ((), svG 56 40 S 6 pos 6) := by
  refine ev_succ (fun n => F241_136e0 n ..) ?_
  simp only [F241_136b0, L0]
  have := f241_136sl h7 hp 6 0 (by omega)
  rw [sv_0 h6] at this
  exact this
theorem f241_136bl {S : mS} {pos : Nat} (h7 : S.1 57 = nI 1) (hp : pos + 6 ≤ 12500) : ∀ m j, j + m = 6 → Ev (fun n => F241_136f n 2 (nI j) (ldG 56 40 S 6 pos j)) ((), ldG 56 40 S 6 pos 6) := by
  intro m
  induction m with
  | zero =>
    intro j hj
    refine ev_succ (fun n => F241_136e2 n ..) ?_
    have hj : j = 6 := by omega
    subst hj
    simp only [F241_136b2, L0, L1, L2, L3, L4, L5, L6, L7, L8, L9, L10, L11, L12, L13, L16, L20, L31, L32, L40, L48, L57, L59, L60, L61, L91, L93, L97, L99, L100, L102, L103, L114, L122, L255, L300, L400, L402, L999, L2280, L2500, L99999, L63, L1431655765, L858993459, L252645135]
    simp (disch := omega) only [ic_ge, Nat.le_refl, decide_eq_true_eq, decide_true, decide_false, Bool.not_eq_true, Bool.not_eq_true', Bool.not_true, Bool.not_false, decide_eq_false_iff_not, Bool.false_eq_true, not_false_eq_true, not_true_eq_false, if_true, if_false, ↓reduceIte, eq_self, Option.bind_some, Bool.true_and, Bool.false_and, Bool.and_true, Bool.and_false]
    exact ev_ret
  | succ m ih =>
    intro j hj
    refine ev_succ (fun n => F241_136e2 n ..) ?_
    have e : ¬ 6 ≤ j := by omega
    have e57 : (ldG 56 40 S 6 pos j).1 57 = nI 1 := by rw [ld_n (by decide)]; exact h7
    have e56 : (ldG 56 40 S 6 pos j).1 56 = nI (pos + j) := ld_p
    have er : (ldG 56 40 S 6 pos j).2.1 40 (pos + j) = S.2.1 40 (pos + j) := by rw [ld_r (by decide)]
    simp (disch := omega) only [F241_136b2, L0, L1, L2, L3, L4, L5, L6, L7, L8, L9, L10, L11, L12, L13, L16, L20, L31, L32, L40, L48, L57, L59, L60, L61, L91, L93, L97, L99, L100, L102, L103, L114, L122, L255, L300, L400, L402, L999, L2280, L2500, L99999, L63, L1431655765, L858993459, L252645135, ic_ge, ic_gt, ic_le, ic_lt, ic_eq, ic_ne, if_lt, if_ge, if_gt, if_le, if_eq, if_ne, if_lt_zI, if_ge_zI, ic_ne_m1, ic_eq_m1, ic_nn_m1, ic_ee_m1, if_ne_b2i, if_eq_b2i, b2i_z, decide_eq_true_eq, decide_true, decide_false, Bool.not_eq_true, Bool.not_eq_true', Bool.not_true, Bool.not_false, decide_eq_false_iff_not, Bool.false_eq_true, not_false_eq_true, not_true_eq_false, if_true, if_false, ↓reduceIte, eq_self, Option.bind_some, Bool.true_and, Bool.false_and, Bool.and_true, Bool.and_false, nI_add, nI_subN, nI_clamp, gdF, gdF2, gdP, gdP2, zI_cl, zI_s, Lm1, nI_n0, zI_n0, leF, or_false, false_or, or_self, e, e57, e56, er, m_rA1, m_rA3, m_rAe, m_rAn, m_rAi, m_rI2, m_rIe, m_rIn, m_rL1, m_rL2, m_rLe, m_rLi, m_rLn, Nat.one_ne_zero]
    rw [ld_s]
    exact ih (j + 1) (by omega)
theorem f241_136b {S : mS} {pos : Nat} (h6 : S.1 56 = nI pos) (h7 : S.1 57 = nI 1) (hp : pos + 6 ≤ 12500) : Ev (fun n => F241_136 n S) ((), ldG 56 40 S 6 pos 6) := by
  refine ev_succ (fun n => F241_136e0 n ..) ?_
  simp only [F241_136b0, L0]
  have := f241_136bl h7 hp 6 0 (by omega)
  rw [ld_0 h6] at this
  exact this
theorem f241_137sl {S : mS} {pos : Nat} (h7 : S.1 57 = nI 0) (hp : pos + 4 ≤ 12500) : ∀ m j, j + m = 4 → Ev (fun n => F241_137f n 2 (nI j) (svG 56 40 S 7 pos j)) ((), svG 56 40 S 7 pos 4) := by
  intro m
  induction m with
  | zero =>
    intro j hj
    refine ev_succ (fun n => F241_137e2 n ..) ?_
    have hj : j = 4 := by omega
    subst hj
    simp only [F241_137b2, L0, L1, L2, L3, L4, L5, L6, L7, L8, L9, L10, L11, L12, L13, L16, L20, L31, L32, L40, L48, L57, L59, L60, L61, L91, L93, L97, L99, L100, L102, L103, L114, L122, L255, L300, L400, L402, L999, L2280, L2500, L99999, L63, L1431655765, L858993459, L252645135]
    simp (disch := omega) only [ic_ge, Nat.le_refl, decide_eq_true_eq, decide_true, decide_false, Bool.not_eq_true, Bool.not_eq_true', Bool.not_true, Bool.not_false, decide_eq_false_iff_not, Bool.false_eq_true, not_false_eq_true, not_true_eq_false, if_true, if_false, ↓reduceIte, eq_self, Option.bind_some, Bool.true_and, Bool.false_and, Bool.and_true, Bool.and_false]
    exact ev_ret
  | succ m ih =>
    intro j hj
    refine ev_succ (fun n => F241_137e2 n ..) ?_
    have e : ¬ 4 ≤ j := by omega
    have e57 : (svG 56 40 S 7 pos j).1 57 = nI 0 := by rw [sv_n (by decide)]; exact h7
    have e56 : (svG 56 40 S 7 pos j).1 56 = nI (pos + j) := sv_p
    have er : (svG 56 40 S 7 pos j).2.1 7 j = S.2.1 7 j := by rw [sv_r (by decide)]
    simp (disch := omega) only [F241_137b2, L0, L1, L2, L3, L4, L5, L6, L7, L8, L9, L10, L11, L12, L13, L16, L20, L31, L32, L40, L48, L57, L59, L60, L61, L91, L93, L97, L99, L100, L102, L103, L114, L122, L255, L300, L400, L402, L999, L2280, L2500, L99999, L63, L1431655765, L858993459, L252645135, ic_ge, ic_gt, ic_le, ic_lt, ic_eq, ic_ne, if_lt, if_ge, if_gt, if_le, if_eq, if_ne, if_lt_zI, if_ge_zI, ic_ne_m1, ic_eq_m1, ic_nn_m1, ic_ee_m1, if_ne_b2i, if_eq_b2i, b2i_z, decide_eq_true_eq, decide_true, decide_false, Bool.not_eq_true, Bool.not_eq_true', Bool.not_true, Bool.not_false, decide_eq_false_iff_not, Bool.false_eq_true, not_false_eq_true, not_true_eq_false, if_true, if_false, ↓reduceIte, eq_self, Option.bind_some, Bool.true_and, Bool.false_and, Bool.and_true, Bool.and_false, nI_add, nI_subN, nI_clamp, gdF, gdF2, gdP, gdP2, zI_cl, zI_s, Lm1, nI_n0, zI_n0, leF, or_false, false_or, or_self, e, e57, e56, er, m_rA1, m_rA3, m_rAe, m_rAn, m_rAi, m_rI2, m_rIe, m_rIn, m_rL1, m_rL2, m_rLe, m_rLi, m_rLn]
    rw [sv_s]
    exact ih (j + 1) (by omega)
theorem f241_137s {S : mS} {pos : Nat} (h6 : S.1 56 = nI pos) (h7 : S.1 57 = nI 0) (hp : pos + 4 ≤ 12500) : Ev (fun n => F241_137 n S) ((), svG 56 40 S 7 pos 4) := by
  refine ev_succ (fun n => F241_137e0 n ..) ?_
  simp only [F241_137b0, L0]
  have := f241_137sl h7 hp 4 0 (by omega)
  rw [sv_0 h6] at this
  exact this
theorem f241_137bl {S : mS} {pos : Nat} (h7 : S.1 57 = nI 1) (hp : pos + 4 ≤ 12500) : ∀ m j, j + m = 4 → Ev (fun n => F241_137f n 2 (nI j) (ldG 56 40 S 7 pos j)) ((), ldG 56 40 S 7 pos 4) := by
  intro m
  induction m with
  | zero =>
    intro j hj
    refine ev_succ (fun n => F241_137e2 n ..) ?_
    have hj : j = 4 := by omega
    subst hj
    simp only [F241_137b2, L0, L1, L2, L3, L4, L5, L6, L7, L8, L9, L10, L11, L12, L13, L16, L20, L31, L32, L40, L48, L57, L59, L60, L61, L91, L93, L97, L99, L100, L102, L103, L114, L122, L255, L300, L400, L402, L999, L2280, L2500, L99999, L63, L1431655765, L858993459, L252645135]
    simp (disch := omega) only [ic_ge, Nat.le_refl, decide_eq_true_eq, decide_true, decide_false, Bool.not_eq_true, Bool.not_eq_true', Bool.not_true, Bool.not_false, decide_eq_false_iff_not, Bool.false_eq_true, not_false_eq_true, not_true_eq_false, if_true, if_false, ↓reduceIte, eq_self, Option.bind_some, Bool.true_and, Bool.false_and, Bool.and_true, Bool.and_false]
    exact ev_ret
  | succ m ih =>
    intro j hj
    refine ev_succ (fun n => F241_137e2 n ..) ?_
    have e : ¬ 4 ≤ j := by omega
    have e57 : (ldG 56 40 S 7 pos j).1 57 = nI 1 := by rw [ld_n (by decide)]; exact h7
    have e56 : (ldG 56 40 S 7 pos j).1 56 = nI (pos + j) := ld_p
    have er : (ldG 56 40 S 7 pos j).2.1 40 (pos + j) = S.2.1 40 (pos + j) := by rw [ld_r (by decide)]
    simp (disch := omega) only [F241_137b2, L0, L1, L2, L3, L4, L5, L6, L7, L8, L9, L10, L11, L12, L13, L16, L20, L31, L32, L40, L48, L57, L59, L60, L61, L91, L93, L97, L99, L100, L102, L103, L114, L122, L255, L300, L400, L402, L999, L2280, L2500, L99999, L63, L1431655765, L858993459, L252645135, ic_ge, ic_gt, ic_le, ic_lt, ic_eq, ic_ne, if_lt, if_ge, if_gt, if_le, if_eq, if_ne, if_lt_zI, if_ge_zI, ic_ne_m1, ic_eq_m1, ic_nn_m1, ic_ee_m1, if_ne_b2i, if_eq_b2i, b2i_z, decide_eq_true_eq, decide_true, decide_false, Bool.not_eq_true, Bool.not_eq_true', Bool.not_true, Bool.not_false, decide_eq_false_iff_not, Bool.false_eq_true, not_false_eq_true, not_true_eq_false, if_true, if_false, ↓reduceIte, eq_self, Option.bind_some, Bool.true_and, Bool.false_and, Bool.and_true, Bool.and_false, nI_add, nI_subN, nI_clamp, gdF, gdF2, gdP, gdP2, zI_cl, zI_s, Lm1, nI_n0, zI_n0, leF, or_false, false_or, or_self, e, e57, e56, er, m_rA1, m_rA3, m_rAe, m_rAn, m_rAi, m_rI2, m_rIe, m_rIn, m_rL1, m_rL2, m_rLe, m_rLi, m_rLn, Nat.one_ne_zero]
    rw [ld_s]
    exact ih (j + 1) (by omega)
theorem f241_137b {S : mS} {pos : Nat} (h6 : S.1 56 = nI pos) (h7 : S.1 57 = nI 1) (hp : pos + 4 ≤ 12500) : Ev (fun n => F241_137 n S) ((), ldG 56 40 S 7 pos 4) := by
  refine ev_succ (fun n => F241_137e0 n ..) ?_
  simp only [F241_137b0, L0]
  have := f241_137bl h7 hp 4 0 (by omega)
  rw [ld_0 h6] at this
  exact this
theorem f241_138sl {S : mS} {pos : Nat} (h7 : S.1 57 = nI 0) (hp : pos + 13 ≤ 12500) : ∀ m j, j + m = 13 → Ev (fun n => F241_138f n 2 (nI j) (svG 56 40 S 8 pos j)) ((), svG 56 40 S 8 pos 13) := by
  intro m
  induction m with
  | zero =>
    intro j hj
    refine ev_succ (fun n => F241_138e2 n ..) ?_
    have hj : j = 13 := by omega
    subst hj
    simp only [F241_138b2, L0, L1, L2, L3, L4, L5, L6, L7, L8, L9, L10, L11, L12, L13, L16, L20, L31, L32, L40, L48, L57, L59, L60, L61, L91, L93, L97, L99, L100, L102, L103, L114, L122, L255, L300, L400, L402, L999, L2280, L2500, L99999, L63, L1431655765, L858993459, L252645135]
    simp (disch := omega) only [ic_ge, Nat.le_refl, decide_eq_true_eq, decide_true, decide_false, Bool.not_eq_true, Bool.not_eq_true', Bool.not_true, Bool.not_false, decide_eq_false_iff_not, Bool.false_eq_true, not_false_eq_true, not_true_eq_false, if_true, if_false, ↓reduceIte, eq_self, Option.bind_some, Bool.true_and, Bool.false_and, Bool.and_true, Bool.and_false]
    exact ev_ret
  | succ m ih =>
    intro j hj
    refine ev_succ (fun n => F241_138e2 n ..) ?_
    have e : ¬ 13 ≤ j := by omega
    have e57 : (svG 56 40 S 8 pos j).1 57 = nI 0 := by rw [sv_n (by decide)]; exact h7
    have e56 : (svG 56 40 S 8 pos j).1 56 = nI (pos + j) := sv_p
    have er : (svG 56 40 S 8 pos j).2.1 8 j = S.2.1 8 j := by rw [sv_r (by decide)]
    simp (disch := omega) only [F241_138b2, L0, L1, L2, L3, L4, L5, L6, L7, L8, L9, L10, L11, L12, L13, L16, L20, L31, L32, L40, L48, L57, L59, L60, L61, L91, L93, L97, L99, L100, L102, L103, L114, L122, L255, L300, L400, L402, L999, L2280, L2500, L99999, L63, L1431655765, L858993459, L252645135, ic_ge, ic_gt, ic_le, ic_lt, ic_eq, ic_ne, if_lt, if_ge, if_gt, if_le, if_eq, if_ne, if_lt_zI, if_ge_zI, ic_ne_m1, ic_eq_m1, ic_nn_m1, ic_ee_m1, if_ne_b2i, if_eq_b2i, b2i_z, decide_eq_true_eq, decide_true, decide_false, Bool.not_eq_true, Bool.not_eq_true', Bool.not_true, Bool.not_false, decide_eq_false_iff_not, Bool.false_eq_true, not_false_eq_true, not_true_eq_false, if_true, if_false, ↓reduceIte, eq_self, Option.bind_some, Bool.true_and, Bool.false_and, Bool.and_true, Bool.and_false, nI_add, nI_subN, nI_clamp, gdF, gdF2, gdP, gdP2, zI_cl, zI_s, Lm1, nI_n0, zI_n0, leF, or_false, false_or, or_self, e, e57, e56, er, m_rA1, m_rA3, m_rAe, m_rAn, m_rAi, m_rI2, m_rIe, m_rIn, m_rL1, m_rL2, m_rLe, m_rLi, m_rLn]
    rw [sv_s]
    exact ih (j + 1) (by omega)
theorem f241_138s {S : mS} {pos : Nat} (h6 : S.1 56 = nI pos) (h7 : S.1 57 = nI 0) (hp : pos + 13 ≤ 12500) : Ev (fun n => F241_138 n S) ((), svG 56 40 S 8 pos 13) := by
  refine ev_succ (fun n => F241_138e0 n ..) ?_
  simp only [F241_138b0, L0]
  have := f241_138sl h7 hp 13 0 (by omega)
  rw [sv_0 h6] at this
  exact this
theorem f241_138bl {S : mS} {pos : Nat} (h7 : S.1 57 = nI 1) (hp : pos + 13 ≤ 12500) : ∀ m j, j + m = 13 → Ev (fun n => F241_138f n 2 (nI j) (ldG 56 40 S 8 pos j)) ((), ldG 56 40 S 8 pos 13) := by
  intro m
  induction m with
  | zero =>
    intro j hj
    refine ev_succ (fun n => F241_138e2 n ..) ?_
    have hj : j = 13 := by omega
    subst hj
    simp only [F241_138b2, L0, L1, L2, L3, L4, L5, L6, L7, L8, L9, L10, L11, L12, L13, L16, L20, L31, L32, L40, L48, L57, L59, L60, L61, L91, L93, L97, L99, L100, L102, L103, L114, L122, L255, L300, L400, L402, L999, L2280, L2500, L99999, L63, L1431655765, L858993459, L252645135]
    simp (disch := omega) only [ic_ge, Nat.le_refl, decide_eq_true_eq, decide_true, decide_false, Bool.not_eq_true, Bool.not_eq_true', Bool.not_true, Bool.not_false, decide_eq_false_iff_not, Bool.false_eq_true, not_false_eq_true, not_true_eq_false, if_true, if_false, ↓reduceIte, eq_self, Option.bind_some, Bool.true_and, Bool.false_and, Bool.and_true, Bool.and_false]
    exact ev_ret
  | succ m ih =>
    intro j hj
    refine ev_succ (fun n => F241_138e2 n ..) ?_
    have e : ¬ 13 ≤ j := by omega
    have e57 : (ldG 56 40 S 8 pos j).1 57 = nI 1 := by rw [ld_n (by decide)]; exact h7
    have e56 : (ldG 56 40 S 8 pos j).1 56 = nI (pos + j) := ld_p
    have er : (ldG 56 40 S 8 pos j).2.1 40 (pos + j) = S.2.1 40 (pos + j) := by rw [ld_r (by decide)]
    simp (disch := omega) only [F241_138b2, L0, L1, L2, L3, L4, L5, L6, L7, L8, L9, L10, L11, L12, L13, L16, L20, L31, L32, L40, L48, L57, L59, L60, L61, L91, L93, L97, L99, L100, L102, L103, L114, L122, L255, L300, L400, L402, L999, L2280, L2500, L99999, L63, L1431655765, L858993459, L252645135, ic_ge, ic_gt, ic_le, ic_lt, ic_eq, ic_ne, if_lt, if_ge, if_gt, if_le, if_eq, if_ne, if_lt_zI, if_ge_zI, ic_ne_m1, ic_eq_m1, ic_nn_m1, ic_ee_m1, if_ne_b2i, if_eq_b2i, b2i_z, decide_eq_true_eq, decide_true, decide_false, Bool.not_eq_true, Bool.not_eq_true', Bool.not_true, Bool.not_false, decide_eq_false_iff_not, Bool.false_eq_true, not_false_eq_true, not_true_eq_false, if_true, if_false, ↓reduceIte, eq_self, Option.bind_some, Bool.true_and, Bool.false_and, Bool.and_true, Bool.and_false, nI_add, nI_subN, nI_clamp, gdF, gdF2, gdP, gdP2, zI_cl, zI_s, Lm1, nI_n0, zI_n0, leF, or_false, false_or, or_self, e, e57, e56, er, m_rA1, m_rA3, m_rAe, m_rAn, m_rAi, m_rI2, m_rIe, m_rIn, m_rL1, m_rL2, m_rLe, m_rLi, m_rLn, Nat.one_ne_zero]
    rw [ld_s]
    exact ih (j + 1) (by omega)
theorem f241_138b {S : mS} {pos : Nat} (h6 : S.1 56 = nI pos) (h7 : S.1 57 = nI 1) (hp : pos + 13 ≤ 12500) : Ev (fun n => F241_138 n S) ((), ldG 56 40 S 8 pos 13) := by
  refine ev_succ (fun n => F241_138e0 n ..) ?_
  simp only [F241_138b0, L0]
  have := f241_138bl h7 hp 13 0 (by omega)
  rw [ld_0 h6] at this
  exact this
theorem f241_139sl {S : mS} {pos : Nat} (h7 : S.1 57 = nI 0) (hp : pos + 13 ≤ 12500) : ∀ m j, j + m = 13 → Ev (fun n => F241_139f n 2 (nI j) (svG 56 40 S 9 pos j)) ((), svG 56 40 S 9 pos 13) := by
  intro m
  induction m with
  | zero =>
    intro j hj
    refine ev_succ (fun n => F241_139e2 n ..) ?_
    have hj : j = 13 := by omega
    subst hj
    simp only [F241_139b2, L0, L1, L2, L3, L4, L5, L6, L7, L8, L9, L10, L11, L12, L13, L16, L20, L31, L32, L40, L48, L57, L59, L60, L61, L91, L93, L97, L99, L100, L102, L103, L114, L122, L255, L300, L400, L402, L999, L2280, L2500, L99999, L63, L1431655765, L858993459, L252645135]
    simp (disch := omega) only [ic_ge, Nat.le_refl, decide_eq_true_eq, decide_true, decide_false, Bool.not_eq_true, Bool.not_eq_true', Bool.not_true, Bool.not_false, decide_eq_false_iff_not, Bool.false_eq_true, not_false_eq_true, not_true_eq_false, if_true, if_false, ↓reduceIte, eq_self, Option.bind_some, Bool.true_and, Bool.false_and, Bool.and_true, Bool.and_false]
    exact ev_ret
  | succ m ih =>
    intro j hj
    refine ev_succ (fun n => F241_139e2 n ..) ?_
    have e : ¬ 13 ≤ j := by omega
    have e57 : (svG 56 40 S 9 pos j).1 57 = nI 0 := by rw [sv_n (by decide)]; exact h7
    have e56 : (svG 56 40 S 9 pos j).1 56 = nI (pos + j) := sv_p
    have er : (svG 56 40 S 9 pos j).2.1 9 j = S.2.1 9 j := by rw [sv_r (by decide)]
    simp (disch := omega) only [F241_139b2, L0, L1, L2, L3, L4, L5, L6, L7, L8, L9, L10, L11, L12, L13, L16, L20, L31, L32, L40, L48, L57, L59, L60, L61, L91, L93, L97, L99, L100, L102, L103, L114, L122, L255, L300, L400, L402, L999, L2280, L2500, L99999, L63, L1431655765, L858993459, L252645135, ic_ge, ic_gt, ic_le, ic_lt, ic_eq, ic_ne, if_lt, if_ge, if_gt, if_le, if_eq, if_ne, if_lt_zI, if_ge_zI, ic_ne_m1, ic_eq_m1, ic_nn_m1, ic_ee_m1, if_ne_b2i, if_eq_b2i, b2i_z, decide_eq_true_eq, decide_true, decide_false, Bool.not_eq_true, Bool.not_eq_true', Bool.not_true, Bool.not_false, decide_eq_false_iff_not, Bool.false_eq_true, not_false_eq_true, not_true_eq_false, if_true, if_false, ↓reduceIte, eq_self, Option.bind_some, Bool.true_and, Bool.false_and, Bool.and_true, Bool.and_false, nI_add, nI_subN, nI_clamp, gdF, gdF2, gdP, gdP2, zI_cl, zI_s, Lm1, nI_n0, zI_n0, leF, or_false, false_or, or_self, e, e57, e56, er, m_rA1, m_rA3, m_rAe, m_rAn, m_rAi, m_rI2, m_rIe, m_rIn, m_rL1, m_rL2, m_rLe, m_rLi, m_rLn]
    rw [sv_s]
    exact ih (j + 1) (by omega)
theorem f241_139s {S : mS} {pos : Nat} (h6 : S.1 56 = nI pos) (h7 : S.1 57 = nI 0) (hp : pos + 13 ≤ 12500) : Ev (fun n => F241_139 n S) ((), svG 56 40 S 9 pos 13) := by
  refine ev_succ (fun n => F241_139e0 n ..) ?_
  simp only [F241_139b0, L0]
  have := f241_139sl h7 hp 13 0 (by omega)
  rw [sv_0 h6] at this
  exact this
theorem f241_139bl {S : mS} {pos : Nat} (h7 : S.1 57 = nI 1) (hp : pos + 13 ≤ 12500) : ∀ m j, j + m = 13 → Ev (fun n => F241_139f n 2 (nI j) (ldG 56 40 S 9 pos j)) ((), ldG 56 40 S 9 pos 13) := by
  intro m
  induction m with
  | zero =>
    intro j hj
    refine ev_succ (fun n => F241_139e2 n ..) ?_
    have hj : j = 13 := by omega
    subst hj
    simp only [F241_139b2, L0, L1, L2, L3, L4, L5, L6, L7, L8, L9, L10, L11, L12, L13, L16, L20, L31, L32, L40, L48, L57, L59, L60, L61, L91, L93, L97, L99, L100, L102, L103, L114, L122, L255, L300, L400, L402, L999, L2280, L2500, L99999, L63, L1431655765, L858993459, L252645135]
    simp (disch := omega) only [ic_ge, Nat.le_refl, decide_eq_true_eq, decide_true, decide_false, Bool.not_eq_true, Bool.not_eq_true', Bool.not_true, Bool.not_false, decide_eq_false_iff_not, Bool.false_eq_true, not_false_eq_true, not_true_eq_false, if_true, if_false, ↓reduceIte, eq_self, Option.bind_some, Bool.true_and, Bool.false_and, Bool.and_true, Bool.and_false]
    exact ev_ret
  | succ m ih =>
    intro j hj
    refine ev_succ (fun n => F241_139e2 n ..) ?_
    have e : ¬ 13 ≤ j := by omega
    have e57 : (ldG 56 40 S 9 pos j).1 57 = nI 1 := by rw [ld_n (by decide)]; exact h7
    have e56 : (ldG 56 40 S 9 pos j).1 56 = nI (pos + j) := ld_p
    have er : (ldG 56 40 S 9 pos j).2.1 40 (pos + j) = S.2.1 40 (pos + j) := by rw [ld_r (by decide)]
    simp (disch := omega) only [F241_139b2, L0, L1, L2, L3, L4, L5, L6, L7, L8, L9, L10, L11, L12, L13, L16, L20, L31, L32, L40, L48, L57, L59, L60, L61, L91, L93, L97, L99, L100, L102, L103, L114, L122, L255, L300, L400, L402, L999, L2280, L2500, L99999, L63, L1431655765, L858993459, L252645135, ic_ge, ic_gt, ic_le, ic_lt, ic_eq, ic_ne, if_lt, if_ge, if_gt, if_le, if_eq, if_ne, if_lt_zI, if_ge_zI, ic_ne_m1, ic_eq_m1, ic_nn_m1, ic_ee_m1, if_ne_b2i, if_eq_b2i, b2i_z, decide_eq_true_eq, decide_true, decide_false, Bool.not_eq_true, Bool.not_eq_true', Bool.not_true, Bool.not_false, decide_eq_false_iff_not, Bool.false_eq_true, not_false_eq_true, not_true_eq_false, if_true, if_false, ↓reduceIte, eq_self, Option.bind_some, Bool.true_and, Bool.false_and, Bool.and_true, Bool.and_false, nI_add, nI_subN, nI_clamp, gdF, gdF2, gdP, gdP2, zI_cl, zI_s, Lm1, nI_n0, zI_n0, leF, or_false, false_or, or_self, e, e57, e56, er, m_rA1, m_rA3, m_rAe, m_rAn, m_rAi, m_rI2, m_rIe, m_rIn, m_rL1, m_rL2, m_rLe, m_rLi, m_rLn, Nat.one_ne_zero]
    rw [ld_s]
    exact ih (j + 1) (by omega)
theorem f241_139b {S : mS} {pos : Nat} (h6 : S.1 56 = nI pos) (h7 : S.1 57 = nI 1) (hp : pos + 13 ≤ 12500) : Ev (fun n => F241_139 n S) ((), ldG 56 40 S 9 pos 13) := by
  refine ev_succ (fun n => F241_139e0 n ..) ?_
  simp only [F241_139b0, L0]
  have := f241_139bl h7 hp 13 0 (by omega)
  rw [ld_0 h6] at this
  exact this
theorem f241_140sl {S : mS} {pos : Nat} (h7 : S.1 57 = nI 0) (hp : pos + 13 ≤ 12500) : ∀ m j, j + m = 13 → Ev (fun n => F241_140f n 2 (nI j) (svG 56 40 S 10 pos j)) ((), svG 56 40 S 10 pos 13) := by
  intro m
  induction m with
  | zero =>
    intro j hj
    refine ev_succ (fun n => F241_140e2 n ..) ?_
    have hj : j = 13 := by omega
    subst hj
    simp only [F241_140b2, L0, L1, L2, L3, L4, L5, L6, L7, L8, L9, L10, L11, L12, L13, L16, L20, L31, L32, L40, L48, L57, L59, L60, L61, L91, L93, L97, L99, L100, L102, L103, L114, L122, L255, L300, L400, L402, L999, L2280, L2500, L99999, L63, L1431655765, L858993459, L252645135]
    simp (disch := omega) only [ic_ge, Nat.le_refl, decide_eq_true_eq, decide_true, decide_false, Bool.not_eq_true, Bool.not_eq_true', Bool.not_true, Bool.not_false, decide_eq_false_iff_not, Bool.false_eq_true, not_false_eq_true, not_true_eq_false, if_true, if_false, ↓reduceIte, eq_self, Option.bind_some, Bool.true_and, Bool.false_and, Bool.and_true, Bool.and_false]
    exact ev_ret
  | succ m ih =>
    intro j hj
    refine ev_succ (fun n => F241_140e2 n ..) ?_
    have e : ¬ 13 ≤ j := by omega
    have e57 : (svG 56 40 S 10 pos j).1 57 = nI 0 := by rw [sv_n (by decide)]; exact h7
    have e56 : (svG 56 40 S 10 pos j).1 56 = nI (pos + j) := sv_p
    have er : (svG 56 40 S 10 pos j).2.1 10 j = S.2.1 10 j := by rw [sv_r (by decide)]
    simp (disch := omega) only [F241_140b2, L0, L1, L2, L3, L4, L5, L6, L7, L8, L9, L10, L11, L12, L13, L16, L20, L31, L32, L40, L48, L57, L59, L60, L61, L91, L93, L97, L99, L100, L102, L103, L114, L122, L255, L300, L400, L402, L999, L2280, L2500, L99999, L63, L1431655765, L858993459, L252645135, ic_ge, ic_gt, ic_le, ic_lt, ic_eq, ic_ne, if_lt, if_ge, if_gt, if_le, if_eq, if_ne, if_lt_zI, if_ge_zI, ic_ne_m1, ic_eq_m1, ic_nn_m1, ic_ee_m1, if_ne_b2i, if_eq_b2i, b2i_z, decide_eq_true_eq, decide_true, decide_false, Bool.not_eq_true, Bool.not_eq_true', Bool.not_true, Bool.not_false, decide_eq_false_iff_not, Bool.false_eq_true, not_false_eq_true, not_true_eq_false, if_true, if_false, ↓reduceIte, eq_self, Option.bind_some, Bool.true_and, Bool.false_and, Bool.and_true, Bool.and_false, nI_add, nI_subN, nI_clamp, gdF, gdF2, gdP, gdP2, zI_cl, zI_s, Lm1, nI_n0, zI_n0, leF, or_false, false_or, or_self, e, e57, e56, er, m_rA1, m_rA3, m_rAe, m_rAn, m_rAi, m_rI2, m_rIe, m_rIn, m_rL1, m_rL2, m_rLe, m_rLi, m_rLn]
    rw [sv_s]
    exact ih (j + 1) (by omega)
theorem f241_140s {S : mS} {pos : Nat} (h6 : S.1 56 = nI pos) (h7 : S.1 57 = nI 0) (hp : pos + 13 ≤ 12500) : Ev (fun n => F241_140 n S) ((), svG 56 40 S 10 pos 13) := by
  refine ev_succ (fun n => F241_140e0 n ..) ?_
  simp only [F241_140b0, L0]
  have := f241_140sl h7 hp 13 0 (by omega)
  rw [sv_0 h6] at this
  exact this
theorem f241_140bl {S : mS} {pos : Nat} (h7 : S.1 57 = nI 1) (hp : pos + 13 ≤ 12500) : ∀ m j, j + m = 13 → Ev (fun n => F241_140f n 2 (nI j) (ldG 56 40 S 10 pos j)) ((), ldG 56 40 S 10 pos 13) := by
  intro m
  induction m with
  | zero =>
    intro j hj
    refine ev_succ (fun n => F241_140e2 n ..) ?_
    have hj : j = 13 := by omega
    subst hj
    simp only [F241_140b2, L0, L1, L2, L3, L4, L5, L6, L7, L8, L9, L10, L11, L12, L13, L16, L20, L31, L32, L40, L48, L57, L59, L60, L61, L91, L93, L97, L99, L100, L102, L103, L114, L122, L255, L300, L400, L402, L999, L2280, L2500, L99999, L63, L1431655765, L858993459, L252645135]
    simp (disch := omega) only [ic_ge, Nat.le_refl, decide_eq_true_eq, decide_true, decide_false, Bool.not_eq_true, Bool.not_eq_true', Bool.not_true, Bool.not_false, decide_eq_false_iff_not, Bool.false_eq_true, not_false_eq_true, not_true_eq_false, if_true, if_false, ↓reduceIte, eq_self, Option.bind_some, Bool.true_and, Bool.false_and, Bool.and_true, Bool.and_false]
    exact ev_ret
  | succ m ih =>
    intro j hj
    refine ev_succ (fun n => F241_140e2 n ..) ?_
    have e : ¬ 13 ≤ j := by omega
    have e57 : (ldG 56 40 S 10 pos j).1 57 = nI 1 := by rw [ld_n (by decide)]; exact h7
    have e56 : (ldG 56 40 S 10 pos j).1 56 = nI (pos + j) := ld_p
    have er : (ldG 56 40 S 10 pos j).2.1 40 (pos + j) = S.2.1 40 (pos + j) := by rw [ld_r (by decide)]
    simp (disch := omega) only [F241_140b2, L0, L1, L2, L3, L4, L5, L6, L7, L8, L9, L10, L11, L12, L13, L16, L20, L31, L32, L40, L48, L57, L59, L60, L61, L91, L93, L97, L99, L100, L102, L103, L114, L122, L255, L300, L400, L402, L999, L2280, L2500, L99999, L63, L1431655765, L858993459, L252645135, ic_ge, ic_gt, ic_le, ic_lt, ic_eq, ic_ne, if_lt, if_ge, if_gt, if_le, if_eq, if_ne, if_lt_zI, if_ge_zI, ic_ne_m1, ic_eq_m1, ic_nn_m1, ic_ee_m1, if_ne_b2i, if_eq_b2i, b2i_z, decide_eq_true_eq, decide_true, decide_false, Bool.not_eq_true, Bool.not_eq_true', Bool.not_true, Bool.not_false, decide_eq_false_iff_not, Bool.false_eq_true, not_false_eq_true, not_true_eq_false, if_true, if_false, ↓reduceIte, eq_self, Option.bind_some, Bool.true_and, Bool.false_and, Bool.and_true, Bool.and_false, nI_add, nI_subN, nI_clamp, gdF, gdF2, gdP, gdP2, zI_cl, zI_s, Lm1, nI_n0, zI_n0, leF, or_false, false_or, or_self, e, e57, e56, er, m_rA1, m_rA3, m_rAe, m_rAn, m_rAi, m_rI2, m_rIe, m_rIn, m_rL1, m_rL2, m_rLe, m_rLi, m_rLn, Nat.one_ne_zero]
    rw [ld_s]
    exact ih (j + 1) (by omega)
theorem f241_140b {S : mS} {pos : Nat} (h6 : S.1 56 = nI pos) (h7 : S.1 57 = nI 1) (hp : pos + 13 ≤ 12500) : Ev (fun n => F241_140 n S) ((), ldG 56 40 S 10 pos 13) := by
  refine ev_succ (fun n => F241_140e0 n ..) ?_
  simp only [F241_140b0, L0]
  have := f241_140bl h7 hp 13 0 (by omega)
  rw [ld_0 h6] at this
  exact this
theorem f241_141sl {S : mS} {pos : Nat} (h7 : S.1 57 = nI 0) (hp : pos + 13 ≤ 12500) : ∀ m j, j + m = 13 → Ev (fun n => F241_141f n 2 (nI j) (svG 56 40 S 11 pos j)) ((), svG 56 40 S 11 pos 13) := by
  intro m
  induction m with
  | zero =>
    intro j hj
    refine ev_succ (fun n => F241_141e2 n ..) ?_
    have hj : j = 13 := by omega
    subst hj
    simp only [F241_141b2, L0, L1, L2, L3, L4, L5, L6, L7, L8, L9, L10, L11, L12, L13, L16, L20, L31, L32, L40, L48, L57, L59, L60, L61, L91, L93, L97, L99, L100, L102, L103, L114, L122, L255, L300, L400, L402, L999, L2280, L2500, L99999, L63, L1431655765, L858993459, L252645135]
    simp (disch := omega) only [ic_ge, Nat.le_refl, decide_eq_true_eq, decide_true, decide_false, Bool.not_eq_true, Bool.not_eq_true', Bool.not_true, Bool.not_false, decide_eq_false_iff_not, Bool.false_eq_true, not_false_eq_true, not_true_eq_false, if_true, if_false, ↓reduceIte, eq_self, Option.bind_some, Bool.true_and, Bool.false_and, Bool.and_true, Bool.and_false]
    exact ev_ret
  | succ m ih =>
    intro j hj
    refine ev_succ (fun n => F241_141e2 n ..) ?_
    have e : ¬ 13 ≤ j := by omega
    have e57 : (svG 56 40 S 11 pos j).1 57 = nI 0 := by rw [sv_n (by decide)]; exact h7
    have e56 : (svG 56 40 S 11 pos j).1 56 = nI (pos + j) := sv_p
    have er : (svG 56 40 S 11 pos j).2.1 11 j = S.2.1 11 j := by rw [sv_r (by decide)]
    simp (disch := omega) only [F241_141b2, L0, L1, L2, L3, L4, L5, L6, L7, L8, L9, L10, L11, L12, L13, L16, L20, L31, L32, L40, L48, L57, L59, L60, L61, L91, L93, L97, L99, L100, L102, L103, L114, L122, L255, L300, L400, L402, L999, L2280, L2500, L99999, L63, L1431655765, L858993459, L252645135, ic_ge, ic_gt, ic_le, ic_lt, ic_eq, ic_ne, if_lt, if_ge, if_gt, if_le, if_eq, if_ne, if_lt_zI, if_ge_zI, ic_ne_m1, ic_eq_m1, ic_nn_m1, ic_ee_m1, if_ne_b2i, if_eq_b2i, b2i_z, decide_eq_true_eq, decide_true, decide_false, Bool.not_eq_true, Bool.not_eq_true', Bool.not_true, Bool.not_false, decide_eq_false_iff_not, Bool.false_eq_true, not_false_eq_true, not_true_eq_false, if_true, if_false, ↓reduceIte, eq_self, Option.bind_some, Bool.true_and, Bool.false_and, Bool.and_true, Bool.and_false, nI_add, nI_subN, nI_clamp, gdF, gdF2, gdP, gdP2, zI_cl, zI_s, Lm1, nI_n0, zI_n0, leF, or_false, false_or, or_self, e, e57, e56, er, m_rA1, m_rA3, m_rAe, m_rAn, m_rAi, m_rI2, m_rIe, m_rIn, m_rL1, m_rL2, m_rLe, m_rLi, m_rLn]
    rw [sv_s]
    exact ih (j + 1) (by omega)
theorem f241_141s {S : mS} {pos : Nat} (h6 : S.1 56 = nI pos) (h7 : S.1 57 = nI 0) (hp : pos + 13 ≤ 12500) : Ev (fun n => F241_141 n S) ((), svG 56 40 S 11 pos 13) := by
  refine ev_succ (fun n => F241_141e0 n ..) ?_
  simp only [F241_141b0, L0]
  have := f241_141sl h7 hp 13 0 (by omega)
  rw [sv_0 h6] at this
  exact this
theorem f241_141bl {S : mS} {pos : Nat} (h7 : S.1 57 = nI 1) (hp : pos + 13 ≤ 12500) : ∀ m j, j + m = 13 → Ev (fun n => F241_141f n 2 (nI j) (ldG 56 40 S 11 pos j)) ((), ldG 56 40 S 11 pos 13) := by
  intro m
  induction m with
  | zero =>
    intro j hj
    refine ev_succ (fun n => F241_141e2 n ..) ?_
    have hj : j = 13 := by omega
    subst hj
    simp only [F241_141b2, L0, L1, L2, L3, L4, L5, L6, L7, L8, L9, L10, L11, L12, L13, L16, L20, L31, L32, L40, L48, L57, L59, L60, L61, L91, L93, L97, L99, L100, L102, L103, L114, L122, L255, L300, L400, L402, L999, L2280, L2500, L99999, L63, L1431655765, L858993459, L252645135]
    simp (disch := omega) only [ic_ge, Nat.le_refl, decide_eq_true_eq, decide_true, decide_false, Bool.not_eq_true, Bool.not_eq_true', Bool.not_true, Bool.not_false, decide_eq_false_iff_not, Bool.false_eq_true, not_false_eq_true, not_true_eq_false, if_true, if_false, ↓reduceIte, eq_self, Option.bind_some, Bool.true_and, Bool.false_and, Bool.and_true, Bool.and_false]
    exact ev_ret
  | succ m ih =>
    intro j hj
    refine ev_succ (fun n => F241_141e2 n ..) ?_
    have e : ¬ 13 ≤ j := by omega
    have e57 : (ldG 56 40 S 11 pos j).1 57 = nI 1 := by rw [ld_n (by decide)]; exact h7
    have e56 : (ldG 56 40 S 11 pos j).1 56 = nI (pos + j) := ld_p
    have er : (ldG 56 40 S 11 pos j).2.1 40 (pos + j) = S.2.1 40 (pos + j) := by rw [ld_r (by decide)]
    simp (disch := omega) only [F241_141b2, L0, L1, L2, L3, L4, L5, L6, L7, L8, L9, L10, L11, L12, L13, L16, L20, L31, L32, L40, L48, L57, L59, L60, L61, L91, L93, L97, L99, L100, L102, L103, L114, L122, L255, L300, L400, L402, L999, L2280, L2500, L99999, L63, L1431655765, L858993459, L252645135, ic_ge, ic_gt, ic_le, ic_lt, ic_eq, ic_ne, if_lt, if_ge, if_gt, if_le, if_eq, if_ne, if_lt_zI, if_ge_zI, ic_ne_m1, ic_eq_m1, ic_nn_m1, ic_ee_m1, if_ne_b2i, if_eq_b2i, b2i_z, decide_eq_true_eq, decide_true, decide_false, Bool.not_eq_true, Bool.not_eq_true', Bool.not_true, Bool.not_false, decide_eq_false_iff_not, Bool.false_eq_true, not_false_eq_true, not_true_eq_false, if_true, if_false, ↓reduceIte, eq_self, Option.bind_some, Bool.true_and, Bool.false_and, Bool.and_true, Bool.and_false, nI_add, nI_subN, nI_clamp, gdF, gdF2, gdP, gdP2, zI_cl, zI_s, Lm1, nI_n0, zI_n0, leF, or_false, false_or, or_self, e, e57, e56, er, m_rA1, m_rA3, m_rAe, m_rAn, m_rAi, m_rI2, m_rIe, m_rIn, m_rL1, m_rL2, m_rLe, m_rLi, m_rLn, Nat.one_ne_zero]
    rw [ld_s]
    exact ih (j + 1) (by omega)
theorem f241_141b {S : mS} {pos : Nat} (h6 : S.1 56 = nI pos) (h7 : S.1 57 = nI 1) (hp : pos + 13 ≤ 12500) : Ev (fun n => F241_141 n S) ((), ldG 56 40 S 11 pos 13) := by
  refine ev_succ (fun n => F241_141e0 n ..) ?_
  simp only [F241_141b0, L0]
  have := f241_141bl h7 hp 13 0 (by omega)
  rw [ld_0 h6] at this
  exact this
theorem f241_142sl {S : mS} {pos : Nat} (h7 : S.1 57 = nI 0) (hp : pos + 13 ≤ 12500) : ∀ m j, j + m = 13 → Ev (fun n => F241_142f n 2 (nI j) (svG 56 40 S 12 pos j)) ((), svG 56 40 S 12 pos 13) := by
  intro m
  induction m with
  | zero =>
    intro j hj
    refine ev_succ (fun n => F241_142e2 n ..) ?_
    have hj : j = 13 := by omega
    subst hj
    simp only [F241_142b2, L0, L1, L2, L3, L4, L5, L6, L7, L8, L9, L10, L11, L12, L13, L16, L20, L31, L32, L40, L48, L57, L59, L60, L61, L91, L93, L97, L99, L100, L102, L103, L114, L122, L255, L300, L400, L402, L999, L2280, L2500, L99999, L63, L1431655765, L858993459, L252645135]
    simp (disch := omega) only [ic_ge, Nat.le_refl, decide_eq_true_eq, decide_true, decide_false, Bool.not_eq_true, Bool.not_eq_true', Bool.not_true, Bool.not_false, decide_eq_false_iff_not, Bool.false_eq_true, not_false_eq_true, not_true_eq_false, if_true, if_false, ↓reduceIte, eq_self, Option.bind_some, Bool.true_and, Bool.false_and, Bool.and_true, Bool.and_false]
    exact ev_ret
  | succ m ih =>
    intro j hj
    refine ev_succ (fun n => F241_142e2 n ..) ?_
    have e : ¬ 13 ≤ j := by omega
    have e57 : (svG 56 40 S 12 pos j).1 57 = nI 0 := by rw [sv_n (by decide)]; exact h7
    have e56 : (svG 56 40 S 12 pos j).1 56 = nI (pos + j) := sv_p
    have er : (svG 56 40 S 12 pos j).2.1 12 j = S.2.1 12 j := by rw [sv_r (by decide)]
    simp (disch := omega) only [F241_142b2, L0, L1, L2, L3, L4, L5, L6, L7, L8, L9, L10, L11, L12, L13, L16, L20, L31, L32, L40, L48, L57, L59, L60, L61, L91, L93, L97, L99, L100, L102, L103, L114, L122, L255, L300, L400, L402, L999, L2280, L2500, L99999, L63, L1431655765, L858993459, L252645135, ic_ge, ic_gt, ic_le, ic_lt, ic_eq, ic_ne, if_lt, if_ge, if_gt, if_le, if_eq, if_ne, if_lt_zI, if_ge_zI, ic_ne_m1, ic_eq_m1, ic_nn_m1, ic_ee_m1, if_ne_b2i, if_eq_b2i, b2i_z, decide_eq_true_eq, decide_true, decide_false, Bool.not_eq_true, Bool.not_eq_true', Bool.not_true, Bool.not_false, decide_eq_false_iff_not, Bool.false_eq_true, not_false_eq_true, not_true_eq_false, if_true, if_false, ↓reduceIte, eq_self, Option.bind_some, Bool.true_and, Bool.false_and, Bool.and_true, Bool.and_false, nI_add, nI_subN, nI_clamp, gdF, gdF2, gdP, gdP2, zI_cl, zI_s, Lm1, nI_n0, zI_n0, leF, or_false, false_or, or_self, e, e57, e56, er, m_rA1, m_rA3, m_rAe, m_rAn, m_rAi, m_rI2, m_rIe, m_rIn, m_rL1, m_rL2, m_rLe, m_rLi, m_rLn]
    rw [sv_s]
    exact ih (j + 1) (by omega)
theorem f241_142s {S : mS} {pos : Nat} (h6 : S.1 56 = nI pos) (h7 : S.1 57 = nI 0) (hp : pos + 13 ≤ 12500) : Ev (fun n => F241_142 n S) ((), svG 56 40 S 12 pos 13) := by
  refine ev_succ (fun n => F241_142e0 n ..) ?_
  simp only [F241_142b0, L0]
  have := f241_142sl h7 hp 13 0 (by omega)
  rw [sv_0 h6] at this
  exact this
theorem f241_142bl {S : mS} {pos : Nat} (h7 : S.1 57 = nI 1) (hp : pos + 13 ≤ 12500) : ∀ m j, j + m = 13 → Ev (fun n => F241_142f n 2 (nI j) (ldG 56 40 S 12 pos j)) ((), ldG 56 40 S 12 pos 13) := by
  intro m
  induction m with
  | zero =>
    intro j hj
    refine ev_succ (fun n => F241_142e2 n ..) ?_
    have hj : j = 13 := by omega
    subst hj
    simp only [F241_142b2, L0, L1, L2, L3, L4, L5, L6, L7, L8, L9, L10, L11, L12, L13, L16, L20, L31, L32, L40, L48, L57, L59, L60, L61, L91, L93, L97, L99, L100, L102, L103, L114, L122, L255, L300, L400, L402, L999, L2280, L2500, L99999, L63, L1431655765, L858993459, L252645135]
    simp (disch := omega) only [ic_ge, Nat.le_refl, decide_eq_true_eq, decide_true, decide_false, Bool.not_eq_true, Bool.not_eq_true', Bool.not_true, Bool.not_false, decide_eq_false_iff_not, Bool.false_eq_true, not_false_eq_true, not_true_eq_false, if_true, if_false, ↓reduceIte, eq_self, Option.bind_some, Bool.true_and, Bool.false_and, Bool.and_true, Bool.and_false]
    exact ev_ret
  | succ m ih =>
    intro j hj
    refine ev_succ (fun n => F241_142e2 n ..) ?_
    have e : ¬ 13 ≤ j := by omega
    have e57 : (ldG 56 40 S 12 pos j).1 57 = nI 1 := by rw [ld_n (by decide)]; exact h7
    have e56 : (ldG 56 40 S 12 pos j).1 56 = nI (pos + j) := ld_p
    have er : (ldG 56 40 S 12 pos j).2.1 40 (pos + j) = S.2.1 40 (pos + j) := by rw [ld_r (by decide)]
    simp (disch := omega) only [F241_142b2, L0, L1, L2, L3, L4, L5, L6, L7, L8, L9, L10, L11, L12, L13, L16, L20, L31, L32, L40, L48, L57, L59, L60, L61, L91, L93, L97, L99, L100, L102, L103, L114, L122, L255, L300, L400, L402, L999, L2280, L2500, L99999, L63, L1431655765, L858993459, L252645135, ic_ge, ic_gt, ic_le, ic_lt, ic_eq, ic_ne, if_lt, if_ge, if_gt, if_le, if_eq, if_ne, if_lt_zI, if_ge_zI, ic_ne_m1, ic_eq_m1, ic_nn_m1, ic_ee_m1, if_ne_b2i, if_eq_b2i, b2i_z, decide_eq_true_eq, decide_true, decide_false, Bool.not_eq_true, Bool.not_eq_true', Bool.not_true, Bool.not_false, decide_eq_false_iff_not, Bool.false_eq_true, not_false_eq_true, not_true_eq_false, if_true, if_false, ↓reduceIte, eq_self, Option.bind_some, Bool.true_and, Bool.false_and, Bool.and_true, Bool.and_false, nI_add, nI_subN, nI_clamp, gdF, gdF2, gdP, gdP2, zI_cl, zI_s, Lm1, nI_n0, zI_n0, leF, or_false, false_or, or_self, e, e57, e56, er, m_rA1, m_rA3, m_rAe, m_rAn, m_rAi, m_rI2, m_rIe, m_rIn, m_rL1, m_rL2, m_rLe, m_rLi, m_rLn, Nat.one_ne_zero]
    rw [ld_s]
    exact ih (j + 1) (by omega)
theorem f241_142b {S : mS} {pos : Nat} (h6 : S.1 56 = nI pos) (h7 : S.1 57 = nI 1) (hp : pos + 13 ≤ 12500) : Ev (fun n => F241_142 n S) ((), ldG 56 40 S 12 pos 13) := by
  refine ev_succ (fun n => F241_142e0 n ..) ?_
  simp only [F241_142b0, L0]
  have := f241_142bl h7 hp 13 0 (by omega)
  rw [ld_0 h6] at this
  exact this
theorem f241_143sl {S : mS} {pos : Nat} (h7 : S.1 57 = nI 0) (hp : pos + 13 ≤ 12500) : ∀ m j, j + m = 13 → Ev (fun n => F241_143f n 2 (nI j) (svG 56 40 S 13 pos j)) ((), svG 56 40 S 13 pos 13) := by
  intro m
  induction m with
  | zero =>
    intro j hj
    refine ev_succ (fun n => F241_143e2 n ..) ?_
    have hj : j = 13 := by omega
    subst hj
    simp only [F241_143b2, L0, L1, L2, L3, L4, L5, L6, L7, L8, L9, L10, L11, L12, L13, L16, L20, L31, L32, L40, L48, L57, L59, L60, L61, L91, L93, L97, L99, L100, L102, L103, L114, L122, L255, L300, L400, L402, L999, L2280, L2500, L99999, L63, L1431655765, L858993459, L252645135]
    simp (disch := omega) only [ic_ge, Nat.le_refl, decide_eq_true_eq, decide_true, decide_false, Bool.not_eq_true, Bool.not_eq_true', Bool.not_true, Bool.not_false, decide_eq_false_iff_not, Bool.false_eq_true, not_false_eq_true, not_true_eq_false, if_true, if_false, ↓reduceIte, eq_self, Option.bind_some, Bool.true_and, Bool.false_and, Bool.and_true, Bool.and_false]
    exact ev_ret
  | succ m ih =>
    intro j hj
    refine ev_succ (fun n => F241_143e2 n ..) ?_
    have e : ¬ 13 ≤ j := by omega
    have e57 : (svG 56 40 S 13 pos j).1 57 = nI 0 := by rw [sv_n (by decide)]; exact h7
    have e56 : (svG 56 40 S 13 pos j).1 56 = nI (pos + j) := sv_p
    have er : (svG 56 40 S 13 pos j).2.1 13 j = S.2.1 13 j := by rw [sv_r (by decide)]
    simp (disch := omega) only [F241_143b2, L0, L1, L2, L3, L4, L5, L6, L7, L8, L9, L10, L11, L12, L13, L16, L20, L31, L32, L40, L48, L57, L59, L60, L61, L91, L93, L97, L99, L100, L102, L103, L114, L122, L255, L300, L400, L402, L999, L2280, L2500, L99999, L63, L1431655765, L858993459, L252645135, ic_ge, ic_gt, ic_le, ic_lt, ic_eq, ic_ne, if_lt, if_ge, if_gt, if_le, if_eq, if_ne, if_lt_zI, if_ge_zI, ic_ne_m1, ic_eq_m1, ic_nn_m1, ic_ee_m1, if_ne_b2i, if_eq_b2i, b2i_z, decide_eq_true_eq, decide_true, decide_false, Bool.not_eq_true, Bool.not_eq_true', Bool.not_true, Bool.not_false, decide_eq_false_iff_not, Bool.false_eq_true, not_false_eq_true, not_true_eq_false, if_true, if_false, ↓reduceIte, eq_self, Option.bind_some, Bool.true_and, Bool.false_and, Bool.and_true, Bool.and_false, nI_add, nI_subN, nI_clamp, gdF, gdF2, gdP, gdP2, zI_cl, zI_s, Lm1, nI_n0, zI_n0, leF, or_false, false_or, or_self, e, e57, e56, er, m_rA1, m_rA3, m_rAe, m_rAn, m_rAi, m_rI2, m_rIe, m_rIn, m_rL1, m_rL2, m_rLe, m_rLi, m_rLn]
    rw [sv_s]
    exact ih (j + 1) (by omega)
theorem f241_143s {S : mS} {pos : Nat} (h6 : S.1 56 = nI pos) (h7 : S.1 57 = nI 0) (hp : pos + 13 ≤ 12500) : Ev (fun n => F241_143 n S) ((), svG 56 40 S 13 pos 13) := by
  refine ev_succ (fun n => F241_143e0 n ..) ?_
  simp only [F241_143b0, L0]
  have := f241_143sl h7 hp 13 0 (by omega)
  rw [sv_0 h6] at this
  exact this
theorem f241_143bl {S : mS} {pos : Nat} (h7 : S.1 57 = nI 1) (hp : pos + 13 ≤ 12500) : ∀ m j, j + m = 13 → Ev (fun n => F241_143f n 2 (nI j) (ldG 56 40 S 13 pos j)) ((), ldG 56 40 S 13 pos 13) := by
  intro m
  induction m with
  | zero =>
    intro j hj
    refine ev_succ (fun n => F241_143e2 n ..) ?_
    have hj : j = 13 := by omega
    subst hj
    simp only [F241_143b2, L0, L1, L2, L3, L4, L5, L6, L7, L8, L9, L10, L11, L12, L13, L16, L20, L31, L32, L40, L48, L57, L59, L60, L61, L91, L93, L97, L99, L100, L102, L103, L114, L122, L255, L300, L400, L402, L999, L2280, L2500, L99999, L63, L1431655765, L858993459, L252645135]
    simp (disch := omega) only [ic_ge, Nat.le_refl, decide_eq_true_eq, decide_true, decide_false, Bool.not_eq_true, Bool.not_eq_true', Bool.not_true, Bool.not_false, decide_eq_false_iff_not, Bool.false_eq_true, not_false_eq_true, not_true_eq_false, if_true, if_false, ↓reduceIte, eq_self, Option.bind_some, Bool.true_and, Bool.false_and, Bool.and_true, Bool.and_false]
    exact ev_ret
  | succ m ih =>
    intro j hj
    refine ev_succ (fun n => F241_143e2 n ..) ?_
    have e : ¬ 13 ≤ j := by omega
    have e57 : (ldG 56 40 S 13 pos j).1 57 = nI 1 := by rw [ld_n (by decide)]; exact h7
    have e56 : (ldG 56 40 S 13 pos j).1 56 = nI (pos + j) := ld_p
    have er : (ldG 56 40 S 13 pos j).2.1 40 (pos + j) = S.2.1 40 (pos + j) := by rw [ld_r (by decide)]
    simp (disch := omega) only [F241_143b2, L0, L1, L2, L3, L4, L5, L6, L7, L8, L9, L10, L11, L12, L13, L16, L20, L31, L32, L40, L48, L57, L59, L60, L61, L91, L93, L97, L99, L100, L102, L103, L114, L122, L255, L300, L400, L402, L999, L2280, L2500, L99999, L63, L1431655765, L858993459, L252645135, ic_ge, ic_gt, ic_le, ic_lt, ic_eq, ic_ne, if_lt, if_ge, if_gt, if_le, if_eq, if_ne, if_lt_zI, if_ge_zI, ic_ne_m1, ic_eq_m1, ic_nn_m1, ic_ee_m1, if_ne_b2i, if_eq_b2i, b2i_z, decide_eq_true_eq, decide_true, decide_false, Bool.not_eq_true, Bool.not_eq_true', Bool.not_true, Bool.not_false, decide_eq_false_iff_not, Bool.false_eq_true, not_false_eq_true, not_true_eq_false, if_true, if_false, ↓reduceIte, eq_self, Option.bind_some, Bool.true_and, Bool.false_and, Bool.and_true, Bool.and_false, nI_add, nI_subN, nI_clamp, gdF, gdF2, gdP, gdP2, zI_cl, zI_s, Lm1, nI_n0, zI_n0, leF, or_false, false_or, or_self, e, e57, e56, er, m_rA1, m_rA3, m_rAe, m_rAn, m_rAi, m_rI2, m_rIe, m_rIn, m_rL1, m_rL2, m_rLe, m_rLi, m_rLn, Nat.one_ne_zero]
    rw [ld_s]
    exact ih (j + 1) (by omega)
theorem f241_143b {S : mS} {pos : Nat} (h6 : S.1 56 = nI pos) (h7 : S.1 57 = nI 1) (hp : pos + 13 ≤ 12500) : Ev (fun n => F241_143 n S) ((), ldG 56 40 S 13 pos 13) := by
  refine ev_succ (fun n => F241_143e0 n ..) ?_
  simp only [F241_143b0, L0]
  have := f241_143bl h7 hp 13 0 (by omega)
  rw [ld_0 h6] at this
  exact this
theorem f241_144sl {S : mS} {pos : Nat} (h7 : S.1 57 = nI 0) (hp : pos + 13 ≤ 12500) : ∀ m j, j + m = 13 → Ev (fun n => F241_144f n 2 (nI j) (svG 56 40 S 14 pos j)) ((), svG 56 40 S 14 pos 13) := by
  intro m
  induction m with
  | zero =>
    intro j hj
    refine ev_succ (fun n => F241_144e2 n ..) ?_
    have hj : j = 13 := by omega
    subst hj
    simp only [F241_144b2, L0, L1, L2, L3, L4, L5, L6, L7, L8, L9, L10, L11, L12, L13, L16, L20, L31, L32, L40, L48, L57, L59, L60, L61, L91, L93, L97, L99, L100, L102, L103, L114, L122, L255, L300, L400, L402, L999, L2280, L2500, L99999, L63, L1431655765, L858993459, L252645135]
    simp (disch := omega) only [ic_ge, Nat.le_refl, decide_eq_true_eq, decide_true, decide_false, Bool.not_eq_true, Bool.not_eq_true', Bool.not_true, Bool.not_false, decide_eq_false_iff_not, Bool.false_eq_true, not_false_eq_true, not_true_eq_false, if_true, if_false, ↓reduceIte, eq_self, Option.bind_some, Bool.true_and, Bool.false_and, Bool.and_true, Bool.and_false]
    exact ev_ret
  | succ m ih =>
    intro j hj
    refine ev_succ (fun n => F241_144e2 n ..) ?_
    have e : ¬ 13 ≤ j := by omega
    have e57 : (svG 56 40 S 14 pos j).1 57 = nI 0 := by rw [sv_n (by decide)]; exact h7
    have e56 : (svG 56 40 S 14 pos j).1 56 = nI (pos + j) := sv_p
    have er : (svG 56 40 S 14 pos j).2.1 14 j = S.2.1 14 j := by rw [sv_r (by decide)]
    simp (disch := omega) only [F241_144b2, L0, L1, L2, L3, L4, L5, L6, L7, L8, L9, L10, L11, L12, L13, L16, L20, L31, L32, L40, L48, L57, L59, L60, L61, L91, L93, L97, L99, L100, L102, L103, L114, L122, L255, L300, L400, L402, L999, L2280, L2500, L99999, L63, L1431655765, L858993459, L252645135, ic_ge, ic_gt, ic_le, ic_lt, ic_eq, ic_ne, if_lt, if_ge, if_gt, if_le, if_eq, if_ne, if_lt_zI, if_ge_zI, ic_ne_m1, ic_eq_m1, ic_nn_m1, ic_ee_m1, if_ne_b2i, if_eq_b2i, b2i_z, decide_eq_true_eq, decide_true, decide_false, Bool.not_eq_true, Bool.not_eq_true', Bool.not_true, Bool.not_false, decide_eq_false_iff_not, Bool.false_eq_true, not_false_eq_true, not_true_eq_false, if_true, if_false, ↓reduceIte, eq_self, Option.bind_some, Bool.true_and, Bool.false_and, Bool.and_true, Bool.and_false, nI_add, nI_subN, nI_clamp, gdF, gdF2, gdP, gdP2, zI_cl, zI_s, Lm1, nI_n0, zI_n0, leF, or_false, false_or, or_self, e, e57, e56, er, m_rA1, m_rA3, m_rAe, m_rAn, m_rAi, m_rI2, m_rIe, m_rIn, m_rL1, m_rL2, m_rLe, m_rLi, m_rLn]
    rw [sv_s]
    exact ih (j + 1) (by omega)
theorem f241_144s {S : mS} {pos : Nat} (h6 : S.1 56 = nI pos) (h7 : S.1 57 = nI 0) (hp : pos + 13 ≤ 12500) : Ev (fun n => F241_144 n S) ((), svG 56 40 S 14 pos 13) := by
  refine ev_succ (fun n => F241_144e0 n ..) ?_
  simp only [F241_144b0, L0]
  have := f241_144sl h7 hp 13 0 (by omega)
  rw [sv_0 h6] at this
  exact this
theorem f241_144bl {S : mS} {pos : Nat} (h7 : S.1 57 = nI 1) (hp : pos + 13 ≤ 12500) : ∀ m j, j + m = 13 → Ev (fun n => F241_144f n 2 (nI j) (ldG 56 40 S 14 pos j)) ((), ldG 56 40 S 14 pos 13) := by
  intro m
  induction m with
  | zero =>
    intro j hj
    refine ev_succ (fun n => F241_144e2 n ..) ?_
    have hj : j = 13 := by omega
    subst hj
    simp only [F241_144b2, L0, L1, L2, L3, L4, L5, L6, L7, L8, L9, L10, L11, L12, L13, L16, L20, L31, L32, L40, L48, L57, L59, L60, L61, L91, L93, L97, L99, L100, L102, L103, L114, L122, L255, L300, L400, L402, L999, L2280, L2500, L99999, L63, L1431655765, L858993459, L252645135]
    simp (disch := omega) only [ic_ge, Nat.le_refl, decide_eq_true_eq, decide_true, decide_false, Bool.not_eq_true, Bool.not_eq_true', Bool.not_true, Bool.not_false, decide_eq_false_iff_not, Bool.false_eq_true, not_false_eq_true, not_true_eq_false, if_true, if_false, ↓reduceIte, eq_self, Option.bind_some, Bool.true_and, Bool.false_and, Bool.and_true, Bool.and_false]
    exact ev_ret
  | succ m ih =>
    intro j hj
    refine ev_succ (fun n => F241_144e2 n ..) ?_
    have e : ¬ 13 ≤ j := by omega
    have e57 : (ldG 56 40 S 14 pos j).1 57 = nI 1 := by rw [ld_n (by decide)]; exact h7
    have e56 : (ldG 56 40 S 14 pos j).1 56 = nI (pos + j) := ld_p
    have er : (ldG 56 40 S 14 pos j).2.1 40 (pos + j) = S.2.1 40 (pos + j) := by rw [ld_r (by decide)]
    simp (disch := omega) only [F241_144b2, L0, L1, L2, L3, L4, L5, L6, L7, L8, L9, L10, L11, L12, L13, L16, L20, L31, L32, L40, L48, L57, L59, L60, L61, L91, L93, L97, L99, L100, L102, L103, L114, L122, L255, L300, L400, L402, L999, L2280, L2500, L99999, L63, L1431655765, L858993459, L252645135, ic_ge, ic_gt, ic_le, ic_lt, ic_eq, ic_ne, if_lt, if_ge, if_gt, if_le, if_eq, if_ne, if_lt_zI, if_ge_zI, ic_ne_m1, ic_eq_m1, ic_nn_m1, ic_ee_m1, if_ne_b2i, if_eq_b2i, b2i_z, decide_eq_true_eq, decide_true, decide_false, Bool.not_eq_true, Bool.not_eq_true', Bool.not_true, Bool.not_false, decide_eq_false_iff_not, Bool.false_eq_true, not_false_eq_true, not_true_eq_false, if_true, if_false, ↓reduceIte, eq_self, Option.bind_some, Bool.true_and, Bool.false_and, Bool.and_true, Bool.and_false, nI_add, nI_subN, nI_clamp, gdF, gdF2, gdP, gdP2, zI_cl, zI_s, Lm1, nI_n0, zI_n0, leF, or_false, false_or, or_self, e, e57, e56, er, m_rA1, m_rA3, m_rAe, m_rAn, m_rAi, m_rI2, m_rIe, m_rIn, m_rL1, m_rL2, m_rLe, m_rLi, m_rLn, Nat.one_ne_zero]
    rw [ld_s]
    exact ih (j + 1) (by omega)
theorem f241_144b {S : mS} {pos : Nat} (h6 : S.1 56 = nI pos) (h7 : S.1 57 = nI 1) (hp : pos + 13 ≤ 12500) : Ev (fun n => F241_144 n S) ((), ldG 56 40 S 14 pos 13) := by
  refine ev_succ (fun n => F241_144e0 n ..) ?_
  simp only [F241_144b0, L0]
  have := f241_144bl h7 hp 13 0 (by omega)
  rw [ld_0 h6] at this
  exact this
theorem f241_145sl {S : mS} {pos : Nat} (h7 : S.1 57 = nI 0) (hp : pos + 13 ≤ 12500) : ∀ m j, j + m = 13 → Ev (fun n => F241_145f n 2 (nI j) (svG 56 40 S 15 pos j)) ((), svG 56 40 S 15 pos 13) := by
  intro m
  induction m with
  | zero =>
    intro j hj
    refine ev_succ (fun n => F241_145e2 n ..) ?_
    have hj : j = 13 := by omega
    subst hj
    simp only [F241_145b2, L0, L1, L2, L3, L4, L5, L6, L7, L8, L9, L10, L11, L12, L13, L16, L20, L31, L32, L40, L48, L57, L59, L60, L61, L91, L93, L97, L99, L100, L102, L103, L114, L122, L255, L300, L400, L402, L999, L2280, L2500, L99999, L63, L1431655765, L858993459, L252645135]
    simp (disch := omega) only [ic_ge, Nat.le_refl, decide_eq_true_eq, decide_true, decide_false, Bool.not_eq_true, Bool.not_eq_true', Bool.not_true, Bool.not_false, decide_eq_false_iff_not, Bool.false_eq_true, not_false_eq_true, not_true_eq_false, if_true, if_false, ↓reduceIte, eq_self, Option.bind_some, Bool.true_and, Bool.false_and, Bool.and_true, Bool.and_false]
    exact ev_ret
  | succ m ih =>
    intro j hj
    refine ev_succ (fun n => F241_145e2 n ..) ?_
    have e : ¬ 13 ≤ j := by omega
    have e57 : (svG 56 40 S 15 pos j).1 57 = nI 0 := by rw [sv_n (by decide)]; exact h7
    have e56 : (svG 56 40 S 15 pos j).1 56 = nI (pos + j) := sv_p
    have er : (svG 56 40 S 15 pos j).2.1 15 j = S.2.1 15 j := by rw [sv_r (by decide)]
    simp (disch := omega) only [F241_145b2, L0, L1, L2, L3, L4, L5, L6, L7, L8, L9, L10, L11, L12, L13, L16, L20, L31, L32, L40, L48, L57, L59, L60, L61, L91, L93, L97, L99, L100, L102, L103, L114, L122, L255, L300, L400, L402, L999, L2280, L2500, L99999, L63, L1431655765, L858993459, L252645135, ic_ge, ic_gt, ic_le, ic_lt, ic_eq, ic_ne, if_lt, if_ge, if_gt, if_le, if_eq, if_ne, if_lt_zI, if_ge_zI, ic_ne_m1, ic_eq_m1, ic_nn_m1, ic_ee_m1, if_ne_b2i, if_eq_b2i, b2i_z, decide_eq_true_eq, decide_true, decide_false, Bool.not_eq_true, Bool.not_eq_true', Bool.not_true, Bool.not_false, decide_eq_false_iff_not, Bool.false_eq_true, not_false_eq_true, not_true_eq_false, if_true, if_false, ↓reduceIte, eq_self, Option.bind_some, Bool.true_and, Bool.false_and, Bool.and_true, Bool.and_false, nI_add, nI_subN, nI_clamp, gdF, gdF2, gdP, gdP2, zI_cl, zI_s, Lm1, nI_n0, zI_n0, leF, or_false, false_or, or_self, e, e57, e56, er, m_rA1, m_rA3, m_rAe, m_rAn, m_rAi, m_rI2, m_rIe, m_rIn, m_rL1, m_rL2, m_rLe, m_rLi, m_rLn]
    rw [sv_s]
    exact ih (j + 1) (by omega)
theorem f241_145s {S : mS} {pos : Nat} (h6 : S.1 56 = nI pos) (h7 : S.1 57 = nI 0) (hp : pos + 13 ≤ 12500) : Ev (fun n => F241_145 n S) ((), svG 56 40 S 15 pos 13) := by
  refine ev_succ (fun n => F241_145e0 n ..) ?_
  simp only [F241_145b0, L0]
  have := f241_145sl h7 hp 13 0 (by omega)
  rw [sv_0 h6] at this
  exact this
theorem f241_145bl {S : mS} {pos : Nat} (h7 : S.1 57 = nI 1) (hp : pos + 13 ≤ 12500) : ∀ m j, j + m = 13 → Ev (fun n => F241_145f n 2 (nI j) (ldG 56 40 S 15 pos j)) ((), ldG 56 40 S 15 pos 13) := by
  intro m
  induction m with
  | zero =>
    intro j hj
    refine ev_succ (fun n => F241_145e2 n ..) ?_
    have hj : j = 13 := by omega
    subst hj
    simp only [F241_145b2, L0, L1, L2, L3, L4, L5, L6, L7, L8, L9, L10, L11, L12, L13, L16, L20, L31, L32, L40, L48, L57, L59, L60, L61, L91, L93, L97, L99, L100, L102, L103, L114, L122, L255, L300, L400, L402, L999, L2280, L2500, L99999, L63, L1431655765, L858993459, L252645135]
    simp (disch := omega) only [ic_ge, Nat.le_refl, decide_eq_true_eq, decide_true, decide_false, Bool.not_eq_true, Bool.not_eq_true', Bool.not_true, Bool.not_false, decide_eq_false_iff_not, Bool.false_eq_true, not_false_eq_true, not_true_eq_false, if_true, if_false, ↓reduceIte, eq_self, Option.bind_some, Bool.true_and, Bool.false_and, Bool.and_true, Bool.and_false]
    exact ev_ret
  | succ m ih =>
    intro j hj
    refine ev_succ (fun n => F241_145e2 n ..) ?_
    have e : ¬ 13 ≤ j := by omega
    have e57 : (ldG 56 40 S 15 pos j).1 57 = nI 1 := by rw [ld_n (by decide)]; exact h7
    have e56 : (ldG 56 40 S 15 pos j).1 56 = nI (pos + j) := ld_p
    have er : (ldG 56 40 S 15 pos j).2.1 40 (pos + j) = S.2.1 40 (pos + j) := by rw [ld_r (by decide)]
    simp (disch := omega) only [F241_145b2, L0, L1, L2, L3, L4, L5, L6, L7, L8, L9, L10, L11, L12, L13, L16, L20, L31, L32, L40, L48, L57, L59, L60, L61, L91, L93, L97, L99, L100, L102, L103, L114, L122, L255, L300, L400, L402, L999, L2280, L2500, L99999, L63, L1431655765, L858993459, L252645135, ic_ge, ic_gt, ic_le, ic_lt, ic_eq, ic_ne, if_lt, if_ge, if_gt, if_le, if_eq, if_ne, if_lt_zI, if_ge_zI, ic_ne_m1, ic_eq_m1, ic_nn_m1, ic_ee_m1, if_ne_b2i, if_eq_b2i, b2i_z, decide_eq_true_eq, decide_true, decide_false, Bool.not_eq_true, Bool.not_eq_true', Bool.not_true, Bool.not_false, decide_eq_false_iff_not, Bool.false_eq_true, not_false_eq_true, not_true_eq_false, if_true, if_false, ↓reduceIte, eq_self, Option.bind_some, Bool.true_and, Bool.false_and, Bool.and_true, Bool.and_false, nI_add, nI_subN, nI_clamp, gdF, gdF2, gdP, gdP2, zI_cl, zI_s, Lm1, nI_n0, zI_n0, leF, or_false, false_or, or_self, e, e57, e56, er, m_rA1, m_rA3, m_rAe, m_rAn, m_rAi, m_rI2, m_rIe, m_rIn, m_rL1, m_rL2, m_rLe, m_rLi, m_rLn, Nat.one_ne_zero]
    rw [ld_s]
    exact ih (j + 1) (by omega)
theorem f241_145b {S : mS} {pos : Nat} (h6 : S.1 56 = nI pos) (h7 : S.1 57 = nI 1) (hp : pos + 13 ≤ 12500) : Ev (fun n => F241_145 n S) ((), ldG 56 40 S 15 pos 13) := by
  refine ev_succ (fun n => F241_145e0 n ..) ?_
  simp only [F241_145b0, L0]
  have := f241_145bl h7 hp 13 0 (by omega)
  rw [ld_0 h6] at this
  exact this
theorem f241_165sl {S : mS} {pos : Nat} (h7 : S.1 57 = nI 0) (hp : pos + 2280 ≤ 12500) : ∀ m j, j + m = 2280 → Ev (fun n => F241_165f n 2 (nI j) (svG 56 40 S 35 pos j)) ((), svG 56 40 S 35 pos 2280) := by
  intro m
  induction m with
  | zero =>
    intro j hj
    refine ev_succ (fun n => F241_165e2 n ..) ?_
    have hj : j = 2280 := by omega
    subst hj
    simp only [F241_165b2, L0, L1, L2, L3, L4, L5, L6, L7, L8, L9, L10, L11, L12, L13, L16, L20, L31, L32, L40, L48, L57, L59, L60, L61, L91, L93, L97, L99, L100, L102, L103, L114, L122, L255, L300, L400, L402, L999, L2280, L2500, L99999, L63, L1431655765, L858993459, L252645135]
    simp (disch := omega) only [ic_ge, Nat.le_refl, decide_eq_true_eq, decide_true, decide_false, Bool.not_eq_true, Bool.not_eq_true', Bool.not_true, Bool.not_false, decide_eq_false_iff_not, Bool.false_eq_true, not_false_eq_true, not_true_eq_false, if_true, if_false, ↓reduceIte, eq_self, Option.bind_some, Bool.true_and, Bool.false_and, Bool.and_true, Bool.and_false]
    exact ev_ret
  | succ m ih =>
    intro j hj
    refine ev_succ (fun n => F241_165e2 n ..) ?_
    have e : ¬ 2280 ≤ j := by omega
    have e57 : (svG 56 40 S 35 pos j).1 57 = nI 0 := by rw [sv_n (by decide)]; exact h7
    have e56 : (svG 56 40 S 35 pos j).1 56 = nI (pos + j) := sv_p
    have er : (svG 56 40 S 35 pos j).2.1 35 j = S.2.1 35 j := by rw [sv_r (by decide)]
    simp (disch := omega) only [F241_165b2, L0, L1, L2, L3, L4, L5, L6, L7, L8, L9, L10, L11, L12, L13, L16, L20, L31, L32, L40, L48, L57, L59, L60, L61, L91, L93, L97, L99, L100, L102, L103, L114, L122, L255, L300, L400, L402, L999, L2280, L2500, L99999, L63, L1431655765, L858993459, L252645135, ic_ge, ic_gt, ic_le, ic_lt, ic_eq, ic_ne, if_lt, if_ge, if_gt, if_le, if_eq, if_ne, if_lt_zI, if_ge_zI, ic_ne_m1, ic_eq_m1, ic_nn_m1, ic_ee_m1, if_ne_b2i, if_eq_b2i, b2i_z, decide_eq_true_eq, decide_true, decide_false, Bool.not_eq_true, Bool.not_eq_true', Bool.not_true, Bool.not_false, decide_eq_false_iff_not, Bool.false_eq_true, not_false_eq_true, not_true_eq_false, if_true, if_false, ↓reduceIte, eq_self, Option.bind_some, Bool.true_and, Bool.false_and, Bool.and_true, Bool.and_false, nI_add, nI_subN, nI_clamp, gdF, gdF2, gdP, gdP2, zI_cl, zI_s, Lm1, nI_n0, zI_n0, leF, or_false, false_or, or_self, e, e57, e56, er, m_rA1, m_rA3, m_rAe, m_rAn, m_rAi, m_rI2, m_rIe, m_rIn, m_rL1, m_rL2, m_rLe, m_rLi, m_rLn]
    rw [sv_s]
    exact ih (j + 1) (by omega)
theorem f241_165s {S : mS} {pos : Nat} (h6 : S.1 56 = nI pos) (h7 : S.1 57 = nI 0) (hp : pos + 2280 ≤ 12500) : Ev (fun n => F241_165 n S) ((), svG 56 40 S 35 pos 2280) := by
  refine ev_succ (fun n => F241_165e0 n ..) ?_
  simp only [F241_165b0, L0]
  have := f241_165sl h7 hp 2280 0 (by omega)
  rw [sv_0 h6] at this
  exact this
theorem f241_165bl {S : mS} {pos : Nat} (h7 : S.1 57 = nI 1) (hp : pos + 2280 ≤ 12500) : ∀ m j, j + m = 2280 → Ev (fun n => F241_165f n 2 (nI j) (ldG 56 40 S 35 pos j)) ((), ldG 56 40 S 35 pos 2280) := by
  intro m
  induction m with
  | zero =>
    intro j hj
    refine ev_succ (fun n => F241_165e2 n ..) ?_
    have hj : j = 2280 := by omega
    subst hj
    simp only [F241_165b2, L0, L1, L2, L3, L4, L5, L6, L7, L8, L9, L10, L11, L12, L13, L16, L20, L31, L32, L40, L48, L57, L59, L60, L61, L91, L93, L97, L99, L100, L102, L103, L114, L122, L255, L300, L400, L402, L999, L2280, L2500, L99999, L63, L1431655765, L858993459, L252645135]
    simp (disch := omega) only [ic_ge, Nat.le_refl, decide_eq_true_eq, decide_true, decide_false, Bool.not_eq_true, Bool.not_eq_true', Bool.not_true, Bool.not_false, decide_eq_false_iff_not, Bool.false_eq_true, not_false_eq_true, not_true_eq_false, if_true, if_false, ↓reduceIte, eq_self, Option.bind_some, Bool.true_and, Bool.false_and, Bool.and_true, Bool.and_false]
    exact ev_ret
  | succ m ih =>
    intro j hj
    refine ev_succ (fun n => F241_165e2 n ..) ?_
    have e : ¬ 2280 ≤ j := by omega
    have e57 : (ldG 56 40 S 35 pos j).1 57 = nI 1 := by rw [ld_n (by decide)]; exact h7
    have e56 : (ldG 56 40 S 35 pos j).1 56 = nI (pos + j) := ld_p
    have er : (ldG 56 40 S 35 pos j).2.1 40 (pos + j) = S.2.1 40 (pos + j) := by rw [ld_r (by decide)]
    simp (disch := omega) only [F241_165b2, L0, L1, L2, L3, L4, L5, L6, L7, L8, L9, L10, L11, L12, L13, L16, L20, L31, L32, L40, L48, L57, L59, L60, L61, L91, L93, L97, L99, L100, L102, L103, L114, L122, L255, L300, L400, L402, L999, L2280, L2500, L99999, L63, L1431655765, L858993459, L252645135, ic_ge, ic_gt, ic_le, ic_lt, ic_eq, ic_ne, if_lt, if_ge, if_gt, if_le, if_eq, if_ne, if_lt_zI, if_ge_zI, ic_ne_m1, ic_eq_m1, ic_nn_m1, ic_ee_m1, if_ne_b2i, if_eq_b2i, b2i_z, decide_eq_true_eq, decide_true, decide_false, Bool.not_eq_true, Bool.not_eq_true', Bool.not_true, Bool.not_false, decide_eq_false_iff_not, Bool.false_eq_true, not_false_eq_true, not_true_eq_false, if_true, if_false, ↓reduceIte, eq_self, Option.bind_some, Bool.true_and, Bool.false_and, Bool.and_true, Bool.and_false, nI_add, nI_subN, nI_clamp, gdF, gdF2, gdP, gdP2, zI_cl, zI_s, Lm1, nI_n0, zI_n0, leF, or_false, false_or, or_self, e, e57, e56, er, m_rA1, m_rA3, m_rAe, m_rAn, m_rAi, m_rI2, m_rIe, m_rIn, m_rL1, m_rL2, m_rLe, m_rLi, m_rLn, Nat.one_ne_zero]
    rw [ld_s]
    exact ih (j + 1) (by omega)
theorem f241_165b {S : mS} {pos : Nat} (h6 : S.1 56 = nI pos) (h7 : S.1 57 = nI 1) (hp : pos + 2280 ≤ 12500) : Ev (fun n => F241_165 n S) ((), ldG 56 40 S 35 pos 2280) := by
  refine ev_succ (fun n => F241_165e0 n ..) ?_
  simp only [F241_165b0, L0]
  have := f241_165bl h7 hp 2280 0 (by omega)
  rw [ld_0 h6] at this
  exact this
theorem f207s {S : mS} {pos : Nat} {x : Int32} (h8 : S.1 48 = nI pos) (h9 : S.1 49 = nI 0) (hp : pos < 2280) : Ev (fun n => F207 n x S) (x, m_sI (m_sA S 35 pos x) 48 (nI (pos + 1))) := by
  refine ev_succ (fun n => F207e0 n ..) ?_
  simp (disch := omega) only [F207b0, L0, L1, L2, L3, L4, L5, L6, L7, L8, L9, L10, L11, L12, L13, L16, L20, L31, L32, L40, L48, L57, L59, L60, L61, L91, L93, L97, L99, L100, L102, L103, L114, L122, L255, L300, L400, L402, L999, L2280, L2500, L99999, L63, L1431655765, L858993459, L252645135, ic_ge, ic_gt, ic_le, ic_lt, ic_eq, ic_ne, if_lt, if_ge, if_gt, if_le, if_eq, if_ne, if_lt_zI, if_ge_zI, ic_ne_m1, ic_eq_m1, ic_nn_m1, ic_ee_m1, if_ne_b2i, if_eq_b2i, b2i_z, decide_eq_true_eq, decide_true, decide_false, Bool.not_eq_true, Bool.not_eq_true', Bool.not_true, Bool.not_false, decide_eq_false_iff_not, Bool.false_eq_true, not_false_eq_true, not_true_eq_false, if_true, if_false, ↓reduceIte, eq_self, Option.bind_some, Bool.true_and, Bool.false_and, Bool.and_true, Bool.and_false, nI_add, nI_subN, nI_clamp, gdF, gdF2, gdP, gdP2, zI_cl, zI_s, Lm1, nI_n0, zI_n0, leF, or_false, false_or, or_self, h8, h9, m_rA1, m_rA3, m_rAe, m_rAn, m_rAi, m_rI2, m_rIe, m_rIn, m_rL1, m_rL2, m_rLe, m_rLi, m_rLn]
  exact ev_ret
theorem f207b {S : mS} {pos : Nat} {x : Int32} (h8 : S.1 48 = nI pos) (h9 : S.1 49 = nI 1) (hp : pos < 2280) : Ev (fun n => F207 n x S) (S.2.1 35 pos, m_sI S 48 (nI (pos + 1))) := by
  refine ev_succ (fun n => F207e0 n ..) ?_
  simp (disch := omega) only [F207b0, L0, L1, L2, L3, L4, L5, L6, L7, L8, L9, L10, L11, L12, L13, L16, L20, L31, L32, L40, L48, L57, L59, L60, L61, L91, L93, L97, L99, L100, L102, L103, L114, L122, L255, L300, L400, L402, L999, L2280, L2500, L99999, L63, L1431655765, L858993459, L252645135, ic_ge, ic_gt, ic_le, ic_lt, ic_eq, ic_ne, if_lt, if_ge, if_gt, if_le, if_eq, if_ne, if_lt_zI, if_ge_zI, ic_ne_m1, ic_eq_m1, ic_nn_m1, ic_ee_m1, if_ne_b2i, if_eq_b2i, b2i_z, decide_eq_true_eq, decide_true, decide_false, Bool.not_eq_true, Bool.not_eq_true', Bool.not_true, Bool.not_false, decide_eq_false_iff_not, Bool.false_eq_true, not_false_eq_true, not_true_eq_false, if_true, if_false, ↓reduceIte, eq_self, Option.bind_some, Bool.true_and, Bool.false_and, Bool.and_true, Bool.and_false, nI_add, nI_subN, nI_clamp, gdF, gdF2, gdP, gdP2, zI_cl, zI_s, Lm1, nI_n0, zI_n0, leF, or_false, false_or, or_self, h8, h9, m_rA1, m_rA3, m_rAe, m_rAn, m_rAi, m_rI2, m_rIe, m_rIn, m_rL1, m_rL2, m_rLe, m_rLi, m_rLn, Nat.one_ne_zero]
  rw [m_sA_id rfl]
  exact ev_ret
theorem f208_136sl {S : mS} {pos : Nat} (h9 : S.1 49 = nI 0) (hp : pos + 6 ≤ 2280) : ∀ m j, j + m = 6 → Ev (fun n => F208_136f n 2 (nI j) (svG 48 35 S 6 pos j)) ((), svG 48 35 S 6 pos 6) := by
  intro m
  induction m with
  | zero =>
    intro j hj
    refine ev_succ (fun n => F208_136e2 n ..) ?_
    have hj : j = 6 := by omega
    subst hj
    simp only [F208_136b2, L0, L1, L2, L3, L4, L5, L6, L7, L8, L9, L10, L11, L12, L13, L16, L20, L31, L32, L40, L48, L57, L59, L60, L61, L91, L93, L97, L99, L100, L102, L103, L114, L122, L255, L300, L400, L402, L999, L2280, L2500, L99999, L63, L1431655765, L858993459, L252645135]
    simp (disch := omega) only [ic_ge, Nat.le_refl, decide_eq_true_eq, decide_true, decide_false, Bool.not_eq_true, Bool.not_eq_true', Bool.not_true, Bool.not_false, decide_eq_false_iff_not, Bool.false_eq_true, not_false_eq_true, not_true_eq_false, if_true, if_false, ↓reduceIte, eq_self, Option.bind_some, Bool.true_and, Bool.false_and, Bool.and_true, Bool.and_false]
    exact ev_ret
  | succ m ih =>
    intro j hj
    refine ev_succ (fun n => F208_136e2 n ..) ?_
    have e : ¬ 6 ≤ j := by omega
    have e9 : (svG 48 35 S 6 pos j).1 49 = nI 0 := by rw [sv_n (by decide)]; exact h9
    have e8 : (svG 48 35 S 6 pos j).1 48 = nI (pos + j) := sv_p
    simp (disch := omega) only [F208_136b2, L0, L1, L2, L3, L4, L5, L6, L7, L8, L9, L10, L11, L12, L13, L16, L20, L31, L32, L40, L48, L57, L59, L60, L61, L91, L93, L97, L99, L100, L102, L103, L114, L122, L255, L300, L400, L402, L999, L2280, L2500, L99999, L63, L1431655765, L858993459, L252645135, ic_ge, ic_gt, ic_le, ic_lt, ic_eq, ic_ne, if_lt, if_ge, if_gt, if_le, if_eq, if_ne, if_lt_zI, if_ge_zI, ic_ne_m1, ic_eq_m1, ic_nn_m1, ic_ee_m1, if_ne_b2i, if_eq_b2i, b2i_z, decide_eq_true_eq, decide_true, decide_false, Bool.not_eq_true, Bool.not_eq_true', Bool.not_true, Bool.not_false, decide_eq_false_iff_not, Bool.false_eq_true, not_false_eq_true, not_true_eq_false, if_true, if_false, ↓reduceIte, eq_self, Option.bind_some, Bool.true_and, Bool.false_and, Bool.and_true, Bool.and_false, nI_add, nI_subN, nI_clamp, gdF, gdF2, gdP, gdP2, zI_cl, zI_s, Lm1, nI_n0, zI_n0, leF, or_false, false_or, or_self, e]
    refine ev_bind (f207s e8 e9 (by omega)) ?_
    have er : (svG 48 35 S 6 pos j).2.1 6 j = S.2.1 6 j := by rw [sv_r (by decide)]
    simp only [er]
    rw [sv_s, m_sA_id (by rw [sv_r (by decide)])]
    exact ih (j + 1) (by omega)
theorem f208_136s {S : mS} {pos : Nat} (h8 : S.1 48 = nI pos) (h9 : S.1 49 = nI 0) (hp : pos + 6 ≤ 2280) : Ev (fun n => F208_136 n S) ((), svG 48 35 S 6 pos 6) := by
  refine ev_succ (fun n => F208_136e0 n ..) ?_
  simp only [F208_136b0, L0]
  have := f208_136sl h9 hp 6 0 (by omega)
  rw [sv_0 h8] at this
  exact this
theorem f208_136bl {S : mS} {pos : Nat} (h9 : S.1 49 = nI 1) (hp : pos + 6 ≤ 2280) : ∀ m j, j + m = 6 → Ev (fun n => F208_136f n 2 (nI j) (ldG 48 35 S 6 pos j)) ((), ldG 48 35 S 6 pos 6) := by
  intro m
  induction m with
  | zero =>
    intro j hj
    refine ev_succ (fun n => F208_136e2 n ..) ?_
    have hj : j = 6 := by omega
    subst hj
    simp only [F208_136b2, L0, L1, L2, L3, L4, L5, L6, L7, L8, L9, L10, L11, L12, L13, L16, L20, L31, L32, L40, L48, L57, L59, L60, L61, L91, L93, L97, L99, L100, L102, L103, L114, L122, L255, L300, L400, L402, L999, L2280, L2500, L99999, L63, L1431655765, L858993459, L252645135]
    simp (disch := omega) only [ic_ge, Nat.le_refl, decide_eq_true_eq, decide_true, decide_false, Bool.not_eq_true, Bool.not_eq_true', Bool.not_true, Bool.not_false, decide_eq_false_iff_not, Bool.false_eq_true, not_false_eq_true, not_true_eq_false, if_true, if_false, ↓reduceIte, eq_self, Option.bind_some, Bool.true_and, Bool.false_and, Bool.and_true, Bool.and_false]
    exact ev_ret
  | succ m ih =>
    intro j hj
    refine ev_succ (fun n => F208_136e2 n ..) ?_
    have e : ¬ 6 ≤ j := by omega
    have e9 : (ldG 48 35 S 6 pos j).1 49 = nI 1 := by rw [ld_n (by decide)]; exact h9
    have e8 : (ldG 48 35 S 6 pos j).1 48 = nI (pos + j) := ld_p
    simp (disch := omega) only [F208_136b2, L0, L1, L2, L3, L4, L5, L6, L7, L8, L9, L10, L11, L12, L13, L16, L20, L31, L32, L40, L48, L57, L59, L60, L61, L91, L93, L97, L99, L100, L102, L103, L114, L122, L255, L300, L400, L402, L999, L2280, L2500, L99999, L63, L1431655765, L858993459, L252645135, ic_ge, ic_gt, ic_le, ic_lt, ic_eq, ic_ne, if_lt, if_ge, if_gt, if_le, if_eq, if_ne, if_lt_zI, if_ge_zI, ic_ne_m1, ic_eq_m1, ic_nn_m1, ic_ee_m1, if_ne_b2i, if_eq_b2i, b2i_z, decide_eq_true_eq, decide_true, decide_false, Bool.not_eq_true, Bool.not_eq_true', Bool.not_true, Bool.not_false, decide_eq_false_iff_not, Bool.false_eq_true, not_false_eq_true, not_true_eq_false, if_true, if_false, ↓reduceIte, eq_self, Option.bind_some, Bool.true_and, Bool.false_and, Bool.and_true, Bool.and_false, nI_add, nI_subN, nI_clamp, gdF, gdF2, gdP, gdP2, zI_cl, zI_s, Lm1, nI_n0, zI_n0, leF, or_false, false_or, or_self, e]
    refine ev_bind (f207b e8 e9 (by omega)) ?_
    have er : (ldG 48 35 S 6 pos j).2.1 35 (pos + j) = S.2.1 35 (pos + j) := by rw [ld_r (by decide)]
    simp only [er]
    have ex : m_sA (m_sI (ldG 48 35 S 6 pos j) 48 (nI (pos + j + 1))) 6 j (S.2.1 35 (pos + j)) = m_sI (m_sA (ldG 48 35 S 6 pos j) 6 j (S.2.1 35 (pos + j))) 48 (nI (pos + j + 1)) := rfl
    rw [ex, ld_s]
    exact ih (j + 1) (by omega)
theorem f208_136b {S : mS} {pos : Nat} (h8 : S.1 48 = nI pos) (h9 : S.1 49 = nI 1) (hp : pos + 6 ≤ 2280) : Ev (fun n => F208_136 n S) ((), ldG 48 35 S 6 pos 6) := by
  refine ev_succ (fun n => F208_136e0 n ..) ?_
  simp only [F208_136b0, L0]
  have := f208_136bl h9 hp 6 0 (by omega)
  rw [ld_0 h8] at this
  exact this
theorem f208_138sl {S : mS} {pos : Nat} (h9 : S.1 49 = nI 0) (hp : pos + 13 ≤ 2280) : ∀ m j, j + m = 13 → Ev (fun n => F208_138f n 2 (nI j) (svG 48 35 S 8 pos j)) ((), svG 48 35 S 8 pos 13) := by
  intro m
  induction m with
  | zero =>
    intro j hj
    refine ev_succ (fun n => F208_138e2 n ..) ?_
    have hj : j = 13 := by omega
    subst hj
    simp only [F208_138b2, L0, L1, L2, L3, L4, L5, L6, L7, L8, L9, L10, L11, L12, L13, L16, L20, L31, L32, L40, L48, L57, L59, L60, L61, L91, L93, L97, L99, L100, L102, L103, L114, L122, L255, L300, L400, L402, L999, L2280, L2500, L99999, L63, L1431655765, L858993459, L252645135]
    simp (disch := omega) only [ic_ge, Nat.le_refl, decide_eq_true_eq, decide_true, decide_false, Bool.not_eq_true, Bool.not_eq_true', Bool.not_true, Bool.not_false, decide_eq_false_iff_not, Bool.false_eq_true, not_false_eq_true, not_true_eq_false, if_true, if_false, ↓reduceIte, eq_self, Option.bind_some, Bool.true_and, Bool.false_and, Bool.and_true, Bool.and_false]
    exact ev_ret
  | succ m ih =>
    intro j hj
    refine ev_succ (fun n => F208_138e2 n ..) ?_
    have e : ¬ 13 ≤ j := by omega
    have e9 : (svG 48 35 S 8 pos j).1 49 = nI 0 := by rw [sv_n (by decide)]; exact h9
    have e8 : (svG 48 35 S 8 pos j).1 48 = nI (pos + j) := sv_p
    simp (disch := omega) only [F208_138b2, L0, L1, L2, L3, L4, L5, L6, L7, L8, L9, L10, L11, L12, L13, L16, L20, L31, L32, L40, L48, L57, L59, L60, L61, L91, L93, L97, L99, L100, L102, L103, L114, L122, L255, L300, L400, L402, L999, L2280, L2500, L99999, L63, L1431655765, L858993459, L252645135, ic_ge, ic_gt, ic_le, ic_lt, ic_eq, ic_ne, if_lt, if_ge, if_gt, if_le, if_eq, if_ne, if_lt_zI, if_ge_zI, ic_ne_m1, ic_eq_m1, ic_nn_m1, ic_ee_m1, if_ne_b2i, if_eq_b2i, b2i_z, decide_eq_true_eq, decide_true, decide_false, Bool.not_eq_true, Bool.not_eq_true', Bool.not_true, Bool.not_false, decide_eq_false_iff_not, Bool.false_eq_true, not_false_eq_true, not_true_eq_false, if_true, if_false, ↓reduceIte, eq_self, Option.bind_some, Bool.true_and, Bool.false_and, Bool.and_true, Bool.and_false, nI_add, nI_subN, nI_clamp, gdF, gdF2, gdP, gdP2, zI_cl, zI_s, Lm1, nI_n0, zI_n0, leF, or_false, false_or, or_self, e]
    refine ev_bind (f207s e8 e9 (by omega)) ?_
    have er : (svG 48 35 S 8 pos j).2.1 8 j = S.2.1 8 j := by rw [sv_r (by decide)]
    simp only [er]
    rw [sv_s, m_sA_id (by rw [sv_r (by decide)])]
    exact ih (j + 1) (by omega)
theorem f208_138s {S : mS} {pos : Nat} (h8 : S.1 48 = nI pos) (h9 : S.1 49 = nI 0) (hp : pos + 13 ≤ 2280) : Ev (fun n => F208_138 n S) ((), svG 48 35 S 8 pos 13) := by
  refine ev_succ (fun n => F208_138e0 n ..) ?_
  simp only [F208_138b0, L0]
  have := f208_138sl h9 hp 13 0 (by omega)
  rw [sv_0 h8] at this
  exact this
theorem f208_138bl {S : mS} {pos : Nat} (h9 : S.1 49 = nI 1) (hp : pos + 13 ≤ 2280) : ∀ m j, j + m = 13 → Ev (fun n => F208_138f n 2 (nI j) (ldG 48 35 S 8 pos j)) ((), ldG 48 35 S 8 pos 13) := by
  intro m
  induction m with
  | zero =>
    intro j hj
    refine ev_succ (fun n => F208_138e2 n ..) ?_
    have hj : j = 13 := by omega
    subst hj
    simp only [F208_138b2, L0, L1, L2, L3, L4, L5, L6, L7, L8, L9, L10, L11, L12, L13, L16, L20, L31, L32, L40, L48, L57, L59, L60, L61, L91, L93, L97, L99, L100, L102, L103, L114, L122, L255, L300, L400, L402, L999, L2280, L2500, L99999, L63, L1431655765, L858993459, L252645135]
    simp (disch := omega) only [ic_ge, Nat.le_refl, decide_eq_true_eq, decide_true, decide_false, Bool.not_eq_true, Bool.not_eq_true', Bool.not_true, Bool.not_false, decide_eq_false_iff_not, Bool.false_eq_true, not_false_eq_true, not_true_eq_false, if_true, if_false, ↓reduceIte, eq_self, Option.bind_some, Bool.true_and, Bool.false_and, Bool.and_true, Bool.and_false]
    exact ev_ret
  | succ m ih =>
    intro j hj
    refine ev_succ (fun n => F208_138e2 n ..) ?_
    have e : ¬ 13 ≤ j := by omega
    have e9 : (ldG 48 35 S 8 pos j).1 49 = nI 1 := by rw [ld_n (by decide)]; exact h9
    have e8 : (ldG 48 35 S 8 pos j).1 48 = nI (pos + j) := ld_p
    simp (disch := omega) only [F208_138b2, L0, L1, L2, L3, L4, L5, L6, L7, L8, L9, L10, L11, L12, L13, L16, L20, L31, L32, L40, L48, L57, L59, L60, L61, L91, L93, L97, L99, L100, L102, L103, L114, L122, L255, L300, L400, L402, L999, L2280, L2500, L99999, L63, L1431655765, L858993459, L252645135, ic_ge, ic_gt, ic_le, ic_lt, ic_eq, ic_ne, if_lt, if_ge, if_gt, if_le, if_eq, if_ne, if_lt_zI, if_ge_zI, ic_ne_m1, ic_eq_m1, ic_nn_m1, ic_ee_m1, if_ne_b2i, if_eq_b2i, b2i_z, decide_eq_true_eq, decide_true, decide_false, Bool.not_eq_true, Bool.not_eq_true', Bool.not_true, Bool.not_false, decide_eq_false_iff_not, Bool.false_eq_true, not_false_eq_true, not_true_eq_false, if_true, if_false, ↓reduceIte, eq_self, Option.bind_some, Bool.true_and, Bool.false_and, Bool.and_true, Bool.and_false, nI_add, nI_subN, nI_clamp, gdF, gdF2, gdP, gdP2, zI_cl, zI_s, Lm1, nI_n0, zI_n0, leF, or_false, false_or, or_self, e]
    refine ev_bind (f207b e8 e9 (by omega)) ?_
    have er : (ldG 48 35 S 8 pos j).2.1 35 (pos + j) = S.2.1 35 (pos + j) := by rw [ld_r (by decide)]
    simp only [er]
    have ex : m_sA (m_sI (ldG 48 35 S 8 pos j) 48 (nI (pos + j + 1))) 8 j (S.2.1 35 (pos + j)) = m_sI (m_sA (ldG 48 35 S 8 pos j) 8 j (S.2.1 35 (pos + j))) 48 (nI (pos + j + 1)) := rfl
    rw [ex, ld_s]
    exact ih (j + 1) (by omega)
theorem f208_138b {S : mS} {pos : Nat} (h8 : S.1 48 = nI pos) (h9 : S.1 49 = nI 1) (hp : pos + 13 ≤ 2280) : Ev (fun n => F208_138 n S) ((), ldG 48 35 S 8 pos 13) := by
  refine ev_succ (fun n => F208_138e0 n ..) ?_
  simp only [F208_138b0, L0]
  have := f208_138bl h9 hp 13 0 (by omega)
  rw [ld_0 h8] at this
  exact this
theorem f208_139sl {S : mS} {pos : Nat} (h9 : S.1 49 = nI 0) (hp : pos + 13 ≤ 2280) : ∀ m j, j + m = 13 → Ev (fun n => F208_139f n 2 (nI j) (svG 48 35 S 9 pos j)) ((), svG 48 35 S 9 pos 13) := by
  intro m
  induction m with
  | zero =>
    intro j hj
    refine ev_succ (fun n => F208_139e2 n ..) ?_
    have hj : j = 13 := by omega
    subst hj
    simp only [F208_139b2, L0, L1, L2, L3, L4, L5, L6, L7, L8, L9, L10, L11, L12, L13, L16, L20, L31, L32, L40, L48, L57, L59, L60, L61, L91, L93, L97, L99, L100, L102, L103, L114, L122, L255, L300, L400, L402, L999, L2280, L2500, L99999, L63, L1431655765, L858993459, L252645135]
    simp (disch := omega) only [ic_ge, Nat.le_refl, decide_eq_true_eq, decide_true, decide_false, Bool.not_eq_true, Bool.not_eq_true', Bool.not_true, Bool.not_false, decide_eq_false_iff_not, Bool.false_eq_true, not_false_eq_true, not_true_eq_false, if_true, if_false, ↓reduceIte, eq_self, Option.bind_some, Bool.true_and, Bool.false_and, Bool.and_true, Bool.and_false]
    exact ev_ret
  | succ m ih =>
    intro j hj
    refine ev_succ (fun n => F208_139e2 n ..) ?_
    have e : ¬ 13 ≤ j := by omega
    have e9 : (svG 48 35 S 9 pos j).1 49 = nI 0 := by rw [sv_n (by decide)]; exact h9
    have e8 : (svG 48 35 S 9 pos j).1 48 = nI (pos + j) := sv_p
    simp (disch := omega) only [F208_139b2, L0, L1, L2, L3, L4, L5, L6, L7, L8, L9, L10, L11, L12, L13, L16, L20, L31, L32, L40, L48, L57, L59, L60, L61, L91, L93, L97, L99, L100, L102, L103, L114, L122, L255, L300, L400, L402, L999, L2280, L2500, L99999, L63, L1431655765, L858993459, L252645135, ic_ge, ic_gt, ic_le, ic_lt, ic_eq, ic_ne, if_lt, if_ge, if_gt, if_le, if_eq, if_ne, if_lt_zI, if_ge_zI, ic_ne_m1, ic_eq_m1, ic_nn_m1, ic_ee_m1, if_ne_b2i, if_eq_b2i, b2i_z, decide_eq_true_eq, decide_true, decide_false, Bool.not_eq_true, Bool.not_eq_true', Bool.not_true, Bool.not_false, decide_eq_false_iff_not, Bool.false_eq_true, not_false_eq_true, not_true_eq_false, if_true, if_false, ↓reduceIte, eq_self, Option.bind_some, Bool.true_and, Bool.false_and, Bool.and_true, Bool.and_false, nI_add, nI_subN, nI_clamp, gdF, gdF2, gdP, gdP2, zI_cl, zI_s, Lm1, nI_n0, zI_n0, leF, or_false, false_or, or_self, e]
    refine ev_bind (f207s e8 e9 (by omega)) ?_
    have er : (svG 48 35 S 9 pos j).2.1 9 j = S.2.1 9 j := by rw [sv_r (by decide)]
    simp only [er]
    rw [sv_s, m_sA_id (by rw [sv_r (by decide)])]
    exact ih (j + 1) (by omega)
theorem f208_139s {S : mS} {pos : Nat} (h8 : S.1 48 = nI pos) (h9 : S.1 49 = nI 0) (hp : pos + 13 ≤ 2280) : Ev (fun n => F208_139 n S) ((), svG 48 35 S 9 pos 13) := by
  refine ev_succ (fun n => F208_139e0 n ..) ?_
  simp only [F208_139b0, L0]
  have := f208_139sl h9 hp 13 0 (by omega)
  rw [sv_0 h8] at this
  exact this
theorem f208_139bl {S : mS} {pos : Nat} (h9 : S.1 49 = nI 1) (hp : pos + 13 ≤ 2280) : ∀ m j, j + m = 13 → Ev (fun n => F208_139f n 2 (nI j) (ldG 48 35 S 9 pos j)) ((), ldG 48 35 S 9 pos 13) := by
  intro m
  induction m with
  | zero =>
    intro j hj
    refine ev_succ (fun n => F208_139e2 n ..) ?_
    have hj : j = 13 := by omega
    subst hj
    simp only [F208_139b2, L0, L1, L2, L3, L4, L5, L6, L7, L8, L9, L10, L11, L12, L13, L16, L20, L31, L32, L40, L48, L57, L59, L60, L61, L91, L93, L97, L99, L100, L102, L103, L114, L122, L255, L300, L400, L402, L999, L2280, L2500, L99999, L63, L1431655765, L858993459, L252645135]
    simp (disch := omega) only [ic_ge, Nat.le_refl, decide_eq_true_eq, decide_true, decide_false, Bool.not_eq_true, Bool.not_eq_true', Bool.not_true, Bool.not_false, decide_eq_false_iff_not, Bool.false_eq_true, not_false_eq_true, not_true_eq_false, if_true, if_false, ↓reduceIte, eq_self, Option.bind_some, Bool.true_and, Bool.false_and, Bool.and_true, Bool.and_false]
    exact ev_ret
  | succ m ih =>
    intro j hj
    refine ev_succ (fun n => F208_139e2 n ..) ?_
    have e : ¬ 13 ≤ j := by omega
    have e9 : (ldG 48 35 S 9 pos j).1 49 = nI 1 := by rw [ld_n (by decide)]; exact h9
    have e8 : (ldG 48 35 S 9 pos j).1 48 = nI (pos + j) := ld_p
    simp (disch := omega) only [F208_139b2, L0, L1, L2, L3, L4, L5, L6, L7, L8, L9, L10, L11, L12, L13, L16, L20, L31, L32, L40, L48, L57, L59, L60, L61, L91, L93, L97, L99, L100, L102, L103, L114, L122, L255, L300, L400, L402, L999, L2280, L2500, L99999, L63, L1431655765, L858993459, L252645135, ic_ge, ic_gt, ic_le, ic_lt, ic_eq, ic_ne, if_lt, if_ge, if_gt, if_le, if_eq, if_ne, if_lt_zI, if_ge_zI, ic_ne_m1, ic_eq_m1, ic_nn_m1, ic_ee_m1, if_ne_b2i, if_eq_b2i, b2i_z, decide_eq_true_eq, decide_true, decide_false, Bool.not_eq_true, Bool.not_eq_true', Bool.not_true, Bool.not_false, decide_eq_false_iff_not, Bool.false_eq_true, not_false_eq_true, not_true_eq_false, if_true, if_false, ↓reduceIte, eq_self, Option.bind_some, Bool.true_and, Bool.false_and, Bool.and_true, Bool.and_false, nI_add, nI_subN, nI_clamp, gdF, gdF2, gdP, gdP2, zI_cl, zI_s, Lm1, nI_n0, zI_n0, leF, or_false, false_or, or_self, e]
    refine ev_bind (f207b e8 e9 (by omega)) ?_
    have er : (ldG 48 35 S 9 pos j).2.1 35 (pos + j) = S.2.1 35 (pos + j) := by rw [ld_r (by decide)]
    simp only [er]
    have ex : m_sA (m_sI (ldG 48 35 S 9 pos j) 48 (nI (pos + j + 1))) 9 j (S.2.1 35 (pos + j)) = m_sI (m_sA (ldG 48 35 S 9 pos j) 9 j (S.2.1 35 (pos + j))) 48 (nI (pos + j + 1)) := rfl
    rw [ex, ld_s]
    exact ih (j + 1) (by omega)
theorem f208_139b {S : mS} {pos : Nat} (h8 : S.1 48 = nI pos) (h9 : S.1 49 = nI 1) (hp : pos + 13 ≤ 2280) : Ev (fun n => F208_139 n S) ((), ldG 48 35 S 9 pos 13) := by
  refine ev_succ (fun n => F208_139e0 n ..) ?_
  simp only [F208_139b0, L0]
  have := f208_139bl h9 hp 13 0 (by omega)
  rw [ld_0 h8] at this
  exact this
theorem f208_140sl {S : mS} {pos : Nat} (h9 : S.1 49 = nI 0) (hp : pos + 13 ≤ 2280) : ∀ m j, j + m = 13 → Ev (fun n => F208_140f n 2 (nI j) (svG 48 35 S 10 pos j)) ((), svG 48 35 S 10 pos 13) := by
  intro m
  induction m with
  | zero =>
    intro j hj
    refine ev_succ (fun n => F208_140e2 n ..) ?_
    have hj : j = 13 := by omega
    subst hj
    simp only [F208_140b2, L0, L1, L2, L3, L4, L5, L6, L7, L8, L9, L10, L11, L12, L13, L16, L20, L31, L32, L40, L48, L57, L59, L60, L61, L91, L93, L97, L99, L100, L102, L103, L114, L122, L255, L300, L400, L402, L999, L2280, L2500, L99999, L63, L1431655765, L858993459, L252645135]
    simp (disch := omega) only [ic_ge, Nat.le_refl, decide_eq_true_eq, decide_true, decide_false, Bool.not_eq_true, Bool.not_eq_true', Bool.not_true, Bool.not_false, decide_eq_false_iff_not, Bool.false_eq_true, not_false_eq_true, not_true_eq_false, if_true, if_false, ↓reduceIte, eq_self, Option.bind_some, Bool.true_and, Bool.false_and, Bool.and_true, Bool.and_false]
    exact ev_ret
  | succ m ih =>
    intro j hj
    refine ev_succ (fun n => F208_140e2 n ..) ?_
    have e : ¬ 13 ≤ j := by omega
    have e9 : (svG 48 35 S 10 pos j).1 49 = nI 0 := by rw [sv_n (by decide)]; exact h9
    have e8 : (svG 48 35 S 10 pos j).1 48 = nI (pos + j) := sv_p
    simp (disch := omega) only [F208_140b2, L0, L1, L2, L3, L4, L5, L6, L7, L8, L9, L10, L11, L12, L13, L16, L20, L31, L32, L40, L48, L57, L59, L60, L61, L91, L93, L97, L99, L100, L102, L103, L114, L122, L255, L300, L400, L402, L999, L2280, L2500, L99999, L63, L1431655765, L858993459, L252645135, ic_ge, ic_gt, ic_le, ic_lt, ic_eq, ic_ne, if_lt, if_ge, if_gt, if_le, if_eq, if_ne, if_lt_zI, if_ge_zI, ic_ne_m1, ic_eq_m1, ic_nn_m1, ic_ee_m1, if_ne_b2i, if_eq_b2i, b2i_z, decide_eq_true_eq, decide_true, decide_false, Bool.not_eq_true, Bool.not_eq_true', Bool.not_true, Bool.not_false, decide_eq_false_iff_not, Bool.false_eq_true, not_false_eq_true, not_true_eq_false, if_true, if_false, ↓reduceIte, eq_self, Option.bind_some, Bool.true_and, Bool.false_and, Bool.and_true, Bool.and_false, nI_add, nI_subN, nI_clamp, gdF, gdF2, gdP, gdP2, zI_cl, zI_s, Lm1, nI_n0, zI_n0, leF, or_false, false_or, or_self, e]
    refine ev_bind (f207s e8 e9 (by omega)) ?_
    have er : (svG 48 35 S 10 pos j).2.1 10 j = S.2.1 10 j := by rw [sv_r (by decide)]
    simp only [er]
    rw [sv_s, m_sA_id (by rw [sv_r (by decide)])]
    exact ih (j + 1) (by omega)
theorem f208_140s {S : mS} {pos : Nat} (h8 : S.1 48 = nI pos) (h9 : S.1 49 = nI 0) (hp : pos + 13 ≤ 2280) : Ev (fun n => F208_140 n S) ((), svG 48 35 S 10 pos 13) := by
  refine ev_succ (fun n => F208_140e0 n ..) ?_
  simp only [F208_140b0, L0]
  have := f208_140sl h9 hp 13 0 (by omega)
  rw [sv_0 h8] at this
  exact this
theorem f208_140bl {S : mS} {pos : Nat} (h9 : S.1 49 = nI 1) (hp : pos + 13 ≤ 2280) : ∀ m j, j + m = 13 → Ev (fun n => F208_140f n 2 (nI j) (ldG 48 35 S 10 pos j)) ((), ldG 48 35 S 10 pos 13) := by
  intro m
  induction m with
  | zero =>
    intro j hj
    refine ev_succ (fun n => F208_140e2 n ..) ?_
    have hj : j = 13 := by omega
    subst hj
    simp only [F208_140b2, L0, L1, L2, L3, L4, L5, L6, L7, L8, L9, L10, L11, L12, L13, L16, L20, L31, L32, L40, L48, L57, L59, L60, L61, L91, L93, L97, L99, L100, L102, L103, L114, L122, L255, L300, L400, L402, L999, L2280, L2500, L99999, L63, L1431655765, L858993459, L252645135]
    simp (disch := omega) only [ic_ge, Nat.le_refl, decide_eq_true_eq, decide_true, decide_false, Bool.not_eq_true, Bool.not_eq_true', Bool.not_true, Bool.not_false, decide_eq_false_iff_not, Bool.false_eq_true, not_false_eq_true, not_true_eq_false, if_true, if_false, ↓reduceIte, eq_self, Option.bind_some, Bool.true_and, Bool.false_and, Bool.and_true, Bool.and_false]
    exact ev_ret
  | succ m ih =>
    intro j hj
    refine ev_succ (fun n => F208_140e2 n ..) ?_
    have e : ¬ 13 ≤ j := by omega
    have e9 : (ldG 48 35 S 10 pos j).1 49 = nI 1 := by rw [ld_n (by decide)]; exact h9
    have e8 : (ldG 48 35 S 10 pos j).1 48 = nI (pos + j) := ld_p
    simp (disch := omega) only [F208_140b2, L0, L1, L2, L3, L4, L5, L6, L7, L8, L9, L10, L11, L12, L13, L16, L20, L31, L32, L40, L48, L57, L59, L60, L61, L91, L93, L97, L99, L100, L102, L103, L114, L122, L255, L300, L400, L402, L999, L2280, L2500, L99999, L63, L1431655765, L858993459, L252645135, ic_ge, ic_gt, ic_le, ic_lt, ic_eq, ic_ne, if_lt, if_ge, if_gt, if_le, if_eq, if_ne, if_lt_zI, if_ge_zI, ic_ne_m1, ic_eq_m1, ic_nn_m1, ic_ee_m1, if_ne_b2i, if_eq_b2i, b2i_z, decide_eq_true_eq, decide_true, decide_false, Bool.not_eq_true, Bool.not_eq_true', Bool.not_true, Bool.not_false, decide_eq_false_iff_not, Bool.false_eq_true, not_false_eq_true, not_true_eq_false, if_true, if_false, ↓reduceIte, eq_self, Option.bind_some, Bool.true_and, Bool.false_and, Bool.and_true, Bool.and_false, nI_add, nI_subN, nI_clamp, gdF, gdF2, gdP, gdP2, zI_cl, zI_s, Lm1, nI_n0, zI_n0, leF, or_false, false_or, or_self, e]
    refine ev_bind (f207b e8 e9 (by omega)) ?_
    have er : (ldG 48 35 S 10 pos j).2.1 35 (pos + j) = S.2.1 35 (pos + j) := by rw [ld_r (by decide)]
    simp only [er]
    have ex : m_sA (m_sI (ldG 48 35 S 10 pos j) 48 (nI (pos + j + 1))) 10 j (S.2.1 35 (pos + j)) = m_sI (m_sA (ldG 48 35 S 10 pos j) 10 j (S.2.1 35 (pos + j))) 48 (nI (pos + j + 1)) := rfl
    rw [ex, ld_s]
    exact ih (j + 1) (by omega)
theorem f208_140b {S : mS} {pos : Nat} (h8 : S.1 48 = nI pos) (h9 : S.1 49 = nI 1) (hp : pos + 13 ≤ 2280) : Ev (fun n => F208_140 n S) ((), ldG 48 35 S 10 pos 13) := by
  refine ev_succ (fun n => F208_140e0 n ..) ?_
  simp only [F208_140b0, L0]
  have := f208_140bl h9 hp 13 0 (by omega)
  rw [ld_0 h8] at this
  exact this
theorem f208_141sl {S : mS} {pos : Nat} (h9 : S.1 49 = nI 0) (hp : pos + 13 ≤ 2280) : ∀ m j, j + m = 13 → Ev (fun n => F208_141f n 2 (nI j) (svG 48 35 S 11 pos j)) ((), svG 48 35 S 11 pos 13) := by
  intro m
  induction m with
  | zero =>
    intro j hj
    refine ev_succ (fun n => F208_141e2 n ..) ?_
    have hj : j = 13 := by omega
    subst hj
    simp only [F208_141b2, L0, L1, L2, L3, L4, L5, L6, L7, L8, L9, L10, L11, L12, L13, L16, L20, L31, L32, L40, L48, L57, L59, L60, L61, L91, L93, L97, L99, L100, L102, L103, L114, L122, L255, L300, L400, L402, L999, L2280, L2500, L99999, L63, L1431655765, L858993459, L252645135]
    simp (disch := omega) only [ic_ge, Nat.le_refl, decide_eq_true_eq, decide_true, decide_false, Bool.not_eq_true, Bool.not_eq_true', Bool.not_true, Bool.not_false, decide_eq_false_iff_not, Bool.false_eq_true, not_false_eq_true, not_true_eq_false, if_true, if_false, ↓reduceIte, eq_self, Option.bind_some, Bool.true_and, Bool.false_and, Bool.and_true, Bool.and_false]
    exact ev_ret
  | succ m ih =>
    intro j hj
    refine ev_succ (fun n => F208_141e2 n ..) ?_
    have e : ¬ 13 ≤ j := by omega
    have e9 : (svG 48 35 S 11 pos j).1 49 = nI 0 := by rw [sv_n (by decide)]; exact h9
    have e8 : (svG 48 35 S 11 pos j).1 48 = nI (pos + j) := sv_p
    simp (disch := omega) only [F208_141b2, L0, L1, L2, L3, L4, L5, L6, L7, L8, L9, L10, L11, L12, L13, L16, L20, L31, L32, L40, L48, L57, L59, L60, L61, L91, L93, L97, L99, L100, L102, L103, L114, L122, L255, L300, L400, L402, L999, L2280, L2500, L99999, L63, L1431655765, L858993459, L252645135, ic_ge, ic_gt, ic_le, ic_lt, ic_eq, ic_ne, if_lt, if_ge, if_gt, if_le, if_eq, if_ne, if_lt_zI, if_ge_zI, ic_ne_m1, ic_eq_m1, ic_nn_m1, ic_ee_m1, if_ne_b2i, if_eq_b2i, b2i_z, decide_eq_true_eq, decide_true, decide_false, Bool.not_eq_true, Bool.not_eq_true', Bool.not_true, Bool.not_false, decide_eq_false_iff_not, Bool.false_eq_true, not_false_eq_true, not_true_eq_false, if_true, if_false, ↓reduceIte, eq_self, Option.bind_some, Bool.true_and, Bool.false_and, Bool.and_true, Bool.and_false, nI_add, nI_subN, nI_clamp, gdF, gdF2, gdP, gdP2, zI_cl, zI_s, Lm1, nI_n0, zI_n0, leF, or_false, false_or, or_self, e]
    refine ev_bind (f207s e8 e9 (by omega)) ?_
    have er : (svG 48 35 S 11 pos j).2.1 11 j = S.2.1 11 j := by rw [sv_r (by decide)]
    simp only [er]
    rw [sv_s, m_sA_id (by rw [sv_r (by decide)])]
    exact ih (j + 1) (by omega)
theorem f208_141s {S : mS} {pos : Nat} (h8 : S.1 48 = nI pos) (h9 : S.1 49 = nI 0) (hp : pos + 13 ≤ 2280) : Ev (fun n => F208_141 n S) ((), svG 48 35 S 11 pos 13) := by
  refine ev_succ (fun n => F208_141e0 n ..) ?_
  simp only [F208_141b0, L0]
  have := f208_141sl h9 hp 13 0 (by omega)
  rw [sv_0 h8] at this
  exact this
theorem f208_141bl {S : mS} {pos : Nat} (h9 : S.1 49 = nI 1) (hp : pos + 13 ≤ 2280) : ∀ m j, j + m = 13 → Ev (fun n => F208_141f n 2 (nI j) (ldG 48 35 S 11 pos j)) ((), ldG 48 35 S 11 pos 13) := by
  intro m
  induction m with
  | zero =>
    intro j hj
    refine ev_succ (fun n => F208_141e2 n ..) ?_
    have hj : j = 13 := by omega
    subst hj
    simp only [F208_141b2, L0, L1, L2, L3, L4, L5, L6, L7, L8, L9, L10, L11, L12, L13, L16, L20, L31, L32, L40, L48, L57, L59, L60, L61, L91, L93, L97, L99, L100, L102, L103, L114, L122, L255, L300, L400, L402, L999, L2280, L2500, L99999, L63, L1431655765, L858993459, L252645135]
    simp (disch := omega) only [ic_ge, Nat.le_refl, decide_eq_true_eq, decide_true, decide_false, Bool.not_eq_true, Bool.not_eq_true', Bool.not_true, Bool.not_false, decide_eq_false_iff_not, Bool.false_eq_true, not_false_eq_true, not_true_eq_false, if_true, if_false, ↓reduceIte, eq_self, Option.bind_some, Bool.true_and, Bool.false_and, Bool.and_true, Bool.and_false]
    exact ev_ret
  | succ m ih =>
    intro j hj
    refine ev_succ (fun n => F208_141e2 n ..) ?_
    have e : ¬ 13 ≤ j := by omega
    have e9 : (ldG 48 35 S 11 pos j).1 49 = nI 1 := by rw [ld_n (by decide)]; exact h9
    have e8 : (ldG 48 35 S 11 pos j).1 48 = nI (pos + j) := ld_p
    simp (disch := omega) only [F208_141b2, L0, L1, L2, L3, L4, L5, L6, L7, L8, L9, L10, L11, L12, L13, L16, L20, L31, L32, L40, L48, L57, L59, L60, L61, L91, L93, L97, L99, L100, L102, L103, L114, L122, L255, L300, L400, L402, L999, L2280, L2500, L99999, L63, L1431655765, L858993459, L252645135, ic_ge, ic_gt, ic_le, ic_lt, ic_eq, ic_ne, if_lt, if_ge, if_gt, if_le, if_eq, if_ne, if_lt_zI, if_ge_zI, ic_ne_m1, ic_eq_m1, ic_nn_m1, ic_ee_m1, if_ne_b2i, if_eq_b2i, b2i_z, decide_eq_true_eq, decide_true, decide_false, Bool.not_eq_true, Bool.not_eq_true', Bool.not_true, Bool.not_false, decide_eq_false_iff_not, Bool.false_eq_true, not_false_eq_true, not_true_eq_false, if_true, if_false, ↓reduceIte, eq_self, Option.bind_some, Bool.true_and, Bool.false_and, Bool.and_true, Bool.and_false, nI_add, nI_subN, nI_clamp, gdF, gdF2, gdP, gdP2, zI_cl, zI_s, Lm1, nI_n0, zI_n0, leF, or_false, false_or, or_self, e]
    refine ev_bind (f207b e8 e9 (by omega)) ?_
    have er : (ldG 48 35 S 11 pos j).2.1 35 (pos + j) = S.2.1 35 (pos + j) := by rw [ld_r (by decide)]
    simp only [er]
    have ex : m_sA (m_sI (ldG 48 35 S 11 pos j) 48 (nI (pos + j + 1))) 11 j (S.2.1 35 (pos + j)) = m_sI (m_sA (ldG 48 35 S 11 pos j) 11 j (S.2.1 35 (pos + j))) 48 (nI (pos + j + 1)) := rfl
    rw [ex, ld_s]
    exact ih (j + 1) (by omega)
theorem f208_141b {S : mS} {pos : Nat} (h8 : S.1 48 = nI pos) (h9 : S.1 49 = nI 1) (hp : pos + 13 ≤ 2280) : Ev (fun n => F208_141 n S) ((), ldG 48 35 S 11 pos 13) := by
  refine ev_succ (fun n => F208_141e0 n ..) ?_
  simp only [F208_141b0, L0]
  have := f208_141bl h9 hp 13 0 (by omega)
  rw [ld_0 h8] at this
  exact this
theorem f208_142sl {S : mS} {pos : Nat} (h9 : S.1 49 = nI 0) (hp : pos + 13 ≤ 2280) : ∀ m j, j + m = 13 → Ev (fun n => F208_142f n 2 (nI j) (svG 48 35 S 12 pos j)) ((), svG 48 35 S 12 pos 13) := by
  intro m
  induction m with
  | zero =>
    intro j hj
    refine ev_succ (fun n => F208_142e2 n ..) ?_
    have hj : j = 13 := by omega
    subst hj
    simp only [F208_142b2, L0, L1, L2, L3, L4, L5, L6, L7, L8, L9, L10, L11, L12, L13, L16, L20, L31, L32, L40, L48, L57, L59, L60, L61, L91, L93, L97, L99, L100, L102, L103, L114, L122, L255, L300, L400, L402, L999, L2280, L2500, L99999, L63, L1431655765, L858993459, L252645135]
    simp (disch := omega) only [ic_ge, Nat.le_refl, decide_eq_true_eq, decide_true, decide_false, Bool.not_eq_true, Bool.not_eq_true', Bool.not_true, Bool.not_false, decide_eq_false_iff_not, Bool.false_eq_true, not_false_eq_true, not_true_eq_false, if_true, if_false, ↓reduceIte, eq_self, Option.bind_some, Bool.true_and, Bool.false_and, Bool.and_true, Bool.and_false]
    exact ev_ret
  | succ m ih =>
    intro j hj
    refine ev_succ (fun n => F208_142e2 n ..) ?_
    have e : ¬ 13 ≤ j := by omega
    have e9 : (svG 48 35 S 12 pos j).1 49 = nI 0 := by rw [sv_n (by decide)]; exact h9
    have e8 : (svG 48 35 S 12 pos j).1 48 = nI (pos + j) := sv_p
    simp (disch := omega) only [F208_142b2, L0, L1, L2, L3, L4, L5, L6, L7, L8, L9, L10, L11, L12, L13, L16, L20, L31, L32, L40, L48, L57, L59, L60, L61, L91, L93, L97, L99, L100, L102, L103, L114, L122, L255, L300, L400, L402, L999, L2280, L2500, L99999, L63, L1431655765, L858993459, L252645135, ic_ge, ic_gt, ic_le, ic_lt, ic_eq, ic_ne, if_lt, if_ge, if_gt, if_le, if_eq, if_ne, if_lt_zI, if_ge_zI, ic_ne_m1, ic_eq_m1, ic_nn_m1, ic_ee_m1, if_ne_b2i, if_eq_b2i, b2i_z, decide_eq_true_eq, decide_true, decide_false, Bool.not_eq_true, Bool.not_eq_true', Bool.not_true, Bool.not_false, decide_eq_false_iff_not, Bool.false_eq_true, not_false_eq_true, not_true_eq_false, if_true, if_false, ↓reduceIte, eq_self, Option.bind_some, Bool.true_and, Bool.false_and, Bool.and_true, Bool.and_false, nI_add, nI_subN, nI_clamp, gdF, gdF2, gdP, gdP2, zI_cl, zI_s, Lm1, nI_n0, zI_n0, leF, or_false, false_or, or_self, e]
    refine ev_bind (f207s e8 e9 (by omega)) ?_
    have er : (svG 48 35 S 12 pos j).2.1 12 j = S.2.1 12 j := by rw [sv_r (by decide)]
    simp only [er]
    rw [sv_s, m_sA_id (by rw [sv_r (by decide)])]
    exact ih (j + 1) (by omega)
theorem f208_142s {S : mS} {pos : Nat} (h8 : S.1 48 = nI pos) (h9 : S.1 49 = nI 0) (hp : pos + 13 ≤ 2280) : Ev (fun n => F208_142 n S) ((), svG 48 35 S 12 pos 13) := by
  refine ev_succ (fun n => F208_142e0 n ..) ?_
  simp only [F208_142b0, L0]
  have := f208_142sl h9 hp 13 0 (by omega)
  rw [sv_0 h8] at this
  exact this
theorem f208_142bl {S : mS} {pos : Nat} (h9 : S.1 49 = nI 1) (hp : pos + 13 ≤ 2280) : ∀ m j, j + m = 13 → Ev (fun n => F208_142f n 2 (nI j) (ldG 48 35 S 12 pos j)) ((), ldG 48 35 S 12 pos 13) := by
  intro m
  induction m with
  | zero =>
    intro j hj
    refine ev_succ (fun n => F208_142e2 n ..) ?_
    have hj : j = 13 := by omega
    subst hj
    simp only [F208_142b2, L0, L1, L2, L3, L4, L5, L6, L7, L8, L9, L10, L11, L12, L13, L16, L20, L31, L32, L40, L48, L57, L59, L60, L61, L91, L93, L97, L99, L100, L102, L103, L114, L122, L255, L300, L400, L402, L999, L2280, L2500, L99999, L63, L1431655765, L858993459, L252645135]
    simp (disch := omega) only [ic_ge, Nat.le_refl, decide_eq_true_eq, decide_true, decide_false, Bool.not_eq_true, Bool.not_eq_true', Bool.not_true, Bool.not_false, decide_eq_false_iff_not, Bool.false_eq_true, not_false_eq_true, not_true_eq_false, if_true, if_false, ↓reduceIte, eq_self, Option.bind_some, Bool.true_and, Bool.false_and, Bool.and_true, Bool.and_false]
    exact ev_ret
  | succ m ih =>
    intro j hj
    refine ev_succ (fun n => F208_142e2 n ..) ?_
    have e : ¬ 13 ≤ j := by omega
    have e9 : (ldG 48 35 S 12 pos j).1 49 = nI 1 := by rw [ld_n (by decide)]; exact h9
    have e8 : (ldG 48 35 S 12 pos j).1 48 = nI (pos + j) := ld_p
    simp (disch := omega) only [F208_142b2, L0, L1, L2, L3, L4, L5, L6, L7, L8, L9, L10, L11, L12, L13, L16, L20, L31, L32, L40, L48, L57, L59, L60, L61, L91, L93, L97, L99, L100, L102, L103, L114, L122, L255, L300, L400, L402, L999, L2280, L2500, L99999, L63, L1431655765, L858993459, L252645135, ic_ge, ic_gt, ic_le, ic_lt, ic_eq, ic_ne, if_lt, if_ge, if_gt, if_le, if_eq, if_ne, if_lt_zI, if_ge_zI, ic_ne_m1, ic_eq_m1, ic_nn_m1, ic_ee_m1, if_ne_b2i, if_eq_b2i, b2i_z, decide_eq_true_eq, decide_true, decide_false, Bool.not_eq_true, Bool.not_eq_true', Bool.not_true, Bool.not_false, decide_eq_false_iff_not, Bool.false_eq_true, not_false_eq_true, not_true_eq_false, if_true, if_false, ↓reduceIte, eq_self, Option.bind_some, Bool.true_and, Bool.false_and, Bool.and_true, Bool.and_false, nI_add, nI_subN, nI_clamp, gdF, gdF2, gdP, gdP2, zI_cl, zI_s, Lm1, nI_n0, zI_n0, leF, or_false, false_or, or_self, e]
    refine ev_bind (f207b e8 e9 (by omega)) ?_
    have er : (ldG 48 35 S 12 pos j).2.1 35 (pos + j) = S.2.1 35 (pos + j) := by rw [ld_r (by decide)]
    simp only [er]
    have ex : m_sA (m_sI (ldG 48 35 S 12 pos j) 48 (nI (pos + j + 1))) 12 j (S.2.1 35 (pos + j)) = m_sI (m_sA (ldG 48 35 S 12 pos j) 12 j (S.2.1 35 (pos + j))) 48 (nI (pos + j + 1)) := rfl
    rw [ex, ld_s]
    exact ih (j + 1) (by omega)
theorem f208_142b {S : mS} {pos : Nat} (h8 : S.1 48 = nI pos) (h9 : S.1 49 = nI 1) (hp : pos + 13 ≤ 2280) : Ev (fun n => F208_142 n S) ((), ldG 48 35 S 12 pos 13) := by
  refine ev_succ (fun n => F208_142e0 n ..) ?_
  simp only [F208_142b0, L0]
  have := f208_142bl h9 hp 13 0 (by omega)
  rw [ld_0 h8] at this
  exact this
theorem f208_143sl {S : mS} {pos : Nat} (h9 : S.1 49 = nI 0) (hp : pos + 13 ≤ 2280) : ∀ m j, j + m = 13 → Ev (fun n => F208_143f n 2 (nI j) (svG 48 35 S 13 pos j)) ((), svG 48 35 S 13 pos 13) := by
  intro m
  induction m with
  | zero =>
    intro j hj
    refine ev_succ (fun n => F208_143e2 n ..) ?_
    have hj : j = 13 := by omega
    subst hj
    simp only [F208_143b2, L0, L1, L2, L3, L4, L5, L6, L7, L8, L9, L10, L11, L12, L13, L16, L20, L31, L32, L40, L48, L57, L59, L60, L61, L91, L93, L97, L99, L100, L102, L103, L114, L122, L255, L300, L400, L402, L999, L2280, L2500, L99999, L63, L1431655765, L858993459, L252645135]
    simp (disch := omega) only [ic_ge, Nat.le_refl, decide_eq_true_eq, decide_true, decide_false, Bool.not_eq_true, Bool.not_eq_true', Bool.not_true, Bool.not_false, decide_eq_false_iff_not, Bool.false_eq_true, not_false_eq_true, not_true_eq_false, if_true, if_false, ↓reduceIte, eq_self, Option.bind_some, Bool.true_and, Bool.false_and, Bool.and_true, Bool.and_false]
    exact ev_ret
  | succ m ih =>
    intro j hj
    refine ev_succ (fun n => F208_143e2 n ..) ?_
    have e : ¬ 13 ≤ j := by omega
    have e9 : (svG 48 35 S 13 pos j).1 49 = nI 0 := by rw [sv_n (by decide)]; exact h9
    have e8 : (svG 48 35 S 13 pos j).1 48 = nI (pos + j) := sv_p
    simp (disch := omega) only [F208_143b2, L0, L1, L2, L3, L4, L5, L6, L7, L8, L9, L10, L11, L12, L13, L16, L20, L31, L32, L40, L48, L57, L59, L60, L61, L91, L93, L97, L99, L100, L102, L103, L114, L122, L255, L300, L400, L402, L999, L2280, L2500, L99999, L63, L1431655765, L858993459, L252645135, ic_ge, ic_gt, ic_le, ic_lt, ic_eq, ic_ne, if_lt, if_ge, if_gt, if_le, if_eq, if_ne, if_lt_zI, if_ge_zI, ic_ne_m1, ic_eq_m1, ic_nn_m1, ic_ee_m1, if_ne_b2i, if_eq_b2i, b2i_z, decide_eq_true_eq, decide_true, decide_false, Bool.not_eq_true, Bool.not_eq_true', Bool.not_true, Bool.not_false, decide_eq_false_iff_not, Bool.false_eq_true, not_false_eq_true, not_true_eq_false, if_true, if_false, ↓reduceIte, eq_self, Option.bind_some, Bool.true_and, Bool.false_and, Bool.and_true, Bool.and_false, nI_add, nI_subN, nI_clamp, gdF, gdF2, gdP, gdP2, zI_cl, zI_s, Lm1, nI_n0, zI_n0, leF, or_false, false_or, or_self, e]
    refine ev_bind (f207s e8 e9 (by omega)) ?_
    have er : (svG 48 35 S 13 pos j).2.1 13 j = S.2.1 13 j := by rw [sv_r (by decide)]
    simp only [er]
    rw [sv_s, m_sA_id (by rw [sv_r (by decide)])]
    exact ih (j + 1) (by omega)
theorem f208_143s {S : mS} {pos : Nat} (h8 : S.1 48 = nI pos) (h9 : S.1 49 = nI 0) (hp : pos + 13 ≤ 2280) : Ev (fun n => F208_143 n S) ((), svG 48 35 S 13 pos 13) := by
  refine ev_succ (fun n => F208_143e0 n ..) ?_
  simp only [F208_143b0, L0]
  have := f208_143sl h9 hp 13 0 (by omega)
  rw [sv_0 h8] at this
  exact this
theorem f208_143bl {S : mS} {pos : Nat} (h9 : S.1 49 = nI 1) (hp : pos + 13 ≤ 2280) : ∀ m j, j + m = 13 → Ev (fun n => F208_143f n 2 (nI j) (ldG 48 35 S 13 pos j)) ((), ldG 48 35 S 13 pos 13) := by
  intro m
  induction m with
  | zero =>
    intro j hj
    refine ev_succ (fun n => F208_143e2 n ..) ?_
    have hj : j = 13 := by omega
    subst hj
    simp only [F208_143b2, L0, L1, L2, L3, L4, L5, L6, L7, L8, L9, L10, L11, L12, L13, L16, L20, L31, L32, L40, L48, L57, L59, L60, L61, L91, L93, L97, L99, L100, L102, L103, L114, L122, L255, L300, L400, L402, L999, L2280, L2500, L99999, L63, L1431655765, L858993459, L252645135]
    simp (disch := omega) only [ic_ge, Nat.le_refl, decide_eq_true_eq, decide_true, decide_false, Bool.not_eq_true, Bool.not_eq_true', Bool.not_true, Bool.not_false, decide_eq_false_iff_not, Bool.false_eq_true, not_false_eq_true, not_true_eq_false, if_true, if_false, ↓reduceIte, eq_self, Option.bind_some, Bool.true_and, Bool.false_and, Bool.and_true, Bool.and_false]
    exact ev_ret
  | succ m ih =>
    intro j hj
    refine ev_succ (fun n => F208_143e2 n ..) ?_
    have e : ¬ 13 ≤ j := by omega
    have e9 : (ldG 48 35 S 13 pos j).1 49 = nI 1 := by rw [ld_n (by decide)]; exact h9
    have e8 : (ldG 48 35 S 13 pos j).1 48 = nI (pos + j) := ld_p
    simp (disch := omega) only [F208_143b2, L0, L1, L2, L3, L4, L5, L6, L7, L8, L9, L10, L11, L12, L13, L16, L20, L31, L32, L40, L48, L57, L59, L60, L61, L91, L93, L97, L99, L100, L102, L103, L114, L122, L255, L300, L400, L402, L999, L2280, L2500, L99999, L63, L1431655765, L858993459, L252645135, ic_ge, ic_gt, ic_le, ic_lt, ic_eq, ic_ne, if_lt, if_ge, if_gt, if_le, if_eq, if_ne, if_lt_zI, if_ge_zI, ic_ne_m1, ic_eq_m1, ic_nn_m1, ic_ee_m1, if_ne_b2i, if_eq_b2i, b2i_z, decide_eq_true_eq, decide_true, decide_false, Bool.not_eq_true, Bool.not_eq_true', Bool.not_true, Bool.not_false, decide_eq_false_iff_not, Bool.false_eq_true, not_false_eq_true, not_true_eq_false, if_true, if_false, ↓reduceIte, eq_self, Option.bind_some, Bool.true_and, Bool.false_and, Bool.and_true, Bool.and_false, nI_add, nI_subN, nI_clamp, gdF, gdF2, gdP, gdP2, zI_cl, zI_s, Lm1, nI_n0, zI_n0, leF, or_false, false_or, or_self, e]
    refine ev_bind (f207b e8 e9 (by omega)) ?_
    have er : (ldG 48 35 S 13 pos j).2.1 35 (pos + j) = S.2.1 35 (pos + j) := by rw [ld_r (by decide)]
    simp only [er]
    have ex : m_sA (m_sI (ldG 48 35 S 13 pos j) 48 (nI (pos + j + 1))) 13 j (S.2.1 35 (pos + j)) = m_sI (m_sA (ldG 48 35 S 13 pos j) 13 j (S.2.1 35 (pos + j))) 48 (nI (pos + j + 1)) := rfl
    rw [ex, ld_s]
    exact ih (j + 1) (by omega)
theorem f208_143b {S : mS} {pos : Nat} (h8 : S.1 48 = nI pos) (h9 : S.1 49 = nI 1) (hp : pos + 13 ≤ 2280) : Ev (fun n => F208_143 n S) ((), ldG 48 35 S 13 pos 13) := by
  refine ev_succ (fun n => F208_143e0 n ..) ?_
  simp only [F208_143b0, L0]
  have := f208_143bl h9 hp 13 0 (by omega)
  rw [ld_0 h8] at this
  exact this
theorem f208_144sl {S : mS} {pos : Nat} (h9 : S.1 49 = nI 0) (hp : pos + 13 ≤ 2280) : ∀ m j, j + m = 13 → Ev (fun n => F208_144f n 2 (nI j) (svG 48 35 S 14 pos j)) ((), svG 48 35 S 14 pos 13) := by
  intro m
  induction m with
  | zero =>
    intro j hj
    refine ev_succ (fun n => F208_144e2 n ..) ?_
    have hj : j = 13 := by omega
    subst hj
    simp only [F208_144b2, L0, L1, L2, L3, L4, L5, L6, L7, L8, L9, L10, L11, L12, L13, L16, L20, L31, L32, L40, L48, L57, L59, L60, L61, L91, L93, L97, L99, L100, L102, L103, L114, L122, L255, L300, L400, L402, L999, L2280, L2500, L99999, L63, L1431655765, L858993459, L252645135]
    simp (disch := omega) only [ic_ge, Nat.le_refl, decide_eq_true_eq, decide_true, decide_false, Bool.not_eq_true, Bool.not_eq_true', Bool.not_true, Bool.not_false, decide_eq_false_iff_not, Bool.false_eq_true, not_false_eq_true, not_true_eq_false, if_true, if_false, ↓reduceIte, eq_self, Option.bind_some, Bool.true_and, Bool.false_and, Bool.and_true, Bool.and_false]
    exact ev_ret
  | succ m ih =>
    intro j hj
    refine ev_succ (fun n => F208_144e2 n ..) ?_
    have e : ¬ 13 ≤ j := by omega
    have e9 : (svG 48 35 S 14 pos j).1 49 = nI 0 := by rw [sv_n (by decide)]; exact h9
    have e8 : (svG 48 35 S 14 pos j).1 48 = nI (pos + j) := sv_p
    simp (disch := omega) only [F208_144b2, L0, L1, L2, L3, L4, L5, L6, L7, L8, L9, L10, L11, L12, L13, L16, L20, L31, L32, L40, L48, L57, L59, L60, L61, L91, L93, L97, L99, L100, L102, L103, L114, L122, L255, L300, L400, L402, L999, L2280, L2500, L99999, L63, L1431655765, L858993459, L252645135, ic_ge, ic_gt, ic_le, ic_lt, ic_eq, ic_ne, if_lt, if_ge, if_gt, if_le, if_eq, if_ne, if_lt_zI, if_ge_zI, ic_ne_m1, ic_eq_m1, ic_nn_m1, ic_ee_m1, if_ne_b2i, if_eq_b2i, b2i_z, decide_eq_true_eq, decide_true, decide_false, Bool.not_eq_true, Bool.not_eq_true', Bool.not_true, Bool.not_false, decide_eq_false_iff_not, Bool.false_eq_true, not_false_eq_true, not_true_eq_false, if_true, if_false, ↓reduceIte, eq_self, Option.bind_some, Bool.true_and, Bool.false_and, Bool.and_true, Bool.and_false, nI_add, nI_subN, nI_clamp, gdF, gdF2, gdP, gdP2, zI_cl, zI_s, Lm1, nI_n0, zI_n0, leF, or_false, false_or, or_self, e]
    refine ev_bind (f207s e8 e9 (by omega)) ?_
    have er : (svG 48 35 S 14 pos j).2.1 14 j = S.2.1 14 j := by rw [sv_r (by decide)]
    simp only [er]
    rw [sv_s, m_sA_id (by rw [sv_r (by decide)])]
    exact ih (j + 1) (by omega)
theorem f208_144s {S : mS} {pos : Nat} (h8 : S.1 48 = nI pos) (h9 : S.1 49 = nI 0) (hp : pos + 13 ≤ 2280) : Ev (fun n => F208_144 n S) ((), svG 48 35 S 14 pos 13) := by
  refine ev_succ (fun n => F208_144e0 n ..) ?_
  simp only [F208_144b0, L0]
  have := f208_144sl h9 hp 13 0 (by omega)
  rw [sv_0 h8] at this
  exact this
theorem f208_144bl {S : mS} {pos : Nat} (h9 : S.1 49 = nI 1) (hp : pos + 13 ≤ 2280) : ∀ m j, j + m = 13 → Ev (fun n => F208_144f n 2 (nI j) (ldG 48 35 S 14 pos j)) ((), ldG 48 35 S 14 pos 13) := by
  intro m
  induction m with
  | zero =>
    intro j hj
    refine ev_succ (fun n => F208_144e2 n ..) ?_
    have hj : j = 13 := by omega
    subst hj
    simp only [F208_144b2, L0, L1, L2, L3, L4, L5, L6, L7, L8, L9, L10, L11, L12, L13, L16, L20, L31, L32, L40, L48, L57, L59, L60, L61, L91, L93, L97, L99, L100, L102, L103, L114, L122, L255, L300, L400, L402, L999, L2280, L2500, L99999, L63, L1431655765, L858993459, L252645135]
    simp (disch := omega) only [ic_ge, Nat.le_refl, decide_eq_true_eq, decide_true, decide_false, Bool.not_eq_true, Bool.not_eq_true', Bool.not_true, Bool.not_false, decide_eq_false_iff_not, Bool.false_eq_true, not_false_eq_true, not_true_eq_false, if_true, if_false, ↓reduceIte, eq_self, Option.bind_some, Bool.true_and, Bool.false_and, Bool.and_true, Bool.and_false]
    exact ev_ret
  | succ m ih =>
    intro j hj
    refine ev_succ (fun n => F208_144e2 n ..) ?_
    have e : ¬ 13 ≤ j := by omega
    have e9 : (ldG 48 35 S 14 pos j).1 49 = nI 1 := by rw [ld_n (by decide)]; exact h9
    have e8 : (ldG 48 35 S 14 pos j).1 48 = nI (pos + j) := ld_p
    simp (disch := omega) only [F208_144b2, L0, L1, L2, L3, L4, L5, L6, L7, L8, L9, L10, L11, L12, L13, L16, L20, L31, L32, L40, L48, L57, L59, L60, L61, L91, L93, L97, L99, L100, L102, L103, L114, L122, L255, L300, L400, L402, L999, L2280, L2500, L99999, L63, L1431655765, L858993459, L252645135, ic_ge, ic_gt, ic_le, ic_lt, ic_eq, ic_ne, if_lt, if_ge, if_gt, if_le, if_eq, if_ne, if_lt_zI, if_ge_zI, ic_ne_m1, ic_eq_m1, ic_nn_m1, ic_ee_m1, if_ne_b2i, if_eq_b2i, b2i_z, decide_eq_true_eq, decide_true, decide_false, Bool.not_eq_true, Bool.not_eq_true', Bool.not_true, Bool.not_false, decide_eq_false_iff_not, Bool.false_eq_true, not_false_eq_true, not_true_eq_false, if_true, if_false, ↓reduceIte, eq_self, Option.bind_some, Bool.true_and, Bool.false_and, Bool.and_true, Bool.and_false, nI_add, nI_subN, nI_clamp, gdF, gdF2, gdP, gdP2, zI_cl, zI_s, Lm1, nI_n0, zI_n0, leF, or_false, false_or, or_self, e]
    refine ev_bind (f207b e8 e9 (by omega)) ?_
    have er : (ldG 48 35 S 14 pos j).2.1 35 (pos + j) = S.2.1 35 (pos + j) := by rw [ld_r (by decide)]
    simp only [er]
    have ex : m_sA (m_sI (ldG 48 35 S 14 pos j) 48 (nI (pos + j + 1))) 14 j (S.2.1 35 (pos + j)) = m_sI (m_sA (ldG 48 35 S 14 pos j) 14 j (S.2.1 35 (pos + j))) 48 (nI (pos + j + 1)) := rfl
    rw [ex, ld_s]
    exact ih (j + 1) (by omega)
theorem f208_144b {S : mS} {pos : Nat} (h8 : S.1 48 = nI pos) (h9 : S.1 49 = nI 1) (hp : pos + 13 ≤ 2280) : Ev (fun n => F208_144 n S) ((), ldG 48 35 S 14 pos 13) := by
  refine ev_succ (fun n => F208_144e0 n ..) ?_
  simp only [F208_144b0, L0]
  have := f208_144bl h9 hp 13 0 (by omega)
  rw [ld_0 h8] at this
  exact this
theorem f208_145sl {S : mS} {pos : Nat} (h9 : S.1 49 = nI 0) (hp : pos + 13 ≤ 2280) : ∀ m j, j + m = 13 → Ev (fun n => F208_145f n 2 (nI j) (svG 48 35 S 15 pos j)) ((), svG 48 35 S 15 pos 13) := by
  intro m
  induction m with
  | zero =>
    intro j hj
    refine ev_succ (fun n => F208_145e2 n ..) ?_
    have hj : j = 13 := by omega
    subst hj
    simp only [F208_145b2, L0, L1, L2, L3, L4, L5, L6, L7, L8, L9, L10, L11, L12, L13, L16, L20, L31, L32, L40, L48, L57, L59, L60, L61, L91, L93, L97, L99, L100, L102, L103, L114, L122, L255, L300, L400, L402, L999, L2280, L2500, L99999, L63, L1431655765, L858993459, L252645135]
    simp (disch := omega) only [ic_ge, Nat.le_refl, decide_eq_true_eq, decide_true, decide_false, Bool.not_eq_true, Bool.not_eq_true', Bool.not_true, Bool.not_false, decide_eq_false_iff_not, Bool.false_eq_true, not_false_eq_true, not_true_eq_false, if_true, if_false, ↓reduceIte, eq_self, Option.bind_some, Bool.true_and, Bool.false_and, Bool.and_true, Bool.and_false]
    exact ev_ret
  | succ m ih =>
    intro j hj
    refine ev_succ (fun n => F208_145e2 n ..) ?_
    have e : ¬ 13 ≤ j := by omega
    have e9 : (svG 48 35 S 15 pos j).1 49 = nI 0 := by rw [sv_n (by decide)]; exact h9
    have e8 : (svG 48 35 S 15 pos j).1 48 = nI (pos + j) := sv_p
    simp (disch := omega) only [F208_145b2, L0, L1, L2, L3, L4, L5, L6, L7, L8, L9, L10, L11, L12, L13, L16, L20, L31, L32, L40, L48, L57, L59, L60, L61, L91, L93, L97, L99, L100, L102, L103, L114, L122, L255, L300, L400, L402, L999, L2280, L2500, L99999, L63, L1431655765, L858993459, L252645135, ic_ge, ic_gt, ic_le, ic_lt, ic_eq, ic_ne, if_lt, if_ge, if_gt, if_le, if_eq, if_ne, if_lt_zI, if_ge_zI, ic_ne_m1, ic_eq_m1, ic_nn_m1, ic_ee_m1, if_ne_b2i, if_eq_b2i, b2i_z, decide_eq_true_eq, decide_true, decide_false, Bool.not_eq_true, Bool.not_eq_true', Bool.not_true, Bool.not_false, decide_eq_false_iff_not, Bool.false_eq_true, not_false_eq_true, not_true_eq_false, if_true, if_false, ↓reduceIte, eq_self, Option.bind_some, Bool.true_and, Bool.false_and, Bool.and_true, Bool.and_false, nI_add, nI_subN, nI_clamp, gdF, gdF2, gdP, gdP2, zI_cl, zI_s, Lm1, nI_n0, zI_n0, leF, or_false, false_or, or_self, e]
    refine ev_bind (f207s e8 e9 (by omega)) ?_
    have er : (svG 48 35 S 15 pos j).2.1 15 j = S.2.1 15 j := by rw [sv_r (by decide)]
    simp only [er]
    rw [sv_s, m_sA_id (by rw [sv_r (by decide)])]
    exact ih (j + 1) (by omega)
theorem f208_145s {S : mS} {pos : Nat} (h8 : S.1 48 = nI pos) (h9 : S.1 49 = nI 0) (hp : pos + 13 ≤ 2280) : Ev (fun n => F208_145 n S) ((), svG 48 35 S 15 pos 13) := by
  refine ev_succ (fun n => F208_145e0 n ..) ?_
  simp only [F208_145b0, L0]
  have := f208_145sl h9 hp 13 0 (by omega)
  rw [sv_0 h8] at this
  exact this
theorem f208_145bl {S : mS} {pos : Nat} (h9 : S.1 49 = nI 1) (hp : pos + 13 ≤ 2280) : ∀ m j, j + m = 13 → Ev (fun n => F208_145f n 2 (nI j) (ldG 48 35 S 15 pos j)) ((), ldG 48 35 S 15 pos 13) := by
  intro m
  induction m with
  | zero =>
    intro j hj
    refine ev_succ (fun n => F208_145e2 n ..) ?_
    have hj : j = 13 := by omega
    subst hj
    simp only [F208_145b2, L0, L1, L2, L3, L4, L5, L6, L7, L8, L9, L10, L11, L12, L13, L16, L20, L31, L32, L40, L48, L57, L59, L60, L61, L91, L93, L97, L99, L100, L102, L103, L114, L122, L255, L300, L400, L402, L999, L2280, L2500, L99999, L63, L1431655765, L858993459, L252645135]
    simp (disch := omega) only [ic_ge, Nat.le_refl, decide_eq_true_eq, decide_true, decide_false, Bool.not_eq_true, Bool.not_eq_true', Bool.not_true, Bool.not_false, decide_eq_false_iff_not, Bool.false_eq_true, not_false_eq_true, not_true_eq_false, if_true, if_false, ↓reduceIte, eq_self, Option.bind_some, Bool.true_and, Bool.false_and, Bool.and_true, Bool.and_false]
    exact ev_ret
  | succ m ih =>
    intro j hj
    refine ev_succ (fun n => F208_145e2 n ..) ?_
    have e : ¬ 13 ≤ j := by omega
    have e9 : (ldG 48 35 S 15 pos j).1 49 = nI 1 := by rw [ld_n (by decide)]; exact h9
    have e8 : (ldG 48 35 S 15 pos j).1 48 = nI (pos + j) := ld_p
    simp (disch := omega) only [F208_145b2, L0, L1, L2, L3, L4, L5, L6, L7, L8, L9, L10, L11, L12, L13, L16, L20, L31, L32, L40, L48, L57, L59, L60, L61, L91, L93, L97, L99, L100, L102, L103, L114, L122, L255, L300, L400, L402, L999, L2280, L2500, L99999, L63, L1431655765, L858993459, L252645135, ic_ge, ic_gt, ic_le, ic_lt, ic_eq, ic_ne, if_lt, if_ge, if_gt, if_le, if_eq, if_ne, if_lt_zI, if_ge_zI, ic_ne_m1, ic_eq_m1, ic_nn_m1, ic_ee_m1, if_ne_b2i, if_eq_b2i, b2i_z, decide_eq_true_eq, decide_true, decide_false, Bool.not_eq_true, Bool.not_eq_true', Bool.not_true, Bool.not_false, decide_eq_false_iff_not, Bool.false_eq_true, not_false_eq_true, not_true_eq_false, if_true, if_false, ↓reduceIte, eq_self, Option.bind_some, Bool.true_and, Bool.false_and, Bool.and_true, Bool.and_false, nI_add, nI_subN, nI_clamp, gdF, gdF2, gdP, gdP2, zI_cl, zI_s, Lm1, nI_n0, zI_n0, leF, or_false, false_or, or_self, e]
    refine ev_bind (f207b e8 e9 (by omega)) ?_
    have er : (ldG 48 35 S 15 pos j).2.1 35 (pos + j) = S.2.1 35 (pos + j) := by rw [ld_r (by decide)]
    simp only [er]
    have ex : m_sA (m_sI (ldG 48 35 S 15 pos j) 48 (nI (pos + j + 1))) 15 j (S.2.1 35 (pos + j)) = m_sI (m_sA (ldG 48 35 S 15 pos j) 15 j (S.2.1 35 (pos + j))) 48 (nI (pos + j + 1)) := rfl
    rw [ex, ld_s]
    exact ih (j + 1) (by omega)
theorem f208_145b {S : mS} {pos : Nat} (h8 : S.1 48 = nI pos) (h9 : S.1 49 = nI 1) (hp : pos + 13 ≤ 2280) : Ev (fun n => F208_145 n S) ((), ldG 48 35 S 15 pos 13) := by
  refine ev_succ (fun n => F208_145e0 n ..) ?_
  simp only [F208_145b0, L0]
  have := f208_145bl h9 hp 13 0 (by omega)
  rw [ld_0 h8] at this
  exact this
