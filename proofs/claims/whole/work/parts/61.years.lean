/-! years -/
def rndN (a : Nat) : Nat := (a * 1103515245 + 12345) % 2147483648
theorem rndN_lt {a : Nat} : rndN a < 2 ^ 31 := Nat.mod_lt _ (by decide)
theorem rnd_eq {a : Nat} (ha : a < 2 ^ 31) : Int64.toInt32 ((((Int32.toInt64 (nI a)) * 1103515245) + 12345) - (((Int32.toInt64 (nI a)) * 1103515245) + 12345) / 2147483648 * 2147483648) = nI (rndN a) := by
  have h1 : Int32.toInt64 (nI a) = Int64.ofNat a := Int32.toInt64_ofNat' (by have : Int32.maxValue.toInt = 2147483647 := by { decide }; omega)
  have h2 : Int32.toInt64 (nI a) * 1103515245 + 12345 = Int64.ofNat (a * 1103515245 + 12345) := by
    rw [h1, Int64.ofNat_add, Int64.ofNat_mul]
    rfl
  have h3 : Int64.ofNat (a * 1103515245 + 12345) / 2147483648 = Int64.ofNat ((a * 1103515245 + 12345) / 2147483648) := (Int64.ofNat_div (by omega) (by decide)).symm
  rw [h2, h3]
  have h4 : Int64.ofNat ((a * 1103515245 + 12345) / 2147483648) * 2147483648 = Int64.ofNat ((a * 1103515245 + 12345) / 2147483648 * 2147483648) := (Int64.ofNat_mul _ _).symm
  rw [h4, ← Int64.ofNat_sub _ _ (Nat.div_mul_le_self _ _), Int64.toInt32_ofNat']
  show nI _ = nI _
  refine congrArg nI ?_
  unfold rndN
  have := Nat.div_add_mod' (a * 1103515245 + 12345) 2147483648
  omega
theorem g146 {a : Nat} (ha : a < 2 ^ 31) (T : xS) : Ev (fun n => G146 n (nI a) T) (nI (rndN a), T) := by
  refine ev_succ (fun n => G146e0 n ..) ?_
  simp only [G146b0, rnd_eq ha]
  exact ev_ret
theorem g147 {a : Nat} (ha : a < 2 ^ 31) (T : xS) : Ev (fun n => G147 n (nI a) T) (nI (a / 65536), T) := by
  refine ev_succ (fun n => G147e0 n ..) ?_
  have h : nI a / 65536 = nI (a / 65536) := pk_div (d := 65536) ha (by decide) (by decide)
  simp only [G147b0, h]
  exact ev_ret
theorem f263 {a c : Nat} {S : mS} (ha : a < 2 ^ 31) (hS : S.2.1 1 7 = nI a) (hc0 : 0 < c) (hc : c < 2 ^ 31) : Ev (fun n => F263 n (nI c) S) (nI (rndN a / 65536 % c), m_sA S 1 7 (nI (rndN a))) := by
  refine ev_succ (fun n => F263e0 n ..) ?_
  have hz : ¬ nI c = 0 := by
    intro h
    have := (nI_eqI' (a := c) (b := 0) hc (by decide)).mp h
    omega
  have h : nI (rndN a) / 65536 = nI (rndN a / 65536) := pk_div (d := 65536) rndN_lt (by decide) (by decide)
  have h2 : nI (rndN a / 65536) - nI (rndN a / 65536) / nI c * nI c = nI (rndN a / 65536 % c) := pk_rem (by have := rndN_lt (a := a); omega) hc0 hc
  simp only [F263b0, hS, rnd_eq ha, m_rAe, h, h2, if_neg hz]
  exact ev_ret
def yrA (b : AB) (l : LW) : Nat → Nat × AW → Nat × AW
  | 0, p => p
  | i + 1, p => yrA b l i (rndN (rndN p.1), dayA b l (if 12 ≤ p.2.1 0 1 then p.2 else addA p.2 (rndN p.1 / 65536 % b 0 0) (rndN (rndN p.1) / 65536 % 6 + 1) 0))
theorem isTx_1 {c : Nat} (h : c < 6) : isTx (c + 1) = true := (by decide +kernel : ∀ c, c < 6 → isTx (c + 1) = true) c h
section Y
variable {b : AB} {l : LW}
theorem yrA_x : ∀ (i : Nat) (p : Nat × AW), p.1 < 2 ^ 31 → (yrA b l i p).1 < 2 ^ 31 := by
  intro i
  induction i with
  | zero =>
    intro p h
    exact h
  | succ i ih =>
    intro p h
    unfold yrA
    exact ih _ rndN_lt
variable {T0 : xS} {lo : Option Nat} {ln : Nat} {cc : Nat → Int32}
theorem g145l {m : Nat} (hb : OkB b) (hb0 : ¬ b 0 0 = 0) (hm : m ≤ 60) : ∀ (i j x : Nat) (T : xS) (w : AW), j + i = m → x < 2 ^ 31 → w.1 0 0 + i < 990 → w.1 0 1 ≤ 12 → DS T0 T 110 lo ln b l cc w → Ep (fun n => G145f 110 lo ln n 5 (nI m) (nI 0) (nI x) (nI j) T) (fun z => z.1 = nI (yrA b l i (x, w)).1 ∧ DS T0 z.2 110 lo ln b l cc (yrA b l i (x, w)).2) := by
  have hb1 := hb.1
  intro i
  induction i with
  | zero =>
    intro j x T w hj hx hd hn hS
    refine ep_succ (fun n => G145e5 110 lo ln n ..) ?_
    have e : m ≤ j := by omega
    simp (disch := omega) only [G145b5, L0, L1, L2, L3, L4, L5, L6, L7, L8, L9, L10, L11, L12, L13, L16, L20, L31, L32, L40, L48, L57, L59, L60, L61, L91, L93, L97, L99, L100, L102, L103, L114, L122, L255, L300, L400, L402, L999, L2280, L2500, L99999, L63, L1431655765, L858993459, L252645135, ic_ge, ic_gt, ic_le, ic_lt, ic_eq, ic_ne, if_lt, if_ge, if_gt, if_le, if_eq, if_ne, if_lt_zI, if_ge_zI, ic_ne_m1, ic_eq_m1, ic_nn_m1, ic_ee_m1, if_ne_b2i, if_eq_b2i, b2i_z, decide_eq_true_eq, decide_true, decide_false, Bool.not_eq_true, Bool.not_eq_true', Bool.not_true, Bool.not_false, decide_eq_false_iff_not, Bool.false_eq_true, not_false_eq_true, not_true_eq_false, if_true, if_false, ↓reduceIte, eq_self, Option.bind_some, Bool.true_and, Bool.false_and, Bool.and_true, Bool.and_false, nI_add, nI_subN, nI_clamp, gdF, gdF2, gdP, gdP2, zI_cl, zI_s, Lm1, nI_n0, zI_n0, leF, or_false, false_or, or_self, e]
    exact ep_ret ⟨rfl, hS⟩
  | succ i ih =>
    intro j x T w hj hx hd hn hS
    refine ep_succ (fun n => G145e5 110 lo ln n ..) ?_
    have e : ¬ m ≤ j := by omega
    have hc0 : T.1 89 0 = nI (b 0 0) := hS.1.2.2.2.2.1.1
    have hb4 : T.2.2.2 109 4 = some 110 := hS.1.2.2.1
    have hn1 : T.1 110 1 = nI (w.1 0 1) := hS.2.1.2.1
    have ok := hS.2.2.1
    have r1 := rndN_lt (a := x)
    have r2 := rndN_lt (a := rndN x)
    simp (disch := omega) only [G145b5, L0, L1, L2, L3, L4, L5, L6, L7, L8, L9, L10, L11, L12, L13, L16, L20, L31, L32, L40, L48, L57, L59, L60, L61, L91, L93, L97, L99, L100, L102, L103, L114, L122, L255, L300, L400, L402, L999, L2280, L2500, L99999, L63, L1431655765, L858993459, L252645135, ic_ge, ic_gt, ic_le, ic_lt, ic_eq, ic_ne, if_lt, if_ge, if_gt, if_le, if_eq, if_ne, if_lt_zI, if_ge_zI, ic_ne_m1, ic_eq_m1, ic_nn_m1, ic_ee_m1, if_ne_b2i, if_eq_b2i, b2i_z, decide_eq_true_eq, decide_true, decide_false, Bool.not_eq_true, Bool.not_eq_true', Bool.not_true, Bool.not_false, decide_eq_false_iff_not, Bool.false_eq_true, not_false_eq_true, not_true_eq_false, if_true, if_false, ↓reduceIte, eq_self, Option.bind_some, Bool.true_and, Bool.false_and, Bool.and_true, Bool.and_false, nI_add, nI_subN, nI_clamp, gdF, gdF2, gdP, gdP2, zI_cl, zI_s, Lm1, nI_n0, zI_n0, leF, or_false, false_or, or_self, e]
    refine ep_bv (b := (nI 1, T)) ?_ ?_
    · refine ev_succ (fun n => G82e0 n ..) ?_
      simp (disch := omega) only [G82b0, hc0, hb0, if_le, decide_eq_true_eq, decide_true, decide_false, Bool.not_eq_true, Bool.not_eq_true', Bool.not_true, Bool.not_false, decide_eq_false_iff_not, Bool.false_eq_true, not_false_eq_true, not_true_eq_false, if_true, if_false, ↓reduceIte, eq_self, Option.bind_some, Bool.true_and, Bool.false_and, Bool.and_true, Bool.and_false, L0, L1, L2, L3, L4, L5, L6, L7, L8, L9, L10, L11, L12, L13, L16, L20, L31, L32, L40, L48, L57, L59, L60, L61, L91, L93, L97, L99, L100, L102, L103, L114, L122, L255, L300, L400, L402, L999, L2280, L2500, L99999, L63, L1431655765, L858993459, L252645135]
      exact ev_ret
    · simp (disch := omega) only [if_eq, Nat.one_ne_zero, decide_eq_true_eq, decide_true, decide_false, Bool.not_eq_true, Bool.not_eq_true', Bool.not_true, Bool.not_false, decide_eq_false_iff_not, Bool.false_eq_true, not_false_eq_true, not_true_eq_false, if_true, if_false, ↓reduceIte, eq_self, Option.bind_some, Bool.true_and, Bool.false_and, Bool.and_true, Bool.and_false]
      refine ep_bv (g146 hx T) ?_
      refine ep_bv (g147 r1 T) ?_
      have hz : ¬ nI (b 0 0) = nI 0 := by
        intro h
        have := (nI_eqI' (a := b 0 0) (b := 0) (by omega) (by decide)).mp h
        omega
      simp only [hc0, hz, decide_eq_true_eq, decide_true, decide_false, Bool.not_eq_true, Bool.not_eq_true', Bool.not_true, Bool.not_false, decide_eq_false_iff_not, Bool.false_eq_true, not_false_eq_true, not_true_eq_false, if_true, if_false, ↓reduceIte, eq_self, Option.bind_some, Bool.true_and, Bool.false_and, Bool.and_true, Bool.and_false]
      refine ep_bv (g146 r1 T) ?_
      refine ep_bv (g147 r2 T) ?_
      have q1 : nI (rndN x / 65536) - nI (rndN x / 65536) / nI (b 0 0) * nI (b 0 0) = nI (rndN x / 65536 % b 0 0) := pk_rem (by omega) (by omega) (by omega)
      have q2 : nI (rndN (rndN x) / 65536) - nI (rndN (rndN x) / 65536) / nI 6 * nI 6 = nI (rndN (rndN x) / 65536 % 6) := pk_rem (by omega) (by decide) (by decide)
      have hc : rndN x / 65536 % b 0 0 < b 0 0 := Nat.mod_lt _ (by omega)
      have h6 : rndN (rndN x) / 65536 % 6 < 6 := Nat.mod_lt _ (by decide)
      simp (disch := omega) only [hb4, hn1, q1, q2, ic_ge, nI_add, decide_eq_true_eq, decide_true, decide_false, Bool.not_eq_true, Bool.not_eq_true', Bool.not_true, Bool.not_false, decide_eq_false_iff_not, Bool.false_eq_true, not_false_eq_true, not_true_eq_false, if_true, if_false, ↓reduceIte, eq_self, Option.bind_some, Bool.true_and, Bool.false_and, Bool.and_true, Bool.and_false]
      unfold yrA
      by_cases h12 : 12 ≤ w.1 0 1
      · simp only [h12, decide_eq_true_eq, decide_true, decide_false, Bool.not_eq_true, Bool.not_eq_true', Bool.not_true, Bool.not_false, decide_eq_false_iff_not, Bool.false_eq_true, not_false_eq_true, not_true_eq_false, if_true, if_false, ↓reduceIte, eq_self, Option.bind_some, Bool.true_and, Bool.false_and, Bool.and_true, Bool.and_false]
        refine ep_bind (g86 (by omega) hS) ?_
        rintro ⟨_, T2⟩ h1
        exact ih (j + 1) _ T2 _ (by omega) r2 (by rw [dayA_d hb ok]; omega) (by rw [dayA_n hb ok]; exact hn) h1
      · simp only [h12, decide_eq_true_eq, decide_true, decide_false, Bool.not_eq_true, Bool.not_eq_true', Bool.not_true, Bool.not_false, decide_eq_false_iff_not, Bool.false_eq_true, not_false_eq_true, not_true_eq_false, if_true, if_false, ↓reduceIte, eq_self, Option.bind_some, Bool.true_and, Bool.false_and, Bool.and_true, Bool.and_false]
        rw [Nat.add_comm 1]
        refine ep_bind (g50 (p := 110) hS.2.1 (by omega) (isTx_1 h6)) ?_
        rintro ⟨z1, T2⟩ ⟨s1, s2, s3⟩
        have s3 : FrW 110 T T2 := s3
        have ds2 := DS_add hS hn (isTx_1 h6) hc (by omega) s2 s3 (s3.1 109 (by omega)).1
        have ok2 := ds2.2.2.1
        refine ep_bind (g86 (by rw [addA_d]; omega) ds2) ?_
        rintro ⟨_, T3⟩ h1
        exact ih (j + 1) _ T3 _ (by omega) r2 (by rw [dayA_d hb ok2, addA_d]; omega) (by rw [dayA_n hb ok2, addA_n]; omega) h1
theorem g145 {m x : Nat} {T : xS} {w : AW} (hb : OkB b) (hb0 : ¬ b 0 0 = 0) (hm : m ≤ 60) (hx : x < 2 ^ 31) (hd : w.1 0 0 < 900) (hn : w.1 0 1 ≤ 12) (hS : DS T0 T 110 lo ln b l cc w) : Ep (fun n => G145 110 lo ln n (nI m) (nI x) T) (fun z => z.1 = nI (yrA b l m (x, w)).1 ∧ DS T0 z.2 110 lo ln b l cc (yrA b l m (x, w)).2) := by
  refine ep_succ (fun n => G145e0 110 lo ln n ..) ?_
  simp only [G145b0, L0]
  exact g145l hb hb0 hm m 0 x T w (by omega) hx (by omega) hn hS
end Y
/-- times: the seed, the sum -/
def yrT (b : AB) (l : LW) (w : AW) (m f : Nat) : Nat → Nat × Int32 → Nat × Int32
  | 0, p => p
  | i + 1, p => yrT b l w m f i ((yrA b l m (p.1, w)).1, p.2 + (nI (cf (yrA b l m (p.1, w)).2 f) - nI (cf w f)))
theorem g144l {k : Nat} {A : AA} {G : gS} {t m v : Nat} (ok : OkA k A) (hk : k < 512) (h0 : ¬ A.2.2.1.1 0 0 = 0) (ht : t ≤ 10) (hm : m ≤ 60) (hv : v ≤ 2) : ∀ (i j x : Nat) (y : Int32) (T : xS), j + i = t → x < 2 ^ 31 → RC A T G → Ep (fun n => G144f n 51 (nI t) (nI m) (nI v) (nI x) y (nI j) (T, G)) (fun z => z.1 = (yrT A.2.2.1.1 (lawA A.2.1.2 A.2.2.1.2.2.2.1) A.2.2.1.2.1 m (v + 1) i (x, y)).2 ∧ RC A z.2.1 z.2.2 ∧ z.2.2 = G) := by
  have hb := OkA_b ok
  have hday := (ok.2.2.2.1.2.2.1 A.2.2.1.2.1 (Or.inl rfl)).2.2.1
  have hn := (ok.2.2.2.1.2.2.1 A.2.2.1.2.1 (Or.inl rfl)).2.1
  intro i
  induction i with
  | zero =>
    intro j x y T hj hx hR
    refine ep_succ (fun n => G144e51 n ..) ?_
    have e : t ≤ j := by omega
    simp (disch := omega) only [G144b51, L0, L1, L2, L3, L4, L5, L6, L7, L8, L9, L10, L11, L12, L13, L16, L20, L31, L32, L40, L48, L57, L59, L60, L61, L91, L93, L97, L99, L100, L102, L103, L114, L122, L255, L300, L400, L402, L999, L2280, L2500, L99999, L63, L1431655765, L858993459, L252645135, ic_ge, ic_gt, ic_le, ic_lt, ic_eq, ic_ne, if_lt, if_ge, if_gt, if_le, if_eq, if_ne, if_lt_zI, if_ge_zI, ic_ne_m1, ic_eq_m1, ic_nn_m1, ic_ee_m1, if_ne_b2i, if_eq_b2i, b2i_z, decide_eq_true_eq, decide_true, decide_false, Bool.not_eq_true, Bool.not_eq_true', Bool.not_true, Bool.not_false, decide_eq_false_iff_not, Bool.false_eq_true, not_false_eq_true, not_true_eq_false, if_true, if_false, ↓reduceIte, eq_self, Option.bind_some, Bool.true_and, Bool.false_and, Bool.and_true, Bool.and_false, nI_add, nI_subN, nI_clamp, gdF, gdF2, gdP, gdP2, zI_cl, zI_s, Lm1, nI_n0, zI_n0, leF, or_false, false_or, or_self, e]
    exact ep_ret ⟨rfl, hR, rfl⟩
  | succ i ih =>
    intro j x y T hj hx hR
    refine ep_succ (fun n => G144e51 n ..) ?_
    have e : ¬ t ≤ j := by omega
    simp (disch := omega) only [G144b51, L0, L1, L2, L3, L4, L5, L6, L7, L8, L9, L10, L11, L12, L13, L16, L20, L31, L32, L40, L48, L57, L59, L60, L61, L91, L93, L97, L99, L100, L102, L103, L114, L122, L255, L300, L400, L402, L999, L2280, L2500, L99999, L63, L1431655765, L858993459, L252645135, ic_ge, ic_gt, ic_le, ic_lt, ic_eq, ic_ne, if_lt, if_ge, if_gt, if_le, if_eq, if_ne, if_lt_zI, if_ge_zI, ic_ne_m1, ic_eq_m1, ic_nn_m1, ic_ee_m1, if_ne_b2i, if_eq_b2i, b2i_z, decide_eq_true_eq, decide_true, decide_false, Bool.not_eq_true, Bool.not_eq_true', Bool.not_true, Bool.not_false, decide_eq_false_iff_not, Bool.false_eq_true, not_false_eq_true, not_true_eq_false, if_true, if_false, ↓reduceIte, eq_self, Option.bind_some, Bool.true_and, Bool.false_and, Bool.and_true, Bool.and_false, nI_add, nI_subN, nI_clamp, gdF, gdF2, gdP, gdP2, zI_cl, zI_s, Lm1, nI_n0, zI_n0, leF, or_false, false_or, or_self, e]
    obtain ⟨lo, e1, e2, e3⟩ := g84 ok hR
    refine ep_bv e1 ?_
    simp only [e2, decide_eq_true_eq, decide_true, decide_false, Bool.not_eq_true, Bool.not_eq_true', Bool.not_true, Bool.not_false, decide_eq_false_iff_not, Bool.false_eq_true, not_false_eq_true, not_true_eq_false, if_true, if_false, ↓reduceIte, eq_self, Option.bind_some, Bool.true_and, Bool.false_and, Bool.and_true, Bool.and_false]
    refine ep_bind (g109 ok hR e3) ?_
    rintro ⟨_, T1⟩ ⟨d1, d2⟩
    have d1 : DS T1 T1 110 lo (lawN G lo) A.2.2.1.1 (lawA A.2.1.2 A.2.2.1.2.2.2.1) (fun f => nI (cf A.2.2.1.2.1 f)) A.2.2.1.2.1 := d1
    refine ep_bind (g145 hb h0 hm hx (by omega) hn d1) ?_
    rintro ⟨z1, T2⟩ ⟨a1, a2⟩
    have a1 : z1 = nI (yrA A.2.2.1.1 (lawA A.2.1.2 A.2.2.1.2.2.2.1) m (x, A.2.2.1.2.1)).1 := a1
    have a2 : DS T1 T2 110 lo (lawN G lo) A.2.2.1.1 (lawA A.2.1.2 A.2.2.1.2.2.2.1) (fun f => nI (cf A.2.2.1.2.1 f)) (yrA A.2.2.1.1 (lawA A.2.1.2 A.2.2.1.2.2.2.1) m (x, A.2.2.1.2.1)).2 := a2
    subst a1
    have hRf := RC_L hR (FrL_tr d2 (FrS_L' a2.2.2.2.2))
    obtain ⟨k1, k2, k3⟩ := a2.2.2.2.1
    have sb : ∀ {p q r : Int32}, p + q = r → p = r - q := by
      intro p q r h
      rw [← h]
      exact (Int32.add_sub_cancel _ _).symm
    have k1 : T2.1 109 6 = nI (cf (yrA A.2.2.1.1 (lawA A.2.1.2 A.2.2.1.2.2.2.1) m (x, A.2.2.1.2.1)).2 1) - nI (cf A.2.2.1.2.1 1) := sb k1
    have k2 : T2.1 109 7 = nI (cf (yrA A.2.2.1.1 (lawA A.2.1.2 A.2.2.1.2.2.2.1) m (x, A.2.2.1.2.1)).2 2) - nI (cf A.2.2.1.2.1 2) := sb k2
    have k3 : T2.1 109 8 = nI (cf (yrA A.2.2.1.1 (lawA A.2.1.2 A.2.2.1.2.2.2.1) m (x, A.2.2.1.2.1)).2 3) - nI (cf A.2.2.1.2.1 3) := sb k3
    have hx' := yrA_x (b := A.2.2.1.1) (l := lawA A.2.1.2 A.2.2.1.2.2.2.1) m (x, A.2.2.1.2.1) hx
    have go := fun y => ih (j + 1) _ y T2 (by omega) hx' hRf
    unfold yrT
    have hv' : v = 0 ∨ v = 1 ∨ v = 2 := by omega
    rcases hv' with rfl | rfl | rfl
    · simp (disch := omega) only [L0, L1, L2, L3, L4, L5, L6, L7, L8, L9, L10, L11, L12, L13, L16, L20, L31, L32, L40, L48, L57, L59, L60, L61, L91, L93, L97, L99, L100, L102, L103, L114, L122, L255, L300, L400, L402, L999, L2280, L2500, L99999, L63, L1431655765, L858993459, L252645135, ic_ge, ic_gt, ic_le, ic_lt, ic_eq, ic_ne, if_lt, if_ge, if_gt, if_le, if_eq, if_ne, if_lt_zI, if_ge_zI, ic_ne_m1, ic_eq_m1, ic_nn_m1, ic_ee_m1, if_ne_b2i, if_eq_b2i, b2i_z, decide_eq_true_eq, decide_true, decide_false, Bool.not_eq_true, Bool.not_eq_true', Bool.not_true, Bool.not_false, decide_eq_false_iff_not, Bool.false_eq_true, not_false_eq_true, not_true_eq_false, if_true, if_false, ↓reduceIte, eq_self, Option.bind_some, Bool.true_and, Bool.false_and, Bool.and_true, Bool.and_false, nI_add, nI_subN, nI_clamp, gdF, gdF2, gdP, gdP2, zI_cl, zI_s, Lm1, nI_n0, zI_n0, leF, or_false, false_or, or_self, k1]
      exact go _
    · simp (disch := omega) only [L0, L1, L2, L3, L4, L5, L6, L7, L8, L9, L10, L11, L12, L13, L16, L20, L31, L32, L40, L48, L57, L59, L60, L61, L91, L93, L97, L99, L100, L102, L103, L114, L122, L255, L300, L400, L402, L999, L2280, L2500, L99999, L63, L1431655765, L858993459, L252645135, ic_ge, ic_gt, ic_le, ic_lt, ic_eq, ic_ne, if_lt, if_ge, if_gt, if_le, if_eq, if_ne, if_lt_zI, if_ge_zI, ic_ne_m1, ic_eq_m1, ic_nn_m1, ic_ee_m1, if_ne_b2i, if_eq_b2i, b2i_z, decide_eq_true_eq, decide_true, decide_false, Bool.not_eq_true, Bool.not_eq_true', Bool.not_true, Bool.not_false, decide_eq_false_iff_not, Bool.false_eq_true, not_false_eq_true, not_true_eq_false, if_true, if_false, ↓reduceIte, eq_self, Option.bind_some, Bool.true_and, Bool.false_and, Bool.and_true, Bool.and_false, nI_add, nI_subN, nI_clamp, gdF, gdF2, gdP, gdP2, zI_cl, zI_s, Lm1, nI_n0, zI_n0, leF, or_false, false_or, or_self, k2, Nat.one_ne_zero]
      exact go _
    · simp (disch := omega) only [L0, L1, L2, L3, L4, L5, L6, L7, L8, L9, L10, L11, L12, L13, L16, L20, L31, L32, L40, L48, L57, L59, L60, L61, L91, L93, L97, L99, L100, L102, L103, L114, L122, L255, L300, L400, L402, L999, L2280, L2500, L99999, L63, L1431655765, L858993459, L252645135, ic_ge, ic_gt, ic_le, ic_lt, ic_eq, ic_ne, if_lt, if_ge, if_gt, if_le, if_eq, if_ne, if_lt_zI, if_ge_zI, ic_ne_m1, ic_eq_m1, ic_nn_m1, ic_ee_m1, if_ne_b2i, if_eq_b2i, b2i_z, decide_eq_true_eq, decide_true, decide_false, Bool.not_eq_true, Bool.not_eq_true', Bool.not_true, Bool.not_false, decide_eq_false_iff_not, Bool.false_eq_true, not_false_eq_true, not_true_eq_false, if_true, if_false, ↓reduceIte, eq_self, Option.bind_some, Bool.true_and, Bool.false_and, Bool.and_true, Bool.and_false, nI_add, nI_subN, nI_clamp, gdF, gdF2, gdP, gdP2, zI_cl, zI_s, Lm1, nI_n0, zI_n0, leF, or_false, false_or, or_self, k3, show ¬ 2 = 0 by decide, show ¬ 2 = 1 by decide]
      exact go _
theorem f262l {S : mS} {f : Nat} {w : AW} (hw : MW S.2.1 w) (hn : w.1 0 1 ≤ 13) (h3 : ∀ s, s < w.1 0 1 → w.1 4 s ≤ 3) (hf : f ≤ 3) : ∀ (m s x : Nat), s + m = w.1 0 1 → Ev (fun n => F262f n 4 (nI f) (nI x) (nI s) S) (nI (x + ctF (fun s => decide (w.1 4 s = f)) m s), S) := by
  intro m
  induction m with
  | zero =>
    intro s x hs
    refine ev_succ (fun n => F262e4 n ..) ?_
    have e : w.1 0 1 ≤ s := by omega
    simp (disch := omega) only [F262b4, hw.1, L0, L1, L2, L3, L4, L5, L6, L7, L8, L9, L10, L11, L12, L13, L16, L20, L31, L32, L40, L48, L57, L59, L60, L61, L91, L93, L97, L99, L100, L102, L103, L114, L122, L255, L300, L400, L402, L999, L2280, L2500, L99999, L63, L1431655765, L858993459, L252645135, ic_ge, ic_gt, ic_le, ic_lt, ic_eq, ic_ne, if_lt, if_ge, if_gt, if_le, if_eq, if_ne, if_lt_zI, if_ge_zI, ic_ne_m1, ic_eq_m1, ic_nn_m1, ic_ee_m1, if_ne_b2i, if_eq_b2i, b2i_z, decide_eq_true_eq, decide_true, decide_false, Bool.not_eq_true, Bool.not_eq_true', Bool.not_true, Bool.not_false, decide_eq_false_iff_not, Bool.false_eq_true, not_false_eq_true, not_true_eq_false, if_true, if_false, ↓reduceIte, eq_self, Option.bind_some, Bool.true_and, Bool.false_and, Bool.and_true, Bool.and_false, nI_add, nI_subN, nI_clamp, gdF, gdF2, gdP, gdP2, zI_cl, zI_s, Lm1, nI_n0, zI_n0, leF, or_false, false_or, or_self, e]
    exact ev_ret
  | succ m ih =>
    intro s x hs
    refine ev_succ (fun n => F262e4 n ..) ?_
    have e : ¬ w.1 0 1 ≤ s := by omega
    have hr := (hw.2.2.2.1 s (by omega)).2.2.1
    have h3' := h3 s (by omega)
    rw [ctF_s]
    by_cases h : w.1 4 s = f
    · simp (disch := omega) only [F262b4, hw.1, L0, L1, L2, L3, L4, L5, L6, L7, L8, L9, L10, L11, L12, L13, L16, L20, L31, L32, L40, L48, L57, L59, L60, L61, L91, L93, L97, L99, L100, L102, L103, L114, L122, L255, L300, L400, L402, L999, L2280, L2500, L99999, L63, L1431655765, L858993459, L252645135, ic_ge, ic_gt, ic_le, ic_lt, ic_eq, ic_ne, if_lt, if_ge, if_gt, if_le, if_eq, if_ne, if_lt_zI, if_ge_zI, ic_ne_m1, ic_eq_m1, ic_nn_m1, ic_ee_m1, if_ne_b2i, if_eq_b2i, b2i_z, decide_eq_true_eq, decide_true, decide_false, Bool.not_eq_true, Bool.not_eq_true', Bool.not_true, Bool.not_false, decide_eq_false_iff_not, Bool.false_eq_true, not_false_eq_true, not_true_eq_false, if_true, if_false, ↓reduceIte, eq_self, Option.bind_some, Bool.true_and, Bool.false_and, Bool.and_true, Bool.and_false, nI_add, nI_subN, nI_clamp, gdF, gdF2, gdP, gdP2, zI_cl, zI_s, Lm1, nI_n0, zI_n0, leF, or_false, false_or, or_self, e, hr, h]
      rw [← Nat.add_assoc]
      exact ih (s + 1) (x + 1) (by omega)
    · simp (disch := omega) only [F262b4, hw.1, L0, L1, L2, L3, L4, L5, L6, L7, L8, L9, L10, L11, L12, L13, L16, L20, L31, L32, L40, L48, L57, L59, L60, L61, L91, L93, L97, L99, L100, L102, L103, L114, L122, L255, L300, L400, L402, L999, L2280, L2500, L99999, L63, L1431655765, L858993459, L252645135, ic_ge, ic_gt, ic_le, ic_lt, ic_eq, ic_ne, if_lt, if_ge, if_gt, if_le, if_eq, if_ne, if_lt_zI, if_ge_zI, ic_ne_m1, ic_eq_m1, ic_nn_m1, ic_ee_m1, if_ne_b2i, if_eq_b2i, b2i_z, decide_eq_true_eq, decide_true, decide_false, Bool.not_eq_true, Bool.not_eq_true', Bool.not_true, Bool.not_false, decide_eq_false_iff_not, Bool.false_eq_true, not_false_eq_true, not_true_eq_false, if_true, if_false, ↓reduceIte, eq_self, Option.bind_some, Bool.true_and, Bool.false_and, Bool.and_true, Bool.and_false, nI_add, nI_subN, nI_clamp, gdF, gdF2, gdP, gdP2, zI_cl, zI_s, Lm1, nI_n0, zI_n0, leF, or_false, false_or, or_self, e, hr, h, Nat.add_zero]
      rw [Nat.zero_add]
      exact ih (s + 1) x (by omega)
theorem f262 {S : mS} {f : Nat} {w : AW} {b : AB} (hw : MW S.2.1 w) (ok : OkW b w) (hf : f ≤ 3) : Ev (fun n => F262 n (nI f) S) (nI (cf w f), S) := by
  refine ev_succ (fun n => F262e0 n ..) ?_
  simp only [F262b0, L0]
  have := f262l hw ok.1 (fun s hs => (ok.2.1 s hs).2.1) hf (w.1 0 1) 0 0 (by omega)
  rw [Nat.zero_add] at this
  exact this
theorem DM_rf {S0 S : mS} {b : AB} {l : LW} {w : AW} (h : DM S0 S b l w) : DM S S b l w := ⟨h.1, h.2.1, h.2.2.1, h.2.2.2.1, h.2.2.2.2.1, FrM_rf⟩
theorem DM_17 {S : mS} {b : AB} {l : LW} {w : AW} {x : Int32} (h : DM S S b l w) : DM (m_sA S 1 7 x) (m_sA S 1 7 x) b l w := by
  obtain ⟨q1, hb, ⟨v0, v1, v2, v3, v4, v5⟩, q4, q5, q6⟩ := h
  refine ⟨MB_r q1 hb (fun k i hk => ?_), hb, ⟨?_, ?_, ?_, fun s hs => ?_, fun i hi => ?_, ?_⟩, q4, LM_fr q5 (m_rAi (by omega)) (fun k i _ _ => by rw [m_rAn (by omega)]), FrM_rf⟩
  · by_cases e : k = 1
    · subst e
      exact m_rAi (by omega)
    · rw [m_rAn e]
  · simp (disch := omega) only [m_rA1, m_rA3, m_rAe, m_rAn, m_rAi, m_rI2, m_rIe, m_rIn, m_rL1, m_rL2, m_rLe, m_rLi, m_rLn]
    exact v0
  · simp (disch := omega) only [m_rA1, m_rA3, m_rAe, m_rAn, m_rAi, m_rI2, m_rIe, m_rIn, m_rL1, m_rL2, m_rLe, m_rLi, m_rLn]
    exact v1
  · simp (disch := omega) only [m_rA1, m_rA3, m_rAe, m_rAn, m_rAi, m_rI2, m_rIe, m_rIn, m_rL1, m_rL2, m_rLe, m_rLi, m_rLn]
    exact v2
  · simp (disch := omega) only [m_rA1, m_rA3, m_rAe, m_rAn, m_rAi, m_rI2, m_rIe, m_rIn, m_rL1, m_rL2, m_rLe, m_rLi, m_rLn]
    exact v3 s hs
  · simp (disch := omega) only [m_rA1, m_rA3, m_rAe, m_rAn, m_rAi, m_rI2, m_rIe, m_rIn, m_rL1, m_rL2, m_rLe, m_rLi, m_rLn]
    exact v4 i hi
  · exact MN_fr v5 (by simp (disch := omega) only [m_rA1, m_rA3, m_rAe, m_rAn, m_rAi, m_rI2, m_rIe, m_rIn, m_rL1, m_rL2, m_rLe, m_rLi, m_rLn]) (fun i => by simp (disch := omega) only [m_rA1, m_rA3, m_rAe, m_rAn, m_rAi, m_rI2, m_rIe, m_rIn, m_rL1, m_rL2, m_rLe, m_rLi, m_rLn]) (fun i => by simp (disch := omega) only [m_rA1, m_rA3, m_rAe, m_rAn, m_rAi, m_rI2, m_rIe, m_rIn, m_rL1, m_rL2, m_rLe, m_rLi, m_rLn]) (fun _ => rfl)
theorem f261i {S1 : mS} {b : AB} {l : LW} {t m v : Nat} {x0 : Int32} (hb : OkB b) (hb0 : ¬ b 0 0 = 0) (hm : m ≤ 60) {P : Int32 × mS → Prop} {y : Int32} {q : Nat} (hv : v ≤ 2) (hq : q < t) (ht : t ≤ 10) : ∀ (i j x : Nat) (S : mS) (w : AW), j + i = m → x < 2 ^ 31 → w.1 0 0 + i < 990 → w.1 0 1 ≤ 12 → DM S S b l w → S.2.1 1 7 = nI x → Hd S1 S → (∀ S', Hd S1 S' → Ep (fun n => (F243 n S').bind (fun z21 => F261f n 68 (nI t) (nI m) (nI v) x0 (nI (yrA b l i (x, w)).1) (y + nI (cf (yrA b l i (x, w)).2 (v + 1))) (nI (q + 1)) (nI 0) z21.2)) P) → Ep (fun n => F261f n 98 (nI t) (nI m) (nI v) x0 (nI 0) y (nI q) (nI j) S) P := by
  have hb1 := hb.1
  intro i
  induction i with
  | zero =>
    intro j x S w hj hx hd hn hD h7 hH go
    refine ep_succ (fun n => F261e98 n ..) ?_
    have e : m ≤ j := by omega
    simp (disch := omega) only [F261b98, L0, L1, L2, L3, L4, L5, L6, L7, L8, L9, L10, L11, L12, L13, L16, L20, L31, L32, L40, L48, L57, L59, L60, L61, L91, L93, L97, L99, L100, L102, L103, L114, L122, L255, L300, L400, L402, L999, L2280, L2500, L99999, L63, L1431655765, L858993459, L252645135, ic_ge, ic_gt, ic_le, ic_lt, ic_eq, ic_ne, if_lt, if_ge, if_gt, if_le, if_eq, if_ne, if_lt_zI, if_ge_zI, ic_ne_m1, ic_eq_m1, ic_nn_m1, ic_ee_m1, if_ne_b2i, if_eq_b2i, b2i_z, decide_eq_true_eq, decide_true, decide_false, Bool.not_eq_true, Bool.not_eq_true', Bool.not_true, Bool.not_false, decide_eq_false_iff_not, Bool.false_eq_true, not_false_eq_true, not_true_eq_false, if_true, if_false, ↓reduceIte, eq_self, Option.bind_some, Bool.true_and, Bool.false_and, Bool.and_true, Bool.and_false, nI_add, nI_subN, nI_clamp, gdF, gdF2, gdP, gdP2, zI_cl, zI_s, Lm1, nI_n0, zI_n0, leF, or_false, false_or, or_self, e]
    refine ep_bv (f262 (f := v + 1) hD.2.2.1 hD.2.2.2.1 (by omega)) ?_
    simp only [h7]
    exact go S hH
  | succ i ih =>
    intro j x S w hj hx hd hn hD h7 hH go
    refine ep_succ (fun n => F261e98 n ..) ?_
    have e : ¬ m ≤ j := by omega
    have hc0 : S.2.1 1 0 = nI (b 0 0) := hD.1.1
    have r1 := rndN_lt (a := x)
    have r2 := rndN_lt (a := rndN x)
    have ok := hD.2.2.2.1
    simp (disch := omega) only [F261b98, L0, L1, L2, L3, L4, L5, L6, L7, L8, L9, L10, L11, L12, L13, L16, L20, L31, L32, L40, L48, L57, L59, L60, L61, L91, L93, L97, L99, L100, L102, L103, L114, L122, L255, L300, L400, L402, L999, L2280, L2500, L99999, L63, L1431655765, L858993459, L252645135, ic_ge, ic_gt, ic_le, ic_lt, ic_eq, ic_ne, if_lt, if_ge, if_gt, if_le, if_eq, if_ne, if_lt_zI, if_ge_zI, ic_ne_m1, ic_eq_m1, ic_nn_m1, ic_ee_m1, if_ne_b2i, if_eq_b2i, b2i_z, decide_eq_true_eq, decide_true, decide_false, Bool.not_eq_true, Bool.not_eq_true', Bool.not_true, Bool.not_false, decide_eq_false_iff_not, Bool.false_eq_true, not_false_eq_true, not_true_eq_false, if_true, if_false, ↓reduceIte, eq_self, Option.bind_some, Bool.true_and, Bool.false_and, Bool.and_true, Bool.and_false, nI_add, nI_subN, nI_clamp, gdF, gdF2, gdP, gdP2, zI_cl, zI_s, Lm1, nI_n0, zI_n0, leF, or_false, false_or, or_self, e, hc0]
    refine ep_bv (f263 hx h7 (by omega) (by omega)) ?_
    refine ep_bv (f263 (a := rndN x) (c := 6) r1 m_rAe (by decide) (by decide)) ?_
    have D2 : DM (m_sA (m_sA S 1 7 (nI (rndN x))) 1 7 (nI (rndN (rndN x)))) (m_sA (m_sA S 1 7 (nI (rndN x))) 1 7 (nI (rndN (rndN x)))) b l w := DM_17 (DM_17 hD)
    have H2 : Hd S1 (m_sA (m_sA S 1 7 (nI (rndN x))) 1 7 (nI (rndN (rndN x)))) := Hd_fr hH rfl (fun q hq => by rw [m_rAn (by omega), m_rAn (by omega)])
    have h72 : (m_sA (m_sA S 1 7 (nI (rndN x))) 1 7 (nI (rndN (rndN x)))).2.1 1 7 = nI (rndN (rndN x)) := m_rAe
    obtain ⟨S2, hS2⟩ : ∃ S2, S2 = m_sA (m_sA S 1 7 (nI (rndN x))) 1 7 (nI (rndN (rndN x))) := ⟨_, rfl⟩
    rw [← hS2] at D2 H2 h72
    simp only [← hS2]
    have hn1 : S2.2.1 1 4 = nI (w.1 0 1) := D2.2.2.1.1
    have hc : rndN x / 65536 % b 0 0 < b 0 0 := Nat.mod_lt _ (by omega)
    have h6 : rndN (rndN x) / 65536 % 6 < 6 := Nat.mod_lt _ (by decide)
    simp (disch := omega) only [hn1, ic_ge, nI_add, decide_eq_true_eq, decide_true, decide_false, Bool.not_eq_true, Bool.not_eq_true', Bool.not_true, Bool.not_false, decide_eq_false_iff_not, Bool.false_eq_true, not_false_eq_true, not_true_eq_false, if_true, if_false, ↓reduceIte, eq_self, Option.bind_some, Bool.true_and, Bool.false_and, Bool.and_true, Bool.and_false]
    unfold yrA at go
    by_cases h12 : 12 ≤ w.1 0 1
    · simp only [h12, decide_eq_true_eq, decide_true, decide_false, Bool.not_eq_true, Bool.not_eq_true', Bool.not_true, Bool.not_false, decide_eq_false_iff_not, Bool.false_eq_true, not_false_eq_true, not_true_eq_false, if_true, if_false, ↓reduceIte, eq_self, Option.bind_some, Bool.true_and, Bool.false_and, Bool.and_true, Bool.and_false] at go ⊢
      refine ep_bind (f212 (by omega) D2) ?_
      rintro ⟨_, S3⟩ ⟨_, D3⟩
      have D3 : DM S2 S3 b l (dayA b l w) := D3
      exact ih (j + 1) _ S3 _ (by omega) r2 (by rw [dayA_d hb ok]; omega) (by rw [dayA_n hb ok]; exact hn) (DM_rf D3) (by rw [D3.2.2.2.2.2.2 1 7 (by omega)]; exact h72) (FrM_H H2 D3.2.2.2.2.2) go
    · simp only [h12, decide_eq_true_eq, decide_true, decide_false, Bool.not_eq_true, Bool.not_eq_true', Bool.not_true, Bool.not_false, decide_eq_false_iff_not, Bool.false_eq_true, not_false_eq_true, not_true_eq_false, if_true, if_false, ↓reduceIte, eq_self, Option.bind_some, Bool.true_and, Bool.false_and, Bool.and_true, Bool.and_false] at go ⊢
      refine ep_bind (f232 (c := rndN x / 65536 % b 0 0) (t := rndN (rndN x) / 65536 % 6 + 1) (d := 0) D2.2.2.1 (by omega)) ?_
      rintro ⟨z1, S3⟩ ⟨s1, s2, s3, s4⟩
      have s3 : S3.1 = S2.1 := s3
      have s4 : ∀ k i, ¬ ((10 ≤ k ∧ k ≤ 15) ∨ (k = 1 ∧ i = 4)) → S3.2.1 k i = S2.2.1 k i := s4
      have dm2 : DM S3 S3 b l (addA w (rndN x / 65536 % b 0 0) (rndN (rndN x) / 65536 % 6 + 1) 0) := ⟨MB_r D2.1 hb (fun k i hk => s4 k i (by omega)), hb, s2, addA_Ok ok hn (isTx_1 h6) hc (by omega), LM_fr D2.2.2.2.2.1 (s4 1 8 (by omega)) (fun k i _ _ => s4 k i (by omega)), FrM_rf⟩
      have hd2 : Hd S1 S3 := Hd_fr H2 s3 (fun q hq => funext (fun i => s4 q i (by omega)))
      have ok2 := dm2.2.2.2.1
      refine ep_bind (f212 (by rw [addA_d]; omega) dm2) ?_
      rintro ⟨_, S4⟩ ⟨_, D4⟩
      have D4 : DM S3 S4 b l (dayA b l (addA w (rndN x / 65536 % b 0 0) (rndN (rndN x) / 65536 % 6 + 1) 0)) := D4
      exact ih (j + 1) _ S4 _ (by omega) r2 (by rw [dayA_d hb ok2, addA_d]; omega) (by rw [dayA_n hb ok2, addA_n]; omega) (DM_rf D4) (by rw [D4.2.2.2.2.2.2 1 7 (by omega), s4 1 7 (by omega)]; exact h72) (FrM_H hd2 D4.2.2.2.2.2) go
theorem f261l {k : Nat} {A : AA} {S1 : mS} {t m v : Nat} (ok : OkA k A) (hk : k < 512) (h0 : ¬ A.2.2.1.1 0 0 = 0) (ht : t ≤ 10) (hm : m ≤ 60) (hv : v ≤ 2) (h1 : RM A S1) (sv : Sv S1) : ∀ (i j x : Nat) (y : Int32) (S : mS), j + i = t → x < 2 ^ 31 → RM A S → Hd S1 S → Ep (fun n => F261f n 68 (nI t) (nI m) (nI v) (nI A.2.2.1.2.2.2.2) (nI x) y (nI j) (nI 0) S) (fun z => z.1 = (yrT A.2.2.1.1 (lawA A.2.1.2 A.2.2.1.2.2.2.1) A.2.2.1.2.1 m (v + 1) i (x, y)).2 ∧ RM A z.2) := by
  have hb := OkA_b ok
  have kw := OkA_w ok
  have hday := (ok.2.2.2.1.2.2.1 A.2.2.1.2.1 (Or.inl rfl)).2.2.1
  have hn := (ok.2.2.2.1.2.2.1 A.2.2.1.2.1 (Or.inl rfl)).2.1
  intro i
  induction i with
  | zero =>
    intro j x y S hj hx hS hd
    refine ep_succ (fun n => F261e68 n ..) ?_
    have e : t ≤ j := by omega
    simp (disch := omega) only [F261b68, L0, L1, L2, L3, L4, L5, L6, L7, L8, L9, L10, L11, L12, L13, L16, L20, L31, L32, L40, L48, L57, L59, L60, L61, L91, L93, L97, L99, L100, L102, L103, L114, L122, L255, L300, L400, L402, L999, L2280, L2500, L99999, L63, L1431655765, L858993459, L252645135, ic_ge, ic_gt, ic_le, ic_lt, ic_eq, ic_ne, if_lt, if_ge, if_gt, if_le, if_eq, if_ne, if_lt_zI, if_ge_zI, ic_ne_m1, ic_eq_m1, ic_nn_m1, ic_ee_m1, if_ne_b2i, if_eq_b2i, b2i_z, decide_eq_true_eq, decide_true, decide_false, Bool.not_eq_true, Bool.not_eq_true', Bool.not_true, Bool.not_false, decide_eq_false_iff_not, Bool.false_eq_true, not_false_eq_true, not_true_eq_false, if_true, if_false, ↓reduceIte, eq_self, Option.bind_some, Bool.true_and, Bool.false_and, Bool.and_true, Bool.and_false, nI_add, nI_subN, nI_clamp, gdF, gdF2, gdP, gdP2, zI_cl, zI_s, Lm1, nI_n0, zI_n0, leF, or_false, false_or, or_self, e]
    refine ep_ret ⟨rfl, RM_same ok hS ⟨rfl, rfl, rfl, rfl⟩ (fun k i hk => ?_)⟩
    by_cases e1 : k = 1
    · subst e1
      by_cases e2 : i = 7
      · subst e2
        rw [m_rAe]
        exact hS.2.2.1.2.2.2.2.2.symm
      · exact m_rAi e2
    · rw [m_rAn e1]
  | succ i ih =>
    intro j x y S hj hx hS hd
    refine ep_succ (fun n => F261e68 n ..) ?_
    have e : ¬ t ≤ j := by omega
    simp (disch := omega) only [F261b68, L0, L1, L2, L3, L4, L5, L6, L7, L8, L9, L10, L11, L12, L13, L16, L20, L31, L32, L40, L48, L57, L59, L60, L61, L91, L93, L97, L99, L100, L102, L103, L114, L122, L255, L300, L400, L402, L999, L2280, L2500, L99999, L63, L1431655765, L858993459, L252645135, ic_ge, ic_gt, ic_le, ic_lt, ic_eq, ic_ne, if_lt, if_ge, if_gt, if_le, if_eq, if_ne, if_lt_zI, if_ge_zI, ic_ne_m1, ic_eq_m1, ic_nn_m1, ic_ee_m1, if_ne_b2i, if_eq_b2i, b2i_z, decide_eq_true_eq, decide_true, decide_false, Bool.not_eq_true, Bool.not_eq_true', Bool.not_true, Bool.not_false, decide_eq_false_iff_not, Bool.false_eq_true, not_false_eq_true, not_true_eq_false, if_true, if_false, ↓reduceIte, eq_self, Option.bind_some, Bool.true_and, Bool.false_and, Bool.and_true, Bool.and_false, nI_add, nI_subN, nI_clamp, gdF, gdF2, gdP, gdP2, zI_cl, zI_s, Lm1, nI_n0, zI_n0, leF, or_false, false_or, or_self, e]
    have dm := DM_17 (x := nI x) (DM_of ok hS)
    have hd2 : Hd S1 (m_sA S 1 7 (nI x)) := Hd_fr hd rfl (fun q hq => m_rAn (by omega))
    refine ep_bv (f262 (f := v + 1) dm.2.2.1 kw (by omega)) ?_
    refine f261i hb h0 hm hv (by omega) ht m 0 x _ A.2.2.1.2.1 (by omega) hx (by omega) hn dm m_rAe hd2 (fun S' hd' => ?_)
    refine ep_bind (laysBack ok h1 sv hd') ?_
    rintro ⟨_, S4⟩ ⟨h4, hd4⟩
    have := ih (j + 1) (yrA A.2.2.1.1 (lawA A.2.1.2 A.2.2.1.2.2.2.1) m (x, A.2.2.1.2.1)).1 (y + (nI (cf (yrA A.2.2.1.1 (lawA A.2.1.2 A.2.2.1.2.2.2.1) m (x, A.2.2.1.2.1)).2 (v + 1)) - nI (cf A.2.2.1.2.1 (v + 1)))) S4 (by omega) (yrA_x m _ hx) h4 hd4
    have ey : y + (nI (cf (yrA A.2.2.1.1 (lawA A.2.1.2 A.2.2.1.2.2.2.1) m (x, A.2.2.1.2.1)).2 (v + 1)) - nI (cf A.2.2.1.2.1 (v + 1))) = y - nI (cf A.2.2.1.2.1 (v + 1)) + nI (cf (yrA A.2.2.1.1 (lawA A.2.1.2 A.2.2.1.2.2.2.1) m (x, A.2.2.1.2.1)).2 (v + 1)) := by
      rw [Int32.sub_eq_add_neg, Int32.sub_eq_add_neg, Int32.add_assoc, Int32.add_comm (-_)]
    rw [ey] at this
    unfold yrT
    rw [ey]
    exact this
theorem sm_years {k : Nat} {a1 a2 a3 : Int32} (hk : k < 512) (A : AA) (ok : OkA k A) : ∃ r A', OkA (k + 1) A' ∧ CallX k (fun n => G144 n a1 a2 a3) A r A' ∧ CallM (fun n => F261 n a1 a2 a3) A r A' := by
  have ok1 := OkA_s ok
  have hx := ok.2.2.2.1.2.2.2.2.2
  by_cases hall : ¬ A.2.2.1.1 0 0 = 0 ∧ (∃ t, 1 ≤ t ∧ t ≤ 10 ∧ a1 = nI t) ∧ (∃ m, 1 ≤ m ∧ m ≤ 60 ∧ a2 = nI m) ∧ (∃ j, j ≤ 2 ∧ a3 = nI j)
  · obtain ⟨h0, ⟨t, t1, t10, rfl⟩, ⟨m, m1, m60, rfl⟩, ⟨v, hv, rfl⟩⟩ := hall
    have ny := arg_Ny m1 m60
    have in2 : inL (nI v).toInt64 0 2 = true := by
      have := inK (a := v) (k := 2) (by omega) (by decide)
      rw [decide_eq_true hv] at this
      exact this
    have int : inL (nI t).toInt64 1 10 = true := by
      have := inL_nI (a := t) (lo := 1) (hi := 10) (by omega) (by decide) (by decide)
      rw [decide_eq_true ⟨t1, t10⟩] at this
      exact this
    refine ⟨(yrT A.2.2.1.1 (lawA A.2.1.2 A.2.2.1.2.2.2.1) A.2.2.1.2.1 m (v + 1) t (A.2.2.1.2.2.2.2, nI 0)).2, A, ok1, fun T G hR hG => ?_, fun S hS => ?_⟩
    · have hc4 : T.1 88 4 = nI A.2.2.1.2.2.2.2 := hR.2.2.1.2.2.2.2
      refine ep_succ (fun n => G144e0 n ..) ?_
      simp only [G144b0]
      refine ep_bv ((arg_R ok h0).1 T G hR) ?_
      have e1 : ¬ t < 1 := by omega
      have e2 : ¬ 10 < t := by omega
      simp (disch := omega) only [L0, L1, L2, L3, L4, L5, L6, L7, L8, L9, L10, L11, L12, L13, L16, L20, L31, L32, L40, L48, L57, L59, L60, L61, L91, L93, L97, L99, L100, L102, L103, L114, L122, L255, L300, L400, L402, L999, L2280, L2500, L99999, L63, L1431655765, L858993459, L252645135, ic_ge, ic_gt, ic_le, ic_lt, ic_eq, ic_ne, if_lt, if_ge, if_gt, if_le, if_eq, if_ne, if_lt_zI, if_ge_zI, ic_ne_m1, ic_eq_m1, ic_nn_m1, ic_ee_m1, if_ne_b2i, if_eq_b2i, b2i_z, decide_eq_true_eq, decide_true, decide_false, Bool.not_eq_true, Bool.not_eq_true', Bool.not_true, Bool.not_false, decide_eq_false_iff_not, Bool.false_eq_true, not_false_eq_true, not_true_eq_false, if_true, if_false, ↓reduceIte, eq_self, Option.bind_some, Bool.true_and, Bool.false_and, Bool.and_true, Bool.and_false, nI_add, nI_subN, nI_clamp, gdF, gdF2, gdP, gdP2, zI_cl, zI_s, Lm1, nI_n0, zI_n0, leF, or_false, false_or, or_self, Nat.one_ne_zero, e1, e2]
      refine ep_bv (ny.1 T) ?_
      simp (disch := omega) only [L0, L1, L2, L3, L4, L5, L6, L7, L8, L9, L10, L11, L12, L13, L16, L20, L31, L32, L40, L48, L57, L59, L60, L61, L91, L93, L97, L99, L100, L102, L103, L114, L122, L255, L300, L400, L402, L999, L2280, L2500, L99999, L63, L1431655765, L858993459, L252645135, ic_ge, ic_gt, ic_le, ic_lt, ic_eq, ic_ne, if_lt, if_ge, if_gt, if_le, if_eq, if_ne, if_lt_zI, if_ge_zI, ic_ne_m1, ic_eq_m1, ic_nn_m1, ic_ee_m1, if_ne_b2i, if_eq_b2i, b2i_z, decide_eq_true_eq, decide_true, decide_false, Bool.not_eq_true, Bool.not_eq_true', Bool.not_true, Bool.not_false, decide_eq_false_iff_not, Bool.false_eq_true, not_false_eq_true, not_true_eq_false, if_true, if_false, ↓reduceIte, eq_self, Option.bind_some, Bool.true_and, Bool.false_and, Bool.and_true, Bool.and_false, nI_add, nI_subN, nI_clamp, gdF, gdF2, gdP, gdP2, zI_cl, zI_s, Lm1, nI_n0, zI_n0, leF, or_false, false_or, or_self, hv, Nat.one_ne_zero, hc4]
      refine ep_mono (g144l ok hk h0 t10 m60 hv t 0 A.2.2.1.2.2.2.2 (nI 0) T (by omega) hx hR) ?_
      rintro ⟨z1, T1, G1⟩ ⟨e1, e2, e3⟩
      have e3 : G1 = G := e3
      subst e3
      exact ⟨e1, e2, RG_s hG⟩
    · have hc4 : S.2.1 1 7 = nI A.2.2.1.2.2.2.2 := hS.2.2.1.2.2.2.2.2
      refine ep_succ (fun n => F261e0 n ..) ?_
      simp only [F261b0]
      refine ep_bv ((arg_R ok h0).2 S hS) ?_
      have e1 : am_if .eq (nI 1) = false := by decide
      simp only [e1, decide_eq_true_eq, decide_true, decide_false, Bool.not_eq_true, Bool.not_eq_true', Bool.not_true, Bool.not_false, decide_eq_false_iff_not, Bool.false_eq_true, not_false_eq_true, not_true_eq_false, if_true, if_false, ↓reduceIte, eq_self, Option.bind_some, Bool.true_and, Bool.false_and, Bool.and_true, Bool.and_false]
      refine ep_bv (f172 S) ?_
      rw [int]
      simp only [if_eq_b2i, decide_eq_true_eq, decide_true, decide_false, Bool.not_eq_true, Bool.not_eq_true', Bool.not_true, Bool.not_false, decide_eq_false_iff_not, Bool.false_eq_true, not_false_eq_true, not_true_eq_false, if_true, if_false, ↓reduceIte, eq_self, Option.bind_some, Bool.true_and, Bool.false_and, Bool.and_true, Bool.and_false]
      refine ep_bv (f172 S) ?_
      rw [ny.2]
      simp only [if_eq_b2i, decide_eq_true_eq, decide_true, decide_false, Bool.not_eq_true, Bool.not_eq_true', Bool.not_true, Bool.not_false, decide_eq_false_iff_not, Bool.false_eq_true, not_false_eq_true, not_true_eq_false, if_true, if_false, ↓reduceIte, eq_self, Option.bind_some, Bool.true_and, Bool.false_and, Bool.and_true, Bool.and_false]
      refine ep_bv (f172 S) ?_
      rw [in2]
      simp only [if_ne_b2i, decide_eq_true_eq, decide_true, decide_false, Bool.not_eq_true, Bool.not_eq_true', Bool.not_true, Bool.not_false, decide_eq_false_iff_not, Bool.false_eq_true, not_false_eq_true, not_true_eq_false, if_true, if_false, ↓reduceIte, eq_self, Option.bind_some, Bool.true_and, Bool.false_and, Bool.and_true, Bool.and_false]
      refine ep_bind (keepsAll ok hS) ?_
      rintro ⟨_, S1⟩ ⟨h1, sv⟩
      simp only [hc4]
      exact f261l ok hk h0 t10 m60 hv h1 sv t 0 A.2.2.1.2.2.2.2 (nI 0) S1 (by omega) hx h1 Hd_rf
  · refine ⟨zI 0, A, ok1, fun T G hR hG => ?_, callM_id (fun S hS => ?_)⟩
    · refine ep_succ (fun n => G144e0 n ..) ?_
      simp only [G144b0]
      by_cases h0 : A.2.2.1.1 0 0 = 0
      · refine ep_bv ((arg_R0 ok h0).1 T G hR) ?_
        simp (disch := omega) only [L0, L1, L2, L3, L4, L5, L6, L7, L8, L9, L10, L11, L12, L13, L16, L20, L31, L32, L40, L48, L57, L59, L60, L61, L91, L93, L97, L99, L100, L102, L103, L114, L122, L255, L300, L400, L402, L999, L2280, L2500, L99999, L63, L1431655765, L858993459, L252645135, ic_ge, ic_gt, ic_le, ic_lt, ic_eq, ic_ne, if_lt, if_ge, if_gt, if_le, if_eq, if_ne, if_lt_zI, if_ge_zI, ic_ne_m1, ic_eq_m1, ic_nn_m1, ic_ee_m1, if_ne_b2i, if_eq_b2i, b2i_z, decide_eq_true_eq, decide_true, decide_false, Bool.not_eq_true, Bool.not_eq_true', Bool.not_true, Bool.not_false, decide_eq_false_iff_not, Bool.false_eq_true, not_false_eq_true, not_true_eq_false, if_true, if_false, ↓reduceIte, eq_self, Option.bind_some, Bool.true_and, Bool.false_and, Bool.and_true, Bool.and_false, nI_add, nI_subN, nI_clamp, gdF, gdF2, gdP, gdP2, zI_cl, zI_s, Lm1, nI_n0, zI_n0, leF, or_false, false_or, or_self]
        exact ep_ret ⟨rfl, hR, RG_s hG⟩
      · refine ep_bv ((arg_R ok h0).1 T G hR) ?_
        have e1 : am_if .eq (nI 1) = false := by decide
        simp only [e1, decide_eq_true_eq, decide_true, decide_false, Bool.not_eq_true, Bool.not_eq_true', Bool.not_true, Bool.not_false, decide_eq_false_iff_not, Bool.false_eq_true, not_false_eq_true, not_true_eq_false, if_true, if_false, ↓reduceIte, eq_self, Option.bind_some, Bool.true_and, Bool.false_and, Bool.and_true, Bool.and_false]
        rcases i32_cases a1 with ⟨t, hx1, rfl⟩ | hx1
        · by_cases t1 : t < 1
          · simp (disch := omega) only [L0, L1, L2, L3, L4, L5, L6, L7, L8, L9, L10, L11, L12, L13, L16, L20, L31, L32, L40, L48, L57, L59, L60, L61, L91, L93, L97, L99, L100, L102, L103, L114, L122, L255, L300, L400, L402, L999, L2280, L2500, L99999, L63, L1431655765, L858993459, L252645135, ic_ge, ic_gt, ic_le, ic_lt, ic_eq, ic_ne, if_lt, if_ge, if_gt, if_le, if_eq, if_ne, if_lt_zI, if_ge_zI, ic_ne_m1, ic_eq_m1, ic_nn_m1, ic_ee_m1, if_ne_b2i, if_eq_b2i, b2i_z, decide_eq_true_eq, decide_true, decide_false, Bool.not_eq_true, Bool.not_eq_true', Bool.not_true, Bool.not_false, decide_eq_false_iff_not, Bool.false_eq_true, not_false_eq_true, not_true_eq_false, if_true, if_false, ↓reduceIte, eq_self, Option.bind_some, Bool.true_and, Bool.false_and, Bool.and_true, Bool.and_false, nI_add, nI_subN, nI_clamp, gdF, gdF2, gdP, gdP2, zI_cl, zI_s, Lm1, nI_n0, zI_n0, leF, or_false, false_or, or_self, t1]
            exact ep_ret ⟨rfl, hR, RG_s hG⟩
          · by_cases t2 : 10 < t
            · simp (disch := omega) only [L0, L1, L2, L3, L4, L5, L6, L7, L8, L9, L10, L11, L12, L13, L16, L20, L31, L32, L40, L48, L57, L59, L60, L61, L91, L93, L97, L99, L100, L102, L103, L114, L122, L255, L300, L400, L402, L999, L2280, L2500, L99999, L63, L1431655765, L858993459, L252645135, ic_ge, ic_gt, ic_le, ic_lt, ic_eq, ic_ne, if_lt, if_ge, if_gt, if_le, if_eq, if_ne, if_lt_zI, if_ge_zI, ic_ne_m1, ic_eq_m1, ic_nn_m1, ic_ee_m1, if_ne_b2i, if_eq_b2i, b2i_z, decide_eq_true_eq, decide_true, decide_false, Bool.not_eq_true, Bool.not_eq_true', Bool.not_true, Bool.not_false, decide_eq_false_iff_not, Bool.false_eq_true, not_false_eq_true, not_true_eq_false, if_true, if_false, ↓reduceIte, eq_self, Option.bind_some, Bool.true_and, Bool.false_and, Bool.and_true, Bool.and_false, nI_add, nI_subN, nI_clamp, gdF, gdF2, gdP, gdP2, zI_cl, zI_s, Lm1, nI_n0, zI_n0, leF, or_false, false_or, or_self, t1, t2]
              exact ep_ret ⟨rfl, hR, RG_s hG⟩
            · simp (disch := omega) only [L0, L1, L2, L3, L4, L5, L6, L7, L8, L9, L10, L11, L12, L13, L16, L20, L31, L32, L40, L48, L57, L59, L60, L61, L91, L93, L97, L99, L100, L102, L103, L114, L122, L255, L300, L400, L402, L999, L2280, L2500, L99999, L63, L1431655765, L858993459, L252645135, ic_ge, ic_gt, ic_le, ic_lt, ic_eq, ic_ne, if_lt, if_ge, if_gt, if_le, if_eq, if_ne, if_lt_zI, if_ge_zI, ic_ne_m1, ic_eq_m1, ic_nn_m1, ic_ee_m1, if_ne_b2i, if_eq_b2i, b2i_z, decide_eq_true_eq, decide_true, decide_false, Bool.not_eq_true, Bool.not_eq_true', Bool.not_true, Bool.not_false, decide_eq_false_iff_not, Bool.false_eq_true, not_false_eq_true, not_true_eq_false, if_true, if_false, ↓reduceIte, eq_self, Option.bind_some, Bool.true_and, Bool.false_and, Bool.and_true, Bool.and_false, nI_add, nI_subN, nI_clamp, gdF, gdF2, gdP, gdP2, zI_cl, zI_s, Lm1, nI_n0, zI_n0, leF, or_false, false_or, or_self, t1, t2]
              rcases arg_N a2 with ⟨m, m1, m60, rfl⟩ | hN
              · refine ep_bv ((arg_Ny m1 m60).1 T) ?_
                simp (disch := omega) only [L0, L1, L2, L3, L4, L5, L6, L7, L8, L9, L10, L11, L12, L13, L16, L20, L31, L32, L40, L48, L57, L59, L60, L61, L91, L93, L97, L99, L100, L102, L103, L114, L122, L255, L300, L400, L402, L999, L2280, L2500, L99999, L63, L1431655765, L858993459, L252645135, ic_ge, ic_gt, ic_le, ic_lt, ic_eq, ic_ne, if_lt, if_ge, if_gt, if_le, if_eq, if_ne, if_lt_zI, if_ge_zI, ic_ne_m1, ic_eq_m1, ic_nn_m1, ic_ee_m1, if_ne_b2i, if_eq_b2i, b2i_z, decide_eq_true_eq, decide_true, decide_false, Bool.not_eq_true, Bool.not_eq_true', Bool.not_true, Bool.not_false, decide_eq_false_iff_not, Bool.false_eq_true, not_false_eq_true, not_true_eq_false, if_true, if_false, ↓reduceIte, eq_self, Option.bind_some, Bool.true_and, Bool.false_and, Bool.and_true, Bool.and_false, nI_add, nI_subN, nI_clamp, gdF, gdF2, gdP, gdP2, zI_cl, zI_s, Lm1, nI_n0, zI_n0, leF, or_false, false_or, or_self, Nat.one_ne_zero]
                rcases arg_W a3 (v := 2) (by decide) with ⟨j, hj, rfl⟩ | ⟨h4 | ⟨h4, h5⟩, _⟩
                · exact absurd ⟨h0, ⟨t, by omega, by omega, rfl⟩, ⟨m, m1, m60, rfl⟩, ⟨j, hj, rfl⟩⟩ hall
                · simp only [h4, decide_eq_true_eq, decide_true, decide_false, Bool.not_eq_true, Bool.not_eq_true', Bool.not_true, Bool.not_false, decide_eq_false_iff_not, Bool.false_eq_true, not_false_eq_true, not_true_eq_false, if_true, if_false, ↓reduceIte, eq_self, Option.bind_some, Bool.true_and, Bool.false_and, Bool.and_true, Bool.and_false]
                  exact ep_ret ⟨rfl, hR, RG_s hG⟩
                · simp only [h4, h5, decide_eq_true_eq, decide_true, decide_false, Bool.not_eq_true, Bool.not_eq_true', Bool.not_true, Bool.not_false, decide_eq_false_iff_not, Bool.false_eq_true, not_false_eq_true, not_true_eq_false, if_true, if_false, ↓reduceIte, eq_self, Option.bind_some, Bool.true_and, Bool.false_and, Bool.and_true, Bool.and_false]
                  exact ep_ret ⟨rfl, hR, RG_s hG⟩
              · refine ep_bv (hN.1 T) ?_
                simp (disch := omega) only [L0, L1, L2, L3, L4, L5, L6, L7, L8, L9, L10, L11, L12, L13, L16, L20, L31, L32, L40, L48, L57, L59, L60, L61, L91, L93, L97, L99, L100, L102, L103, L114, L122, L255, L300, L400, L402, L999, L2280, L2500, L99999, L63, L1431655765, L858993459, L252645135, ic_ge, ic_gt, ic_le, ic_lt, ic_eq, ic_ne, if_lt, if_ge, if_gt, if_le, if_eq, if_ne, if_lt_zI, if_ge_zI, ic_ne_m1, ic_eq_m1, ic_nn_m1, ic_ee_m1, if_ne_b2i, if_eq_b2i, b2i_z, decide_eq_true_eq, decide_true, decide_false, Bool.not_eq_true, Bool.not_eq_true', Bool.not_true, Bool.not_false, decide_eq_false_iff_not, Bool.false_eq_true, not_false_eq_true, not_true_eq_false, if_true, if_false, ↓reduceIte, eq_self, Option.bind_some, Bool.true_and, Bool.false_and, Bool.and_true, Bool.and_false, nI_add, nI_subN, nI_clamp, gdF, gdF2, gdP, gdP2, zI_cl, zI_s, Lm1, nI_n0, zI_n0, leF, or_false, false_or, or_self]
                exact ep_ret ⟨rfl, hR, RG_s hG⟩
        · have h1 := nI_neg hx1
          simp only [h1, decide_eq_true_eq, decide_true, decide_false, Bool.not_eq_true, Bool.not_eq_true', Bool.not_true, Bool.not_false, decide_eq_false_iff_not, Bool.false_eq_true, not_false_eq_true, not_true_eq_false, if_true, if_false, ↓reduceIte, eq_self, Option.bind_some, Bool.true_and, Bool.false_and, Bool.and_true, Bool.and_false]
          exact ep_ret ⟨rfl, hR, RG_s hG⟩
    · refine ev_succ (fun n => F261e0 n ..) ?_
      simp only [F261b0]
      by_cases h0 : A.2.2.1.1 0 0 = 0
      · refine ev_bind ((arg_R0 ok h0).2 S hS) ?_
        simp (disch := omega) only [L0, L1, L2, L3, L4, L5, L6, L7, L8, L9, L10, L11, L12, L13, L16, L20, L31, L32, L40, L48, L57, L59, L60, L61, L91, L93, L97, L99, L100, L102, L103, L114, L122, L255, L300, L400, L402, L999, L2280, L2500, L99999, L63, L1431655765, L858993459, L252645135, ic_ge, ic_gt, ic_le, ic_lt, ic_eq, ic_ne, if_lt, if_ge, if_gt, if_le, if_eq, if_ne, if_lt_zI, if_ge_zI, ic_ne_m1, ic_eq_m1, ic_nn_m1, ic_ee_m1, if_ne_b2i, if_eq_b2i, b2i_z, decide_eq_true_eq, decide_true, decide_false, Bool.not_eq_true, Bool.not_eq_true', Bool.not_true, Bool.not_false, decide_eq_false_iff_not, Bool.false_eq_true, not_false_eq_true, not_true_eq_false, if_true, if_false, ↓reduceIte, eq_self, Option.bind_some, Bool.true_and, Bool.false_and, Bool.and_true, Bool.and_false, nI_add, nI_subN, nI_clamp, gdF, gdF2, gdP, gdP2, zI_cl, zI_s, Lm1, nI_n0, zI_n0, leF, or_false, false_or, or_self]
        exact ev_ret
      · refine ev_bind ((arg_R ok h0).2 S hS) ?_
        have e1 : am_if .eq (nI 1) = false := by decide
        simp only [e1, decide_eq_true_eq, decide_true, decide_false, Bool.not_eq_true, Bool.not_eq_true', Bool.not_true, Bool.not_false, decide_eq_false_iff_not, Bool.false_eq_true, not_false_eq_true, not_true_eq_false, if_true, if_false, ↓reduceIte, eq_self, Option.bind_some, Bool.true_and, Bool.false_and, Bool.and_true, Bool.and_false]
        refine ev_bind (f172 S) ?_
        have nt : (∃ t, 1 ≤ t ∧ t ≤ 10 ∧ a1 = nI t) ∨ inL a1.toInt64 1 10 = false := by
          rcases i32_cases a1 with ⟨t, hx1, rfl⟩ | hx1
          · by_cases h : 1 ≤ t ∧ t ≤ 10
            · exact Or.inl ⟨t, h.1, h.2, rfl⟩
            · have := inL_nI (a := t) (lo := 1) (hi := 10) hx1 (by decide) (by decide)
              rw [decide_eq_false h] at this
              exact Or.inr this
          · refine Or.inr ?_
            unfold inL
            have : decide (a1.toInt64 < 1) = true := by
              refine decide_eq_true ?_
              rw [Int64.lt_iff_toInt_lt, Int32.toInt_toInt64]
              have h2 := Int32.lt_iff_toInt_lt.mp hx1
              have h3 : (1 : Int64).toInt = 1 := by decide
              have h4 : (0 : Int32).toInt = 0 := by decide
              omega
            rw [this]
            rfl
        rcases nt with ⟨t, t1, t10, rfl⟩ | hT
        · have int : inL (nI t).toInt64 1 10 = true := by
            have := inL_nI (a := t) (lo := 1) (hi := 10) (by omega) (by decide) (by decide)
            rw [decide_eq_true ⟨t1, t10⟩] at this
            exact this
          rw [int]
          simp only [if_eq_b2i, decide_eq_true_eq, decide_true, decide_false, Bool.not_eq_true, Bool.not_eq_true', Bool.not_true, Bool.not_false, decide_eq_false_iff_not, Bool.false_eq_true, not_false_eq_true, not_true_eq_false, if_true, if_false, ↓reduceIte, eq_self, Option.bind_some, Bool.true_and, Bool.false_and, Bool.and_true, Bool.and_false]
          refine ev_bind (f172 S) ?_
          rcases arg_N a2 with ⟨m, m1, m60, rfl⟩ | hN
          · rw [(arg_Ny m1 m60).2]
            simp only [if_eq_b2i, decide_eq_true_eq, decide_true, decide_false, Bool.not_eq_true, Bool.not_eq_true', Bool.not_true, Bool.not_false, decide_eq_false_iff_not, Bool.false_eq_true, not_false_eq_true, not_true_eq_false, if_true, if_false, ↓reduceIte, eq_self, Option.bind_some, Bool.true_and, Bool.false_and, Bool.and_true, Bool.and_false]
            refine ev_bind (f172 S) ?_
            rcases arg_W a3 (v := 2) (by decide) with ⟨j, hj, rfl⟩ | ⟨_, h5⟩
            · exact absurd ⟨h0, ⟨t, t1, t10, rfl⟩, ⟨m, m1, m60, rfl⟩, ⟨j, hj, rfl⟩⟩ hall
            · have h5 : inL a3.toInt64 0 2 = false := h5
              rw [h5]
              simp only [if_ne_b2i, decide_eq_true_eq, decide_true, decide_false, Bool.not_eq_true, Bool.not_eq_true', Bool.not_true, Bool.not_false, decide_eq_false_iff_not, Bool.false_eq_true, not_false_eq_true, not_true_eq_false, if_true, if_false, ↓reduceIte, eq_self, Option.bind_some, Bool.true_and, Bool.false_and, Bool.and_true, Bool.and_false]
              exact ev_ret
          · rw [hN.2]
            simp only [if_eq_b2i, decide_eq_true_eq, decide_true, decide_false, Bool.not_eq_true, Bool.not_eq_true', Bool.not_true, Bool.not_false, decide_eq_false_iff_not, Bool.false_eq_true, not_false_eq_true, not_true_eq_false, if_true, if_false, ↓reduceIte, eq_self, Option.bind_some, Bool.true_and, Bool.false_and, Bool.and_true, Bool.and_false]
            exact ev_ret
        · rw [hT]
          simp only [if_eq_b2i, decide_eq_true_eq, decide_true, decide_false, Bool.not_eq_true, Bool.not_eq_true', Bool.not_true, Bool.not_false, decide_eq_false_iff_not, Bool.false_eq_true, not_false_eq_true, not_true_eq_false, if_true, if_false, ↓reduceIte, eq_self, Option.bind_some, Bool.true_and, Bool.false_and, Bool.and_true, Bool.and_false]
          exact ev_ret
