/-! feed -/
def byN (x : Int32) (sh : Nat) : Nat := (x.toBitVec.toNat >>> sh) % 256
theorem byN_lt (x : Int32) (sh : Nat) : byN x sh < 256 := Nat.mod_lt _ (by decide)
theorem byN_tb (x : Int32) (sh i : Nat) : (byN x sh).testBit i = (decide (i < 8) && bt x (sh + i)) := by
  unfold byN
  rw [show 256 = 2 ^ 8 from rfl, Nat.testBit_mod_two_pow, Nat.testBit_shiftRight]
  rfl
theorem by_c (x : Int32) {sh : Nat} (hs : sh < 32) : (x.toUInt32 >>> ((nI sh).toUInt32 &&& (nI 31).toUInt32)).toInt32 &&& nI 255 = nI (byN x sh) := by
  apply b_ext
  intro i hi
  rw [b_and, bt_nI (a := byN x sh) hi, byN_tb]
  have e := b_ushr sh hs x i
  have e2 : bt ((x.toUInt32 >>> ((nI sh).toUInt32 &&& (nI 31).toUInt32)).toInt32) i = bt ((x.toUInt32 >>> ((nI sh).toUInt32 &&& Int32.toUInt32 31)).toInt32) i := rfl
  rw [e2, e]
  have e3 : bt (nI 255) i = decide (i < 8) := b_255 i
  rw [e3, Bool.and_comm]
theorem b_i8 (y : Int32) {i : Nat} (hi : i < 32) : bt (y.toInt8.toInt32) i = bt y (if i < 8 then i else 7) := by
  unfold bt
  rw [Int8.toBitVec_toInt32, Int32.toBitVec_toInt8, BitVec.getLsbD_signExtend]
  by_cases h : i < 8
  · rw [if_pos h, BitVec.getLsbD_signExtend, if_pos hi, if_pos h]
    simp [h, hi]
  · rw [if_neg h, if_neg h, BitVec.msb_eq_getLsbD_last, BitVec.getLsbD_signExtend]
    simp [hi]
theorem sb_bt : ∀ v, v < 256 → ∀ i, i < 32 → bt (sbI v) i = v.testBit (if i < 8 then i else 7) := by decide +kernel
theorem by_m (x : Int32) {sh : Nat} (hs : sh ≤ 24) : vp_nar .byte ((Int32.toInt8 (x >>> (nI sh &&& nI 31))).toInt32) = sbI (byN x sh) := by
  rw [vp_nar_byte]
  apply b_ext
  intro i hi
  have h7 : (if i < 8 then i else 7) < 8 := by
    by_cases h : i < 8
    · rw [if_pos h]; exact h
    · rw [if_neg h]; decide
  rw [b_i8 _ hi, b_i8 _ (by omega), if_pos h7, sb_bt _ (byN_lt x sh) i hi, byN_tb, decide_eq_true h7, Bool.true_and]
  generalize (if i < 8 then i else 7) = j at h7
  have e := b_sshr sh (by omega) x (i := j) (by omega)
  rw [if_pos (show sh + j < 32 by omega)] at e
  exact e
theorem nI_an {a b : Nat} (h : b ≤ a) : nI a + -(nI b) = nI (a - b) := by
  rw [← nI_subN h, Int32.sub_eq_add_neg]
def by4 (f : Nat → Nat) (L : Nat) (x : Int32) : Nat → Nat := va_up (va_up (va_up (va_up f L (byN x 24)) (L + 1) (byN x 16)) (L + 2) (byN x 8)) (L + 3) (byN x 0)
theorem by4_lt {f : Nat → Nat} {L : Nat} {x : Int32} (h : ∀ i, i < L → f i < 256) : ∀ i, i < L + 4 → by4 f L x i < 256 := by
  intro i hi
  unfold by4
  by_cases h3 : i = L + 3
  · rw [h3, va_upS]; exact byN_lt _ _
  · rw [va_upN h3]
    by_cases h2 : i = L + 2
    · rw [h2, va_upS]; exact byN_lt _ _
    · rw [va_upN h2]
      by_cases h1 : i = L + 1
      · rw [h1, va_upS]; exact byN_lt _ _
      · rw [va_upN h1]
        by_cases h0 : i = L
        · rw [h0, va_upS]; exact byN_lt _ _
        · rw [va_upN h0]
          exact h i (by omega)
/-- the tape in the reference, in the program -/
def TM (S : mS) (L : Nat) (f : Nat → Nat) : Prop := S.1 26 = nI L ∧ ∀ i, i < L → S.2.1 26 i = sbI (f i)
def FM (S S' : mS) : Prop := (∀ k, k ≠ 26 → S'.1 k = S.1 k ∧ S'.2.1 k = S.2.1 k) ∧ S'.2.2 = S.2.2
def TC (T : xS) (L : Nat) (f : Nat → Nat) : Prop := T.1 65 1 = nI L ∧ ∀ i, i < L → T.2.1 66 i = nI (f i)
def FC (T T' : xS) : Prop := (∀ q, q ≠ 65 → T'.1 q = T.1 q) ∧ (∀ q, q ≠ 66 → T'.2.1 q = T.2.1 q) ∧ T'.2.2 = T.2.2
theorem FM_rf {S : mS} : FM S S := ⟨fun _ _ => ⟨rfl, rfl⟩, rfl⟩
theorem FM_tr {S1 S2 S3 : mS} (h : FM S1 S2) (h' : FM S2 S3) : FM S1 S3 := ⟨fun k hk => ⟨(h'.1 k hk).1.trans (h.1 k hk).1, (h'.1 k hk).2.trans (h.1 k hk).2⟩, h'.2.trans h.2⟩
theorem FC_rf {T : xS} : FC T T := ⟨fun _ _ => rfl, fun _ _ => rfl, rfl⟩
theorem FC_tr {T1 T2 T3 : xS} (h : FC T1 T2) (h' : FC T2 T3) : FC T1 T3 := ⟨fun k hk => (h'.1 k hk).trans (h.1 k hk), fun k hk => (h'.2.1 k hk).trans (h.2.1 k hk), h'.2.2.trans h.2.2⟩
theorem f155s {S S0 : mS} {x : Int32} {L sh : Nat} {f : Nat → Nat} {P : Unit × mS → Prop} {y : Int32} (hT : TM S L f) (hF : FM S0 S) (hL : L < 400) (hs : sh ≤ 24) (hy : nI sh + -(nI 8) = y) (K : ∀ S', TM S' (L + 1) (va_up f L (byN x sh)) → FM S0 S' → Ep (fun n => F155f n 3 x y S') P) : Ep (fun n => F155f n 3 x (nI sh) S) P := by
  refine ep_succ (fun n => F155e3 n ..) ?_
  have h1 := hT.1
  simp (disch := omega) only [F155b3, L0, L1, L2, L3, L4, L5, L6, L7, L8, L9, L10, L11, L12, L13, L16, L20, L31, L32, L40, L48, L57, L59, L60, L61, L91, L93, L97, L99, L100, L102, L103, L114, L122, L255, L300, L400, L402, L999, L2280, L2500, L99999, L63, L1431655765, L858993459, L252645135, ic_ge, ic_gt, ic_le, ic_lt, ic_eq, ic_ne, if_lt, if_ge, if_gt, if_le, if_eq, if_ne, if_lt_zI, if_ge_zI, ic_ne_m1, ic_eq_m1, ic_nn_m1, ic_ee_m1, if_ne_b2i, if_eq_b2i, b2i_z, decide_eq_true_eq, decide_true, decide_false, Bool.not_eq_true, Bool.not_eq_true', Bool.not_true, Bool.not_false, decide_eq_false_iff_not, Bool.false_eq_true, not_false_eq_true, not_true_eq_false, if_true, if_false, ↓reduceIte, eq_self, Option.bind_some, Bool.true_and, Bool.false_and, Bool.and_true, Bool.and_false, h1, nI_clamp, gdF2, gdF, by_m, m_rA1, m_rA3, m_rAe, m_rAn, m_rAi, m_rI2, m_rIe, m_rIn, m_rL1, m_rL2, m_rLe, m_rLi, m_rLn, hy, nI_add]
  refine K _ ⟨m_rIe, fun i hi => ?_⟩ (FM_tr hF ⟨fun k hk => ⟨m_rIn hk, m_rAn hk⟩, rfl⟩)
  by_cases e : i = L
  · subst e
    rw [va_upS]
    show (m_sA S 26 i _).2.1 26 i = _
    rw [m_rAe]
  · rw [va_upN e]
    show (m_sA S 26 L _).2.1 26 i = _
    rw [m_rAi e]
    exact hT.2 i (by omega)
theorem f155 {S : mS} {x : Int32} {L : Nat} {f : Nat → Nat} (hT : TM S L f) (hL : L + 4 ≤ 400) : Ep (fun n => F155 n x S) (fun z => TM z.2 (L + 4) (by4 f L x) ∧ FM S z.2) := by
  refine ep_succ (fun n => F155e0 n ..) ?_
  show Ep (fun n => F155f n 3 x (nI 24) S) _
  refine f155s hT FM_rf (by omega) (by decide) (nI_an (by decide)) (fun S1 t1 g1 => ?_)
  refine f155s t1 g1 (by omega) (by decide) (nI_an (by decide)) (fun S2 t2 g2 => ?_)
  refine f155s t2 g2 (by omega) (by decide) (nI_an (by decide)) (fun S3 t3 g3 => ?_)
  refine f155s t3 g3 (by omega) (by decide) rfl (fun S4 t4 g4 => ?_)
  refine ep_succ (fun n => F155e3 n ..) ?_
  have e : am_if .lt (nI (24 - 8 - 8 - 8) + -(nI 8)) = true := by decide
  simp only [F155b3, e, decide_eq_true_eq, decide_true, decide_false, Bool.not_eq_true, Bool.not_eq_true', Bool.not_true, Bool.not_false, decide_eq_false_iff_not, Bool.false_eq_true, not_false_eq_true, not_true_eq_false, if_true, if_false, ↓reduceIte, eq_self, Option.bind_some, Bool.true_and, Bool.false_and, Bool.and_true, Bool.and_false]
  exact ep_ret ⟨t4, g4⟩
theorem g13s {T T0 : xS} {x : Int32} {L sh : Nat} {f : Nat → Nat} {P : Unit × xS → Prop} {y : Int32} (hT : TC T L f) (hF : FC T0 T) (hL : L < 400) (hs : sh ≤ 24) (hy : nI sh + -(nI 8) = y) (K : ∀ T', TC T' (L + 1) (va_up f L (byN x sh)) → FC T0 T' → Ep (fun n => G13f n 3 x y T') P) : Ep (fun n => G13f n 3 x (nI sh) T) P := by
  refine ep_succ (fun n => G13e3 n ..) ?_
  have h1 := hT.1
  have e4 : ¬ 400 ≤ L := by omega
  simp (disch := omega) only [G13b3, L0, L1, L2, L3, L4, L5, L6, L7, L8, L9, L10, L11, L12, L13, L16, L20, L31, L32, L40, L48, L57, L59, L60, L61, L91, L93, L97, L99, L100, L102, L103, L114, L122, L255, L300, L400, L402, L999, L2280, L2500, L99999, L63, L1431655765, L858993459, L252645135, ic_ge, ic_gt, ic_le, ic_lt, ic_eq, ic_ne, if_lt, if_ge, if_gt, if_le, if_eq, if_ne, if_lt_zI, if_ge_zI, ic_ne_m1, ic_eq_m1, ic_nn_m1, ic_ee_m1, if_ne_b2i, if_eq_b2i, b2i_z, decide_eq_true_eq, decide_true, decide_false, Bool.not_eq_true, Bool.not_eq_true', Bool.not_true, Bool.not_false, decide_eq_false_iff_not, Bool.false_eq_true, not_false_eq_true, not_true_eq_false, if_true, if_false, ↓reduceIte, eq_self, Option.bind_some, Bool.true_and, Bool.false_and, Bool.and_true, Bool.and_false, h1, e4, nI_n0, or_false, nI_clamp, gdF2, gdF, by_c, x_rA1, x_rA3, x_rAe, x_rAn, x_rAi, x_rI2, x_rIe, x_rIn, x_rIi, x_rL1, x_rL2, x_rL4, x_rLe, x_rLi, x_rLn, x_rQ1, x_rQ2, x_rQ3, x_rQe, x_rQi, x_rQn, x_rR1, x_rR3, x_rRe, x_rRn, hy, nI_add]
  refine K _ ⟨x_rIe, fun i hi => ?_⟩ (FC_tr hF ⟨fun q hq => x_rIn hq, fun q hq => x_rAn hq, rfl⟩)
  by_cases e : i = L
  · subst e
    rw [va_upS]
    show (x_sA T 66 i _).2.1 66 i = _
    rw [x_rAe]
  · rw [va_upN e]
    show (x_sA T 66 L _).2.1 66 i = _
    rw [x_rAi e]
    exact hT.2 i (by omega)
theorem g13 {T : xS} {x : Int32} {L : Nat} {f : Nat → Nat} (hT : TC T L f) (hL : L + 4 ≤ 400) : Ep (fun n => G13 n x T) (fun z => TC z.2 (L + 4) (by4 f L x) ∧ FC T z.2) := by
  refine ep_succ (fun n => G13e0 n ..) ?_
  show Ep (fun n => G13f n 3 x (nI 24) T) _
  refine g13s hT FC_rf (by omega) (by decide) (nI_an (by decide)) (fun S1 t1 g1 => ?_)
  refine g13s t1 g1 (by omega) (by decide) (nI_an (by decide)) (fun S2 t2 g2 => ?_)
  refine g13s t2 g2 (by omega) (by decide) (nI_an (by decide)) (fun S3 t3 g3 => ?_)
  refine g13s t3 g3 (by omega) (by decide) rfl (fun S4 t4 g4 => ?_)
  refine ep_succ (fun n => G13e3 n ..) ?_
  have e : am_if .lt (nI (24 - 8 - 8 - 8) + -(nI 8)) = true := by decide
  simp only [G13b3, e, decide_eq_true_eq, decide_true, decide_false, Bool.not_eq_true, Bool.not_eq_true', Bool.not_true, Bool.not_false, decide_eq_false_iff_not, Bool.false_eq_true, not_false_eq_true, not_true_eq_false, if_true, if_false, ↓reduceIte, eq_self, Option.bind_some, Bool.true_and, Bool.false_and, Bool.and_true, Bool.and_false]
  exact ep_ret ⟨t4, g4⟩
theorem sm_feed {k : Nat} {a1 a2 a3 a4 a5 : Int32} (A : AA) (ok : OkA k A) : ∃ r A', OkA (k + 1) A' ∧ CallT (fun n => G12 n a1 a2 a3 a4 a5) A r A' ∧ CallM (fun n => F154 n a1 a2 a3 a4 a5) A r A' := by
  have ok1 := OkA_s ok
  have hL := ok.1
  by_cases h : A.1.1 + 20 ≤ 400
  · refine ⟨nI (A.1.1 + 4 + 4 + 4 + 4 + 4), ((A.1.1 + 4 + 4 + 4 + 4 + 4, by4 (by4 (by4 (by4 (by4 A.1.2 A.1.1 a1) (A.1.1 + 4) a2) (A.1.1 + 4 + 4) a3) (A.1.1 + 4 + 4 + 4) a4) (A.1.1 + 4 + 4 + 4 + 4) a5), A.2), ⟨by show A.1.1 + 4 + 4 + 4 + 4 + 4 ≤ 400; omega, by4_lt (by4_lt (by4_lt (by4_lt (by4_lt ok.2.1)))), ok1.2.2⟩, ?_, ?_⟩
    · intro T G hc
      refine ep_succ (fun n => G12e0 n ..) ?_
      have h1 := hc.1.1
      simp (disch := omega) only [G12b0, L0, L1, L2, L3, L4, L5, L6, L7, L8, L9, L10, L11, L12, L13, L16, L20, L31, L32, L40, L48, L57, L59, L60, L61, L91, L93, L97, L99, L100, L102, L103, L114, L122, L255, L300, L400, L402, L999, L2280, L2500, L99999, L63, L1431655765, L858993459, L252645135, ic_ge, ic_gt, ic_le, ic_lt, ic_eq, ic_ne, if_lt, if_ge, if_gt, if_le, if_eq, if_ne, if_lt_zI, if_ge_zI, ic_ne_m1, ic_eq_m1, ic_nn_m1, ic_ee_m1, if_ne_b2i, if_eq_b2i, b2i_z, decide_eq_true_eq, decide_true, decide_false, Bool.not_eq_true, Bool.not_eq_true', Bool.not_true, Bool.not_false, decide_eq_false_iff_not, Bool.false_eq_true, not_false_eq_true, not_true_eq_false, if_true, if_false, ↓reduceIte, eq_self, Option.bind_some, Bool.true_and, Bool.false_and, Bool.and_true, Bool.and_false, nI_add, nI_subN, nI_clamp, gdF, gdF2, gdP, gdP2, zI_cl, zI_s, Lm1, nI_n0, zI_n0, leF, or_false, false_or, or_self, h1, h]
      refine ep_bind (g13 (f := A.1.2) (L := A.1.1) hc.1 (by omega)) ?_
      rintro ⟨_, T1⟩ ⟨t1, f1⟩
      refine ep_bind (g13 t1 (by omega)) ?_
      rintro ⟨_, T2⟩ ⟨t2, f2⟩
      refine ep_bind (g13 t2 (by omega)) ?_
      rintro ⟨_, T3⟩ ⟨t3, f3⟩
      refine ep_bind (g13 t3 (by omega)) ?_
      rintro ⟨_, T4⟩ ⟨t4, f4⟩
      refine ep_bind (g13 t4 (by omega)) ?_
      rintro ⟨_, T5⟩ ⟨t5, f5⟩
      have ff : FC T T5 := FC_tr (FC_tr (FC_tr (FC_tr f1 f2) f3) f4) f5
      exact ep_ret ⟨t5.1, RC_keep hc rfl t5 (by rw [ff.1 64 (by decide)]) (fun q hq => ⟨ff.1 q (by omega), ff.2.1 q (by omega)⟩) (fun q _ => by rw [ff.2.2])⟩
    · intro S hm
      refine ep_succ (fun n => F154e0 n ..) ?_
      have h1 := hm.1.1
      simp (disch := omega) only [F154b0, L0, L1, L2, L3, L4, L5, L6, L7, L8, L9, L10, L11, L12, L13, L16, L20, L31, L32, L40, L48, L57, L59, L60, L61, L91, L93, L97, L99, L100, L102, L103, L114, L122, L255, L300, L400, L402, L999, L2280, L2500, L99999, L63, L1431655765, L858993459, L252645135, ic_ge, ic_gt, ic_le, ic_lt, ic_eq, ic_ne, if_lt, if_ge, if_gt, if_le, if_eq, if_ne, if_lt_zI, if_ge_zI, ic_ne_m1, ic_eq_m1, ic_nn_m1, ic_ee_m1, if_ne_b2i, if_eq_b2i, b2i_z, decide_eq_true_eq, decide_true, decide_false, Bool.not_eq_true, Bool.not_eq_true', Bool.not_true, Bool.not_false, decide_eq_false_iff_not, Bool.false_eq_true, not_false_eq_true, not_true_eq_false, if_true, if_false, ↓reduceIte, eq_self, Option.bind_some, Bool.true_and, Bool.false_and, Bool.and_true, Bool.and_false, nI_add, nI_subN, nI_clamp, gdF, gdF2, gdP, gdP2, zI_cl, zI_s, Lm1, nI_n0, zI_n0, leF, or_false, false_or, or_self, h1, h]
      refine ep_bind (f155 (f := A.1.2) (L := A.1.1) hm.1 (by omega)) ?_
      rintro ⟨_, S1⟩ ⟨t1, f1⟩
      refine ep_bind (f155 t1 (by omega)) ?_
      rintro ⟨_, S2⟩ ⟨t2, f2⟩
      refine ep_bind (f155 t2 (by omega)) ?_
      rintro ⟨_, S3⟩ ⟨t3, f3⟩
      refine ep_bind (f155 t3 (by omega)) ?_
      rintro ⟨_, S4⟩ ⟨t4, f4⟩
      refine ep_bind (f155 t4 (by omega)) ?_
      rintro ⟨_, S5⟩ ⟨t5, f5⟩
      have ff : FM S S5 := FM_tr (FM_tr (FM_tr (FM_tr f1 f2) f3) f4) f5
      refine ep_ret ⟨t5.1, RM_keep ok hm rfl rfl ⟨rfl, rfl, rfl⟩ t5 ?_ ?_ ⟨(ff.1 30 (by decide)).1, (ff.1 35 (by decide)).1, (ff.1 47 (by decide)).1⟩ (fun k i hk => by rw [(ff.1 k (by omega)).2])⟩
      · rw [(ff.1 1 (by decide)).2]
        exact hm.2.2.1.2.2.2.2.1
      · rw [(ff.1 1 (by decide)).2]
        exact hm.2.2.1.2.2.2.2.2
  · refine ⟨zI 0, A, ok1, callT_id (fun T G hc => ?_), callM_id (fun S hm => ?_)⟩
    · refine ev_succ (fun n => G12e0 n ..) ?_
      have h1 := hc.1.1
      simp (disch := omega) only [G12b0, L0, L1, L2, L3, L4, L5, L6, L7, L8, L9, L10, L11, L12, L13, L16, L20, L31, L32, L40, L48, L57, L59, L60, L61, L91, L93, L97, L99, L100, L102, L103, L114, L122, L255, L300, L400, L402, L999, L2280, L2500, L99999, L63, L1431655765, L858993459, L252645135, ic_ge, ic_gt, ic_le, ic_lt, ic_eq, ic_ne, if_lt, if_ge, if_gt, if_le, if_eq, if_ne, if_lt_zI, if_ge_zI, ic_ne_m1, ic_eq_m1, ic_nn_m1, ic_ee_m1, if_ne_b2i, if_eq_b2i, b2i_z, decide_eq_true_eq, decide_true, decide_false, Bool.not_eq_true, Bool.not_eq_true', Bool.not_true, Bool.not_false, decide_eq_false_iff_not, Bool.false_eq_true, not_false_eq_true, not_true_eq_false, if_true, if_false, ↓reduceIte, eq_self, Option.bind_some, Bool.true_and, Bool.false_and, Bool.and_true, Bool.and_false, nI_add, nI_subN, nI_clamp, gdF, gdF2, gdP, gdP2, zI_cl, zI_s, Lm1, nI_n0, zI_n0, leF, or_false, false_or, or_self, h1, h]
      exact ev_ret
    · refine ev_succ (fun n => F154e0 n ..) ?_
      have h1 := hm.1.1
      simp (disch := omega) only [F154b0, L0, L1, L2, L3, L4, L5, L6, L7, L8, L9, L10, L11, L12, L13, L16, L20, L31, L32, L40, L48, L57, L59, L60, L61, L91, L93, L97, L99, L100, L102, L103, L114, L122, L255, L300, L400, L402, L999, L2280, L2500, L99999, L63, L1431655765, L858993459, L252645135, ic_ge, ic_gt, ic_le, ic_lt, ic_eq, ic_ne, if_lt, if_ge, if_gt, if_le, if_eq, if_ne, if_lt_zI, if_ge_zI, ic_ne_m1, ic_eq_m1, ic_nn_m1, ic_ee_m1, if_ne_b2i, if_eq_b2i, b2i_z, decide_eq_true_eq, decide_true, decide_false, Bool.not_eq_true, Bool.not_eq_true', Bool.not_true, Bool.not_false, decide_eq_false_iff_not, Bool.false_eq_true, not_false_eq_true, not_true_eq_false, if_true, if_false, ↓reduceIte, eq_self, Option.bind_some, Bool.true_and, Bool.false_and, Bool.and_true, Bool.and_false, nI_add, nI_subN, nI_clamp, gdF, gdF2, gdP, gdP2, zI_cl, zI_s, Lm1, nI_n0, zI_n0, leF, or_false, false_or, or_self, h1, h]
      exact ev_ret
