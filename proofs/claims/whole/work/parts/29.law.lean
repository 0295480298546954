/-! the law's loop -/
def hS (S : mS) : Nat → va_E := fun p => if 130 ≤ p ∧ p < 172 then m_ce S (p - 130) else am_hI.1 p
theorem x_kd_m {G : gS} {p : Nat} (h : 130 ≤ p ∧ p < 172) : x_kd G p = (0, 0) := by
  unfold x_kd
  rw [if_neg (by omega), if_pos h.2]
theorem cst_m {S : mS} {T : xS} {G : gS} : xst T G (hS S) = mst S (xst T G am_hI.1) := by
  unfold xst mst
  refine Prod.ext ?_ rfl
  funext p
  simp only
  by_cases hp : 130 ≤ p ∧ p < 172
  · rw [x_kd_m hp, if_pos rfl, if_pos hp]
    exact if_pos hp
  · rw [if_neg hp]
    by_cases hk : (x_kd G p).1 = 0
    · rw [if_pos hk, if_pos hk]
      exact if_neg hp
    · rw [if_neg hk, if_neg hk]
theorem x_172 {T : xS} {G : gS} {h : Nat → va_E} : 172 ≤ (xst T G h).2.1 := by show 172 ≤ 172 + G.2.1; omega
theorem x_lt0 {T : xS} {G : gS} {h : Nat → va_E} : 0 < (xst T G h).2.1 := by show 0 < 172 + G.2.1; omega
theorem lx_n {m : Nat} (h : m < 3072) : ¬ nI m < 0 := fun z => nI_in (c := m) (N := m + 1) (Nat.lt_succ_self m) (by omega) (Or.inl z)
theorem lx_c {m : Nat} (h : m < 3072) : (nI m).toNatClampNeg = m := nI_clamp (by omega)
theorem ic_rf (r : Int32) : am_ic .eq r r = true := by simp [am_ic]
theorem and31 (x : Int32) : ∃ c : Nat, c < 32 ∧ x &&& 31 = nI c := by
  have h : (x.toBitVec &&& 31#32).toNat < 32 := by
    rw [BitVec.toNat_and]
    exact Nat.lt_of_le_of_lt Nat.and_le_right (by decide)
  refine ⟨(x.toBitVec &&& 31#32).toNat, h, ?_⟩
  apply Int32.toBitVec_inj.mp
  show (x &&& 31).toBitVec = (Int32.ofNat _).toBitVec
  rw [Int32.toBitVec_ofNat']
  simp
def Sm0 (R : Nat → mS → xS × gS → Prop) (k : Nat) (a1 : Int32) (a2 : Int32) (a3 : Int32) (a4 : Int32) (a5 : Int32) (S : mS) (U : xS × gS) : Prop := ∃ (n n' : Nat) (r : Int32) (S' : mS) (T' : xS), G12 n a1 a2 a3 a4 a5 U.1 = some (r, T') ∧ F154 n' a1 a2 a3 a4 a5 S = some (r, S') ∧ R (k + 1) S' (T', U.2)
def Sm1 (R : Nat → mS → xS × gS → Prop) (k : Nat) (a1 : Int32) (S : mS) (U : xS × gS) : Prop := ∃ (n n' : Nat) (r : Int32) (S' : mS) (T' : xS), G14 n a1 U.1 = some (r, T') ∧ F156 n' a1 S = some (r, S') ∧ R (k + 1) S' (T', U.2)
def Sm2 (R : Nat → mS → xS × gS → Prop) (k : Nat) (S : mS) (U : xS × gS) : Prop := ∃ (n n' : Nat) (r : Int32) (S' : mS) (T' : xS), G15 n  U.1 = some (r, T') ∧ F157 n'  S = some (r, S') ∧ R (k + 1) S' (T', U.2)
def Sm3 (R : Nat → mS → xS × gS → Prop) (k : Nat) (S : mS) (U : xS × gS) : Prop := ∃ (n n' : Nat) (r : Int32) (S' : mS) (U' : xS × gS), G56 n  U = some (r, U') ∧ F180 n'  S = some (r, S') ∧ R (k + 1) S' U'
def Sm4 (R : Nat → mS → xS × gS → Prop) (k : Nat) (a1 : Int32) (S : mS) (U : xS × gS) : Prop := ∃ (n n' : Nat) (r : Int32) (S' : mS) (T' : xS), G73 n a1 U.1 = some (r, T') ∧ F194 n' a1 S = some (r, S') ∧ R (k + 1) S' (T', U.2)
def Sm5 (R : Nat → mS → xS × gS → Prop) (k : Nat) (a1 : Int32) (a2 : Int32) (S : mS) (U : xS × gS) : Prop := ∃ (n n' : Nat) (r : Int32) (S' : mS) (T' : xS), G74 n a1 a2 U.1 = some (r, T') ∧ F195 n' a1 a2 S = some (r, S') ∧ R (k + 1) S' (T', U.2)
def Sm6 (R : Nat → mS → xS × gS → Prop) (k : Nat) (a1 : Int32) (a2 : Int32) (S : mS) (U : xS × gS) : Prop := ∃ (n n' : Nat) (r : Int32) (S' : mS) (T' : xS), G79 n a1 a2 U.1 = some (r, T') ∧ F203 n' a1 a2 S = some (r, S') ∧ R (k + 1) S' (T', U.2)
def Sm7 (R : Nat → mS → xS × gS → Prop) (k : Nat) (S : mS) (U : xS × gS) : Prop := ∃ (n n' : Nat) (r : Int32) (S' : mS) (U' : xS × gS), G81 n  U = some (r, U') ∧ F209 n'  S = some (r, S') ∧ R (k + 1) S' U'
def Sm8 (R : Nat → mS → xS × gS → Prop) (k : Nat) (a1 : Int32) (a2 : Int32) (S : mS) (U : xS × gS) : Prop := ∃ (n n' : Nat) (r : Int32) (S' : mS) (U' : xS × gS), G101 n a1 a2 U = some (r, U') ∧ F230 n' a1 a2 S = some (r, S') ∧ R (k + 1) S' U'
def Sm9 (R : Nat → mS → xS × gS → Prop) (k : Nat) (a1 : Int32) (S : mS) (U : xS × gS) : Prop := ∃ (n n' : Nat) (r : Int32) (S' : mS) (U' : xS × gS), G103 n a1 U = some (r, U') ∧ F233 n' a1 S = some (r, S') ∧ R (k + 1) S' U'
def Sm10 (R : Nat → mS → xS × gS → Prop) (k : Nat) (a1 : Int32) (a2 : Int32) (S : mS) (U : xS × gS) : Prop := ∃ (n n' : Nat) (r : Int32) (S' : mS) (U' : xS × gS), G104 n a1 a2 U = some (r, U') ∧ F234 n' a1 a2 S = some (r, S') ∧ R (k + 1) S' U'
def Sm11 (R : Nat → mS → xS × gS → Prop) (k : Nat) (a1 : Int32) (a2 : Int32) (S : mS) (U : xS × gS) : Prop := ∃ (n n' : Nat) (r : Int32) (S' : mS) (U' : xS × gS), G105 n a1 a2 U = some (r, U') ∧ F235 n' a1 a2 S = some (r, S') ∧ R (k + 1) S' U'
def Sm12 (R : Nat → mS → xS × gS → Prop) (k : Nat) (S : mS) (U : xS × gS) : Prop := ∃ (n n' : Nat) (r : Int32) (S' : mS) (U' : xS × gS), G106 n  U = some (r, U') ∧ F205 n'  S = some (r, S') ∧ R (k + 1) S' U'
def Sm13 (R : Nat → mS → xS × gS → Prop) (k : Nat) (a1 : Int32) (a2 : Int32) (a3 : Int32) (S : mS) (U : xS × gS) : Prop := ∃ (n n' : Nat) (r : Int32) (S' : mS) (U' : xS × gS), G108 n a1 a2 a3 U = some (r, U') ∧ F238 n' a1 a2 a3 S = some (r, S') ∧ R (k + 1) S' U'
def Sm14 (R : Nat → mS → xS × gS → Prop) (k : Nat) (a1 : Int32) (a2 : Int32) (S : mS) (U : xS × gS) : Prop := ∃ (n n' : Nat) (r : Int32) (S' : mS) (U' : xS × gS), G111 n a1 a2 U = some (r, U') ∧ F244 n' a1 a2 S = some (r, S') ∧ R (k + 1) S' U'
def Sm15 (R : Nat → mS → xS × gS → Prop) (k : Nat) (a1 : Int32) (a2 : Int32) (S : mS) (U : xS × gS) : Prop := ∃ (n n' : Nat) (r : Int32) (S' : mS) (U' : xS × gS), G114 n a1 a2 U = some (r, U') ∧ F245 n' a1 a2 S = some (r, S') ∧ R (k + 1) S' U'
def Sm16 (R : Nat → mS → xS × gS → Prop) (k : Nat) (a1 : Int32) (a2 : Int32) (a3 : Int32) (a4 : Int32) (S : mS) (U : xS × gS) : Prop := ∃ (n n' : Nat) (r : Int32) (S' : mS) (U' : xS × gS), G124 n a1 a2 a3 a4 U = some (r, U') ∧ F248 n' a1 a2 a3 a4 S = some (r, S') ∧ R (k + 1) S' U'
def Sm17 (R : Nat → mS → xS × gS → Prop) (k : Nat) (a1 : Int32) (a2 : Int32) (S : mS) (U : xS × gS) : Prop := ∃ (n n' : Nat) (r : Int32) (S' : mS) (T' : xS), G126 n a1 a2 U.1 = some (r, T') ∧ F249 n' a1 a2 S = some (r, S') ∧ R (k + 1) S' (T', U.2)
def Sm18 (R : Nat → mS → xS × gS → Prop) (k : Nat) (a1 : Int32) (a2 : Int32) (a3 : Int32) (S : mS) (U : xS × gS) : Prop := ∃ (n n' : Nat) (r : Int32) (S' : mS) (T' : xS), G133 n a1 a2 a3 U.1 = some (r, T') ∧ F251 n' a1 a2 a3 S = some (r, S') ∧ R (k + 1) S' (T', U.2)
def Sm19 (R : Nat → mS → xS × gS → Prop) (k : Nat) (a1 : Int32) (a2 : Int32) (S : mS) (U : xS × gS) : Prop := ∃ (n n' : Nat) (r : Int32) (S' : mS) (U' : xS × gS), G135 n a1 a2 U = some (r, U') ∧ F254 n' a1 a2 S = some (r, S') ∧ R (k + 1) S' U'
def Sm20 (R : Nat → mS → xS × gS → Prop) (k : Nat) (a1 : Int32) (a2 : Int32) (S : mS) (U : xS × gS) : Prop := ∃ (n n' : Nat) (r : Int32) (S' : mS) (T' : xS), G138 n a1 a2 U.1 = some (r, T') ∧ F256 n' a1 a2 S = some (r, S') ∧ R (k + 1) S' (T', U.2)
def Sm21 (R : Nat → mS → xS × gS → Prop) (k : Nat) (a1 : Int32) (a2 : Int32) (S : mS) (U : xS × gS) : Prop := ∃ (n n' : Nat) (r : Int32) (S' : mS) (T' : xS), G140 n a1 a2 U.1 = some (r, T') ∧ F258 n' a1 a2 S = some (r, S') ∧ R (k + 1) S' (T', U.2)
def Sm22 (R : Nat → mS → xS × gS → Prop) (k : Nat) (a1 : Int32) (S : mS) (U : xS × gS) : Prop := ∃ (n n' : Nat) (r : Int32) (S' : mS) (T' : xS), G143 n a1 U.1 = some (r, T') ∧ F260 n' a1 S = some (r, S') ∧ R (k + 1) S' (T', U.2)
def Sm23 (R : Nat → mS → xS × gS → Prop) (k : Nat) (a1 : Int32) (a2 : Int32) (a3 : Int32) (S : mS) (U : xS × gS) : Prop := ∃ (n n' : Nat) (r : Int32) (S' : mS) (U' : xS × gS), G144 n a1 a2 a3 U = some (r, U') ∧ F261 n' a1 a2 a3 S = some (r, S') ∧ R (k + 1) S' U'
def Sm24 (R : Nat → mS → xS × gS → Prop) (k : Nat) (a1 : Int32) (S : mS) (U : xS × gS) : Prop := ∃ (n n' : Nat) (r : Int32) (S' : mS) (T' : xS), G148 n a1 U.1 = some (r, T') ∧ F264 n' a1 S = some (r, S') ∧ R (k + 1) S' (T', U.2)
def Sm25 (R : Nat → mS → xS × gS → Prop) (k : Nat) (a1 : Int32) (S : mS) (U : xS × gS) : Prop := ∃ (n n' : Nat) (r : Int32) (S' : mS) (U' : xS × gS), G149 n a1 U = some (r, U') ∧ F265 n' a1 S = some (r, S') ∧ R (k + 1) S' U'
def Sm26 (R : Nat → mS → xS × gS → Prop) (k : Nat) (a1 : Int32) (S : mS) (U : xS × gS) : Prop := ∃ (n n' : Nat) (r : Int32) (S' : mS) (U' : xS × gS), G152 n a1 U = some (r, U') ∧ F266 n' a1 S = some (r, S') ∧ R (k + 1) S' U'
theorem lc0 {xs : Nat → Int32} {L9 d k : Nat} {R : Nat → mS → xS × gS → Prop} {Q : Option Value → AmH → Prop} {S : mS} {U : xS × gS} (hk : 6 * k + 6 ≤ L9) (hL : L9 ≤ 3072) (hT : ∀ (S' : mS) (U' : xS × gS), R (k + 1) S' U' → Go (am_X xs L9) (d + 100) 267 993 [.ref 0, .ref 64, .ref 130, .int (nI (6 * k))] [] (xst U'.1 U'.2 (hS S')) Q) (h : Sm0 R k (xs (6 * k + 1)) (xs (6 * k + 2)) (xs (6 * k + 3)) (xs (6 * k + 4)) (xs (6 * k + 5)) S U) : Go (am_X xs L9) (d + 100) 267 156 [.ref 0, .ref 64, .ref 130, .int (nI (6 * k))] [] (xst U.1 U.2 (hS S)) Q := by
  obtain ⟨n, n', r, S', T', hc, hr, hR⟩ := h
  refine r_aload_n fe_267_156 rfl ?_
  refine r_aload_n fe_267_157 rfl ?_
  refine r_iload_n fe_267_158 rfl ?_
  refine r_iconst (v := 1) fe_267_159 (by decide) ?_
  refine r_iadd (v := nI (6 * k + 1)) fe_267_160 (nI_add (6 * k) 1) ?_
  refine r_iald (j := 6 * k + 1) (v := xs (6 * k + 1)) (n := L9) (a := xs) fe_267_161 rfl x_lt0 (lx_n (by omega)) (lx_c (by omega)) (by omega) rfl ?_
  refine r_aload_n fe_267_162 rfl ?_
  refine r_iload_n fe_267_163 rfl ?_
  refine r_iconst (v := 2) fe_267_164 (by decide) ?_
  refine r_iadd (v := nI (6 * k + 2)) fe_267_165 (nI_add (6 * k) 2) ?_
  refine r_iald (j := 6 * k + 2) (v := xs (6 * k + 2)) (n := L9) (a := xs) fe_267_166 rfl x_lt0 (lx_n (by omega)) (lx_c (by omega)) (by omega) rfl ?_
  refine r_aload_n fe_267_167 rfl ?_
  refine r_iload_n fe_267_168 rfl ?_
  refine r_iconst (v := 3) fe_267_169 (by decide) ?_
  refine r_iadd (v := nI (6 * k + 3)) fe_267_170 (nI_add (6 * k) 3) ?_
  refine r_iald (j := 6 * k + 3) (v := xs (6 * k + 3)) (n := L9) (a := xs) fe_267_171 rfl x_lt0 (lx_n (by omega)) (lx_c (by omega)) (by omega) rfl ?_
  refine r_aload_n fe_267_172 rfl ?_
  refine r_iload_n fe_267_173 rfl ?_
  refine r_iconst (v := 4) fe_267_174 (by decide) ?_
  refine r_iadd (v := nI (6 * k + 4)) fe_267_175 (nI_add (6 * k) 4) ?_
  refine r_iald (j := 6 * k + 4) (v := xs (6 * k + 4)) (n := L9) (a := xs) fe_267_176 rfl x_lt0 (lx_n (by omega)) (lx_c (by omega)) (by omega) rfl ?_
  refine r_aload_n fe_267_177 rfl ?_
  refine r_iload_n fe_267_178 rfl ?_
  refine r_iconst (v := 5) fe_267_179 (by decide) ?_
  refine r_iadd (v := nI (6 * k + 5)) fe_267_180 (nI_add (6 * k) 5) ?_
  refine r_iald (j := 6 * k + 5) (v := xs (6 * k + 5)) (n := L9) (a := xs) fe_267_181 rfl x_lt0 (lx_n (by omega)) (lx_c (by omega)) (by omega) rfl ?_
  refine r_callV (as := [.int (xs (6 * k + 1)), .int (xs (6 * k + 2)), .int (xs (6 * k + 3)), .int (xs (6 * k + 4)), .int (xs (6 * k + 5))]) (r := []) fe_267_182 lm_18_13 md_12 rfl rfl (Nat.le_of_ble_eq_true rfl) (x_c xk_64 (by decide)) (x_lt xk_64 (by decide)) (Nat.le_of_ble_eq_true rfl) (Nat.le_of_ble_eq_true rfl) ?_
  refine G12c (d := d + 98) (hf := hc) ?_
  refine r_aload_n fe_267_185 rfl ?_
  refine r_aload_n fe_267_186 rfl ?_
  refine r_iload_n fe_267_187 rfl ?_
  refine r_iconst (v := 1) fe_267_188 (by decide) ?_
  refine r_iadd (v := nI (6 * k + 1)) fe_267_189 (nI_add (6 * k) 1) ?_
  refine r_iald (j := 6 * k + 1) (v := xs (6 * k + 1)) (n := L9) (a := xs) fe_267_190 rfl x_lt0 (lx_n (by omega)) (lx_c (by omega)) (by omega) rfl ?_
  refine r_aload_n fe_267_191 rfl ?_
  refine r_iload_n fe_267_192 rfl ?_
  refine r_iconst (v := 2) fe_267_193 (by decide) ?_
  refine r_iadd (v := nI (6 * k + 2)) fe_267_194 (nI_add (6 * k) 2) ?_
  refine r_iald (j := 6 * k + 2) (v := xs (6 * k + 2)) (n := L9) (a := xs) fe_267_195 rfl x_lt0 (lx_n (by omega)) (lx_c (by omega)) (by omega) rfl ?_
  refine r_aload_n fe_267_196 rfl ?_
  refine r_iload_n fe_267_197 rfl ?_
  refine r_iconst (v := 3) fe_267_198 (by decide) ?_
  refine r_iadd (v := nI (6 * k + 3)) fe_267_199 (nI_add (6 * k) 3) ?_
  refine r_iald (j := 6 * k + 3) (v := xs (6 * k + 3)) (n := L9) (a := xs) fe_267_200 rfl x_lt0 (lx_n (by omega)) (lx_c (by omega)) (by omega) rfl ?_
  refine r_aload_n fe_267_201 rfl ?_
  refine r_iload_n fe_267_202 rfl ?_
  refine r_iconst (v := 4) fe_267_203 (by decide) ?_
  refine r_iadd (v := nI (6 * k + 4)) fe_267_204 (nI_add (6 * k) 4) ?_
  refine r_iald (j := 6 * k + 4) (v := xs (6 * k + 4)) (n := L9) (a := xs) fe_267_205 rfl x_lt0 (lx_n (by omega)) (lx_c (by omega)) (by omega) rfl ?_
  refine r_aload_n fe_267_206 rfl ?_
  refine r_iload_n fe_267_207 rfl ?_
  refine r_iconst (v := 5) fe_267_208 (by decide) ?_
  refine r_iadd (v := nI (6 * k + 5)) fe_267_209 (nI_add (6 * k) 5) ?_
  refine r_iald (j := 6 * k + 5) (v := xs (6 * k + 5)) (n := L9) (a := xs) fe_267_210 rfl x_lt0 (lx_n (by omega)) (lx_c (by omega)) (by omega) rfl ?_
  refine go_heap cst_m ?_
  refine r_callV (as := [.int (xs (6 * k + 1)), .int (xs (6 * k + 2)), .int (xs (6 * k + 3)), .int (xs (6 * k + 4)), .int (xs (6 * k + 5))]) (r := [.int r]) fe_267_211 lm_18_17 md_154 rfl rfl (Nat.le_of_ble_eq_true rfl) m_c_0 (m_lt x_172 (by decide)) (Nat.le_of_ble_eq_true rfl) (Nat.le_of_ble_eq_true rfl) ?_
  refine F154c (d := d + 98) x_172 hr ?_
  refine go_heap cst_m.symm ?_
  refine r_ic_t (t := 993) fe_267_214 (by decide) (ic_rf r) ?_
  exact hT S' (T', U.2) hR
theorem lc1 {xs : Nat → Int32} {L9 d k : Nat} {R : Nat → mS → xS × gS → Prop} {Q : Option Value → AmH → Prop} {S : mS} {U : xS × gS} (hk : 6 * k + 6 ≤ L9) (hL : L9 ≤ 3072) (hT : ∀ (S' : mS) (U' : xS × gS), R (k + 1) S' U' → Go (am_X xs L9) (d + 100) 267 993 [.ref 0, .ref 64, .ref 130, .int (nI (6 * k))] [] (xst U'.1 U'.2 (hS S')) Q) (h : Sm1 R k (xs (6 * k + 1)) S U) : Go (am_X xs L9) (d + 100) 267 219 [.ref 0, .ref 64, .ref 130, .int (nI (6 * k))] [] (xst U.1 U.2 (hS S)) Q := by
  obtain ⟨n, n', r, S', T', hc, hr, hR⟩ := h
  refine r_aload_n fe_267_219 rfl ?_
  refine r_aload_n fe_267_220 rfl ?_
  refine r_iload_n fe_267_221 rfl ?_
  refine r_iconst (v := 1) fe_267_222 (by decide) ?_
  refine r_iadd (v := nI (6 * k + 1)) fe_267_223 (nI_add (6 * k) 1) ?_
  refine r_iald (j := 6 * k + 1) (v := xs (6 * k + 1)) (n := L9) (a := xs) fe_267_224 rfl x_lt0 (lx_n (by omega)) (lx_c (by omega)) (by omega) rfl ?_
  refine r_callV (as := [.int (xs (6 * k + 1))]) (r := []) fe_267_225 lm_18_18 md_14 rfl rfl (Nat.le_of_ble_eq_true rfl) (x_c xk_64 (by decide)) (x_lt xk_64 (by decide)) (Nat.le_of_ble_eq_true rfl) (Nat.le_of_ble_eq_true rfl) ?_
  refine G14c (d := d + 99) (hf := hc) ?_
  refine r_aload_n fe_267_228 rfl ?_
  refine r_aload_n fe_267_229 rfl ?_
  refine r_iload_n fe_267_230 rfl ?_
  refine r_iconst (v := 1) fe_267_231 (by decide) ?_
  refine r_iadd (v := nI (6 * k + 1)) fe_267_232 (nI_add (6 * k) 1) ?_
  refine r_iald (j := 6 * k + 1) (v := xs (6 * k + 1)) (n := L9) (a := xs) fe_267_233 rfl x_lt0 (lx_n (by omega)) (lx_c (by omega)) (by omega) rfl ?_
  refine go_heap cst_m ?_
  refine r_callV (as := [.int (xs (6 * k + 1))]) (r := [.int r]) fe_267_234 lm_18_22 md_156 rfl rfl (Nat.le_of_ble_eq_true rfl) m_c_0 (m_lt x_172 (by decide)) (Nat.le_of_ble_eq_true rfl) (Nat.le_of_ble_eq_true rfl) ?_
  refine F156c (d := d + 99) x_172 hr ?_
  refine go_heap cst_m.symm ?_
  refine r_ic_t (t := 993) fe_267_237 (by decide) (ic_rf r) ?_
  exact hT S' (T', U.2) hR
theorem lc2 {xs : Nat → Int32} {L9 d k : Nat} {R : Nat → mS → xS × gS → Prop} {Q : Option Value → AmH → Prop} {S : mS} {U : xS × gS} (hk : 6 * k + 6 ≤ L9) (hL : L9 ≤ 3072) (hT : ∀ (S' : mS) (U' : xS × gS), R (k + 1) S' U' → Go (am_X xs L9) (d + 100) 267 993 [.ref 0, .ref 64, .ref 130, .int (nI (6 * k))] [] (xst U'.1 U'.2 (hS S')) Q) (h : Sm2 R k  S U) : Go (am_X xs L9) (d + 100) 267 242 [.ref 0, .ref 64, .ref 130, .int (nI (6 * k))] [] (xst U.1 U.2 (hS S)) Q := by
  obtain ⟨n, n', r, S', T', hc, hr, hR⟩ := h
  refine r_aload_n fe_267_242 rfl ?_
  refine r_callV (as := []) (r := []) fe_267_243 lm_18_23 md_15 rfl rfl (Nat.le_of_ble_eq_true rfl) (x_c xk_64 (by decide)) (x_lt xk_64 (by decide)) (Nat.le_of_ble_eq_true rfl) (Nat.le_of_ble_eq_true rfl) ?_
  refine G15c (d := d + 91) (hf := hc) ?_
  refine r_aload_n fe_267_246 rfl ?_
  refine go_heap cst_m ?_
  refine r_callV (as := []) (r := [.int r]) fe_267_247 lm_18_27 md_157 rfl rfl (Nat.le_of_ble_eq_true rfl) m_c_0 (m_lt x_172 (by decide)) (Nat.le_of_ble_eq_true rfl) (Nat.le_of_ble_eq_true rfl) ?_
  refine F157c (d := d + 90) x_172 hr ?_
  refine go_heap cst_m.symm ?_
  refine r_ic_t (t := 993) fe_267_250 (by decide) (ic_rf r) ?_
  exact hT S' (T', U.2) hR
theorem lc3 {xs : Nat → Int32} {L9 d k : Nat} {R : Nat → mS → xS × gS → Prop} {Q : Option Value → AmH → Prop} {S : mS} {U : xS × gS} (hk : 6 * k + 6 ≤ L9) (hL : L9 ≤ 3072) (hT : ∀ (S' : mS) (U' : xS × gS), R (k + 1) S' U' → Go (am_X xs L9) (d + 100) 267 993 [.ref 0, .ref 64, .ref 130, .int (nI (6 * k))] [] (xst U'.1 U'.2 (hS S')) Q) (h : Sm3 R k  S U) : Go (am_X xs L9) (d + 100) 267 255 [.ref 0, .ref 64, .ref 130, .int (nI (6 * k))] [] (xst U.1 U.2 (hS S)) Q := by
  obtain ⟨n, n', r, S', U', hc, hr, hR⟩ := h
  refine r_aload_n fe_267_255 rfl ?_
  refine r_callV (as := []) (r := []) fe_267_256 lm_18_28 md_56 rfl rfl (Nat.le_of_ble_eq_true rfl) (x_c xk_64 (by decide)) (x_lt xk_64 (by decide)) (Nat.le_of_ble_eq_true rfl) (Nat.le_of_ble_eq_true rfl) ?_
  refine G56c (d := d + 42) (hf := hc) ?_
  refine r_aload_n fe_267_259 rfl ?_
  refine go_heap cst_m ?_
  refine r_callV (as := []) (r := [.int r]) fe_267_260 lm_18_31 md_180 rfl rfl (Nat.le_of_ble_eq_true rfl) m_c_0 (m_lt x_172 (by decide)) (Nat.le_of_ble_eq_true rfl) (Nat.le_of_ble_eq_true rfl) ?_
  refine F180c (d := d + 87) x_172 hr ?_
  refine go_heap cst_m.symm ?_
  refine r_ic_t (t := 993) fe_267_263 (by decide) (ic_rf r) ?_
  exact hT S' U' hR
theorem lc4 {xs : Nat → Int32} {L9 d k : Nat} {R : Nat → mS → xS × gS → Prop} {Q : Option Value → AmH → Prop} {S : mS} {U : xS × gS} (hk : 6 * k + 6 ≤ L9) (hL : L9 ≤ 3072) (hT : ∀ (S' : mS) (U' : xS × gS), R (k + 1) S' U' → Go (am_X xs L9) (d + 100) 267 993 [.ref 0, .ref 64, .ref 130, .int (nI (6 * k))] [] (xst U'.1 U'.2 (hS S')) Q) (h : Sm4 R k (xs (6 * k + 1)) S U) : Go (am_X xs L9) (d + 100) 267 268 [.ref 0, .ref 64, .ref 130, .int (nI (6 * k))] [] (xst U.1 U.2 (hS S)) Q := by
  obtain ⟨n, n', r, S', T', hc, hr, hR⟩ := h
  refine r_aload_n fe_267_268 rfl ?_
  refine r_aload_n fe_267_269 rfl ?_
  refine r_iload_n fe_267_270 rfl ?_
  refine r_iconst (v := 1) fe_267_271 (by decide) ?_
  refine r_iadd (v := nI (6 * k + 1)) fe_267_272 (nI_add (6 * k) 1) ?_
  refine r_iald (j := 6 * k + 1) (v := xs (6 * k + 1)) (n := L9) (a := xs) fe_267_273 rfl x_lt0 (lx_n (by omega)) (lx_c (by omega)) (by omega) rfl ?_
  refine r_callV (as := [.int (xs (6 * k + 1))]) (r := []) fe_267_274 lm_18_32 md_73 rfl rfl (Nat.le_of_ble_eq_true rfl) (x_c xk_64 (by decide)) (x_lt xk_64 (by decide)) (Nat.le_of_ble_eq_true rfl) (Nat.le_of_ble_eq_true rfl) ?_
  refine G73c (d := d + 99) (hf := hc) ?_
  refine r_aload_n fe_267_277 rfl ?_
  refine r_aload_n fe_267_278 rfl ?_
  refine r_iload_n fe_267_279 rfl ?_
  refine r_iconst (v := 1) fe_267_280 (by decide) ?_
  refine r_iadd (v := nI (6 * k + 1)) fe_267_281 (nI_add (6 * k) 1) ?_
  refine r_iald (j := 6 * k + 1) (v := xs (6 * k + 1)) (n := L9) (a := xs) fe_267_282 rfl x_lt0 (lx_n (by omega)) (lx_c (by omega)) (by omega) rfl ?_
  refine go_heap cst_m ?_
  refine r_callV (as := [.int (xs (6 * k + 1))]) (r := [.int r]) fe_267_283 lm_18_35 md_194 rfl rfl (Nat.le_of_ble_eq_true rfl) m_c_0 (m_lt x_172 (by decide)) (Nat.le_of_ble_eq_true rfl) (Nat.le_of_ble_eq_true rfl) ?_
  refine F194c (d := d + 98) x_172 hr ?_
  refine go_heap cst_m.symm ?_
  refine r_ic_t (t := 993) fe_267_286 (by decide) (ic_rf r) ?_
  exact hT S' (T', U.2) hR
theorem lc5 {xs : Nat → Int32} {L9 d k : Nat} {R : Nat → mS → xS × gS → Prop} {Q : Option Value → AmH → Prop} {S : mS} {U : xS × gS} (hk : 6 * k + 6 ≤ L9) (hL : L9 ≤ 3072) (hT : ∀ (S' : mS) (U' : xS × gS), R (k + 1) S' U' → Go (am_X xs L9) (d + 100) 267 993 [.ref 0, .ref 64, .ref 130, .int (nI (6 * k))] [] (xst U'.1 U'.2 (hS S')) Q) (h : Sm5 R k (xs (6 * k + 1)) (xs (6 * k + 2)) S U) : Go (am_X xs L9) (d + 100) 267 291 [.ref 0, .ref 64, .ref 130, .int (nI (6 * k))] [] (xst U.1 U.2 (hS S)) Q := by
  obtain ⟨n, n', r, S', T', hc, hr, hR⟩ := h
  refine r_aload_n fe_267_291 rfl ?_
  refine r_aload_n fe_267_292 rfl ?_
  refine r_iload_n fe_267_293 rfl ?_
  refine r_iconst (v := 1) fe_267_294 (by decide) ?_
  refine r_iadd (v := nI (6 * k + 1)) fe_267_295 (nI_add (6 * k) 1) ?_
  refine r_iald (j := 6 * k + 1) (v := xs (6 * k + 1)) (n := L9) (a := xs) fe_267_296 rfl x_lt0 (lx_n (by omega)) (lx_c (by omega)) (by omega) rfl ?_
  refine r_aload_n fe_267_297 rfl ?_
  refine r_iload_n fe_267_298 rfl ?_
  refine r_iconst (v := 2) fe_267_299 (by decide) ?_
  refine r_iadd (v := nI (6 * k + 2)) fe_267_300 (nI_add (6 * k) 2) ?_
  refine r_iald (j := 6 * k + 2) (v := xs (6 * k + 2)) (n := L9) (a := xs) fe_267_301 rfl x_lt0 (lx_n (by omega)) (lx_c (by omega)) (by omega) rfl ?_
  refine r_callV (as := [.int (xs (6 * k + 1)), .int (xs (6 * k + 2))]) (r := []) fe_267_302 lm_18_36 md_74 rfl rfl (Nat.le_of_ble_eq_true rfl) (x_c xk_64 (by decide)) (x_lt xk_64 (by decide)) (Nat.le_of_ble_eq_true rfl) (Nat.le_of_ble_eq_true rfl) ?_
  refine G74c (d := d + 98) (hf := hc) ?_
  refine r_aload_n fe_267_305 rfl ?_
  refine r_aload_n fe_267_306 rfl ?_
  refine r_iload_n fe_267_307 rfl ?_
  refine r_iconst (v := 1) fe_267_308 (by decide) ?_
  refine r_iadd (v := nI (6 * k + 1)) fe_267_309 (nI_add (6 * k) 1) ?_
  refine r_iald (j := 6 * k + 1) (v := xs (6 * k + 1)) (n := L9) (a := xs) fe_267_310 rfl x_lt0 (lx_n (by omega)) (lx_c (by omega)) (by omega) rfl ?_
  refine r_aload_n fe_267_311 rfl ?_
  refine r_iload_n fe_267_312 rfl ?_
  refine r_iconst (v := 2) fe_267_313 (by decide) ?_
  refine r_iadd (v := nI (6 * k + 2)) fe_267_314 (nI_add (6 * k) 2) ?_
  refine r_iald (j := 6 * k + 2) (v := xs (6 * k + 2)) (n := L9) (a := xs) fe_267_315 rfl x_lt0 (lx_n (by omega)) (lx_c (by omega)) (by omega) rfl ?_
  refine go_heap cst_m ?_
  refine r_callV (as := [.int (xs (6 * k + 1)), .int (xs (6 * k + 2))]) (r := [.int r]) fe_267_316 lm_18_40 md_195 rfl rfl (Nat.le_of_ble_eq_true rfl) m_c_0 (m_lt x_172 (by decide)) (Nat.le_of_ble_eq_true rfl) (Nat.le_of_ble_eq_true rfl) ?_
  refine F195c (d := d + 97) x_172 hr ?_
  refine go_heap cst_m.symm ?_
  refine r_ic_t (t := 993) fe_267_319 (by decide) (ic_rf r) ?_
  exact hT S' (T', U.2) hR
theorem lc6 {xs : Nat → Int32} {L9 d k : Nat} {R : Nat → mS → xS × gS → Prop} {Q : Option Value → AmH → Prop} {S : mS} {U : xS × gS} (hk : 6 * k + 6 ≤ L9) (hL : L9 ≤ 3072) (hT : ∀ (S' : mS) (U' : xS × gS), R (k + 1) S' U' → Go (am_X xs L9) (d + 100) 267 993 [.ref 0, .ref 64, .ref 130, .int (nI (6 * k))] [] (xst U'.1 U'.2 (hS S')) Q) (h : Sm6 R k (xs (6 * k + 1)) (xs (6 * k + 2)) S U) : Go (am_X xs L9) (d + 100) 267 324 [.ref 0, .ref 64, .ref 130, .int (nI (6 * k))] [] (xst U.1 U.2 (hS S)) Q := by
  obtain ⟨n, n', r, S', T', hc, hr, hR⟩ := h
  refine r_aload_n fe_267_324 rfl ?_
  refine r_aload_n fe_267_325 rfl ?_
  refine r_iload_n fe_267_326 rfl ?_
  refine r_iconst (v := 1) fe_267_327 (by decide) ?_
  refine r_iadd (v := nI (6 * k + 1)) fe_267_328 (nI_add (6 * k) 1) ?_
  refine r_iald (j := 6 * k + 1) (v := xs (6 * k + 1)) (n := L9) (a := xs) fe_267_329 rfl x_lt0 (lx_n (by omega)) (lx_c (by omega)) (by omega) rfl ?_
  refine r_aload_n fe_267_330 rfl ?_
  refine r_iload_n fe_267_331 rfl ?_
  refine r_iconst (v := 2) fe_267_332 (by decide) ?_
  refine r_iadd (v := nI (6 * k + 2)) fe_267_333 (nI_add (6 * k) 2) ?_
  refine r_iald (j := 6 * k + 2) (v := xs (6 * k + 2)) (n := L9) (a := xs) fe_267_334 rfl x_lt0 (lx_n (by omega)) (lx_c (by omega)) (by omega) rfl ?_
  refine r_callV (as := [.int (xs (6 * k + 1)), .int (xs (6 * k + 2))]) (r := []) fe_267_335 lm_18_41 md_79 rfl rfl (Nat.le_of_ble_eq_true rfl) (x_c xk_64 (by decide)) (x_lt xk_64 (by decide)) (Nat.le_of_ble_eq_true rfl) (Nat.le_of_ble_eq_true rfl) ?_
  refine G79c (d := d + 98) (hf := hc) ?_
  refine r_aload_n fe_267_338 rfl ?_
  refine r_aload_n fe_267_339 rfl ?_
  refine r_iload_n fe_267_340 rfl ?_
  refine r_iconst (v := 1) fe_267_341 (by decide) ?_
  refine r_iadd (v := nI (6 * k + 1)) fe_267_342 (nI_add (6 * k) 1) ?_
  refine r_iald (j := 6 * k + 1) (v := xs (6 * k + 1)) (n := L9) (a := xs) fe_267_343 rfl x_lt0 (lx_n (by omega)) (lx_c (by omega)) (by omega) rfl ?_
  refine r_aload_n fe_267_344 rfl ?_
  refine r_iload_n fe_267_345 rfl ?_
  refine r_iconst (v := 2) fe_267_346 (by decide) ?_
  refine r_iadd (v := nI (6 * k + 2)) fe_267_347 (nI_add (6 * k) 2) ?_
  refine r_iald (j := 6 * k + 2) (v := xs (6 * k + 2)) (n := L9) (a := xs) fe_267_348 rfl x_lt0 (lx_n (by omega)) (lx_c (by omega)) (by omega) rfl ?_
  refine go_heap cst_m ?_
  refine r_callV (as := [.int (xs (6 * k + 1)), .int (xs (6 * k + 2))]) (r := [.int r]) fe_267_349 lm_18_44 md_203 rfl rfl (Nat.le_of_ble_eq_true rfl) m_c_0 (m_lt x_172 (by decide)) (Nat.le_of_ble_eq_true rfl) (Nat.le_of_ble_eq_true rfl) ?_
  refine F203c (d := d + 97) x_172 hr ?_
  refine go_heap cst_m.symm ?_
  refine r_ic_t (t := 993) fe_267_352 (by decide) (ic_rf r) ?_
  exact hT S' (T', U.2) hR
theorem lc7 {xs : Nat → Int32} {L9 d k : Nat} {R : Nat → mS → xS × gS → Prop} {Q : Option Value → AmH → Prop} {S : mS} {U : xS × gS} (hk : 6 * k + 6 ≤ L9) (hL : L9 ≤ 3072) (hT : ∀ (S' : mS) (U' : xS × gS), R (k + 1) S' U' → Go (am_X xs L9) (d + 100) 267 993 [.ref 0, .ref 64, .ref 130, .int (nI (6 * k))] [] (xst U'.1 U'.2 (hS S')) Q) (h : Sm7 R k  S U) : Go (am_X xs L9) (d + 100) 267 357 [.ref 0, .ref 64, .ref 130, .int (nI (6 * k))] [] (xst U.1 U.2 (hS S)) Q := by
  obtain ⟨n, n', r, S', U', hc, hr, hR⟩ := h
  refine r_aload_n fe_267_357 rfl ?_
  refine r_callV (as := []) (r := []) fe_267_358 lm_18_45 md_81 rfl rfl (Nat.le_of_ble_eq_true rfl) (x_c xk_64 (by decide)) (x_lt xk_64 (by decide)) (Nat.le_of_ble_eq_true rfl) (Nat.le_of_ble_eq_true rfl) ?_
  refine G81c (d := d + 94) (hf := hc) ?_
  refine r_aload_n fe_267_361 rfl ?_
  refine go_heap cst_m ?_
  refine r_callV (as := []) (r := [.int r]) fe_267_362 lm_18_48 md_209 rfl rfl (Nat.le_of_ble_eq_true rfl) m_c_0 (m_lt x_172 (by decide)) (Nat.le_of_ble_eq_true rfl) (Nat.le_of_ble_eq_true rfl) ?_
  refine F209c (d := d + 92) x_172 hr ?_
  refine go_heap cst_m.symm ?_
  refine r_ic_t (t := 993) fe_267_365 (by decide) (ic_rf r) ?_
  exact hT S' U' hR
theorem lc8 {xs : Nat → Int32} {L9 d k : Nat} {R : Nat → mS → xS × gS → Prop} {Q : Option Value → AmH → Prop} {S : mS} {U : xS × gS} (hk : 6 * k + 6 ≤ L9) (hL : L9 ≤ 3072) (hT : ∀ (S' : mS) (U' : xS × gS), R (k + 1) S' U' → Go (am_X xs L9) (d + 100) 267 993 [.ref 0, .ref 64, .ref 130, .int (nI (6 * k))] [] (xst U'.1 U'.2 (hS S')) Q) (h : Sm8 R k (xs (6 * k + 1)) (xs (6 * k + 2)) S U) : Go (am_X xs L9) (d + 100) 267 370 [.ref 0, .ref 64, .ref 130, .int (nI (6 * k))] [] (xst U.1 U.2 (hS S)) Q := by
  obtain ⟨n, n', r, S', U', hc, hr, hR⟩ := h
  refine r_aload_n fe_267_370 rfl ?_
  refine r_aload_n fe_267_371 rfl ?_
  refine r_iload_n fe_267_372 rfl ?_
  refine r_iconst (v := 1) fe_267_373 (by decide) ?_
  refine r_iadd (v := nI (6 * k + 1)) fe_267_374 (nI_add (6 * k) 1) ?_
  refine r_iald (j := 6 * k + 1) (v := xs (6 * k + 1)) (n := L9) (a := xs) fe_267_375 rfl x_lt0 (lx_n (by omega)) (lx_c (by omega)) (by omega) rfl ?_
  refine r_aload_n fe_267_376 rfl ?_
  refine r_iload_n fe_267_377 rfl ?_
  refine r_iconst (v := 2) fe_267_378 (by decide) ?_
  refine r_iadd (v := nI (6 * k + 2)) fe_267_379 (nI_add (6 * k) 2) ?_
  refine r_iald (j := 6 * k + 2) (v := xs (6 * k + 2)) (n := L9) (a := xs) fe_267_380 rfl x_lt0 (lx_n (by omega)) (lx_c (by omega)) (by omega) rfl ?_
  refine r_callV (as := [.int (xs (6 * k + 1)), .int (xs (6 * k + 2))]) (r := []) fe_267_381 lm_18_49 md_101 rfl rfl (Nat.le_of_ble_eq_true rfl) (x_c xk_64 (by decide)) (x_lt xk_64 (by decide)) (Nat.le_of_ble_eq_true rfl) (Nat.le_of_ble_eq_true rfl) ?_
  refine G101c (d := d + 97) (hf := hc) ?_
  refine r_aload_n fe_267_384 rfl ?_
  refine r_aload_n fe_267_385 rfl ?_
  refine r_iload_n fe_267_386 rfl ?_
  refine r_iconst (v := 1) fe_267_387 (by decide) ?_
  refine r_iadd (v := nI (6 * k + 1)) fe_267_388 (nI_add (6 * k) 1) ?_
  refine r_iald (j := 6 * k + 1) (v := xs (6 * k + 1)) (n := L9) (a := xs) fe_267_389 rfl x_lt0 (lx_n (by omega)) (lx_c (by omega)) (by omega) rfl ?_
  refine r_aload_n fe_267_390 rfl ?_
  refine r_iload_n fe_267_391 rfl ?_
  refine r_iconst (v := 2) fe_267_392 (by decide) ?_
  refine r_iadd (v := nI (6 * k + 2)) fe_267_393 (nI_add (6 * k) 2) ?_
  refine r_iald (j := 6 * k + 2) (v := xs (6 * k + 2)) (n := L9) (a := xs) fe_267_394 rfl x_lt0 (lx_n (by omega)) (lx_c (by omega)) (by omega) rfl ?_
  refine go_heap cst_m ?_
  refine r_callV (as := [.int (xs (6 * k + 1)), .int (xs (6 * k + 2))]) (r := [.int r]) fe_267_395 lm_18_52 md_230 rfl rfl (Nat.le_of_ble_eq_true rfl) m_c_0 (m_lt x_172 (by decide)) (Nat.le_of_ble_eq_true rfl) (Nat.le_of_ble_eq_true rfl) ?_
  refine F230c (d := d + 95) x_172 hr ?_
  refine go_heap cst_m.symm ?_
  refine r_ic_t (t := 993) fe_267_398 (by decide) (ic_rf r) ?_
  exact hT S' U' hR
theorem lc9 {xs : Nat → Int32} {L9 d k : Nat} {R : Nat → mS → xS × gS → Prop} {Q : Option Value → AmH → Prop} {S : mS} {U : xS × gS} (hk : 6 * k + 6 ≤ L9) (hL : L9 ≤ 3072) (hT : ∀ (S' : mS) (U' : xS × gS), R (k + 1) S' U' → Go (am_X xs L9) (d + 100) 267 993 [.ref 0, .ref 64, .ref 130, .int (nI (6 * k))] [] (xst U'.1 U'.2 (hS S')) Q) (h : Sm9 R k (xs (6 * k + 1)) S U) : Go (am_X xs L9) (d + 100) 267 403 [.ref 0, .ref 64, .ref 130, .int (nI (6 * k))] [] (xst U.1 U.2 (hS S)) Q := by
  obtain ⟨n, n', r, S', U', hc, hr, hR⟩ := h
  refine r_aload_n fe_267_403 rfl ?_
  refine r_aload_n fe_267_404 rfl ?_
  refine r_iload_n fe_267_405 rfl ?_
  refine r_iconst (v := 1) fe_267_406 (by decide) ?_
  refine r_iadd (v := nI (6 * k + 1)) fe_267_407 (nI_add (6 * k) 1) ?_
  refine r_iald (j := 6 * k + 1) (v := xs (6 * k + 1)) (n := L9) (a := xs) fe_267_408 rfl x_lt0 (lx_n (by omega)) (lx_c (by omega)) (by omega) rfl ?_
  refine r_callV (as := [.int (xs (6 * k + 1))]) (r := []) fe_267_409 lm_18_53 md_103 rfl rfl (Nat.le_of_ble_eq_true rfl) (x_c xk_64 (by decide)) (x_lt xk_64 (by decide)) (Nat.le_of_ble_eq_true rfl) (Nat.le_of_ble_eq_true rfl) ?_
  refine G103c (d := d + 97) (hf := hc) ?_
  refine r_aload_n fe_267_412 rfl ?_
  refine r_aload_n fe_267_413 rfl ?_
  refine r_iload_n fe_267_414 rfl ?_
  refine r_iconst (v := 1) fe_267_415 (by decide) ?_
  refine r_iadd (v := nI (6 * k + 1)) fe_267_416 (nI_add (6 * k) 1) ?_
  refine r_iald (j := 6 * k + 1) (v := xs (6 * k + 1)) (n := L9) (a := xs) fe_267_417 rfl x_lt0 (lx_n (by omega)) (lx_c (by omega)) (by omega) rfl ?_
  refine go_heap cst_m ?_
  refine r_callV (as := [.int (xs (6 * k + 1))]) (r := [.int r]) fe_267_418 lm_18_56 md_233 rfl rfl (Nat.le_of_ble_eq_true rfl) m_c_0 (m_lt x_172 (by decide)) (Nat.le_of_ble_eq_true rfl) (Nat.le_of_ble_eq_true rfl) ?_
  refine F233c (d := d + 95) x_172 hr ?_
  refine go_heap cst_m.symm ?_
  refine r_ic_t (t := 993) fe_267_421 (by decide) (ic_rf r) ?_
  exact hT S' U' hR
theorem lc10 {xs : Nat → Int32} {L9 d k : Nat} {R : Nat → mS → xS × gS → Prop} {Q : Option Value → AmH → Prop} {S : mS} {U : xS × gS} (hk : 6 * k + 6 ≤ L9) (hL : L9 ≤ 3072) (hT : ∀ (S' : mS) (U' : xS × gS), R (k + 1) S' U' → Go (am_X xs L9) (d + 100) 267 993 [.ref 0, .ref 64, .ref 130, .int (nI (6 * k))] [] (xst U'.1 U'.2 (hS S')) Q) (h0 : Sm10 R k (xs (6 * k + 1)) 0 S U) (h1 : Sm10 R k (xs (6 * k + 1)) 1 S U) : Go (am_X xs L9) (d + 100) 267 426 [.ref 0, .ref 64, .ref 130, .int (nI (6 * k))] [] (xst U.1 U.2 (hS S)) Q := by
  by_cases hb : xs (6 * k + 2) = 0
  · obtain ⟨n, n', r, S', U', hc, hr, hR⟩ := h0
    refine r_aload_n fe_267_426 rfl ?_
    refine r_aload_n fe_267_427 rfl ?_
    refine r_iload_n fe_267_428 rfl ?_
    refine r_iconst (v := 1) fe_267_429 (by decide) ?_
    refine r_iadd (v := nI (6 * k + 1)) fe_267_430 (nI_add (6 * k) 1) ?_
    refine r_iald (j := 6 * k + 1) (v := xs (6 * k + 1)) (n := L9) (a := xs) fe_267_431 rfl x_lt0 (lx_n (by omega)) (lx_c (by omega)) (by omega) rfl ?_
    refine r_aload_n fe_267_432 rfl ?_
    refine r_iload_n fe_267_433 rfl ?_
    refine r_iconst (v := 2) fe_267_434 (by decide) ?_
    refine r_iadd (v := nI (6 * k + 2)) fe_267_435 (nI_add (6 * k) 2) ?_
    refine r_iald (j := 6 * k + 2) (v := xs (6 * k + 2)) (n := L9) (a := xs) fe_267_436 rfl x_lt0 (lx_n (by omega)) (lx_c (by omega)) (by omega) rfl ?_
    refine r_if_t (t := 444) fe_267_437 (by decide) (by rw [hb]; decide) ?_
    refine r_iconst (v := 0) fe_267_444 (by decide) ?_
    refine r_callV (as := [.int (xs (6 * k + 1)), .int 0]) (r := []) fe_267_445 lm_18_57 md_104 rfl rfl (Nat.le_of_ble_eq_true rfl) (x_c xk_64 (by decide)) (x_lt xk_64 (by decide)) (Nat.le_of_ble_eq_true rfl) (Nat.le_of_ble_eq_true rfl) ?_
    refine G104c (d := d + 97) (hf := hc) ?_
    refine r_aload_n fe_267_448 rfl ?_
    refine r_aload_n fe_267_449 rfl ?_
    refine r_iload_n fe_267_450 rfl ?_
    refine r_iconst (v := 1) fe_267_451 (by decide) ?_
    refine r_iadd (v := nI (6 * k + 1)) fe_267_452 (nI_add (6 * k) 1) ?_
    refine r_iald (j := 6 * k + 1) (v := xs (6 * k + 1)) (n := L9) (a := xs) fe_267_453 rfl x_lt0 (lx_n (by omega)) (lx_c (by omega)) (by omega) rfl ?_
    refine r_aload_n fe_267_454 rfl ?_
    refine r_iload_n fe_267_455 rfl ?_
    refine r_iconst (v := 2) fe_267_456 (by decide) ?_
    refine r_iadd (v := nI (6 * k + 2)) fe_267_457 (nI_add (6 * k) 2) ?_
    refine r_iald (j := 6 * k + 2) (v := xs (6 * k + 2)) (n := L9) (a := xs) fe_267_458 rfl x_lt0 (lx_n (by omega)) (lx_c (by omega)) (by omega) rfl ?_
    refine r_if_t (t := 466) fe_267_459 (by decide) (by rw [hb]; decide) ?_
    refine r_iconst (v := 0) fe_267_466 (by decide) ?_
    refine go_heap cst_m ?_
    refine r_callV (as := [.int (xs (6 * k + 1)), .int 0]) (r := [.int r]) fe_267_467 lm_18_61 md_234 rfl rfl (Nat.le_of_ble_eq_true rfl) m_c_0 (m_lt x_172 (by decide)) (Nat.le_of_ble_eq_true rfl) (Nat.le_of_ble_eq_true rfl) ?_
    refine F234c (d := d + 95) x_172 hr ?_
    refine go_heap cst_m.symm ?_
    refine r_ic_t (t := 993) fe_267_470 (by decide) (ic_rf r) ?_
    exact hT S' U' hR
  · obtain ⟨n, n', r, S', U', hc, hr, hR⟩ := h1
    refine r_aload_n fe_267_426 rfl ?_
    refine r_aload_n fe_267_427 rfl ?_
    refine r_iload_n fe_267_428 rfl ?_
    refine r_iconst (v := 1) fe_267_429 (by decide) ?_
    refine r_iadd (v := nI (6 * k + 1)) fe_267_430 (nI_add (6 * k) 1) ?_
    refine r_iald (j := 6 * k + 1) (v := xs (6 * k + 1)) (n := L9) (a := xs) fe_267_431 rfl x_lt0 (lx_n (by omega)) (lx_c (by omega)) (by omega) rfl ?_
    refine r_aload_n fe_267_432 rfl ?_
    refine r_iload_n fe_267_433 rfl ?_
    refine r_iconst (v := 2) fe_267_434 (by decide) ?_
    refine r_iadd (v := nI (6 * k + 2)) fe_267_435 (nI_add (6 * k) 2) ?_
    refine r_iald (j := 6 * k + 2) (v := xs (6 * k + 2)) (n := L9) (a := xs) fe_267_436 rfl x_lt0 (lx_n (by omega)) (lx_c (by omega)) (by omega) rfl ?_
    refine r_if_f (t := 444) fe_267_437 (by decide) (decide_eq_false hb) ?_
    refine r_iconst (v := 1) fe_267_440 (by decide) ?_
    refine r_goto (t := 445) fe_267_441 (by decide) ?_
    refine r_callV (as := [.int (xs (6 * k + 1)), .int 1]) (r := []) fe_267_445 lm_18_57 md_104 rfl rfl (Nat.le_of_ble_eq_true rfl) (x_c xk_64 (by decide)) (x_lt xk_64 (by decide)) (Nat.le_of_ble_eq_true rfl) (Nat.le_of_ble_eq_true rfl) ?_
    refine G104c (d := d + 97) (hf := hc) ?_
    refine r_aload_n fe_267_448 rfl ?_
    refine r_aload_n fe_267_449 rfl ?_
    refine r_iload_n fe_267_450 rfl ?_
    refine r_iconst (v := 1) fe_267_451 (by decide) ?_
    refine r_iadd (v := nI (6 * k + 1)) fe_267_452 (nI_add (6 * k) 1) ?_
    refine r_iald (j := 6 * k + 1) (v := xs (6 * k + 1)) (n := L9) (a := xs) fe_267_453 rfl x_lt0 (lx_n (by omega)) (lx_c (by omega)) (by omega) rfl ?_
    refine r_aload_n fe_267_454 rfl ?_
    refine r_iload_n fe_267_455 rfl ?_
    refine r_iconst (v := 2) fe_267_456 (by decide) ?_
    refine r_iadd (v := nI (6 * k + 2)) fe_267_457 (nI_add (6 * k) 2) ?_
    refine r_iald (j := 6 * k + 2) (v := xs (6 * k + 2)) (n := L9) (a := xs) fe_267_458 rfl x_lt0 (lx_n (by omega)) (lx_c (by omega)) (by omega) rfl ?_
    refine r_if_f (t := 466) fe_267_459 (by decide) (decide_eq_false hb) ?_
    refine r_iconst (v := 1) fe_267_462 (by decide) ?_
    refine r_goto (t := 467) fe_267_463 (by decide) ?_
    refine go_heap cst_m ?_
    refine r_callV (as := [.int (xs (6 * k + 1)), .int 1]) (r := [.int r]) fe_267_467 lm_18_61 md_234 rfl rfl (Nat.le_of_ble_eq_true rfl) m_c_0 (m_lt x_172 (by decide)) (Nat.le_of_ble_eq_true rfl) (Nat.le_of_ble_eq_true rfl) ?_
    refine F234c (d := d + 95) x_172 hr ?_
    refine go_heap cst_m.symm ?_
    refine r_ic_t (t := 993) fe_267_470 (by decide) (ic_rf r) ?_
    exact hT S' U' hR
theorem lc11 {xs : Nat → Int32} {L9 d k : Nat} {R : Nat → mS → xS × gS → Prop} {Q : Option Value → AmH → Prop} {S : mS} {U : xS × gS} (hk : 6 * k + 6 ≤ L9) (hL : L9 ≤ 3072) (hT : ∀ (S' : mS) (U' : xS × gS), R (k + 1) S' U' → Go (am_X xs L9) (d + 100) 267 993 [.ref 0, .ref 64, .ref 130, .int (nI (6 * k))] [] (xst U'.1 U'.2 (hS S')) Q) (h : Sm11 R k (xs (6 * k + 1)) (xs (6 * k + 2)) S U) : Go (am_X xs L9) (d + 100) 267 475 [.ref 0, .ref 64, .ref 130, .int (nI (6 * k))] [] (xst U.1 U.2 (hS S)) Q := by
  obtain ⟨n, n', r, S', U', hc, hr, hR⟩ := h
  refine r_aload_n fe_267_475 rfl ?_
  refine r_aload_n fe_267_476 rfl ?_
  refine r_iload_n fe_267_477 rfl ?_
  refine r_iconst (v := 1) fe_267_478 (by decide) ?_
  refine r_iadd (v := nI (6 * k + 1)) fe_267_479 (nI_add (6 * k) 1) ?_
  refine r_iald (j := 6 * k + 1) (v := xs (6 * k + 1)) (n := L9) (a := xs) fe_267_480 rfl x_lt0 (lx_n (by omega)) (lx_c (by omega)) (by omega) rfl ?_
  refine r_aload_n fe_267_481 rfl ?_
  refine r_iload_n fe_267_482 rfl ?_
  refine r_iconst (v := 2) fe_267_483 (by decide) ?_
  refine r_iadd (v := nI (6 * k + 2)) fe_267_484 (nI_add (6 * k) 2) ?_
  refine r_iald (j := 6 * k + 2) (v := xs (6 * k + 2)) (n := L9) (a := xs) fe_267_485 rfl x_lt0 (lx_n (by omega)) (lx_c (by omega)) (by omega) rfl ?_
  refine r_callV (as := [.int (xs (6 * k + 1)), .int (xs (6 * k + 2))]) (r := []) fe_267_486 lm_18_62 md_105 rfl rfl (Nat.le_of_ble_eq_true rfl) (x_c xk_64 (by decide)) (x_lt xk_64 (by decide)) (Nat.le_of_ble_eq_true rfl) (Nat.le_of_ble_eq_true rfl) ?_
  refine G105c (d := d + 97) (hf := hc) ?_
  refine r_aload_n fe_267_489 rfl ?_
  refine r_aload_n fe_267_490 rfl ?_
  refine r_iload_n fe_267_491 rfl ?_
  refine r_iconst (v := 1) fe_267_492 (by decide) ?_
  refine r_iadd (v := nI (6 * k + 1)) fe_267_493 (nI_add (6 * k) 1) ?_
  refine r_iald (j := 6 * k + 1) (v := xs (6 * k + 1)) (n := L9) (a := xs) fe_267_494 rfl x_lt0 (lx_n (by omega)) (lx_c (by omega)) (by omega) rfl ?_
  refine r_aload_n fe_267_495 rfl ?_
  refine r_iload_n fe_267_496 rfl ?_
  refine r_iconst (v := 2) fe_267_497 (by decide) ?_
  refine r_iadd (v := nI (6 * k + 2)) fe_267_498 (nI_add (6 * k) 2) ?_
  refine r_iald (j := 6 * k + 2) (v := xs (6 * k + 2)) (n := L9) (a := xs) fe_267_499 rfl x_lt0 (lx_n (by omega)) (lx_c (by omega)) (by omega) rfl ?_
  refine go_heap cst_m ?_
  refine r_callV (as := [.int (xs (6 * k + 1)), .int (xs (6 * k + 2))]) (r := [.int r]) fe_267_500 lm_18_65 md_235 rfl rfl (Nat.le_of_ble_eq_true rfl) m_c_0 (m_lt x_172 (by decide)) (Nat.le_of_ble_eq_true rfl) (Nat.le_of_ble_eq_true rfl) ?_
  refine F235c (d := d + 95) x_172 hr ?_
  refine go_heap cst_m.symm ?_
  refine r_ic_t (t := 993) fe_267_503 (by decide) (ic_rf r) ?_
  exact hT S' U' hR
theorem lc12 {xs : Nat → Int32} {L9 d k : Nat} {R : Nat → mS → xS × gS → Prop} {Q : Option Value → AmH → Prop} {S : mS} {U : xS × gS} (hk : 6 * k + 6 ≤ L9) (hL : L9 ≤ 3072) (hT : ∀ (S' : mS) (U' : xS × gS), R (k + 1) S' U' → Go (am_X xs L9) (d + 100) 267 993 [.ref 0, .ref 64, .ref 130, .int (nI (6 * k))] [] (xst U'.1 U'.2 (hS S')) Q) (h : Sm12 R k  S U) : Go (am_X xs L9) (d + 100) 267 508 [.ref 0, .ref 64, .ref 130, .int (nI (6 * k))] [] (xst U.1 U.2 (hS S)) Q := by
  obtain ⟨n, n', r, S', U', hc, hr, hR⟩ := h
  refine r_aload_n fe_267_508 rfl ?_
  refine r_callV (as := []) (r := []) fe_267_509 lm_18_66 md_106 rfl rfl (Nat.le_of_ble_eq_true rfl) (x_c xk_64 (by decide)) (x_lt xk_64 (by decide)) (Nat.le_of_ble_eq_true rfl) (Nat.le_of_ble_eq_true rfl) ?_
  refine G106c (d := d + 97) (hf := hc) ?_
  refine r_aload_n fe_267_512 rfl ?_
  refine go_heap cst_m ?_
  refine r_callV (as := []) (r := [.int r]) fe_267_513 lm_18_69 md_205 rfl rfl (Nat.le_of_ble_eq_true rfl) m_c_0 (m_lt x_172 (by decide)) (Nat.le_of_ble_eq_true rfl) (Nat.le_of_ble_eq_true rfl) ?_
  refine F205c (d := d + 96) x_172 hr ?_
  refine go_heap cst_m.symm ?_
  refine r_ic_t (t := 993) fe_267_516 (by decide) (ic_rf r) ?_
  exact hT S' U' hR
theorem lc13 {xs : Nat → Int32} {L9 d k : Nat} {R : Nat → mS → xS × gS → Prop} {Q : Option Value → AmH → Prop} {S : mS} {U : xS × gS} (hk : 6 * k + 6 ≤ L9) (hL : L9 ≤ 3072) (hT : ∀ (S' : mS) (U' : xS × gS), R (k + 1) S' U' → Go (am_X xs L9) (d + 100) 267 993 [.ref 0, .ref 64, .ref 130, .int (nI (6 * k))] [] (xst U'.1 U'.2 (hS S')) Q) (h : Sm13 R k (xs (6 * k + 1)) (xs (6 * k + 2)) (xs (6 * k + 3)) S U) : Go (am_X xs L9) (d + 100) 267 521 [.ref 0, .ref 64, .ref 130, .int (nI (6 * k))] [] (xst U.1 U.2 (hS S)) Q := by
  obtain ⟨n, n', r, S', U', hc, hr, hR⟩ := h
  refine r_aload_n fe_267_521 rfl ?_
  refine r_aload_n fe_267_522 rfl ?_
  refine r_iload_n fe_267_523 rfl ?_
  refine r_iconst (v := 1) fe_267_524 (by decide) ?_
  refine r_iadd (v := nI (6 * k + 1)) fe_267_525 (nI_add (6 * k) 1) ?_
  refine r_iald (j := 6 * k + 1) (v := xs (6 * k + 1)) (n := L9) (a := xs) fe_267_526 rfl x_lt0 (lx_n (by omega)) (lx_c (by omega)) (by omega) rfl ?_
  refine r_aload_n fe_267_527 rfl ?_
  refine r_iload_n fe_267_528 rfl ?_
  refine r_iconst (v := 2) fe_267_529 (by decide) ?_
  refine r_iadd (v := nI (6 * k + 2)) fe_267_530 (nI_add (6 * k) 2) ?_
  refine r_iald (j := 6 * k + 2) (v := xs (6 * k + 2)) (n := L9) (a := xs) fe_267_531 rfl x_lt0 (lx_n (by omega)) (lx_c (by omega)) (by omega) rfl ?_
  refine r_aload_n fe_267_532 rfl ?_
  refine r_iload_n fe_267_533 rfl ?_
  refine r_iconst (v := 3) fe_267_534 (by decide) ?_
  refine r_iadd (v := nI (6 * k + 3)) fe_267_535 (nI_add (6 * k) 3) ?_
  refine r_iald (j := 6 * k + 3) (v := xs (6 * k + 3)) (n := L9) (a := xs) fe_267_536 rfl x_lt0 (lx_n (by omega)) (lx_c (by omega)) (by omega) rfl ?_
  refine r_callV (as := [.int (xs (6 * k + 1)), .int (xs (6 * k + 2)), .int (xs (6 * k + 3))]) (r := []) fe_267_537 lm_18_70 md_108 rfl rfl (Nat.le_of_ble_eq_true rfl) (x_c xk_64 (by decide)) (x_lt xk_64 (by decide)) (Nat.le_of_ble_eq_true rfl) (Nat.le_of_ble_eq_true rfl) ?_
  refine G108c (d := d + 93) (hf := hc) ?_
  refine r_aload_n fe_267_540 rfl ?_
  refine r_aload_n fe_267_541 rfl ?_
  refine r_iload_n fe_267_542 rfl ?_
  refine r_iconst (v := 1) fe_267_543 (by decide) ?_
  refine r_iadd (v := nI (6 * k + 1)) fe_267_544 (nI_add (6 * k) 1) ?_
  refine r_iald (j := 6 * k + 1) (v := xs (6 * k + 1)) (n := L9) (a := xs) fe_267_545 rfl x_lt0 (lx_n (by omega)) (lx_c (by omega)) (by omega) rfl ?_
  refine r_aload_n fe_267_546 rfl ?_
  refine r_iload_n fe_267_547 rfl ?_
  refine r_iconst (v := 2) fe_267_548 (by decide) ?_
  refine r_iadd (v := nI (6 * k + 2)) fe_267_549 (nI_add (6 * k) 2) ?_
  refine r_iald (j := 6 * k + 2) (v := xs (6 * k + 2)) (n := L9) (a := xs) fe_267_550 rfl x_lt0 (lx_n (by omega)) (lx_c (by omega)) (by omega) rfl ?_
  refine r_aload_n fe_267_551 rfl ?_
  refine r_iload_n fe_267_552 rfl ?_
  refine r_iconst (v := 3) fe_267_553 (by decide) ?_
  refine r_iadd (v := nI (6 * k + 3)) fe_267_554 (nI_add (6 * k) 3) ?_
  refine r_iald (j := 6 * k + 3) (v := xs (6 * k + 3)) (n := L9) (a := xs) fe_267_555 rfl x_lt0 (lx_n (by omega)) (lx_c (by omega)) (by omega) rfl ?_
  refine go_heap cst_m ?_
  refine r_callV (as := [.int (xs (6 * k + 1)), .int (xs (6 * k + 2)), .int (xs (6 * k + 3))]) (r := [.int r]) fe_267_556 lm_18_74 md_238 rfl rfl (Nat.le_of_ble_eq_true rfl) m_c_0 (m_lt x_172 (by decide)) (Nat.le_of_ble_eq_true rfl) (Nat.le_of_ble_eq_true rfl) ?_
  refine F238c (d := d + 91) x_172 hr ?_
  refine go_heap cst_m.symm ?_
  refine r_ic_t (t := 993) fe_267_559 (by decide) (ic_rf r) ?_
  exact hT S' U' hR
theorem lc14 {xs : Nat → Int32} {L9 d k : Nat} {R : Nat → mS → xS × gS → Prop} {Q : Option Value → AmH → Prop} {S : mS} {U : xS × gS} (hk : 6 * k + 6 ≤ L9) (hL : L9 ≤ 3072) (hT : ∀ (S' : mS) (U' : xS × gS), R (k + 1) S' U' → Go (am_X xs L9) (d + 100) 267 993 [.ref 0, .ref 64, .ref 130, .int (nI (6 * k))] [] (xst U'.1 U'.2 (hS S')) Q) (h : Sm14 R k (xs (6 * k + 1)) (xs (6 * k + 2)) S U) : Go (am_X xs L9) (d + 100) 267 564 [.ref 0, .ref 64, .ref 130, .int (nI (6 * k))] [] (xst U.1 U.2 (hS S)) Q := by
  obtain ⟨n, n', r, S', U', hc, hr, hR⟩ := h
  refine r_aload_n fe_267_564 rfl ?_
  refine r_aload_n fe_267_565 rfl ?_
  refine r_iload_n fe_267_566 rfl ?_
  refine r_iconst (v := 1) fe_267_567 (by decide) ?_
  refine r_iadd (v := nI (6 * k + 1)) fe_267_568 (nI_add (6 * k) 1) ?_
  refine r_iald (j := 6 * k + 1) (v := xs (6 * k + 1)) (n := L9) (a := xs) fe_267_569 rfl x_lt0 (lx_n (by omega)) (lx_c (by omega)) (by omega) rfl ?_
  refine r_aload_n fe_267_570 rfl ?_
  refine r_iload_n fe_267_571 rfl ?_
  refine r_iconst (v := 2) fe_267_572 (by decide) ?_
  refine r_iadd (v := nI (6 * k + 2)) fe_267_573 (nI_add (6 * k) 2) ?_
  refine r_iald (j := 6 * k + 2) (v := xs (6 * k + 2)) (n := L9) (a := xs) fe_267_574 rfl x_lt0 (lx_n (by omega)) (lx_c (by omega)) (by omega) rfl ?_
  refine r_callV (as := [.int (xs (6 * k + 1)), .int (xs (6 * k + 2))]) (r := []) fe_267_575 lm_18_75 md_111 rfl rfl (Nat.le_of_ble_eq_true rfl) (x_c xk_64 (by decide)) (x_lt xk_64 (by decide)) (Nat.le_of_ble_eq_true rfl) (Nat.le_of_ble_eq_true rfl) ?_
  refine G111c (d := d + 93) (hf := hc) ?_
  refine r_aload_n fe_267_578 rfl ?_
  refine r_aload_n fe_267_579 rfl ?_
  refine r_iload_n fe_267_580 rfl ?_
  refine r_iconst (v := 1) fe_267_581 (by decide) ?_
  refine r_iadd (v := nI (6 * k + 1)) fe_267_582 (nI_add (6 * k) 1) ?_
  refine r_iald (j := 6 * k + 1) (v := xs (6 * k + 1)) (n := L9) (a := xs) fe_267_583 rfl x_lt0 (lx_n (by omega)) (lx_c (by omega)) (by omega) rfl ?_
  refine r_aload_n fe_267_584 rfl ?_
  refine r_iload_n fe_267_585 rfl ?_
  refine r_iconst (v := 2) fe_267_586 (by decide) ?_
  refine r_iadd (v := nI (6 * k + 2)) fe_267_587 (nI_add (6 * k) 2) ?_
  refine r_iald (j := 6 * k + 2) (v := xs (6 * k + 2)) (n := L9) (a := xs) fe_267_588 rfl x_lt0 (lx_n (by omega)) (lx_c (by omega)) (by omega) rfl ?_
  refine go_heap cst_m ?_
  refine r_callV (as := [.int (xs (6 * k + 1)), .int (xs (6 * k + 2))]) (r := [.int r]) fe_267_589 lm_18_78 md_244 rfl rfl (Nat.le_of_ble_eq_true rfl) m_c_0 (m_lt x_172 (by decide)) (Nat.le_of_ble_eq_true rfl) (Nat.le_of_ble_eq_true rfl) ?_
  refine F244c (d := d + 92) x_172 hr ?_
  refine go_heap cst_m.symm ?_
  refine r_ic_t (t := 993) fe_267_592 (by decide) (ic_rf r) ?_
  exact hT S' U' hR
theorem lc15 {xs : Nat → Int32} {L9 d k : Nat} {R : Nat → mS → xS × gS → Prop} {Q : Option Value → AmH → Prop} {S : mS} {U : xS × gS} (hk : 6 * k + 6 ≤ L9) (hL : L9 ≤ 3072) (hT : ∀ (S' : mS) (U' : xS × gS), R (k + 1) S' U' → Go (am_X xs L9) (d + 100) 267 993 [.ref 0, .ref 64, .ref 130, .int (nI (6 * k))] [] (xst U'.1 U'.2 (hS S')) Q) (h : Sm15 R k (xs (6 * k + 1)) (xs (6 * k + 2)) S U) : Go (am_X xs L9) (d + 100) 267 597 [.ref 0, .ref 64, .ref 130, .int (nI (6 * k))] [] (xst U.1 U.2 (hS S)) Q := by
  obtain ⟨n, n', r, S', U', hc, hr, hR⟩ := h
  refine r_aload_n fe_267_597 rfl ?_
  refine r_aload_n fe_267_598 rfl ?_
  refine r_iload_n fe_267_599 rfl ?_
  refine r_iconst (v := 1) fe_267_600 (by decide) ?_
  refine r_iadd (v := nI (6 * k + 1)) fe_267_601 (nI_add (6 * k) 1) ?_
  refine r_iald (j := 6 * k + 1) (v := xs (6 * k + 1)) (n := L9) (a := xs) fe_267_602 rfl x_lt0 (lx_n (by omega)) (lx_c (by omega)) (by omega) rfl ?_
  refine r_aload_n fe_267_603 rfl ?_
  refine r_iload_n fe_267_604 rfl ?_
  refine r_iconst (v := 2) fe_267_605 (by decide) ?_
  refine r_iadd (v := nI (6 * k + 2)) fe_267_606 (nI_add (6 * k) 2) ?_
  refine r_iald (j := 6 * k + 2) (v := xs (6 * k + 2)) (n := L9) (a := xs) fe_267_607 rfl x_lt0 (lx_n (by omega)) (lx_c (by omega)) (by omega) rfl ?_
  refine r_callV (as := [.int (xs (6 * k + 1)), .int (xs (6 * k + 2))]) (r := []) fe_267_608 lm_18_79 md_114 rfl rfl (Nat.le_of_ble_eq_true rfl) (x_c xk_64 (by decide)) (x_lt xk_64 (by decide)) (Nat.le_of_ble_eq_true rfl) (Nat.le_of_ble_eq_true rfl) ?_
  refine G114c (d := d + 92) (hf := hc) ?_
  refine r_aload_n fe_267_611 rfl ?_
  refine r_aload_n fe_267_612 rfl ?_
  refine r_iload_n fe_267_613 rfl ?_
  refine r_iconst (v := 1) fe_267_614 (by decide) ?_
  refine r_iadd (v := nI (6 * k + 1)) fe_267_615 (nI_add (6 * k) 1) ?_
  refine r_iald (j := 6 * k + 1) (v := xs (6 * k + 1)) (n := L9) (a := xs) fe_267_616 rfl x_lt0 (lx_n (by omega)) (lx_c (by omega)) (by omega) rfl ?_
  refine r_aload_n fe_267_617 rfl ?_
  refine r_iload_n fe_267_618 rfl ?_
  refine r_iconst (v := 2) fe_267_619 (by decide) ?_
  refine r_iadd (v := nI (6 * k + 2)) fe_267_620 (nI_add (6 * k) 2) ?_
  refine r_iald (j := 6 * k + 2) (v := xs (6 * k + 2)) (n := L9) (a := xs) fe_267_621 rfl x_lt0 (lx_n (by omega)) (lx_c (by omega)) (by omega) rfl ?_
  refine go_heap cst_m ?_
  refine r_callV (as := [.int (xs (6 * k + 1)), .int (xs (6 * k + 2))]) (r := [.int r]) fe_267_622 lm_18_82 md_245 rfl rfl (Nat.le_of_ble_eq_true rfl) m_c_0 (m_lt x_172 (by decide)) (Nat.le_of_ble_eq_true rfl) (Nat.le_of_ble_eq_true rfl) ?_
  refine F245c (d := d + 90) x_172 hr ?_
  refine go_heap cst_m.symm ?_
  refine r_ic_t (t := 993) fe_267_625 (by decide) (ic_rf r) ?_
  exact hT S' U' hR
theorem lc16 {xs : Nat → Int32} {L9 d k : Nat} {R : Nat → mS → xS × gS → Prop} {Q : Option Value → AmH → Prop} {S : mS} {U : xS × gS} (hk : 6 * k + 6 ≤ L9) (hL : L9 ≤ 3072) (hT : ∀ (S' : mS) (U' : xS × gS), R (k + 1) S' U' → Go (am_X xs L9) (d + 100) 267 993 [.ref 0, .ref 64, .ref 130, .int (nI (6 * k))] [] (xst U'.1 U'.2 (hS S')) Q) (h : Sm16 R k (xs (6 * k + 1)) (xs (6 * k + 2)) (xs (6 * k + 3)) (xs (6 * k + 4)) S U) : Go (am_X xs L9) (d + 100) 267 630 [.ref 0, .ref 64, .ref 130, .int (nI (6 * k))] [] (xst U.1 U.2 (hS S)) Q := by
  obtain ⟨n, n', r, S', U', hc, hr, hR⟩ := h
  refine r_aload_n fe_267_630 rfl ?_
  refine r_aload_n fe_267_631 rfl ?_
  refine r_iload_n fe_267_632 rfl ?_
  refine r_iconst (v := 1) fe_267_633 (by decide) ?_
  refine r_iadd (v := nI (6 * k + 1)) fe_267_634 (nI_add (6 * k) 1) ?_
  refine r_iald (j := 6 * k + 1) (v := xs (6 * k + 1)) (n := L9) (a := xs) fe_267_635 rfl x_lt0 (lx_n (by omega)) (lx_c (by omega)) (by omega) rfl ?_
  refine r_aload_n fe_267_636 rfl ?_
  refine r_iload_n fe_267_637 rfl ?_
  refine r_iconst (v := 2) fe_267_638 (by decide) ?_
  refine r_iadd (v := nI (6 * k + 2)) fe_267_639 (nI_add (6 * k) 2) ?_
  refine r_iald (j := 6 * k + 2) (v := xs (6 * k + 2)) (n := L9) (a := xs) fe_267_640 rfl x_lt0 (lx_n (by omega)) (lx_c (by omega)) (by omega) rfl ?_
  refine r_aload_n fe_267_641 rfl ?_
  refine r_iload_n fe_267_642 rfl ?_
  refine r_iconst (v := 3) fe_267_643 (by decide) ?_
  refine r_iadd (v := nI (6 * k + 3)) fe_267_644 (nI_add (6 * k) 3) ?_
  refine r_iald (j := 6 * k + 3) (v := xs (6 * k + 3)) (n := L9) (a := xs) fe_267_645 rfl x_lt0 (lx_n (by omega)) (lx_c (by omega)) (by omega) rfl ?_
  refine r_aload_n fe_267_646 rfl ?_
  refine r_iload_n fe_267_647 rfl ?_
  refine r_iconst (v := 4) fe_267_648 (by decide) ?_
  refine r_iadd (v := nI (6 * k + 4)) fe_267_649 (nI_add (6 * k) 4) ?_
  refine r_iald (j := 6 * k + 4) (v := xs (6 * k + 4)) (n := L9) (a := xs) fe_267_650 rfl x_lt0 (lx_n (by omega)) (lx_c (by omega)) (by omega) rfl ?_
  refine r_callV (as := [.int (xs (6 * k + 1)), .int (xs (6 * k + 2)), .int (xs (6 * k + 3)), .int (xs (6 * k + 4))]) (r := []) fe_267_651 lm_18_83 md_124 rfl rfl (Nat.le_of_ble_eq_true rfl) (x_c xk_64 (by decide)) (x_lt xk_64 (by decide)) (Nat.le_of_ble_eq_true rfl) (Nat.le_of_ble_eq_true rfl) ?_
  refine G124c (d := d + 93) (hf := hc) ?_
  refine r_aload_n fe_267_654 rfl ?_
  refine r_aload_n fe_267_655 rfl ?_
  refine r_iload_n fe_267_656 rfl ?_
  refine r_iconst (v := 1) fe_267_657 (by decide) ?_
  refine r_iadd (v := nI (6 * k + 1)) fe_267_658 (nI_add (6 * k) 1) ?_
  refine r_iald (j := 6 * k + 1) (v := xs (6 * k + 1)) (n := L9) (a := xs) fe_267_659 rfl x_lt0 (lx_n (by omega)) (lx_c (by omega)) (by omega) rfl ?_
  refine r_aload_n fe_267_660 rfl ?_
  refine r_iload_n fe_267_661 rfl ?_
  refine r_iconst (v := 2) fe_267_662 (by decide) ?_
  refine r_iadd (v := nI (6 * k + 2)) fe_267_663 (nI_add (6 * k) 2) ?_
  refine r_iald (j := 6 * k + 2) (v := xs (6 * k + 2)) (n := L9) (a := xs) fe_267_664 rfl x_lt0 (lx_n (by omega)) (lx_c (by omega)) (by omega) rfl ?_
  refine r_aload_n fe_267_665 rfl ?_
  refine r_iload_n fe_267_666 rfl ?_
  refine r_iconst (v := 3) fe_267_667 (by decide) ?_
  refine r_iadd (v := nI (6 * k + 3)) fe_267_668 (nI_add (6 * k) 3) ?_
  refine r_iald (j := 6 * k + 3) (v := xs (6 * k + 3)) (n := L9) (a := xs) fe_267_669 rfl x_lt0 (lx_n (by omega)) (lx_c (by omega)) (by omega) rfl ?_
  refine r_aload_n fe_267_670 rfl ?_
  refine r_iload_n fe_267_671 rfl ?_
  refine r_iconst (v := 4) fe_267_672 (by decide) ?_
  refine r_iadd (v := nI (6 * k + 4)) fe_267_673 (nI_add (6 * k) 4) ?_
  refine r_iald (j := 6 * k + 4) (v := xs (6 * k + 4)) (n := L9) (a := xs) fe_267_674 rfl x_lt0 (lx_n (by omega)) (lx_c (by omega)) (by omega) rfl ?_
  refine go_heap cst_m ?_
  refine r_callV (as := [.int (xs (6 * k + 1)), .int (xs (6 * k + 2)), .int (xs (6 * k + 3)), .int (xs (6 * k + 4))]) (r := [.int r]) fe_267_675 lm_18_87 md_248 rfl rfl (Nat.le_of_ble_eq_true rfl) m_c_0 (m_lt x_172 (by decide)) (Nat.le_of_ble_eq_true rfl) (Nat.le_of_ble_eq_true rfl) ?_
  refine F248c (d := d + 91) x_172 hr ?_
  refine go_heap cst_m.symm ?_
  refine r_ic_t (t := 993) fe_267_678 (by decide) (ic_rf r) ?_
  exact hT S' U' hR
theorem lc17 {xs : Nat → Int32} {L9 d k : Nat} {R : Nat → mS → xS × gS → Prop} {Q : Option Value → AmH → Prop} {S : mS} {U : xS × gS} (hk : 6 * k + 6 ≤ L9) (hL : L9 ≤ 3072) (hT : ∀ (S' : mS) (U' : xS × gS), R (k + 1) S' U' → Go (am_X xs L9) (d + 100) 267 993 [.ref 0, .ref 64, .ref 130, .int (nI (6 * k))] [] (xst U'.1 U'.2 (hS S')) Q) (h : Sm17 R k (xs (6 * k + 1)) (xs (6 * k + 2)) S U) : Go (am_X xs L9) (d + 100) 267 683 [.ref 0, .ref 64, .ref 130, .int (nI (6 * k))] [] (xst U.1 U.2 (hS S)) Q := by
  obtain ⟨n, n', r, S', T', hc, hr, hR⟩ := h
  refine r_aload_n fe_267_683 rfl ?_
  refine r_aload_n fe_267_684 rfl ?_
  refine r_iload_n fe_267_685 rfl ?_
  refine r_iconst (v := 1) fe_267_686 (by decide) ?_
  refine r_iadd (v := nI (6 * k + 1)) fe_267_687 (nI_add (6 * k) 1) ?_
  refine r_iald (j := 6 * k + 1) (v := xs (6 * k + 1)) (n := L9) (a := xs) fe_267_688 rfl x_lt0 (lx_n (by omega)) (lx_c (by omega)) (by omega) rfl ?_
  refine r_aload_n fe_267_689 rfl ?_
  refine r_iload_n fe_267_690 rfl ?_
  refine r_iconst (v := 2) fe_267_691 (by decide) ?_
  refine r_iadd (v := nI (6 * k + 2)) fe_267_692 (nI_add (6 * k) 2) ?_
  refine r_iald (j := 6 * k + 2) (v := xs (6 * k + 2)) (n := L9) (a := xs) fe_267_693 rfl x_lt0 (lx_n (by omega)) (lx_c (by omega)) (by omega) rfl ?_
  refine r_callV (as := [.int (xs (6 * k + 1)), .int (xs (6 * k + 2))]) (r := []) fe_267_694 lm_18_88 md_126 rfl rfl (Nat.le_of_ble_eq_true rfl) (x_c xk_64 (by decide)) (x_lt xk_64 (by decide)) (Nat.le_of_ble_eq_true rfl) (Nat.le_of_ble_eq_true rfl) ?_
  refine G126c (d := d + 96) (hf := hc) ?_
  refine r_aload_n fe_267_697 rfl ?_
  refine r_aload_n fe_267_698 rfl ?_
  refine r_iload_n fe_267_699 rfl ?_
  refine r_iconst (v := 1) fe_267_700 (by decide) ?_
  refine r_iadd (v := nI (6 * k + 1)) fe_267_701 (nI_add (6 * k) 1) ?_
  refine r_iald (j := 6 * k + 1) (v := xs (6 * k + 1)) (n := L9) (a := xs) fe_267_702 rfl x_lt0 (lx_n (by omega)) (lx_c (by omega)) (by omega) rfl ?_
  refine r_aload_n fe_267_703 rfl ?_
  refine r_iload_n fe_267_704 rfl ?_
  refine r_iconst (v := 2) fe_267_705 (by decide) ?_
  refine r_iadd (v := nI (6 * k + 2)) fe_267_706 (nI_add (6 * k) 2) ?_
  refine r_iald (j := 6 * k + 2) (v := xs (6 * k + 2)) (n := L9) (a := xs) fe_267_707 rfl x_lt0 (lx_n (by omega)) (lx_c (by omega)) (by omega) rfl ?_
  refine go_heap cst_m ?_
  refine r_callV (as := [.int (xs (6 * k + 1)), .int (xs (6 * k + 2))]) (r := [.int r]) fe_267_708 lm_18_91 md_249 rfl rfl (Nat.le_of_ble_eq_true rfl) m_c_0 (m_lt x_172 (by decide)) (Nat.le_of_ble_eq_true rfl) (Nat.le_of_ble_eq_true rfl) ?_
  refine F249c (d := d + 97) x_172 hr ?_
  refine go_heap cst_m.symm ?_
  refine r_ic_t (t := 993) fe_267_711 (by decide) (ic_rf r) ?_
  exact hT S' (T', U.2) hR
theorem lc18 {xs : Nat → Int32} {L9 d k : Nat} {R : Nat → mS → xS × gS → Prop} {Q : Option Value → AmH → Prop} {S : mS} {U : xS × gS} (hk : 6 * k + 6 ≤ L9) (hL : L9 ≤ 3072) (hT : ∀ (S' : mS) (U' : xS × gS), R (k + 1) S' U' → Go (am_X xs L9) (d + 100) 267 993 [.ref 0, .ref 64, .ref 130, .int (nI (6 * k))] [] (xst U'.1 U'.2 (hS S')) Q) (h : Sm18 R k (xs (6 * k + 1)) (xs (6 * k + 2)) (xs (6 * k + 3)) S U) : Go (am_X xs L9) (d + 100) 267 716 [.ref 0, .ref 64, .ref 130, .int (nI (6 * k))] [] (xst U.1 U.2 (hS S)) Q := by
  obtain ⟨n, n', r, S', T', hc, hr, hR⟩ := h
  refine r_aload_n fe_267_716 rfl ?_
  refine r_aload_n fe_267_717 rfl ?_
  refine r_iload_n fe_267_718 rfl ?_
  refine r_iconst (v := 1) fe_267_719 (by decide) ?_
  refine r_iadd (v := nI (6 * k + 1)) fe_267_720 (nI_add (6 * k) 1) ?_
  refine r_iald (j := 6 * k + 1) (v := xs (6 * k + 1)) (n := L9) (a := xs) fe_267_721 rfl x_lt0 (lx_n (by omega)) (lx_c (by omega)) (by omega) rfl ?_
  refine r_aload_n fe_267_722 rfl ?_
  refine r_iload_n fe_267_723 rfl ?_
  refine r_iconst (v := 2) fe_267_724 (by decide) ?_
  refine r_iadd (v := nI (6 * k + 2)) fe_267_725 (nI_add (6 * k) 2) ?_
  refine r_iald (j := 6 * k + 2) (v := xs (6 * k + 2)) (n := L9) (a := xs) fe_267_726 rfl x_lt0 (lx_n (by omega)) (lx_c (by omega)) (by omega) rfl ?_
  refine r_aload_n fe_267_727 rfl ?_
  refine r_iload_n fe_267_728 rfl ?_
  refine r_iconst (v := 3) fe_267_729 (by decide) ?_
  refine r_iadd (v := nI (6 * k + 3)) fe_267_730 (nI_add (6 * k) 3) ?_
  refine r_iald (j := 6 * k + 3) (v := xs (6 * k + 3)) (n := L9) (a := xs) fe_267_731 rfl x_lt0 (lx_n (by omega)) (lx_c (by omega)) (by omega) rfl ?_
  refine r_callV (as := [.int (xs (6 * k + 1)), .int (xs (6 * k + 2)), .int (xs (6 * k + 3))]) (r := []) fe_267_732 lm_18_92 md_133 rfl rfl (Nat.le_of_ble_eq_true rfl) (x_c xk_64 (by decide)) (x_lt xk_64 (by decide)) (Nat.le_of_ble_eq_true rfl) (Nat.le_of_ble_eq_true rfl) ?_
  refine G133c (d := d + 97) (hf := hc) ?_
  refine r_aload_n fe_267_735 rfl ?_
  refine r_aload_n fe_267_736 rfl ?_
  refine r_iload_n fe_267_737 rfl ?_
  refine r_iconst (v := 1) fe_267_738 (by decide) ?_
  refine r_iadd (v := nI (6 * k + 1)) fe_267_739 (nI_add (6 * k) 1) ?_
  refine r_iald (j := 6 * k + 1) (v := xs (6 * k + 1)) (n := L9) (a := xs) fe_267_740 rfl x_lt0 (lx_n (by omega)) (lx_c (by omega)) (by omega) rfl ?_
  refine r_aload_n fe_267_741 rfl ?_
  refine r_iload_n fe_267_742 rfl ?_
  refine r_iconst (v := 2) fe_267_743 (by decide) ?_
  refine r_iadd (v := nI (6 * k + 2)) fe_267_744 (nI_add (6 * k) 2) ?_
  refine r_iald (j := 6 * k + 2) (v := xs (6 * k + 2)) (n := L9) (a := xs) fe_267_745 rfl x_lt0 (lx_n (by omega)) (lx_c (by omega)) (by omega) rfl ?_
  refine r_aload_n fe_267_746 rfl ?_
  refine r_iload_n fe_267_747 rfl ?_
  refine r_iconst (v := 3) fe_267_748 (by decide) ?_
  refine r_iadd (v := nI (6 * k + 3)) fe_267_749 (nI_add (6 * k) 3) ?_
  refine r_iald (j := 6 * k + 3) (v := xs (6 * k + 3)) (n := L9) (a := xs) fe_267_750 rfl x_lt0 (lx_n (by omega)) (lx_c (by omega)) (by omega) rfl ?_
  refine go_heap cst_m ?_
  refine r_callV (as := [.int (xs (6 * k + 1)), .int (xs (6 * k + 2)), .int (xs (6 * k + 3))]) (r := [.int r]) fe_267_751 lm_18_95 md_251 rfl rfl (Nat.le_of_ble_eq_true rfl) m_c_0 (m_lt x_172 (by decide)) (Nat.le_of_ble_eq_true rfl) (Nat.le_of_ble_eq_true rfl) ?_
  refine F251c (d := d + 95) x_172 hr ?_
  refine go_heap cst_m.symm ?_
  refine r_ic_t (t := 993) fe_267_754 (by decide) (ic_rf r) ?_
  exact hT S' (T', U.2) hR
theorem lc19 {xs : Nat → Int32} {L9 d k : Nat} {R : Nat → mS → xS × gS → Prop} {Q : Option Value → AmH → Prop} {S : mS} {U : xS × gS} (hk : 6 * k + 6 ≤ L9) (hL : L9 ≤ 3072) (hT : ∀ (S' : mS) (U' : xS × gS), R (k + 1) S' U' → Go (am_X xs L9) (d + 100) 267 993 [.ref 0, .ref 64, .ref 130, .int (nI (6 * k))] [] (xst U'.1 U'.2 (hS S')) Q) (h : Sm19 R k (xs (6 * k + 1)) (xs (6 * k + 2)) S U) : Go (am_X xs L9) (d + 100) 267 759 [.ref 0, .ref 64, .ref 130, .int (nI (6 * k))] [] (xst U.1 U.2 (hS S)) Q := by
  obtain ⟨n, n', r, S', U', hc, hr, hR⟩ := h
  refine r_aload_n fe_267_759 rfl ?_
  refine r_aload_n fe_267_760 rfl ?_
  refine r_iload_n fe_267_761 rfl ?_
  refine r_iconst (v := 1) fe_267_762 (by decide) ?_
  refine r_iadd (v := nI (6 * k + 1)) fe_267_763 (nI_add (6 * k) 1) ?_
  refine r_iald (j := 6 * k + 1) (v := xs (6 * k + 1)) (n := L9) (a := xs) fe_267_764 rfl x_lt0 (lx_n (by omega)) (lx_c (by omega)) (by omega) rfl ?_
  refine r_aload_n fe_267_765 rfl ?_
  refine r_iload_n fe_267_766 rfl ?_
  refine r_iconst (v := 2) fe_267_767 (by decide) ?_
  refine r_iadd (v := nI (6 * k + 2)) fe_267_768 (nI_add (6 * k) 2) ?_
  refine r_iald (j := 6 * k + 2) (v := xs (6 * k + 2)) (n := L9) (a := xs) fe_267_769 rfl x_lt0 (lx_n (by omega)) (lx_c (by omega)) (by omega) rfl ?_
  refine r_callV (as := [.int (xs (6 * k + 1)), .int (xs (6 * k + 2))]) (r := []) fe_267_770 lm_18_96 md_135 rfl rfl (Nat.le_of_ble_eq_true rfl) (x_c xk_64 (by decide)) (x_lt xk_64 (by decide)) (Nat.le_of_ble_eq_true rfl) (Nat.le_of_ble_eq_true rfl) ?_
  refine G135c (d := d + 93) (hf := hc) ?_
  refine r_aload_n fe_267_773 rfl ?_
  refine r_aload_n fe_267_774 rfl ?_
  refine r_iload_n fe_267_775 rfl ?_
  refine r_iconst (v := 1) fe_267_776 (by decide) ?_
  refine r_iadd (v := nI (6 * k + 1)) fe_267_777 (nI_add (6 * k) 1) ?_
  refine r_iald (j := 6 * k + 1) (v := xs (6 * k + 1)) (n := L9) (a := xs) fe_267_778 rfl x_lt0 (lx_n (by omega)) (lx_c (by omega)) (by omega) rfl ?_
  refine r_aload_n fe_267_779 rfl ?_
  refine r_iload_n fe_267_780 rfl ?_
  refine r_iconst (v := 2) fe_267_781 (by decide) ?_
  refine r_iadd (v := nI (6 * k + 2)) fe_267_782 (nI_add (6 * k) 2) ?_
  refine r_iald (j := 6 * k + 2) (v := xs (6 * k + 2)) (n := L9) (a := xs) fe_267_783 rfl x_lt0 (lx_n (by omega)) (lx_c (by omega)) (by omega) rfl ?_
  refine go_heap cst_m ?_
  refine r_callV (as := [.int (xs (6 * k + 1)), .int (xs (6 * k + 2))]) (r := [.int r]) fe_267_784 lm_18_99 md_254 rfl rfl (Nat.le_of_ble_eq_true rfl) m_c_0 (m_lt x_172 (by decide)) (Nat.le_of_ble_eq_true rfl) (Nat.le_of_ble_eq_true rfl) ?_
  refine F254c (d := d + 91) x_172 hr ?_
  refine go_heap cst_m.symm ?_
  refine r_ic_t (t := 993) fe_267_787 (by decide) (ic_rf r) ?_
  exact hT S' U' hR
theorem lc20 {xs : Nat → Int32} {L9 d k : Nat} {R : Nat → mS → xS × gS → Prop} {Q : Option Value → AmH → Prop} {S : mS} {U : xS × gS} (hk : 6 * k + 6 ≤ L9) (hL : L9 ≤ 3072) (hT : ∀ (S' : mS) (U' : xS × gS), R (k + 1) S' U' → Go (am_X xs L9) (d + 100) 267 993 [.ref 0, .ref 64, .ref 130, .int (nI (6 * k))] [] (xst U'.1 U'.2 (hS S')) Q) (h : Sm20 R k (xs (6 * k + 1)) (xs (6 * k + 2)) S U) : Go (am_X xs L9) (d + 100) 267 792 [.ref 0, .ref 64, .ref 130, .int (nI (6 * k))] [] (xst U.1 U.2 (hS S)) Q := by
  obtain ⟨n, n', r, S', T', hc, hr, hR⟩ := h
  refine r_aload_n fe_267_792 rfl ?_
  refine r_aload_n fe_267_793 rfl ?_
  refine r_iload_n fe_267_794 rfl ?_
  refine r_iconst (v := 1) fe_267_795 (by decide) ?_
  refine r_iadd (v := nI (6 * k + 1)) fe_267_796 (nI_add (6 * k) 1) ?_
  refine r_iald (j := 6 * k + 1) (v := xs (6 * k + 1)) (n := L9) (a := xs) fe_267_797 rfl x_lt0 (lx_n (by omega)) (lx_c (by omega)) (by omega) rfl ?_
  refine r_aload_n fe_267_798 rfl ?_
  refine r_iload_n fe_267_799 rfl ?_
  refine r_iconst (v := 2) fe_267_800 (by decide) ?_
  refine r_iadd (v := nI (6 * k + 2)) fe_267_801 (nI_add (6 * k) 2) ?_
  refine r_iald (j := 6 * k + 2) (v := xs (6 * k + 2)) (n := L9) (a := xs) fe_267_802 rfl x_lt0 (lx_n (by omega)) (lx_c (by omega)) (by omega) rfl ?_
  refine r_callV (as := [.int (xs (6 * k + 1)), .int (xs (6 * k + 2))]) (r := []) fe_267_803 lm_18_100 md_138 rfl rfl (Nat.le_of_ble_eq_true rfl) (x_c xk_64 (by decide)) (x_lt xk_64 (by decide)) (Nat.le_of_ble_eq_true rfl) (Nat.le_of_ble_eq_true rfl) ?_
  refine G138c (d := d + 98) (hf := hc) ?_
  refine r_aload_n fe_267_806 rfl ?_
  refine r_aload_n fe_267_807 rfl ?_
  refine r_iload_n fe_267_808 rfl ?_
  refine r_iconst (v := 1) fe_267_809 (by decide) ?_
  refine r_iadd (v := nI (6 * k + 1)) fe_267_810 (nI_add (6 * k) 1) ?_
  refine r_iald (j := 6 * k + 1) (v := xs (6 * k + 1)) (n := L9) (a := xs) fe_267_811 rfl x_lt0 (lx_n (by omega)) (lx_c (by omega)) (by omega) rfl ?_
  refine r_aload_n fe_267_812 rfl ?_
  refine r_iload_n fe_267_813 rfl ?_
  refine r_iconst (v := 2) fe_267_814 (by decide) ?_
  refine r_iadd (v := nI (6 * k + 2)) fe_267_815 (nI_add (6 * k) 2) ?_
  refine r_iald (j := 6 * k + 2) (v := xs (6 * k + 2)) (n := L9) (a := xs) fe_267_816 rfl x_lt0 (lx_n (by omega)) (lx_c (by omega)) (by omega) rfl ?_
  refine go_heap cst_m ?_
  refine r_callV (as := [.int (xs (6 * k + 1)), .int (xs (6 * k + 2))]) (r := [.int r]) fe_267_817 lm_18_103 md_256 rfl rfl (Nat.le_of_ble_eq_true rfl) m_c_0 (m_lt x_172 (by decide)) (Nat.le_of_ble_eq_true rfl) (Nat.le_of_ble_eq_true rfl) ?_
  refine F256c (d := d + 97) x_172 hr ?_
  refine go_heap cst_m.symm ?_
  refine r_ic_t (t := 993) fe_267_820 (by decide) (ic_rf r) ?_
  exact hT S' (T', U.2) hR
theorem lc21 {xs : Nat → Int32} {L9 d k : Nat} {R : Nat → mS → xS × gS → Prop} {Q : Option Value → AmH → Prop} {S : mS} {U : xS × gS} (hk : 6 * k + 6 ≤ L9) (hL : L9 ≤ 3072) (hT : ∀ (S' : mS) (U' : xS × gS), R (k + 1) S' U' → Go (am_X xs L9) (d + 100) 267 993 [.ref 0, .ref 64, .ref 130, .int (nI (6 * k))] [] (xst U'.1 U'.2 (hS S')) Q) (h : Sm21 R k (xs (6 * k + 1)) (xs (6 * k + 2)) S U) : Go (am_X xs L9) (d + 100) 267 825 [.ref 0, .ref 64, .ref 130, .int (nI (6 * k))] [] (xst U.1 U.2 (hS S)) Q := by
  obtain ⟨n, n', r, S', T', hc, hr, hR⟩ := h
  refine r_aload_n fe_267_825 rfl ?_
  refine r_aload_n fe_267_826 rfl ?_
  refine r_iload_n fe_267_827 rfl ?_
  refine r_iconst (v := 1) fe_267_828 (by decide) ?_
  refine r_iadd (v := nI (6 * k + 1)) fe_267_829 (nI_add (6 * k) 1) ?_
  refine r_iald (j := 6 * k + 1) (v := xs (6 * k + 1)) (n := L9) (a := xs) fe_267_830 rfl x_lt0 (lx_n (by omega)) (lx_c (by omega)) (by omega) rfl ?_
  refine r_aload_n fe_267_831 rfl ?_
  refine r_iload_n fe_267_832 rfl ?_
  refine r_iconst (v := 2) fe_267_833 (by decide) ?_
  refine r_iadd (v := nI (6 * k + 2)) fe_267_834 (nI_add (6 * k) 2) ?_
  refine r_iald (j := 6 * k + 2) (v := xs (6 * k + 2)) (n := L9) (a := xs) fe_267_835 rfl x_lt0 (lx_n (by omega)) (lx_c (by omega)) (by omega) rfl ?_
  refine r_callV (as := [.int (xs (6 * k + 1)), .int (xs (6 * k + 2))]) (r := []) fe_267_836 lm_18_104 md_140 rfl rfl (Nat.le_of_ble_eq_true rfl) (x_c xk_64 (by decide)) (x_lt xk_64 (by decide)) (Nat.le_of_ble_eq_true rfl) (Nat.le_of_ble_eq_true rfl) ?_
  refine G140c (d := d + 98) (hf := hc) ?_
  refine r_aload_n fe_267_839 rfl ?_
  refine r_aload_n fe_267_840 rfl ?_
  refine r_iload_n fe_267_841 rfl ?_
  refine r_iconst (v := 1) fe_267_842 (by decide) ?_
  refine r_iadd (v := nI (6 * k + 1)) fe_267_843 (nI_add (6 * k) 1) ?_
  refine r_iald (j := 6 * k + 1) (v := xs (6 * k + 1)) (n := L9) (a := xs) fe_267_844 rfl x_lt0 (lx_n (by omega)) (lx_c (by omega)) (by omega) rfl ?_
  refine r_aload_n fe_267_845 rfl ?_
  refine r_iload_n fe_267_846 rfl ?_
  refine r_iconst (v := 2) fe_267_847 (by decide) ?_
  refine r_iadd (v := nI (6 * k + 2)) fe_267_848 (nI_add (6 * k) 2) ?_
  refine r_iald (j := 6 * k + 2) (v := xs (6 * k + 2)) (n := L9) (a := xs) fe_267_849 rfl x_lt0 (lx_n (by omega)) (lx_c (by omega)) (by omega) rfl ?_
  refine go_heap cst_m ?_
  refine r_callV (as := [.int (xs (6 * k + 1)), .int (xs (6 * k + 2))]) (r := [.int r]) fe_267_850 lm_18_107 md_258 rfl rfl (Nat.le_of_ble_eq_true rfl) m_c_0 (m_lt x_172 (by decide)) (Nat.le_of_ble_eq_true rfl) (Nat.le_of_ble_eq_true rfl) ?_
  refine F258c (d := d + 98) x_172 hr ?_
  refine go_heap cst_m.symm ?_
  refine r_ic_t (t := 993) fe_267_853 (by decide) (ic_rf r) ?_
  exact hT S' (T', U.2) hR
theorem lc22 {xs : Nat → Int32} {L9 d k : Nat} {R : Nat → mS → xS × gS → Prop} {Q : Option Value → AmH → Prop} {S : mS} {U : xS × gS} (hk : 6 * k + 6 ≤ L9) (hL : L9 ≤ 3072) (hT : ∀ (S' : mS) (U' : xS × gS), R (k + 1) S' U' → Go (am_X xs L9) (d + 100) 267 993 [.ref 0, .ref 64, .ref 130, .int (nI (6 * k))] [] (xst U'.1 U'.2 (hS S')) Q) (h : Sm22 R k (xs (6 * k + 1)) S U) : Go (am_X xs L9) (d + 100) 267 858 [.ref 0, .ref 64, .ref 130, .int (nI (6 * k))] [] (xst U.1 U.2 (hS S)) Q := by
  obtain ⟨n, n', r, S', T', hc, hr, hR⟩ := h
  refine r_aload_n fe_267_858 rfl ?_
  refine r_aload_n fe_267_859 rfl ?_
  refine r_iload_n fe_267_860 rfl ?_
  refine r_iconst (v := 1) fe_267_861 (by decide) ?_
  refine r_iadd (v := nI (6 * k + 1)) fe_267_862 (nI_add (6 * k) 1) ?_
  refine r_iald (j := 6 * k + 1) (v := xs (6 * k + 1)) (n := L9) (a := xs) fe_267_863 rfl x_lt0 (lx_n (by omega)) (lx_c (by omega)) (by omega) rfl ?_
  refine r_callV (as := [.int (xs (6 * k + 1))]) (r := []) fe_267_864 lm_18_108 md_143 rfl rfl (Nat.le_of_ble_eq_true rfl) (x_c xk_64 (by decide)) (x_lt xk_64 (by decide)) (Nat.le_of_ble_eq_true rfl) (Nat.le_of_ble_eq_true rfl) ?_
  refine G143c (d := d + 99) (hf := hc) ?_
  refine r_aload_n fe_267_867 rfl ?_
  refine r_aload_n fe_267_868 rfl ?_
  refine r_iload_n fe_267_869 rfl ?_
  refine r_iconst (v := 1) fe_267_870 (by decide) ?_
  refine r_iadd (v := nI (6 * k + 1)) fe_267_871 (nI_add (6 * k) 1) ?_
  refine r_iald (j := 6 * k + 1) (v := xs (6 * k + 1)) (n := L9) (a := xs) fe_267_872 rfl x_lt0 (lx_n (by omega)) (lx_c (by omega)) (by omega) rfl ?_
  refine go_heap cst_m ?_
  refine r_callV (as := [.int (xs (6 * k + 1))]) (r := [.int r]) fe_267_873 lm_18_111 md_260 rfl rfl (Nat.le_of_ble_eq_true rfl) m_c_0 (m_lt x_172 (by decide)) (Nat.le_of_ble_eq_true rfl) (Nat.le_of_ble_eq_true rfl) ?_
  refine F260c (d := d + 99) x_172 hr ?_
  refine go_heap cst_m.symm ?_
  refine r_ic_t (t := 993) fe_267_876 (by decide) (ic_rf r) ?_
  exact hT S' (T', U.2) hR
theorem lc23 {xs : Nat → Int32} {L9 d k : Nat} {R : Nat → mS → xS × gS → Prop} {Q : Option Value → AmH → Prop} {S : mS} {U : xS × gS} (hk : 6 * k + 6 ≤ L9) (hL : L9 ≤ 3072) (hT : ∀ (S' : mS) (U' : xS × gS), R (k + 1) S' U' → Go (am_X xs L9) (d + 100) 267 993 [.ref 0, .ref 64, .ref 130, .int (nI (6 * k))] [] (xst U'.1 U'.2 (hS S')) Q) (h : Sm23 R k (xs (6 * k + 1)) (xs (6 * k + 2)) (xs (6 * k + 3)) S U) : Go (am_X xs L9) (d + 100) 267 881 [.ref 0, .ref 64, .ref 130, .int (nI (6 * k))] [] (xst U.1 U.2 (hS S)) Q := by
  obtain ⟨n, n', r, S', U', hc, hr, hR⟩ := h
  refine r_aload_n fe_267_881 rfl ?_
  refine r_aload_n fe_267_882 rfl ?_
  refine r_iload_n fe_267_883 rfl ?_
  refine r_iconst (v := 1) fe_267_884 (by decide) ?_
  refine r_iadd (v := nI (6 * k + 1)) fe_267_885 (nI_add (6 * k) 1) ?_
  refine r_iald (j := 6 * k + 1) (v := xs (6 * k + 1)) (n := L9) (a := xs) fe_267_886 rfl x_lt0 (lx_n (by omega)) (lx_c (by omega)) (by omega) rfl ?_
  refine r_aload_n fe_267_887 rfl ?_
  refine r_iload_n fe_267_888 rfl ?_
  refine r_iconst (v := 2) fe_267_889 (by decide) ?_
  refine r_iadd (v := nI (6 * k + 2)) fe_267_890 (nI_add (6 * k) 2) ?_
  refine r_iald (j := 6 * k + 2) (v := xs (6 * k + 2)) (n := L9) (a := xs) fe_267_891 rfl x_lt0 (lx_n (by omega)) (lx_c (by omega)) (by omega) rfl ?_
  refine r_aload_n fe_267_892 rfl ?_
  refine r_iload_n fe_267_893 rfl ?_
  refine r_iconst (v := 3) fe_267_894 (by decide) ?_
  refine r_iadd (v := nI (6 * k + 3)) fe_267_895 (nI_add (6 * k) 3) ?_
  refine r_iald (j := 6 * k + 3) (v := xs (6 * k + 3)) (n := L9) (a := xs) fe_267_896 rfl x_lt0 (lx_n (by omega)) (lx_c (by omega)) (by omega) rfl ?_
  refine r_callV (as := [.int (xs (6 * k + 1)), .int (xs (6 * k + 2)), .int (xs (6 * k + 3))]) (r := []) fe_267_897 lm_18_112 md_144 rfl rfl (Nat.le_of_ble_eq_true rfl) (x_c xk_64 (by decide)) (x_lt xk_64 (by decide)) (Nat.le_of_ble_eq_true rfl) (Nat.le_of_ble_eq_true rfl) ?_
  refine G144c (d := d + 93) (hf := hc) ?_
  refine r_aload_n fe_267_900 rfl ?_
  refine r_aload_n fe_267_901 rfl ?_
  refine r_iload_n fe_267_902 rfl ?_
  refine r_iconst (v := 1) fe_267_903 (by decide) ?_
  refine r_iadd (v := nI (6 * k + 1)) fe_267_904 (nI_add (6 * k) 1) ?_
  refine r_iald (j := 6 * k + 1) (v := xs (6 * k + 1)) (n := L9) (a := xs) fe_267_905 rfl x_lt0 (lx_n (by omega)) (lx_c (by omega)) (by omega) rfl ?_
  refine r_aload_n fe_267_906 rfl ?_
  refine r_iload_n fe_267_907 rfl ?_
  refine r_iconst (v := 2) fe_267_908 (by decide) ?_
  refine r_iadd (v := nI (6 * k + 2)) fe_267_909 (nI_add (6 * k) 2) ?_
  refine r_iald (j := 6 * k + 2) (v := xs (6 * k + 2)) (n := L9) (a := xs) fe_267_910 rfl x_lt0 (lx_n (by omega)) (lx_c (by omega)) (by omega) rfl ?_
  refine r_aload_n fe_267_911 rfl ?_
  refine r_iload_n fe_267_912 rfl ?_
  refine r_iconst (v := 3) fe_267_913 (by decide) ?_
  refine r_iadd (v := nI (6 * k + 3)) fe_267_914 (nI_add (6 * k) 3) ?_
  refine r_iald (j := 6 * k + 3) (v := xs (6 * k + 3)) (n := L9) (a := xs) fe_267_915 rfl x_lt0 (lx_n (by omega)) (lx_c (by omega)) (by omega) rfl ?_
  refine go_heap cst_m ?_
  refine r_callV (as := [.int (xs (6 * k + 1)), .int (xs (6 * k + 2)), .int (xs (6 * k + 3))]) (r := [.int r]) fe_267_916 lm_18_115 md_261 rfl rfl (Nat.le_of_ble_eq_true rfl) m_c_0 (m_lt x_172 (by decide)) (Nat.le_of_ble_eq_true rfl) (Nat.le_of_ble_eq_true rfl) ?_
  refine F261c (d := d + 92) x_172 hr ?_
  refine go_heap cst_m.symm ?_
  refine r_ic_t (t := 993) fe_267_919 (by decide) (ic_rf r) ?_
  exact hT S' U' hR
theorem lc24 {xs : Nat → Int32} {L9 d k : Nat} {R : Nat → mS → xS × gS → Prop} {Q : Option Value → AmH → Prop} {S : mS} {U : xS × gS} (hk : 6 * k + 6 ≤ L9) (hL : L9 ≤ 3072) (hT : ∀ (S' : mS) (U' : xS × gS), R (k + 1) S' U' → Go (am_X xs L9) (d + 100) 267 993 [.ref 0, .ref 64, .ref 130, .int (nI (6 * k))] [] (xst U'.1 U'.2 (hS S')) Q) (h : Sm24 R k (xs (6 * k + 1)) S U) : Go (am_X xs L9) (d + 100) 267 924 [.ref 0, .ref 64, .ref 130, .int (nI (6 * k))] [] (xst U.1 U.2 (hS S)) Q := by
  obtain ⟨n, n', r, S', T', hc, hr, hR⟩ := h
  refine r_aload_n fe_267_924 rfl ?_
  refine r_aload_n fe_267_925 rfl ?_
  refine r_iload_n fe_267_926 rfl ?_
  refine r_iconst (v := 1) fe_267_927 (by decide) ?_
  refine r_iadd (v := nI (6 * k + 1)) fe_267_928 (nI_add (6 * k) 1) ?_
  refine r_iald (j := 6 * k + 1) (v := xs (6 * k + 1)) (n := L9) (a := xs) fe_267_929 rfl x_lt0 (lx_n (by omega)) (lx_c (by omega)) (by omega) rfl ?_
  refine r_callV (as := [.int (xs (6 * k + 1))]) (r := []) fe_267_930 lm_18_116 md_148 rfl rfl (Nat.le_of_ble_eq_true rfl) (x_c xk_64 (by decide)) (x_lt xk_64 (by decide)) (Nat.le_of_ble_eq_true rfl) (Nat.le_of_ble_eq_true rfl) ?_
  refine G148c (d := d + 98) (hf := hc) ?_
  refine r_aload_n fe_267_933 rfl ?_
  refine r_aload_n fe_267_934 rfl ?_
  refine r_iload_n fe_267_935 rfl ?_
  refine r_iconst (v := 1) fe_267_936 (by decide) ?_
  refine r_iadd (v := nI (6 * k + 1)) fe_267_937 (nI_add (6 * k) 1) ?_
  refine r_iald (j := 6 * k + 1) (v := xs (6 * k + 1)) (n := L9) (a := xs) fe_267_938 rfl x_lt0 (lx_n (by omega)) (lx_c (by omega)) (by omega) rfl ?_
  refine go_heap cst_m ?_
  refine r_callV (as := [.int (xs (6 * k + 1))]) (r := [.int r]) fe_267_939 lm_18_119 md_264 rfl rfl (Nat.le_of_ble_eq_true rfl) m_c_0 (m_lt x_172 (by decide)) (Nat.le_of_ble_eq_true rfl) (Nat.le_of_ble_eq_true rfl) ?_
  refine F264c (d := d + 97) x_172 hr ?_
  refine go_heap cst_m.symm ?_
  refine r_ic_t (t := 993) fe_267_942 (by decide) (ic_rf r) ?_
  exact hT S' (T', U.2) hR
theorem lc25 {xs : Nat → Int32} {L9 d k : Nat} {R : Nat → mS → xS × gS → Prop} {Q : Option Value → AmH → Prop} {S : mS} {U : xS × gS} (hk : 6 * k + 6 ≤ L9) (hL : L9 ≤ 3072) (hT : ∀ (S' : mS) (U' : xS × gS), R (k + 1) S' U' → Go (am_X xs L9) (d + 100) 267 993 [.ref 0, .ref 64, .ref 130, .int (nI (6 * k))] [] (xst U'.1 U'.2 (hS S')) Q) (h : Sm25 R k (xs (6 * k + 1)) S U) : Go (am_X xs L9) (d + 100) 267 947 [.ref 0, .ref 64, .ref 130, .int (nI (6 * k))] [] (xst U.1 U.2 (hS S)) Q := by
  obtain ⟨n, n', r, S', U', hc, hr, hR⟩ := h
  refine r_aload_n fe_267_947 rfl ?_
  refine r_aload_n fe_267_948 rfl ?_
  refine r_iload_n fe_267_949 rfl ?_
  refine r_iconst (v := 1) fe_267_950 (by decide) ?_
  refine r_iadd (v := nI (6 * k + 1)) fe_267_951 (nI_add (6 * k) 1) ?_
  refine r_iald (j := 6 * k + 1) (v := xs (6 * k + 1)) (n := L9) (a := xs) fe_267_952 rfl x_lt0 (lx_n (by omega)) (lx_c (by omega)) (by omega) rfl ?_
  refine r_callV (as := [.int (xs (6 * k + 1))]) (r := []) fe_267_953 lm_18_120 md_149 rfl rfl (Nat.le_of_ble_eq_true rfl) (x_c xk_64 (by decide)) (x_lt xk_64 (by decide)) (Nat.le_of_ble_eq_true rfl) (Nat.le_of_ble_eq_true rfl) ?_
  refine G149c (d := d + 95) (hf := hc) ?_
  refine r_aload_n fe_267_956 rfl ?_
  refine r_aload_n fe_267_957 rfl ?_
  refine r_iload_n fe_267_958 rfl ?_
  refine r_iconst (v := 1) fe_267_959 (by decide) ?_
  refine r_iadd (v := nI (6 * k + 1)) fe_267_960 (nI_add (6 * k) 1) ?_
  refine r_iald (j := 6 * k + 1) (v := xs (6 * k + 1)) (n := L9) (a := xs) fe_267_961 rfl x_lt0 (lx_n (by omega)) (lx_c (by omega)) (by omega) rfl ?_
  refine go_heap cst_m ?_
  refine r_callV (as := [.int (xs (6 * k + 1))]) (r := [.int r]) fe_267_962 lm_18_123 md_265 rfl rfl (Nat.le_of_ble_eq_true rfl) m_c_0 (m_lt x_172 (by decide)) (Nat.le_of_ble_eq_true rfl) (Nat.le_of_ble_eq_true rfl) ?_
  refine F265c (d := d + 97) x_172 hr ?_
  refine go_heap cst_m.symm ?_
  refine r_ic_t (t := 993) fe_267_965 (by decide) (ic_rf r) ?_
  exact hT S' U' hR
theorem lc26 {xs : Nat → Int32} {L9 d k : Nat} {R : Nat → mS → xS × gS → Prop} {Q : Option Value → AmH → Prop} {S : mS} {U : xS × gS} (hk : 6 * k + 6 ≤ L9) (hL : L9 ≤ 3072) (hT : ∀ (S' : mS) (U' : xS × gS), R (k + 1) S' U' → Go (am_X xs L9) (d + 100) 267 993 [.ref 0, .ref 64, .ref 130, .int (nI (6 * k))] [] (xst U'.1 U'.2 (hS S')) Q) (h : Sm26 R k (xs (6 * k + 1)) S U) : Go (am_X xs L9) (d + 100) 267 970 [.ref 0, .ref 64, .ref 130, .int (nI (6 * k))] [] (xst U.1 U.2 (hS S)) Q := by
  obtain ⟨n, n', r, S', U', hc, hr, hR⟩ := h
  refine r_aload_n fe_267_970 rfl ?_
  refine r_aload_n fe_267_971 rfl ?_
  refine r_iload_n fe_267_972 rfl ?_
  refine r_iconst (v := 1) fe_267_973 (by decide) ?_
  refine r_iadd (v := nI (6 * k + 1)) fe_267_974 (nI_add (6 * k) 1) ?_
  refine r_iald (j := 6 * k + 1) (v := xs (6 * k + 1)) (n := L9) (a := xs) fe_267_975 rfl x_lt0 (lx_n (by omega)) (lx_c (by omega)) (by omega) rfl ?_
  refine r_callV (as := [.int (xs (6 * k + 1))]) (r := []) fe_267_976 lm_18_124 md_152 rfl rfl (Nat.le_of_ble_eq_true rfl) (x_c xk_64 (by decide)) (x_lt xk_64 (by decide)) (Nat.le_of_ble_eq_true rfl) (Nat.le_of_ble_eq_true rfl) ?_
  refine G152c (d := d + 95) (hf := hc) ?_
  refine r_aload_n fe_267_979 rfl ?_
  refine r_aload_n fe_267_980 rfl ?_
  refine r_iload_n fe_267_981 rfl ?_
  refine r_iconst (v := 1) fe_267_982 (by decide) ?_
  refine r_iadd (v := nI (6 * k + 1)) fe_267_983 (nI_add (6 * k) 1) ?_
  refine r_iald (j := 6 * k + 1) (v := xs (6 * k + 1)) (n := L9) (a := xs) fe_267_984 rfl x_lt0 (lx_n (by omega)) (lx_c (by omega)) (by omega) rfl ?_
  refine go_heap cst_m ?_
  refine r_callV (as := [.int (xs (6 * k + 1))]) (r := [.int r]) fe_267_985 lm_18_127 md_266 rfl rfl (Nat.le_of_ble_eq_true rfl) m_c_0 (m_lt x_172 (by decide)) (Nat.le_of_ble_eq_true rfl) (Nat.le_of_ble_eq_true rfl) ?_
  refine F266c (d := d + 97) x_172 hr ?_
  refine go_heap cst_m.symm ?_
  refine r_ic_t (t := 993) fe_267_988 (by decide) (ic_rf r) ?_
  exact hT S' U' hR
theorem nIs {a b : Nat} (ha : a < 2 ^ 31) (hb : b < 2 ^ 31) : (nI a - nI b).toInt = (a : Int) - b := by
  rw [Int32.toInt_sub, nI_toInt ha, nI_toInt hb]
  apply Int.bmod_eq_of_le_mul_two <;> omega
theorem law_c {k L9 : Nat} (hk : 6 * k + 6 ≤ L9) (hL : L9 ≤ 3072) : am_ic .gt (nI (6 * k)) (nI L9 - 6) = false := by
  refine decide_eq_false (fun h => ?_)
  have h := Int32.lt_iff_toInt_lt.mp h
  rw [show (6 : Int32) = nI 6 from rfl, nIs (by omega) (by omega), nI_toInt (by omega)] at h
  omega
theorem law_end {xs : Nat → Int32} {L9 d k : Nat} {Q : Option Value → AmH → Prop} {T : xS} {G : gS} {h : Nat → va_E} (hk : L9 < 6 * k + 6) (hL : L9 ≤ 3072) (hQ : Q (some (.int 1)) (xst T G h)) (hk5 : k ≤ 512 := by omega) : Go (am_X xs L9) (d + 100) 267 18 [.ref 0, .ref 64, .ref 130, .int (nI (6 * k))] [] (xst T G h) Q := by
  refine r_iload_n fe_267_18 rfl ?_
  refine r_aload_n fe_267_19 rfl ?_
  refine r_alen (v := nI L9) (t := 0) (n := L9) fe_267_20 rfl x_lt0 (by decide) rfl ?_
  refine r_bipush (v := 6) fe_267_21 (by decide) ?_
  refine r_isub (v := nI L9 - 6) fe_267_23 rfl ?_
  refine r_ic_t (t := 999) fe_267_24 (by decide) ?_ ?_
  · refine decide_eq_true ?_
    rw [Int32.lt_iff_toInt_lt, show (6 : Int32) = nI 6 from rfl, nIs (by omega) (by omega), nI_toInt (by omega)]
    omega
  refine r_iconst (v := 1) fe_267_999 (by decide) ?_
  exact r_iret fe_267_1000 ⟨rfl, by decide⟩ hQ
def SimR (xs : Nat → Int32) (R : Nat → mS → xS × gS → Prop) : Prop := ∀ (k : Nat) (S : mS) (U : xS × gS), k < 512 → R k S U → R (k + 1) S U ∧ (∀ a1 a2 a3 a4 a5 : Int32, Sm0 R k a1 a2 a3 a4 a5 S U ∧ Sm1 R k a1 S U ∧ Sm2 R k S U ∧ Sm3 R k S U ∧ Sm4 R k a1 S U ∧ Sm5 R k a1 a2 S U ∧ Sm6 R k a1 a2 S U ∧ Sm7 R k S U ∧ Sm8 R k a1 a2 S U ∧ Sm9 R k a1 S U ∧ (Sm10 R k a1 0 S U ∧ Sm10 R k a1 1 S U) ∧ Sm11 R k a1 a2 S U ∧ Sm12 R k S U ∧ Sm13 R k a1 a2 a3 S U ∧ Sm14 R k a1 a2 S U ∧ Sm15 R k a1 a2 S U ∧ Sm16 R k a1 a2 a3 a4 S U ∧ Sm17 R k a1 a2 S U ∧ Sm18 R k a1 a2 a3 S U ∧ Sm19 R k a1 a2 S U ∧ Sm20 R k a1 a2 S U ∧ Sm21 R k a1 a2 S U ∧ Sm22 R k a1 S U ∧ Sm23 R k a1 a2 a3 S U ∧ Sm24 R k a1 S U ∧ Sm25 R k a1 S U ∧ Sm26 R k a1 S U)
theorem law_loop {xs : Nat → Int32} {L9 d : Nat} {R : Nat → mS → xS × gS → Prop} {Q : Option Value → AmH → Prop} (hL : L9 ≤ 3072) (hs : SimR xs R) (hQ : ∀ (k : Nat) (S : mS) (U : xS × gS), k ≤ 512 → R k S U → Q (some (.int 1)) (xst U.1 U.2 (hS S))) : ∀ (m k : Nat) (S : mS) (U : xS × gS), L9 + 6 ≤ 6 * k + 6 * m → k ≤ 512 → R k S U → Go (am_X xs L9) (d + 100) 267 18 [.ref 0, .ref 64, .ref 130, .int (nI (6 * k))] [] (xst U.1 U.2 (hS S)) Q := by
  intro m
  induction m with
  | zero =>
    intro k S U h1 h2 hR
    exact law_end (by omega) (by omega) (hQ k S U h2 hR)
  | succ m ih =>
    intro k S U h1 h2 hR
    by_cases hk : 6 * k + 6 ≤ L9
    · have hk5 : k < 512 := by omega
      obtain ⟨hD, hA⟩ := hs k S U hk5 hR
      have hA := hA (xs (6 * k + 1)) (xs (6 * k + 2)) (xs (6 * k + 3)) (xs (6 * k + 4)) (xs (6 * k + 5))
      obtain ⟨q0, q1, q2, q3, q4, q5, q6, q7, q8, q9, q10, q11, q12, q13, q14, q15, q16, q17, q18, q19, q20, q21, q22, q23, q24, q25, q26⟩ := hA
      have hT : ∀ (S' : mS) (U' : xS × gS), R (k + 1) S' U' → Go (am_X xs L9) (d + 100) 267 993 [.ref 0, .ref 64, .ref 130, .int (nI (6 * k))] [] (xst U'.1 U'.2 (hS S')) Q := by
        intro S' U' h'
        refine r_iinc (v := nI (6 * (k + 1))) fe_267_993 rfl (nI_add (6 * k) 6) rfl ?_
        refine r_goto (t := 18) fe_267_996 (by decide) ?_
        exact ih (k + 1) S' U' (by omega) (by omega) h'
      refine r_iload_n fe_267_18 rfl ?_
      refine r_aload_n fe_267_19 rfl ?_
      refine r_alen (v := nI L9) (t := 0) (n := L9) fe_267_20 rfl x_lt0 (by decide) rfl ?_
      refine r_bipush (v := 6) fe_267_21 (by decide) ?_
      refine r_isub (v := nI L9 - 6) fe_267_23 rfl ?_
      refine r_ic_f (t := 999) fe_267_24 (by decide) (law_c hk hL) ?_
      refine r_aload_n fe_267_27 rfl ?_
      refine r_iload_n fe_267_28 rfl ?_
      refine r_iald (j := 6 * k) (v := xs (6 * k)) (n := L9) (a := xs) fe_267_29 rfl x_lt0 (lx_n (by omega)) (lx_c (by omega)) (by omega) rfl ?_
      refine r_bipush (v := 31) fe_267_30 (by decide) ?_
      refine r_iand (v := xs (6 * k) &&& 31) fe_267_32 rfl ?_
      obtain ⟨c, hc, e⟩ := and31 (xs (6 * k))
      rw [e]
      have hcs : c = 0 ∨ c = 1 ∨ c = 2 ∨ c = 3 ∨ c = 4 ∨ c = 5 ∨ c = 6 ∨ c = 7 ∨ c = 8 ∨ c = 9 ∨ c = 10 ∨ c = 11 ∨ c = 12 ∨ c = 13 ∨ c = 14 ∨ c = 15 ∨ c = 16 ∨ c = 17 ∨ c = 18 ∨ c = 19 ∨ c = 20 ∨ c = 21 ∨ c = 22 ∨ c = 23 ∨ c = 24 ∨ c = 25 ∨ c = 26 ∨ 27 ≤ c := by omega
      rcases hcs with rfl | rfl | rfl | rfl | rfl | rfl | rfl | rfl | rfl | rfl | rfl | rfl | rfl | rfl | rfl | rfl | rfl | rfl | rfl | rfl | rfl | rfl | rfl | rfl | rfl | rfl | rfl | h27
      · exact r_tabI (off := 123) (t := 156) fe_267_33 (by decide) (by decide) (by decide) (lc0 hk hL hT q0)
      · exact r_tabI (off := 186) (t := 219) fe_267_33 (by decide) (by decide) (by decide) (lc1 hk hL hT q1)
      · exact r_tabI (off := 209) (t := 242) fe_267_33 (by decide) (by decide) (by decide) (lc2 hk hL hT q2)
      · exact r_tabI (off := 222) (t := 255) fe_267_33 (by decide) (by decide) (by decide) (lc3 hk hL hT q3)
      · exact r_tabI (off := 235) (t := 268) fe_267_33 (by decide) (by decide) (by decide) (lc4 hk hL hT q4)
      · exact r_tabI (off := 258) (t := 291) fe_267_33 (by decide) (by decide) (by decide) (lc5 hk hL hT q5)
      · exact r_tabI (off := 291) (t := 324) fe_267_33 (by decide) (by decide) (by decide) (lc6 hk hL hT q6)
      · exact r_tabI (off := 324) (t := 357) fe_267_33 (by decide) (by decide) (by decide) (lc7 hk hL hT q7)
      · exact r_tabI (off := 337) (t := 370) fe_267_33 (by decide) (by decide) (by decide) (lc8 hk hL hT q8)
      · exact r_tabI (off := 370) (t := 403) fe_267_33 (by decide) (by decide) (by decide) (lc9 hk hL hT q9)
      · exact r_tabI (off := 393) (t := 426) fe_267_33 (by decide) (by decide) (by decide) (lc10 hk hL hT q10.1 q10.2)
      · exact r_tabI (off := 442) (t := 475) fe_267_33 (by decide) (by decide) (by decide) (lc11 hk hL hT q11)
      · exact r_tabI (off := 475) (t := 508) fe_267_33 (by decide) (by decide) (by decide) (lc12 hk hL hT q12)
      · exact r_tabI (off := 488) (t := 521) fe_267_33 (by decide) (by decide) (by decide) (lc13 hk hL hT q13)
      · exact r_tabI (off := 531) (t := 564) fe_267_33 (by decide) (by decide) (by decide) (lc14 hk hL hT q14)
      · exact r_tabI (off := 564) (t := 597) fe_267_33 (by decide) (by decide) (by decide) (lc15 hk hL hT q15)
      · exact r_tabI (off := 597) (t := 630) fe_267_33 (by decide) (by decide) (by decide) (lc16 hk hL hT q16)
      · exact r_tabI (off := 650) (t := 683) fe_267_33 (by decide) (by decide) (by decide) (lc17 hk hL hT q17)
      · exact r_tabI (off := 683) (t := 716) fe_267_33 (by decide) (by decide) (by decide) (lc18 hk hL hT q18)
      · exact r_tabI (off := 726) (t := 759) fe_267_33 (by decide) (by decide) (by decide) (lc19 hk hL hT q19)
      · exact r_tabI (off := 759) (t := 792) fe_267_33 (by decide) (by decide) (by decide) (lc20 hk hL hT q20)
      · exact r_tabI (off := 792) (t := 825) fe_267_33 (by decide) (by decide) (by decide) (lc21 hk hL hT q21)
      · exact r_tabI (off := 825) (t := 858) fe_267_33 (by decide) (by decide) (by decide) (lc22 hk hL hT q22)
      · exact r_tabI (off := 848) (t := 881) fe_267_33 (by decide) (by decide) (by decide) (lc23 hk hL hT q23)
      · exact r_tabI (off := 891) (t := 924) fe_267_33 (by decide) (by decide) (by decide) (lc24 hk hL hT q24)
      · exact r_tabI (off := 914) (t := 947) fe_267_33 (by decide) (by decide) (by decide) (lc25 hk hL hT q25)
      · exact r_tabI (off := 937) (t := 970) fe_267_33 (by decide) (by decide) (by decide) (lc26 hk hL hT q26)
      · refine r_tabO (t := 993) fe_267_33 (Or.inr (by rw [nI_toInt (by omega)]; omega)) (by decide) ?_
        exact hT S U hD
    · exact law_end (by omega) hL (hQ k S U h2 hR)
