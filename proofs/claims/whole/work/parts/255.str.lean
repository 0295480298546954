/-! the texts: length and charAt -/
def sOk (p : Nat) : Prop := p % 2 = 0 ∧ 2 ≤ p ∧ p < 60
theorem sOk_dec (p : Nat) : sOk p ∨ ¬ sOk p := Classical.em _
def sB (p : Nat) : Bool := decide (p % 2 = 0) && decide (2 ≤ p) && decide (p < 60)
theorem sB_ok {p : Nat} (h : sB p = true) : sOk p := by
  simp only [sB, Bool.and_eq_true, decide_eq_true_eq] at h
  exact ⟨h.1.1, h.1.2, h.2⟩
def sTx (p : Nat) : List Int32 := am_tx.getD ((p - 2) / 2) []
def sCh (p j : Nat) : Int32 := (((sTx p).getD j 0 &&& 255).toUInt32 % 65536).toInt32
theorem sTx_len (p : Nat) : (sTx p).length < 2 ^ 31 := by
  unfold sTx
  by_cases h : (p - 2) / 2 < am_tx.length
  · have e : am_tx.all (fun b => decide (b.length < 2 ^ 31)) = true := by decide +kernel
    rw [List.getD_eq_getElem?_getD, List.getElem?_eq_getElem h]
    exact of_decide_eq_true (List.all_eq_true.mp e _ (List.getElem_mem h))
  · rw [List.getD_eq_getElem?_getD, List.getElem?_eq_none (by omega)]
    decide
section Str
variable {xs : Nat → Int32} {L9 d : Nat} {h : AmH} {Q : Option Value → AmH → Prop} {p : Nat}
theorem s_c (hs : sOk p) : am_c (am_X xs L9) h p = .inr (13, [.ref (p + 1), .int 0]) := by
  obtain ⟨h1, h2, h3⟩ := hs
  have e : (2 + 2 * am_tx.length) = 60 := rfl
  unfold am_c am_X
  rw [if_pos (by omega), if_neg (by omega), if_neg (by omega), e, if_pos h3, if_pos h1]
theorem s_v (hs : sOk p) : am_c (am_X xs L9) h (p + 1) = .inl (2, (sTx p).length, .inl (fun j => (sTx p).getD j 0)) := by
  obtain ⟨h1, h2, h3⟩ := hs
  have e : (2 + 2 * am_tx.length) = 60 := rfl
  unfold am_c am_X sTx
  rw [if_pos (by omega), if_neg (by omega), if_neg (by omega), e, if_pos (by omega), if_neg (by omega), show (p + 1 - 2) / 2 = (p - 2) / 2 by omega]
theorem c_coder (hs : sOk p) (h64 : 64 ≤ h.2.1) (hQ : Q (some (.int 0)) h) : Ca (am_X xs L9) (d + 0) 25 [.ref p] h Q := by
  show Go (am_X xs L9) _ 25 0 [.ref p] [] h Q
  have hl : p < h.2.1 := by have := hs.2.2; omega
  refine r_gets (v := .int 1) fe_25_0 (by decide +kernel) ?_
  refine r_if_f (t := 13) fe_25_3 (by decide) (by decide) ?_
  refine r_aload_n fe_25_6 rfl ?_
  refine r_getf fe_25_7 lf_13_15 (s_c hs) hl rfl ?_
  refine r_goto (t := 14) fe_25_10 (by decide) ?_
  refine r_iret fe_25_14 ⟨rfl, by decide⟩ ?_
  exact hQ
theorem shr0 {n : Nat} (hn : n < 2 ^ 31) : nI n >>> ((0 : Int32) &&& 31) = nI n := by
  have := pk_shrN hn ((0 : Int32) &&& 31) 0 (by decide)
  rw [this, Nat.pow_zero, Nat.div_one]
theorem c_strlen (hs : sOk p) (h64 : 64 ≤ h.2.1) (hQ : Q (some (.int (nI (sTx p).length))) h) : Ca (am_X xs L9) (d + 1) 24 [.ref p] h Q := by
  show Go (am_X xs L9) _ 24 0 [.ref p] [] h Q
  have hl : p < h.2.1 := by have := hs.2.2; omega
  have hl2 : p + 1 < h.2.1 := by have := hs.2.2; omega
  refine r_aload_n fe_24_0 rfl ?_
  refine r_getf fe_24_1 lf_13_9 (s_c hs) hl rfl ?_
  refine r_alen (v := nI (sTx p).length) fe_24_4 (s_v hs) hl2 (by decide) rfl ?_
  refine r_aload_n fe_24_5 rfl ?_
  refine r_callV (as := []) (r := [.int (nI (sTx p).length)]) fe_24_6 lm_13_335 md_25 rfl rfl (Nat.le_of_ble_eq_true rfl) (s_c hs) hl (Nat.le_of_ble_eq_true rfl) (Nat.le_of_ble_eq_true rfl) ?_
  refine c_coder hs h64 ?_
  refine r_ishr (v := nI (sTx p).length) fe_24_9 (shr0 (sTx_len p)) ?_
  refine r_iret fe_24_10 ⟨rfl, by decide⟩ ?_
  exact hQ
theorem c_isLatin1 (hs : sOk p) (h64 : 64 ≤ h.2.1) (hQ : Q (some (.int 1)) h) : Ca (am_X xs L9) (d + 0) 27 [.ref p] h Q := by
  show Go (am_X xs L9) _ 27 0 [.ref p] [] h Q
  have hl : p < h.2.1 := by have := hs.2.2; omega
  refine r_gets (v := .int 1) fe_27_0 (by decide +kernel) ?_
  refine r_if_f (t := 17) fe_27_3 (by decide) (by decide) ?_
  refine r_aload_n fe_27_6 rfl ?_
  refine r_getf fe_27_7 lf_13_15 (s_c hs) hl rfl ?_
  refine r_if_f (t := 17) fe_27_10 (by decide) (by decide) ?_
  refine r_iconst (v := 1) fe_27_13 (by decide) ?_
  refine r_goto (t := 18) fe_27_14 (by decide) ?_
  refine r_iret fe_27_18 ⟨rfl, by decide⟩ ?_
  exact hQ
theorem c_pre {X : Nat → va_E} {j n : Nat} (hj : j < n) (hn : n < 2 ^ 31) (hQ : Q (some (.int (nI j))) h) : Ca X (d + 0) 30 [.int (nI j), .int (nI n), .retAddr 0] h Q := by
  show Go X _ 30 0 [.int (nI j), .int (nI n), .retAddr 0] [] h Q
  refine r_iload_n fe_30_0 rfl ?_
  refine r_if_f (t := 9) fe_30_1 (by decide) (by unfold am_if; exact decide_eq_false (nI_pos (by omega))) ?_
  refine r_iload_n fe_30_4 rfl ?_
  refine r_iload_n fe_30_5 rfl ?_
  refine r_ic_t (t := 16) fe_30_6 (by decide) (by rw [ic_lt_nI (by omega) hn]; exact decide_eq_true hj) ?_
  refine r_iload_n fe_30_16 rfl ?_
  refine r_iret fe_30_17 ⟨rfl, by decide⟩ ?_
  exact hQ
theorem c_chk {X : Nat → va_E} {j n : Nat} (hj : j < n) (hn : n < 2 ^ 31) (hQ : Q none h) : Ca X (d + 1) 29 [.int (nI j), .int (nI n)] h Q := by
  show Go X _ 29 0 [.int (nI j), .int (nI n)] [] h Q
  refine r_iload_n fe_29_0 rfl ?_
  refine r_iload_n fe_29_1 rfl ?_
  refine r_gets (v := .retAddr 0) fe_29_2 (by decide +kernel) ?_
  refine r_callS (as := [.int (nI j), .int (nI n), .retAddr 0]) (r := []) fe_29_5 lm_13_1059 md_30 rfl rfl (Nat.le_of_ble_eq_true rfl) (Nat.le_of_ble_eq_true rfl) (Nat.le_of_ble_eq_true rfl) ?_
  refine c_pre hj hn ?_
  refine r_pop fe_29_8 rfl ?_
  refine r_vret fe_29_9 ?_
  exact hQ
theorem c_lat {j : Nat} (hs : sOk p) (h64 : 64 ≤ h.2.1) (hj : j < (sTx p).length) (hQ : Q (some (.int (sCh p j))) h) : Ca (am_X xs L9) (d + 2) 28 [.ref (p + 1), .int (nI j)] h Q := by
  show Go (am_X xs L9) _ 28 0 [.ref (p + 1), .int (nI j)] [] h Q
  have hl2 : p + 1 < h.2.1 := by have := hs.2.2; omega
  have hln := sTx_len p
  refine r_iload_n fe_28_0 rfl ?_
  refine r_aload_n fe_28_1 rfl ?_
  refine r_alen (v := nI (sTx p).length) fe_28_2 (s_v hs) hl2 (by decide) rfl ?_
  refine r_callS (as := [.int (nI j), .int (nI (sTx p).length)]) (r := []) fe_28_3 lm_14_9 md_29 rfl rfl (Nat.le_of_ble_eq_true rfl) (Nat.le_of_ble_eq_true rfl) (Nat.le_of_ble_eq_true rfl) ?_
  refine c_chk hj hln ?_
  refine r_aload_n fe_28_6 rfl ?_
  refine r_iload_n fe_28_7 rfl ?_
  refine r_bald (j := j) (v := (sTx p).getD j 0) fe_28_8 (s_v hs) hl2 (nI_pos (by omega)) (nI_clamp (by omega)) (by omega) rfl ?_
  refine r_sipush (v := 255) fe_28_9 (by decide) ?_
  refine r_iand (v := (sTx p).getD j 0 &&& 255) fe_28_12 rfl ?_
  refine r_i2c (v := sCh p j) fe_28_13 rfl ?_
  refine r_iret fe_28_14 ⟨pk_nc _, by decide⟩ ?_
  exact hQ
theorem c_charAt {i : Int32} (hs : sOk p) (h64 : 64 ≤ h.2.1) (hi : ¬ (i < 0 ∨ (sTx p).length ≤ i.toNatClampNeg)) (hQ : Q (some (.int (sCh p i.toNatClampNeg))) h) : Ca (am_X xs L9) (d + 3) 26 [.ref p, .int i] h Q := by
  obtain ⟨j, hj, rfl⟩ := nI_of (x := i) (fun z => hi (Or.inl z))
  rw [nI_clamp hj] at hi hQ
  show Go (am_X xs L9) _ 26 0 [.ref p, .int (nI j)] [] h Q
  have hl : p < h.2.1 := by have := hs.2.2; omega
  refine r_aload_n fe_26_0 rfl ?_
  refine r_callV (as := []) (r := []) fe_26_1 lm_13_492 md_27 rfl rfl (Nat.le_of_ble_eq_true rfl) (s_c hs) hl (Nat.le_of_ble_eq_true rfl) (Nat.le_of_ble_eq_true rfl) ?_
  refine c_isLatin1 hs h64 ?_
  refine r_if_f (t := 16) fe_26_4 (by decide) (by decide) ?_
  refine r_aload_n fe_26_7 rfl ?_
  refine r_getf fe_26_8 lf_13_9 (s_c hs) hl rfl ?_
  refine r_iload_n fe_26_11 rfl ?_
  refine r_callS (as := [.ref (p + 1), .int (nI j)]) (r := []) fe_26_12 lm_13_495 md_28 rfl rfl (Nat.le_of_ble_eq_true rfl) (Nat.le_of_ble_eq_true rfl) (Nat.le_of_ble_eq_true rfl) ?_
  refine c_lat hs h64 (Nat.not_le.mp fun z => hi (Or.inr z)) ?_
  refine r_iret fe_26_15 ⟨pk_nc _, by decide⟩ ?_
  exact hQ
end Str
theorem s_lt {S : mS} {h : AmH} {p : Nat} (hs : sOk p) (hh : 172 ≤ h.2.1) : p < (mst S h).2.1 := Nat.lt_of_lt_of_le (Nat.lt_trans hs.2.2 (by decide : 60 < 172)) hh
theorem m_64 {S : mS} {h : AmH} (hh : 172 ≤ h.2.1) : 64 ≤ (mst S h).2.1 := Nat.le_trans (by decide : 64 ≤ 172) hh
