/-! rows for a law that may be null; things made later -/
theorem dbnd {α β : Type} {x : α} {f : α → Option β} {r : β} (hf : (some x).bind f = some r) : ∃ T, T = x ∧ f T = some r := ⟨x, rfl, hf⟩
def lwB (G : gS) (o : Option Nat) (n : Nat) : Bool := match o with
  | none => true
  | some q => lB G q n
def lawN (G : gS) (o : Option Nat) : Nat := (x_kd G (o.getD 0 + 1)).2
theorem lw_s {G : gS} {o : Option Nat} {n q : Nat} (h : lwB G o n = true) (e : o = some q) : lB G q n = true := by subst e; exact h
theorem op_f {C : String} (o : Option Nat) : fits (.object C) (va_rf o) = true := by cases o <;> rfl
theorem op_n {C : String} (o : Option Nat) : narrow (.object C) (va_rf o) = va_rf o := by cases o <;> rfl
theorem r_aload_nO {X : Nat → va_E} {d mid pc own : Nat} {ret : Option FieldType} {L st : List Value} {h : AmH} {Q : Option Value → AmH → Prop} {k : Fin 4} {o : Option Nat} (f : am_fe mid pc = some (own, ret, .aload_n k)) (e : L[(k : Nat)]? = some (va_rf o)) (g : Go X d mid (pc + 1) L (va_rf o :: st) h Q) : Go X d mid pc L st h Q := by
  cases o with
  | none => exact r_aload_nN f e g
  | some x => exact r_aload_n f e g
theorem r_aloadO {X : Nat → va_E} {d mid pc own : Nat} {ret : Option FieldType} {L st : List Value} {h : AmH} {Q : Option Value → AmH → Prop} {k : Nat} {o : Option Nat} (f : am_fe mid pc = some (own, ret, .aload k)) (e : L[k]? = some (va_rf o)) (g : Go X d mid (pc + 2) L (va_rf o :: st) h Q) : Go X d mid pc L st h Q := by
  cases o with
  | none => exact r_aloadN f e g
  | some x => exact r_aload f e g
def gN (G : gS) (k : Nat × Nat) (m : Nat) : gS := (va_up G.1 (172 + G.2.1) k, G.2.1 + 1, G.2.2 + m)
def gK (G : gS) (p : Nat) (k : Nat × Nat) : gS := (va_up G.1 p k, G.2)
theorem kd_gN {G : gS} {p m : Nat} {k : Nat × Nat} (h : p ≠ 172 + G.2.1) : x_kd (gN G k m) p = x_kd G p := by
  unfold x_kd gN
  by_cases h1 : p < 130
  · rw [if_pos h1, if_pos h1]
  · rw [if_neg h1, if_neg h1]
    by_cases h2 : p < 172
    · rw [if_pos h2, if_pos h2]
    · rw [if_neg h2, if_neg h2]
      simp only
      by_cases h3 : p < 172 + G.2.1
      · rw [if_pos h3, if_pos (by omega), va_upN h]
      · rw [if_neg h3, if_neg (by omega)]
theorem kd_gNs {G : gS} {m : Nat} {k : Nat × Nat} : x_kd (gN G k m) (172 + G.2.1) = k := by
  unfold x_kd gN
  rw [if_neg (by omega), if_neg (by omega)]
  simp only
  rw [if_pos (by omega), va_upS]
theorem kd_gK {G : gS} {p q : Nat} {k : Nat × Nat} (h : p ≠ q) : x_kd (gK G q k) p = x_kd G p := by
  unfold x_kd gK
  simp only
  rw [va_upN h]
theorem kd_gKs {G : gS} {q : Nat} {k : Nat × Nat} (h1 : 172 ≤ q) (h2 : q < 172 + G.2.1) : x_kd (gK G q k) q = k := by
  unfold x_kd gK
  simp only
  rw [if_neg (by omega), if_neg (by omega), if_pos h2, va_upS]
theorem x_pu {T T' : xS} {G : gS} {h h' : Nat → va_E} {c : va_E} {k : Nat × Nat} {m : Nat} (hc : (if k.1 = 0 then h' (172 + G.2.1) else x_ce (172 + G.2.1) (T'.1 (172 + G.2.1)) (T'.2.1 (172 + G.2.1)) (T'.2.2.1 (172 + G.2.1)) (T'.2.2.2 (172 + G.2.1)) k) = c) (hd : ∀ q, q ≠ 172 + G.2.1 → T'.1 q = T.1 q ∧ T'.2.1 q = T.2.1 q ∧ T'.2.2.1 q = T.2.2.1 q ∧ T'.2.2.2 q = T.2.2.2 q ∧ h' q = h q) : am_pu (xst T G h) c m = xst T' (gN G k m) h' := by
  unfold am_pu xst
  refine Prod.ext ?_ rfl
  funext q
  simp only
  by_cases hq : q = 172 + G.2.1
  · subst hq
    rw [va_upS, kd_gNs]
    exact hc.symm
  · rw [va_upN hq, kd_gN hq]
    obtain ⟨e1, e2, e3, e4, e5⟩ := hd q hq
    rw [e1, e2, e3, e4, e5]
theorem x_puo {T : xS} {G : gS} {h : Nat → va_E} {c : va_E} {m : Nat} : am_pu (xst T G h) c m = xst T (gN G (0, 0) m) (va_up h (172 + G.2.1) c) :=
  x_pu (k := (0, 0)) (by rw [if_pos rfl, va_upS]) (fun q hq => ⟨rfl, rfl, rfl, rfl, va_upN hq⟩)
theorem x_pua {T : xS} {G : gS} {h : Nat → va_E} {n m : Nat} {f : Nat → Int32} : am_pu (xst T G h) (.inl (0, n, .inl f)) m = xst (x_sR T (172 + G.2.1) f) (gN G (1, n) m) h :=
  x_pu (k := (1, n)) (by rw [if_neg (by show ¬ 1 = 0; decide)]; show x_ce _ _ (va_up T.2.1 (172 + G.2.1) f (172 + G.2.1)) _ _ (1, n) = _; rw [va_upS]; rfl) (fun q hq => ⟨rfl, va_upN hq, rfl, rfl, rfl⟩)
def x_sQR (T : xS) (p : Nat) (f : Nat → Option Nat) : xS := (T.1, T.2.1, T.2.2.1, va_up T.2.2.2 p f)
def x_sIR (T : xS) (p : Nat) (f : Nat → Int32) : xS := (va_up T.1 p f, T.2)
theorem x_puq {T : xS} {G : gS} {h : Nat → va_E} {n m : Nat} {f : Nat → Option Nat} : am_pu (xst T G h) (.inl (5, n, .inr (.inr (.inr (.inr f))))) m = xst (x_sQR T (172 + G.2.1) f) (gN G (5, n) m) h :=
  x_pu (k := (5, n)) (by rw [if_neg (by show ¬ 5 = 0; decide)]; show x_ce _ _ _ _ (va_up T.2.2.2 (172 + G.2.1) f (172 + G.2.1)) (5, n) = _; rw [va_upS]; rfl) (fun q hq => ⟨rfl, rfl, rfl, va_upN hq, rfl⟩)
theorem va_upp {α : Type} {f : Nat → α} {p : Nat} {x y : α} : va_up (va_up f p x) p y = va_up f p y := by
  funext q
  unfold va_up
  by_cases h : q = p
  · rw [if_pos h, if_pos h]
  · rw [if_neg h, if_neg h, if_neg h]
theorem x_h0 {T : xS} {G : gS} {h : Nat → va_E} {b : Nat} {c : va_E} (hb : x_kd G b = (0, 0)) : (xst T G (va_up h b c)).1 b = c := by
  unfold xst
  simp only
  rw [hb, if_pos rfl, va_upS]
theorem x_up0 {T : xS} {G : gS} {h : Nat → va_E} {b : Nat} {c c' : va_E} (hb : x_kd G b = (0, 0)) : am_up (xst T G (va_up h b c)) b c' = xst T G (va_up h b c') := by
  unfold am_up xst
  refine Prod.ext ?_ rfl
  funext q
  simp only
  by_cases hq : q = b
  · subst hq
    rw [va_upS, hb, if_pos rfl, va_upS]
  · rw [va_upN hq, va_upN hq, va_upN hq]
theorem x_fin {T : xS} {G : gS} {h : Nat → va_E} {b : Nat} {c : va_E} {k : Nat × Nat} {f : Nat → Int32} (hb : x_kd G b = (0, 0)) (h1 : 172 ≤ b) (h2 : b < 172 + G.2.1) (h0 : k.1 ≠ 0) (hc : x_ce b f (T.2.1 b) (T.2.2.1 b) (T.2.2.2 b) k = c) : xst T G (va_up h b c) = xst (x_sIR T b f) (gK G b k) h := by
  unfold xst
  refine Prod.ext ?_ rfl
  funext q
  simp only
  by_cases hq : q = b
  · subst hq
    rw [hb, if_pos rfl, va_upS, kd_gKs h1 h2, if_neg h0]
    show c = x_ce q (va_up T.1 q f q) (T.2.1 q) (T.2.2.1 q) (T.2.2.2 q) k
    rw [va_upS, hc]
  · rw [kd_gK hq, va_upN hq]
    show _ = if (x_kd G q).1 = 0 then h q else x_ce q (va_up T.1 b f q) (T.2.1 q) (T.2.2.1 q) (T.2.2.2 q) (x_kd G q)
    rw [va_upN hq]
theorem xo_arr {X : Nat → va_E} {d mid pc own : Nat} {ret : Option FieldType} {L st : List Value} {T : xS} {G : gS} {h : Nat → va_E} {Q : Option Value → AmH → Prop} {n : Int32} {k q : Nat} (f : am_fe mid pc = some (own, ret, .newarray .int)) (e : ¬ (n < 0 ∨ 10000000 < n.toNatClampNeg)) (hk : n.toNatClampNeg = k) (hq : 172 + G.2.1 = q) (g : Go X d mid (pc + 2) L (.ref q :: st) (xst (x_sR T q (fun _ => 0)) (gN G (1, k) k) h) Q) : Go X d mid pc L (.int n :: st) (xst T G h) Q := by
  subst hq
  exact r_newa_int f e hk (go_heap x_pua g)
theorem xo_arq {X : Nat → va_E} {d mid pc own i : Nat} {ret : Option FieldType} {L st : List Value} {T : xS} {G : gS} {h : Nat → va_E} {Q : Option Value → AmH → Prop} {n : Int32} {k q : Nat} (f : am_fe mid pc = some (own, ret, .anewarray i)) (e : ¬ (n < 0 ∨ 10000000 < n.toNatClampNeg)) (hk : n.toNatClampNeg = k) (e2 : am_lk i (am_ct.getD own []) = some 9) (hq : 172 + G.2.1 = q) (g : Go X d mid (pc + 3) L (.ref q :: st) (xst (x_sQR T q (fun _ => none)) (gN G (5, k) k) h) Q) : Go X d mid pc L (.int n :: st) (xst T G h) Q := by
  subst hq
  exact r_anew_9 f e hk e2 (go_heap x_puq g)
theorem xo_put {X : Nat → va_E} {d mid pc own : Nat} {ret : Option FieldType} {L st : List Value} {T : xS} {G : gS} {h : Nat → va_E} {Q : Option Value → AmH → Prop} {i b ci k : Nat} {fs : List Value} {v : Value} (f : am_fe mid pc = some (own, ret, .putfield i)) (e : am_lk i (am_ft.getD own []) = some (ci, k)) (hb : x_kd G b = (0, 0)) (h1 : 172 ≤ b) (h2 : b < 172 + G.2.1) (hk : k < fs.length) (hf : fits ((am_yl.getD ci (fun _ => .int)) k) v = true) (hn : narrow ((am_yl.getD ci (fun _ => .int)) k) v = v) (hfin : (((am_cl.getD ci ("", fun _ => ("", "", "", true), 0)).2.1 k).2.2.2 = false) ∨ ((am_mn.getD mid ⟨"", "", ""⟩).name = "<init>" ∧ own = ci)) (g : Go X d mid (pc + 3) L st (xst T G (va_up h b (.inr (ci, fs.set k v)))) Q) : Go X d mid pc L (v :: .ref b :: st) (xst T G (va_up h b (.inr (ci, fs)))) Q :=
  r_putf f e (x_h0 hb) h2 (by omega) hk hf hn hfin (go_heap (x_up0 hb) g)
def bI (T : xS) (G : gS) (b : Nat) : xS × gS := (x_sIR (x_sR (x_sR (x_sR (x_sR (x_sR T (b + 1) (fun _ => 0)) (b + 2) (fun _ => 0)) (b + 3) (fun _ => 0)) (b + 4) (fun _ => 0)) (b + 5) (fun _ => 0)) b (fun _ => 0), gK (gN (gN (gN (gN (gN G (1, 16) 16) (1, 16) 16) (1, 16) 16) (1, 16) 16) (1, 6) 6) b (10, 0))
theorem bIc {X : Nat → va_E} {d b : Nat} {T : xS} {G : gS} {h : Nat → va_E} {Q : Option Value → AmH → Prop} (hb : x_kd G b = (0, 0)) (h1 : 172 ≤ b) (h2 : 172 + G.2.1 = b + 1) (hQ : Q none (xst (bI T G b).1 (bI T G b).2 h)) : Ca X d 4 [.ref b] (xst T G (va_up h b (.inr (0, [.int 0, .int 0, .int 0, .null, .null, .null, .null, .null])))) Q := by
  show Go X d 4 0 [.ref b] [] _ _
  refine r_aload_n fe_4_0 rfl ?_
  refine r_obj fe_4_1 lm_0_3 (Nat.le_of_ble_eq_true rfl) ?_
  refine r_aload_n fe_4_4 rfl ?_
  refine r_iconst (v := 0) fe_4_5 (by decide) ?_
  refine xo_put fe_4_6 lf_0_9 hb h1 (by show b < 172 + (G.2.1); omega) (Nat.le_of_ble_eq_true rfl) rfl rfl (Or.inr ⟨rfl, rfl⟩) ?_
  refine r_aload_n fe_4_9 rfl ?_
  refine r_iconst (v := 0) fe_4_10 (by decide) ?_
  refine xo_put fe_4_11 lf_0_15 hb h1 (by show b < 172 + (G.2.1); omega) (Nat.le_of_ble_eq_true rfl) rfl rfl (Or.inr ⟨rfl, rfl⟩) ?_
  refine r_aload_n fe_4_14 rfl ?_
  refine r_iconst (v := 0) fe_4_15 (by decide) ?_
  refine xo_put fe_4_16 lf_0_18 hb h1 (by show b < 172 + (G.2.1); omega) (Nat.le_of_ble_eq_true rfl) rfl rfl (Or.inr ⟨rfl, rfl⟩) ?_
  refine r_aload_n fe_4_19 rfl ?_
  refine r_bipush (v := 16) fe_4_20 (by decide) ?_
  refine xo_arr (k := 16) (q := b + 1) fe_4_22 (by decide) (by decide) (by show 172 + (G.2.1) = _; omega) ?_
  have hb1 := (kd_gN (k := (1, 16)) (m := 16) (G := G) (p := b) (by show b ≠ 172 + (G.2.1); omega)).trans hb
  refine xo_put fe_4_24 lf_0_21 hb1 h1 (by show b < 172 + (G.2.1 + 1); omega) (Nat.le_of_ble_eq_true rfl) rfl rfl (Or.inr ⟨rfl, rfl⟩) ?_
  refine r_aload_n fe_4_27 rfl ?_
  refine r_bipush (v := 16) fe_4_28 (by decide) ?_
  refine xo_arr (k := 16) (q := b + 2) fe_4_30 (by decide) (by decide) (by show 172 + (G.2.1 + 1) = _; omega) ?_
  have hb2 := (kd_gN (k := (1, 16)) (m := 16) (G := (gN G (1, 16) 16)) (p := b) (by show b ≠ 172 + (G.2.1 + 1); omega)).trans hb1
  refine xo_put fe_4_32 lf_0_25 hb2 h1 (by show b < 172 + (G.2.1 + 1 + 1); omega) (Nat.le_of_ble_eq_true rfl) rfl rfl (Or.inr ⟨rfl, rfl⟩) ?_
  refine r_aload_n fe_4_35 rfl ?_
  refine r_bipush (v := 16) fe_4_36 (by decide) ?_
  refine xo_arr (k := 16) (q := b + 3) fe_4_38 (by decide) (by decide) (by show 172 + (G.2.1 + 1 + 1) = _; omega) ?_
  have hb3 := (kd_gN (k := (1, 16)) (m := 16) (G := (gN (gN G (1, 16) 16) (1, 16) 16)) (p := b) (by show b ≠ 172 + (G.2.1 + 1 + 1); omega)).trans hb2
  refine xo_put fe_4_40 lf_0_28 hb3 h1 (by show b < 172 + (G.2.1 + 1 + 1 + 1); omega) (Nat.le_of_ble_eq_true rfl) rfl rfl (Or.inr ⟨rfl, rfl⟩) ?_
  refine r_aload_n fe_4_43 rfl ?_
  refine r_bipush (v := 16) fe_4_44 (by decide) ?_
  refine xo_arr (k := 16) (q := b + 4) fe_4_46 (by decide) (by decide) (by show 172 + (G.2.1 + 1 + 1 + 1) = _; omega) ?_
  have hb4 := (kd_gN (k := (1, 16)) (m := 16) (G := (gN (gN (gN G (1, 16) 16) (1, 16) 16) (1, 16) 16)) (p := b) (by show b ≠ 172 + (G.2.1 + 1 + 1 + 1); omega)).trans hb3
  refine xo_put fe_4_48 lf_0_31 hb4 h1 (by show b < 172 + (G.2.1 + 1 + 1 + 1 + 1); omega) (Nat.le_of_ble_eq_true rfl) rfl rfl (Or.inr ⟨rfl, rfl⟩) ?_
  refine r_aload_n fe_4_51 rfl ?_
  refine r_bipush (v := 6) fe_4_52 (by decide) ?_
  refine xo_arr (k := 6) (q := b + 5) fe_4_54 (by decide) (by decide) (by show 172 + (G.2.1 + 1 + 1 + 1 + 1) = _; omega) ?_
  have hb5 := (kd_gN (k := (1, 6)) (m := 6) (G := (gN (gN (gN (gN G (1, 16) 16) (1, 16) 16) (1, 16) 16) (1, 16) 16)) (p := b) (by show b ≠ 172 + (G.2.1 + 1 + 1 + 1 + 1); omega)).trans hb4
  refine xo_put fe_4_56 lf_0_34 hb5 h1 (by show b < 172 + (G.2.1 + 1 + 1 + 1 + 1 + 1); omega) (Nat.le_of_ble_eq_true rfl) rfl rfl (Or.inr ⟨rfl, rfl⟩) ?_
  refine r_vret fe_4_59 ?_
  refine Eq.subst (motive := fun z => Q none z) (Eq.symm ?_) hQ
  exact x_fin (f := fun _ => 0) (k := (10, 0)) hb5 h1 (by show b < 172 + (G.2.1 + 1 + 1 + 1 + 1 + 1); omega) (by decide) rfl
def x_nB (T : xS) (G : gS) : xS × gS := bI T (gN G (0, 0) 8) (172 + G.2.1)
theorem r_newB {X : Nat → va_E} {d mid pc own i j : Nat} {ret : Option FieldType} {L st : List Value} {T : xS} {G : gS} {h : Nat → va_E} {Q : Option Value → AmH → Prop} (f1 : am_fe mid pc = some (own, ret, .new i)) (f2 : am_fe mid (pc + 3) = some (own, ret, .dup)) (f3 : am_fe mid (pc + 4) = some (own, ret, .invokespecial j)) (e1 : am_lk i (am_ct.getD own []) = some 0) (e3 : am_lk j (am_ml.getD own []) = some (4, 5)) (e4 : ((.ref (172 + G.2.1) :: st).map fun v => v.category).sum ≤ 8) (g : Go X (d + 1) mid (pc + 7) L (.ref (172 + G.2.1) :: st) (xst (x_nB T G).1 (x_nB T G).2 h) Q) : Go X (d + 1) mid pc L st (xst T G h) Q := by
  refine r_new (q := am_cl.getD 0 ("", am_F0, 0)) (fs := [.int 0, .int 0, .int 0, .null, .null, .null, .null, .null]) f1 e1 rfl rfl ?_
  refine go_heap x_puo ?_
  refine r_dup f2 rfl ?_
  refine r_callI (as := []) (r := .ref (172 + G.2.1) :: st) f3 e3 (Or.inr rfl) md_4 rfl rfl (by show 1 ≤ st.length + 1 + 1; omega) e4 (Nat.le_of_ble_eq_true rfl) ?_
  exact bIc (b := 172 + G.2.1) (G := gN G (0, 0) 8) kd_gNs (by omega) (by show 172 + (G.2.1 + 1) = _; omega) g
def wI (T : xS) (G : gS) (b : Nat) : xS × gS := (x_sIR (x_sR (x_sR (x_sR (x_sR (x_sR (x_sR (x_sR (x_sR (x_sR (x_sR T (b + 1) (fun _ => 0)) (b + 2) (fun _ => 0)) (b + 3) (fun _ => 0)) (b + 4) (fun _ => 0)) (b + 5) (fun _ => 0)) (b + 6) (fun _ => 0)) (b + 7) (fun _ => 0)) (b + 8) (fun _ => 0)) (b + 9) (fun _ => 0)) (b + 10) (fun _ => 0)) b (fun _ => 0), gK (gN (gN (gN (gN (gN (gN (gN (gN (gN (gN G (1, 13) 13) (1, 13) 13) (1, 13) 13) (1, 13) 13) (1, 13) 13) (1, 13) 13) (1, 13) 13) (1, 13) 13) (1, 16) 16) (1, 6) 6) b (19, 0))
theorem wIc {X : Nat → va_E} {d b : Nat} {T : xS} {G : gS} {h : Nat → va_E} {Q : Option Value → AmH → Prop} (hb : x_kd G b = (0, 0)) (h1 : 172 ≤ b) (h2 : 172 + G.2.1 = b + 1) (hQ : Q none (xst (wI T G b).1 (wI T G b).2 h)) : Ca X d 5 [.ref b] (xst T G (va_up h b (.inr (9, [.int 0, .int 0, .int 0, .null, .null, .null, .null, .null, .null, .null, .null, .null, .null])))) Q := by
  show Go X d 5 0 [.ref b] [] _ _
  refine r_aload_n fe_5_0 rfl ?_
  refine r_obj fe_5_1 lm_9_3 (Nat.le_of_ble_eq_true rfl) ?_
  refine r_aload_n fe_5_4 rfl ?_
  refine r_iconst (v := 0) fe_5_5 (by decide) ?_
  refine xo_put fe_5_6 lf_9_9 hb h1 (by show b < 172 + (G.2.1); omega) (Nat.le_of_ble_eq_true rfl) rfl rfl (Or.inr ⟨rfl, rfl⟩) ?_
  refine r_aload_n fe_5_9 rfl ?_
  refine r_iconst (v := 0) fe_5_10 (by decide) ?_
  refine xo_put fe_5_11 lf_9_15 hb h1 (by show b < 172 + (G.2.1); omega) (Nat.le_of_ble_eq_true rfl) rfl rfl (Or.inr ⟨rfl, rfl⟩) ?_
  refine r_aload_n fe_5_14 rfl ?_
  refine r_iconst (v := 0) fe_5_15 (by decide) ?_
  refine xo_put fe_5_16 lf_9_18 hb h1 (by show b < 172 + (G.2.1); omega) (Nat.le_of_ble_eq_true rfl) rfl rfl (Or.inr ⟨rfl, rfl⟩) ?_
  refine r_aload_n fe_5_19 rfl ?_
  refine r_bipush (v := 13) fe_5_20 (by decide) ?_
  refine xo_arr (k := 13) (q := b + 1) fe_5_22 (by decide) (by decide) (by show 172 + (G.2.1) = _; omega) ?_
  have hb1 := (kd_gN (k := (1, 13)) (m := 13) (G := G) (p := b) (by show b ≠ 172 + (G.2.1); omega)).trans hb
  refine xo_put fe_5_24 lf_9_21 hb1 h1 (by show b < 172 + (G.2.1 + 1); omega) (Nat.le_of_ble_eq_true rfl) rfl rfl (Or.inr ⟨rfl, rfl⟩) ?_
  refine r_aload_n fe_5_27 rfl ?_
  refine r_bipush (v := 13) fe_5_28 (by decide) ?_
  refine xo_arr (k := 13) (q := b + 2) fe_5_30 (by decide) (by decide) (by show 172 + (G.2.1 + 1) = _; omega) ?_
  have hb2 := (kd_gN (k := (1, 13)) (m := 13) (G := (gN G (1, 13) 13)) (p := b) (by show b ≠ 172 + (G.2.1 + 1); omega)).trans hb1
  refine xo_put fe_5_32 lf_9_25 hb2 h1 (by show b < 172 + (G.2.1 + 1 + 1); omega) (Nat.le_of_ble_eq_true rfl) rfl rfl (Or.inr ⟨rfl, rfl⟩) ?_
  refine r_aload_n fe_5_35 rfl ?_
  refine r_bipush (v := 13) fe_5_36 (by decide) ?_
  refine xo_arr (k := 13) (q := b + 3) fe_5_38 (by decide) (by decide) (by show 172 + (G.2.1 + 1 + 1) = _; omega) ?_
  have hb3 := (kd_gN (k := (1, 13)) (m := 13) (G := (gN (gN G (1, 13) 13) (1, 13) 13)) (p := b) (by show b ≠ 172 + (G.2.1 + 1 + 1); omega)).trans hb2
  refine xo_put fe_5_40 lf_9_28 hb3 h1 (by show b < 172 + (G.2.1 + 1 + 1 + 1); omega) (Nat.le_of_ble_eq_true rfl) rfl rfl (Or.inr ⟨rfl, rfl⟩) ?_
  refine r_aload_n fe_5_43 rfl ?_
  refine r_bipush (v := 13) fe_5_44 (by decide) ?_
  refine xo_arr (k := 13) (q := b + 4) fe_5_46 (by decide) (by decide) (by show 172 + (G.2.1 + 1 + 1 + 1) = _; omega) ?_
  have hb4 := (kd_gN (k := (1, 13)) (m := 13) (G := (gN (gN (gN G (1, 13) 13) (1, 13) 13) (1, 13) 13)) (p := b) (by show b ≠ 172 + (G.2.1 + 1 + 1 + 1); omega)).trans hb3
  refine xo_put fe_5_48 lf_9_31 hb4 h1 (by show b < 172 + (G.2.1 + 1 + 1 + 1 + 1); omega) (Nat.le_of_ble_eq_true rfl) rfl rfl (Or.inr ⟨rfl, rfl⟩) ?_
  refine r_aload_n fe_5_51 rfl ?_
  refine r_bipush (v := 13) fe_5_52 (by decide) ?_
  refine xo_arr (k := 13) (q := b + 5) fe_5_54 (by decide) (by decide) (by show 172 + (G.2.1 + 1 + 1 + 1 + 1) = _; omega) ?_
  have hb5 := (kd_gN (k := (1, 13)) (m := 13) (G := (gN (gN (gN (gN G (1, 13) 13) (1, 13) 13) (1, 13) 13) (1, 13) 13)) (p := b) (by show b ≠ 172 + (G.2.1 + 1 + 1 + 1 + 1); omega)).trans hb4
  refine xo_put fe_5_56 lf_9_34 hb5 h1 (by show b < 172 + (G.2.1 + 1 + 1 + 1 + 1 + 1); omega) (Nat.le_of_ble_eq_true rfl) rfl rfl (Or.inr ⟨rfl, rfl⟩) ?_
  refine r_aload_n fe_5_59 rfl ?_
  refine r_bipush (v := 13) fe_5_60 (by decide) ?_
  refine xo_arr (k := 13) (q := b + 6) fe_5_62 (by decide) (by decide) (by show 172 + (G.2.1 + 1 + 1 + 1 + 1 + 1) = _; omega) ?_
  have hb6 := (kd_gN (k := (1, 13)) (m := 13) (G := (gN (gN (gN (gN (gN G (1, 13) 13) (1, 13) 13) (1, 13) 13) (1, 13) 13) (1, 13) 13)) (p := b) (by show b ≠ 172 + (G.2.1 + 1 + 1 + 1 + 1 + 1); omega)).trans hb5
  refine xo_put fe_5_64 lf_9_37 hb6 h1 (by show b < 172 + (G.2.1 + 1 + 1 + 1 + 1 + 1 + 1); omega) (Nat.le_of_ble_eq_true rfl) rfl rfl (Or.inr ⟨rfl, rfl⟩) ?_
  refine r_aload_n fe_5_67 rfl ?_
  refine r_bipush (v := 13) fe_5_68 (by decide) ?_
  refine xo_arr (k := 13) (q := b + 7) fe_5_70 (by decide) (by decide) (by show 172 + (G.2.1 + 1 + 1 + 1 + 1 + 1 + 1) = _; omega) ?_
  have hb7 := (kd_gN (k := (1, 13)) (m := 13) (G := (gN (gN (gN (gN (gN (gN G (1, 13) 13) (1, 13) 13) (1, 13) 13) (1, 13) 13) (1, 13) 13) (1, 13) 13)) (p := b) (by show b ≠ 172 + (G.2.1 + 1 + 1 + 1 + 1 + 1 + 1); omega)).trans hb6
  refine xo_put fe_5_72 lf_9_40 hb7 h1 (by show b < 172 + (G.2.1 + 1 + 1 + 1 + 1 + 1 + 1 + 1); omega) (Nat.le_of_ble_eq_true rfl) rfl rfl (Or.inr ⟨rfl, rfl⟩) ?_
  refine r_aload_n fe_5_75 rfl ?_
  refine r_bipush (v := 13) fe_5_76 (by decide) ?_
  refine xo_arr (k := 13) (q := b + 8) fe_5_78 (by decide) (by decide) (by show 172 + (G.2.1 + 1 + 1 + 1 + 1 + 1 + 1 + 1) = _; omega) ?_
  have hb8 := (kd_gN (k := (1, 13)) (m := 13) (G := (gN (gN (gN (gN (gN (gN (gN G (1, 13) 13) (1, 13) 13) (1, 13) 13) (1, 13) 13) (1, 13) 13) (1, 13) 13) (1, 13) 13)) (p := b) (by show b ≠ 172 + (G.2.1 + 1 + 1 + 1 + 1 + 1 + 1 + 1); omega)).trans hb7
  refine xo_put fe_5_80 lf_9_43 hb8 h1 (by show b < 172 + (G.2.1 + 1 + 1 + 1 + 1 + 1 + 1 + 1 + 1); omega) (Nat.le_of_ble_eq_true rfl) rfl rfl (Or.inr ⟨rfl, rfl⟩) ?_
  refine r_aload_n fe_5_83 rfl ?_
  refine r_bipush (v := 16) fe_5_84 (by decide) ?_
  refine xo_arr (k := 16) (q := b + 9) fe_5_86 (by decide) (by decide) (by show 172 + (G.2.1 + 1 + 1 + 1 + 1 + 1 + 1 + 1 + 1) = _; omega) ?_
  have hb9 := (kd_gN (k := (1, 16)) (m := 16) (G := (gN (gN (gN (gN (gN (gN (gN (gN G (1, 13) 13) (1, 13) 13) (1, 13) 13) (1, 13) 13) (1, 13) 13) (1, 13) 13) (1, 13) 13) (1, 13) 13)) (p := b) (by show b ≠ 172 + (G.2.1 + 1 + 1 + 1 + 1 + 1 + 1 + 1 + 1); omega)).trans hb8
  refine xo_put fe_5_88 lf_9_46 hb9 h1 (by show b < 172 + (G.2.1 + 1 + 1 + 1 + 1 + 1 + 1 + 1 + 1 + 1); omega) (Nat.le_of_ble_eq_true rfl) rfl rfl (Or.inr ⟨rfl, rfl⟩) ?_
  refine r_aload_n fe_5_91 rfl ?_
  refine r_bipush (v := 6) fe_5_92 (by decide) ?_
  refine xo_arr (k := 6) (q := b + 10) fe_5_94 (by decide) (by decide) (by show 172 + (G.2.1 + 1 + 1 + 1 + 1 + 1 + 1 + 1 + 1 + 1) = _; omega) ?_
  have hb10 := (kd_gN (k := (1, 6)) (m := 6) (G := (gN (gN (gN (gN (gN (gN (gN (gN (gN G (1, 13) 13) (1, 13) 13) (1, 13) 13) (1, 13) 13) (1, 13) 13) (1, 13) 13) (1, 13) 13) (1, 13) 13) (1, 16) 16)) (p := b) (by show b ≠ 172 + (G.2.1 + 1 + 1 + 1 + 1 + 1 + 1 + 1 + 1 + 1); omega)).trans hb9
  refine xo_put fe_5_96 lf_9_49 hb10 h1 (by show b < 172 + (G.2.1 + 1 + 1 + 1 + 1 + 1 + 1 + 1 + 1 + 1 + 1); omega) (Nat.le_of_ble_eq_true rfl) rfl rfl (Or.inr ⟨rfl, rfl⟩) ?_
  refine r_vret fe_5_99 ?_
  refine Eq.subst (motive := fun z => Q none z) (Eq.symm ?_) hQ
  exact x_fin (f := fun _ => 0) (k := (19, 0)) hb10 h1 (by show b < 172 + (G.2.1 + 1 + 1 + 1 + 1 + 1 + 1 + 1 + 1 + 1 + 1); omega) (by decide) rfl
def x_nW (T : xS) (G : gS) : xS × gS := wI T (gN G (0, 0) 13) (172 + G.2.1)
theorem r_newW {X : Nat → va_E} {d mid pc own i j : Nat} {ret : Option FieldType} {L st : List Value} {T : xS} {G : gS} {h : Nat → va_E} {Q : Option Value → AmH → Prop} (f1 : am_fe mid pc = some (own, ret, .new i)) (f2 : am_fe mid (pc + 3) = some (own, ret, .dup)) (f3 : am_fe mid (pc + 4) = some (own, ret, .invokespecial j)) (e1 : am_lk i (am_ct.getD own []) = some 9) (e3 : am_lk j (am_ml.getD own []) = some (5, 5)) (e4 : ((.ref (172 + G.2.1) :: st).map fun v => v.category).sum ≤ 8) (g : Go X (d + 1) mid (pc + 7) L (.ref (172 + G.2.1) :: st) (xst (x_nW T G).1 (x_nW T G).2 h) Q) : Go X (d + 1) mid pc L st (xst T G h) Q := by
  refine r_new (q := am_cl.getD 9 ("", am_F0, 0)) (fs := [.int 0, .int 0, .int 0, .null, .null, .null, .null, .null, .null, .null, .null, .null, .null]) f1 e1 rfl rfl ?_
  refine go_heap x_puo ?_
  refine r_dup f2 rfl ?_
  refine r_callI (as := []) (r := .ref (172 + G.2.1) :: st) f3 e3 (Or.inr rfl) md_5 rfl rfl (by show 1 ≤ st.length + 1 + 1; omega) e4 (Nat.le_of_ble_eq_true rfl) ?_
  exact wIc (b := 172 + G.2.1) (G := gN G (0, 0) 13) kd_gNs (by omega) (by show 172 + (G.2.1 + 1) = _; omega) g
def pI (T : xS) (G : gS) (b : Nat) : xS × gS := (x_sIR (x_sQR T (b + 1) (fun _ => none)) b (fun _ => 0), gK (gN G (5, 20) 20) b (14, 0))
theorem pIc {X : Nat → va_E} {d b : Nat} {T : xS} {G : gS} {h : Nat → va_E} {Q : Option Value → AmH → Prop} (hb : x_kd G b = (0, 0)) (h1 : 172 ≤ b) (h2 : 172 + G.2.1 = b + 1) (hQ : Q none (xst (pI T G b).1 (pI T G b).2 h)) : Ca X d 8 [.ref b] (xst T G (va_up h b (.inr (4, [.null, .int 0, .int 0])))) Q := by
  show Go X d 8 0 [.ref b] [] _ _
  refine r_aload_n fe_8_0 rfl ?_
  refine r_obj fe_8_1 lm_4_3 (Nat.le_of_ble_eq_true rfl) ?_
  refine r_aload_n fe_8_4 rfl ?_
  refine r_bipush (v := 20) fe_8_5 (by decide) ?_
  refine xo_arq (k := 20) (q := b + 1) fe_8_7 (by decide) (by decide) (by decide +kernel) (by show 172 + (G.2.1) = _; omega) ?_
  have hb1 := (kd_gN (k := (5, 20)) (m := 20) (G := G) (p := b) (by show b ≠ 172 + (G.2.1); omega)).trans hb
  refine xo_put fe_8_10 lf_4_11 hb1 h1 (by show b < 172 + (G.2.1 + 1); omega) (Nat.le_of_ble_eq_true rfl) rfl rfl (Or.inr ⟨rfl, rfl⟩) ?_
  refine r_aload_n fe_8_13 rfl ?_
  refine r_iconst (v := 0) fe_8_14 (by decide) ?_
  refine xo_put fe_8_15 lf_4_17 hb1 h1 (by show b < 172 + (G.2.1 + 1); omega) (Nat.le_of_ble_eq_true rfl) rfl rfl (Or.inr ⟨rfl, rfl⟩) ?_
  refine r_aload_n fe_8_18 rfl ?_
  refine r_iconst (v := 0) fe_8_19 (by decide) ?_
  refine xo_put fe_8_20 lf_4_21 hb1 h1 (by show b < 172 + (G.2.1 + 1); omega) (Nat.le_of_ble_eq_true rfl) rfl rfl (Or.inr ⟨rfl, rfl⟩) ?_
  refine r_vret fe_8_23 ?_
  refine Eq.subst (motive := fun z => Q none z) (Eq.symm ?_) hQ
  exact x_fin (f := fun _ => 0) (k := (14, 0)) hb1 h1 (by show b < 172 + (G.2.1 + 1); omega) (by decide) rfl
def x_nP (T : xS) (G : gS) : xS × gS := pI T (gN G (0, 0) 3) (172 + G.2.1)
theorem r_newP {X : Nat → va_E} {d mid pc own i j : Nat} {ret : Option FieldType} {L st : List Value} {T : xS} {G : gS} {h : Nat → va_E} {Q : Option Value → AmH → Prop} (f1 : am_fe mid pc = some (own, ret, .new i)) (f2 : am_fe mid (pc + 3) = some (own, ret, .dup)) (f3 : am_fe mid (pc + 4) = some (own, ret, .invokespecial j)) (e1 : am_lk i (am_ct.getD own []) = some 4) (e3 : am_lk j (am_ml.getD own []) = some (8, 5)) (e4 : ((.ref (172 + G.2.1) :: st).map fun v => v.category).sum ≤ 8) (g : Go X (d + 1) mid (pc + 7) L (.ref (172 + G.2.1) :: st) (xst (x_nP T G).1 (x_nP T G).2 h) Q) : Go X (d + 1) mid pc L st (xst T G h) Q := by
  refine r_new (q := am_cl.getD 4 ("", am_F0, 0)) (fs := [.null, .int 0, .int 0]) f1 e1 rfl rfl ?_
  refine go_heap x_puo ?_
  refine r_dup f2 rfl ?_
  refine r_callI (as := []) (r := .ref (172 + G.2.1) :: st) f3 e3 (Or.inr rfl) md_8 rfl rfl (by show 1 ≤ st.length + 1 + 1; omega) e4 (Nat.le_of_ble_eq_true rfl) ?_
  exact pIc (b := 172 + G.2.1) (G := gN G (0, 0) 3) kd_gNs (by omega) (by show 172 + (G.2.1 + 1) = _; omega) g
def vA (T : xS) (G : gS) : xS × gS := x_nB T G
def vBq (T : xS) (G : gS) : xS × gS := x_nW (vA T G).1 (vA T G).2
def vC (T : xS) (G : gS) : xS × gS := x_nP (vBq T G).1 (vBq T G).2
def vI (T : xS) (G : gS) (b : Nat) : xS × gS := (x_sIR (vC T G).1 b (fun k => if k = 3 then -1 else 0), gK (vC T G).2 b (20, 0))
theorem kd_nB {T : xS} {G : gS} {p : Nat} (h : p < 172 + G.2.1) : x_kd (x_nB T G).2 p = x_kd G p := (((((((kd_gK (by omega)).trans (kd_gN (G := (gN (gN (gN (gN (gN G (0, 0) 8) (1, 16) 16) (1, 16) 16) (1, 16) 16) (1, 16) 16)) (k := (1, 6)) (m := 6) (by show p ≠ 172 + (G.2.1 + 1 + 1 + 1 + 1 + 1); omega))).trans (kd_gN (G := (gN (gN (gN (gN G (0, 0) 8) (1, 16) 16) (1, 16) 16) (1, 16) 16)) (k := (1, 16)) (m := 16) (by show p ≠ 172 + (G.2.1 + 1 + 1 + 1 + 1); omega))).trans (kd_gN (G := (gN (gN (gN G (0, 0) 8) (1, 16) 16) (1, 16) 16)) (k := (1, 16)) (m := 16) (by show p ≠ 172 + (G.2.1 + 1 + 1 + 1); omega))).trans (kd_gN (G := (gN (gN G (0, 0) 8) (1, 16) 16)) (k := (1, 16)) (m := 16) (by show p ≠ 172 + (G.2.1 + 1 + 1); omega))).trans (kd_gN (G := (gN G (0, 0) 8)) (k := (1, 16)) (m := 16) (by show p ≠ 172 + (G.2.1 + 1); omega))).trans (kd_gN (G := G) (k := (0, 0)) (m := 8) (by show p ≠ 172 + (G.2.1); omega)))
theorem kd_nW {T : xS} {G : gS} {p : Nat} (h : p < 172 + G.2.1) : x_kd (x_nW T G).2 p = x_kd G p := ((((((((((((kd_gK (by omega)).trans (kd_gN (G := (gN (gN (gN (gN (gN (gN (gN (gN (gN (gN G (0, 0) 13) (1, 13) 13) (1, 13) 13) (1, 13) 13) (1, 13) 13) (1, 13) 13) (1, 13) 13) (1, 13) 13) (1, 13) 13) (1, 16) 16)) (k := (1, 6)) (m := 6) (by show p ≠ 172 + (G.2.1 + 1 + 1 + 1 + 1 + 1 + 1 + 1 + 1 + 1 + 1); omega))).trans (kd_gN (G := (gN (gN (gN (gN (gN (gN (gN (gN (gN G (0, 0) 13) (1, 13) 13) (1, 13) 13) (1, 13) 13) (1, 13) 13) (1, 13) 13) (1, 13) 13) (1, 13) 13) (1, 13) 13)) (k := (1, 16)) (m := 16) (by show p ≠ 172 + (G.2.1 + 1 + 1 + 1 + 1 + 1 + 1 + 1 + 1 + 1); omega))).trans (kd_gN (G := (gN (gN (gN (gN (gN (gN (gN (gN G (0, 0) 13) (1, 13) 13) (1, 13) 13) (1, 13) 13) (1, 13) 13) (1, 13) 13) (1, 13) 13) (1, 13) 13)) (k := (1, 13)) (m := 13) (by show p ≠ 172 + (G.2.1 + 1 + 1 + 1 + 1 + 1 + 1 + 1 + 1); omega))).trans (kd_gN (G := (gN (gN (gN (gN (gN (gN (gN G (0, 0) 13) (1, 13) 13) (1, 13) 13) (1, 13) 13) (1, 13) 13) (1, 13) 13) (1, 13) 13)) (k := (1, 13)) (m := 13) (by show p ≠ 172 + (G.2.1 + 1 + 1 + 1 + 1 + 1 + 1 + 1); omega))).trans (kd_gN (G := (gN (gN (gN (gN (gN (gN G (0, 0) 13) (1, 13) 13) (1, 13) 13) (1, 13) 13) (1, 13) 13) (1, 13) 13)) (k := (1, 13)) (m := 13) (by show p ≠ 172 + (G.2.1 + 1 + 1 + 1 + 1 + 1 + 1); omega))).trans (kd_gN (G := (gN (gN (gN (gN (gN G (0, 0) 13) (1, 13) 13) (1, 13) 13) (1, 13) 13) (1, 13) 13)) (k := (1, 13)) (m := 13) (by show p ≠ 172 + (G.2.1 + 1 + 1 + 1 + 1 + 1); omega))).trans (kd_gN (G := (gN (gN (gN (gN G (0, 0) 13) (1, 13) 13) (1, 13) 13) (1, 13) 13)) (k := (1, 13)) (m := 13) (by show p ≠ 172 + (G.2.1 + 1 + 1 + 1 + 1); omega))).trans (kd_gN (G := (gN (gN (gN G (0, 0) 13) (1, 13) 13) (1, 13) 13)) (k := (1, 13)) (m := 13) (by show p ≠ 172 + (G.2.1 + 1 + 1 + 1); omega))).trans (kd_gN (G := (gN (gN G (0, 0) 13) (1, 13) 13)) (k := (1, 13)) (m := 13) (by show p ≠ 172 + (G.2.1 + 1 + 1); omega))).trans (kd_gN (G := (gN G (0, 0) 13)) (k := (1, 13)) (m := 13) (by show p ≠ 172 + (G.2.1 + 1); omega))).trans (kd_gN (G := G) (k := (0, 0)) (m := 13) (by show p ≠ 172 + (G.2.1); omega)))
theorem kd_nP {T : xS} {G : gS} {p : Nat} (h : p < 172 + G.2.1) : x_kd (x_nP T G).2 p = x_kd G p := (((kd_gK (by omega)).trans (kd_gN (G := (gN G (0, 0) 3)) (k := (5, 20)) (m := 20) (by show p ≠ 172 + (G.2.1 + 1); omega))).trans (kd_gN (G := G) (k := (0, 0)) (m := 3) (by show p ≠ 172 + (G.2.1); omega)))
theorem vIc {X : Nat → va_E} {d b : Nat} {T : xS} {G : gS} {h : Nat → va_E} {Q : Option Value → AmH → Prop} (hb : x_kd G b = (0, 0)) (h1 : 172 ≤ b) (h2 : 172 + G.2.1 = b + 1) (hQ : Q none (xst (vI T G b).1 (vI T G b).2 h)) : Ca X (d + 1) 7 [.ref b] (xst T G (va_up h b (.inr (10, [.null, .null, .null, .int 0, .int 0])))) Q := by
  show Go X (d + 1) 7 0 [.ref b] [] _ _
  have hA : x_kd (vA T G).2 b = (0, 0) := (kd_nB (by omega)).trans hb
  have hB : x_kd (vBq T G).2 b = (0, 0) := (kd_nW (by show b < 172 + (G.2.1 + 1 + 1 + 1 + 1 + 1 + 1); omega)).trans hA
  have hC : x_kd (vC T G).2 b = (0, 0) := (kd_nP (by show b < 172 + (G.2.1 + 1 + 1 + 1 + 1 + 1 + 1 + 1 + 1 + 1 + 1 + 1 + 1 + 1 + 1 + 1 + 1 + 1); omega)).trans hB
  have lA : 172 + (x_nB T G).2.2.1 = b + 7 := by show 172 + (G.2.1 + 1 + 1 + 1 + 1 + 1 + 1) = _; omega
  have lB : 172 + (x_nW (x_nB T G).1 (x_nB T G).2).2.2.1 = b + 18 := by show 172 + (G.2.1 + 1 + 1 + 1 + 1 + 1 + 1 + 1 + 1 + 1 + 1 + 1 + 1 + 1 + 1 + 1 + 1 + 1) = _; omega
  have lC : 172 + (x_nP (x_nW (x_nB T G).1 (x_nB T G).2).1 (x_nW (x_nB T G).1 (x_nB T G).2).2).2.2.1 = b + 20 := by show 172 + (G.2.1 + 1 + 1 + 1 + 1 + 1 + 1 + 1 + 1 + 1 + 1 + 1 + 1 + 1 + 1 + 1 + 1 + 1 + 1 + 1) = _; omega
  refine r_aload_n fe_7_0 rfl ?_
  refine r_obj fe_7_1 lm_10_3 (Nat.le_of_ble_eq_true rfl) ?_
  refine r_aload_n fe_7_4 rfl ?_
  refine r_newB fe_7_5 fe_7_8 fe_7_9 (by decide +kernel) lm_10_11 (Nat.le_of_ble_eq_true rfl) ?_
  rw [h2]
  refine xo_put fe_7_12 lf_10_12 hA h1 (by omega) (Nat.le_of_ble_eq_true rfl) rfl rfl (Or.inr ⟨rfl, rfl⟩) ?_
  refine r_aload_n fe_7_15 rfl ?_
  refine r_newW fe_7_16 fe_7_19 fe_7_20 (by decide +kernel) lm_10_20 (Nat.le_of_ble_eq_true rfl) ?_
  rw [lA]
  refine xo_put fe_7_23 lf_10_21 hB h1 (by omega) (Nat.le_of_ble_eq_true rfl) rfl rfl (Or.inr ⟨rfl, rfl⟩) ?_
  refine r_aload_n fe_7_26 rfl ?_
  refine r_newP fe_7_27 fe_7_30 fe_7_31 (by decide +kernel) lm_10_27 (Nat.le_of_ble_eq_true rfl) ?_
  rw [lB]
  refine xo_put fe_7_34 lf_10_28 hC h1 (by omega) (Nat.le_of_ble_eq_true rfl) rfl rfl (Or.inr ⟨rfl, rfl⟩) ?_
  refine r_aload_n fe_7_37 rfl ?_
  refine r_iconst (v := -1) fe_7_38 (by decide) ?_
  refine xo_put fe_7_39 lf_10_32 hC h1 (by omega) (Nat.le_of_ble_eq_true rfl) rfl rfl (Or.inr ⟨rfl, rfl⟩) ?_
  refine r_aload_n fe_7_42 rfl ?_
  refine r_iconst (v := 0) fe_7_43 (by decide) ?_
  refine xo_put fe_7_44 lf_10_36 hC h1 (by omega) (Nat.le_of_ble_eq_true rfl) rfl rfl (Or.inr ⟨rfl, rfl⟩) ?_
  refine r_vret fe_7_47 ?_
  refine Eq.subst (motive := fun z => Q none z) (Eq.symm ?_) hQ
  exact x_fin (f := fun k => if k = 3 then -1 else 0) (k := (20, 0)) hC h1 (by show b < 172 + (x_nP (x_nW (x_nB T G).1 (x_nB T G).2).1 (x_nW (x_nB T G).1 (x_nB T G).2).2).2.2.1; omega) (by decide) rfl
def x_nV (T : xS) (G : gS) : xS × gS := vI T (gN G (0, 0) 5) (172 + G.2.1)
theorem r_newV {X : Nat → va_E} {d mid pc own i j : Nat} {ret : Option FieldType} {L st : List Value} {T : xS} {G : gS} {h : Nat → va_E} {Q : Option Value → AmH → Prop} (f1 : am_fe mid pc = some (own, ret, .new i)) (f2 : am_fe mid (pc + 3) = some (own, ret, .dup)) (f3 : am_fe mid (pc + 4) = some (own, ret, .invokespecial j)) (e1 : am_lk i (am_ct.getD own []) = some 10) (e3 : am_lk j (am_ml.getD own []) = some (7, 5)) (e4 : ((.ref (172 + G.2.1) :: st).map fun v => v.category).sum ≤ 8) (g : Go X (d + 2) mid (pc + 7) L (.ref (172 + G.2.1) :: st) (xst (x_nV T G).1 (x_nV T G).2 h) Q) : Go X (d + 2) mid pc L st (xst T G h) Q := by
  refine r_new (q := am_cl.getD 10 ("", am_F0, 0)) (fs := [.null, .null, .null, .int 0, .int 0]) f1 e1 rfl rfl ?_
  refine go_heap x_puo ?_
  refine r_dup f2 rfl ?_
  refine r_callI (as := []) (r := .ref (172 + G.2.1) :: st) f3 e3 (Or.inr rfl) md_7 rfl rfl (by show 1 ≤ st.length + 1 + 1; omega) e4 (Nat.le_of_ble_eq_true rfl) ?_
  exact vIc (b := 172 + G.2.1) (G := gN G (0, 0) 5) kd_gNs (by omega) (by show 172 + (G.2.1 + 1) = _; omega) g
def lI (T : xS) (G : gS) (k : Nat) : xS × gS := (x_sIR (x_sR (x_sR T (172 + G.2.1 + 1) (fun _ => 0)) (172 + G.2.1 + 1) (va_cpy (T.2.1 86) (fun _ => 0) 0 0 k)) (172 + G.2.1) (fun _ => 0), gK (gN (gN G (0, 0) 1) (1, k) k) (172 + G.2.1) (11, 0))
def G69 (_ : Nat) (U : xS × gS) : Option (Nat × (xS × gS)) := if ¬ U.1.1 85 1 < 0 ∧ U.1.1 85 1 < 400 then some (172 + U.2.2.1, lI U.1 U.2 (U.1.1 85 1).toNatClampNeg) else none
theorem i32_lt {a : Int32} (h0 : ¬ a < 0) (h : a < 400) : a.toNatClampNeg < 400 := by
  have h1 : a.toInt < (400 : Int32).toInt := Int32.lt_iff_toInt_lt.mp h
  have h2 : ¬ a.toInt < (0 : Int32).toInt := fun z => h0 (Int32.lt_iff_toInt_lt.mpr z)
  have e1 : (400 : Int32).toInt = 400 := by decide
  have e0 : (0 : Int32).toInt = 0 := by decide
  rw [e1] at h1
  rw [e0] at h2
  show a.toInt.toNat < 400
  omega
theorem G69c {xs : Nat → Int32} {L9 d : Nat} {h : Nat → va_E} {n : Nat} {Q : Option Value → AmH → Prop} {r0 : Nat} {U0 U : xS × gS} (hf : G69 n U = some (r0, U0)) (hQ : Q (some (.ref r0)) (xst U0.1 U0.2 h)) : Ca (am_X xs L9) (d + 1) 69 [.ref 85] (xst U.1 U.2 h) Q := by
  obtain ⟨T, G⟩ := U
  unfold G69 at hf
  simp only at hf
  by_cases hc : ¬ T.1 85 1 < 0 ∧ T.1 85 1 < 400
  rotate_left
  · rw [if_neg hc] at hf; cases hf
  rw [if_pos hc] at hf
  cases hf
  have hk := i32_lt hc.1 hc.2
  show Go (am_X xs L9) (d + 1) 69 0 [.ref 85] [] (xst T G h) Q
  refine r_new (ci := 1) (q := am_cl.getD 1 ("", am_F0, 0)) (fs := [.null]) fe_69_0 (by decide +kernel) rfl rfl ?_
  refine go_heap x_puo ?_
  refine r_dup fe_69_3 rfl ?_
  refine r_aload_n fe_69_4 rfl ?_
  refine r_getf (v := .ref 86) fe_69_5 lf_6_9 (x_c xk_85 (by decide)) (x_lt xk_85 (by decide)) rfl ?_
  refine r_aload_n fe_69_8 rfl ?_
  refine r_getf (v := .int (T.1 85 1)) fe_69_9 lf_6_15 (x_c xk_85 (by decide)) (x_lt xk_85 (by decide)) rfl ?_
  refine r_callS (as := [.ref 86, .int (T.1 85 1)]) (r := [.ref (172 + G.2.1), .ref (172 + G.2.1)]) fe_69_12 lm_6_24 md_70 rfl rfl (Nat.le_of_ble_eq_true rfl) (Nat.le_of_ble_eq_true rfl) (Nat.le_of_ble_eq_true rfl) ?_
  show Go (am_X xs L9) d 70 0 [.ref 86, .int (T.1 85 1), .float 0] [] _ _
  have hne : ¬ am_ic .eq (T.1 85 1) 400 = true := by
    intro z
    have : T.1 85 1 = 400 := by simpa [am_ic] using z
    rw [this] at hc
    exact absurd hc.2 (by decide)
  have hne' : am_ic .ne (T.1 85 1) 400 = true := by
    by_cases z : T.1 85 1 = 400
    · rw [z] at hc; exact absurd hc.2 (by decide)
    · simpa [am_ic] using z
  refine r_iload_n fe_70_0 rfl ?_
  refine r_aload_n fe_70_1 rfl ?_
  refine r_alen (v := 400) fe_70_2 (x_c xk_86 (by decide)) (x_lt xk_86 (by decide)) (by decide) (by decide) ?_
  refine r_ic_t (t := 14) fe_70_3 (by decide) hne' ?_
  refine r_iload_n fe_70_14 rfl ?_
  refine xo_arr (k := (T.1 85 1).toNatClampNeg) (q := 172 + G.2.1 + 1) fe_70_15 (by intro z; rcases z with z | z; exact hc.1 z; omega) rfl (by show 172 + (G.2.1 + 1) = _; omega) ?_
  refine r_astore_n fe_70_17 (Nat.le_of_ble_eq_true rfl) rfl ?_
  refine r_aload_n fe_70_18 rfl ?_
  refine r_iconst (v := 0) fe_70_19 (by decide) ?_
  refine r_aload_n fe_70_20 rfl ?_
  refine r_iconst (v := 0) fe_70_21 (by decide) ?_
  refine r_aload_n fe_70_22 rfl ?_
  refine r_alen (v := 400) fe_70_23 (x_c xk_86 (by decide)) (x_lt xk_86 (by decide)) (by decide) (by decide) ?_
  refine r_iload_n fe_70_24 rfl ?_
  refine r_min (v := T.1 85 1) fe_70_25 lm_17_304 (Nat.le_of_ble_eq_true rfl) (if_pos hc.2) ?_
  have hkq : x_kd (gN (gN G (0, 0) 1) (1, (T.1 85 1).toNatClampNeg) (T.1 85 1).toNatClampNeg) (172 + G.2.1 + 1) = (1, (T.1 85 1).toNatClampNeg) := by
    have := kd_gNs (G := gN G (0, 0) 1) (k := (1, (T.1 85 1).toNatClampNeg)) (m := (T.1 85 1).toNatClampNeg)
    exact this
  refine r_copy (a := T.2.1 86) (b := (fun _ => 0)) (sp := 0) (dp := 0) (n := (T.1 85 1).toNatClampNeg) (n0 := 400) (n1 := (T.1 85 1).toNatClampNeg) fe_70_28 lm_17_150 ?_ ?_ (x_lt hkq (by show (1 : Nat) ≠ 0; decide)) (by omega) (x_lt xk_86 (by decide)) (by decide) (by decide) hc.1 (by decide) (by decide) rfl (by omega) (by omega) (Nat.le_of_ble_eq_true rfl) ?_
  · rw [x_c xk_86 (by decide)]
    show (Sum.inl (0, 400, Sum.inl (va_up T.2.1 (172 + G.2.1 + 1) (fun _ => 0) 86)) : va_E) = _
    rw [va_upN (by omega)]
  · refine (x_h hkq (Nat.succ_ne_zero _)).trans ?_
    show x_ce _ _ (va_up T.2.1 (172 + G.2.1 + 1) (fun _ => 0) (172 + G.2.1 + 1)) _ _ _ = _
    rw [va_upS]
    rfl
  refine go_heap (x_uC hkq) ?_
  refine r_aload_n fe_70_31 rfl ?_
  refine r_aretA fe_70_32 ?_
  refine r_callI (as := [.ref (172 + G.2.1 + 1)]) (r := [.ref (172 + G.2.1)]) fe_69_15 lm_6_30 (Or.inl rfl) md_72 rfl rfl (Nat.le_of_ble_eq_true rfl) (Nat.le_of_ble_eq_true rfl) (Nat.le_of_ble_eq_true rfl) ?_
  show Go (am_X xs L9) d 72 0 [.ref (172 + G.2.1), .ref (172 + G.2.1 + 1)] [] _ _
  have hq0 : x_kd (gN (gN G (0, 0) 1) (1, (T.1 85 1).toNatClampNeg) (T.1 85 1).toNatClampNeg) (172 + G.2.1) = (0, 0) := (kd_gN (by show 172 + G.2.1 ≠ 172 + (G.2.1 + 1); omega)).trans kd_gNs
  refine r_aload_n fe_72_0 rfl ?_
  refine r_obj fe_72_1 lm_1_1 (Nat.le_of_ble_eq_true rfl) ?_
  refine r_aload_n fe_72_4 rfl ?_
  refine r_aload_n fe_72_5 rfl ?_
  refine xo_put fe_72_6 lf_1_7 hq0 (by omega) (by show 172 + G.2.1 < 172 + (G.2.1 + 1 + 1); omega) (Nat.le_of_ble_eq_true rfl) rfl rfl (Or.inr ⟨rfl, rfl⟩) ?_
  refine r_vret fe_72_9 ?_
  refine r_aretO fe_69_18 ?_
  refine Eq.subst (motive := fun z => Q (some (.ref (172 + G.2.1))) z) (Eq.symm ?_) hQ
  exact x_fin (f := fun _ => 0) (k := (11, 0)) hq0 (by omega) (by show 172 + G.2.1 < 172 + (G.2.1 + 1 + 1); omega) (by decide) rfl
theorem lct_4_9 : am_lk 9 (am_ct.getD 4 []) = some 9 := by decide +kernel
theorem lct_11_40 : am_lk 40 (am_ct.getD 11 []) = some 10 := by decide +kernel
