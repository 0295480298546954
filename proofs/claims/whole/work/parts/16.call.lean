theorem am_good {ws : List Cond} (h : ∀ w ∈ ws, w ∈ am_T) : GoodIn am_T ws := fun w hw => ⟨h w hw, good_of_word (List.mem_filter.mp (h w hw)).2⟩
theorem am_mn_some {mid : Nat} (h : mid < 267) : ∃ y, am_mn[mid]? = some y ∧ am_mn.getD mid ⟨"", "", ""⟩ = y := by
  have h1 : mid < am_mn.length := Nat.lt_of_lt_of_le h (by decide +kernel)
  exact ⟨am_mn[mid], List.getElem?_eq_getElem h1, by rw [List.getD_eq_getElem?_getD, List.getElem?_eq_getElem h1]; rfl⟩
/-- what the tables give of a called method, by the kind of the call -/
def am_Cal (own i m' : Nat) (q : Nat × ByteArray × Nat × Option FieldType × Nat) (y : MethodName) : Prop :=
  am_mn[m']? = some y ∧ m' < 267 ∧ m' ≠ 1 ∧ m' ≠ 71 ∧ (Cond.initialized y.cls) ∈ am_T ∧ y.cls = am_cn.getD q.1 "" ∧ q.2.2.1 ≤ 40 ∧ (y.cls ≠ "java/lang/invoke/MethodHandle" ∧ y.cls ≠ "java/lang/invoke/VarHandle")
theorem am_ml_0 {own i m' : Nat} {q : Nat × ByteArray × Nat × Option FieldType × Nat} (h : am_lk i (am_ml.getD own []) = some (m', 0)) (hq : am_md[m']? = some q) : ∃ y, am_Cal own i m' q y ∧ (Cond.methodLink (am_cn.getD own "") i y) ∈ am_T ∧ (Cond.instanceMethod y) ∈ am_T ∧ (Cond.selects y.cls y y) ∈ am_T ∧ (parseMethodDescriptor y.desc).map (fun d => d.parameters.length) = some (q.2.2.2.2 - 1) ∧ 1 ≤ q.2.2.2.2 := by
  have hw := am_ml_ok h
  unfold am_lc at hw
  simp only [show ¬ ((0 : Nat) = 9) by decide, show ¬ ((0 : Nat) = 10) by decide, show ¬ ((0 : Nat) = 11) by decide, show ¬ ((0 : Nat) = 5) by decide, if_true, if_false, Bool.and_eq_true, decide_eq_true_eq, Bool.not_eq_true', decide_eq_false_iff_not] at hw
  obtain ⟨⟨⟨⟨a1, a2⟩, a3⟩, a4⟩, a5, a6⟩ := hw
  obtain ⟨y, hy, hy2⟩ := am_mn_some a1
  rw [hy2] at a4
  obtain ⟨r, hr, b1, b2, b3, b4, b5, b6, b7, b8, b9, b10⟩ := am_mcs a1 hq hy
  rw [List.getD_eq_getElem?_getD, hr] at a5 a6
  simp only [Option.getD_some] at a5 a6
  have hn1 : ¬ r.2.2.2.1 = 1 := by rw [a5]; decide
  rw [if_neg hn1] at b1 b5
  exact ⟨y, ⟨hy, a1, a2, a3, b2.resolve_left a2, b4, b6, b7⟩, am_w_ok a4, b1, b9.resolve_left a6, b5, b8.resolve_left hn1⟩
theorem am_ml_1 {own i m' : Nat} {q : Nat × ByteArray × Nat × Option FieldType × Nat} (h : am_lk i (am_ml.getD own []) = some (m', 1)) (hq : am_md[m']? = some q) : ∃ y, am_Cal own i m' q y ∧ (Cond.methodLink (am_cn.getD own "") i y) ∈ am_T ∧ (Cond.static y) ∈ am_T ∧ (parseMethodDescriptor y.desc).map (fun d => d.parameters.length) = some q.2.2.2.2 := by
  have hw := am_ml_ok h
  unfold am_lc at hw
  simp only [show ¬ ((1 : Nat) = 9) by decide, show ¬ ((1 : Nat) = 10) by decide, show ¬ ((1 : Nat) = 11) by decide, show ¬ ((1 : Nat) = 5) by decide, show ¬ ((1 : Nat) = 0) by decide, if_true, if_false, Bool.and_eq_true, decide_eq_true_eq, Bool.not_eq_true', decide_eq_false_iff_not] at hw
  obtain ⟨⟨⟨⟨a1, a2⟩, a3⟩, a4⟩, a5⟩ := hw
  obtain ⟨y, hy, hy2⟩ := am_mn_some a1
  rw [hy2] at a4
  obtain ⟨r, hr, b1, b2, b3, b4, b5, b6, b7, b8, b9, b10⟩ := am_mcs a1 hq hy
  rw [List.getD_eq_getElem?_getD, hr] at a5
  simp only [Option.getD_some] at a5
  rw [if_pos a5] at b1 b5
  exact ⟨y, ⟨hy, a1, a2, a3, b2.resolve_left a2, b4, b6, b7⟩, am_w_ok a4, b1, b5⟩
theorem am_ml_2 {own i m' : Nat} {q : Nat × ByteArray × Nat × Option FieldType × Nat} (h : am_lk i (am_ml.getD own []) = some (m', 2)) (hq : am_md[m']? = some q) : ∃ y, am_Cal own i m' q y ∧ (Cond.methodLink (am_cn.getD own "") i y) ∈ am_T ∧ (Cond.instanceMethod y) ∈ am_T ∧ y.name = "<init>" ∧ q.2.2.2.1 = none ∧ (parseMethodDescriptor y.desc).map (fun d => d.parameters.length) = some (q.2.2.2.2 - 1) ∧ 1 ≤ q.2.2.2.2 := by
  have hw := am_ml_ok h
  unfold am_lc at hw
  simp only [show ¬ ((2 : Nat) = 9) by decide, show ¬ ((2 : Nat) = 10) by decide, show ¬ ((2 : Nat) = 11) by decide, show ¬ ((2 : Nat) = 5) by decide, show ¬ ((2 : Nat) = 0) by decide, show ¬ ((2 : Nat) = 1) by decide, if_true, if_false, Bool.and_eq_true, decide_eq_true_eq, Bool.not_eq_true', decide_eq_false_iff_not] at hw
  obtain ⟨⟨⟨⟨a1, a2⟩, a3⟩, a4⟩, a5, a6⟩ := hw
  obtain ⟨y, hy, hy2⟩ := am_mn_some a1
  rw [hy2] at a4 a5
  obtain ⟨r, hr, b1, b2, b3, b4, b5, b6, b7, b8, b9, b10⟩ := am_mcs a1 hq hy
  rw [List.getD_eq_getElem?_getD, hr] at a6
  simp only [Option.getD_some] at a6
  have hn1 : ¬ r.2.2.2.1 = 1 := by rw [a6]; decide
  rw [if_neg hn1] at b1 b5
  exact ⟨y, ⟨hy, a1, a2, a3, b2.resolve_left a2, b4, b6, b7⟩, am_w_ok a4, b1, a5, b10.resolve_left (fun z => z a5), b5, b8.resolve_left hn1⟩
theorem am_ml_5 {own i m' : Nat} {q : Nat × ByteArray × Nat × Option FieldType × Nat} (h : am_lk i (am_ml.getD own []) = some (m', 5)) (hq : am_md[m']? = some q) : ∃ y, am_Cal own i m' q y ∧ (am_cn.getD own "", i, y) ∈ am_nl ∧ (Cond.instanceMethod y) ∈ am_T ∧ y.name = "<init>" ∧ q.2.2.2.1 = none ∧ (parseMethodDescriptor y.desc).map (fun d => d.parameters.length) = some (q.2.2.2.2 - 1) ∧ 1 ≤ q.2.2.2.2 := by
  have hw := am_ml_ok h
  unfold am_lc at hw
  simp only [show ¬ ((5 : Nat) = 9) by decide, show ¬ ((5 : Nat) = 10) by decide, show ¬ ((5 : Nat) = 11) by decide, if_true, if_false, Bool.and_eq_true, decide_eq_true_eq, Bool.not_eq_true', decide_eq_false_iff_not] at hw
  obtain ⟨⟨⟨⟨⟨a0, a1⟩, a2⟩, a3⟩, a5⟩, a6⟩ := hw
  obtain ⟨y, hy, hy2⟩ := am_mn_some a1
  rw [hy2] at a0 a5
  obtain ⟨r, hr, b1, b2, b3, b4, b5, b6, b7, b8, b9, b10⟩ := am_mcs a1 hq hy
  rw [List.getD_eq_getElem?_getD, hr] at a6
  simp only [Option.getD_some] at a6
  have hn1 : ¬ r.2.2.2.1 = 1 := by rw [a6]; decide
  rw [if_neg hn1] at b1 b5
  exact ⟨y, ⟨hy, a1, a2, a3, b2.resolve_left a2, b4, b6, b7⟩, a0, b1, a5, b10.resolve_left (fun z => z a5), b5, b8.resolve_left hn1⟩
theorem am_md_all : am_md.all (fun q => decide (q.1 < 22)) = true := by decide +kernel
theorem am_md_lt {k : Nat} {q : Nat × ByteArray × Nat × Option FieldType × Nat} (h : am_md[k]? = some q) : q.1 < 22 := of_decide_eq_true (List.all_eq_true.mp am_md_all q (List.mem_of_getElem? h))
section AmCall
variable {p : Program} {l : Launch} {e : Env} {R : Room} {s : State} {m : MethodId} {args : Array Value} {below : List Frame} {meth : Method} {c : Code} {H : Heap} {locs : List Loc} {cells slots : Nat} {Q : State → Prop}
variable {cc : ByteArray} {pc pc' len : Nat} {ls : Array Slot} {L L' st st' : List Value} {ins : Instr} {fv : Value} {own mid : Nat} {D : va_G} {tc : Nat → ClassId} {ex : Nat → Nat} {base : Nat} {X : Nat → va_E} {h h' : AmH} {v : Option Value}
theorem am_after {mc ms : Nat} {st0 rest : List Value} {aa : Array Value} (hr : va_Run p l e R s m args below meth c H locs cells slots mc ms (F0 m pc ls st0) rest (am_Qc D tc ex base fv v h' aa) (fun x => base ≤ x)) (hP : am_P D tc ex base fv h s.heap H locs) (h64 : 64 ≤ h'.2.1)
    (kk : ∀ (H' : Heap) (locs' : List Loc), am_P D tc ex base fv h' s.heap H' locs' → W p l e R s m args below meth c H' locs' (cells + mc) (slots + ms) Q (F0 m (pc + 3) ls ((v.map (am_rv fv (am_ad ex base))).toList ++ rest))) : W p l e R s m args below meth c H locs cells slots Q (F0 m pc ls st0) := by
  intro T hT Y
  obtain ⟨v2, st₀, t, T', L2, e0, Y', hL, e1, e2, ⟨hv, q1, q2, q3⟩, stp⟩ := hr T hT Y
  obtain rfl : v2 = v.map (am_rv fv (am_ad ex base)) := Outcome.returned.inj hv
  have hPn : am_P D tc ex base fv h' s.heap t.heap (locs ++ L2) := by
    refine ⟨q1, ⟨Nat.le_trans hP.2.1.1 (by rw [← e0]; exact q3.1), fun x h1 h2 => ?_, fun x hx => ?_⟩, q2, h64⟩
    · rw [q3.2 x (by rw [e0]; exact Nat.lt_of_lt_of_le h1 hP.2.1.1) h2, e0]
      exact hP.2.1.2.1 x h1 h2
    · rcases List.mem_append.mp hx with z | z
      · exact hP.2.1.2.2 x z
      · exact hL x z
  obtain ⟨t2, a1, b1⟩ := kk t.heap (locs ++ L2) hPn T' e1 Y'
  exact ⟨t2, stp t2 a1, b1⟩
theorem am_pre {as : List Value} (hE : am_E D tc ex base fv X s) (hP : am_P D tc ex base fv h s.heap H locs) : PreS s H (am_Pc D tc ex base fv X h as) (as.map (am_rv fv (am_ad ex base))) :=
  ⟨am_Pc_blind, fun U hU hW => ⟨rfl, am_E_moved hE hP.2.1 hU hW, by rw [hU]; exact hP.1, by rw [hU]; exact hP.2.2.1, hP.2.2.2⟩⟩
theorem am_recv {a ci : Nat} {fs : List Value} (hE : am_E D tc ex base fv X s) (hP : am_P D tc ex base fv h s.heap H locs) (hc : am_c X h a = .inr (ci, fs)) (ha : a < h.2.1) (hci : ci ≤ 13) : ∃ cell : Cell, H[am_ad ex base a]? = some cell ∧ cell.vm.isStatics = false ∧ s.vm.findClass (am_cn.getD ci "") = some cell.cls := by
  unfold am_c at hc
  split at hc
  · rename_i hlo
    rw [am_ad_lo hlo]
    rcases Nat.lt_or_ge ci 13 with z | z
    · have z2 := hE.2.2.2.2.2.2.2.2.1 a ci fs hlo hc
      omega
    · obtain rfl : ci = 13 := by omega
      obtain ⟨cell, g1, g2, g3, -⟩ := ((hE.2.2.2.2.2.2.2.2.2.1 a fs hlo hc).1).kept (H1 := H) (fun x z1 z2 => hP.2.1.2.1 x z1 z2)
      exact ⟨cell, g1, g2, g3⟩
  · rename_i hhi
    have hhi : 64 ≤ a := Nat.not_lt.mp hhi
    rw [am_ad_hi hhi]
    have hg := am_ws_get (fv := fv) (ad := am_ad ex base) (tc := tc) (base := base) hhi ha
    rw [hc] at hg
    obtain ⟨r9, hr9, cell, q1, q2, q3, q4⟩ := hP.1 _ _ hg
    refine ⟨cell, q1, by rw [q3]; rfl, ?_⟩
    rw [(am_cl_ok hr9).2.2.2.2.2.2, q2]
    exact (hE.1.1 ci _ hr9).2.1
theorem am_room {d mc ms n : Nat} (h1 : d + 1 + 1 ≤ R.frames) (h2 : 64 * (d + 1 + 1) ≤ R.locals) (hn : n ≤ 40) : (am_rm d mc ms).frames + 1 ≤ R.frames ∧ 8 + (n + 11) + (am_rm d mc ms).locals ≤ R.locals := by
  refine ⟨h1, ?_⟩
  show 8 + (n + 11) + 64 * (d + 1) ≤ R.locals
  omega
theorem am_split {np : Nat} {w : Value} {as : List Value} (h : (st.take np).reverse = w :: as) (hl : np ≤ st.length) : st = as.reverse ++ w :: st.drop np ∧ as.length = np - 1 := by
  have h1 : st.take np = (w :: as).reverse := by rw [← h, List.reverse_reverse]
  refine ⟨?_, ?_⟩
  · have h2 := List.take_append_drop np st
    rw [h1, List.reverse_cons, List.append_assoc] at h2
    exact h2.symm
  · have h3 := congrArg List.length h
    rw [List.length_reverse, List.length_take, List.length_cons] at h3
    omega
theorem am_stk (v : Option Value) (r : List Value) {ad : Nat → Nat} : (v.map (am_rv fv ad)).toList ++ r.map (am_rv fv ad) = (v.toList ++ r).map (am_rv fv ad) := by
  cases v <;> simp
set_option maxHeartbeats 1000000 in
theorem am_q4_ok {m' d : Nat} {as r : List Value} {q : Nat × ByteArray × Nat × Option FieldType × Nat} (hF : am_F p R s m args meth c mid (d + 1) q D tc ex base fv X) (hml : c.maxLocals = ls.size) (hP : am_P D tc ex base fv h s.heap H locs) (hdg : decode q.2.1 pc = .ok (ins, len)) (hln : (am_ln ins).getD len = len)
    (hq : am_q4 X q.1 st h ins = some (m', as, r)) (hen : (am_lo as).length ≤ (am_md.getD m' (0, code, 0, none, 0)).2.2.1) (hok : am_Ok X d m' 0 (am_en m' as) [] h v h') (hmo : h.2.1 ≤ h'.2.1 ∧ h.2.2 ≤ h'.2.2) (hr1 : cells + (h'.2.1 - h.2.1) ≤ R.cells) (hr2 : slots + (h'.2.2 - h.2.2) ≤ R.slots)
    (kk : ∀ (H' : Heap) (locs' : List Loc), am_P D tc ex base fv h' s.heap H' locs' → W p l e R s m args below meth c H' locs' (cells + (h'.2.1 - h.2.1)) (slots + (h'.2.2 - h.2.2)) Q (F0 m (pc + 3) ls ((v.toList ++ r).map (am_rv fv (am_ad ex base))))) : W p l e R s m args below meth c H locs cells slots Q (F0 m pc ls (st.map (am_rv fv (am_ad ex base)))) := by
  obtain ⟨hx, hmd, hb, hmx, hown, hname, hts, hE, hfr, hlo⟩ := hF
  have hfv := hE.2.2.2.2.2.2.2.2.2.2.2
  have h64 : 64 ≤ h'.2.1 := Nat.le_trans hP.2.2.2 hmo.1
  have hfix : CallFix p m c q.2.1 ls.size s args am_T (am_cn.getD q.1 "") := ⟨hx, hb, hml, hown, hts⟩
  unfold am_q4 at hq
  split at hq
  · obtain rfl : 3 = len := hln
    split at hq
    · rename_i i m9 hk
      split at hq
      · rename_i q' hq'
        split at hq
        · rename_i a as9 hrev
          split at hq
          · rename_i cj fs hc
            split at hq
            · rename_i hcnd
              cases hq
              obtain ⟨rfl, ha, hnp, hcat⟩ := hcnd
              obtain ⟨y, ⟨hy, y1, y2, y3, y4, y5, y6, y7⟩, w1, w2, w3, w4, w5⟩ := am_ml_0 hk hq'
              rw [List.getD_eq_getElem?_getD, hq'] at hen
              have hM := am_met (l := l) (D := D) (tc := tc) (ex := ex) (base := base) (fv := fv) hok y1 y2 y3 hq' hy hen hmo.1
              obtain ⟨s1, s2⟩ := am_split hrev hnp
              have hst : st.map (am_rv fv (am_ad ex base)) = (as9.map (am_rv fv (am_ad ex base))).reverse ++ .ref (am_ad ex base a) :: (st.drop q'.2.2.2.2).map (am_rv fv (am_ad ex base)) := by
                conv => lhs; rw [s1]
                rw [List.map_append, List.map_reverse, List.map_cons]
                rfl
              rw [hst]
              refine am_after (va_runV hfix hM (cwV (q'.2.2.2.2 - 1) hts (am_good (fun w hw => ?_)) rfl rfl rfl ⟨rfl, y7.1, y7.2, w4⟩ (am_room hfr hlo y6)) ⟨(am_pre (as := .ref a :: as9) hE hP).1, ?_, (am_pre (as := .ref a :: as9) hE hP).2⟩ rfl (by rw [List.length_map]; exact s2) rfl rfl (lv_room (by rw [am_cat_sum hfv]; exact hcat)) hdg ⟨hr1, hr2⟩) hP h64 (fun H' locs' hP' => ?_)
              · unfold wsV at hw
                simp only [List.cons_append, List.nil_append, List.mem_cons] at hw
                rcases hw with rfl | rfl | rfl | rfl | rfl | hw
                · exact w1
                · exact w2
                · exact w3
                · exact y4
                · exact am_code_T y1 hq' hy
                · exact hw
              · rw [y5]
                have hci : q'.1 ≤ 13 := by
                  unfold am_c at hc
                  split at hc
                  · rename_i hlo2
                    have z1 := am_md_lt hq'
                    have z2 := hE.2.2.2.2.2.2.2.2.1 a q'.1 fs hlo2 hc
                    omega
                  · rename_i hhi
                    have hg := am_ws_get (fv := fv) (ad := am_ad ex base) (tc := tc) (base := base) (Nat.not_lt.mp hhi) ha
                    rw [hc] at hg
                    obtain ⟨r9, hr9, -⟩ := hP.1 _ _ hg
                    exact Nat.le_of_lt (List.getElem?_eq_some_iff.mp hr9).1
                exact am_recv hE hP hc ha hci
              · rw [am_stk]
                exact kk H' locs' hP'
            · cases hq
          · cases hq
        · cases hq
      · cases hq
    · cases hq
  · obtain rfl : 3 = len := hln
    split at hq
    · rename_i i m9 k9 hk
      split at hq
      · rename_i q' hq'
        split at hq
        · rename_i a as9 hrev
          split at hq
          · rename_i hcnd
            cases hq
            obtain ⟨hk2, hnp, hcat⟩ := hcnd
            rw [List.getD_eq_getElem?_getD, hq'] at hen
            obtain ⟨s1, s2⟩ := am_split hrev hnp
            have hst : st.map (am_rv fv (am_ad ex base)) = (as9.map (am_rv fv (am_ad ex base))).reverse ++ .ref (am_ad ex base a) :: (st.drop q'.2.2.2.2).map (am_rv fv (am_ad ex base)) := by
              conv => lhs; rw [s1]
              rw [List.map_append, List.map_reverse, List.map_cons]
              rfl
            rw [hst]
            rcases hk2 with rfl | rfl
            · obtain ⟨y, ⟨hy, y1, y2, y3, y4, y5, y6, y7⟩, w1, w2, w3, w6, w4, w5⟩ := am_ml_2 hk hq'
              have hM := am_met (l := l) (D := D) (tc := tc) (ex := ex) (base := base) (fv := fv) hok y1 y2 y3 hq' hy hen hmo.1
              have hct := am_code_T y1 hq' hy
              rw [w6] at hM hct
              refine am_after (va_runI hfix hM (cwI (q'.2.2.2.2 - 1) hts (am_good (fun w hw => ?_)) rfl rfl rfl (hts _ y4) (hts _ w1) (hts _ w2) w3 ⟨y7.1, y7.2, w4⟩ (am_room hfr hlo y6)) (am_pre (as := .ref a :: as9) hE hP) rfl (by rw [List.length_map]; exact s2) rfl rfl (lv_room (by rw [am_cat_sum hfv]; exact hcat)) hdg ⟨hr1, hr2⟩) hP h64 (fun H' locs' hP' => ?_)
              · rcases List.mem_cons.mp hw with rfl | hw
                · exact hct
                · exact hw
              · rw [am_stk]
                exact kk H' locs' hP'
            · obtain ⟨y, ⟨hy, y1, y2, y3, y4, y5, y6, y7⟩, w1, w2, w3, w6, w4, w5⟩ := am_ml_5 hk hq'
              have hM := am_met (l := l) (D := D) (tc := tc) (ex := ex) (base := base) (fv := fv) hok y1 y2 y3 hq' hy hen hmo.1
              have hct := am_code_T y1 hq' hy
              rw [w6] at hM hct
              refine am_after (va_runIN (host := "PaperRiver") hfix hM ⟨va_cnB (q'.2.2.2.2 - 1) hts (am_good (fun w hw => ?_)) rfl rfl rfl (hE.2.1 _ w1) (hts _ y4) ⟨y7.1, y7.2, w4⟩ (am_room hfr hlo y6), w3, hts _ w2⟩ (am_pre (as := .ref a :: as9) hE hP) rfl (by rw [List.length_map]; exact s2) rfl rfl (lv_room (by rw [am_cat_sum hfv]; exact hcat)) hdg ⟨hr1, hr2⟩) hP h64 (fun H' locs' hP' => ?_)
              · rcases List.mem_cons.mp hw with rfl | hw
                · exact hct
                · exact hw
              · rw [am_stk]
                exact kk H' locs' hP'
          · cases hq
        · cases hq
      · cases hq
    · cases hq
  · obtain rfl : 3 = len := hln
    split at hq
    · rename_i i m9 hk
      split at hq
      · rename_i q' hq'
        split at hq
        · rename_i hcnd
          cases hq
          obtain ⟨hnp, hcat⟩ := hcnd
          rw [List.getD_eq_getElem?_getD, hq'] at hen
          obtain ⟨y, ⟨hy, y1, y2, y3, y4, y5, y6, y7⟩, w1, w2, w4⟩ := am_ml_1 hk hq'
          have hM := am_met (l := l) (D := D) (tc := tc) (ex := ex) (base := base) (fv := fv) hok y1 y2 y3 hq' hy hen hmo.1
          have hst : st.map (am_rv fv (am_ad ex base)) = ((st.take q'.2.2.2.2).reverse.map (am_rv fv (am_ad ex base))).reverse ++ (st.drop q'.2.2.2.2).map (am_rv fv (am_ad ex base)) := by
            rw [← List.map_reverse, List.reverse_reverse, ← List.map_append, List.take_append_drop]
          rw [hst]
          refine am_after (va_runS hfix hM (va_cwS q'.2.2.2.2 hts (am_good (fun w hw => ?_)) rfl rfl rfl ⟨y7.1, y7.2, w4⟩ (am_room hfr hlo y6)) (am_pre hE hP) rfl (by rw [List.length_map, List.length_reverse, List.length_take]; omega) rfl rfl (lv_room (by rw [am_cat_sum hfv]; exact hcat)) hdg ⟨hr1, hr2⟩) hP h64 (fun H' locs' hP' => ?_)
          · unfold va_wsS at hw
            simp only [List.cons_append, List.nil_append, List.mem_cons] at hw
            rcases hw with rfl | rfl | rfl | rfl | hw
            · exact w1
            · exact w2
            · exact y4
            · exact am_code_T y1 hq' hy
            · exact hw
          · rw [am_stk]
            exact kk H' locs' hP'
        · cases hq
      · cases hq
    · cases hq
  · cases hq
end AmCall
