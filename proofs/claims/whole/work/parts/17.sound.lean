set_option maxHeartbeats 1000000 in
/-- a run of the abstract machine is a run of the machine -/
theorem am_sound (X : Nat → va_E) : ∀ (n d mid pc : Nat) (L st : List Value) (h : AmH) (v : Option Value) (hf : AmH), am X n d mid pc L st h = some (v, hf) → am_Ok X d mid pc L st h v hf := by
  intro n
  induction n with
  | zero => intro d mid pc L st h v hf hq; cases hq
  | succ n ih =>
    intro d mid pc L st h v hf hq
    intro p l e R s m args below meth c H locs cells slots Q ls q D tc ex base fv hF hP hl hL hr1 hr2 hret
    have hF0 := hF
    obtain ⟨hx, hmd, hb, hmx, hown, hname, hts, hE, hfr, hlo⟩ := hF
    have hfv := hE.2.2.2.2.2.2.2.2.2.2.2
    unfold am at hq
    split at hq
    · rename_i pc' L' st' h' hs
      have hmo := am_mono hq
      have ok := ih d mid pc' L' st' h' v hf hq
      unfold am_st at hs
      split at hs
      · cases hs
      · rename_i own ret ins hfe
        unfold am_fe at hfe
        rw [hmd] at hfe
        simp only at hfe
        split at hfe
        · rename_i x hdx
          split at hfe
          · rename_i hlnx
            cases hfe
            obtain ⟨ins, len⟩ := x
            simp only at hdx hlnx hs
            split at hs
            · rename_i nx hpr
              cases hs
              have go : ∀ ls' : Array Slot, am_L fv (am_ad ex base) ls' L' → L'.length = q.2.2.1 → W p l e R s m args below meth c H locs cells slots Q (F0 m pc' ls' (st'.map (am_rv fv (am_ad ex base)))) :=
                fun ls' hl' hL' => ok p l e R s m args below meth c H locs cells slots Q ls' q D tc ex base fv hF0 hP hl' hL' hr1 hr2 hret
              have hLL : ∀ {ls' : Array Slot}, am_L fv (am_ad ex base) ls' L' → L'.length = L.length → W p l e R s m args below meth c H locs cells slots Q (F0 m pc' ls' (st'.map (am_rv fv (am_ad ex base)))) := fun hl' e9 => go _ hl' (e9.trans hL)
              unfold am_pr at hpr
              split at hpr
              · rename_i h1; cases hpr
                exact am_p1_ok hfv hx hb hdx hlnx h1 hl (fun ls' hl' => hLL hl' (am_p1_len h1))
              · split at hpr
                · rename_i h1; cases hpr
                  exact am_p2_ok hfv hx hb hdx hlnx h1 hl (fun ls' hl' => hLL hl' (am_p2_len h1))
                · split at hpr
                  · rename_i h1; cases hpr
                    exact am_p3_ok hfv hx hb hdx hlnx h1 hl (fun ls' hl' => hLL hl' (am_p3_len h1))
                  · split at hpr
                    · rename_i h1; cases hpr
                      exact am_p4_ok hfv hx hb hdx hlnx h1 hl (fun ls' hl' => hLL hl' (am_p4_len h1))
                    · split at hpr
                      · rename_i h1; cases hpr
                        exact am_p5_ok hfv hx hb hdx hlnx h1 hl (fun ls' hl' => hLL hl' (am_p5_len h1))
                      · split at hpr
                        · rename_i h1; cases hpr
                          exact am_p6_ok hx hb hdx hlnx hown hts hE hP.2.1 h1 hl (fun ls' hl' => hLL hl' (am_p6_len h1))
                        · exact am_p7_ok hx hb hdx hlnx hown hts hE hP.2.1 hP.1 hpr hl (fun ls' hl' => hLL hl' (am_p7_len hpr))
            · split at hs
              · rename_i nx hhp
                cases hs
                have hmh := am_hp_mono hhp
                have go : ∀ (ls' : Array Slot) (H' : Heap) (locs' : List Loc) (cells' slots' : Nat), cells' = cells + (h'.2.1 - h.2.1) → slots' = slots + (h'.2.2 - h.2.2) → am_L fv (am_ad ex base) ls' L' → L'.length = L.length → am_P D tc ex base fv h' s.heap H' locs' → W p l e R s m args below meth c H' locs' cells' slots' Q (F0 m pc' ls' (st'.map (am_rv fv (am_ad ex base)))) := by
                  intro ls' H' locs' cells' slots' ec es hl' hL' hP'
                  subst ec
                  subst es
                  refine ok p l e R s m args below meth c H' locs' _ _ Q ls' q D tc ex base fv hF0 hP' hl' (hL'.trans hL) (by omega) (by omega) ?_
                  intro pc9 ls9 st9 ins9 len9 H9 locs9 a1 a2 a3 a4
                  have := hret pc9 ls9 st9 ins9 len9 H9 locs9 a1 a2 a3 a4
                  rw [show cells + (h'.2.1 - h.2.1) + (hf.2.1 - h'.2.1) = cells + (hf.2.1 - h.2.1) by omega, show slots + (h'.2.2 - h.2.2) + (hf.2.2 - h'.2.2) = slots + (hf.2.2 - h.2.2) by omega]
                  exact this
                unfold am_hp at hhp
                split at hhp
                · rename_i h1; cases hhp
                  have e2 := am_q1_2 h1
                  exact am_q1_ok hx hb hdx hlnx hown hts hE hP hname h1 hl (fun ls' H' locs' hl' hP' => go ls' H' locs' cells slots (by rw [e2]; omega) (by rw [e2]; omega) hl' (am_q1_len h1) hP')
                · split at hhp
                  · rename_i h1; cases hhp
                    exact am_q2_ok hx hb hdx hlnx hown hts hE hP h1 hl (by omega) (by omega) (fun ls' H' locs' hl' hP' => go ls' H' locs' _ _ rfl rfl hl' (am_q2_len h1) hP')
                  · have e2 := am_q3_2 hhp
                    exact am_q3_ok hx hb (by rw [hmx, hl.1, hL]) hdx hlnx hown hts hE hP (by omega) (by omega) (by omega) (by omega) hhp hl (fun ls' H' locs' hl' hP' => go ls' H' locs' cells slots (by rw [e2]; omega) (by rw [e2]; omega) hl' (am_q3_len hhp) hP')
              · split at hs
                · cases hs
                · split at hs
                  · cases hs
                  · cases hs
          · cases hfe
        · cases hfe
    · rename_i m' as r hs
      unfold am_st at hs
      split at hs
      · cases hs
      · rename_i own ret ins hfe
        unfold am_fe at hfe
        rw [hmd] at hfe
        simp only at hfe
        split at hfe
        · rename_i x hdx
          split at hfe
          · rename_i hlnx
            cases hfe
            obtain ⟨ins, len⟩ := x
            simp only at hdx hlnx hs
            split at hs
            · cases hs
            · split at hs
              · cases hs
              · split at hs
                · rename_i cq hq4
                  cases hs
                  split at hq
                  · cases hq
                  · rename_i d'
                    split at hq
                    · rename_i hen
                      split at hq
                      · rename_i v' h' hcal
                        have hm1 := am_mono hcal
                        have hm2 := am_mono hq
                        refine am_q4_ok hF0 (by rw [hmx, hl.1, hL]) hP hdx hlnx hq4 hen (ih d' m' 0 _ _ h v' h' hcal) hm1 (by omega) (by omega) (fun H' locs' hP' => ?_)
                        refine ih (d' + 1) mid (pc + 3) L (v'.toList ++ r) h' v hf hq p l e R s m args below meth c H' locs' _ _ Q ls q D tc ex base fv hF0 hP' hl hL (by omega) (by omega) ?_
                        intro pc9 ls9 st9 ins9 len9 H9 locs9 a1 a2 a3 a4
                        have := hret pc9 ls9 st9 ins9 len9 H9 locs9 a1 a2 a3 a4
                        rw [show cells + (h'.2.1 - h.2.1) + (hf.2.1 - h'.2.1) = cells + (hf.2.1 - h.2.1) by omega, show slots + (h'.2.2 - h.2.2) + (hf.2.2 - h'.2.2) = slots + (hf.2.2 - h.2.2) by omega]
                        exact this
                      · cases hq
                    · cases hq
                · split at hs
                  · cases hs
                  · cases hs
          · cases hfe
        · cases hfe
    · rename_i w hs
      cases hq
      unfold am_st at hs
      split at hs
      · cases hs
      · rename_i own ret ins hfe
        unfold am_fe at hfe
        rw [hmd] at hfe
        simp only at hfe
        split at hfe
        · rename_i x hdx
          split at hfe
          · rename_i hlnx
            cases hfe
            obtain ⟨ins, len⟩ := x
            simp only at hdx hlnx hs
            split at hs
            · cases hs
            · split at hs
              · cases hs
              · split at hs
                · cases hs
                · split at hs
                  · rename_i r9 hq5
                    cases hs
                    have := hret pc ls st ins len H locs hdx hlnx hq5 hP
                    rw [Nat.sub_self, Nat.sub_self, Nat.add_zero, Nat.add_zero] at this
                    exact this
                  · cases hs
          · cases hfe
        · cases hfe
    · cases hq
