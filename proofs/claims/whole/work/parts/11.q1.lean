section AmQ
variable {p : Program} {l : Launch} {e : Env} {R : Room} {s : State} {m : MethodId} {args : Array Value} {below : List Frame} {meth : Method} {c : Code} {H : Heap} {locs : List Loc} {cells slots : Nat} {Q : State → Prop}
variable {cc : ByteArray} {pc pc' len : Nat} {ls : Array Slot} {L L' st st' : List Value} {ins : Instr} {fv : Value} {own mid : Nat} {D : va_G} {tc : Nat → ClassId} {ex : Nat → Nat} {base : Nat} {X : Nat → va_E} {h h' : AmH}
theorem am_q1_2 (hq : am_q1 own mid pc L st h ins = some ((pc', L', st'), h')) : h'.2 = h.2 := by
  unfold am_q1 at hq
  split at hq
  · split at hq
    · split at hq
      · split at hq
        · split at hq
          · cases hq; rfl
          · cases hq
        · cases hq
      · cases hq
    · cases hq
  · split at hq
    · split at hq
      · split at hq
        · cases hq; rfl
        · cases hq
      · cases hq
    · cases hq
  · split at hq
    · split at hq
      · split at hq
        · cases hq; rfl
        · cases hq
      · split at hq
        · cases hq; rfl
        · cases hq
      · cases hq
    · cases hq
  · split at hq
    · split at hq
      · split at hq
        · cases hq; rfl
        · cases hq
      · cases hq
    · cases hq
  · split at hq
    · split at hq
      · split at hq
        · split at hq
          · cases hq; rfl
          · cases hq
        · cases hq
      · cases hq
    · cases hq
  · cases hq
theorem am_aast_c {t ci : Nat} {f : Nat → Option Nat} {n : Nat} (h : (t = 4 ∧ ci = 1) ∨ (t = 5 ∧ ci = 9) ∨ (t = 6 ∧ ci = 10)) : ∃ r, am_cl[ci]? = some r ∧ (am_tys tc)[t]? = some (tc t, .object r.1) := by
  rcases h with ⟨rfl, rfl⟩ | ⟨rfl, rfl⟩ | ⟨rfl, rfl⟩
  · exact ⟨_, rfl, rfl⟩
  · exact ⟨_, rfl, rfl⟩
  · exact ⟨_, rfl, rfl⟩
set_option maxHeartbeats 1000000 in
theorem am_q1_ok (hx : p.tables.exec = Jvm.exec) (hb : c.code = cc) (hdg : decode cc pc = .ok (ins, len)) (hln : (am_ln ins).getD len = len)
    (hown : s.vm.findClass (am_cn.getD own "") = some m.cls) (hts : ∀ w ∈ am_T, w.before args s = true) (hE : am_E D tc ex base fv X s) (hP : am_P D tc ex base fv h s.heap H locs) (hname : (am_mn.getD mid ⟨"", "", ""⟩).name = "<init>" → meth.name = "<init>")
    (hq : am_q1 own mid pc L st h ins = some ((pc', L', st'), h')) (hl : am_L fv (am_ad ex base) ls L)
    (kk : ∀ (ls' : Array Slot) (H' : Heap) (locs' : List Loc), am_L fv (am_ad ex base) ls' L' → am_P D tc ex base fv h' s.heap H' locs' → W p l e R s m args below meth c H' locs' cells slots Q (F0 m pc' ls' (st'.map (am_rv fv (am_ad ex base))))) : W p l e R s m args below meth c H locs cells slots Q (F0 m pc ls (st.map (am_rv fv (am_ad ex base)))) := by
  have hK := hE.1
  unfold am_q1 at hq
  split at hq
  · obtain rfl : 3 = len := hln
    split at hq
    · rename_i v a r
      split at hq
      · rename_i ci k hk
        split at hq
        · rename_i cj fs hc
          split at hq
          · rename_i hcnd
            cases hq
            obtain ⟨rfl, h2, h1, hkl, hfit, hnar, hfin⟩ := hcnd
            have hg := am_ws_get (fv := fv) (ad := am_ad ex base) (tc := tc) (base := base) h1 h2
            rw [hc] at hg
            obtain ⟨r9, hr9, cell, q1, q2, q3, q4⟩ := hP.1 (a - 64) _ hg
            rcases am_ft_ok hk with ⟨rfl, hk2, hw⟩ | ⟨hne, r8, hr8, hkr, hw⟩
            · exact absurd (List.getElem?_eq_some_iff.mp hr9).1 (show ¬ ((13 : Nat) < 13) by decide)
            · have hrr : r8 = r9 := Option.some.inj (hr8.symm.trans hr9)
              subst hrr
              obtain ⟨c1, c2, c3, c4, c5, c6, c7⟩ := am_cl_ok hr8
              have hap := va_apart (own := am_cn.getD own "") hts c1 _ c2 c3 hK hr8
              obtain ⟨hSl, hfc, kC, hkC, hkind⟩ := hK.1 cj _ hr8
              obtain ⟨cf, kf, fi, f, hi, hsl⟩ := hSl k hkr
              have hlay := hts _ (c1 _ (u_in_lay hkr))
              have hst := (u_facts hfc hkC (u_lays hts c1 hkr) hi).1
              show W p l e R s m args below meth c H locs cells slots Q (F0 m pc ls (am_rv fv (am_ad ex base) v :: .ref (am_ad ex base a) :: st'.map (am_rv fv (am_ad ex base))))
              rw [am_ad_hi h1]
              have fin : ∀ H' : Heap, H'[base + (a - 64)]? = some (cell.setSlot f.slot (am_rv fv (am_ad ex base) v)) → H'.size = H.size → (∀ q, q ≠ base + (a - 64) → H'[q]? = H[q]?) → W p l e R s m args below meth c H' (locs ++ [⟨base + (a - 64), f.slot⟩]) cells slots Q (F0 m (pc + 3) ls (st'.map (am_rv fv (am_ad ex base)))) := by
                intro H' e1 e2 e3
                rw [hsl] at e1 ⊢
                refine kk ls H' _ hl (am_stored hP h1 h2 ?_ e2 e3)
                refine ⟨_, hr8, t_OB.to (V := updV (vp_V (fs.map (am_rv fv (am_ad ex base)))) k (am_rv fv (am_ad ex base) v)) ⟨_, e1, q2, q3, t_set q4 hap hkr _⟩ (fun j _ => ?_)⟩
                show _ = vp_V ((fs.set k v).map (am_rv fv (am_ad ex base))) j
                rw [List.map_set]
                exact vp_updV_set (by rw [List.length_map]; exact hkl) _ j
              have hn := am_narrow (fv := fv) (ad := am_ad ex base) hfit hnar
              have hf := am_fits (fv := fv) (ad := am_ad ex base) hfit
              by_cases hz : (r8.2.1 k).2.2.2 = false
              · unfold u_lay at hlay
                rw [if_neg (by rw [hz]; decide)] at hlay
                have h6 := u_store hfc hkC hkind hlay hi (c2 k hkr) hn hf
                exact W.putK hx hb (f := f) ⟨hown, hts _ hw, ⟨_, _, _, hi⟩, hst⟩ (by rw [q2]; exact h6) q1 q3 (by rw [hsl]; exact k2_hasslot (q4 k hkr)) rfl rfl hdg fin
              · have hz2 : (r8.2.1 k).2.2.2 = true := by simpa using hz
                unfold u_lay at hlay
                rw [if_pos hz2] at hlay
                have hini : (am_mn.getD mid ⟨"", "", ""⟩).name = "<init>" ∧ own = cj := by
                  rcases hfin with z | z
                  · rw [List.getD_eq_getElem?_getD, hr8] at z
                    exact absurd z hz
                  · exact z
                obtain ⟨hin, rfl⟩ := hini
                have hcf : m.cls = cf := by
                  obtain ⟨_, _, c', _, _, _, -, -, hf', -, -, -, hown2, -⟩ := Cond.laysFinal_spec hlay
                  have e1 : c' = cf := by have := hi.symm.trans hf'; simp at this; exact this.1.symm
                  rw [c4 k hkr, ← c7] at hown2
                  rw [← e1]; exact Option.some.inj (hown.symm.trans hown2)
                have h6 := u_fits hfc hkC hkind (Or.inr hlay) hi (c2 k hkr) hn hf
                exact W.putFinK hx hb hown (hts _ hw) hi hst hcf (hname hin) (by rw [q2]; exact h6) q1 q3 (by rw [hsl]; exact k2_hasslot (q4 k hkr)) rfl rfl hdg fin
          · cases hq
        · cases hq
      · cases hq
    · cases hq
  · obtain rfl : 1 = len := hln
    split at hq
    · rename_i x i a r
      split at hq
      · rename_i n f hc
        split at hq
        · rename_i hcnd
          cases hq
          obtain ⟨hin, h2, h1⟩ := hcnd
          have hg := am_ws_get (fv := fv) (ad := am_ad ex base) (tc := tc) (base := base) h1 h2
          rw [hc] at hg
          have hcell : H[base + (a - 64)]? = some (vp_cell (tc 0) (n, .inl f)) := hP.1 (a - 64) _ hg
          show W p l e R s m args below meth c H locs cells slots Q (F0 m pc ls (.int x :: .int i :: .ref (am_ad ex base a) :: st'.map (am_rv fv (am_ad ex base))))
          rw [am_ad_hi h1]
          refine W.iast hx hb hcell ((hK.2 0 _ rfl).1 n (fun j => .int (f j))) (fun z => by cases z) (by show ¬ (i < 0 ∨ (arrV _ _ _).slots.size ≤ _); rw [arrV_size]; exact hin) rfl rfl hdg fun H1 e1 z oq => ?_
          refine kk ls H1 _ hl (am_stored hP h1 h2 ?_ z oq)
          show H1[base + (a - 64)]? = some (vp_cell (tc 0) (n, .inl (upd f i.toNatClampNeg x)))
          rw [e1, am_cell_i]
        · cases hq
      · cases hq
    · cases hq
  · obtain rfl : 1 = len := hln
    split at hq
    · rename_i x i a r
      split at hq
      · rename_i n f hc
        split at hq
        · rename_i hcnd
          cases hq
          obtain ⟨hin, h2, h1⟩ := hcnd
          have hg := am_ws_get (fv := fv) (ad := am_ad ex base) (tc := tc) (base := base) h1 h2
          rw [hc] at hg
          have hcell : H[base + (a - 64)]? = some (vp_cell (tc 2) (n, .inl f)) := hP.1 (a - 64) _ hg
          show W p l e R s m args below meth c H locs cells slots Q (F0 m pc ls (.int x :: .int i :: .ref (am_ad ex base a) :: st'.map (am_rv fv (am_ad ex base))))
          rw [am_ad_hi h1]
          refine W.bast hx hb hcell ((hK.2 2 _ rfl).1 n (fun j => .int (f j))) (fun z => by cases z) (by show ¬ (i < 0 ∨ (arrV _ _ _).slots.size ≤ _); rw [arrV_size]; exact hin) rfl rfl hdg fun H1 e1 z oq => ?_
          refine kk ls H1 _ hl (am_stored hP h1 h2 ?_ z oq)
          show H1[base + (a - 64)]? = some (vp_cell (tc 2) (n, .inl (upd f i.toNatClampNeg (vp_nar .byte x))))
          rw [e1, am_nar_b, am_cell_i]
        · cases hq
      · rename_i n f hc
        split at hq
        · rename_i hcnd
          cases hq
          obtain ⟨hin, h2, h1⟩ := hcnd
          have hg := am_ws_get (fv := fv) (ad := am_ad ex base) (tc := tc) (base := base) h1 h2
          rw [hc] at hg
          have hcell : H[base + (a - 64)]? = some (vp_cell (tc 3) (n, .inl f)) := hP.1 (a - 64) _ hg
          show W p l e R s m args below meth c H locs cells slots Q (F0 m pc ls (.int x :: .int i :: .ref (am_ad ex base a) :: st'.map (am_rv fv (am_ad ex base))))
          rw [am_ad_hi h1]
          refine W.zast hx hb hcell ((hK.2 3 _ rfl).1 n (fun j => .int (f j))) (fun z => by cases z) (by show ¬ (i < 0 ∨ (arrV _ _ _).slots.size ≤ _); rw [arrV_size]; exact hin) rfl rfl hdg fun H1 e1 z oq => ?_
          refine kk ls H1 _ hl (am_stored hP h1 h2 ?_ z oq)
          show H1[base + (a - 64)]? = some (vp_cell (tc 3) (n, .inl (upd f i.toNatClampNeg (vp_nar .boolean x))))
          rw [e1, am_nar_z, am_cell_i]
        · cases hq
      · cases hq
    · cases hq
  · obtain rfl : 1 = len := hln
    split at hq
    · rename_i x i a r
      split at hq
      · rename_i n f hc
        split at hq
        · rename_i hcnd
          cases hq
          obtain ⟨hin, h2, h1⟩ := hcnd
          have hg := am_ws_get (fv := fv) (ad := am_ad ex base) (tc := tc) (base := base) h1 h2
          rw [hc] at hg
          have hcell : H[base + (a - 64)]? = some (vp_cell (tc 1) (n, .inr (.inl f))) := hP.1 (a - 64) _ hg
          show W p l e R s m args below meth c H locs cells slots Q (F0 m pc ls (.long x :: .int i :: .ref (am_ad ex base a) :: st'.map (am_rv fv (am_ad ex base))))
          rw [am_ad_hi h1]
          refine W.last hx hb hcell ((hK.2 1 _ rfl).1 n (fun j => .long (f j))) (fun z => by cases z) (by show ¬ (i < 0 ∨ (arrV _ _ _).slots.size ≤ _); rw [arrV_size]; exact hin) rfl rfl hdg fun H1 e1 z oq => ?_
          refine kk ls H1 _ hl (am_stored hP h1 h2 ?_ z oq)
          show H1[base + (a - 64)]? = some (vp_cell (tc 1) (n, .inr (.inl (vp_updL f i.toNatClampNeg x))))
          rw [e1, am_cell_l]
        · cases hq
      · cases hq
    · cases hq
  · obtain rfl : 1 = len := hln
    split at hq
    · rename_i v i a r
      split at hq
      · rename_i t n f hc
        split at hq
        · rename_i ci vs hv
          split at hq
          · rename_i hcnd
            cases hq
            obtain ⟨hin, h2, h1, hv2, hv1, htc⟩ := hcnd
            have hg := am_ws_get (fv := fv) (ad := am_ad ex base) (tc := tc) (base := base) h1 h2
            rw [hc] at hg
            have hgv := am_ws_get (fv := fv) (ad := am_ad ex base) (tc := tc) (base := base) hv1 hv2
            rw [hv] at hgv
            obtain ⟨r9, hr9, cellV, g1, g2, g3, -⟩ := hP.1 (v - 64) _ hgv
            obtain ⟨r8, hr8, hty⟩ := am_aast_c (tc := tc) (f := f) (n := n) htc
            have hrr : r8 = r9 := Option.some.inj (hr8.symm.trans hr9)
            subst hrr
            have hcls := (hK.1 ci _ hr8).2
            obtain ⟨kA, comp, k1, k2, k3, -⟩ := (hK.2 t _ hty).2
            have hcomp : comp = D.1 ci := Option.some.inj (k3.symm.trans hcls.1)
            subst hcomp
            obtain ⟨kC, hkC, -⟩ := hcls.2
            have hcell : H[base + (a - 64)]? = some (vp_cell (tc t) (n, .inr (.inr (.inr (.inr (fun i => (f i).map (am_ad ex base))))))) := hP.1 (a - 64) _ hg
            have hlt : i.toNatClampNeg < n := Nat.not_le.mp fun q => hin (Or.inr q)
            have h0 : ¬ i < 0 := fun q => hin (Or.inl q)
            show W p l e R s m args below meth c H locs cells slots Q (F0 m pc ls (.ref (am_ad ex base v) :: .int i :: .ref (am_ad ex base a) :: st'.map (am_rv fv (am_ad ex base))))
            rw [am_ad_hi h1, am_ad_hi hv1]
            refine W.aast hx hb hcell (fun q z => by cases z) (fun z => by cases z) k1 k2 rfl hkC ⟨h0, by show _ < (arrV _ _ _).slots.size; rw [arrV_size]; exact hlt⟩ g1 (fun q z => by rw [g3] at z; cases z) (by rw [g2]; exact hkC) (by rw [g2]; exact va_assign hcls) rfl rfl hdg fun H1 e1 z oq => ?_
            refine kk ls H1 _ hl (am_stored hP h1 h2 ?_ z oq)
            show H1[base + (a - 64)]? = some (vp_cell (tc t) (n, .inr (.inr (.inr (.inr (fun j => (va_up f i.toNatClampNeg (some v) j).map (am_ad ex base)))))))
            rw [e1, am_cell_q]
            congr 2
            congr 5
            funext j
            unfold va_up
            by_cases hj : j = i.toNatClampNeg
            · rw [if_pos hj, if_pos hj]
              show some _ = some _
              rw [am_ad_hi hv1]
            · rw [if_neg hj, if_neg hj]
          · cases hq
        · cases hq
      · cases hq
    · cases hq
  · cases hq
end AmQ
