section AmR
variable {p : Program} {l : Launch} {e : Env} {R : Room} {s : State} {m : MethodId} {args : Array Value} {below : List Frame} {meth : Method} {c : Code} {H : Heap} {locs : List Loc} {cells slots : Nat} {Q : State → Prop}
variable {cc : ByteArray} {pc pc' len : Nat} {ls : Array Slot} {L L' st st' : List Value} {ins : Instr} {fv : Value} {own : Nat} {D : va_G} {tc : Nat → ClassId} {ex : Nat → Nat} {base : Nat} {X : Nat → va_E} {h : AmH}
theorem am_ad_lo {p : Nat} (hp : p < 64) : am_ad ex base p = ex p := if_pos hp
theorem am_ad_hi {p : Nat} (hp : 64 ≤ p) : am_ad ex base p = base + (p - 64) := if_neg (by omega)
theorem am_p6_ok (hx : p.tables.exec = Jvm.exec) (hb : c.code = cc) (hdg : decode cc pc = .ok (ins, len)) (hln : (am_ln ins).getD len = len)
    (hown : s.vm.findClass (am_cn.getD own "") = some m.cls) (hts : ∀ w ∈ am_T, w.before args s = true) (hE : am_E D tc ex base fv X s) (hS : va_S (fun q => base ≤ q) s.heap H locs)
    (h : am_p6 own pc L st ins = some (pc', L', st')) (hl : am_L fv (am_ad ex base) ls L)
    (kk : ∀ ls' : Array Slot, am_L fv (am_ad ex base) ls' L' → W p l e R s m args below meth c H locs cells slots Q (F0 m pc' ls' (st'.map (am_rv fv (am_ad ex base))))) : W p l e R s m args below meth c H locs cells slots Q (F0 m pc ls (st.map (am_rv fv (am_ad ex base)))) := by
  unfold am_p6 at h
  split at h
  · obtain rfl : 2 = len := hln
    split at h
    · rename_i v hk; cases h
      exact lv_ldc hx hb hown (hts _ (am_w_ok (am_kt_ok hk))) hdg (kk ls hl)
    · rename_i q hk; cases h
      have h9 := am_kt_ok hk
      unfold am_kc at h9
      simp only [List.any_eq_true, Bool.and_eq_true, decide_eq_true_eq] at h9
      obtain ⟨r, hr, ⟨⟨h1, h2⟩, h3⟩, h4⟩ := h9
      have hZ := hE.2.2.2.2.1 r hr
      rw [h1, h2, h3] at hZ
      have k9 := kk ls hl
      simp only [List.map_cons, am_rv, am_ad_lo h4] at k9
      exact va_ldcS hx hb hown hZ hdg k9
    · cases h
  · obtain rfl : 3 = len := hln
    split at h
    · rename_i v hk; cases h
      exact lv_ldcw hx hb hown (hts _ (am_w_ok (am_kt_ok hk))) hdg (kk ls hl)
    · rename_i q hk; cases h
      have h9 := am_kt_ok hk
      unfold am_kc at h9
      simp only [List.any_eq_true, Bool.and_eq_true, decide_eq_true_eq] at h9
      obtain ⟨r, hr, ⟨⟨h1, h2⟩, h3⟩, h4⟩ := h9
      have hZ := hE.2.2.2.2.1 r hr
      rw [h1, h2, h3] at hZ
      have k9 := kk ls hl
      simp only [List.map_cons, am_rv, am_ad_lo h4] at k9
      intro T hT Y
      obtain ⟨t, a1, b1⟩ := k9 T hT Y
      exact ⟨t, Y.ldcStringW hx hown hZ.1 hZ.2 (g := F0 m pc ls (st.map (am_rv fv (am_ad ex base)))) rfl (by rw [hb]; exact hdg) t a1, b1⟩
    · cases h
  · obtain rfl : 3 = len := hln
    split at h
    · rename_i v hk; cases h
      exact lv_ldc2 hx hb hown (hts _ (am_w_ok (am_kt_ok hk))) hdg (kk ls hl)
    · cases h
  · obtain rfl : 3 = len := hln
    split at h
    · rename_i v hk; cases h
      rcases am_sf_ok hk with ⟨rfl, h9⟩ | ⟨rfl, h9⟩ | ⟨rfl, h9⟩ | ⟨rfl, h9⟩
      · cases h9
        exact va_gets hx hb hE.2.2.2.2.2.1.1 hS hown (hts _ am_s1) (fun _ q => q) hdg (kk ls hl)
      · cases h9
        exact va_getsN hx hb hE.2.2.2.2.2.1.1 hS hown (va_Nw.use rfl hE.2.2.1) (fun _ q => q) hdg (kk ls hl)
      · cases h9
        exact va_gets hx hb hE.2.2.2.2.2.1.2.1 hS hown (hts _ am_s2) (fun _ q => q) hdg (kk ls hl)
      · cases h9
        exact va_gets hx hb hE.2.2.2.2.2.1.2.2 hS hown (hts _ am_s3) (fun _ q => q) hdg (kk ls hl)
    · cases h
  · cases h
theorem am_rf {fv : Value} {ad : Nat → Nat} (r : Option Nat) : am_rv fv ad (va_rf r) = va_rf (r.map ad) := by cases r <;> rfl
theorem am_tys_get {tc : Nat → ClassId} {t : Nat} (h : t ≤ 6) : (am_tys tc)[t]? = some (tc t, am_tl.getD t .int) := by
  obtain rfl | rfl | rfl | rfl | rfl | rfl | rfl : t = 0 ∨ t = 1 ∨ t = 2 ∨ t = 3 ∨ t = 4 ∨ t = 5 ∨ t = 6 := by omega
  all_goals rfl
theorem am_t456 {t : Nat} (h1 : 4 ≤ t) (h2 : t ≤ 6) : t = 4 ∨ t = 5 ∨ t = 6 := by omega
theorem am_map_get {fv : Value} {ad : Nat → Nat} {fs : List Value} {k : Nat} {v : Value} (h : fs[k]? = some v) : (fs.map (am_rv fv ad))[k]? = some (am_rv fv ad v) := by rw [List.getElem?_map, h]; rfl
theorem am_p7_ok (hx : p.tables.exec = Jvm.exec) (hb : c.code = cc) (hdg : decode cc pc = .ok (ins, len)) (hln : (am_ln ins).getD len = len)
    (hown : s.vm.findClass (am_cn.getD own "") = some m.cls) (hts : ∀ w ∈ am_T, w.before args s = true) (hE : am_E D tc ex base fv X s) (hS : va_S (fun q => base ≤ q) s.heap H locs)
    (hP : va_P D am_cl (am_ws fv (am_ad ex base) tc base h) H)
    (h7 : am_p7 X own pc L st h ins = some (pc', L', st')) (hl : am_L fv (am_ad ex base) ls L)
    (kk : ∀ ls' : Array Slot, am_L fv (am_ad ex base) ls' L' → W p l e R s m args below meth c H locs cells slots Q (F0 m pc' ls' (st'.map (am_rv fv (am_ad ex base))))) : W p l e R s m args below meth c H locs cells slots Q (F0 m pc ls (st.map (am_rv fv (am_ad ex base)))) := by
  have hK := hE.1
  have hS1 := hS
  unfold am_p7 at h7
  split at h7
  · obtain rfl : 3 = len := hln
    split at h7
    · rename_i q r
      split at h7
      · rename_i ci k hk
        split at h7
        · rename_i cj fs hc
          split at h7
          · rename_i hq
            split at h7
            · rename_i v hv
              cases h7
              obtain ⟨rfl, hq2⟩ := hq
              have k9 := kk ls hl
              unfold am_c at hc
              split at hc
              · rename_i hlo
                rcases am_ft_ok hk with ⟨rfl, hk2, hw⟩ | ⟨hne, r9, hr9, hkr, hw⟩
                · have h14 := (hE.2.2.2.2.2.2.2.2.2.1 q fs hlo hc).2 k v hv hk2
                  show W p l e R s m args below meth c H locs cells slots Q (F0 m pc ls (.ref (am_ad ex base q) :: r.map (am_rv fv (am_ad ex base))))
                  rw [am_ad_lo hlo]
                  exact vk_getf hx hb h14 hS hown (hts _ hw) (fun _ z => z) hdg k9
                · have z1 : cj < 13 := (List.getElem?_eq_some_iff.mp hr9).1
                  have z2 := hE.2.2.2.2.2.2.2.2.1 q cj fs hlo hc
                  omega
              · rename_i hhi
                have hhi : 64 ≤ q := Nat.not_lt.mp hhi
                rcases am_ft_ok hk with ⟨rfl, hk2, hw⟩ | ⟨hne, r9, hr9, hkr, hw⟩
                · obtain ⟨rr, hrr, -⟩ := hP (q - 64) _ (by rw [am_ws_get hhi hq2, hc])
                  exact absurd (List.getElem?_eq_some_iff.mp hrr).1 (show ¬ ((13 : Nat) < 13) by decide)
                · have hg := am_ws_get (fv := fv) (ad := am_ad ex base) (tc := tc) (base := base) hhi hq2
                  rw [hc] at hg
                  show W p l e R s m args below meth c H locs cells slots Q (F0 m pc ls (.ref (am_ad ex base q) :: r.map (am_rv fv (am_ad ex base))))
                  rw [am_ad_hi hhi]
                  exact va_get (D := D) (C := r9.1) (T := r9.2.1) (N := r9.2.2) hx hb hts (am_cl_ok hr9).1 hown hK hP (q - 64) hg hr9 k hkr (hts _ hw) (fun _ z => z) (am_map_get hv) hdg k9
            · cases h7
          · cases h7
        · cases h7
      · cases h7
    · cases h7
  · obtain rfl : 1 = len := hln
    split at h7
    · rename_i q r
      split at h7
      · rename_i t n y hc
        split at h7
        · rename_i hq2
          cases h7
          have k9 := kk ls hl
          unfold am_c at hc
          split at hc
          · rename_i hlo
            cases y with
            | inr y => exact absurd hc (hE.2.2.2.2.2.2.2.1 q t n y hlo)
            | inl f =>
              obtain ⟨cell, g1, g2, g3, g4, g5, g6, g7⟩ := (hE.2.2.2.2.2.2.1 q t n f hlo hc).2.kept (H1 := H) (fun a z1 z2 => hS.2.1 a z1 z2)
              show W p l e R s m args below meth c H locs cells slots Q (F0 m pc ls (.ref (am_ad ex base q) :: r.map (am_rv fv (am_ad ex base))))
              rw [am_ad_lo hlo]
              exact W.alen hx hb g1 g2 g5 rfl rfl hdg k9
          · rename_i hhi
            have hhi : 64 ≤ q := Nat.not_lt.mp hhi
            have hg := am_ws_get (fv := fv) (ad := am_ad ex base) (tc := tc) (base := base) hhi hq2.1
            rw [hc] at hg
            show W p l e R s m args below meth c H locs cells slots Q (F0 m pc ls (.ref (am_ad ex base q) :: r.map (am_rv fv (am_ad ex base))))
            rw [am_ad_hi hhi]
            exact va_alen hx hb hK hP (q - 64) t hg (am_tys_get hq2.2) rfl hdg k9
        · cases h7
      · cases h7
    · cases h7
  · obtain rfl : 1 = len := hln
    split at h7
    · rename_i i q r
      split at h7
      · rename_i n f hc
        split at h7
        · rename_i hq2
          cases h7
          have k9 := kk ls hl
          unfold am_c at hc
          split at hc
          · rename_i hlo
            obtain ⟨cell, g1, g2, g3, g4, g5, g6, g7⟩ := (hE.2.2.2.2.2.2.1 q _ n f hlo hc).2.kept (H1 := H) (fun a z1 z2 => hS.2.1 a z1 z2)
            show W p l e R s m args below meth c H locs cells slots Q (F0 m pc ls (.int i :: .ref (am_ad ex base q) :: r.map (am_rv fv (am_ad ex base))))
            rw [am_ad_lo hlo]
            have hlt : i.toNatClampNeg < n := Nat.not_le.mp fun z => hq2.1 (Or.inr z)
            exact W.iald hx hb g1 g2 g3 (fun z => z.elim (fun z => hq2.1 (Or.inl z)) (fun z => hq2.1 (Or.inr (Nat.le_trans g4 z)))) (g6 _ hlt) rfl rfl hdg k9
          · rename_i hhi
            have hhi : 64 ≤ q := Nat.not_lt.mp hhi
            have hg := am_ws_get (fv := fv) (ad := am_ad ex base) (tc := tc) (base := base) hhi hq2.2
            rw [hc] at hg
            show W p l e R s m args below meth c H locs cells slots Q (F0 m pc ls (.int i :: .ref (am_ad ex base q) :: r.map (am_rv fv (am_ad ex base))))
            rw [am_ad_hi hhi]
            exact va_iald hx hb hK hP (q - 64) 0 hg rfl hq2.1 hdg k9
        · cases h7
      · cases h7
    · cases h7
  · obtain rfl : 1 = len := hln
    split at h7
    · rename_i i q r
      split at h7
      · rename_i n f hc
        split at h7
        · rename_i hq2
          cases h7
          have k9 := kk ls hl
          unfold am_c at hc
          split at hc
          · rename_i hlo
            obtain ⟨cell, g1, g2, g3, g4, g5, g6, g7⟩ := (hE.2.2.2.2.2.2.1 q _ n f hlo hc).2.kept (H1 := H) (fun a z1 z2 => hS.2.1 a z1 z2)
            show W p l e R s m args below meth c H locs cells slots Q (F0 m pc ls (.int i :: .ref (am_ad ex base q) :: r.map (am_rv fv (am_ad ex base))))
            rw [am_ad_lo hlo]
            have hlt : i.toNatClampNeg < n := Nat.not_le.mp fun z => hq2.1 (Or.inr z)
            exact W.bald hx hb g1 g2 g3 (fun z => z.elim (fun z => hq2.1 (Or.inl z)) (fun z => hq2.1 (Or.inr (Nat.le_trans g4 z)))) (g6 _ hlt) rfl rfl hdg k9
          · rename_i hhi
            have hhi : 64 ≤ q := Nat.not_lt.mp hhi
            have hg := am_ws_get (fv := fv) (ad := am_ad ex base) (tc := tc) (base := base) hhi hq2.2
            rw [hc] at hg
            show W p l e R s m args below meth c H locs cells slots Q (F0 m pc ls (.int i :: .ref (am_ad ex base q) :: r.map (am_rv fv (am_ad ex base))))
            rw [am_ad_hi hhi]
            exact va_bald hx hb hK hP (q - 64) 2 hg rfl hq2.1 hdg k9
        · cases h7
      · rename_i n f hc
        split at h7
        · rename_i hq2
          cases h7
          have k9 := kk ls hl
          have hhi : 64 ≤ q := hq2.2.2
          unfold am_c at hc
          rw [if_neg (Nat.not_lt.mpr hhi)] at hc
          have hg := am_ws_get (fv := fv) (ad := am_ad ex base) (tc := tc) (base := base) hhi hq2.2.1
          rw [hc] at hg
          show W p l e R s m args below meth c H locs cells slots Q (F0 m pc ls (.int i :: .ref (am_ad ex base q) :: r.map (am_rv fv (am_ad ex base))))
          rw [am_ad_hi hhi]
          exact va_zald hx hb hK hP (q - 64) 3 hg rfl hq2.1 hdg k9
        · cases h7
      · cases h7
    · cases h7
  · obtain rfl : 1 = len := hln
    split at h7
    · rename_i i q r
      split at h7
      · rename_i n f hc
        split at h7
        · rename_i hq2
          cases h7
          have k9 := kk ls hl
          have hhi : 64 ≤ q := hq2.2.2
          unfold am_c at hc
          rw [if_neg (Nat.not_lt.mpr hhi)] at hc
          have hg := am_ws_get (fv := fv) (ad := am_ad ex base) (tc := tc) (base := base) hhi hq2.2.1
          rw [hc] at hg
          show W p l e R s m args below meth c H locs cells slots Q (F0 m pc ls (.int i :: .ref (am_ad ex base q) :: r.map (am_rv fv (am_ad ex base))))
          rw [am_ad_hi hhi]
          exact va_lald hx hb hK hP (q - 64) 1 hg rfl hq2.1 hdg k9
        · cases h7
      · cases h7
    · cases h7
  · obtain rfl : 1 = len := hln
    split at h7
    · rename_i i q r
      split at h7
      · rename_i t n f hc
        split at h7
        · rename_i hq2
          cases h7
          have k9 := kk ls hl
          rw [List.map_cons, am_rf] at k9
          have hhi : 64 ≤ q := hq2.2.2.1
          unfold am_c at hc
          rw [if_neg (Nat.not_lt.mpr hhi)] at hc
          have hg := am_ws_get (fv := fv) (ad := am_ad ex base) (tc := tc) (base := base) hhi hq2.2.1
          rw [hc] at hg
          show W p l e R s m args below meth c H locs cells slots Q (F0 m pc ls (.int i :: .ref (am_ad ex base q) :: r.map (am_rv fv (am_ad ex base))))
          rw [am_ad_hi hhi]
          obtain rfl | rfl | rfl : t = 4 ∨ t = 5 ∨ t = 6 := am_t456 hq2.2.2.2.1 hq2.2.2.2.2
          · exact va_aldq hx hb hK hP (q - 64) 4 hg rfl hq2.1 hdg k9
          · exact va_aldq hx hb hK hP (q - 64) 5 hg rfl hq2.1 hdg k9
          · exact va_aldq hx hb hK hP (q - 64) 6 hg rfl hq2.1 hdg k9
        · cases h7
      · cases h7
    · cases h7
  · cases h7
end AmR
