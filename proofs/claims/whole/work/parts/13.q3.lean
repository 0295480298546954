section AmQ3
variable {p : Program} {l : Launch} {e : Env} {R : Room} {s : State} {m : MethodId} {args : Array Value} {below : List Frame} {meth : Method} {c : Code} {H : Heap} {locs : List Loc} {cells slots : Nat} {Q : State → Prop}
variable {cc : ByteArray} {pc pc' len : Nat} {ls : Array Slot} {L L' st st' : List Value} {ins : Instr} {fv : Value} {own mid : Nat} {D : va_G} {tc : Nat → ClassId} {ex : Nat → Nat} {base : Nat} {X : Nat → va_E} {h h' : AmH}
theorem am_code_T {mid : Nat} {q : Nat × ByteArray × Nat × Option FieldType × Nat} {y : MethodName} (hm : mid < 267) (h1 : am_md[mid]? = some q) (h2 : am_mn[mid]? = some y) : (Cond.code y q.2.1 q.2.2.1 q.2.2.2.1) ∈ am_T := by
  have h3 := am_cn_267 mid hm
  unfold am_cq at h3
  rw [h1, h2] at h3
  exact List.mem_filter.mpr ⟨h3, rfl⟩
theorem am_static_ac : (Cond.static arraycopyName) ∈ am_T := am_w_ok (k := 661) (by decide +kernel)
theorem am_native_ac : (Cond.native arraycopyName) ∈ am_T := am_w_ok (k := 662) (by decide +kernel)
theorem am_init_sys : (Cond.initialized "java/lang/System") ∈ am_T := am_w_ok (k := 125) (by decide +kernel)
theorem am_init_math : (Cond.initialized "java/lang/Math") ∈ am_T := am_w_ok (k := 127) (by decide +kernel)
theorem am_static_min : (Cond.static Lib.Math.min.name) ∈ am_T := am_w_ok (k := 751) (by decide +kernel)
theorem am_inst_obj : (Cond.instanceMethod objectInit) ∈ am_T := am_w_ok (k := 135) (by decide +kernel)
theorem am_code_obj : (Cond.code objectInit ⟨#[0xb1]⟩ 1 none) ∈ am_T := am_code_T (mid := 1) (q := (20, object_method_1_code, 1, none, 1)) (by decide) rfl rfl
theorem am_code_min : (Cond.code Lib.Math.min.name Lib.Math.min.code 2 (some .int)) ∈ am_T := am_code_T (mid := 71) (q := (16, prog_17_method_69_code, 2, some .int, 2)) (by decide) rfl rfl
theorem am_copy {i : Nat} (hx : p.tables.exec = Jvm.exec) (hb : c.code = cc) (hml : c.maxLocals = ls.size) (hdg : decode cc pc = .ok (.invokestatic i, 3)) (hown : s.vm.findClass (am_cn.getD own "") = some m.cls) (hts : ∀ w ∈ am_T, w.before args s = true) (hE : am_E D tc ex base fv X s) (hP : am_P D tc ex base fv h s.heap H locs)
    (hlw : (Cond.methodLink (am_cn.getD own "") i arraycopyName) ∈ am_T) {a a0 n0 n1 : Nat} {f g : Nat → Int32} (ha : 64 ≤ a) (ha2 : a < h.2.1) (hb0 : 64 ≤ a0) (hb2 : a0 < h.2.1) (hc : h.1 a = .inl (0, n1, .inl g)) (hc0 : h.1 a0 = .inl (0, n0, .inl f))
    {sp dp n : Int32} {r : List Value} (h1 : ¬ sp < 0) (h2 : ¬ dp < 0) (h3 : ¬ n < 0) (h4 : sp.toNatClampNeg + n.toNatClampNeg ≤ n0) (h5 : dp.toNatClampNeg + n.toNatClampNeg ≤ n1) (hfr : 1 ≤ R.frames) (hlo : (r.map fun v => v.category).sum + (nativeFrameWords "java/lang/System" "arraycopy" 5 + 11) ≤ R.locals)
    (kk : ∀ (H' : Heap) (locs' : List Loc), am_P D tc ex base fv (am_up h a (.inl (0, n1, .inl (va_cpy f g sp.toNatClampNeg dp.toNatClampNeg n.toNatClampNeg)))) s.heap H' locs' → W p l e R s m args below meth c H' locs' cells slots Q (F0 m (pc + 3) ls r)) : W p l e R s m args below meth c H locs cells slots Q (F0 m pc ls (.int n :: .int dp :: .ref (am_ad ex base a) :: .int sp :: .ref (am_ad ex base a0) :: r)) := by
  have nn : ∀ z : Int32, ¬ z < 0 → z.toInt = (z.toNatClampNeg : Int) := by
    intro z hz
    have hz0 : (0 : Int) ≤ z.toInt := by
      have := Int32.not_lt.mp hz
      simpa using Int32.le_iff_toInt_le.mp this
    show z.toInt = ((z.toInt.toNat : Nat) : Int)
    omega
  rw [am_ad_hi ha, am_ad_hi hb0]
  have hg := am_ws_get (fv := fv) (ad := am_ad ex base) (tc := tc) (base := base) ha ha2
  rw [hc] at hg
  have hg0 := am_ws_get (fv := fv) (ad := am_ad ex base) (tc := tc) (base := base) hb0 hb2
  rw [hc0] at hg0
  have d0 : H[base + (a0 - 64)]? = some (vp_cell (tc 0) (n0, .inl f)) := hP.1 _ _ hg0
  have d1 : H[base + (a - 64)]? = some (vp_cell (tc 0) (n1, .inl g)) := hP.1 _ _ hg
  obtain ⟨-, k0, hk0, cm0, hkk0⟩ := (hE.1.2 0 _ rfl).1 n0 (fun j => .int (f j))
  intro T hT Y
  obtain ⟨vm', Y', step⟩ := Y.arraycopy hx hown (hts _ hlw) (hts _ am_native_ac) (hts _ am_static_ac) (hts _ am_init_sys) (src := base + (a0 - 64)) (dst := base + (a - 64)) (cs := vp_cell (tc 0) (n0, .inl f)) (cd := vp_cell (tc 0) (n1, .inl g)) (srcPos := sp) (destPos := dp) (n := n) (by rw [hT]; exact d0) (by rw [hT]; exact d1)
    (fun _ z => by cases z) (fun _ z => by cases z) (fun z => by cases z) (fun z => by cases z) hk0 hk0 hkk0 hkk0 (by simp [refKind]) h1 h2 h3
    (by rw [nn sp h1, nn n h3]; show ¬ _ > ((arrV (tc 0) n0 (fun j => .int (f j))).slots.size : Int); rw [arrV_size]; omega)
    (by rw [nn dp h2, nn n h3]; show ¬ _ > ((arrV (tc 0) n1 (fun j => .int (g j))).slots.size : Int); rw [arrV_size]; omega)
    (fun vm₁ _ i hi => by
      have e : (vp_cell (tc 0) (n0, .inl f)).slots.getD (sp.toNatClampNeg + i) .null = .int (f (sp.toNatClampNeg + i)) := by
        show (arrV (tc 0) n0 (fun j => .int (f j))).slots.getD _ _ = _
        rw [Array.getD_eq_getD_getElem?, arrV_read _ _ (by omega)]
        rfl
      refine ⟨?_, ?_⟩
      · rw [e]; rfl
      · rw [e]; exact trivial)
    (g := F0 m pc ls (.int n :: .int dp :: .ref (base + (a - 64)) :: .int sp :: .ref (base + (a0 - 64)) :: r)) rfl (by rw [hml]) (rest := r) rfl (by rw [hb]; exact hdg) hfr (by show 2 * 0 + _ + _ ≤ _; omega)
  have e1 : copied (vp_cell (tc 0) (n0, .inl f)) (vp_cell (tc 0) (n1, .inl g)) sp dp n = vp_cell (tc 0) (n1, .inl (va_cpy f g sp.toNatClampNeg dp.toNatClampNeg n.toNatClampNeg)) := va_copied (fun z => .int z) (tc 0) (tc 0) f g h4
  rw [e1] at Y' step
  generalize hv : vp_cell (tc 0) (n1, .inl (va_cpy f g sp.toNatClampNeg dp.toNatClampNeg n.toNatClampNeg)) = cv at Y' step
  have hlt : base + (a - 64) < H.size := (Array.getElem?_eq_some_iff.mp d1).1
  have hh : ((T.setVm vm').setCell (base + (a - 64)) cv).heap = H.setIfInBounds (base + (a - 64)) cv := by rw [← hT]; rfl
  have oq : ∀ q : Nat, q ≠ base + (a - 64) → (H.setIfInBounds (base + (a - 64)) cv)[q]? = H[q]? := fun q hq => by simp [Array.getElem?_setIfInBounds, Ne.symm hq]
  have hS1 := am_stored (k := 0) (en := .inl (0, n1, .inl (va_cpy f g sp.toNatClampNeg dp.toNatClampNeg n.toNatClampNeg))) (H1 := H.setIfInBounds (base + (a - 64)) cv) hP ha ha2 (by
    show (H.setIfInBounds (base + (a - 64)) cv)[base + (a - 64)]? = some (vp_cell (tc 0) (n1, .inl (va_cpy f g sp.toNatClampNeg dp.toNatClampNeg n.toNatClampNeg)))
    rw [hv]
    simp [Array.getElem?_setIfInBounds, hlt]) (by simp) oq
  obtain ⟨t, a1, b1⟩ := kk _ _ ⟨hS1.1, ⟨hS1.2.1.1, hS1.2.1.2.1, fun q hq => by
      rcases List.mem_append.mp hq with z | z
      · exact hP.2.1.2.2 q z
      · obtain ⟨w, -, hw⟩ := List.mem_map.mp z
        rw [← hw]
        exact Nat.le_add_right _ _⟩, hS1.2.2.1, hS1.2.2.2⟩ _ hh Y'
  exact ⟨t, step t a1, b1⟩
theorem am_q3_2 (hq : am_q3 own pc L st h ins = some ((pc', L', st'), h')) : h'.2 = h.2 := by
  unfold am_q3 at hq
  split at hq
  · split at hq
    · split at hq
      · split at hq
        · cases hq; rfl
        · cases hq
      · cases hq
    · cases hq
  · split at hq
    · split at hq
      · split at hq
        · split at hq
          · split at hq
            · cases hq; rfl
            · cases hq
          · cases hq
        · cases hq
      · cases hq
    · split at hq
      · split at hq
        · cases hq; rfl
        · cases hq
      · cases hq
    · cases hq
  · cases hq
theorem am_cat_sum {fv : Value} {ad : Nat → Nat} (hfv : fv = .null ∨ ∃ t, fv = .ref t) (r : List Value) : ((r.map (am_rv fv ad)).map fun v => v.category).sum = (r.map fun v => v.category).sum := by
  rw [List.map_map]
  congr 1
  apply List.map_congr_left
  intro v _
  exact am_rv_cat hfv v
set_option maxHeartbeats 1000000 in
theorem am_q3_ok (hx : p.tables.exec = Jvm.exec) (hb : c.code = cc) (hml : c.maxLocals = ls.size) (hdg : decode cc pc = .ok (ins, len)) (hln : (am_ln ins).getD len = len)
    (hown : s.vm.findClass (am_cn.getD own "") = some m.cls) (hts : ∀ w ∈ am_T, w.before args s = true) (hE : am_E D tc ex base fv X s) (hP : am_P D tc ex base fv h s.heap H locs) (hfr : 1 ≤ R.frames) (hlo : 64 ≤ R.locals) (hrc : cells ≤ R.cells) (hrs : slots ≤ R.slots)
    (hq : am_q3 own pc L st h ins = some ((pc', L', st'), h')) (hl : am_L fv (am_ad ex base) ls L)
    (kk : ∀ (ls' : Array Slot) (H' : Heap) (locs' : List Loc), am_L fv (am_ad ex base) ls' L' → am_P D tc ex base fv h' s.heap H' locs' → W p l e R s m args below meth c H' locs' cells slots Q (F0 m pc' ls' (st'.map (am_rv fv (am_ad ex base))))) : W p l e R s m args below meth c H locs cells slots Q (F0 m pc ls (st.map (am_rv fv (am_ad ex base)))) := by
  have hfv := hE.2.2.2.2.2.2.2.2.2.2.2
  unfold am_q3 at hq
  split at hq
  · obtain rfl : 3 = len := hln
    split at hq
    · rename_i i z hk
      split at hq
      · split at hq
        · rename_i hs
          cases hq
          have hw := am_ml_ok hk
          unfold am_lc at hw
          simp only [if_true] at hw
          refine W.objInit hx hb hown (hts _ (am_w_ok hw)) (hts _ am_inst_obj) (hts _ am_code_obj) rfl hml.symm rfl hdg hfr ?_ (kk ls H locs hl hP)
          show 2 * 0 + ((st'.map (am_rv fv (am_ad ex base))).map fun v => v.category).sum + 12 ≤ R.locals
          rw [am_cat_sum hfv]
          omega
        · cases hq
      · cases hq
    · cases hq
  · obtain rfl : 3 = len := hln
    split at hq
    · rename_i i z hk
      split at hq
      · rename_i n dp a sp a0 r
        split at hq
        · rename_i n0 f hc0
          split at hq
          · rename_i n1 g hc
            split at hq
            · rename_i hcnd
              cases hq
              obtain ⟨c1, c2, c3, c4, c5, c6, c7, c8, c9⟩ := hcnd
              unfold am_c at hc0
              split at hc0
              · cases hc0
              · rename_i h0
                have hw := am_ml_ok hk
                unfold am_lc at hw
                simp only [if_true, if_false, show ¬ ((10 : Nat) = 9) by decide] at hw
                refine am_copy (own := own) hx hb hml hdg hown hts hE hP (am_w_ok hw) c2 c1 (Nat.not_lt.mp h0) c3 hc hc0 c4 c5 c6 c7 c8 hfr ?_ (fun H' locs' hP' => kk ls H' locs' hl hP')
                rw [am_cat_sum hfv]
                exact Nat.le_trans (Nat.add_le_add c9 (show nativeFrameWords "java/lang/System" "arraycopy" 5 + 11 ≤ 56 by decide)) hlo
            · cases hq
          · cases hq
        · cases hq
      · cases hq
    · rename_i i z hk
      split at hq
      · split at hq
        · rename_i hs
          cases hq
          have hw := am_ml_ok hk
          unfold am_lc at hw
          simp only [if_true, if_false, show ¬ ((11 : Nat) = 9) by decide, show ¬ ((11 : Nat) = 10) by decide] at hw
          refine va_mmin hx hb hml hown (hts _ (am_w_ok hw)) (hts _ am_static_min) (hts _ am_init_math) (hts _ am_code_min) hfr ?_ hrc hrs hdg (kk ls H locs hl hP)
          rw [am_cat_sum hfv]
          omega
        · cases hq
      · cases hq
    · cases hq
  · cases hq
end AmQ3
