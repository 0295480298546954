section AmQ2
variable {p : Program} {l : Launch} {e : Env} {R : Room} {s : State} {m : MethodId} {args : Array Value} {below : List Frame} {meth : Method} {c : Code} {H : Heap} {locs : List Loc} {cells slots : Nat} {Q : State → Prop}
variable {cc : ByteArray} {pc pc' len : Nat} {ls : Array Slot} {L L' st st' : List Value} {ins : Instr} {fv : Value} {own mid : Nat} {D : va_G} {tc : Nat → ClassId} {ex : Nat → Nat} {base : Nat} {X : Nat → va_E} {h h' : AmH}
theorem am_dv (fv : Value) (ad : Nat → Nat) (ty : FieldType) : am_rv fv ad (defaultValue ty) = defaultValue ty := by cases ty <;> rfl
theorem am_newarr {atype : ArrayType} {t : Nat} {a0 : vp_A} (hx : p.tables.exec = Jvm.exec) (hb : c.code = cc) (hdg : decode cc pc = .ok (.newarray atype, 2)) (hts : ∀ w ∈ am_T, w.before args s = true) (hE : am_E D tc ex base fv X s) (hP : am_P D tc ex base fv h s.heap H locs)
    {n : Int32} {r : List Value} (hw : (Cond.arrayClass (newarray.typeOf atype)) ∈ am_T) (hty : (am_tys tc)[t]? = some (tc t, newarray.typeOf atype)) (hRA : ∀ U cA, va_RA U cA (newarray.typeOf atype) = (U.vm.findClass ("[" ++ (newarray.typeOf atype).toString) = some cA)) (ha : am_ra (am_ad ex base) a0 = a0) (ha2 : ∀ cA : ClassId, vp_cell cA a0 = arrV cA n.toNatClampNeg (fun _ => defaultValue (newarray.typeOf atype))) (hcb : componentBytes (newarray.typeOf atype) ≤ 8)
    (hn : ¬ (n < 0 ∨ 10000000 < n.toNatClampNeg)) (hr1 : cells + 1 ≤ R.cells) (hr2 : slots + n.toNatClampNeg ≤ R.slots)
    (kk : ∀ (H' : Heap), am_P D tc ex base fv (am_pu h (.inl (t, a0)) n.toNatClampNeg) s.heap H' locs → W p l e R s m args below meth c H' locs (cells + 1) (slots + n.toNatClampNeg) Q (F0 m (pc + 2) ls (.ref (am_ad ex base h.2.1) :: r))) : W p l e R s m args below meth c H locs cells slots Q (F0 m pc ls (.int n :: r)) := by
  have hsz := hP.2.2.1
  refine va_newaK hx hb (hts _ hw) rfl hdg rfl (fun z => hn (Or.inl z)) rfl ?_ hr1 hr2 rfl fun H1 cA e1 z1 o1 hAr hNm => ?_
  · have h1 : n.toNatClampNeg ≤ 10000000 := Nat.not_lt.mp (fun z => hn (Or.inr z))
    exact Nat.le_trans (Nat.mul_le_mul h1 hcb) (by decide)
  · have hRA2 := (hE.1.2 t _ hty).2
    rw [hRA] at hRA2
    have hcA : cA = tc t := Option.some.inj (hNm.symm.trans hRA2)
    subst hcA
    have k9 := kk H1 (am_made hP hE.2.2.2.2.2.2.2.2.2.2.1 (by
      show H1[base + (h.2.1 - 64)]? = some (vp_cell (tc t) (am_ra (am_ad ex base) a0))
      rw [ha, ha2, ← hsz]
      exact e1) z1 o1)
    rw [am_ad_hi hP.2.2.2, ← hsz] at k9
    exact k9
theorem am_anew {C : String} {t i : Nat} {ci : Nat} (hx : p.tables.exec = Jvm.exec) (hb : c.code = cc) (hdg : decode cc pc = .ok (.anewarray i, 3)) (hown : s.vm.findClass (am_cn.getD own "") = some m.cls) (hts : ∀ w ∈ am_T, w.before args s = true) (hE : am_E D tc ex base fv X s) (hP : am_P D tc ex base fv h s.heap H locs)
    {n : Int32} {r : List Value} (hct : am_lk i (am_ct.getD own []) = some ci) (hC : am_cn.getD ci "" = C) (hover : va_AO C s) (hty : (am_tys tc)[t]? = some (tc t, .object C))
    (hn : ¬ (n < 0 ∨ 10000000 < n.toNatClampNeg)) (hr1 : cells + 1 ≤ R.cells) (hr2 : slots + n.toNatClampNeg ≤ R.slots)
    (kk : ∀ (H' : Heap), am_P D tc ex base fv (am_pu h (.inl (t, n.toNatClampNeg, .inr (.inr (.inr (.inr (fun _ => none)))))) n.toNatClampNeg) s.heap H' locs → W p l e R s m args below meth c H' locs (cells + 1) (slots + n.toNatClampNeg) Q (F0 m (pc + 3) ls (.ref (am_ad ex base h.2.1) :: r))) : W p l e R s m args below meth c H locs cells slots Q (F0 m pc ls (.int n :: r)) := by
  have hsz := hP.2.2.1
  have hcl := am_ct_ok hct
  rw [hC] at hcl
  have h1 : n.toNatClampNeg ≤ 10000000 := Nat.not_lt.mp (fun z => hn (Or.inr z))
  refine W.anew hx hb hown (hts _ hcl) (va_AO.use hover) rfl hdg rfl (fun z => hn (Or.inl z)) (by omega) hr1 hr2 fun cA kA comp f1 f2 f3 f4 => ?_
  generalize hH1 : H.push ({ cls := cA, slots := Array.replicate n.toNatClampNeg .null, vm := .none } : Cell) = H1
  have z1 : H1.size = H.size + 1 := by rw [← hH1, Array.size_push]
  have e1 : H1[H.size]? = some (arrV cA n.toNatClampNeg (fun _ => .null)) := by rw [← hH1, Array.getElem?_push_size, ← arrV_new]
  have o1 : ∀ x : Nat, x < H.size → H1[x]? = H[x]? := fun x hx => by rw [← hH1, Array.getElem?_push, if_neg (Nat.ne_of_lt hx)]
  obtain ⟨kA', comp', k1, k2, k3, k4⟩ := (hE.1.2 t _ hty).2
  have hcA : cA = tc t := Option.some.inj (f1.symm.trans k4)
  subst hcA
  have k9 := kk H1 (am_made hP hE.2.2.2.2.2.2.2.2.2.2.1 (by
    show H1[base + (h.2.1 - 64)]? = some (vp_cell (tc t) (n.toNatClampNeg, .inr (.inr (.inr (.inr (fun _ => none))))))
    rw [vp_cell_q, ← hsz]
    exact e1) z1 o1)
  rw [am_ad_hi hP.2.2.2, ← hsz] at k9
  exact k9
theorem am_q2_2 (hq : am_q2 own pc L st h ins = some ((pc', L', st'), h')) : h'.2.1 = h.2.1 + 1 ∧ h.2.2 ≤ h'.2.2 := by
  unfold am_q2 at hq
  split at hq
  · split at hq
    · split at hq
      · cases hq; exact ⟨rfl, Nat.le_add_right _ _⟩
      · cases hq
    · cases hq
  · split at hq
    · split at hq
      · cases hq
      · split at hq
        · cases hq; exact ⟨rfl, Nat.le_add_right _ _⟩
        · cases hq; exact ⟨rfl, Nat.le_add_right _ _⟩
        · cases hq; exact ⟨rfl, Nat.le_add_right _ _⟩
        · cases hq; exact ⟨rfl, Nat.le_add_right _ _⟩
        · cases hq
    · cases hq
  · split at hq
    · split at hq
      · cases hq
      · split at hq
        · cases hq; exact ⟨rfl, Nat.le_add_right _ _⟩
        · cases hq; exact ⟨rfl, Nat.le_add_right _ _⟩
        · cases hq; exact ⟨rfl, Nat.le_add_right _ _⟩
        · cases hq
    · cases hq
  · cases hq
set_option maxHeartbeats 1000000 in
theorem am_q2_ok (hx : p.tables.exec = Jvm.exec) (hb : c.code = cc) (hdg : decode cc pc = .ok (ins, len)) (hln : (am_ln ins).getD len = len)
    (hown : s.vm.findClass (am_cn.getD own "") = some m.cls) (hts : ∀ w ∈ am_T, w.before args s = true) (hE : am_E D tc ex base fv X s) (hP : am_P D tc ex base fv h s.heap H locs)
    (hq : am_q2 own pc L st h ins = some ((pc', L', st'), h')) (hl : am_L fv (am_ad ex base) ls L) (hr1 : cells + (h'.2.1 - h.2.1) ≤ R.cells) (hr2 : slots + (h'.2.2 - h.2.2) ≤ R.slots)
    (kk : ∀ (ls' : Array Slot) (H' : Heap) (locs' : List Loc), am_L fv (am_ad ex base) ls' L' → am_P D tc ex base fv h' s.heap H' locs' → W p l e R s m args below meth c H' locs' (cells + (h'.2.1 - h.2.1)) (slots + (h'.2.2 - h.2.2)) Q (F0 m pc' ls' (st'.map (am_rv fv (am_ad ex base))))) : W p l e R s m args below meth c H locs cells slots Q (F0 m pc ls (st.map (am_rv fv (am_ad ex base)))) := by
  have hsz := hP.2.2.1
  have d1 : h.2.1 + 1 - h.2.1 = 1 := by omega
  have d2 : ∀ k : Nat, h.2.2 + k - h.2.2 = k := fun k => by omega
  unfold am_q2 at hq
  split at hq
  · obtain rfl : 3 = len := hln
    split at hq
    · rename_i ci hct
      split at hq
      · rename_i r8 hr8
        cases hq
        simp only [am_pu, d1, d2] at hr1 hr2 kk
        obtain ⟨c1, c2, c3, c4, c5, c6, c7⟩ := am_cl_ok hr8
        have hKn := hE.1.1 ci _ hr8
        have hcl := am_ct_ok hct
        rw [c7] at hcl
        refine W.newcK hx hb hown (hts _ hcl) (hts _ c5) (hts _ c6) rfl hdg hr1 hr2 hKn.2.1 rfl fun H1 kC hkC e1 z1 o1 => ?_
        have k9 := kk ls H1 locs hl (am_made (k := r8.2.2) hP hE.2.2.2.2.2.2.2.2.2.2.1 (by
          refine ⟨_, hr8, ?_⟩
          rw [← hsz]
          refine (u_born _ hts c1 hKn hkC e1 c2).to (fun j hj => ?_)
          show _ = vp_V (List.map (am_rv fv (am_ad ex base)) (List.map _ (List.range r8.2.2))) j
          simp only [vp_V, List.getD_eq_getElem?_getD, List.getElem?_map, List.getElem?_range hj, Option.map_some, Option.getD_some, am_dv]) z1 o1)
        simp only [List.map_cons, am_rv, am_ad_hi hP.2.2.2, ← hsz] at k9
        exact k9
      · cases hq
    · cases hq
  · obtain rfl : 2 = len := hln
    split at hq
    · rename_i n r
      split at hq
      · cases hq
      · rename_i hn
        split at hq
        · cases hq
          simp only [am_pu, d1, d2] at hr1 hr2 kk
          exact am_newarr (t := 0) (a0 := (n.toNatClampNeg, .inl (fun _ => 0))) hx hb hdg hts hE hP am_a_int rfl (fun _ _ => rfl) rfl (fun _ => rfl) (by decide) hn hr1 hr2 (fun H' hP' => kk ls H' locs hl hP')
        · cases hq
          simp only [am_pu, d1, d2] at hr1 hr2 kk
          exact am_newarr (t := 1) (a0 := (n.toNatClampNeg, .inr (.inl (fun _ => 0)))) hx hb hdg hts hE hP am_a_long rfl (fun _ _ => rfl) rfl (fun _ => rfl) (by decide) hn hr1 hr2 (fun H' hP' => kk ls H' locs hl hP')
        · cases hq
          simp only [am_pu, d1, d2] at hr1 hr2 kk
          exact am_newarr (t := 2) (a0 := (n.toNatClampNeg, .inl (fun _ => 0))) hx hb hdg hts hE hP am_a_byte rfl (fun _ _ => rfl) rfl (fun _ => rfl) (by decide) hn hr1 hr2 (fun H' hP' => kk ls H' locs hl hP')
        · cases hq
          simp only [am_pu, d1, d2] at hr1 hr2 kk
          exact am_newarr (t := 3) (a0 := (n.toNatClampNeg, .inl (fun _ => 0))) hx hb hdg hts hE hP am_a_boolean rfl (fun _ _ => rfl) rfl (fun _ => rfl) (by decide) hn hr1 hr2 (fun H' hP' => kk ls H' locs hl hP')
        · cases hq
    · cases hq
  · obtain rfl : 3 = len := hln
    split at hq
    · rename_i n r
      split at hq
      · cases hq
      · rename_i hn
        split at hq
        · rename_i hct
          cases hq
          simp only [am_pu, d1, d2] at hr1 hr2 kk
          exact am_anew (t := 4) hx hb hdg hown hts hE hP hct rfl hE.2.2.2.1.1 rfl hn hr1 hr2 (fun H' hP' => kk ls H' locs hl hP')
        · rename_i hct
          cases hq
          simp only [am_pu, d1, d2] at hr1 hr2 kk
          exact am_anew (t := 5) hx hb hdg hown hts hE hP hct rfl hE.2.2.2.1.2.1 rfl hn hr1 hr2 (fun H' hP' => kk ls H' locs hl hP')
        · rename_i hct
          cases hq
          simp only [am_pu, d1, d2] at hr1 hr2 kk
          exact am_anew (t := 6) hx hb hdg hown hts hE hP hct rfl hE.2.2.2.1.2.2 rfl hn hr1 hr2 (fun H' hP' => kk ls H' locs hl hP')
        · cases hq
    · cases hq
  · cases hq
end AmQ2
