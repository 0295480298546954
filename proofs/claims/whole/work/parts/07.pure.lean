section AmP
variable {p : Program} {l : Launch} {e : Env} {R : Room} {s : State} {m : MethodId} {args : Array Value} {below : List Frame} {meth : Method} {c : Code} {H : Heap} {locs : List Loc} {cells slots : Nat} {Q : State → Prop}
variable {cc : ByteArray} {pc pc' len : Nat} {ls : Array Slot} {L L' st st' : List Value} {ins : Instr} {fv : Value} {ad : Nat → Nat} {own : Nat}
theorem am_p1_ok (hfv : fv = .null ∨ ∃ t, fv = .ref t) (hx : p.tables.exec = Jvm.exec) (hb : c.code = cc) (hdg : decode cc pc = .ok (ins, len)) (hln : (am_ln ins).getD len = len) (h : am_p1 own pc L st ins = some (pc', L', st')) (hl : am_L fv ad ls L)
    (kk : ∀ ls' : Array Slot, am_L fv ad ls' L' → W p l e R s m args below meth c H locs cells slots Q (F0 m pc' ls' (st'.map (am_rv fv ad)))) : W p l e R s m args below meth c H locs cells slots Q (F0 m pc ls (st.map (am_rv fv ad))) := by
  unfold am_p1 at h
  split at h
  · obtain rfl : 1 = len := hln; cases h; exact lv_iconst hx hb hdg rfl (kk ls hl)
  · obtain rfl : 2 = len := hln; cases h; exact lv_bipush hx hb hdg rfl (kk ls hl)
  · obtain rfl : 3 = len := hln; cases h; exact lv_sipush hx hb hdg rfl (kk ls hl)
  · obtain rfl : 1 = len := hln; cases h; exact lv_lconst hx hb hdg rfl (kk ls hl)
  · obtain rfl : 1 = len := hln; cases h; exact lv_null hx hb hdg (kk ls hl)
  · obtain rfl : 1 = len := hln
    split at h
    · rename_i hL; cases h; exact lv_iload_n hx hb hdg rfl (hl.2.2 _ _ hL (fun _ z => by cases z)) (kk ls hl)
    · cases h
  · obtain rfl : 2 = len := hln
    split at h
    · rename_i hL; cases h; exact lv_iload hx hb hdg (hl.2.2 _ _ hL (fun _ z => by cases z)) (kk ls hl)
    · cases h
  · obtain rfl : 1 = len := hln
    split at h
    · rename_i hL; cases h; exact lv_lload_n hx hb hdg rfl (hl.2.2 _ _ hL (fun _ z => by cases z)) (kk ls hl)
    · cases h
  · obtain rfl : 2 = len := hln
    split at h
    · rename_i hL; cases h; exact lv_lload hx hb hdg (hl.2.2 _ _ hL (fun _ z => by cases z)) (kk ls hl)
    · cases h
  · obtain rfl : 1 = len := hln
    split at h
    · rename_i hL; cases h; exact lv_aload_n hx hb hdg rfl (hl.2.2 _ _ hL (fun _ z => by cases z)) (kk ls hl)
    · rename_i hL; cases h; exact lv_aload_nN hx hb hdg rfl (hl.2.2 _ _ hL (fun _ z => by cases z)) (kk ls hl)
    · cases h
  · obtain rfl : 2 = len := hln
    split at h
    · rename_i hL; cases h; exact lv_aload hx hb hdg (hl.2.2 _ _ hL (fun _ z => by cases z)) (kk ls hl)
    · rename_i hL; cases h; exact lv_aloadN hx hb hdg (hl.2.2 _ _ hL (fun _ z => by cases z)) (kk ls hl)
    · cases h
  · cases h
theorem am_p2_ok (hfv : fv = .null ∨ ∃ t, fv = .ref t) (hx : p.tables.exec = Jvm.exec) (hb : c.code = cc) (hdg : decode cc pc = .ok (ins, len)) (hln : (am_ln ins).getD len = len) (h : am_p2 pc L st ins = some (pc', L', st')) (hl : am_L fv ad ls L)
    (kk : ∀ ls' : Array Slot, am_L fv ad ls' L' → W p l e R s m args below meth c H locs cells slots Q (F0 m pc' ls' (st'.map (am_rv fv ad)))) : W p l e R s m args below meth c H locs cells slots Q (F0 m pc ls (st.map (am_rv fv ad))) := by
  unfold am_p2 at h
  split at h
  · obtain rfl : 1 = len := hln
    split at h
    · split at h
      · rename_i x r hi; cases h; exact lv_istore_n hx hb hdg rfl (am_L_has hl) hi rfl (fun ls' h9 => kk ls' (am_L_store (v := .int x) hfv h9))
      · cases h
    · cases h
  · obtain rfl : 2 = len := hln
    split at h
    · split at h
      · rename_i x r hi; cases h; exact lv_istore hx hb hdg (am_L_has hl) hi rfl (fun ls' h9 => kk ls' (am_L_store (v := .int x) hfv h9))
      · cases h
    · cases h
  · obtain rfl : 1 = len := hln
    split at h
    · split at h
      · rename_i x r hi; cases h; exact lv_astore_n hx hb hdg rfl (am_L_has hl) hi rfl (fun ls' h9 => kk ls' (am_L_store (v := .ref x) hfv h9))
      · cases h
    · split at h
      · rename_i r hi; cases h; exact lv_astore_nN hx hb hdg rfl (am_L_has hl) hi rfl (fun ls' h9 => kk ls' (am_L_store (v := .null) hfv h9))
      · cases h
    · cases h
  · obtain rfl : 2 = len := hln
    split at h
    · split at h
      · rename_i x r hi; cases h; exact lv_astore hx hb hdg (am_L_has hl) hi rfl (fun ls' h9 => kk ls' (am_L_store (v := .ref x) hfv h9))
      · cases h
    · split at h
      · rename_i r hi; cases h; exact lv_astoreN hx hb hdg (am_L_has hl) hi rfl (fun ls' h9 => kk ls' (am_L_store (v := .null) hfv h9))
      · cases h
    · cases h
  · obtain rfl : 3 = len := hln
    split at h
    · rename_i x hL; cases h
      obtain ⟨k9, hk9⟩ := List.getElem?_of_mem (am_ps_mem (fv := fv) (ad := ad) (q := (_, .int x)) |>.mpr ⟨.int x, hL, (fun _ z => by cases z), rfl⟩)
      exact lv_iinc hx hb hdg (am_L_has hl) hk9 rfl (List.getElem?_eq_some_iff.mp hL).1 rfl (fun ls' h9 => kk ls' (am_L_store (v := .int (x + _)) hfv h9))
    · cases h
  · cases h
theorem am_p3_ok (hfv : fv = .null ∨ ∃ t, fv = .ref t) (hx : p.tables.exec = Jvm.exec) (hb : c.code = cc) (hdg : decode cc pc = .ok (ins, len)) (hln : (am_ln ins).getD len = len) (h : am_p3 pc L st ins = some (pc', L', st')) (hl : am_L fv ad ls L)
    (kk : ∀ ls' : Array Slot, am_L fv ad ls' L' → W p l e R s m args below meth c H locs cells slots Q (F0 m pc' ls' (st'.map (am_rv fv ad)))) : W p l e R s m args below meth c H locs cells slots Q (F0 m pc ls (st.map (am_rv fv ad))) := by
  unfold am_p3 at h
  split at h
  · split at h
    · obtain rfl : 1 = len := hln; cases h; exact lv_iadd hx hb hdg (kk ls hl)
    · obtain rfl : 1 = len := hln; cases h; exact lv_isub hx hb hdg (kk ls hl)
    · obtain rfl : 1 = len := hln; cases h; exact lv_imul hx hb hdg (kk ls hl)
    · obtain rfl : 1 = len := hln; cases h; exact lv_iand hx hb hdg (kk ls hl)
    · obtain rfl : 1 = len := hln; cases h; exact lv_ior hx hb hdg (kk ls hl)
    · obtain rfl : 1 = len := hln; cases h; exact lv_ixor hx hb hdg (kk ls hl)
    · obtain rfl : 1 = len := hln
      split at h
      · cases h
      · rename_i hne; cases h; exact lv_idiv hx hb hdg hne (kk ls hl)
    · obtain rfl : 1 = len := hln
      split at h
      · cases h
      · rename_i hne; cases h; exact lv_irem hx hb hdg hne (kk ls hl)
    · obtain rfl : 1 = len := hln; cases h; exact lv_ishl hx hb hdg (kk ls hl)
    · obtain rfl : 1 = len := hln; cases h; exact lv_ishr hx hb hdg (kk ls hl)
    · obtain rfl : 1 = len := hln; cases h; exact lv_iushr hx hb hdg rfl (kk ls hl)
    · cases h
  · split at h
    · obtain rfl : 1 = len := hln; cases h; exact lv_ladd hx hb hdg (kk ls hl)
    · obtain rfl : 1 = len := hln; cases h; exact lv_lsub hx hb hdg (kk ls hl)
    · obtain rfl : 1 = len := hln; cases h; exact lv_lmul hx hb hdg (kk ls hl)
    · obtain rfl : 1 = len := hln; cases h; exact lv_land hx hb hdg (kk ls hl)
    · obtain rfl : 1 = len := hln; cases h; exact lv_lor hx hb hdg (kk ls hl)
    · obtain rfl : 1 = len := hln
      split at h
      · cases h
      · rename_i hne; cases h; exact lv_ldiv hx hb hdg hne (kk ls hl)
    · obtain rfl : 1 = len := hln
      split at h
      · cases h
      · rename_i hne; cases h; exact lv_lrem hx hb hdg hne (kk ls hl)
    · obtain rfl : 1 = len := hln; cases h; exact W.lcmp hx hb hdg (kk ls hl)
    · cases h
  · cases h
theorem am_p4_ok (hfv : fv = .null ∨ ∃ t, fv = .ref t) (hx : p.tables.exec = Jvm.exec) (hb : c.code = cc) (hdg : decode cc pc = .ok (ins, len)) (hln : (am_ln ins).getD len = len) (h : am_p4 pc L st ins = some (pc', L', st')) (hl : am_L fv ad ls L)
    (kk : ∀ ls' : Array Slot, am_L fv ad ls' L' → W p l e R s m args below meth c H locs cells slots Q (F0 m pc' ls' (st'.map (am_rv fv ad)))) : W p l e R s m args below meth c H locs cells slots Q (F0 m pc ls (st.map (am_rv fv ad))) := by
  unfold am_p4 at h
  split at h
  · obtain rfl : 1 = len := hln
    split at h
    · cases h; exact lv_ineg hx hb hdg (kk ls hl)
    · cases h
  · obtain rfl : 1 = len := hln
    split at h
    · cases h; exact lv_i2l hx hb hdg rfl (kk ls hl)
    · cases h
  · obtain rfl : 1 = len := hln
    split at h
    · cases h; exact lv_l2i hx hb hdg rfl (kk ls hl)
    · cases h
  · obtain rfl : 1 = len := hln
    split at h
    · cases h; exact lv_i2b hx hb hdg rfl (kk ls hl)
    · cases h
  · obtain rfl : 1 = len := hln
    split at h
    · cases h; exact lv_i2c hx hb hdg rfl (kk ls hl)
    · cases h
  · obtain rfl : 1 = len := hln
    split at h
    · split at h
      · rename_i hc; cases h; exact lv_dup hx hb hdg (by rw [am_rv_cat hfv]; exact hc) (kk ls hl)
      · cases h
    · cases h
  · obtain rfl : 1 = len := hln
    split at h
    · split at h
      · rename_i hc; cases h; exact lv_dup2_11 hx hb hdg (by rw [am_rv_cat hfv]; exact hc.1) (by rw [am_rv_cat hfv]; exact hc.2) (kk ls hl)
      · cases h
    · cases h
  · obtain rfl : 1 = len := hln
    split at h
    · split at h
      · rename_i hc; cases h; exact lv_pop hx hb hdg (by rw [am_rv_cat hfv]; exact hc) (kk ls hl)
      · cases h
    · cases h
  · cases h
theorem am_tg_ok {off : Int} {t : Nat} (h : am_tg pc off = some t) : (pc : Int) + off = (t : Int) := by
  unfold am_tg at h
  split at h
  · rename_i h1; cases h; exact h1
  · cases h
theorem am_p5_ok (hfv : fv = .null ∨ ∃ t, fv = .ref t) (hx : p.tables.exec = Jvm.exec) (hb : c.code = cc) (hdg : decode cc pc = .ok (ins, len)) (hln : (am_ln ins).getD len = len) (h : am_p5 pc L st ins = some (pc', L', st')) (hl : am_L fv ad ls L)
    (kk : ∀ ls' : Array Slot, am_L fv ad ls' L' → W p l e R s m args below meth c H locs cells slots Q (F0 m pc' ls' (st'.map (am_rv fv ad)))) : W p l e R s m args below meth c H locs cells slots Q (F0 m pc ls (st.map (am_rv fv ad))) := by
  unfold am_p5 at h
  split at h
  · obtain rfl : 3 = len := hln
    split at h
    · split at h
      · rename_i cnd off st9 x r tgo t ht; cases h
        have ht := am_tg_ok ht
        cases cnd with
        | eq => exact lv_if_eq hx hb hdg ht (fun q => by have k9 := kk ls hl; simp only [am_if, q, decide_true, decide_false, Bool.not_false, Bool.not_true, if_true, if_false, reduceIte, Bool.false_eq_true] at k9; exact k9) (fun q => by have k9 := kk ls hl; simp only [am_if, q, decide_true, decide_false, Bool.not_false, Bool.not_true, if_true, if_false, reduceIte, Bool.false_eq_true] at k9; exact k9)
        | ne => exact lv_if_ne hx hb hdg ht (fun q => by have k9 := kk ls hl; simp only [am_if, q, decide_true, decide_false, Bool.not_false, Bool.not_true, if_true, if_false, reduceIte, Bool.false_eq_true] at k9; exact k9) (fun q => by have k9 := kk ls hl; simp only [am_if, q, decide_true, decide_false, Bool.not_false, Bool.not_true, if_true, if_false, reduceIte, Bool.false_eq_true] at k9; exact k9)
        | lt => exact lv_if_lt hx hb hdg ht (fun q => by have k9 := kk ls hl; simp only [am_if, q, decide_true, decide_false, Bool.not_false, Bool.not_true, if_true, if_false, reduceIte, Bool.false_eq_true] at k9; exact k9) (fun q => by have k9 := kk ls hl; simp only [am_if, q, decide_true, decide_false, Bool.not_false, Bool.not_true, if_true, if_false, reduceIte, Bool.false_eq_true] at k9; exact k9)
        | ge => exact lv_if_ge hx hb hdg ht (fun q => by have k9 := kk ls hl; simp only [am_if, q, decide_true, decide_false, Bool.not_false, Bool.not_true, if_true, if_false, reduceIte, Bool.false_eq_true] at k9; exact k9) (fun q => by have k9 := kk ls hl; simp only [am_if, q, decide_true, decide_false, Bool.not_false, Bool.not_true, if_true, if_false, reduceIte, Bool.false_eq_true] at k9; exact k9)
        | gt => exact lv_if_gt hx hb hdg ht (fun q => by have k9 := kk ls hl; simp only [am_if, q, decide_true, decide_false, Bool.not_false, Bool.not_true, if_true, if_false, reduceIte, Bool.false_eq_true] at k9; exact k9) (fun q => by have k9 := kk ls hl; simp only [am_if, q, decide_true, decide_false, Bool.not_false, Bool.not_true, if_true, if_false, reduceIte, Bool.false_eq_true] at k9; exact k9)
        | le => exact lv_if_le hx hb hdg ht (fun q => by have k9 := kk ls hl; simp only [am_if, q, decide_true, decide_false, Bool.not_false, Bool.not_true, if_true, if_false, reduceIte, Bool.false_eq_true] at k9; exact k9) (fun q => by have k9 := kk ls hl; simp only [am_if, q, decide_true, decide_false, Bool.not_false, Bool.not_true, if_true, if_false, reduceIte, Bool.false_eq_true] at k9; exact k9)
      · cases h
    · cases h
  · obtain rfl : 3 = len := hln
    split at h
    · split at h
      · rename_i cnd off st9 y x r tgo t ht; cases h
        have ht := am_tg_ok ht
        cases cnd with
        | eq => exact lv_icmp_eq hx hb hdg ht (fun q => by have k9 := kk ls hl; simp only [am_ic, q, decide_true, decide_false, Bool.not_false, Bool.not_true, if_true, if_false, reduceIte, Bool.false_eq_true] at k9; exact k9) (fun q => by have k9 := kk ls hl; simp only [am_ic, q, decide_true, decide_false, Bool.not_false, Bool.not_true, if_true, if_false, reduceIte, Bool.false_eq_true] at k9; exact k9)
        | ne => exact lv_icmp_ne hx hb hdg ht (fun q => by have k9 := kk ls hl; simp only [am_ic, q, decide_true, decide_false, Bool.not_false, Bool.not_true, if_true, if_false, reduceIte, Bool.false_eq_true] at k9; exact k9) (fun q => by have k9 := kk ls hl; simp only [am_ic, q, decide_true, decide_false, Bool.not_false, Bool.not_true, if_true, if_false, reduceIte, Bool.false_eq_true] at k9; exact k9)
        | lt => exact lv_icmp_lt hx hb hdg ht (fun q => by have k9 := kk ls hl; simp only [am_ic, q, decide_true, decide_false, Bool.not_false, Bool.not_true, if_true, if_false, reduceIte, Bool.false_eq_true] at k9; exact k9) (fun q => by have k9 := kk ls hl; simp only [am_ic, q, decide_true, decide_false, Bool.not_false, Bool.not_true, if_true, if_false, reduceIte, Bool.false_eq_true] at k9; exact k9)
        | ge => exact lv_icmp_ge hx hb hdg ht (fun q => by have k9 := kk ls hl; simp only [am_ic, q, decide_true, decide_false, Bool.not_false, Bool.not_true, if_true, if_false, reduceIte, Bool.false_eq_true] at k9; exact k9) (fun q => by have k9 := kk ls hl; simp only [am_ic, q, decide_true, decide_false, Bool.not_false, Bool.not_true, if_true, if_false, reduceIte, Bool.false_eq_true] at k9; exact k9)
        | gt => exact lv_icmp_gt hx hb hdg ht (fun q => by have k9 := kk ls hl; simp only [am_ic, q, decide_true, decide_false, Bool.not_false, Bool.not_true, if_true, if_false, reduceIte, Bool.false_eq_true] at k9; exact k9) (fun q => by have k9 := kk ls hl; simp only [am_ic, q, decide_true, decide_false, Bool.not_false, Bool.not_true, if_true, if_false, reduceIte, Bool.false_eq_true] at k9; exact k9)
        | le => exact lv_icmp_le hx hb hdg ht (fun q => by have k9 := kk ls hl; simp only [am_ic, q, decide_true, decide_false, Bool.not_false, Bool.not_true, if_true, if_false, reduceIte, Bool.false_eq_true] at k9; exact k9) (fun q => by have k9 := kk ls hl; simp only [am_ic, q, decide_true, decide_false, Bool.not_false, Bool.not_true, if_true, if_false, reduceIte, Bool.false_eq_true] at k9; exact k9)
      · cases h
    · cases h
  · obtain rfl : 3 = len := hln
    split at h
    · rename_i t ht; cases h; exact lv_goto hx hb hdg (am_tg_ok ht) (kk ls hl)
    · cases h
  · obtain rfl : 3 = len := hln
    split at h
    · split at h
      · rename_i t ht; cases h; exact lv_ifnonnull hx hb hdg (am_tg_ok ht) (kk ls hl)
      · cases h
    · cases h; exact lv_ifnonnullN hx hb hdg (kk ls hl)
    · cases h
  · obtain rfl : 3 = len := hln
    split at h
    · cases h; exact lv_ifnull hx hb hdg (kk ls hl)
    · split at h
      · rename_i t ht; cases h; exact lv_ifnullN hx hb hdg (am_tg_ok ht) (kk ls hl)
      · cases h
    · cases h
  · split at h
    · split at h
      · rename_i hc
        split at h
        · rename_i t ht; cases h; exact lv_tableOut hx hb hdg hc (am_tg_ok ht) (kk ls hl)
        · cases h
      · rename_i hc
        split at h
        · rename_i off ho
          split at h
          · rename_i t ht; cases h; exact lv_tableIn hx hb hdg (fun q => hc (Or.inl q)) (fun q => hc (Or.inr q)) ho (am_tg_ok ht) (kk ls hl)
          · cases h
        · cases h
    · cases h
  · split at h
    · split at h
      · rename_i hc
        split at h
        · rename_i t ht; cases h; exact lv_lookup hx hb hdg hc rfl (am_tg_ok ht) (kk ls hl)
        · cases h
      · cases h
    · cases h
  · cases h
end AmP
