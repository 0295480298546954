theorem am_T_of {w : Cond} (h : w ∈ am_T) : w ∈ lw_tbl := (List.mem_filter.mp h).1
/-- the words of the start on a text -/
def am_sw (q : String × Nat × String × Nat) (bs : List Int32) : List Cond :=
  [.exactly (.string q.1 q.2.1) "java/lang/String", .eq (.field (.string q.1 q.2.1) "java/lang/String" "coder" "B") (.int 0), .arrayOf (.field (.string q.1 q.2.1) "java/lang/String" "value" "[B") .byte, .eq (.length (.field (.string q.1 q.2.1) "java/lang/String" "value" "[B")) (.int (Int32.ofNat bs.length))] ++
  (List.range bs.length).map (fun j => .eq (.elem (.field (.string q.1 q.2.1) "java/lang/String" "value" "[B") (.int (Int32.ofNat j))) (.int (bs.getD j 0)))
def am_sp : List Nat := [60, 104, 112, 119, 178, 185, 191, 200, 208, 217, 225, 233, 240, 247, 256, 265, 273, 281, 290, 298, 307, 315, 323, 330, 337, 346, 354, 362, 370]
theorem am_sw_all : (List.range 29).all (fun i => decide (((flatC (Jvm.Cond.and given_1 narrow_1)).drop (am_sp.getD i 0)).take (am_sw (am_sr.getD i ("", 0, "", 0)) (am_tx.getD i [])).length = am_sw (am_sr.getD i ("", 0, "", 0)) (am_tx.getD i []))) = true := by decide +kernel
theorem am_sr_all : am_sr.all (fun q => decide (Cond.stringRef q.1 q.2.1 q.2.2.1 ∈ lw_tbl)) = true := by decide +kernel
theorem am_sr_pl : (List.range 29).all (fun i => decide ((am_sr.getD i ("", 0, "", 0)).2.2.2 = 2 + 2 * i)) = true := by decide +kernel
theorem am_nl_all : am_nl.all (fun q => decide (Cond.methodLinkNest q.1 q.2.1 q.2.2 "PaperRiver" ∈ lw_tbl)) = true := by decide +kernel
theorem am_x1 : (Cond.fieldLinkNest "PaperRiver$Water" 68 "PaperRiver" "TENS" "[I" "PaperRiver") ∈ lw_tbl := by decide +kernel
theorem am_x2 : (Cond.arrayOver (.object "PaperRiver$Law")) ∈ lw_tbl := by decide +kernel
theorem am_x3 : (Cond.arrayOver (.object "PaperRiver$Water")) ∈ lw_tbl := by decide +kernel
theorem am_x4 : (Cond.arrayOver (.object "PaperRiver$World")) ∈ lw_tbl := by decide +kernel
theorem am_x5 : (Cond.laysStatic "PaperRiver" "TENS" "[I") ∈ lw_tbl := by decide +kernel
theorem am_x6 : (Cond.laysStatic "java/lang/String" "COMPACT_STRINGS" "Z") ∈ lw_tbl := by decide +kernel
theorem am_x7 : (Cond.laysStatic "jdk/internal/util/Preconditions" "SIOOBE_FORMATTER" "Ljava/util/function/BiFunction;") ∈ lw_tbl := by decide +kernel
theorem am_x8 : (Cond.initialized "PaperRiver") ∈ lw_tbl := by decide +kernel
theorem am_x9 : (Cond.initialized "java/lang/String") ∈ lw_tbl := by decide +kernel
theorem am_x10 : (Cond.initialized "jdk/internal/util/Preconditions") ∈ lw_tbl := by decide +kernel
def am_tens : List Int32 := [1, 10, 100, 1000, 10000, 100000, 1000000, 10000000, 100000000]
def am_tw : List Cond := [.arrayOf (.static "PaperRiver" "TENS" "[I") .int, .eq (.length (.static "PaperRiver" "TENS" "[I")) (.int (Int32.ofNat 9)), .eq (.static "java/lang/String" "COMPACT_STRINGS" "Z") (.int 1), .isRef (.static "jdk/internal/util/Preconditions" "SIOOBE_FORMATTER" "Ljava/util/function/BiFunction;")] ++ (List.range 9).map (fun j => .eq (.elem (.static "PaperRiver" "TENS" "[I") (.int (Int32.ofNat j))) (.int (am_tens.getD j 0)))
theorem am_tw_all : am_tw.all (fun w => decide (w ∈ flatC (Jvm.Cond.and given_1 narrow_1))) = true := by decide +kernel
theorem am_ty_prim {s : State} {args : Array Value} {ty : FieldType} (h : (Cond.arrayClass ty).before args s = true) : ∃ cA : ClassId, ArrOfT s cA ty ∧ s.vm.findClass ("[" ++ ty.toString) = some cA := by
  obtain ⟨c, k, comp, h1, h2, h3⟩ := Cond.arrayClass_spec h
  exact ⟨c, fun n z => ⟨fun k h => (by cases h), k, h2, comp, h3⟩, h1⟩
theorem am_ty_obj {s : State} {args : Array Value} {C : String} (h : (Cond.arrayOver (.object C)).before args s = true) : ∃ cA : ClassId, ArrOfT s cA (.object C) ∧ va_RA s cA (.object C) := by
  obtain ⟨comp, c, k, h1, h2, h3, h4, h5⟩ := Cond.arrayOver_spec h
  exact ⟨c, fun n z => ⟨fun k h => (by cases h), k, h3, comp, h4⟩, k, comp, h3, h4, h1, h5⟩
set_option maxHeartbeats 1000000 in
theorem am_env {p : Program} {s : State} {m : MethodId} {meth : Method} {c : Code} {b L : Nat} {xs : Nat → Int32} (C0 : lw_At p s m meth c b L xs) : ∃ (D : va_G) (tc : Nat → ClassId) (ex : Nat → Nat) (fv : Value), ex 0 = b ∧ am_E D tc ex s.heap.size fv (am_X xs L) s := by
  obtain ⟨hx, hb, hr, hml, hown, hts, hX, hbl, hlocks, hgv⟩ := C0
  have hs := flat_of_before _ hgv
  have hA : ∀ a : Nat, a < s.heap.size → ¬ (fun q : Nat => s.heap.size ≤ q) a := fun a h => Nat.not_le.mpr h
  have htsT : ∀ w ∈ am_T, w.before #[Value.ref b] s = true := fun w hw => hts w (am_T_of hw)
  -- classes
  have hcl : ∀ ci : Nat, ∃ z : ClassId × (Nat → Nat), ∀ r : vw_C, am_cl[ci]? = some r → u_Kn s r.1 r.2.1 r.2.2 z.1 z.2 := by
    intro ci
    cases h1 : am_cl[ci]? with
    | none => exact ⟨(0, fun _ => 0), fun r h => by cases h⟩
    | some r =>
      obtain ⟨c1, c2, c3, c4, c5, c6, c7⟩ := am_cl_ok h1
      obtain ⟨cC, iS, hK⟩ := u_known (n := r.2.2) htsT c1 (htsT _ c5)
      exact ⟨(cC, iS), fun r2 h2 => by cases h2; exact hK⟩
  obtain ⟨dd, hdd⟩ := Classical.axiomOfChoice hcl
  obtain ⟨t0, a0, b0⟩ := am_ty_prim (htsT _ am_a_int)
  obtain ⟨t1, a1, b1⟩ := am_ty_prim (htsT _ am_a_long)
  obtain ⟨t2, a2, b2⟩ := am_ty_prim (htsT _ am_a_byte)
  obtain ⟨t3, a3, b3⟩ := am_ty_prim (htsT _ am_a_boolean)
  obtain ⟨t4, a4, b4⟩ := am_ty_obj (hts _ am_x2)
  obtain ⟨t5, a5, b5⟩ := am_ty_obj (hts _ am_x3)
  obtain ⟨t6, a6, b6⟩ := am_ty_obj (hts _ am_x4)
  have htw : ∀ w ∈ am_tw, w.before #[Value.ref b] s = true := fun w hw => hs w (of_decide_eq_true (List.all_eq_true.mp am_tw_all w hw))
  -- the powers of ten
  obtain ⟨tens, hte, htT⟩ := va_Tof (args := #[Value.ref b]) (s := s) (tm := .static "PaperRiver" "TENS" "[I") (ty := .int) (N := 9) (f := fun j => .int (am_tens.getD j 0)) (A := fun q => s.heap.size ≤ q) (by decide) (htw _ (by simp [am_tw])) (va_eqt (htw _ (by simp [am_tw])))
    (fun j hj => va_eqt (htw _ (by unfold am_tw; exact List.mem_append_right _ (List.mem_map.mpr ⟨j, List.mem_range.mpr hj, rfl⟩)))) hA
  have hZ1 : va_Z "PaperRiver" "TENS" "[I" (.ref tens) (fun q => s.heap.size ≤ q) s s.heap := va_Zof (hts _ am_x5) (hts _ am_x8) hte hA
  have hZ2 : va_Z "java/lang/String" "COMPACT_STRINGS" "Z" (.int 1) (fun q => s.heap.size ≤ q) s s.heap := va_Zof (hts _ am_x6) (hts _ am_x9) (va_eqi (htw _ (by simp [am_tw]))) hA
  have hZ3 : va_Zq "jdk/internal/util/Preconditions" "SIOOBE_FORMATTER" "Ljava/util/function/BiFunction;" (fun q => s.heap.size ≤ q) s s.heap := va_Zqof (hts _ am_x7) (hts _ am_x10) (htw _ (by simp [am_tw])) hA
  have hfv : ∃ fv : Value, (fv = .null ∨ ∃ t, fv = .ref t) ∧ va_Z "jdk/internal/util/Preconditions" "SIOOBE_FORMATTER" "Ljava/util/function/BiFunction;" fv (fun q => s.heap.size ≤ q) s s.heap := by
    rcases hZ3 with h | ⟨t, h⟩
    · exact ⟨.null, Or.inl rfl, h⟩
    · exact ⟨.ref t, Or.inr ⟨t, rfl⟩, h⟩
  obtain ⟨fv, hfv1, hfv2⟩ := hfv
  -- the texts
  have hst : ∀ i : Nat, ∃ z : Nat × Nat, i < 29 → vk_R (am_sr.getD i ("", 0, "", 0)).1 (am_sr.getD i ("", 0, "", 0)).2.1 (am_sr.getD i ("", 0, "", 0)).2.2.1 z.1 s ∧ va_O "java/lang/String" z.1 (fun q => s.heap.size ≤ q) s s.heap ∧ va_OF "java/lang/String" "coder" "B" (.int 0) z.1 (fun q => s.heap.size ≤ q) s s.heap ∧ va_OF "java/lang/String" "value" "[B" (.ref z.2) z.1 (fun q => s.heap.size ≤ q) s s.heap ∧ va_T .byte z.2 (am_tx.getD i []).length (fun j => .int ((am_tx.getD i []).getD j 0)) (fun q => s.heap.size ≤ q) s s.heap := by
    intro i
    by_cases hi : i < 29
    · have e1 : am_sr[i]? = some (am_sr.getD i ("", 0, "", 0)) := by
        rw [List.getD_eq_getElem?_getD, List.getElem?_eq_getElem (show i < am_sr.length from hi)]; rfl
      have e2 : am_tx[i]? = some (am_tx.getD i []) := by
        rw [List.getD_eq_getElem?_getD, List.getElem?_eq_getElem (show i < am_tx.length from hi)]; rfl
      have e3 := of_decide_eq_true (List.all_eq_true.mp am_sw_all i (List.mem_range.mpr hi))
      generalize am_sr.getD i ("", 0, "", 0) = q at e1 e3
      generalize am_tx.getD i [] = bs at e2 e3
      have hw : ∀ w ∈ am_sw q bs, w.before #[Value.ref b] s = true := fun w hw => hs w (List.mem_of_mem_drop (List.mem_of_mem_take (by rw [e3]; exact hw)))
      have hlen : bs.length < 2 ^ 31 := by
        have : (am_tx.all (fun b => decide (b.length < 2 ^ 31))) = true := by decide +kernel
        exact of_decide_eq_true (List.all_eq_true.mp this bs (List.mem_of_getElem? e2))
      obtain ⟨adK, adV, hvS, hev⟩ := vk_Sof (args := #[Value.ref b]) (s := s) (N := 1) (tm := fun _ => .string q.1 q.2.1) (len := [bs.length]) (byt := [bs]) (A := fun q => s.heap.size ≤ q)
        (fun i hi => by obtain rfl : i = 0 := (by omega); exact hlen) (fun i hi => hw _ (by simp [am_sw])) (fun i hi => hw _ (by simp [am_sw])) (fun i hi => hw _ (by simp [am_sw])) (fun i hi => by obtain rfl : i = 0 := (by omega); exact hw _ (by simp [am_sw]))
        (fun i hi j hj => by
          obtain rfl : i = 0 := by omega
          exact hw _ (by unfold am_sw; exact List.mem_append_right _ (List.mem_map.mpr ⟨j, List.mem_range.mpr hj, rfl⟩)))
        (fun i j hi hj hij => by omega) hA
      obtain ⟨g1, g2, g3, g4⟩ := hvS.1 0 (by decide)
      refine ⟨(adK 0, adV 0), fun _ => ⟨vk_R.of (hts _ (of_decide_eq_true (List.all_eq_true.mp am_sr_all q (List.mem_of_getElem? e1)))) (hev 0 (by decide)), g1, g2, g3, g4⟩⟩
    · exact ⟨(0, 0), fun h => absurd h hi⟩
  obtain ⟨ad, had⟩ := Classical.axiomOfChoice hst
  have had2 : ∀ i : Nat, i < 29 → vk_R (am_sr.getD i ("", 0, "", 0)).1 (am_sr.getD i ("", 0, "", 0)).2.1 (am_sr.getD i ("", 0, "", 0)).2.2.1 (ad i).1 s ∧ va_O "java/lang/String" (ad i).1 (fun q => s.heap.size ≤ q) s s.heap ∧ va_OF "java/lang/String" "coder" "B" (.int 0) (ad i).1 (fun q => s.heap.size ≤ q) s s.heap ∧ va_OF "java/lang/String" "value" "[B" (.ref (ad i).2) (ad i).1 (fun q => s.heap.size ≤ q) s s.heap ∧ va_T .byte (ad i).2 (am_tx.getD i []).length (fun j => .int ((am_tx.getD i []).getD j 0)) (fun q => s.heap.size ≤ q) s s.heap := had
  clear had hst
  refine ⟨(fun k => (dd k).1, fun k => (dd k).2), fun t => if t = 0 then t0 else if t = 1 then t1 else if t = 2 then t2 else if t = 3 then t3 else if t = 4 then t4 else if t = 5 then t5 else t6, fun p => if p = 0 then b else if p = 1 then tens else if p % 2 = 0 then (ad ((p - 2) / 2)).1 else (ad ((p - 2) / 2)).2, fv, rfl, ⟨fun ci r h => hdd ci r h, ?_⟩, ?_, ?_, ⟨hts _ am_x2, hts _ am_x3, hts _ am_x4⟩, ?_, ⟨hZ1, hZ2, hfv2⟩, ?_, ?_, ?_, ?_, Nat.le_refl _, hfv1⟩
  · intro k q hk
    match k, hk with
    | 0, hk => cases hk; exact ⟨a0, b0⟩
    | 1, hk => cases hk; exact ⟨a1, b1⟩
    | 2, hk => cases hk; exact ⟨a2, b2⟩
    | 3, hk => cases hk; exact ⟨a3, b3⟩
    | 4, hk => cases hk; exact ⟨a4, b4⟩
    | 5, hk => cases hk; exact ⟨a5, b5⟩
    | 6, hk => cases hk; exact ⟨a6, b6⟩
    | k + 7, hk => simp at hk
  · intro q hq
    exact va_Nw.of rfl (hts _ (of_decide_eq_true (List.all_eq_true.mp am_nl_all q hq)))
  · exact va_Nw.of rfl (hts _ am_x1)
  · intro q hq
    obtain ⟨i, hi⟩ := List.getElem?_of_mem hq
    have hi2 : i < 29 := (List.getElem?_eq_some_iff.mp hi).1
    have e1 : am_sr.getD i ("", 0, "", 0) = q := by rw [List.getD_eq_getElem?_getD, hi]; rfl
    have e2 := of_decide_eq_true (List.all_eq_true.mp am_sr_pl i (List.mem_range.mpr hi2))
    have h1 := (had2 i hi2).1
    rw [e1] at e2 h1
    simp only [e2, show ¬ (2 + 2 * i = 0) by omega, show ¬ (2 + 2 * i = 1) by omega, show (2 + 2 * i) % 2 = 0 by omega, if_true, if_false, show (2 + 2 * i - 2) / 2 = i by omega]
    exact h1
  · intro q t n f hq hX1
    unfold am_X at hX1
    split at hX1
    · rename_i e1; cases hX1; subst e1
      refine ⟨Or.inl rfl, ?_⟩
      obtain ⟨scr, g1, g2, g3, g4, g5⟩ := hX
      exact ⟨scr, g1, g2, g3, Nat.le_of_eq g4.symm, by rw [g4] <;> rfl, g5, Nat.not_le.mpr hbl⟩
    · split at hX1
      · rename_i e0 e1; cases hX1; subst e1
        exact ⟨Or.inl rfl, htT⟩
      · split at hX1
        · rename_i e0 e1 e2
          split at hX1
          · cases hX1
          · rename_i e3
            cases hX1
            have e2 : q < 60 := e2
            have hi : (q - 2) / 2 < 29 := by omega
            refine ⟨Or.inr rfl, ?_⟩
            simp only [e0, e1, e3, if_false]
            exact (had2 _ hi).2.2.2.2
        · cases hX1
  · intro q t n y hq hX1
    unfold am_X at hX1
    split at hX1
    · cases hX1
    · split at hX1
      · cases hX1
      · split at hX1
        · split at hX1
          · cases hX1
          · cases hX1
        · cases hX1
  · intro q ci fs hq hX1
    unfold am_X at hX1
    split at hX1
    · cases hX1
    · split at hX1
      · cases hX1
      · split at hX1
        · split at hX1
          · cases hX1; exact Or.inl rfl
          · cases hX1
        · cases hX1; exact Or.inr rfl
  · intro q fs hq hX1
    unfold am_X at hX1
    split at hX1
    · cases hX1
    · split at hX1
      · cases hX1
      · split at hX1
        · rename_i e0 e1 e2
          split at hX1
          · rename_i e3
            cases hX1
            have e2 : q < 60 := e2
            have hi : (q - 2) / 2 < 29 := by omega
            obtain ⟨-, g1, g2, g3, -⟩ := had2 _ hi
            simp only [e0, e1, e3, if_true, if_false]
            refine ⟨g1, fun k v hk hk2 => ?_⟩
            match k, hk with
            | 0, hk =>
              cases hk
              have e4 : am_ad (fun p => if p = 0 then b else if p = 1 then tens else if p % 2 = 0 then (ad ((p - 2) / 2)).1 else (ad ((p - 2) / 2)).2) s.heap.size (q + 1) = (ad ((q - 2) / 2)).2 := by
                rw [am_ad_lo (by omega)]
                simp only [show ¬ (q + 1 = 0) by omega, show ¬ (q + 1 = 1) by omega, show ¬ ((q + 1) % 2 = 0) by omega, if_false, show (q + 1 - 2) / 2 = (q - 2) / 2 by omega]
              show va_OF _ _ _ (.ref (am_ad _ _ (q + 1))) _ _ _ _
              rw [e4]
              exact g3
            | 1, hk => cases hk; exact g2
            | k + 2, hk => omega
          · cases hX1
        · cases hX1
