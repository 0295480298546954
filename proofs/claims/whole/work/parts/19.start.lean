theorem rm_c {a : Nat} (h : a ≤ 600064) : 0 + (a - am_h0.2.1) ≤ room_1.cells := Nat.le_trans (by show 0 + (a - 64) ≤ 600000; omega) (Nat.le_of_ble_eq_true rfl)
theorem rm_s {a : Nat} (h : a ≤ 5502250) : 0 + (a - am_h0.2.2) ≤ room_1.slots := Nat.le_trans (by show 0 + (a - 0) ≤ 5502250; omega) (Nat.le_of_ble_eq_true rfl)
theorem am_h0_P {D : va_G} {tc : Nat → ClassId} {ex : Nat → Nat} {fv : Value} {s : State} : am_P D tc ex s.heap.size fv am_h0 s.heap s.heap [] := by
  refine ⟨fun k q h => ?_, va_S.rf, rfl, Nat.le_refl _⟩
  simp [am_ws, am_h0] at h
/-- the claim's walk out of a run of the abstract machine -/
theorem am_start {p : Program} {e : Env} {s : State} {m : MethodId} {below : List Frame} {meth : Method} {c : Code} (l : Launch) {b L : Nat} {xs : Nat → Int32} (C0 : lw_At p s m meth c b L xs) {n : Nat} {hf : AmH}
    (hrun : am (am_X xs L) n 200 267 0 (am_en 267 [.ref 0]) [] am_h0 = some (some (.int 1), hf)) (hc : hf.2.1 ≤ 600064) (hs : hf.2.2 ≤ 5502250) :
    W p l e room_1 s m #[Value.ref b] below meth c s.heap [] 0 0 (lw_Z below #[Value.ref b] s) (entryFrame m ([Value.ref b] : List Value).toArray 4) := by
  obtain ⟨D, tc, ex, fv, hex, hE⟩ := am_env C0
  obtain ⟨hx, hb, hr, hml, hown, hts, hX, hbl, hlocks, hgv⟩ := C0
  have hfv := hE.2.2.2.2.2.2.2.2.2.2.2
  have e0 : ([.ref 0] : List Value).map (am_rv fv (am_ad ex s.heap.size)) = [.ref b] := by
    show [Value.ref (am_ad ex s.heap.size 0)] = [.ref b]
    rw [am_ad_lo (by decide), hex]
  have hen := am_entry (fv := fv) (ad := am_ad ex s.heap.size) hfv (as := [.ref 0]) (n := 4) (by decide)
  rw [e0] at hen
  rw [lg_entry_eq]
  have hF : am_F p room_1 s m #[Value.ref b] meth c 267 200 (18, code, 4, some .boolean, 1) D tc ex s.heap.size fv (am_X xs L) :=
    ⟨hx, rfl, hb, hml, hown, fun z => absurd z (by decide), fun w hw => hts w (am_T_of hw), hE, by decide, by decide⟩
  refine am_sound (am_X xs L) n 200 267 0 _ _ am_h0 _ hf hrun p l e room_1 s m #[Value.ref b] below meth c s.heap [] 0 0 _ _ _ D tc ex s.heap.size fv hF am_h0_P hen rfl ?_ ?_ ?_
  · exact rm_c hc
  · exact rm_s hs
  · intro pc9 ls9 st9 ins len H9 locs9 hd hln hq5 hP9
    refine va_forget hP9.2.1.2.2 ?_
    refine W.widen (k := room_1.cells) (n := room_1.slots) (rm_c hc) (rm_s hs) ?_
    unfold am_q5 at hq5
    split at hq5
    · obtain rfl : 1 = len := hln
      split at hq5
      · simp only at hq5
        split at hq5
        · cases hq5
          exact lw_ret hx hb hr hlocks hd
        · cases hq5
      · cases hq5
    · split at hq5
      · split at hq5
        · cases hq5
        · cases hq5
      · cases hq5
    · split at hq5
      · split at hq5
        · split at hq5
          · cases hq5
          · cases hq5
          · cases hq5
        · split at hq5
          · cases hq5
          · cases hq5
          · cases hq5
        · cases hq5
      · cases hq5
    · split at hq5
      · split at hq5
        · cases hq5
        · cases hq5
      · cases hq5
    · cases hq5
