/-- a frame of the machine that stands for one of the abstract machine -/
def am_F (p : Program) (R : Room) (s : State) (m : MethodId) (args : Array Value) (meth : Method) (c : Code) (mid d : Nat) (q : Nat × ByteArray × Nat × Option FieldType × Nat) (D : va_G) (tc : Nat → ClassId) (ex : Nat → Nat) (base : Nat) (fv : Value) (X : Nat → va_E) : Prop :=
  p.tables.exec = Jvm.exec ∧ am_md[mid]? = some q ∧ c.code = q.2.1 ∧ c.maxLocals = q.2.2.1 ∧ s.vm.findClass (am_cn.getD q.1 "") = some m.cls ∧ ((am_mn.getD mid ⟨"", "", ""⟩).name = "<init>" → meth.name = "<init>") ∧ (∀ w ∈ am_T, w.before args s = true) ∧ am_E D tc ex base fv X s ∧ d + 1 ≤ R.frames ∧ 64 * (d + 1) ≤ R.locals
def am_Ok (X : Nat → va_E) (d mid pc : Nat) (L st : List Value) (h : AmH) (v : Option Value) (hf : AmH) : Prop :=
  ∀ (p : Program) (l : Launch) (e : Env) (R : Room) (s : State) (m : MethodId) (args : Array Value) (below : List Frame) (meth : Method) (c : Code) (H : Heap) (locs : List Loc) (cells slots : Nat) (Q : State → Prop) (ls : Array Slot) (q : Nat × ByteArray × Nat × Option FieldType × Nat) (D : va_G) (tc : Nat → ClassId) (ex : Nat → Nat) (base : Nat) (fv : Value),
    am_F p R s m args meth c mid d q D tc ex base fv X → am_P D tc ex base fv h s.heap H locs → am_L fv (am_ad ex base) ls L → L.length = q.2.2.1 → cells + (hf.2.1 - h.2.1) ≤ R.cells → slots + (hf.2.2 - h.2.2) ≤ R.slots →
    (∀ (pc9 : Nat) (ls9 : Array Slot) (st9 : List Value) (ins : Instr) (len : Nat) (H9 : Heap) (locs9 : List Loc), decode q.2.1 pc9 = .ok (ins, len) → (am_ln ins).getD len = len → am_q5 q.2.2.2.1 st9 ins = some v → am_P D tc ex base fv hf s.heap H9 locs9 → W p l e R s m args below meth c H9 locs9 (cells + (hf.2.1 - h.2.1)) (slots + (hf.2.2 - h.2.2)) Q (F0 m pc9 ls9 (st9.map (am_rv fv (am_ad ex base))))) →
    W p l e R s m args below meth c H locs cells slots Q (F0 m pc ls (st.map (am_rv fv (am_ad ex base))))
def am_rm (d mc ms : Nat) : Room := { frames := d + 1, cells := mc, slots := ms, locals := 64 * (d + 1) }
def am_Pc (D : va_G) (tc : Nat → ClassId) (ex : Nat → Nat) (base : Nat) (fv : Value) (X : Nat → va_E) (h : AmH) (as : List Value) : Array Value → State → Prop := fun a U => a = (as.map (am_rv fv (am_ad ex base))).toArray ∧ am_E D tc ex base fv X U ∧ va_P D am_cl (am_ws fv (am_ad ex base) tc base h) U.heap ∧ U.heap.size = base + (h.2.1 - 64) ∧ 64 ≤ h.2.1
def am_Qc (D : va_G) (tc : Nat → ClassId) (ex : Nat → Nat) (base : Nat) (fv : Value) (v : Option Value) (h : AmH) : Array Value → State → Outcome → State → Prop := fun _ st oc t => oc = .returned (v.map (am_rv fv (am_ad ex base))) ∧ va_P D am_cl (am_ws fv (am_ad ex base) tc base h) t.heap ∧ t.heap.size = base + (h.2.1 - 64) ∧ va_F (fun q => base ≤ q) st t
theorem am_mcs {mid : Nat} {q : Nat × ByteArray × Nat × Option FieldType × Nat} {y : MethodName} (hm : mid < 267) (h1 : am_md[mid]? = some q) (h2 : am_mn[mid]? = some y) : ∃ r, am_mp[mid]? = some r ∧ (if r.2.2.2.1 = 1 then Cond.static y else Cond.instanceMethod y) ∈ am_T ∧ (mid = 1 ∨ (Cond.initialized y.cls) ∈ am_T) ∧ (mid = 1 ∨ mid = 71 ∨ Jvm.plainName y.cls = true) ∧ y.cls = am_cn.getD q.1 "" ∧ (parseMethodDescriptor y.desc).map (fun d => d.parameters.length) = some (if r.2.2.2.1 = 1 then q.2.2.2.2 else q.2.2.2.2 - 1) ∧ q.2.2.1 ≤ 40 ∧ (y.cls ≠ "java/lang/invoke/MethodHandle" ∧ y.cls ≠ "java/lang/invoke/VarHandle") ∧ (r.2.2.2.1 = 1 ∨ 1 ≤ q.2.2.2.2) ∧ (r.2.2.2.2 = 99999 ∨ (Cond.selects y.cls y y) ∈ am_T) ∧ (¬ y.name = "<init>" ∨ q.2.2.2.1 = none) := by
  have h3 := am_mc_all hm
  unfold am_mc at h3
  rw [h1, h2] at h3
  cases h4 : am_mp[mid]? with
  | none => rw [h4] at h3; cases h3
  | some r =>
    rw [h4] at h3
    simp only [Bool.and_eq_true, Bool.or_eq_true, decide_eq_true_eq, Bool.not_eq_true', decide_eq_false_iff_not] at h3
    obtain ⟨⟨⟨⟨⟨⟨⟨⟨⟨⟨a1, a2⟩, a3⟩, a4⟩, a5⟩, a6⟩, a7⟩, a8⟩, a9⟩, a10⟩, a11⟩ := h3
    refine ⟨r, rfl, am_w_ok a1, a2.imp id am_w_ok, ?_, a4, a5, a6, ⟨a7, a8⟩, a9, a10.imp id am_w_ok, a11⟩
    rcases a3 with (z | z) | z
    · exact Or.inl z
    · exact Or.inr (Or.inl z)
    · exact Or.inr (Or.inr z)
theorem am_Pc_blind {D : va_G} {tc : Nat → ClassId} {ex : Nat → Nat} {base : Nat} {fv : Value} {X : Nat → va_E} {h : AmH} {as : List Value} : FrameBlind (am_Pc D tc ex base fv X h as) := by
  intro a U g mk q
  exact ⟨q.1, am_E_moved (s := U) (U := U.calling g mk a) (H := U.heap) (locs := []) q.2.1 va_S.rf rfl (State.WarmedH.refl U), q.2.2⟩
theorem am_met {l : Launch} {D : va_G} {tc : Nat → ClassId} {ex : Nat → Nat} {base : Nat} {fv : Value} {X : Nat → va_E} {h h' : AmH} {as : List Value} {v : Option Value} {d mid : Nat} {q : Nat × ByteArray × Nat × Option FieldType × Nat} {y : MethodName}
    (hok : am_Ok X d mid 0 (am_en mid as) [] h v h') (hm : mid < 267) (hm1 : mid ≠ 1) (hm2 : mid ≠ 71) (h1 : am_md[mid]? = some q) (h2 : am_mn[mid]? = some y) (hlen : (am_lo as).length ≤ q.2.2.1) (hmo : h.2.1 ≤ h'.2.1) :
    Met l y (Cond.code y q.2.1 q.2.2.1 q.2.2.2.1 :: am_T) (am_rm d (h'.2.1 - h.2.1) (h'.2.2 - h.2.2)) (am_Pc D tc ex base fv X h as) (am_Qc D tc ex base fv v h') (h'.2.1 - h.2.1) (h'.2.2 - h.2.2) (fun x => base ≤ x) := by
  obtain ⟨r, -, -, -, b3, b4, -⟩ := am_mcs hm h1 h2
  refine Met.ofW (cc := q.2.1) (maxL := q.2.2.1) (ret := q.2.2.2.1) ((b3.resolve_left hm1).resolve_left hm2) rfl ?_
  intro p e s m args below meth c s₁ B hml hv
  obtain ⟨hargs, hE, hP, hsz, h64⟩ := hv
  subst hargs
  have hfv := hE.2.2.2.2.2.2.2.2.2.2.2
  have hts0 := atoms_spec (ws := Cond.code y q.2.1 q.2.2.1 q.2.2.2.1 :: am_T) B.pre
  have hown : s.vm.findClass y.cls = some m.cls := findClass_of_methodNamed B.named
  have hnm : meth.name = y.name := (name_of_methodNamed B.named B.method).1
  have hlocks := B.notSynchronized
  rw [b4] at hown
  have hF : am_F p (headSpec (Cond.code y q.2.1 q.2.2.1 q.2.2.2.1 :: am_T) (am_rm d (h'.2.1 - h.2.1) (h'.2.2 - h.2.2))).room s m _ meth c mid d q D tc ex base fv X :=
    ⟨B.exec, h1, B.bytes, hml, hown, fun z => by rw [hnm]; rw [List.getD_eq_getElem?_getD, h2] at z; exact z, fun w hw => hts0 w (List.mem_cons_of_mem _ hw), hE, Nat.le_refl _, Nat.le_refl _⟩
  have hP0 : am_P D tc ex base fv h s.heap s.heap [] := ⟨hP, va_S.rf, hsz, h64⟩
  rw [lg_entry_eq]
  have hen := am_entry (ad := am_ad ex base) hfv hlen
  have e1 : am_en mid as = am_lo as ++ List.replicate (q.2.2.1 - (am_lo as).length) (.float 0) := by
    unfold am_en
    rw [List.getD_eq_getElem?_getD, h1]
    rfl
  rw [← e1] at hen
  have hL : (am_en mid as).length = q.2.2.1 := by
    rw [e1, List.length_append, List.length_replicate]
    omega
  refine hok p l e _ s m _ below meth c s.heap [] 0 0 _ _ q D tc ex base fv hF hP0 hen hL (by rw [Nat.zero_add]; exact Nat.le_refl _) (by rw [Nat.zero_add]; exact Nat.le_refl _) ?_
  intro pc9 ls9 st9 ins len H9 locs9 hd hln hq5 hP9
  rw [Nat.zero_add, Nat.zero_add]
  exact am_q5_ok B.exec B.bytes hd hln B.returns hlocks hq5 (fun t ht hW => ⟨rfl, by rw [ht]; exact hP9.1, by rw [ht]; exact hP9.2.2.1, hP9.2.1.F ht⟩) hP9.2.1.2.2
