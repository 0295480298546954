/-! a world is as another -/
/-- tape and rules in the program -/
def RT (A : AA) (T : xS) (G : gS) : Prop := (T.1 65 1 = nI A.1.1 ∧ ∀ i, i < A.1.1 → T.2.1 66 i = nI (A.1.2 i)) ∧ (T.1 64 4 = nI A.2.1.1 ∧ ∀ r, r < A.2.1.1 → ∃ q n, T.2.2.2 87 r = some q ∧ lB G q n = true ∧ LC T (some q) n (some (A.2.1.2 r)))
theorem kp_RT {T T' : xS} {G G' : gS} {p q0 s0 : Nat} {A : AA} (ow : OwC T G) (hp : Wd T p) (k : KpC T G (p + 18) T' G' q0 s0) (h : RT A T G) : RT A T' G' := by
  have hr := Wd_r ow hp
  have k8 := k.2.2.2.2.2.2.2
  have h5 := k.2.2.2.2.1
  refine ⟨⟨by rw [(k8 65 (by omega) (by omega)).1]; exact h.1.1, fun i hi => by rw [(k8 66 (by omega) (by omega)).2]; exact h.1.2 i hi⟩, by rw [(k8 64 (by omega) (by omega)).1]; exact h.2.1, fun r hr' => ?_⟩
  obtain ⟨q, n, e1, e2, e3⟩ := h.2.2 r hr'
  have hl := GX_l k.2.2.1 e2
  have hlo := law_out hl k.2.2.2.1
  refine ⟨q, n, by rw [k.2.2.2.2.2.2.1 87 r (by omega)]; exact e1, hl, LC_fr e3 (fun q' eq h172 => ?_)⟩
  have eq : q = q' := Option.some.inj eq
  subst eq
  have hne : q + 1 ≠ p + 18 := fun e => by
    have h1 := lk1 e2
    rw [e, pk0 (vkp (ow.1 p hp))] at h1
    cases h1
  exact (k8 (q + 1) hne hlo).2
theorem law_wld {G : gS} {q n p : Nat} (h : lB G q n = true) (hv : vB G p = true) : q + 1 < p ∨ p + 19 < q + 1 := by
  have hb := vkb hv
  have hw := vkw hv
  have hp := vkp hv
  have n0 : q + 1 ≠ p := fun e => by
    have := lk1 h
    rw [e, vk0 hv] at this
    cases this
  have ne : ∀ r k, x_kd G r = k → k.1 ≠ 11 → q ≠ r := by
    intro r k hk hn e
    have := lk0 h
    rw [e, hk] at this
    rw [this] at hn
    exact hn rfl
  have m0 := ne p _ (vk0 hv) (by decide)
  have m1 := ne (p + 1) _ (bk0 hb) (by decide)
  have m2 := ne (p + 1 + 1) _ (bk1 hb) (by decide)
  have m3 := ne (p + 1 + 2) _ (bk2 hb) (by decide)
  have m4 := ne (p + 1 + 3) _ (bk3 hb) (by decide)
  have m5 := ne (p + 1 + 4) _ (bk4 hb) (by decide)
  have m6 := ne (p + 1 + 5) _ (bk5 hb) (by decide)
  have m18 := ne (p + 18) _ (pk0 hp) (by decide)
  have mw := wk_out (p := q) hw (by rw [lk0 h]; decide) (ne (p + 7) _ (wk0 hw) (by decide))
  omega
/-- all but world p is as it was -/
def WI (T0 : xS) (G0 : gS) (p : Nat) (T : xS) (G : gS) : Prop := OwC T G ∧ (∀ i, T.2.2.2 108 i = T0.2.2.2 108 i) ∧ (∀ x e, Wd T0 x → x ≠ p → CD T0 G0 x e → CD T G x e) ∧ (∀ A, RT A T0 G0 → RT A T G)
theorem WI_W {T0 T : xS} {G0 G : gS} {p x : Nat} (h : WI T0 G0 p T G) : Wd T x ↔ Wd T0 x := Wd_of (funext (fun i => h.2.1 i))
/-- what is written in a world's own places -/
theorem WI_own {T0 T T' : xS} {G0 G : gS} {p : Nat} (h : WI T0 G0 p T G) (hp : Wd T0 p) (hf : ∀ q, (q < p ∨ p + 18 < q) → T'.1 q = T.1 q ∧ T'.2.1 q = T.2.1 q) (hq : T'.2.2.2 = T.2.2.2) : WI T0 G0 p T' G := by
  obtain ⟨ow, h1, h2, h3⟩ := h
  have hp' : Wd T p := (WI_W ⟨ow, h1, h2, h3⟩).mpr hp
  have hr := Wd_r ow hp'
  have hv := ow.1 p hp'
  refine ⟨OwC_of ow (fun q _ => by rw [hq]), fun i => by rw [hq]; exact h1 i, fun x e hx hxp c => ?_, fun A a => ?_⟩
  · have hx' : Wd T x := (WI_W ⟨ow, h1, h2, h3⟩).mpr hx
    obtain ⟨c1, c2, c3, c4, c5⟩ := h2 x e hx hxp c
    have hd := wld_dis (ow.1 x hx') hv hxp
    refine ⟨CB_of c1 (hf _ (by omega)).1 (fun j a b => (hf _ (by omega)).2), CW_of c2 (hf _ (by omega)).1 (fun j a b => (hf _ (by omega)).2), CP_of c3 (hf _ (by omega)).1 (by rw [hq]) (fun i q w hi a cw => ?_), ?_, ?_⟩
    · have ho := ow.2.2.2.1 x i q hx' hi a
      have hwo := wld_out hv ho.2.1 (ho.2.2 p hp')
      exact CW_of cw (hf _ (by omega)).1 (fun j a b => (hf _ (by omega)).2)
    · rw [(hf x (by omega)).1]
      exact c4
    · rw [(hf x (by omega)).1]
      exact c5
  · obtain ⟨⟨a1, a2⟩, a3, a4⟩ := h3 A a
    refine ⟨⟨by rw [(hf 65 (by omega)).1]; exact a1, fun i hi => by rw [(hf 66 (by omega)).2]; exact a2 i hi⟩, by rw [(hf 64 (by omega)).1]; exact a3, fun r hr' => ?_⟩
    obtain ⟨q, n, e1, e2, e3⟩ := a4 r hr'
    refine ⟨q, n, by rw [hq]; exact e1, e2, LC_fr e3 (fun q' eq _ => ?_)⟩
    have eq : q = q' := Option.some.inj eq
    subst eq
    have := law_wld e2 hv
    exact (hf (q + 1) (by omega)).2
theorem WI_kp {T0 T T' : xS} {G0 G G' : gS} {p q0 s0 : Nat} (h : WI T0 G0 p T G) (hp : Wd T0 p) (k : KpC T G (p + 18) T' G' q0 s0) : WI T0 G0 p T' G' := by
  obtain ⟨ow, h1, h2, h3⟩ := h
  have hw := fun {x} => WI_W (x := x) (h := ⟨ow, h1, h2, h3⟩)
  have hp' := hw.mpr hp
  have hr := Wd_r ow hp'
  exact ⟨kp_Ow ow hp' k, fun i => by rw [k.2.2.2.2.2.2.1 108 i (by omega)]; exact h1 i, fun x e hx hxp c => kp_CD ow hp' k (hw.mpr hx) hxp (h2 x e hx hxp c), fun A a => kp_RT ow hp' k (h3 A a)⟩
theorem keepA_take {ps : List AW} {i : Nat} {v : AW} (hi : i < 20) (hv : ps[i]? = some v) (hl : ps.length ≤ 20) : keepA (ps.take i) v = ps.take (i + 1) := by
  have hlt : i < ps.length := by
    have := List.getElem?_eq_some_iff.mp hv
    exact this.1
  unfold keepA
  rw [if_neg (by rw [List.length_take]; omega), List.take_add_one, hv]
  rfl
section G151
variable {T0 : xS} {G0 : gS} {p p' : Nat} {d : AD} {f0 x0 kk nr : Nat}
theorem g151l (hp : Wd T0 p) (hp' : Wd T0 p') (hne : p' ≠ p) (c : CD T0 G0 p' d) (ok : OkD kk nr d) : ∀ (m i : Nat) (T : xS) (G : gS), i + m = d.2.2.1.length → WI T0 G0 p T G → CD T G p (d.1, d.2.1, d.2.2.1.take i, f0, x0) → G.2.1 ≤ G0.2.1 + 11 * i → G.2.2 ≤ G0.2.2 + 139 * i → Ep (fun n => G151f (p + 18) (p' + 18) n 6 (nI i) (T, G)) (fun z => WI T0 G0 p z.2.1 z.2.2 ∧ CD z.2.1 z.2.2 p (d.1, d.2.1, d.2.2.1, f0, x0) ∧ z.2.2.2.1 ≤ G0.2.1 + 220 ∧ z.2.2.2.2 ≤ G0.2.2 + 2780) := by
  have hl20 := ok.2.2.2.1
  intro m
  induction m with
  | zero =>
    intro i T G hi wi cd g1 g2
    have ow := wi.1
    have hpT := (WI_W wi).mpr hp
    have hpT' := (WI_W wi).mpr hp'
    obtain ⟨_, _, ⟨o, ho, e1, e2, e3⟩, _, _⟩ := wi.2.2.1 p' d hp' hne c
    have hpb := vkp (ow.1 p' hpT')
    refine ep_succ (fun n => G151e6 (p + 18) (p' + 18) n ..) ?_
    have e : d.2.2.1.length ≤ i := by omega
    simp (disch := omega) only [G151b6, hpb, e2, L0, L1, L2, L3, L4, L5, L6, L7, L8, L9, L10, L11, L12, L13, L16, L20, L31, L32, L40, L48, L57, L59, L60, L61, L91, L93, L97, L99, L100, L102, L103, L114, L122, L255, L300, L400, L402, L999, L2280, L2500, L99999, L63, L1431655765, L858993459, L252645135, ic_ge, ic_gt, ic_le, ic_lt, ic_eq, ic_ne, if_lt, if_ge, if_gt, if_le, if_eq, if_ne, if_lt_zI, if_ge_zI, ic_ne_m1, ic_eq_m1, ic_nn_m1, ic_ee_m1, if_ne_b2i, if_eq_b2i, b2i_z, decide_eq_true_eq, decide_true, decide_false, Bool.not_eq_true, Bool.not_eq_true', Bool.not_true, Bool.not_false, decide_eq_false_iff_not, Bool.false_eq_true, not_false_eq_true, not_true_eq_false, if_true, if_false, ↓reduceIte, eq_self, Option.bind_some, Bool.true_and, Bool.false_and, Bool.and_true, Bool.and_false, nI_add, nI_subN, nI_clamp, gdF, gdF2, gdP, gdP2, zI_cl, zI_s, Lm1, nI_n0, zI_n0, leF, or_false, false_or, or_self, e]
    refine ep_ret ⟨wi, ?_, by show G.2.1 ≤ _; omega, by show G.2.2 ≤ _; omega⟩
    have : d.2.2.1.take i = d.2.2.1 := List.take_of_length_le e
    rw [this] at cd
    exact cd
  | succ m ih =>
    intro i T G hi wi cd g1 g2
    have ow := wi.1
    have hpT := (WI_W wi).mpr hp
    have hpT' := (WI_W wi).mpr hp'
    obtain ⟨_, _, ⟨o, ho, e1, e2, e3⟩, _, _⟩ := wi.2.2.1 p' d hp' hne c
    have hpb' := vkp (ow.1 p' hpT')
    have hpb := vkp (ow.1 p hpT)
    have hlt : i < d.2.2.1.length := by omega
    obtain ⟨v, hv⟩ : ∃ v, d.2.2.1[i]? = some v := ⟨_, List.getElem?_eq_getElem hlt⟩
    obtain ⟨q8, hq8, cq8⟩ := e3 i v hv
    have hs20 : (o + i) % 20 < 20 := Nat.mod_lt _ (by decide)
    have hq8' : T.2.2.2 (p' + 19) ((o + i) % 20) = some q8 := hq8
    have ho8 := ow.2.2.2.1 p' _ q8 hpT' hs20 hq8'
    refine ep_succ (fun n => G151e6 (p + 18) (p' + 18) n ..) ?_
    have e : ¬ d.2.2.1.length ≤ i := by omega
    simp (disch := omega) only [G151b6, hpb', e2, e1, L0, L1, L2, L3, L4, L5, L6, L7, L8, L9, L10, L11, L12, L13, L16, L20, L31, L32, L40, L48, L57, L59, L60, L61, L91, L93, L97, L99, L100, L102, L103, L114, L122, L255, L300, L400, L402, L999, L2280, L2500, L99999, L63, L1431655765, L858993459, L252645135, ic_ge, ic_gt, ic_le, ic_lt, ic_eq, ic_ne, if_lt, if_ge, if_gt, if_le, if_eq, if_ne, if_lt_zI, if_ge_zI, ic_ne_m1, ic_eq_m1, ic_nn_m1, ic_ee_m1, if_ne_b2i, if_eq_b2i, b2i_z, decide_eq_true_eq, decide_true, decide_false, Bool.not_eq_true, Bool.not_eq_true', Bool.not_true, Bool.not_false, decide_eq_false_iff_not, Bool.false_eq_true, not_false_eq_true, not_true_eq_false, if_true, if_false, ↓reduceIte, eq_self, Option.bind_some, Bool.true_and, Bool.false_and, Bool.and_true, Bool.and_false, nI_add, nI_subN, nI_clamp, gdF, gdF2, gdP, gdP2, zI_cl, zI_s, Lm1, nI_n0, zI_n0, leF, or_false, false_or, or_self, e, nI_divN, nI_r20, hq8, Option.elim, hpb]
    have hvn := (OkD_p ok hv).2.1
    refine ep_bind (g83 (p := p + 18) (l1 := q8) (ps := d.2.2.1.take i) hpb ho8.2.1 cq8 hvn cd.2.2.1 (by rw [List.length_take]; omega) (fun j q hj hq => ?_) (fun j j' q hj hj' h1 h2 => ?_)) ?_
    · have hq : T.2.2.2 (p + 19) j = some q := hq
      have := ow.2.2.2.1 p j q hpT hj hq
      refine ⟨this.1, this.2.1, fun eq => ?_⟩
      rw [eq] at hq
      exact hne (ow.2.2.2.2 p j q8 p' _ hpT hpT' hj hs20 hq hq8').1.symm
    · have h1 : T.2.2.2 (p + 19) j = some q := h1
      have h2 : T.2.2.2 (p + 19) j' = some q := h2
      exact (ow.2.2.2.2 p j q p j' hpT hpT hj hj' h1 h2).2
    · rintro ⟨_, T1, G1⟩ ⟨q0, s0, kp, cp⟩
      have kp : KpC T G (p + 18) T1 G1 q0 s0 := kp
      have cp : CP T1 G1 (p + 18) (keepA (d.2.2.1.take i) v) := cp
      rw [keepA_take (by omega) hv hl20] at cp
      have hG1 : G1.2.1 ≤ G.2.1 + 11 ∧ G1.2.2 ≤ G.2.2 + 139 := by
        rcases kp.2.1 with ⟨_, e⟩ | ⟨_, _, e1, e2⟩
        · rw [e]
          omega
        · omega
      exact ih (i + 1) T1 G1 (by omega) (WI_kp wi hp kp) (kp_me ow hpT kp cd cp) (by omega) (by omega)
end G151
/-- world p becomes as world p' is -/
theorem g150 {T : xS} {G : gS} {p p' kk nr : Nat} {d d0 : AD} (ow : OwC T G) (hp : Wd T p) (hp' : Wd T p') (hne : p' ≠ p) (c : CD T G p' d) (c0 : CD T G p d0) (ok : OkD kk nr d) : Ep (fun n => G150 p p' n (T, G)) (fun z => WI T G p z.2.1 z.2.2 ∧ CD z.2.1 z.2.2 p d ∧ z.2.2.2.1 ≤ G.2.1 + 220 ∧ z.2.2.2.2 ≤ G.2.2 + 2780) := by
  have hv := ow.1 p hp
  have hv' := ow.1 p' hp'
  have hd := wld_dis hv' hv hne
  obtain ⟨c1, c2, c3, c4, c5⟩ := c
  obtain ⟨k1, k2, k3, k4, k5⟩ := c0
  have wi0 : WI T G p T G := ⟨ow, fun _ => rfl, fun _ _ _ _ h => h, fun _ h => h⟩
  refine ep_succ (fun n => G150e0 p p' n ..) ?_
  simp only [G150b0, hv, hv', decide_eq_true_eq, decide_true, decide_false, Bool.not_eq_true, Bool.not_eq_true', Bool.not_true, Bool.not_false, decide_eq_false_iff_not, Bool.false_eq_true, not_false_eq_true, not_true_eq_false, if_true, if_false, ↓reduceIte, eq_self, Option.bind_some, Bool.true_and, Bool.false_and, Bool.and_true, Bool.and_false]
  refine ep_bind (g53 (p := p + 1) (q := p' + 1) c1 ok.1 (by omega)) ?_
  rintro ⟨_, T1⟩ ⟨a1, a2, a3⟩
  have a2 : ∀ r, (r < p + 1 ∨ p + 1 + 5 < r) → T1.1 r = T.1 r ∧ T1.2.1 r = T.2.1 r := a2
  have a3 : T1.2.2 = T.2.2 := a3
  have wi1 := WI_own (T' := T1) wi0 hp (fun q hq => a2 q (by omega)) (by rw [a3])
  have c2' : CW T1 (p' + 7) d.2.1 := CW_of c2 (a2 _ (by omega)).1 (fun j a b => (a2 _ (by omega)).2)
  refine ep_bind (g54 (p := p + 7) (q := p' + 7) c2' (OkD_n ok) (by omega)) ?_
  rintro ⟨_, T2⟩ ⟨b1, b2⟩
  have b2 : FrW (p + 7) T1 T2 := b2
  have b1 : CW T2 (p + 7) d.2.1 := b1
  have wi2 := WI_own (T' := T2) wi1 hp (fun q hq => b2.1 q (by omega)) (by rw [b2.2])
  have cb2 : CB T2 (p + 1) d.1 := CB_of a1 (b2.1 _ (by omega)).1 (fun j a b => (b2.1 _ (by omega)).2)
  refine ep_bind (R := fun z => WI T G p z.2.1 z.2.2 ∧ CD z.2.1 z.2.2 p (d.1, d.2.1, d.2.2.1, d0.2.2.2.1, d0.2.2.2.2) ∧ z.2.2.2.1 ≤ G.2.1 + 220 ∧ z.2.2.2.2 ≤ G.2.2 + 2780) ?_ ?_
  · refine ep_succ (fun n => G151e0 (p + 18) (p' + 18) n ..) ?_
    simp only [G151b0, vkp hv, decide_eq_true_eq, decide_true, decide_false, Bool.not_eq_true, Bool.not_eq_true', Bool.not_true, Bool.not_false, decide_eq_false_iff_not, Bool.false_eq_true, not_false_eq_true, not_true_eq_false, if_true, if_false, ↓reduceIte, eq_self, Option.bind_some, Bool.true_and, Bool.false_and, Bool.and_true, Bool.and_false]
    refine ep_bv (b := ((), x_sI (x_sI T2 (p + 18) 1 (nI 0)) (p + 18) 2 (nI 0))) ?_ ?_
    · refine ev_succ (fun n => G55e0 (p + 18) n ..) ?_
      simp only [G55b0, decide_eq_true_eq, decide_true, decide_false, Bool.not_eq_true, Bool.not_eq_true', Bool.not_true, Bool.not_false, decide_eq_false_iff_not, Bool.false_eq_true, not_false_eq_true, not_true_eq_false, if_true, if_false, ↓reduceIte, eq_self, Option.bind_some, Bool.true_and, Bool.false_and, Bool.and_true, Bool.and_false, L0, L1, L2, L3, L4, L5, L6, L7, L8, L9, L10, L11, L12, L13, L16, L20, L31, L32, L40, L48, L57, L59, L60, L61, L91, L93, L97, L99, L100, L102, L103, L114, L122, L255, L300, L400, L402, L999, L2280, L2500, L99999, L63, L1431655765, L858993459, L252645135]
      exact ev_ret
    · simp only [L0, L1, L2, L3, L4, L5, L6, L7, L8, L9, L10, L11, L12, L13, L16, L20, L31, L32, L40, L48, L57, L59, L60, L61, L91, L93, L97, L99, L100, L102, L103, L114, L122, L255, L300, L400, L402, L999, L2280, L2500, L99999, L63, L1431655765, L858993459, L252645135]
      have wi3 := WI_own (T' := x_sI (x_sI T2 (p + 18) 1 (nI 0)) (p + 18) 2 (nI 0)) wi2 hp (fun q hq => ⟨by rw [x_rIn (by omega), x_rIn (by omega)], rfl⟩) rfl
      refine g151l (T0 := T) (G0 := G) hp hp' hne ⟨c1, c2, c3, c4, c5⟩ ok d.2.2.1.length 0 _ G (by omega) wi3 ⟨?_, ?_, ?_, ?_, ?_⟩ (by omega) (by omega)
      · exact CB_of cb2 (by rw [x_rIn (by omega), x_rIn (by omega)]) (fun _ _ _ => rfl)
      · exact CW_of b1 (by rw [x_rIn (by omega), x_rIn (by omega)]) (fun _ _ _ => rfl)
      · refine ⟨0, by decide, by rw [x_rIi (by decide), x_rIe], ?_, fun i w hi => ?_⟩
        · rw [x_rIe]
          rfl
        · rw [List.take_zero] at hi
          cases hi
      · rw [x_rIn (by omega), x_rIn (by omega), (b2.1 p (by omega)).1, (a2 p (by omega)).1]
        exact k4
      · rw [x_rIn (by omega), x_rIn (by omega), (b2.1 p (by omega)).1, (a2 p (by omega)).1]
        exact k5
  · rintro ⟨_, T3, G3⟩ ⟨wi3, cd3, g1, g2⟩
    have wi3 : WI T G p T3 G3 := wi3
    have cd3 : CD T3 G3 p (d.1, d.2.1, d.2.2.1, d0.2.2.2.1, d0.2.2.2.2) := cd3
    have ow3 := wi3.1
    have hp3 := (WI_W wi3).mpr hp
    have hp3' := (WI_W wi3).mpr hp'
    obtain ⟨_, _, _, q4, q5⟩ := wi3.2.2.1 p' d hp' hne ⟨c1, c2, c3, c4, c5⟩
    simp (disch := omega) only [ow3.1 p hp3, ow3.1 p' hp3', decide_eq_true_eq, decide_true, decide_false, Bool.not_eq_true, Bool.not_eq_true', Bool.not_true, Bool.not_false, decide_eq_false_iff_not, Bool.false_eq_true, not_false_eq_true, not_true_eq_false, if_true, if_false, ↓reduceIte, eq_self, Option.bind_some, Bool.true_and, Bool.false_and, Bool.and_true, Bool.and_false, x_rA1, x_rA3, x_rAe, x_rAn, x_rAi, x_rI2, x_rIe, x_rIn, x_rIi, x_rL1, x_rL2, x_rL4, x_rLe, x_rLi, x_rLn, x_rQ1, x_rQ2, x_rQ3, x_rQe, x_rQi, x_rQn, x_rR1, x_rR3, x_rRe, x_rRn, q4, q5]
    have wi4 := WI_own (T' := x_sI (x_sI T3 p 3 (zI d.2.2.2.1)) p 4 (nI d.2.2.2.2)) wi3 hp (fun q hq => ⟨by rw [x_rIn (by omega), x_rIn (by omega)], rfl⟩) rfl
    obtain ⟨r1, r2, r3, r4, r5⟩ := cd3
    refine ep_ret ⟨wi4, ⟨CB_of r1 (by rw [x_rIn (by omega), x_rIn (by omega)]) (fun _ _ _ => rfl), CW_of r2 (by rw [x_rIn (by omega), x_rIn (by omega)]) (fun _ _ _ => rfl), CP_of r3 (by rw [x_rIn (by omega), x_rIn (by omega)]) rfl (fun i q w hi a cw => ?_), ?_, x_rIe⟩, g1, g2⟩
    · have ho := ow3.2.2.2.1 p i q hp3 hi a
      have hwo := wld_out (ow3.1 p hp3) ho.2.1 (ho.2.2 p hp3)
      exact CW_of cw (by rw [x_rIn (by omega), x_rIn (by omega)]) (fun _ _ _ => rfl)
    · rw [x_rIi (by decide), x_rIe]
