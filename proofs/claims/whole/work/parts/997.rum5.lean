/-! rules told: the reference's tests -/
def FaM (S0 : mS) (f : Nat → Nat) (L sl : Nat) (P0 : List TK) (m : Nat) : Prop := ∀ (d i p : Nat) (cs : List TK) (K : List Nat) (S : mS) (Q : Unit × mS → Prop), 2 * (L - i) + 1 ≤ m → d ≤ 10 → p ≤ 60 → i ≤ L → 3 * (P0.length + cs.length) ≤ 6 * p + i → K.length ≤ i → RuS S0 S L sl i 0 p (P0 ++ cs) d K → ((prF f L m true d false false i p cs).1 ≠ 0 → ∀ S', RuX S0 L sl (prF f L m true d false false i p cs).1 S' → Q ((), S')) → ((prF f L m true d false false i p cs).1 = 0 → ∀ S', RuS S0 S' L sl (prF f L m true d false false i p cs).2.1 0 (prF f L m true d false false i p cs).2.2.1 (P0 ++ (prF f L m true d false false i p cs).2.2.2) d K → Ep (fun n => F182f n 9 0 1 S') Q) → Ep (fun n => F182f n 9 1 1 S) Q
def TeM (S0 : mS) (f : Nat → Nat) (L sl : Nat) (P0 : List TK) (m : Nat) : Prop := ∀ (d : Nat) (an o : Bool) (i p : Nat) (cs : List TK) (K : List Nat) (S : mS) (Q : Unit × mS → Prop), 2 * (L - i) + 2 ≤ m → d ≤ 10 → p ≤ 60 → i ≤ L → 3 * (P0.length + cs.length + b1 an + b1 o) ≤ 6 * p + i → (bK an 10 ++ (bK o 11 ++ K)).length ≤ i → (K = [] ∨ ∃ K', K = 12 :: K') → RuS S0 S L sl i 0 p (P0 ++ cs) d (bK an 10 ++ (bK o 11 ++ K)) → ((prF f L m false d an o i p cs).1 ≠ 0 → ∀ S', RuX S0 L sl (prF f L m false d an o i p cs).1 S' → Q ((), S')) → ((prF f L m false d an o i p cs).1 = 0 → bk f L (prF f L m false d an o i p cs).2.1 = (prF f L m false d an o i p cs).2.1 → ∀ S', RuS S0 S' L sl (prF f L m false d an o i p cs).2.1 0 (prF f L m false d an o i p cs).2.2.1 (P0 ++ (prF f L m false d an o i p cs).2.2.2) d K → Ep (fun n => F182x (F182f n) n 0 1 S') Q) → Ep (fun n => F182f n 9 1 1 S) Q
section Rq
variable {S0 S : mS} {f : Nat → Nat} {L sl i e p dp l : Nat} {pc P0 cs : List TK} {K : List Nat}
theorem f182z {a : Int32} {Q : Unit × mS → Prop} (he : e ≠ 0) (he2 : e < 2 ^ 31) (h : RuX S0 L sl e S) (hq : Q ((), S)) : Ep (fun n => F182f n 9 a 1 S) Q := by
  have t28 : S.1 28 = nI e := h.1.2.2
  have e1 : am_if .ne (nI e) = true := by rw [if_ne he2, decide_eq_false he]; rfl
  have e2 : am_if .eq 1 = false := by decide
  refine ep_succ (fun n => F182e9 n ..) ?_
  simp only [F182_w, e2, t28, e1, Bool.false_eq_true, if_false, if_true]
  exact ep_ret hq
theorem RuX_e (h : RuX S0 L sl e S) (i' : Nat) (hi : i' ≤ L + 1) : RuX S0 L sl e (m_sI S 27 (nI i')) := by
  obtain ⟨⟨a1, _, a3⟩, h2, h3, h4⟩ := h
  exact ⟨⟨by rw [m_rIn (by decide)]; exact a1, ⟨i', hi, m_rIe⟩, by rw [m_rIn (by decide)]; exact a3⟩, fun q a b c d x y => by rw [m_rIn a]; exact h2 q a b c d x y, h3, h4⟩
/-- to read a fact -/
theorem f182a {Q : Unit × mS → Prop} (t28 : S.1 28 = nI 0) {R : Int32 × mS → Prop} (h : Ep (fun n => F183 n S) R) (hq : ∀ z, R z → (z.1 = nI 1 → Ep (fun n => F182f n 9 0 1 z.2) Q) ∧ (z.1 = nI 0 → Ep (fun n => F182f n 9 1 1 z.2) Q)) (h01 : ∀ z, R z → z.1 = nI 0 ∨ z.1 = nI 1) : Ep (fun n => F182f n 9 1 1 S) Q := by
  have e1 : am_if .ne (nI 0) = false := by decide
  have e1' : am_if .ne (nI 1) = true := by decide
  have e2 : am_if .eq 1 = false := by decide
  refine ep_succ (fun n => F182e9 n ..) ?_
  simp only [F182_w, e2, t28, e1, Bool.false_eq_true, if_false]
  refine ep_bind h ?_
  rintro ⟨z, S1⟩ hz
  obtain ⟨q1, q0⟩ := hq _ hz
  rcases h01 _ hz with h0 | h1
  · have h0 : z = nI 0 := h0
    subst h0
    simp only [e1, Bool.false_eq_true, if_false]
    exact q0 rfl
  · have h1 : z = nI 1 := h1
    subst h1
    simp only [e1', if_true]
    exact q1 rfl
/-- behind a fact -/
theorem f182b {Q : Unit × mS → Prop} (t28 : S.1 28 = nI 0) (h : Ep (fun n => (F192 n 9 S).bind (fun z4 => F182w (F182f n) n 0 1 z4.2)) Q) : Ep (fun n => F182f n 9 0 1 S) Q := by
  have e1 : am_if .ne (nI 0) = false := by decide
  have e2 : am_if .eq 1 = false := by decide
  have e3 : am_if .eq 0 = true := by decide
  refine ep_succ (fun n => F182e9 n ..) ?_
  simp only [F182_w, e2, e3, t28, e1, Bool.false_eq_true, if_false, if_true]
  exact h
theorem f182b' {Q : Unit × mS → Prop} (t28 : S.1 28 = nI 0) (h : Ep (fun n => F182f n 9 0 1 S) Q) : Ep (fun n => (F192 n 9 S).bind (fun z4 => F182w (F182f n) n 0 1 z4.2)) Q := by
  have e1 : am_if .ne (nI 0) = false := by decide
  have e2 : am_if .eq 1 = false := by decide
  have e3 : am_if .eq 0 = true := by decide
  refine ep_eq (g := fun n => F182f (n + 1) 9 0 1 S) (fun n => ?_) (ep_sh 1 h)
  show _ = F182f (n + 1) 9 0 1 S
  rw [F182e9, F182_w, if_neg (by rw [e2]; decide), t28, if_neg (by rw [e1]; decide), if_pos e3]
theorem fa_s {m : Nat} (hH : MH S0 f L) (h35 : S0.1 35 = nI 11) (hsl : sl < 6) (hf : FaM S0 f L sl P0 m) (ht : TeM S0 f L sl P0 m) : FaM S0 f L sl P0 (m + 1) := by
  have hL := hH.2.1
  intro d i p cs K S Q hm hd hp hi hlen hK h
  have hb := bk_b (f := f) hi
  have t28 : S.1 28 = nI 0 := h.1.1.2.2
  obtain ⟨res, hres⟩ : ∃ res, res = prF f L (m + 1) true d false false i p cs := ⟨_, rfl⟩
  rw [← hres]
  unfold prF at hres
  intro kf kk
  refine f182a t28 (f183 hH h35 hsl hi hp hd hlen (by omega) h) (fun z hz => ?_) (fun z hz => ?_)
  · obtain ⟨z1, z2, z3⟩ := hz
    by_cases c92 : sg f L (bk f L i) = 92
    · obtain ⟨y0, y⟩ := z1 c92
      have hl := sg_l (x := 91) c92
      rw [if_pos c92] at hres
      refine ⟨fun w => absurd (y0.symm.trans w) (by decide), fun _ => ?_⟩
      by_cases hd10 : 10 ≤ d
      · rw [if_pos hd10] at hres y
        have hx := RuS_X y (by omega)
        refine f182z (show 3 + 8 * bk f L i ≠ 0 by omega) (by omega) hx ?_
        rw [hres] at kf
        exact kf (show 3 + 8 * bk f L i ≠ 0 by omega) _ hx
      · rw [if_neg hd10] at hres y
        obtain ⟨R, hR⟩ : ∃ R, R = prF f L m false (d + 1) false false (bk f L i + 1) p cs := ⟨_, rfl⟩
        obtain ⟨q1, q2, q3⟩ := pr_g (f := f) (L := L) m false (d + 1) false false (bk f L i + 1) p cs (fun z => absurd z (by decide)) (fun _ => by omega) hp (by omega)
        have key := ht (d + 1) false false (bk f L i + 1) p cs (12 :: K) z.2 Q (by omega) (by omega) hp (by omega) (by show 3 * (P0.length + cs.length + 0 + 0) ≤ _; omega) (show (12 :: K).length ≤ _ by show K.length + 1 ≤ _; omega) (Or.inr ⟨K, rfl⟩) y
        rw [← hR] at key hres q1 q2 q3
        unfold brF at hres
        refine key (fun r0 S' hS' => ?_) (fun r0 hbk S' hS' => ?_)
        · rw [if_pos r0] at hres
          rw [hres] at kf
          exact kf r0 S' hS'
        · have n0 : ¬ R.1 ≠ 0 := fun z => z r0
          rw [if_neg n0, hbk] at hres
          have hH' := RuS_MH hH hS'
          have hsb : sg f L R.2.1 < 2 ^ 30 := by
            unfold sg
            by_cases hl : R.2.1 < L
            · rw [if_pos hl]
              have := hH.2.2 _ hl
              omega
            · rw [if_neg hl]
              decide
          have q93 : am_ic .eq (zI (sg f L R.2.1)) 93 = decide (sg f L R.2.1 = 94) := ic_eq_pn (c := 93) (by omega) (by decide)
          have e12 : am_ic .ne (topI (12 :: K)) 12 = false := by
            show am_ic .ne (nI 12) 12 = false
            decide
          have t7 : S'.1 27 = nI R.2.1 := hS'.1.1.2.1
          have t34 : S'.1 34 = nI (K.length + 1) := hS'.2.2.1
          have t32 : S'.1 32 = nI (d + 1) := hS'.2.1
          unfold F182x
          refine ep_bv (f193 hS' (show K.length + 1 ≤ 401 by omega)) ?_
          simp only [e12, Bool.false_eq_true, if_false]
          refine ep_bv (f162 hH' q2 (RuV_MY hS'.1)) ?_
          by_cases c94 : sg f L R.2.1 = 94
          · have hl2 := sg_l (x := 93) c94
            rw [if_pos c94] at hres
            have k34 : (m_sI S' 27 (nI (R.2.1 + 1))).1 34 = nI (K.length + 1) := by rw [m_rIn (by decide)]; exact t34
            have k32 : (m_sI (m_sI S' 27 (nI (R.2.1 + 1))) 34 (nI K.length)).1 32 = nI (d + 1) := by rw [m_rIn (by decide), m_rIn (by decide)]; exact t32
            simp only [q93, decide_eq_true c94, if_true, t7, nI_p1, k34, nI_s1, k32]
            rw [hres] at kk
            exact kk rfl _ (RuS_a (RuS_c (RuS_27 hS')))
          · rw [if_neg c94] at hres
            simp only [q93, decide_eq_false c94, Bool.false_eq_true, if_false, t7, L0]
            refine ep_bind (f165 (RuV_MY hS'.1)) ?_
            rintro ⟨_, S2⟩ a
            have a : MY S2 S' L R.2.1 (1 + 8 * R.2.1) := a
            have r2 := RuS_my hS' a
            have t7' : S2.1 27 = nI R.2.1 := r2.1.1.2.1
            have t34' : S2.1 34 = nI (K.length + 1) := r2.2.2.1
            have t32' : S2.1 32 = nI (d + 1) := r2.2.1
            have k34 : (m_sI S2 27 (nI (R.2.1 + 1))).1 34 = nI (K.length + 1) := by rw [m_rIn (by decide)]; exact t34'
            have k32 : (m_sI (m_sI S2 27 (nI (R.2.1 + 1))) 34 (nI K.length)).1 32 = nI (d + 1) := by rw [m_rIn (by decide), m_rIn (by decide)]; exact t32'
            simp only [t7', nI_p1, k34, nI_s1, k32]
            have hx := RuS_X (RuS_a (dp' := d) (RuS_c (RuS_27 (i' := R.2.1 + 1) r2))) (by omega)
            refine f182z (show 1 + 8 * R.2.1 ≠ 0 by omega) (by omega) hx ?_
            rw [hres] at kf
            exact kf (show 1 + 8 * R.2.1 ≠ 0 by omega) _ hx
    · rw [if_neg c92] at hres
      cases hw : wmB f L (bk f L i) wNot with
      | true =>
        obtain ⟨y0, y⟩ := z2 c92 hw
        have hl : bk f L i + 3 ≤ L := wm_len hw
        rw [if_pos hw] at hres
        refine ⟨fun w => absurd (y0.symm.trans w) (by decide), fun _ => ?_⟩
        by_cases hd10 : 10 ≤ d
        · rw [if_pos hd10] at hres y
          have hx := RuS_X y (by omega)
          refine f182z (show 3 + 8 * bk f L i ≠ 0 by omega) (by omega) hx ?_
          rw [hres] at kf
          exact kf (show 3 + 8 * bk f L i ≠ 0 by omega) _ hx
        · rw [if_neg hd10] at hres y
          obtain ⟨R, hR⟩ : ∃ R, R = prF f L m true (d + 1) false false (bk f L i + 3) p cs := ⟨_, rfl⟩
          obtain ⟨q1, q2, q3⟩ := pr_g (f := f) (L := L) m true (d + 1) false false (bk f L i + 3) p cs (fun _ => by omega) (fun z => absurd z (by decide)) hp hl
          have key := hf (d + 1) (bk f L i + 3) p cs (9 :: K) z.2 Q (by omega) (by omega) hp hl (by omega) (show K.length + 1 ≤ _ by omega) y
          rw [← hR] at key hres q2
          rw [← hR, if_pos rfl] at q3
          unfold ntF at hres
          refine key (fun r0 S' hS' => ?_) (fun r0 S' hS' => ?_)
          · rw [if_pos r0] at hres
            rw [hres] at kf
            exact kf r0 S' hS'
          · have n0 : ¬ R.1 ≠ 0 := fun z => z r0
            rw [if_neg n0] at hres
            obtain ⟨u1, u2, u3, u4, u5, u6⟩ := q3 r0
            have hlr : (P0 ++ R.2.2.2).length = P0.length + R.2.2.2.length := List.length_append ..
            obtain ⟨S2, r2, hn⟩ := f192p (l := 9) hsl (Or.inl rfl) hS' (by omega) (by omega) (fun _ => by omega)
            rw [if_pos rfl, show d + 1 - 1 = d by omega, List.append_assoc] at r2
            refine f182b hS'.1.1.2.2 ?_
            refine pop9 hn ?_
            rw [hres] at kk
            exact f182b' r2.1.1.2.2 (kk rfl S2 r2)
      | false =>
        obtain ⟨y0, y1, y2⟩ := z3 c92 hw
        rw [if_neg (by rw [hw]; decide)] at hres
        rw [← hres] at y1 y2
        refine ⟨fun _ => ?_, fun w => absurd (y0.symm.trans w) (by decide)⟩
        by_cases r0 : res.1 = 0
        · exact kk r0 _ (y2 r0)
        · have hx := y1 r0
          have hg := (cm_g (f := f) (cs := cs) hb.2.1 hp).1
          rw [← hres] at hg
          exact f182z r0 (by omega) hx (kf r0 _ hx)
  · obtain ⟨z1, z2, z3⟩ := hz
    by_cases c92 : sg f L (bk f L i) = 92
    · exact Or.inl (z1 c92).1
    · cases hw : wmB f L (bk f L i) wNot with
      | true => exact Or.inl (z2 c92 hw).1
      | false => exact Or.inr (z3 c92 hw).1
theorem bK_len {z : Bool} {l : Nat} : (bK z l).length = b1 z := by cases z <;> rfl
theorem noT_9 {an o : Bool} (hK : K = [] ∨ ∃ K', K = 12 :: K') : noT (bK an 10 ++ (bK o 11 ++ K)) 9 := by
  cases an with
  | true => exact ⟨by decide, by decide⟩
  | false =>
    cases o with
    | true => exact ⟨by decide, by decide⟩
    | false =>
      rcases hK with rfl | ⟨K', rfl⟩
      · trivial
      · exact ⟨by decide, by decide⟩
theorem noT_10 {o : Bool} (hK : K = [] ∨ ∃ K', K = 12 :: K') : noT (bK o 11 ++ K) 10 := by
  cases o with
  | true => exact ⟨by decide, by decide⟩
  | false =>
    rcases hK with rfl | ⟨K', rfl⟩
    · trivial
    · exact ⟨by decide, by decide⟩
theorem noT_11 (hK : K = [] ∨ ∃ K', K = 12 :: K') : noT K 11 := by
  rcases hK with rfl | ⟨K', rfl⟩
  · trivial
  · exact ⟨by decide, by decide⟩
theorem te_s {m : Nat} (hH : MH S0 f L) (hsl : sl < 6) (hf : FaM S0 f L sl P0 m) (ht : TeM S0 f L sl P0 m) : TeM S0 f L sl P0 (m + 1) := by
  have hL := hH.2.1
  intro d an o i p cs K S Q hm hd hp hi hlen hKl hK h
  obtain ⟨r1, r2, r3⟩ := pr_g (f := f) (L := L) m true d false false i p cs (fun _ => by omega) (fun z => absurd z (by decide)) hp hi
  rw [if_pos rfl] at r3
  have hq := pr_q (f := f) (L := L) m true d false false i p cs
  obtain ⟨res, hres⟩ : ∃ res, res = prF f L (m + 1) false d an o i p cs := ⟨_, rfl⟩
  rw [← hres]
  unfold prF at hres
  intro kf kk
  have key := hf d i p cs (bK an 10 ++ (bK o 11 ++ K)) S Q (by omega) hd hp hi (by omega) hKl h
  obtain ⟨R, hR⟩ : ∃ R, R = prF f L m true d false false i p cs := ⟨_, rfl⟩
  rw [← hR] at key hres r1 r2 r3
  have hlK : (bK an 10 ++ (bK o 11 ++ K)).length = b1 an + (b1 o + K.length) := by rw [List.length_append, List.length_append, bK_len, bK_len]
  have hlK1 : (bK o 11 ++ K).length = b1 o + K.length := by rw [List.length_append, bK_len]
  have ha1 : b1 an ≤ 1 := by cases an <;> decide
  have ho1 : b1 o ≤ 1 := by cases o <;> decide
  refine key (fun r0 S' hS' => ?_) (fun r0 S' hS' => ?_)
  · rw [if_pos r0] at hres
    rw [hres] at kf
    exact kf r0 S' hS'
  · have n0 : ¬ R.1 ≠ 0 := fun z => z r0
    rw [if_neg n0] at hres
    obtain ⟨g1, g2, g3, g4, g5, g6⟩ := r3 r0
    have hb := bk_b (f := f) r2
    have hlr : (P0 ++ R.2.2.2).length = P0.length + R.2.2.2.length := List.length_append ..
    rw [bl_eq] at hres
    refine f182b hS'.1.1.2.2 ?_
    refine ep_bv (f192s (l := 9) hS' (by omega) (noT_9 hK) (by decide)) ?_
    unfold F182w
    refine ep_bind (f161 (RuS_MH hH hS') r2 (RuV_MY hS'.1)) ?_
    rintro ⟨_, S1⟩ a
    have k1 := RuS_my hS' a
    have hH1 := RuS_MH hH k1
    refine ep_bv (f164 hH1 wr_56 hb.2.1 (RuV_MY k1.1)) ?_
    refine ep_bv (f164 hH1 wr_58 hb.2.1 (RuV_MY k1.1)) ?_
    refine ep_bind (f192b (l := 10) hsl (Or.inl rfl) k1 (by omega) (by omega) (noT_10 hK)) ?_
    rintro ⟨_, S2⟩ k2
    have k2 : RuS S0 S2 L sl (bk f L R.2.1) 0 R.2.2.1 (P0 ++ R.2.2.2 ++ bl an 10) d (bK o 11 ++ K) := k2
    rw [List.append_assoc] at k2
    have hl1 : (R.2.2.2 ++ bl an 10).length = R.2.2.2.length + b1 an := by rw [List.length_append]; cases an <;> rfl
    have hl1' : (P0 ++ (R.2.2.2 ++ bl an 10)).length = P0.length + (R.2.2.2.length + b1 an) := by rw [List.length_append, hl1]
    have nt : am_if .ne (b2i true) = true := by decide
    have nf : am_if .ne (b2i false) = false := by decide
    have et : am_if .eq (b2i true) = false := by decide
    have ef : am_if .eq (b2i false) = true := by decide
    cases hw : wmB f L (bk f L R.2.1) wAnd with
    | true =>
      rw [if_pos hw] at hres
      have hl : bk f L R.2.1 + 3 ≤ L := wm_len hw
      have ho : wmB f L (bk f L R.2.1) wOr = false := by
        cases ho : wmB f L (bk f L R.2.1) wOr with
        | false => rfl
        | true =>
          have x1 : f (bk f L R.2.1) = 97 := wm_0 hw (by decide)
          have x2 : f (bk f L R.2.1) = 111 := wm_0 ho (by decide)
          omega
      rw [ho]
      simp only [nt, et, ef, if_true, Bool.false_eq_true, if_false]
      refine ep_bind (f184o (l := 10) (Or.inl rfl) k2 (by omega)) ?_
      rintro ⟨_, S3⟩ k3
      have k3 : RuS S0 S3 L sl (bk f L R.2.1) 0 R.2.2.1 (P0 ++ (R.2.2.2 ++ bl an 10)) d (10 :: (bK o 11 ++ K)) := k3
      have t7 : S3.1 27 = nI (bk f L R.2.1) := k3.1.1.2.1
      have t3 : nI (bk f L R.2.1) + 3 = nI (bk f L R.2.1 + 3) := nI_add _ 3
      simp only [t7, t3]
      have := ht d true o (bk f L R.2.1 + 3) R.2.2.1 (R.2.2.2 ++ bl an 10) K (m_sI S3 27 (nI (bk f L R.2.1 + 3))) Q (by omega) hd g3 hl (by show 3 * (P0.length + (R.2.2.2 ++ bl an 10).length + 1 + b1 o) ≤ _; omega) (show (10 :: (bK o 11 ++ K)).length ≤ _ by show (bK o 11 ++ K).length + 1 ≤ _; omega) hK (RuS_27 k3)
      rw [← hres] at this
      exact this kf kk
    | false =>
      rw [if_neg (by rw [hw]; decide)] at hres
      have ebl : (if o = true then R.2.2.2 ++ bl an 10 ++ [(11, 0)] else R.2.2.2 ++ bl an 10) = (R.2.2.2 ++ bl an 10) ++ bl o 11 := bl_eq
      rw [ebl] at hres
      have f11 : Ep (fun n => F192 n (nI 11) S2) (fun y => RuS S0 y.2 L sl (bk f L R.2.1) 0 R.2.2.1 (P0 ++ (R.2.2.2 ++ bl an 10) ++ bl o 11) d K) := f192b (l := 11) hsl (Or.inr rfl) k2 (by omega) (by omega) (noT_11 hK)
      cases hw2 : wmB f L (bk f L R.2.1) wOr with
      | true =>
        rw [if_pos hw2] at hres
        have hl : bk f L R.2.1 + 2 ≤ L := wm_len hw2
        simp only [nf, et, ef, if_true, Bool.false_eq_true, if_false]
        refine ep_bind f11 ?_
        rintro ⟨_, S3⟩ k3
        have k3 : RuS S0 S3 L sl (bk f L R.2.1) 0 R.2.2.1 (P0 ++ (R.2.2.2 ++ bl an 10) ++ bl o 11) d K := k3
        rw [List.append_assoc] at k3
        have hl2 : ((R.2.2.2 ++ bl an 10) ++ bl o 11).length = R.2.2.2.length + b1 an + b1 o := by rw [List.length_append, hl1]; cases o <;> rfl
        refine ep_bind (f184o (l := 11) (Or.inr rfl) k3 (by omega)) ?_
        rintro ⟨_, S4⟩ k4
        have k4 : RuS S0 S4 L sl (bk f L R.2.1) 0 R.2.2.1 (P0 ++ ((R.2.2.2 ++ bl an 10) ++ bl o 11)) d (11 :: K) := k4
        have t7 : S4.1 27 = nI (bk f L R.2.1) := k4.1.1.2.1
        have t3 : nI (bk f L R.2.1) + 2 = nI (bk f L R.2.1 + 2) := nI_add _ 2
        simp only [t7, t3]
        have := ht d false true (bk f L R.2.1 + 2) R.2.2.1 ((R.2.2.2 ++ bl an 10) ++ bl o 11) K (m_sI S4 27 (nI (bk f L R.2.1 + 2))) Q (by omega) hd g3 hl (by show 3 * (P0.length + ((R.2.2.2 ++ bl an 10) ++ bl o 11).length + 0 + 1) ≤ _; omega) (show (11 :: K).length ≤ _ by show K.length + 1 ≤ _; omega) hK (RuS_27 k4)
        rw [← hres] at this
        exact this kf kk
      | false =>
        rw [if_neg (by rw [hw2]; decide)] at hres
        simp only [nf, ef, if_true, Bool.false_eq_true, if_false]
        refine ep_bind f11 ?_
        rintro ⟨_, S3⟩ k3
        have k3 : RuS S0 S3 L sl (bk f L R.2.1) 0 R.2.2.1 (P0 ++ (R.2.2.2 ++ bl an 10) ++ bl o 11) d K := k3
        rw [List.append_assoc] at k3
        rw [hres] at kk
        exact kk rfl (bk_id r2) S3 k3
theorem mt_all (hH : MH S0 f L) (h35 : S0.1 35 = nI 11) (hsl : sl < 6) : ∀ m, FaM S0 f L sl P0 m ∧ TeM S0 f L sl P0 m
  | 0 => ⟨fun d i p cs K S Q hm => by omega, fun d an o i p cs K S Q hm => by omega⟩
  | m + 1 => ⟨fa_s hH h35 hsl (mt_all hH h35 hsl m).1 (mt_all hH h35 hsl m).2, te_s hH hsl (mt_all hH h35 hsl m).1 (mt_all hH h35 hsl m).2⟩
end Rq
