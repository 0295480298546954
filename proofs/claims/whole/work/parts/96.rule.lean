/-! rules told: as the document says it. A state of the reading: fault, place, pieces, code -/
abbrev TK : Type := Nat × Nat
abbrev PS : Type := Nat × Nat × Nat × List TK
def wdW : List (List Nat) := [[108, 111, 110, 103], [111, 116, 104, 101, 114], [108, 97, 115, 116], [102, 105, 114, 115, 116], [115, 97, 109, 101], [99, 101, 108, 108], [100, 97, 121], [111, 110, 101], [108, 97, 116, 101, 114], [109, 97, 110, 121], [119, 97, 105, 116]]
def wAnd : List Nat := [97, 110, 100]
def wOr : List Nat := [111, 114]
def wNot : List Nat := [110, 111, 116]
def vaF (f : Nat → Nat) (L i p : Nat) (cs : List TK) : PS := if dg f L (bk f L i) ≠ 0 then (if (nmF f L i).1 ≠ 0 then ((nmF f L i).1, (nmF f L i).2.2, p, cs) else if 60 ≤ p then (4 + 8 * bk f L i, (nmF f L i).2.2, p, cs) else (0, (nmF f L i).2.2, p + 1, cs ++ [(0, (nmF f L i).2.1)])) else match wiF f L (bk f L i) wdW 0 with
  | none => (1 + 8 * bk f L i, bk f L i, p, cs)
  | some r => if 60 ≤ p then (4 + 8 * bk f L i, bk f L i + r.2, p, cs) else (0, bk f L i + r.2, p + 1, cs ++ [(1, r.1)])
def muS (f : Nat → Nat) (L j : Nat) : Nat := if sg f L j = 43 then 13 else if sg f L j = 48 then 14 else if sg f L j = 38 then 15 else 0
def adS (f : Nat → Nat) (L j : Nat) : Nat := if sg f L j = 44 then 2 else if sg f L j = 46 then 3 else 0
def opL (o : Nat) (cs : List TK) : List TK := if o = 0 then cs else cs ++ [(o, 0)]
/-- a sum: what is to be added, what is to be timed; m + p = 61 -/
def smF (f : Nat → Nat) (L : Nat) : Nat → Nat → Nat → Nat → Nat → List TK → PS
  | 0, _, _, i, p, cs => (0, i, p, cs)
  | m + 1, ad, tm, i, p, cs => if (vaF f L i p cs).1 ≠ 0 then vaF f L i p cs else if muS f L (bk f L (vaF f L i p cs).2.1) ≠ 0 then smF f L m ad (muS f L (bk f L (vaF f L i p cs).2.1)) (bk f L (vaF f L i p cs).2.1 + 1) (vaF f L i p cs).2.2.1 (opL tm (vaF f L i p cs).2.2.2) else if adS f L (bk f L (vaF f L i p cs).2.1) ≠ 0 then smF f L m (adS f L (bk f L (vaF f L i p cs).2.1)) 0 (bk f L (vaF f L i p cs).2.1 + 1) (vaF f L i p cs).2.2.1 (opL ad (opL tm (vaF f L i p cs).2.2.2)) else (0, bk f L (vaF f L i p cs).2.1, (vaF f L i p cs).2.2.1, opL ad (opL tm (vaF f L i p cs).2.2.2))
def smG (f : Nat → Nat) (L i p : Nat) (cs : List TK) : PS := smF f L (61 - p) 0 0 i p cs
/-- is '=' behind '<' or '>' -/
def wiS (f : Nat → Nat) (L j : Nat) : Nat := if sg f L j ≠ 62 ∧ sg f L (j + 1) = 62 then 1 else 0
def cmO (f : Nat → Nat) (L j : Nat) : Nat := if sg f L j = 62 then 6 else if sg f L j = 61 then (if wiS f L j = 1 then 5 else 4) else (if wiS f L j = 1 then 7 else 8)
def isC (f : Nat → Nat) (L j : Nat) : Bool := decide (sg f L j = 61 ∨ sg f L j = 62 ∨ sg f L j = 63)
/-- behind the first sum -/
def c2F (f : Nat → Nat) (L : Nat) (s : PS) : PS := if s.1 ≠ 0 then s else if isC f L s.2.1 = false then (1 + 8 * s.2.1, s.2.1, s.2.2.1, s.2.2.2) else if 60 ≤ s.2.2.1 then (4 + 8 * s.2.1, s.2.1, s.2.2.1, s.2.2.2) else smG f L (s.2.1 + 1 + wiS f L s.2.1) (s.2.2.1 + 1) s.2.2.2
def cmF (f : Nat → Nat) (L i p : Nat) (cs : List TK) : PS := if (c2F f L (smG f L i p cs)).1 ≠ 0 then c2F f L (smG f L i p cs) else (0, (c2F f L (smG f L i p cs)).2.1, (c2F f L (smG f L i p cs)).2.2.1, (c2F f L (smG f L i p cs)).2.2.2 ++ [(cmO f L (smG f L i p cs).2.1, 0)])
/-- behind what stands in brackets -/
def brF (f : Nat → Nat) (L : Nat) (s : PS) : PS := if s.1 ≠ 0 then s else if sg f L (bk f L s.2.1) = 94 then (0, bk f L s.2.1 + 1, s.2.2.1, s.2.2.2) else (1 + 8 * bk f L s.2.1, bk f L s.2.1, s.2.2.1, s.2.2.2)
def ntF (s : PS) : PS := if s.1 ≠ 0 then s else (0, s.2.1, s.2.2.1, s.2.2.2 ++ [(9, 0)])
/-- a fact (true) or a test (false; with what waits) -/
def prF (f : Nat → Nat) (L : Nat) : Nat → Bool → Nat → Bool → Bool → Nat → Nat → List TK → PS
  | 0, _, _, _, _, i, p, cs => (0, i, p, cs)
  | m + 1, true, d, _, _, i, p, cs => if sg f L (bk f L i) = 92 then (if 10 ≤ d then (3 + 8 * bk f L i, bk f L i, p, cs) else brF f L (prF f L m false (d + 1) false false (bk f L i + 1) p cs)) else if wmB f L (bk f L i) wNot = true then (if 10 ≤ d then (3 + 8 * bk f L i, bk f L i, p, cs) else ntF (prF f L m true (d + 1) false false (bk f L i + 3) p cs)) else cmF f L (bk f L i) p cs
  | m + 1, false, d, an, o, i, p, cs => if (prF f L m true d false false i p cs).1 ≠ 0 then prF f L m true d false false i p cs else if wmB f L (bk f L (prF f L m true d false false i p cs).2.1) wAnd = true then prF f L m false d true o (bk f L (prF f L m true d false false i p cs).2.1 + 3) (prF f L m true d false false i p cs).2.2.1 (if an = true then (prF f L m true d false false i p cs).2.2.2 ++ [(10, 0)] else (prF f L m true d false false i p cs).2.2.2) else if wmB f L (bk f L (prF f L m true d false false i p cs).2.1) wOr = true then prF f L m false d false true (bk f L (prF f L m true d false false i p cs).2.1 + 2) (prF f L m true d false false i p cs).2.2.1 (if o = true then (if an = true then (prF f L m true d false false i p cs).2.2.2 ++ [(10, 0)] else (prF f L m true d false false i p cs).2.2.2) ++ [(11, 0)] else (if an = true then (prF f L m true d false false i p cs).2.2.2 ++ [(10, 0)] else (prF f L m true d false false i p cs).2.2.2)) else (0, bk f L (prF f L m true d false false i p cs).2.1, (prF f L m true d false false i p cs).2.2.1, (if o = true then (if an = true then (prF f L m true d false false i p cs).2.2.2 ++ [(10, 0)] else (prF f L m true d false false i p cs).2.2.2) ++ [(11, 0)] else (if an = true then (prF f L m true d false false i p cs).2.2.2 ++ [(10, 0)] else (prF f L m true d false false i p cs).2.2.2)))
def b1 (x : Bool) : Nat := if x = true then 1 else 0
/-- how code, pieces and place grow: at least k below -/
def Gw (L i p : Nat) (cs : List TK) (k : Nat) (r : PS) : Prop := r.1 ≤ 8 * L + 5 ∧ r.2.1 ≤ L ∧ (r.1 = 0 → i + 1 ≤ r.2.1 ∧ p ≤ r.2.2.1 ∧ r.2.2.1 ≤ 60 ∧ cs.length ≤ r.2.2.2.length ∧ r.2.2.2.length + i ≤ cs.length + r.2.1 ∧ 3 * r.2.2.2.length + 6 * p + i + k ≤ 3 * cs.length + 6 * r.2.2.1 + r.2.1)
theorem wi_q {f : Nat → Nat} {L i : Nat} {r : Nat × Nat} : ∀ (ws : List (List Nat)) (k : Nat), (∀ w, w ∈ ws → 1 ≤ w.length) → wiF f L i ws k = some r → 1 ≤ r.2
  | [], k, _, h => by
    unfold wiF at h
    exact absurd h (by simp)
  | w :: ws, k, hl, h => by
    unfold wiF at h
    by_cases hm : wmB f L i w = true
    · rw [if_pos hm] at h
      have h := Option.some.inj h
      rw [← h]
      exact hl w (List.mem_cons_self ..)
    · rw [if_neg hm] at h
      exact wi_q ws (k + 1) (fun w' hw' => hl w' (List.mem_cons_of_mem _ hw')) h
theorem wi_p {f : Nat → Nat} {L i : Nat} {r : Nat × Nat} (h : wiF f L i wdW 0 = some r) : 1 ≤ r.2 := wi_q wdW 0 (by decide) h
section Gws
variable {f : Nat → Nat} {L i p : Nat} {cs : List TK}
theorem len1 {x : TK} : (cs ++ [x]).length = cs.length + 1 := by rw [List.length_append]; rfl
theorem va_g (hi : i ≤ L) (hp : p ≤ 60) : Gw L i p cs 4 (vaF f L i p cs) := by
  have hb := bk_b (f := f) hi
  have hn := nm_b (f := f) hi
  have hd := dg_b (f := f) hb.2.1
  unfold vaF
  by_cases d0 : dg f L (bk f L i) = 0
  · rw [if_neg (fun z => z d0)]
    cases hw : wiF f L (bk f L i) wdW 0 with
    | none => exact ⟨by show 1 + 8 * bk f L i ≤ _; omega, hb.2.1, fun z => absurd z (show ¬ 1 + 8 * bk f L i = 0 by omega)⟩
    | some r =>
      obtain ⟨w1, w2, w3⟩ := wi_b wdW 0 hw
      have w4 := wi_p hw
      show Gw L i p cs 4 (if 60 ≤ p then (4 + 8 * bk f L i, bk f L i + r.2, p, cs) else (0, bk f L i + r.2, p + 1, cs ++ [(1, r.1)]))
      by_cases h60 : 60 ≤ p
      · rw [if_pos h60]
        exact ⟨by show 4 + 8 * bk f L i ≤ _; omega, w3, fun z => absurd z (show ¬ 4 + 8 * bk f L i = 0 by omega)⟩
      · rw [if_neg h60]
        refine ⟨Nat.zero_le _, w3, fun _ => ?_⟩
        show i + 1 ≤ bk f L i + r.2 ∧ p ≤ p + 1 ∧ p + 1 ≤ 60 ∧ cs.length ≤ (cs ++ [(1, r.1)]).length ∧ (cs ++ [(1, r.1)]).length + i ≤ cs.length + (bk f L i + r.2) ∧ 3 * (cs ++ [(1, r.1)]).length + 6 * p + i + 4 ≤ 3 * cs.length + 6 * (p + 1) + (bk f L i + r.2)
        rw [len1]
        omega
  · rw [if_pos d0]
    by_cases h0 : (nmF f L i).1 = 0
    · rw [if_neg (fun z => z h0)]
      have e1 : (nmF f L i).2.2 = bk f L i + dg f L (bk f L i) := by
        by_cases d5 : dg f L (bk f L i) ≤ 5
        · rw [nm_v d0 d5]
        · rw [nm_5 (by omega)]
      by_cases h60 : 60 ≤ p
      · rw [if_pos h60]
        exact ⟨by show 4 + 8 * bk f L i ≤ _; omega, hn.1, fun z => absurd z (show ¬ 4 + 8 * bk f L i = 0 by omega)⟩
      · rw [if_neg h60]
        refine ⟨Nat.zero_le _, hn.1, fun _ => ?_⟩
        show i + 1 ≤ (nmF f L i).2.2 ∧ p ≤ p + 1 ∧ p + 1 ≤ 60 ∧ cs.length ≤ (cs ++ [(0, (nmF f L i).2.1)]).length ∧ (cs ++ [(0, (nmF f L i).2.1)]).length + i ≤ cs.length + (nmF f L i).2.2 ∧ 3 * (cs ++ [(0, (nmF f L i).2.1)]).length + 6 * p + i + 4 ≤ 3 * cs.length + 6 * (p + 1) + (nmF f L i).2.2
        rw [len1, e1]
        omega
    · rw [if_pos h0]
      exact ⟨by show (nmF f L i).1 ≤ _; omega, hn.1, fun z => absurd z h0⟩
end Gws
