/-! the whole state, as the document tells it, and how both hold it. A world: bed, water, what can be undone (oldest first), the rule in force + 1, x -/
abbrev AD : Type := AB × AW × List AW × Nat × Nat
abbrev RU : Type := Nat → (Nat → Int64) → Bool
/-- tape (how long, its bytes), rules (how many, what they say), the world, its images -/
abbrev AA : Type := (Nat × (Nat → Nat)) × (Nat × RU) × AD × (Nat → Option AD)
def lawA (ru : RU) (f : Nat) : LW := if f = 0 then none else some (ru (f - 1))
def OkD (k nr : Nat) (d : AD) : Prop := OkB d.1 ∧ (d.1 0 0 = 0 ∨ 2 ≤ d.1 0 0) ∧ (∀ w, w = d.2.1 ∨ w ∈ d.2.2.1 → OkW d.1 w ∧ w.1 0 1 ≤ 12 ∧ w.1 0 0 ≤ k ∧ (∀ i, i < 6 → w.1 8 i ≤ 13 * w.1 0 0) ∧ ctF (fun c => !decide (w.1 7 c = 0)) 16 0 ≤ 5) ∧ d.2.2.1.length ≤ 20 ∧ d.2.2.2.1 ≤ nr ∧ d.2.2.2.2 < 2 ^ 31
def OkA (k : Nat) (A : AA) : Prop := A.1.1 ≤ 400 ∧ (∀ i, i < A.1.1 → A.1.2 i < 256) ∧ A.2.1.1 ≤ 6 ∧ OkD k A.2.1.1 A.2.2.1 ∧ (∀ i d, A.2.2.2 i = some d → OkD k A.2.1.1 d)
/-- what can be undone, at place p of the program: p the object, p + 1 its row of waters -/
def CP (T : xS) (G : gS) (p : Nat) (ps : List AW) : Prop := ∃ o, o < 20 ∧ T.1 p 1 = nI o ∧ T.1 p 2 = nI ps.length ∧ ∀ i w, ps[i]? = some w → ∃ q, T.2.2.2 (p + 1) ((o + i) % 20) = some q ∧ CW T q w
/-- a world at place p of the program -/
def CD (T : xS) (G : gS) (p : Nat) (d : AD) : Prop := CB T (p + 1) d.1 ∧ CW T (p + 7) d.2.1 ∧ CP T G (p + 18) d.2.2.1 ∧ T.1 p 3 = zI d.2.2.2.1 ∧ T.1 p 4 = nI d.2.2.2.2
/-- a world's place -/
def Wd (T : xS) (p : Nat) : Prop := p = 88 ∨ ∃ i, i < 4 ∧ T.2.2.2 108 i = some p
/-- whose is what -/
def OwC (T : xS) (G : gS) : Prop := (∀ p, Wd T p → vB G p = true) ∧ (∀ i p, i < 4 → T.2.2.2 108 i = some p → 172 ≤ p) ∧ (∀ i j p, i < 4 → j < 4 → T.2.2.2 108 i = some p → T.2.2.2 108 j = some p → i = j) ∧ (∀ p i q, Wd T p → i < 20 → T.2.2.2 (p + 19) i = some q → 172 ≤ q ∧ wB G q = true ∧ (∀ p', Wd T p' → q ≠ p' + 7)) ∧ (∀ p i q p' i', Wd T p → Wd T p' → i < 20 → i' < 20 → T.2.2.2 (p + 19) i = some q → T.2.2.2 (p' + 19) i' = some q → p = p' ∧ i = i')
def RC (A : AA) (T : xS) (G : gS) : Prop := (T.1 65 1 = nI A.1.1 ∧ ∀ i, i < A.1.1 → T.2.1 66 i = nI (A.1.2 i)) ∧ (T.1 64 4 = nI A.2.1.1 ∧ ∀ r, r < A.2.1.1 → ∃ q n, T.2.2.2 87 r = some q ∧ lB G q n = true ∧ LC T (some q) n (some (A.2.1.2 r))) ∧ CD T G 88 A.2.2.1 ∧ (∀ i, i < 4 → match A.2.2.2 i with
  | none => T.2.2.2 108 i = none
  | some d => ∃ p, T.2.2.2 108 i = some p ∧ CD T G p d) ∧ OwC T G
/-- a byte as the reference holds it -/
def sbI (x : Nat) : Int32 := if x < 128 then nI x else nI x - nI 256
/-- where a water's rows lie in the reference's row of what can be undone -/
def paR (f : Nat → Int32) (j : Nat) : Nat → Nat → Int32 := fun k i => if k = 1 then f (114 * j + (if i = 4 then 0 else if i = 3 then 1 else if i = 5 then 2 else 3)) else if k = 6 then f (114 * j + (4 + i)) else f (114 * j + (10 + 13 * (k - 8) + i))
/-- where a world's rows lie in the reference's row of images -/
def imO : List Nat := [0, 1, 10, 26, 42, 48, 54, 60, 64, 77, 90, 103, 116, 129, 142, 155]
def imR (f : Nat → Int32) (j : Nat) : Nat → Nat → Int32 := fun k i => f (2500 * j + (imO.getD k 0 + i))
def MP (f : Nat → Int32) (ps : List AW) : Prop := ∀ j w, ps[j]? = some w → MW (paR f j) w
def MD (r : Nat → Nat → Int32) (pm : Int32) (f : Nat → Int32) (d : AD) : Prop := MB r d.1 ∧ MW r d.2.1 ∧ pm = nI d.2.2.1.length ∧ MP f d.2.2.1 ∧ r 1 8 = zI d.2.2.2.1 ∧ r 1 7 = nI d.2.2.2.2
/-- rule r of the reference says f -/
def lmI (r k i : Nat) : Prop := (k < 29 → 300 * r ≤ i ∧ i < 300 * r + 300) ∧ (k = 29 → i = r) ∧ (29 < k → 12 * r ≤ i ∧ i < 12 * r + 12)
def LMr (S : mS) (r : Nat) (f : (Nat → Int64) → Bool) : Prop := ∀ (S' : mS) (x : Nat → Int64), (∀ k i, 27 ≤ k → k ≤ 31 → lmI r k i → S'.2.1 k i = S.2.1 k i) → S'.2.1 1 8 = nI r → (∀ k, k < 11 → S'.2.2 33 k = x k) → ∃ y, Ev (fun n => F224 n S') (b2i (f x), (S'.1, S'.2.1, y))
def RM (A : AA) (S : mS) : Prop := (S.1 26 = nI A.1.1 ∧ ∀ i, i < A.1.1 → S.2.1 26 i = sbI (A.1.2 i)) ∧ (S.1 30 = nI A.2.1.1 ∧ S.1 35 = nI 11 ∧ ∀ r, r < A.2.1.1 → LMr S r (A.2.1.2 r)) ∧ MD S.2.1 (S.1 47) (S.2.1 35) A.2.2.1 ∧ (∀ i, i < 4 → match A.2.2.2 i with
  | none => S.2.1 41 i = nI 0
  | some d => S.2.1 41 i = nI 1 ∧ MD (imR (S.2.1 40) i) (S.2.1 40 (2500 * i)) (fun j => S.2.1 40 (2500 * i + (168 + j))) d)
def RG (k : Nat) (G : gS) : Prop := G.2.1 ≤ 260 * k ∧ G.2.2 ≤ 23896 + 5000 * k
/-- both hold the same -/
def RR (k : Nat) (S : mS) (U : xS × gS) : Prop := ∃ A, OkA k A ∧ RC A U.1 U.2 ∧ RM A S ∧ RG k U.2
/-- a call of the program, of the reference, from states that hold A: answer r, and they hold A' -/
def CallX (k : Nat) (g : Nat → xS × gS → Option (Int32 × (xS × gS))) (A : AA) (r : Int32) (A' : AA) : Prop := ∀ T G, RC A T G → RG k G → Ep (fun n => g n (T, G)) (fun z => z.1 = r ∧ RC A' z.2.1 z.2.2 ∧ RG (k + 1) z.2.2)
def CallT (g : Nat → xS → Option (Int32 × xS)) (A : AA) (r : Int32) (A' : AA) : Prop := ∀ T G, RC A T G → Ep (fun n => g n T) (fun z => z.1 = r ∧ RC A' z.2 G)
def CallM (f : Nat → mS → Option (Int32 × mS)) (A : AA) (r : Int32) (A' : AA) : Prop := ∀ S, RM A S → Ep (fun n => f n S) (fun z => z.1 = r ∧ RM A' z.2)
theorem RG_s {k : Nat} {G : gS} (h : RG k G) : RG (k + 1) G := ⟨by have := h.1; omega, by have := h.2; omega⟩
theorem OkD_s {k nr : Nat} {d : AD} (h : OkD k nr d) : OkD (k + 1) nr d := ⟨h.1, h.2.1, fun w hw => ⟨(h.2.2.1 w hw).1, (h.2.2.1 w hw).2.1, by have := (h.2.2.1 w hw).2.2.1; omega, (h.2.2.1 w hw).2.2.2⟩, h.2.2.2⟩
theorem OkA_s {k : Nat} {A : AA} (h : OkA k A) : OkA (k + 1) A := ⟨h.1, h.2.1, h.2.2.1, OkD_s h.2.2.2.1, fun i d hd => OkD_s (h.2.2.2.2 i d hd)⟩
/-- a pair of calls keeps the relation -/
theorem simT {k : Nat} {S : mS} {U : xS × gS} {g : Nat → xS → Option (Int32 × xS)} {f : Nat → mS → Option (Int32 × mS)} (h : RR k S U) (hc : ∀ A, OkA k A → ∃ r A', OkA (k + 1) A' ∧ CallT g A r A' ∧ CallM f A r A') : ∃ (n n' : Nat) (r : Int32) (S' : mS) (T' : xS), g n U.1 = some (r, T') ∧ f n' S = some (r, S') ∧ RR (k + 1) S' (T', U.2) := by
  obtain ⟨A, ok, c, m, hG⟩ := h
  obtain ⟨r, A', ok', h1, h2⟩ := hc A ok
  obtain ⟨⟨r1, T'⟩, e1, hr1, hc1⟩ := h1 U.1 U.2 c
  obtain ⟨⟨r2, S'⟩, e2, hr2, hm2⟩ := h2 S m
  have hr1 : r1 = r := hr1
  have hr2 : r2 = r := hr2
  subst hr1
  subst hr2
  obtain ⟨n, hn⟩ := ev_get e1
  obtain ⟨n', hn'⟩ := ev_get e2
  exact ⟨n, n', r2, S', T', hn, hn', A', ok', hc1, hm2, RG_s hG⟩
theorem simX {k : Nat} {S : mS} {U : xS × gS} {g : Nat → xS × gS → Option (Int32 × (xS × gS))} {f : Nat → mS → Option (Int32 × mS)} (h : RR k S U) (hc : ∀ A, OkA k A → ∃ r A', OkA (k + 1) A' ∧ CallX k g A r A' ∧ CallM f A r A') : ∃ (n n' : Nat) (r : Int32) (S' : mS) (U' : xS × gS), g n U = some (r, U') ∧ f n' S = some (r, S') ∧ RR (k + 1) S' U' := by
  obtain ⟨A, ok, c, m, hG⟩ := h
  obtain ⟨r, A', ok', h1, h2⟩ := hc A ok
  obtain ⟨⟨r1, U'⟩, e1, hr1, hc1, hG1⟩ := h1 U.1 U.2 c hG
  obtain ⟨⟨r2, S'⟩, e2, hr2, hm2⟩ := h2 S m
  have hr1 : r1 = r := hr1
  have hr2 : r2 = r := hr2
  subst hr1
  subst hr2
  obtain ⟨n, hn⟩ := ev_get e1
  obtain ⟨n', hn'⟩ := ev_get e2
  exact ⟨n, n', r2, S', U', hn, hn', A', ok', hc1, hm2, hG1⟩
theorem LM_of {S : mS} {A : AA} (h : RM A S) {f : Nat} (hf : f ≤ A.2.1.1) (h6 : A.2.1.1 ≤ 6) (h8 : S.2.1 1 8 = zI f) : LM S (lawA A.2.1.2 f) := by
  unfold lawA
  by_cases h0 : f = 0
  · rw [if_pos h0]
    subst h0
    exact h8
  · rw [if_neg h0]
    obtain ⟨r, rfl⟩ : ∃ r, f = r + 1 := ⟨f - 1, by omega⟩
    rw [zI_s] at h8
    refine ⟨⟨r, by omega, h8⟩, fun S' x e1 e2 e3 => h.2.1.2.2 r (by omega) S' x (fun k i a b _ => e1 k i a b) (by rw [e2, h8]) e3⟩
/-! nothing changes -/
theorem callT_id {g : Nat → xS → Option (Int32 × xS)} {A : AA} {r : Int32} (h : ∀ T G, RC A T G → Ev (fun n => g n T) (r, T)) : CallT g A r A := fun T G hc => ⟨_, h T G hc, rfl, hc⟩
theorem callM_id {f : Nat → mS → Option (Int32 × mS)} {A : AA} {r : Int32} (h : ∀ S, RM A S → Ev (fun n => f n S) (r, S)) : CallM f A r A := fun S hm => ⟨_, h S hm, rfl, hm⟩
