theorem am_p1_len {pc pc' : Nat} {L L' st st' : List Value} {ins : Instr} {own : Nat} (hq : am_p1 own pc L st ins = some (pc', L', st')) : L'.length = L.length := by
  unfold am_p1 at hq
  repeat' split at hq
  all_goals first | (cases hq; done) | (cases hq; rfl) | (cases hq; exact am_sl_len _ _ _)
theorem am_p2_len {pc pc' : Nat} {L L' st st' : List Value} {ins : Instr}  (hq : am_p2 pc L st ins = some (pc', L', st')) : L'.length = L.length := by
  unfold am_p2 at hq
  repeat' split at hq
  all_goals first | (cases hq; done) | (cases hq; rfl) | (cases hq; exact am_sl_len _ _ _)
theorem am_p3_len {pc pc' : Nat} {L L' st st' : List Value} {ins : Instr}  (hq : am_p3 pc L st ins = some (pc', L', st')) : L'.length = L.length := by
  unfold am_p3 at hq
  repeat' split at hq
  all_goals first | (cases hq; done) | (cases hq; rfl) | (cases hq; exact am_sl_len _ _ _)
theorem am_p4_len {pc pc' : Nat} {L L' st st' : List Value} {ins : Instr}  (hq : am_p4 pc L st ins = some (pc', L', st')) : L'.length = L.length := by
  unfold am_p4 at hq
  repeat' split at hq
  all_goals first | (cases hq; done) | (cases hq; rfl) | (cases hq; exact am_sl_len _ _ _)
theorem am_p5_len {pc pc' : Nat} {L L' st st' : List Value} {ins : Instr}  (hq : am_p5 pc L st ins = some (pc', L', st')) : L'.length = L.length := by
  unfold am_p5 at hq
  repeat' split at hq
  all_goals first | (cases hq; done) | (cases hq; rfl) | (cases hq; exact am_sl_len _ _ _)
theorem am_p6_len {pc pc' : Nat} {L L' st st' : List Value} {ins : Instr} {own : Nat} (hq : am_p6 own pc L st ins = some (pc', L', st')) : L'.length = L.length := by
  unfold am_p6 at hq
  repeat' split at hq
  all_goals first | (cases hq; done) | (cases hq; rfl) | (cases hq; exact am_sl_len _ _ _)
theorem am_p7_len {pc pc' : Nat} {L L' st st' : List Value} {ins : Instr} {own : Nat} {h : AmH} {X : Nat → va_E} (hq : am_p7 X own pc L st h ins = some (pc', L', st')) : L'.length = L.length := by
  unfold am_p7 at hq
  repeat' split at hq
  all_goals first | (cases hq; done) | (cases hq; rfl) | (cases hq; exact am_sl_len _ _ _)
theorem am_q1_len {pc pc' : Nat} {L L' st st' : List Value} {ins : Instr} {own mid : Nat} {h h' : AmH} (hq : am_q1 own mid pc L st h ins = some ((pc', L', st'), h')) : L'.length = L.length := by
  unfold am_q1 at hq
  repeat' split at hq
  all_goals first | (cases hq; done) | (cases hq; rfl) | (cases hq; exact am_sl_len _ _ _)
theorem am_q2_len {pc pc' : Nat} {L L' st st' : List Value} {ins : Instr} {own : Nat} {h h' : AmH} (hq : am_q2 own pc L st h ins = some ((pc', L', st'), h')) : L'.length = L.length := by
  unfold am_q2 at hq
  repeat' split at hq
  all_goals first | (cases hq; done) | (cases hq; rfl) | (cases hq; exact am_sl_len _ _ _)
theorem am_q3_len {pc pc' : Nat} {L L' st st' : List Value} {ins : Instr} {own : Nat} {h h' : AmH} (hq : am_q3 own pc L st h ins = some ((pc', L', st'), h')) : L'.length = L.length := by
  unfold am_q3 at hq
  repeat' split at hq
  all_goals first | (cases hq; done) | (cases hq; rfl) | (cases hq; exact am_sl_len _ _ _)
