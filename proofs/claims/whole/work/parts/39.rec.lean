set_option maxHeartbeats 4000000 in
set_option maxRecDepth 100000 in
theorem m_X3_records_all (l : Launch) (D : va_G) (mo : Nat) (am : Nat → Nat) (cI : ClassId) (S : Nat → Int → Int) (hk : 0 ≤ S 4 0 ∧ S 4 0 ≤ 4) : MW l D yX3_records (wsY yX3_records cX3_records 2 none) { frames := 1, cells := 0, slots := 0, locals := 24 } [(cI, .int)] [.ref mo] (wM mo am cI S) (wM mo am cI (recS S)) none := by
  by_cases h : S 4 0 = 4
  · rw [show recS S = recF S from if_pos h]; exact m_X3_records_full l D mo am cI S h
  · rw [show recS S = recN S from if_neg h]; exact m_X3_records l D mo am cI S (by omega)
theorem q_rec (S : Nat → Int → Int) : gOf (recS S 0) = gOf (S 0) := by rw [rec_k S 0 (by decide) (by decide)]
theorem inv_rec {B : Int} {S : Nat → Int → Int} (hI : InvG B (gOf (S 0))) : InvG B (gOf (recS S 0)) := by rw [q_rec]; exact hI
def askS (X : Nat → Int → Int) (r c : Int) : Nat → Int → Int :=
  let Y := upG X 0 (8 + 3 * gOf (X 0) 0 (8 * r + c) + tellZ (gOf (X 0) 1 (8 * r + c)) (thrZ (gOf (X 0)) r 0) (thrZ (gOf (X 0)) r 1)) (gOf (X 0) 10 (3 * gOf (X 0) 0 (8 * r + c) + tellZ (gOf (X 0) 1 (8 * r + c)) (thrZ (gOf (X 0)) r 0) (thrZ (gOf (X 0)) r 1)) + 1)
  upG Y 0 7 (Y 0 7 + 1)
