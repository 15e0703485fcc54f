/-! an order's error and what it does, in the reference -/
def eoV (S : Nat → Int → Int) : Int :=
  if S 10 0 = 119 then ewV (S 11 0) (S 11 1) (S 11 2)
  else if S 10 0 = 97 then (if 0 ≤ S 11 0 ∧ S 11 0 ≤ 5 then 0 else -1000001)
  else if S 10 0 = 102 then efV (gOf (S 0)) (S 11 0) (S 11 1) (S 11 2)
  else if S 10 0 = 109 then emV (gOf (S 0)) (S 11 0) (S 11 1)
  else if S 10 0 = 114 then erV (S 11 0) (S 11 1)
  else edV (gOf (S 0)) (S 11 0)
def doS (S : Nat → Int → Int) : Nat → Int → Int :=
  if S 10 0 = 119 then wrS S (S 11 0) (S 11 1) (S 11 2)
  else if S 10 0 = 97 then waS S (S 11 0)
  else if S 10 0 = 102 then lyZ (lyZ S 4 (3 * S 11 0 + S 11 1) (S 11 2)) 5 (3 * S 11 0 + S 11 1) 1
  else if S 10 0 = 109 then lyZ S 5 (3 * S 11 0 + S 11 1) 0
  else if S 10 0 = 114 then lyZ S 6 (S 11 0) (S 11 1)
  else esS S (S 11 0).toNat
