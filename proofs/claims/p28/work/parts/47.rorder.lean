/-! an order of the reference's text is taken -/
def okZ (k : Int) : Int := if k = 119 ∨ k = 97 ∨ k = 102 ∨ k = 109 ∨ k = 114 ∨ k = 100 then 1 else 0
def nmZ (k : Int) : Int := if k = 119 ∨ k = 102 then 3 else if k = 109 ∨ k = 114 then 2 else 1
def toA (S : Nat → Int → Int) : Nat → Int → Int := upG (upG (upG S 8 0 (S 7 0)) 9 0 1) 10 0 (chrZ (S 5) (S 6 0) (S 7 0))
def toN (S : Nat → Int → Int) : Nat → Int → Int := tnS (tkS (toA S) (okZ (chrZ (S 5) (S 6 0) (S 7 0)))) 0
def toC (S : Nat → Int → Int) (c : Int) : Nat → Int → Int := tkS S (if chrZ (S 5) (S 6 0) (S 7 0) = c then 1 else 0)
def toS (S : Nat → Int → Int) : Nat → Int → Int :=
  if nmZ (chrZ (S 5) (S 6 0) (S 7 0)) = 1 then toC (toN S) 59
  else if nmZ (chrZ (S 5) (S 6 0) (S 7 0)) = 2 then toC (tnS (toC (toN S) 44) 1) 59
  else toC (tnS (toC (tnS (toC (toN S) 44) 1) 44) 2) 59
theorem tk_b9 (S : Nat → Int → Int) (b : Int) : tkS S b 9 0 = 0 ∨ tkS S b 9 0 = 1 := by
  rw [tk_9]
  split
  · exact Or.inr rfl
  · exact Or.inl rfl
theorem tk_b7 (S : Nat → Int → Int) (b : Int) : S 7 0 ≤ tkS S b 7 0 ∧ tkS S b 7 0 ≤ S 7 0 + 1 := by
  rw [tk_7]
  split <;> omega
theorem tn_b9 (S : Nat → Int → Int) (b : Int) : tnS S b 9 0 = 0 ∨ tnS S b 9 0 = 1 := by
  rw [tn_9]
  split
  · exact Or.inl rfl
  · exact Or.inr rfl
theorem ok_b (k : Int) : okZ k = 0 ∨ okZ k = 1 := by
  unfold okZ
  split
  · exact Or.inr rfl
  · exact Or.inl rfl
