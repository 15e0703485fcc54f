/-! the reference's text: S 5 its signs, S 6 0 the length, S 7 0 the place, S 9 0 whether it is of the form, S 11 the numbers -/
def InvS (S : Nat → Int → Int) : Prop := (0 ≤ S 6 0 ∧ S 6 0 ≤ 60) ∧ (∀ p : Int, 0 ≤ p → p < 60 → 0 ≤ S 5 p ∧ S 5 p ≤ 126)
theorem chrS_bd {S : Nat → Int → Int} (h : InvS S) (i : Int) : 0 ≤ chrZ (S 5) (S 6 0) i ∧ chrZ (S 5) (S 6 0) i ≤ 126 := by
  unfold chrZ
  split
  · omega
  · have h1 := h.1
    exact h.2 i (by omega) (by omega)
def tkS (S : Nat → Int → Int) (b : Int) : Nat → Int → Int := if S 9 0 ≠ 0 ∧ b ≠ 0 then upG (upG S 9 0 1) 7 0 (S 7 0 + 1) else upG (upG S 9 0 0) 7 0 (S 7 0 + 0)
theorem tk_k (S : Nat → Int → Int) (b : Int) (k : Nat) (h7 : k ≠ 7) (h9 : k ≠ 9) : tkS S b k = S k := by
  unfold tkS
  split <;> (unfold upG; rw [if_neg h7, if_neg h9])
theorem tk_9 (S : Nat → Int → Int) (b : Int) : tkS S b 9 0 = if S 9 0 ≠ 0 ∧ b ≠ 0 then 1 else 0 := by
  unfold tkS
  split <;> rfl
theorem tk_7 (S : Nat → Int → Int) (b : Int) : tkS S b 7 0 = if S 9 0 ≠ 0 ∧ b ≠ 0 then S 7 0 + 1 else S 7 0 := by
  unfold tkS
  split
  · rfl
  · show S 7 0 + 0 = S 7 0; omega
theorem tk_inv {S : Nat → Int → Int} (h : InvS S) (b : Int) : InvS (tkS S b) := by
  unfold InvS
  rw [tk_k S b 5 (by decide) (by decide), tk_k S b 6 (by decide) (by decide)]
  exact h
def tnS (S : Nat → Int → Int) (w : Int) : Nat → Int → Int :=
  if S 9 0 = 0 then upG (upG S 9 0 0) 11 w 0
  else if digZ (chrZ (S 5) (S 6 0) (S 7 0)) = 0 then upG (upG S 9 0 0) 11 w 0
  else if digZ (chrZ (S 5) (S 6 0) (S 7 0 + 1)) = 0 then upG (upG (upG S 7 0 (S 7 0 + 1)) 9 0 1) 11 w (0 + chrZ (S 5) (S 6 0) (S 7 0) - 48)
  else if digZ (chrZ (S 5) (S 6 0) (S 7 0 + 1 + 1)) = 0 then upG (upG (upG S 7 0 (S 7 0 + 1 + 1)) 9 0 1) 11 w (10 * (0 + chrZ (S 5) (S 6 0) (S 7 0) - 48) + chrZ (S 5) (S 6 0) (S 7 0 + 1) - 48)
  else upG (upG (upG S 7 0 (S 7 0 + 1 + 1 + 1)) 9 0 1) 11 w (10 * (10 * (0 + chrZ (S 5) (S 6 0) (S 7 0) - 48) + chrZ (S 5) (S 6 0) (S 7 0 + 1) - 48) + chrZ (S 5) (S 6 0) (S 7 0 + 1 + 1) - 48)
theorem tn_k (S : Nat → Int → Int) (w : Int) (k : Nat) (h7 : k ≠ 7) (h9 : k ≠ 9) (h11 : k ≠ 11) : tnS S w k = S k := by
  unfold tnS
  repeat' split
  all_goals (unfold upG; first | rw [if_neg h11, if_neg h9, if_neg h7] | rw [if_neg h11, if_neg h9])
theorem tn_7 (S : Nat → Int → Int) (w : Int) : S 7 0 ≤ tnS S w 7 0 ∧ tnS S w 7 0 ≤ S 7 0 + 3 := by
  unfold tnS
  repeat' split
  · show S 7 0 ≤ S 7 0 ∧ S 7 0 ≤ S 7 0 + 3; omega
  · show S 7 0 ≤ S 7 0 ∧ S 7 0 ≤ S 7 0 + 3; omega
  · show S 7 0 ≤ S 7 0 + 1 ∧ S 7 0 + 1 ≤ S 7 0 + 3; omega
  · show S 7 0 ≤ S 7 0 + 1 + 1 ∧ S 7 0 + 1 + 1 ≤ S 7 0 + 3; omega
  · show S 7 0 ≤ S 7 0 + 1 + 1 + 1 ∧ S 7 0 + 1 + 1 + 1 ≤ S 7 0 + 3; omega
theorem tn_9 (S : Nat → Int → Int) (w : Int) : tnS S w 9 0 = if S 9 0 = 0 ∨ digZ (chrZ (S 5) (S 6 0) (S 7 0)) = 0 then 0 else 1 := by
  unfold tnS
  by_cases h1 : S 9 0 = 0
  · rw [if_pos h1, if_pos (Or.inl h1)]; rfl
  · rw [if_neg h1]
    by_cases h2 : digZ (chrZ (S 5) (S 6 0) (S 7 0)) = 0
    · rw [if_pos h2, if_pos (Or.inr h2)]; rfl
    · rw [if_neg h2, show (if S 9 0 = 0 ∨ digZ (chrZ (S 5) (S 6 0) (S 7 0)) = 0 then (0 : Int) else 1) = 1 from if_neg (fun q => Or.elim q h1 h2)]
      repeat' split
      all_goals rfl
theorem tn_inv {S : Nat → Int → Int} (h : InvS S) (w : Int) : InvS (tnS S w) := by
  unfold InvS
  rw [tn_k S w 5 (by decide) (by decide) (by decide), tn_k S w 6 (by decide) (by decide) (by decide)]
  exact h
