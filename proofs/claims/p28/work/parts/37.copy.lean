/-! rows that are copied, the history -/
def cpZ (F T : Int → Int) (a b : Int) : Nat → (Int → Int)
  | 0 => T
  | n + 1 => upI (cpZ F T a b n) (b + n) (F (a + n))
theorem cp_at (F T : Int → Int) (a b j : Int) : ∀ n : Nat, cpZ F T a b n j = if b ≤ j ∧ j < b + n then F (a + (j - b)) else T j := by
  intro n
  induction n with
  | zero => rw [if_neg (by omega)]; rfl
  | succ n ih =>
    show upI (cpZ F T a b n) (b + n) (F (a + n)) j = _
    by_cases e : j = b + n
    · subst e
      rw [upI_s, if_pos (by omega)]
      congr 1
      omega
    · rw [upI_n e, ih]
      by_cases c : b ≤ j ∧ j < b + (n : Int)
      · rw [if_pos c, if_pos (by omega)]
      · rw [if_neg c, if_neg (by omega)]
def setA (S : Nat → Int → Int) (k : Nat) (F : Int → Int) : Nat → Int → Int := fun k' => if k' = k then F else S k'
theorem setA_n (S : Nat → Int → Int) (k : Nat) (F : Int → Int) (j : Nat) (h : j ≠ k) : setA S k F j = S j := if_neg h
theorem setA_s (S : Nat → Int → Int) (k : Nat) (F : Int → Int) : setA S k F k = F := if_pos rfl
/-- the history moves down by one state -/
def shZ (P : Int → Int) : Nat → (Int → Int)
  | 0 => P
  | n + 1 => upI (shZ P n) n (shZ P n (n + 269))
theorem sh_at (P : Int → Int) (j : Int) : ∀ n : Nat, shZ P n j = if 0 ≤ j ∧ j < n then P (j + 269) else P j := by
  intro n
  induction n generalizing j with
  | zero => rw [if_neg (by omega)]; rfl
  | succ n ih =>
    show upI (shZ P n) n (shZ P n (n + 269)) j = _
    by_cases e : j = n
    · subst e
      rw [upI_s, if_pos (by omega), ih, if_neg (by omega)]
    · rw [upI_n e, ih]
      by_cases c : 0 ≤ j ∧ j < (n : Int)
      · rw [if_pos c, if_pos (by omega)]
      · rw [if_neg c, if_neg (by omega)]
def recN (S : Nat → Int → Int) : Nat → Int → Int := upG (setA S 3 (cpZ (S 0) (S 3) 0 (269 * S 4 0) 269)) 4 0 (S 4 0 + 1)
def recF (S : Nat → Int → Int) : Nat → Int → Int := upG (setA (setA S 3 (shZ (S 3) 807)) 3 (cpZ (S 0) (shZ (S 3) 807) 0 (269 * (S 4 0 - 1)) 269)) 4 0 (S 4 0 - 1 + 1)
def recS (S : Nat → Int → Int) : Nat → Int → Int := if S 4 0 = 4 then recF S else recN S
theorem rec_k (S : Nat → Int → Int) (k : Nat) (h3 : k ≠ 3) (h4 : k ≠ 4) : recS S k = S k := by
  unfold recS
  split
  · simp [recF, upG, setA, h3, h4]
  · simp [recN, upG, setA, h3, h4]
theorem upG_setA (S : Nat → Int → Int) (k : Nat) (F : Int → Int) (z v : Int) : upG (setA S k F) k z v = setA S k (upI F z v) := by
  funext k'
  unfold upG setA
  by_cases h : k' = k
  · rw [if_pos h, if_pos h, if_pos rfl]
  · rw [if_neg h, if_neg h, if_neg h]
