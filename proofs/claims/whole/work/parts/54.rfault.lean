/-! fault and play of the reference -/
theorem stp_k (T : Nat → Int → Int) (k : Nat) (h0 : k ≠ 0) (h12 : k ≠ 12) (h13 : k ≠ 13) : stpS T k = T k := by
  unfold stpS
  split
  · unfold upG; rw [if_neg h13, if_neg h12]
  · split
    · unfold upG; rw [if_neg h13, if_neg h12]
    · exact do_k T k h0
theorem da_k (X : Nat → Int → Int) (k : Nat) (h0 : k ≠ 0) (h7 : k ≠ 7) (h8 : k ≠ 8) (h9 : k ≠ 9) (h10 : k ≠ 10) (h11 : k ≠ 11) (h12 : k ≠ 12) (h13 : k ≠ 13) : ∀ n : Nat, daI X n k = X k := by
  intro n
  induction n with
  | zero => rfl
  | succ n ih =>
    show (if daI X n 12 0 = 0 ∧ daI X n 7 0 < daI X n 6 0 then stpS (toS (daI X n)) else daI X n) k = X k
    split
    · rw [stp_k _ k h0 h12 h13, to_k _ k h7 h8 h9 h10 h11]; exact ih
    · exact ih
def goX (S : Nat → Int → Int) : Nat → Int → Int := upG (upG S 12 0 0) 7 0 0
def faT (S : Nat → Int → Int) : Nat → Int → Int := daI (goX (setA S 2 (S 0))) 60
def faS (S : Nat → Int → Int) : Nat → Int → Int := setA (faT S) 0 (faT S 2)
def faV (S : Nat → Int → Int) (w : Int) : Int := if faT S 12 0 = 0 then -1000004 else if w = 0 then faT S 8 0 else if w = 1 then faT S 12 0 else faT S 13 0
def plS (S : Nat → Int → Int) : Nat → Int → Int := if faT S 12 0 = 0 then daI (goX (recS (faS S))) 60 else faS S
def plV (S : Nat → Int → Int) : Int := if faT S 12 0 = 0 then daC (goX (recS (faS S))) 60 else -1000002
theorem fa_k (S : Nat → Int → Int) (k : Nat) (h0 : k ≠ 0) (h2 : k ≠ 2) (h7 : k ≠ 7) (h8 : k ≠ 8) (h9 : k ≠ 9) (h10 : k ≠ 10) (h11 : k ≠ 11) (h12 : k ≠ 12) (h13 : k ≠ 13) : faT S k = S k := by
  unfold faT
  rw [da_k _ k h0 h7 h8 h9 h10 h11 h12 h13]
  unfold goX upG setA
  rw [if_neg h7, if_neg h12, if_neg h2]
theorem fa_2 (S : Nat → Int → Int) : faT S 2 = S 0 := da_k (goX (setA S 2 (S 0))) 2 (by decide) (by decide) (by decide) (by decide) (by decide) (by decide) (by decide) (by decide) 60
theorem fa_inv {B : Int} {S : Nat → Int → Int} (hI : InvG B (gOf (S 0))) (hT : InvS S) (hK9 : InvK S) (hB : B + 35640 ≤ 100000000) : InvS (faT S) ∧ InvK (faT S) ∧ (0 ≤ faT S 12 0 ∧ faT S 12 0 ≤ 2) := by
  have h := da_all (X := goX (setA S 2 (S 0))) hI hT hK9 rfl rfl hB 60 (by omega)
  exact ⟨h.2.1, h.2.2.1, h.2.2.2.2.1⟩
theorem fr_inv {B : Int} {S Z : Nat → Int → Int} (h1 : Z = faT S) (hI : InvG B (gOf (S 0))) : InvG B (gOf (recS (setA Z 0 (Z 2)) 0)) := inv_rec (by show InvG B (gOf (Z 2)); rw [h1, fa_2]; exact hI)
theorem fr_S {Z : Nat → Int → Int} (h : InvS Z) : InvS (recS (setA Z 0 (Z 2))) := by
  unfold InvS
  rw [rec_k _ 5 (by decide) (by decide), rec_k _ 6 (by decide) (by decide)]
  exact h
theorem fr_K {Z : Nat → Int → Int} (h : InvK Z) : InvK (recS (setA Z 0 (Z 2))) := by
  unfold InvK
  rw [rec_k _ 11 (by decide) (by decide)]
  exact h
