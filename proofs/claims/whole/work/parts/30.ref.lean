/-! the reference's row of numbers, by the grid in it -/
theorem s_12 (s : Int → Int) : s 0 = gOf s 12 0 := (gOf_in s (k := 12) (p := 0) ⟨by decide, by decide⟩).symm
theorem s_11_0 (s : Int → Int) : s 1 = gOf s 11 0 := (gOf_in s (k := 11) (p := 0) ⟨by decide, by decide⟩).symm
theorem s_11_1 (s : Int → Int) : s 2 = gOf s 11 1 := (gOf_in s (k := 11) (p := 1) ⟨by decide, by decide⟩).symm
theorem s_11_2 (s : Int → Int) : s 3 = gOf s 11 2 := (gOf_in s (k := 11) (p := 2) ⟨by decide, by decide⟩).symm
theorem ix_rng {k : Nat} {p : Int} (h : 0 ≤ p ∧ p < lenZ k) : 0 ≤ ixZ k p ∧ ixZ k p < 269 := by
  have hk : k < 13 := by
    rcases Nat.lt_or_ge k 13 with a | a
    · exact a
    · exfalso; unfold lenZ at h; rw [if_neg (by omega), if_neg (by omega), if_neg (by omega), if_neg (by omega), if_neg (by omega), if_neg (by omega)] at h; omega
  by_cases a : k < 10
  · have := ix_rows a h; omega
  · have h2 := ix_top (Nat.not_lt.mp a) hk h
    have h3 := h2.1
    have h4 := h2.2.1
    have h5 := h2.2.2.1
    split at h3
    · have := h4 (by assumption); omega
    · split at h3
      · have := h5 (by assumption); omega
      · omega
theorem ix_of4 {r p w : Int} (hr : 0 ≤ r ∧ r < 6) (h : 4 ≤ w ∧ w < 7 ∧ p = 3 * r + (w - 4)) : (0 ≤ p ∧ p < lenZ 4) ∧ ixZ 4 p = 17 + 42 * r + w := by
  have e1 : lenZ 4 = 18 := rfl
  have e2 : ixZ 4 p = 17 + 42 * (p / 3) + (4 + p % 3) := rfl
  rw [e1, e2]; omega
theorem ix_of5 {r p w : Int} (hr : 0 ≤ r ∧ r < 6) (h : 7 ≤ w ∧ w < 10 ∧ p = 3 * r + (w - 7)) : (0 ≤ p ∧ p < lenZ 5) ∧ ixZ 5 p = 17 + 42 * r + w := by
  have e1 : lenZ 5 = 18 := rfl
  have e2 : ixZ 5 p = 17 + 42 * (p / 3) + (7 + p % 3) := rfl
  rw [e1, e2]; omega
theorem ix_ofr (k : Nat) {r w : Int} (hk : 6 ≤ k ∧ k < 10) (hr : 0 ≤ r ∧ r < 6) (h : w = (k : Int) - 6) : (0 ≤ r ∧ r < lenZ k) ∧ ixZ k r = 17 + 42 * r + w := by
  rcases (show k = 6 ∨ k = 7 ∨ k = 8 ∨ k = 9 by omega) with rfl | rfl | rfl | rfl <;> simp [lenZ, ixZ] <;> omega
theorem ix_ofc (k : Nat) {r c w : Int} (hk : k < 4) (hr : 0 ≤ r ∧ r < 6) (hc : 0 ≤ c ∧ c < 8) (h : w = 10 + 4 * c + k) : (0 ≤ 8 * r + c ∧ 8 * r + c < lenZ k) ∧ ixZ k (8 * r + c) = 17 + 42 * r + w := by
  rcases (show k = 0 ∨ k = 1 ∨ k = 2 ∨ k = 3 by omega) with rfl | rfl | rfl | rfl <;> simp [lenZ, ixZ] <;> omega
/-- a number is laid at a place of the grid -/
def lyZ (S : Nat → Int → Int) (k : Nat) (p v : Int) : Nat → Int → Int := upG S 0 (ixZ k p) v
theorem gOf_ly (S : Nat → Int → Int) {k : Nat} {p : Int} (v : Int) (h : 0 ≤ p ∧ p < lenZ k) : gOf (lyZ S k p v 0) = upG (gOf (S 0)) k p v := gOf_up (S 0) h
theorem ly_k (S : Nat → Int → Int) (k : Nat) (p v : Int) (j : Nat) (hj : j ≠ 0) : lyZ S k p v j = S j := if_neg hj
