/-! pure rows of whole that serve here -/
theorem toldWord_bd (G : Nat → Int → Int) (r : Int) : 0 ≤ toldWordZ G r ∧ toldWordZ G r < 6561 := hornZ_bd (f := fun c => toldZ G r c) (fun c _ _ => tellZ_01 _ _ _) 8 (Nat.le_refl _)
theorem anewLost_eq (G : Nat → Int → Int) (r lo up : Int) : ∀ n : Nat, anewLostZ G r lo up n = wrongByZ G r lo up n := by
  intro n
  induction n with
  | zero => rfl
  | succ n ih =>
    show (if tellZ (anewStZ G r lo up n 1 (8 * r + n)) lo up = anewStZ G r lo up n 0 (8 * r + n) then anewLostZ G r lo up n else anewLostZ G r lo up n + 1) = wrongByZ G r lo up n + (if tellZ (G 1 (8 * r + n)) lo up = G 0 (8 * r + n) then 0 else 1)
    rw [anewSt_hi G r lo up 1 n _ (Int.le_refl _), anewSt_hi G r lo up 0 n _ (Int.le_refl _), ih]
    split <;> omega
theorem lostAnew_eq (G : Nat → Int → Int) (r : Int) : lostAnewZ G r = wrongZ G r := anewLost_eq G r _ _ 8
theorem upI_P {F : Int → Int} {w v : Int} (hF : ∀ i : Int, 0 ≤ i → i < 3 → 0 ≤ F i ∧ F i ≤ 999) (hv : 0 ≤ v ∧ v ≤ 999) : ∀ i : Int, 0 ≤ i → i < 3 → 0 ≤ upI F w v i ∧ upI F w v i ≤ 999 := by
  intro i h0 h1
  unfold upI
  split
  · exact hv
  · exact hF i h0 h1
theorem dig_bd {k : Int} (h : ¬ digZ k = 0) : 48 ≤ k ∧ k ≤ 57 := by unfold digZ at h; omega
