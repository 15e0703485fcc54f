def laZ (G : Nat → Int → Int) (a : Int) : Nat → Int := fun i => endLostZ (daysStZ (upG G 11 2 a) i)
def lbZ (G : Nat → Int → Int) (a : Int) : Int := lstZ (laZ G a) 60 0
theorem la_bd (G : Nat → Int → Int) (a : Int) (i : Nat) : 0 ≤ laZ G a i ∧ laZ G a i ≤ 48 := endLost_bd _
theorem lst_bd (G : Nat → Int → Int) (a : Int) : ∀ n i : Nat, 0 ≤ lstZ (laZ G a) n i ∧ lstZ (laZ G a) n i ≤ 48 := by
  intro n
  induction n with
  | zero => intro i; exact ⟨(by decide : (0 : Int) ≤ 0), (by decide : (0 : Int) ≤ 48)⟩
  | succ n ih =>
    intro i
    have h := la_bd G a i
    show 0 ≤ (if laZ G a i ≠ 0 then laZ G a i else lstZ (laZ G a) n (i + 1)) ∧ (if laZ G a i ≠ 0 then laZ G a i else lstZ (laZ G a) n (i + 1)) ≤ 48
    split
    · exact h
    · exact ih _
theorem lb_bd (G : Nat → Int → Int) (a : Int) : 0 ≤ lbZ G a ∧ lbZ G a ≤ 48 := lst_bd G a 60 0
def sagZ (G : Nat → Int → Int) : Nat → Nat → Int
  | 0, _ => -1000004
  | n + 1, i => if lbZ G (60 - (i : Int)) = 0 then 60 - (i : Int) else sagZ G n (i + 1)
theorem sag_hit {G : Nat → Int → Int} {n i : Nat} (hn : 0 < n) (h : lbZ G (60 - (i : Int)) = 0) : sagZ G n i = 60 - (i : Int) := by
  obtain ⟨m, rfl⟩ : ∃ m, n = m + 1 := ⟨n - 1, by omega⟩
  exact if_pos h
theorem sag_next {G : Nat → Int → Int} {N i : Nat} {v : Int} (hv : v = sagZ G (N - i) i) (hn : i < N) (h : lbZ G (60 - (i : Int)) ≠ 0) : v = sagZ G (N - (i + 1)) (i + 1) := by
  obtain ⟨m, hm⟩ : ∃ m, N - i = m + 1 := ⟨N - i - 1, by omega⟩
  have e : N - (i + 1) = m := by omega
  rw [hv, hm, e]
  exact if_neg h
theorem sag_end {G : Nat → Int → Int} {n i : Nat} (hn : n = 0) : sagZ G n i = -1000004 := by subst hn; rfl
