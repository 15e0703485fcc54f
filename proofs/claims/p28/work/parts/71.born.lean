/-! the states that the constructors make -/
def zS : Nat → Int → Int := fun _ _ => 0
def gA : Nat → (Nat → Int → Int)
  | 0 => zS
  | n + 1 => putZ (gA n) n 0
def gB : Nat → (Nat → Int → Int)
  | 0 => gA 48
  | n + 1 => upG (writeGuardsZ (gB n) n) 6 n 20
def gF : Nat → Int → Int := upG (upG (gB 6) 11 0 500) 11 1 40
theorem zS_W : InvW 0 zS := ⟨by omega, fun p _ _ => ⟨Int.le_refl 0, Int.le_refl 0⟩, fun p _ _ => ⟨Int.le_refl 0, (by decide : (0 : Int) ≤ 999)⟩, fun p _ _ => ⟨Int.le_refl 0, (by decide : (0 : Int) ≤ 1)⟩, ⟨Int.le_refl 0, (by decide : (0 : Int) ≤ 10000000)⟩⟩
theorem gA_W : ∀ n : Nat, n ≤ 48 → InvW n (gA n) := by
  intro n
  induction n with
  | zero => intro _; exact zS_W
  | succ n ih =>
    intro hn
    have h := invW_put (ih (by omega)) (by omega) n 0 (by omega)
    rw [show ((n + 1 : Nat) : Int) = (n : Int) + 1 by omega]
    exact h
theorem gB_W : ∀ n : Nat, InvW 48 (gB n) := by
  intro n
  induction n with
  | zero => exact gA_W 48 (by omega)
  | succ n ih => exact invW_upk (writeGuards_invW ih n) 6 _ _ (by decide) (by decide) (by decide) (by decide)
/-- the grid that stands at the beginning, told at once -/
def gI : Nat → Int → Int := fun k p =>
  if k = 1 then (if 0 ≤ p ∧ p < 48 then 100 + (37 * p % 21 - 10) else 0)
  else if k = 2 then (if 0 ≤ p ∧ p < 48 then 1 else 0)
  else if k = 4 then (if 0 ≤ p ∧ p < 18 then 100 + 400 * (p % 3) else 0)
  else if k = 6 then (if 0 ≤ p ∧ p < 6 then 20 else 0)
  else if k = 11 then (if p = 0 then 500 else if p = 1 then 40 else 0)
  else 0
def lenN (k : Nat) : Nat := if k < 4 then 48 else if k < 6 then 18 else if k < 10 then 6 else if k = 10 then 9 else if k = 11 then 3 else if k = 12 then 1 else 0
theorem lenN_Z : ∀ k : Nat, k < 13 → (lenN k : Int) = lenZ k := by decide +kernel
theorem born_g : ∀ k : Nat, k < 13 → ∀ j : Nat, j < lenN k → gF k (j : Int) = gI k (j : Int) := by decide +kernel
