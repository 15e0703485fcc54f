/-! the states that the constructors make -/
def zS : Nat → Int → Int := fun _ _ => 0
def gA : Nat → (Nat → Int → Int)
  | 0 => zS
  | n + 1 => putZ (gA n) n 0
def gB : Nat → (Nat → Int → Int)
  | 0 => gA 48
  | n + 1 => upG (writeGuardsZ (gB n) n) 6 n 20
def gF : Nat → Int → Int := upG (upG (gB 6) 11 0 500) 11 1 40
theorem zS_W : InvW 0 zS := ⟨by omega, fun p _ _ => ⟨Int.le_refl 0, Int.le_refl 0⟩, fun p _ _ => ⟨Int.le_refl 0, (by decide : (0 : Int) ≤ 999)⟩, fun p _ _ => ⟨Int.le_refl 0, (by decide : (0 : Int) ≤ 1)⟩, ⟨Int.le_refl 0, (by decide : (0 : Int) ≤ 10000000)⟩⟩
theorem gA_W : ∀ n : Nat, n ≤ 48 → InvW n (gA n) := by
  intro n
  induction n with
  | zero => intro _; exact zS_W
  | succ n ih =>
    intro hn
    have h := invW_put (ih (by omega)) (by omega) n 0 (by omega)
    rw [show ((n + 1 : Nat) : Int) = (n : Int) + 1 by omega]
    exact h
theorem gB_W : ∀ n : Nat, InvW 48 (gB n) := by
  intro n
  induction n with
  | zero => exact gA_W 48 (by omega)
  | succ n ih => exact invW_upk (writeGuards_invW ih n) 6 _ _ (by decide) (by decide) (by decide) (by decide)
/-- the reference's -/
def sC (S : Nat → Int → Int) (r : Int) : Nat → (Nat → Int → Int)
  | 0 => wguS (lyZ S 6 r 20) r
  | c + 1 => wrS (sC S r c) r c 0
def sR : Nat → (Nat → Int → Int)
  | 0 => upG (upG zS 0 1 500) 0 2 40
  | r + 1 => sC (sR r) r 8
def sF : Nat → Int → Int := upG (sR 6) 0 5 0
theorem gOf_wguW {B : Int} {S : Nat → Int → Int} (hI : InvW B (gOf (S 0))) {r : Int} (hr : 0 ≤ r ∧ r < 6) : gOf (wguS S r 0) = writeGuardsZ (gOf (S 0)) r := by
  unfold wguS
  rw [gOf_ly _ _ (show 0 ≤ r ∧ r < lenZ 7 from hr), gOf_wgW hI hr 3 (Nat.le_refl _)]
  rfl
theorem sC_W {B : Int} {S : Nat → Int → Int} (hI : InvW B (gOf (S 0))) (hB : B + 8 ≤ 100000000) {r : Int} (hr : 0 ≤ r ∧ r < 6) : ∀ c : Nat, c ≤ 8 → InvW (B + c) (gOf (sC S r c 0)) := by
  intro c
  induction c with
  | zero =>
    intro _
    rw [show B + ((0 : Nat) : Int) = B by omega]
    have e : gOf (lyZ S 6 r 20 0) = upG (gOf (S 0)) 6 r 20 := gOf_ly _ _ (show 0 ≤ r ∧ r < lenZ 6 from hr)
    have h1 : InvW B (gOf (lyZ S 6 r 20 0)) := by rw [e]; exact invW_upk hI 6 _ _ (by decide) (by decide) (by decide) (by decide)
    show InvW B (gOf (wguS (lyZ S 6 r 20) r 0))
    rw [gOf_wguW h1 hr]
    exact writeGuards_invW h1 r
  | succ c ih =>
    intro hc
    show InvW (B + ((c + 1 : Nat) : Int)) (gOf (wrS (sC S r c) r c 0 0))
    rw [gOf_wr _ _ hr (by omega), show B + ((c + 1 : Nat) : Int) = B + c + 1 by omega]
    exact invW_put (ih (by omega)) (by omega) _ 0 (by omega)
theorem sR_W : ∀ r : Nat, r ≤ 6 → InvW (8 * r) (gOf (sR r 0)) := by
  intro r
  induction r with
  | zero =>
    intro _
    have e : gOf (sR 0 0) = upG (upG (gOf (zS 0)) 11 0 500) 11 1 40 := by
      show gOf (upI (upI (zS 0) (ixZ 11 0) 500) (ixZ 11 1) 40) = _
      rw [gOf_up _ ⟨by decide, by decide⟩, gOf_up _ ⟨by decide, by decide⟩]
    have e0 : gOf (zS 0) = zS := by
      funext k p
      unfold gOf zS
      split <;> rfl
    rw [e, e0]
    exact invW_upk (invW_upk zS_W 11 _ _ (by decide) (by decide) (by decide) (by decide)) 11 _ _ (by decide) (by decide) (by decide) (by decide)
  | succ r ih =>
    intro hr
    have h := sC_W (ih (by omega)) (by omega) (r := (r : Int)) (by omega) 8 (by omega)
    rw [show 8 * ((r + 1 : Nat) : Int) = 8 * (r : Int) + ((8 : Nat) : Int) by omega]
    exact h
/-- the grid that stands at the beginning, told at once -/
def gI : Nat → Int → Int := fun k p =>
  if k = 1 then (if 0 ≤ p ∧ p < 48 then 100 + (37 * p % 21 - 10) else 0)
  else if k = 2 then (if 0 ≤ p ∧ p < 48 then 1 else 0)
  else if k = 4 then (if 0 ≤ p ∧ p < 18 then 100 + 400 * (p % 3) else 0)
  else if k = 6 then (if 0 ≤ p ∧ p < 6 then 20 else 0)
  else if k = 11 then (if p = 0 then 500 else if p = 1 then 40 else 0)
  else 0
def lenN (k : Nat) : Nat := if k < 4 then 48 else if k < 6 then 18 else if k < 10 then 6 else if k = 10 then 9 else if k = 11 then 3 else if k = 12 then 1 else 0
theorem lenN_Z : ∀ k : Nat, k < 13 → (lenN k : Int) = lenZ k := by decide +kernel
theorem born_g : ∀ k : Nat, k < 13 → ∀ j : Nat, j < lenN k → gF k (j : Int) = gI k (j : Int) := by decide +kernel
theorem born_s : ∀ k : Nat, k < 13 → ∀ j : Nat, j < lenN k → sF 0 (ixZ k (j : Int)) = gI k (j : Int) := by decide +kernel
