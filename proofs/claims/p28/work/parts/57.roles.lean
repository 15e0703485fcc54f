/-! what is kept of the states: roles exchanged, seen from the cells -/
theorem upS_2 (Gs : Nat → Nat → Int → Int) (i : Nat) (X Y : Nat → Int → Int) : upS (upS Gs i X) i Y = upS Gs i Y := by
  funext r
  unfold upS
  by_cases h : r = i
  · rw [if_pos h, if_pos h]
  · rw [if_neg h, if_neg h, if_neg h]
theorem upS_eta (Gs : Nat → Nat → Int → Int) (i : Nat) : upS Gs i (Gs i) = Gs := by
  funext r
  unfold upS
  by_cases h : r = i
  · rw [if_pos h, h]
  · rw [if_neg h]
theorem swp_n {α : Type} {i j r : Nat} (f : Nat → α) (h1 : r ≠ i) (h2 : r ≠ j) : swp i j f r = f r := by unfold swp; rw [if_neg h1, if_neg h2]
theorem swp_i {α : Type} (i j : Nat) (f : Nat → α) : swp i j f i = f j := if_pos rfl
theorem swp_j {α : Type} {i j : Nat} (f : Nat → α) (h : j ≠ i) : swp i j f j = f i := by unfold swp; rw [if_neg h, if_pos rfl]
theorem hf_swp (ga : Nat → Nat) (i k : Nat) (hi : i < 3) : hfO (swp i (3 + k) ga) = va_up (hfO ga) k (some (ga i)) := by
  funext j
  unfold hfO va_up
  by_cases h : j = k
  · subst h
    rw [if_pos rfl, swp_j _ (by omega)]
  · rw [if_neg h, swp_n _ (by omega) (by omega)]
theorem hf_rot (ga : Nat → Nat) : hfO (rotS ga) = va_up (va_up (va_up (va_up (hfO ga) 0 (some (ga 4))) 1 (some (ga 5))) 2 (some (ga 6))) 3 (some (ga 3)) := by
  funext j
  unfold hfO va_up rotS
  by_cases h3 : j = 3
  · subst h3; rfl
  · rw [if_neg h3]
    by_cases h2 : j = 2
    · subst h2; rfl
    · rw [if_neg h2]
      by_cases h1 : j = 1
      · subst h1; rfl
      · rw [if_neg h1]
        by_cases h0 : j = 0
        · subst h0; rfl
        · rw [if_neg h0, swp_n _ (by omega) (by omega), swp_n _ (by omega) (by omega), swp_n _ (by omega) (by omega)]
theorem wX_swp1 (xo hx t : Nat) (ta : Nat → Nat) (cI cC cH : ClassId) (ga : Nat → Nat) (gd : Nat → Nat → Nat) (F T : Nat → Int → Int) (Gs : Nat → Nat → Int → Int) (k : Nat) (hk : k < 4) : (wD xo hx cH (ga 0) (ga (3 + k)) (ga 2) (va_up (hfO ga) k (some (ga 1))) t F ++ wR 8 (blk t ta cI cC T ga gd Gs)).Perm (wX xo hx t ta cI cC cH (swp 1 (3 + k) ga) (swp 1 (3 + k) gd) F T (swp 1 (3 + k) Gs)) := by
  have h0 : swp 1 (3 + k) ga 0 = ga 0 := swp_n _ (by omega) (by omega)
  have h1 : swp 1 (3 + k) ga 1 = ga (3 + k) := swp_i _ _ _
  have h2 : swp 1 (3 + k) ga 2 = ga 2 := swp_n _ (by omega) (by omega)
  unfold wX
  rw [h0, h1, h2, hf_swp ga 1 k (by omega)]
  exact (wR_swp t ta cI cC T ga gd Gs 1 (3 + k) (by omega) (by omega) (by omega)).append_left _
theorem wX_swp0 (xo hx t : Nat) (ta : Nat → Nat) (cI cC cH : ClassId) (ga : Nat → Nat) (gd : Nat → Nat → Nat) (F T : Nat → Int → Int) (Gs : Nat → Nat → Int → Int) (k : Nat) (hk : k < 4) : (wD xo hx cH (ga (3 + k)) (ga 1) (ga 2) (va_up (hfO ga) k (some (ga 0))) t F ++ wR 8 (blk t ta cI cC T ga gd Gs)).Perm (wX xo hx t ta cI cC cH (swp 0 (3 + k) ga) (swp 0 (3 + k) gd) F T (swp 0 (3 + k) Gs)) := by
  have h0 : swp 0 (3 + k) ga 0 = ga (3 + k) := swp_i _ _ _
  have h1 : swp 0 (3 + k) ga 1 = ga 1 := swp_n _ (by omega) (by omega)
  have h2 : swp 0 (3 + k) ga 2 = ga 2 := swp_n _ (by omega) (by omega)
  unfold wX
  rw [h0, h1, h2, hf_swp ga 0 k (by omega)]
  exact (wR_swp t ta cI cC T ga gd Gs 0 (3 + k) (by omega) (by omega) (by omega)).append_left _
theorem wX_rot (xo hx t : Nat) (ta : Nat → Nat) (cI cC cH : ClassId) (ga : Nat → Nat) (gd : Nat → Nat → Nat) (F T : Nat → Int → Int) (Gs : Nat → Nat → Int → Int) : (wD xo hx cH (ga 0) (ga 1) (ga 2) (va_up (va_up (va_up (va_up (hfO ga) 0 (some (ga 4))) 1 (some (ga 5))) 2 (some (ga 6))) 3 (some (ga 3))) t F ++ wR 8 (blk t ta cI cC T ga gd Gs)).Perm (wX xo hx t ta cI cC cH (rotS ga) (rotS gd) F T (rotS Gs)) := by
  have h0 : rotS ga 0 = ga 0 := rfl
  have h1 : rotS ga 1 = ga 1 := rfl
  have h2 : rotS ga 2 = ga 2 := rfl
  unfold wX
  rw [h0, h1, h2, hf_rot ga]
  exact (wR_rot t ta cI cC T ga gd Gs).append_left _
/-- what 'recorded' makes of a family by roles -/
def rcxP {α : Type} (v n : Int) (f : Nat → α) : Nat → α := if v < 0 then f else if n < 4 then swp 1 (3 + n.toNat) f else swp 1 6 (rotS f)
def rcxF (v : Int) (F : Nat → Int → Int) : Nat → Int → Int := if v < 0 then F else if F 4 0 < 4 then upG F 4 0 (F 4 0 + 1) else upG F 4 0 4
