/-! the age that is safe -/
theorem lst_next {f : Nat → Int} {N i : Nat} {v : Int} (hv : v = (if prvZ f i ≠ 0 then prvZ f i else lstZ f (N - i) i)) (hp : prvZ f i = 0) (hn : i < N) : v = (if prvZ f (i + 1) ≠ 0 then prvZ f (i + 1) else lstZ f (N - (i + 1)) (i + 1)) := by
  rw [if_neg (fun q => q hp)] at hv
  rw [hv]
  show _ = if f i ≠ 0 then f i else _
  by_cases h : f i = 0
  · rw [if_neg (fun q => q h), lst_miss (by omega) h, Nat.sub_sub]
  · rw [if_pos h, lst_hit (by omega) h]
theorem lst_out {f : Nat → Int} {N i : Nat} {v : Int} (hv : v = (if prvZ f i ≠ 0 then prvZ f i else lstZ f (N - i) i)) (h : N - i = 0 ∨ prvZ f i ≠ 0) : prvZ f i = v := by
  rw [hv]
  by_cases c : prvZ f i = 0
  · rw [if_neg (fun q => q c)]
    rcases h with h | h
    · rw [h, c]; rfl
    · exact absurd c h
  · rw [if_pos c]
theorem lst_init (f : Nat → Int) (N : Nat) : lstZ f N 0 = (if prvZ f 0 ≠ 0 then prvZ f 0 else lstZ f (N - 0) 0) := (if_neg (fun q => q rfl)).symm
theorem q_age (S : Nat → Int → Int) (a : Int) : gOf (upG (setA S 1 (S 0)) 0 3 a 0) = upG (gOf (S 0)) 11 2 a := gOf_up (S 0) (k := 11) (p := 2) ⟨by decide, by decide⟩
theorem es_back2 (S : Nat → Int → Int) (a : Int) (n : Nat) : setA (esS (upG (setA S 1 (S 0)) 0 3 a) n) 0 (esS (upG (setA S 1 (S 0)) 0 3 a) n 1) = setA S 1 (S 0) := by
  funext k
  by_cases e : k = 0
  · subst e
    rw [setA_s, es_k _ 1 (by decide)]
    rfl
  · rw [setA_n _ _ _ _ e, es_k _ k e]
    exact if_neg e
def laZ (G : Nat → Int → Int) (a : Int) : Nat → Int := fun i => endLostZ (daysStZ (upG G 11 2 a) i)
def lbZ (G : Nat → Int → Int) (a : Int) : Int := lstZ (laZ G a) 60 0
theorem la_bd (G : Nat → Int → Int) (a : Int) (i : Nat) : 0 ≤ laZ G a i ∧ laZ G a i ≤ 48 := endLost_bd _
theorem prv_bd (G : Nat → Int → Int) (a : Int) (i : Nat) : 0 ≤ prvZ (laZ G a) i ∧ prvZ (laZ G a) i ≤ 48 := by
  cases i with
  | zero => exact ⟨(by decide : (0 : Int) ≤ 0), (by decide : (0 : Int) ≤ 48)⟩
  | succ n => exact la_bd G a n
theorem lst_bd (G : Nat → Int → Int) (a : Int) : ∀ n i : Nat, 0 ≤ lstZ (laZ G a) n i ∧ lstZ (laZ G a) n i ≤ 48 := by
  intro n
  induction n with
  | zero => intro i; exact ⟨(by decide : (0 : Int) ≤ 0), (by decide : (0 : Int) ≤ 48)⟩
  | succ n ih =>
    intro i
    have h := la_bd G a i
    show 0 ≤ (if laZ G a i ≠ 0 then laZ G a i else lstZ (laZ G a) n (i + 1)) ∧ (if laZ G a i ≠ 0 then laZ G a i else lstZ (laZ G a) n (i + 1)) ≤ 48
    split
    · exact h
    · exact ih _
theorem lb_bd (G : Nat → Int → Int) (a : Int) : 0 ≤ lbZ G a ∧ lbZ G a ≤ 48 := lst_bd G a 60 0
def sagZ (G : Nat → Int → Int) : Nat → Nat → Int
  | 0, _ => -1000004
  | n + 1, i => if lbZ G (60 - (i : Int)) = 0 then 60 - (i : Int) else sagZ G n (i + 1)
theorem sag_hit {G : Nat → Int → Int} {n i : Nat} (hn : 0 < n) (h : lbZ G (60 - (i : Int)) = 0) : sagZ G n i = 60 - (i : Int) := by
  obtain ⟨m, rfl⟩ : ∃ m, n = m + 1 := ⟨n - 1, by omega⟩
  exact if_pos h
theorem sag_next {G : Nat → Int → Int} {N i : Nat} {v : Int} (hv : v = sagZ G (N - i) i) (hn : i < N) (h : lbZ G (60 - (i : Int)) ≠ 0) : v = sagZ G (N - (i + 1)) (i + 1) := by
  obtain ⟨m, hm⟩ : ∃ m, N - i = m + 1 := ⟨N - i - 1, by omega⟩
  have e : N - (i + 1) = m := by omega
  rw [hv, hm, e]
  exact if_neg h
theorem sag_end {G : Nat → Int → Int} {n i : Nat} (hn : n = 0) : sagZ G n i = -1000004 := by subst hn; rfl
def sfS (S : Nat → Int → Int) : Nat → (Nat → Int → Int)
  | 0 => S
  | n + 1 => setA (sfS S n) 1 (sfS S n 0)
theorem sf_0 (S : Nat → Int → Int) : ∀ n : Nat, sfS S n 0 = S 0 := by
  intro n
  induction n with
  | zero => rfl
  | succ n ih => exact (setA_n _ 1 _ 0 (by decide)).trans ih
theorem sf_succ (S : Nat → Int → Int) : ∀ n : Nat, sfS S (n + 1) = setA S 1 (S 0) := by
  intro n
  induction n with
  | zero => rfl
  | succ n ih =>
    show setA (sfS S (n + 1)) 1 (sfS S (n + 1) 0) = _
    rw [sf_0, ih]
    funext k
    by_cases e : k = 1
    · subst e; rw [setA_s, setA_s]
    · rw [setA_n _ _ _ _ e]
theorem sf_pos (S : Nat → Int → Int) (n : Nat) (h : 0 < n) : sfS S n = setA S 1 (S 0) := by
  obtain ⟨m, rfl⟩ : ∃ m, n = m + 1 := ⟨n - 1, by omega⟩
  exact sf_succ S m
theorem inv_sf {B : Int} {S : Nat → Int → Int} (hI : InvG B (gOf (S 0))) (n : Nat) : InvG B (gOf (sfS S n 0)) := by rw [sf_0]; exact hI
