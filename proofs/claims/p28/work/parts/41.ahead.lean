/-! looking ahead: the first day at which something is, and the row that comes back -/
theorem cp_full0 (F T : Int → Int) (j : Nat) (hj : j < 269) : aI (cpZ F T 0 0 269) j = aI F j := by
  unfold aI
  rw [cp_at, if_pos (by omega)]
  congr 1
  congr 1
  omega
def shfZ (F : Int → Int) (a : Int) : Int → Int := fun j => F (a + j)
theorem cp_fullA (F T : Int → Int) (a : Int) (j : Nat) (hj : j < 269) : aI (cpZ F T a 0 269) j = aI (shfZ F a) j := by
  unfold aI shfZ
  rw [cp_at, if_pos (by omega), Int.sub_zero]
def fstZ (f : Nat → Int) : Nat → Nat → Int
  | 0, _ => -1000004
  | n + 1, i => if f i ≠ 0 then (i : Int) else fstZ f n (i + 1)
theorem fst_hit {f : Nat → Int} {n i : Nat} (hn : 0 < n) (h : f i ≠ 0) : fstZ f n i = i := by
  obtain ⟨m, rfl⟩ : ∃ m, n = m + 1 := ⟨n - 1, by omega⟩
  exact if_pos h
theorem fst_miss {f : Nat → Int} {n i : Nat} (hn : 0 < n) (h : f i = 0) : fstZ f n i = fstZ f (n - 1) (i + 1) := by
  obtain ⟨m, rfl⟩ : ∃ m, n = m + 1 := ⟨n - 1, by omega⟩
  exact if_neg (fun q => q h)
theorem fst_end {f : Nat → Int} {n i : Nat} (hn : n = 0) : fstZ f n i = -1000004 := by subst hn; rfl
theorem fst_next {f : Nat → Int} {N i : Nat} {v : Int} (hv : v = fstZ f (N - i) i) (hn : i < N) (h : f i = 0) : v = fstZ f (N - (i + 1)) (i + 1) := by
  rw [hv, fst_miss (by omega) h, Nat.sub_sub]
/-- the first that is not 0, or 0 -/
def lstZ (f : Nat → Int) : Nat → Nat → Int
  | 0, _ => 0
  | n + 1, i => if f i ≠ 0 then f i else lstZ f n (i + 1)
theorem lst_hit {f : Nat → Int} {n i : Nat} (hn : 0 < n) (h : f i ≠ 0) : lstZ f n i = f i := by
  obtain ⟨m, rfl⟩ : ∃ m, n = m + 1 := ⟨n - 1, by omega⟩
  exact if_pos h
theorem lst_miss {f : Nat → Int} {n i : Nat} (hn : 0 < n) (h : f i = 0) : lstZ f n i = lstZ f (n - 1) (i + 1) := by
  obtain ⟨m, rfl⟩ : ∃ m, n = m + 1 := ⟨n - 1, by omega⟩
  exact if_neg (fun q => q h)
def prvZ (f : Nat → Int) : Nat → Int
  | 0 => 0
  | n + 1 => f n
theorem es_back (X : Nat → Int → Int) (h : X 1 = X 0) (n : Nat) : setA (esS X n) 0 (esS X n 1) = X := by
  funext k
  by_cases e : k = 0
  · subst e
    rw [setA_s, es_k X 1 (by decide), h]
  · rw [setA_n _ _ _ _ e, es_k X k e]
def dpS (S : Nat → Int → Int) : Nat → (Nat → Int → Int)
  | 0 => S
  | n + 1 => dsS (dpS S n)
theorem dp_k (S : Nat → Int → Int) (j : Nat) (hj : j ≠ 0) : ∀ n : Nat, dpS S n j = S j := by
  intro n
  induction n with
  | zero => rfl
  | succ n ih => exact (ds_k _ j hj).trans ih
theorem dp_back (X : Nat → Int → Int) (h : X 1 = X 0) (n : Nat) : setA (dpS X n) 0 (dpS X n 1) = X := by
  funext k
  by_cases e : k = 0
  · subst e
    rw [setA_s, dp_k X 1 (by decide), h]
  · rw [setA_n _ _ _ _ e, dp_k X k e]
/-- days without rows written anew -/
def tksZ (G : Nat → Int → Int) : Nat → (Nat → Int → Int)
  | 0 => G
  | n + 1 => tickZ (tksZ G n)
theorem tks_12 (G : Nat → Int → Int) : ∀ n : Nat, tksZ G n 12 0 = G 12 0 + n := by
  intro n
  induction n with
  | zero => show G 12 0 = G 12 0 + 0; omega
  | succ n ih =>
    show driftZ (tksZ G n) 12 0 + 1 = _
    rw [drift_12, ih]; omega
theorem tks_inv {B : Int} {G : Nat → Int → Int} (h : InvG B G) : ∀ n : Nat, G 12 0 + n ≤ 10000000 → InvG B (tksZ G n) := by
  intro n
  induction n with
  | zero => intro _; exact h
  | succ n ih =>
    intro hd
    exact tick_inv (ih (by omega)) (by rw [drift_12, tks_12]; omega)
theorem gOf_dp {B : Int} {S : Nat → Int → Int} (hI : InvG B (gOf (S 0))) : ∀ n : Nat, gOf (S 0) 12 0 + n ≤ 10000000 → gOf (dpS S n 0) = tksZ (gOf (S 0)) n := by
  intro n
  induction n with
  | zero => intro _; rfl
  | succ n ih =>
    intro hd
    have e := ih (by omega)
    show gOf (dsS (dpS S n) 0) = tickZ (tksZ (gOf (S 0)) n)
    rw [gOf_ds (S := dpS S n) (B := B) (by rw [e]; exact tks_inv hI n (by omega)), e]
theorem inv_dp {B : Int} {S : Nat → Int → Int} (hI : InvG B (gOf (S 0))) (n : Nat) (hd : gOf (S 0) 12 0 + n ≤ 10000000) : InvG B (gOf (dpS S n 0)) := by
  rw [gOf_dp hI n hd]; exact tks_inv hI n hd
