def fstZ (f : Nat → Int) : Nat → Nat → Int
  | 0, _ => -1000004
  | n + 1, i => if f i ≠ 0 then (i : Int) else fstZ f n (i + 1)
theorem fst_hit {f : Nat → Int} {n i : Nat} (hn : 0 < n) (h : f i ≠ 0) : fstZ f n i = i := by
  obtain ⟨m, rfl⟩ : ∃ m, n = m + 1 := ⟨n - 1, by omega⟩
  exact if_pos h
theorem fst_miss {f : Nat → Int} {n i : Nat} (hn : 0 < n) (h : f i = 0) : fstZ f n i = fstZ f (n - 1) (i + 1) := by
  obtain ⟨m, rfl⟩ : ∃ m, n = m + 1 := ⟨n - 1, by omega⟩
  exact if_neg (fun q => q h)
theorem fst_end {f : Nat → Int} {n i : Nat} (hn : n = 0) : fstZ f n i = -1000004 := by subst hn; rfl
theorem fst_next {f : Nat → Int} {N i : Nat} {v : Int} (hv : v = fstZ f (N - i) i) (hn : i < N) (h : f i = 0) : v = fstZ f (N - (i + 1)) (i + 1) := by
  rw [hv, fst_miss (by omega) h, Nat.sub_sub]
/-- the first that is not 0, or 0 -/
def lstZ (f : Nat → Int) : Nat → Nat → Int
  | 0, _ => 0
  | n + 1, i => if f i ≠ 0 then f i else lstZ f n (i + 1)
theorem lst_hit {f : Nat → Int} {n i : Nat} (hn : 0 < n) (h : f i ≠ 0) : lstZ f n i = f i := by
  obtain ⟨m, rfl⟩ : ∃ m, n = m + 1 := ⟨n - 1, by omega⟩
  exact if_pos h
theorem lst_miss {f : Nat → Int} {n i : Nat} (hn : 0 < n) (h : f i = 0) : lstZ f n i = lstZ f (n - 1) (i + 1) := by
  obtain ⟨m, rfl⟩ : ∃ m, n = m + 1 := ⟨n - 1, by omega⟩
  exact if_neg (fun q => q h)
