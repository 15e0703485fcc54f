/-! the grid at birth, in its cells and in the reference's row -/
theorem at_arr {D : va_G} {cl : List vw_C} {a n : Nat} {c1 : ClassId} {f g : Nat → Int32} {H : Heap} (h : va_at D cl (a, .inl (c1, n, .inl f)) H) (e : ∀ j, j < n → f j = g j) : va_at D cl (a, .inl (c1, n, .inl g)) H := by
  have h0 : va_P D cl (([(a, .inl (c1, n, .inl f))] : va_W).set 0 (a, .inl (c1, n, .inl f))) H := fun k q hk => by
    have h1 : k = 0 := by
      have := (List.getElem?_eq_some_iff.mp hk).1
      have h2 : k < 1 := this
      omega
    subst h1
    cases hk
    exact h
  have h1 := va_P_cell h0 e
  exact h1 0 _ rfl
theorem born_P {D : va_G} {cl : List vw_C} {g : Nat} {ad : Nat → Nat} {cI : ClassId} {H : Heap} {G G' : Nat → Int → Int} (hg : ∀ k : Nat, k < 13 → ∀ j : Nat, j < lenN k → G k (j : Int) = G' k (j : Int)) (h : va_P D cl (wG g ad cI G) H) : va_P D cl (wG g ad cI G') H := by
  have ha : ∀ k : Nat, k < 13 → ∀ j : Nat, j < lenN k → aI (G k) j = aI (G' k) j := fun k hk j hj => congrArg iI (hg k hk j hj)
  have hd : G 12 0 = G' 12 0 := hg 12 (by decide) 0 (by decide)
  rw [va_P_iff] at h ⊢
  simp only [List.forall_mem_cons] at h ⊢
  obtain ⟨h0, a0, a1, a2, a3, a4, a5, a6, a7, a8, a9, a10, a11, hn⟩ := h
  refine ⟨?_, at_arr a0 (ha 0 (by decide)), at_arr a1 (ha 1 (by decide)), at_arr a2 (ha 2 (by decide)), at_arr a3 (ha 3 (by decide)), at_arr a4 (ha 4 (by decide)), at_arr a5 (ha 5 (by decide)), at_arr a6 (ha 6 (by decide)), at_arr a7 (ha 7 (by decide)), at_arr a8 (ha 8 (by decide)), at_arr a9 (ha 9 (by decide)), at_arr a10 (ha 10 (by decide)), at_arr a11 (ha 11 (by decide)), hn⟩
  rw [← hd]
  exact h0
theorem born_D {A : Nat → Prop} {g : Nat} {ad : Nat → Nat} {cI : ClassId} {G G' : Nat → Int → Int} (h : va_D A (wG g ad cI G)) : va_D A (wG g ad cI G') := by
  have h1 := va_D_iff.mp h
  refine va_D_iff.mpr ⟨h1.1, fun q hq => ?_⟩
  have h2 : q.1 ∈ (wG g ad cI G').map (fun q => q.1) := List.mem_map.mpr ⟨q, hq, rfl⟩
  have h3 : q.1 ∈ (wG g ad cI G).map (fun q => q.1) := h2
  obtain ⟨q2, hq2, e⟩ := List.mem_map.mp h3
  rw [← e]
  exact h1.2 q2 hq2
theorem gI_out {k : Nat} {p : Int} (h : ¬ (0 ≤ p ∧ p < lenZ k)) : gI k p = 0 := by
  unfold gI
  unfold lenZ at h
  repeat' split
  all_goals first | rfl | (exfalso; subst_vars; simp at h <;> omega) | (simp_all <;> omega)
theorem gI_inv : InvG 1 gI := by
  refine ⟨by omega, ?_, ?_, ?_, ?_, ?_, ?_, ?_, ?_, ?_, ?_, ?_, ?_, ?_, ?_, ?_⟩
  · intro p h0 h1; show 0 ≤ (0 : Int) ∧ (0 : Int) ≤ 2; omega
  · intro p h0 h1; show 0 ≤ (if 0 ≤ p ∧ p < 48 then 100 + (37 * p % 21 - 10) else 0) ∧ (if 0 ≤ p ∧ p < 48 then 100 + (37 * p % 21 - 10) else 0) ≤ 999; omega
  · intro p h0 h1; show 0 ≤ (if 0 ≤ p ∧ p < 48 then 1 else 0 : Int) ∧ (if 0 ≤ p ∧ p < 48 then 1 else 0 : Int) ≤ 1; omega
  · intro p h0 h1; show 0 ≤ (0 : Int) ∧ (0 : Int) ≤ 0; omega
  · intro p h0 h1; show 0 ≤ (if 0 ≤ p ∧ p < 18 then 100 + 400 * (p % 3) else 0) ∧ (if 0 ≤ p ∧ p < 18 then 100 + 400 * (p % 3) else 0) ≤ 999; omega
  · intro p h0 h1; show 0 ≤ (0 : Int) ∧ (0 : Int) ≤ 1; omega
  · intro p h0 h1; show 1 ≤ (if 0 ≤ p ∧ p < 6 then 20 else 0 : Int) ∧ (if 0 ≤ p ∧ p < 6 then 20 else 0 : Int) ≤ 200; omega
  · intro p h0 h1; show 0 ≤ (0 : Int) ∧ (0 : Int) ≤ 0; omega
  · intro p h0 h1; show 0 ≤ (0 : Int) ∧ (0 : Int) ≤ 8 * 1; omega
  · intro p h0 h1; show 0 ≤ (0 : Int) ∧ (0 : Int) ≤ 1; omega
  · intro p h0 h1; show 0 ≤ (0 : Int) ∧ (0 : Int) ≤ 1; omega
  · decide +kernel
  · decide +kernel
  · decide +kernel
  · decide +kernel
