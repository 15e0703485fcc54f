/-! what ties the class's cells to the reference's, after k calls -/
def Gd (k : Nat) (s : Int → Int) (G : Nat → Int → Int) : Prop := gOf s = G ∧ InvG (1 + 36000 * (k : Int)) G ∧ RefI s ∧ G 12 0 ≤ 9999 ∧ sumZ 9 (G 10) ≤ k
def Rel (k : Nat) (F T : Nat → Int → Int) (Gs : Nat → Nat → Int → Int) (S : Nat → Int → Int) : Prop :=
  Gd k (S 0) (Gs 0) ∧ (S 4 0 = F 4 0 ∧ 0 ≤ F 4 0 ∧ F 4 0 ≤ 4) ∧ (∀ i : Nat, (i : Int) < F 4 0 → Gd k (shfZ (S 3) (269 * (i : Int))) (Gs (3 + i))) ∧ (S 5 = T 0 ∧ S 6 0 = T 1 0 ∧ InvT T ∧ InvK1 T ∧ InvK S)
theorem ix_lt {k : Nat} {p : Int} (hp : 0 ≤ p ∧ p < lenZ k) : 0 ≤ ixZ k p ∧ ixZ k p < 269 := by
  by_cases hk : k < 10
  · have h := ix_rows hk hp; omega
  · by_cases h13 : k < 13
    · have h := ix_top (by omega) h13 hp
      have h1 := h.1
      by_cases a : k = 10
      · rw [if_pos a] at h1; have := h.2.1 a; omega
      · rw [if_neg a] at h1
        by_cases b : k = 11
        · rw [if_pos b] at h1; have := h.2.2.1 b; omega
        · rw [if_neg b] at h1; omega
    · unfold lenZ at hp; omega
theorem gOf_ext {s s' : Int → Int} (h : ∀ j : Int, 0 ≤ j → j < 269 → s j = s' j) : gOf s = gOf s' := by
  funext k p
  unfold gOf
  by_cases hp : 0 ≤ p ∧ p < lenZ k
  · rw [if_pos hp, if_pos hp]
    have := ix_lt hp
    exact h _ this.1 this.2
  · rw [if_neg hp, if_neg hp]
theorem Gd_ext {k : Nat} {s s' : Int → Int} {G : Nat → Int → Int} (h : ∀ j : Int, 0 ≤ j → j < 269 → s j = s' j) (g : Gd k s G) : Gd k s' G := by
  have e := gOf_ext h
  refine ⟨e ▸ g.1, g.2.1, ?_, g.2.2.2⟩
  have r := g.2.2.1
  unfold RefI at r ⊢
  rw [← e, ← h 4 (by omega) (by omega), ← h 5 (by omega) (by omega), ← h 6 (by omega) (by omega), ← h 7 (by omega) (by omega)]
  exact r
theorem Gd_mono {k m : Nat} {s : Int → Int} {G : Nat → Int → Int} (g : Gd k s G) (h : k ≤ m) (hm : m ≤ 600) : Gd m s G :=
  ⟨g.1, invG_mono g.2.1 (by omega) (by omega), g.2.2.1, g.2.2.2.1, by have := g.2.2.2.2; omega⟩
/-- nothing that counts has changed -/
theorem Rel_same {k : Nat} {F T F' T' : Nat → Int → Int} {Gs Gs' : Nat → Nat → Int → Int} {S S' : Nat → Int → Int} (h : Rel k F T Gs S) (hk : k < 600) (h0 : Gs' 0 = Gs 0) (h3 : ∀ i : Nat, Gs' (3 + i) = Gs (3 + i)) (hF : F' 4 0 = F 4 0) (s0 : S' 0 = S 0) (s3 : S' 3 = S 3) (s4 : S' 4 = S 4) (st : S' 5 = T' 0 ∧ S' 6 0 = T' 1 0 ∧ InvT T' ∧ InvK1 T' ∧ InvK S') : Rel (k + 1) F' T' Gs' S' := by
  obtain ⟨a, b, c, d⟩ := h
  refine ⟨?_, ?_, ?_, st⟩
  · rw [s0, h0]; exact Gd_mono a (by omega) (by omega)
  · rw [s4, hF]; exact b
  · intro i hi
    rw [s3, h3]
    exact Gd_mono (c i (by rw [← hF]; exact hi)) (by omega) (by omega)
/-- a change, with the state before it kept -/
theorem Rel_rec {k : Nat} {F T F' T' : Nat → Int → Int} {Gs Y : Nat → Nat → Int → Int} {S S' : Nat → Int → Int} {v : Int} (h : Rel k F T Gs S) (hk : k < 600) (hv : 0 ≤ v) (hg : Gd (k + 1) (S' 0) (Y 0)) (h1 : Y 1 = Gs 0) (h3 : ∀ i : Nat, Y (3 + i) = Gs (3 + i)) (hF : F' 4 0 = F 4 0) (s3 : S' 3 = recS S 3) (s4 : S' 4 = recS S 4) (st : S' 5 = T' 0 ∧ S' 6 0 = T' 1 0 ∧ InvT T' ∧ InvK1 T' ∧ InvK S') : Rel (k + 1) (rcxF v F') T' (rcxP v (F 4 0) Y) S' := by
  obtain ⟨a, b, c, d⟩ := h
  have hv' : ¬ v < 0 := by omega
  by_cases hn : F 4 0 < 4
  · have hS : S 4 0 ≠ 4 := by omega
    have e3 : recS S 3 = cpZ (S 0) (S 3) 0 (269 * S 4 0) 269 := by unfold recS; rw [if_neg hS]; rfl
    have e4 : recS S 4 0 = S 4 0 + 1 := by unfold recS; rw [if_neg hS]; rfl
    have eF : rcxF v F' 4 0 = F 4 0 + 1 := by
      unfold rcxF; rw [if_neg hv', if_pos (by omega)]
      show F' 4 0 + 1 = _; rw [hF]
    rw [rcx_lt Y hv' hn]
    refine ⟨?_, ?_, ?_, st⟩
    · rw [swp_n Y (by omega) (by omega)]; exact hg
    · rw [s4, e4, eF]; omega
    · intro i hi
      rw [eF] at hi
      rw [s3, e3]
      by_cases hc : (i : Int) = F 4 0
      · have e5 : 3 + i = 3 + (F 4 0).toNat := by omega
        rw [e5, swp_j Y (by omega), h1]
        refine Gd_ext (fun j j0 j1 => ?_) (Gd_mono a (Nat.le_succ k) (by omega))
        unfold shfZ
        rw [cp_at, if_pos (by omega)]
        congr 1
        omega
      · rw [swp_n Y (by omega) (by omega), h3]
        refine Gd_ext (fun j j0 j1 => ?_) (Gd_mono (c i (by omega)) (Nat.le_succ k) (by omega))
        unfold shfZ
        rw [cp_at, if_neg (by omega)]
  · have hS : S 4 0 = 4 := by omega
    have e3 : recS S 3 = cpZ (S 0) (shZ (S 3) 807) 0 (269 * (S 4 0 - 1)) 269 := by unfold recS; rw [if_pos hS]; rfl
    have e4 : recS S 4 0 = S 4 0 - 1 + 1 := by unfold recS; rw [if_pos hS]; rfl
    have eF : rcxF v F' 4 0 = 4 := by unfold rcxF; rw [if_neg hv', if_neg (by omega)]; rfl
    rw [rcx_full Y hv' hn]
    refine ⟨hg, ?_, ?_, st⟩
    · rw [s4, e4, eF]; omega
    · intro i hi
      rw [eF] at hi
      rw [s3, e3]
      by_cases hc : i = 3
      · subst hc
        show Gd (k + 1) _ (Y 1)
        rw [h1]
        refine Gd_ext (fun j j0 j1 => ?_) (Gd_mono a (Nat.le_succ k) (by omega))
        unfold shfZ
        rw [cp_at, if_pos (by omega)]
        congr 1
        omega
      · have e5 : swp 1 6 (rotS Y) (3 + i) = Y (3 + (i + 1)) := by
          rcases (show i = 0 ∨ i = 1 ∨ i = 2 by omega) with rfl | rfl | rfl <;> rfl
        rw [e5, h3]
        refine Gd_ext (fun j j0 j1 => ?_) (Gd_mono (c (i + 1) (by omega)) (Nat.le_succ k) (by omega))
        unfold shfZ
        rw [cp_at, if_neg (by omega), sh_at, if_pos (by omega)]
        congr 1
        omega
theorem Rel_S {k : Nat} {F T : Nat → Int → Int} {Gs : Nat → Nat → Int → Int} {S : Nat → Int → Int} (h : Rel k F T Gs S) : InvS S := by
  obtain ⟨-, -, -, e5, e6, hT, -, -⟩ := h
  unfold InvS
  rw [e5, e6]
  exact hT
/-- the sums that the reference keeps, when its row changes -/
theorem sum_cong {f g : Int → Int} : ∀ n : Nat, (∀ p : Int, 0 ≤ p → p < n → f p = g p) → sumZ n f = sumZ n g := by
  intro n
  induction n with
  | zero => intro _; rfl
  | succ n ih =>
    intro h
    show sumZ n f + f n = sumZ n g + g n
    rw [ih (fun p h0 h1 => h p h0 (by omega)), h n (by omega) (by omega)]
theorem sum_up (f : Int → Int) (z v : Int) : ∀ n : Nat, 0 ≤ z → z < n → sumZ n (upI f z v) = sumZ n f + (v - f z) := by
  intro n
  induction n with
  | zero => intro h0 h1; omega
  | succ n ih =>
    intro h0 h1
    show sumZ n (upI f z v) + upI f z v n = sumZ n f + f n + (v - f z)
    by_cases e : z = n
    · subst e
      rw [upI_s, sum_cong (g := f) n (fun p h0 h1 => upI_n (by omega))]
      omega
    · rw [ih h0 (by omega), upI_n (Ne.symm e)]
      omega
