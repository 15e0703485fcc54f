/-! the sums that the reference keeps, through its steps -/
theorem ix_no4 {k : Nat} {p : Int} (hp : 0 ≤ p ∧ p < lenZ k) : ixZ k p < 4 ∨ 8 ≤ ixZ k p := by
  by_cases hk : k < 10
  · have h := ix_rows hk hp; omega
  · by_cases h13 : k < 13
    · have h := ix_top (by omega) h13 hp
      have h1 := h.1
      by_cases a : k = 10
      · rw [if_pos a] at h1; omega
      · rw [if_neg a] at h1
        by_cases b : k = 11
        · rw [if_pos b] at h1; have := h.2.2.1 b; omega
        · rw [if_neg b] at h1; omega
    · unfold lenZ at hp; omega
theorem ly_c (S : Nat → Int → Int) {k : Nat} {p : Int} (v : Int) (hp : 0 ≤ p ∧ p < lenZ k) {j : Int} (h4 : 4 ≤ j) (h7 : j ≤ 7) : lyZ S k p v 0 j = S 0 j := by
  have h := ix_no4 hp
  show upI (S 0) (ixZ k p) v j = S 0 j
  exact upI_n (by omega)
theorem ref_ly {S : Nat → Int → Int} {k : Nat} {p : Int} (v : Int) (hp : 0 ≤ p ∧ p < lenZ k) (h2 : 2 ≠ k) (h8 : 8 ≠ k) (h9 : 9 ≠ k) (h10 : 10 ≠ k) (h : RefI (S 0)) : RefI (lyZ S k p v 0) := by
  unfold RefI at h ⊢
  have e : ∀ j, j ≠ k → upG (gOf (S 0)) k p v j = gOf (S 0) j := fun j hj => if_neg hj
  rw [gOf_ly _ _ hp, ly_c S v hp (by omega) (by omega), ly_c S v hp (by omega) (by omega), ly_c S v hp (by omega) (by omega), ly_c S v hp (by omega) (by omega), e 8 h8, e 2 h2, e 9 h9, e 10 h10]
  exact h
theorem wr_c (S : Nat → Int → Int) {r c : Int} (v : Int) (hr : 0 ≤ r ∧ r < 6) (hc : 0 ≤ c ∧ c < 8) {j : Int} (h4 : 4 ≤ j) (h7 : j ≤ 7) : wrS S r c v 0 j = if j = 5 then S 0 5 + 1 else S 0 j := by
  have h0 : 0 ≤ 8 * r + c ∧ 8 * r + c < lenZ 0 := by rw [len48 0 (by omega)]; omega
  have h1 : 0 ≤ 8 * r + c ∧ 8 * r + c < lenZ 1 := by rw [len48 1 (by omega)]; omega
  have h2 : 0 ≤ 8 * r + c ∧ 8 * r + c < lenZ 2 := by rw [len48 2 (by omega)]; omega
  have h3 : 0 ≤ 8 * r + c ∧ 8 * r + c < lenZ 3 := by rw [len48 3 (by omega)]; omega
  unfold wrS
  show upI (lyZ _ 3 (8 * r + c) _ 0) 5 (lyZ _ 3 (8 * r + c) _ 0 5 + 1) j = _
  by_cases e : j = 5
  · subst e
    rw [upI_s, if_pos rfl, ly_c _ _ h3 (by omega) (by omega), ly_c _ _ h2 (by omega) (by omega), ly_c _ _ h1 (by omega) (by omega), ly_c _ _ h0 (by omega) (by omega)]
  · rw [upI_n e, if_neg e, ly_c _ _ h3 h4 h7, ly_c _ _ h2 h4 h7, ly_c _ _ h1 h4 h7, ly_c _ _ h0 h4 h7]
theorem ref_wr {S : Nat → Int → Int} {r c : Int} (v : Int) (hr : 0 ≤ r ∧ r < 6) (hc : 0 ≤ c ∧ c < 8) (h : RefI (S 0)) : RefI (wrS S r c v 0) := by
  unfold RefI at h ⊢
  have e2 : putZ (gOf (S 0)) (8 * r + c) v 2 = upI (gOf (S 0) 2) (8 * r + c) (gOf (S 0) 2 (8 * r + c) + 1) := rfl
  rw [gOf_wr S v hr hc, wr_c S v hr hc (by omega) (by omega), wr_c S v hr hc (by omega) (by omega), wr_c S v hr hc (by omega) (by omega), wr_c S v hr hc (by omega) (by omega), put_k 8 (by omega), put_k 9 (by omega), put_k 10 (by omega), e2, sum_up _ _ _ 48 (by omega) (by omega)]
  rw [if_neg (by omega), if_pos rfl, if_neg (by omega), if_neg (by omega)]
  omega
theorem ref_wg {S : Nat → Int → Int} {r : Int} (hr : 0 ≤ r ∧ r < 6) (h : RefI (S 0)) : ∀ n : Nat, n ≤ 3 → RefI (wgS S r n 0) := by
  intro n
  induction n with
  | zero => intro _; exact h
  | succ n ih =>
    intro hn
    have h4 : 0 ≤ 3 * r + (n : Int) ∧ 3 * r + (n : Int) < lenZ 4 := by rw [show lenZ 4 = 18 from rfl]; omega
    have g := ih (by omega)
    show RefI ((if gOf (wgS S r n 0) 5 (3 * r + n) = 1 then lyZ (wgS S r n) 4 (3 * r + n) (gOf (wgS S r n 0) 4 (3 * r + n)) else lyZ (wgS S r n) 4 (3 * r + n) (aimZ n)) 0)
    split
    · exact ref_ly _ h4 (by decide) (by decide) (by decide) (by decide) g
    · exact ref_ly _ h4 (by decide) (by decide) (by decide) (by decide) g
theorem ref_wgu {S : Nat → Int → Int} {r : Int} (hr : 0 ≤ r ∧ r < 6) (h : RefI (S 0)) : RefI (wguS S r 0) :=
  ref_ly _ (show 0 ≤ r ∧ r < lenZ 7 from hr) (by decide) (by decide) (by decide) (by decide) (ref_wg hr h 3 (Nat.le_refl _))
theorem ref_ww {S : Nat → Int → Int} {r : Int} (w : Int) (hr : 0 ≤ r ∧ r < 6) (h : RefI (S 0)) : ∀ n : Nat, n ≤ 8 → RefI (wwS S r w n 0) := by
  intro n
  induction n with
  | zero => intro _; exact h
  | succ n ih => intro hn; exact ref_wr _ hr (by omega) (ih (by omega))
theorem ref_lost {X : Nat → Int → Int} {r : Int} (w : Int) (hr : 0 ≤ r ∧ r < 6) (h : RefI (X 0)) : RefI (upG (upG (lyZ (lyZ X 8 r (gOf (X 0) 8 r + w)) 9 r (gOf (lyZ X 8 r (gOf (X 0) 8 r + w) 0) 9 r + 1)) 0 4 (lyZ (lyZ X 8 r (gOf (X 0) 8 r + w)) 9 r (gOf (lyZ X 8 r (gOf (X 0) 8 r + w) 0) 9 r + 1) 0 4 + w)) 0 6 (upG (lyZ (lyZ X 8 r (gOf (X 0) 8 r + w)) 9 r (gOf (lyZ X 8 r (gOf (X 0) 8 r + w) 0) 9 r + 1)) 0 4 (lyZ (lyZ X 8 r (gOf (X 0) 8 r + w)) 9 r (gOf (lyZ X 8 r (gOf (X 0) 8 r + w) 0) 9 r + 1) 0 4 + w) 0 6 + 1) 0) := by
  have h8 : 0 ≤ r ∧ r < lenZ 8 := hr
  have h9 : 0 ≤ r ∧ r < lenZ 9 := hr
  obtain ⟨Y, hY⟩ : ∃ Y, Y = lyZ X 8 r (gOf (X 0) 8 r + w) := ⟨_, rfl⟩
  rw [← hY]
  obtain ⟨Z, hZ⟩ : ∃ Z, Z = lyZ Y 9 r (gOf (Y 0) 9 r + 1) := ⟨_, rfl⟩
  rw [← hZ]
  have gY : gOf (Y 0) = upG (gOf (X 0)) 8 r (gOf (X 0) 8 r + w) := by rw [hY]; exact gOf_ly _ _ h8
  have gZ : gOf (Z 0) = upG (gOf (Y 0)) 9 r (gOf (Y 0) 9 r + 1) := by rw [hZ]; exact gOf_ly _ _ h9
  have cZ : ∀ j : Int, 4 ≤ j → j ≤ 7 → Z 0 j = X 0 j := fun j h4 h7 => by rw [hZ, ly_c _ _ h9 h4 h7, hY, ly_c _ _ h8 h4 h7]
  unfold RefI at h ⊢
  show upI (upI (Z 0) 4 (Z 0 4 + w)) 6 (upI (Z 0) 4 (Z 0 4 + w) 6 + 1) 4 = sumZ 6 (gOf (upI (upI (Z 0) 4 (Z 0 4 + w)) 6 (upI (Z 0) 4 (Z 0 4 + w) 6 + 1)) 8) ∧ upI (upI (Z 0) 4 (Z 0 4 + w)) 6 (upI (Z 0) 4 (Z 0 4 + w) 6 + 1) 5 = sumZ 48 (gOf (upI (upI (Z 0) 4 (Z 0 4 + w)) 6 (upI (Z 0) 4 (Z 0 4 + w) 6 + 1)) 2) - 48 ∧ upI (upI (Z 0) 4 (Z 0 4 + w)) 6 (upI (Z 0) 4 (Z 0 4 + w) 6 + 1) 6 = sumZ 6 (gOf (upI (upI (Z 0) 4 (Z 0 4 + w)) 6 (upI (Z 0) 4 (Z 0 4 + w) 6 + 1)) 9) ∧ upI (upI (Z 0) 4 (Z 0 4 + w)) 6 (upI (Z 0) 4 (Z 0 4 + w) 6 + 1) 7 = sumZ 9 (gOf (upI (upI (Z 0) 4 (Z 0 4 + w)) 6 (upI (Z 0) 4 (Z 0 4 + w) 6 + 1)) 10)
  rw [gOf_out _ (by omega), gOf_out _ (by omega), upI_n (by omega), upI_s, upI_n (by omega), upI_n (by omega), upI_s, upI_n (by omega), upI_n (by omega), upI_n (by omega), cZ 4 (by omega) (by omega), cZ 5 (by omega) (by omega), cZ 6 (by omega) (by omega), cZ 7 (by omega) (by omega), gZ, gY]
  show X 0 4 + w = sumZ 6 (upI (gOf (X 0) 8) r (gOf (X 0) 8 r + w)) ∧ X 0 5 = sumZ 48 (gOf (X 0) 2) - 48 ∧ X 0 6 + 1 = sumZ 6 (upI (gOf (X 0) 9) r (gOf (X 0) 9 r + 1)) ∧ X 0 7 = sumZ 9 (gOf (X 0) 10)
  rw [sum_up _ _ _ 6 hr.1 hr.2, sum_up _ _ _ 6 hr.1 hr.2]
  omega
theorem ref_wa {S : Nat → Int → Int} {r : Int} (hr : 0 ≤ r ∧ r < 6) (h : RefI (S 0)) : RefI (waS S r 0) :=
  ref_lost (X := wguS (wwS S r (toldWordZ (gOf (S 0)) r) 8) r) (wrongZ (gOf (S 0)) r) hr (ref_wgu hr (ref_ww _ hr h 8 (Nat.le_refl _)))
