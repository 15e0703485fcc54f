/-! the class looks ahead for right thresholds without rows written anew -/
def Ag (G H : Nat → Int → Int) : Prop := (∀ k : Nat, k ≠ 11 → G k = H k) ∧ G 11 0 = H 11 0 ∧ G 11 1 = H 11 1
theorem ag_tick {G H : Nat → Int → Int} (h : Ag G H) : Ag (tickZ G) (tickZ H) := by
  have hd : ∀ k : Nat, k ≠ 11 → driftZ G k = driftZ H k := by
    intro k hk
    by_cases h1 : k = 1
    · subst h1
      funext p
      have e1 : driftZ G 1 p = driftCZ G 48 1 p := congrFun (driftG_k _ 1 (by omega) 18) p
      have e2 : driftZ H 1 p = driftCZ H 48 1 p := congrFun (driftG_k _ 1 (by omega) 18) p
      rw [e1, e2, driftC_1, driftC_1, h.1 1 (by decide), h.1 6 (by decide), h.2.1]
    · by_cases h4 : k = 4
      · subst h4
        funext p
        unfold driftZ
        rw [driftG_4, driftG_4, driftC_k _ 5 (by omega), driftC_k _ 11 (by omega), driftC_k _ 6 (by omega), driftC_k _ 4 (by omega), driftC_k _ 5 (by omega), driftC_k _ 11 (by omega), driftC_k _ 6 (by omega), driftC_k _ 4 (by omega), h.1 5 (by decide), h.1 6 (by decide), h.1 4 (by decide), h.2.1]
      · rw [drift_k _ k h1 h4, drift_k _ k h1 h4]; exact h.1 k hk
  have h11 : ∀ X : Nat → Int → Int, tickZ X 11 = X 11 := fun X => by
    unfold tickZ upG
    rw [if_neg (by decide)]
    exact drift_k _ 11 (by decide) (by decide)
  refine ⟨fun k hk => ?_, by rw [h11, h11]; exact h.2.1, by rw [h11, h11]; exact h.2.2⟩
  unfold tickZ upG
  rw [hd 12 (by decide)]
  split
  · rfl
  · exact hd k hk
theorem day_none {G : Nat → Int → Int} (h : G 11 2 = 0) : ∀ n : Nat, dayStZ G n = G := by
  intro n
  induction n with
  | zero => rfl
  | succ n ih =>
    show (if 0 < dayStZ G n 11 2 ∧ dayStZ G n 11 2 ≤ ageZ (dayStZ G n) n then writeAnewZ (dayStZ G n) n else dayStZ G n) = G
    rw [ih, if_neg (by rw [h]; omega)]
theorem ag_days (G : Nat → Int → Int) : ∀ i : Nat, Ag (daysStZ (upG G 11 2 0) i) (tksZ G i) := by
  intro i
  induction i with
  | zero => exact ⟨fun k hk => if_neg hk, rfl, rfl⟩
  | succ i ih =>
    have e0 : daysStZ (upG G 11 2 0) i 11 2 = 0 := by rw [days_k _ 11 (by decide) (by decide)]; rfl
    have e1 : tickZ (daysStZ (upG G 11 2 0) i) 11 2 = 0 := by
      have : tickZ (daysStZ (upG G 11 2 0) i) 11 = daysStZ (upG G 11 2 0) i 11 := by
        unfold tickZ upG
        rw [if_neg (by decide)]
        exact drift_k _ 11 (by decide) (by decide)
      rw [this]; exact e0
    have e2 : daysStZ (upG G 11 2 0) (i + 1) = tickZ (daysStZ (upG G 11 2 0) i) := by
      show endDayZ (daysStZ (upG G 11 2 0) i) = _
      unfold endDayZ
      exact day_none e1 6
    rw [e2]
    exact ag_tick ih
theorem ag_right {G H : Nat → Int → Int} (h : Ag G H) (r : Int) : rightZ G r = rightZ H r := by
  unfold rightZ
  rw [h.1 4 (by decide), h.2.2]
theorem rf_eq (G : Nat → Int → Int) (r : Int) : (fun i : Nat => if rightZ (daysStZ (upG G 11 2 0) i) r = 0 then (1 : Int) else 0) = (fun i : Nat => if rightZ (tksZ G i) r = 0 then (1 : Int) else 0) := by
  funext i
  rw [ag_right (ag_days G i) r]
/-! the row at a rank: the best of those not taken, again and again -/
def keyZ (G : Nat → Int → Int) (r : Int) : Int := 6 * wrongZ G r + (5 - r)
theorem ahead_key (G : Nat → Int → Int) {r k : Int} (hr : 0 ≤ r ∧ r < 6) (hk : 0 ≤ k ∧ k < 6) : (wrongZ G r < wrongZ G k ∨ (wrongZ G k = wrongZ G r ∧ k < r)) ↔ keyZ G r < keyZ G k := by
  unfold keyZ
  omega
theorem wb_none {G : Nat → Int → Int} {t : Int} : ∀ n : Nat, (∀ k : Nat, k < n → bitZ t k ≠ 0) → wbZ G t n = (0, -1) := by
  intro n
  induction n with
  | zero => intro _; rfl
  | succ n ih =>
    intro h
    show (if bitZ t n = 0 ∧ (wbZ G t n).2 < wrongZ G n then ((n : Int), wrongZ G n) else wbZ G t n) = _
    rw [if_neg (fun q => h n (by omega) q.1)]
    exact ih (fun k hk => h k (by omega))
theorem wb_spec {G : Nat → Int → Int} {t : Int} : ∀ n : Nat, n ≤ 6 → (∃ k : Nat, k < n ∧ bitZ t k = 0) → ∃ f : Nat, f < n ∧ bitZ t f = 0 ∧ wbZ G t n = ((f : Int), wrongZ G f) ∧ ∀ k : Nat, k < n → bitZ t k = 0 → keyZ G k ≤ keyZ G f := by
  intro n
  induction n with
  | zero => intro _ h; obtain ⟨k, hk, _⟩ := h; omega
  | succ n ih =>
    intro hn h
    have e : wbZ G t (n + 1) = if bitZ t n = 0 ∧ (wbZ G t n).2 < wrongZ G n then ((n : Int), wrongZ G n) else wbZ G t n := rfl
    by_cases h2 : ∃ k : Nat, k < n ∧ bitZ t k = 0
    · obtain ⟨f, f1, f2, f3, f4⟩ := ih (by omega) h2
      by_cases c : bitZ t n = 0 ∧ (wbZ G t n).2 < wrongZ G n
      · refine ⟨n, by omega, c.1, by rw [e, if_pos c], fun k hk hb => ?_⟩
        rw [f3] at c
        have c2 : wrongZ G f < wrongZ G n := c.2
        by_cases hkn : k = n
        · subst hkn; exact Int.le_refl _
        · have h4 := f4 k (by omega) hb
          unfold keyZ at h4 ⊢
          omega
      · refine ⟨f, by omega, f2, by rw [e, if_neg c]; exact f3, fun k hk hb => ?_⟩
        by_cases hkn : k = n
        · subst hkn
          have c2 : ¬ (wrongZ G f < wrongZ G k) := fun q => c ⟨hb, by rw [f3]; exact q⟩
          unfold keyZ
          omega
        · exact f4 k (by omega) hb
    · have hb : bitZ t n = 0 := by
        obtain ⟨k, hk, hb⟩ := h
        by_cases hkn : k = n
        · rw [← hkn]; exact hb
        · exact absurd ⟨k, by omega, hb⟩ h2
      have e2 : wbZ G t n = (0, -1) := wb_none n (fun k hk q => h2 ⟨k, hk, q⟩)
      have hw := wrongZ_bd G n
      refine ⟨n, by omega, hb, by rw [e, e2, if_pos ⟨hb, by show (-1 : Int) < _; omega⟩], fun k hk hb2 => ?_⟩
      by_cases hkn : k = n
      · subst hkn; exact Int.le_refl _
      · exact absurd ⟨k, by omega, hb2⟩ h2
theorem bor_bits : ∀ f : Nat, f < 6 → ∀ a : Nat, a < 64 → bitZ (a : Int) f = 0 → ∀ k : Nat, k < 6 → bitZ (borZ (a : Int) f) k = if k = f then 1 else bitZ (a : Int) k := by decide +kernel
theorem bor_bit {a : Int} (ha : 0 ≤ a ∧ a < 64) {f : Nat} (hf : f < 6) (h : bitZ a f = 0) {k : Nat} (hk : k < 6) : bitZ (borZ a f) k = if k = f then 1 else bitZ a k := by
  have h2 := bor_bits f hf a.toNat (by omega)
  rw [show ((a.toNat : Nat) : Int) = a by omega] at h2
  exact h2 h k hk
def sumN (n : Nat) (f : Nat → Int) : Int := sumZ n (fun p => f p.toNat)
theorem sumN_6 (f : Nat → Int) : sumN 6 f = f 0 + f 1 + f 2 + f 3 + f 4 + f 5 := by
  have e : sumN 6 f = 0 + f 0 + f 1 + f 2 + f 3 + f 4 + f 5 := rfl
  rw [e]; omega
theorem ahead_6 (G : Nat → Int → Int) (r : Nat) (hr : r < 6) : aheadZ G r 6 = sumN 6 (fun k => if keyZ G r < keyZ G k then 1 else 0) := by
  unfold aheadZ sumN
  refine sum_cong 6 (fun p h0 h1 => ?_)
  show (if wrongZ G r < wrongZ G p ∨ (wrongZ G p = wrongZ G r ∧ p < r) then (1 : Int) else 0) = if keyZ G r < keyZ G ((p.toNat : Nat) : Int) then 1 else 0
  rw [show ((p.toNat : Nat) : Int) = p by omega]
  have h := ahead_key G (r := (r : Int)) (k := p) (by omega) (by omega)
  by_cases c : keyZ G r < keyZ G p
  · rw [if_pos c, if_pos (h.mpr c)]
  · rw [if_neg c, if_neg (fun q => c (h.mp q))]
/-- what stands after i turns -/
def Wi (G : Nat → Int → Int) (i : Nat) : Prop := (0 ≤ (wsZ G i).1 ∧ (wsZ G i).1 < 64) ∧ sumN 6 (fun k => bitZ (wsZ G i).1 k) = i ∧ ∀ a b : Nat, a < 6 → b < 6 → bitZ (wsZ G i).1 a ≠ 0 → bitZ (wsZ G i).1 b = 0 → keyZ G b < keyZ G a
theorem key_ne (G : Nat → Int → Int) {a b : Nat} (ha : a < 6) (hb : b < 6) (h : a ≠ b) : keyZ G a ≠ keyZ G b := by
  unfold keyZ; omega
theorem ws_turn {G : Nat → Int → Int} {i : Nat} (hi : i < 6) (h : Wi G i) : ∃ f : Nat, f < 6 ∧ (wsZ G (i + 1)).2 = (f : Int) ∧ aheadZ G f 6 = i ∧ Wi G (i + 1) := by
  obtain ⟨h1, h2, h3⟩ := h
  have hex : ∃ k : Nat, k < 6 ∧ bitZ (wsZ G i).1 k = 0 := by
    rw [sumN_6] at h2
    have b0 := bitZ_01 (wsZ G i).1 0
    have b1 := bitZ_01 (wsZ G i).1 1
    have b2 := bitZ_01 (wsZ G i).1 2
    have b3 := bitZ_01 (wsZ G i).1 3
    have b4 := bitZ_01 (wsZ G i).1 4
    have b5 := bitZ_01 (wsZ G i).1 5
    by_cases c0 : bitZ (wsZ G i).1 0 = 0
    · exact ⟨0, by omega, c0⟩
    · by_cases c1 : bitZ (wsZ G i).1 1 = 0
      · exact ⟨1, by omega, c1⟩
      · by_cases c2 : bitZ (wsZ G i).1 2 = 0
        · exact ⟨2, by omega, c2⟩
        · by_cases c3 : bitZ (wsZ G i).1 3 = 0
          · exact ⟨3, by omega, c3⟩
          · by_cases c4 : bitZ (wsZ G i).1 4 = 0
            · exact ⟨4, by omega, c4⟩
            · exact ⟨5, by omega, by omega⟩
  obtain ⟨f, f1, f2, f3, f4⟩ := wb_spec (G := G) (t := (wsZ G i).1) 6 (by omega) hex
  have e2 : (wsZ G (i + 1)).2 = (f : Int) := by rw [ws_2, f3]
  have e1 : (wsZ G (i + 1)).1 = borZ (wsZ G i).1 f := by rw [ws_1, f3]; rfl
  have hbit : ∀ k : Nat, k < 6 → bitZ (borZ (wsZ G i).1 f) k = if k = f then 1 else bitZ (wsZ G i).1 k := fun k hk => bor_bit h1 f1 f2 hk
  have hbd := bor_bd (a := (wsZ G i).1) (f := (f : Int)) (by omega) h1
  rw [show ((f : Int)).toNat = f by omega] at hbd
  refine ⟨f, f1, e2, ?_, ?_⟩
  · rw [ahead_6 G f f1]
    have e : ∀ k : Nat, k < 6 → (if keyZ G f < keyZ G k then (1 : Int) else 0) = bitZ (wsZ G i).1 k := fun k hk => by
      have b := bitZ_01 (wsZ G i).1 k
      by_cases c : bitZ (wsZ G i).1 k = 0
      · have := f4 k hk c
        rw [if_neg (by omega), c]
      · have := h3 k f hk f1 c f2
        rw [if_pos this]; omega
    rw [sumN_6] at h2 ⊢
    rw [e 0 (by omega), e 1 (by omega), e 2 (by omega), e 3 (by omega), e 4 (by omega), e 5 (by omega)]
    exact h2
  · unfold Wi
    rw [e1]
    refine ⟨hbd, ?_, fun a b ha hb p q => ?_⟩
    · rw [sumN_6] at h2 ⊢
      rw [hbit 0 (by omega), hbit 1 (by omega), hbit 2 (by omega), hbit 3 (by omega), hbit 4 (by omega), hbit 5 (by omega)]
      rcases (show f = 0 ∨ f = 1 ∨ f = 2 ∨ f = 3 ∨ f = 4 ∨ f = 5 by omega) with e | e | e | e | e | e <;> subst e <;> simp at h2 ⊢ <;> omega
    · rw [hbit a ha] at p
      rw [hbit b hb] at q
      by_cases cb : b = f
      · rw [if_pos cb] at q; omega
      · rw [if_neg cb] at q
        by_cases ca : a = f
        · subst ca
          have h5 := f4 b hb q
          have h6 := key_ne G ha hb (fun w => cb w.symm)
          omega
        · rw [if_neg ca] at p
          exact h3 a b ha hb p q
theorem Wi_all (G : Nat → Int → Int) : ∀ i : Nat, i ≤ 6 → Wi G i := by
  intro i
  induction i with
  | zero =>
    intro _
    refine ⟨⟨(by decide : (0 : Int) ≤ 0), (by decide : (0 : Int) < 64)⟩, by show sumN 6 (fun k => bitZ 0 k) = ((0 : Nat) : Int); decide +kernel, fun a b ha hb p q => ?_⟩
    have e : ∀ k : Nat, k < 6 → bitZ 0 k = 0 := by decide +kernel
    exact absurd (e a ha) p
  | succ i ih =>
    intro hi
    obtain ⟨f, _, _, _, h⟩ := ws_turn (by omega) (ih (by omega))
    exact h
theorem ahead_inj (G : Nat → Int → Int) {a b : Nat} (ha : a < 6) (hb : b < 6) (h : keyZ G a < keyZ G b) : aheadZ G b 6 < aheadZ G a 6 := by
  rw [ahead_6 G a ha, ahead_6 G b hb, sumN_6, sumN_6]
  have m : ∀ k : Nat, (if keyZ G b < keyZ G k then (1 : Int) else 0) ≤ (if keyZ G a < keyZ G k then (1 : Int) else 0) := fun k => by
    by_cases c : keyZ G b < keyZ G k
    · rw [if_pos c, if_pos (by omega)]; exact Int.le_refl _
    · rw [if_neg c]; split <;> omega
  have s : (if keyZ G b < keyZ G b then (1 : Int) else 0) < (if keyZ G a < keyZ G b then (1 : Int) else 0) := by rw [if_neg (by omega), if_pos h]; decide
  have m0 := m 0
  have m1 := m 1
  have m2 := m 2
  have m3 := m 3
  have m4 := m 4
  have m5 := m 5
  rcases (show b = 0 ∨ b = 1 ∨ b = 2 ∨ b = 3 ∨ b = 4 ∨ b = 5 by omega) with e | e | e | e | e | e <;> subst e <;> omega
theorem rank_of {G : Nat → Int → Int} {q : Int} {f : Nat} (hf : f < 6) (h : aheadZ G f 6 = q) : ∀ n : Nat, n ≤ 6 → f < n → rankZ G q n = (f : Int) := by
  intro n
  induction n with
  | zero => intro _ h0; omega
  | succ n ih =>
    intro hn hfn
    show (if aheadZ G n 6 = q then (n : Int) else rankZ G q n) = (f : Int)
    by_cases c : n = f
    · subst c; rw [if_pos h]
    · have hk := key_ne G (a := n) (b := f) (by omega) hf c
      have hne : aheadZ G n 6 ≠ q := by
        by_cases d : keyZ G n < keyZ G f
        · have := ahead_inj G (by omega) hf d; omega
        · have := ahead_inj G hf (show n < 6 by omega) (show keyZ G f < keyZ G n by omega); omega
      rw [if_neg hne]
      exact ih (by omega) (by omega)
theorem worst_eq (G : Nat → Int → Int) {q : Int} (hq : 0 ≤ q ∧ q < 6) : (wsZ G (q.toNat + 1)).2 = rankZ G q 6 := by
  obtain ⟨f, f1, f2, f3, _⟩ := ws_turn (G := G) (i := q.toNat) (by omega) (Wi_all G q.toNat (by omega))
  rw [f2, rank_of f1 (by rw [f3]; omega) 6 (Nat.le_refl _) f1]
