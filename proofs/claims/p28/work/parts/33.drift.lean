/-! drift: place by place -/
theorem driftC_1 (G : Nat → Int → Int) (p : Int) : ∀ n : Nat, driftCZ G n 1 p = if 0 ≤ p ∧ p < (n : Int) then nearZ (G 11 0) (G 1 p) (G 6 (p / 8)) else G 1 p := by
  intro n
  induction n with
  | zero => rw [if_neg (by omega)]; rfl
  | succ n ih =>
    show upI (driftCZ G n 1) n (nearZ (driftCZ G n 11 0) (driftCZ G n 1 n) (driftCZ G n 6 ((n : Int) / 8))) p = _
    rw [driftC_k G 11 (by omega) n, driftC_k G 6 (by omega) n]
    by_cases e : p = n
    · subst e
      rw [upI_s, if_pos (by omega), ih, if_neg (by omega)]
    · rw [upI_n e, ih]
      by_cases c : 0 ≤ p ∧ p < (n : Int)
      · rw [if_pos c, if_pos (by omega)]
      · rw [if_neg c, if_neg (by omega)]
theorem driftG_4 (G : Nat → Int → Int) (p : Int) : ∀ n : Nat, driftGZ G n 4 p = if (0 ≤ p ∧ p < (n : Int)) ∧ G 5 p = 0 then nearZ (G 11 0) (G 4 p) (G 6 (p / 3)) else G 4 p := by
  intro n
  induction n with
  | zero => rw [if_neg (by omega)]; rfl
  | succ n ih =>
    show (if driftGZ G n 5 n = 0 then upG (driftGZ G n) 4 n (nearZ (driftGZ G n 11 0) (driftGZ G n 4 n) (driftGZ G n 6 ((n : Int) / 3))) else driftGZ G n) 4 p = _
    rw [driftG_k G 11 (by omega) n, driftG_k G 6 (by omega) n, driftG_k G 5 (by omega) n]
    by_cases z : G 5 n = 0
    · rw [if_pos z]
      show upI (driftGZ G n 4) n (nearZ (G 11 0) (driftGZ G n 4 n) (G 6 ((n : Int) / 3))) p = _
      by_cases e : p = n
      · subst e
        rw [upI_s, if_pos (by omega)]
        congr 1
        have h := ih
        rw [if_neg (by omega)] at h
        exact h
      · rw [upI_n e, ih]
        by_cases c : (0 ≤ p ∧ p < (n : Int)) ∧ G 5 p = 0
        · rw [if_pos c, if_pos (by omega)]
        · rw [if_neg c, if_neg (by omega)]
    · rw [if_neg z, ih]
      by_cases c : (0 ≤ p ∧ p < (n : Int)) ∧ G 5 p = 0
      · rw [if_pos c, if_pos (by omega)]
      · rw [if_neg c]
        by_cases e : p = n
        · subst e; rw [if_neg (by omega)]
        · rw [if_neg (by omega)]
theorem dg_k (S : Nat → Int → Int) {r : Int} (hr : 0 ≤ r ∧ r < 6) (k : Nat) (h : k ≠ 4) : ∀ n : Nat, n ≤ 3 → gOf (dgS S r n 0) k = gOf (S 0) k := by
  intro n
  induction n with
  | zero => intro _; rfl
  | succ n ih =>
    intro hn
    have h4 : 0 ≤ 3 * r + (n : Int) ∧ 3 * r + (n : Int) < lenZ 4 := by rw [show lenZ 4 = 18 from rfl]; omega
    simp only [dgS]
    split
    · rw [gOf_ly _ _ h4]; unfold upG; rw [if_neg h]; exact ih (by omega)
    · rw [gOf_ly _ _ h4]; unfold upG; rw [if_neg h]; exact ih (by omega)
theorem dg_4 (S : Nat → Int → Int) {r : Int} (hr : 0 ≤ r ∧ r < 6) (p : Int) : ∀ n : Nat, n ≤ 3 → gOf (dgS S r n 0) 4 p = if (3 * r ≤ p ∧ p < 3 * r + n) ∧ gOf (S 0) 5 p ≠ 1 then nearZ (gOf (S 0) 11 0) (gOf (S 0) 4 p) (gOf (S 0) 6 r) else gOf (S 0) 4 p := by
  intro n
  induction n with
  | zero => intro _; rw [if_neg (by omega)]; rfl
  | succ n ih =>
    intro hn
    have h4 : 0 ≤ 3 * r + (n : Int) ∧ 3 * r + (n : Int) < lenZ 4 := by rw [show lenZ 4 = 18 from rfl]; omega
    have ih := ih (by omega)
    have e5 := dg_k S hr 5 (by omega) n (by omega)
    have e6 := dg_k S hr 6 (by omega) n (by omega)
    have e11 := dg_k S hr 11 (by omega) n (by omega)
    simp only [dgS]
    rw [e5]
    by_cases z : gOf (S 0) 5 (3 * r + n) = 1
    · rw [if_pos z, gOf_ly _ _ h4, upG_self, ih]
      by_cases c : (3 * r ≤ p ∧ p < 3 * r + (n : Int)) ∧ gOf (S 0) 5 p ≠ 1
      · rw [if_pos c, if_pos ⟨⟨c.1.1, by omega⟩, c.2⟩]
      · rw [if_neg c, if_neg (fun q => ?_)]
        by_cases e : p = 3 * r + n
        · subst e; exact q.2 z
        · exact c ⟨⟨q.1.1, by omega⟩, q.2⟩
    · rw [if_neg z, gOf_ly _ _ h4, e6, e11]
      show upI (gOf (dgS S r n 0) 4) (3 * r + n) (nearZ (gOf (S 0) 11 0) (gOf (dgS S r n 0) 4 (3 * r + n)) (gOf (S 0) 6 r)) p = _
      by_cases e : p = 3 * r + n
      · subst e
        rw [upI_s, if_pos ⟨by omega, z⟩, ih, if_neg (fun q => by omega)]
      · rw [upI_n e, ih]
        by_cases c : (3 * r ≤ p ∧ p < 3 * r + (n : Int)) ∧ gOf (S 0) 5 p ≠ 1
        · rw [if_pos c, if_pos ⟨⟨c.1.1, by omega⟩, c.2⟩]
        · rw [if_neg c, if_neg (fun q => c ⟨⟨q.1.1, by omega⟩, q.2⟩)]
theorem dc_k (S : Nat → Int → Int) {r : Int} (hr : 0 ≤ r ∧ r < 6) (k : Nat) (h : k ≠ 1) : ∀ n : Nat, n ≤ 8 → gOf (dcS S r n 0) k = gOf (S 0) k := by
  intro n
  induction n with
  | zero => intro _; rfl
  | succ n ih =>
    intro hn
    have h1 : 0 ≤ 8 * r + (n : Int) ∧ 8 * r + (n : Int) < lenZ 1 := by rw [len48 1 (by omega)]; omega
    simp only [dcS]
    rw [gOf_ly _ _ h1]; unfold upG; rw [if_neg h]; exact ih (by omega)
theorem dc_1 (S : Nat → Int → Int) {r : Int} (hr : 0 ≤ r ∧ r < 6) (p : Int) : ∀ n : Nat, n ≤ 8 → gOf (dcS S r n 0) 1 p = if 8 * r ≤ p ∧ p < 8 * r + n then nearZ (gOf (S 0) 11 0) (gOf (S 0) 1 p) (gOf (S 0) 6 r) else gOf (S 0) 1 p := by
  intro n
  induction n with
  | zero => intro _; rw [if_neg (by omega)]; rfl
  | succ n ih =>
    intro hn
    have h1 : 0 ≤ 8 * r + (n : Int) ∧ 8 * r + (n : Int) < lenZ 1 := by rw [len48 1 (by omega)]; omega
    have ih := ih (by omega)
    have e6 := dc_k S hr 6 (by omega) n (by omega)
    have e11 := dc_k S hr 11 (by omega) n (by omega)
    simp only [dcS]
    rw [gOf_ly _ _ h1, e6, e11]
    show upI (gOf (dcS S r n 0) 1) (8 * r + n) (nearZ (gOf (S 0) 11 0) (gOf (dcS S r n 0) 1 (8 * r + n)) (gOf (S 0) 6 r)) p = _
    by_cases e : p = 8 * r + n
    · subst e
      rw [upI_s, if_pos (by omega), ih, if_neg (by omega)]
    · rw [upI_n e, ih]
      by_cases c : 8 * r ≤ p ∧ p < 8 * r + (n : Int)
      · rw [if_pos c, if_pos (by omega)]
      · rw [if_neg c, if_neg (by omega)]
theorem dr_k (S : Nat → Int → Int) (k : Nat) (h1 : k ≠ 1) (h4 : k ≠ 4) : ∀ n : Nat, n ≤ 6 → gOf (drS S n 0) k = gOf (S 0) k := by
  intro n
  induction n with
  | zero => intro _; rfl
  | succ n ih =>
    intro hn
    simp only [drS]
    rw [dc_k _ (r := (n : Int)) (by omega) k h1 8 (Nat.le_refl _), dg_k _ (r := (n : Int)) (by omega) k h4 3 (Nat.le_refl _)]
    exact ih (by omega)
theorem dr_4 (S : Nat → Int → Int) (p : Int) : ∀ n : Nat, n ≤ 6 → gOf (drS S n 0) 4 p = if (0 ≤ p ∧ p < 3 * (n : Int)) ∧ gOf (S 0) 5 p ≠ 1 then nearZ (gOf (S 0) 11 0) (gOf (S 0) 4 p) (gOf (S 0) 6 (p / 3)) else gOf (S 0) 4 p := by
  intro n
  induction n with
  | zero => intro _; rw [if_neg (by omega)]; rfl
  | succ n ih =>
    intro hn
    have ih := ih (by omega)
    have e5 := dr_k S 5 (by omega) (by omega) n (by omega)
    have e6 := dr_k S 6 (by omega) (by omega) n (by omega)
    have e11 := dr_k S 11 (by omega) (by omega) n (by omega)
    simp only [drS]
    rw [dc_k _ (r := (n : Int)) (by omega) 4 (by omega) 8 (Nat.le_refl _), dg_4 _ (r := (n : Int)) (by omega) p 3 (Nat.le_refl _), e5, e6, e11, ih]
    by_cases c : (3 * (n : Int) ≤ p ∧ p < 3 * (n : Int) + ((3 : Nat) : Int)) ∧ gOf (S 0) 5 p ≠ 1
    · have hp : p / 3 = n := by omega
      rw [if_pos c, if_neg (fun q => by omega), if_pos ⟨by omega, c.2⟩, hp]
    · rw [if_neg c]
      by_cases d : (0 ≤ p ∧ p < 3 * (n : Int)) ∧ gOf (S 0) 5 p ≠ 1
      · rw [if_pos d, if_pos ⟨by omega, d.2⟩]
      · rw [if_neg d, if_neg (fun q => ?_)]
        by_cases e : p < 3 * (n : Int)
        · exact d ⟨⟨q.1.1, e⟩, q.2⟩
        · exact c ⟨by omega, q.2⟩
theorem dr_1 (S : Nat → Int → Int) (p : Int) : ∀ n : Nat, n ≤ 6 → gOf (drS S n 0) 1 p = if 0 ≤ p ∧ p < 8 * (n : Int) then nearZ (gOf (S 0) 11 0) (gOf (S 0) 1 p) (gOf (S 0) 6 (p / 8)) else gOf (S 0) 1 p := by
  intro n
  induction n with
  | zero => intro _; rw [if_neg (by omega)]; rfl
  | succ n ih =>
    intro hn
    have ih := ih (by omega)
    have e6 := dr_k S 6 (by omega) (by omega) n (by omega)
    have e11 := dr_k S 11 (by omega) (by omega) n (by omega)
    simp only [drS]
    rw [dc_1 _ (r := (n : Int)) (by omega) p 8 (Nat.le_refl _), dg_k _ (r := (n : Int)) (by omega) 1 (by omega) 3 (Nat.le_refl _), dg_k _ (r := (n : Int)) (by omega) 6 (by omega) 3 (Nat.le_refl _), dg_k _ (r := (n : Int)) (by omega) 11 (by omega) 3 (Nat.le_refl _), e6, e11, ih]
    by_cases c : 8 * (n : Int) ≤ p ∧ p < 8 * (n : Int) + ((8 : Nat) : Int)
    · have hp : p / 8 = n := by omega
      rw [if_pos c, if_neg (by omega), if_pos (by omega), hp]
    · rw [if_neg c]
      by_cases d : 0 ≤ p ∧ p < 8 * (n : Int)
      · rw [if_pos d, if_pos (by omega)]
      · rw [if_neg d, if_neg (by omega)]
theorem gOf_dr {B : Int} {S : Nat → Int → Int} (hI : InvG B (gOf (S 0))) : gOf (drS S 6 0) = driftZ (gOf (S 0)) := by
  funext k p
  by_cases h1 : k = 1
  · subst h1
    rw [dr_1 S p 6 (Nat.le_refl _)]
    have e : driftZ (gOf (S 0)) 1 p = driftCZ (gOf (S 0)) 48 1 p := congrFun (driftG_k _ 1 (by omega) 18) p
    rw [e, driftC_1]
    rfl
  · by_cases h4 : k = 4
    · subst h4
      rw [dr_4 S p 6 (Nat.le_refl _)]
      unfold driftZ
      rw [driftG_4, driftC_k _ 5 (by omega), driftC_k _ 11 (by omega), driftC_k _ 6 (by omega), driftC_k _ 4 (by omega)]
      by_cases c : 0 ≤ p ∧ p < 18
      · have h5 := invG_5 hI p c.1 c.2
        by_cases z : gOf (S 0) 5 p = 0
        · rw [if_pos ⟨c, by omega⟩, if_pos ⟨c, z⟩]
        · rw [if_neg (fun q => by omega), if_neg (fun q => z q.2)]
      · rw [if_neg (fun q => c q.1), if_neg (fun q => c q.1)]
    · rw [dr_k S k h1 h4 6 (Nat.le_refl _), drift_k _ k h1 h4]
theorem gOf_ds {B : Int} {S : Nat → Int → Int} (hI : InvG B (gOf (S 0))) : gOf (dsS S 0) = tickZ (gOf (S 0)) := by
  have h : gOf (dsS S 0) = upG (gOf (drS S 6 0)) 12 0 (gOf (drS S 6 0) 12 0 + 1) := gOf_up (drS S 6 0) (k := 12) (p := 0) ⟨by decide, by decide⟩
  rw [h, gOf_dr hI]
  rfl
theorem ds_k (S : Nat → Int → Int) (j : Nat) (hj : j ≠ 0) : dsS S j = S j := by
  have hg : ∀ (X : Nat → Int → Int) (r : Int) (n : Nat), dgS X r n j = X j := by
    intro X r n
    induction n with
    | zero => rfl
    | succ n ih => simp only [dgS]; split <;> exact (ly_k _ _ _ _ j hj).trans ih
  have hc : ∀ (X : Nat → Int → Int) (r : Int) (n : Nat), dcS X r n j = X j := by
    intro X r n
    induction n with
    | zero => rfl
    | succ n ih => simp only [dcS]; exact (ly_k _ _ _ _ j hj).trans ih
  have hr : ∀ n : Nat, drS S n j = S j := by
    intro n
    induction n with
    | zero => rfl
    | succ n ih => simp only [drS]; rw [hc, hg, ih]
  unfold dsS upG
  rw [if_neg hj]
  exact hr 6
/-! days -/
def edS (S : Nat → Int → Int) : Nat → (Nat → Int → Int)
  | 0 => dsS S
  | n + 1 => if 0 < gOf (edS S n 0) 11 2 ∧ gOf (edS S n 0) 11 2 ≤ ageZ (gOf (edS S n 0)) n then waS (edS S n) n else edS S n
def edL (S : Nat → Int → Int) : Nat → Int
  | 0 => 0
  | n + 1 => if 0 < gOf (edS S n 0) 11 2 ∧ gOf (edS S n 0) 11 2 ≤ ageZ (gOf (edS S n 0)) n then edL S n + wrongZ (gOf (edS S n 0)) n else edL S n
theorem edL_bd (S : Nat → Int → Int) : ∀ n : Nat, 0 ≤ edL S n ∧ edL S n ≤ 8 * n := by
  intro n
  induction n with
  | zero => exact ⟨Int.le_refl _, Int.le_refl _⟩
  | succ n ih =>
    have h := wrongZ_bd (gOf (edS S n 0)) n
    simp only [edL]
    split <;> omega
theorem gOf_ed {B : Int} {S : Nat → Int → Int} (hI : InvG B (gOf (S 0))) (hB : B + 6 ≤ 100000000) (hd : gOf (S 0) 12 0 + 1 ≤ 10000000) : ∀ n : Nat, n ≤ 6 → gOf (edS S n 0) = dayStZ (tickZ (gOf (S 0))) n ∧ edL S n = dayLostZ (tickZ (gOf (S 0))) n := by
  have ht := tick_inv hI (by rw [drift_12]; exact hd)
  intro n
  induction n with
  | zero => intro _; exact ⟨gOf_ds hI, rfl⟩
  | succ n ih =>
    intro hn
    obtain ⟨e1, e2⟩ := ih (by omega)
    have hi := dayRow_inv ht hB n (by omega)
    simp only [edS, edL, dayStZ, dayLostZ]
    rw [e1, e2]
    by_cases c : 0 < dayStZ (tickZ (gOf (S 0))) n 11 2 ∧ dayStZ (tickZ (gOf (S 0))) n 11 2 ≤ ageZ (dayStZ (tickZ (gOf (S 0))) n) n
    · rw [if_pos c, if_pos c, if_pos c, if_pos c]
      refine ⟨?_, by rw [lostAnew_eq]⟩
      rw [gOf_wa (S := edS S n) (by rw [e1]; exact hi) (by omega) (r := (n : Int)) (by omega), e1]
    · rw [if_neg c, if_neg c, if_neg c, if_neg c]
      exact ⟨e1, rfl⟩
theorem inv_ed {B : Int} {S : Nat → Int → Int} (hI : InvG B (gOf (S 0))) (hB : B + 6 ≤ 100000000) (hd : gOf (S 0) 12 0 + 1 ≤ 10000000) (n : Nat) (hn : n ≤ 6) : InvG (B + n) (gOf (edS S n 0)) := by
  rw [(gOf_ed hI hB hd n hn).1]
  exact dayRow_inv (tick_inv hI (by rw [drift_12]; exact hd)) hB n hn
theorem ed_k (S : Nat → Int → Int) (j : Nat) (hj : j ≠ 0) : ∀ n : Nat, edS S n j = S j := by
  intro n
  induction n with
  | zero => exact ds_k S j hj
  | succ n ih => simp only [edS]; split; · exact (wa_k _ _ j hj).trans ih
                 · exact ih
def esS (S : Nat → Int → Int) : Nat → (Nat → Int → Int)
  | 0 => S
  | n + 1 => edS (esS S n) 6
def esL (S : Nat → Int → Int) : Nat → Int
  | 0 => 0
  | n + 1 => esL S n + edL (esS S n) 6
theorem esL_bd (S : Nat → Int → Int) : ∀ n : Nat, 0 ≤ esL S n ∧ esL S n ≤ 48 * n := by
  intro n
  induction n with
  | zero => exact ⟨Int.le_refl _, Int.le_refl _⟩
  | succ n ih =>
    have h := edL_bd (esS S n) 6
    simp only [esL]
    omega
theorem gOf_es {B : Int} {S : Nat → Int → Int} (hI : InvG B (gOf (S 0))) : ∀ n : Nat, B + 6 * n ≤ 100000000 → gOf (S 0) 12 0 + n ≤ 10000000 → gOf (esS S n 0) = daysStZ (gOf (S 0)) n ∧ esL S n = daysLostZ (gOf (S 0)) n := by
  intro n
  induction n with
  | zero => intro _ _; exact ⟨rfl, rfl⟩
  | succ n ih =>
    intro hB hd
    obtain ⟨e1, e2⟩ := ih (by omega) (by omega)
    have hi := days_inv hI n (by omega) (by omega)
    have h := gOf_ed (S := esS S n) (by rw [e1]; exact hi) (by omega) (by rw [e1, days_12]; omega) 6 (Nat.le_refl _)
    simp only [esS, esL, daysStZ, daysLostZ]
    rw [h.1, h.2, e1, e2]
    exact ⟨rfl, rfl⟩
theorem inv_es {B : Int} {S : Nat → Int → Int} (hI : InvG B (gOf (S 0))) (n : Nat) (hB : B + 6 * n ≤ 100000000) (hd : gOf (S 0) 12 0 + n ≤ 10000000) : InvG (B + 6 * n) (gOf (esS S n 0)) := by
  rw [(gOf_es hI n hB hd).1]; exact days_inv hI n hB hd
theorem es_12 {B : Int} {S : Nat → Int → Int} (hI : InvG B (gOf (S 0))) (n : Nat) (hB : B + 6 * n ≤ 100000000) (hd : gOf (S 0) 12 0 + n ≤ 10000000) : gOf (esS S n 0) 12 0 = gOf (S 0) 12 0 + n := by
  rw [(gOf_es hI n hB hd).1, days_12]
theorem es_k (S : Nat → Int → Int) (j : Nat) (hj : j ≠ 0) : ∀ n : Nat, esS S n j = S j := by
  intro n
  induction n with
  | zero => rfl
  | succ n ih => exact (ed_k _ j hj 6).trans ih
