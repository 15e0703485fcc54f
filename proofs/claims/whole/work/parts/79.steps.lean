theorem ref_dg {S : Nat → Int → Int} {r : Int} (hr : 0 ≤ r ∧ r < 6) (h : RefI (S 0)) : ∀ n : Nat, n ≤ 3 → RefI (dgS S r n 0) := by
  intro n
  induction n with
  | zero => intro _; exact h
  | succ n ih =>
    intro hn
    have h4 : 0 ≤ 3 * r + (n : Int) ∧ 3 * r + (n : Int) < lenZ 4 := by rw [show lenZ 4 = 18 from rfl]; omega
    have g := ih (by omega)
    simp only [dgS]
    split
    · exact ref_ly _ h4 (by decide) (by decide) (by decide) (by decide) g
    · exact ref_ly _ h4 (by decide) (by decide) (by decide) (by decide) g
theorem ref_dc {S : Nat → Int → Int} {r : Int} (hr : 0 ≤ r ∧ r < 6) (h : RefI (S 0)) : ∀ n : Nat, n ≤ 8 → RefI (dcS S r n 0) := by
  intro n
  induction n with
  | zero => intro _; exact h
  | succ n ih =>
    intro hn
    have h1 : 0 ≤ 8 * r + (n : Int) ∧ 8 * r + (n : Int) < lenZ 1 := by rw [len48 1 (by omega)]; omega
    simp only [dcS]
    exact ref_ly _ h1 (by decide) (by decide) (by decide) (by decide) (ih (by omega))
theorem ref_dr {S : Nat → Int → Int} (h : RefI (S 0)) : ∀ n : Nat, n ≤ 6 → RefI (drS S n 0) := by
  intro n
  induction n with
  | zero => intro _; exact h
  | succ n ih =>
    intro hn
    simp only [drS]
    exact ref_dc (by omega) (ref_dg (by omega) (ih (by omega)) 3 (Nat.le_refl _)) 8 (Nat.le_refl _)
theorem ref_ds {S : Nat → Int → Int} (h : RefI (S 0)) : RefI (dsS S 0) :=
  ref_ly (S := drS S 6) (k := 12) (p := 0) _ ⟨by decide, by decide⟩ (by decide) (by decide) (by decide) (by decide) (ref_dr h 6 (Nat.le_refl _))
theorem ref_ed {S : Nat → Int → Int} (h : RefI (S 0)) : ∀ n : Nat, n ≤ 6 → RefI (edS S n 0) := by
  intro n
  induction n with
  | zero => intro _; exact ref_ds h
  | succ n ih =>
    intro hn
    simp only [edS]
    split
    · exact ref_wa (by omega) (ih (by omega))
    · exact ih (by omega)
theorem es_def (S : Nat → Int → Int) (n : Nat) : esS S (n + 1) = edS (esS S n) 6 := by simp only [esS]
theorem ref_es {S : Nat → Int → Int} (h : RefI (S 0)) : ∀ n : Nat, RefI (esS S n 0) := by
  intro n
  induction n with
  | zero => exact h
  | succ n ih => rw [es_def]; exact ref_ed ih 6 (Nat.le_refl _)
/-! what stays of a grid -/
theorem wordSt_k (G : Nat → Int → Int) (r w : Int) (k : Nat) (h : 4 ≤ k) : ∀ n : Nat, wordStZ G r w n k = G k := by
  intro n
  induction n with
  | zero => rfl
  | succ n ih => exact (put_k k h).trans ih
theorem days_k (G : Nat → Int → Int) (k : Nat) (h : 10 ≤ k) (h12 : k ≠ 12) : ∀ n : Nat, daysStZ G n k = G k := by
  intro n
  induction n with
  | zero => rfl
  | succ n ih =>
    have e : endDayZ (daysStZ G n) k = daysStZ G n k := by
      unfold endDayZ
      rw [daySt_k _ k h]
      unfold tickZ upG
      rw [if_neg h12]
      exact drift_k _ k (by omega) (by omega)
    exact e.trans ih
def Sm (k : Nat) (G : Nat → Int → Int) : Prop := G 12 0 ≤ 9999 ∧ sumZ 9 (G 10) ≤ k
theorem sm_of {k : Nat} {G G' : Nat → Int → Int} (h : Sm k G) (e12 : G' 12 = G 12) (e10 : G' 10 = G 10) : Sm (k + 1) G' := by
  unfold Sm at h ⊢
  rw [e12, e10]
  omega
theorem sm_up {k : Nat} {G : Nat → Int → Int} (h : Sm k G) : Sm (k + 1) G := sm_of h rfl rfl
theorem wl_s {k : Nat} {G : Nat → Int → Int} (h : Sm k G) (r c v : Int) : Sm (k + 1) (wlG G r c v) := by
  unfold wlG; split
  · exact sm_of h (put_k 12 (by omega)) (put_k 10 (by omega))
  · exact sm_up h
theorem ww_s {k : Nat} {G : Nat → Int → Int} (h : Sm k G) (r w : Int) : Sm (k + 1) (wwG G r w) := by
  unfold wwG; split
  · exact sm_of h (wordSt_k G r w 12 (by omega) 8) (wordSt_k G r w 10 (by omega) 8)
  · exact sm_up h
theorem wa_s {k : Nat} {G : Nat → Int → Int} (h : Sm k G) (r : Int) : Sm (k + 1) (waG G r) := by
  unfold waG; split
  · exact sm_of h (writeAnew_k G r 12 (by omega)) (writeAnew_k G r 10 (by omega))
  · exact sm_up h
theorem ac_s {k : Nat} {B : Int} {G : Nat → Int → Int} (hI : InvG B G) (h : Sm k G) (r c : Int) : Sm (k + 1) (acG G r c) := by
  unfold acG; split
  · rename_i hv
    have h0 := invG_0 hI (8 * r + c) (by omega) (by omega)
    have h1 := told_bd G r c
    unfold Sm at h ⊢
    have e : askZ G r c 10 = upI (G 10) (3 * G 0 (8 * r + c) + toldZ G r c) (G 10 (3 * G 0 (8 * r + c) + toldZ G r c) + 1) := rfl
    rw [e, sum_up _ _ _ 9 (by omega) (by omega)]
    show G 12 0 ≤ 9999 ∧ _
    omega
  · exact sm_up h
theorem fg_s {k : Nat} {G : Nat → Int → Int} (h : Sm k G) (r g v : Int) : Sm (k + 1) (fgG G r g v) := by
  unfold fgG; repeat' split
  · exact sm_of h rfl rfl
  · exact sm_up h
  · exact sm_up h
theorem mg_s {k : Nat} {G : Nat → Int → Int} (h : Sm k G) (r g : Int) : Sm (k + 1) (mgG G r g) := by
  unfold mgG; repeat' split
  · exact sm_up h
  · exact sm_of h rfl rfl
  · exact sm_up h
theorem cr_s {k : Nat} {G : Nat → Int → Int} (h : Sm k G) (r v : Int) : Sm (k + 1) (crG G r v) := by
  unfold crG; split
  · exact sm_of h rfl rfl
  · exact sm_up h
theorem pd_s {k : Nat} {G : Nat → Int → Int} (h : Sm k G) (n : Int) : Sm (k + 1) (pdG G n 9999) := by
  unfold pdG; repeat' split
  · exact sm_up h
  · unfold Sm at h ⊢
    rw [days_12, days_k G 10 (by omega) (by omega)]
    omega
  · exact sm_up h
theorem cs_s {k : Nat} {G : Nat → Int → Int} (h : Sm k G) (w v : Int) : Sm (k + 1) (csG G w v) := by
  unfold csG; split
  · exact sm_of h rfl rfl
  · exact sm_up h
/-- as before, but the table stays -/
theorem do_s {G : Nat → Int → Int} (h : G 12 0 ≤ 9999) (k a b d : Int) : doG G k a b d 12 0 ≤ 9999 ∧ doG G k a b d 10 = G 10 := by
  unfold doG
  split
  · unfold waG; split
    · rw [writeAnew_k G a 12 (by omega), writeAnew_k G a 10 (by omega)]; exact ⟨h, rfl⟩
    · exact ⟨h, rfl⟩
  · split
    · unfold pdG; repeat' split
      · exact ⟨h, rfl⟩
      · rw [days_12, days_k G 10 (by omega) (by omega)]; exact ⟨by omega, rfl⟩
      · exact ⟨h, rfl⟩
    · split
      · unfold fgG; repeat' split
        all_goals exact ⟨h, rfl⟩
      · split
        · unfold mgG; repeat' split
          all_goals exact ⟨h, rfl⟩
        · split
          · unfold crG; split
            all_goals exact ⟨h, rfl⟩
          · split
            · unfold wlG; split
              · rw [put_k 12 (by omega), put_k 10 (by omega)]; exact ⟨h, rfl⟩
              · exact ⟨h, rfl⟩
            · exact ⟨h, rfl⟩
theorem Gd_mk {k : Nat} {s s' : Int → Int} {G G' : Nat → Int → Int} (h : Gd k s G) (e : gOf s' = G') (hi : InvG (1 + 36000 * (k : Int) + 594) G') (hr : RefI s') (hs : Sm (k + 1) G') (hk : k < 600) : Gd (k + 1) s' G' :=
  ⟨e, invG_mono hi (by omega) (by omega), hr, hs.1, hs.2⟩
theorem Rel_ok {k : Nat} {F T : Nat → Int → Int} {Gs : Nat → Nat → Int → Int} {S S' : Nat → Int → Int} {V : Int} {G' : Nat → Int → Int} (h : Rel k F T Gs S) (hk : k < 600) (hv : 0 ≤ V) (hg : Gd (k + 1) (S' 0) G') (hj : ∀ j : Nat, j ≠ 0 → S' j = recS S j) : Rel (k + 1) (rcxF V F) T (rcxP V (F 4 0) (upS (upS Gs 1 (Gs 0)) 0 G')) S' := by
  have d := h.2.2.2
  refine Rel_rec h hk hv hg rfl (fun i => ?_) rfl (hj 3 (by decide)) (hj 4 (by decide)) ?_
  · unfold upS; rw [if_neg (by omega), if_neg (by omega)]
  · refine ⟨?_, ?_, d.2.2.1, d.2.2.2.1, ?_⟩
    · rw [hj 5 (by decide), rec_k S 5 (by decide) (by decide)]; exact d.1
    · rw [hj 6 (by decide), rec_k S 6 (by decide) (by decide)]; exact d.2.1
    · have := d.2.2.2.2
      unfold InvK at this ⊢
      rw [hj 11 (by decide), rec_k S 11 (by decide) (by decide)]
      exact this
theorem Rel_err {k : Nat} {F T : Nat → Int → Int} {Gs : Nat → Nat → Int → Int} {S : Nat → Int → Int} {V : Int} {G' : Nat → Int → Int} (h : Rel k F T Gs S) (hk : k < 600) (hv : V < 0) (hg : G' = Gs 0) : Rel (k + 1) (rcxF V F) T (rcxP V (F 4 0) (upS (upS Gs 1 (Gs 0)) 0 G')) S := by
  subst hg
  rw [rcx_bad _ hv, show rcxF V F = F from if_pos hv]
  refine Rel_same h hk rfl (fun i => ?_) rfl rfl rfl rfl h.2.2.2
  unfold upS; rw [if_neg (by omega), if_neg (by omega)]
theorem Rel_id {k : Nat} {F T : Nat → Int → Int} {Gs : Nat → Nat → Int → Int} {S : Nat → Int → Int} (h : Rel k F T Gs S) (hk : k < 600) : Rel (k + 1) F T Gs S := Rel_same h hk rfl (fun _ => rfl) rfl rfl rfl rfl h.2.2.2
theorem Rel_tr {k : Nat} {F T : Nat → Int → Int} {Gs : Nat → Nat → Int → Int} {S : Nat → Int → Int} {X : Nat → Int → Int} (h : Rel k F T Gs S) (hk : k < 600) (S' : Nat → Int → Int) (hj : ∀ j : Nat, j ≠ 1 → j ≠ 2 → S' j = S j) : Rel (k + 1) F T (upS Gs 2 X) S' := by
  refine Rel_same h hk rfl (fun i => ?_) rfl (hj 0 (by decide) (by decide)) (hj 3 (by decide) (by decide)) (hj 4 (by decide) (by decide)) ?_
  · unfold upS; rw [if_neg (by omega)]
  · have d := h.2.2.2
    refine ⟨?_, ?_, d.2.2.1, d.2.2.2.1, ?_⟩
    · rw [hj 5 (by decide) (by decide)]; exact d.1
    · rw [hj 6 (by decide) (by decide)]; exact d.2.1
    · have := d.2.2.2.2
      unfold InvK at this ⊢
      rw [hj 11 (by decide) (by decide)]
      exact this
