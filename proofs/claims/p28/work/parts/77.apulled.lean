/-! pure rows of whole that serve here -/
def aheadZ (G : Nat → Int → Int) (r : Int) (n : Nat) : Int := sumZ n (fun k => if wrongZ G r < wrongZ G k ∨ (wrongZ G k = wrongZ G r ∧ k < r) then 1 else 0)
/-- the sums that the reference keeps, when its row changes -/
theorem sum_cong {f g : Int → Int} : ∀ n : Nat, (∀ p : Int, 0 ≤ p → p < n → f p = g p) → sumZ n f = sumZ n g := by
  intro n
  induction n with
  | zero => intro _; rfl
  | succ n ih =>
    intro h
    show sumZ n f + f n = sumZ n g + g n
    rw [ih (fun p h0 h1 => h p h0 (by omega)), h n (by omega) (by omega)]
theorem sum_up (f : Int → Int) (z v : Int) : ∀ n : Nat, 0 ≤ z → z < n → sumZ n (upI f z v) = sumZ n f + (v - f z) := by
  intro n
  induction n with
  | zero => intro h0 h1; omega
  | succ n ih =>
    intro h0 h1
    show sumZ n (upI f z v) + upI f z v n = sumZ n f + f n + (v - f z)
    by_cases e : z = n
    · subst e
      rw [upI_s, sum_cong (g := f) n (fun p h0 h1 => upI_n (by omega))]
      omega
    · rw [ih h0 (by omega), upI_n (Ne.symm e)]
      omega

/-! what stays of a grid -/
theorem wordSt_k (G : Nat → Int → Int) (r w : Int) (k : Nat) (h : 4 ≤ k) : ∀ n : Nat, wordStZ G r w n k = G k := by
  intro n
  induction n with
  | zero => rfl
  | succ n ih => exact (put_k k h).trans ih
theorem days_k (G : Nat → Int → Int) (k : Nat) (h : 10 ≤ k) (h12 : k ≠ 12) : ∀ n : Nat, daysStZ G n k = G k := by
  intro n
  induction n with
  | zero => rfl
  | succ n ih =>
    have e : endDayZ (daysStZ G n) k = daysStZ G n k := by
      unfold endDayZ
      rw [daySt_k _ k h]
      unfold tickZ upG
      rw [if_neg h12]
      exact drift_k _ k (by omega) (by omega)
    exact e.trans ih
def Sm (k : Nat) (G : Nat → Int → Int) : Prop := G 12 0 ≤ 9999 ∧ sumZ 9 (G 10) ≤ k
theorem sm_of {k : Nat} {G G' : Nat → Int → Int} (h : Sm k G) (e12 : G' 12 = G 12) (e10 : G' 10 = G 10) : Sm (k + 1) G' := by
  unfold Sm at h ⊢
  rw [e12, e10]
  omega
theorem sm_up {k : Nat} {G : Nat → Int → Int} (h : Sm k G) : Sm (k + 1) G := sm_of h rfl rfl
theorem wl_s {k : Nat} {G : Nat → Int → Int} (h : Sm k G) (r c v : Int) : Sm (k + 1) (wlG G r c v) := by
  unfold wlG; split
  · exact sm_of h (put_k 12 (by omega)) (put_k 10 (by omega))
  · exact sm_up h
theorem ww_s {k : Nat} {G : Nat → Int → Int} (h : Sm k G) (r w : Int) : Sm (k + 1) (wwG G r w) := by
  unfold wwG; split
  · exact sm_of h (wordSt_k G r w 12 (by omega) 8) (wordSt_k G r w 10 (by omega) 8)
  · exact sm_up h
theorem wa_s {k : Nat} {G : Nat → Int → Int} (h : Sm k G) (r : Int) : Sm (k + 1) (waG G r) := by
  unfold waG; split
  · exact sm_of h (writeAnew_k G r 12 (by omega)) (writeAnew_k G r 10 (by omega))
  · exact sm_up h
theorem ac_s {k : Nat} {B : Int} {G : Nat → Int → Int} (hI : InvG B G) (h : Sm k G) (r c : Int) : Sm (k + 1) (acG G r c) := by
  unfold acG; split
  · rename_i hv
    have h0 := invG_0 hI (8 * r + c) (by omega) (by omega)
    have h1 := told_bd G r c
    unfold Sm at h ⊢
    have e : askZ G r c 10 = upI (G 10) (3 * G 0 (8 * r + c) + toldZ G r c) (G 10 (3 * G 0 (8 * r + c) + toldZ G r c) + 1) := rfl
    rw [e, sum_up _ _ _ 9 (by omega) (by omega)]
    show G 12 0 ≤ 9999 ∧ _
    omega
  · exact sm_up h
theorem fg_s {k : Nat} {G : Nat → Int → Int} (h : Sm k G) (r g v : Int) : Sm (k + 1) (fgG G r g v) := by
  unfold fgG; repeat' split
  · exact sm_of h rfl rfl
  · exact sm_up h
  · exact sm_up h
theorem mg_s {k : Nat} {G : Nat → Int → Int} (h : Sm k G) (r g : Int) : Sm (k + 1) (mgG G r g) := by
  unfold mgG; repeat' split
  · exact sm_up h
  · exact sm_of h rfl rfl
  · exact sm_up h
theorem cr_s {k : Nat} {G : Nat → Int → Int} (h : Sm k G) (r v : Int) : Sm (k + 1) (crG G r v) := by
  unfold crG; split
  · exact sm_of h rfl rfl
  · exact sm_up h
theorem pd_s {k : Nat} {G : Nat → Int → Int} (h : Sm k G) (n : Int) : Sm (k + 1) (pdG G n 9999) := by
  unfold pdG; repeat' split
  · exact sm_up h
  · unfold Sm at h ⊢
    rw [days_12, days_k G 10 (by omega) (by omega)]
    omega
  · exact sm_up h
theorem cs_s {k : Nat} {G : Nat → Int → Int} (h : Sm k G) (w v : Int) : Sm (k + 1) (csG G w v) := by
  unfold csG; split
  · exact sm_of h rfl rfl
  · exact sm_up h
/-- as before, but the table stays -/
theorem do_s {G : Nat → Int → Int} (h : G 12 0 ≤ 9999) (k a b d : Int) : doG G k a b d 12 0 ≤ 9999 ∧ doG G k a b d 10 = G 10 := by
  unfold doG
  split
  · unfold waG; split
    · rw [writeAnew_k G a 12 (by omega), writeAnew_k G a 10 (by omega)]; exact ⟨h, rfl⟩
    · exact ⟨h, rfl⟩
  · split
    · unfold pdG; repeat' split
      · exact ⟨h, rfl⟩
      · rw [days_12, days_k G 10 (by omega) (by omega)]; exact ⟨by omega, rfl⟩
      · exact ⟨h, rfl⟩
    · split
      · unfold fgG; repeat' split
        all_goals exact ⟨h, rfl⟩
      · split
        · unfold mgG; repeat' split
          all_goals exact ⟨h, rfl⟩
        · split
          · unfold crG; split
            all_goals exact ⟨h, rfl⟩
          · split
            · unfold wlG; split
              · rw [put_k 12 (by omega), put_k 10 (by omega)]; exact ⟨h, rfl⟩
              · exact ⟨h, rfl⟩
            · exact ⟨h, rfl⟩
/-! the row at a rank: the best of those not taken, again and again -/
def keyZ (G : Nat → Int → Int) (r : Int) : Int := 6 * wrongZ G r + (5 - r)
theorem ahead_key (G : Nat → Int → Int) {r k : Int} (hr : 0 ≤ r ∧ r < 6) (hk : 0 ≤ k ∧ k < 6) : (wrongZ G r < wrongZ G k ∨ (wrongZ G k = wrongZ G r ∧ k < r)) ↔ keyZ G r < keyZ G k := by
  unfold keyZ
  omega
theorem wb_none {G : Nat → Int → Int} {t : Int} : ∀ n : Nat, (∀ k : Nat, k < n → bitZ t k ≠ 0) → wbZ G t n = (0, -1) := by
  intro n
  induction n with
  | zero => intro _; rfl
  | succ n ih =>
    intro h
    show (if bitZ t n = 0 ∧ (wbZ G t n).2 < wrongZ G n then ((n : Int), wrongZ G n) else wbZ G t n) = _
    rw [if_neg (fun q => h n (by omega) q.1)]
    exact ih (fun k hk => h k (by omega))
theorem wb_spec {G : Nat → Int → Int} {t : Int} : ∀ n : Nat, n ≤ 6 → (∃ k : Nat, k < n ∧ bitZ t k = 0) → ∃ f : Nat, f < n ∧ bitZ t f = 0 ∧ wbZ G t n = ((f : Int), wrongZ G f) ∧ ∀ k : Nat, k < n → bitZ t k = 0 → keyZ G k ≤ keyZ G f := by
  intro n
  induction n with
  | zero => intro _ h; obtain ⟨k, hk, _⟩ := h; omega
  | succ n ih =>
    intro hn h
    have e : wbZ G t (n + 1) = if bitZ t n = 0 ∧ (wbZ G t n).2 < wrongZ G n then ((n : Int), wrongZ G n) else wbZ G t n := rfl
    by_cases h2 : ∃ k : Nat, k < n ∧ bitZ t k = 0
    · obtain ⟨f, f1, f2, f3, f4⟩ := ih (by omega) h2
      by_cases c : bitZ t n = 0 ∧ (wbZ G t n).2 < wrongZ G n
      · refine ⟨n, by omega, c.1, by rw [e, if_pos c], fun k hk hb => ?_⟩
        rw [f3] at c
        have c2 : wrongZ G f < wrongZ G n := c.2
        by_cases hkn : k = n
        · subst hkn; exact Int.le_refl _
        · have h4 := f4 k (by omega) hb
          unfold keyZ at h4 ⊢
          omega
      · refine ⟨f, by omega, f2, by rw [e, if_neg c]; exact f3, fun k hk hb => ?_⟩
        by_cases hkn : k = n
        · subst hkn
          have c2 : ¬ (wrongZ G f < wrongZ G k) := fun q => c ⟨hb, by rw [f3]; exact q⟩
          unfold keyZ
          omega
        · exact f4 k (by omega) hb
    · have hb : bitZ t n = 0 := by
        obtain ⟨k, hk, hb⟩ := h
        by_cases hkn : k = n
        · rw [← hkn]; exact hb
        · exact absurd ⟨k, by omega, hb⟩ h2
      have e2 : wbZ G t n = (0, -1) := wb_none n (fun k hk q => h2 ⟨k, hk, q⟩)
      have hw := wrongZ_bd G n
      refine ⟨n, by omega, hb, by rw [e, e2, if_pos ⟨hb, by show (-1 : Int) < _; omega⟩], fun k hk hb2 => ?_⟩
      by_cases hkn : k = n
      · subst hkn; exact Int.le_refl _
      · exact absurd ⟨k, by omega, hb2⟩ h2
theorem bor_bits : ∀ f : Nat, f < 6 → ∀ a : Nat, a < 64 → bitZ (a : Int) f = 0 → ∀ k : Nat, k < 6 → bitZ (borZ (a : Int) f) k = if k = f then 1 else bitZ (a : Int) k := by decide +kernel
theorem bor_bit {a : Int} (ha : 0 ≤ a ∧ a < 64) {f : Nat} (hf : f < 6) (h : bitZ a f = 0) {k : Nat} (hk : k < 6) : bitZ (borZ a f) k = if k = f then 1 else bitZ a k := by
  have h2 := bor_bits f hf a.toNat (by omega)
  rw [show ((a.toNat : Nat) : Int) = a by omega] at h2
  exact h2 h k hk
def sumN (n : Nat) (f : Nat → Int) : Int := sumZ n (fun p => f p.toNat)
theorem sumN_6 (f : Nat → Int) : sumN 6 f = f 0 + f 1 + f 2 + f 3 + f 4 + f 5 := by
  have e : sumN 6 f = 0 + f 0 + f 1 + f 2 + f 3 + f 4 + f 5 := rfl
  rw [e]; omega
theorem ahead_6 (G : Nat → Int → Int) (r : Nat) (hr : r < 6) : aheadZ G r 6 = sumN 6 (fun k => if keyZ G r < keyZ G k then 1 else 0) := by
  unfold aheadZ sumN
  refine sum_cong 6 (fun p h0 h1 => ?_)
  show (if wrongZ G r < wrongZ G p ∨ (wrongZ G p = wrongZ G r ∧ p < r) then (1 : Int) else 0) = if keyZ G r < keyZ G ((p.toNat : Nat) : Int) then 1 else 0
  rw [show ((p.toNat : Nat) : Int) = p by omega]
  have h := ahead_key G (r := (r : Int)) (k := p) (by omega) (by omega)
  by_cases c : keyZ G r < keyZ G p
  · rw [if_pos c, if_pos (h.mpr c)]
  · rw [if_neg c, if_neg (fun q => c (h.mp q))]
/-- what stands after i turns -/
def Wi (G : Nat → Int → Int) (i : Nat) : Prop := (0 ≤ (wsZ G i).1 ∧ (wsZ G i).1 < 64) ∧ sumN 6 (fun k => bitZ (wsZ G i).1 k) = i ∧ ∀ a b : Nat, a < 6 → b < 6 → bitZ (wsZ G i).1 a ≠ 0 → bitZ (wsZ G i).1 b = 0 → keyZ G b < keyZ G a
theorem key_ne (G : Nat → Int → Int) {a b : Nat} (ha : a < 6) (hb : b < 6) (h : a ≠ b) : keyZ G a ≠ keyZ G b := by
  unfold keyZ; omega
theorem ws_turn {G : Nat → Int → Int} {i : Nat} (hi : i < 6) (h : Wi G i) : ∃ f : Nat, f < 6 ∧ (wsZ G (i + 1)).2 = (f : Int) ∧ aheadZ G f 6 = i ∧ Wi G (i + 1) := by
  obtain ⟨h1, h2, h3⟩ := h
  have hex : ∃ k : Nat, k < 6 ∧ bitZ (wsZ G i).1 k = 0 := by
    rw [sumN_6] at h2
    have b0 := bitZ_01 (wsZ G i).1 0
    have b1 := bitZ_01 (wsZ G i).1 1
    have b2 := bitZ_01 (wsZ G i).1 2
    have b3 := bitZ_01 (wsZ G i).1 3
    have b4 := bitZ_01 (wsZ G i).1 4
    have b5 := bitZ_01 (wsZ G i).1 5
    by_cases c0 : bitZ (wsZ G i).1 0 = 0
    · exact ⟨0, by omega, c0⟩
    · by_cases c1 : bitZ (wsZ G i).1 1 = 0
      · exact ⟨1, by omega, c1⟩
      · by_cases c2 : bitZ (wsZ G i).1 2 = 0
        · exact ⟨2, by omega, c2⟩
        · by_cases c3 : bitZ (wsZ G i).1 3 = 0
          · exact ⟨3, by omega, c3⟩
          · by_cases c4 : bitZ (wsZ G i).1 4 = 0
            · exact ⟨4, by omega, c4⟩
            · exact ⟨5, by omega, by omega⟩
  obtain ⟨f, f1, f2, f3, f4⟩ := wb_spec (G := G) (t := (wsZ G i).1) 6 (by omega) hex
  have e2 : (wsZ G (i + 1)).2 = (f : Int) := by rw [ws_2, f3]
  have e1 : (wsZ G (i + 1)).1 = borZ (wsZ G i).1 f := by rw [ws_1, f3]; rfl
  have hbit : ∀ k : Nat, k < 6 → bitZ (borZ (wsZ G i).1 f) k = if k = f then 1 else bitZ (wsZ G i).1 k := fun k hk => bor_bit h1 f1 f2 hk
  have hbd := bor_bd (a := (wsZ G i).1) (f := (f : Int)) (by omega) h1
  rw [show ((f : Int)).toNat = f by omega] at hbd
  refine ⟨f, f1, e2, ?_, ?_⟩
  · rw [ahead_6 G f f1]
    have e : ∀ k : Nat, k < 6 → (if keyZ G f < keyZ G k then (1 : Int) else 0) = bitZ (wsZ G i).1 k := fun k hk => by
      have b := bitZ_01 (wsZ G i).1 k
      by_cases c : bitZ (wsZ G i).1 k = 0
      · have := f4 k hk c
        rw [if_neg (by omega), c]
      · have := h3 k f hk f1 c f2
        rw [if_pos this]; omega
    rw [sumN_6] at h2 ⊢
    rw [e 0 (by omega), e 1 (by omega), e 2 (by omega), e 3 (by omega), e 4 (by omega), e 5 (by omega)]
    exact h2
  · unfold Wi
    rw [e1]
    refine ⟨hbd, ?_, fun a b ha hb p q => ?_⟩
    · rw [sumN_6] at h2 ⊢
      rw [hbit 0 (by omega), hbit 1 (by omega), hbit 2 (by omega), hbit 3 (by omega), hbit 4 (by omega), hbit 5 (by omega)]
      rcases (show f = 0 ∨ f = 1 ∨ f = 2 ∨ f = 3 ∨ f = 4 ∨ f = 5 by omega) with e | e | e | e | e | e <;> subst e <;> simp at h2 ⊢ <;> omega
    · rw [hbit a ha] at p
      rw [hbit b hb] at q
      by_cases cb : b = f
      · rw [if_pos cb] at q; omega
      · rw [if_neg cb] at q
        by_cases ca : a = f
        · subst ca
          have h5 := f4 b hb q
          have h6 := key_ne G ha hb (fun w => cb w.symm)
          omega
        · rw [if_neg ca] at p
          exact h3 a b ha hb p q
theorem Wi_all (G : Nat → Int → Int) : ∀ i : Nat, i ≤ 6 → Wi G i := by
  intro i
  induction i with
  | zero =>
    intro _
    refine ⟨⟨(by decide : (0 : Int) ≤ 0), (by decide : (0 : Int) < 64)⟩, by show sumN 6 (fun k => bitZ 0 k) = ((0 : Nat) : Int); decide +kernel, fun a b ha hb p q => ?_⟩
    have e : ∀ k : Nat, k < 6 → bitZ 0 k = 0 := by decide +kernel
    exact absurd (e a ha) p
  | succ i ih =>
    intro hi
    obtain ⟨f, _, _, _, h⟩ := ws_turn (by omega) (ih (by omega))
    exact h
/-! a contract holds with more room -/
theorem mw_room {l : Launch} {D : va_G} {y : MethodName} {ws : List Cond} {rm rm' : Room} {tys : List (ClassId × FieldType)} {av : List Value} {w w' : va_W} {r : Option Value} (h : MW l D y ws rm tys av w w' r) (h1 : rm.frames ≤ rm'.frames) (h2 : rm.cells ≤ rm'.cells) (h3 : rm.slots ≤ rm'.slots) (h4 : rm.locals ≤ rm'.locals) : MW l D y ws rm' tys av w w' r := by
  intro sz p e ha hc hk s m args below hf happ hP hK
  refine h sz p e ha hc hk s m args below hf ?_ hP hK
  rw [Spec.appliesLoose_iff hf] at happ ⊢
  obtain ⟨a1, a2, a3, a4, a5, a6, a7, a8⟩ := happ
  refine ⟨a1, a2, a3, a4, a5, a6, ?_, a8⟩
  have g1 : (headSpec ws rm).room = rm := rfl
  have g2 : (headSpec ws rm').room = rm' := rfl
  rw [g2] at a7
  rw [g1]
  unfold State.hasRoom at a7 ⊢
  simp only [Bool.and_eq_true, decide_eq_true_eq] at a7 ⊢
  refine ⟨?_, a7.2⟩
  have a7 := a7.1
  refine ⟨⟨⟨?_, ?_⟩, ?_⟩, ?_⟩
  · omega
  · omega
  · omega
  · omega

