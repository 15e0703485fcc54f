/-! bounds of what a change answers, and that a grid stays one, for any arguments -/
theorem wl_v {B : Int} {G : Nat → Int → Int} (hI : InvG B G) (hB : B + 1 ≤ 100000000) (r c v : Int) : -1000003 ≤ wlV G r c v ∧ wlV G r c v ≤ 100000 := by
  unfold wlV
  split
  · rename_i h
    have h2 := invG_2 hI (8 * r + c) (by omega) (by omega)
    have h1 := invG_1 (inv_put (invG_mono hI (B' := B + 1) (by omega) (by omega)) (p := 8 * r + c) (v := v) (by omega) (by omega) (by omega)) (8 * r + c) (by omega) (by omega)
    omega
  · omega
theorem wl_i {B : Int} {G : Nat → Int → Int} (hI : InvG B G) (hB : B + 594 ≤ 100000000) (r c v : Int) : InvG (B + 594) (wlG G r c v) := by
  unfold wlG
  split
  · rename_i h
    have h2 := invG_2 hI (8 * r + c) (by omega) (by omega)
    exact inv_put (invG_mono hI (B' := B + 594) (by omega) (by omega)) (p := 8 * r + c) (v := v) (by omega) (by omega) (by omega)
  · exact invG_mono hI (by omega) (by omega)
theorem ww_v (G : Nat → Int → Int) (r w : Int) : -1000003 ≤ wwV G r w ∧ wwV G r w ≤ 100000 := by
  unfold wwV
  have := toldWord_bd G r
  split <;> omega
theorem ww_i {B : Int} {G : Nat → Int → Int} (hI : InvG B G) (hB : B + 594 ≤ 100000000) (r w : Int) : InvG (B + 594) (wwG G r w) := by
  unfold wwG
  split
  · rename_i h
    exact invG_mono (wordSt_inv hI (by omega) (by omega) (by omega) 8 (by omega)) (by omega) (by omega)
  · exact invG_mono hI (by omega) (by omega)
theorem wa_v (G : Nat → Int → Int) (r : Int) : -1000003 ≤ waV G r ∧ waV G r ≤ 100000 := by
  unfold waV
  have := lostAnew_bd G r
  split <;> omega
theorem wa_i {B : Int} {G : Nat → Int → Int} (hI : InvG B G) (hB : B + 594 ≤ 100000000) (r : Int) : InvG (B + 594) (waG G r) := by
  unfold waG
  split
  · rename_i h
    exact invG_mono (writeAnew_inv hI (by omega) h) (by omega) (by omega)
  · exact invG_mono hI (by omega) (by omega)
theorem ac_v (G : Nat → Int → Int) (r c : Int) : -1000003 ≤ acV G r c ∧ acV G r c ≤ 100000 := by
  unfold acV
  have := told_bd G r c
  split <;> omega
theorem ac_i {B : Int} {G : Nat → Int → Int} (hI : InvG B G) (hB : B + 594 ≤ 100000000) (r c : Int) : InvG (B + 594) (acG G r c) := by
  unfold acG
  split
  · rename_i h
    have h0 := invG_0 hI (8 * r + c) (by omega) (by omega)
    have h1 := told_bd G r c
    have h2 := invG_10 hI (3 * G 0 (8 * r + c) + toldZ G r c) (by omega) (by omega)
    exact invG_up10 (invG_mono hI (by omega) (by omega)) _ (by omega)
  · exact invG_mono hI (by omega) (by omega)
theorem fg_v {B : Int} {G : Nat → Int → Int} (hI : InvG B G) (r g v : Int) : -1000003 ≤ fgV G r g v ∧ fgV G r g v ≤ 100000 := by
  unfold fgV
  split
  · rename_i h
    have h4 := invG_4 hI (3 * r + g) (by omega) (by omega)
    split <;> omega
  · omega
theorem fg_i {B : Int} {G : Nat → Int → Int} (hI : InvG B G) (r g v : Int) : InvG B (fgG G r g v) := by
  unfold fgG
  split
  · split
    · exact invG_up4 (invG_up5 hI _ (by omega)) _ (by omega)
    · exact hI
  · exact hI
theorem mg_v {B : Int} {G : Nat → Int → Int} (hI : InvG B G) (r g : Int) : -1000003 ≤ mgV G r g ∧ mgV G r g ≤ 100000 := by
  unfold mgV
  split
  · rename_i h
    have h4 := invG_4 hI (3 * r + g) (by omega) (by omega)
    split <;> omega
  · omega
theorem mg_i {B : Int} {G : Nat → Int → Int} (hI : InvG B G) (r g : Int) : InvG B (mgG G r g) := by
  unfold mgG
  split
  · split
    · exact hI
    · exact invG_up5 hI _ (by omega)
  · exact hI
theorem cr_v {B : Int} {G : Nat → Int → Int} (hI : InvG B G) (r v : Int) : -1000003 ≤ crV G r v ∧ crV G r v ≤ 100000 := by
  unfold crV
  split
  · rename_i h
    have h4 := invG_6 hI r (by omega) (by omega)
    omega
  · omega
theorem cr_i {B : Int} {G : Nat → Int → Int} (hI : InvG B G) (r v : Int) : InvG B (crG G r v) := by
  unfold crG
  split
  · exact invG_up6 hI _ (by omega)
  · exact hI
theorem pd_v (G : Nat → Int → Int) (n last : Int) : -1000003 ≤ pdV G n last ∧ pdV G n last ≤ 100000 := by
  unfold pdV
  have := daysLost_bd G n.toNat
  split
  · split <;> omega
  · omega
theorem pd_i {B : Int} {G : Nat → Int → Int} (hI : InvG B G) (hB : B + 594 ≤ 100000000) (n last : Int) (hl : last ≤ 1000000) : InvG (B + 594) (pdG G n last) := by
  unfold pdG
  split
  · split
    · exact invG_mono hI (by omega) (by omega)
    · exact invG_mono (days_inv hI n.toNat (by omega) (by omega)) (by omega) (by omega)
  · exact invG_mono hI (by omega) (by omega)
theorem cs_v {B : Int} {G : Nat → Int → Int} (hI : InvG B G) (w v : Int) : -1000003 ≤ csV G w v ∧ csV G w v ≤ 100000 := by
  unfold csV
  split
  · rename_i h
    have h4 := invG_11 hI w (by omega) (by omega)
    omega
  · omega
theorem cs_i {B : Int} {G : Nat → Int → Int} (hI : InvG B G) (w v : Int) : InvG B (csG G w v) := by
  unfold csG
  split
  · rename_i h
    obtain ⟨h0, h1, h2⟩ := h
    unfold badSetZ outZ at h2
    rcases (show w = 0 ∨ w = 1 ∨ w = 2 by omega) with e | e | e
    · subst e; exact invG_set0 hI (by omega)
    · subst e; exact invG_set1 hI (by omega)
    · subst e; exact invG_set2 hI (by omega)
  · exact hI
theorem do_v {B : Int} {G : Nat → Int → Int} (hI : InvG B G) (hB : B + 594 ≤ 100000000) (k a b d : Int) : -1000003 ≤ doV G k a b d ∧ doV G k a b d ≤ 100000 := by
  have h1 := wl_v hI (by omega) a b d
  have h2 := wa_v G a
  have h3 := fg_v hI a b d
  have h4 := mg_v hI a b
  have h5 := cr_v hI a b
  have h6 := pd_v G a 9999
  unfold doV
  omega
theorem do_i {B : Int} {G : Nat → Int → Int} (hI : InvG B G) (hB : B + 594 ≤ 100000000) (k a b d : Int) : InvG (B + 594) (doG G k a b d) := by
  have hm : ∀ X, InvG B X → InvG (B + 594) X := fun X h => invG_mono h (by omega) (by omega)
  unfold doG
  repeat' split
  · exact wa_i hI hB _
  · exact pd_i hI hB _ _ (by omega)
  · exact hm _ (fg_i hI _ _ _)
  · exact hm _ (mg_i hI _ _)
  · exact hm _ (cr_i hI _ _)
  · exact wl_i hI hB _ _ _
  · exact hm _ hI
theorem rcx_bad {α : Type} {v n : Int} (f : Nat → α) (h : v < 0) : rcxP v n f = f := if_pos h
theorem rcx_lt {α : Type} {v n : Int} (f : Nat → α) (h : ¬ v < 0) (h2 : n < 4) : rcxP v n f = swp 1 (3 + n.toNat) f := by unfold rcxP; rw [if_neg h, if_pos h2]
theorem rcx_full {α : Type} {v n : Int} (f : Nat → α) (h : ¬ v < 0) (h2 : ¬ n < 4) : rcxP v n f = swp 1 6 (rotS f) := by unfold rcxP; rw [if_neg h, if_neg h2]
set_option maxHeartbeats 4000000 in
theorem m_X2_recorded_all (l : Launch) (D : va_G) (xo xh t : Nat) (ta : Nat → Nat) (cI cC cH : ClassId) (ga : Nat → Nat) (gd : Nat → Nat → Nat) (F T : Nat → Int → Int) (Gs : Nat → Nat → Int → Int) (v : Int) (h1 : -1000003 ≤ v ∧ v ≤ 100000) (hk : 0 ≤ F 4 0 ∧ F 4 0 ≤ 4) : MW l D yX2_recorded (wsY yX2_recorded cX2_recorded 3 (some .int)) { frames := 1, cells := 0, slots := 0, locals := 22 } [(cI, .int), (cC, .char), (cH, .object RX0)] [.ref xo, .int (iI v)] (wX xo xh t ta cI cC cH ga gd F T Gs) (wX xo xh t ta cI cC cH (rcxP v (F 4 0) ga) (rcxP v (F 4 0) gd) (rcxF v F) T (rcxP v (F 4 0) Gs)) (some (.int (iI v))) := by
  by_cases h : v < 0
  · rw [rcx_bad ga h, rcx_bad gd h, rcx_bad Gs h, show rcxF v F = F from if_pos h]
    exact m_X2_recorded_bad l D xo xh t ta cI cC cH ga gd F T Gs v (by omega)
  · by_cases h2 : F 4 0 < 4
    · rw [rcx_lt ga h h2, rcx_lt gd h h2, rcx_lt Gs h h2, show rcxF v F = _ from (if_neg h).trans (if_pos h2)]
      exact m_X2_recorded_lt l D xo xh t ta cI cC cH ga gd F T Gs v (by omega) (by omega)
    · rw [rcx_full ga h h2, rcx_full gd h h2, rcx_full Gs h h2, show rcxF v F = _ from (if_neg h).trans (if_neg h2)]
      exact m_X2_recorded_full l D xo xh t ta cI cC cH ga gd F T Gs v (by omega) (by omega)
