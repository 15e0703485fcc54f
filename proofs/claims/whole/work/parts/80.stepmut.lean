/-! a step of the law: the same call on both sides -/
def StepOK (l : Launch) (D : va_G) (xo xh t : Nat) (ta : Nat → Nat) (cI cC cH : ClassId) (mo : Nat) (am : Nat → Nat) (yx : MethodName) (wx : List Cond) (rx : Room) (ym : MethodName) (wm : List Cond) (rm : Room) (av : List Value) : Prop := ∀ (k : Nat) (ga : Nat → Nat) (gd : Nat → Nat → Nat) (F T : Nat → Int → Int) (Gs : Nat → Nat → Int → Int) (S : Nat → Int → Int), k < 512 → Rel k F T Gs S → ∃ (V : Int) (ga' : Nat → Nat) (gd' : Nat → Nat → Nat) (F' T' : Nat → Int → Int) (Gs' : Nat → Nat → Int → Int) (S' : Nat → Int → Int), MW l D yx wx rx [(cI, .int), (cC, .char), (cH, .object RX0)] (.ref xo :: av) (wX xo xh t ta cI cC cH ga gd F T Gs) (wX xo xh t ta cI cC cH ga' gd' F' T' Gs') (some (.int (iI V))) ∧ MW l D ym wm rm [(cI, .int)] (.ref mo :: av) (wM mo am cI S) (wM mo am cI S') (some (.int (iI V))) ∧ Rel (k + 1) F' T' Gs' S'
theorem nn_wl {B : Int} {G : Nat → Int → Int} (hI : InvG B G) (hB : B + 594 ≤ 100000000) {r c v : Int} (h : 0 ≤ r ∧ r < 6 ∧ 0 ≤ c ∧ c < 8 ∧ 0 ≤ v ∧ v < 3) : 0 ≤ wlV G r c v := by
  have h1 := invG_1 (wl_i hI hB r c v) (8 * r + c) (by omega) (by omega)
  rw [show wlG G r c v = _ from if_pos h] at h1
  rw [show wlV G r c v = _ from if_pos h]
  exact h1.1
theorem len5 {p : Int} (h : 0 ≤ p ∧ p < 18) : 0 ≤ p ∧ p < lenZ 5 := h
theorem len4 {p : Int} (h : 0 ≤ p ∧ p < 18) : 0 ≤ p ∧ p < lenZ 4 := h
theorem upG_comm (G : Nat → Int → Int) (a b : Nat) (z y v u : Int) (h : a ≠ b) : upG (upG G a z v) b y u = upG (upG G b y u) a z v := by
  funext k
  unfold upG
  by_cases h1 : k = b
  · subst h1
    rw [if_pos rfl, if_neg (Ne.symm h), if_neg (Ne.symm h), if_pos rfl]
  · rw [if_neg h1]
    by_cases h2 : k = a
    · subst h2
      rw [if_pos rfl, if_pos rfl, if_neg h]
    · rw [if_neg h2, if_neg h2, if_neg h1]
theorem ask_k (X : Nat → Int → Int) (r c : Int) (j : Nat) (hj : j ≠ 0) : askS X r c j = X j := by
  unfold askS upG
  simp only [if_neg hj]
theorem ask_0 {B : Int} {X : Nat → Int → Int} (hI : InvG B (gOf (X 0))) {r c : Int} (hr : 0 ≤ r ∧ r < 6) (hc : 0 ≤ c ∧ c < 8) : askS X r c 0 = upI (upI (X 0) (ixZ 10 (3 * gOf (X 0) 0 (8 * r + c) + toldZ (gOf (X 0)) r c)) (gOf (X 0) 10 (3 * gOf (X 0) 0 (8 * r + c) + toldZ (gOf (X 0)) r c) + 1)) 7 (upI (X 0) (ixZ 10 (3 * gOf (X 0) 0 (8 * r + c) + toldZ (gOf (X 0)) r c)) (gOf (X 0) 10 (3 * gOf (X 0) 0 (8 * r + c) + toldZ (gOf (X 0)) r c) + 1) 7 + 1) ∧ (0 ≤ 3 * gOf (X 0) 0 (8 * r + c) + toldZ (gOf (X 0)) r c ∧ 3 * gOf (X 0) 0 (8 * r + c) + toldZ (gOf (X 0)) r c < lenZ 10) := by
  have h0 := invG_0 hI (8 * r + c) (by omega) (by omega)
  have h1 := told_bd (gOf (X 0)) r c
  refine ⟨?_, by omega, by show _ < (9 : Int); omega⟩
  have e : ixZ 10 (3 * gOf (X 0) 0 (8 * r + c) + toldZ (gOf (X 0)) r c) = 8 + 3 * gOf (X 0) 0 (8 * r + c) + toldZ (gOf (X 0)) r c := by
    show 8 + (3 * gOf (X 0) 0 (8 * r + c) + toldZ (gOf (X 0)) r c) = _
    omega
  rw [e]
  rfl
theorem gOf_ask {B : Int} {X : Nat → Int → Int} (hI : InvG B (gOf (X 0))) {r c : Int} (hr : 0 ≤ r ∧ r < 6) (hc : 0 ≤ c ∧ c < 8) : gOf (askS X r c 0) = askZ (gOf (X 0)) r c := by
  have h := ask_0 hI hr hc
  rw [h.1, gOf_out _ (by omega), gOf_up _ h.2]
  rfl
theorem ref_ask {B : Int} {X : Nat → Int → Int} (hI : InvG B (gOf (X 0))) {r c : Int} (hr : 0 ≤ r ∧ r < 6) (hc : 0 ≤ c ∧ c < 8) (hR : RefI (X 0)) : RefI (askS X r c 0) := by
  have h := ask_0 hI hr hc
  have h4 := ix_no4 h.2
  have hlt := h.2.2
  rw [show lenZ 10 = 9 from rfl] at hlt
  unfold RefI at hR ⊢
  rw [h.1, gOf_out _ (by omega), gOf_up _ h.2, upI_n (by omega), upI_n (by omega), upI_n (by omega), upI_n (by omega), upI_n (by omega), upI_n (by omega), upI_s, upI_n (by omega)]
  show X 0 4 = sumZ 6 (gOf (X 0) 8) ∧ X 0 5 = sumZ 48 (gOf (X 0) 2) - 48 ∧ X 0 6 = sumZ 6 (gOf (X 0) 9) ∧ X 0 7 + 1 = sumZ 9 (upI (gOf (X 0) 10) _ _)
  rw [sum_up _ _ _ 9 h.2.1 hlt]
  omega
theorem gOf_set {X : Nat → Int → Int} {w v : Int} (h0 : 0 ≤ w) (h1 : w < 3) : gOf (upG X 0 (1 + w) v 0) = upG (gOf (X 0)) 11 w v := gOf_up (X 0) (k := 11) (p := w) ⟨h0, h1⟩
theorem ref_set {X : Nat → Int → Int} {w v : Int} (h0 : 0 ≤ w) (h1 : w < 3) (h : RefI (X 0)) : RefI (upG X 0 (1 + w) v 0) := ref_ly (S := X) (k := 11) (p := w) v ⟨h0, h1⟩ (by decide) (by decide) (by decide) (by decide) h
set_option maxHeartbeats 4000000 in
theorem st_write (l : Launch) (D : va_G) (xo xh t : Nat) (ta : Nat → Nat) (cI cC cH : ClassId) (mo : Nat) (am : Nat → Nat) (r c2 v : Int) (h_r : -2147483648 ≤ r ∧ r < 2147483648) (h_c2 : -2147483648 ≤ c2 ∧ c2 < 2147483648) (h_v : -2147483648 ≤ v ∧ v < 2147483648) : StepOK l D xo xh t ta cI cC cH mo am yX2_write (wsY yX2_write cX2_write 4 (some .int)) { frames := 3, cells := 0, slots := 0, locals := 67 } yX3_write (wsY yX3_write cX3_write 5 (some .int)) { frames := 3, cells := 0, slots := 0, locals := 72 } [.int (iI r), .int (iI c2), .int (iI v)] := by
  intro k ga gd F T Gs S hk hR
  have hG := hR.1
  have he : gOf (S 0) = Gs 0 := hG.1
  have hI : InvG (1 + 36000 * (k : Int)) (Gs 0) := hG.2.1
  have hIs : InvG (1 + 36000 * (k : Int)) (gOf (S 0)) := by rw [he]; exact hI
  have hIr : InvG (1 + 36000 * (k : Int)) (gOf (recS S 0)) := by rw [q_rec]; exact hIs
  have hn := hR.2.1
  have hSm : Sm k (Gs 0) := ⟨hG.2.2.2.1, hG.2.2.2.2⟩
  have hRr : RefI (recS S 0) := by rw [rec_k S 0 (by decide) (by decide)]; exact hG.2.2.1
  by_cases h : 0 ≤ r ∧ r < 6 ∧ 0 ≤ c2 ∧ c2 < 8 ∧ 0 ≤ v ∧ v < 3
  · refine ⟨(wlV (Gs 0) r c2 v), _, _, _, _, _, (wrS (recS S) r c2 v), m_X2_write l D xo xh t ta cI cC cH ga gd F T Gs r c2 v hI (by omega) (by omega) h_r h_c2 h_v, ?_, ?_⟩
    · have m := m_X3_write l D mo am cI S r c2 v hIs (by omega) (by omega) (by omega) (by omega)
      have ev : (aimZ v + ((37 * (8 * r + c2) + 11 * (gOf (recS S 0)) 2 (8 * r + c2)) % 21 - 10)) = (wlV (Gs 0) r c2 v) := by rw [q_rec, he, show wlV (Gs 0) r c2 v = _ from if_pos h, put_1]
      rw [ev] at m
      exact m
    · exact Rel_ok hR (by omega) (nn_wl hI (by omega) h) (Gd_mk hG (by rw [gOf_wr _ _ (by omega) (by omega), q_rec, he]; exact (if_pos h).symm) (wl_i hI (by omega) r c2 v) (ref_wr v (by omega) (by omega) hRr) (wl_s hSm r c2 v) (by omega)) (fun j hj => wr_k _ _ _ _ j hj)
  · refine ⟨(wlV (Gs 0) r c2 v), _, _, _, _, _, S, m_X2_write l D xo xh t ta cI cC cH ga gd F T Gs r c2 v hI (by omega) (by omega) h_r h_c2 h_v, ?_, ?_⟩
    · have m := m_X3_write_bad l D mo am cI S r c2 v h_r h_c2 h_v (by omega)
      have ev : (-1000001) = (wlV (Gs 0) r c2 v) := (if_neg h).symm
      rw [ev] at m
      exact m
    · exact Rel_err hR (by omega) (by rw [show wlV (Gs 0) r c2 v = _ from if_neg h]; decide) (if_neg h)
set_option maxHeartbeats 4000000 in
theorem st_fill (l : Launch) (D : va_G) (xo xh t : Nat) (ta : Nat → Nat) (cI cC cH : ClassId) (mo : Nat) (am : Nat → Nat) (r w : Int) (h_r : -2147483648 ≤ r ∧ r < 2147483648) (h_w : -2147483648 ≤ w ∧ w < 2147483648) : StepOK l D xo xh t ta cI cC cH mo am yX2_fill (wsY yX2_fill cX2_fill 3 (some .int)) { frames := 4, cells := 0, slots := 0, locals := 97 } yX3_fill (wsY yX3_fill cX3_fill 4 (some .int)) { frames := 6, cells := 0, slots := 0, locals := 133 } [.int (iI r), .int (iI w)] := by
  intro k ga gd F T Gs S hk hR
  have hG := hR.1
  have he : gOf (S 0) = Gs 0 := hG.1
  have hI : InvG (1 + 36000 * (k : Int)) (Gs 0) := hG.2.1
  have hIs : InvG (1 + 36000 * (k : Int)) (gOf (S 0)) := by rw [he]; exact hI
  have hIr : InvG (1 + 36000 * (k : Int)) (gOf (recS S 0)) := by rw [q_rec]; exact hIs
  have hn := hR.2.1
  have hSm : Sm k (Gs 0) := ⟨hG.2.2.2.1, hG.2.2.2.2⟩
  have hRr : RefI (recS S 0) := by rw [rec_k S 0 (by decide) (by decide)]; exact hG.2.2.1
  by_cases h : 0 ≤ r ∧ r < 6 ∧ 0 ≤ w ∧ w ≤ 6560
  · refine ⟨(wwV (Gs 0) r w), _, _, _, _, _, (wwS (recS S) r w 8), m_X2_fill l D xo xh t ta cI cC cH ga gd F T Gs r w hI (by omega) (by omega) h_r h_w, ?_, ?_⟩
    · have m := m_X3_fill l D mo am cI S r w hIs (by omega) (by omega) (by omega) (by omega)
      have ev : (toldWordZ (gOf (recS S 0)) r) = (wwV (Gs 0) r w) := by rw [q_rec, he]; exact (if_pos h).symm
      rw [ev] at m
      exact m
    · exact Rel_ok hR (by omega) (by rw [show wwV (Gs 0) r w = _ from if_pos h]; exact (toldWord_bd _ _).1) (Gd_mk hG (by rw [gOf_ww _ _ (by omega) 8 (Nat.le_refl _), q_rec, he]; exact (if_pos h).symm) (ww_i hI (by omega) r w) (ref_ww w (by omega) hRr 8 (Nat.le_refl _)) (ww_s hSm r w) (by omega)) (fun j hj => ww_k _ _ _ j hj 8)
  · refine ⟨(wwV (Gs 0) r w), _, _, _, _, _, S, m_X2_fill l D xo xh t ta cI cC cH ga gd F T Gs r w hI (by omega) (by omega) h_r h_w, ?_, ?_⟩
    · have m := m_X3_fill_bad l D mo am cI S r w h_r h_w (by omega)
      have ev : (-1000001) = (wwV (Gs 0) r w) := (if_neg h).symm
      rw [ev] at m
      exact m
    · exact Rel_err hR (by omega) (by rw [show wwV (Gs 0) r w = _ from if_neg h]; decide) (if_neg h)
set_option maxHeartbeats 4000000 in
theorem st_anew (l : Launch) (D : va_G) (xo xh t : Nat) (ta : Nat → Nat) (cI cC cH : ClassId) (mo : Nat) (am : Nat → Nat) (r : Int) (h_r : -2147483648 ≤ r ∧ r < 2147483648) : StepOK l D xo xh t ta cI cC cH mo am yX2_anew (wsY yX2_anew cX2_anew 2 (some .int)) { frames := 3, cells := 0, slots := 0, locals := 74 } yX3_anew (wsY yX3_anew cX3_anew 2 (some .int)) { frames := 7, cells := 0, slots := 0, locals := 155 } [.int (iI r)] := by
  intro k ga gd F T Gs S hk hR
  have hG := hR.1
  have he : gOf (S 0) = Gs 0 := hG.1
  have hI : InvG (1 + 36000 * (k : Int)) (Gs 0) := hG.2.1
  have hIs : InvG (1 + 36000 * (k : Int)) (gOf (S 0)) := by rw [he]; exact hI
  have hIr : InvG (1 + 36000 * (k : Int)) (gOf (recS S 0)) := by rw [q_rec]; exact hIs
  have hn := hR.2.1
  have hSm : Sm k (Gs 0) := ⟨hG.2.2.2.1, hG.2.2.2.2⟩
  have hRr : RefI (recS S 0) := by rw [rec_k S 0 (by decide) (by decide)]; exact hG.2.2.1
  by_cases h : 0 ≤ r ∧ r < 6
  · refine ⟨(waV (Gs 0) r), _, _, _, _, _, (waS (recS S) r), m_X2_anew l D xo xh t ta cI cC cH ga gd F T Gs r hI (by omega) (by omega) h_r, ?_, ?_⟩
    · have m := m_X3_anew l D mo am cI S r hIs (by omega) (by omega) h
      have ev : (wrongZ (gOf (recS S 0)) r) = (waV (Gs 0) r) := by rw [q_rec, he, ← lostAnew_eq]; exact (if_pos h).symm
      rw [ev] at m
      exact m
    · exact Rel_ok hR (by omega) (by rw [show waV (Gs 0) r = _ from if_pos h]; exact (lostAnew_bd _ _).1) (Gd_mk hG (by rw [gOf_wa hIr (by omega) h, q_rec, he]; exact (if_pos h).symm) (wa_i hI (by omega) r) (ref_wa h hRr) (wa_s hSm r) (by omega)) (fun j hj => wa_k _ _ j hj)
  · refine ⟨(waV (Gs 0) r), _, _, _, _, _, S, m_X2_anew l D xo xh t ta cI cC cH ga gd F T Gs r hI (by omega) (by omega) h_r, ?_, ?_⟩
    · have m := m_X3_anew_bad l D mo am cI S r h_r (by omega)
      have ev : (-1000001) = (waV (Gs 0) r) := (if_neg h).symm
      rw [ev] at m
      exact m
    · exact Rel_err hR (by omega) (by rw [show waV (Gs 0) r = _ from if_neg h]; decide) (if_neg h)
set_option maxHeartbeats 4000000 in
theorem st_ask (l : Launch) (D : va_G) (xo xh t : Nat) (ta : Nat → Nat) (cI cC cH : ClassId) (mo : Nat) (am : Nat → Nat) (r c2 : Int) (h_r : -2147483648 ≤ r ∧ r < 2147483648) (h_c2 : -2147483648 ≤ c2 ∧ c2 < 2147483648) : StepOK l D xo xh t ta cI cC cH mo am yX2_ask (wsY yX2_ask cX2_ask 3 (some .int)) { frames := 3, cells := 0, slots := 0, locals := 71 } yX3_ask (wsY yX3_ask cX3_ask 4 (some .int)) { frames := 5, cells := 0, slots := 0, locals := 110 } [.int (iI r), .int (iI c2)] := by
  intro k ga gd F T Gs S hk hR
  have hG := hR.1
  have he : gOf (S 0) = Gs 0 := hG.1
  have hI : InvG (1 + 36000 * (k : Int)) (Gs 0) := hG.2.1
  have hIs : InvG (1 + 36000 * (k : Int)) (gOf (S 0)) := by rw [he]; exact hI
  have hIr : InvG (1 + 36000 * (k : Int)) (gOf (recS S 0)) := by rw [q_rec]; exact hIs
  have hn := hR.2.1
  have hSm : Sm k (Gs 0) := ⟨hG.2.2.2.1, hG.2.2.2.2⟩
  have hRr : RefI (recS S 0) := by rw [rec_k S 0 (by decide) (by decide)]; exact hG.2.2.1
  by_cases h : 0 ≤ r ∧ r < 6 ∧ 0 ≤ c2 ∧ c2 < 8
  · refine ⟨(acV (Gs 0) r c2), _, _, _, _, _, (askS (recS S) r c2), m_X2_ask l D xo xh t ta cI cC cH ga gd F T Gs r c2 hI (by omega) (by omega) h_r h_c2, ?_, ?_⟩
    · have m := m_X3_ask l D mo am cI S r c2 hIs (by omega) (by omega) (by omega)
      have ev : (tellZ ((gOf (recS S 0)) 1 (8 * r + c2)) (thrZ (gOf (recS S 0)) r 0) (thrZ (gOf (recS S 0)) r 1)) = (acV (Gs 0) r c2) := by rw [q_rec, he]; exact (if_pos h).symm
      rw [ev] at m
      exact m
    · exact Rel_ok hR (by omega) (by rw [show acV (Gs 0) r c2 = _ from if_pos h]; exact (told_bd _ _ _).1) (Gd_mk hG (by rw [gOf_ask hIr (by omega) (by omega), q_rec, he]; exact (if_pos h).symm) (ac_i hI (by omega) r c2) (ref_ask hIr (by omega) (by omega) hRr) (ac_s hI hSm r c2) (by omega)) (fun j hj => ask_k _ _ _ j hj)
  · refine ⟨(acV (Gs 0) r c2), _, _, _, _, _, S, m_X2_ask l D xo xh t ta cI cC cH ga gd F T Gs r c2 hI (by omega) (by omega) h_r h_c2, ?_, ?_⟩
    · have m := m_X3_ask_bad l D mo am cI S r c2 h_r h_c2 (by omega)
      have ev : (-1000001) = (acV (Gs 0) r c2) := (if_neg h).symm
      rw [ev] at m
      exact m
    · exact Rel_err hR (by omega) (by rw [show acV (Gs 0) r c2 = _ from if_neg h]; decide) (if_neg h)
set_option maxHeartbeats 4000000 in
theorem st_fail (l : Launch) (D : va_G) (xo xh t : Nat) (ta : Nat → Nat) (cI cC cH : ClassId) (mo : Nat) (am : Nat → Nat) (r g2 v : Int) (h_r : -2147483648 ≤ r ∧ r < 2147483648) (h_g2 : -2147483648 ≤ g2 ∧ g2 < 2147483648) (h_v : -2147483648 ≤ v ∧ v < 2147483648) : StepOK l D xo xh t ta cI cC cH mo am yX2_fail (wsY yX2_fail cX2_fail 4 (some .int)) { frames := 3, cells := 0, slots := 0, locals := 68 } yX3_fail (wsY yX3_fail cX3_fail 6 (some .int)) { frames := 3, cells := 0, slots := 0, locals := 65 } [.int (iI r), .int (iI g2), .int (iI v)] := by
  intro k ga gd F T Gs S hk hR
  have hG := hR.1
  have he : gOf (S 0) = Gs 0 := hG.1
  have hI : InvG (1 + 36000 * (k : Int)) (Gs 0) := hG.2.1
  have hIs : InvG (1 + 36000 * (k : Int)) (gOf (S 0)) := by rw [he]; exact hI
  have hIr : InvG (1 + 36000 * (k : Int)) (gOf (recS S 0)) := by rw [q_rec]; exact hIs
  have hn := hR.2.1
  have hSm : Sm k (Gs 0) := ⟨hG.2.2.2.1, hG.2.2.2.2⟩
  have hRr : RefI (recS S 0) := by rw [rec_k S 0 (by decide) (by decide)]; exact hG.2.2.1
  have h5v : fgV (Gs 0) r g2 v < 0 → efV (gOf (S 0)) r g2 v = fgV (Gs 0) r g2 v ∧ fgG (Gs 0) r g2 v = Gs 0 := fun q => by
    rw [he]
    unfold fgV at q ⊢
    unfold fgG efV
    by_cases h : 0 ≤ r ∧ r < 6 ∧ 0 ≤ g2 ∧ g2 < 3 ∧ 0 ≤ v ∧ v ≤ 999
    · rw [if_pos h] at q ⊢
      rw [if_pos h, if_pos h]
      by_cases h4 : Gs 0 5 (3 * r + g2) = 0
      · rw [if_pos h4] at q
        have := invG_4 hI (3 * r + g2) (by omega) (by omega)
        omega
      · rw [if_neg h4, if_neg h4, if_neg h4]; exact ⟨rfl, rfl⟩
    · rw [if_neg h, if_neg h, if_neg h]; exact ⟨rfl, rfl⟩
  by_cases q : fgV (Gs 0) r g2 v < 0
  · refine ⟨(fgV (Gs 0) r g2 v), _, _, _, _, _, S, m_X2_fail l D xo xh t ta cI cC cH ga gd F T Gs r g2 v hI (by omega) (by omega) h_r h_g2 h_v, ?_, ?_⟩
    · have m := m_X3_fail_err l D mo am cI S r g2 v hIs h_r h_g2 h_v (by rw [(h5v q).1]; exact q)
      have ev : (efV (gOf (S 0)) r g2 v) = (fgV (Gs 0) r g2 v) := (h5v q).1
      rw [ev] at m
      exact m
    · exact Rel_err hR (by omega) q (h5v q).2
  · have hv : (0 ≤ r ∧ r < 6 ∧ 0 ≤ g2 ∧ g2 < 3 ∧ 0 ≤ v ∧ v ≤ 999) ∧ Gs 0 5 (3 * r + g2) = 0 := by
      unfold fgV at q
      by_cases h : 0 ≤ r ∧ r < 6 ∧ 0 ≤ g2 ∧ g2 < 3 ∧ 0 ≤ v ∧ v ≤ 999
      · rw [if_pos h] at q
        by_cases h4 : Gs 0 5 (3 * r + g2) = 0
        · exact ⟨h, h4⟩
        · rw [if_neg h4] at q; omega
      · rw [if_neg h] at q; omega
    obtain ⟨h, h4⟩ := hv
    refine ⟨(fgV (Gs 0) r g2 v), _, _, _, _, _, (lyZ (lyZ (recS S) 4 (3 * r + g2) v) 5 (3 * r + g2) 1), m_X2_fail l D xo xh t ta cI cC cH ga gd F T Gs r g2 v hI (by omega) (by omega) h_r h_g2 h_v, ?_, ?_⟩
    · have m := m_X3_fail l D mo am cI S r g2 v hIs (by omega) (by omega) (by omega) (by omega) (by rw [he]; exact h4)
      have ev : ((gOf (recS S 0)) 4 (3 * r + g2)) = (fgV (Gs 0) r g2 v) := by rw [q_rec, he]; exact ((if_pos h).trans (if_pos h4)).symm
      rw [ev] at m
      exact m
    · exact Rel_ok hR (by omega) (by omega) (Gd_mk hG (by rw [gOf_ly _ _ (len5 (by omega)), gOf_ly _ _ (len4 (by omega)), q_rec, he, show fgG (Gs 0) r g2 v = _ from (if_pos h).trans (if_pos h4)]; exact upG_comm _ 4 5 _ _ _ _ (by decide)) (invG_mono (fg_i hI r g2 v) (by omega) (by omega)) (ref_ly _ (len5 (by omega)) (by decide) (by decide) (by decide) (by decide) (ref_ly _ (len4 (by omega)) (by decide) (by decide) (by decide) (by decide) hRr)) (fg_s hSm r g2 v) (by omega)) (fun j hj => (ly_k _ _ _ _ j hj).trans (ly_k _ _ _ _ j hj))
set_option maxHeartbeats 4000000 in
theorem st_mend (l : Launch) (D : va_G) (xo xh t : Nat) (ta : Nat → Nat) (cI cC cH : ClassId) (mo : Nat) (am : Nat → Nat) (r g2 : Int) (h_r : -2147483648 ≤ r ∧ r < 2147483648) (h_g2 : -2147483648 ≤ g2 ∧ g2 < 2147483648) : StepOK l D xo xh t ta cI cC cH mo am yX2_mend (wsY yX2_mend cX2_mend 3 (some .int)) { frames := 3, cells := 0, slots := 0, locals := 66 } yX3_mend (wsY yX3_mend cX3_mend 4 (some .int)) { frames := 3, cells := 0, slots := 0, locals := 64 } [.int (iI r), .int (iI g2)] := by
  intro k ga gd F T Gs S hk hR
  have hG := hR.1
  have he : gOf (S 0) = Gs 0 := hG.1
  have hI : InvG (1 + 36000 * (k : Int)) (Gs 0) := hG.2.1
  have hIs : InvG (1 + 36000 * (k : Int)) (gOf (S 0)) := by rw [he]; exact hI
  have hIr : InvG (1 + 36000 * (k : Int)) (gOf (recS S 0)) := by rw [q_rec]; exact hIs
  have hn := hR.2.1
  have hSm : Sm k (Gs 0) := ⟨hG.2.2.2.1, hG.2.2.2.2⟩
  have hRr : RefI (recS S 0) := by rw [rec_k S 0 (by decide) (by decide)]; exact hG.2.2.1
  by_cases h : 0 ≤ r ∧ r < 6 ∧ 0 ≤ g2 ∧ g2 < 3
  · by_cases h4 : Gs 0 5 (3 * r + g2) = 0
    · refine ⟨(mgV (Gs 0) r g2), _, _, _, _, _, S, m_X2_mend l D xo xh t ta cI cC cH ga gd F T Gs r g2 hI (by omega) (by omega) h_r h_g2, ?_, ?_⟩
      · have m := m_X3_mend_err l D mo am cI S r g2 hIs h_r h_g2 (by rw [he]; unfold emV; rw [if_pos h, if_pos h4]; decide)
        have ev : (emV (gOf (S 0)) r g2) = (mgV (Gs 0) r g2) := by rw [he]; exact ((if_pos h).trans (if_pos h4)).trans ((if_pos h).trans (if_pos h4)).symm
        rw [ev] at m
        exact m
      · exact Rel_err hR (by omega) (by rw [show mgV (Gs 0) r g2 = _ from (if_pos h).trans (if_pos h4)]; decide) ((if_pos h).trans (if_pos h4))
    · refine ⟨(mgV (Gs 0) r g2), _, _, _, _, _, (lyZ (recS S) 5 (3 * r + g2) 0), m_X2_mend l D xo xh t ta cI cC cH ga gd F T Gs r g2 hI (by omega) (by omega) h_r h_g2, ?_, ?_⟩
      · have m := m_X3_mend l D mo am cI S r g2 hIs (by omega) (by omega) (by omega) (by rw [he]; exact h4)
        have ev : (gOf (lyZ (recS S) 5 (3 * r + g2) 0 0) 4 (3 * r + g2)) = (mgV (Gs 0) r g2) := by rw [gOf_ly _ _ (len5 (by omega)), q_rec, he]; exact ((if_pos h).trans (if_neg h4)).symm
        rw [ev] at m
        exact m
      · exact Rel_ok hR (by omega) (by rw [show mgV (Gs 0) r g2 = _ from (if_pos h).trans (if_neg h4)]; exact (invG_4 hI _ (by omega) (by omega)).1) (Gd_mk hG (by rw [gOf_ly _ _ (len5 (by omega)), q_rec, he]; exact ((if_pos h).trans (if_neg h4)).symm) (invG_mono (mg_i hI r g2) (by omega) (by omega)) (ref_ly _ (len5 (by omega)) (by decide) (by decide) (by decide) (by decide) hRr) (mg_s hSm r g2) (by omega)) (fun j hj => ly_k _ _ _ _ j hj)
  · refine ⟨(mgV (Gs 0) r g2), _, _, _, _, _, S, m_X2_mend l D xo xh t ta cI cC cH ga gd F T Gs r g2 hI (by omega) (by omega) h_r h_g2, ?_, ?_⟩
    · have m := m_X3_mend_err l D mo am cI S r g2 hIs h_r h_g2 (by unfold emV; rw [if_neg h]; decide)
      have ev : (emV (gOf (S 0)) r g2) = (mgV (Gs 0) r g2) := (if_neg h).trans (if_neg h).symm
      rw [ev] at m
      exact m
    · exact Rel_err hR (by omega) (by rw [show mgV (Gs 0) r g2 = _ from if_neg h]; decide) (if_neg h)
set_option maxHeartbeats 4000000 in
theorem st_rate (l : Launch) (D : va_G) (xo xh t : Nat) (ta : Nat → Nat) (cI cC cH : ClassId) (mo : Nat) (am : Nat → Nat) (r v : Int) (h_r : -2147483648 ≤ r ∧ r < 2147483648) (h_v : -2147483648 ≤ v ∧ v < 2147483648) : StepOK l D xo xh t ta cI cC cH mo am yX2_rate (wsY yX2_rate cX2_rate 3 (some .int)) { frames := 2, cells := 0, slots := 0, locals := 47 } yX3_rate (wsY yX3_rate cX3_rate 5 (some .int)) { frames := 3, cells := 0, slots := 0, locals := 63 } [.int (iI r), .int (iI v)] := by
  intro k ga gd F T Gs S hk hR
  have hG := hR.1
  have he : gOf (S 0) = Gs 0 := hG.1
  have hI : InvG (1 + 36000 * (k : Int)) (Gs 0) := hG.2.1
  have hIs : InvG (1 + 36000 * (k : Int)) (gOf (S 0)) := by rw [he]; exact hI
  have hIr : InvG (1 + 36000 * (k : Int)) (gOf (recS S 0)) := by rw [q_rec]; exact hIs
  have hn := hR.2.1
  have hSm : Sm k (Gs 0) := ⟨hG.2.2.2.1, hG.2.2.2.2⟩
  have hRr : RefI (recS S 0) := by rw [rec_k S 0 (by decide) (by decide)]; exact hG.2.2.1
  by_cases h : 0 ≤ r ∧ r < 6 ∧ 1 ≤ v ∧ v ≤ 200
  · refine ⟨(crV (Gs 0) r v), _, _, _, _, _, (lyZ (recS S) 6 r v), m_X2_rate l D xo xh t ta cI cC cH ga gd F T Gs r v hI (by omega) (by omega) h_r h_v, ?_, ?_⟩
    · have m := m_X3_rate l D mo am cI S r v hIs (by omega) (by omega) (by omega)
      have ev : ((gOf (recS S 0)) 6 r) = (crV (Gs 0) r v) := by rw [q_rec, he]; exact (if_pos h).symm
      rw [ev] at m
      exact m
    · exact Rel_ok hR (by omega) (by rw [show crV (Gs 0) r v = _ from if_pos h]; have := invG_6 hI r (by omega) (by omega); omega) (Gd_mk hG (by rw [gOf_ly _ _ (show 0 ≤ r ∧ r < lenZ 6 from ⟨h.1, h.2.1⟩), q_rec, he]; exact (if_pos h).symm) (invG_mono (cr_i hI r v) (by omega) (by omega)) (ref_ly _ (show 0 ≤ r ∧ r < lenZ 6 from ⟨h.1, h.2.1⟩) (by decide) (by decide) (by decide) (by decide) hRr) (cr_s hSm r v) (by omega)) (fun j hj => ly_k _ _ _ _ j hj)
  · refine ⟨(crV (Gs 0) r v), _, _, _, _, _, S, m_X2_rate l D xo xh t ta cI cC cH ga gd F T Gs r v hI (by omega) (by omega) h_r h_v, ?_, ?_⟩
    · have m := m_X3_rate_bad l D mo am cI S r v h_r h_v (by omega)
      have ev : (-1000001) = (crV (Gs 0) r v) := (if_neg h).symm
      rw [ev] at m
      exact m
    · exact Rel_err hR (by omega) (by rw [show crV (Gs 0) r v = _ from if_neg h]; decide) (if_neg h)
set_option maxHeartbeats 4000000 in
theorem st_days (l : Launch) (D : va_G) (xo xh t : Nat) (ta : Nat → Nat) (cI cC cH : ClassId) (mo : Nat) (am : Nat → Nat) (n : Int) (h_n : -2147483648 ≤ n ∧ n < 2147483648) : StepOK l D xo xh t ta cI cC cH mo am yX2_days (wsY yX2_days cX2_days 2 (some .int)) { frames := 4, cells := 0, slots := 0, locals := 99 } yX3_days (wsY yX3_days cX3_days 3 (some .int)) { frames := 9, cells := 0, slots := 0, locals := 200 } [.int (iI n)] := by
  intro k ga gd F T Gs S hk hR
  have hG := hR.1
  have he : gOf (S 0) = Gs 0 := hG.1
  have hI : InvG (1 + 36000 * (k : Int)) (Gs 0) := hG.2.1
  have hIs : InvG (1 + 36000 * (k : Int)) (gOf (S 0)) := by rw [he]; exact hI
  have hIr : InvG (1 + 36000 * (k : Int)) (gOf (recS S 0)) := by rw [q_rec]; exact hIs
  have hn := hR.2.1
  have hSm : Sm k (Gs 0) := ⟨hG.2.2.2.1, hG.2.2.2.2⟩
  have hRr : RefI (recS S 0) := by rw [rec_k S 0 (by decide) (by decide)]; exact hG.2.2.1
  by_cases h : 1 ≤ n ∧ n ≤ 99
  · by_cases h4 : 9999 - n < Gs 0 12 0
    · refine ⟨(pdV (Gs 0) n 9999), _, _, _, _, _, S, m_X2_days l D xo xh t ta cI cC cH ga gd F T Gs n hI (by omega) (by omega) h_n, ?_, ?_⟩
      · have m := m_X3_days_err l D mo am cI S n hIs h_n (by rw [he]; unfold edV; rw [if_pos h, if_pos h4]; decide)
        have ev : (edV (gOf (S 0)) n) = (pdV (Gs 0) n 9999) := by rw [he]; exact ((if_pos h).trans (if_pos h4)).trans ((if_pos h).trans (if_pos h4)).symm
        rw [ev] at m
        exact m
      · exact Rel_err hR (by omega) (by rw [show pdV (Gs 0) n 9999 = _ from (if_pos h).trans (if_pos h4)]; decide) ((if_pos h).trans (if_pos h4))
    · have hes := gOf_es hIr n.toNat (by omega) (by rw [q_rec, he]; have := hG.2.2.2.1; omega)
      rw [q_rec, he] at hes
      refine ⟨(pdV (Gs 0) n 9999), _, _, _, _, _, (esS (recS S) n.toNat), m_X2_days l D xo xh t ta cI cC cH ga gd F T Gs n hI (by omega) (by omega) h_n, ?_, ?_⟩
      · have m := m_X3_days l D mo am cI S n hIs (by omega) h (by rw [he]; omega) (by omega)
        have ev : (esL (recS S) n.toNat) = (pdV (Gs 0) n 9999) := by rw [hes.2]; exact ((if_pos h).trans (if_neg h4)).symm
        rw [ev] at m
        exact m
      · exact Rel_ok hR (by omega) (by rw [show pdV (Gs 0) n 9999 = _ from (if_pos h).trans (if_neg h4)]; exact (daysLost_bd _ _).1) (Gd_mk hG (by rw [hes.1]; exact ((if_pos h).trans (if_neg h4)).symm) (pd_i hI (by omega) n 9999 (by omega)) (ref_es hRr n.toNat) (pd_s hSm n) (by omega)) (fun j hj => es_k _ j hj n.toNat)
  · refine ⟨(pdV (Gs 0) n 9999), _, _, _, _, _, S, m_X2_days l D xo xh t ta cI cC cH ga gd F T Gs n hI (by omega) (by omega) h_n, ?_, ?_⟩
    · have m := m_X3_days_err l D mo am cI S n hIs h_n (by unfold edV; rw [if_neg h]; decide)
      have ev : (edV (gOf (S 0)) n) = (pdV (Gs 0) n 9999) := (if_neg h).trans (if_neg h).symm
      rw [ev] at m
      exact m
    · exact Rel_err hR (by omega) (by rw [show pdV (Gs 0) n 9999 = _ from if_neg h]; decide) (if_neg h)
set_option maxHeartbeats 4000000 in
theorem st_set (l : Launch) (D : va_G) (xo xh t : Nat) (ta : Nat → Nat) (cI cC cH : ClassId) (mo : Nat) (am : Nat → Nat) (w v : Int) (h_w : -2147483648 ≤ w ∧ w < 2147483648) (h_v : -2147483648 ≤ v ∧ v < 2147483648) : StepOK l D xo xh t ta cI cC cH mo am yX2_set (wsY yX2_set cX2_set 3 (some .int)) { frames := 3, cells := 0, slots := 0, locals := 66 } yX3_set (wsY yX3_set cX3_set 4 (some .int)) { frames := 2, cells := 0, slots := 0, locals := 45 } [.int (iI w), .int (iI v)] := by
  intro k ga gd F T Gs S hk hR
  have hG := hR.1
  have he : gOf (S 0) = Gs 0 := hG.1
  have hI : InvG (1 + 36000 * (k : Int)) (Gs 0) := hG.2.1
  have hIs : InvG (1 + 36000 * (k : Int)) (gOf (S 0)) := by rw [he]; exact hI
  have hIr : InvG (1 + 36000 * (k : Int)) (gOf (recS S 0)) := by rw [q_rec]; exact hIs
  have hn := hR.2.1
  have hSm : Sm k (Gs 0) := ⟨hG.2.2.2.1, hG.2.2.2.2⟩
  have hRr : RefI (recS S 0) := by rw [rec_k S 0 (by decide) (by decide)]; exact hG.2.2.1
  by_cases h : 0 ≤ w ∧ w < 3 ∧ badSetZ w v = 0
  · refine ⟨(csV (Gs 0) w v), _, _, _, _, _, (upG (recS S) 0 (1 + w) v), m_X2_set l D xo xh t ta cI cC cH ga gd F T Gs w v hI (by omega) (by omega) h_w h_v, ?_, ?_⟩
    · have m := m_X3_set l D mo am cI S w v hIs (by omega) ⟨h.1, h.2.1⟩ h_v h.2.2
      have ev : ((gOf (recS S 0)) 11 w) = (csV (Gs 0) w v) := by rw [q_rec, he]; exact (if_pos h).symm
      rw [ev] at m
      exact m
    · exact Rel_ok hR (by omega) (by rw [show csV (Gs 0) w v = _ from if_pos h]; exact (invG_11 hI w h.1 h.2.1).1) (Gd_mk hG (by rw [gOf_set h.1 h.2.1, q_rec, he]; exact (if_pos h).symm) (invG_mono (cs_i hI w v) (by omega) (by omega)) (ref_set h.1 h.2.1 hRr) (cs_s hSm w v) (by omega)) (fun j hj => if_neg hj)
  · refine ⟨(csV (Gs 0) w v), _, _, _, _, _, S, m_X2_set l D xo xh t ta cI cC cH ga gd F T Gs w v hI (by omega) (by omega) h_w h_v, ?_, ?_⟩
    · have m := m_X3_set_bad l D mo am cI S w v h_w h_v (by by_cases a : w < 0; exact Or.inl a; by_cases b : 2 < w; exact Or.inr (Or.inl b); exact Or.inr (Or.inr (fun q => h ⟨by omega, by omega, q⟩)))
      have ev : (-1000001) = (csV (Gs 0) w v) := (if_neg h).symm
      rw [ev] at m
      exact m
    · exact Rel_err hR (by omega) (by rw [show csV (Gs 0) w v = _ from if_neg h]; decide) (if_neg h)
