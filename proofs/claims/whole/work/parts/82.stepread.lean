/-! steps of the law: what is read, looked ahead, undone, typed -/
set_option maxHeartbeats 4000000 in
theorem st_cell (l : Launch) (D : va_G) (xo xh t : Nat) (ta : Nat → Nat) (cI cC cH : ClassId) (mo : Nat) (am : Nat → Nat) (r c2 w : Int) (h_r : -2147483648 ≤ r ∧ r < 2147483648) (h_c2 : -2147483648 ≤ c2 ∧ c2 < 2147483648) (h_w : -2147483648 ≤ w ∧ w < 2147483648) : StepOK l D xo xh t ta cI cC cH mo am yX2_cell (wsY yX2_cell cX2_cell 4 (some .int)) { frames := 3, cells := 0, slots := 0, locals := 73 } yX3_cell (wsY yX3_cell cX3_cell 5 (some .int)) { frames := 5, cells := 0, slots := 0, locals := 112 } [.int (iI r), .int (iI c2), .int (iI w)] := by
  intro k ga gd F T Gs S hk hR
  have hG := hR.1
  have he : gOf (S 0) = Gs 0 := hG.1
  have hI : InvG (1 + 36000 * (k : Int)) (Gs 0) := hG.2.1
  have hIs : InvG (1 + 36000 * (k : Int)) (gOf (S 0)) := by rw [he]; exact hI
  have hIr : InvG (1 + 36000 * (k : Int)) (gOf (recS S 0)) := by rw [q_rec]; exact hIs
  have hn := hR.2.1
  have hSm : Sm k (Gs 0) := ⟨hG.2.2.2.1, hG.2.2.2.2⟩
  have hRr : RefI (recS S 0) := by rw [rec_k S 0 (by decide) (by decide)]; exact hG.2.2.1
  by_cases h : 0 ≤ r ∧ r < 6 ∧ 0 ≤ c2 ∧ c2 < 8
  · refine ⟨cellV (Gs 0) r c2 w, ga, gd, F, T, Gs, S, m_X2_cell l D xo xh t ta cI cC cH ga gd F T Gs r c2 w hI (by omega) (by omega) h_w, ?_, Rel_id hR (by omega)⟩
    have m := m_X3_cell l D mo am cI S r c2 w hIs (by omega) (by omega) h_w
    rw [he] at m; exact m
  · exact ⟨-1000001, ga, gd, F, T, Gs, S, m_X2_cell_bad l D xo xh t ta cI cC cH ga gd F T Gs r c2 w h_r h_c2 h_w (by omega), mw_room (m_X3_cell_bad l D mo am cI S r c2 w h_r h_c2 (by omega)) (Nat.le_of_ble_eq_true rfl) (Nat.le_of_ble_eq_true rfl) (Nat.le_of_ble_eq_true rfl) (Nat.le_of_ble_eq_true rfl), Rel_id hR (by omega)⟩
set_option maxHeartbeats 4000000 in
theorem st_guard (l : Launch) (D : va_G) (xo xh t : Nat) (ta : Nat → Nat) (cI cC cH : ClassId) (mo : Nat) (am : Nat → Nat) (r g2 w : Int) (h_r : -2147483648 ≤ r ∧ r < 2147483648) (h_g2 : -2147483648 ≤ g2 ∧ g2 < 2147483648) (h_w : -2147483648 ≤ w ∧ w < 2147483648) : StepOK l D xo xh t ta cI cC cH mo am yX2_guard (wsY yX2_guard cX2_guard 4 (some .int)) { frames := 3, cells := 0, slots := 0, locals := 67 } yX3_guard (wsY yX3_guard cX3_guard 4 (some .int)) { frames := 2, cells := 0, slots := 0, locals := 42 } [.int (iI r), .int (iI g2), .int (iI w)] := by
  intro k ga gd F T Gs S hk hR
  have hG := hR.1
  have he : gOf (S 0) = Gs 0 := hG.1
  have hI : InvG (1 + 36000 * (k : Int)) (Gs 0) := hG.2.1
  have hIs : InvG (1 + 36000 * (k : Int)) (gOf (S 0)) := by rw [he]; exact hI
  have hIr : InvG (1 + 36000 * (k : Int)) (gOf (recS S 0)) := by rw [q_rec]; exact hIs
  have hn := hR.2.1
  have hSm : Sm k (Gs 0) := ⟨hG.2.2.2.1, hG.2.2.2.2⟩
  have hRr : RefI (recS S 0) := by rw [rec_k S 0 (by decide) (by decide)]; exact hG.2.2.1
  by_cases h : 0 ≤ r ∧ r < 6 ∧ 0 ≤ g2 ∧ g2 < 3
  · refine ⟨guardV (Gs 0) r g2 w, ga, gd, F, T, Gs, S, m_X2_guard l D xo xh t ta cI cC cH ga gd F T Gs r g2 w hI (by omega) (by omega) h_w, ?_, Rel_id hR (by omega)⟩
    have m := m_X3_guard l D mo am cI S r g2 w hIs (by omega) (by omega) h_w
    rw [he] at m; exact m
  · exact ⟨-1000001, ga, gd, F, T, Gs, S, m_X2_guard_bad l D xo xh t ta cI cC cH ga gd F T Gs r g2 w h_r h_g2 h_w (by omega), m_X3_guard_bad l D mo am cI S r g2 w h_r h_g2 h_w (by omega), Rel_id hR (by omega)⟩
set_option maxHeartbeats 4000000 in
theorem st_row (l : Launch) (D : va_G) (xo xh t : Nat) (ta : Nat → Nat) (cI cC cH : ClassId) (mo : Nat) (am : Nat → Nat) (r w : Int) (h_r : -2147483648 ≤ r ∧ r < 2147483648) (h_w : -2147483648 ≤ w ∧ w < 2147483648) : StepOK l D xo xh t ta cI cC cH mo am yX2_row (wsY yX2_row cX2_row 3 (some .int)) { frames := 4, cells := 0, slots := 0, locals := 94 } yX3_row (wsY yX3_row cX3_row 3 (some .int)) { frames := 6, cells := 0, slots := 0, locals := 133 } [.int (iI r), .int (iI w)] := by
  intro k ga gd F T Gs S hk hR
  have hG := hR.1
  have he : gOf (S 0) = Gs 0 := hG.1
  have hI : InvG (1 + 36000 * (k : Int)) (Gs 0) := hG.2.1
  have hIs : InvG (1 + 36000 * (k : Int)) (gOf (S 0)) := by rw [he]; exact hI
  have hIr : InvG (1 + 36000 * (k : Int)) (gOf (recS S 0)) := by rw [q_rec]; exact hIs
  have hn := hR.2.1
  have hSm : Sm k (Gs 0) := ⟨hG.2.2.2.1, hG.2.2.2.2⟩
  have hRr : RefI (recS S 0) := by rw [rec_k S 0 (by decide) (by decide)]; exact hG.2.2.1
  by_cases h : 0 ≤ r ∧ r < 6
  · refine ⟨rowV (Gs 0) r w, ga, gd, F, T, Gs, S, m_X2_row l D xo xh t ta cI cC cH ga gd F T Gs r w hI h h_w, ?_, Rel_id hR (by omega)⟩
    have m := m_X3_row l D mo am cI S r w hIs h h_w
    rw [he] at m; exact m
  · exact ⟨-1000001, ga, gd, F, T, Gs, S, m_X2_row_bad l D xo xh t ta cI cC cH ga gd F T Gs r w h_r h_w (by omega), mw_room (m_X3_row_bad l D mo am cI S r w h_r (by omega)) (Nat.le_of_ble_eq_true rfl) (Nat.le_of_ble_eq_true rfl) (Nat.le_of_ble_eq_true rfl) (Nat.le_of_ble_eq_true rfl), Rel_id hR (by omega)⟩
set_option maxHeartbeats 4000000 in
theorem st_table (l : Launch) (D : va_G) (xo xh t : Nat) (ta : Nat → Nat) (cI cC cH : ClassId) (mo : Nat) (am : Nat → Nat) (v t2 : Int) (h_v : -2147483648 ≤ v ∧ v < 2147483648) (h_t2 : -2147483648 ≤ t2 ∧ t2 < 2147483648) : StepOK l D xo xh t ta cI cC cH mo am yX2_table (wsY yX2_table cX2_table 3 (some .int)) { frames := 2, cells := 0, slots := 0, locals := 44 } yX3_table (wsY yX3_table cX3_table 3 (some .int)) { frames := 2, cells := 0, slots := 0, locals := 42 } [.int (iI v), .int (iI t2)] := by
  intro k ga gd F T Gs S hk hR
  have hG := hR.1
  have he : gOf (S 0) = Gs 0 := hG.1
  have hI : InvG (1 + 36000 * (k : Int)) (Gs 0) := hG.2.1
  have hIs : InvG (1 + 36000 * (k : Int)) (gOf (S 0)) := by rw [he]; exact hI
  have hIr : InvG (1 + 36000 * (k : Int)) (gOf (recS S 0)) := by rw [q_rec]; exact hIs
  have hn := hR.2.1
  have hSm : Sm k (Gs 0) := ⟨hG.2.2.2.1, hG.2.2.2.2⟩
  have hRr : RefI (recS S 0) := by rw [rec_k S 0 (by decide) (by decide)]; exact hG.2.2.1
  by_cases h : 0 ≤ v ∧ v < 3 ∧ 0 ≤ t2 ∧ t2 < 3
  · refine ⟨Gs 0 10 (3 * v + t2), ga, gd, F, T, Gs, S, m_X2_table l D xo xh t ta cI cC cH ga gd F T Gs v t2 hI (by omega) (by omega), ?_, Rel_id hR (by omega)⟩
    have m := m_X3_table l D mo am cI S v t2 (by omega) (by omega)
    rw [he] at m; exact m
  · exact ⟨-1000001, ga, gd, F, T, Gs, S, m_X2_table_bad l D xo xh t ta cI cC cH ga gd F T Gs v t2 h_v h_t2 (by omega), m_X3_table_bad l D mo am cI S v t2 h_v h_t2 (by omega), Rel_id hR (by omega)⟩
set_option maxHeartbeats 4000000 in
theorem st_count (l : Launch) (D : va_G) (xo xh t : Nat) (ta : Nat → Nat) (cI cC cH : ClassId) (mo : Nat) (am : Nat → Nat) (w : Int) (h_w : -2147483648 ≤ w ∧ w < 2147483648) : StepOK l D xo xh t ta cI cC cH mo am yX2_count (wsY yX2_count cX2_count 2 (some .int)) { frames := 5, cells := 0, slots := 0, locals := 112 } yX3_count (wsY yX3_count cX3_count 2 (some .int)) { frames := 8, cells := 0, slots := 0, locals := 178 } [.int (iI w)] := by
  intro k ga gd F T Gs S hk hR
  have hG := hR.1
  have he : gOf (S 0) = Gs 0 := hG.1
  have hI : InvG (1 + 36000 * (k : Int)) (Gs 0) := hG.2.1
  have hIs : InvG (1 + 36000 * (k : Int)) (gOf (S 0)) := by rw [he]; exact hI
  have hIr : InvG (1 + 36000 * (k : Int)) (gOf (recS S 0)) := by rw [q_rec]; exact hIs
  have hn := hR.2.1
  have hSm : Sm k (Gs 0) := ⟨hG.2.2.2.1, hG.2.2.2.2⟩
  have hRr : RefI (recS S 0) := by rw [rec_k S 0 (by decide) (by decide)]; exact hG.2.2.1
  refine ⟨if w = 15 then F 4 0 else if w = 16 then T 1 0 else tallyV (Gs 0) w, ga, gd, F, T, Gs, S, m_X2_count l D xo xh t ta cI cC cH ga gd F T Gs w hI h_w, ?_, Rel_id hR (by omega)⟩
  have m := m_X3_count l D mo am cI S w hIs hG.2.2.1 h_w
  have ev : cntV S w = if w = 15 then F 4 0 else if w = 16 then T 1 0 else tallyV (Gs 0) w := by unfold cntV; rw [he, hn.1, hR.2.2.2.2.1]
  rw [ev] at m
  exact m
set_option maxHeartbeats 4000000 in
theorem st_wrongIn (l : Launch) (D : va_G) (xo xh t : Nat) (ta : Nat → Nat) (cI cC cH : ClassId) (mo : Nat) (am : Nat → Nat) (r : Int) (h_r : -2147483648 ≤ r ∧ r < 2147483648) : StepOK l D xo xh t ta cI cC cH mo am yX2_wrongIn (wsY yX2_wrongIn cX2_wrongIn 3 (some .int)) { frames := 4, cells := 0, slots := 0, locals := 99 } yX3_wrongIn (wsY yX3_wrongIn cX3_wrongIn 4 (some .int)) { frames := 8, cells := 0, slots := 0, locals := 177 } [.int (iI r)] := by
  intro k ga gd F T Gs S hk hR
  have hG := hR.1
  have he : gOf (S 0) = Gs 0 := hG.1
  have hI : InvG (1 + 36000 * (k : Int)) (Gs 0) := hG.2.1
  have hIs : InvG (1 + 36000 * (k : Int)) (gOf (S 0)) := by rw [he]; exact hI
  have hIr : InvG (1 + 36000 * (k : Int)) (gOf (recS S 0)) := by rw [q_rec]; exact hIs
  have hn := hR.2.1
  have hSm : Sm k (Gs 0) := ⟨hG.2.2.2.1, hG.2.2.2.2⟩
  have hRr : RefI (recS S 0) := by rw [rec_k S 0 (by decide) (by decide)]; exact hG.2.2.1
  by_cases h : 0 ≤ r ∧ r < 6
  · refine ⟨(fstZ (fun i : Nat => wrongZ (daysStZ (Gs 0) i) r) 301 0), ga, gd, F, T, _, setA S 1 (S 0), m_X2_wrongIn l D xo xh t ta cI cC cH ga gd F T Gs r hI (by omega) hG.2.2.2.1 h, ?_, Rel_tr hR (by omega) _ (fun j h1 h2 => setA_n _ _ _ _ h1)⟩
    have m := m_X3_wrongIn l D mo am cI S r hIs h (by omega) (by rw [he]; exact hG.2.2.2.1)
    rw [he] at m
    exact m
  · exact ⟨-1000001, ga, gd, F, T, Gs, S, m_X2_wrongIn_bad l D xo xh t ta cI cC cH ga gd F T Gs r h_r (by omega), m_X3_wrongIn_bad l D mo am cI S r h_r (by omega), Rel_id hR (by omega)⟩
set_option maxHeartbeats 4000000 in
theorem st_rightFor (l : Launch) (D : va_G) (xo xh t : Nat) (ta : Nat → Nat) (cI cC cH : ClassId) (mo : Nat) (am : Nat → Nat) (r : Int) (h_r : -2147483648 ≤ r ∧ r < 2147483648) : StepOK l D xo xh t ta cI cC cH mo am yX2_rightFor (wsY yX2_rightFor cX2_rightFor 3 (some .int)) { frames := 4, cells := 0, slots := 0, locals := 99 } yX3_rightFor (wsY yX3_rightFor cX3_rightFor 3 (some .int)) { frames := 3, cells := 0, slots := 0, locals := 69 } [.int (iI r)] := by
  intro k ga gd F T Gs S hk hR
  have hG := hR.1
  have he : gOf (S 0) = Gs 0 := hG.1
  have hI : InvG (1 + 36000 * (k : Int)) (Gs 0) := hG.2.1
  have hIs : InvG (1 + 36000 * (k : Int)) (gOf (S 0)) := by rw [he]; exact hI
  have hIr : InvG (1 + 36000 * (k : Int)) (gOf (recS S 0)) := by rw [q_rec]; exact hIs
  have hn := hR.2.1
  have hSm : Sm k (Gs 0) := ⟨hG.2.2.2.1, hG.2.2.2.2⟩
  have hRr : RefI (recS S 0) := by rw [rec_k S 0 (by decide) (by decide)]; exact hG.2.2.1
  by_cases h : 0 ≤ r ∧ r < 6
  · refine ⟨(fstZ (fun i : Nat => if rightZ (daysStZ (upG (Gs 0) 11 2 0) i) r = 0 then 1 else 0) 301 0), ga, gd, F, T, _, setA S 1 (S 0), m_X2_rightFor l D xo xh t ta cI cC cH ga gd F T Gs r hI (by omega) hG.2.2.2.1 h, ?_, Rel_tr hR (by omega) _ (fun j h1 h2 => setA_n _ _ _ _ h1)⟩
    have m := m_X3_rightFor l D mo am cI S r hIs h (by omega) (by rw [he]; exact hG.2.2.2.1)
    rw [he, ← rf_eq] at m
    exact m
  · exact ⟨-1000001, ga, gd, F, T, Gs, S, m_X2_rightFor_bad l D xo xh t ta cI cC cH ga gd F T Gs r h_r (by omega), m_X3_rightFor_bad l D mo am cI S r h_r (by omega), Rel_id hR (by omega)⟩
set_option maxHeartbeats 4000000 in
theorem st_safeAge (l : Launch) (D : va_G) (xo xh t : Nat) (ta : Nat → Nat) (cI cC cH : ClassId) (mo : Nat) (am : Nat → Nat)  : StepOK l D xo xh t ta cI cC cH mo am yX2_safeAge (wsY yX2_safeAge cX2_safeAge 2 (some .int)) { frames := 5, cells := 0, slots := 0, locals := 121 } yX3_safeAge (wsY yX3_safeAge cX3_safeAge 2 (some .int)) { frames := 9, cells := 0, slots := 0, locals := 200 } [] := by
  intro k ga gd F T Gs S hk hR
  have hG := hR.1
  have he : gOf (S 0) = Gs 0 := hG.1
  have hI : InvG (1 + 36000 * (k : Int)) (Gs 0) := hG.2.1
  have hIs : InvG (1 + 36000 * (k : Int)) (gOf (S 0)) := by rw [he]; exact hI
  have hIr : InvG (1 + 36000 * (k : Int)) (gOf (recS S 0)) := by rw [q_rec]; exact hIs
  have hn := hR.2.1
  have hSm : Sm k (Gs 0) := ⟨hG.2.2.2.1, hG.2.2.2.2⟩
  have hRr : RefI (recS S 0) := by rw [rec_k S 0 (by decide) (by decide)]; exact hG.2.2.1
  refine ⟨sagZ (Gs 0) 60 0, ga, gd, F, T, _, setA S 1 (S 0), m_X2_safeAge l D xo xh t ta cI cC cH ga gd F T Gs hI (by omega) hG.2.2.2.1, ?_, Rel_tr hR (by omega) _ (fun j h1 h2 => setA_n _ _ _ _ h1)⟩
  have m := m_X3_safeAge l D mo am cI S hIs (by omega) (by rw [he]; exact hG.2.2.2.1)
  rw [he] at m
  exact m
set_option maxHeartbeats 4000000 in
theorem st_worst (l : Launch) (D : va_G) (xo xh t : Nat) (ta : Nat → Nat) (cI cC cH : ClassId) (mo : Nat) (am : Nat → Nat) (q : Int) (h_q : -2147483648 ≤ q ∧ q < 2147483648) : StepOK l D xo xh t ta cI cC cH mo am yX2_worst (wsY yX2_worst cX2_worst 5 (some .int)) { frames := 4, cells := 0, slots := 0, locals := 94 } yX3_worst (wsY yX3_worst cX3_worst 6 (some .int)) { frames := 6, cells := 0, slots := 0, locals := 133 } [.int (iI q)] := by
  intro k ga gd F T Gs S hk hR
  have hG := hR.1
  have he : gOf (S 0) = Gs 0 := hG.1
  have hI : InvG (1 + 36000 * (k : Int)) (Gs 0) := hG.2.1
  have hIs : InvG (1 + 36000 * (k : Int)) (gOf (S 0)) := by rw [he]; exact hI
  have hIr : InvG (1 + 36000 * (k : Int)) (gOf (recS S 0)) := by rw [q_rec]; exact hIs
  have hn := hR.2.1
  have hSm : Sm k (Gs 0) := ⟨hG.2.2.2.1, hG.2.2.2.2⟩
  have hRr : RefI (recS S 0) := by rw [rec_k S 0 (by decide) (by decide)]; exact hG.2.2.1
  by_cases h : 0 ≤ q ∧ q < 6
  · refine ⟨(wsZ (Gs 0) (q.toNat + 1)).2, ga, gd, F, T, Gs, S, m_X2_worst l D xo xh t ta cI cC cH ga gd F T Gs q hI h, ?_, Rel_id hR (by omega)⟩
    have m := m_X3_worst l D mo am cI S q hIs h
    rw [he, ← worst_eq _ h] at m; exact m
  · exact ⟨-1000001, ga, gd, F, T, Gs, S, m_X2_worst_bad l D xo xh t ta cI cC cH ga gd F T Gs q h_q (by omega), mw_room (m_X3_worst_bad l D mo am cI S q h_q (by omega)) (Nat.le_of_ble_eq_true rfl) (Nat.le_of_ble_eq_true rfl) (Nat.le_of_ble_eq_true rfl) (Nat.le_of_ble_eq_true rfl), Rel_id hR (by omega)⟩
set_option maxHeartbeats 4000000 in
theorem st_mean (l : Launch) (D : va_G) (xo xh t : Nat) (ta : Nat → Nat) (cI cC cH : ClassId) (mo : Nat) (am : Nat → Nat)  : StepOK l D xo xh t ta cI cC cH mo am yX2_mean (wsY yX2_mean cX2_mean 1 (some .int)) { frames := 2, cells := 0, slots := 0, locals := 43 } yX3_mean (wsY yX3_mean cX3_mean 3 (some .int)) { frames := 2, cells := 0, slots := 0, locals := 45 } [] := by
  intro k ga gd F T Gs S hk hR
  have hG := hR.1
  have he : gOf (S 0) = Gs 0 := hG.1
  have hI : InvG (1 + 36000 * (k : Int)) (Gs 0) := hG.2.1
  have hIs : InvG (1 + 36000 * (k : Int)) (gOf (S 0)) := by rw [he]; exact hI
  have hIr : InvG (1 + 36000 * (k : Int)) (gOf (recS S 0)) := by rw [q_rec]; exact hIs
  have hn := hR.2.1
  have hSm : Sm k (Gs 0) := ⟨hG.2.2.2.1, hG.2.2.2.2⟩
  have hRr : RefI (recS S 0) := by rw [rec_k S 0 (by decide) (by decide)]; exact hG.2.2.1
  refine ⟨((FP.fdiv (FP.i2f (iI (distZ (Gs 0) 48))) 1111490560).toNat : Int), ga, gd, F, T, Gs, S, m_X2_mean l D xo xh t ta cI cC cH ga gd F T Gs hI, ?_, Rel_id hR (by omega)⟩
  have m := m_X3_mean l D mo am cI S hIs
  rw [he] at m
  exact m
set_option maxHeartbeats 4000000 in
theorem st_share (l : Launch) (D : va_G) (xo xh t : Nat) (ta : Nat → Nat) (cI cC cH : ClassId) (mo : Nat) (am : Nat → Nat)  : StepOK l D xo xh t ta cI cC cH mo am yX2_share (wsY yX2_share cX2_share 2 (some .int)) { frames := 2, cells := 0, slots := 0, locals := 42 } yX3_share (wsY yX3_share cX3_share 2 (some .int)) { frames := 2, cells := 0, slots := 0, locals := 41 } [] := by
  intro k ga gd F T Gs S hk hR
  have hG := hR.1
  have he : gOf (S 0) = Gs 0 := hG.1
  have hI : InvG (1 + 36000 * (k : Int)) (Gs 0) := hG.2.1
  have hIs : InvG (1 + 36000 * (k : Int)) (gOf (S 0)) := by rw [he]; exact hI
  have hIr : InvG (1 + 36000 * (k : Int)) (gOf (recS S 0)) := by rw [q_rec]; exact hIs
  have hn := hR.2.1
  have hSm : Sm k (Gs 0) := ⟨hG.2.2.2.1, hG.2.2.2.2⟩
  have hRr : RefI (recS S 0) := by rw [rec_k S 0 (by decide) (by decide)]; exact hG.2.2.1
  have hsa := asked_bd hI
  have hsr := right_bd hI
  have hsl := right_le hI
  have e7 : S 0 7 = sumZ 9 (Gs 0 10) := by have r := hG.2.2.1; unfold RefI at r; rw [he] at r; exact r.2.2.2
  have g10 : ∀ i : Int, 0 ≤ i → i < 9 → S 0 (8 + i) = Gs 0 10 i := fun i h0 h1 => by rw [← he]; exact s_10 (S 0) rfl ⟨h0, h1⟩
  have e8 : (S 0 8 + S 0 12) + S 0 16 = rightTZ (Gs 0) 3 := by
    have a := g10 0 (by omega) (by omega)
    have b := g10 4 (by omega) (by omega)
    have c := g10 8 (by omega) (by omega)
    rw [right_e, ← a, ← b, ← c]
    rfl
  have hA : sumZ 9 (Gs 0 10) < 16777216 := by have := hSm.2; omega
  refine ⟨(if (sumZ 9 (Gs 0 10)) = 0 then -1000004 else ((FP.fdiv (FP.i2f (iI (rightTZ (Gs 0) 3))) (FP.i2f (iI (sumZ 9 (Gs 0 10))))).toNat : Int)), ga, gd, F, T, Gs, S, m_X2_share l D xo xh t ta cI cC cH ga gd F T Gs hI hA, ?_, Rel_id hR (by omega)⟩
  have m := m_X3_share l D mo am cI S (by rw [e8]; omega) (by rw [e7]; omega)
  rw [e8, e7] at m
  exact m
set_option maxHeartbeats 4000000 in
theorem st_undo (l : Launch) (D : va_G) (xo xh t : Nat) (ta : Nat → Nat) (cI cC cH : ClassId) (mo : Nat) (am : Nat → Nat)  : StepOK l D xo xh t ta cI cC cH mo am yX2_undo (wsY yX2_undo cX2_undo 2 (some .int)) { frames := 0, cells := 0, slots := 0, locals := 0 } yX3_undo (wsY yX3_undo cX3_undo 1 (some .int)) { frames := 1, cells := 0, slots := 0, locals := 24 } [] := by
  intro k ga gd F T Gs S hk hR
  have hG := hR.1
  have he : gOf (S 0) = Gs 0 := hG.1
  have hI : InvG (1 + 36000 * (k : Int)) (Gs 0) := hG.2.1
  have hIs : InvG (1 + 36000 * (k : Int)) (gOf (S 0)) := by rw [he]; exact hI
  have hIr : InvG (1 + 36000 * (k : Int)) (gOf (recS S 0)) := by rw [q_rec]; exact hIs
  have hn := hR.2.1
  have hSm : Sm k (Gs 0) := ⟨hG.2.2.2.1, hG.2.2.2.2⟩
  have hRr : RefI (recS S 0) := by rw [rec_k S 0 (by decide) (by decide)]; exact hG.2.2.1
  by_cases h : F 4 0 = 0
  · exact ⟨-1000002, ga, gd, F, T, Gs, S, m_X2_undo_no l D xo xh t ta cI cC cH ga gd F T Gs h, m_X3_undo_no l D mo am cI S (by omega), Rel_id hR (by omega)⟩
  · refine ⟨F 4 0 - 1, _, _, _, T, _, upG (setA S 0 (shfZ (S 3) (269 * (F 4 0 - 1)))) 4 0 (F 4 0 - 1), m_X2_undo l D xo xh t ta cI cC cH ga gd F T Gs (by omega), ?_, ?_⟩
    · have m := m_X3_undo l D mo am cI S (by omega)
      rw [hn.1] at m
      exact m
    · have d := hR.2.2.2
      refine ⟨?_, ?_, fun i hi => ?_, d.1, d.2.1, d.2.2.1, d.2.2.2.1, d.2.2.2.2⟩
      · have g := Gd_mono (hR.2.2.1 (F 4 0 - 1).toNat (by omega)) (Nat.le_succ k) (by omega)
        rw [show 269 * (((F 4 0 - 1).toNat : Nat) : Int) = 269 * (F 4 0 - 1) by omega] at g
        rw [swp_i]
        exact g
      · show F 4 0 - 1 = F 4 0 - 1 ∧ 0 ≤ F 4 0 - 1 ∧ F 4 0 - 1 ≤ 4
        omega
      · have hi2 : (i : Int) < F 4 0 - 1 := hi
        rw [swp_n Gs (by omega) (by omega)]
        exact Gd_mono (hR.2.2.1 i (by omega)) (Nat.le_succ k) (by omega)
set_option maxHeartbeats 4000000 in
theorem st_type (l : Launch) (D : va_G) (xo xh t : Nat) (ta : Nat → Nat) (cI cC cH : ClassId) (mo : Nat) (am : Nat → Nat) (v : Int) (h_v : -2147483648 ≤ v ∧ v < 2147483648) : StepOK l D xo xh t ta cI cC cH mo am yX2_type (wsY yX2_type cX2_type 2 (some .int)) { frames := 2, cells := 0, slots := 0, locals := 43 } yX3_type (wsY yX3_type cX3_type 2 (some .int)) { frames := 1, cells := 0, slots := 0, locals := 22 } [.int (iI v)] := by
  intro k ga gd F T Gs S hk hR
  have hG := hR.1
  have he : gOf (S 0) = Gs 0 := hG.1
  have hI : InvG (1 + 36000 * (k : Int)) (Gs 0) := hG.2.1
  have hIs : InvG (1 + 36000 * (k : Int)) (gOf (S 0)) := by rw [he]; exact hI
  have hIr : InvG (1 + 36000 * (k : Int)) (gOf (recS S 0)) := by rw [q_rec]; exact hIs
  have hn := hR.2.1
  have hSm : Sm k (Gs 0) := ⟨hG.2.2.2.1, hG.2.2.2.2⟩
  have hRr : RefI (recS S 0) := by rw [rec_k S 0 (by decide) (by decide)]; exact hG.2.2.1
  have d := hR.2.2.2
  have hS := Rel_S hR
  have hT := d.2.2.1
  have hl := hT.1
  by_cases h : 32 ≤ v ∧ v ≤ 126
  · by_cases h2 : T 1 0 < 60
    · refine ⟨T 1 0 + 1, ga, gd, F, upG (upG T 0 (T 1 0) v) 1 0 (T 1 0 + 1), Gs, upG (upG S 5 (T 1 0) v) 6 0 (T 1 0 + 1), m_X2_type l D xo xh t ta cI cC cH ga gd F T Gs v hT h h2, ?_, ?_⟩
      · have m := m_X3_type l D mo am cI S v hS h (by rw [d.2.1]; exact h2)
        rw [d.2.1] at m
        exact m
      · refine Rel_same hR (by omega) rfl (fun _ => rfl) rfl rfl rfl rfl ⟨?_, rfl, ?_, d.2.2.2.1, d.2.2.2.2⟩
        · show upI (S 5) (T 1 0) v = upI (T 0) (T 1 0) v
          rw [d.1]
        · refine ⟨?_, fun p h0 h1 => ?_⟩
          · show 0 ≤ T 1 0 + 1 ∧ T 1 0 + 1 ≤ 60; omega
          · show 0 ≤ upI (T 0) (T 1 0) v p ∧ upI (T 0) (T 1 0) v p ≤ 126
            unfold upI
            split
            · omega
            · exact hT.2 p h0 h1
    · exact ⟨-1000003, ga, gd, F, T, Gs, S, m_X2_type_full l D xo xh t ta cI cC cH ga gd F T Gs v hT h (by omega), m_X3_type_full l D mo am cI S v hS h (by rw [d.2.1]; omega), Rel_id hR (by omega)⟩
  · exact ⟨-1000001, ga, gd, F, T, Gs, S, m_X2_type_bad l D xo xh t ta cI cC cH ga gd F T Gs v h_v (by omega), m_X3_type_bad l D mo am cI S v h_v (by omega), Rel_id hR (by omega)⟩
set_option maxHeartbeats 4000000 in
theorem st_clearText (l : Launch) (D : va_G) (xo xh t : Nat) (ta : Nat → Nat) (cI cC cH : ClassId) (mo : Nat) (am : Nat → Nat)  : StepOK l D xo xh t ta cI cC cH mo am yX2_clearText (wsY yX2_clearText cX2_clearText 1 (some .int)) { frames := 1, cells := 0, slots := 0, locals := 21 } yX3_clearText (wsY yX3_clearText cX3_clearText 2 (some .int)) { frames := 0, cells := 0, slots := 0, locals := 0 } [] := by
  intro k ga gd F T Gs S hk hR
  have hG := hR.1
  have he : gOf (S 0) = Gs 0 := hG.1
  have hI : InvG (1 + 36000 * (k : Int)) (Gs 0) := hG.2.1
  have hIs : InvG (1 + 36000 * (k : Int)) (gOf (S 0)) := by rw [he]; exact hI
  have hIr : InvG (1 + 36000 * (k : Int)) (gOf (recS S 0)) := by rw [q_rec]; exact hIs
  have hn := hR.2.1
  have hSm : Sm k (Gs 0) := ⟨hG.2.2.2.1, hG.2.2.2.2⟩
  have hRr : RefI (recS S 0) := by rw [rec_k S 0 (by decide) (by decide)]; exact hG.2.2.1
  have d := hR.2.2.2
  have hT := d.2.2.1
  refine ⟨T 1 0, ga, gd, F, upG T 1 0 0, Gs, upG S 6 0 0, m_X2_clearText l D xo xh t ta cI cC cH ga gd F T Gs, ?_, ?_⟩
  · have m := m_X3_clearText l D mo am cI S
    rw [d.2.1] at m
    exact m
  · refine Rel_same hR (by omega) rfl (fun _ => rfl) rfl rfl rfl rfl ⟨d.1, rfl, ⟨?_, hT.2⟩, d.2.2.2.1, d.2.2.2.2⟩
    show 0 ≤ (0 : Int) ∧ (0 : Int) ≤ 60
    omega
