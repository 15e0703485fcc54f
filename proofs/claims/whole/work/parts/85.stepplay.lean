/-! steps of the law: faults of texts, texts played -/
theorem go_k (S : Nat → Int → Int) (j : Nat) (h7 : j ≠ 7) (h12 : j ≠ 12) : goX S j = S j := by unfold goX upG; rw [if_neg h7, if_neg h12]
theorem go_7 (S : Nat → Int → Int) : goX S 7 0 = 0 := by unfold goX upG; rw [if_pos rfl, upI_s]
theorem go_12 (S : Nat → Int → Int) : goX S 12 0 = 0 := by unfold goX upG; rw [if_neg (by decide), if_pos rfl, upI_s]
theorem go_inv {S : Nat → Int → Int} (h5 : InvS S) (h11 : InvK S) : InvS (goX S) ∧ InvK (goX S) := by
  unfold InvS InvK
  rw [go_k S 5 (by decide) (by decide), go_k S 6 (by decide) (by decide), go_k S 11 (by decide) (by decide)]
  exact ⟨h5, h11⟩
set_option maxHeartbeats 4000000 in
theorem st_fault (l : Launch) (D : va_G) (xo xh t : Nat) (ta : Nat → Nat) (cI cC cH : ClassId) (mo : Nat) (am : Nat → Nat) (w : Int) (h_w : -2147483648 ≤ w ∧ w < 2147483648) : StepOK l D xo xh t ta cI cC cH mo am yX2_fault (wsY yX2_fault cX2_fault 2 (some .int)) { frames := 6, cells := 0, slots := 0, locals := 142 } yX3_fault (wsY yX3_fault cX3_fault 3 (some .int)) { frames := 11, cells := 0, slots := 0, locals := 243 } [.int (iI w)] := by
  intro k ga gd F T Gs S hk hR
  have hG := hR.1
  have he : gOf (S 0) = Gs 0 := hG.1
  have hI : InvG (1 + 36000 * (k : Int)) (Gs 0) := hG.2.1
  have hIs : InvG (1 + 36000 * (k : Int)) (gOf (S 0)) := by rw [he]; exact hI
  have hIr : InvG (1 + 36000 * (k : Int)) (gOf (recS S 0)) := by rw [q_rec]; exact hIs
  have hn := hR.2.1
  have hSm : Sm k (Gs 0) := ⟨hG.2.2.2.1, hG.2.2.2.2⟩
  have hRr : RefI (recS S 0) := by rw [rec_k S 0 (by decide) (by decide)]; exact hG.2.2.1
  by_cases h : 0 ≤ w ∧ w ≤ 2
  · skip
    have d := hR.2.2.2
    have hT := d.2.2.1
    have hK1 := d.2.2.2.1
    have hS := Rel_S hR
    have hda := (da_eq (X := goX (setA S 2 (S 0))) hI hT hK1 (by omega) hG.2.2.2.1 he hG.2.2.1 d.1 d.2.1 (go_12 _) (go_7 _) 60 (by omega)).1
    have hfi := fa_inv hIs hS d.2.2.2.2 (by omega)
    obtain ⟨q1, q2, q3, -, -, q6, -, -, q9, q10⟩ := ff_inv hI hT hK1 (show 1 + 36000 * (k : Int) + 35640 ≤ 100000000 by omega) 60 (by omega)
    have f12 : faT S 12 0 = FF.f (ffI (Gs 0) T 60) := hda.2.2.2.2.1
    have f4 : ffF F (ffI (Gs 0) T 60) 4 0 = F 4 0 := by unfold ffF; split <;> rfl
    have s0 : faS S 0 = S 0 := (setA_s _ _ _).trans (fa_2 S)
    have sk : ∀ j : Nat, j ≠ 0 → j ≠ 2 → j ≠ 7 → j ≠ 8 → j ≠ 9 → j ≠ 10 → j ≠ 11 → j ≠ 12 → j ≠ 13 → faS S j = S j := fun j h0 h2 h7 h8 h9 h10 h11 h12 h13 => (setA_n _ _ _ _ h0).trans (fa_k S j h0 h2 h7 h8 h9 h10 h11 h12 h13)
    have s3 : faS S 3 = S 3 := sk 3 (by decide) (by decide) (by decide) (by decide) (by decide) (by decide) (by decide) (by decide) (by decide)
    have s4 : faS S 4 = S 4 := sk 4 (by decide) (by decide) (by decide) (by decide) (by decide) (by decide) (by decide) (by decide) (by decide)
    have s5 : faS S 5 = S 5 := sk 5 (by decide) (by decide) (by decide) (by decide) (by decide) (by decide) (by decide) (by decide) (by decide)
    have s6 : faS S 6 = S 6 := sk 6 (by decide) (by decide) (by decide) (by decide) (by decide) (by decide) (by decide) (by decide) (by decide)
    have hsame : Rel (k + 1) (ffF F (ffI (Gs 0) T 60)) (FF.T (ffI (Gs 0) T 60)) (upS Gs 2 (FF.X (ffI (Gs 0) T 60))) (faS S) := by
      refine Rel_same hR (by omega) rfl (fun i => if_neg (by omega)) f4 s0 s3 s4 ⟨?_, ?_, q2, q3, ?_⟩
      · rw [s5, q9]; exact d.1
      · rw [s6, q10]; exact d.2.1
      · unfold InvK
        rw [show faS S 11 = faT S 11 from setA_n _ _ _ _ (by decide)]
        exact hfi.2.1
    refine ⟨(if ffV (ffI (Gs 0) T 60) = 0 then -1000004 else (if w = 0 then ffF F (ffI (Gs 0) T 60) 7 0 else if w = 1 then ffF F (ffI (Gs 0) T 60) 8 0 else ffF F (ffI (Gs 0) T 60) 9 0)), ga, gd, _, _, _, faS S, m_X2_fault l D xo xh t ta cI cC cH ga gd F T Gs w hI hT hK1 (by omega) h, ?_, hsame⟩
    have m := m_X3_fault l D mo am cI S w hIs hS d.2.2.2.2 (by omega) h
    have ev : faV S w = (if ffV (ffI (Gs 0) T 60) = 0 then -1000004 else (if w = 0 then ffF F (ffI (Gs 0) T 60) 7 0 else if w = 1 then ffF F (ffI (Gs 0) T 60) 8 0 else ffF F (ffI (Gs 0) T 60) 9 0)) := by
      unfold faV ffV ffF
      rw [f12]
      by_cases f0 : FF.f (ffI (Gs 0) T 60) = 0
      · rw [if_pos f0, if_pos f0, if_pos rfl]
      · have h6 := hda.2.2.2.2.2.2 f0
        have h8 : faT S 8 0 = FF.s (ffI (Gs 0) T 60) := h6.1
        have h13 : faT S 13 0 = FF.c (ffI (Gs 0) T 60) := h6.2
        rw [if_neg f0, if_neg f0, if_neg (show ¬ (1 : Int) = 0 by decide), if_neg f0, h8, h13]
        rfl
    rw [ev] at m
    exact m
  · exact ⟨-1000001, ga, gd, F, T, Gs, S, m_X2_fault_bad l D xo xh t ta cI cC cH ga gd F T Gs w h_w (by omega), m_X3_fault_bad l D mo am cI S w h_w (by omega), Rel_id hR (by omega)⟩
set_option maxHeartbeats 4000000 in
theorem st_play (l : Launch) (D : va_G) (xo xh t : Nat) (ta : Nat → Nat) (cI cC cH : ClassId) (mo : Nat) (am : Nat → Nat)  : StepOK l D xo xh t ta cI cC cH mo am yX2_play (wsY yX2_play cX2_play 1 (some .int)) { frames := 6, cells := 0, slots := 0, locals := 142 } yX3_play (wsY yX3_play cX3_play 2 (some .int)) { frames := 11, cells := 0, slots := 0, locals := 243 } [] := by
  intro k ga gd F T Gs S hk hR
  have hG := hR.1
  have he : gOf (S 0) = Gs 0 := hG.1
  have hI : InvG (1 + 36000 * (k : Int)) (Gs 0) := hG.2.1
  have hIs : InvG (1 + 36000 * (k : Int)) (gOf (S 0)) := by rw [he]; exact hI
  have hIr : InvG (1 + 36000 * (k : Int)) (gOf (recS S 0)) := by rw [q_rec]; exact hIs
  have hn := hR.2.1
  have hSm : Sm k (Gs 0) := ⟨hG.2.2.2.1, hG.2.2.2.2⟩
  have hRr : RefI (recS S 0) := by rw [rec_k S 0 (by decide) (by decide)]; exact hG.2.2.1
  have d := hR.2.2.2
  have hT := d.2.2.1
  have hK1 := d.2.2.2.1
  have hS := Rel_S hR
  have hda := (da_eq (X := goX (setA S 2 (S 0))) hI hT hK1 (by omega) hG.2.2.2.1 he hG.2.2.1 d.1 d.2.1 (go_12 _) (go_7 _) 60 (by omega)).1
  have hfi := fa_inv hIs hS d.2.2.2.2 (by omega)
  obtain ⟨q1, q2, q3, -, -, q6, -, -, q9, q10⟩ := ff_inv hI hT hK1 (show 1 + 36000 * (k : Int) + 35640 ≤ 100000000 by omega) 60 (by omega)
  have f12 : faT S 12 0 = FF.f (ffI (Gs 0) T 60) := hda.2.2.2.2.1
  have f4 : ffF F (ffI (Gs 0) T 60) 4 0 = F 4 0 := by unfold ffF; split <;> rfl
  have s0 : faS S 0 = S 0 := (setA_s _ _ _).trans (fa_2 S)
  have sk : ∀ j : Nat, j ≠ 0 → j ≠ 2 → j ≠ 7 → j ≠ 8 → j ≠ 9 → j ≠ 10 → j ≠ 11 → j ≠ 12 → j ≠ 13 → faS S j = S j := fun j h0 h2 h7 h8 h9 h10 h11 h12 h13 => (setA_n _ _ _ _ h0).trans (fa_k S j h0 h2 h7 h8 h9 h10 h11 h12 h13)
  have s3 : faS S 3 = S 3 := sk 3 (by decide) (by decide) (by decide) (by decide) (by decide) (by decide) (by decide) (by decide) (by decide)
  have s4 : faS S 4 = S 4 := sk 4 (by decide) (by decide) (by decide) (by decide) (by decide) (by decide) (by decide) (by decide) (by decide)
  have s5 : faS S 5 = S 5 := sk 5 (by decide) (by decide) (by decide) (by decide) (by decide) (by decide) (by decide) (by decide) (by decide)
  have s6 : faS S 6 = S 6 := sk 6 (by decide) (by decide) (by decide) (by decide) (by decide) (by decide) (by decide) (by decide) (by decide)
  have hsame : Rel (k + 1) (ffF F (ffI (Gs 0) T 60)) (FF.T (ffI (Gs 0) T 60)) (upS Gs 2 (FF.X (ffI (Gs 0) T 60))) (faS S) := by
    refine Rel_same hR (by omega) rfl (fun i => if_neg (by omega)) f4 s0 s3 s4 ⟨?_, ?_, q2, q3, ?_⟩
    · rw [s5, q9]; exact d.1
    · rw [s6, q10]; exact d.2.1
    · unfold InvK
      rw [show faS S 11 = faT S 11 from setA_n _ _ _ _ (by decide)]
      exact hfi.2.1
  by_cases f0 : FF.f (ffI (Gs 0) T 60) = 0
  · have hz : ffV (ffI (Gs 0) T 60) = 0 := if_pos f0
    have hn6 : ffF F (ffI (Gs 0) T 60) 6 0 = FF.n (ffI (Gs 0) T 60) := by rw [ffF_ok f0 rfl]; rfl
    have hx := m_X2_play l D xo xh t ta cI cC cH ga gd F T Gs hI hT hK1 (by omega) hn.2
    rw [if_pos hz, if_pos hz] at hx
    have ef : faT S 12 0 = 0 := by rw [f12]; exact f0
    have r0 : recS (faS S) 0 = S 0 := (rec_k _ 0 (by decide) (by decide)).trans s0
    have r5 : recS (faS S) 5 = S 5 := (rec_k _ 5 (by decide) (by decide)).trans s5
    have r6 : recS (faS S) 6 = S 6 := (rec_k _ 6 (by decide) (by decide)).trans s6
    have hd2 := da_eq (X := goX (recS (faS S))) hI hT hK1 (by omega) hG.2.2.2.1 (by rw [go_k _ 0 (by decide) (by decide), r0]; exact he) (by rw [go_k _ 0 (by decide) (by decide), r0]; exact hG.2.2.1) (by rw [go_k _ 5 (by decide) (by decide), r5]; exact d.1) (by rw [go_k _ 6 (by decide) (by decide), r6]; exact d.2.1) (go_12 _) (go_7 _) 60 (by omega)
    have eP : plS S = daI (goX (recS (faS S))) 60 := if_pos ef
    have eV : plV S = daC (goX (recS (faS S))) 60 := if_pos ef
    have pk : ∀ j : Nat, j ≠ 0 → j ≠ 7 → j ≠ 8 → j ≠ 9 → j ≠ 10 → j ≠ 11 → j ≠ 12 → j ≠ 13 → plS S j = recS (faS S) j := fun j h0 h7 h8 h9 h10 h11 h12 h13 => by
      rw [eP, da_k _ j h0 h7 h8 h9 h10 h11 h12 h13]
      unfold goX upG
      rw [if_neg h7, if_neg h12]
    have rc : recS (faS S) 3 = recS S 3 ∧ recS (faS S) 4 = recS S 4 := by
      unfold recS
      rw [s4]
      split
      · unfold recF upG setA
        rw [s3, s4, s0]
        exact ⟨rfl, rfl⟩
      · unfold recN upG setA
        rw [s3, s4, s0]
        exact ⟨rfl, rfl⟩
    refine ⟨ffF F (ffI (Gs 0) T 60) 6 0, _, _, _, _, _, plS S, hx, ?_, ?_⟩
    · have m := m_X3_play l D mo am cI S hIs hS d.2.2.2.2 (by omega) (by omega)
      rw [eV, hd2.2.1, ← hn6] at m
      exact m
    · refine Rel_rec (Y := upS (upS (upS Gs 2 (FF.X (ffI (Gs 0) T 60))) 1 (Gs 0)) 0 (FF.X (ffI (Gs 0) T 60))) hR (by omega) (by rw [hn6]; exact q6.1) ?_ rfl (fun i => ?_) f4 ?_ ?_ ⟨?_, ?_, q2, q3, ?_⟩
      · rw [eP]
        refine ⟨hd2.1.1, invG_mono q1 (by omega) (by omega), hd2.1.2.1, hd2.2.2.1, ?_⟩
        show sumZ 9 (FF.X (ffI (Gs 0) T 60) 10) ≤ _
        rw [hd2.2.2.2]
        have := hSm.2
        omega
      · unfold upS
        rw [if_neg (by omega), if_neg (by omega), if_neg (by omega)]
      · rw [pk 3 (by decide) (by decide) (by decide) (by decide) (by decide) (by decide) (by decide) (by decide)]; exact rc.1
      · rw [pk 4 (by decide) (by decide) (by decide) (by decide) (by decide) (by decide) (by decide) (by decide)]; exact rc.2
      · rw [pk 5 (by decide) (by decide) (by decide) (by decide) (by decide) (by decide) (by decide) (by decide), r5, q9]; exact d.1
      · rw [pk 6 (by decide) (by decide) (by decide) (by decide) (by decide) (by decide) (by decide) (by decide), r6, q10]; exact d.2.1
      · rw [eP]
        have hIr2 : InvG (1 + 36000 * (k : Int)) (gOf (goX (recS (faS S)) 0)) := by
          rw [go_k _ 0 (by decide) (by decide), r0]; exact hIs
        have hS1 : InvS (recS (faS S)) := by unfold InvS; rw [r5, r6]; exact hS
        have hK2 : InvK (recS (faS S)) := by
          unfold InvK
          rw [rec_k _ 11 (by decide) (by decide), show faS S 11 = faT S 11 from setA_n _ _ _ _ (by decide)]
          exact hfi.2.1
        have hgo := go_inv hS1 hK2
        exact (da_all hIr2 hgo.1 hgo.2 (go_7 _) (go_12 _) (by omega) 60 (by omega)).2.2.1
  · have hz : ¬ ffV (ffI (Gs 0) T 60) = 0 := by unfold ffV; rw [if_neg f0]; decide
    have hx := m_X2_play l D xo xh t ta cI cC cH ga gd F T Gs hI hT hK1 (by omega) hn.2
    rw [if_neg hz, if_neg hz] at hx
    have ef : ¬ faT S 12 0 = 0 := by rw [f12]; exact f0
    have eP : plS S = faS S := if_neg ef
    have eV : plV S = -1000002 := if_neg ef
    refine ⟨-1000002, _, _, _, _, _, faS S, hx, ?_, hsame⟩
    have m := m_X3_play l D mo am cI S hIs hS d.2.2.2.2 (by omega) (by omega)
    rw [eV, eP] at m
    exact m
