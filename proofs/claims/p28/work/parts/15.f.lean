set_option maxHeartbeats 4000000 in
set_option maxRecDepth 100000 in
theorem m_X0_sum (l : Launch) (D : va_G) (a : Nat) (cI : ClassId) (nn : Nat) (F : Int → Int) (h1 : nn < 2147483648)  : MW l D yX0_sum (wsY yX0_sum cX0_sum 3 (some .int)) { frames := 0, cells := 0, slots := 0, locals := 0 } [(cI, .int)] [.ref a] [(a, .inl (cI, nn, .inl (aI F)))] [(a, .inl (cI, nn, .inl (aI F)))] (some (.int (iI (sumZ nn F)))) := by
  refine mw_ofI (cc := cX0_sum) (maxL := 3) (by decide) rfl (Nat.le_of_ble_eq_true rfl) ?_
  intro p e s m below meth c R A Q args ls hx hb hml hown hts hRf hRl hRc hRs hN hK hP hD hS hA hret hl
  have hq : ∀ w ∈ ALL, w.before args s = true := fun w h => hts w (List.mem_cons_of_mem _ h)
  have hl : lv_has ls 3 [(0, .ref a)] := hl
  refine z_iconst hx hb dX0_sum_0 ?_
  refine lv_istore_n (lv' := [(1, .int (iI 0)), (0, .ref a)]) hx hb dX0_sum_1 rfl hl (by decide) rfl (fun ls hl => ?_)
  refine z_iconst hx hb dX0_sum_2 ?_
  refine lv_istore_n (lv' := [(2, .int (iI 0)), (1, .int (iI 0)), (0, .ref a)]) hx hb dX0_sum_3 rfl hl (by decide) rfl (fun ls hl => ?_)
  have LP4 : ∀ (fu i : Nat), i ≤ nn → nn < fu + i → ∀ (H : Heap) (locs : List Loc) (ls : Array Slot), va_P D vwCl [(a, .inl (cI, nn, .inl (aI F)))] H → va_D A [(a, .inl (cI, nn, .inl (aI F)))] → va_S A s.heap H locs → lv_has ls 3 [(2, .int (iI (i : Int))), (1, .int (iI (sumZ i F))), (0, .ref a)] → W p l e R s m args below meth c H locs 0 0 Q (F0 m 4 ls []) := by
    intro fu
    induction fu with
    | zero => intro i h1 h2; omega
    | succ fu ih4 =>
      intro i hi1 hif H locs ls hP hD hS hl
      refine lv_iload_n hx hb dX0_sum_4 rfl (lv_at hl 0 rfl) ?_
      refine lv_aload_n hx hb dX0_sum_5 rfl (lv_at hl 2 rfl) ?_
      refine va_alen hx hb hK hP 0 0 rfl rfl (v := iI (nn : Int)) (Int32.ofInt_eq_ofNat).symm dX0_sum_6 ?_
      refine z_icmp_ge (tgt := 22) hx hb dX0_sum_7 (by decide) (by omega) (by omega) (fun c_1 => ?_) (fun c_1 => ?_)
      · refine lv_iload_n hx hb dX0_sum_22 rfl (lv_at hl 1 rfl) ?_
        refine z_as (show (sumZ i F) = sumZ nn F from by (have hiN : i = nn := by omega); rw [hiN]) ?_
        first | exact hret _ _ _ _ dX0_sum_23 hP hD hS | (exfalso; omega)
      · refine lv_iload_n hx hb dX0_sum_10 rfl (lv_at hl 1 rfl) ?_
        refine lv_aload_n hx hb dX0_sum_11 rfl (lv_at hl 2 rfl) ?_
        refine lv_iload_n hx hb dX0_sum_12 rfl (lv_at hl 0 rfl) ?_
        refine z_iald hx hb hK hP 0 0 rfl rfl (by omega) (by omega) (v := (F (i : Int))) rfl dX0_sum_13 ?_
        refine z_iadd hx hb dX0_sum_14 ?_
        refine lv_istore_n (lv' := [(1, .int (iI ((sumZ i F) + (F (i : Int))))), (2, .int (iI (i : Int))), (0, .ref a)]) hx hb dX0_sum_15 rfl hl (by decide) rfl (fun ls hl => ?_)
        refine lv_iinc (v := iI ((i : Int) + 1)) (lv' := [(2, .int (iI ((i : Int) + 1))), (1, .int (iI ((sumZ i F) + (F (i : Int))))), (0, .ref a)]) hx hb dX0_sum_16 hl (k := 1) rfl (iI_add _ _) (by decide) rfl (fun ls hl => ?_)
        refine lv_goto (tgt := 4) hx hb dX0_sum_19 (by decide) ?_
        have e1_0 : (((i + 1 : Nat) : Int)) = ((i : Int) + 1) := by first | rfl | omega
        have e1_1 : ((sumZ (i + 1) F)) = ((sumZ i F) + (F (i : Int))) := by first | rfl | omega
        exact ih4 (i + 1) (by omega) (by omega) _ _ _ hP hD hS (lv_to (lv_sub (l' := [(2, .int (iI ((i : Int) + 1))), (1, .int (iI ((sumZ i F) + (F (i : Int))))), (0, .ref a)]) hl [0, 1, 2] rfl) (by simp only [e1_0, e1_1]))
  have e0_0 : (((0 : Nat) : Int)) = 0 := by first | rfl | omega
  have e0_1 : ((sumZ (0) F)) = 0 := by first | rfl | omega
  exact LP4 (nn + 1) 0 (by omega) (by omega) _ _ _ hP hD hS (lv_to (lv_sub (l' := [(2, .int (iI 0)), (1, .int (iI 0)), (0, .ref a)]) hl [0, 1, 2] rfl) (by simp only [e0_0, e0_1]))
set_option maxHeartbeats 4000000 in
set_option maxRecDepth 100000 in
theorem m_X0_timesAsked (l : Launch) (D : va_G) (g : Nat) (ad : Nat → Nat) (cI : ClassId) (G : Nat → Int → Int)  : MW l D yX0_timesAsked (wsY yX0_timesAsked cX0_timesAsked 1 (some .int)) { frames := 1, cells := 0, slots := 0, locals := 22 } [(cI, .int)] [.ref g] (wG g ad cI G) (wG g ad cI G) (some (.int (iI (sumZ 9 (G 10))))) := by
  refine mw_ofI (cc := cX0_timesAsked) (maxL := 1) (by decide) rfl (Nat.le_of_ble_eq_true rfl) ?_
  intro p e s m below meth c R A Q args ls hx hb hml hown hts hRf hRl hRc hRs hN hK hP hD hS hA hret hl
  have hq : ∀ w ∈ ALL, w.before args s = true := fun w h => hts w (List.mem_cons_of_mem _ h)
  have hl : lv_has ls 1 [(0, .ref g)] := hl
  refine lv_aload_n hx hb dX0_timesAsked_0 rfl (lv_at hl 0 rfl) ?_
  refine va_get (D := D) (ci := 0) (v := .ref (ad 10)) (C := RX0) (T := TX0) (N := 13) hx hb hq inA0 hown hK hP 0 rfl rfl 10 (by decide) (hq _ q_21) (fun _ h9 => h9) rfl dX0_timesAsked_1 ?_
  refine mw_part (st1 := [.int (iI (sumZ 9 (G 10)))]) (w1 := (wG g ad cI G)) (mr_S (As := [.ref (ad 10)]) (rest := []) ⟨hx, hb, hml, hown, hts⟩ (m_X0_sum l D (ad 10) cI 9 (G 10)  (by omega)) (va_cwS 1 hts (gS q_127 q_128 q_8 q_126) rfl rfl rfl (by decide +kernel) ⟨Nat.le_trans (m := 1) (Nat.le_of_ble_eq_true rfl) (Nat.le_trans (Nat.le_of_ble_eq_true rfl) hRf), Nat.le_trans (m := 22) (Nat.le_of_ble_eq_true rfl) (Nat.le_trans (Nat.le_of_ble_eq_true rfl) hRl)⟩) hN hK (hP.sub (ws' := [((ad 10), .inl (cI, 9, .inl (aI (G 10))))]) [11] rfl) (hD.sub (ws' := [((ad 10), .inl (cI, 9, .inl (aI (G 10))))]) [11] (by decide) rfl) rfl hl.1 (Nat.le_of_ble_eq_true rfl) ⟨hRc, hRs⟩ dX0_timesAsked_4) hP hD hS hA [11] [0, 1, 2, 3, 4, 5, 6, 7, 8, 9, 10, 12] [0, 1, 2, 3, 4, 5, 6, 7, 8, 9, 10, 12, 11] rfl (wr := ([0, 1, 2, 3, 4, 5, 6, 7, 8, 9, 10, 12].filterMap (fun i => ((wG g ad cI G))[i]?))) rfl (by decide) (by decide) (by decide) rfl rfl (fun H locs hP hD hS => ?_)
  first | exact hret _ _ _ _ dX0_timesAsked_7 hP hD hS | (exfalso; omega)
set_option maxHeartbeats 4000000 in
set_option maxRecDepth 100000 in
theorem m_X0_tally (l : Launch) (D : va_G) (g : Nat) (ad : Nat → Nat) (cI : ClassId) (G : Nat → Int → Int) (w : Int) {B : Int} (hI : InvG B G) (h1 : -2147483648 ≤ w ∧ w < 2147483648)  : MW l D yX0_tally (wsY yX0_tally cX0_tally 2 (some .int)) { frames := 4, cells := 0, slots := 0, locals := 91 } [(cI, .int)] [.ref g, .int (iI w)] (wG g ad cI G) (wG g ad cI G) (some (.int (iI (tallyV G w)))) := by
  refine mw_ofI (cc := cX0_tally) (maxL := 2) (by decide) rfl (Nat.le_of_ble_eq_true rfl) ?_
  intro p e s m below meth c R A Q args ls hx hb hml hown hts hRf hRl hRc hRs hN hK hP hD hS hA hret hl
  have hq : ∀ w ∈ ALL, w.before args s = true := fun w h => hts w (List.mem_cons_of_mem _ h)
  have hl : lv_has ls 2 [(0, .ref g), (1, .int (iI w))] := hl
  refine lv_iload_n hx hb dX0_tally_0 rfl (lv_at hl 1 rfl) ?_
  rcases z_tab w 0 22 with c_1 | c_1
  · refine lv_tableOut (tgt := 225) hx hb dX0_tally_1 (by rw [iI_t (by omega)]; exact c_1) (by decide) ?_
    refine z_ldc hx hb (-1000001) (by decide +kernel) hown (hq _ q_39) dX0_tally_225 ?_
    refine z_as (show (-1000001) = tallyV G w from by first | rfl | omega | (unfold tallyV; omega)) ?_
    first | exact hret _ _ _ _ dX0_tally_227 hP hD hS | (exfalso; omega)
  · have c_2 : w = 0 ∨ w = 1 ∨ w = 2 ∨ w = 3 ∨ w = 4 ∨ w = 5 ∨ w = 6 ∨ w = 7 ∨ w = 8 ∨ w = 9 ∨ w = 10 ∨ w = 11 ∨ w = 12 ∨ w = 13 ∨ w = 14 ∨ w = 15 ∨ w = 16 ∨ w = 17 ∨ w = 18 ∨ w = 19 ∨ w = 20 ∨ w = 21 ∨ w = 22 := by omega
    rcases c_2 with c_2 | c_2 | c_2 | c_2 | c_2 | c_2 | c_2 | c_2 | c_2 | c_2 | c_2 | c_2 | c_2 | c_2 | c_2 | c_2 | c_2 | c_2 | c_2 | c_2 | c_2 | c_2 | c_2
    · refine lv_tableIn (tgt := 108) (off := 107) hx hb dX0_tally_1 (by rw [iI_t (by omega)]; omega) (by rw [iI_t (by omega)]; omega) (by rw [iI_t (by omega), c_2]; rfl) (by decide) ?_
      refine lv_aload_n hx hb dX0_tally_108 rfl (lv_at hl 0 rfl) ?_
      refine va_get (D := D) (ci := 0) (v := .int (iI (G 12 0))) (C := RX0) (T := TX0) (N := 13) hx hb hq inA0 hown hK hP 0 rfl rfl 12 (by decide) (hq _ q_5) (fun _ h9 => h9) rfl dX0_tally_109 ?_
      refine z_as (show (G 12 0) = tallyV G w from by first | rfl | omega | (unfold tallyV; omega)) ?_
      first | exact hret _ _ _ _ dX0_tally_112 hP hD hS | (exfalso; omega)
    · refine lv_tableIn (tgt := 113) (off := 112) hx hb dX0_tally_1 (by rw [iI_t (by omega)]; omega) (by rw [iI_t (by omega)]; omega) (by rw [iI_t (by omega), c_2]; rfl) (by decide) ?_
      refine lv_aload_n hx hb dX0_tally_113 rfl (lv_at hl 0 rfl) ?_
      refine mw_full (st1 := [.int (iI (allWrongZ G 6))]) (mr_V (As := []) (rest := []) (ci := 0) (q0 := 0) ⟨hx, hb, hml, hown, hts⟩ (m_X0_allWrongCells l D g ad cI G  hI) (cwV 0 hts (gV q_132 q_133 q_134 q_8 q_123) rfl rfl rfl (by decide +kernel) ⟨Nat.le_trans (m := 4) (Nat.le_of_ble_eq_true rfl) (Nat.le_trans (Nat.le_of_ble_eq_true rfl) hRf), Nat.le_trans (m := 91) (Nat.le_of_ble_eq_true rfl) (Nat.le_trans (Nat.le_of_ble_eq_true rfl) hRl)⟩) hN hK hP hD rfl rfl rfl hl.1 (Nat.le_of_ble_eq_true rfl) ⟨hRc, hRs⟩ dX0_tally_114) hD hS hA rfl (fun H locs hP hD hS => ?_)
      refine z_as (show allWrongZ G 6 = tallyV G w from by first | rfl | omega | (unfold tallyV; omega)) ?_
      first | exact hret _ _ _ _ dX0_tally_117 hP hD hS | (exfalso; omega)
    · refine lv_tableIn (tgt := 118) (off := 117) hx hb dX0_tally_1 (by rw [iI_t (by omega)]; omega) (by rw [iI_t (by omega)]; omega) (by rw [iI_t (by omega), c_2]; rfl) (by decide) ?_
      refine lv_aload_n hx hb dX0_tally_118 rfl (lv_at hl 0 rfl) ?_
      refine mw_full (st1 := [.int (iI (rowSetZ G))]) (mr_V (As := []) (rest := []) (ci := 0) (q0 := 0) ⟨hx, hb, hml, hown, hts⟩ (m_X0_rowsWithWrongCells l D g ad cI G  hI) (cwV 0 hts (gV q_135 q_136 q_137 q_8 q_124) rfl rfl rfl (by decide +kernel) ⟨Nat.le_trans (m := 4) (Nat.le_of_ble_eq_true rfl) (Nat.le_trans (Nat.le_of_ble_eq_true rfl) hRf), Nat.le_trans (m := 91) (Nat.le_of_ble_eq_true rfl) (Nat.le_trans (Nat.le_of_ble_eq_true rfl) hRl)⟩) hN hK hP hD rfl rfl rfl hl.1 (Nat.le_of_ble_eq_true rfl) ⟨hRc, hRs⟩ dX0_tally_119) hD hS hA rfl (fun H locs hP hD hS => ?_)
      refine z_as (show rowSetZ G = tallyV G w from by first | rfl | omega | (unfold tallyV; omega)) ?_
      first | exact hret _ _ _ _ dX0_tally_122 hP hD hS | (exfalso; omega)
    · refine lv_tableIn (tgt := 123) (off := 122) hx hb dX0_tally_1 (by rw [iI_t (by omega)]; omega) (by rw [iI_t (by omega)]; omega) (by rw [iI_t (by omega), c_2]; rfl) (by decide) ?_
      refine lv_aload_n hx hb dX0_tally_123 rfl (lv_at hl 0 rfl) ?_
      refine z_iconst hx hb dX0_tally_124 ?_
      refine mw_full (st1 := [.int (iI (srcSetZ G 0))]) (mr_V (As := [.int (iI 0)]) (rest := []) (ci := 0) (q0 := 0) ⟨hx, hb, hml, hown, hts⟩ (m_X0_rowsToldBy l D g ad cI G 0 hI (by omega)) (cwV 1 hts (gV q_138 q_139 q_140 q_8 q_125) rfl rfl rfl (by decide +kernel) ⟨Nat.le_trans (m := 3) (Nat.le_of_ble_eq_true rfl) (Nat.le_trans (Nat.le_of_ble_eq_true rfl) hRf), Nat.le_trans (m := 66) (Nat.le_of_ble_eq_true rfl) (Nat.le_trans (Nat.le_of_ble_eq_true rfl) hRl)⟩) hN hK hP hD rfl rfl rfl hl.1 (Nat.le_of_ble_eq_true rfl) ⟨hRc, hRs⟩ dX0_tally_125) hD hS hA rfl (fun H locs hP hD hS => ?_)
      refine z_as (show srcSetZ G 0 = tallyV G w from by first | rfl | omega | (unfold tallyV; omega)) ?_
      first | exact hret _ _ _ _ dX0_tally_128 hP hD hS | (exfalso; omega)
    · refine lv_tableIn (tgt := 129) (off := 128) hx hb dX0_tally_1 (by rw [iI_t (by omega)]; omega) (by rw [iI_t (by omega)]; omega) (by rw [iI_t (by omega), c_2]; rfl) (by decide) ?_
      refine lv_aload_n hx hb dX0_tally_129 rfl (lv_at hl 0 rfl) ?_
      refine z_iconst hx hb dX0_tally_130 ?_
      refine mw_full (st1 := [.int (iI (srcSetZ G 1))]) (mr_V (As := [.int (iI 1)]) (rest := []) (ci := 0) (q0 := 0) ⟨hx, hb, hml, hown, hts⟩ (m_X0_rowsToldBy l D g ad cI G 1 hI (by omega)) (cwV 1 hts (gV q_138 q_139 q_140 q_8 q_125) rfl rfl rfl (by decide +kernel) ⟨Nat.le_trans (m := 3) (Nat.le_of_ble_eq_true rfl) (Nat.le_trans (Nat.le_of_ble_eq_true rfl) hRf), Nat.le_trans (m := 66) (Nat.le_of_ble_eq_true rfl) (Nat.le_trans (Nat.le_of_ble_eq_true rfl) hRl)⟩) hN hK hP hD rfl rfl rfl hl.1 (Nat.le_of_ble_eq_true rfl) ⟨hRc, hRs⟩ dX0_tally_131) hD hS hA rfl (fun H locs hP hD hS => ?_)
      refine z_as (show srcSetZ G 1 = tallyV G w from by first | rfl | omega | (unfold tallyV; omega)) ?_
      first | exact hret _ _ _ _ dX0_tally_134 hP hD hS | (exfalso; omega)
    · refine lv_tableIn (tgt := 135) (off := 134) hx hb dX0_tally_1 (by rw [iI_t (by omega)]; omega) (by rw [iI_t (by omega)]; omega) (by rw [iI_t (by omega), c_2]; rfl) (by decide) ?_
      refine lv_aload_n hx hb dX0_tally_135 rfl (lv_at hl 0 rfl) ?_
      refine z_iconst hx hb dX0_tally_136 ?_
      refine mw_full (st1 := [.int (iI (srcSetZ G 2))]) (mr_V (As := [.int (iI 2)]) (rest := []) (ci := 0) (q0 := 0) ⟨hx, hb, hml, hown, hts⟩ (m_X0_rowsToldBy l D g ad cI G 2 hI (by omega)) (cwV 1 hts (gV q_138 q_139 q_140 q_8 q_125) rfl rfl rfl (by decide +kernel) ⟨Nat.le_trans (m := 3) (Nat.le_of_ble_eq_true rfl) (Nat.le_trans (Nat.le_of_ble_eq_true rfl) hRf), Nat.le_trans (m := 66) (Nat.le_of_ble_eq_true rfl) (Nat.le_trans (Nat.le_of_ble_eq_true rfl) hRl)⟩) hN hK hP hD rfl rfl rfl hl.1 (Nat.le_of_ble_eq_true rfl) ⟨hRc, hRs⟩ dX0_tally_137) hD hS hA rfl (fun H locs hP hD hS => ?_)
      refine z_as (show srcSetZ G 2 = tallyV G w from by first | rfl | omega | (unfold tallyV; omega)) ?_
      first | exact hret _ _ _ _ dX0_tally_140 hP hD hS | (exfalso; omega)
    · refine lv_tableIn (tgt := 141) (off := 140) hx hb dX0_tally_1 (by rw [iI_t (by omega)]; omega) (by rw [iI_t (by omega)]; omega) (by rw [iI_t (by omega), c_2]; rfl) (by decide) ?_
      refine lv_aload_n hx hb dX0_tally_141 rfl (lv_at hl 0 rfl) ?_
      refine va_get (D := D) (ci := 0) (v := .ref (ad 5)) (C := RX0) (T := TX0) (N := 13) hx hb hq inA0 hown hK hP 0 rfl rfl 5 (by decide) (hq _ q_10) (fun _ h9 => h9) rfl dX0_tally_142 ?_
      refine mw_part (st1 := [.int (iI (sumZ 18 (G 5)))]) (w1 := (wG g ad cI G)) (mr_S (As := [.ref (ad 5)]) (rest := []) ⟨hx, hb, hml, hown, hts⟩ (m_X0_sum l D (ad 5) cI 18 (G 5)  (by omega)) (va_cwS 1 hts (gS q_127 q_128 q_8 q_126) rfl rfl rfl (by decide +kernel) ⟨Nat.le_trans (m := 1) (Nat.le_of_ble_eq_true rfl) (Nat.le_trans (Nat.le_of_ble_eq_true rfl) hRf), Nat.le_trans (m := 22) (Nat.le_of_ble_eq_true rfl) (Nat.le_trans (Nat.le_of_ble_eq_true rfl) hRl)⟩) hN hK (hP.sub (ws' := [((ad 5), .inl (cI, 18, .inl (aI (G 5))))]) [6] rfl) (hD.sub (ws' := [((ad 5), .inl (cI, 18, .inl (aI (G 5))))]) [6] (by decide) rfl) rfl hl.1 (Nat.le_of_ble_eq_true rfl) ⟨hRc, hRs⟩ dX0_tally_145) hP hD hS hA [6] [0, 1, 2, 3, 4, 5, 7, 8, 9, 10, 11, 12] [0, 1, 2, 3, 4, 5, 12, 6, 7, 8, 9, 10, 11] rfl (wr := ([0, 1, 2, 3, 4, 5, 7, 8, 9, 10, 11, 12].filterMap (fun i => ((wG g ad cI G))[i]?))) rfl (by decide) (by decide) (by decide) rfl rfl (fun H locs hP hD hS => ?_)
      refine z_as (show sumZ 18 (G 5) = tallyV G w from by first | rfl | omega | (unfold tallyV; omega)) ?_
      first | exact hret _ _ _ _ dX0_tally_148 hP hD hS | (exfalso; omega)
    · refine lv_tableIn (tgt := 149) (off := 148) hx hb dX0_tally_1 (by rw [iI_t (by omega)]; omega) (by rw [iI_t (by omega)]; omega) (by rw [iI_t (by omega), c_2]; rfl) (by decide) ?_
      refine lv_aload_n hx hb dX0_tally_149 rfl (lv_at hl 0 rfl) ?_
      refine va_get (D := D) (ci := 0) (v := .ref (ad 8)) (C := RX0) (T := TX0) (N := 13) hx hb hq inA0 hown hK hP 0 rfl rfl 8 (by decide) (hq _ q_19) (fun _ h9 => h9) rfl dX0_tally_150 ?_
      refine mw_part (st1 := [.int (iI (sumZ 6 (G 8)))]) (w1 := (wG g ad cI G)) (mr_S (As := [.ref (ad 8)]) (rest := []) ⟨hx, hb, hml, hown, hts⟩ (m_X0_sum l D (ad 8) cI 6 (G 8)  (by omega)) (va_cwS 1 hts (gS q_127 q_128 q_8 q_126) rfl rfl rfl (by decide +kernel) ⟨Nat.le_trans (m := 1) (Nat.le_of_ble_eq_true rfl) (Nat.le_trans (Nat.le_of_ble_eq_true rfl) hRf), Nat.le_trans (m := 22) (Nat.le_of_ble_eq_true rfl) (Nat.le_trans (Nat.le_of_ble_eq_true rfl) hRl)⟩) hN hK (hP.sub (ws' := [((ad 8), .inl (cI, 6, .inl (aI (G 8))))]) [9] rfl) (hD.sub (ws' := [((ad 8), .inl (cI, 6, .inl (aI (G 8))))]) [9] (by decide) rfl) rfl hl.1 (Nat.le_of_ble_eq_true rfl) ⟨hRc, hRs⟩ dX0_tally_153) hP hD hS hA [9] [0, 1, 2, 3, 4, 5, 6, 7, 8, 10, 11, 12] [0, 1, 2, 3, 4, 5, 6, 7, 8, 12, 9, 10, 11] rfl (wr := ([0, 1, 2, 3, 4, 5, 6, 7, 8, 10, 11, 12].filterMap (fun i => ((wG g ad cI G))[i]?))) rfl (by decide) (by decide) (by decide) rfl rfl (fun H locs hP hD hS => ?_)
      refine z_as (show sumZ 6 (G 8) = tallyV G w from by first | rfl | omega | (unfold tallyV; omega)) ?_
      first | exact hret _ _ _ _ dX0_tally_156 hP hD hS | (exfalso; omega)
    · refine lv_tableIn (tgt := 157) (off := 156) hx hb dX0_tally_1 (by rw [iI_t (by omega)]; omega) (by rw [iI_t (by omega)]; omega) (by rw [iI_t (by omega), c_2]; rfl) (by decide) ?_
      refine lv_aload_n hx hb dX0_tally_157 rfl (lv_at hl 0 rfl) ?_
      refine va_get (D := D) (ci := 0) (v := .ref (ad 2)) (C := RX0) (T := TX0) (N := 13) hx hb hq inA0 hown hK hP 0 rfl rfl 2 (by decide) (hq _ q_1) (fun _ h9 => h9) rfl dX0_tally_158 ?_
      refine mw_part (st1 := [.int (iI (sumZ 48 (G 2)))]) (w1 := (wG g ad cI G)) (mr_S (As := [.ref (ad 2)]) (rest := []) ⟨hx, hb, hml, hown, hts⟩ (m_X0_sum l D (ad 2) cI 48 (G 2)  (by omega)) (va_cwS 1 hts (gS q_127 q_128 q_8 q_126) rfl rfl rfl (by decide +kernel) ⟨Nat.le_trans (m := 1) (Nat.le_of_ble_eq_true rfl) (Nat.le_trans (Nat.le_of_ble_eq_true rfl) hRf), Nat.le_trans (m := 22) (Nat.le_of_ble_eq_true rfl) (Nat.le_trans (Nat.le_of_ble_eq_true rfl) hRl)⟩) hN hK (hP.sub (ws' := [((ad 2), .inl (cI, 48, .inl (aI (G 2))))]) [3] rfl) (hD.sub (ws' := [((ad 2), .inl (cI, 48, .inl (aI (G 2))))]) [3] (by decide) rfl) rfl hl.1 (Nat.le_of_ble_eq_true rfl) ⟨hRc, hRs⟩ dX0_tally_161) hP hD hS hA [3] [0, 1, 2, 4, 5, 6, 7, 8, 9, 10, 11, 12] [0, 1, 2, 12, 3, 4, 5, 6, 7, 8, 9, 10, 11] rfl (wr := ([0, 1, 2, 4, 5, 6, 7, 8, 9, 10, 11, 12].filterMap (fun i => ((wG g ad cI G))[i]?))) rfl (by decide) (by decide) (by decide) rfl rfl (fun H locs hP hD hS => ?_)
      refine z_bipush hx hb dX0_tally_164 (by decide +kernel) ?_
      refine z_isub hx hb dX0_tally_166 ?_
      refine z_as (show (sumZ 48 (G 2) - 48) = tallyV G w from by first | rfl | omega | (unfold tallyV; omega)) ?_
      first | exact hret _ _ _ _ dX0_tally_167 hP hD hS | (exfalso; omega)
    · refine lv_tableIn (tgt := 168) (off := 167) hx hb dX0_tally_1 (by rw [iI_t (by omega)]; omega) (by rw [iI_t (by omega)]; omega) (by rw [iI_t (by omega), c_2]; rfl) (by decide) ?_
      refine lv_aload_n hx hb dX0_tally_168 rfl (lv_at hl 0 rfl) ?_
      refine va_get (D := D) (ci := 0) (v := .ref (ad 9)) (C := RX0) (T := TX0) (N := 13) hx hb hq inA0 hown hK hP 0 rfl rfl 9 (by decide) (hq _ q_20) (fun _ h9 => h9) rfl dX0_tally_169 ?_
      refine mw_part (st1 := [.int (iI (sumZ 6 (G 9)))]) (w1 := (wG g ad cI G)) (mr_S (As := [.ref (ad 9)]) (rest := []) ⟨hx, hb, hml, hown, hts⟩ (m_X0_sum l D (ad 9) cI 6 (G 9)  (by omega)) (va_cwS 1 hts (gS q_127 q_128 q_8 q_126) rfl rfl rfl (by decide +kernel) ⟨Nat.le_trans (m := 1) (Nat.le_of_ble_eq_true rfl) (Nat.le_trans (Nat.le_of_ble_eq_true rfl) hRf), Nat.le_trans (m := 22) (Nat.le_of_ble_eq_true rfl) (Nat.le_trans (Nat.le_of_ble_eq_true rfl) hRl)⟩) hN hK (hP.sub (ws' := [((ad 9), .inl (cI, 6, .inl (aI (G 9))))]) [10] rfl) (hD.sub (ws' := [((ad 9), .inl (cI, 6, .inl (aI (G 9))))]) [10] (by decide) rfl) rfl hl.1 (Nat.le_of_ble_eq_true rfl) ⟨hRc, hRs⟩ dX0_tally_172) hP hD hS hA [10] [0, 1, 2, 3, 4, 5, 6, 7, 8, 9, 11, 12] [0, 1, 2, 3, 4, 5, 6, 7, 8, 9, 12, 10, 11] rfl (wr := ([0, 1, 2, 3, 4, 5, 6, 7, 8, 9, 11, 12].filterMap (fun i => ((wG g ad cI G))[i]?))) rfl (by decide) (by decide) (by decide) rfl rfl (fun H locs hP hD hS => ?_)
      refine z_as (show sumZ 6 (G 9) = tallyV G w from by first | rfl | omega | (unfold tallyV; omega)) ?_
      first | exact hret _ _ _ _ dX0_tally_175 hP hD hS | (exfalso; omega)
    · refine lv_tableIn (tgt := 176) (off := 175) hx hb dX0_tally_1 (by rw [iI_t (by omega)]; omega) (by rw [iI_t (by omega)]; omega) (by rw [iI_t (by omega), c_2]; rfl) (by decide) ?_
      refine lv_aload_n hx hb dX0_tally_176 rfl (lv_at hl 0 rfl) ?_
      refine mw_full (st1 := [.int (iI (sumZ 9 (G 10)))]) (mr_V (As := []) (rest := []) (ci := 0) (q0 := 0) ⟨hx, hb, hml, hown, hts⟩ (m_X0_timesAsked l D g ad cI G  ) (cwV 0 hts (gV q_141 q_142 q_143 q_8 q_129) rfl rfl rfl (by decide +kernel) ⟨Nat.le_trans (m := 2) (Nat.le_of_ble_eq_true rfl) (Nat.le_trans (Nat.le_of_ble_eq_true rfl) hRf), Nat.le_trans (m := 42) (Nat.le_of_ble_eq_true rfl) (Nat.le_trans (Nat.le_of_ble_eq_true rfl) hRl)⟩) hN hK hP hD rfl rfl rfl hl.1 (Nat.le_of_ble_eq_true rfl) ⟨hRc, hRs⟩ dX0_tally_177) hD hS hA rfl (fun H locs hP hD hS => ?_)
      refine z_as (show sumZ 9 (G 10) = tallyV G w from by first | rfl | omega | (unfold tallyV; omega)) ?_
      first | exact hret _ _ _ _ dX0_tally_180 hP hD hS | (exfalso; omega)
    · refine lv_tableIn (tgt := 181) (off := 180) hx hb dX0_tally_1 (by rw [iI_t (by omega)]; omega) (by rw [iI_t (by omega)]; omega) (by rw [iI_t (by omega), c_2]; rfl) (by decide) ?_
      refine lv_aload_n hx hb dX0_tally_181 rfl (lv_at hl 0 rfl) ?_
      refine mw_full (st1 := [.int (iI (pairsZ G 9))]) (mr_V (As := []) (rest := []) (ci := 0) (q0 := 0) ⟨hx, hb, hml, hown, hts⟩ (m_X0_pairsTold l D g ad cI G  hI) (cwV 0 hts (gV q_144 q_145 q_146 q_8 q_130) rfl rfl rfl (by decide +kernel) ⟨Nat.le_trans (m := 1) (Nat.le_of_ble_eq_true rfl) (Nat.le_trans (Nat.le_of_ble_eq_true rfl) hRf), Nat.le_trans (m := 22) (Nat.le_of_ble_eq_true rfl) (Nat.le_trans (Nat.le_of_ble_eq_true rfl) hRl)⟩) hN hK hP hD rfl rfl rfl hl.1 (Nat.le_of_ble_eq_true rfl) ⟨hRc, hRs⟩ dX0_tally_182) hD hS hA rfl (fun H locs hP hD hS => ?_)
      refine z_as (show pairsZ G 9 = tallyV G w from by first | rfl | omega | (unfold tallyV; omega)) ?_
      first | exact hret _ _ _ _ dX0_tally_185 hP hD hS | (exfalso; omega)
    · refine lv_tableIn (tgt := 186) (off := 185) hx hb dX0_tally_1 (by rw [iI_t (by omega)]; omega) (by rw [iI_t (by omega)]; omega) (by rw [iI_t (by omega), c_2]; rfl) (by decide) ?_
      refine lv_aload_n hx hb dX0_tally_186 rfl (lv_at hl 0 rfl) ?_
      refine z_iconst hx hb dX0_tally_187 ?_
      refine mw_full (st1 := [.int (iI (ofLevelZ G 0 48))]) (mr_V (As := [.int (iI 0)]) (rest := []) (ci := 0) (q0 := 0) ⟨hx, hb, hml, hown, hts⟩ (m_X0_cellsOfLevel l D g ad cI G 0 hI (by omega)) (cwV 1 hts (gV q_147 q_148 q_149 q_8 q_131) rfl rfl rfl (by decide +kernel) ⟨Nat.le_trans (m := 1) (Nat.le_of_ble_eq_true rfl) (Nat.le_trans (Nat.le_of_ble_eq_true rfl) hRf), Nat.le_trans (m := 23) (Nat.le_of_ble_eq_true rfl) (Nat.le_trans (Nat.le_of_ble_eq_true rfl) hRl)⟩) hN hK hP hD rfl rfl rfl hl.1 (Nat.le_of_ble_eq_true rfl) ⟨hRc, hRs⟩ dX0_tally_188) hD hS hA rfl (fun H locs hP hD hS => ?_)
      refine z_as (show ofLevelZ G 0 48 = tallyV G w from by first | rfl | omega | (unfold tallyV; omega)) ?_
      first | exact hret _ _ _ _ dX0_tally_191 hP hD hS | (exfalso; omega)
    · refine lv_tableIn (tgt := 192) (off := 191) hx hb dX0_tally_1 (by rw [iI_t (by omega)]; omega) (by rw [iI_t (by omega)]; omega) (by rw [iI_t (by omega), c_2]; rfl) (by decide) ?_
      refine lv_aload_n hx hb dX0_tally_192 rfl (lv_at hl 0 rfl) ?_
      refine z_iconst hx hb dX0_tally_193 ?_
      refine mw_full (st1 := [.int (iI (ofLevelZ G 1 48))]) (mr_V (As := [.int (iI 1)]) (rest := []) (ci := 0) (q0 := 0) ⟨hx, hb, hml, hown, hts⟩ (m_X0_cellsOfLevel l D g ad cI G 1 hI (by omega)) (cwV 1 hts (gV q_147 q_148 q_149 q_8 q_131) rfl rfl rfl (by decide +kernel) ⟨Nat.le_trans (m := 1) (Nat.le_of_ble_eq_true rfl) (Nat.le_trans (Nat.le_of_ble_eq_true rfl) hRf), Nat.le_trans (m := 23) (Nat.le_of_ble_eq_true rfl) (Nat.le_trans (Nat.le_of_ble_eq_true rfl) hRl)⟩) hN hK hP hD rfl rfl rfl hl.1 (Nat.le_of_ble_eq_true rfl) ⟨hRc, hRs⟩ dX0_tally_194) hD hS hA rfl (fun H locs hP hD hS => ?_)
      refine z_as (show ofLevelZ G 1 48 = tallyV G w from by first | rfl | omega | (unfold tallyV; omega)) ?_
      first | exact hret _ _ _ _ dX0_tally_197 hP hD hS | (exfalso; omega)
    · refine lv_tableIn (tgt := 198) (off := 197) hx hb dX0_tally_1 (by rw [iI_t (by omega)]; omega) (by rw [iI_t (by omega)]; omega) (by rw [iI_t (by omega), c_2]; rfl) (by decide) ?_
      refine lv_aload_n hx hb dX0_tally_198 rfl (lv_at hl 0 rfl) ?_
      refine z_iconst hx hb dX0_tally_199 ?_
      refine mw_full (st1 := [.int (iI (ofLevelZ G 2 48))]) (mr_V (As := [.int (iI 2)]) (rest := []) (ci := 0) (q0 := 0) ⟨hx, hb, hml, hown, hts⟩ (m_X0_cellsOfLevel l D g ad cI G 2 hI (by omega)) (cwV 1 hts (gV q_147 q_148 q_149 q_8 q_131) rfl rfl rfl (by decide +kernel) ⟨Nat.le_trans (m := 1) (Nat.le_of_ble_eq_true rfl) (Nat.le_trans (Nat.le_of_ble_eq_true rfl) hRf), Nat.le_trans (m := 23) (Nat.le_of_ble_eq_true rfl) (Nat.le_trans (Nat.le_of_ble_eq_true rfl) hRl)⟩) hN hK hP hD rfl rfl rfl hl.1 (Nat.le_of_ble_eq_true rfl) ⟨hRc, hRs⟩ dX0_tally_200) hD hS hA rfl (fun H locs hP hD hS => ?_)
      refine z_as (show ofLevelZ G 2 48 = tallyV G w from by first | rfl | omega | (unfold tallyV; omega)) ?_
      first | exact hret _ _ _ _ dX0_tally_203 hP hD hS | (exfalso; omega)
    · refine lv_tableIn (tgt := 225) (off := 224) hx hb dX0_tally_1 (by rw [iI_t (by omega)]; omega) (by rw [iI_t (by omega)]; omega) (by rw [iI_t (by omega), c_2]; rfl) (by decide) ?_
      refine z_ldc hx hb (-1000001) (by decide +kernel) hown (hq _ q_39) dX0_tally_225 ?_
      refine z_as (show (-1000001) = tallyV G w from by first | rfl | omega | (unfold tallyV; omega)) ?_
      first | exact hret _ _ _ _ dX0_tally_227 hP hD hS | (exfalso; omega)
    · refine lv_tableIn (tgt := 225) (off := 224) hx hb dX0_tally_1 (by rw [iI_t (by omega)]; omega) (by rw [iI_t (by omega)]; omega) (by rw [iI_t (by omega), c_2]; rfl) (by decide) ?_
      refine z_ldc hx hb (-1000001) (by decide +kernel) hown (hq _ q_39) dX0_tally_225 ?_
      refine z_as (show (-1000001) = tallyV G w from by first | rfl | omega | (unfold tallyV; omega)) ?_
      first | exact hret _ _ _ _ dX0_tally_227 hP hD hS | (exfalso; omega)
    · refine lv_tableIn (tgt := 225) (off := 224) hx hb dX0_tally_1 (by rw [iI_t (by omega)]; omega) (by rw [iI_t (by omega)]; omega) (by rw [iI_t (by omega), c_2]; rfl) (by decide) ?_
      refine z_ldc hx hb (-1000001) (by decide +kernel) hown (hq _ q_39) dX0_tally_225 ?_
      refine z_as (show (-1000001) = tallyV G w from by first | rfl | omega | (unfold tallyV; omega)) ?_
      first | exact hret _ _ _ _ dX0_tally_227 hP hD hS | (exfalso; omega)
    · refine lv_tableIn (tgt := 225) (off := 224) hx hb dX0_tally_1 (by rw [iI_t (by omega)]; omega) (by rw [iI_t (by omega)]; omega) (by rw [iI_t (by omega), c_2]; rfl) (by decide) ?_
      refine z_ldc hx hb (-1000001) (by decide +kernel) hown (hq _ q_39) dX0_tally_225 ?_
      refine z_as (show (-1000001) = tallyV G w from by first | rfl | omega | (unfold tallyV; omega)) ?_
      first | exact hret _ _ _ _ dX0_tally_227 hP hD hS | (exfalso; omega)
    · refine lv_tableIn (tgt := 225) (off := 224) hx hb dX0_tally_1 (by rw [iI_t (by omega)]; omega) (by rw [iI_t (by omega)]; omega) (by rw [iI_t (by omega), c_2]; rfl) (by decide) ?_
      refine z_ldc hx hb (-1000001) (by decide +kernel) hown (hq _ q_39) dX0_tally_225 ?_
      refine z_as (show (-1000001) = tallyV G w from by first | rfl | omega | (unfold tallyV; omega)) ?_
      first | exact hret _ _ _ _ dX0_tally_227 hP hD hS | (exfalso; omega)
    · refine lv_tableIn (tgt := 204) (off := 203) hx hb dX0_tally_1 (by rw [iI_t (by omega)]; omega) (by rw [iI_t (by omega)]; omega) (by rw [iI_t (by omega), c_2]; rfl) (by decide) ?_
      refine lv_aload_n hx hb dX0_tally_204 rfl (lv_at hl 0 rfl) ?_
      refine va_get (D := D) (ci := 0) (v := .ref (ad 11)) (C := RX0) (T := TX0) (N := 13) hx hb hq inA0 hown hK hP 0 rfl rfl 11 (by decide) (hq _ q_22) (fun _ h9 => h9) rfl dX0_tally_205 ?_
      refine z_iconst hx hb dX0_tally_208 ?_
      refine z_iald hx hb hK hP 12 0 rfl rfl (by omega) (by omega) (v := (G 11 0)) rfl dX0_tally_209 ?_
      have hv_3 := invG_11 hI 0 (by omega) (by omega)
      refine z_as (show (G 11 0) = tallyV G w from by first | rfl | omega | (unfold tallyV; omega)) ?_
      first | exact hret _ _ _ _ dX0_tally_210 hP hD hS | (exfalso; omega)
    · refine lv_tableIn (tgt := 211) (off := 210) hx hb dX0_tally_1 (by rw [iI_t (by omega)]; omega) (by rw [iI_t (by omega)]; omega) (by rw [iI_t (by omega), c_2]; rfl) (by decide) ?_
      refine lv_aload_n hx hb dX0_tally_211 rfl (lv_at hl 0 rfl) ?_
      refine va_get (D := D) (ci := 0) (v := .ref (ad 11)) (C := RX0) (T := TX0) (N := 13) hx hb hq inA0 hown hK hP 0 rfl rfl 11 (by decide) (hq _ q_22) (fun _ h9 => h9) rfl dX0_tally_212 ?_
      refine z_iconst hx hb dX0_tally_215 ?_
      refine z_iald hx hb hK hP 12 0 rfl rfl (by omega) (by omega) (v := (G 11 1)) rfl dX0_tally_216 ?_
      have hv_4 := invG_11 hI 1 (by omega) (by omega)
      refine z_as (show (G 11 1) = tallyV G w from by first | rfl | omega | (unfold tallyV; omega)) ?_
      first | exact hret _ _ _ _ dX0_tally_217 hP hD hS | (exfalso; omega)
    · refine lv_tableIn (tgt := 218) (off := 217) hx hb dX0_tally_1 (by rw [iI_t (by omega)]; omega) (by rw [iI_t (by omega)]; omega) (by rw [iI_t (by omega), c_2]; rfl) (by decide) ?_
      refine lv_aload_n hx hb dX0_tally_218 rfl (lv_at hl 0 rfl) ?_
      refine va_get (D := D) (ci := 0) (v := .ref (ad 11)) (C := RX0) (T := TX0) (N := 13) hx hb hq inA0 hown hK hP 0 rfl rfl 11 (by decide) (hq _ q_22) (fun _ h9 => h9) rfl dX0_tally_219 ?_
      refine z_iconst hx hb dX0_tally_222 ?_
      refine z_iald hx hb hK hP 12 0 rfl rfl (by omega) (by omega) (v := (G 11 2)) rfl dX0_tally_223 ?_
      have hv_5 := invG_11 hI 2 (by omega) (by omega)
      refine z_as (show (G 11 2) = tallyV G w from by first | rfl | omega | (unfold tallyV; omega)) ?_
      first | exact hret _ _ _ _ dX0_tally_224 hP hD hS | (exfalso; omega)
set_option maxHeartbeats 4000000 in
set_option maxRecDepth 100000 in
theorem m_X0_copyFrom (l : Launch) (D : va_G) (g : Nat) (ad : Nat → Nat) (g2 : Nat) (ad2 : Nat → Nat) (cI : ClassId) (G G2 : Nat → Int → Int)  : MW l D yX0_copyFrom (wsY yX0_copyFrom cX0_copyFrom 2 none) { frames := 1, cells := 0, slots := 0, locals := 26 } [(cI, .int)] [.ref g, .ref g2] (wG g ad cI G ++ wG g2 ad2 cI G2) (wG g ad cI G2 ++ wG g2 ad2 cI G2) none := by
  refine mw_ofV (cc := cX0_copyFrom) (maxL := 2) (by decide) rfl (Nat.le_of_ble_eq_true rfl) ?_
  intro p e s m below meth c R A Q args ls hx hb hml hown hts hRf hRl hRc hRs hN hK hP hD hS hA hret hl
  have hq : ∀ w ∈ ALL, w.before args s = true := fun w h => hts w (List.mem_cons_of_mem _ h)
  have hl : lv_has ls 2 [(0, .ref g), (1, .ref g2)] := hl
  refine lv_aload_n hx hb dX0_copyFrom_0 rfl (lv_at hl 1 rfl) ?_
  refine va_get (D := D) (ci := 0) (v := .ref (ad2 0)) (C := RX0) (T := TX0) (N := 13) hx hb hq inA0 hown hK hP 13 rfl rfl 0 (by decide) (hq _ q_2) (fun _ h9 => h9) rfl dX0_copyFrom_1 ?_
  refine z_iconst hx hb dX0_copyFrom_4 ?_
  refine lv_aload_n hx hb dX0_copyFrom_5 rfl (lv_at hl 0 rfl) ?_
  refine va_get (D := D) (ci := 0) (v := .ref (ad 0)) (C := RX0) (T := TX0) (N := 13) hx hb hq inA0 hown hK hP 0 rfl rfl 0 (by decide) (hq _ q_2) (fun _ h9 => h9) rfl dX0_copyFrom_6 ?_
  refine z_iconst hx hb dX0_copyFrom_9 ?_
  refine z_bipush hx hb dX0_copyFrom_10 (by decide +kernel) ?_
  refine z_copy (w1 := ([(g, .inr (0, [.ref (ad 0), .ref (ad 1), .ref (ad 2), .ref (ad 3), .ref (ad 4), .ref (ad 5), .ref (ad 6), .ref (ad 7), .ref (ad 8), .ref (ad 9), .ref (ad 10), .ref (ad 11), .int (iI (G 12 0))])), (ad 0, .inl (cI, 48, .inl (aI (G2 0)))), (ad 1, .inl (cI, 48, .inl (aI (G 1)))), (ad 2, .inl (cI, 48, .inl (aI (G 2)))), (ad 3, .inl (cI, 48, .inl (aI (G 3)))), (ad 4, .inl (cI, 18, .inl (aI (G 4)))), (ad 5, .inl (cI, 18, .inl (aI (G 5)))), (ad 6, .inl (cI, 6, .inl (aI (G 6)))), (ad 7, .inl (cI, 6, .inl (aI (G 7)))), (ad 8, .inl (cI, 6, .inl (aI (G 8)))), (ad 9, .inl (cI, 6, .inl (aI (G 9)))), (ad 10, .inl (cI, 9, .inl (aI (G 10)))), (ad 11, .inl (cI, 3, .inl (aI (G 11))))] ++ wG g2 ad2 cI G2)) hx hb (hml.trans hl.1.symm) hown (hq _ q_30) (hq _ q_31) (hq _ q_32) (hq _ q_33) hK hP hD hS 14 1 0 0 rfl rfl rfl rfl (by omega) rfl (Nat.le_trans (Nat.le_of_ble_eq_true rfl) hRf) (Nat.le_trans (Nat.le_of_ble_eq_true rfl) hRl) (Nat.le_of_ble_eq_true rfl) dX0_copyFrom_12 (fun H locs hP hD hS => ?_)
  refine lv_aload_n hx hb dX0_copyFrom_15 rfl (lv_at hl 1 rfl) ?_
  refine va_get (D := D) (ci := 0) (v := .ref (ad2 1)) (C := RX0) (T := TX0) (N := 13) hx hb hq inA0 hown hK hP 13 rfl rfl 1 (by decide) (hq _ q_3) (fun _ h9 => h9) rfl dX0_copyFrom_16 ?_
  refine z_iconst hx hb dX0_copyFrom_19 ?_
  refine lv_aload_n hx hb dX0_copyFrom_20 rfl (lv_at hl 0 rfl) ?_
  refine va_get (D := D) (ci := 0) (v := .ref (ad 1)) (C := RX0) (T := TX0) (N := 13) hx hb hq inA0 hown hK hP 0 rfl rfl 1 (by decide) (hq _ q_3) (fun _ h9 => h9) rfl dX0_copyFrom_21 ?_
  refine z_iconst hx hb dX0_copyFrom_24 ?_
  refine z_bipush hx hb dX0_copyFrom_25 (by decide +kernel) ?_
  refine z_copy (w1 := ([(g, .inr (0, [.ref (ad 0), .ref (ad 1), .ref (ad 2), .ref (ad 3), .ref (ad 4), .ref (ad 5), .ref (ad 6), .ref (ad 7), .ref (ad 8), .ref (ad 9), .ref (ad 10), .ref (ad 11), .int (iI (G 12 0))])), (ad 0, .inl (cI, 48, .inl (aI (G2 0)))), (ad 1, .inl (cI, 48, .inl (aI (G2 1)))), (ad 2, .inl (cI, 48, .inl (aI (G 2)))), (ad 3, .inl (cI, 48, .inl (aI (G 3)))), (ad 4, .inl (cI, 18, .inl (aI (G 4)))), (ad 5, .inl (cI, 18, .inl (aI (G 5)))), (ad 6, .inl (cI, 6, .inl (aI (G 6)))), (ad 7, .inl (cI, 6, .inl (aI (G 7)))), (ad 8, .inl (cI, 6, .inl (aI (G 8)))), (ad 9, .inl (cI, 6, .inl (aI (G 9)))), (ad 10, .inl (cI, 9, .inl (aI (G 10)))), (ad 11, .inl (cI, 3, .inl (aI (G 11))))] ++ wG g2 ad2 cI G2)) hx hb (hml.trans hl.1.symm) hown (hq _ q_30) (hq _ q_31) (hq _ q_32) (hq _ q_33) hK hP hD hS 15 2 0 0 rfl rfl rfl rfl (by omega) rfl (Nat.le_trans (Nat.le_of_ble_eq_true rfl) hRf) (Nat.le_trans (Nat.le_of_ble_eq_true rfl) hRl) (Nat.le_of_ble_eq_true rfl) dX0_copyFrom_27 (fun H locs hP hD hS => ?_)
  refine lv_aload_n hx hb dX0_copyFrom_30 rfl (lv_at hl 1 rfl) ?_
  refine va_get (D := D) (ci := 0) (v := .ref (ad2 2)) (C := RX0) (T := TX0) (N := 13) hx hb hq inA0 hown hK hP 13 rfl rfl 2 (by decide) (hq _ q_1) (fun _ h9 => h9) rfl dX0_copyFrom_31 ?_
  refine z_iconst hx hb dX0_copyFrom_34 ?_
  refine lv_aload_n hx hb dX0_copyFrom_35 rfl (lv_at hl 0 rfl) ?_
  refine va_get (D := D) (ci := 0) (v := .ref (ad 2)) (C := RX0) (T := TX0) (N := 13) hx hb hq inA0 hown hK hP 0 rfl rfl 2 (by decide) (hq _ q_1) (fun _ h9 => h9) rfl dX0_copyFrom_36 ?_
  refine z_iconst hx hb dX0_copyFrom_39 ?_
  refine z_bipush hx hb dX0_copyFrom_40 (by decide +kernel) ?_
  refine z_copy (w1 := ([(g, .inr (0, [.ref (ad 0), .ref (ad 1), .ref (ad 2), .ref (ad 3), .ref (ad 4), .ref (ad 5), .ref (ad 6), .ref (ad 7), .ref (ad 8), .ref (ad 9), .ref (ad 10), .ref (ad 11), .int (iI (G 12 0))])), (ad 0, .inl (cI, 48, .inl (aI (G2 0)))), (ad 1, .inl (cI, 48, .inl (aI (G2 1)))), (ad 2, .inl (cI, 48, .inl (aI (G2 2)))), (ad 3, .inl (cI, 48, .inl (aI (G 3)))), (ad 4, .inl (cI, 18, .inl (aI (G 4)))), (ad 5, .inl (cI, 18, .inl (aI (G 5)))), (ad 6, .inl (cI, 6, .inl (aI (G 6)))), (ad 7, .inl (cI, 6, .inl (aI (G 7)))), (ad 8, .inl (cI, 6, .inl (aI (G 8)))), (ad 9, .inl (cI, 6, .inl (aI (G 9)))), (ad 10, .inl (cI, 9, .inl (aI (G 10)))), (ad 11, .inl (cI, 3, .inl (aI (G 11))))] ++ wG g2 ad2 cI G2)) hx hb (hml.trans hl.1.symm) hown (hq _ q_30) (hq _ q_31) (hq _ q_32) (hq _ q_33) hK hP hD hS 16 3 0 0 rfl rfl rfl rfl (by omega) rfl (Nat.le_trans (Nat.le_of_ble_eq_true rfl) hRf) (Nat.le_trans (Nat.le_of_ble_eq_true rfl) hRl) (Nat.le_of_ble_eq_true rfl) dX0_copyFrom_42 (fun H locs hP hD hS => ?_)
  refine lv_aload_n hx hb dX0_copyFrom_45 rfl (lv_at hl 1 rfl) ?_
  refine va_get (D := D) (ci := 0) (v := .ref (ad2 3)) (C := RX0) (T := TX0) (N := 13) hx hb hq inA0 hown hK hP 13 rfl rfl 3 (by decide) (hq _ q_4) (fun _ h9 => h9) rfl dX0_copyFrom_46 ?_
  refine z_iconst hx hb dX0_copyFrom_49 ?_
  refine lv_aload_n hx hb dX0_copyFrom_50 rfl (lv_at hl 0 rfl) ?_
  refine va_get (D := D) (ci := 0) (v := .ref (ad 3)) (C := RX0) (T := TX0) (N := 13) hx hb hq inA0 hown hK hP 0 rfl rfl 3 (by decide) (hq _ q_4) (fun _ h9 => h9) rfl dX0_copyFrom_51 ?_
  refine z_iconst hx hb dX0_copyFrom_54 ?_
  refine z_bipush hx hb dX0_copyFrom_55 (by decide +kernel) ?_
  refine z_copy (w1 := ([(g, .inr (0, [.ref (ad 0), .ref (ad 1), .ref (ad 2), .ref (ad 3), .ref (ad 4), .ref (ad 5), .ref (ad 6), .ref (ad 7), .ref (ad 8), .ref (ad 9), .ref (ad 10), .ref (ad 11), .int (iI (G 12 0))])), (ad 0, .inl (cI, 48, .inl (aI (G2 0)))), (ad 1, .inl (cI, 48, .inl (aI (G2 1)))), (ad 2, .inl (cI, 48, .inl (aI (G2 2)))), (ad 3, .inl (cI, 48, .inl (aI (G2 3)))), (ad 4, .inl (cI, 18, .inl (aI (G 4)))), (ad 5, .inl (cI, 18, .inl (aI (G 5)))), (ad 6, .inl (cI, 6, .inl (aI (G 6)))), (ad 7, .inl (cI, 6, .inl (aI (G 7)))), (ad 8, .inl (cI, 6, .inl (aI (G 8)))), (ad 9, .inl (cI, 6, .inl (aI (G 9)))), (ad 10, .inl (cI, 9, .inl (aI (G 10)))), (ad 11, .inl (cI, 3, .inl (aI (G 11))))] ++ wG g2 ad2 cI G2)) hx hb (hml.trans hl.1.symm) hown (hq _ q_30) (hq _ q_31) (hq _ q_32) (hq _ q_33) hK hP hD hS 17 4 0 0 rfl rfl rfl rfl (by omega) rfl (Nat.le_trans (Nat.le_of_ble_eq_true rfl) hRf) (Nat.le_trans (Nat.le_of_ble_eq_true rfl) hRl) (Nat.le_of_ble_eq_true rfl) dX0_copyFrom_57 (fun H locs hP hD hS => ?_)
  refine lv_aload_n hx hb dX0_copyFrom_60 rfl (lv_at hl 1 rfl) ?_
  refine va_get (D := D) (ci := 0) (v := .ref (ad2 4)) (C := RX0) (T := TX0) (N := 13) hx hb hq inA0 hown hK hP 13 rfl rfl 4 (by decide) (hq _ q_11) (fun _ h9 => h9) rfl dX0_copyFrom_61 ?_
  refine z_iconst hx hb dX0_copyFrom_64 ?_
  refine lv_aload_n hx hb dX0_copyFrom_65 rfl (lv_at hl 0 rfl) ?_
  refine va_get (D := D) (ci := 0) (v := .ref (ad 4)) (C := RX0) (T := TX0) (N := 13) hx hb hq inA0 hown hK hP 0 rfl rfl 4 (by decide) (hq _ q_11) (fun _ h9 => h9) rfl dX0_copyFrom_66 ?_
  refine z_iconst hx hb dX0_copyFrom_69 ?_
  refine z_bipush hx hb dX0_copyFrom_70 (by decide +kernel) ?_
  refine z_copy (w1 := ([(g, .inr (0, [.ref (ad 0), .ref (ad 1), .ref (ad 2), .ref (ad 3), .ref (ad 4), .ref (ad 5), .ref (ad 6), .ref (ad 7), .ref (ad 8), .ref (ad 9), .ref (ad 10), .ref (ad 11), .int (iI (G 12 0))])), (ad 0, .inl (cI, 48, .inl (aI (G2 0)))), (ad 1, .inl (cI, 48, .inl (aI (G2 1)))), (ad 2, .inl (cI, 48, .inl (aI (G2 2)))), (ad 3, .inl (cI, 48, .inl (aI (G2 3)))), (ad 4, .inl (cI, 18, .inl (aI (G2 4)))), (ad 5, .inl (cI, 18, .inl (aI (G 5)))), (ad 6, .inl (cI, 6, .inl (aI (G 6)))), (ad 7, .inl (cI, 6, .inl (aI (G 7)))), (ad 8, .inl (cI, 6, .inl (aI (G 8)))), (ad 9, .inl (cI, 6, .inl (aI (G 9)))), (ad 10, .inl (cI, 9, .inl (aI (G 10)))), (ad 11, .inl (cI, 3, .inl (aI (G 11))))] ++ wG g2 ad2 cI G2)) hx hb (hml.trans hl.1.symm) hown (hq _ q_30) (hq _ q_31) (hq _ q_32) (hq _ q_33) hK hP hD hS 18 5 0 0 rfl rfl rfl rfl (by omega) rfl (Nat.le_trans (Nat.le_of_ble_eq_true rfl) hRf) (Nat.le_trans (Nat.le_of_ble_eq_true rfl) hRl) (Nat.le_of_ble_eq_true rfl) dX0_copyFrom_72 (fun H locs hP hD hS => ?_)
  refine lv_aload_n hx hb dX0_copyFrom_75 rfl (lv_at hl 1 rfl) ?_
  refine va_get (D := D) (ci := 0) (v := .ref (ad2 5)) (C := RX0) (T := TX0) (N := 13) hx hb hq inA0 hown hK hP 13 rfl rfl 5 (by decide) (hq _ q_10) (fun _ h9 => h9) rfl dX0_copyFrom_76 ?_
  refine z_iconst hx hb dX0_copyFrom_79 ?_
  refine lv_aload_n hx hb dX0_copyFrom_80 rfl (lv_at hl 0 rfl) ?_
  refine va_get (D := D) (ci := 0) (v := .ref (ad 5)) (C := RX0) (T := TX0) (N := 13) hx hb hq inA0 hown hK hP 0 rfl rfl 5 (by decide) (hq _ q_10) (fun _ h9 => h9) rfl dX0_copyFrom_81 ?_
  refine z_iconst hx hb dX0_copyFrom_84 ?_
  refine z_bipush hx hb dX0_copyFrom_85 (by decide +kernel) ?_
  refine z_copy (w1 := ([(g, .inr (0, [.ref (ad 0), .ref (ad 1), .ref (ad 2), .ref (ad 3), .ref (ad 4), .ref (ad 5), .ref (ad 6), .ref (ad 7), .ref (ad 8), .ref (ad 9), .ref (ad 10), .ref (ad 11), .int (iI (G 12 0))])), (ad 0, .inl (cI, 48, .inl (aI (G2 0)))), (ad 1, .inl (cI, 48, .inl (aI (G2 1)))), (ad 2, .inl (cI, 48, .inl (aI (G2 2)))), (ad 3, .inl (cI, 48, .inl (aI (G2 3)))), (ad 4, .inl (cI, 18, .inl (aI (G2 4)))), (ad 5, .inl (cI, 18, .inl (aI (G2 5)))), (ad 6, .inl (cI, 6, .inl (aI (G 6)))), (ad 7, .inl (cI, 6, .inl (aI (G 7)))), (ad 8, .inl (cI, 6, .inl (aI (G 8)))), (ad 9, .inl (cI, 6, .inl (aI (G 9)))), (ad 10, .inl (cI, 9, .inl (aI (G 10)))), (ad 11, .inl (cI, 3, .inl (aI (G 11))))] ++ wG g2 ad2 cI G2)) hx hb (hml.trans hl.1.symm) hown (hq _ q_30) (hq _ q_31) (hq _ q_32) (hq _ q_33) hK hP hD hS 19 6 0 0 rfl rfl rfl rfl (by omega) rfl (Nat.le_trans (Nat.le_of_ble_eq_true rfl) hRf) (Nat.le_trans (Nat.le_of_ble_eq_true rfl) hRl) (Nat.le_of_ble_eq_true rfl) dX0_copyFrom_87 (fun H locs hP hD hS => ?_)
  refine lv_aload_n hx hb dX0_copyFrom_90 rfl (lv_at hl 1 rfl) ?_
  refine va_get (D := D) (ci := 0) (v := .ref (ad2 6)) (C := RX0) (T := TX0) (N := 13) hx hb hq inA0 hown hK hP 13 rfl rfl 6 (by decide) (hq _ q_18) (fun _ h9 => h9) rfl dX0_copyFrom_91 ?_
  refine z_iconst hx hb dX0_copyFrom_94 ?_
  refine lv_aload_n hx hb dX0_copyFrom_95 rfl (lv_at hl 0 rfl) ?_
  refine va_get (D := D) (ci := 0) (v := .ref (ad 6)) (C := RX0) (T := TX0) (N := 13) hx hb hq inA0 hown hK hP 0 rfl rfl 6 (by decide) (hq _ q_18) (fun _ h9 => h9) rfl dX0_copyFrom_96 ?_
  refine z_iconst hx hb dX0_copyFrom_99 ?_
  refine z_bipush hx hb dX0_copyFrom_100 (by decide +kernel) ?_
  refine z_copy (w1 := ([(g, .inr (0, [.ref (ad 0), .ref (ad 1), .ref (ad 2), .ref (ad 3), .ref (ad 4), .ref (ad 5), .ref (ad 6), .ref (ad 7), .ref (ad 8), .ref (ad 9), .ref (ad 10), .ref (ad 11), .int (iI (G 12 0))])), (ad 0, .inl (cI, 48, .inl (aI (G2 0)))), (ad 1, .inl (cI, 48, .inl (aI (G2 1)))), (ad 2, .inl (cI, 48, .inl (aI (G2 2)))), (ad 3, .inl (cI, 48, .inl (aI (G2 3)))), (ad 4, .inl (cI, 18, .inl (aI (G2 4)))), (ad 5, .inl (cI, 18, .inl (aI (G2 5)))), (ad 6, .inl (cI, 6, .inl (aI (G2 6)))), (ad 7, .inl (cI, 6, .inl (aI (G 7)))), (ad 8, .inl (cI, 6, .inl (aI (G 8)))), (ad 9, .inl (cI, 6, .inl (aI (G 9)))), (ad 10, .inl (cI, 9, .inl (aI (G 10)))), (ad 11, .inl (cI, 3, .inl (aI (G 11))))] ++ wG g2 ad2 cI G2)) hx hb (hml.trans hl.1.symm) hown (hq _ q_30) (hq _ q_31) (hq _ q_32) (hq _ q_33) hK hP hD hS 20 7 0 0 rfl rfl rfl rfl (by omega) rfl (Nat.le_trans (Nat.le_of_ble_eq_true rfl) hRf) (Nat.le_trans (Nat.le_of_ble_eq_true rfl) hRl) (Nat.le_of_ble_eq_true rfl) dX0_copyFrom_102 (fun H locs hP hD hS => ?_)
  refine lv_aload_n hx hb dX0_copyFrom_105 rfl (lv_at hl 1 rfl) ?_
  refine va_get (D := D) (ci := 0) (v := .ref (ad2 7)) (C := RX0) (T := TX0) (N := 13) hx hb hq inA0 hown hK hP 13 rfl rfl 7 (by decide) (hq _ q_12) (fun _ h9 => h9) rfl dX0_copyFrom_106 ?_
  refine z_iconst hx hb dX0_copyFrom_109 ?_
  refine lv_aload_n hx hb dX0_copyFrom_110 rfl (lv_at hl 0 rfl) ?_
  refine va_get (D := D) (ci := 0) (v := .ref (ad 7)) (C := RX0) (T := TX0) (N := 13) hx hb hq inA0 hown hK hP 0 rfl rfl 7 (by decide) (hq _ q_12) (fun _ h9 => h9) rfl dX0_copyFrom_111 ?_
  refine z_iconst hx hb dX0_copyFrom_114 ?_
  refine z_bipush hx hb dX0_copyFrom_115 (by decide +kernel) ?_
  refine z_copy (w1 := ([(g, .inr (0, [.ref (ad 0), .ref (ad 1), .ref (ad 2), .ref (ad 3), .ref (ad 4), .ref (ad 5), .ref (ad 6), .ref (ad 7), .ref (ad 8), .ref (ad 9), .ref (ad 10), .ref (ad 11), .int (iI (G 12 0))])), (ad 0, .inl (cI, 48, .inl (aI (G2 0)))), (ad 1, .inl (cI, 48, .inl (aI (G2 1)))), (ad 2, .inl (cI, 48, .inl (aI (G2 2)))), (ad 3, .inl (cI, 48, .inl (aI (G2 3)))), (ad 4, .inl (cI, 18, .inl (aI (G2 4)))), (ad 5, .inl (cI, 18, .inl (aI (G2 5)))), (ad 6, .inl (cI, 6, .inl (aI (G2 6)))), (ad 7, .inl (cI, 6, .inl (aI (G2 7)))), (ad 8, .inl (cI, 6, .inl (aI (G 8)))), (ad 9, .inl (cI, 6, .inl (aI (G 9)))), (ad 10, .inl (cI, 9, .inl (aI (G 10)))), (ad 11, .inl (cI, 3, .inl (aI (G 11))))] ++ wG g2 ad2 cI G2)) hx hb (hml.trans hl.1.symm) hown (hq _ q_30) (hq _ q_31) (hq _ q_32) (hq _ q_33) hK hP hD hS 21 8 0 0 rfl rfl rfl rfl (by omega) rfl (Nat.le_trans (Nat.le_of_ble_eq_true rfl) hRf) (Nat.le_trans (Nat.le_of_ble_eq_true rfl) hRl) (Nat.le_of_ble_eq_true rfl) dX0_copyFrom_117 (fun H locs hP hD hS => ?_)
  refine lv_aload_n hx hb dX0_copyFrom_120 rfl (lv_at hl 1 rfl) ?_
  refine va_get (D := D) (ci := 0) (v := .ref (ad2 8)) (C := RX0) (T := TX0) (N := 13) hx hb hq inA0 hown hK hP 13 rfl rfl 8 (by decide) (hq _ q_19) (fun _ h9 => h9) rfl dX0_copyFrom_121 ?_
  refine z_iconst hx hb dX0_copyFrom_124 ?_
  refine lv_aload_n hx hb dX0_copyFrom_125 rfl (lv_at hl 0 rfl) ?_
  refine va_get (D := D) (ci := 0) (v := .ref (ad 8)) (C := RX0) (T := TX0) (N := 13) hx hb hq inA0 hown hK hP 0 rfl rfl 8 (by decide) (hq _ q_19) (fun _ h9 => h9) rfl dX0_copyFrom_126 ?_
  refine z_iconst hx hb dX0_copyFrom_129 ?_
  refine z_bipush hx hb dX0_copyFrom_130 (by decide +kernel) ?_
  refine z_copy (w1 := ([(g, .inr (0, [.ref (ad 0), .ref (ad 1), .ref (ad 2), .ref (ad 3), .ref (ad 4), .ref (ad 5), .ref (ad 6), .ref (ad 7), .ref (ad 8), .ref (ad 9), .ref (ad 10), .ref (ad 11), .int (iI (G 12 0))])), (ad 0, .inl (cI, 48, .inl (aI (G2 0)))), (ad 1, .inl (cI, 48, .inl (aI (G2 1)))), (ad 2, .inl (cI, 48, .inl (aI (G2 2)))), (ad 3, .inl (cI, 48, .inl (aI (G2 3)))), (ad 4, .inl (cI, 18, .inl (aI (G2 4)))), (ad 5, .inl (cI, 18, .inl (aI (G2 5)))), (ad 6, .inl (cI, 6, .inl (aI (G2 6)))), (ad 7, .inl (cI, 6, .inl (aI (G2 7)))), (ad 8, .inl (cI, 6, .inl (aI (G2 8)))), (ad 9, .inl (cI, 6, .inl (aI (G 9)))), (ad 10, .inl (cI, 9, .inl (aI (G 10)))), (ad 11, .inl (cI, 3, .inl (aI (G 11))))] ++ wG g2 ad2 cI G2)) hx hb (hml.trans hl.1.symm) hown (hq _ q_30) (hq _ q_31) (hq _ q_32) (hq _ q_33) hK hP hD hS 22 9 0 0 rfl rfl rfl rfl (by omega) rfl (Nat.le_trans (Nat.le_of_ble_eq_true rfl) hRf) (Nat.le_trans (Nat.le_of_ble_eq_true rfl) hRl) (Nat.le_of_ble_eq_true rfl) dX0_copyFrom_132 (fun H locs hP hD hS => ?_)
  refine lv_aload_n hx hb dX0_copyFrom_135 rfl (lv_at hl 1 rfl) ?_
  refine va_get (D := D) (ci := 0) (v := .ref (ad2 9)) (C := RX0) (T := TX0) (N := 13) hx hb hq inA0 hown hK hP 13 rfl rfl 9 (by decide) (hq _ q_20) (fun _ h9 => h9) rfl dX0_copyFrom_136 ?_
  refine z_iconst hx hb dX0_copyFrom_139 ?_
  refine lv_aload_n hx hb dX0_copyFrom_140 rfl (lv_at hl 0 rfl) ?_
  refine va_get (D := D) (ci := 0) (v := .ref (ad 9)) (C := RX0) (T := TX0) (N := 13) hx hb hq inA0 hown hK hP 0 rfl rfl 9 (by decide) (hq _ q_20) (fun _ h9 => h9) rfl dX0_copyFrom_141 ?_
  refine z_iconst hx hb dX0_copyFrom_144 ?_
  refine z_bipush hx hb dX0_copyFrom_145 (by decide +kernel) ?_
  refine z_copy (w1 := ([(g, .inr (0, [.ref (ad 0), .ref (ad 1), .ref (ad 2), .ref (ad 3), .ref (ad 4), .ref (ad 5), .ref (ad 6), .ref (ad 7), .ref (ad 8), .ref (ad 9), .ref (ad 10), .ref (ad 11), .int (iI (G 12 0))])), (ad 0, .inl (cI, 48, .inl (aI (G2 0)))), (ad 1, .inl (cI, 48, .inl (aI (G2 1)))), (ad 2, .inl (cI, 48, .inl (aI (G2 2)))), (ad 3, .inl (cI, 48, .inl (aI (G2 3)))), (ad 4, .inl (cI, 18, .inl (aI (G2 4)))), (ad 5, .inl (cI, 18, .inl (aI (G2 5)))), (ad 6, .inl (cI, 6, .inl (aI (G2 6)))), (ad 7, .inl (cI, 6, .inl (aI (G2 7)))), (ad 8, .inl (cI, 6, .inl (aI (G2 8)))), (ad 9, .inl (cI, 6, .inl (aI (G2 9)))), (ad 10, .inl (cI, 9, .inl (aI (G 10)))), (ad 11, .inl (cI, 3, .inl (aI (G 11))))] ++ wG g2 ad2 cI G2)) hx hb (hml.trans hl.1.symm) hown (hq _ q_30) (hq _ q_31) (hq _ q_32) (hq _ q_33) hK hP hD hS 23 10 0 0 rfl rfl rfl rfl (by omega) rfl (Nat.le_trans (Nat.le_of_ble_eq_true rfl) hRf) (Nat.le_trans (Nat.le_of_ble_eq_true rfl) hRl) (Nat.le_of_ble_eq_true rfl) dX0_copyFrom_147 (fun H locs hP hD hS => ?_)
  refine lv_aload_n hx hb dX0_copyFrom_150 rfl (lv_at hl 1 rfl) ?_
  refine va_get (D := D) (ci := 0) (v := .ref (ad2 10)) (C := RX0) (T := TX0) (N := 13) hx hb hq inA0 hown hK hP 13 rfl rfl 10 (by decide) (hq _ q_21) (fun _ h9 => h9) rfl dX0_copyFrom_151 ?_
  refine z_iconst hx hb dX0_copyFrom_154 ?_
  refine lv_aload_n hx hb dX0_copyFrom_155 rfl (lv_at hl 0 rfl) ?_
  refine va_get (D := D) (ci := 0) (v := .ref (ad 10)) (C := RX0) (T := TX0) (N := 13) hx hb hq inA0 hown hK hP 0 rfl rfl 10 (by decide) (hq _ q_21) (fun _ h9 => h9) rfl dX0_copyFrom_156 ?_
  refine z_iconst hx hb dX0_copyFrom_159 ?_
  refine z_bipush hx hb dX0_copyFrom_160 (by decide +kernel) ?_
  refine z_copy (w1 := ([(g, .inr (0, [.ref (ad 0), .ref (ad 1), .ref (ad 2), .ref (ad 3), .ref (ad 4), .ref (ad 5), .ref (ad 6), .ref (ad 7), .ref (ad 8), .ref (ad 9), .ref (ad 10), .ref (ad 11), .int (iI (G 12 0))])), (ad 0, .inl (cI, 48, .inl (aI (G2 0)))), (ad 1, .inl (cI, 48, .inl (aI (G2 1)))), (ad 2, .inl (cI, 48, .inl (aI (G2 2)))), (ad 3, .inl (cI, 48, .inl (aI (G2 3)))), (ad 4, .inl (cI, 18, .inl (aI (G2 4)))), (ad 5, .inl (cI, 18, .inl (aI (G2 5)))), (ad 6, .inl (cI, 6, .inl (aI (G2 6)))), (ad 7, .inl (cI, 6, .inl (aI (G2 7)))), (ad 8, .inl (cI, 6, .inl (aI (G2 8)))), (ad 9, .inl (cI, 6, .inl (aI (G2 9)))), (ad 10, .inl (cI, 9, .inl (aI (G2 10)))), (ad 11, .inl (cI, 3, .inl (aI (G 11))))] ++ wG g2 ad2 cI G2)) hx hb (hml.trans hl.1.symm) hown (hq _ q_30) (hq _ q_31) (hq _ q_32) (hq _ q_33) hK hP hD hS 24 11 0 0 rfl rfl rfl rfl (by omega) rfl (Nat.le_trans (Nat.le_of_ble_eq_true rfl) hRf) (Nat.le_trans (Nat.le_of_ble_eq_true rfl) hRl) (Nat.le_of_ble_eq_true rfl) dX0_copyFrom_162 (fun H locs hP hD hS => ?_)
  refine lv_aload_n hx hb dX0_copyFrom_165 rfl (lv_at hl 1 rfl) ?_
  refine va_get (D := D) (ci := 0) (v := .ref (ad2 11)) (C := RX0) (T := TX0) (N := 13) hx hb hq inA0 hown hK hP 13 rfl rfl 11 (by decide) (hq _ q_22) (fun _ h9 => h9) rfl dX0_copyFrom_166 ?_
  refine z_iconst hx hb dX0_copyFrom_169 ?_
  refine lv_aload_n hx hb dX0_copyFrom_170 rfl (lv_at hl 0 rfl) ?_
  refine va_get (D := D) (ci := 0) (v := .ref (ad 11)) (C := RX0) (T := TX0) (N := 13) hx hb hq inA0 hown hK hP 0 rfl rfl 11 (by decide) (hq _ q_22) (fun _ h9 => h9) rfl dX0_copyFrom_171 ?_
  refine z_iconst hx hb dX0_copyFrom_174 ?_
  refine z_iconst hx hb dX0_copyFrom_175 ?_
  refine z_copy (w1 := ([(g, .inr (0, [.ref (ad 0), .ref (ad 1), .ref (ad 2), .ref (ad 3), .ref (ad 4), .ref (ad 5), .ref (ad 6), .ref (ad 7), .ref (ad 8), .ref (ad 9), .ref (ad 10), .ref (ad 11), .int (iI (G 12 0))])), (ad 0, .inl (cI, 48, .inl (aI (G2 0)))), (ad 1, .inl (cI, 48, .inl (aI (G2 1)))), (ad 2, .inl (cI, 48, .inl (aI (G2 2)))), (ad 3, .inl (cI, 48, .inl (aI (G2 3)))), (ad 4, .inl (cI, 18, .inl (aI (G2 4)))), (ad 5, .inl (cI, 18, .inl (aI (G2 5)))), (ad 6, .inl (cI, 6, .inl (aI (G2 6)))), (ad 7, .inl (cI, 6, .inl (aI (G2 7)))), (ad 8, .inl (cI, 6, .inl (aI (G2 8)))), (ad 9, .inl (cI, 6, .inl (aI (G2 9)))), (ad 10, .inl (cI, 9, .inl (aI (G2 10)))), (ad 11, .inl (cI, 3, .inl (aI (G2 11))))] ++ wG g2 ad2 cI G2)) hx hb (hml.trans hl.1.symm) hown (hq _ q_30) (hq _ q_31) (hq _ q_32) (hq _ q_33) hK hP hD hS 25 12 0 0 rfl rfl rfl rfl (by omega) rfl (Nat.le_trans (Nat.le_of_ble_eq_true rfl) hRf) (Nat.le_trans (Nat.le_of_ble_eq_true rfl) hRl) (Nat.le_of_ble_eq_true rfl) dX0_copyFrom_176 (fun H locs hP hD hS => ?_)
  refine lv_aload_n hx hb dX0_copyFrom_179 rfl (lv_at hl 0 rfl) ?_
  refine lv_aload_n hx hb dX0_copyFrom_180 rfl (lv_at hl 1 rfl) ?_
  refine va_get (D := D) (ci := 0) (v := .int (iI (G2 12 0))) (C := RX0) (T := TX0) (N := 13) hx hb hq inA0 hown hK hP 13 rfl rfl 12 (by decide) (hq _ q_5) (fun _ h9 => h9) rfl dX0_copyFrom_181 ?_
  refine va_put (D := D) (ci := 0) (v := .int (iI (G2 12 0))) (ty := .int) (C := RX0) (T := TX0) (N := 13) hx hb hq inA0 tyX0 tyX0_ok nmX0 hown hK hP hD hS 0 rfl rfl 12 (by decide) (hq _ q_5) (fun _ h9 => h9) rfl (by decide +kernel) rfl rfl (Nat.le_of_ble_eq_true rfl) dX0_copyFrom_184 (fun H locs hP hD hS => ?_)
  have hP : va_P D vwCl ([(g, .inr (0, [.ref (ad 0), .ref (ad 1), .ref (ad 2), .ref (ad 3), .ref (ad 4), .ref (ad 5), .ref (ad 6), .ref (ad 7), .ref (ad 8), .ref (ad 9), .ref (ad 10), .ref (ad 11), .int (iI (G2 12 0))])), (ad 0, .inl (cI, 48, .inl (aI (G2 0)))), (ad 1, .inl (cI, 48, .inl (aI (G2 1)))), (ad 2, .inl (cI, 48, .inl (aI (G2 2)))), (ad 3, .inl (cI, 48, .inl (aI (G2 3)))), (ad 4, .inl (cI, 18, .inl (aI (G2 4)))), (ad 5, .inl (cI, 18, .inl (aI (G2 5)))), (ad 6, .inl (cI, 6, .inl (aI (G2 6)))), (ad 7, .inl (cI, 6, .inl (aI (G2 7)))), (ad 8, .inl (cI, 6, .inl (aI (G2 8)))), (ad 9, .inl (cI, 6, .inl (aI (G2 9)))), (ad 10, .inl (cI, 9, .inl (aI (G2 10)))), (ad 11, .inl (cI, 3, .inl (aI (G2 11))))] ++ wG g2 ad2 cI G2) H := hP
  have hD : va_D A ([(g, .inr (0, [.ref (ad 0), .ref (ad 1), .ref (ad 2), .ref (ad 3), .ref (ad 4), .ref (ad 5), .ref (ad 6), .ref (ad 7), .ref (ad 8), .ref (ad 9), .ref (ad 10), .ref (ad 11), .int (iI (G2 12 0))])), (ad 0, .inl (cI, 48, .inl (aI (G2 0)))), (ad 1, .inl (cI, 48, .inl (aI (G2 1)))), (ad 2, .inl (cI, 48, .inl (aI (G2 2)))), (ad 3, .inl (cI, 48, .inl (aI (G2 3)))), (ad 4, .inl (cI, 18, .inl (aI (G2 4)))), (ad 5, .inl (cI, 18, .inl (aI (G2 5)))), (ad 6, .inl (cI, 6, .inl (aI (G2 6)))), (ad 7, .inl (cI, 6, .inl (aI (G2 7)))), (ad 8, .inl (cI, 6, .inl (aI (G2 8)))), (ad 9, .inl (cI, 6, .inl (aI (G2 9)))), (ad 10, .inl (cI, 9, .inl (aI (G2 10)))), (ad 11, .inl (cI, 3, .inl (aI (G2 11))))] ++ wG g2 ad2 cI G2) := hD
  first | exact hret _ _ _ _ dX0_copyFrom_187 hP hD hS | (exfalso; omega)
