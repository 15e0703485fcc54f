set_option maxHeartbeats 4000000 in
set_option maxRecDepth 100000 in
theorem m_X1_doOrder (l : Launch) (D : va_G) (t : Nat) (ta : Nat → Nat) (g : Nat) (ad : Nat → Nat) (cI : ClassId) (cC : ClassId) (T G : Nat → Int → Int) {B : Int} (hI : InvG B G) (hB : B + 594 ≤ 100000000) (hn : ∀ p : Int, 0 ≤ p → p < 3 → 0 ≤ T 3 p ∧ T 3 p ≤ 999) (hk : 0 ≤ T 2 0 ∧ T 2 0 < 65536)  : MW l D yX1_doOrder (wsY yX1_doOrder cX1_doOrder 2 (some .int)) { frames := 4, cells := 0, slots := 0, locals := 99 } [(cI, .int), (cC, .char)] [.ref t, .ref g] (wT t ta cI cC T ++ wG g ad cI G) (wT t ta cI cC T ++ wG g ad cI (doG G (T 2 0) (T 3 0) (T 3 1) (T 3 2))) (some (.int (iI (doV G (T 2 0) (T 3 0) (T 3 1) (T 3 2))))) := by
  refine mw_ofI (cc := cX1_doOrder) (maxL := 2) (by decide) rfl (Nat.le_of_ble_eq_true rfl) ?_
  intro p e s m below meth c R A Q args ls hx hb hml hown hts hRf hRl hRc hRs hN hK hP hD hS hA hret hl
  have hq : ∀ w ∈ ALL, w.before args s = true := fun w h => hts w (List.mem_cons_of_mem _ h)
  have hl : lv_has ls 2 [(0, .ref t), (1, .ref g)] := hl
  have hn0 := hn 0 (by omega) (by omega)
  have hn1 := hn 1 (by omega) (by omega)
  have hn2 := hn 2 (by omega) (by omega)
  refine lv_aload_n hx hb dX1_doOrder_0 rfl (lv_at hl 0 rfl) ?_
  refine va_get (D := D) (ci := 1) (v := .int (iI (T 2 0))) (C := RX1) (T := TX1) (N := 5) hx hb hq inA1 hown hK hP 0 rfl rfl 2 (by decide) (hq _ q_177) (fun _ h9 => h9) rfl dX1_doOrder_1 ?_
  have c_1 : ((T 2 0) ≠ 97 ∧ (T 2 0) ≠ 100 ∧ (T 2 0) ≠ 102 ∧ (T 2 0) ≠ 109 ∧ (T 2 0) ≠ 114 ∧ (T 2 0) ≠ 119) ∨ ((T 2 0) = 97 ∨ (T 2 0) = 100 ∨ (T 2 0) = 102 ∨ (T 2 0) = 109 ∨ (T 2 0) = 114 ∨ (T 2 0) = 119) := by omega
  rcases c_1 with c_1 | c_1 | c_1 | c_1 | c_1 | c_1 | c_1
  · refine lv_lookup (tgt := 169) (off := 165) hx hb dX1_doOrder_4 (by decide) (by rw [iI_t (by omega)]; show (if (97 : Int) = (T 2 0) then (83 : Int) else (if (100 : Int) = (T 2 0) then (151 : Int) else (if (102 : Int) = (T 2 0) then (94 : Int) else (if (109 : Int) = (T 2 0) then (117 : Int) else (if (114 : Int) = (T 2 0) then (134 : Int) else (if (119 : Int) = (T 2 0) then (60 : Int) else 165)))))) = 165; omega) (by decide) ?_
    refine z_ldc hx hb (-1000001) (by decide +kernel) hown (hq _ q_161) dX1_doOrder_169 ?_
    refine z_as (show (-1000001) = doV G (T 2 0) (T 3 0) (T 3 1) (T 3 2) from by (unfold doV; (repeat' split) <;> first | (exfalso; omega) | rfl | omega)) ?_
    have eW1 : doG G (T 2 0) (T 3 0) (T 3 1) (T 3 2) = G := by (unfold doG; (repeat' split) <;> first | (exfalso; omega) | rfl)
    rw [← eW1] at hP hD
    first | exact hret _ _ _ _ dX1_doOrder_171 hP hD hS | (exfalso; omega)
  · refine lv_lookup (tgt := 87) (off := 83) hx hb dX1_doOrder_4 (by decide) (by rw [iI_t (by omega), c_1]; rfl) (by decide) ?_
    refine lv_aload_n hx hb dX1_doOrder_87 rfl (lv_at hl 1 rfl) ?_
    refine lv_aload_n hx hb dX1_doOrder_88 rfl (lv_at hl 0 rfl) ?_
    refine va_get (D := D) (ci := 1) (v := .ref (ta 3)) (C := RX1) (T := TX1) (N := 5) hx hb hq inA1 hown hK hP 0 rfl rfl 3 (by decide) (hq _ q_157) (fun _ h9 => h9) rfl dX1_doOrder_89 ?_
    refine z_iconst hx hb dX1_doOrder_92 ?_
    refine z_iald hx hb hK hP 2 0 rfl rfl (by omega) (by omega) (v := (T 3 0)) rfl dX1_doOrder_93 ?_
    refine mw_part (st1 := [.int (iI (waV G (T 3 0)))]) (w1 := (wT t ta cI cC T ++ wG g ad cI (waG G (T 3 0)))) (mr_V (As := [.int (iI (T 3 0))]) (rest := []) (ci := 0) (q0 := 0) ⟨hx, hb, hml, hown, hts⟩ (m_X0_writeAnew_all l D g ad cI G (T 3 0) hI (by omega) (by omega)) (cwV 1 hts (gV q_187 q_90 q_91 q_8 q_63) rfl rfl rfl (by decide +kernel) ⟨Nat.le_trans (m := 3) (Nat.le_of_ble_eq_true rfl) (Nat.le_trans (Nat.le_of_ble_eq_true rfl) hRf), Nat.le_trans (m := 74) (Nat.le_of_ble_eq_true rfl) (Nat.le_trans (Nat.le_of_ble_eq_true rfl) hRl)⟩) hN (hK.sub (tys' := [(cI, .int)]) [0] rfl) (hP.sub (ws' := (wG g ad cI G)) [3, 4, 5, 6, 7, 8, 9, 10, 11, 12, 13, 14, 15] rfl) (hD.sub (ws' := (wG g ad cI G)) [3, 4, 5, 6, 7, 8, 9, 10, 11, 12, 13, 14, 15] (by decide) rfl) rfl rfl rfl hl.1 (Nat.le_of_ble_eq_true rfl) ⟨hRc, hRs⟩ dX1_doOrder_94) hP hD hS hA [3, 4, 5, 6, 7, 8, 9, 10, 11, 12, 13, 14, 15] [0, 1, 2] [0, 1, 2, 3, 4, 5, 6, 7, 8, 9, 10, 11, 12, 13, 14, 15] rfl (wr := ([0, 1, 2].filterMap (fun i => ((wT t ta cI cC T ++ wG g ad cI G))[i]?))) rfl (by decide) (by decide) (by decide) rfl rfl (fun H locs hP hD hS => ?_)
    refine z_as (show waV G (T 3 0) = doV G (T 2 0) (T 3 0) (T 3 1) (T 3 2) from by (unfold doV; (repeat' split) <;> first | (exfalso; omega) | rfl | omega)) ?_
    have eW1 : doG G (T 2 0) (T 3 0) (T 3 1) (T 3 2) = (waG G (T 3 0)) := by (unfold doG; (repeat' split) <;> first | (exfalso; omega) | rfl)
    rw [← eW1] at hP hD
    first | exact hret _ _ _ _ dX1_doOrder_97 hP hD hS | (exfalso; omega)
  · refine lv_lookup (tgt := 155) (off := 151) hx hb dX1_doOrder_4 (by decide) (by rw [iI_t (by omega), c_1]; rfl) (by decide) ?_
    refine lv_aload_n hx hb dX1_doOrder_155 rfl (lv_at hl 1 rfl) ?_
    refine lv_aload_n hx hb dX1_doOrder_156 rfl (lv_at hl 0 rfl) ?_
    refine va_get (D := D) (ci := 1) (v := .ref (ta 3)) (C := RX1) (T := TX1) (N := 5) hx hb hq inA1 hown hK hP 0 rfl rfl 3 (by decide) (hq _ q_157) (fun _ h9 => h9) rfl dX1_doOrder_157 ?_
    refine z_iconst hx hb dX1_doOrder_160 ?_
    refine z_iald hx hb hK hP 2 0 rfl rfl (by omega) (by omega) (v := (T 3 0)) rfl dX1_doOrder_161 ?_
    refine z_sipush hx hb dX1_doOrder_162 (by decide +kernel) ?_
    refine mw_part (st1 := [.int (iI (pdV G (T 3 0) 9999))]) (w1 := (wT t ta cI cC T ++ wG g ad cI (pdG G (T 3 0) 9999))) (mr_V (As := [.int (iI (T 3 0)), .int (iI 9999)]) (rest := []) (ci := 0) (q0 := 0) ⟨hx, hb, hml, hown, hts⟩ (m_X0_passDays_all l D g ad cI G (T 3 0) 9999 hI (by omega) (by omega) (by omega)) (cwV 2 hts (gV q_197 q_198 q_199 q_8 q_92) rfl rfl rfl (by decide +kernel) ⟨Nat.le_trans (m := 4) (Nat.le_of_ble_eq_true rfl) (Nat.le_trans (Nat.le_of_ble_eq_true rfl) hRf), Nat.le_trans (m := 99) (Nat.le_of_ble_eq_true rfl) (Nat.le_trans (Nat.le_of_ble_eq_true rfl) hRl)⟩) hN (hK.sub (tys' := [(cI, .int)]) [0] rfl) (hP.sub (ws' := (wG g ad cI G)) [3, 4, 5, 6, 7, 8, 9, 10, 11, 12, 13, 14, 15] rfl) (hD.sub (ws' := (wG g ad cI G)) [3, 4, 5, 6, 7, 8, 9, 10, 11, 12, 13, 14, 15] (by decide) rfl) rfl rfl rfl hl.1 (Nat.le_of_ble_eq_true rfl) ⟨hRc, hRs⟩ dX1_doOrder_165) hP hD hS hA [3, 4, 5, 6, 7, 8, 9, 10, 11, 12, 13, 14, 15] [0, 1, 2] [0, 1, 2, 3, 4, 5, 6, 7, 8, 9, 10, 11, 12, 13, 14, 15] rfl (wr := ([0, 1, 2].filterMap (fun i => ((wT t ta cI cC T ++ wG g ad cI G))[i]?))) rfl (by decide) (by decide) (by decide) rfl rfl (fun H locs hP hD hS => ?_)
    refine z_as (show pdV G (T 3 0) 9999 = doV G (T 2 0) (T 3 0) (T 3 1) (T 3 2) from by (unfold doV; (repeat' split) <;> first | (exfalso; omega) | rfl | omega)) ?_
    have eW1 : doG G (T 2 0) (T 3 0) (T 3 1) (T 3 2) = (pdG G (T 3 0) 9999) := by (unfold doG; (repeat' split) <;> first | (exfalso; omega) | rfl)
    rw [← eW1] at hP hD
    first | exact hret _ _ _ _ dX1_doOrder_168 hP hD hS | (exfalso; omega)
  · refine lv_lookup (tgt := 98) (off := 94) hx hb dX1_doOrder_4 (by decide) (by rw [iI_t (by omega), c_1]; rfl) (by decide) ?_
    refine lv_aload_n hx hb dX1_doOrder_98 rfl (lv_at hl 1 rfl) ?_
    refine lv_aload_n hx hb dX1_doOrder_99 rfl (lv_at hl 0 rfl) ?_
    refine va_get (D := D) (ci := 1) (v := .ref (ta 3)) (C := RX1) (T := TX1) (N := 5) hx hb hq inA1 hown hK hP 0 rfl rfl 3 (by decide) (hq _ q_157) (fun _ h9 => h9) rfl dX1_doOrder_100 ?_
    refine z_iconst hx hb dX1_doOrder_103 ?_
    refine z_iald hx hb hK hP 2 0 rfl rfl (by omega) (by omega) (v := (T 3 0)) rfl dX1_doOrder_104 ?_
    refine lv_aload_n hx hb dX1_doOrder_105 rfl (lv_at hl 0 rfl) ?_
    refine va_get (D := D) (ci := 1) (v := .ref (ta 3)) (C := RX1) (T := TX1) (N := 5) hx hb hq inA1 hown hK hP 0 rfl rfl 3 (by decide) (hq _ q_157) (fun _ h9 => h9) rfl dX1_doOrder_106 ?_
    refine z_iconst hx hb dX1_doOrder_109 ?_
    refine z_iald hx hb hK hP 2 0 rfl rfl (by omega) (by omega) (v := (T 3 1)) rfl dX1_doOrder_110 ?_
    refine lv_aload_n hx hb dX1_doOrder_111 rfl (lv_at hl 0 rfl) ?_
    refine va_get (D := D) (ci := 1) (v := .ref (ta 3)) (C := RX1) (T := TX1) (N := 5) hx hb hq inA1 hown hK hP 0 rfl rfl 3 (by decide) (hq _ q_157) (fun _ h9 => h9) rfl dX1_doOrder_112 ?_
    refine z_iconst hx hb dX1_doOrder_115 ?_
    refine z_iald hx hb hK hP 2 0 rfl rfl (by omega) (by omega) (v := (T 3 2)) rfl dX1_doOrder_116 ?_
    refine mw_part (st1 := [.int (iI (fgV G (T 3 0) (T 3 1) (T 3 2)))]) (w1 := (wT t ta cI cC T ++ wG g ad cI (fgG G (T 3 0) (T 3 1) (T 3 2)))) (mr_V (As := [.int (iI (T 3 0)), .int (iI (T 3 1)), .int (iI (T 3 2))]) (rest := []) (ci := 0) (q0 := 0) ⟨hx, hb, hml, hown, hts⟩ (m_X0_failGuard_all l D g ad cI G (T 3 0) (T 3 1) (T 3 2) hI (by omega) (by omega) (by omega)) (cwV 3 hts (gV q_188 q_189 q_190 q_8 q_69) rfl rfl rfl (by decide +kernel) ⟨Nat.le_trans (m := 3) (Nat.le_of_ble_eq_true rfl) (Nat.le_trans (Nat.le_of_ble_eq_true rfl) hRf), Nat.le_trans (m := 68) (Nat.le_of_ble_eq_true rfl) (Nat.le_trans (Nat.le_of_ble_eq_true rfl) hRl)⟩) hN (hK.sub (tys' := [(cI, .int)]) [0] rfl) (hP.sub (ws' := (wG g ad cI G)) [3, 4, 5, 6, 7, 8, 9, 10, 11, 12, 13, 14, 15] rfl) (hD.sub (ws' := (wG g ad cI G)) [3, 4, 5, 6, 7, 8, 9, 10, 11, 12, 13, 14, 15] (by decide) rfl) rfl rfl rfl hl.1 (Nat.le_of_ble_eq_true rfl) ⟨hRc, hRs⟩ dX1_doOrder_117) hP hD hS hA [3, 4, 5, 6, 7, 8, 9, 10, 11, 12, 13, 14, 15] [0, 1, 2] [0, 1, 2, 3, 4, 5, 6, 7, 8, 9, 10, 11, 12, 13, 14, 15] rfl (wr := ([0, 1, 2].filterMap (fun i => ((wT t ta cI cC T ++ wG g ad cI G))[i]?))) rfl (by decide) (by decide) (by decide) rfl rfl (fun H locs hP hD hS => ?_)
    refine z_as (show fgV G (T 3 0) (T 3 1) (T 3 2) = doV G (T 2 0) (T 3 0) (T 3 1) (T 3 2) from by (unfold doV; (repeat' split) <;> first | (exfalso; omega) | rfl | omega)) ?_
    have eW1 : doG G (T 2 0) (T 3 0) (T 3 1) (T 3 2) = (fgG G (T 3 0) (T 3 1) (T 3 2)) := by (unfold doG; (repeat' split) <;> first | (exfalso; omega) | rfl)
    rw [← eW1] at hP hD
    first | exact hret _ _ _ _ dX1_doOrder_120 hP hD hS | (exfalso; omega)
  · refine lv_lookup (tgt := 121) (off := 117) hx hb dX1_doOrder_4 (by decide) (by rw [iI_t (by omega), c_1]; rfl) (by decide) ?_
    refine lv_aload_n hx hb dX1_doOrder_121 rfl (lv_at hl 1 rfl) ?_
    refine lv_aload_n hx hb dX1_doOrder_122 rfl (lv_at hl 0 rfl) ?_
    refine va_get (D := D) (ci := 1) (v := .ref (ta 3)) (C := RX1) (T := TX1) (N := 5) hx hb hq inA1 hown hK hP 0 rfl rfl 3 (by decide) (hq _ q_157) (fun _ h9 => h9) rfl dX1_doOrder_123 ?_
    refine z_iconst hx hb dX1_doOrder_126 ?_
    refine z_iald hx hb hK hP 2 0 rfl rfl (by omega) (by omega) (v := (T 3 0)) rfl dX1_doOrder_127 ?_
    refine lv_aload_n hx hb dX1_doOrder_128 rfl (lv_at hl 0 rfl) ?_
    refine va_get (D := D) (ci := 1) (v := .ref (ta 3)) (C := RX1) (T := TX1) (N := 5) hx hb hq inA1 hown hK hP 0 rfl rfl 3 (by decide) (hq _ q_157) (fun _ h9 => h9) rfl dX1_doOrder_129 ?_
    refine z_iconst hx hb dX1_doOrder_132 ?_
    refine z_iald hx hb hK hP 2 0 rfl rfl (by omega) (by omega) (v := (T 3 1)) rfl dX1_doOrder_133 ?_
    refine mw_part (st1 := [.int (iI (mgV G (T 3 0) (T 3 1)))]) (w1 := (wT t ta cI cC T ++ wG g ad cI (mgG G (T 3 0) (T 3 1)))) (mr_V (As := [.int (iI (T 3 0)), .int (iI (T 3 1))]) (rest := []) (ci := 0) (q0 := 0) ⟨hx, hb, hml, hown, hts⟩ (m_X0_mendGuard_all l D g ad cI G (T 3 0) (T 3 1) hI (by omega) (by omega)) (cwV 2 hts (gV q_191 q_192 q_193 q_8 q_70) rfl rfl rfl (by decide +kernel) ⟨Nat.le_trans (m := 3) (Nat.le_of_ble_eq_true rfl) (Nat.le_trans (Nat.le_of_ble_eq_true rfl) hRf), Nat.le_trans (m := 66) (Nat.le_of_ble_eq_true rfl) (Nat.le_trans (Nat.le_of_ble_eq_true rfl) hRl)⟩) hN (hK.sub (tys' := [(cI, .int)]) [0] rfl) (hP.sub (ws' := (wG g ad cI G)) [3, 4, 5, 6, 7, 8, 9, 10, 11, 12, 13, 14, 15] rfl) (hD.sub (ws' := (wG g ad cI G)) [3, 4, 5, 6, 7, 8, 9, 10, 11, 12, 13, 14, 15] (by decide) rfl) rfl rfl rfl hl.1 (Nat.le_of_ble_eq_true rfl) ⟨hRc, hRs⟩ dX1_doOrder_134) hP hD hS hA [3, 4, 5, 6, 7, 8, 9, 10, 11, 12, 13, 14, 15] [0, 1, 2] [0, 1, 2, 3, 4, 5, 6, 7, 8, 9, 10, 11, 12, 13, 14, 15] rfl (wr := ([0, 1, 2].filterMap (fun i => ((wT t ta cI cC T ++ wG g ad cI G))[i]?))) rfl (by decide) (by decide) (by decide) rfl rfl (fun H locs hP hD hS => ?_)
    refine z_as (show mgV G (T 3 0) (T 3 1) = doV G (T 2 0) (T 3 0) (T 3 1) (T 3 2) from by (unfold doV; (repeat' split) <;> first | (exfalso; omega) | rfl | omega)) ?_
    have eW1 : doG G (T 2 0) (T 3 0) (T 3 1) (T 3 2) = (mgG G (T 3 0) (T 3 1)) := by (unfold doG; (repeat' split) <;> first | (exfalso; omega) | rfl)
    rw [← eW1] at hP hD
    first | exact hret _ _ _ _ dX1_doOrder_137 hP hD hS | (exfalso; omega)
  · refine lv_lookup (tgt := 138) (off := 134) hx hb dX1_doOrder_4 (by decide) (by rw [iI_t (by omega), c_1]; rfl) (by decide) ?_
    refine lv_aload_n hx hb dX1_doOrder_138 rfl (lv_at hl 1 rfl) ?_
    refine lv_aload_n hx hb dX1_doOrder_139 rfl (lv_at hl 0 rfl) ?_
    refine va_get (D := D) (ci := 1) (v := .ref (ta 3)) (C := RX1) (T := TX1) (N := 5) hx hb hq inA1 hown hK hP 0 rfl rfl 3 (by decide) (hq _ q_157) (fun _ h9 => h9) rfl dX1_doOrder_140 ?_
    refine z_iconst hx hb dX1_doOrder_143 ?_
    refine z_iald hx hb hK hP 2 0 rfl rfl (by omega) (by omega) (v := (T 3 0)) rfl dX1_doOrder_144 ?_
    refine lv_aload_n hx hb dX1_doOrder_145 rfl (lv_at hl 0 rfl) ?_
    refine va_get (D := D) (ci := 1) (v := .ref (ta 3)) (C := RX1) (T := TX1) (N := 5) hx hb hq inA1 hown hK hP 0 rfl rfl 3 (by decide) (hq _ q_157) (fun _ h9 => h9) rfl dX1_doOrder_146 ?_
    refine z_iconst hx hb dX1_doOrder_149 ?_
    refine z_iald hx hb hK hP 2 0 rfl rfl (by omega) (by omega) (v := (T 3 1)) rfl dX1_doOrder_150 ?_
    refine mw_part (st1 := [.int (iI (crV G (T 3 0) (T 3 1)))]) (w1 := (wT t ta cI cC T ++ wG g ad cI (crG G (T 3 0) (T 3 1)))) (mr_V (As := [.int (iI (T 3 0)), .int (iI (T 3 1))]) (rest := []) (ci := 0) (q0 := 0) ⟨hx, hb, hml, hown, hts⟩ (m_X0_changeRate_all l D g ad cI G (T 3 0) (T 3 1) hI (by omega) (by omega)) (cwV 2 hts (gV q_194 q_195 q_196 q_8 q_71) rfl rfl rfl (by decide +kernel) ⟨Nat.le_trans (m := 2) (Nat.le_of_ble_eq_true rfl) (Nat.le_trans (Nat.le_of_ble_eq_true rfl) hRf), Nat.le_trans (m := 45) (Nat.le_of_ble_eq_true rfl) (Nat.le_trans (Nat.le_of_ble_eq_true rfl) hRl)⟩) hN (hK.sub (tys' := [(cI, .int)]) [0] rfl) (hP.sub (ws' := (wG g ad cI G)) [3, 4, 5, 6, 7, 8, 9, 10, 11, 12, 13, 14, 15] rfl) (hD.sub (ws' := (wG g ad cI G)) [3, 4, 5, 6, 7, 8, 9, 10, 11, 12, 13, 14, 15] (by decide) rfl) rfl rfl rfl hl.1 (Nat.le_of_ble_eq_true rfl) ⟨hRc, hRs⟩ dX1_doOrder_151) hP hD hS hA [3, 4, 5, 6, 7, 8, 9, 10, 11, 12, 13, 14, 15] [0, 1, 2] [0, 1, 2, 3, 4, 5, 6, 7, 8, 9, 10, 11, 12, 13, 14, 15] rfl (wr := ([0, 1, 2].filterMap (fun i => ((wT t ta cI cC T ++ wG g ad cI G))[i]?))) rfl (by decide) (by decide) (by decide) rfl rfl (fun H locs hP hD hS => ?_)
    refine z_as (show crV G (T 3 0) (T 3 1) = doV G (T 2 0) (T 3 0) (T 3 1) (T 3 2) from by (unfold doV; (repeat' split) <;> first | (exfalso; omega) | rfl | omega)) ?_
    have eW1 : doG G (T 2 0) (T 3 0) (T 3 1) (T 3 2) = (crG G (T 3 0) (T 3 1)) := by (unfold doG; (repeat' split) <;> first | (exfalso; omega) | rfl)
    rw [← eW1] at hP hD
    first | exact hret _ _ _ _ dX1_doOrder_154 hP hD hS | (exfalso; omega)
  · refine lv_lookup (tgt := 64) (off := 60) hx hb dX1_doOrder_4 (by decide) (by rw [iI_t (by omega), c_1]; rfl) (by decide) ?_
    refine lv_aload_n hx hb dX1_doOrder_64 rfl (lv_at hl 1 rfl) ?_
    refine lv_aload_n hx hb dX1_doOrder_65 rfl (lv_at hl 0 rfl) ?_
    refine va_get (D := D) (ci := 1) (v := .ref (ta 3)) (C := RX1) (T := TX1) (N := 5) hx hb hq inA1 hown hK hP 0 rfl rfl 3 (by decide) (hq _ q_157) (fun _ h9 => h9) rfl dX1_doOrder_66 ?_
    refine z_iconst hx hb dX1_doOrder_69 ?_
    refine z_iald hx hb hK hP 2 0 rfl rfl (by omega) (by omega) (v := (T 3 0)) rfl dX1_doOrder_70 ?_
    refine lv_aload_n hx hb dX1_doOrder_71 rfl (lv_at hl 0 rfl) ?_
    refine va_get (D := D) (ci := 1) (v := .ref (ta 3)) (C := RX1) (T := TX1) (N := 5) hx hb hq inA1 hown hK hP 0 rfl rfl 3 (by decide) (hq _ q_157) (fun _ h9 => h9) rfl dX1_doOrder_72 ?_
    refine z_iconst hx hb dX1_doOrder_75 ?_
    refine z_iald hx hb hK hP 2 0 rfl rfl (by omega) (by omega) (v := (T 3 1)) rfl dX1_doOrder_76 ?_
    refine lv_aload_n hx hb dX1_doOrder_77 rfl (lv_at hl 0 rfl) ?_
    refine va_get (D := D) (ci := 1) (v := .ref (ta 3)) (C := RX1) (T := TX1) (N := 5) hx hb hq inA1 hown hK hP 0 rfl rfl 3 (by decide) (hq _ q_157) (fun _ h9 => h9) rfl dX1_doOrder_78 ?_
    refine z_iconst hx hb dX1_doOrder_81 ?_
    refine z_iald hx hb hK hP 2 0 rfl rfl (by omega) (by omega) (v := (T 3 2)) rfl dX1_doOrder_82 ?_
    refine mw_part (st1 := [.int (iI (wlV G (T 3 0) (T 3 1) (T 3 2)))]) (w1 := (wT t ta cI cC T ++ wG g ad cI (wlG G (T 3 0) (T 3 1) (T 3 2)))) (mr_V (As := [.int (iI (T 3 0)), .int (iI (T 3 1)), .int (iI (T 3 2))]) (rest := []) (ci := 0) (q0 := 0) ⟨hx, hb, hml, hown, hts⟩ (m_X0_writeLevel_all l D g ad cI G (T 3 0) (T 3 1) (T 3 2) hI (by omega) (by omega) (by omega) (by omega)) (cwV 3 hts (gV q_184 q_185 q_186 q_8 q_42) rfl rfl rfl (by decide +kernel) ⟨Nat.le_trans (m := 3) (Nat.le_of_ble_eq_true rfl) (Nat.le_trans (Nat.le_of_ble_eq_true rfl) hRf), Nat.le_trans (m := 67) (Nat.le_of_ble_eq_true rfl) (Nat.le_trans (Nat.le_of_ble_eq_true rfl) hRl)⟩) hN (hK.sub (tys' := [(cI, .int)]) [0] rfl) (hP.sub (ws' := (wG g ad cI G)) [3, 4, 5, 6, 7, 8, 9, 10, 11, 12, 13, 14, 15] rfl) (hD.sub (ws' := (wG g ad cI G)) [3, 4, 5, 6, 7, 8, 9, 10, 11, 12, 13, 14, 15] (by decide) rfl) rfl rfl rfl hl.1 (Nat.le_of_ble_eq_true rfl) ⟨hRc, hRs⟩ dX1_doOrder_83) hP hD hS hA [3, 4, 5, 6, 7, 8, 9, 10, 11, 12, 13, 14, 15] [0, 1, 2] [0, 1, 2, 3, 4, 5, 6, 7, 8, 9, 10, 11, 12, 13, 14, 15] rfl (wr := ([0, 1, 2].filterMap (fun i => ((wT t ta cI cC T ++ wG g ad cI G))[i]?))) rfl (by decide) (by decide) (by decide) rfl rfl (fun H locs hP hD hS => ?_)
    refine z_as (show wlV G (T 3 0) (T 3 1) (T 3 2) = doV G (T 2 0) (T 3 0) (T 3 1) (T 3 2) from by (unfold doV; (repeat' split) <;> first | (exfalso; omega) | rfl | omega)) ?_
    have eW1 : doG G (T 2 0) (T 3 0) (T 3 1) (T 3 2) = (wlG G (T 3 0) (T 3 1) (T 3 2)) := by (unfold doG; (repeat' split) <;> first | (exfalso; omega) | rfl)
    rw [← eW1] at hP hD
    first | exact hret _ _ _ _ dX1_doOrder_86 hP hD hS | (exfalso; omega)
