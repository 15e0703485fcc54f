set_option maxHeartbeats 4000000 in
set_option maxRecDepth 100000 in
theorem m_X2_fault (l : Launch) (D : va_G) (xo xh t : Nat) (ta : Nat → Nat) (cI cC cH : ClassId) (ga : Nat → Nat) (gd : Nat → Nat → Nat) (F T : Nat → Int → Int) (Gs : Nat → Nat → Int → Int) (w : Int) {B : Int} (hI : InvG B (Gs 0)) (hT : InvT T) (hK1 : InvK1 T) (hB : B + 35640 ≤ 100000000) (h1 : 0 ≤ w ∧ w ≤ 2)  : MW l D yX2_fault (wsY yX2_fault cX2_fault 2 (some .int)) { frames := 6, cells := 0, slots := 0, locals := 142 } [(cI, .int), (cC, .char), (cH, .object RX0)] [.ref xo, .int (iI w)] (wX xo xh t ta cI cC cH ga gd F T Gs) (wX xo xh t ta cI cC cH ga gd (ffF F (ffI (Gs 0) T 60)) (FF.T (ffI (Gs 0) T 60)) (upS Gs 2 (FF.X (ffI (Gs 0) T 60)))) (some (.int (iI (if ffV (ffI (Gs 0) T 60) = 0 then -1000004 else (if w = 0 then ffF F (ffI (Gs 0) T 60) 7 0 else if w = 1 then ffF F (ffI (Gs 0) T 60) 8 0 else ffF F (ffI (Gs 0) T 60) 9 0))))) := by
  refine mw_ofI (cc := cX2_fault) (maxL := 2) (by decide) rfl (Nat.le_of_ble_eq_true rfl) ?_
  intro p e s m below meth c R A Q args ls hx hb hml hown hts hRf hRl hRc hRs hN hK hP hD hS hA hret hl
  have hq : ∀ w ∈ ALL, w.before args s = true := fun w h => hts w (List.mem_cons_of_mem _ h)
  have hl : lv_has ls 2 [(0, .ref xo), (1, .int (iI w))] := hl
  refine lv_iload_n hx hb dX2_fault_0 rfl (lv_at hl 1 rfl) ?_
  refine z_iconst hx hb dX2_fault_1 ?_
  refine z_iconst hx hb dX2_fault_2 ?_
  refine mw_none (st1 := [.int (iI (outZ w 0 2))]) (mr_S (As := [.int (iI w), .int (iI 0), .int (iI 2)]) (rest := []) ⟨hx, hb, hml, hown, hts⟩ (m_X2_isOutside l D w 0 2 (by omega) (by omega) (by omega)) (va_cwS 3 hts (gS q_270 q_36 q_37 q_35) rfl rfl rfl (by decide +kernel) ⟨Nat.le_trans (m := 1) (Nat.le_of_ble_eq_true rfl) (Nat.le_trans (Nat.le_of_ble_eq_true rfl) hRf), Nat.le_trans (m := 22) (Nat.le_of_ble_eq_true rfl) (Nat.le_trans (Nat.le_of_ble_eq_true rfl) hRl)⟩) hN (hK.sub (tys' := []) [] rfl) (va_P0 _ _ _) (va_D0 A) rfl hl.1 (Nat.le_of_ble_eq_true rfl) ⟨hRc, hRs⟩ dX2_fault_3) hP hS hA rfl (fun H locs hP hS => ?_)
  have hf_1 : outZ w 0 2 = if w < 0 ∨ 2 < w then 1 else 0 := rfl
  refine z_if_eq (tgt := 12) hx hb dX2_fault_6 (by decide) (by omega) (fun c_2 => ?_) (fun c_2 => absurd c_2 (by omega))
  refine lv_aload_n hx hb dX2_fault_12 rfl (lv_at hl 0 rfl) ?_
  refine mw_full (st1 := [.int (iI (ffV (ffI (Gs 0) T 60)))]) (mr_V (As := []) (rest := []) (ci := 2) (q0 := 0) ⟨hx, hb, hml, hown, hts⟩ (m_X2_findFault l D xo xh t ta cI cC cH ga gd F T Gs hI hT hK1 (by omega)) (cwV 0 hts (gV q_333 q_334 q_335 q_37 q_332) rfl rfl rfl (by decide +kernel) ⟨Nat.le_trans (m := 6) (Nat.le_of_ble_eq_true rfl) (Nat.le_trans (Nat.le_of_ble_eq_true rfl) hRf), Nat.le_trans (m := 142) (Nat.le_of_ble_eq_true rfl) (Nat.le_trans (Nat.le_of_ble_eq_true rfl) hRl)⟩) hN hK hP hD rfl rfl rfl hl.1 (Nat.le_of_ble_eq_true rfl) ⟨hRc, hRs⟩ dX2_fault_13) hD hS hA rfl (fun H locs hP hD hS => ?_)
  have hfv := ffV_01 (ffI (Gs 0) T 60)
  refine z_if_ne (tgt := 22) hx hb dX2_fault_16 (by decide) (by omega) (fun c_3 => ?_) (fun c_3 => ?_)
  · have hnz := c_3
    refine lv_iload_n hx hb dX2_fault_22 rfl (lv_at hl 1 rfl) ?_
    have c_4 : (w ≠ 0 ∧ w ≠ 1) ∨ (w = 0 ∨ w = 1) := by omega
    rcases c_4 with c_4 | c_4 | c_4
    · refine lv_lookup (tgt := 58) (off := 35) hx hb dX2_fault_23 (by decide) (by rw [iI_t (by omega)]; show (if (0 : Int) = w then (25 : Int) else (if (1 : Int) = w then (30 : Int) else 35)) = 35; omega) (by decide) ?_
      refine lv_aload_n hx hb dX2_fault_58 rfl (lv_at hl 0 rfl) ?_
      refine va_get (D := D) (ci := 2) (v := .int (iI ((ffF F (ffI (Gs 0) T 60)) 9 0))) (C := RX2) (T := TX2) (N := 10) hx hb hq inA2 hown hK hP 0 rfl rfl 9 (by decide) (hq _ q_317) (fun _ h9 => h9) rfl dX2_fault_59 ?_
      refine z_as (show ((ffF F (ffI (Gs 0) T 60)) 9 0) = (if ffV (ffI (Gs 0) T 60) = 0 then -1000004 else (if w = 0 then ffF F (ffI (Gs 0) T 60) 7 0 else if w = 1 then ffF F (ffI (Gs 0) T 60) 8 0 else ffF F (ffI (Gs 0) T 60) 9 0)) from by first | (rw [if_pos hnz]) | (rw [if_neg hnz]; subst_vars; rfl) | (rw [if_neg hnz, if_pos (by omega)]) | (rw [if_neg hnz, if_neg (by omega), if_pos (by omega)]) | (rw [if_neg hnz, if_neg (by omega), if_neg (by omega)])) ?_
      first | exact hret _ _ _ _ dX2_fault_62 hP hD hS | (exfalso; omega)
    · refine lv_lookup (tgt := 48) (off := 25) hx hb dX2_fault_23 (by decide) (by rw [iI_t (by omega), c_4]; rfl) (by decide) ?_
      refine lv_aload_n hx hb dX2_fault_48 rfl (lv_at hl 0 rfl) ?_
      refine va_get (D := D) (ci := 2) (v := .int (iI ((ffF F (ffI (Gs 0) T 60)) 7 0))) (C := RX2) (T := TX2) (N := 10) hx hb hq inA2 hown hK hP 0 rfl rfl 7 (by decide) (hq _ q_315) (fun _ h9 => h9) rfl dX2_fault_49 ?_
      refine z_as (show ((ffF F (ffI (Gs 0) T 60)) 7 0) = (if ffV (ffI (Gs 0) T 60) = 0 then -1000004 else (if w = 0 then ffF F (ffI (Gs 0) T 60) 7 0 else if w = 1 then ffF F (ffI (Gs 0) T 60) 8 0 else ffF F (ffI (Gs 0) T 60) 9 0)) from by first | (rw [if_pos hnz]) | (rw [if_neg hnz]; subst_vars; rfl) | (rw [if_neg hnz, if_pos (by omega)]) | (rw [if_neg hnz, if_neg (by omega), if_pos (by omega)]) | (rw [if_neg hnz, if_neg (by omega), if_neg (by omega)])) ?_
      first | exact hret _ _ _ _ dX2_fault_52 hP hD hS | (exfalso; omega)
    · refine lv_lookup (tgt := 53) (off := 30) hx hb dX2_fault_23 (by decide) (by rw [iI_t (by omega), c_4]; rfl) (by decide) ?_
      refine lv_aload_n hx hb dX2_fault_53 rfl (lv_at hl 0 rfl) ?_
      refine va_get (D := D) (ci := 2) (v := .int (iI ((ffF F (ffI (Gs 0) T 60)) 8 0))) (C := RX2) (T := TX2) (N := 10) hx hb hq inA2 hown hK hP 0 rfl rfl 8 (by decide) (hq _ q_316) (fun _ h9 => h9) rfl dX2_fault_54 ?_
      refine z_as (show ((ffF F (ffI (Gs 0) T 60)) 8 0) = (if ffV (ffI (Gs 0) T 60) = 0 then -1000004 else (if w = 0 then ffF F (ffI (Gs 0) T 60) 7 0 else if w = 1 then ffF F (ffI (Gs 0) T 60) 8 0 else ffF F (ffI (Gs 0) T 60) 9 0)) from by first | (rw [if_pos hnz]) | (rw [if_neg hnz]; subst_vars; rfl) | (rw [if_neg hnz, if_pos (by omega)]) | (rw [if_neg hnz, if_neg (by omega), if_pos (by omega)]) | (rw [if_neg hnz, if_neg (by omega), if_neg (by omega)])) ?_
      first | exact hret _ _ _ _ dX2_fault_57 hP hD hS | (exfalso; omega)
  · have hnz := c_3
    refine z_ldc hx hb (-1000004) (by decide +kernel) hown (hq _ q_269) dX2_fault_19 ?_
    refine z_as (show (-1000004) = (if ffV (ffI (Gs 0) T 60) = 0 then -1000004 else (if w = 0 then ffF F (ffI (Gs 0) T 60) 7 0 else if w = 1 then ffF F (ffI (Gs 0) T 60) 8 0 else ffF F (ffI (Gs 0) T 60) 9 0)) from by first | (rw [if_pos hnz]) | (rw [if_neg hnz]; subst_vars; rfl) | (rw [if_neg hnz, if_pos (by omega)]) | (rw [if_neg hnz, if_neg (by omega), if_pos (by omega)]) | (rw [if_neg hnz, if_neg (by omega), if_neg (by omega)])) ?_
    first | exact hret _ _ _ _ dX2_fault_21 hP hD hS | (exfalso; omega)
set_option maxHeartbeats 4000000 in
set_option maxRecDepth 100000 in
theorem m_X2_fault_bad (l : Launch) (D : va_G) (xo xh t : Nat) (ta : Nat → Nat) (cI cC cH : ClassId) (ga : Nat → Nat) (gd : Nat → Nat → Nat) (F T : Nat → Int → Int) (Gs : Nat → Nat → Int → Int) (w : Int) (h_w : -2147483648 ≤ w ∧ w < 2147483648) (hb0 : w < 0 ∨ 2 < w)  : MW l D yX2_fault (wsY yX2_fault cX2_fault 2 (some .int)) { frames := 6, cells := 0, slots := 0, locals := 142 } [(cI, .int), (cC, .char), (cH, .object RX0)] [.ref xo, .int (iI w)] (wX xo xh t ta cI cC cH ga gd F T Gs) (wX xo xh t ta cI cC cH ga gd F T Gs) (some (.int (iI (-1000001)))) := by
  refine mw_ofI (cc := cX2_fault) (maxL := 2) (by decide) rfl (Nat.le_of_ble_eq_true rfl) ?_
  intro p e s m below meth c R A Q args ls hx hb hml hown hts hRf hRl hRc hRs hN hK hP hD hS hA hret hl
  have hq : ∀ w ∈ ALL, w.before args s = true := fun w h => hts w (List.mem_cons_of_mem _ h)
  have hl : lv_has ls 2 [(0, .ref xo), (1, .int (iI w))] := hl
  refine lv_iload_n hx hb dX2_fault_0 rfl (lv_at hl 1 rfl) ?_
  refine z_iconst hx hb dX2_fault_1 ?_
  refine z_iconst hx hb dX2_fault_2 ?_
  refine mw_none (st1 := [.int (iI (outZ w 0 2))]) (mr_S (As := [.int (iI w), .int (iI 0), .int (iI 2)]) (rest := []) ⟨hx, hb, hml, hown, hts⟩ (m_X2_isOutside l D w 0 2 (by omega) (by omega) (by omega)) (va_cwS 3 hts (gS q_270 q_36 q_37 q_35) rfl rfl rfl (by decide +kernel) ⟨Nat.le_trans (m := 1) (Nat.le_of_ble_eq_true rfl) (Nat.le_trans (Nat.le_of_ble_eq_true rfl) hRf), Nat.le_trans (m := 22) (Nat.le_of_ble_eq_true rfl) (Nat.le_trans (Nat.le_of_ble_eq_true rfl) hRl)⟩) hN (hK.sub (tys' := []) [] rfl) (va_P0 _ _ _) (va_D0 A) rfl hl.1 (Nat.le_of_ble_eq_true rfl) ⟨hRc, hRs⟩ dX2_fault_3) hP hS hA rfl (fun H locs hP hS => ?_)
  have hf_1 : outZ w 0 2 = if w < 0 ∨ 2 < w then 1 else 0 := rfl
  refine z_if_eq (tgt := 12) hx hb dX2_fault_6 (by decide) (by omega) (fun c_2 => absurd c_2 (by omega)) (fun c_2 => ?_)
  refine z_ldc hx hb (-1000001) (by decide +kernel) hown (hq _ q_267) dX2_fault_9 ?_
  refine z_as (show (-1000001) = -1000001 from by first | rfl | omega) ?_
  first | exact hret _ _ _ _ dX2_fault_11 hP hD hS | (exfalso; omega)
set_option maxHeartbeats 4000000 in
set_option maxRecDepth 100000 in
theorem m_X2_play (l : Launch) (D : va_G) (xo xh t : Nat) (ta : Nat → Nat) (cI cC cH : ClassId) (ga : Nat → Nat) (gd : Nat → Nat → Nat) (F T : Nat → Int → Int) (Gs : Nat → Nat → Int → Int) {B : Int} (hI : InvG B (Gs 0)) (hT : InvT T) (hK1 : InvK1 T) (hB : B + 35640 ≤ 100000000) (hk : 0 ≤ F 4 0 ∧ F 4 0 ≤ 4)  : MW l D yX2_play (wsY yX2_play cX2_play 1 (some .int)) { frames := 6, cells := 0, slots := 0, locals := 142 } [(cI, .int), (cC, .char), (cH, .object RX0)] [.ref xo] (wX xo xh t ta cI cC cH ga gd F T Gs) (if ffV (ffI (Gs 0) T 60) = 0 then wX xo xh t ta cI cC cH (rcxP (ffF F (ffI (Gs 0) T 60) 6 0) (F 4 0) ga) (rcxP (ffF F (ffI (Gs 0) T 60) 6 0) (F 4 0) gd) (rcxF (ffF F (ffI (Gs 0) T 60) 6 0) (ffF F (ffI (Gs 0) T 60))) (FF.T (ffI (Gs 0) T 60)) (rcxP (ffF F (ffI (Gs 0) T 60) 6 0) (F 4 0) (upS (upS (upS Gs 2 (FF.X (ffI (Gs 0) T 60))) 1 (Gs 0)) 0 (FF.X (ffI (Gs 0) T 60)))) else (wX xo xh t ta cI cC cH ga gd (ffF F (ffI (Gs 0) T 60)) (FF.T (ffI (Gs 0) T 60)) (upS Gs 2 (FF.X (ffI (Gs 0) T 60))))) (some (.int (iI (if ffV (ffI (Gs 0) T 60) = 0 then (ffF F (ffI (Gs 0) T 60) 6 0) else -1000002)))) := by
  refine mw_ofI (cc := cX2_play) (maxL := 1) (by decide) rfl (Nat.le_of_ble_eq_true rfl) ?_
  intro p e s m below meth c R A Q args ls hx hb hml hown hts hRf hRl hRc hRs hN hK hP hD hS hA hret hl
  have hq : ∀ w ∈ ALL, w.before args s = true := fun w h => hts w (List.mem_cons_of_mem _ h)
  have hl : lv_has ls 1 [(0, .ref xo)] := hl
  refine lv_aload_n hx hb dX2_play_0 rfl (lv_at hl 0 rfl) ?_
  refine mw_full (st1 := [.int (iI (ffV (ffI (Gs 0) T 60)))]) (mr_V (As := []) (rest := []) (ci := 2) (q0 := 0) ⟨hx, hb, hml, hown, hts⟩ (m_X2_findFault l D xo xh t ta cI cC cH ga gd F T Gs hI hT hK1 (by omega)) (cwV 0 hts (gV q_333 q_334 q_335 q_37 q_332) rfl rfl rfl (by decide +kernel) ⟨Nat.le_trans (m := 6) (Nat.le_of_ble_eq_true rfl) (Nat.le_trans (Nat.le_of_ble_eq_true rfl) hRf), Nat.le_trans (m := 142) (Nat.le_of_ble_eq_true rfl) (Nat.le_trans (Nat.le_of_ble_eq_true rfl) hRl)⟩) hN hK hP hD rfl rfl rfl hl.1 (Nat.le_of_ble_eq_true rfl) ⟨hRc, hRs⟩ dX2_play_1) hD hS hA rfl (fun H locs hP hD hS => ?_)
  have hfv := ffV_01 (ffI (Gs 0) T 60)
  refine z_if_eq (tgt := 10) hx hb dX2_play_4 (by decide) (by omega) (fun c_1 => ?_) (fun c_1 => ?_)
  · have hnz := c_1
    refine lv_aload_n hx hb dX2_play_10 rfl (lv_at hl 0 rfl) ?_
    refine va_get (D := D) (ci := 2) (v := .ref (ga 1)) (C := RX2) (T := TX2) (N := 10) hx hb hq inA2 hown hK hP 0 rfl rfl 1 (by decide) (hq _ q_205) (fun _ h9 => h9) rfl dX2_play_11 ?_
    refine lv_aload_n hx hb dX2_play_14 rfl (lv_at hl 0 rfl) ?_
    refine va_get (D := D) (ci := 2) (v := .ref (ga 0)) (C := RX2) (T := TX2) (N := 10) hx hb hq inA2 hown hK hP 0 rfl rfl 0 (by decide) (hq _ q_204) (fun _ h9 => h9) rfl dX2_play_15 ?_
    refine mw_gg (ga := ga) (gd := gd) (T := (FF.T (ffI (Gs 0) T 60))) (Gs := (upS Gs 2 (FF.X (ffI (Gs 0) T 60)))) (st1 := []) 1 0 (by decide) (by decide) (by decide) (X := ((upS Gs 2 (FF.X (ffI (Gs 0) T 60))) 0)) (mr_V (As := [.ref (ga 0)]) (rest := []) (ci := 0) (q0 := 0) ⟨hx, hb, hml, hown, hts⟩ (m_X0_copyFrom l D (ga 1) (gd 1) (ga 0) (gd 0) cI ((upS Gs 2 (FF.X (ffI (Gs 0) T 60))) 1) ((upS Gs 2 (FF.X (ffI (Gs 0) T 60))) 0)) (cwV 1 hts (gV q_221 q_222 q_223 q_8 q_34) rfl rfl rfl (by decide +kernel) ⟨Nat.le_trans (m := 2) (Nat.le_of_ble_eq_true rfl) (Nat.le_trans (Nat.le_of_ble_eq_true rfl) hRf), Nat.le_trans (m := 47) (Nat.le_of_ble_eq_true rfl) (Nat.le_trans (Nat.le_of_ble_eq_true rfl) hRl)⟩) hN (hK.sub (tys' := [(cI, .int)]) [0] rfl) (x_Pgg (ga := ga) (gd := gd) (T := (FF.T (ffI (Gs 0) T 60))) (Gs := (upS Gs 2 (FF.X (ffI (Gs 0) T 60)))) 1 0 (by decide) (by decide) (by decide) hP) (x_Dgg (ga := ga) (gd := gd) (T := (FF.T (ffI (Gs 0) T 60))) (Gs := (upS Gs 2 (FF.X (ffI (Gs 0) T 60)))) 1 0 (by decide) (by decide) (by decide) hD) rfl rfl rfl hl.1 (Nat.le_of_ble_eq_true rfl) ⟨hRc, hRs⟩ dX2_play_18) hP hD hS hA rfl (fun H locs hP hD hS => ?_)
    refine lv_aload_n hx hb dX2_play_21 rfl (lv_at hl 0 rfl) ?_
    refine va_get (D := D) (ci := 2) (v := .ref (ga 0)) (C := RX2) (T := TX2) (N := 10) hx hb hq inA2 hown hK hP 0 rfl rfl 0 (by decide) (hq _ q_204) (fun _ h9 => h9) rfl dX2_play_22 ?_
    refine lv_aload_n hx hb dX2_play_25 rfl (lv_at hl 0 rfl) ?_
    refine va_get (D := D) (ci := 2) (v := .ref (ga 2)) (C := RX2) (T := TX2) (N := 10) hx hb hq inA2 hown hK hP 0 rfl rfl 2 (by decide) (hq _ q_206) (fun _ h9 => h9) rfl dX2_play_26 ?_
    refine mw_gg (ga := ga) (gd := gd) (T := (FF.T (ffI (Gs 0) T 60))) (Gs := (upS (upS Gs 2 (FF.X (ffI (Gs 0) T 60))) 1 ((upS Gs 2 (FF.X (ffI (Gs 0) T 60))) 0))) (st1 := []) 0 2 (by decide) (by decide) (by decide) (X := ((upS Gs 2 (FF.X (ffI (Gs 0) T 60))) 2)) (mr_V (As := [.ref (ga 2)]) (rest := []) (ci := 0) (q0 := 0) ⟨hx, hb, hml, hown, hts⟩ (m_X0_copyFrom l D (ga 0) (gd 0) (ga 2) (gd 2) cI ((upS Gs 2 (FF.X (ffI (Gs 0) T 60))) 0) ((upS Gs 2 (FF.X (ffI (Gs 0) T 60))) 2)) (cwV 1 hts (gV q_221 q_222 q_223 q_8 q_34) rfl rfl rfl (by decide +kernel) ⟨Nat.le_trans (m := 2) (Nat.le_of_ble_eq_true rfl) (Nat.le_trans (Nat.le_of_ble_eq_true rfl) hRf), Nat.le_trans (m := 47) (Nat.le_of_ble_eq_true rfl) (Nat.le_trans (Nat.le_of_ble_eq_true rfl) hRl)⟩) hN (hK.sub (tys' := [(cI, .int)]) [0] rfl) (x_Pgg (ga := ga) (gd := gd) (T := (FF.T (ffI (Gs 0) T 60))) (Gs := (upS (upS Gs 2 (FF.X (ffI (Gs 0) T 60))) 1 ((upS Gs 2 (FF.X (ffI (Gs 0) T 60))) 0))) 0 2 (by decide) (by decide) (by decide) hP) (x_Dgg (ga := ga) (gd := gd) (T := (FF.T (ffI (Gs 0) T 60))) (Gs := (upS (upS Gs 2 (FF.X (ffI (Gs 0) T 60))) 1 ((upS Gs 2 (FF.X (ffI (Gs 0) T 60))) 0))) 0 2 (by decide) (by decide) (by decide) hD) rfl rfl rfl hl.1 (Nat.le_of_ble_eq_true rfl) ⟨hRc, hRs⟩ dX2_play_29) hP hD hS hA rfl (fun H locs hP hD hS => ?_)
    refine lv_aload_n hx hb dX2_play_32 rfl (lv_at hl 0 rfl) ?_
    refine lv_aload_n hx hb dX2_play_33 rfl (lv_at hl 0 rfl) ?_
    refine va_get (D := D) (ci := 2) (v := .int (iI ((ffF F (ffI (Gs 0) T 60)) 6 0))) (C := RX2) (T := TX2) (N := 10) hx hb hq inA2 hown hK hP 0 rfl rfl 6 (by decide) (hq _ q_319) (fun _ h9 => h9) rfl dX2_play_34 ?_
    have hq60 := ff_inv hI hT hK1 hB 60 (by omega)
    have hq6 : ffF F (ffI (Gs 0) T 60) 6 0 = FF.n (ffI (Gs 0) T 60) := by unfold ffF; split <;> rfl
    have hq4 : ffF F (ffI (Gs 0) T 60) 4 0 = F 4 0 := by unfold ffF; split <;> rfl
    refine mw_full (st1 := [.int (iI ((ffF F (ffI (Gs 0) T 60)) 6 0))]) (mr_V (As := [.int (iI ((ffF F (ffI (Gs 0) T 60)) 6 0))]) (rest := []) (ci := 2) (q0 := 0) ⟨hx, hb, hml, hown, hts⟩ (m_X2_recorded_all l D xo xh t ta cI cC cH ga gd (ffF F (ffI (Gs 0) T 60)) (FF.T (ffI (Gs 0) T 60)) (upS (upS (upS Gs 2 (FF.X (ffI (Gs 0) T 60))) 1 ((upS Gs 2 (FF.X (ffI (Gs 0) T 60))) 0)) 0 ((upS Gs 2 (FF.X (ffI (Gs 0) T 60))) 2)) ((ffF F (ffI (Gs 0) T 60)) 6 0) (by omega) (by omega)) (cwV 1 hts (gV q_225 q_226 q_227 q_37 q_220) rfl rfl rfl (by decide +kernel) ⟨Nat.le_trans (m := 2) (Nat.le_of_ble_eq_true rfl) (Nat.le_trans (Nat.le_of_ble_eq_true rfl) hRf), Nat.le_trans (m := 44) (Nat.le_of_ble_eq_true rfl) (Nat.le_trans (Nat.le_of_ble_eq_true rfl) hRl)⟩) hN hK hP hD rfl rfl rfl hl.1 (Nat.le_of_ble_eq_true rfl) ⟨hRc, hRs⟩ dX2_play_37) hD hS hA rfl (fun H locs hP hD hS => ?_)
    refine z_as (show ((ffF F (ffI (Gs 0) T 60)) 6 0) = (if ffV (ffI (Gs 0) T 60) = 0 then (ffF F (ffI (Gs 0) T 60) 6 0) else -1000002) from by first | (rw [if_pos hnz]) | (rw [if_neg hnz])) ?_
    first | (rw [hq4] at hP hD; rw [if_pos hnz] at hret; exact hret _ _ _ _ dX2_play_40 hP hD hS) | (rw [if_neg hnz] at hret; exact hret _ _ _ _ dX2_play_40 hP hD hS)
  · have hnz := c_1
    refine z_ldc hx hb (-1000002) (by decide +kernel) hown (hq _ q_305) dX2_play_7 ?_
    refine z_as (show (-1000002) = (if ffV (ffI (Gs 0) T 60) = 0 then (ffF F (ffI (Gs 0) T 60) 6 0) else -1000002) from by first | (rw [if_pos hnz]) | (rw [if_neg hnz])) ?_
    first | (rw [hq4] at hP hD; rw [if_pos hnz] at hret; exact hret _ _ _ _ dX2_play_9 hP hD hS) | (rw [if_neg hnz] at hret; exact hret _ _ _ _ dX2_play_9 hP hD hS)
