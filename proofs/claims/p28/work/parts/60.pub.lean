set_option maxHeartbeats 4000000 in
set_option maxRecDepth 100000 in
theorem m_X2_write (l : Launch) (D : va_G) (xo xh t : Nat) (ta : Nat → Nat) (cI cC cH : ClassId) (ga : Nat → Nat) (gd : Nat → Nat → Nat) (F T : Nat → Int → Int) (Gs : Nat → Nat → Int → Int) (r c2 v : Int) {B : Int} (hI : InvG B (Gs 0)) (hB : B + 594 ≤ 100000000) (hk : 0 ≤ F 4 0 ∧ F 4 0 ≤ 4) (h_r : -2147483648 ≤ r ∧ r < 2147483648) (h_c2 : -2147483648 ≤ c2 ∧ c2 < 2147483648) (h_v : -2147483648 ≤ v ∧ v < 2147483648)  : MW l D yX2_write (wsY yX2_write cX2_write 4 (some .int)) { frames := 3, cells := 0, slots := 0, locals := 67 } [(cI, .int), (cC, .char), (cH, .object RX0)] [.ref xo, .int (iI r), .int (iI c2), .int (iI v)] (wX xo xh t ta cI cC cH ga gd F T Gs) (wX xo xh t ta cI cC cH (rcxP (wlV (Gs 0) r c2 v) (F 4 0) ga) (rcxP (wlV (Gs 0) r c2 v) (F 4 0) gd) (rcxF (wlV (Gs 0) r c2 v) F) T (rcxP (wlV (Gs 0) r c2 v) (F 4 0) (upS (upS Gs 1 (Gs 0)) 0 (wlG (Gs 0) r c2 v)))) (some (.int (iI (wlV (Gs 0) r c2 v)))) := by
  refine mw_ofI (cc := cX2_write) (maxL := 4) (by decide) rfl (Nat.le_of_ble_eq_true rfl) ?_
  intro p e s m below meth c R A Q args ls hx hb hml hown hts hRf hRl hRc hRs hN hK hP hD hS hA hret hl
  have hq : ∀ w ∈ ALL, w.before args s = true := fun w h => hts w (List.mem_cons_of_mem _ h)
  have hl : lv_has ls 4 [(0, .ref xo), (1, .int (iI r)), (2, .int (iI c2)), (3, .int (iI v))] := hl
  refine lv_aload_n hx hb dX2_write_0 rfl (lv_at hl 0 rfl) ?_
  refine va_get (D := D) (ci := 2) (v := .ref (ga 1)) (C := RX2) (T := TX2) (N := 10) hx hb hq inA2 hown hK hP 0 rfl rfl 1 (by decide) (hq _ q_205) (fun _ h9 => h9) rfl dX2_write_1 ?_
  refine lv_aload_n hx hb dX2_write_4 rfl (lv_at hl 0 rfl) ?_
  refine va_get (D := D) (ci := 2) (v := .ref (ga 0)) (C := RX2) (T := TX2) (N := 10) hx hb hq inA2 hown hK hP 0 rfl rfl 0 (by decide) (hq _ q_204) (fun _ h9 => h9) rfl dX2_write_5 ?_
  refine mw_gg (ga := ga) (gd := gd) (T := T) (Gs := Gs) (st1 := []) 1 0 (by decide) (by decide) (by decide) (X := (Gs 0)) (mr_V (As := [.ref (ga 0)]) (rest := []) (ci := 0) (q0 := 0) ⟨hx, hb, hml, hown, hts⟩ (m_X0_copyFrom l D (ga 1) (gd 1) (ga 0) (gd 0) cI (Gs 1) (Gs 0)) (cwV 1 hts (gV q_221 q_222 q_223 q_8 q_34) rfl rfl rfl (by decide +kernel) ⟨Nat.le_trans (m := 2) (Nat.le_of_ble_eq_true rfl) (Nat.le_trans (Nat.le_of_ble_eq_true rfl) hRf), Nat.le_trans (m := 47) (Nat.le_of_ble_eq_true rfl) (Nat.le_trans (Nat.le_of_ble_eq_true rfl) hRl)⟩) hN (hK.sub (tys' := [(cI, .int)]) [0] rfl) (x_Pgg (ga := ga) (gd := gd) (T := T) (Gs := Gs) 1 0 (by decide) (by decide) (by decide) hP) (x_Dgg (ga := ga) (gd := gd) (T := T) (Gs := Gs) 1 0 (by decide) (by decide) (by decide) hD) rfl rfl rfl hl.1 (Nat.le_of_ble_eq_true rfl) ⟨hRc, hRs⟩ dX2_write_8) hP hD hS hA rfl (fun H locs hP hD hS => ?_)
  refine lv_aload_n hx hb dX2_write_11 rfl (lv_at hl 0 rfl) ?_
  refine lv_aload_n hx hb dX2_write_12 rfl (lv_at hl 0 rfl) ?_
  refine va_get (D := D) (ci := 2) (v := .ref (ga 0)) (C := RX2) (T := TX2) (N := 10) hx hb hq inA2 hown hK hP 0 rfl rfl 0 (by decide) (hq _ q_204) (fun _ h9 => h9) rfl dX2_write_13 ?_
  refine lv_iload_n hx hb dX2_write_16 rfl (lv_at hl 1 rfl) ?_
  refine lv_iload_n hx hb dX2_write_17 rfl (lv_at hl 2 rfl) ?_
  refine lv_iload_n hx hb dX2_write_18 rfl (lv_at hl 3 rfl) ?_
  have hv0 := wl_v hI (by omega) r c2 v
  refine mw_gr (ga := ga) (gd := gd) (T := T) (Gs := (upS Gs 1 (Gs 0))) (st1 := [.int (iI (wlV (Gs 0) r c2 v)), .ref xo]) 0 (by decide) (X := (wlG (Gs 0) r c2 v)) (mr_V (As := [.int (iI r), .int (iI c2), .int (iI v)]) (rest := [.ref xo]) (ci := 0) (q0 := 0) ⟨hx, hb, hml, hown, hts⟩ (m_X0_writeLevel_all l D (ga 0) (gd 0) cI (Gs 0) r c2 v hI (by omega) (by omega) (by omega) (by omega)) (cwV 3 hts (gV q_224 q_185 q_186 q_8 q_42) rfl rfl rfl (by decide +kernel) ⟨Nat.le_trans (m := 3) (Nat.le_of_ble_eq_true rfl) (Nat.le_trans (Nat.le_of_ble_eq_true rfl) hRf), Nat.le_trans (m := 67) (Nat.le_of_ble_eq_true rfl) (Nat.le_trans (Nat.le_of_ble_eq_true rfl) hRl)⟩) hN (hK.sub (tys' := [(cI, .int)]) [0] rfl) (x_Pg (ga := ga) (gd := gd) (T := T) (Gs := (upS Gs 1 (Gs 0))) 0 (by decide) hP) (x_Dg (ga := ga) (gd := gd) (T := T) (Gs := (upS Gs 1 (Gs 0))) 0 (by decide) hD) rfl rfl rfl hl.1 (Nat.le_of_ble_eq_true rfl) ⟨hRc, hRs⟩ dX2_write_19) hP hD hS hA rfl (fun H locs hP hD hS => ?_)
  refine mw_full (st1 := [.int (iI (wlV (Gs 0) r c2 v))]) (mr_V (As := [.int (iI (wlV (Gs 0) r c2 v))]) (rest := []) (ci := 2) (q0 := 0) ⟨hx, hb, hml, hown, hts⟩ (m_X2_recorded_all l D xo xh t ta cI cC cH ga gd F T (upS (upS Gs 1 (Gs 0)) 0 (wlG (Gs 0) r c2 v)) (wlV (Gs 0) r c2 v) (by omega) (by omega)) (cwV 1 hts (gV q_225 q_226 q_227 q_37 q_220) rfl rfl rfl (by decide +kernel) ⟨Nat.le_trans (m := 2) (Nat.le_of_ble_eq_true rfl) (Nat.le_trans (Nat.le_of_ble_eq_true rfl) hRf), Nat.le_trans (m := 44) (Nat.le_of_ble_eq_true rfl) (Nat.le_trans (Nat.le_of_ble_eq_true rfl) hRl)⟩) hN hK hP hD rfl rfl rfl hl.1 (Nat.le_of_ble_eq_true rfl) ⟨hRc, hRs⟩ dX2_write_22) hD hS hA rfl (fun H locs hP hD hS => ?_)
  first | exact hret _ _ _ _ dX2_write_25 hP hD hS | (exfalso; omega)
set_option maxHeartbeats 4000000 in
set_option maxRecDepth 100000 in
theorem m_X2_fill (l : Launch) (D : va_G) (xo xh t : Nat) (ta : Nat → Nat) (cI cC cH : ClassId) (ga : Nat → Nat) (gd : Nat → Nat → Nat) (F T : Nat → Int → Int) (Gs : Nat → Nat → Int → Int) (r w : Int) {B : Int} (hI : InvG B (Gs 0)) (hB : B + 594 ≤ 100000000) (hk : 0 ≤ F 4 0 ∧ F 4 0 ≤ 4) (h_r : -2147483648 ≤ r ∧ r < 2147483648) (h_w : -2147483648 ≤ w ∧ w < 2147483648)  : MW l D yX2_fill (wsY yX2_fill cX2_fill 3 (some .int)) { frames := 4, cells := 0, slots := 0, locals := 97 } [(cI, .int), (cC, .char), (cH, .object RX0)] [.ref xo, .int (iI r), .int (iI w)] (wX xo xh t ta cI cC cH ga gd F T Gs) (wX xo xh t ta cI cC cH (rcxP (wwV (Gs 0) r w) (F 4 0) ga) (rcxP (wwV (Gs 0) r w) (F 4 0) gd) (rcxF (wwV (Gs 0) r w) F) T (rcxP (wwV (Gs 0) r w) (F 4 0) (upS (upS Gs 1 (Gs 0)) 0 (wwG (Gs 0) r w)))) (some (.int (iI (wwV (Gs 0) r w)))) := by
  refine mw_ofI (cc := cX2_fill) (maxL := 3) (by decide) rfl (Nat.le_of_ble_eq_true rfl) ?_
  intro p e s m below meth c R A Q args ls hx hb hml hown hts hRf hRl hRc hRs hN hK hP hD hS hA hret hl
  have hq : ∀ w ∈ ALL, w.before args s = true := fun w h => hts w (List.mem_cons_of_mem _ h)
  have hl : lv_has ls 3 [(0, .ref xo), (1, .int (iI r)), (2, .int (iI w))] := hl
  refine lv_aload_n hx hb dX2_fill_0 rfl (lv_at hl 0 rfl) ?_
  refine va_get (D := D) (ci := 2) (v := .ref (ga 1)) (C := RX2) (T := TX2) (N := 10) hx hb hq inA2 hown hK hP 0 rfl rfl 1 (by decide) (hq _ q_205) (fun _ h9 => h9) rfl dX2_fill_1 ?_
  refine lv_aload_n hx hb dX2_fill_4 rfl (lv_at hl 0 rfl) ?_
  refine va_get (D := D) (ci := 2) (v := .ref (ga 0)) (C := RX2) (T := TX2) (N := 10) hx hb hq inA2 hown hK hP 0 rfl rfl 0 (by decide) (hq _ q_204) (fun _ h9 => h9) rfl dX2_fill_5 ?_
  refine mw_gg (ga := ga) (gd := gd) (T := T) (Gs := Gs) (st1 := []) 1 0 (by decide) (by decide) (by decide) (X := (Gs 0)) (mr_V (As := [.ref (ga 0)]) (rest := []) (ci := 0) (q0 := 0) ⟨hx, hb, hml, hown, hts⟩ (m_X0_copyFrom l D (ga 1) (gd 1) (ga 0) (gd 0) cI (Gs 1) (Gs 0)) (cwV 1 hts (gV q_221 q_222 q_223 q_8 q_34) rfl rfl rfl (by decide +kernel) ⟨Nat.le_trans (m := 2) (Nat.le_of_ble_eq_true rfl) (Nat.le_trans (Nat.le_of_ble_eq_true rfl) hRf), Nat.le_trans (m := 47) (Nat.le_of_ble_eq_true rfl) (Nat.le_trans (Nat.le_of_ble_eq_true rfl) hRl)⟩) hN (hK.sub (tys' := [(cI, .int)]) [0] rfl) (x_Pgg (ga := ga) (gd := gd) (T := T) (Gs := Gs) 1 0 (by decide) (by decide) (by decide) hP) (x_Dgg (ga := ga) (gd := gd) (T := T) (Gs := Gs) 1 0 (by decide) (by decide) (by decide) hD) rfl rfl rfl hl.1 (Nat.le_of_ble_eq_true rfl) ⟨hRc, hRs⟩ dX2_fill_8) hP hD hS hA rfl (fun H locs hP hD hS => ?_)
  refine lv_aload_n hx hb dX2_fill_11 rfl (lv_at hl 0 rfl) ?_
  refine lv_aload_n hx hb dX2_fill_12 rfl (lv_at hl 0 rfl) ?_
  refine va_get (D := D) (ci := 2) (v := .ref (ga 0)) (C := RX2) (T := TX2) (N := 10) hx hb hq inA2 hown hK hP 0 rfl rfl 0 (by decide) (hq _ q_204) (fun _ h9 => h9) rfl dX2_fill_13 ?_
  refine lv_iload_n hx hb dX2_fill_16 rfl (lv_at hl 1 rfl) ?_
  refine lv_iload_n hx hb dX2_fill_17 rfl (lv_at hl 2 rfl) ?_
  have hv0 := ww_v (Gs 0) r w
  refine mw_gr (ga := ga) (gd := gd) (T := T) (Gs := (upS Gs 1 (Gs 0))) (st1 := [.int (iI (wwV (Gs 0) r w)), .ref xo]) 0 (by decide) (X := (wwG (Gs 0) r w)) (mr_V (As := [.int (iI r), .int (iI w)]) (rest := [.ref xo]) (ci := 0) (q0 := 0) ⟨hx, hb, hml, hown, hts⟩ (m_X0_writeWord_all l D (ga 0) (gd 0) cI (Gs 0) r w hI (by omega) (by omega) (by omega)) (cwV 2 hts (gV q_229 q_230 q_231 q_8 q_62) rfl rfl rfl (by decide +kernel) ⟨Nat.le_trans (m := 4) (Nat.le_of_ble_eq_true rfl) (Nat.le_trans (Nat.le_of_ble_eq_true rfl) hRf), Nat.le_trans (m := 97) (Nat.le_of_ble_eq_true rfl) (Nat.le_trans (Nat.le_of_ble_eq_true rfl) hRl)⟩) hN (hK.sub (tys' := [(cI, .int)]) [0] rfl) (x_Pg (ga := ga) (gd := gd) (T := T) (Gs := (upS Gs 1 (Gs 0))) 0 (by decide) hP) (x_Dg (ga := ga) (gd := gd) (T := T) (Gs := (upS Gs 1 (Gs 0))) 0 (by decide) hD) rfl rfl rfl hl.1 (Nat.le_of_ble_eq_true rfl) ⟨hRc, hRs⟩ dX2_fill_18) hP hD hS hA rfl (fun H locs hP hD hS => ?_)
  refine mw_full (st1 := [.int (iI (wwV (Gs 0) r w))]) (mr_V (As := [.int (iI (wwV (Gs 0) r w))]) (rest := []) (ci := 2) (q0 := 0) ⟨hx, hb, hml, hown, hts⟩ (m_X2_recorded_all l D xo xh t ta cI cC cH ga gd F T (upS (upS Gs 1 (Gs 0)) 0 (wwG (Gs 0) r w)) (wwV (Gs 0) r w) (by omega) (by omega)) (cwV 1 hts (gV q_225 q_226 q_227 q_37 q_220) rfl rfl rfl (by decide +kernel) ⟨Nat.le_trans (m := 2) (Nat.le_of_ble_eq_true rfl) (Nat.le_trans (Nat.le_of_ble_eq_true rfl) hRf), Nat.le_trans (m := 44) (Nat.le_of_ble_eq_true rfl) (Nat.le_trans (Nat.le_of_ble_eq_true rfl) hRl)⟩) hN hK hP hD rfl rfl rfl hl.1 (Nat.le_of_ble_eq_true rfl) ⟨hRc, hRs⟩ dX2_fill_21) hD hS hA rfl (fun H locs hP hD hS => ?_)
  first | exact hret _ _ _ _ dX2_fill_24 hP hD hS | (exfalso; omega)
set_option maxHeartbeats 4000000 in
set_option maxRecDepth 100000 in
theorem m_X2_anew (l : Launch) (D : va_G) (xo xh t : Nat) (ta : Nat → Nat) (cI cC cH : ClassId) (ga : Nat → Nat) (gd : Nat → Nat → Nat) (F T : Nat → Int → Int) (Gs : Nat → Nat → Int → Int) (r : Int) {B : Int} (hI : InvG B (Gs 0)) (hB : B + 594 ≤ 100000000) (hk : 0 ≤ F 4 0 ∧ F 4 0 ≤ 4) (h_r : -2147483648 ≤ r ∧ r < 2147483648)  : MW l D yX2_anew (wsY yX2_anew cX2_anew 2 (some .int)) { frames := 3, cells := 0, slots := 0, locals := 74 } [(cI, .int), (cC, .char), (cH, .object RX0)] [.ref xo, .int (iI r)] (wX xo xh t ta cI cC cH ga gd F T Gs) (wX xo xh t ta cI cC cH (rcxP (waV (Gs 0) r) (F 4 0) ga) (rcxP (waV (Gs 0) r) (F 4 0) gd) (rcxF (waV (Gs 0) r) F) T (rcxP (waV (Gs 0) r) (F 4 0) (upS (upS Gs 1 (Gs 0)) 0 (waG (Gs 0) r)))) (some (.int (iI (waV (Gs 0) r)))) := by
  refine mw_ofI (cc := cX2_anew) (maxL := 2) (by decide) rfl (Nat.le_of_ble_eq_true rfl) ?_
  intro p e s m below meth c R A Q args ls hx hb hml hown hts hRf hRl hRc hRs hN hK hP hD hS hA hret hl
  have hq : ∀ w ∈ ALL, w.before args s = true := fun w h => hts w (List.mem_cons_of_mem _ h)
  have hl : lv_has ls 2 [(0, .ref xo), (1, .int (iI r))] := hl
  refine lv_aload_n hx hb dX2_anew_0 rfl (lv_at hl 0 rfl) ?_
  refine va_get (D := D) (ci := 2) (v := .ref (ga 1)) (C := RX2) (T := TX2) (N := 10) hx hb hq inA2 hown hK hP 0 rfl rfl 1 (by decide) (hq _ q_205) (fun _ h9 => h9) rfl dX2_anew_1 ?_
  refine lv_aload_n hx hb dX2_anew_4 rfl (lv_at hl 0 rfl) ?_
  refine va_get (D := D) (ci := 2) (v := .ref (ga 0)) (C := RX2) (T := TX2) (N := 10) hx hb hq inA2 hown hK hP 0 rfl rfl 0 (by decide) (hq _ q_204) (fun _ h9 => h9) rfl dX2_anew_5 ?_
  refine mw_gg (ga := ga) (gd := gd) (T := T) (Gs := Gs) (st1 := []) 1 0 (by decide) (by decide) (by decide) (X := (Gs 0)) (mr_V (As := [.ref (ga 0)]) (rest := []) (ci := 0) (q0 := 0) ⟨hx, hb, hml, hown, hts⟩ (m_X0_copyFrom l D (ga 1) (gd 1) (ga 0) (gd 0) cI (Gs 1) (Gs 0)) (cwV 1 hts (gV q_221 q_222 q_223 q_8 q_34) rfl rfl rfl (by decide +kernel) ⟨Nat.le_trans (m := 2) (Nat.le_of_ble_eq_true rfl) (Nat.le_trans (Nat.le_of_ble_eq_true rfl) hRf), Nat.le_trans (m := 47) (Nat.le_of_ble_eq_true rfl) (Nat.le_trans (Nat.le_of_ble_eq_true rfl) hRl)⟩) hN (hK.sub (tys' := [(cI, .int)]) [0] rfl) (x_Pgg (ga := ga) (gd := gd) (T := T) (Gs := Gs) 1 0 (by decide) (by decide) (by decide) hP) (x_Dgg (ga := ga) (gd := gd) (T := T) (Gs := Gs) 1 0 (by decide) (by decide) (by decide) hD) rfl rfl rfl hl.1 (Nat.le_of_ble_eq_true rfl) ⟨hRc, hRs⟩ dX2_anew_8) hP hD hS hA rfl (fun H locs hP hD hS => ?_)
  refine lv_aload_n hx hb dX2_anew_11 rfl (lv_at hl 0 rfl) ?_
  refine lv_aload_n hx hb dX2_anew_12 rfl (lv_at hl 0 rfl) ?_
  refine va_get (D := D) (ci := 2) (v := .ref (ga 0)) (C := RX2) (T := TX2) (N := 10) hx hb hq inA2 hown hK hP 0 rfl rfl 0 (by decide) (hq _ q_204) (fun _ h9 => h9) rfl dX2_anew_13 ?_
  refine lv_iload_n hx hb dX2_anew_16 rfl (lv_at hl 1 rfl) ?_
  have hv0 := wa_v (Gs 0) r
  refine mw_gr (ga := ga) (gd := gd) (T := T) (Gs := (upS Gs 1 (Gs 0))) (st1 := [.int (iI (waV (Gs 0) r)), .ref xo]) 0 (by decide) (X := (waG (Gs 0) r)) (mr_V (As := [.int (iI r)]) (rest := [.ref xo]) (ci := 0) (q0 := 0) ⟨hx, hb, hml, hown, hts⟩ (m_X0_writeAnew_all l D (ga 0) (gd 0) cI (Gs 0) r hI (by omega) (by omega)) (cwV 1 hts (gV q_233 q_90 q_91 q_8 q_63) rfl rfl rfl (by decide +kernel) ⟨Nat.le_trans (m := 3) (Nat.le_of_ble_eq_true rfl) (Nat.le_trans (Nat.le_of_ble_eq_true rfl) hRf), Nat.le_trans (m := 74) (Nat.le_of_ble_eq_true rfl) (Nat.le_trans (Nat.le_of_ble_eq_true rfl) hRl)⟩) hN (hK.sub (tys' := [(cI, .int)]) [0] rfl) (x_Pg (ga := ga) (gd := gd) (T := T) (Gs := (upS Gs 1 (Gs 0))) 0 (by decide) hP) (x_Dg (ga := ga) (gd := gd) (T := T) (Gs := (upS Gs 1 (Gs 0))) 0 (by decide) hD) rfl rfl rfl hl.1 (Nat.le_of_ble_eq_true rfl) ⟨hRc, hRs⟩ dX2_anew_17) hP hD hS hA rfl (fun H locs hP hD hS => ?_)
  refine mw_full (st1 := [.int (iI (waV (Gs 0) r))]) (mr_V (As := [.int (iI (waV (Gs 0) r))]) (rest := []) (ci := 2) (q0 := 0) ⟨hx, hb, hml, hown, hts⟩ (m_X2_recorded_all l D xo xh t ta cI cC cH ga gd F T (upS (upS Gs 1 (Gs 0)) 0 (waG (Gs 0) r)) (waV (Gs 0) r) (by omega) (by omega)) (cwV 1 hts (gV q_225 q_226 q_227 q_37 q_220) rfl rfl rfl (by decide +kernel) ⟨Nat.le_trans (m := 2) (Nat.le_of_ble_eq_true rfl) (Nat.le_trans (Nat.le_of_ble_eq_true rfl) hRf), Nat.le_trans (m := 44) (Nat.le_of_ble_eq_true rfl) (Nat.le_trans (Nat.le_of_ble_eq_true rfl) hRl)⟩) hN hK hP hD rfl rfl rfl hl.1 (Nat.le_of_ble_eq_true rfl) ⟨hRc, hRs⟩ dX2_anew_20) hD hS hA rfl (fun H locs hP hD hS => ?_)
  first | exact hret _ _ _ _ dX2_anew_23 hP hD hS | (exfalso; omega)
set_option maxHeartbeats 4000000 in
set_option maxRecDepth 100000 in
theorem m_X2_ask (l : Launch) (D : va_G) (xo xh t : Nat) (ta : Nat → Nat) (cI cC cH : ClassId) (ga : Nat → Nat) (gd : Nat → Nat → Nat) (F T : Nat → Int → Int) (Gs : Nat → Nat → Int → Int) (r c2 : Int) {B : Int} (hI : InvG B (Gs 0)) (hB : B + 594 ≤ 100000000) (hk : 0 ≤ F 4 0 ∧ F 4 0 ≤ 4) (h_r : -2147483648 ≤ r ∧ r < 2147483648) (h_c2 : -2147483648 ≤ c2 ∧ c2 < 2147483648)  : MW l D yX2_ask (wsY yX2_ask cX2_ask 3 (some .int)) { frames := 3, cells := 0, slots := 0, locals := 71 } [(cI, .int), (cC, .char), (cH, .object RX0)] [.ref xo, .int (iI r), .int (iI c2)] (wX xo xh t ta cI cC cH ga gd F T Gs) (wX xo xh t ta cI cC cH (rcxP (acV (Gs 0) r c2) (F 4 0) ga) (rcxP (acV (Gs 0) r c2) (F 4 0) gd) (rcxF (acV (Gs 0) r c2) F) T (rcxP (acV (Gs 0) r c2) (F 4 0) (upS (upS Gs 1 (Gs 0)) 0 (acG (Gs 0) r c2)))) (some (.int (iI (acV (Gs 0) r c2)))) := by
  refine mw_ofI (cc := cX2_ask) (maxL := 3) (by decide) rfl (Nat.le_of_ble_eq_true rfl) ?_
  intro p e s m below meth c R A Q args ls hx hb hml hown hts hRf hRl hRc hRs hN hK hP hD hS hA hret hl
  have hq : ∀ w ∈ ALL, w.before args s = true := fun w h => hts w (List.mem_cons_of_mem _ h)
  have hl : lv_has ls 3 [(0, .ref xo), (1, .int (iI r)), (2, .int (iI c2))] := hl
  refine lv_aload_n hx hb dX2_ask_0 rfl (lv_at hl 0 rfl) ?_
  refine va_get (D := D) (ci := 2) (v := .ref (ga 1)) (C := RX2) (T := TX2) (N := 10) hx hb hq inA2 hown hK hP 0 rfl rfl 1 (by decide) (hq _ q_205) (fun _ h9 => h9) rfl dX2_ask_1 ?_
  refine lv_aload_n hx hb dX2_ask_4 rfl (lv_at hl 0 rfl) ?_
  refine va_get (D := D) (ci := 2) (v := .ref (ga 0)) (C := RX2) (T := TX2) (N := 10) hx hb hq inA2 hown hK hP 0 rfl rfl 0 (by decide) (hq _ q_204) (fun _ h9 => h9) rfl dX2_ask_5 ?_
  refine mw_gg (ga := ga) (gd := gd) (T := T) (Gs := Gs) (st1 := []) 1 0 (by decide) (by decide) (by decide) (X := (Gs 0)) (mr_V (As := [.ref (ga 0)]) (rest := []) (ci := 0) (q0 := 0) ⟨hx, hb, hml, hown, hts⟩ (m_X0_copyFrom l D (ga 1) (gd 1) (ga 0) (gd 0) cI (Gs 1) (Gs 0)) (cwV 1 hts (gV q_221 q_222 q_223 q_8 q_34) rfl rfl rfl (by decide +kernel) ⟨Nat.le_trans (m := 2) (Nat.le_of_ble_eq_true rfl) (Nat.le_trans (Nat.le_of_ble_eq_true rfl) hRf), Nat.le_trans (m := 47) (Nat.le_of_ble_eq_true rfl) (Nat.le_trans (Nat.le_of_ble_eq_true rfl) hRl)⟩) hN (hK.sub (tys' := [(cI, .int)]) [0] rfl) (x_Pgg (ga := ga) (gd := gd) (T := T) (Gs := Gs) 1 0 (by decide) (by decide) (by decide) hP) (x_Dgg (ga := ga) (gd := gd) (T := T) (Gs := Gs) 1 0 (by decide) (by decide) (by decide) hD) rfl rfl rfl hl.1 (Nat.le_of_ble_eq_true rfl) ⟨hRc, hRs⟩ dX2_ask_8) hP hD hS hA rfl (fun H locs hP hD hS => ?_)
  refine lv_aload_n hx hb dX2_ask_11 rfl (lv_at hl 0 rfl) ?_
  refine lv_aload_n hx hb dX2_ask_12 rfl (lv_at hl 0 rfl) ?_
  refine va_get (D := D) (ci := 2) (v := .ref (ga 0)) (C := RX2) (T := TX2) (N := 10) hx hb hq inA2 hown hK hP 0 rfl rfl 0 (by decide) (hq _ q_204) (fun _ h9 => h9) rfl dX2_ask_13 ?_
  refine lv_iload_n hx hb dX2_ask_16 rfl (lv_at hl 1 rfl) ?_
  refine lv_iload_n hx hb dX2_ask_17 rfl (lv_at hl 2 rfl) ?_
  have hv0 := ac_v (Gs 0) r c2
  refine mw_gr (ga := ga) (gd := gd) (T := T) (Gs := (upS Gs 1 (Gs 0))) (st1 := [.int (iI (acV (Gs 0) r c2)), .ref xo]) 0 (by decide) (X := (acG (Gs 0) r c2)) (mr_V (As := [.int (iI r), .int (iI c2)]) (rest := [.ref xo]) (ci := 0) (q0 := 0) ⟨hx, hb, hml, hown, hts⟩ (m_X0_askCell_all l D (ga 0) (gd 0) cI (Gs 0) r c2 hI (by omega) (by omega) (by omega)) (cwV 2 hts (gV q_235 q_236 q_237 q_8 q_64) rfl rfl rfl (by decide +kernel) ⟨Nat.le_trans (m := 3) (Nat.le_of_ble_eq_true rfl) (Nat.le_trans (Nat.le_of_ble_eq_true rfl) hRf), Nat.le_trans (m := 71) (Nat.le_of_ble_eq_true rfl) (Nat.le_trans (Nat.le_of_ble_eq_true rfl) hRl)⟩) hN (hK.sub (tys' := [(cI, .int)]) [0] rfl) (x_Pg (ga := ga) (gd := gd) (T := T) (Gs := (upS Gs 1 (Gs 0))) 0 (by decide) hP) (x_Dg (ga := ga) (gd := gd) (T := T) (Gs := (upS Gs 1 (Gs 0))) 0 (by decide) hD) rfl rfl rfl hl.1 (Nat.le_of_ble_eq_true rfl) ⟨hRc, hRs⟩ dX2_ask_18) hP hD hS hA rfl (fun H locs hP hD hS => ?_)
  refine mw_full (st1 := [.int (iI (acV (Gs 0) r c2))]) (mr_V (As := [.int (iI (acV (Gs 0) r c2))]) (rest := []) (ci := 2) (q0 := 0) ⟨hx, hb, hml, hown, hts⟩ (m_X2_recorded_all l D xo xh t ta cI cC cH ga gd F T (upS (upS Gs 1 (Gs 0)) 0 (acG (Gs 0) r c2)) (acV (Gs 0) r c2) (by omega) (by omega)) (cwV 1 hts (gV q_225 q_226 q_227 q_37 q_220) rfl rfl rfl (by decide +kernel) ⟨Nat.le_trans (m := 2) (Nat.le_of_ble_eq_true rfl) (Nat.le_trans (Nat.le_of_ble_eq_true rfl) hRf), Nat.le_trans (m := 44) (Nat.le_of_ble_eq_true rfl) (Nat.le_trans (Nat.le_of_ble_eq_true rfl) hRl)⟩) hN hK hP hD rfl rfl rfl hl.1 (Nat.le_of_ble_eq_true rfl) ⟨hRc, hRs⟩ dX2_ask_21) hD hS hA rfl (fun H locs hP hD hS => ?_)
  first | exact hret _ _ _ _ dX2_ask_24 hP hD hS | (exfalso; omega)
set_option maxHeartbeats 4000000 in
set_option maxRecDepth 100000 in
theorem m_X2_fail (l : Launch) (D : va_G) (xo xh t : Nat) (ta : Nat → Nat) (cI cC cH : ClassId) (ga : Nat → Nat) (gd : Nat → Nat → Nat) (F T : Nat → Int → Int) (Gs : Nat → Nat → Int → Int) (r g2 v : Int) {B : Int} (hI : InvG B (Gs 0)) (hB : B + 594 ≤ 100000000) (hk : 0 ≤ F 4 0 ∧ F 4 0 ≤ 4) (h_r : -2147483648 ≤ r ∧ r < 2147483648) (h_g2 : -2147483648 ≤ g2 ∧ g2 < 2147483648) (h_v : -2147483648 ≤ v ∧ v < 2147483648)  : MW l D yX2_fail (wsY yX2_fail cX2_fail 4 (some .int)) { frames := 3, cells := 0, slots := 0, locals := 68 } [(cI, .int), (cC, .char), (cH, .object RX0)] [.ref xo, .int (iI r), .int (iI g2), .int (iI v)] (wX xo xh t ta cI cC cH ga gd F T Gs) (wX xo xh t ta cI cC cH (rcxP (fgV (Gs 0) r g2 v) (F 4 0) ga) (rcxP (fgV (Gs 0) r g2 v) (F 4 0) gd) (rcxF (fgV (Gs 0) r g2 v) F) T (rcxP (fgV (Gs 0) r g2 v) (F 4 0) (upS (upS Gs 1 (Gs 0)) 0 (fgG (Gs 0) r g2 v)))) (some (.int (iI (fgV (Gs 0) r g2 v)))) := by
  refine mw_ofI (cc := cX2_fail) (maxL := 4) (by decide) rfl (Nat.le_of_ble_eq_true rfl) ?_
  intro p e s m below meth c R A Q args ls hx hb hml hown hts hRf hRl hRc hRs hN hK hP hD hS hA hret hl
  have hq : ∀ w ∈ ALL, w.before args s = true := fun w h => hts w (List.mem_cons_of_mem _ h)
  have hl : lv_has ls 4 [(0, .ref xo), (1, .int (iI r)), (2, .int (iI g2)), (3, .int (iI v))] := hl
  refine lv_aload_n hx hb dX2_fail_0 rfl (lv_at hl 0 rfl) ?_
  refine va_get (D := D) (ci := 2) (v := .ref (ga 1)) (C := RX2) (T := TX2) (N := 10) hx hb hq inA2 hown hK hP 0 rfl rfl 1 (by decide) (hq _ q_205) (fun _ h9 => h9) rfl dX2_fail_1 ?_
  refine lv_aload_n hx hb dX2_fail_4 rfl (lv_at hl 0 rfl) ?_
  refine va_get (D := D) (ci := 2) (v := .ref (ga 0)) (C := RX2) (T := TX2) (N := 10) hx hb hq inA2 hown hK hP 0 rfl rfl 0 (by decide) (hq _ q_204) (fun _ h9 => h9) rfl dX2_fail_5 ?_
  refine mw_gg (ga := ga) (gd := gd) (T := T) (Gs := Gs) (st1 := []) 1 0 (by decide) (by decide) (by decide) (X := (Gs 0)) (mr_V (As := [.ref (ga 0)]) (rest := []) (ci := 0) (q0 := 0) ⟨hx, hb, hml, hown, hts⟩ (m_X0_copyFrom l D (ga 1) (gd 1) (ga 0) (gd 0) cI (Gs 1) (Gs 0)) (cwV 1 hts (gV q_221 q_222 q_223 q_8 q_34) rfl rfl rfl (by decide +kernel) ⟨Nat.le_trans (m := 2) (Nat.le_of_ble_eq_true rfl) (Nat.le_trans (Nat.le_of_ble_eq_true rfl) hRf), Nat.le_trans (m := 47) (Nat.le_of_ble_eq_true rfl) (Nat.le_trans (Nat.le_of_ble_eq_true rfl) hRl)⟩) hN (hK.sub (tys' := [(cI, .int)]) [0] rfl) (x_Pgg (ga := ga) (gd := gd) (T := T) (Gs := Gs) 1 0 (by decide) (by decide) (by decide) hP) (x_Dgg (ga := ga) (gd := gd) (T := T) (Gs := Gs) 1 0 (by decide) (by decide) (by decide) hD) rfl rfl rfl hl.1 (Nat.le_of_ble_eq_true rfl) ⟨hRc, hRs⟩ dX2_fail_8) hP hD hS hA rfl (fun H locs hP hD hS => ?_)
  refine lv_aload_n hx hb dX2_fail_11 rfl (lv_at hl 0 rfl) ?_
  refine lv_aload_n hx hb dX2_fail_12 rfl (lv_at hl 0 rfl) ?_
  refine va_get (D := D) (ci := 2) (v := .ref (ga 0)) (C := RX2) (T := TX2) (N := 10) hx hb hq inA2 hown hK hP 0 rfl rfl 0 (by decide) (hq _ q_204) (fun _ h9 => h9) rfl dX2_fail_13 ?_
  refine lv_iload_n hx hb dX2_fail_16 rfl (lv_at hl 1 rfl) ?_
  refine lv_iload_n hx hb dX2_fail_17 rfl (lv_at hl 2 rfl) ?_
  refine lv_iload_n hx hb dX2_fail_18 rfl (lv_at hl 3 rfl) ?_
  have hv0 := fg_v hI r g2 v
  refine mw_gr (ga := ga) (gd := gd) (T := T) (Gs := (upS Gs 1 (Gs 0))) (st1 := [.int (iI (fgV (Gs 0) r g2 v)), .ref xo]) 0 (by decide) (X := (fgG (Gs 0) r g2 v)) (mr_V (As := [.int (iI r), .int (iI g2), .int (iI v)]) (rest := [.ref xo]) (ci := 0) (q0 := 0) ⟨hx, hb, hml, hown, hts⟩ (m_X0_failGuard_all l D (ga 0) (gd 0) cI (Gs 0) r g2 v hI (by omega) (by omega) (by omega)) (cwV 3 hts (gV q_239 q_189 q_190 q_8 q_69) rfl rfl rfl (by decide +kernel) ⟨Nat.le_trans (m := 3) (Nat.le_of_ble_eq_true rfl) (Nat.le_trans (Nat.le_of_ble_eq_true rfl) hRf), Nat.le_trans (m := 68) (Nat.le_of_ble_eq_true rfl) (Nat.le_trans (Nat.le_of_ble_eq_true rfl) hRl)⟩) hN (hK.sub (tys' := [(cI, .int)]) [0] rfl) (x_Pg (ga := ga) (gd := gd) (T := T) (Gs := (upS Gs 1 (Gs 0))) 0 (by decide) hP) (x_Dg (ga := ga) (gd := gd) (T := T) (Gs := (upS Gs 1 (Gs 0))) 0 (by decide) hD) rfl rfl rfl hl.1 (Nat.le_of_ble_eq_true rfl) ⟨hRc, hRs⟩ dX2_fail_19) hP hD hS hA rfl (fun H locs hP hD hS => ?_)
  refine mw_full (st1 := [.int (iI (fgV (Gs 0) r g2 v))]) (mr_V (As := [.int (iI (fgV (Gs 0) r g2 v))]) (rest := []) (ci := 2) (q0 := 0) ⟨hx, hb, hml, hown, hts⟩ (m_X2_recorded_all l D xo xh t ta cI cC cH ga gd F T (upS (upS Gs 1 (Gs 0)) 0 (fgG (Gs 0) r g2 v)) (fgV (Gs 0) r g2 v) (by omega) (by omega)) (cwV 1 hts (gV q_225 q_226 q_227 q_37 q_220) rfl rfl rfl (by decide +kernel) ⟨Nat.le_trans (m := 2) (Nat.le_of_ble_eq_true rfl) (Nat.le_trans (Nat.le_of_ble_eq_true rfl) hRf), Nat.le_trans (m := 44) (Nat.le_of_ble_eq_true rfl) (Nat.le_trans (Nat.le_of_ble_eq_true rfl) hRl)⟩) hN hK hP hD rfl rfl rfl hl.1 (Nat.le_of_ble_eq_true rfl) ⟨hRc, hRs⟩ dX2_fail_22) hD hS hA rfl (fun H locs hP hD hS => ?_)
  first | exact hret _ _ _ _ dX2_fail_25 hP hD hS | (exfalso; omega)
set_option maxHeartbeats 4000000 in
set_option maxRecDepth 100000 in
theorem m_X2_mend (l : Launch) (D : va_G) (xo xh t : Nat) (ta : Nat → Nat) (cI cC cH : ClassId) (ga : Nat → Nat) (gd : Nat → Nat → Nat) (F T : Nat → Int → Int) (Gs : Nat → Nat → Int → Int) (r g2 : Int) {B : Int} (hI : InvG B (Gs 0)) (hB : B + 594 ≤ 100000000) (hk : 0 ≤ F 4 0 ∧ F 4 0 ≤ 4) (h_r : -2147483648 ≤ r ∧ r < 2147483648) (h_g2 : -2147483648 ≤ g2 ∧ g2 < 2147483648)  : MW l D yX2_mend (wsY yX2_mend cX2_mend 3 (some .int)) { frames := 3, cells := 0, slots := 0, locals := 66 } [(cI, .int), (cC, .char), (cH, .object RX0)] [.ref xo, .int (iI r), .int (iI g2)] (wX xo xh t ta cI cC cH ga gd F T Gs) (wX xo xh t ta cI cC cH (rcxP (mgV (Gs 0) r g2) (F 4 0) ga) (rcxP (mgV (Gs 0) r g2) (F 4 0) gd) (rcxF (mgV (Gs 0) r g2) F) T (rcxP (mgV (Gs 0) r g2) (F 4 0) (upS (upS Gs 1 (Gs 0)) 0 (mgG (Gs 0) r g2)))) (some (.int (iI (mgV (Gs 0) r g2)))) := by
  refine mw_ofI (cc := cX2_mend) (maxL := 3) (by decide) rfl (Nat.le_of_ble_eq_true rfl) ?_
  intro p e s m below meth c R A Q args ls hx hb hml hown hts hRf hRl hRc hRs hN hK hP hD hS hA hret hl
  have hq : ∀ w ∈ ALL, w.before args s = true := fun w h => hts w (List.mem_cons_of_mem _ h)
  have hl : lv_has ls 3 [(0, .ref xo), (1, .int (iI r)), (2, .int (iI g2))] := hl
  refine lv_aload_n hx hb dX2_mend_0 rfl (lv_at hl 0 rfl) ?_
  refine va_get (D := D) (ci := 2) (v := .ref (ga 1)) (C := RX2) (T := TX2) (N := 10) hx hb hq inA2 hown hK hP 0 rfl rfl 1 (by decide) (hq _ q_205) (fun _ h9 => h9) rfl dX2_mend_1 ?_
  refine lv_aload_n hx hb dX2_mend_4 rfl (lv_at hl 0 rfl) ?_
  refine va_get (D := D) (ci := 2) (v := .ref (ga 0)) (C := RX2) (T := TX2) (N := 10) hx hb hq inA2 hown hK hP 0 rfl rfl 0 (by decide) (hq _ q_204) (fun _ h9 => h9) rfl dX2_mend_5 ?_
  refine mw_gg (ga := ga) (gd := gd) (T := T) (Gs := Gs) (st1 := []) 1 0 (by decide) (by decide) (by decide) (X := (Gs 0)) (mr_V (As := [.ref (ga 0)]) (rest := []) (ci := 0) (q0 := 0) ⟨hx, hb, hml, hown, hts⟩ (m_X0_copyFrom l D (ga 1) (gd 1) (ga 0) (gd 0) cI (Gs 1) (Gs 0)) (cwV 1 hts (gV q_221 q_222 q_223 q_8 q_34) rfl rfl rfl (by decide +kernel) ⟨Nat.le_trans (m := 2) (Nat.le_of_ble_eq_true rfl) (Nat.le_trans (Nat.le_of_ble_eq_true rfl) hRf), Nat.le_trans (m := 47) (Nat.le_of_ble_eq_true rfl) (Nat.le_trans (Nat.le_of_ble_eq_true rfl) hRl)⟩) hN (hK.sub (tys' := [(cI, .int)]) [0] rfl) (x_Pgg (ga := ga) (gd := gd) (T := T) (Gs := Gs) 1 0 (by decide) (by decide) (by decide) hP) (x_Dgg (ga := ga) (gd := gd) (T := T) (Gs := Gs) 1 0 (by decide) (by decide) (by decide) hD) rfl rfl rfl hl.1 (Nat.le_of_ble_eq_true rfl) ⟨hRc, hRs⟩ dX2_mend_8) hP hD hS hA rfl (fun H locs hP hD hS => ?_)
  refine lv_aload_n hx hb dX2_mend_11 rfl (lv_at hl 0 rfl) ?_
  refine lv_aload_n hx hb dX2_mend_12 rfl (lv_at hl 0 rfl) ?_
  refine va_get (D := D) (ci := 2) (v := .ref (ga 0)) (C := RX2) (T := TX2) (N := 10) hx hb hq inA2 hown hK hP 0 rfl rfl 0 (by decide) (hq _ q_204) (fun _ h9 => h9) rfl dX2_mend_13 ?_
  refine lv_iload_n hx hb dX2_mend_16 rfl (lv_at hl 1 rfl) ?_
  refine lv_iload_n hx hb dX2_mend_17 rfl (lv_at hl 2 rfl) ?_
  have hv0 := mg_v hI r g2
  refine mw_gr (ga := ga) (gd := gd) (T := T) (Gs := (upS Gs 1 (Gs 0))) (st1 := [.int (iI (mgV (Gs 0) r g2)), .ref xo]) 0 (by decide) (X := (mgG (Gs 0) r g2)) (mr_V (As := [.int (iI r), .int (iI g2)]) (rest := [.ref xo]) (ci := 0) (q0 := 0) ⟨hx, hb, hml, hown, hts⟩ (m_X0_mendGuard_all l D (ga 0) (gd 0) cI (Gs 0) r g2 hI (by omega) (by omega)) (cwV 2 hts (gV q_241 q_192 q_193 q_8 q_70) rfl rfl rfl (by decide +kernel) ⟨Nat.le_trans (m := 3) (Nat.le_of_ble_eq_true rfl) (Nat.le_trans (Nat.le_of_ble_eq_true rfl) hRf), Nat.le_trans (m := 66) (Nat.le_of_ble_eq_true rfl) (Nat.le_trans (Nat.le_of_ble_eq_true rfl) hRl)⟩) hN (hK.sub (tys' := [(cI, .int)]) [0] rfl) (x_Pg (ga := ga) (gd := gd) (T := T) (Gs := (upS Gs 1 (Gs 0))) 0 (by decide) hP) (x_Dg (ga := ga) (gd := gd) (T := T) (Gs := (upS Gs 1 (Gs 0))) 0 (by decide) hD) rfl rfl rfl hl.1 (Nat.le_of_ble_eq_true rfl) ⟨hRc, hRs⟩ dX2_mend_18) hP hD hS hA rfl (fun H locs hP hD hS => ?_)
  refine mw_full (st1 := [.int (iI (mgV (Gs 0) r g2))]) (mr_V (As := [.int (iI (mgV (Gs 0) r g2))]) (rest := []) (ci := 2) (q0 := 0) ⟨hx, hb, hml, hown, hts⟩ (m_X2_recorded_all l D xo xh t ta cI cC cH ga gd F T (upS (upS Gs 1 (Gs 0)) 0 (mgG (Gs 0) r g2)) (mgV (Gs 0) r g2) (by omega) (by omega)) (cwV 1 hts (gV q_225 q_226 q_227 q_37 q_220) rfl rfl rfl (by decide +kernel) ⟨Nat.le_trans (m := 2) (Nat.le_of_ble_eq_true rfl) (Nat.le_trans (Nat.le_of_ble_eq_true rfl) hRf), Nat.le_trans (m := 44) (Nat.le_of_ble_eq_true rfl) (Nat.le_trans (Nat.le_of_ble_eq_true rfl) hRl)⟩) hN hK hP hD rfl rfl rfl hl.1 (Nat.le_of_ble_eq_true rfl) ⟨hRc, hRs⟩ dX2_mend_21) hD hS hA rfl (fun H locs hP hD hS => ?_)
  first | exact hret _ _ _ _ dX2_mend_24 hP hD hS | (exfalso; omega)
set_option maxHeartbeats 4000000 in
set_option maxRecDepth 100000 in
theorem m_X2_rate (l : Launch) (D : va_G) (xo xh t : Nat) (ta : Nat → Nat) (cI cC cH : ClassId) (ga : Nat → Nat) (gd : Nat → Nat → Nat) (F T : Nat → Int → Int) (Gs : Nat → Nat → Int → Int) (r v : Int) {B : Int} (hI : InvG B (Gs 0)) (hB : B + 594 ≤ 100000000) (hk : 0 ≤ F 4 0 ∧ F 4 0 ≤ 4) (h_r : -2147483648 ≤ r ∧ r < 2147483648) (h_v : -2147483648 ≤ v ∧ v < 2147483648)  : MW l D yX2_rate (wsY yX2_rate cX2_rate 3 (some .int)) { frames := 2, cells := 0, slots := 0, locals := 47 } [(cI, .int), (cC, .char), (cH, .object RX0)] [.ref xo, .int (iI r), .int (iI v)] (wX xo xh t ta cI cC cH ga gd F T Gs) (wX xo xh t ta cI cC cH (rcxP (crV (Gs 0) r v) (F 4 0) ga) (rcxP (crV (Gs 0) r v) (F 4 0) gd) (rcxF (crV (Gs 0) r v) F) T (rcxP (crV (Gs 0) r v) (F 4 0) (upS (upS Gs 1 (Gs 0)) 0 (crG (Gs 0) r v)))) (some (.int (iI (crV (Gs 0) r v)))) := by
  refine mw_ofI (cc := cX2_rate) (maxL := 3) (by decide) rfl (Nat.le_of_ble_eq_true rfl) ?_
  intro p e s m below meth c R A Q args ls hx hb hml hown hts hRf hRl hRc hRs hN hK hP hD hS hA hret hl
  have hq : ∀ w ∈ ALL, w.before args s = true := fun w h => hts w (List.mem_cons_of_mem _ h)
  have hl : lv_has ls 3 [(0, .ref xo), (1, .int (iI r)), (2, .int (iI v))] := hl
  refine lv_aload_n hx hb dX2_rate_0 rfl (lv_at hl 0 rfl) ?_
  refine va_get (D := D) (ci := 2) (v := .ref (ga 1)) (C := RX2) (T := TX2) (N := 10) hx hb hq inA2 hown hK hP 0 rfl rfl 1 (by decide) (hq _ q_205) (fun _ h9 => h9) rfl dX2_rate_1 ?_
  refine lv_aload_n hx hb dX2_rate_4 rfl (lv_at hl 0 rfl) ?_
  refine va_get (D := D) (ci := 2) (v := .ref (ga 0)) (C := RX2) (T := TX2) (N := 10) hx hb hq inA2 hown hK hP 0 rfl rfl 0 (by decide) (hq _ q_204) (fun _ h9 => h9) rfl dX2_rate_5 ?_
  refine mw_gg (ga := ga) (gd := gd) (T := T) (Gs := Gs) (st1 := []) 1 0 (by decide) (by decide) (by decide) (X := (Gs 0)) (mr_V (As := [.ref (ga 0)]) (rest := []) (ci := 0) (q0 := 0) ⟨hx, hb, hml, hown, hts⟩ (m_X0_copyFrom l D (ga 1) (gd 1) (ga 0) (gd 0) cI (Gs 1) (Gs 0)) (cwV 1 hts (gV q_221 q_222 q_223 q_8 q_34) rfl rfl rfl (by decide +kernel) ⟨Nat.le_trans (m := 2) (Nat.le_of_ble_eq_true rfl) (Nat.le_trans (Nat.le_of_ble_eq_true rfl) hRf), Nat.le_trans (m := 47) (Nat.le_of_ble_eq_true rfl) (Nat.le_trans (Nat.le_of_ble_eq_true rfl) hRl)⟩) hN (hK.sub (tys' := [(cI, .int)]) [0] rfl) (x_Pgg (ga := ga) (gd := gd) (T := T) (Gs := Gs) 1 0 (by decide) (by decide) (by decide) hP) (x_Dgg (ga := ga) (gd := gd) (T := T) (Gs := Gs) 1 0 (by decide) (by decide) (by decide) hD) rfl rfl rfl hl.1 (Nat.le_of_ble_eq_true rfl) ⟨hRc, hRs⟩ dX2_rate_8) hP hD hS hA rfl (fun H locs hP hD hS => ?_)
  refine lv_aload_n hx hb dX2_rate_11 rfl (lv_at hl 0 rfl) ?_
  refine lv_aload_n hx hb dX2_rate_12 rfl (lv_at hl 0 rfl) ?_
  refine va_get (D := D) (ci := 2) (v := .ref (ga 0)) (C := RX2) (T := TX2) (N := 10) hx hb hq inA2 hown hK hP 0 rfl rfl 0 (by decide) (hq _ q_204) (fun _ h9 => h9) rfl dX2_rate_13 ?_
  refine lv_iload_n hx hb dX2_rate_16 rfl (lv_at hl 1 rfl) ?_
  refine lv_iload_n hx hb dX2_rate_17 rfl (lv_at hl 2 rfl) ?_
  have hv0 := cr_v hI r v
  refine mw_gr (ga := ga) (gd := gd) (T := T) (Gs := (upS Gs 1 (Gs 0))) (st1 := [.int (iI (crV (Gs 0) r v)), .ref xo]) 0 (by decide) (X := (crG (Gs 0) r v)) (mr_V (As := [.int (iI r), .int (iI v)]) (rest := [.ref xo]) (ci := 0) (q0 := 0) ⟨hx, hb, hml, hown, hts⟩ (m_X0_changeRate_all l D (ga 0) (gd 0) cI (Gs 0) r v hI (by omega) (by omega)) (cwV 2 hts (gV q_243 q_195 q_196 q_8 q_71) rfl rfl rfl (by decide +kernel) ⟨Nat.le_trans (m := 2) (Nat.le_of_ble_eq_true rfl) (Nat.le_trans (Nat.le_of_ble_eq_true rfl) hRf), Nat.le_trans (m := 45) (Nat.le_of_ble_eq_true rfl) (Nat.le_trans (Nat.le_of_ble_eq_true rfl) hRl)⟩) hN (hK.sub (tys' := [(cI, .int)]) [0] rfl) (x_Pg (ga := ga) (gd := gd) (T := T) (Gs := (upS Gs 1 (Gs 0))) 0 (by decide) hP) (x_Dg (ga := ga) (gd := gd) (T := T) (Gs := (upS Gs 1 (Gs 0))) 0 (by decide) hD) rfl rfl rfl hl.1 (Nat.le_of_ble_eq_true rfl) ⟨hRc, hRs⟩ dX2_rate_18) hP hD hS hA rfl (fun H locs hP hD hS => ?_)
  refine mw_full (st1 := [.int (iI (crV (Gs 0) r v))]) (mr_V (As := [.int (iI (crV (Gs 0) r v))]) (rest := []) (ci := 2) (q0 := 0) ⟨hx, hb, hml, hown, hts⟩ (m_X2_recorded_all l D xo xh t ta cI cC cH ga gd F T (upS (upS Gs 1 (Gs 0)) 0 (crG (Gs 0) r v)) (crV (Gs 0) r v) (by omega) (by omega)) (cwV 1 hts (gV q_225 q_226 q_227 q_37 q_220) rfl rfl rfl (by decide +kernel) ⟨Nat.le_trans (m := 2) (Nat.le_of_ble_eq_true rfl) (Nat.le_trans (Nat.le_of_ble_eq_true rfl) hRf), Nat.le_trans (m := 44) (Nat.le_of_ble_eq_true rfl) (Nat.le_trans (Nat.le_of_ble_eq_true rfl) hRl)⟩) hN hK hP hD rfl rfl rfl hl.1 (Nat.le_of_ble_eq_true rfl) ⟨hRc, hRs⟩ dX2_rate_21) hD hS hA rfl (fun H locs hP hD hS => ?_)
  first | exact hret _ _ _ _ dX2_rate_24 hP hD hS | (exfalso; omega)
set_option maxHeartbeats 4000000 in
set_option maxRecDepth 100000 in
theorem m_X2_days (l : Launch) (D : va_G) (xo xh t : Nat) (ta : Nat → Nat) (cI cC cH : ClassId) (ga : Nat → Nat) (gd : Nat → Nat → Nat) (F T : Nat → Int → Int) (Gs : Nat → Nat → Int → Int) (n : Int) {B : Int} (hI : InvG B (Gs 0)) (hB : B + 594 ≤ 100000000) (hk : 0 ≤ F 4 0 ∧ F 4 0 ≤ 4) (h_n : -2147483648 ≤ n ∧ n < 2147483648)  : MW l D yX2_days (wsY yX2_days cX2_days 2 (some .int)) { frames := 4, cells := 0, slots := 0, locals := 99 } [(cI, .int), (cC, .char), (cH, .object RX0)] [.ref xo, .int (iI n)] (wX xo xh t ta cI cC cH ga gd F T Gs) (wX xo xh t ta cI cC cH (rcxP (pdV (Gs 0) n 9999) (F 4 0) ga) (rcxP (pdV (Gs 0) n 9999) (F 4 0) gd) (rcxF (pdV (Gs 0) n 9999) F) T (rcxP (pdV (Gs 0) n 9999) (F 4 0) (upS (upS Gs 1 (Gs 0)) 0 (pdG (Gs 0) n 9999)))) (some (.int (iI (pdV (Gs 0) n 9999)))) := by
  refine mw_ofI (cc := cX2_days) (maxL := 2) (by decide) rfl (Nat.le_of_ble_eq_true rfl) ?_
  intro p e s m below meth c R A Q args ls hx hb hml hown hts hRf hRl hRc hRs hN hK hP hD hS hA hret hl
  have hq : ∀ w ∈ ALL, w.before args s = true := fun w h => hts w (List.mem_cons_of_mem _ h)
  have hl : lv_has ls 2 [(0, .ref xo), (1, .int (iI n))] := hl
  refine lv_aload_n hx hb dX2_days_0 rfl (lv_at hl 0 rfl) ?_
  refine va_get (D := D) (ci := 2) (v := .ref (ga 1)) (C := RX2) (T := TX2) (N := 10) hx hb hq inA2 hown hK hP 0 rfl rfl 1 (by decide) (hq _ q_205) (fun _ h9 => h9) rfl dX2_days_1 ?_
  refine lv_aload_n hx hb dX2_days_4 rfl (lv_at hl 0 rfl) ?_
  refine va_get (D := D) (ci := 2) (v := .ref (ga 0)) (C := RX2) (T := TX2) (N := 10) hx hb hq inA2 hown hK hP 0 rfl rfl 0 (by decide) (hq _ q_204) (fun _ h9 => h9) rfl dX2_days_5 ?_
  refine mw_gg (ga := ga) (gd := gd) (T := T) (Gs := Gs) (st1 := []) 1 0 (by decide) (by decide) (by decide) (X := (Gs 0)) (mr_V (As := [.ref (ga 0)]) (rest := []) (ci := 0) (q0 := 0) ⟨hx, hb, hml, hown, hts⟩ (m_X0_copyFrom l D (ga 1) (gd 1) (ga 0) (gd 0) cI (Gs 1) (Gs 0)) (cwV 1 hts (gV q_221 q_222 q_223 q_8 q_34) rfl rfl rfl (by decide +kernel) ⟨Nat.le_trans (m := 2) (Nat.le_of_ble_eq_true rfl) (Nat.le_trans (Nat.le_of_ble_eq_true rfl) hRf), Nat.le_trans (m := 47) (Nat.le_of_ble_eq_true rfl) (Nat.le_trans (Nat.le_of_ble_eq_true rfl) hRl)⟩) hN (hK.sub (tys' := [(cI, .int)]) [0] rfl) (x_Pgg (ga := ga) (gd := gd) (T := T) (Gs := Gs) 1 0 (by decide) (by decide) (by decide) hP) (x_Dgg (ga := ga) (gd := gd) (T := T) (Gs := Gs) 1 0 (by decide) (by decide) (by decide) hD) rfl rfl rfl hl.1 (Nat.le_of_ble_eq_true rfl) ⟨hRc, hRs⟩ dX2_days_8) hP hD hS hA rfl (fun H locs hP hD hS => ?_)
  refine lv_aload_n hx hb dX2_days_11 rfl (lv_at hl 0 rfl) ?_
  refine lv_aload_n hx hb dX2_days_12 rfl (lv_at hl 0 rfl) ?_
  refine va_get (D := D) (ci := 2) (v := .ref (ga 0)) (C := RX2) (T := TX2) (N := 10) hx hb hq inA2 hown hK hP 0 rfl rfl 0 (by decide) (hq _ q_204) (fun _ h9 => h9) rfl dX2_days_13 ?_
  refine lv_iload_n hx hb dX2_days_16 rfl (lv_at hl 1 rfl) ?_
  refine z_sipush hx hb dX2_days_17 (by decide +kernel) ?_
  have hv0 := pd_v (Gs 0) n 9999
  refine mw_gr (ga := ga) (gd := gd) (T := T) (Gs := (upS Gs 1 (Gs 0))) (st1 := [.int (iI (pdV (Gs 0) n (9999 : Int))), .ref xo]) 0 (by decide) (X := (pdG (Gs 0) n (9999 : Int))) (mr_V (As := [.int (iI n), .int (iI 9999)]) (rest := [.ref xo]) (ci := 0) (q0 := 0) ⟨hx, hb, hml, hown, hts⟩ (m_X0_passDays_all l D (ga 0) (gd 0) cI (Gs 0) n (9999 : Int) hI (by omega) (by omega) (by omega)) (cwV 2 hts (gV q_245 q_198 q_199 q_8 q_92) rfl rfl rfl (by decide +kernel) ⟨Nat.le_trans (m := 4) (Nat.le_of_ble_eq_true rfl) (Nat.le_trans (Nat.le_of_ble_eq_true rfl) hRf), Nat.le_trans (m := 99) (Nat.le_of_ble_eq_true rfl) (Nat.le_trans (Nat.le_of_ble_eq_true rfl) hRl)⟩) hN (hK.sub (tys' := [(cI, .int)]) [0] rfl) (x_Pg (ga := ga) (gd := gd) (T := T) (Gs := (upS Gs 1 (Gs 0))) 0 (by decide) hP) (x_Dg (ga := ga) (gd := gd) (T := T) (Gs := (upS Gs 1 (Gs 0))) 0 (by decide) hD) rfl rfl rfl hl.1 (Nat.le_of_ble_eq_true rfl) ⟨hRc, hRs⟩ dX2_days_20) hP hD hS hA rfl (fun H locs hP hD hS => ?_)
  refine mw_full (st1 := [.int (iI (pdV (Gs 0) n (9999 : Int)))]) (mr_V (As := [.int (iI (pdV (Gs 0) n (9999 : Int)))]) (rest := []) (ci := 2) (q0 := 0) ⟨hx, hb, hml, hown, hts⟩ (m_X2_recorded_all l D xo xh t ta cI cC cH ga gd F T (upS (upS Gs 1 (Gs 0)) 0 (pdG (Gs 0) n (9999 : Int))) (pdV (Gs 0) n (9999 : Int)) (by omega) (by omega)) (cwV 1 hts (gV q_225 q_226 q_227 q_37 q_220) rfl rfl rfl (by decide +kernel) ⟨Nat.le_trans (m := 2) (Nat.le_of_ble_eq_true rfl) (Nat.le_trans (Nat.le_of_ble_eq_true rfl) hRf), Nat.le_trans (m := 44) (Nat.le_of_ble_eq_true rfl) (Nat.le_trans (Nat.le_of_ble_eq_true rfl) hRl)⟩) hN hK hP hD rfl rfl rfl hl.1 (Nat.le_of_ble_eq_true rfl) ⟨hRc, hRs⟩ dX2_days_23) hD hS hA rfl (fun H locs hP hD hS => ?_)
  refine z_as (show (pdV (Gs 0) n (9999 : Int)) = (pdV (Gs 0) n 9999) from by first | rfl | omega) ?_
  first | exact hret _ _ _ _ dX2_days_26 hP hD hS | (exfalso; omega)
set_option maxHeartbeats 4000000 in
set_option maxRecDepth 100000 in
theorem m_X2_set (l : Launch) (D : va_G) (xo xh t : Nat) (ta : Nat → Nat) (cI cC cH : ClassId) (ga : Nat → Nat) (gd : Nat → Nat → Nat) (F T : Nat → Int → Int) (Gs : Nat → Nat → Int → Int) (w v : Int) {B : Int} (hI : InvG B (Gs 0)) (hB : B + 594 ≤ 100000000) (hk : 0 ≤ F 4 0 ∧ F 4 0 ≤ 4) (h_w : -2147483648 ≤ w ∧ w < 2147483648) (h_v : -2147483648 ≤ v ∧ v < 2147483648)  : MW l D yX2_set (wsY yX2_set cX2_set 3 (some .int)) { frames := 3, cells := 0, slots := 0, locals := 66 } [(cI, .int), (cC, .char), (cH, .object RX0)] [.ref xo, .int (iI w), .int (iI v)] (wX xo xh t ta cI cC cH ga gd F T Gs) (wX xo xh t ta cI cC cH (rcxP (csV (Gs 0) w v) (F 4 0) ga) (rcxP (csV (Gs 0) w v) (F 4 0) gd) (rcxF (csV (Gs 0) w v) F) T (rcxP (csV (Gs 0) w v) (F 4 0) (upS (upS Gs 1 (Gs 0)) 0 (csG (Gs 0) w v)))) (some (.int (iI (csV (Gs 0) w v)))) := by
  refine mw_ofI (cc := cX2_set) (maxL := 3) (by decide) rfl (Nat.le_of_ble_eq_true rfl) ?_
  intro p e s m below meth c R A Q args ls hx hb hml hown hts hRf hRl hRc hRs hN hK hP hD hS hA hret hl
  have hq : ∀ w ∈ ALL, w.before args s = true := fun w h => hts w (List.mem_cons_of_mem _ h)
  have hl : lv_has ls 3 [(0, .ref xo), (1, .int (iI w)), (2, .int (iI v))] := hl
  refine lv_aload_n hx hb dX2_set_0 rfl (lv_at hl 0 rfl) ?_
  refine va_get (D := D) (ci := 2) (v := .ref (ga 1)) (C := RX2) (T := TX2) (N := 10) hx hb hq inA2 hown hK hP 0 rfl rfl 1 (by decide) (hq _ q_205) (fun _ h9 => h9) rfl dX2_set_1 ?_
  refine lv_aload_n hx hb dX2_set_4 rfl (lv_at hl 0 rfl) ?_
  refine va_get (D := D) (ci := 2) (v := .ref (ga 0)) (C := RX2) (T := TX2) (N := 10) hx hb hq inA2 hown hK hP 0 rfl rfl 0 (by decide) (hq _ q_204) (fun _ h9 => h9) rfl dX2_set_5 ?_
  refine mw_gg (ga := ga) (gd := gd) (T := T) (Gs := Gs) (st1 := []) 1 0 (by decide) (by decide) (by decide) (X := (Gs 0)) (mr_V (As := [.ref (ga 0)]) (rest := []) (ci := 0) (q0 := 0) ⟨hx, hb, hml, hown, hts⟩ (m_X0_copyFrom l D (ga 1) (gd 1) (ga 0) (gd 0) cI (Gs 1) (Gs 0)) (cwV 1 hts (gV q_221 q_222 q_223 q_8 q_34) rfl rfl rfl (by decide +kernel) ⟨Nat.le_trans (m := 2) (Nat.le_of_ble_eq_true rfl) (Nat.le_trans (Nat.le_of_ble_eq_true rfl) hRf), Nat.le_trans (m := 47) (Nat.le_of_ble_eq_true rfl) (Nat.le_trans (Nat.le_of_ble_eq_true rfl) hRl)⟩) hN (hK.sub (tys' := [(cI, .int)]) [0] rfl) (x_Pgg (ga := ga) (gd := gd) (T := T) (Gs := Gs) 1 0 (by decide) (by decide) (by decide) hP) (x_Dgg (ga := ga) (gd := gd) (T := T) (Gs := Gs) 1 0 (by decide) (by decide) (by decide) hD) rfl rfl rfl hl.1 (Nat.le_of_ble_eq_true rfl) ⟨hRc, hRs⟩ dX2_set_8) hP hD hS hA rfl (fun H locs hP hD hS => ?_)
  refine lv_aload_n hx hb dX2_set_11 rfl (lv_at hl 0 rfl) ?_
  refine lv_aload_n hx hb dX2_set_12 rfl (lv_at hl 0 rfl) ?_
  refine va_get (D := D) (ci := 2) (v := .ref (ga 0)) (C := RX2) (T := TX2) (N := 10) hx hb hq inA2 hown hK hP 0 rfl rfl 0 (by decide) (hq _ q_204) (fun _ h9 => h9) rfl dX2_set_13 ?_
  refine lv_iload_n hx hb dX2_set_16 rfl (lv_at hl 1 rfl) ?_
  refine lv_iload_n hx hb dX2_set_17 rfl (lv_at hl 2 rfl) ?_
  have hv0 := cs_v hI w v
  refine mw_gr (ga := ga) (gd := gd) (T := T) (Gs := (upS Gs 1 (Gs 0))) (st1 := [.int (iI (csV (Gs 0) w v)), .ref xo]) 0 (by decide) (X := (csG (Gs 0) w v)) (mr_V (As := [.int (iI w), .int (iI v)]) (rest := [.ref xo]) (ci := 0) (q0 := 0) ⟨hx, hb, hml, hown, hts⟩ (m_X0_changeSetting_all l D (ga 0) (gd 0) cI (Gs 0) w v hI (by omega) (by omega)) (cwV 2 hts (gV q_247 q_248 q_249 q_8 q_96) rfl rfl rfl (by decide +kernel) ⟨Nat.le_trans (m := 3) (Nat.le_of_ble_eq_true rfl) (Nat.le_trans (Nat.le_of_ble_eq_true rfl) hRf), Nat.le_trans (m := 66) (Nat.le_of_ble_eq_true rfl) (Nat.le_trans (Nat.le_of_ble_eq_true rfl) hRl)⟩) hN (hK.sub (tys' := [(cI, .int)]) [0] rfl) (x_Pg (ga := ga) (gd := gd) (T := T) (Gs := (upS Gs 1 (Gs 0))) 0 (by decide) hP) (x_Dg (ga := ga) (gd := gd) (T := T) (Gs := (upS Gs 1 (Gs 0))) 0 (by decide) hD) rfl rfl rfl hl.1 (Nat.le_of_ble_eq_true rfl) ⟨hRc, hRs⟩ dX2_set_18) hP hD hS hA rfl (fun H locs hP hD hS => ?_)
  refine mw_full (st1 := [.int (iI (csV (Gs 0) w v))]) (mr_V (As := [.int (iI (csV (Gs 0) w v))]) (rest := []) (ci := 2) (q0 := 0) ⟨hx, hb, hml, hown, hts⟩ (m_X2_recorded_all l D xo xh t ta cI cC cH ga gd F T (upS (upS Gs 1 (Gs 0)) 0 (csG (Gs 0) w v)) (csV (Gs 0) w v) (by omega) (by omega)) (cwV 1 hts (gV q_225 q_226 q_227 q_37 q_220) rfl rfl rfl (by decide +kernel) ⟨Nat.le_trans (m := 2) (Nat.le_of_ble_eq_true rfl) (Nat.le_trans (Nat.le_of_ble_eq_true rfl) hRf), Nat.le_trans (m := 44) (Nat.le_of_ble_eq_true rfl) (Nat.le_trans (Nat.le_of_ble_eq_true rfl) hRl)⟩) hN hK hP hD rfl rfl rfl hl.1 (Nat.le_of_ble_eq_true rfl) ⟨hRc, hRs⟩ dX2_set_21) hD hS hA rfl (fun H locs hP hD hS => ?_)
  first | exact hret _ _ _ _ dX2_set_24 hP hD hS | (exfalso; omega)
set_option maxHeartbeats 4000000 in
set_option maxRecDepth 100000 in
theorem m_X2_cell (l : Launch) (D : va_G) (xo xh t : Nat) (ta : Nat → Nat) (cI cC cH : ClassId) (ga : Nat → Nat) (gd : Nat → Nat → Nat) (F T : Nat → Int → Int) (Gs : Nat → Nat → Int → Int) (r c2 w : Int) {B : Int} (hI : InvG B (Gs 0)) (h1 : 0 ≤ r ∧ r < 6) (h2 : 0 ≤ c2 ∧ c2 < 8) (h_w : -2147483648 ≤ w ∧ w < 2147483648)  : MW l D yX2_cell (wsY yX2_cell cX2_cell 4 (some .int)) { frames := 3, cells := 0, slots := 0, locals := 73 } [(cI, .int), (cC, .char), (cH, .object RX0)] [.ref xo, .int (iI r), .int (iI c2), .int (iI w)] (wX xo xh t ta cI cC cH ga gd F T Gs) (wX xo xh t ta cI cC cH ga gd F T Gs) (some (.int (iI (cellV (Gs 0) r c2 w)))) := by
  refine mw_ofI (cc := cX2_cell) (maxL := 4) (by decide) rfl (Nat.le_of_ble_eq_true rfl) ?_
  intro p e s m below meth c R A Q args ls hx hb hml hown hts hRf hRl hRc hRs hN hK hP hD hS hA hret hl
  have hq : ∀ w ∈ ALL, w.before args s = true := fun w h => hts w (List.mem_cons_of_mem _ h)
  have hl : lv_has ls 4 [(0, .ref xo), (1, .int (iI r)), (2, .int (iI c2)), (3, .int (iI w))] := hl
  refine lv_aload_n hx hb dX2_cell_0 rfl (lv_at hl 0 rfl) ?_
  refine va_get (D := D) (ci := 2) (v := .ref (ga 0)) (C := RX2) (T := TX2) (N := 10) hx hb hq inA2 hown hK hP 0 rfl rfl 0 (by decide) (hq _ q_204) (fun _ h9 => h9) rfl dX2_cell_1 ?_
  refine lv_iload_n hx hb dX2_cell_4 rfl (lv_at hl 1 rfl) ?_
  refine lv_iload_n hx hb dX2_cell_5 rfl (lv_at hl 2 rfl) ?_
  refine lv_iload_n hx hb dX2_cell_6 rfl (lv_at hl 3 rfl) ?_
  refine mw_grR (ga := ga) (gd := gd) (T := T) (Gs := Gs) (st1 := [.int (iI (cellV (Gs 0) r c2 w))]) 0 (by decide) (mr_V (As := [.int (iI r), .int (iI c2), .int (iI w)]) (rest := []) (ci := 0) (q0 := 0) ⟨hx, hb, hml, hown, hts⟩ (m_X0_numberOfCell l D (ga 0) (gd 0) cI (Gs 0) r c2 w hI (by omega) (by omega) (by omega)) (cwV 3 hts (gV q_251 q_252 q_253 q_8 q_103) rfl rfl rfl (by decide +kernel) ⟨Nat.le_trans (m := 3) (Nat.le_of_ble_eq_true rfl) (Nat.le_trans (Nat.le_of_ble_eq_true rfl) hRf), Nat.le_trans (m := 73) (Nat.le_of_ble_eq_true rfl) (Nat.le_trans (Nat.le_of_ble_eq_true rfl) hRl)⟩) hN (hK.sub (tys' := [(cI, .int)]) [0] rfl) (x_Pg (ga := ga) (gd := gd) (T := T) (Gs := Gs) 0 (by decide) hP) (x_Dg (ga := ga) (gd := gd) (T := T) (Gs := Gs) 0 (by decide) hD) rfl rfl rfl hl.1 (Nat.le_of_ble_eq_true rfl) ⟨hRc, hRs⟩ dX2_cell_7) hP hD hS hA rfl (fun H locs hP hD hS => ?_)
  refine z_as (show (cellV (Gs 0) r c2 w) = cellV (Gs 0) r c2 w from by first | rfl | omega) ?_
  first | exact hret _ _ _ _ dX2_cell_10 hP hD hS | (exfalso; omega)
set_option maxHeartbeats 4000000 in
set_option maxRecDepth 100000 in
theorem m_X2_cell_bad (l : Launch) (D : va_G) (xo xh t : Nat) (ta : Nat → Nat) (cI cC cH : ClassId) (ga : Nat → Nat) (gd : Nat → Nat → Nat) (F T : Nat → Int → Int) (Gs : Nat → Nat → Int → Int) (r c2 w : Int) (h_r : -2147483648 ≤ r ∧ r < 2147483648) (h_c2 : -2147483648 ≤ c2 ∧ c2 < 2147483648) (h_w : -2147483648 ≤ w ∧ w < 2147483648) (hb0 : r < 0 ∨ 5 < r ∨ c2 < 0 ∨ 7 < c2)  : MW l D yX2_cell (wsY yX2_cell cX2_cell 4 (some .int)) { frames := 3, cells := 0, slots := 0, locals := 73 } [(cI, .int), (cC, .char), (cH, .object RX0)] [.ref xo, .int (iI r), .int (iI c2), .int (iI w)] (wX xo xh t ta cI cC cH ga gd F T Gs) (wX xo xh t ta cI cC cH ga gd F T Gs) (some (.int (iI (-1000001)))) := by
  refine mw_ofI (cc := cX2_cell) (maxL := 4) (by decide) rfl (Nat.le_of_ble_eq_true rfl) ?_
  intro p e s m below meth c R A Q args ls hx hb hml hown hts hRf hRl hRc hRs hN hK hP hD hS hA hret hl
  have hq : ∀ w ∈ ALL, w.before args s = true := fun w h => hts w (List.mem_cons_of_mem _ h)
  have hl : lv_has ls 4 [(0, .ref xo), (1, .int (iI r)), (2, .int (iI c2)), (3, .int (iI w))] := hl
  refine lv_aload_n hx hb dX2_cell_0 rfl (lv_at hl 0 rfl) ?_
  refine va_get (D := D) (ci := 2) (v := .ref (ga 0)) (C := RX2) (T := TX2) (N := 10) hx hb hq inA2 hown hK hP 0 rfl rfl 0 (by decide) (hq _ q_204) (fun _ h9 => h9) rfl dX2_cell_1 ?_
  refine lv_iload_n hx hb dX2_cell_4 rfl (lv_at hl 1 rfl) ?_
  refine lv_iload_n hx hb dX2_cell_5 rfl (lv_at hl 2 rfl) ?_
  refine lv_iload_n hx hb dX2_cell_6 rfl (lv_at hl 3 rfl) ?_
  refine mw_grR (ga := ga) (gd := gd) (T := T) (Gs := Gs) (st1 := [.int (iI (-1000001))]) 0 (by decide) (mr_V (As := [.int (iI r), .int (iI c2), .int (iI w)]) (rest := []) (ci := 0) (q0 := 0) ⟨hx, hb, hml, hown, hts⟩ (m_X0_numberOfCell_bad l D (ga 0) (gd 0) cI (Gs 0) r c2 w (by omega) (by omega) (by omega)) (cwV 3 hts (gV q_251 q_252 q_253 q_8 q_103) rfl rfl rfl (by decide +kernel) ⟨Nat.le_trans (m := 3) (Nat.le_of_ble_eq_true rfl) (Nat.le_trans (Nat.le_of_ble_eq_true rfl) hRf), Nat.le_trans (m := 73) (Nat.le_of_ble_eq_true rfl) (Nat.le_trans (Nat.le_of_ble_eq_true rfl) hRl)⟩) hN (hK.sub (tys' := [(cI, .int)]) [0] rfl) (x_Pg (ga := ga) (gd := gd) (T := T) (Gs := Gs) 0 (by decide) hP) (x_Dg (ga := ga) (gd := gd) (T := T) (Gs := Gs) 0 (by decide) hD) rfl rfl rfl hl.1 (Nat.le_of_ble_eq_true rfl) ⟨hRc, hRs⟩ dX2_cell_7) hP hD hS hA rfl (fun H locs hP hD hS => ?_)
  refine z_as (show (-1000001) = -1000001 from by first | rfl | omega) ?_
  first | exact hret _ _ _ _ dX2_cell_10 hP hD hS | (exfalso; omega)
set_option maxHeartbeats 4000000 in
set_option maxRecDepth 100000 in
theorem m_X2_guard (l : Launch) (D : va_G) (xo xh t : Nat) (ta : Nat → Nat) (cI cC cH : ClassId) (ga : Nat → Nat) (gd : Nat → Nat → Nat) (F T : Nat → Int → Int) (Gs : Nat → Nat → Int → Int) (r g2 w : Int) {B : Int} (hI : InvG B (Gs 0)) (h1 : 0 ≤ r ∧ r < 6) (h2 : 0 ≤ g2 ∧ g2 < 3) (h_w : -2147483648 ≤ w ∧ w < 2147483648)  : MW l D yX2_guard (wsY yX2_guard cX2_guard 4 (some .int)) { frames := 3, cells := 0, slots := 0, locals := 67 } [(cI, .int), (cC, .char), (cH, .object RX0)] [.ref xo, .int (iI r), .int (iI g2), .int (iI w)] (wX xo xh t ta cI cC cH ga gd F T Gs) (wX xo xh t ta cI cC cH ga gd F T Gs) (some (.int (iI (guardV (Gs 0) r g2 w)))) := by
  refine mw_ofI (cc := cX2_guard) (maxL := 4) (by decide) rfl (Nat.le_of_ble_eq_true rfl) ?_
  intro p e s m below meth c R A Q args ls hx hb hml hown hts hRf hRl hRc hRs hN hK hP hD hS hA hret hl
  have hq : ∀ w ∈ ALL, w.before args s = true := fun w h => hts w (List.mem_cons_of_mem _ h)
  have hl : lv_has ls 4 [(0, .ref xo), (1, .int (iI r)), (2, .int (iI g2)), (3, .int (iI w))] := hl
  refine lv_aload_n hx hb dX2_guard_0 rfl (lv_at hl 0 rfl) ?_
  refine va_get (D := D) (ci := 2) (v := .ref (ga 0)) (C := RX2) (T := TX2) (N := 10) hx hb hq inA2 hown hK hP 0 rfl rfl 0 (by decide) (hq _ q_204) (fun _ h9 => h9) rfl dX2_guard_1 ?_
  refine lv_iload_n hx hb dX2_guard_4 rfl (lv_at hl 1 rfl) ?_
  refine lv_iload_n hx hb dX2_guard_5 rfl (lv_at hl 2 rfl) ?_
  refine lv_iload_n hx hb dX2_guard_6 rfl (lv_at hl 3 rfl) ?_
  refine mw_grR (ga := ga) (gd := gd) (T := T) (Gs := Gs) (st1 := [.int (iI (guardV (Gs 0) r g2 w))]) 0 (by decide) (mr_V (As := [.int (iI r), .int (iI g2), .int (iI w)]) (rest := []) (ci := 0) (q0 := 0) ⟨hx, hb, hml, hown, hts⟩ (m_X0_numberOfGuard l D (ga 0) (gd 0) cI (Gs 0) r g2 w hI (by omega) (by omega) (by omega)) (cwV 3 hts (gV q_255 q_256 q_257 q_8 q_104) rfl rfl rfl (by decide +kernel) ⟨Nat.le_trans (m := 3) (Nat.le_of_ble_eq_true rfl) (Nat.le_trans (Nat.le_of_ble_eq_true rfl) hRf), Nat.le_trans (m := 67) (Nat.le_of_ble_eq_true rfl) (Nat.le_trans (Nat.le_of_ble_eq_true rfl) hRl)⟩) hN (hK.sub (tys' := [(cI, .int)]) [0] rfl) (x_Pg (ga := ga) (gd := gd) (T := T) (Gs := Gs) 0 (by decide) hP) (x_Dg (ga := ga) (gd := gd) (T := T) (Gs := Gs) 0 (by decide) hD) rfl rfl rfl hl.1 (Nat.le_of_ble_eq_true rfl) ⟨hRc, hRs⟩ dX2_guard_7) hP hD hS hA rfl (fun H locs hP hD hS => ?_)
  refine z_as (show (guardV (Gs 0) r g2 w) = guardV (Gs 0) r g2 w from by first | rfl | omega) ?_
  first | exact hret _ _ _ _ dX2_guard_10 hP hD hS | (exfalso; omega)
set_option maxHeartbeats 4000000 in
set_option maxRecDepth 100000 in
theorem m_X2_guard_bad (l : Launch) (D : va_G) (xo xh t : Nat) (ta : Nat → Nat) (cI cC cH : ClassId) (ga : Nat → Nat) (gd : Nat → Nat → Nat) (F T : Nat → Int → Int) (Gs : Nat → Nat → Int → Int) (r g2 w : Int) (h_r : -2147483648 ≤ r ∧ r < 2147483648) (h_g2 : -2147483648 ≤ g2 ∧ g2 < 2147483648) (h_w : -2147483648 ≤ w ∧ w < 2147483648) (hb0 : r < 0 ∨ 5 < r ∨ g2 < 0 ∨ 2 < g2)  : MW l D yX2_guard (wsY yX2_guard cX2_guard 4 (some .int)) { frames := 3, cells := 0, slots := 0, locals := 67 } [(cI, .int), (cC, .char), (cH, .object RX0)] [.ref xo, .int (iI r), .int (iI g2), .int (iI w)] (wX xo xh t ta cI cC cH ga gd F T Gs) (wX xo xh t ta cI cC cH ga gd F T Gs) (some (.int (iI (-1000001)))) := by
  refine mw_ofI (cc := cX2_guard) (maxL := 4) (by decide) rfl (Nat.le_of_ble_eq_true rfl) ?_
  intro p e s m below meth c R A Q args ls hx hb hml hown hts hRf hRl hRc hRs hN hK hP hD hS hA hret hl
  have hq : ∀ w ∈ ALL, w.before args s = true := fun w h => hts w (List.mem_cons_of_mem _ h)
  have hl : lv_has ls 4 [(0, .ref xo), (1, .int (iI r)), (2, .int (iI g2)), (3, .int (iI w))] := hl
  refine lv_aload_n hx hb dX2_guard_0 rfl (lv_at hl 0 rfl) ?_
  refine va_get (D := D) (ci := 2) (v := .ref (ga 0)) (C := RX2) (T := TX2) (N := 10) hx hb hq inA2 hown hK hP 0 rfl rfl 0 (by decide) (hq _ q_204) (fun _ h9 => h9) rfl dX2_guard_1 ?_
  refine lv_iload_n hx hb dX2_guard_4 rfl (lv_at hl 1 rfl) ?_
  refine lv_iload_n hx hb dX2_guard_5 rfl (lv_at hl 2 rfl) ?_
  refine lv_iload_n hx hb dX2_guard_6 rfl (lv_at hl 3 rfl) ?_
  refine mw_grR (ga := ga) (gd := gd) (T := T) (Gs := Gs) (st1 := [.int (iI (-1000001))]) 0 (by decide) (mr_V (As := [.int (iI r), .int (iI g2), .int (iI w)]) (rest := []) (ci := 0) (q0 := 0) ⟨hx, hb, hml, hown, hts⟩ (m_X0_numberOfGuard_bad l D (ga 0) (gd 0) cI (Gs 0) r g2 w (by omega) (by omega) (by omega)) (cwV 3 hts (gV q_255 q_256 q_257 q_8 q_104) rfl rfl rfl (by decide +kernel) ⟨Nat.le_trans (m := 3) (Nat.le_of_ble_eq_true rfl) (Nat.le_trans (Nat.le_of_ble_eq_true rfl) hRf), Nat.le_trans (m := 67) (Nat.le_of_ble_eq_true rfl) (Nat.le_trans (Nat.le_of_ble_eq_true rfl) hRl)⟩) hN (hK.sub (tys' := [(cI, .int)]) [0] rfl) (x_Pg (ga := ga) (gd := gd) (T := T) (Gs := Gs) 0 (by decide) hP) (x_Dg (ga := ga) (gd := gd) (T := T) (Gs := Gs) 0 (by decide) hD) rfl rfl rfl hl.1 (Nat.le_of_ble_eq_true rfl) ⟨hRc, hRs⟩ dX2_guard_7) hP hD hS hA rfl (fun H locs hP hD hS => ?_)
  refine z_as (show (-1000001) = -1000001 from by first | rfl | omega) ?_
  first | exact hret _ _ _ _ dX2_guard_10 hP hD hS | (exfalso; omega)
set_option maxHeartbeats 4000000 in
set_option maxRecDepth 100000 in
theorem m_X2_row (l : Launch) (D : va_G) (xo xh t : Nat) (ta : Nat → Nat) (cI cC cH : ClassId) (ga : Nat → Nat) (gd : Nat → Nat → Nat) (F T : Nat → Int → Int) (Gs : Nat → Nat → Int → Int) (r w : Int) {B : Int} (hI : InvG B (Gs 0)) (h1 : 0 ≤ r ∧ r < 6) (h_w : -2147483648 ≤ w ∧ w < 2147483648)  : MW l D yX2_row (wsY yX2_row cX2_row 3 (some .int)) { frames := 4, cells := 0, slots := 0, locals := 94 } [(cI, .int), (cC, .char), (cH, .object RX0)] [.ref xo, .int (iI r), .int (iI w)] (wX xo xh t ta cI cC cH ga gd F T Gs) (wX xo xh t ta cI cC cH ga gd F T Gs) (some (.int (iI (rowV (Gs 0) r w)))) := by
  refine mw_ofI (cc := cX2_row) (maxL := 3) (by decide) rfl (Nat.le_of_ble_eq_true rfl) ?_
  intro p e s m below meth c R A Q args ls hx hb hml hown hts hRf hRl hRc hRs hN hK hP hD hS hA hret hl
  have hq : ∀ w ∈ ALL, w.before args s = true := fun w h => hts w (List.mem_cons_of_mem _ h)
  have hl : lv_has ls 3 [(0, .ref xo), (1, .int (iI r)), (2, .int (iI w))] := hl
  refine lv_aload_n hx hb dX2_row_0 rfl (lv_at hl 0 rfl) ?_
  refine va_get (D := D) (ci := 2) (v := .ref (ga 0)) (C := RX2) (T := TX2) (N := 10) hx hb hq inA2 hown hK hP 0 rfl rfl 0 (by decide) (hq _ q_204) (fun _ h9 => h9) rfl dX2_row_1 ?_
  refine lv_iload_n hx hb dX2_row_4 rfl (lv_at hl 1 rfl) ?_
  refine lv_iload_n hx hb dX2_row_5 rfl (lv_at hl 2 rfl) ?_
  refine mw_grR (ga := ga) (gd := gd) (T := T) (Gs := Gs) (st1 := [.int (iI (rowV (Gs 0) r w))]) 0 (by decide) (mr_V (As := [.int (iI r), .int (iI w)]) (rest := []) (ci := 0) (q0 := 0) ⟨hx, hb, hml, hown, hts⟩ (m_X0_numberOfRow l D (ga 0) (gd 0) cI (Gs 0) r w hI (by omega) (by omega)) (cwV 2 hts (gV q_259 q_260 q_261 q_8 q_121) rfl rfl rfl (by decide +kernel) ⟨Nat.le_trans (m := 4) (Nat.le_of_ble_eq_true rfl) (Nat.le_trans (Nat.le_of_ble_eq_true rfl) hRf), Nat.le_trans (m := 94) (Nat.le_of_ble_eq_true rfl) (Nat.le_trans (Nat.le_of_ble_eq_true rfl) hRl)⟩) hN (hK.sub (tys' := [(cI, .int)]) [0] rfl) (x_Pg (ga := ga) (gd := gd) (T := T) (Gs := Gs) 0 (by decide) hP) (x_Dg (ga := ga) (gd := gd) (T := T) (Gs := Gs) 0 (by decide) hD) rfl rfl rfl hl.1 (Nat.le_of_ble_eq_true rfl) ⟨hRc, hRs⟩ dX2_row_6) hP hD hS hA rfl (fun H locs hP hD hS => ?_)
  refine z_as (show (rowV (Gs 0) r w) = rowV (Gs 0) r w from by first | rfl | omega) ?_
  first | exact hret _ _ _ _ dX2_row_9 hP hD hS | (exfalso; omega)
set_option maxHeartbeats 4000000 in
set_option maxRecDepth 100000 in
theorem m_X2_row_bad (l : Launch) (D : va_G) (xo xh t : Nat) (ta : Nat → Nat) (cI cC cH : ClassId) (ga : Nat → Nat) (gd : Nat → Nat → Nat) (F T : Nat → Int → Int) (Gs : Nat → Nat → Int → Int) (r w : Int) (h_r : -2147483648 ≤ r ∧ r < 2147483648) (h_w : -2147483648 ≤ w ∧ w < 2147483648) (hb0 : r < 0 ∨ 5 < r)  : MW l D yX2_row (wsY yX2_row cX2_row 3 (some .int)) { frames := 4, cells := 0, slots := 0, locals := 94 } [(cI, .int), (cC, .char), (cH, .object RX0)] [.ref xo, .int (iI r), .int (iI w)] (wX xo xh t ta cI cC cH ga gd F T Gs) (wX xo xh t ta cI cC cH ga gd F T Gs) (some (.int (iI (-1000001)))) := by
  refine mw_ofI (cc := cX2_row) (maxL := 3) (by decide) rfl (Nat.le_of_ble_eq_true rfl) ?_
  intro p e s m below meth c R A Q args ls hx hb hml hown hts hRf hRl hRc hRs hN hK hP hD hS hA hret hl
  have hq : ∀ w ∈ ALL, w.before args s = true := fun w h => hts w (List.mem_cons_of_mem _ h)
  have hl : lv_has ls 3 [(0, .ref xo), (1, .int (iI r)), (2, .int (iI w))] := hl
  refine lv_aload_n hx hb dX2_row_0 rfl (lv_at hl 0 rfl) ?_
  refine va_get (D := D) (ci := 2) (v := .ref (ga 0)) (C := RX2) (T := TX2) (N := 10) hx hb hq inA2 hown hK hP 0 rfl rfl 0 (by decide) (hq _ q_204) (fun _ h9 => h9) rfl dX2_row_1 ?_
  refine lv_iload_n hx hb dX2_row_4 rfl (lv_at hl 1 rfl) ?_
  refine lv_iload_n hx hb dX2_row_5 rfl (lv_at hl 2 rfl) ?_
  refine mw_grR (ga := ga) (gd := gd) (T := T) (Gs := Gs) (st1 := [.int (iI (-1000001))]) 0 (by decide) (mr_V (As := [.int (iI r), .int (iI w)]) (rest := []) (ci := 0) (q0 := 0) ⟨hx, hb, hml, hown, hts⟩ (m_X0_numberOfRow_bad l D (ga 0) (gd 0) cI (Gs 0) r w (by omega) (by omega)) (cwV 2 hts (gV q_259 q_260 q_261 q_8 q_121) rfl rfl rfl (by decide +kernel) ⟨Nat.le_trans (m := 4) (Nat.le_of_ble_eq_true rfl) (Nat.le_trans (Nat.le_of_ble_eq_true rfl) hRf), Nat.le_trans (m := 94) (Nat.le_of_ble_eq_true rfl) (Nat.le_trans (Nat.le_of_ble_eq_true rfl) hRl)⟩) hN (hK.sub (tys' := [(cI, .int)]) [0] rfl) (x_Pg (ga := ga) (gd := gd) (T := T) (Gs := Gs) 0 (by decide) hP) (x_Dg (ga := ga) (gd := gd) (T := T) (Gs := Gs) 0 (by decide) hD) rfl rfl rfl hl.1 (Nat.le_of_ble_eq_true rfl) ⟨hRc, hRs⟩ dX2_row_6) hP hD hS hA rfl (fun H locs hP hD hS => ?_)
  refine z_as (show (-1000001) = -1000001 from by first | rfl | omega) ?_
  first | exact hret _ _ _ _ dX2_row_9 hP hD hS | (exfalso; omega)
set_option maxHeartbeats 4000000 in
set_option maxRecDepth 100000 in
theorem m_X2_table (l : Launch) (D : va_G) (xo xh t : Nat) (ta : Nat → Nat) (cI cC cH : ClassId) (ga : Nat → Nat) (gd : Nat → Nat → Nat) (F T : Nat → Int → Int) (Gs : Nat → Nat → Int → Int) (v t2 : Int) {B : Int} (hI : InvG B (Gs 0)) (h1 : 0 ≤ v ∧ v < 3) (h2 : 0 ≤ t2 ∧ t2 < 3)  : MW l D yX2_table (wsY yX2_table cX2_table 3 (some .int)) { frames := 2, cells := 0, slots := 0, locals := 44 } [(cI, .int), (cC, .char), (cH, .object RX0)] [.ref xo, .int (iI v), .int (iI t2)] (wX xo xh t ta cI cC cH ga gd F T Gs) (wX xo xh t ta cI cC cH ga gd F T Gs) (some (.int (iI ((Gs 0) 10 (3 * v + t2))))) := by
  refine mw_ofI (cc := cX2_table) (maxL := 3) (by decide) rfl (Nat.le_of_ble_eq_true rfl) ?_
  intro p e s m below meth c R A Q args ls hx hb hml hown hts hRf hRl hRc hRs hN hK hP hD hS hA hret hl
  have hq : ∀ w ∈ ALL, w.before args s = true := fun w h => hts w (List.mem_cons_of_mem _ h)
  have hl : lv_has ls 3 [(0, .ref xo), (1, .int (iI v)), (2, .int (iI t2))] := hl
  refine lv_aload_n hx hb dX2_table_0 rfl (lv_at hl 0 rfl) ?_
  refine va_get (D := D) (ci := 2) (v := .ref (ga 0)) (C := RX2) (T := TX2) (N := 10) hx hb hq inA2 hown hK hP 0 rfl rfl 0 (by decide) (hq _ q_204) (fun _ h9 => h9) rfl dX2_table_1 ?_
  refine lv_iload_n hx hb dX2_table_4 rfl (lv_at hl 1 rfl) ?_
  refine lv_iload_n hx hb dX2_table_5 rfl (lv_at hl 2 rfl) ?_
  refine mw_grR (ga := ga) (gd := gd) (T := T) (Gs := Gs) (st1 := [.int (iI ((Gs 0) 10 (3 * v + t2)))]) 0 (by decide) (mr_V (As := [.int (iI v), .int (iI t2)]) (rest := []) (ci := 0) (q0 := 0) ⟨hx, hb, hml, hown, hts⟩ (m_X0_timesTold l D (ga 0) (gd 0) cI (Gs 0) v t2 hI (by omega) (by omega)) (cwV 2 hts (gV q_263 q_264 q_265 q_8 q_122) rfl rfl rfl (by decide +kernel) ⟨Nat.le_trans (m := 2) (Nat.le_of_ble_eq_true rfl) (Nat.le_trans (Nat.le_of_ble_eq_true rfl) hRf), Nat.le_trans (m := 44) (Nat.le_of_ble_eq_true rfl) (Nat.le_trans (Nat.le_of_ble_eq_true rfl) hRl)⟩) hN (hK.sub (tys' := [(cI, .int)]) [0] rfl) (x_Pg (ga := ga) (gd := gd) (T := T) (Gs := Gs) 0 (by decide) hP) (x_Dg (ga := ga) (gd := gd) (T := T) (Gs := Gs) 0 (by decide) hD) rfl rfl rfl hl.1 (Nat.le_of_ble_eq_true rfl) ⟨hRc, hRs⟩ dX2_table_6) hP hD hS hA rfl (fun H locs hP hD hS => ?_)
  refine z_as (show ((Gs 0) 10 (3 * v + t2)) = (Gs 0) 10 (3 * v + t2) from by first | rfl | omega) ?_
  first | exact hret _ _ _ _ dX2_table_9 hP hD hS | (exfalso; omega)
set_option maxHeartbeats 4000000 in
set_option maxRecDepth 100000 in
theorem m_X2_table_bad (l : Launch) (D : va_G) (xo xh t : Nat) (ta : Nat → Nat) (cI cC cH : ClassId) (ga : Nat → Nat) (gd : Nat → Nat → Nat) (F T : Nat → Int → Int) (Gs : Nat → Nat → Int → Int) (v t2 : Int) (h_v : -2147483648 ≤ v ∧ v < 2147483648) (h_t2 : -2147483648 ≤ t2 ∧ t2 < 2147483648) (hb0 : v < 0 ∨ 2 < v ∨ t2 < 0 ∨ 2 < t2)  : MW l D yX2_table (wsY yX2_table cX2_table 3 (some .int)) { frames := 2, cells := 0, slots := 0, locals := 44 } [(cI, .int), (cC, .char), (cH, .object RX0)] [.ref xo, .int (iI v), .int (iI t2)] (wX xo xh t ta cI cC cH ga gd F T Gs) (wX xo xh t ta cI cC cH ga gd F T Gs) (some (.int (iI (-1000001)))) := by
  refine mw_ofI (cc := cX2_table) (maxL := 3) (by decide) rfl (Nat.le_of_ble_eq_true rfl) ?_
  intro p e s m below meth c R A Q args ls hx hb hml hown hts hRf hRl hRc hRs hN hK hP hD hS hA hret hl
  have hq : ∀ w ∈ ALL, w.before args s = true := fun w h => hts w (List.mem_cons_of_mem _ h)
  have hl : lv_has ls 3 [(0, .ref xo), (1, .int (iI v)), (2, .int (iI t2))] := hl
  refine lv_aload_n hx hb dX2_table_0 rfl (lv_at hl 0 rfl) ?_
  refine va_get (D := D) (ci := 2) (v := .ref (ga 0)) (C := RX2) (T := TX2) (N := 10) hx hb hq inA2 hown hK hP 0 rfl rfl 0 (by decide) (hq _ q_204) (fun _ h9 => h9) rfl dX2_table_1 ?_
  refine lv_iload_n hx hb dX2_table_4 rfl (lv_at hl 1 rfl) ?_
  refine lv_iload_n hx hb dX2_table_5 rfl (lv_at hl 2 rfl) ?_
  refine mw_grR (ga := ga) (gd := gd) (T := T) (Gs := Gs) (st1 := [.int (iI (-1000001))]) 0 (by decide) (mr_V (As := [.int (iI v), .int (iI t2)]) (rest := []) (ci := 0) (q0 := 0) ⟨hx, hb, hml, hown, hts⟩ (m_X0_timesTold_bad l D (ga 0) (gd 0) cI (Gs 0) v t2 (by omega) (by omega) (by omega)) (cwV 2 hts (gV q_263 q_264 q_265 q_8 q_122) rfl rfl rfl (by decide +kernel) ⟨Nat.le_trans (m := 2) (Nat.le_of_ble_eq_true rfl) (Nat.le_trans (Nat.le_of_ble_eq_true rfl) hRf), Nat.le_trans (m := 44) (Nat.le_of_ble_eq_true rfl) (Nat.le_trans (Nat.le_of_ble_eq_true rfl) hRl)⟩) hN (hK.sub (tys' := [(cI, .int)]) [0] rfl) (x_Pg (ga := ga) (gd := gd) (T := T) (Gs := Gs) 0 (by decide) hP) (x_Dg (ga := ga) (gd := gd) (T := T) (Gs := Gs) 0 (by decide) hD) rfl rfl rfl hl.1 (Nat.le_of_ble_eq_true rfl) ⟨hRc, hRs⟩ dX2_table_6) hP hD hS hA rfl (fun H locs hP hD hS => ?_)
  refine z_as (show (-1000001) = -1000001 from by first | rfl | omega) ?_
  first | exact hret _ _ _ _ dX2_table_9 hP hD hS | (exfalso; omega)
set_option maxHeartbeats 4000000 in
set_option maxRecDepth 100000 in
theorem m_X2_clearText (l : Launch) (D : va_G) (xo xh t : Nat) (ta : Nat → Nat) (cI cC cH : ClassId) (ga : Nat → Nat) (gd : Nat → Nat → Nat) (F T : Nat → Int → Int) (Gs : Nat → Nat → Int → Int)  : MW l D yX2_clearText (wsY yX2_clearText cX2_clearText 1 (some .int)) { frames := 1, cells := 0, slots := 0, locals := 21 } [(cI, .int), (cC, .char), (cH, .object RX0)] [.ref xo] (wX xo xh t ta cI cC cH ga gd F T Gs) (wX xo xh t ta cI cC cH ga gd F (upG T 1 0 0) Gs) (some (.int (iI (T 1 0)))) := by
  refine mw_ofI (cc := cX2_clearText) (maxL := 1) (by decide) rfl (Nat.le_of_ble_eq_true rfl) ?_
  intro p e s m below meth c R A Q args ls hx hb hml hown hts hRf hRl hRc hRs hN hK hP hD hS hA hret hl
  have hq : ∀ w ∈ ALL, w.before args s = true := fun w h => hts w (List.mem_cons_of_mem _ h)
  have hl : lv_has ls 1 [(0, .ref xo)] := hl
  refine lv_aload_n hx hb dX2_clearText_0 rfl (lv_at hl 0 rfl) ?_
  refine va_get (D := D) (ci := 2) (v := .ref t) (C := RX2) (T := TX2) (N := 10) hx hb hq inA2 hown hK hP 0 rfl rfl 5 (by decide) (hq _ q_210) (fun _ h9 => h9) rfl dX2_clearText_1 ?_
  refine mw_tx (st1 := [.int (iI (T 1 0))]) (ga := ga) (gd := gd) (T := T) (Gs := Gs) (X := (upG T 1 0 0)) (mr_V (As := []) (rest := []) (ci := 1) (q0 := 0) ⟨hx, hb, hml, hown, hts⟩ (m_X1_empty l D t ta cI cC T) (cwV 0 hts (gV q_311 q_312 q_313 q_173 q_164) rfl rfl rfl (by decide +kernel) ⟨Nat.le_trans (m := 1) (Nat.le_of_ble_eq_true rfl) (Nat.le_trans (Nat.le_of_ble_eq_true rfl) hRf), Nat.le_trans (m := 21) (Nat.le_of_ble_eq_true rfl) (Nat.le_trans (Nat.le_of_ble_eq_true rfl) hRl)⟩) hN (hK.sub (tys' := [(cI, .int), (cC, .char)]) [0, 1] rfl) (x_Pt (ga := ga) (gd := gd) (T := T) (Gs := Gs) hP) (x_Dt (ga := ga) (gd := gd) (T := T) (Gs := Gs) hD) rfl rfl rfl hl.1 (Nat.le_of_ble_eq_true rfl) ⟨hRc, hRs⟩ dX2_clearText_4) hP hD hS hA rfl (fun H locs hP hD hS => ?_)
  refine z_as (show (T 1 0) = T 1 0 from by first | rfl | omega) ?_
  first | exact hret _ _ _ _ dX2_clearText_7 hP hD hS | (exfalso; omega)
set_option maxHeartbeats 4000000 in
set_option maxRecDepth 100000 in
theorem m_X2_type (l : Launch) (D : va_G) (xo xh t : Nat) (ta : Nat → Nat) (cI cC cH : ClassId) (ga : Nat → Nat) (gd : Nat → Nat → Nat) (F T : Nat → Int → Int) (Gs : Nat → Nat → Int → Int) (v : Int) (hT : InvT T) (h1 : 32 ≤ v ∧ v ≤ 126) (h2 : T 1 0 < 60)  : MW l D yX2_type (wsY yX2_type cX2_type 2 (some .int)) { frames := 2, cells := 0, slots := 0, locals := 43 } [(cI, .int), (cC, .char), (cH, .object RX0)] [.ref xo, .int (iI v)] (wX xo xh t ta cI cC cH ga gd F T Gs) (wX xo xh t ta cI cC cH ga gd F (upG (upG T 0 (T 1 0) v) 1 0 (T 1 0 + 1)) Gs) (some (.int (iI (T 1 0 + 1)))) := by
  refine mw_ofI (cc := cX2_type) (maxL := 2) (by decide) rfl (Nat.le_of_ble_eq_true rfl) ?_
  intro p e s m below meth c R A Q args ls hx hb hml hown hts hRf hRl hRc hRs hN hK hP hD hS hA hret hl
  have hq : ∀ w ∈ ALL, w.before args s = true := fun w h => hts w (List.mem_cons_of_mem _ h)
  have hl : lv_has ls 2 [(0, .ref xo), (1, .int (iI v))] := hl
  refine lv_aload_n hx hb dX2_type_0 rfl (lv_at hl 0 rfl) ?_
  refine va_get (D := D) (ci := 2) (v := .ref t) (C := RX2) (T := TX2) (N := 10) hx hb hq inA2 hown hK hP 0 rfl rfl 5 (by decide) (hq _ q_210) (fun _ h9 => h9) rfl dX2_type_1 ?_
  refine lv_iload_n hx hb dX2_type_4 rfl (lv_at hl 1 rfl) ?_
  refine mw_tx (st1 := [.int (iI (T 1 0 + 1))]) (ga := ga) (gd := gd) (T := T) (Gs := Gs) (X := (upG (upG T 0 (T 1 0) v) 1 0 (T 1 0 + 1))) (mr_V (As := [.int (iI v)]) (rest := []) (ci := 1) (q0 := 0) ⟨hx, hb, hml, hown, hts⟩ (m_X1_append l D t ta cI cC T v hT (by omega) (by omega)) (cwV 1 hts (gV q_307 q_308 q_309 q_173 q_163) rfl rfl rfl (by decide +kernel) ⟨Nat.le_trans (m := 2) (Nat.le_of_ble_eq_true rfl) (Nat.le_trans (Nat.le_of_ble_eq_true rfl) hRf), Nat.le_trans (m := 43) (Nat.le_of_ble_eq_true rfl) (Nat.le_trans (Nat.le_of_ble_eq_true rfl) hRl)⟩) hN (hK.sub (tys' := [(cI, .int), (cC, .char)]) [0, 1] rfl) (x_Pt (ga := ga) (gd := gd) (T := T) (Gs := Gs) hP) (x_Dt (ga := ga) (gd := gd) (T := T) (Gs := Gs) hD) rfl rfl rfl hl.1 (Nat.le_of_ble_eq_true rfl) ⟨hRc, hRs⟩ dX2_type_5) hP hD hS hA rfl (fun H locs hP hD hS => ?_)
  refine z_as (show (T 1 0 + 1) = T 1 0 + 1 from by first | rfl | omega) ?_
  first | exact hret _ _ _ _ dX2_type_8 hP hD hS | (exfalso; omega)
set_option maxHeartbeats 4000000 in
set_option maxRecDepth 100000 in
theorem m_X2_type_bad (l : Launch) (D : va_G) (xo xh t : Nat) (ta : Nat → Nat) (cI cC cH : ClassId) (ga : Nat → Nat) (gd : Nat → Nat → Nat) (F T : Nat → Int → Int) (Gs : Nat → Nat → Int → Int) (v : Int) (h_v : -2147483648 ≤ v ∧ v < 2147483648) (hb0 : v < 32 ∨ 126 < v)  : MW l D yX2_type (wsY yX2_type cX2_type 2 (some .int)) { frames := 2, cells := 0, slots := 0, locals := 43 } [(cI, .int), (cC, .char), (cH, .object RX0)] [.ref xo, .int (iI v)] (wX xo xh t ta cI cC cH ga gd F T Gs) (wX xo xh t ta cI cC cH ga gd F T Gs) (some (.int (iI (-1000001)))) := by
  refine mw_ofI (cc := cX2_type) (maxL := 2) (by decide) rfl (Nat.le_of_ble_eq_true rfl) ?_
  intro p e s m below meth c R A Q args ls hx hb hml hown hts hRf hRl hRc hRs hN hK hP hD hS hA hret hl
  have hq : ∀ w ∈ ALL, w.before args s = true := fun w h => hts w (List.mem_cons_of_mem _ h)
  have hl : lv_has ls 2 [(0, .ref xo), (1, .int (iI v))] := hl
  refine lv_aload_n hx hb dX2_type_0 rfl (lv_at hl 0 rfl) ?_
  refine va_get (D := D) (ci := 2) (v := .ref t) (C := RX2) (T := TX2) (N := 10) hx hb hq inA2 hown hK hP 0 rfl rfl 5 (by decide) (hq _ q_210) (fun _ h9 => h9) rfl dX2_type_1 ?_
  refine lv_iload_n hx hb dX2_type_4 rfl (lv_at hl 1 rfl) ?_
  refine mw_tx (st1 := [.int (iI (-1000001))]) (ga := ga) (gd := gd) (T := T) (Gs := Gs) (X := T) (mr_V (As := [.int (iI v)]) (rest := []) (ci := 1) (q0 := 0) ⟨hx, hb, hml, hown, hts⟩ (m_X1_append_bad l D t ta cI cC T v (by omega) (by omega)) (cwV 1 hts (gV q_307 q_308 q_309 q_173 q_163) rfl rfl rfl (by decide +kernel) ⟨Nat.le_trans (m := 2) (Nat.le_of_ble_eq_true rfl) (Nat.le_trans (Nat.le_of_ble_eq_true rfl) hRf), Nat.le_trans (m := 43) (Nat.le_of_ble_eq_true rfl) (Nat.le_trans (Nat.le_of_ble_eq_true rfl) hRl)⟩) hN (hK.sub (tys' := [(cI, .int), (cC, .char)]) [0, 1] rfl) (x_Pt (ga := ga) (gd := gd) (T := T) (Gs := Gs) hP) (x_Dt (ga := ga) (gd := gd) (T := T) (Gs := Gs) hD) rfl rfl rfl hl.1 (Nat.le_of_ble_eq_true rfl) ⟨hRc, hRs⟩ dX2_type_5) hP hD hS hA rfl (fun H locs hP hD hS => ?_)
  refine z_as (show (-1000001) = -1000001 from by first | rfl | omega) ?_
  first | exact hret _ _ _ _ dX2_type_8 hP hD hS | (exfalso; omega)
set_option maxHeartbeats 4000000 in
set_option maxRecDepth 100000 in
theorem m_X2_type_full (l : Launch) (D : va_G) (xo xh t : Nat) (ta : Nat → Nat) (cI cC cH : ClassId) (ga : Nat → Nat) (gd : Nat → Nat → Nat) (F T : Nat → Int → Int) (Gs : Nat → Nat → Int → Int) (v : Int) (hT : InvT T) (h1 : 32 ≤ v ∧ v ≤ 126) (h2 : T 1 0 = 60)  : MW l D yX2_type (wsY yX2_type cX2_type 2 (some .int)) { frames := 2, cells := 0, slots := 0, locals := 43 } [(cI, .int), (cC, .char), (cH, .object RX0)] [.ref xo, .int (iI v)] (wX xo xh t ta cI cC cH ga gd F T Gs) (wX xo xh t ta cI cC cH ga gd F T Gs) (some (.int (iI (-1000003)))) := by
  refine mw_ofI (cc := cX2_type) (maxL := 2) (by decide) rfl (Nat.le_of_ble_eq_true rfl) ?_
  intro p e s m below meth c R A Q args ls hx hb hml hown hts hRf hRl hRc hRs hN hK hP hD hS hA hret hl
  have hq : ∀ w ∈ ALL, w.before args s = true := fun w h => hts w (List.mem_cons_of_mem _ h)
  have hl : lv_has ls 2 [(0, .ref xo), (1, .int (iI v))] := hl
  refine lv_aload_n hx hb dX2_type_0 rfl (lv_at hl 0 rfl) ?_
  refine va_get (D := D) (ci := 2) (v := .ref t) (C := RX2) (T := TX2) (N := 10) hx hb hq inA2 hown hK hP 0 rfl rfl 5 (by decide) (hq _ q_210) (fun _ h9 => h9) rfl dX2_type_1 ?_
  refine lv_iload_n hx hb dX2_type_4 rfl (lv_at hl 1 rfl) ?_
  refine mw_tx (st1 := [.int (iI (-1000003))]) (ga := ga) (gd := gd) (T := T) (Gs := Gs) (X := T) (mr_V (As := [.int (iI v)]) (rest := []) (ci := 1) (q0 := 0) ⟨hx, hb, hml, hown, hts⟩ (m_X1_append_full l D t ta cI cC T v hT (by omega) (by omega)) (cwV 1 hts (gV q_307 q_308 q_309 q_173 q_163) rfl rfl rfl (by decide +kernel) ⟨Nat.le_trans (m := 2) (Nat.le_of_ble_eq_true rfl) (Nat.le_trans (Nat.le_of_ble_eq_true rfl) hRf), Nat.le_trans (m := 43) (Nat.le_of_ble_eq_true rfl) (Nat.le_trans (Nat.le_of_ble_eq_true rfl) hRl)⟩) hN (hK.sub (tys' := [(cI, .int), (cC, .char)]) [0, 1] rfl) (x_Pt (ga := ga) (gd := gd) (T := T) (Gs := Gs) hP) (x_Dt (ga := ga) (gd := gd) (T := T) (Gs := Gs) hD) rfl rfl rfl hl.1 (Nat.le_of_ble_eq_true rfl) ⟨hRc, hRs⟩ dX2_type_5) hP hD hS hA rfl (fun H locs hP hD hS => ?_)
  refine z_as (show (-1000003) = -1000003 from by first | rfl | omega) ?_
  first | exact hret _ _ _ _ dX2_type_8 hP hD hS | (exfalso; omega)
set_option maxHeartbeats 4000000 in
set_option maxRecDepth 100000 in
theorem m_X2_noteFault (l : Launch) (D : va_G) (xo xh t : Nat) (ta : Nat → Nat) (cI cC cH : ClassId) (ga : Nat → Nat) (gd : Nat → Nat → Nat) (F T : Nat → Int → Int) (Gs : Nat → Nat → Int → Int) (a b d : Int)  : MW l D yX2_noteFault (wsY yX2_noteFault cX2_noteFault 4 (some .boolean)) { frames := 0, cells := 0, slots := 0, locals := 0 } [(cI, .int), (cC, .char), (cH, .object RX0)] [.ref xo, .int (iI a), .int (iI b), .int (iI d)] (wX xo xh t ta cI cC cH ga gd F T Gs) (wX xo xh t ta cI cC cH ga gd (upG (upG (upG F 7 0 a) 8 0 b) 9 0 d) T Gs) (some (.int (iI 1))) := by
  refine mw_ofZ (cc := cX2_noteFault) (maxL := 4) (ty := .boolean) (narrow_z01 (by omega)) (by decide) rfl (Nat.le_of_ble_eq_true rfl) ?_
  intro p e s m below meth c R A Q args ls hx hb hml hown hts hRf hRl hRc hRs hN hK hP hD hS hA hret hl
  have hq : ∀ w ∈ ALL, w.before args s = true := fun w h => hts w (List.mem_cons_of_mem _ h)
  have hl : lv_has ls 4 [(0, .ref xo), (1, .int (iI a)), (2, .int (iI b)), (3, .int (iI d))] := hl
  refine lv_aload_n hx hb dX2_noteFault_0 rfl (lv_at hl 0 rfl) ?_
  refine lv_iload_n hx hb dX2_noteFault_1 rfl (lv_at hl 1 rfl) ?_
  refine va_put (D := D) (ci := 2) (v := .int (iI a)) (ty := .int) (C := RX2) (T := TX2) (N := 10) hx hb hq inA2 tyX2 tyX2_ok nmX2 hown hK hP hD hS 0 rfl rfl 7 (by decide) (hq _ q_315) (fun _ h9 => h9) rfl (by decide +kernel) rfl rfl (Nat.le_of_ble_eq_true rfl) dX2_noteFault_2 (fun H locs hP hD hS => ?_)
  have hP : va_P D vwCl (wX xo xh t ta cI cC cH ga gd (upG F 7 0 a) T Gs) H := hP
  have hD : va_D A (wX xo xh t ta cI cC cH ga gd (upG F 7 0 a) T Gs) := hD
  refine lv_aload_n hx hb dX2_noteFault_5 rfl (lv_at hl 0 rfl) ?_
  refine lv_iload_n hx hb dX2_noteFault_6 rfl (lv_at hl 2 rfl) ?_
  refine va_put (D := D) (ci := 2) (v := .int (iI b)) (ty := .int) (C := RX2) (T := TX2) (N := 10) hx hb hq inA2 tyX2 tyX2_ok nmX2 hown hK hP hD hS 0 rfl rfl 8 (by decide) (hq _ q_316) (fun _ h9 => h9) rfl (by decide +kernel) rfl rfl (Nat.le_of_ble_eq_true rfl) dX2_noteFault_7 (fun H locs hP hD hS => ?_)
  have hP : va_P D vwCl (wX xo xh t ta cI cC cH ga gd (upG (upG F 7 0 a) 8 0 b) T Gs) H := hP
  have hD : va_D A (wX xo xh t ta cI cC cH ga gd (upG (upG F 7 0 a) 8 0 b) T Gs) := hD
  refine lv_aload_n hx hb dX2_noteFault_10 rfl (lv_at hl 0 rfl) ?_
  refine lv_iload_n hx hb dX2_noteFault_11 rfl (lv_at hl 3 rfl) ?_
  refine va_put (D := D) (ci := 2) (v := .int (iI d)) (ty := .int) (C := RX2) (T := TX2) (N := 10) hx hb hq inA2 tyX2 tyX2_ok nmX2 hown hK hP hD hS 0 rfl rfl 9 (by decide) (hq _ q_317) (fun _ h9 => h9) rfl (by decide +kernel) rfl rfl (Nat.le_of_ble_eq_true rfl) dX2_noteFault_12 (fun H locs hP hD hS => ?_)
  have hP : va_P D vwCl (wX xo xh t ta cI cC cH ga gd (upG (upG (upG F 7 0 a) 8 0 b) 9 0 d) T Gs) H := hP
  have hD : va_D A (wX xo xh t ta cI cC cH ga gd (upG (upG (upG F 7 0 a) 8 0 b) 9 0 d) T Gs) := hD
  refine z_iconst hx hb dX2_noteFault_15 ?_
  first | exact hret _ _ _ _ dX2_noteFault_16 hP hD hS | (exfalso; omega)
set_option maxHeartbeats 4000000 in
set_option maxRecDepth 100000 in
theorem m_X2_count (l : Launch) (D : va_G) (xo xh t : Nat) (ta : Nat → Nat) (cI cC cH : ClassId) (ga : Nat → Nat) (gd : Nat → Nat → Nat) (F T : Nat → Int → Int) (Gs : Nat → Nat → Int → Int) (w : Int) {B : Int} (hI : InvG B (Gs 0)) (h_w : -2147483648 ≤ w ∧ w < 2147483648)  : MW l D yX2_count (wsY yX2_count cX2_count 2 (some .int)) { frames := 5, cells := 0, slots := 0, locals := 112 } [(cI, .int), (cC, .char), (cH, .object RX0)] [.ref xo, .int (iI w)] (wX xo xh t ta cI cC cH ga gd F T Gs) (wX xo xh t ta cI cC cH ga gd F T Gs) (some (.int (iI (if w = 15 then F 4 0 else if w = 16 then T 1 0 else tallyV (Gs 0) w)))) := by
  refine mw_ofI (cc := cX2_count) (maxL := 2) (by decide) rfl (Nat.le_of_ble_eq_true rfl) ?_
  intro p e s m below meth c R A Q args ls hx hb hml hown hts hRf hRl hRc hRs hN hK hP hD hS hA hret hl
  have hq : ∀ w ∈ ALL, w.before args s = true := fun w h => hts w (List.mem_cons_of_mem _ h)
  have hl : lv_has ls 2 [(0, .ref xo), (1, .int (iI w))] := hl
  refine lv_iload_n hx hb dX2_count_0 rfl (lv_at hl 1 rfl) ?_
  have c_1 : (w ≠ 15 ∧ w ≠ 16) ∨ (w = 15 ∨ w = 16) := by omega
  rcases c_1 with c_1 | c_1 | c_1
  · refine lv_lookup (tgt := 41) (off := 40) hx hb dX2_count_1 (by decide) (by rw [iI_t (by omega)]; show (if (15 : Int) = w then (27 : Int) else (if (16 : Int) = w then (32 : Int) else 40)) = 40; omega) (by decide) ?_
    refine lv_aload_n hx hb dX2_count_41 rfl (lv_at hl 0 rfl) ?_
    refine va_get (D := D) (ci := 2) (v := .ref (ga 0)) (C := RX2) (T := TX2) (N := 10) hx hb hq inA2 hown hK hP 0 rfl rfl 0 (by decide) (hq _ q_204) (fun _ h9 => h9) rfl dX2_count_42 ?_
    refine lv_iload_n hx hb dX2_count_45 rfl (lv_at hl 1 rfl) ?_
    refine mw_grR (ga := ga) (gd := gd) (T := T) (Gs := Gs) (st1 := [.int (iI (tallyV (Gs 0) w))]) 0 (by decide) (mr_V (As := [.int (iI w)]) (rest := []) (ci := 0) (q0 := 0) ⟨hx, hb, hml, hown, hts⟩ (m_X0_tally l D (ga 0) (gd 0) cI (Gs 0) w hI (by omega)) (cwV 1 hts (gV q_301 q_302 q_303 q_8 q_150) rfl rfl rfl (by decide +kernel) ⟨Nat.le_trans (m := 5) (Nat.le_of_ble_eq_true rfl) (Nat.le_trans (Nat.le_of_ble_eq_true rfl) hRf), Nat.le_trans (m := 112) (Nat.le_of_ble_eq_true rfl) (Nat.le_trans (Nat.le_of_ble_eq_true rfl) hRl)⟩) hN (hK.sub (tys' := [(cI, .int)]) [0] rfl) (x_Pg (ga := ga) (gd := gd) (T := T) (Gs := Gs) 0 (by decide) hP) (x_Dg (ga := ga) (gd := gd) (T := T) (Gs := Gs) 0 (by decide) hD) rfl rfl rfl hl.1 (Nat.le_of_ble_eq_true rfl) ⟨hRc, hRs⟩ dX2_count_46) hP hD hS hA rfl (fun H locs hP hD hS => ?_)
    refine z_as (show (tallyV (Gs 0) w) = (if w = 15 then F 4 0 else if w = 16 then T 1 0 else tallyV (Gs 0) w) from by (first | (subst_vars; rfl) | (rw [if_neg (by omega), if_neg (by omega)]) | (rw [if_pos (by omega)]) | (rw [if_neg (by omega), if_pos (by omega)]))) ?_
    first | exact hret _ _ _ _ dX2_count_49 hP hD hS | (exfalso; omega)
  · refine lv_lookup (tgt := 28) (off := 27) hx hb dX2_count_1 (by decide) (by rw [iI_t (by omega), c_1]; rfl) (by decide) ?_
    refine lv_aload_n hx hb dX2_count_28 rfl (lv_at hl 0 rfl) ?_
    refine va_get (D := D) (ci := 2) (v := .int (iI (F 4 0))) (C := RX2) (T := TX2) (N := 10) hx hb hq inA2 hown hK hP 0 rfl rfl 4 (by decide) (hq _ q_215) (fun _ h9 => h9) rfl dX2_count_29 ?_
    refine z_as (show (F 4 0) = (if w = 15 then F 4 0 else if w = 16 then T 1 0 else tallyV (Gs 0) w) from by (first | (subst_vars; rfl) | (rw [if_neg (by omega), if_neg (by omega)]) | (rw [if_pos (by omega)]) | (rw [if_neg (by omega), if_pos (by omega)]))) ?_
    first | exact hret _ _ _ _ dX2_count_32 hP hD hS | (exfalso; omega)
  · refine lv_lookup (tgt := 33) (off := 32) hx hb dX2_count_1 (by decide) (by rw [iI_t (by omega), c_1]; rfl) (by decide) ?_
    refine lv_aload_n hx hb dX2_count_33 rfl (lv_at hl 0 rfl) ?_
    refine va_get (D := D) (ci := 2) (v := .ref t) (C := RX2) (T := TX2) (N := 10) hx hb hq inA2 hown hK hP 0 rfl rfl 5 (by decide) (hq _ q_210) (fun _ h9 => h9) rfl dX2_count_34 ?_
    refine mw_tx (st1 := [.int (iI (T 1 0))]) (ga := ga) (gd := gd) (T := T) (Gs := Gs) (X := T) (mr_V (As := []) (rest := []) (ci := 1) (q0 := 0) ⟨hx, hb, hml, hown, hts⟩ (m_X1_size l D t ta cI cC T) (cwV 0 hts (gV q_298 q_299 q_300 q_173 q_160) rfl rfl rfl (by decide +kernel) ⟨Nat.le_trans (m := 1) (Nat.le_of_ble_eq_true rfl) (Nat.le_trans (Nat.le_of_ble_eq_true rfl) hRf), Nat.le_trans (m := 20) (Nat.le_of_ble_eq_true rfl) (Nat.le_trans (Nat.le_of_ble_eq_true rfl) hRl)⟩) hN (hK.sub (tys' := [(cI, .int), (cC, .char)]) [0, 1] rfl) (x_Pt (ga := ga) (gd := gd) (T := T) (Gs := Gs) hP) (x_Dt (ga := ga) (gd := gd) (T := T) (Gs := Gs) hD) rfl rfl rfl hl.1 (Nat.le_of_ble_eq_true rfl) ⟨hRc, hRs⟩ dX2_count_37) hP hD hS hA rfl (fun H locs hP hD hS => ?_)
    refine z_as (show (T 1 0) = (if w = 15 then F 4 0 else if w = 16 then T 1 0 else tallyV (Gs 0) w) from by (first | (subst_vars; rfl) | (rw [if_neg (by omega), if_neg (by omega)]) | (rw [if_pos (by omega)]) | (rw [if_neg (by omega), if_pos (by omega)]))) ?_
    first | exact hret _ _ _ _ dX2_count_40 hP hD hS | (exfalso; omega)
