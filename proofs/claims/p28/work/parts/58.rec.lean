set_option maxHeartbeats 4000000 in
set_option maxRecDepth 100000 in
theorem m_X2_dropOldest (l : Launch) (D : va_G) (xo xh t : Nat) (ta : Nat → Nat) (cI cC cH : ClassId) (ga : Nat → Nat) (gd : Nat → Nat → Nat) (F T : Nat → Int → Int) (Gs : Nat → Nat → Int → Int)  : MW l D yX2_dropOldest (wsY yX2_dropOldest cX2_dropOldest 3 none) { frames := 0, cells := 0, slots := 0, locals := 0 } [(cI, .int), (cC, .char), (cH, .object RX0)] [.ref xo] (wX xo xh t ta cI cC cH ga gd F T Gs) (wX xo xh t ta cI cC cH (rotS ga) (rotS gd) (upG F 4 0 3) T (rotS Gs)) none := by
  refine mw_ofV (cc := cX2_dropOldest) (maxL := 3) (by decide) rfl (Nat.le_of_ble_eq_true rfl) ?_
  intro p e s m below meth c R A Q args ls hx hb hml hown hts hRf hRl hRc hRs hN hK hP hD hS hA hret hl
  have hq : ∀ w ∈ ALL, w.before args s = true := fun w h => hts w (List.mem_cons_of_mem _ h)
  have hl : lv_has ls 3 [(0, .ref xo)] := hl
  refine lv_aload_n hx hb dX2_dropOldest_0 rfl (lv_at hl 0 rfl) ?_
  refine va_get (D := D) (ci := 2) (v := .ref xh) (C := RX2) (T := TX2) (N := 10) hx hb hq inA2 hown hK hP 0 rfl rfl 3 (by decide) (hq _ q_207) (fun _ h9 => h9) rfl dX2_dropOldest_1 ?_
  refine z_iconst hx hb dX2_dropOldest_4 ?_
  refine x_aald (t0 := 2) (k := 0) (v := (ga 3)) hx hb hK hP rfl (by omega) (by omega) rfl dX2_dropOldest_5 ?_
  refine lv_astore_n (lv' := [(1, .ref (ga 3)), (0, .ref xo)]) hx hb dX2_dropOldest_6 rfl hl (by decide) rfl (fun ls hl => ?_)
  refine z_iconst hx hb dX2_dropOldest_7 ?_
  refine lv_istore_n (lv' := [(2, .int (iI 1)), (1, .ref (ga 3)), (0, .ref xo)]) hx hb dX2_dropOldest_8 rfl hl (by decide) rfl (fun ls hl => ?_)
  refine lv_iload_n hx hb dX2_dropOldest_9 rfl (lv_at hl 0 rfl) ?_
  refine z_iconst hx hb dX2_dropOldest_10 ?_
  refine z_icmp_ge (tgt := 34) hx hb dX2_dropOldest_11 (by decide) (by omega) (by omega) (fun c_1 => absurd c_1 (by omega)) (fun c_1 => ?_)
  refine lv_aload_n hx hb dX2_dropOldest_14 rfl (lv_at hl 2 rfl) ?_
  refine va_get (D := D) (ci := 2) (v := .ref xh) (C := RX2) (T := TX2) (N := 10) hx hb hq inA2 hown hK hP 0 rfl rfl 3 (by decide) (hq _ q_207) (fun _ h9 => h9) rfl dX2_dropOldest_15 ?_
  refine lv_iload_n hx hb dX2_dropOldest_18 rfl (lv_at hl 0 rfl) ?_
  refine z_iconst hx hb dX2_dropOldest_19 ?_
  refine z_isub hx hb dX2_dropOldest_20 ?_
  refine z_as (show ((1 - 1) : Int) = 0 from rfl) ?_
  refine lv_aload_n hx hb dX2_dropOldest_21 rfl (lv_at hl 2 rfl) ?_
  refine va_get (D := D) (ci := 2) (v := .ref xh) (C := RX2) (T := TX2) (N := 10) hx hb hq inA2 hown hK hP 0 rfl rfl 3 (by decide) (hq _ q_207) (fun _ h9 => h9) rfl dX2_dropOldest_22 ?_
  refine lv_iload_n hx hb dX2_dropOldest_25 rfl (lv_at hl 0 rfl) ?_
  refine x_aald (t0 := 2) (k := 1) (v := (ga 4)) hx hb hK hP rfl (by omega) (by omega) rfl dX2_dropOldest_26 ?_
  obtain ⟨vs27, hm27⟩ := x_mem (t := t) (ta := ta) (cI := cI) (cC := cC) (ga := ga) (gd := gd) (T := T) (Gs := Gs) 4 (by omega)
  refine x_aast (t0 := 2) (k := 0) (v := (ga 4)) hx hb hK hP hD hS rfl (by omega) (by omega) hm27 dX2_dropOldest_27 (fun H locs hP hD hS => ?_)
  refine lv_iinc (v := iI 2) (lv' := [(2, .int (iI 2)), (1, .ref (ga 3)), (0, .ref xo)]) hx hb dX2_dropOldest_28 hl (k := 0) rfl (by decide +kernel) (by decide) rfl (fun ls hl => ?_)
  refine lv_goto (tgt := 9) hx hb dX2_dropOldest_31 (by decide) ?_
  refine lv_iload_n hx hb dX2_dropOldest_9 rfl (lv_at hl 0 rfl) ?_
  refine z_iconst hx hb dX2_dropOldest_10 ?_
  refine z_icmp_ge (tgt := 34) hx hb dX2_dropOldest_11 (by decide) (by omega) (by omega) (fun c_2 => absurd c_2 (by omega)) (fun c_2 => ?_)
  refine lv_aload_n hx hb dX2_dropOldest_14 rfl (lv_at hl 2 rfl) ?_
  refine va_get (D := D) (ci := 2) (v := .ref xh) (C := RX2) (T := TX2) (N := 10) hx hb hq inA2 hown hK hP 0 rfl rfl 3 (by decide) (hq _ q_207) (fun _ h9 => h9) rfl dX2_dropOldest_15 ?_
  refine lv_iload_n hx hb dX2_dropOldest_18 rfl (lv_at hl 0 rfl) ?_
  refine z_iconst hx hb dX2_dropOldest_19 ?_
  refine z_isub hx hb dX2_dropOldest_20 ?_
  refine z_as (show ((2 - 1) : Int) = 1 from rfl) ?_
  refine lv_aload_n hx hb dX2_dropOldest_21 rfl (lv_at hl 2 rfl) ?_
  refine va_get (D := D) (ci := 2) (v := .ref xh) (C := RX2) (T := TX2) (N := 10) hx hb hq inA2 hown hK hP 0 rfl rfl 3 (by decide) (hq _ q_207) (fun _ h9 => h9) rfl dX2_dropOldest_22 ?_
  refine lv_iload_n hx hb dX2_dropOldest_25 rfl (lv_at hl 0 rfl) ?_
  refine x_aald (t0 := 2) (k := 2) (v := (ga 5)) hx hb hK hP rfl (by omega) (by omega) rfl dX2_dropOldest_26 ?_
  obtain ⟨vs27, hm27⟩ := x_mem (t := t) (ta := ta) (cI := cI) (cC := cC) (ga := ga) (gd := gd) (T := T) (Gs := Gs) 5 (by omega)
  refine x_aast (t0 := 2) (k := 1) (v := (ga 5)) hx hb hK hP hD hS rfl (by omega) (by omega) hm27 dX2_dropOldest_27 (fun H locs hP hD hS => ?_)
  refine lv_iinc (v := iI 3) (lv' := [(2, .int (iI 3)), (1, .ref (ga 3)), (0, .ref xo)]) hx hb dX2_dropOldest_28 hl (k := 0) rfl (by decide +kernel) (by decide) rfl (fun ls hl => ?_)
  refine lv_goto (tgt := 9) hx hb dX2_dropOldest_31 (by decide) ?_
  refine lv_iload_n hx hb dX2_dropOldest_9 rfl (lv_at hl 0 rfl) ?_
  refine z_iconst hx hb dX2_dropOldest_10 ?_
  refine z_icmp_ge (tgt := 34) hx hb dX2_dropOldest_11 (by decide) (by omega) (by omega) (fun c_3 => absurd c_3 (by omega)) (fun c_3 => ?_)
  refine lv_aload_n hx hb dX2_dropOldest_14 rfl (lv_at hl 2 rfl) ?_
  refine va_get (D := D) (ci := 2) (v := .ref xh) (C := RX2) (T := TX2) (N := 10) hx hb hq inA2 hown hK hP 0 rfl rfl 3 (by decide) (hq _ q_207) (fun _ h9 => h9) rfl dX2_dropOldest_15 ?_
  refine lv_iload_n hx hb dX2_dropOldest_18 rfl (lv_at hl 0 rfl) ?_
  refine z_iconst hx hb dX2_dropOldest_19 ?_
  refine z_isub hx hb dX2_dropOldest_20 ?_
  refine z_as (show ((3 - 1) : Int) = 2 from rfl) ?_
  refine lv_aload_n hx hb dX2_dropOldest_21 rfl (lv_at hl 2 rfl) ?_
  refine va_get (D := D) (ci := 2) (v := .ref xh) (C := RX2) (T := TX2) (N := 10) hx hb hq inA2 hown hK hP 0 rfl rfl 3 (by decide) (hq _ q_207) (fun _ h9 => h9) rfl dX2_dropOldest_22 ?_
  refine lv_iload_n hx hb dX2_dropOldest_25 rfl (lv_at hl 0 rfl) ?_
  refine x_aald (t0 := 2) (k := 3) (v := (ga 6)) hx hb hK hP rfl (by omega) (by omega) rfl dX2_dropOldest_26 ?_
  obtain ⟨vs27, hm27⟩ := x_mem (t := t) (ta := ta) (cI := cI) (cC := cC) (ga := ga) (gd := gd) (T := T) (Gs := Gs) 6 (by omega)
  refine x_aast (t0 := 2) (k := 2) (v := (ga 6)) hx hb hK hP hD hS rfl (by omega) (by omega) hm27 dX2_dropOldest_27 (fun H locs hP hD hS => ?_)
  refine lv_iinc (v := iI 4) (lv' := [(2, .int (iI 4)), (1, .ref (ga 3)), (0, .ref xo)]) hx hb dX2_dropOldest_28 hl (k := 0) rfl (by decide +kernel) (by decide) rfl (fun ls hl => ?_)
  refine lv_goto (tgt := 9) hx hb dX2_dropOldest_31 (by decide) ?_
  refine lv_iload_n hx hb dX2_dropOldest_9 rfl (lv_at hl 0 rfl) ?_
  refine z_iconst hx hb dX2_dropOldest_10 ?_
  refine z_icmp_ge (tgt := 34) hx hb dX2_dropOldest_11 (by decide) (by omega) (by omega) (fun c_4 => ?_) (fun c_4 => absurd c_4 (by omega))
  refine lv_aload_n hx hb dX2_dropOldest_34 rfl (lv_at hl 2 rfl) ?_
  refine va_get (D := D) (ci := 2) (v := .ref xh) (C := RX2) (T := TX2) (N := 10) hx hb hq inA2 hown hK hP 0 rfl rfl 3 (by decide) (hq _ q_207) (fun _ h9 => h9) rfl dX2_dropOldest_35 ?_
  refine z_iconst hx hb dX2_dropOldest_38 ?_
  refine lv_aload_n hx hb dX2_dropOldest_39 rfl (lv_at hl 1 rfl) ?_
  obtain ⟨vs40, hm40⟩ := x_mem (t := t) (ta := ta) (cI := cI) (cC := cC) (ga := ga) (gd := gd) (T := T) (Gs := Gs) 3 (by omega)
  refine x_aast (t0 := 2) (k := 3) (v := (ga 3)) hx hb hK hP hD hS rfl (by omega) (by omega) hm40 dX2_dropOldest_40 (fun H locs hP hD hS => ?_)
  refine lv_aload_n hx hb dX2_dropOldest_41 rfl (lv_at hl 2 rfl) ?_
  refine z_iconst hx hb dX2_dropOldest_42 ?_
  refine va_put (D := D) (ci := 2) (v := .int (iI 3)) (ty := .int) (C := RX2) (T := TX2) (N := 10) hx hb hq inA2 tyX2 tyX2_ok nmX2 hown hK hP hD hS 0 rfl rfl 4 (by decide) (hq _ q_215) (fun _ h9 => h9) rfl (by decide +kernel) rfl rfl (Nat.le_of_ble_eq_true rfl) dX2_dropOldest_43 (fun H locs hP hD hS => ?_)
  have hP : va_P D vwCl (wD xo xh cH (ga 0) (ga 1) (ga 2) (va_up (va_up (va_up (va_up (hfO ga) 0 (some (ga 4))) 1 (some (ga 5))) 2 (some (ga 6))) 3 (some (ga 3))) t (upG F 4 0 3) ++ wR 8 (blk t ta cI cC T ga gd Gs)) H := hP
  have hD : va_D A (wD xo xh cH (ga 0) (ga 1) (ga 2) (va_up (va_up (va_up (va_up (hfO ga) 0 (some (ga 4))) 1 (some (ga 5))) 2 (some (ga 6))) 3 (some (ga 3))) t (upG F 4 0 3) ++ wR 8 (blk t ta cI cC T ga gd Gs)) := hD
  exact hret _ _ _ _ dX2_dropOldest_46 (va_P_perm hP (wX_rot xo xh t ta cI cC cH ga gd (upG F 4 0 3) T Gs)) (va_D_perm hD (wX_rot xo xh t ta cI cC cH ga gd (upG F 4 0 3) T Gs)) hS
set_option maxHeartbeats 4000000 in
set_option maxRecDepth 100000 in
theorem m_X2_recorded_full (l : Launch) (D : va_G) (xo xh t : Nat) (ta : Nat → Nat) (cI cC cH : ClassId) (ga : Nat → Nat) (gd : Nat → Nat → Nat) (F T : Nat → Int → Int) (Gs : Nat → Nat → Int → Int) (v : Int) (h1 : 0 ≤ v ∧ v < 2147483648) (hk : F 4 0 = 4)  : MW l D yX2_recorded (wsY yX2_recorded cX2_recorded 3 (some .int)) { frames := 1, cells := 0, slots := 0, locals := 22 } [(cI, .int), (cC, .char), (cH, .object RX0)] [.ref xo, .int (iI v)] (wX xo xh t ta cI cC cH ga gd F T Gs) (wX xo xh t ta cI cC cH (swp 1 6 (rotS ga)) (swp 1 6 (rotS gd)) (upG F 4 0 4) T (swp 1 6 (rotS Gs))) (some (.int (iI v))) := by
  refine mw_ofI (cc := cX2_recorded) (maxL := 3) (by decide) rfl (Nat.le_of_ble_eq_true rfl) ?_
  intro p e s m below meth c R A Q args ls hx hb hml hown hts hRf hRl hRc hRs hN hK hP hD hS hA hret hl
  have hq : ∀ w ∈ ALL, w.before args s = true := fun w h => hts w (List.mem_cons_of_mem _ h)
  have hl : lv_has ls 3 [(0, .ref xo), (1, .int (iI v))] := hl
  refine lv_iload_n hx hb dX2_recorded_0 rfl (lv_at hl 1 rfl) ?_
  refine z_if_ge (tgt := 6) hx hb dX2_recorded_1 (by decide) (by omega) (fun c_1 => ?_) (fun c_1 => absurd c_1 (by omega))
  refine lv_aload_n hx hb dX2_recorded_6 rfl (lv_at hl 0 rfl) ?_
  refine va_get (D := D) (ci := 2) (v := .int (iI (F 4 0))) (C := RX2) (T := TX2) (N := 10) hx hb hq inA2 hown hK hP 0 rfl rfl 4 (by decide) (hq _ q_215) (fun _ h9 => h9) rfl dX2_recorded_7 ?_
  refine z_iconst hx hb dX2_recorded_10 ?_
  refine z_icmp_lt (tgt := 18) hx hb dX2_recorded_11 (by decide) (by omega) (by omega) (fun c_2 => absurd c_2 (by omega)) (fun c_2 => ?_)
  refine lv_aload_n hx hb dX2_recorded_14 rfl (lv_at hl 0 rfl) ?_
  refine mw_full (st1 := []) (mr_V (As := []) (rest := []) (ci := 2) (q0 := 0) ⟨hx, hb, hml, hown, hts⟩ (m_X2_dropOldest l D xo xh t ta cI cC cH ga gd F T Gs) (cwV 0 hts (gV q_217 q_218 q_219 q_37 q_216) rfl rfl rfl (by decide +kernel) ⟨Nat.le_trans (m := 1) (Nat.le_of_ble_eq_true rfl) (Nat.le_trans (Nat.le_of_ble_eq_true rfl) hRf), Nat.le_trans (m := 22) (Nat.le_of_ble_eq_true rfl) (Nat.le_trans (Nat.le_of_ble_eq_true rfl) hRl)⟩) hN hK hP hD rfl rfl rfl hl.1 (Nat.le_of_ble_eq_true rfl) ⟨hRc, hRs⟩ dX2_recorded_15) hD hS hA rfl (fun H locs hP hD hS => ?_)
  refine lv_aload_n hx hb dX2_recorded_18 rfl (lv_at hl 0 rfl) ?_
  refine va_get (D := D) (ci := 2) (v := .ref xh) (C := RX2) (T := TX2) (N := 10) hx hb hq inA2 hown hK hP 0 rfl rfl 3 (by decide) (hq _ q_207) (fun _ h9 => h9) rfl dX2_recorded_19 ?_
  refine lv_aload_n hx hb dX2_recorded_22 rfl (lv_at hl 0 rfl) ?_
  refine va_get (D := D) (ci := 2) (v := .int (iI 3)) (C := RX2) (T := TX2) (N := 10) hx hb hq inA2 hown hK hP 0 rfl rfl 4 (by decide) (hq _ q_215) (fun _ h9 => h9) rfl dX2_recorded_23 ?_
  refine x_aald (t0 := 2) (k := 3) (v := ((rotS ga) 6)) hx hb hK hP rfl (by omega) (by omega) rfl dX2_recorded_26 ?_
  refine lv_astore_n (lv' := [(2, .ref ((rotS ga) 6)), (0, .ref xo), (1, .int (iI v))]) hx hb dX2_recorded_27 rfl hl (by decide) rfl (fun ls hl => ?_)
  refine lv_aload_n hx hb dX2_recorded_28 rfl (lv_at hl 1 rfl) ?_
  refine va_get (D := D) (ci := 2) (v := .ref xh) (C := RX2) (T := TX2) (N := 10) hx hb hq inA2 hown hK hP 0 rfl rfl 3 (by decide) (hq _ q_207) (fun _ h9 => h9) rfl dX2_recorded_29 ?_
  refine lv_aload_n hx hb dX2_recorded_32 rfl (lv_at hl 1 rfl) ?_
  refine va_get (D := D) (ci := 2) (v := .int (iI 3)) (C := RX2) (T := TX2) (N := 10) hx hb hq inA2 hown hK hP 0 rfl rfl 4 (by decide) (hq _ q_215) (fun _ h9 => h9) rfl dX2_recorded_33 ?_
  refine lv_aload_n hx hb dX2_recorded_36 rfl (lv_at hl 1 rfl) ?_
  refine va_get (D := D) (ci := 2) (v := .ref ((rotS ga) 1)) (C := RX2) (T := TX2) (N := 10) hx hb hq inA2 hown hK hP 0 rfl rfl 1 (by decide) (hq _ q_205) (fun _ h9 => h9) rfl dX2_recorded_37 ?_
  obtain ⟨vs40, hm40⟩ := x_mem (t := t) (ta := ta) (cI := cI) (cC := cC) (ga := (rotS ga)) (gd := (rotS gd)) (T := T) (Gs := (rotS Gs)) 1 (by omega)
  refine x_aast (t0 := 2) (k := 3) (v := ((rotS ga) 1)) hx hb hK hP hD hS rfl (by omega) (by omega) hm40 dX2_recorded_40 (fun H locs hP hD hS => ?_)
  refine lv_aload_n hx hb dX2_recorded_41 rfl (lv_at hl 1 rfl) ?_
  refine lv_aload_n hx hb dX2_recorded_42 rfl (lv_at hl 0 rfl) ?_
  refine va_put (D := D) (ci := 2) (v := .ref ((rotS ga) 6)) (ty := (.object RX0)) (C := RX2) (T := TX2) (N := 10) hx hb hq inA2 tyX2 tyX2_ok nmX2 hown hK hP hD hS 0 rfl rfl 1 (by decide) (hq _ q_205) (fun _ h9 => h9) rfl (by decide +kernel) rfl rfl (Nat.le_of_ble_eq_true rfl) dX2_recorded_43 (fun H locs hP hD hS => ?_)
  have hP : va_P D vwCl (wD xo xh cH ((rotS ga) 0) ((rotS ga) 6) ((rotS ga) 2) (va_up (hfO (rotS ga)) 3 (some ((rotS ga) 1))) t (upG F 4 0 3) ++ wR 8 (blk t ta cI cC T (rotS ga) (rotS gd) (rotS Gs))) H := hP
  have hD : va_D A (wD xo xh cH ((rotS ga) 0) ((rotS ga) 6) ((rotS ga) 2) (va_up (hfO (rotS ga)) 3 (some ((rotS ga) 1))) t (upG F 4 0 3) ++ wR 8 (blk t ta cI cC T (rotS ga) (rotS gd) (rotS Gs))) := hD
  refine lv_aload_n hx hb dX2_recorded_46 rfl (lv_at hl 1 rfl) ?_
  refine lv_dup hx hb dX2_recorded_47 rfl ?_
  refine va_get (D := D) (ci := 2) (v := .int (iI 3)) (C := RX2) (T := TX2) (N := 10) hx hb hq inA2 hown hK hP 0 rfl rfl 4 (by decide) (hq _ q_215) (fun _ h9 => h9) rfl dX2_recorded_48 ?_
  refine z_iconst hx hb dX2_recorded_51 ?_
  refine z_iadd hx hb dX2_recorded_52 ?_
  refine z_as (show ((3 + 1) : Int) = 4 from rfl) ?_
  refine va_put (D := D) (ci := 2) (v := .int (iI 4)) (ty := .int) (C := RX2) (T := TX2) (N := 10) hx hb hq inA2 tyX2 tyX2_ok nmX2 hown hK hP hD hS 0 rfl rfl 4 (by decide) (hq _ q_215) (fun _ h9 => h9) rfl (by decide +kernel) rfl rfl (Nat.le_of_ble_eq_true rfl) dX2_recorded_53 (fun H locs hP hD hS => ?_)
  have hP : va_P D vwCl (wD xo xh cH ((rotS ga) 0) ((rotS ga) 6) ((rotS ga) 2) (va_up (hfO (rotS ga)) 3 (some ((rotS ga) 1))) t (upG F 4 0 4) ++ wR 8 (blk t ta cI cC T (rotS ga) (rotS gd) (rotS Gs))) H := hP
  have hD : va_D A (wD xo xh cH ((rotS ga) 0) ((rotS ga) 6) ((rotS ga) 2) (va_up (hfO (rotS ga)) 3 (some ((rotS ga) 1))) t (upG F 4 0 4) ++ wR 8 (blk t ta cI cC T (rotS ga) (rotS gd) (rotS Gs))) := hD
  refine lv_iload_n hx hb dX2_recorded_56 rfl (lv_at hl 2 rfl) ?_
  exact hret _ _ _ _ dX2_recorded_57 (va_P_perm hP (wX_swp1 xo xh t ta cI cC cH (rotS ga) (rotS gd) (upG F 4 0 4) T (rotS Gs) 3 (by omega))) (va_D_perm hD (wX_swp1 xo xh t ta cI cC cH (rotS ga) (rotS gd) (upG F 4 0 4) T (rotS Gs) 3 (by omega))) hS
set_option maxHeartbeats 4000000 in
set_option maxRecDepth 100000 in
theorem m_X2_recorded_lt (l : Launch) (D : va_G) (xo xh t : Nat) (ta : Nat → Nat) (cI cC cH : ClassId) (ga : Nat → Nat) (gd : Nat → Nat → Nat) (F T : Nat → Int → Int) (Gs : Nat → Nat → Int → Int) (v : Int) (h1 : 0 ≤ v ∧ v < 2147483648) (hk : 0 ≤ F 4 0 ∧ F 4 0 < 4)  : MW l D yX2_recorded (wsY yX2_recorded cX2_recorded 3 (some .int)) { frames := 1, cells := 0, slots := 0, locals := 22 } [(cI, .int), (cC, .char), (cH, .object RX0)] [.ref xo, .int (iI v)] (wX xo xh t ta cI cC cH ga gd F T Gs) (wX xo xh t ta cI cC cH (swp 1 (3 + (F 4 0).toNat) ga) (swp 1 (3 + (F 4 0).toNat) gd) (upG F 4 0 (F 4 0 + 1)) T (swp 1 (3 + (F 4 0).toNat) Gs)) (some (.int (iI v))) := by
  refine mw_ofI (cc := cX2_recorded) (maxL := 3) (by decide) rfl (Nat.le_of_ble_eq_true rfl) ?_
  intro p e s m below meth c R A Q args ls hx hb hml hown hts hRf hRl hRc hRs hN hK hP hD hS hA hret hl
  have hq : ∀ w ∈ ALL, w.before args s = true := fun w h => hts w (List.mem_cons_of_mem _ h)
  have hl : lv_has ls 3 [(0, .ref xo), (1, .int (iI v))] := hl
  refine lv_iload_n hx hb dX2_recorded_0 rfl (lv_at hl 1 rfl) ?_
  refine z_if_ge (tgt := 6) hx hb dX2_recorded_1 (by decide) (by omega) (fun c_1 => ?_) (fun c_1 => absurd c_1 (by omega))
  refine lv_aload_n hx hb dX2_recorded_6 rfl (lv_at hl 0 rfl) ?_
  refine va_get (D := D) (ci := 2) (v := .int (iI (F 4 0))) (C := RX2) (T := TX2) (N := 10) hx hb hq inA2 hown hK hP 0 rfl rfl 4 (by decide) (hq _ q_215) (fun _ h9 => h9) rfl dX2_recorded_7 ?_
  refine z_iconst hx hb dX2_recorded_10 ?_
  refine z_icmp_lt (tgt := 18) hx hb dX2_recorded_11 (by decide) (by omega) (by omega) (fun c_2 => ?_) (fun c_2 => absurd c_2 (by omega))
  refine lv_aload_n hx hb dX2_recorded_18 rfl (lv_at hl 0 rfl) ?_
  refine va_get (D := D) (ci := 2) (v := .ref xh) (C := RX2) (T := TX2) (N := 10) hx hb hq inA2 hown hK hP 0 rfl rfl 3 (by decide) (hq _ q_207) (fun _ h9 => h9) rfl dX2_recorded_19 ?_
  refine lv_aload_n hx hb dX2_recorded_22 rfl (lv_at hl 0 rfl) ?_
  refine va_get (D := D) (ci := 2) (v := .int (iI (F 4 0))) (C := RX2) (T := TX2) (N := 10) hx hb hq inA2 hown hK hP 0 rfl rfl 4 (by decide) (hq _ q_215) (fun _ h9 => h9) rfl dX2_recorded_23 ?_
  refine x_aald (t0 := 2) (k := (F 4 0).toNat) (v := (ga (3 + (F 4 0).toNat))) hx hb hK hP rfl (by omega) (by omega) rfl dX2_recorded_26 ?_
  refine lv_astore_n (lv' := [(2, .ref (ga (3 + (F 4 0).toNat))), (0, .ref xo), (1, .int (iI v))]) hx hb dX2_recorded_27 rfl hl (by decide) rfl (fun ls hl => ?_)
  refine lv_aload_n hx hb dX2_recorded_28 rfl (lv_at hl 1 rfl) ?_
  refine va_get (D := D) (ci := 2) (v := .ref xh) (C := RX2) (T := TX2) (N := 10) hx hb hq inA2 hown hK hP 0 rfl rfl 3 (by decide) (hq _ q_207) (fun _ h9 => h9) rfl dX2_recorded_29 ?_
  refine lv_aload_n hx hb dX2_recorded_32 rfl (lv_at hl 1 rfl) ?_
  refine va_get (D := D) (ci := 2) (v := .int (iI (F 4 0))) (C := RX2) (T := TX2) (N := 10) hx hb hq inA2 hown hK hP 0 rfl rfl 4 (by decide) (hq _ q_215) (fun _ h9 => h9) rfl dX2_recorded_33 ?_
  refine lv_aload_n hx hb dX2_recorded_36 rfl (lv_at hl 1 rfl) ?_
  refine va_get (D := D) (ci := 2) (v := .ref (ga 1)) (C := RX2) (T := TX2) (N := 10) hx hb hq inA2 hown hK hP 0 rfl rfl 1 (by decide) (hq _ q_205) (fun _ h9 => h9) rfl dX2_recorded_37 ?_
  obtain ⟨vs40, hm40⟩ := x_mem (t := t) (ta := ta) (cI := cI) (cC := cC) (ga := ga) (gd := gd) (T := T) (Gs := Gs) 1 (by omega)
  refine x_aast (t0 := 2) (k := (F 4 0).toNat) (v := (ga 1)) hx hb hK hP hD hS rfl (by omega) (by omega) hm40 dX2_recorded_40 (fun H locs hP hD hS => ?_)
  refine lv_aload_n hx hb dX2_recorded_41 rfl (lv_at hl 1 rfl) ?_
  refine lv_aload_n hx hb dX2_recorded_42 rfl (lv_at hl 0 rfl) ?_
  refine va_put (D := D) (ci := 2) (v := .ref (ga (3 + (F 4 0).toNat))) (ty := (.object RX0)) (C := RX2) (T := TX2) (N := 10) hx hb hq inA2 tyX2 tyX2_ok nmX2 hown hK hP hD hS 0 rfl rfl 1 (by decide) (hq _ q_205) (fun _ h9 => h9) rfl (by decide +kernel) rfl rfl (Nat.le_of_ble_eq_true rfl) dX2_recorded_43 (fun H locs hP hD hS => ?_)
  have hP : va_P D vwCl (wD xo xh cH (ga 0) (ga (3 + (F 4 0).toNat)) (ga 2) (va_up (hfO ga) ((F 4 0).toNat) (some (ga 1))) t F ++ wR 8 (blk t ta cI cC T ga gd Gs)) H := hP
  have hD : va_D A (wD xo xh cH (ga 0) (ga (3 + (F 4 0).toNat)) (ga 2) (va_up (hfO ga) ((F 4 0).toNat) (some (ga 1))) t F ++ wR 8 (blk t ta cI cC T ga gd Gs)) := hD
  refine lv_aload_n hx hb dX2_recorded_46 rfl (lv_at hl 1 rfl) ?_
  refine lv_dup hx hb dX2_recorded_47 rfl ?_
  refine va_get (D := D) (ci := 2) (v := .int (iI (F 4 0))) (C := RX2) (T := TX2) (N := 10) hx hb hq inA2 hown hK hP 0 rfl rfl 4 (by decide) (hq _ q_215) (fun _ h9 => h9) rfl dX2_recorded_48 ?_
  refine z_iconst hx hb dX2_recorded_51 ?_
  refine z_iadd hx hb dX2_recorded_52 ?_
  refine va_put (D := D) (ci := 2) (v := .int (iI ((F 4 0) + 1))) (ty := .int) (C := RX2) (T := TX2) (N := 10) hx hb hq inA2 tyX2 tyX2_ok nmX2 hown hK hP hD hS 0 rfl rfl 4 (by decide) (hq _ q_215) (fun _ h9 => h9) rfl (by decide +kernel) rfl rfl (Nat.le_of_ble_eq_true rfl) dX2_recorded_53 (fun H locs hP hD hS => ?_)
  have hP : va_P D vwCl (wD xo xh cH (ga 0) (ga (3 + (F 4 0).toNat)) (ga 2) (va_up (hfO ga) ((F 4 0).toNat) (some (ga 1))) t (upG F 4 0 ((F 4 0) + 1)) ++ wR 8 (blk t ta cI cC T ga gd Gs)) H := hP
  have hD : va_D A (wD xo xh cH (ga 0) (ga (3 + (F 4 0).toNat)) (ga 2) (va_up (hfO ga) ((F 4 0).toNat) (some (ga 1))) t (upG F 4 0 ((F 4 0) + 1)) ++ wR 8 (blk t ta cI cC T ga gd Gs)) := hD
  refine lv_iload_n hx hb dX2_recorded_56 rfl (lv_at hl 2 rfl) ?_
  exact hret _ _ _ _ dX2_recorded_57 (va_P_perm hP (wX_swp1 xo xh t ta cI cC cH ga gd (upG F 4 0 (F 4 0 + 1)) T Gs (F 4 0).toNat (by omega))) (va_D_perm hD (wX_swp1 xo xh t ta cI cC cH ga gd (upG F 4 0 (F 4 0 + 1)) T Gs (F 4 0).toNat (by omega))) hS
set_option maxHeartbeats 4000000 in
set_option maxRecDepth 100000 in
theorem m_X2_recorded_bad (l : Launch) (D : va_G) (xo xh t : Nat) (ta : Nat → Nat) (cI cC cH : ClassId) (ga : Nat → Nat) (gd : Nat → Nat → Nat) (F T : Nat → Int → Int) (Gs : Nat → Nat → Int → Int) (v : Int) (h1 : -2147483648 ≤ v ∧ v < 0)  : MW l D yX2_recorded (wsY yX2_recorded cX2_recorded 3 (some .int)) { frames := 1, cells := 0, slots := 0, locals := 22 } [(cI, .int), (cC, .char), (cH, .object RX0)] [.ref xo, .int (iI v)] (wX xo xh t ta cI cC cH ga gd F T Gs) (wX xo xh t ta cI cC cH ga gd F T Gs) (some (.int (iI v))) := by
  refine mw_ofI (cc := cX2_recorded) (maxL := 3) (by decide) rfl (Nat.le_of_ble_eq_true rfl) ?_
  intro p e s m below meth c R A Q args ls hx hb hml hown hts hRf hRl hRc hRs hN hK hP hD hS hA hret hl
  have hq : ∀ w ∈ ALL, w.before args s = true := fun w h => hts w (List.mem_cons_of_mem _ h)
  have hl : lv_has ls 3 [(0, .ref xo), (1, .int (iI v))] := hl
  refine lv_iload_n hx hb dX2_recorded_0 rfl (lv_at hl 1 rfl) ?_
  refine z_if_ge (tgt := 6) hx hb dX2_recorded_1 (by decide) (by omega) (fun c_1 => absurd c_1 (by omega)) (fun c_1 => ?_)
  refine lv_iload_n hx hb dX2_recorded_4 rfl (lv_at hl 1 rfl) ?_
  first | exact hret _ _ _ _ dX2_recorded_5 hP hD hS | (exfalso; omega)
set_option maxHeartbeats 4000000 in
set_option maxRecDepth 100000 in
theorem m_X2_undo (l : Launch) (D : va_G) (xo xh t : Nat) (ta : Nat → Nat) (cI cC cH : ClassId) (ga : Nat → Nat) (gd : Nat → Nat → Nat) (F T : Nat → Int → Int) (Gs : Nat → Nat → Int → Int) (hk : 1 ≤ F 4 0 ∧ F 4 0 ≤ 4)  : MW l D yX2_undo (wsY yX2_undo cX2_undo 2 (some .int)) { frames := 0, cells := 0, slots := 0, locals := 0 } [(cI, .int), (cC, .char), (cH, .object RX0)] [.ref xo] (wX xo xh t ta cI cC cH ga gd F T Gs) (wX xo xh t ta cI cC cH (swp 0 (3 + (F 4 0 - 1).toNat) ga) (swp 0 (3 + (F 4 0 - 1).toNat) gd) (upG F 4 0 (F 4 0 - 1)) T (swp 0 (3 + (F 4 0 - 1).toNat) Gs)) (some (.int (iI (F 4 0 - 1)))) := by
  refine mw_ofI (cc := cX2_undo) (maxL := 2) (by decide) rfl (Nat.le_of_ble_eq_true rfl) ?_
  intro p e s m below meth c R A Q args ls hx hb hml hown hts hRf hRl hRc hRs hN hK hP hD hS hA hret hl
  have hq : ∀ w ∈ ALL, w.before args s = true := fun w h => hts w (List.mem_cons_of_mem _ h)
  have hl : lv_has ls 2 [(0, .ref xo)] := hl
  refine lv_aload_n hx hb dX2_undo_0 rfl (lv_at hl 0 rfl) ?_
  refine va_get (D := D) (ci := 2) (v := .int (iI (F 4 0))) (C := RX2) (T := TX2) (N := 10) hx hb hq inA2 hown hK hP 0 rfl rfl 4 (by decide) (hq _ q_215) (fun _ h9 => h9) rfl dX2_undo_1 ?_
  refine z_if_le (tgt := 15) hx hb dX2_undo_4 (by decide) (by omega) (fun c_1 => absurd c_1 (by omega)) (fun c_1 => ?_)
  refine lv_aload_n hx hb dX2_undo_7 rfl (lv_at hl 0 rfl) ?_
  refine va_get (D := D) (ci := 2) (v := .int (iI (F 4 0))) (C := RX2) (T := TX2) (N := 10) hx hb hq inA2 hown hK hP 0 rfl rfl 4 (by decide) (hq _ q_215) (fun _ h9 => h9) rfl dX2_undo_8 ?_
  refine z_iconst hx hb dX2_undo_11 ?_
  refine z_icmp_le (tgt := 18) hx hb dX2_undo_12 (by decide) (by omega) (by omega) (fun c_2 => ?_) (fun c_2 => absurd c_2 (by omega))
  refine lv_aload_n hx hb dX2_undo_18 rfl (lv_at hl 0 rfl) ?_
  refine lv_dup hx hb dX2_undo_19 rfl ?_
  refine va_get (D := D) (ci := 2) (v := .int (iI (F 4 0))) (C := RX2) (T := TX2) (N := 10) hx hb hq inA2 hown hK hP 0 rfl rfl 4 (by decide) (hq _ q_215) (fun _ h9 => h9) rfl dX2_undo_20 ?_
  refine z_iconst hx hb dX2_undo_23 ?_
  refine z_isub hx hb dX2_undo_24 ?_
  refine va_put (D := D) (ci := 2) (v := .int (iI ((F 4 0) - 1))) (ty := .int) (C := RX2) (T := TX2) (N := 10) hx hb hq inA2 tyX2 tyX2_ok nmX2 hown hK hP hD hS 0 rfl rfl 4 (by decide) (hq _ q_215) (fun _ h9 => h9) rfl (by decide +kernel) rfl rfl (Nat.le_of_ble_eq_true rfl) dX2_undo_25 (fun H locs hP hD hS => ?_)
  have hP : va_P D vwCl (wX xo xh t ta cI cC cH ga gd (upG F 4 0 ((F 4 0) - 1)) T Gs) H := hP
  have hD : va_D A (wX xo xh t ta cI cC cH ga gd (upG F 4 0 ((F 4 0) - 1)) T Gs) := hD
  refine lv_aload_n hx hb dX2_undo_28 rfl (lv_at hl 0 rfl) ?_
  refine va_get (D := D) (ci := 2) (v := .ref (ga 0)) (C := RX2) (T := TX2) (N := 10) hx hb hq inA2 hown hK hP 0 rfl rfl 0 (by decide) (hq _ q_204) (fun _ h9 => h9) rfl dX2_undo_29 ?_
  refine lv_astore_n (lv' := [(1, .ref (ga 0)), (0, .ref xo)]) hx hb dX2_undo_32 rfl hl (by decide) rfl (fun ls hl => ?_)
  refine lv_aload_n hx hb dX2_undo_33 rfl (lv_at hl 1 rfl) ?_
  refine lv_aload_n hx hb dX2_undo_34 rfl (lv_at hl 1 rfl) ?_
  refine va_get (D := D) (ci := 2) (v := .ref xh) (C := RX2) (T := TX2) (N := 10) hx hb hq inA2 hown hK hP 0 rfl rfl 3 (by decide) (hq _ q_207) (fun _ h9 => h9) rfl dX2_undo_35 ?_
  refine lv_aload_n hx hb dX2_undo_38 rfl (lv_at hl 1 rfl) ?_
  refine va_get (D := D) (ci := 2) (v := .int (iI ((F 4 0) - 1))) (C := RX2) (T := TX2) (N := 10) hx hb hq inA2 hown hK hP 0 rfl rfl 4 (by decide) (hq _ q_215) (fun _ h9 => h9) rfl dX2_undo_39 ?_
  refine x_aald (t0 := 2) (k := (F 4 0 - 1).toNat) (v := (ga (3 + (F 4 0 - 1).toNat))) hx hb hK hP rfl (by omega) (by omega) rfl dX2_undo_42 ?_
  refine va_put (D := D) (ci := 2) (v := .ref (ga (3 + (F 4 0 - 1).toNat))) (ty := (.object RX0)) (C := RX2) (T := TX2) (N := 10) hx hb hq inA2 tyX2 tyX2_ok nmX2 hown hK hP hD hS 0 rfl rfl 0 (by decide) (hq _ q_204) (fun _ h9 => h9) rfl (by decide +kernel) rfl rfl (Nat.le_of_ble_eq_true rfl) dX2_undo_43 (fun H locs hP hD hS => ?_)
  have hP : va_P D vwCl (wD xo xh cH (ga (3 + (F 4 0 - 1).toNat)) (ga 1) (ga 2) (hfO ga) t (upG F 4 0 ((F 4 0) - 1)) ++ wR 8 (blk t ta cI cC T ga gd Gs)) H := hP
  have hD : va_D A (wD xo xh cH (ga (3 + (F 4 0 - 1).toNat)) (ga 1) (ga 2) (hfO ga) t (upG F 4 0 ((F 4 0) - 1)) ++ wR 8 (blk t ta cI cC T ga gd Gs)) := hD
  refine lv_aload_n hx hb dX2_undo_46 rfl (lv_at hl 1 rfl) ?_
  refine va_get (D := D) (ci := 2) (v := .ref xh) (C := RX2) (T := TX2) (N := 10) hx hb hq inA2 hown hK hP 0 rfl rfl 3 (by decide) (hq _ q_207) (fun _ h9 => h9) rfl dX2_undo_47 ?_
  refine lv_aload_n hx hb dX2_undo_50 rfl (lv_at hl 1 rfl) ?_
  refine va_get (D := D) (ci := 2) (v := .int (iI ((F 4 0) - 1))) (C := RX2) (T := TX2) (N := 10) hx hb hq inA2 hown hK hP 0 rfl rfl 4 (by decide) (hq _ q_215) (fun _ h9 => h9) rfl dX2_undo_51 ?_
  refine lv_aload_n hx hb dX2_undo_54 rfl (lv_at hl 0 rfl) ?_
  obtain ⟨vs55, hm55⟩ := x_mem (t := t) (ta := ta) (cI := cI) (cC := cC) (ga := ga) (gd := gd) (T := T) (Gs := Gs) 0 (by omega)
  refine x_aast (t0 := 2) (k := (F 4 0 - 1).toNat) (v := (ga 0)) hx hb hK hP hD hS rfl (by omega) (by omega) hm55 dX2_undo_55 (fun H locs hP hD hS => ?_)
  refine lv_aload_n hx hb dX2_undo_56 rfl (lv_at hl 1 rfl) ?_
  refine va_get (D := D) (ci := 2) (v := .int (iI ((F 4 0) - 1))) (C := RX2) (T := TX2) (N := 10) hx hb hq inA2 hown hK hP 0 rfl rfl 4 (by decide) (hq _ q_215) (fun _ h9 => h9) rfl dX2_undo_57 ?_
  refine z_as (show ((F 4 0) - 1) = (F 4 0 - 1) from by first | rfl | omega) ?_
  exact hret _ _ _ _ dX2_undo_60 (va_P_perm hP (wX_swp0 xo xh t ta cI cC cH ga gd (upG F 4 0 (F 4 0 - 1)) T Gs (F 4 0 - 1).toNat (by omega))) (va_D_perm hD (wX_swp0 xo xh t ta cI cC cH ga gd (upG F 4 0 (F 4 0 - 1)) T Gs (F 4 0 - 1).toNat (by omega))) hS
set_option maxHeartbeats 4000000 in
set_option maxRecDepth 100000 in
theorem m_X2_undo_no (l : Launch) (D : va_G) (xo xh t : Nat) (ta : Nat → Nat) (cI cC cH : ClassId) (ga : Nat → Nat) (gd : Nat → Nat → Nat) (F T : Nat → Int → Int) (Gs : Nat → Nat → Int → Int) (hk : F 4 0 = 0)  : MW l D yX2_undo (wsY yX2_undo cX2_undo 2 (some .int)) { frames := 0, cells := 0, slots := 0, locals := 0 } [(cI, .int), (cC, .char), (cH, .object RX0)] [.ref xo] (wX xo xh t ta cI cC cH ga gd F T Gs) (wX xo xh t ta cI cC cH ga gd F T Gs) (some (.int (iI (-1000002)))) := by
  refine mw_ofI (cc := cX2_undo) (maxL := 2) (by decide) rfl (Nat.le_of_ble_eq_true rfl) ?_
  intro p e s m below meth c R A Q args ls hx hb hml hown hts hRf hRl hRc hRs hN hK hP hD hS hA hret hl
  have hq : ∀ w ∈ ALL, w.before args s = true := fun w h => hts w (List.mem_cons_of_mem _ h)
  have hl : lv_has ls 2 [(0, .ref xo)] := hl
  refine lv_aload_n hx hb dX2_undo_0 rfl (lv_at hl 0 rfl) ?_
  refine va_get (D := D) (ci := 2) (v := .int (iI (F 4 0))) (C := RX2) (T := TX2) (N := 10) hx hb hq inA2 hown hK hP 0 rfl rfl 4 (by decide) (hq _ q_215) (fun _ h9 => h9) rfl dX2_undo_1 ?_
  refine z_if_le (tgt := 15) hx hb dX2_undo_4 (by decide) (by omega) (fun c_1 => ?_) (fun c_1 => absurd c_1 (by omega))
  refine z_ldc hx hb (-1000002) (by decide +kernel) hown (hq _ q_305) dX2_undo_15 ?_
  refine z_as (show (-1000002) = -1000002 from by first | rfl | omega) ?_
  first | exact hret _ _ _ _ dX2_undo_17 hP hD hS | (exfalso; omega)
