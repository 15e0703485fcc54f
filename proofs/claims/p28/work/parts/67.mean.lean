set_option maxHeartbeats 4000000 in
set_option maxRecDepth 100000 in
theorem m_X2_mean (l : Launch) (D : va_G) (xo xh t : Nat) (ta : Nat → Nat) (cI cC cH : ClassId) (ga : Nat → Nat) (gd : Nat → Nat → Nat) (F T : Nat → Int → Int) (Gs : Nat → Nat → Int → Int) {B : Int} (hI : InvG B (Gs 0))  : MW l D yX2_mean (wsY yX2_mean cX2_mean 1 (some .int)) { frames := 2, cells := 0, slots := 0, locals := 43 } [(cI, .int), (cC, .char), (cH, .object RX0)] [.ref xo] (wX xo xh t ta cI cC cH ga gd F T Gs) (wX xo xh t ta cI cC cH ga gd F T Gs) (some (.int (iI ((FP.fdiv (FP.i2f (iI (distZ (Gs 0) 48))) 1111490560).toNat : Int)))) := by
  refine mw_ofI (cc := cX2_mean) (maxL := 1) (by decide) rfl (Nat.le_of_ble_eq_true rfl) ?_
  intro p e s m below meth c R A Q args ls hx hb hml hown hts hRf hRl hRc hRs hN hK hP hD hS hA hret hl
  have hq : ∀ w ∈ ALL, w.before args s = true := fun w h => hts w (List.mem_cons_of_mem _ h)
  have hl : lv_has ls 1 [(0, .ref xo)] := hl
  have hdb := dist_bd hI 48 (by omega)
  refine lv_aload_n hx hb dX2_mean_0 rfl (lv_at hl 0 rfl) ?_
  refine va_get (D := D) (ci := 2) (v := .ref (ga 0)) (C := RX2) (T := TX2) (N := 10) hx hb hq inA2 hown hK hP 0 rfl rfl 0 (by decide) (hq _ q_204) (fun _ h9 => h9) rfl dX2_mean_1 ?_
  refine mw_grR (ga := ga) (gd := gd) (T := T) (Gs := Gs) (st1 := [.int (iI (distZ (Gs 0) 48))]) 0 (by decide) (mr_V (As := []) (rest := []) (ci := 0) (q0 := 0) ⟨hx, hb, hml, hown, hts⟩ (m_X0_distanceFromAims l D (ga 0) (gd 0) cI (Gs 0) hI) (cwV 0 hts (gV q_287 q_288 q_289 q_8 q_152) rfl rfl rfl (by decide +kernel) ⟨Nat.le_trans (m := 2) (Nat.le_of_ble_eq_true rfl) (Nat.le_trans (Nat.le_of_ble_eq_true rfl) hRf), Nat.le_trans (m := 43) (Nat.le_of_ble_eq_true rfl) (Nat.le_trans (Nat.le_of_ble_eq_true rfl) hRl)⟩) hN (hK.sub (tys' := [(cI, .int)]) [0] rfl) (x_Pg (ga := ga) (gd := gd) (T := T) (Gs := Gs) 0 (by decide) hP) (x_Dg (ga := ga) (gd := gd) (T := T) (Gs := Gs) 0 (by decide) hD) rfl rfl rfl hl.1 (Nat.le_of_ble_eq_true rfl) ⟨hRc, hRs⟩ dX2_mean_4) hP hD hS hA rfl (fun H locs hP hD hS => ?_)
  refine lv_i2f hx hb dX2_mean_7 ?_
  refine lv_ldcf hx hb hown (hq _ q_286) dX2_mean_8 ?_
  have hfp10 := fp_48 (a := (distZ (Gs 0) 48)) (by omega)
  refine lv_fdiv hx hb dX2_mean_10 (fPos_n32 hfp10) ?_
  refine mw_none (st1 := [.int (iI (((FP.fdiv (FP.i2f (iI (distZ (Gs 0) 48))) 1111490560)).toNat : Int))]) (mr_S (As := [.float (FP.fdiv (FP.i2f (iI (distZ (Gs 0) 48))) 1111490560)]) (rest := []) ⟨hx, hb, hml, hown, hts⟩ (m_X2_bitsOf l D (FP.fdiv (FP.i2f (iI (distZ (Gs 0) 48))) 1111490560) hfp10) (va_cwS 1 hts (gS q_290 q_291 q_37 q_285) rfl rfl rfl (by decide +kernel) ⟨Nat.le_trans (m := 1) (Nat.le_of_ble_eq_true rfl) (Nat.le_trans (Nat.le_of_ble_eq_true rfl) hRf), Nat.le_trans (m := 23) (Nat.le_of_ble_eq_true rfl) (Nat.le_trans (Nat.le_of_ble_eq_true rfl) hRl)⟩) hN (hK.sub (tys' := []) [] rfl) (va_P0 _ _ _) (va_D0 A) rfl hl.1 (Nat.le_of_ble_eq_true rfl) ⟨hRc, hRs⟩ dX2_mean_11) hP hS hA rfl (fun H locs hP hS => ?_)
  refine z_as (show (((FP.fdiv (FP.i2f (iI (distZ (Gs 0) 48))) 1111490560)).toNat : Int) = ((FP.fdiv (FP.i2f (iI (distZ (Gs 0) 48))) 1111490560).toNat : Int) from by rfl) ?_
  first | exact hret _ _ _ _ dX2_mean_14 hP hD hS | (exfalso; omega)
set_option maxHeartbeats 4000000 in
set_option maxRecDepth 100000 in
theorem m_X2_share (l : Launch) (D : va_G) (xo xh t : Nat) (ta : Nat → Nat) (cI cC cH : ClassId) (ga : Nat → Nat) (gd : Nat → Nat → Nat) (F T : Nat → Int → Int) (Gs : Nat → Nat → Int → Int) {B : Int} (hI : InvG B (Gs 0)) (hA : sumZ 9 (Gs 0 10) < 16777216)  : MW l D yX2_share (wsY yX2_share cX2_share 2 (some .int)) { frames := 2, cells := 0, slots := 0, locals := 42 } [(cI, .int), (cC, .char), (cH, .object RX0)] [.ref xo] (wX xo xh t ta cI cC cH ga gd F T Gs) (wX xo xh t ta cI cC cH ga gd F T Gs) (some (.int (iI (if (sumZ 9 (Gs 0 10)) = 0 then -1000004 else ((FP.fdiv (FP.i2f (iI (rightTZ (Gs 0) 3))) (FP.i2f (iI (sumZ 9 (Gs 0 10))))).toNat : Int))))) := by
  refine mw_ofI (cc := cX2_share) (maxL := 2) (by decide) rfl (Nat.le_of_ble_eq_true rfl) ?_
  intro p e s m below meth c R A Q args ls hx hb hml hown hts hRf hRl hRc hRs hN hK hP hD hS hA hret hl
  have hq : ∀ w ∈ ALL, w.before args s = true := fun w h => hts w (List.mem_cons_of_mem _ h)
  have hl : lv_has ls 2 [(0, .ref xo)] := hl
  have hsa := asked_bd hI
  have hsr := right_bd hI
  have hsl := right_le hI
  refine lv_aload_n hx hb dX2_share_0 rfl (lv_at hl 0 rfl) ?_
  refine va_get (D := D) (ci := 2) (v := .ref (ga 0)) (C := RX2) (T := TX2) (N := 10) hx hb hq inA2 hown hK hP 0 rfl rfl 0 (by decide) (hq _ q_204) (fun _ h9 => h9) rfl dX2_share_1 ?_
  refine mw_grR (ga := ga) (gd := gd) (T := T) (Gs := Gs) (st1 := [.int (iI (sumZ 9 ((Gs 0) 10)))]) 0 (by decide) (mr_V (As := []) (rest := []) (ci := 0) (q0 := 0) ⟨hx, hb, hml, hown, hts⟩ (m_X0_timesAsked l D (ga 0) (gd 0) cI (Gs 0)) (cwV 0 hts (gV q_293 q_142 q_143 q_8 q_129) rfl rfl rfl (by decide +kernel) ⟨Nat.le_trans (m := 2) (Nat.le_of_ble_eq_true rfl) (Nat.le_trans (Nat.le_of_ble_eq_true rfl) hRf), Nat.le_trans (m := 42) (Nat.le_of_ble_eq_true rfl) (Nat.le_trans (Nat.le_of_ble_eq_true rfl) hRl)⟩) hN (hK.sub (tys' := [(cI, .int)]) [0] rfl) (x_Pg (ga := ga) (gd := gd) (T := T) (Gs := Gs) 0 (by decide) hP) (x_Dg (ga := ga) (gd := gd) (T := T) (Gs := Gs) 0 (by decide) hD) rfl rfl rfl hl.1 (Nat.le_of_ble_eq_true rfl) ⟨hRc, hRs⟩ dX2_share_4) hP hD hS hA rfl (fun H locs hP hD hS => ?_)
  refine lv_istore_n (lv' := [(1, .int (iI (sumZ 9 ((Gs 0) 10)))), (0, .ref xo)]) hx hb dX2_share_7 rfl hl (by decide) rfl (fun ls hl => ?_)
  refine lv_iload_n hx hb dX2_share_8 rfl (lv_at hl 0 rfl) ?_
  refine z_if_ne (tgt := 15) hx hb dX2_share_9 (by decide) (by omega) (fun c_1 => ?_) (fun c_1 => ?_)
  · have hnz := c_1
    refine lv_aload_n hx hb dX2_share_15 rfl (lv_at hl 1 rfl) ?_
    refine va_get (D := D) (ci := 2) (v := .ref (ga 0)) (C := RX2) (T := TX2) (N := 10) hx hb hq inA2 hown hK hP 0 rfl rfl 0 (by decide) (hq _ q_204) (fun _ h9 => h9) rfl dX2_share_16 ?_
    refine mw_grR (ga := ga) (gd := gd) (T := T) (Gs := Gs) (st1 := [.int (iI (rightTZ (Gs 0) 3))]) 0 (by decide) (mr_V (As := []) (rest := []) (ci := 0) (q0 := 0) ⟨hx, hb, hml, hown, hts⟩ (m_X0_timesToldRight l D (ga 0) (gd 0) cI (Gs 0) hI) (cwV 0 hts (gV q_294 q_295 q_296 q_8 q_151) rfl rfl rfl (by decide +kernel) ⟨Nat.le_trans (m := 1) (Nat.le_of_ble_eq_true rfl) (Nat.le_trans (Nat.le_of_ble_eq_true rfl) hRf), Nat.le_trans (m := 22) (Nat.le_of_ble_eq_true rfl) (Nat.le_trans (Nat.le_of_ble_eq_true rfl) hRl)⟩) hN (hK.sub (tys' := [(cI, .int)]) [0] rfl) (x_Pg (ga := ga) (gd := gd) (T := T) (Gs := Gs) 0 (by decide) hP) (x_Dg (ga := ga) (gd := gd) (T := T) (Gs := Gs) 0 (by decide) hD) rfl rfl rfl hl.1 (Nat.le_of_ble_eq_true rfl) ⟨hRc, hRs⟩ dX2_share_19) hP hD hS hA rfl (fun H locs hP hD hS => ?_)
    refine lv_i2f hx hb dX2_share_22 ?_
    refine lv_iload_n hx hb dX2_share_23 rfl (lv_at hl 0 rfl) ?_
    refine lv_i2f hx hb dX2_share_24 ?_
    have hfp25 := fp_q (a := (rightTZ (Gs 0) 3)) (b := (sumZ 9 (Gs 0 10))) (by omega) (by omega)
    refine lv_fdiv hx hb dX2_share_25 (fPos_n32 hfp25) ?_
    refine mw_none (st1 := [.int (iI (((FP.fdiv (FP.i2f (iI (rightTZ (Gs 0) 3))) (FP.i2f (iI (sumZ 9 ((Gs 0) 10)))))).toNat : Int))]) (mr_S (As := [.float (FP.fdiv (FP.i2f (iI (rightTZ (Gs 0) 3))) (FP.i2f (iI (sumZ 9 ((Gs 0) 10)))))]) (rest := []) ⟨hx, hb, hml, hown, hts⟩ (m_X2_bitsOf l D (FP.fdiv (FP.i2f (iI (rightTZ (Gs 0) 3))) (FP.i2f (iI (sumZ 9 ((Gs 0) 10))))) hfp25) (va_cwS 1 hts (gS q_290 q_291 q_37 q_285) rfl rfl rfl (by decide +kernel) ⟨Nat.le_trans (m := 1) (Nat.le_of_ble_eq_true rfl) (Nat.le_trans (Nat.le_of_ble_eq_true rfl) hRf), Nat.le_trans (m := 23) (Nat.le_of_ble_eq_true rfl) (Nat.le_trans (Nat.le_of_ble_eq_true rfl) hRl)⟩) hN (hK.sub (tys' := []) [] rfl) (va_P0 _ _ _) (va_D0 A) rfl hl.1 (Nat.le_of_ble_eq_true rfl) ⟨hRc, hRs⟩ dX2_share_26) hP hS hA rfl (fun H locs hP hS => ?_)
    refine z_as (show (((FP.fdiv (FP.i2f (iI (rightTZ (Gs 0) 3))) (FP.i2f (iI (sumZ 9 ((Gs 0) 10)))))).toNat : Int) = (if (sumZ 9 (Gs 0 10)) = 0 then -1000004 else ((FP.fdiv (FP.i2f (iI (rightTZ (Gs 0) 3))) (FP.i2f (iI (sumZ 9 (Gs 0 10))))).toNat : Int)) from by first | (rw [if_pos hnz]) | (rw [if_neg hnz])) ?_
    first | exact hret _ _ _ _ dX2_share_29 hP hD hS | (exfalso; omega)
  · have hnz := c_1
    refine z_ldc hx hb (-1000004) (by decide +kernel) hown (hq _ q_269) dX2_share_12 ?_
    refine z_as (show (-1000004) = (if (sumZ 9 (Gs 0 10)) = 0 then -1000004 else ((FP.fdiv (FP.i2f (iI (rightTZ (Gs 0) 3))) (FP.i2f (iI (sumZ 9 (Gs 0 10))))).toNat : Int)) from by first | (rw [if_pos hnz]) | (rw [if_neg hnz])) ?_
    first | exact hret _ _ _ _ dX2_share_14 hP hD hS | (exfalso; omega)
