set_option maxHeartbeats 4000000 in
set_option maxRecDepth 100000 in
theorem m_X2_isOutside (l : Launch) (D : va_G) (n lo hi : Int) (h1 : -2147483648 ≤ n ∧ n < 2147483648) (h2 : -2147483648 ≤ lo ∧ lo < 2147483648) (h3 : -2147483648 ≤ hi ∧ hi < 2147483648) : MW l D yX2_isOutside (wsY yX2_isOutside cX2_isOutside 3 (some .boolean)) { frames := 0, cells := 0, slots := 0, locals := 0 } [] [.int (iI n), .int (iI lo), .int (iI hi)] [] [] (some (.int (iI (outZ n lo hi)))) := by
  refine mw_ofZ (cc := cX2_isOutside) (maxL := 3) (ty := .boolean) (narrow_z01 (by have := outZ_01 n lo hi; omega)) (by decide) rfl (Nat.le_of_ble_eq_true rfl) ?_
  intro p e s m below meth c R A Q args ls hx hb hml hown hts hRf hRl hRc hRs hN hK hP hD hS hA hret hl
  have hq : ∀ w ∈ ALL, w.before args s = true := fun w h => hts w (List.mem_cons_of_mem _ h)
  have hl : lv_has ls 3 [(0, .int (iI n)), (1, .int (iI lo)), (2, .int (iI hi))] := hl
  refine lv_iload_n hx hb dX2_isOutside_0 rfl (lv_at hl 0 rfl) ?_
  refine lv_iload_n hx hb dX2_isOutside_1 rfl (lv_at hl 1 rfl) ?_
  refine z_icmp_lt (tgt := 10) hx hb dX2_isOutside_2 (by decide) (by omega) (by omega) (fun c_1 => ?_) (fun c_1 => ?_)
  · refine z_iconst hx hb dX2_isOutside_10 ?_
    refine lv_goto (tgt := 15) hx hb dX2_isOutside_11 (by decide) ?_
    refine z_as (show 1 = outZ n lo hi from by first | rfl | omega | (unfold outZ; omega)) ?_
    exact hret _ _ _ _ dX2_isOutside_15 hP hD hS
  · refine lv_iload_n hx hb dX2_isOutside_5 rfl (lv_at hl 0 rfl) ?_
    refine lv_iload_n hx hb dX2_isOutside_6 rfl (lv_at hl 2 rfl) ?_
    refine z_icmp_le (tgt := 14) hx hb dX2_isOutside_7 (by decide) (by omega) (by omega) (fun c_2 => ?_) (fun c_2 => ?_)
    · refine z_iconst hx hb dX2_isOutside_14 ?_
      refine z_as (show 0 = outZ n lo hi from by first | rfl | omega | (unfold outZ; omega)) ?_
      exact hret _ _ _ _ dX2_isOutside_15 hP hD hS
    · refine z_iconst hx hb dX2_isOutside_10 ?_
      refine lv_goto (tgt := 15) hx hb dX2_isOutside_11 (by decide) ?_
      refine z_as (show 1 = outZ n lo hi from by first | rfl | omega | (unfold outZ; omega)) ?_
      exact hret _ _ _ _ dX2_isOutside_15 hP hD hS
set_option maxHeartbeats 4000000 in
set_option maxRecDepth 100000 in
theorem m_X0_tell (l : Launch) (D : va_G) (v lo up : Int) (h1 : -2147483648 ≤ v ∧ v < 2147483648) (h2 : -2147483648 ≤ lo ∧ lo < 2147483648) (h3 : -2147483648 ≤ up ∧ up < 2147483648) : MW l D yX0_tell (wsY yX0_tell cX0_tell 3 (some .int)) { frames := 0, cells := 0, slots := 0, locals := 0 } [] [.int (iI v), .int (iI lo), .int (iI up)] [] [] (some (.int (iI (tellZ v lo up)))) := by
  refine mw_ofI (cc := cX0_tell) (maxL := 3) (by decide) rfl (Nat.le_of_ble_eq_true rfl) ?_
  intro p e s m below meth c R A Q args ls hx hb hml hown hts hRf hRl hRc hRs hN hK hP hD hS hA hret hl
  have hq : ∀ w ∈ ALL, w.before args s = true := fun w h => hts w (List.mem_cons_of_mem _ h)
  have hl : lv_has ls 3 [(0, .int (iI v)), (1, .int (iI lo)), (2, .int (iI up))] := hl
  refine lv_iload_n hx hb dX0_tell_0 rfl (lv_at hl 0 rfl) ?_
  refine lv_iload_n hx hb dX0_tell_1 rfl (lv_at hl 1 rfl) ?_
  refine z_icmp_ge (tgt := 7) hx hb dX0_tell_2 (by decide) (by omega) (by omega) (fun c_1 => ?_) (fun c_1 => ?_)
  · refine lv_iload_n hx hb dX0_tell_7 rfl (lv_at hl 0 rfl) ?_
    refine lv_iload_n hx hb dX0_tell_8 rfl (lv_at hl 2 rfl) ?_
    refine z_icmp_lt (tgt := 16) hx hb dX0_tell_9 (by decide) (by omega) (by omega) (fun c_2 => ?_) (fun c_2 => ?_)
    · refine z_iconst hx hb dX0_tell_16 ?_
      refine z_as (show 1 = tellZ v lo up from by first | rfl | omega | (unfold tellZ; omega)) ?_
      exact hret _ _ _ _ dX0_tell_17 hP hD hS
    · refine z_iconst hx hb dX0_tell_12 ?_
      refine lv_goto (tgt := 17) hx hb dX0_tell_13 (by decide) ?_
      refine z_as (show 2 = tellZ v lo up from by first | rfl | omega | (unfold tellZ; omega)) ?_
      exact hret _ _ _ _ dX0_tell_17 hP hD hS
  · refine z_iconst hx hb dX0_tell_5 ?_
    refine z_as (show 0 = tellZ v lo up from by first | rfl | omega | (unfold tellZ; omega)) ?_
    exact hret _ _ _ _ dX0_tell_6 hP hD hS
set_option maxHeartbeats 4000000 in
set_option maxRecDepth 100000 in
theorem m_X0_aim (l : Launch) (D : va_G) (v : Int)  : MW l D yX0_aim (wsY yX0_aim cX0_aim 1 (some .int)) { frames := 0, cells := 0, slots := 0, locals := 0 } [] [.int (iI v)] [] [] (some (.int (iI (aimZ v)))) := by
  refine mw_ofI (cc := cX0_aim) (maxL := 1) (by decide) rfl (Nat.le_of_ble_eq_true rfl) ?_
  intro p e s m below meth c R A Q args ls hx hb hml hown hts hRf hRl hRc hRs hN hK hP hD hS hA hret hl
  have hq : ∀ w ∈ ALL, w.before args s = true := fun w h => hts w (List.mem_cons_of_mem _ h)
  have hl : lv_has ls 1 [(0, .int (iI v))] := hl
  refine z_bipush hx hb dX0_aim_0 (by decide +kernel) ?_
  refine z_sipush hx hb dX0_aim_2 (by decide +kernel) ?_
  refine lv_iload_n hx hb dX0_aim_5 rfl (lv_at hl 0 rfl) ?_
  refine z_imul hx hb dX0_aim_6 ?_
  refine z_iadd hx hb dX0_aim_7 ?_
  refine z_as (show (100 + (400 * v)) = aimZ v from by first | rfl | omega | (unfold aimZ; omega)) ?_
  exact hret _ _ _ _ dX0_aim_8 hP hD hS
set_option maxHeartbeats 4000000 in
set_option maxRecDepth 100000 in
theorem m_X0_isOutsideCell (l : Launch) (D : va_G) (r c2 : Int) (h1 : -2147483648 ≤ r ∧ r < 2147483648) (h2 : -2147483648 ≤ c2 ∧ c2 < 2147483648) : MW l D yX0_isOutsideCell (wsY yX0_isOutsideCell cX0_isOutsideCell 2 (some .boolean)) { frames := 1, cells := 0, slots := 0, locals := 22 } [] [.int (iI r), .int (iI c2)] [] [] (some (.int (iI (if (r < 0 ∨ 5 < r) ∨ (c2 < 0 ∨ 7 < c2) then 1 else 0 : Int)))) := by
  refine mw_ofZ (cc := cX0_isOutsideCell) (maxL := 2) (ty := .boolean) (narrow_z01 (by omega)) (by decide) rfl (Nat.le_of_ble_eq_true rfl) ?_
  intro p e s m below meth c R A Q args ls hx hb hml hown hts hRf hRl hRc hRs hN hK hP hD hS hA hret hl
  have hq : ∀ w ∈ ALL, w.before args s = true := fun w h => hts w (List.mem_cons_of_mem _ h)
  have hl : lv_has ls 2 [(0, .int (iI r)), (1, .int (iI c2))] := hl
  refine lv_iload_n hx hb dX0_isOutsideCell_0 rfl (lv_at hl 0 rfl) ?_
  refine z_iconst hx hb dX0_isOutsideCell_1 ?_
  refine z_iconst hx hb dX0_isOutsideCell_2 ?_
  refine mw_none (st1 := [.int (iI (outZ r 0 5))]) (mr_SN (As := [.int (iI r), .int (iI 0), .int (iI 5)]) (rest := []) ⟨hx, hb, hml, hown, hts⟩ (m_X2_isOutside l D r 0 5 (by omega) (by omega) (by omega)) ⟨va_cnB 3 hts (gSelf q_35) rfl rfl rfl hN.1 (hq _ q_37) (by decide +kernel) ⟨Nat.le_trans (m := 1) (Nat.le_of_ble_eq_true rfl) (Nat.le_trans (Nat.le_of_ble_eq_true rfl) hRf), Nat.le_trans (m := 22) (Nat.le_of_ble_eq_true rfl) (Nat.le_trans (Nat.le_of_ble_eq_true rfl) hRl)⟩, hq _ q_36, trivial⟩ hN (hK.sub (tys' := []) [] rfl) (va_P0 _ _ _) (va_D0 A) rfl hl.1 (Nat.le_of_ble_eq_true rfl) ⟨hRc, hRs⟩ dX0_isOutsideCell_3) hP hS hA rfl (fun H locs hP hS => ?_)
  have hf_1 : outZ r 0 5 = if r < 0 ∨ 5 < r then 1 else 0 := rfl
  refine z_if_ne (tgt := 19) hx hb dX0_isOutsideCell_6 (by decide) (by omega) (fun c_2 => ?_) (fun c_2 => ?_)
  · refine z_iconst hx hb dX0_isOutsideCell_19 ?_
    refine lv_goto (tgt := 24) hx hb dX0_isOutsideCell_20 (by decide) ?_
    refine z_as (show 1 = (if (r < 0 ∨ 5 < r) ∨ (c2 < 0 ∨ 7 < c2) then 1 else 0 : Int) from by first | rfl | omega) ?_
    exact hret _ _ _ _ dX0_isOutsideCell_24 hP hD hS
  · refine lv_iload_n hx hb dX0_isOutsideCell_9 rfl (lv_at hl 1 rfl) ?_
    refine z_iconst hx hb dX0_isOutsideCell_10 ?_
    refine z_bipush hx hb dX0_isOutsideCell_11 (by decide +kernel) ?_
    refine mw_none (st1 := [.int (iI (outZ c2 0 7))]) (mr_SN (As := [.int (iI c2), .int (iI 0), .int (iI 7)]) (rest := []) ⟨hx, hb, hml, hown, hts⟩ (m_X2_isOutside l D c2 0 7 (by omega) (by omega) (by omega)) ⟨va_cnB 3 hts (gSelf q_35) rfl rfl rfl hN.1 (hq _ q_37) (by decide +kernel) ⟨Nat.le_trans (m := 1) (Nat.le_of_ble_eq_true rfl) (Nat.le_trans (Nat.le_of_ble_eq_true rfl) hRf), Nat.le_trans (m := 22) (Nat.le_of_ble_eq_true rfl) (Nat.le_trans (Nat.le_of_ble_eq_true rfl) hRl)⟩, hq _ q_36, trivial⟩ hN (hK.sub (tys' := []) [] rfl) (va_P0 _ _ _) (va_D0 A) rfl hl.1 (Nat.le_of_ble_eq_true rfl) ⟨hRc, hRs⟩ dX0_isOutsideCell_13) hP hS hA rfl (fun H locs hP hS => ?_)
    have hf_3 : outZ c2 0 7 = if c2 < 0 ∨ 7 < c2 then 1 else 0 := rfl
    refine z_if_eq (tgt := 23) hx hb dX0_isOutsideCell_16 (by decide) (by omega) (fun c_4 => ?_) (fun c_4 => ?_)
    · refine z_iconst hx hb dX0_isOutsideCell_23 ?_
      refine z_as (show 0 = (if (r < 0 ∨ 5 < r) ∨ (c2 < 0 ∨ 7 < c2) then 1 else 0 : Int) from by first | rfl | omega) ?_
      exact hret _ _ _ _ dX0_isOutsideCell_24 hP hD hS
    · refine z_iconst hx hb dX0_isOutsideCell_19 ?_
      refine lv_goto (tgt := 24) hx hb dX0_isOutsideCell_20 (by decide) ?_
      refine z_as (show 1 = (if (r < 0 ∨ 5 < r) ∨ (c2 < 0 ∨ 7 < c2) then 1 else 0 : Int) from by first | rfl | omega) ?_
      exact hret _ _ _ _ dX0_isOutsideCell_24 hP hD hS
set_option maxHeartbeats 4000000 in
set_option maxRecDepth 100000 in
theorem m_X0_isOutsideGuard (l : Launch) (D : va_G) (r c2 : Int) (h1 : -2147483648 ≤ r ∧ r < 2147483648) (h2 : -2147483648 ≤ c2 ∧ c2 < 2147483648) : MW l D yX0_isOutsideGuard (wsY yX0_isOutsideGuard cX0_isOutsideGuard 2 (some .boolean)) { frames := 1, cells := 0, slots := 0, locals := 22 } [] [.int (iI r), .int (iI c2)] [] [] (some (.int (iI (if (r < 0 ∨ 5 < r) ∨ (c2 < 0 ∨ 2 < c2) then 1 else 0 : Int)))) := by
  refine mw_ofZ (cc := cX0_isOutsideGuard) (maxL := 2) (ty := .boolean) (narrow_z01 (by omega)) (by decide) rfl (Nat.le_of_ble_eq_true rfl) ?_
  intro p e s m below meth c R A Q args ls hx hb hml hown hts hRf hRl hRc hRs hN hK hP hD hS hA hret hl
  have hq : ∀ w ∈ ALL, w.before args s = true := fun w h => hts w (List.mem_cons_of_mem _ h)
  have hl : lv_has ls 2 [(0, .int (iI r)), (1, .int (iI c2))] := hl
  refine lv_iload_n hx hb dX0_isOutsideGuard_0 rfl (lv_at hl 0 rfl) ?_
  refine z_iconst hx hb dX0_isOutsideGuard_1 ?_
  refine z_iconst hx hb dX0_isOutsideGuard_2 ?_
  refine mw_none (st1 := [.int (iI (outZ r 0 5))]) (mr_SN (As := [.int (iI r), .int (iI 0), .int (iI 5)]) (rest := []) ⟨hx, hb, hml, hown, hts⟩ (m_X2_isOutside l D r 0 5 (by omega) (by omega) (by omega)) ⟨va_cnB 3 hts (gSelf q_35) rfl rfl rfl hN.1 (hq _ q_37) (by decide +kernel) ⟨Nat.le_trans (m := 1) (Nat.le_of_ble_eq_true rfl) (Nat.le_trans (Nat.le_of_ble_eq_true rfl) hRf), Nat.le_trans (m := 22) (Nat.le_of_ble_eq_true rfl) (Nat.le_trans (Nat.le_of_ble_eq_true rfl) hRl)⟩, hq _ q_36, trivial⟩ hN (hK.sub (tys' := []) [] rfl) (va_P0 _ _ _) (va_D0 A) rfl hl.1 (Nat.le_of_ble_eq_true rfl) ⟨hRc, hRs⟩ dX0_isOutsideGuard_3) hP hS hA rfl (fun H locs hP hS => ?_)
  have hf_1 : outZ r 0 5 = if r < 0 ∨ 5 < r then 1 else 0 := rfl
  refine z_if_ne (tgt := 18) hx hb dX0_isOutsideGuard_6 (by decide) (by omega) (fun c_2 => ?_) (fun c_2 => ?_)
  · refine z_iconst hx hb dX0_isOutsideGuard_18 ?_
    refine lv_goto (tgt := 23) hx hb dX0_isOutsideGuard_19 (by decide) ?_
    refine z_as (show 1 = (if (r < 0 ∨ 5 < r) ∨ (c2 < 0 ∨ 2 < c2) then 1 else 0 : Int) from by first | rfl | omega) ?_
    exact hret _ _ _ _ dX0_isOutsideGuard_23 hP hD hS
  · refine lv_iload_n hx hb dX0_isOutsideGuard_9 rfl (lv_at hl 1 rfl) ?_
    refine z_iconst hx hb dX0_isOutsideGuard_10 ?_
    refine z_iconst hx hb dX0_isOutsideGuard_11 ?_
    refine mw_none (st1 := [.int (iI (outZ c2 0 2))]) (mr_SN (As := [.int (iI c2), .int (iI 0), .int (iI 2)]) (rest := []) ⟨hx, hb, hml, hown, hts⟩ (m_X2_isOutside l D c2 0 2 (by omega) (by omega) (by omega)) ⟨va_cnB 3 hts (gSelf q_35) rfl rfl rfl hN.1 (hq _ q_37) (by decide +kernel) ⟨Nat.le_trans (m := 1) (Nat.le_of_ble_eq_true rfl) (Nat.le_trans (Nat.le_of_ble_eq_true rfl) hRf), Nat.le_trans (m := 22) (Nat.le_of_ble_eq_true rfl) (Nat.le_trans (Nat.le_of_ble_eq_true rfl) hRl)⟩, hq _ q_36, trivial⟩ hN (hK.sub (tys' := []) [] rfl) (va_P0 _ _ _) (va_D0 A) rfl hl.1 (Nat.le_of_ble_eq_true rfl) ⟨hRc, hRs⟩ dX0_isOutsideGuard_12) hP hS hA rfl (fun H locs hP hS => ?_)
    have hf_3 : outZ c2 0 2 = if c2 < 0 ∨ 2 < c2 then 1 else 0 := rfl
    refine z_if_eq (tgt := 22) hx hb dX0_isOutsideGuard_15 (by decide) (by omega) (fun c_4 => ?_) (fun c_4 => ?_)
    · refine z_iconst hx hb dX0_isOutsideGuard_22 ?_
      refine z_as (show 0 = (if (r < 0 ∨ 5 < r) ∨ (c2 < 0 ∨ 2 < c2) then 1 else 0 : Int) from by first | rfl | omega) ?_
      exact hret _ _ _ _ dX0_isOutsideGuard_23 hP hD hS
    · refine z_iconst hx hb dX0_isOutsideGuard_18 ?_
      refine lv_goto (tgt := 23) hx hb dX0_isOutsideGuard_19 (by decide) ?_
      refine z_as (show 1 = (if (r < 0 ∨ 5 < r) ∨ (c2 < 0 ∨ 2 < c2) then 1 else 0 : Int) from by first | rfl | omega) ?_
      exact hret _ _ _ _ dX0_isOutsideGuard_23 hP hD hS
set_option maxHeartbeats 4000000 in
set_option maxRecDepth 100000 in
theorem m_X0_ownThreshold (l : Launch) (D : va_G) (g : Nat) (ad : Nat → Nat) (cI : ClassId) (G : Nat → Int → Int) (r w : Int) {B : Int} (hI : InvG B G) (h1 : 0 ≤ r ∧ r < 6) (h2 : 0 ≤ w ∧ w < 2)  : MW l D yX0_ownThreshold (wsY yX0_ownThreshold cX0_ownThreshold 4 (some .int)) { frames := 0, cells := 0, slots := 0, locals := 0 } [(cI, .int)] [.ref g, .int (iI r), .int (iI w)] (wG g ad cI G) (wG g ad cI G) (some (.int (iI (ownZ G r w)))) := by
  refine mw_ofI (cc := cX0_ownThreshold) (maxL := 4) (by decide) rfl (Nat.le_of_ble_eq_true rfl) ?_
  intro p e s m below meth c R A Q args ls hx hb hml hown hts hRf hRl hRc hRs hN hK hP hD hS hA hret hl
  have hq : ∀ w ∈ ALL, w.before args s = true := fun w h => hts w (List.mem_cons_of_mem _ h)
  have hl : lv_has ls 4 [(0, .ref g), (1, .int (iI r)), (2, .int (iI w))] := hl
  refine z_iconst hx hb dX0_ownThreshold_0 ?_
  refine lv_iload_n hx hb dX0_ownThreshold_1 rfl (lv_at hl 1 rfl) ?_
  refine z_imul hx hb dX0_ownThreshold_2 ?_
  refine lv_iload_n hx hb dX0_ownThreshold_3 rfl (lv_at hl 2 rfl) ?_
  refine z_iadd hx hb dX0_ownThreshold_4 ?_
  refine lv_istore_n (lv' := [(3, .int (iI ((3 * r) + w))), (0, .ref g), (1, .int (iI r)), (2, .int (iI w))]) hx hb dX0_ownThreshold_5 rfl hl (by decide) rfl (fun ls hl => ?_)
  refine lv_aload_n hx hb dX0_ownThreshold_6 rfl (lv_at hl 1 rfl) ?_
  refine va_get (D := D) (ci := 0) (v := .ref (ad 4)) (C := RX0) (T := TX0) (N := 13) hx hb hq inA0 hown hK hP 0 rfl rfl 4 (by decide) (hq _ q_11) (fun _ h9 => h9) rfl dX0_ownThreshold_7 ?_
  refine lv_iload_n hx hb dX0_ownThreshold_10 rfl (lv_at hl 0 rfl) ?_
  refine z_iald hx hb hK hP 5 0 rfl rfl (by omega) (by decide) (v := (G 4 ((3 * r) + w))) rfl dX0_ownThreshold_11 ?_
  have hv_1 := invG_4 hI ((3 * r) + w) (by omega) (by omega)
  refine lv_aload_n hx hb dX0_ownThreshold_12 rfl (lv_at hl 1 rfl) ?_
  refine va_get (D := D) (ci := 0) (v := .ref (ad 4)) (C := RX0) (T := TX0) (N := 13) hx hb hq inA0 hown hK hP 0 rfl rfl 4 (by decide) (hq _ q_11) (fun _ h9 => h9) rfl dX0_ownThreshold_13 ?_
  refine lv_iload_n hx hb dX0_ownThreshold_16 rfl (lv_at hl 0 rfl) ?_
  refine z_iconst hx hb dX0_ownThreshold_17 ?_
  refine z_iadd hx hb dX0_ownThreshold_18 ?_
  refine z_iald hx hb hK hP 5 0 rfl rfl (by omega) (by decide) (v := (G 4 (((3 * r) + w) + 1))) rfl dX0_ownThreshold_19 ?_
  have hv_2 := invG_4 hI (((3 * r) + w) + 1) (by omega) (by omega)
  refine z_iadd hx hb dX0_ownThreshold_20 ?_
  refine z_iconst hx hb dX0_ownThreshold_21 ?_
  refine z_idiv hx hb dX0_ownThreshold_22 (by omega) (by omega) ?_
  refine z_as (show (((G 4 ((3 * r) + w)) + (G 4 (((3 * r) + w) + 1))) / 2) = ownZ G r w from by first | rfl | omega) ?_
  exact hret _ _ _ _ dX0_ownThreshold_23 hP hD hS
set_option maxHeartbeats 4000000 in
set_option maxRecDepth 100000 in
theorem m_X0_hasRightThresholds (l : Launch) (D : va_G) (g : Nat) (ad : Nat → Nat) (cI : ClassId) (G : Nat → Int → Int) (r : Int) {B : Int} (hI : InvG B G) (h1 : -2147483648 ≤ r ∧ r < 2147483648)  : MW l D yX0_hasRightThresholds (wsY yX0_hasRightThresholds cX0_hasRightThresholds 3 (some .boolean)) { frames := 0, cells := 0, slots := 0, locals := 0 } [(cI, .int)] [.ref g, .int (iI r)] (wG g ad cI G) (wG g ad cI G) (some (.int (iI (rightZ G r)))) := by
  refine mw_ofZ (cc := cX0_hasRightThresholds) (maxL := 3) (ty := .boolean) (narrow_z01 (rightZ_01 G r)) (by decide) rfl (Nat.le_of_ble_eq_true rfl) ?_
  intro p e s m below meth c R A Q args ls hx hb hml hown hts hRf hRl hRc hRs hN hK hP hD hS hA hret hl
  have hq : ∀ w ∈ ALL, w.before args s = true := fun w h => hts w (List.mem_cons_of_mem _ h)
  have hl : lv_has ls 3 [(0, .ref g), (1, .int (iI r))] := hl
  have hs1 := invG_s1 hI
  refine lv_iload_n hx hb dX0_hasRightThresholds_0 rfl (lv_at hl 1 rfl) ?_
  refine z_if_lt (tgt := 10) hx hb dX0_hasRightThresholds_1 (by decide) (by omega) (fun c_1 => ?_) (fun c_1 => ?_)
  · refine z_iconst hx hb dX0_hasRightThresholds_10 ?_
    refine z_as (show 0 = rightZ G r from by first | rfl | omega | (unfold rightZ; omega)) ?_
    exact hret _ _ _ _ dX0_hasRightThresholds_11 hP hD hS
  · refine lv_iload_n hx hb dX0_hasRightThresholds_4 rfl (lv_at hl 1 rfl) ?_
    refine z_bipush hx hb dX0_hasRightThresholds_5 (by decide +kernel) ?_
    refine z_icmp_lt (tgt := 12) hx hb dX0_hasRightThresholds_7 (by decide) (by omega) (by omega) (fun c_2 => ?_) (fun c_2 => ?_)
    · refine z_iconst hx hb dX0_hasRightThresholds_12 ?_
      refine lv_iload_n hx hb dX0_hasRightThresholds_13 rfl (lv_at hl 1 rfl) ?_
      refine z_imul hx hb dX0_hasRightThresholds_14 ?_
      refine lv_istore_n (lv' := [(2, .int (iI (3 * r))), (0, .ref g), (1, .int (iI r))]) hx hb dX0_hasRightThresholds_15 rfl hl (by decide) rfl (fun ls hl => ?_)
      refine lv_aload_n hx hb dX0_hasRightThresholds_16 rfl (lv_at hl 1 rfl) ?_
      refine va_get (D := D) (ci := 0) (v := .ref (ad 4)) (C := RX0) (T := TX0) (N := 13) hx hb hq inA0 hown hK hP 0 rfl rfl 4 (by decide) (hq _ q_11) (fun _ h9 => h9) rfl dX0_hasRightThresholds_17 ?_
      refine lv_iload_n hx hb dX0_hasRightThresholds_20 rfl (lv_at hl 0 rfl) ?_
      refine z_iconst hx hb dX0_hasRightThresholds_21 ?_
      refine z_iadd hx hb dX0_hasRightThresholds_22 ?_
      refine z_iald hx hb hK hP 5 0 rfl rfl (by omega) (by decide) (v := (G 4 ((3 * r) + 1))) rfl dX0_hasRightThresholds_23 ?_
      have hv_3 := invG_4 hI ((3 * r) + 1) (by omega) (by omega)
      refine lv_aload_n hx hb dX0_hasRightThresholds_24 rfl (lv_at hl 1 rfl) ?_
      refine va_get (D := D) (ci := 0) (v := .ref (ad 4)) (C := RX0) (T := TX0) (N := 13) hx hb hq inA0 hown hK hP 0 rfl rfl 4 (by decide) (hq _ q_11) (fun _ h9 => h9) rfl dX0_hasRightThresholds_25 ?_
      refine lv_iload_n hx hb dX0_hasRightThresholds_28 rfl (lv_at hl 0 rfl) ?_
      refine z_iald hx hb hK hP 5 0 rfl rfl (by omega) (by decide) (v := (G 4 (3 * r))) rfl dX0_hasRightThresholds_29 ?_
      have hv_4 := invG_4 hI (3 * r) (by omega) (by omega)
      refine z_isub hx hb dX0_hasRightThresholds_30 ?_
      refine lv_aload_n hx hb dX0_hasRightThresholds_31 rfl (lv_at hl 1 rfl) ?_
      refine va_get (D := D) (ci := 0) (v := .ref (ad 11)) (C := RX0) (T := TX0) (N := 13) hx hb hq inA0 hown hK hP 0 rfl rfl 11 (by decide) (hq _ q_22) (fun _ h9 => h9) rfl dX0_hasRightThresholds_32 ?_
      refine z_iconst hx hb dX0_hasRightThresholds_35 ?_
      refine z_iald hx hb hK hP 12 0 rfl rfl (by omega) (by decide) (v := (G 11 1)) rfl dX0_hasRightThresholds_36 ?_
      have hv_5 := invG_11 hI 1 (by omega) (by omega)
      refine z_icmp_lt (tgt := 70) hx hb dX0_hasRightThresholds_37 (by decide) (by omega) (by omega) (fun c_6 => ?_) (fun c_6 => ?_)
      · refine z_iconst hx hb dX0_hasRightThresholds_70 ?_
        refine z_as (show 0 = rightZ G r from by first | rfl | omega | (unfold rightZ; omega)) ?_
        exact hret _ _ _ _ dX0_hasRightThresholds_71 hP hD hS
      · refine lv_aload_n hx hb dX0_hasRightThresholds_40 rfl (lv_at hl 1 rfl) ?_
        refine va_get (D := D) (ci := 0) (v := .ref (ad 4)) (C := RX0) (T := TX0) (N := 13) hx hb hq inA0 hown hK hP 0 rfl rfl 4 (by decide) (hq _ q_11) (fun _ h9 => h9) rfl dX0_hasRightThresholds_41 ?_
        refine lv_iload_n hx hb dX0_hasRightThresholds_44 rfl (lv_at hl 0 rfl) ?_
        refine z_iconst hx hb dX0_hasRightThresholds_45 ?_
        refine z_iadd hx hb dX0_hasRightThresholds_46 ?_
        refine z_iald hx hb hK hP 5 0 rfl rfl (by omega) (by decide) (v := (G 4 ((3 * r) + 2))) rfl dX0_hasRightThresholds_47 ?_
        have hv_7 := invG_4 hI ((3 * r) + 2) (by omega) (by omega)
        refine lv_aload_n hx hb dX0_hasRightThresholds_48 rfl (lv_at hl 1 rfl) ?_
        refine va_get (D := D) (ci := 0) (v := .ref (ad 4)) (C := RX0) (T := TX0) (N := 13) hx hb hq inA0 hown hK hP 0 rfl rfl 4 (by decide) (hq _ q_11) (fun _ h9 => h9) rfl dX0_hasRightThresholds_49 ?_
        refine lv_iload_n hx hb dX0_hasRightThresholds_52 rfl (lv_at hl 0 rfl) ?_
        refine z_iconst hx hb dX0_hasRightThresholds_53 ?_
        refine z_iadd hx hb dX0_hasRightThresholds_54 ?_
        refine z_iald hx hb hK hP 5 0 rfl rfl (by omega) (by decide) (v := (G 4 ((3 * r) + 1))) rfl dX0_hasRightThresholds_55 ?_
        have hv_8 := invG_4 hI ((3 * r) + 1) (by omega) (by omega)
        refine z_isub hx hb dX0_hasRightThresholds_56 ?_
        refine lv_aload_n hx hb dX0_hasRightThresholds_57 rfl (lv_at hl 1 rfl) ?_
        refine va_get (D := D) (ci := 0) (v := .ref (ad 11)) (C := RX0) (T := TX0) (N := 13) hx hb hq inA0 hown hK hP 0 rfl rfl 11 (by decide) (hq _ q_22) (fun _ h9 => h9) rfl dX0_hasRightThresholds_58 ?_
        refine z_iconst hx hb dX0_hasRightThresholds_61 ?_
        refine z_iald hx hb hK hP 12 0 rfl rfl (by omega) (by decide) (v := (G 11 1)) rfl dX0_hasRightThresholds_62 ?_
        have hv_9 := invG_11 hI 1 (by omega) (by omega)
        refine z_icmp_lt (tgt := 70) hx hb dX0_hasRightThresholds_63 (by decide) (by omega) (by omega) (fun c_10 => ?_) (fun c_10 => ?_)
        · refine z_iconst hx hb dX0_hasRightThresholds_70 ?_
          refine z_as (show 0 = rightZ G r from by first | rfl | omega | (unfold rightZ; omega)) ?_
          exact hret _ _ _ _ dX0_hasRightThresholds_71 hP hD hS
        · refine z_iconst hx hb dX0_hasRightThresholds_66 ?_
          refine lv_goto (tgt := 71) hx hb dX0_hasRightThresholds_67 (by decide) ?_
          refine z_as (show 1 = rightZ G r from by first | rfl | omega | (unfold rightZ; omega)) ?_
          exact hret _ _ _ _ dX0_hasRightThresholds_71 hP hD hS
    · refine z_iconst hx hb dX0_hasRightThresholds_10 ?_
      refine z_as (show 0 = rightZ G r from by first | rfl | omega | (unfold rightZ; omega)) ?_
      exact hret _ _ _ _ dX0_hasRightThresholds_11 hP hD hS
set_option maxHeartbeats 4000000 in
set_option maxRecDepth 100000 in
theorem m_X0_source (l : Launch) (D : va_G) (g : Nat) (ad : Nat → Nat) (cI : ClassId) (G : Nat → Int → Int) (r : Int) {B : Int} (hI : InvG B G) (h1 : 0 ≤ r ∧ r < 6)  : MW l D yX0_source (wsY yX0_source cX0_source 2 (some .int)) { frames := 1, cells := 0, slots := 0, locals := 22 } [(cI, .int)] [.ref g, .int (iI r)] (wG g ad cI G) (wG g ad cI G) (some (.int (iI (sourceZ G r)))) := by
  refine mw_ofI (cc := cX0_source) (maxL := 2) (by decide) rfl (Nat.le_of_ble_eq_true rfl) ?_
  intro p e s m below meth c R A Q args ls hx hb hml hown hts hRf hRl hRc hRs hN hK hP hD hS hA hret hl
  have hq : ∀ w ∈ ALL, w.before args s = true := fun w h => hts w (List.mem_cons_of_mem _ h)
  have hl : lv_has ls 2 [(0, .ref g), (1, .int (iI r))] := hl
  refine lv_aload_n hx hb dX0_source_0 rfl (lv_at hl 0 rfl) ?_
  refine lv_iload_n hx hb dX0_source_1 rfl (lv_at hl 1 rfl) ?_
  refine mw_full (st1 := [.int (iI (rightZ G r))]) (mr_V (As := [.int (iI r)]) (rest := []) (ci := 0) (q0 := 0) ⟨hx, hb, hml, hown, hts⟩ (m_X0_hasRightThresholds l D g ad cI G r hI (by omega)) (cwV 1 hts (gV q_45 q_46 q_47 q_8 q_43) rfl rfl rfl (by decide +kernel) ⟨Nat.le_trans (m := 1) (Nat.le_of_ble_eq_true rfl) (Nat.le_trans (Nat.le_of_ble_eq_true rfl) hRf), Nat.le_trans (m := 22) (Nat.le_of_ble_eq_true rfl) (Nat.le_trans (Nat.le_of_ble_eq_true rfl) hRl)⟩) hN hK hP hD rfl rfl rfl hl.1 (Nat.le_of_ble_eq_true rfl) ⟨hRc, hRs⟩ dX0_source_2) hD hS hA rfl (fun H locs hP hD hS => ?_)
  have hf_1 := rightZ_01 G r
  refine z_if_eq (tgt := 10) hx hb dX0_source_5 (by decide) (by omega) (fun c_2 => ?_) (fun c_2 => ?_)
  · refine lv_aload_n hx hb dX0_source_10 rfl (lv_at hl 0 rfl) ?_
    refine lv_iload_n hx hb dX0_source_11 rfl (lv_at hl 1 rfl) ?_
    refine z_iconst hx hb dX0_source_12 ?_
    refine z_isub hx hb dX0_source_13 ?_
    refine mw_full (st1 := [.int (iI (rightZ G (r - 1)))]) (mr_V (As := [.int (iI (r - 1))]) (rest := []) (ci := 0) (q0 := 0) ⟨hx, hb, hml, hown, hts⟩ (m_X0_hasRightThresholds l D g ad cI G (r - 1) hI (by omega)) (cwV 1 hts (gV q_45 q_46 q_47 q_8 q_43) rfl rfl rfl (by decide +kernel) ⟨Nat.le_trans (m := 1) (Nat.le_of_ble_eq_true rfl) (Nat.le_trans (Nat.le_of_ble_eq_true rfl) hRf), Nat.le_trans (m := 22) (Nat.le_of_ble_eq_true rfl) (Nat.le_trans (Nat.le_of_ble_eq_true rfl) hRl)⟩) hN hK hP hD rfl rfl rfl hl.1 (Nat.le_of_ble_eq_true rfl) ⟨hRc, hRs⟩ dX0_source_14) hD hS hA rfl (fun H locs hP hD hS => ?_)
    have hf_3 := rightZ_01 G (r - 1)
    refine z_if_ne (tgt := 30) hx hb dX0_source_17 (by decide) (by omega) (fun c_4 => ?_) (fun c_4 => ?_)
    · refine z_iconst hx hb dX0_source_30 ?_
      refine lv_goto (tgt := 35) hx hb dX0_source_31 (by decide) ?_
      refine z_as (show 1 = sourceZ G r from by first | rfl | omega | (unfold sourceZ; omega)) ?_
      exact hret _ _ _ _ dX0_source_35 hP hD hS
    · refine lv_aload_n hx hb dX0_source_20 rfl (lv_at hl 0 rfl) ?_
      refine lv_iload_n hx hb dX0_source_21 rfl (lv_at hl 1 rfl) ?_
      refine z_iconst hx hb dX0_source_22 ?_
      refine z_iadd hx hb dX0_source_23 ?_
      refine mw_full (st1 := [.int (iI (rightZ G (r + 1)))]) (mr_V (As := [.int (iI (r + 1))]) (rest := []) (ci := 0) (q0 := 0) ⟨hx, hb, hml, hown, hts⟩ (m_X0_hasRightThresholds l D g ad cI G (r + 1) hI (by omega)) (cwV 1 hts (gV q_45 q_46 q_47 q_8 q_43) rfl rfl rfl (by decide +kernel) ⟨Nat.le_trans (m := 1) (Nat.le_of_ble_eq_true rfl) (Nat.le_trans (Nat.le_of_ble_eq_true rfl) hRf), Nat.le_trans (m := 22) (Nat.le_of_ble_eq_true rfl) (Nat.le_trans (Nat.le_of_ble_eq_true rfl) hRl)⟩) hN hK hP hD rfl rfl rfl hl.1 (Nat.le_of_ble_eq_true rfl) ⟨hRc, hRs⟩ dX0_source_24) hD hS hA rfl (fun H locs hP hD hS => ?_)
      have hf_5 := rightZ_01 G (r + 1)
      refine z_if_eq (tgt := 34) hx hb dX0_source_27 (by decide) (by omega) (fun c_6 => ?_) (fun c_6 => ?_)
      · refine z_iconst hx hb dX0_source_34 ?_
        refine z_as (show 2 = sourceZ G r from by first | rfl | omega | (unfold sourceZ; omega)) ?_
        exact hret _ _ _ _ dX0_source_35 hP hD hS
      · refine z_iconst hx hb dX0_source_30 ?_
        refine lv_goto (tgt := 35) hx hb dX0_source_31 (by decide) ?_
        refine z_as (show 1 = sourceZ G r from by first | rfl | omega | (unfold sourceZ; omega)) ?_
        exact hret _ _ _ _ dX0_source_35 hP hD hS
  · refine z_iconst hx hb dX0_source_8 ?_
    refine z_as (show 0 = sourceZ G r from by first | rfl | omega | (unfold sourceZ; omega)) ?_
    exact hret _ _ _ _ dX0_source_9 hP hD hS
