set_option maxHeartbeats 4000000 in
set_option maxRecDepth 100000 in
theorem m_X2_isOutside (l : Launch) (D : va_G) (n lo hi : Int) (h1 : -2147483648 ≤ n ∧ n < 2147483648) (h2 : -2147483648 ≤ lo ∧ lo < 2147483648) (h3 : -2147483648 ≤ hi ∧ hi < 2147483648) : MW l D yX2_isOutside (wsY yX2_isOutside cX2_isOutside 3 (some .boolean)) { frames := 0, cells := 0, slots := 0, locals := 0 } [] [.int (iI n), .int (iI lo), .int (iI hi)] [] [] (some (.int (iI (outZ n lo hi)))) := by
  refine mw_ofZ (cc := cX2_isOutside) (maxL := 3) (ty := .boolean) (narrow_z01 (by have := outZ_01 n lo hi; omega)) (by decide) rfl (Nat.le_of_ble_eq_true rfl) ?_
  intro p e s m below meth c R A Q args ls hx hb hml hown hts hRf hRl hRc hRs hN hK hP hD hS hA hret hl
  have hq : ∀ w ∈ ALL, w.before args s = true := fun w h => hts w (List.mem_cons_of_mem _ h)
  have hl : lv_has ls 3 [(0, .int (iI n)), (1, .int (iI lo)), (2, .int (iI hi))] := hl
  refine lv_iload_n hx hb dX2_isOutside_0 rfl (lv_at hl 0 rfl) ?_
  refine lv_iload_n hx hb dX2_isOutside_1 rfl (lv_at hl 1 rfl) ?_
  refine z_icmp_lt (tgt := 10) hx hb dX2_isOutside_2 (by decide) (by omega) (by omega) (fun c_1 => ?_) (fun c_1 => ?_)
  · refine z_iconst hx hb dX2_isOutside_10 ?_
    refine lv_goto (tgt := 15) hx hb dX2_isOutside_11 (by decide) ?_
    refine z_as (show 1 = outZ n lo hi from by first | rfl | omega | (unfold outZ; omega)) ?_
    first | exact hret _ _ _ _ dX2_isOutside_15 hP hD hS | (exfalso; omega)
  · refine lv_iload_n hx hb dX2_isOutside_5 rfl (lv_at hl 0 rfl) ?_
    refine lv_iload_n hx hb dX2_isOutside_6 rfl (lv_at hl 2 rfl) ?_
    refine z_icmp_le (tgt := 14) hx hb dX2_isOutside_7 (by decide) (by omega) (by omega) (fun c_2 => ?_) (fun c_2 => ?_)
    · refine z_iconst hx hb dX2_isOutside_14 ?_
      refine z_as (show 0 = outZ n lo hi from by first | rfl | omega | (unfold outZ; omega)) ?_
      first | exact hret _ _ _ _ dX2_isOutside_15 hP hD hS | (exfalso; omega)
    · refine z_iconst hx hb dX2_isOutside_10 ?_
      refine lv_goto (tgt := 15) hx hb dX2_isOutside_11 (by decide) ?_
      refine z_as (show 1 = outZ n lo hi from by first | rfl | omega | (unfold outZ; omega)) ?_
      first | exact hret _ _ _ _ dX2_isOutside_15 hP hD hS | (exfalso; omega)
set_option maxHeartbeats 4000000 in
set_option maxRecDepth 100000 in
theorem m_X0_tell (l : Launch) (D : va_G) (v lo up : Int) (h1 : -2147483648 ≤ v ∧ v < 2147483648) (h2 : -2147483648 ≤ lo ∧ lo < 2147483648) (h3 : -2147483648 ≤ up ∧ up < 2147483648) : MW l D yX0_tell (wsY yX0_tell cX0_tell 3 (some .int)) { frames := 0, cells := 0, slots := 0, locals := 0 } [] [.int (iI v), .int (iI lo), .int (iI up)] [] [] (some (.int (iI (tellZ v lo up)))) := by
  refine mw_ofI (cc := cX0_tell) (maxL := 3) (by decide) rfl (Nat.le_of_ble_eq_true rfl) ?_
  intro p e s m below meth c R A Q args ls hx hb hml hown hts hRf hRl hRc hRs hN hK hP hD hS hA hret hl
  have hq : ∀ w ∈ ALL, w.before args s = true := fun w h => hts w (List.mem_cons_of_mem _ h)
  have hl : lv_has ls 3 [(0, .int (iI v)), (1, .int (iI lo)), (2, .int (iI up))] := hl
  refine lv_iload_n hx hb dX0_tell_0 rfl (lv_at hl 0 rfl) ?_
  refine lv_iload_n hx hb dX0_tell_1 rfl (lv_at hl 1 rfl) ?_
  refine z_icmp_ge (tgt := 7) hx hb dX0_tell_2 (by decide) (by omega) (by omega) (fun c_1 => ?_) (fun c_1 => ?_)
  · refine lv_iload_n hx hb dX0_tell_7 rfl (lv_at hl 0 rfl) ?_
    refine lv_iload_n hx hb dX0_tell_8 rfl (lv_at hl 2 rfl) ?_
    refine z_icmp_lt (tgt := 16) hx hb dX0_tell_9 (by decide) (by omega) (by omega) (fun c_2 => ?_) (fun c_2 => ?_)
    · refine z_iconst hx hb dX0_tell_16 ?_
      refine z_as (show 1 = tellZ v lo up from by first | rfl | omega | (unfold tellZ; omega)) ?_
      first | exact hret _ _ _ _ dX0_tell_17 hP hD hS | (exfalso; omega)
    · refine z_iconst hx hb dX0_tell_12 ?_
      refine lv_goto (tgt := 17) hx hb dX0_tell_13 (by decide) ?_
      refine z_as (show 2 = tellZ v lo up from by first | rfl | omega | (unfold tellZ; omega)) ?_
      first | exact hret _ _ _ _ dX0_tell_17 hP hD hS | (exfalso; omega)
  · refine z_iconst hx hb dX0_tell_5 ?_
    refine z_as (show 0 = tellZ v lo up from by first | rfl | omega | (unfold tellZ; omega)) ?_
    first | exact hret _ _ _ _ dX0_tell_6 hP hD hS | (exfalso; omega)
set_option maxHeartbeats 4000000 in
set_option maxRecDepth 100000 in
theorem m_X0_aim (l : Launch) (D : va_G) (v : Int)  : MW l D yX0_aim (wsY yX0_aim cX0_aim 1 (some .int)) { frames := 0, cells := 0, slots := 0, locals := 0 } [] [.int (iI v)] [] [] (some (.int (iI (aimZ v)))) := by
  refine mw_ofI (cc := cX0_aim) (maxL := 1) (by decide) rfl (Nat.le_of_ble_eq_true rfl) ?_
  intro p e s m below meth c R A Q args ls hx hb hml hown hts hRf hRl hRc hRs hN hK hP hD hS hA hret hl
  have hq : ∀ w ∈ ALL, w.before args s = true := fun w h => hts w (List.mem_cons_of_mem _ h)
  have hl : lv_has ls 1 [(0, .int (iI v))] := hl
  refine z_bipush hx hb dX0_aim_0 (by decide +kernel) ?_
  refine z_sipush hx hb dX0_aim_2 (by decide +kernel) ?_
  refine lv_iload_n hx hb dX0_aim_5 rfl (lv_at hl 0 rfl) ?_
  refine z_imul hx hb dX0_aim_6 ?_
  refine z_iadd hx hb dX0_aim_7 ?_
  refine z_as (show (100 + (400 * v)) = aimZ v from by first | rfl | omega | (unfold aimZ; omega)) ?_
  first | exact hret _ _ _ _ dX0_aim_8 hP hD hS | (exfalso; omega)
set_option maxHeartbeats 4000000 in
set_option maxRecDepth 100000 in
theorem m_X0_isOutsideCell (l : Launch) (D : va_G) (r c2 : Int) (h1 : -2147483648 ≤ r ∧ r < 2147483648) (h2 : -2147483648 ≤ c2 ∧ c2 < 2147483648) : MW l D yX0_isOutsideCell (wsY yX0_isOutsideCell cX0_isOutsideCell 2 (some .boolean)) { frames := 1, cells := 0, slots := 0, locals := 22 } [] [.int (iI r), .int (iI c2)] [] [] (some (.int (iI (if (r < 0 ∨ 5 < r) ∨ (c2 < 0 ∨ 7 < c2) then 1 else 0 : Int)))) := by
  refine mw_ofZ (cc := cX0_isOutsideCell) (maxL := 2) (ty := .boolean) (narrow_z01 (by omega)) (by decide) rfl (Nat.le_of_ble_eq_true rfl) ?_
  intro p e s m below meth c R A Q args ls hx hb hml hown hts hRf hRl hRc hRs hN hK hP hD hS hA hret hl
  have hq : ∀ w ∈ ALL, w.before args s = true := fun w h => hts w (List.mem_cons_of_mem _ h)
  have hl : lv_has ls 2 [(0, .int (iI r)), (1, .int (iI c2))] := hl
  refine lv_iload_n hx hb dX0_isOutsideCell_0 rfl (lv_at hl 0 rfl) ?_
  refine z_iconst hx hb dX0_isOutsideCell_1 ?_
  refine z_iconst hx hb dX0_isOutsideCell_2 ?_
  refine mw_none (st1 := [.int (iI (outZ r 0 5))]) (mr_SN (As := [.int (iI r), .int (iI 0), .int (iI 5)]) (rest := []) ⟨hx, hb, hml, hown, hts⟩ (m_X2_isOutside l D r 0 5 (by omega) (by omega) (by omega)) ⟨va_cnB 3 hts (gSelf q_35) rfl rfl rfl hN.1 (hq _ q_37) (by decide +kernel) ⟨Nat.le_trans (m := 1) (Nat.le_of_ble_eq_true rfl) (Nat.le_trans (Nat.le_of_ble_eq_true rfl) hRf), Nat.le_trans (m := 22) (Nat.le_of_ble_eq_true rfl) (Nat.le_trans (Nat.le_of_ble_eq_true rfl) hRl)⟩, hq _ q_36, trivial⟩ hN (hK.sub (tys' := []) [] rfl) (va_P0 _ _ _) (va_D0 A) rfl hl.1 (Nat.le_of_ble_eq_true rfl) ⟨hRc, hRs⟩ dX0_isOutsideCell_3) hP hS hA rfl (fun H locs hP hS => ?_)
  have hf_1 : outZ r 0 5 = if r < 0 ∨ 5 < r then 1 else 0 := rfl
  refine z_if_ne (tgt := 19) hx hb dX0_isOutsideCell_6 (by decide) (by omega) (fun c_2 => ?_) (fun c_2 => ?_)
  · refine z_iconst hx hb dX0_isOutsideCell_19 ?_
    refine lv_goto (tgt := 24) hx hb dX0_isOutsideCell_20 (by decide) ?_
    refine z_as (show 1 = (if (r < 0 ∨ 5 < r) ∨ (c2 < 0 ∨ 7 < c2) then 1 else 0 : Int) from by first | rfl | omega) ?_
    first | exact hret _ _ _ _ dX0_isOutsideCell_24 hP hD hS | (exfalso; omega)
  · refine lv_iload_n hx hb dX0_isOutsideCell_9 rfl (lv_at hl 1 rfl) ?_
    refine z_iconst hx hb dX0_isOutsideCell_10 ?_
    refine z_bipush hx hb dX0_isOutsideCell_11 (by decide +kernel) ?_
    refine mw_none (st1 := [.int (iI (outZ c2 0 7))]) (mr_SN (As := [.int (iI c2), .int (iI 0), .int (iI 7)]) (rest := []) ⟨hx, hb, hml, hown, hts⟩ (m_X2_isOutside l D c2 0 7 (by omega) (by omega) (by omega)) ⟨va_cnB 3 hts (gSelf q_35) rfl rfl rfl hN.1 (hq _ q_37) (by decide +kernel) ⟨Nat.le_trans (m := 1) (Nat.le_of_ble_eq_true rfl) (Nat.le_trans (Nat.le_of_ble_eq_true rfl) hRf), Nat.le_trans (m := 22) (Nat.le_of_ble_eq_true rfl) (Nat.le_trans (Nat.le_of_ble_eq_true rfl) hRl)⟩, hq _ q_36, trivial⟩ hN (hK.sub (tys' := []) [] rfl) (va_P0 _ _ _) (va_D0 A) rfl hl.1 (Nat.le_of_ble_eq_true rfl) ⟨hRc, hRs⟩ dX0_isOutsideCell_13) hP hS hA rfl (fun H locs hP hS => ?_)
    have hf_3 : outZ c2 0 7 = if c2 < 0 ∨ 7 < c2 then 1 else 0 := rfl
    refine z_if_eq (tgt := 23) hx hb dX0_isOutsideCell_16 (by decide) (by omega) (fun c_4 => ?_) (fun c_4 => ?_)
    · refine z_iconst hx hb dX0_isOutsideCell_23 ?_
      refine z_as (show 0 = (if (r < 0 ∨ 5 < r) ∨ (c2 < 0 ∨ 7 < c2) then 1 else 0 : Int) from by first | rfl | omega) ?_
      first | exact hret _ _ _ _ dX0_isOutsideCell_24 hP hD hS | (exfalso; omega)
    · refine z_iconst hx hb dX0_isOutsideCell_19 ?_
      refine lv_goto (tgt := 24) hx hb dX0_isOutsideCell_20 (by decide) ?_
      refine z_as (show 1 = (if (r < 0 ∨ 5 < r) ∨ (c2 < 0 ∨ 7 < c2) then 1 else 0 : Int) from by first | rfl | omega) ?_
      first | exact hret _ _ _ _ dX0_isOutsideCell_24 hP hD hS | (exfalso; omega)
set_option maxHeartbeats 4000000 in
set_option maxRecDepth 100000 in
theorem m_X0_isOutsideGuard (l : Launch) (D : va_G) (r c2 : Int) (h1 : -2147483648 ≤ r ∧ r < 2147483648) (h2 : -2147483648 ≤ c2 ∧ c2 < 2147483648) : MW l D yX0_isOutsideGuard (wsY yX0_isOutsideGuard cX0_isOutsideGuard 2 (some .boolean)) { frames := 1, cells := 0, slots := 0, locals := 22 } [] [.int (iI r), .int (iI c2)] [] [] (some (.int (iI (if (r < 0 ∨ 5 < r) ∨ (c2 < 0 ∨ 2 < c2) then 1 else 0 : Int)))) := by
  refine mw_ofZ (cc := cX0_isOutsideGuard) (maxL := 2) (ty := .boolean) (narrow_z01 (by omega)) (by decide) rfl (Nat.le_of_ble_eq_true rfl) ?_
  intro p e s m below meth c R A Q args ls hx hb hml hown hts hRf hRl hRc hRs hN hK hP hD hS hA hret hl
  have hq : ∀ w ∈ ALL, w.before args s = true := fun w h => hts w (List.mem_cons_of_mem _ h)
  have hl : lv_has ls 2 [(0, .int (iI r)), (1, .int (iI c2))] := hl
  refine lv_iload_n hx hb dX0_isOutsideGuard_0 rfl (lv_at hl 0 rfl) ?_
  refine z_iconst hx hb dX0_isOutsideGuard_1 ?_
  refine z_iconst hx hb dX0_isOutsideGuard_2 ?_
  refine mw_none (st1 := [.int (iI (outZ r 0 5))]) (mr_SN (As := [.int (iI r), .int (iI 0), .int (iI 5)]) (rest := []) ⟨hx, hb, hml, hown, hts⟩ (m_X2_isOutside l D r 0 5 (by omega) (by omega) (by omega)) ⟨va_cnB 3 hts (gSelf q_35) rfl rfl rfl hN.1 (hq _ q_37) (by decide +kernel) ⟨Nat.le_trans (m := 1) (Nat.le_of_ble_eq_true rfl) (Nat.le_trans (Nat.le_of_ble_eq_true rfl) hRf), Nat.le_trans (m := 22) (Nat.le_of_ble_eq_true rfl) (Nat.le_trans (Nat.le_of_ble_eq_true rfl) hRl)⟩, hq _ q_36, trivial⟩ hN (hK.sub (tys' := []) [] rfl) (va_P0 _ _ _) (va_D0 A) rfl hl.1 (Nat.le_of_ble_eq_true rfl) ⟨hRc, hRs⟩ dX0_isOutsideGuard_3) hP hS hA rfl (fun H locs hP hS => ?_)
  have hf_1 : outZ r 0 5 = if r < 0 ∨ 5 < r then 1 else 0 := rfl
  refine z_if_ne (tgt := 18) hx hb dX0_isOutsideGuard_6 (by decide) (by omega) (fun c_2 => ?_) (fun c_2 => ?_)
  · refine z_iconst hx hb dX0_isOutsideGuard_18 ?_
    refine lv_goto (tgt := 23) hx hb dX0_isOutsideGuard_19 (by decide) ?_
    refine z_as (show 1 = (if (r < 0 ∨ 5 < r) ∨ (c2 < 0 ∨ 2 < c2) then 1 else 0 : Int) from by first | rfl | omega) ?_
    first | exact hret _ _ _ _ dX0_isOutsideGuard_23 hP hD hS | (exfalso; omega)
  · refine lv_iload_n hx hb dX0_isOutsideGuard_9 rfl (lv_at hl 1 rfl) ?_
    refine z_iconst hx hb dX0_isOutsideGuard_10 ?_
    refine z_iconst hx hb dX0_isOutsideGuard_11 ?_
    refine mw_none (st1 := [.int (iI (outZ c2 0 2))]) (mr_SN (As := [.int (iI c2), .int (iI 0), .int (iI 2)]) (rest := []) ⟨hx, hb, hml, hown, hts⟩ (m_X2_isOutside l D c2 0 2 (by omega) (by omega) (by omega)) ⟨va_cnB 3 hts (gSelf q_35) rfl rfl rfl hN.1 (hq _ q_37) (by decide +kernel) ⟨Nat.le_trans (m := 1) (Nat.le_of_ble_eq_true rfl) (Nat.le_trans (Nat.le_of_ble_eq_true rfl) hRf), Nat.le_trans (m := 22) (Nat.le_of_ble_eq_true rfl) (Nat.le_trans (Nat.le_of_ble_eq_true rfl) hRl)⟩, hq _ q_36, trivial⟩ hN (hK.sub (tys' := []) [] rfl) (va_P0 _ _ _) (va_D0 A) rfl hl.1 (Nat.le_of_ble_eq_true rfl) ⟨hRc, hRs⟩ dX0_isOutsideGuard_12) hP hS hA rfl (fun H locs hP hS => ?_)
    have hf_3 : outZ c2 0 2 = if c2 < 0 ∨ 2 < c2 then 1 else 0 := rfl
    refine z_if_eq (tgt := 22) hx hb dX0_isOutsideGuard_15 (by decide) (by omega) (fun c_4 => ?_) (fun c_4 => ?_)
    · refine z_iconst hx hb dX0_isOutsideGuard_22 ?_
      refine z_as (show 0 = (if (r < 0 ∨ 5 < r) ∨ (c2 < 0 ∨ 2 < c2) then 1 else 0 : Int) from by first | rfl | omega) ?_
      first | exact hret _ _ _ _ dX0_isOutsideGuard_23 hP hD hS | (exfalso; omega)
    · refine z_iconst hx hb dX0_isOutsideGuard_18 ?_
      refine lv_goto (tgt := 23) hx hb dX0_isOutsideGuard_19 (by decide) ?_
      refine z_as (show 1 = (if (r < 0 ∨ 5 < r) ∨ (c2 < 0 ∨ 2 < c2) then 1 else 0 : Int) from by first | rfl | omega) ?_
      first | exact hret _ _ _ _ dX0_isOutsideGuard_23 hP hD hS | (exfalso; omega)
set_option maxHeartbeats 4000000 in
set_option maxRecDepth 100000 in
theorem m_X0_ownThreshold (l : Launch) (D : va_G) (g : Nat) (ad : Nat → Nat) (cI : ClassId) (G : Nat → Int → Int) (r w : Int) {B : Int} (hI : InvG B G) (h1 : 0 ≤ r ∧ r < 6) (h2 : 0 ≤ w ∧ w < 2)  : MW l D yX0_ownThreshold (wsY yX0_ownThreshold cX0_ownThreshold 4 (some .int)) { frames := 0, cells := 0, slots := 0, locals := 0 } [(cI, .int)] [.ref g, .int (iI r), .int (iI w)] (wG g ad cI G) (wG g ad cI G) (some (.int (iI (ownZ G r w)))) := by
  refine mw_ofI (cc := cX0_ownThreshold) (maxL := 4) (by decide) rfl (Nat.le_of_ble_eq_true rfl) ?_
  intro p e s m below meth c R A Q args ls hx hb hml hown hts hRf hRl hRc hRs hN hK hP hD hS hA hret hl
  have hq : ∀ w ∈ ALL, w.before args s = true := fun w h => hts w (List.mem_cons_of_mem _ h)
  have hl : lv_has ls 4 [(0, .ref g), (1, .int (iI r)), (2, .int (iI w))] := hl
  refine z_iconst hx hb dX0_ownThreshold_0 ?_
  refine lv_iload_n hx hb dX0_ownThreshold_1 rfl (lv_at hl 1 rfl) ?_
  refine z_imul hx hb dX0_ownThreshold_2 ?_
  refine lv_iload_n hx hb dX0_ownThreshold_3 rfl (lv_at hl 2 rfl) ?_
  refine z_iadd hx hb dX0_ownThreshold_4 ?_
  refine lv_istore_n (lv' := [(3, .int (iI ((3 * r) + w))), (0, .ref g), (1, .int (iI r)), (2, .int (iI w))]) hx hb dX0_ownThreshold_5 rfl hl (by decide) rfl (fun ls hl => ?_)
  refine lv_aload_n hx hb dX0_ownThreshold_6 rfl (lv_at hl 1 rfl) ?_
  refine va_get (D := D) (ci := 0) (v := .ref (ad 4)) (C := RX0) (T := TX0) (N := 13) hx hb hq inA0 hown hK hP 0 rfl rfl 4 (by decide) (hq _ q_11) (fun _ h9 => h9) rfl dX0_ownThreshold_7 ?_
  refine lv_iload_n hx hb dX0_ownThreshold_10 rfl (lv_at hl 0 rfl) ?_
  refine z_iald hx hb hK hP 5 0 rfl rfl (by omega) (by omega) (v := (G 4 ((3 * r) + w))) rfl dX0_ownThreshold_11 ?_
  have hv_1 := invG_4 hI ((3 * r) + w) (by omega) (by omega)
  refine lv_aload_n hx hb dX0_ownThreshold_12 rfl (lv_at hl 1 rfl) ?_
  refine va_get (D := D) (ci := 0) (v := .ref (ad 4)) (C := RX0) (T := TX0) (N := 13) hx hb hq inA0 hown hK hP 0 rfl rfl 4 (by decide) (hq _ q_11) (fun _ h9 => h9) rfl dX0_ownThreshold_13 ?_
  refine lv_iload_n hx hb dX0_ownThreshold_16 rfl (lv_at hl 0 rfl) ?_
  refine z_iconst hx hb dX0_ownThreshold_17 ?_
  refine z_iadd hx hb dX0_ownThreshold_18 ?_
  refine z_iald hx hb hK hP 5 0 rfl rfl (by omega) (by omega) (v := (G 4 (((3 * r) + w) + 1))) rfl dX0_ownThreshold_19 ?_
  have hv_2 := invG_4 hI (((3 * r) + w) + 1) (by omega) (by omega)
  refine z_iadd hx hb dX0_ownThreshold_20 ?_
  refine z_iconst hx hb dX0_ownThreshold_21 ?_
  refine z_idiv hx hb dX0_ownThreshold_22 (by omega) (by omega) ?_
  refine z_as (show (((G 4 ((3 * r) + w)) + (G 4 (((3 * r) + w) + 1))) / 2) = ownZ G r w from by first | rfl | omega) ?_
  first | exact hret _ _ _ _ dX0_ownThreshold_23 hP hD hS | (exfalso; omega)
set_option maxHeartbeats 4000000 in
set_option maxRecDepth 100000 in
theorem m_X0_hasRightThresholds (l : Launch) (D : va_G) (g : Nat) (ad : Nat → Nat) (cI : ClassId) (G : Nat → Int → Int) (r : Int) {B : Int} (hI : InvG B G) (h1 : -2147483648 ≤ r ∧ r < 2147483648)  : MW l D yX0_hasRightThresholds (wsY yX0_hasRightThresholds cX0_hasRightThresholds 3 (some .boolean)) { frames := 0, cells := 0, slots := 0, locals := 0 } [(cI, .int)] [.ref g, .int (iI r)] (wG g ad cI G) (wG g ad cI G) (some (.int (iI (rightZ G r)))) := by
  refine mw_ofZ (cc := cX0_hasRightThresholds) (maxL := 3) (ty := .boolean) (narrow_z01 (rightZ_01 G r)) (by decide) rfl (Nat.le_of_ble_eq_true rfl) ?_
  intro p e s m below meth c R A Q args ls hx hb hml hown hts hRf hRl hRc hRs hN hK hP hD hS hA hret hl
  have hq : ∀ w ∈ ALL, w.before args s = true := fun w h => hts w (List.mem_cons_of_mem _ h)
  have hl : lv_has ls 3 [(0, .ref g), (1, .int (iI r))] := hl
  have hs1 := invG_s1 hI
  refine lv_iload_n hx hb dX0_hasRightThresholds_0 rfl (lv_at hl 1 rfl) ?_
  refine z_if_lt (tgt := 10) hx hb dX0_hasRightThresholds_1 (by decide) (by omega) (fun c_1 => ?_) (fun c_1 => ?_)
  · refine z_iconst hx hb dX0_hasRightThresholds_10 ?_
    refine z_as (show 0 = rightZ G r from by first | rfl | omega | (unfold rightZ; omega)) ?_
    first | exact hret _ _ _ _ dX0_hasRightThresholds_11 hP hD hS | (exfalso; omega)
  · refine lv_iload_n hx hb dX0_hasRightThresholds_4 rfl (lv_at hl 1 rfl) ?_
    refine z_bipush hx hb dX0_hasRightThresholds_5 (by decide +kernel) ?_
    refine z_icmp_lt (tgt := 12) hx hb dX0_hasRightThresholds_7 (by decide) (by omega) (by omega) (fun c_2 => ?_) (fun c_2 => ?_)
    · refine z_iconst hx hb dX0_hasRightThresholds_12 ?_
      refine lv_iload_n hx hb dX0_hasRightThresholds_13 rfl (lv_at hl 1 rfl) ?_
      refine z_imul hx hb dX0_hasRightThresholds_14 ?_
      refine lv_istore_n (lv' := [(2, .int (iI (3 * r))), (0, .ref g), (1, .int (iI r))]) hx hb dX0_hasRightThresholds_15 rfl hl (by decide) rfl (fun ls hl => ?_)
      refine lv_aload_n hx hb dX0_hasRightThresholds_16 rfl (lv_at hl 1 rfl) ?_
      refine va_get (D := D) (ci := 0) (v := .ref (ad 4)) (C := RX0) (T := TX0) (N := 13) hx hb hq inA0 hown hK hP 0 rfl rfl 4 (by decide) (hq _ q_11) (fun _ h9 => h9) rfl dX0_hasRightThresholds_17 ?_
      refine lv_iload_n hx hb dX0_hasRightThresholds_20 rfl (lv_at hl 0 rfl) ?_
      refine z_iconst hx hb dX0_hasRightThresholds_21 ?_
      refine z_iadd hx hb dX0_hasRightThresholds_22 ?_
      refine z_iald hx hb hK hP 5 0 rfl rfl (by omega) (by omega) (v := (G 4 ((3 * r) + 1))) rfl dX0_hasRightThresholds_23 ?_
      have hv_3 := invG_4 hI ((3 * r) + 1) (by omega) (by omega)
      refine lv_aload_n hx hb dX0_hasRightThresholds_24 rfl (lv_at hl 1 rfl) ?_
      refine va_get (D := D) (ci := 0) (v := .ref (ad 4)) (C := RX0) (T := TX0) (N := 13) hx hb hq inA0 hown hK hP 0 rfl rfl 4 (by decide) (hq _ q_11) (fun _ h9 => h9) rfl dX0_hasRightThresholds_25 ?_
      refine lv_iload_n hx hb dX0_hasRightThresholds_28 rfl (lv_at hl 0 rfl) ?_
      refine z_iald hx hb hK hP 5 0 rfl rfl (by omega) (by omega) (v := (G 4 (3 * r))) rfl dX0_hasRightThresholds_29 ?_
      have hv_4 := invG_4 hI (3 * r) (by omega) (by omega)
      refine z_isub hx hb dX0_hasRightThresholds_30 ?_
      refine lv_aload_n hx hb dX0_hasRightThresholds_31 rfl (lv_at hl 1 rfl) ?_
      refine va_get (D := D) (ci := 0) (v := .ref (ad 11)) (C := RX0) (T := TX0) (N := 13) hx hb hq inA0 hown hK hP 0 rfl rfl 11 (by decide) (hq _ q_22) (fun _ h9 => h9) rfl dX0_hasRightThresholds_32 ?_
      refine z_iconst hx hb dX0_hasRightThresholds_35 ?_
      refine z_iald hx hb hK hP 12 0 rfl rfl (by omega) (by omega) (v := (G 11 1)) rfl dX0_hasRightThresholds_36 ?_
      have hv_5 := invG_11 hI 1 (by omega) (by omega)
      refine z_icmp_lt (tgt := 70) hx hb dX0_hasRightThresholds_37 (by decide) (by omega) (by omega) (fun c_6 => ?_) (fun c_6 => ?_)
      · refine z_iconst hx hb dX0_hasRightThresholds_70 ?_
        refine z_as (show 0 = rightZ G r from by first | rfl | omega | (unfold rightZ; omega)) ?_
        first | exact hret _ _ _ _ dX0_hasRightThresholds_71 hP hD hS | (exfalso; omega)
      · refine lv_aload_n hx hb dX0_hasRightThresholds_40 rfl (lv_at hl 1 rfl) ?_
        refine va_get (D := D) (ci := 0) (v := .ref (ad 4)) (C := RX0) (T := TX0) (N := 13) hx hb hq inA0 hown hK hP 0 rfl rfl 4 (by decide) (hq _ q_11) (fun _ h9 => h9) rfl dX0_hasRightThresholds_41 ?_
        refine lv_iload_n hx hb dX0_hasRightThresholds_44 rfl (lv_at hl 0 rfl) ?_
        refine z_iconst hx hb dX0_hasRightThresholds_45 ?_
        refine z_iadd hx hb dX0_hasRightThresholds_46 ?_
        refine z_iald hx hb hK hP 5 0 rfl rfl (by omega) (by omega) (v := (G 4 ((3 * r) + 2))) rfl dX0_hasRightThresholds_47 ?_
        have hv_7 := invG_4 hI ((3 * r) + 2) (by omega) (by omega)
        refine lv_aload_n hx hb dX0_hasRightThresholds_48 rfl (lv_at hl 1 rfl) ?_
        refine va_get (D := D) (ci := 0) (v := .ref (ad 4)) (C := RX0) (T := TX0) (N := 13) hx hb hq inA0 hown hK hP 0 rfl rfl 4 (by decide) (hq _ q_11) (fun _ h9 => h9) rfl dX0_hasRightThresholds_49 ?_
        refine lv_iload_n hx hb dX0_hasRightThresholds_52 rfl (lv_at hl 0 rfl) ?_
        refine z_iconst hx hb dX0_hasRightThresholds_53 ?_
        refine z_iadd hx hb dX0_hasRightThresholds_54 ?_
        refine z_iald hx hb hK hP 5 0 rfl rfl (by omega) (by omega) (v := (G 4 ((3 * r) + 1))) rfl dX0_hasRightThresholds_55 ?_
        have hv_8 := invG_4 hI ((3 * r) + 1) (by omega) (by omega)
        refine z_isub hx hb dX0_hasRightThresholds_56 ?_
        refine lv_aload_n hx hb dX0_hasRightThresholds_57 rfl (lv_at hl 1 rfl) ?_
        refine va_get (D := D) (ci := 0) (v := .ref (ad 11)) (C := RX0) (T := TX0) (N := 13) hx hb hq inA0 hown hK hP 0 rfl rfl 11 (by decide) (hq _ q_22) (fun _ h9 => h9) rfl dX0_hasRightThresholds_58 ?_
        refine z_iconst hx hb dX0_hasRightThresholds_61 ?_
        refine z_iald hx hb hK hP 12 0 rfl rfl (by omega) (by omega) (v := (G 11 1)) rfl dX0_hasRightThresholds_62 ?_
        have hv_9 := invG_11 hI 1 (by omega) (by omega)
        refine z_icmp_lt (tgt := 70) hx hb dX0_hasRightThresholds_63 (by decide) (by omega) (by omega) (fun c_10 => ?_) (fun c_10 => ?_)
        · refine z_iconst hx hb dX0_hasRightThresholds_70 ?_
          refine z_as (show 0 = rightZ G r from by first | rfl | omega | (unfold rightZ; omega)) ?_
          first | exact hret _ _ _ _ dX0_hasRightThresholds_71 hP hD hS | (exfalso; omega)
        · refine z_iconst hx hb dX0_hasRightThresholds_66 ?_
          refine lv_goto (tgt := 71) hx hb dX0_hasRightThresholds_67 (by decide) ?_
          refine z_as (show 1 = rightZ G r from by first | rfl | omega | (unfold rightZ; omega)) ?_
          first | exact hret _ _ _ _ dX0_hasRightThresholds_71 hP hD hS | (exfalso; omega)
    · refine z_iconst hx hb dX0_hasRightThresholds_10 ?_
      refine z_as (show 0 = rightZ G r from by first | rfl | omega | (unfold rightZ; omega)) ?_
      first | exact hret _ _ _ _ dX0_hasRightThresholds_11 hP hD hS | (exfalso; omega)
set_option maxHeartbeats 4000000 in
set_option maxRecDepth 100000 in
theorem m_X0_source (l : Launch) (D : va_G) (g : Nat) (ad : Nat → Nat) (cI : ClassId) (G : Nat → Int → Int) (r : Int) {B : Int} (hI : InvG B G) (h1 : 0 ≤ r ∧ r < 6)  : MW l D yX0_source (wsY yX0_source cX0_source 2 (some .int)) { frames := 1, cells := 0, slots := 0, locals := 22 } [(cI, .int)] [.ref g, .int (iI r)] (wG g ad cI G) (wG g ad cI G) (some (.int (iI (sourceZ G r)))) := by
  refine mw_ofI (cc := cX0_source) (maxL := 2) (by decide) rfl (Nat.le_of_ble_eq_true rfl) ?_
  intro p e s m below meth c R A Q args ls hx hb hml hown hts hRf hRl hRc hRs hN hK hP hD hS hA hret hl
  have hq : ∀ w ∈ ALL, w.before args s = true := fun w h => hts w (List.mem_cons_of_mem _ h)
  have hl : lv_has ls 2 [(0, .ref g), (1, .int (iI r))] := hl
  refine lv_aload_n hx hb dX0_source_0 rfl (lv_at hl 0 rfl) ?_
  refine lv_iload_n hx hb dX0_source_1 rfl (lv_at hl 1 rfl) ?_
  refine mw_full (st1 := [.int (iI (rightZ G r))]) (mr_V (As := [.int (iI r)]) (rest := []) (ci := 0) (q0 := 0) ⟨hx, hb, hml, hown, hts⟩ (m_X0_hasRightThresholds l D g ad cI G r hI (by omega)) (cwV 1 hts (gV q_45 q_46 q_47 q_8 q_43) rfl rfl rfl (by decide +kernel) ⟨Nat.le_trans (m := 1) (Nat.le_of_ble_eq_true rfl) (Nat.le_trans (Nat.le_of_ble_eq_true rfl) hRf), Nat.le_trans (m := 22) (Nat.le_of_ble_eq_true rfl) (Nat.le_trans (Nat.le_of_ble_eq_true rfl) hRl)⟩) hN hK hP hD rfl rfl rfl hl.1 (Nat.le_of_ble_eq_true rfl) ⟨hRc, hRs⟩ dX0_source_2) hD hS hA rfl (fun H locs hP hD hS => ?_)
  have hf_1 := rightZ_01 G r
  refine z_if_eq (tgt := 10) hx hb dX0_source_5 (by decide) (by omega) (fun c_2 => ?_) (fun c_2 => ?_)
  · refine lv_aload_n hx hb dX0_source_10 rfl (lv_at hl 0 rfl) ?_
    refine lv_iload_n hx hb dX0_source_11 rfl (lv_at hl 1 rfl) ?_
    refine z_iconst hx hb dX0_source_12 ?_
    refine z_isub hx hb dX0_source_13 ?_
    refine mw_full (st1 := [.int (iI (rightZ G (r - 1)))]) (mr_V (As := [.int (iI (r - 1))]) (rest := []) (ci := 0) (q0 := 0) ⟨hx, hb, hml, hown, hts⟩ (m_X0_hasRightThresholds l D g ad cI G (r - 1) hI (by omega)) (cwV 1 hts (gV q_45 q_46 q_47 q_8 q_43) rfl rfl rfl (by decide +kernel) ⟨Nat.le_trans (m := 1) (Nat.le_of_ble_eq_true rfl) (Nat.le_trans (Nat.le_of_ble_eq_true rfl) hRf), Nat.le_trans (m := 22) (Nat.le_of_ble_eq_true rfl) (Nat.le_trans (Nat.le_of_ble_eq_true rfl) hRl)⟩) hN hK hP hD rfl rfl rfl hl.1 (Nat.le_of_ble_eq_true rfl) ⟨hRc, hRs⟩ dX0_source_14) hD hS hA rfl (fun H locs hP hD hS => ?_)
    have hf_3 := rightZ_01 G (r - 1)
    refine z_if_ne (tgt := 30) hx hb dX0_source_17 (by decide) (by omega) (fun c_4 => ?_) (fun c_4 => ?_)
    · refine z_iconst hx hb dX0_source_30 ?_
      refine lv_goto (tgt := 35) hx hb dX0_source_31 (by decide) ?_
      refine z_as (show 1 = sourceZ G r from by first | rfl | omega | (unfold sourceZ; omega)) ?_
      first | exact hret _ _ _ _ dX0_source_35 hP hD hS | (exfalso; omega)
    · refine lv_aload_n hx hb dX0_source_20 rfl (lv_at hl 0 rfl) ?_
      refine lv_iload_n hx hb dX0_source_21 rfl (lv_at hl 1 rfl) ?_
      refine z_iconst hx hb dX0_source_22 ?_
      refine z_iadd hx hb dX0_source_23 ?_
      refine mw_full (st1 := [.int (iI (rightZ G (r + 1)))]) (mr_V (As := [.int (iI (r + 1))]) (rest := []) (ci := 0) (q0 := 0) ⟨hx, hb, hml, hown, hts⟩ (m_X0_hasRightThresholds l D g ad cI G (r + 1) hI (by omega)) (cwV 1 hts (gV q_45 q_46 q_47 q_8 q_43) rfl rfl rfl (by decide +kernel) ⟨Nat.le_trans (m := 1) (Nat.le_of_ble_eq_true rfl) (Nat.le_trans (Nat.le_of_ble_eq_true rfl) hRf), Nat.le_trans (m := 22) (Nat.le_of_ble_eq_true rfl) (Nat.le_trans (Nat.le_of_ble_eq_true rfl) hRl)⟩) hN hK hP hD rfl rfl rfl hl.1 (Nat.le_of_ble_eq_true rfl) ⟨hRc, hRs⟩ dX0_source_24) hD hS hA rfl (fun H locs hP hD hS => ?_)
      have hf_5 := rightZ_01 G (r + 1)
      refine z_if_eq (tgt := 34) hx hb dX0_source_27 (by decide) (by omega) (fun c_6 => ?_) (fun c_6 => ?_)
      · refine z_iconst hx hb dX0_source_34 ?_
        refine z_as (show 2 = sourceZ G r from by first | rfl | omega | (unfold sourceZ; omega)) ?_
        first | exact hret _ _ _ _ dX0_source_35 hP hD hS | (exfalso; omega)
      · refine z_iconst hx hb dX0_source_30 ?_
        refine lv_goto (tgt := 35) hx hb dX0_source_31 (by decide) ?_
        refine z_as (show 1 = sourceZ G r from by first | rfl | omega | (unfold sourceZ; omega)) ?_
        first | exact hret _ _ _ _ dX0_source_35 hP hD hS | (exfalso; omega)
  · refine z_iconst hx hb dX0_source_8 ?_
    refine z_as (show 0 = sourceZ G r from by first | rfl | omega | (unfold sourceZ; omega)) ?_
    first | exact hret _ _ _ _ dX0_source_9 hP hD hS | (exfalso; omega)
set_option maxHeartbeats 4000000 in
set_option maxRecDepth 100000 in
theorem m_X0_threshold (l : Launch) (D : va_G) (g : Nat) (ad : Nat → Nat) (cI : ClassId) (G : Nat → Int → Int) (r w : Int) {B : Int} (hI : InvG B G) (h1 : 0 ≤ r ∧ r < 6) (h2 : 0 ≤ w ∧ w < 2)  : MW l D yX0_threshold (wsY yX0_threshold cX0_threshold 5 (some .int)) { frames := 1, cells := 0, slots := 0, locals := 23 } [(cI, .int)] [.ref g, .int (iI r), .int (iI w)] (wG g ad cI G) (wG g ad cI G) (some (.int (iI (thrZ G r w)))) := by
  refine mw_ofI (cc := cX0_threshold) (maxL := 5) (by decide) rfl (Nat.le_of_ble_eq_true rfl) ?_
  intro p e s m below meth c R A Q args ls hx hb hml hown hts hRf hRl hRc hRs hN hK hP hD hS hA hret hl
  have hq : ∀ w ∈ ALL, w.before args s = true := fun w h => hts w (List.mem_cons_of_mem _ h)
  have hl : lv_has ls 5 [(0, .ref g), (1, .int (iI r)), (2, .int (iI w))] := hl
  refine lv_aload_n hx hb dX0_threshold_0 rfl (lv_at hl 0 rfl) ?_
  refine lv_iload_n hx hb dX0_threshold_1 rfl (lv_at hl 1 rfl) ?_
  refine mw_full (st1 := [.int (iI (rightZ G r))]) (mr_V (As := [.int (iI r)]) (rest := []) (ci := 0) (q0 := 0) ⟨hx, hb, hml, hown, hts⟩ (m_X0_hasRightThresholds l D g ad cI G r hI (by omega)) (cwV 1 hts (gV q_45 q_46 q_47 q_8 q_43) rfl rfl rfl (by decide +kernel) ⟨Nat.le_trans (m := 1) (Nat.le_of_ble_eq_true rfl) (Nat.le_trans (Nat.le_of_ble_eq_true rfl) hRf), Nat.le_trans (m := 22) (Nat.le_of_ble_eq_true rfl) (Nat.le_trans (Nat.le_of_ble_eq_true rfl) hRl)⟩) hN hK hP hD rfl rfl rfl hl.1 (Nat.le_of_ble_eq_true rfl) ⟨hRc, hRs⟩ dX0_threshold_2) hD hS hA rfl (fun H locs hP hD hS => ?_)
  have hf_1 := rightZ_01 G r
  refine z_if_eq (tgt := 15) hx hb dX0_threshold_5 (by decide) (by omega) (fun c_2 => ?_) (fun c_2 => ?_)
  · refine lv_aload_n hx hb dX0_threshold_15 rfl (lv_at hl 0 rfl) ?_
    refine lv_iload_n hx hb dX0_threshold_16 rfl (lv_at hl 1 rfl) ?_
    refine z_iconst hx hb dX0_threshold_17 ?_
    refine z_isub hx hb dX0_threshold_18 ?_
    refine mw_full (st1 := [.int (iI (rightZ G (r - 1)))]) (mr_V (As := [.int (iI (r - 1))]) (rest := []) (ci := 0) (q0 := 0) ⟨hx, hb, hml, hown, hts⟩ (m_X0_hasRightThresholds l D g ad cI G (r - 1) hI (by omega)) (cwV 1 hts (gV q_45 q_46 q_47 q_8 q_43) rfl rfl rfl (by decide +kernel) ⟨Nat.le_trans (m := 1) (Nat.le_of_ble_eq_true rfl) (Nat.le_trans (Nat.le_of_ble_eq_true rfl) hRf), Nat.le_trans (m := 22) (Nat.le_of_ble_eq_true rfl) (Nat.le_trans (Nat.le_of_ble_eq_true rfl) hRl)⟩) hN hK hP hD rfl rfl rfl hl.1 (Nat.le_of_ble_eq_true rfl) ⟨hRc, hRs⟩ dX0_threshold_19) hD hS hA rfl (fun H locs hP hD hS => ?_)
    have hf_3 := rightZ_01 G (r - 1)
    refine lv_istore_n (lv' := [(3, .int (iI (rightZ G (r - 1)))), (0, .ref g), (1, .int (iI r)), (2, .int (iI w))]) hx hb dX0_threshold_22 rfl hl (by decide) rfl (fun ls hl => ?_)
    refine lv_aload_n hx hb dX0_threshold_23 rfl (lv_at hl 1 rfl) ?_
    refine lv_iload_n hx hb dX0_threshold_24 rfl (lv_at hl 2 rfl) ?_
    refine z_iconst hx hb dX0_threshold_25 ?_
    refine z_iadd hx hb dX0_threshold_26 ?_
    refine mw_full (st1 := [.int (iI (rightZ G (r + 1)))]) (mr_V (As := [.int (iI (r + 1))]) (rest := []) (ci := 0) (q0 := 0) ⟨hx, hb, hml, hown, hts⟩ (m_X0_hasRightThresholds l D g ad cI G (r + 1) hI (by omega)) (cwV 1 hts (gV q_45 q_46 q_47 q_8 q_43) rfl rfl rfl (by decide +kernel) ⟨Nat.le_trans (m := 1) (Nat.le_of_ble_eq_true rfl) (Nat.le_trans (Nat.le_of_ble_eq_true rfl) hRf), Nat.le_trans (m := 22) (Nat.le_of_ble_eq_true rfl) (Nat.le_trans (Nat.le_of_ble_eq_true rfl) hRl)⟩) hN hK hP hD rfl rfl rfl hl.1 (Nat.le_of_ble_eq_true rfl) ⟨hRc, hRs⟩ dX0_threshold_27) hD hS hA rfl (fun H locs hP hD hS => ?_)
    have hf_4 := rightZ_01 G (r + 1)
    refine lv_istore (lv' := [(4, .int (iI (rightZ G (r + 1)))), (3, .int (iI (rightZ G (r - 1)))), (0, .ref g), (1, .int (iI r)), (2, .int (iI w))]) hx hb dX0_threshold_30 hl (by decide) rfl (fun ls hl => ?_)
    refine lv_iload_n hx hb dX0_threshold_32 rfl (lv_at hl 1 rfl) ?_
    refine z_if_eq (tgt := 61) hx hb dX0_threshold_33 (by decide) (by omega) (fun c_5 => ?_) (fun c_5 => ?_)
    · refine lv_iload_n hx hb dX0_threshold_61 rfl (lv_at hl 1 rfl) ?_
      refine z_if_eq (tgt := 74) hx hb dX0_threshold_62 (by decide) (by omega) (fun c_6 => ?_) (fun c_6 => ?_)
      · refine lv_iload hx hb dX0_threshold_74 (lv_at hl 0 rfl) ?_
        refine z_if_eq (tgt := 88) hx hb dX0_threshold_76 (by decide) (by omega) (fun c_7 => ?_) (fun c_7 => ?_)
        · refine lv_iload_n hx hb dX0_threshold_88 rfl (lv_at hl 4 rfl) ?_
          refine z_if_ne (tgt := 98) hx hb dX0_threshold_89 (by decide) (by omega) (fun c_8 => ?_) (fun c_8 => ?_)
          · refine z_sipush hx hb dX0_threshold_98 (by decide +kernel) ?_
            refine z_as (show 700 = thrZ G r w from by first | rfl | omega | (unfold thrZ; omega)) ?_
            first | exact hret _ _ _ _ dX0_threshold_101 hP hD hS | (exfalso; omega)
          · refine z_sipush hx hb dX0_threshold_92 (by decide +kernel) ?_
            refine lv_goto (tgt := 101) hx hb dX0_threshold_95 (by decide) ?_
            refine z_as (show 300 = thrZ G r w from by first | rfl | omega | (unfold thrZ; omega)) ?_
            first | exact hret _ _ _ _ dX0_threshold_101 hP hD hS | (exfalso; omega)
        · have hh4 := rightZ_in c_7
          refine lv_aload_n hx hb dX0_threshold_79 rfl (lv_at hl 2 rfl) ?_
          refine lv_iload_n hx hb dX0_threshold_80 rfl (lv_at hl 3 rfl) ?_
          refine z_iconst hx hb dX0_threshold_81 ?_
          refine z_iadd hx hb dX0_threshold_82 ?_
          refine lv_iload_n hx hb dX0_threshold_83 rfl (lv_at hl 4 rfl) ?_
          refine mw_full (st1 := [.int (iI (ownZ G (r + 1) w))]) (mr_V (As := [.int (iI (r + 1)), .int (iI w)]) (rest := []) (ci := 0) (q0 := 0) ⟨hx, hb, hml, hown, hts⟩ (m_X0_ownThreshold l D g ad cI G (r + 1) w hI (by omega) (by omega)) (cwV 2 hts (gV q_48 q_49 q_50 q_8 q_44) rfl rfl rfl (by decide +kernel) ⟨Nat.le_trans (m := 1) (Nat.le_of_ble_eq_true rfl) (Nat.le_trans (Nat.le_of_ble_eq_true rfl) hRf), Nat.le_trans (m := 23) (Nat.le_of_ble_eq_true rfl) (Nat.le_trans (Nat.le_of_ble_eq_true rfl) hRl)⟩) hN hK hP hD rfl rfl rfl hl.1 (Nat.le_of_ble_eq_true rfl) ⟨hRc, hRs⟩ dX0_threshold_84) hD hS hA rfl (fun H locs hP hD hS => ?_)
          have hf_9 := ownZ_bd hI (r + 1) w (by omega) (by omega)
          refine z_as (show ownZ G (r + 1) w = thrZ G r w from by first | rfl | omega | (unfold thrZ; omega)) ?_
          first | exact hret _ _ _ _ dX0_threshold_87 hP hD hS | (exfalso; omega)
      · have hh3 := rightZ_in c_6
        refine lv_aload_n hx hb dX0_threshold_65 rfl (lv_at hl 2 rfl) ?_
        refine lv_iload_n hx hb dX0_threshold_66 rfl (lv_at hl 3 rfl) ?_
        refine z_iconst hx hb dX0_threshold_67 ?_
        refine z_isub hx hb dX0_threshold_68 ?_
        refine lv_iload_n hx hb dX0_threshold_69 rfl (lv_at hl 4 rfl) ?_
        refine mw_full (st1 := [.int (iI (ownZ G (r - 1) w))]) (mr_V (As := [.int (iI (r - 1)), .int (iI w)]) (rest := []) (ci := 0) (q0 := 0) ⟨hx, hb, hml, hown, hts⟩ (m_X0_ownThreshold l D g ad cI G (r - 1) w hI (by omega) (by omega)) (cwV 2 hts (gV q_48 q_49 q_50 q_8 q_44) rfl rfl rfl (by decide +kernel) ⟨Nat.le_trans (m := 1) (Nat.le_of_ble_eq_true rfl) (Nat.le_trans (Nat.le_of_ble_eq_true rfl) hRf), Nat.le_trans (m := 23) (Nat.le_of_ble_eq_true rfl) (Nat.le_trans (Nat.le_of_ble_eq_true rfl) hRl)⟩) hN hK hP hD rfl rfl rfl hl.1 (Nat.le_of_ble_eq_true rfl) ⟨hRc, hRs⟩ dX0_threshold_70) hD hS hA rfl (fun H locs hP hD hS => ?_)
        have hf_10 := ownZ_bd hI (r - 1) w (by omega) (by omega)
        refine z_as (show ownZ G (r - 1) w = thrZ G r w from by first | rfl | omega | (unfold thrZ; omega)) ?_
        first | exact hret _ _ _ _ dX0_threshold_73 hP hD hS | (exfalso; omega)
    · have hh1 := rightZ_in c_5
      refine lv_iload hx hb dX0_threshold_36 (lv_at hl 0 rfl) ?_
      refine z_if_eq (tgt := 61) hx hb dX0_threshold_38 (by decide) (by omega) (fun c_11 => ?_) (fun c_11 => ?_)
      · refine lv_iload_n hx hb dX0_threshold_61 rfl (lv_at hl 1 rfl) ?_
        refine z_if_eq (tgt := 74) hx hb dX0_threshold_62 (by decide) (by omega) (fun c_12 => ?_) (fun c_12 => ?_)
        · refine lv_iload hx hb dX0_threshold_74 (lv_at hl 0 rfl) ?_
          refine z_if_eq (tgt := 88) hx hb dX0_threshold_76 (by decide) (by omega) (fun c_13 => ?_) (fun c_13 => ?_)
          · refine lv_iload_n hx hb dX0_threshold_88 rfl (lv_at hl 4 rfl) ?_
            refine z_if_ne (tgt := 98) hx hb dX0_threshold_89 (by decide) (by omega) (fun c_14 => ?_) (fun c_14 => ?_)
            · refine z_sipush hx hb dX0_threshold_98 (by decide +kernel) ?_
              refine z_as (show 700 = thrZ G r w from by first | rfl | omega | (unfold thrZ; omega)) ?_
              first | exact hret _ _ _ _ dX0_threshold_101 hP hD hS | (exfalso; omega)
            · refine z_sipush hx hb dX0_threshold_92 (by decide +kernel) ?_
              refine lv_goto (tgt := 101) hx hb dX0_threshold_95 (by decide) ?_
              refine z_as (show 300 = thrZ G r w from by first | rfl | omega | (unfold thrZ; omega)) ?_
              first | exact hret _ _ _ _ dX0_threshold_101 hP hD hS | (exfalso; omega)
          · have hh4 := rightZ_in c_13
            refine lv_aload_n hx hb dX0_threshold_79 rfl (lv_at hl 2 rfl) ?_
            refine lv_iload_n hx hb dX0_threshold_80 rfl (lv_at hl 3 rfl) ?_
            refine z_iconst hx hb dX0_threshold_81 ?_
            refine z_iadd hx hb dX0_threshold_82 ?_
            refine lv_iload_n hx hb dX0_threshold_83 rfl (lv_at hl 4 rfl) ?_
            refine mw_full (st1 := [.int (iI (ownZ G (r + 1) w))]) (mr_V (As := [.int (iI (r + 1)), .int (iI w)]) (rest := []) (ci := 0) (q0 := 0) ⟨hx, hb, hml, hown, hts⟩ (m_X0_ownThreshold l D g ad cI G (r + 1) w hI (by omega) (by omega)) (cwV 2 hts (gV q_48 q_49 q_50 q_8 q_44) rfl rfl rfl (by decide +kernel) ⟨Nat.le_trans (m := 1) (Nat.le_of_ble_eq_true rfl) (Nat.le_trans (Nat.le_of_ble_eq_true rfl) hRf), Nat.le_trans (m := 23) (Nat.le_of_ble_eq_true rfl) (Nat.le_trans (Nat.le_of_ble_eq_true rfl) hRl)⟩) hN hK hP hD rfl rfl rfl hl.1 (Nat.le_of_ble_eq_true rfl) ⟨hRc, hRs⟩ dX0_threshold_84) hD hS hA rfl (fun H locs hP hD hS => ?_)
            have hf_15 := ownZ_bd hI (r + 1) w (by omega) (by omega)
            refine z_as (show ownZ G (r + 1) w = thrZ G r w from by first | rfl | omega | (unfold thrZ; omega)) ?_
            first | exact hret _ _ _ _ dX0_threshold_87 hP hD hS | (exfalso; omega)
        · have hh3 := rightZ_in c_12
          refine lv_aload_n hx hb dX0_threshold_65 rfl (lv_at hl 2 rfl) ?_
          refine lv_iload_n hx hb dX0_threshold_66 rfl (lv_at hl 3 rfl) ?_
          refine z_iconst hx hb dX0_threshold_67 ?_
          refine z_isub hx hb dX0_threshold_68 ?_
          refine lv_iload_n hx hb dX0_threshold_69 rfl (lv_at hl 4 rfl) ?_
          refine mw_full (st1 := [.int (iI (ownZ G (r - 1) w))]) (mr_V (As := [.int (iI (r - 1)), .int (iI w)]) (rest := []) (ci := 0) (q0 := 0) ⟨hx, hb, hml, hown, hts⟩ (m_X0_ownThreshold l D g ad cI G (r - 1) w hI (by omega) (by omega)) (cwV 2 hts (gV q_48 q_49 q_50 q_8 q_44) rfl rfl rfl (by decide +kernel) ⟨Nat.le_trans (m := 1) (Nat.le_of_ble_eq_true rfl) (Nat.le_trans (Nat.le_of_ble_eq_true rfl) hRf), Nat.le_trans (m := 23) (Nat.le_of_ble_eq_true rfl) (Nat.le_trans (Nat.le_of_ble_eq_true rfl) hRl)⟩) hN hK hP hD rfl rfl rfl hl.1 (Nat.le_of_ble_eq_true rfl) ⟨hRc, hRs⟩ dX0_threshold_70) hD hS hA rfl (fun H locs hP hD hS => ?_)
          have hf_16 := ownZ_bd hI (r - 1) w (by omega) (by omega)
          refine z_as (show ownZ G (r - 1) w = thrZ G r w from by first | rfl | omega | (unfold thrZ; omega)) ?_
          first | exact hret _ _ _ _ dX0_threshold_73 hP hD hS | (exfalso; omega)
      · have hh2 := rightZ_in c_11
        refine lv_aload_n hx hb dX0_threshold_41 rfl (lv_at hl 2 rfl) ?_
        refine lv_iload_n hx hb dX0_threshold_42 rfl (lv_at hl 3 rfl) ?_
        refine z_iconst hx hb dX0_threshold_43 ?_
        refine z_isub hx hb dX0_threshold_44 ?_
        refine lv_iload_n hx hb dX0_threshold_45 rfl (lv_at hl 4 rfl) ?_
        refine mw_full (st1 := [.int (iI (ownZ G (r - 1) w))]) (mr_V (As := [.int (iI (r - 1)), .int (iI w)]) (rest := []) (ci := 0) (q0 := 0) ⟨hx, hb, hml, hown, hts⟩ (m_X0_ownThreshold l D g ad cI G (r - 1) w hI (by omega) (by omega)) (cwV 2 hts (gV q_48 q_49 q_50 q_8 q_44) rfl rfl rfl (by decide +kernel) ⟨Nat.le_trans (m := 1) (Nat.le_of_ble_eq_true rfl) (Nat.le_trans (Nat.le_of_ble_eq_true rfl) hRf), Nat.le_trans (m := 23) (Nat.le_of_ble_eq_true rfl) (Nat.le_trans (Nat.le_of_ble_eq_true rfl) hRl)⟩) hN hK hP hD rfl rfl rfl hl.1 (Nat.le_of_ble_eq_true rfl) ⟨hRc, hRs⟩ dX0_threshold_46) hD hS hA rfl (fun H locs hP hD hS => ?_)
        have hf_17 := ownZ_bd hI (r - 1) w (by omega) (by omega)
        refine lv_aload_n hx hb dX0_threshold_49 rfl (lv_at hl 2 rfl) ?_
        refine lv_iload_n hx hb dX0_threshold_50 rfl (lv_at hl 3 rfl) ?_
        refine z_iconst hx hb dX0_threshold_51 ?_
        refine z_iadd hx hb dX0_threshold_52 ?_
        refine lv_iload_n hx hb dX0_threshold_53 rfl (lv_at hl 4 rfl) ?_
        refine mw_full (st1 := [.int (iI (ownZ G (r + 1) w)), .int (iI (ownZ G (r - 1) w))]) (mr_V (As := [.int (iI (r + 1)), .int (iI w)]) (rest := [.int (iI (ownZ G (r - 1) w))]) (ci := 0) (q0 := 0) ⟨hx, hb, hml, hown, hts⟩ (m_X0_ownThreshold l D g ad cI G (r + 1) w hI (by omega) (by omega)) (cwV 2 hts (gV q_48 q_49 q_50 q_8 q_44) rfl rfl rfl (by decide +kernel) ⟨Nat.le_trans (m := 1) (Nat.le_of_ble_eq_true rfl) (Nat.le_trans (Nat.le_of_ble_eq_true rfl) hRf), Nat.le_trans (m := 23) (Nat.le_of_ble_eq_true rfl) (Nat.le_trans (Nat.le_of_ble_eq_true rfl) hRl)⟩) hN hK hP hD rfl rfl rfl hl.1 (Nat.le_of_ble_eq_true rfl) ⟨hRc, hRs⟩ dX0_threshold_54) hD hS hA rfl (fun H locs hP hD hS => ?_)
        have hf_18 := ownZ_bd hI (r + 1) w (by omega) (by omega)
        refine z_iadd hx hb dX0_threshold_57 ?_
        refine z_iconst hx hb dX0_threshold_58 ?_
        refine z_idiv hx hb dX0_threshold_59 (by omega) (by omega) ?_
        refine z_as (show ((ownZ G (r - 1) w + ownZ G (r + 1) w) / 2) = thrZ G r w from by first | rfl | omega | (unfold thrZ; omega)) ?_
        first | exact hret _ _ _ _ dX0_threshold_60 hP hD hS | (exfalso; omega)
  · refine lv_aload_n hx hb dX0_threshold_8 rfl (lv_at hl 0 rfl) ?_
    refine lv_iload_n hx hb dX0_threshold_9 rfl (lv_at hl 1 rfl) ?_
    refine lv_iload_n hx hb dX0_threshold_10 rfl (lv_at hl 2 rfl) ?_
    refine mw_full (st1 := [.int (iI (ownZ G r w))]) (mr_V (As := [.int (iI r), .int (iI w)]) (rest := []) (ci := 0) (q0 := 0) ⟨hx, hb, hml, hown, hts⟩ (m_X0_ownThreshold l D g ad cI G r w hI (by omega) (by omega)) (cwV 2 hts (gV q_48 q_49 q_50 q_8 q_44) rfl rfl rfl (by decide +kernel) ⟨Nat.le_trans (m := 1) (Nat.le_of_ble_eq_true rfl) (Nat.le_trans (Nat.le_of_ble_eq_true rfl) hRf), Nat.le_trans (m := 23) (Nat.le_of_ble_eq_true rfl) (Nat.le_trans (Nat.le_of_ble_eq_true rfl) hRl)⟩) hN hK hP hD rfl rfl rfl hl.1 (Nat.le_of_ble_eq_true rfl) ⟨hRc, hRs⟩ dX0_threshold_11) hD hS hA rfl (fun H locs hP hD hS => ?_)
    have hf_19 := ownZ_bd hI r w (by omega) (by omega)
    refine z_as (show ownZ G r w = thrZ G r w from by first | rfl | omega | (unfold thrZ; omega)) ?_
    first | exact hret _ _ _ _ dX0_threshold_14 hP hD hS | (exfalso; omega)
set_option maxHeartbeats 4000000 in
set_option maxRecDepth 100000 in
theorem m_X0_wrongBy (l : Launch) (D : va_G) (g : Nat) (ad : Nat → Nat) (cI : ClassId) (G : Nat → Int → Int) (r lo up : Int) {B : Int} (hI : InvG B G) (h1 : 0 ≤ r ∧ r < 6) (h2 : -2147483648 ≤ lo ∧ lo < 2147483648) (h3 : -2147483648 ≤ up ∧ up < 2147483648)  : MW l D yX0_wrongBy (wsY yX0_wrongBy cX0_wrongBy 7 (some .int)) { frames := 1, cells := 0, slots := 0, locals := 22 } [(cI, .int)] [.ref g, .int (iI r), .int (iI lo), .int (iI up)] (wG g ad cI G) (wG g ad cI G) (some (.int (iI (wrongByZ G r lo up 8)))) := by
  refine mw_ofI (cc := cX0_wrongBy) (maxL := 7) (by decide) rfl (Nat.le_of_ble_eq_true rfl) ?_
  intro p e s m below meth c R A Q args ls hx hb hml hown hts hRf hRl hRc hRs hN hK hP hD hS hA hret hl
  have hq : ∀ w ∈ ALL, w.before args s = true := fun w h => hts w (List.mem_cons_of_mem _ h)
  have hl : lv_has ls 7 [(0, .ref g), (1, .int (iI r)), (2, .int (iI lo)), (3, .int (iI up))] := hl
  refine z_iconst hx hb dX0_wrongBy_0 ?_
  refine lv_istore (lv' := [(4, .int (iI 0)), (0, .ref g), (1, .int (iI r)), (2, .int (iI lo)), (3, .int (iI up))]) hx hb dX0_wrongBy_1 hl (by decide) rfl (fun ls hl => ?_)
  refine z_iconst hx hb dX0_wrongBy_3 ?_
  refine lv_istore (lv' := [(5, .int (iI 0)), (4, .int (iI 0)), (0, .ref g), (1, .int (iI r)), (2, .int (iI lo)), (3, .int (iI up))]) hx hb dX0_wrongBy_4 hl (by decide) rfl (fun ls hl => ?_)
  have LP6 : ∀ (fu i : Nat), i ≤ 8 → 8 < fu + i → ∀ (H : Heap) (locs : List Loc) (ls : Array Slot), va_P D vwCl (wG g ad cI G) H → va_D A (wG g ad cI G) → va_S A s.heap H locs → lv_has ls 7 [(5, .int (iI (i : Int))), (4, .int (iI (wrongByZ G r lo up i))), (0, .ref g), (1, .int (iI r)), (2, .int (iI lo)), (3, .int (iI up))] → W p l e R s m args below meth c H locs 0 0 Q (F0 m 6 ls []) := by
    intro fu
    induction fu with
    | zero => intro i h1 h2; omega
    | succ fu ih6 =>
      intro i hi1 hif H locs ls hP hD hS hl
      refine lv_iload hx hb dX0_wrongBy_6 (lv_at hl 0 rfl) ?_
      refine z_bipush hx hb dX0_wrongBy_8 (by decide +kernel) ?_
      refine z_icmp_ge (tgt := 53) hx hb dX0_wrongBy_10 (by decide) (by omega) (by omega) (fun c_1 => ?_) (fun c_1 => ?_)
      · refine lv_iload hx hb dX0_wrongBy_53 (lv_at hl 1 rfl) ?_
        refine z_as (show (wrongByZ G r lo up i) = wrongByZ G r lo up 8 from by (have hiN : i = 8 := by omega); rw [hiN]; first | done | rfl) ?_
        first | exact hret _ _ _ _ dX0_wrongBy_55 hP hD hS | (exfalso; omega)
      · refine z_bipush hx hb dX0_wrongBy_13 (by decide +kernel) ?_
        refine lv_iload_n hx hb dX0_wrongBy_15 rfl (lv_at hl 3 rfl) ?_
        refine z_imul hx hb dX0_wrongBy_16 ?_
        refine lv_iload hx hb dX0_wrongBy_17 (lv_at hl 0 rfl) ?_
        refine z_iadd hx hb dX0_wrongBy_19 ?_
        refine lv_istore (lv' := [(6, .int (iI ((8 * r) + (i : Int)))), (5, .int (iI (i : Int))), (4, .int (iI (wrongByZ G r lo up i))), (0, .ref g), (1, .int (iI r)), (2, .int (iI lo)), (3, .int (iI up))]) hx hb dX0_wrongBy_20 hl (by decide) rfl (fun ls hl => ?_)
        refine lv_aload_n hx hb dX0_wrongBy_22 rfl (lv_at hl 3 rfl) ?_
        refine va_get (D := D) (ci := 0) (v := .ref (ad 1)) (C := RX0) (T := TX0) (N := 13) hx hb hq inA0 hown hK hP 0 rfl rfl 1 (by decide) (hq _ q_3) (fun _ h9 => h9) rfl dX0_wrongBy_23 ?_
        refine lv_iload hx hb dX0_wrongBy_26 (lv_at hl 0 rfl) ?_
        refine z_iald hx hb hK hP 2 0 rfl rfl (by omega) (by omega) (v := (G 1 ((8 * r) + (i : Int)))) rfl dX0_wrongBy_28 ?_
        have hv_2 := invG_1 hI ((8 * r) + (i : Int)) (by omega) (by omega)
        refine lv_iload_n hx hb dX0_wrongBy_29 rfl (lv_at hl 5 rfl) ?_
        refine lv_iload_n hx hb dX0_wrongBy_30 rfl (lv_at hl 6 rfl) ?_
        refine mw_none (st1 := [.int (iI (tellZ (G 1 ((8 * r) + (i : Int))) lo up))]) (mr_S (As := [.int (iI (G 1 ((8 * r) + (i : Int)))), .int (iI lo), .int (iI up)]) (rest := []) ⟨hx, hb, hml, hown, hts⟩ (m_X0_tell l D (G 1 ((8 * r) + (i : Int))) lo up (by omega) (by omega) (by omega)) (va_cwS 3 hts (gS q_56 q_57 q_8 q_52) rfl rfl rfl (by decide +kernel) ⟨Nat.le_trans (m := 1) (Nat.le_of_ble_eq_true rfl) (Nat.le_trans (Nat.le_of_ble_eq_true rfl) hRf), Nat.le_trans (m := 22) (Nat.le_of_ble_eq_true rfl) (Nat.le_trans (Nat.le_of_ble_eq_true rfl) hRl)⟩) hN (hK.sub (tys' := []) [] rfl) (va_P0 _ _ _) (va_D0 A) rfl hl.1 (Nat.le_of_ble_eq_true rfl) ⟨hRc, hRs⟩ dX0_wrongBy_31) hP hS hA rfl (fun H locs hP hS => ?_)
        have hf_3 := tellZ_01 (G 1 ((8 * r) + (i : Int))) lo up
        refine lv_aload_n hx hb dX0_wrongBy_34 rfl (lv_at hl 3 rfl) ?_
        refine va_get (D := D) (ci := 0) (v := .ref (ad 0)) (C := RX0) (T := TX0) (N := 13) hx hb hq inA0 hown hK hP 0 rfl rfl 0 (by decide) (hq _ q_2) (fun _ h9 => h9) rfl dX0_wrongBy_35 ?_
        refine lv_iload hx hb dX0_wrongBy_38 (lv_at hl 0 rfl) ?_
        refine z_iald hx hb hK hP 1 0 rfl rfl (by omega) (by omega) (v := (G 0 ((8 * r) + (i : Int)))) rfl dX0_wrongBy_40 ?_
        have hv_4 := invG_0 hI ((8 * r) + (i : Int)) (by omega) (by omega)
        refine z_icmp_eq (tgt := 47) hx hb dX0_wrongBy_41 (by decide) (by omega) (by omega) (fun c_5 => ?_) (fun c_5 => ?_)
        · refine lv_iinc (v := iI ((i : Int) + 1)) (lv' := [(5, .int (iI ((i : Int) + 1))), (6, .int (iI ((8 * r) + (i : Int)))), (4, .int (iI (wrongByZ G r lo up i))), (0, .ref g), (1, .int (iI r)), (2, .int (iI lo)), (3, .int (iI up))]) hx hb dX0_wrongBy_47 hl (k := 1) rfl (iI_add _ _) (by decide) rfl (fun ls hl => ?_)
          refine lv_goto (tgt := 6) hx hb dX0_wrongBy_50 (by decide) ?_
          have e1_0 : (((i + 1 : Nat) : Int)) = ((i : Int) + 1) := by first | omega | (simp only [wrongByZ, sumZ]; omega)
          have e1_1 : ((wrongByZ G r lo up (i + 1))) = (wrongByZ G r lo up i) := by first | omega | (simp only [wrongByZ, sumZ]; omega)
          exact ih6 (i + 1) (by omega) (by omega) _ _ _ hP hD hS (lv_to (lv_sub (l' := [(5, .int (iI ((i : Int) + 1))), (4, .int (iI (wrongByZ G r lo up i))), (0, .ref g), (1, .int (iI r)), (2, .int (iI lo)), (3, .int (iI up))]) hl [0, 2, 3, 4, 5, 6] rfl) (by simp only [e1_0, e1_1]))
        · refine lv_iinc (v := iI ((wrongByZ G r lo up i) + 1)) (lv' := [(4, .int (iI ((wrongByZ G r lo up i) + 1))), (6, .int (iI ((8 * r) + (i : Int)))), (5, .int (iI (i : Int))), (0, .ref g), (1, .int (iI r)), (2, .int (iI lo)), (3, .int (iI up))]) hx hb dX0_wrongBy_44 hl (k := 2) rfl (iI_add _ _) (by decide) rfl (fun ls hl => ?_)
          refine lv_iinc (v := iI ((i : Int) + 1)) (lv' := [(5, .int (iI ((i : Int) + 1))), (4, .int (iI ((wrongByZ G r lo up i) + 1))), (6, .int (iI ((8 * r) + (i : Int)))), (0, .ref g), (1, .int (iI r)), (2, .int (iI lo)), (3, .int (iI up))]) hx hb dX0_wrongBy_47 hl (k := 2) rfl (iI_add _ _) (by decide) rfl (fun ls hl => ?_)
          refine lv_goto (tgt := 6) hx hb dX0_wrongBy_50 (by decide) ?_
          have e1_0 : (((i + 1 : Nat) : Int)) = ((i : Int) + 1) := by first | omega | (simp only [wrongByZ, sumZ]; omega)
          have e1_1 : ((wrongByZ G r lo up (i + 1))) = ((wrongByZ G r lo up i) + 1) := by first | omega | (simp only [wrongByZ, sumZ]; omega)
          exact ih6 (i + 1) (by omega) (by omega) _ _ _ hP hD hS (lv_to (lv_sub (l' := [(5, .int (iI ((i : Int) + 1))), (4, .int (iI ((wrongByZ G r lo up i) + 1))), (0, .ref g), (1, .int (iI r)), (2, .int (iI lo)), (3, .int (iI up))]) hl [0, 1, 3, 4, 5, 6] rfl) (by simp only [e1_0, e1_1]))
  have e0_0 : (((0 : Nat) : Int)) = 0 := by first | rfl | omega
  have e0_1 : ((wrongByZ G r lo up (0))) = 0 := by first | rfl | omega
  exact LP6 (8 + 1) 0 (by omega) (by omega) _ _ _ hP hD hS (lv_to (lv_sub (l' := [(5, .int (iI 0)), (4, .int (iI 0)), (0, .ref g), (1, .int (iI r)), (2, .int (iI lo)), (3, .int (iI up))]) hl [0, 1, 2, 3, 4, 5] rfl) (by simp only [e0_0, e0_1]))
set_option maxHeartbeats 4000000 in
set_option maxRecDepth 100000 in
theorem m_X0_wrongCells (l : Launch) (D : va_G) (g : Nat) (ad : Nat → Nat) (cI : ClassId) (G : Nat → Int → Int) (r : Int) {B : Int} (hI : InvG B G) (h1 : 0 ≤ r ∧ r < 6)  : MW l D yX0_wrongCells (wsY yX0_wrongCells cX0_wrongCells 2 (some .int)) { frames := 2, cells := 0, slots := 0, locals := 48 } [(cI, .int)] [.ref g, .int (iI r)] (wG g ad cI G) (wG g ad cI G) (some (.int (iI (wrongZ G r)))) := by
  refine mw_ofI (cc := cX0_wrongCells) (maxL := 2) (by decide) rfl (Nat.le_of_ble_eq_true rfl) ?_
  intro p e s m below meth c R A Q args ls hx hb hml hown hts hRf hRl hRc hRs hN hK hP hD hS hA hret hl
  have hq : ∀ w ∈ ALL, w.before args s = true := fun w h => hts w (List.mem_cons_of_mem _ h)
  have hl : lv_has ls 2 [(0, .ref g), (1, .int (iI r))] := hl
  refine lv_aload_n hx hb dX0_wrongCells_0 rfl (lv_at hl 0 rfl) ?_
  refine lv_iload_n hx hb dX0_wrongCells_1 rfl (lv_at hl 1 rfl) ?_
  refine lv_aload_n hx hb dX0_wrongCells_2 rfl (lv_at hl 0 rfl) ?_
  refine lv_iload_n hx hb dX0_wrongCells_3 rfl (lv_at hl 1 rfl) ?_
  refine z_iconst hx hb dX0_wrongCells_4 ?_
  refine mw_full (st1 := [.int (iI (thrZ G r 0)), .int (iI r), .ref g]) (mr_V (As := [.int (iI r), .int (iI 0)]) (rest := [.int (iI r), .ref g]) (ci := 0) (q0 := 0) ⟨hx, hb, hml, hown, hts⟩ (m_X0_threshold l D g ad cI G r 0 hI (by omega) (by omega)) (cwV 2 hts (gV q_53 q_54 q_55 q_8 q_51) rfl rfl rfl (by decide +kernel) ⟨Nat.le_trans (m := 2) (Nat.le_of_ble_eq_true rfl) (Nat.le_trans (Nat.le_of_ble_eq_true rfl) hRf), Nat.le_trans (m := 47) (Nat.le_of_ble_eq_true rfl) (Nat.le_trans (Nat.le_of_ble_eq_true rfl) hRl)⟩) hN hK hP hD rfl rfl rfl hl.1 (Nat.le_of_ble_eq_true rfl) ⟨hRc, hRs⟩ dX0_wrongCells_5) hD hS hA rfl (fun H locs hP hD hS => ?_)
  have hf_1 := thrZ_bd hI r 0 (by omega) (by omega)
  refine lv_aload_n hx hb dX0_wrongCells_8 rfl (lv_at hl 0 rfl) ?_
  refine lv_iload_n hx hb dX0_wrongCells_9 rfl (lv_at hl 1 rfl) ?_
  refine z_iconst hx hb dX0_wrongCells_10 ?_
  refine mw_full (st1 := [.int (iI (thrZ G r 1)), .int (iI (thrZ G r 0)), .int (iI r), .ref g]) (mr_V (As := [.int (iI r), .int (iI 1)]) (rest := [.int (iI (thrZ G r 0)), .int (iI r), .ref g]) (ci := 0) (q0 := 0) ⟨hx, hb, hml, hown, hts⟩ (m_X0_threshold l D g ad cI G r 1 hI (by omega) (by omega)) (cwV 2 hts (gV q_53 q_54 q_55 q_8 q_51) rfl rfl rfl (by decide +kernel) ⟨Nat.le_trans (m := 2) (Nat.le_of_ble_eq_true rfl) (Nat.le_trans (Nat.le_of_ble_eq_true rfl) hRf), Nat.le_trans (m := 47) (Nat.le_of_ble_eq_true rfl) (Nat.le_trans (Nat.le_of_ble_eq_true rfl) hRl)⟩) hN hK hP hD rfl rfl rfl hl.1 (Nat.le_of_ble_eq_true rfl) ⟨hRc, hRs⟩ dX0_wrongCells_11) hD hS hA rfl (fun H locs hP hD hS => ?_)
  have hf_2 := thrZ_bd hI r 1 (by omega) (by omega)
  refine mw_full (st1 := [.int (iI (wrongByZ G r (thrZ G r 0) (thrZ G r 1) 8))]) (mr_V (As := [.int (iI r), .int (iI (thrZ G r 0)), .int (iI (thrZ G r 1))]) (rest := []) (ci := 0) (q0 := 0) ⟨hx, hb, hml, hown, hts⟩ (m_X0_wrongBy l D g ad cI G r (thrZ G r 0) (thrZ G r 1) hI (by omega) (by omega) (by omega)) (cwV 3 hts (gV q_107 q_108 q_109 q_8 q_106) rfl rfl rfl (by decide +kernel) ⟨Nat.le_trans (m := 2) (Nat.le_of_ble_eq_true rfl) (Nat.le_trans (Nat.le_of_ble_eq_true rfl) hRf), Nat.le_trans (m := 48) (Nat.le_of_ble_eq_true rfl) (Nat.le_trans (Nat.le_of_ble_eq_true rfl) hRl)⟩) hN hK hP hD rfl rfl rfl hl.1 (Nat.le_of_ble_eq_true rfl) ⟨hRc, hRs⟩ dX0_wrongCells_14) hD hS hA rfl (fun H locs hP hD hS => ?_)
  have hf_3 := wrongByZ_bd G r (thrZ G r 0) (thrZ G r 1) 8
  refine z_as (show wrongByZ G r (thrZ G r 0) (thrZ G r 1) 8 = wrongZ G r from by first | rfl | omega) ?_
  first | exact hret _ _ _ _ dX0_wrongCells_17 hP hD hS | (exfalso; omega)
set_option maxHeartbeats 4000000 in
set_option maxRecDepth 100000 in
theorem m_X0_toldWord (l : Launch) (D : va_G) (g : Nat) (ad : Nat → Nat) (cI : ClassId) (G : Nat → Int → Int) (r : Int) {B : Int} (hI : InvG B G) (h1 : 0 ≤ r ∧ r < 6)  : MW l D yX0_toldWord (wsY yX0_toldWord cX0_toldWord 6 (some .int)) { frames := 2, cells := 0, slots := 0, locals := 47 } [(cI, .int)] [.ref g, .int (iI r)] (wG g ad cI G) (wG g ad cI G) (some (.int (iI (toldWordZ G r)))) := by
  refine mw_ofI (cc := cX0_toldWord) (maxL := 6) (by decide) rfl (Nat.le_of_ble_eq_true rfl) ?_
  intro p e s m below meth c R A Q args ls hx hb hml hown hts hRf hRl hRc hRs hN hK hP hD hS hA hret hl
  have hq : ∀ w ∈ ALL, w.before args s = true := fun w h => hts w (List.mem_cons_of_mem _ h)
  have hl : lv_has ls 6 [(0, .ref g), (1, .int (iI r))] := hl
  refine lv_aload_n hx hb dX0_toldWord_0 rfl (lv_at hl 0 rfl) ?_
  refine lv_iload_n hx hb dX0_toldWord_1 rfl (lv_at hl 1 rfl) ?_
  refine z_iconst hx hb dX0_toldWord_2 ?_
  refine mw_full (st1 := [.int (iI (thrZ G r 0))]) (mr_V (As := [.int (iI r), .int (iI 0)]) (rest := []) (ci := 0) (q0 := 0) ⟨hx, hb, hml, hown, hts⟩ (m_X0_threshold l D g ad cI G r 0 hI (by omega) (by omega)) (cwV 2 hts (gV q_53 q_54 q_55 q_8 q_51) rfl rfl rfl (by decide +kernel) ⟨Nat.le_trans (m := 2) (Nat.le_of_ble_eq_true rfl) (Nat.le_trans (Nat.le_of_ble_eq_true rfl) hRf), Nat.le_trans (m := 47) (Nat.le_of_ble_eq_true rfl) (Nat.le_trans (Nat.le_of_ble_eq_true rfl) hRl)⟩) hN hK hP hD rfl rfl rfl hl.1 (Nat.le_of_ble_eq_true rfl) ⟨hRc, hRs⟩ dX0_toldWord_3) hD hS hA rfl (fun H locs hP hD hS => ?_)
  have hf_1 := thrZ_bd hI r 0 (by omega) (by omega)
  refine lv_istore_n (lv' := [(2, .int (iI (thrZ G r 0))), (0, .ref g), (1, .int (iI r))]) hx hb dX0_toldWord_6 rfl hl (by decide) rfl (fun ls hl => ?_)
  refine lv_aload_n hx hb dX0_toldWord_7 rfl (lv_at hl 1 rfl) ?_
  refine lv_iload_n hx hb dX0_toldWord_8 rfl (lv_at hl 2 rfl) ?_
  refine z_iconst hx hb dX0_toldWord_9 ?_
  refine mw_full (st1 := [.int (iI (thrZ G r 1))]) (mr_V (As := [.int (iI r), .int (iI 1)]) (rest := []) (ci := 0) (q0 := 0) ⟨hx, hb, hml, hown, hts⟩ (m_X0_threshold l D g ad cI G r 1 hI (by omega) (by omega)) (cwV 2 hts (gV q_53 q_54 q_55 q_8 q_51) rfl rfl rfl (by decide +kernel) ⟨Nat.le_trans (m := 2) (Nat.le_of_ble_eq_true rfl) (Nat.le_trans (Nat.le_of_ble_eq_true rfl) hRf), Nat.le_trans (m := 47) (Nat.le_of_ble_eq_true rfl) (Nat.le_trans (Nat.le_of_ble_eq_true rfl) hRl)⟩) hN hK hP hD rfl rfl rfl hl.1 (Nat.le_of_ble_eq_true rfl) ⟨hRc, hRs⟩ dX0_toldWord_10) hD hS hA rfl (fun H locs hP hD hS => ?_)
  have hf_2 := thrZ_bd hI r 1 (by omega) (by omega)
  refine lv_istore_n (lv' := [(3, .int (iI (thrZ G r 1))), (2, .int (iI (thrZ G r 0))), (0, .ref g), (1, .int (iI r))]) hx hb dX0_toldWord_13 rfl hl (by decide) rfl (fun ls hl => ?_)
  refine z_iconst hx hb dX0_toldWord_14 ?_
  refine lv_istore (lv' := [(4, .int (iI 0)), (3, .int (iI (thrZ G r 1))), (2, .int (iI (thrZ G r 0))), (0, .ref g), (1, .int (iI r))]) hx hb dX0_toldWord_15 hl (by decide) rfl (fun ls hl => ?_)
  refine z_bipush hx hb dX0_toldWord_17 (by decide +kernel) ?_
  refine lv_istore (lv' := [(5, .int (iI 7)), (4, .int (iI 0)), (3, .int (iI (thrZ G r 1))), (2, .int (iI (thrZ G r 0))), (0, .ref g), (1, .int (iI r))]) hx hb dX0_toldWord_19 hl (by decide) rfl (fun ls hl => ?_)
  have LP21 : ∀ (fu i : Nat), i ≤ 8 → 8 < fu + i → ∀ (H : Heap) (locs : List Loc) (ls : Array Slot), va_P D vwCl (wG g ad cI G) H → va_D A (wG g ad cI G) → va_S A s.heap H locs → lv_has ls 6 [(5, .int (iI (7 - (i : Int)))), (4, .int (iI (hornZ (fun c => toldZ G r c) i))), (3, .int (iI (thrZ G r 1))), (2, .int (iI (thrZ G r 0))), (0, .ref g), (1, .int (iI r))] → W p l e R s m args below meth c H locs 0 0 Q (F0 m 21 ls []) := by
    intro fu
    induction fu with
    | zero => intro i h1 h2; omega
    | succ fu ih21 =>
      intro i hi1 hif H locs ls hP hD hS hl
      refine lv_iload hx hb dX0_toldWord_21 (lv_at hl 0 rfl) ?_
      refine z_if_lt (tgt := 56) hx hb dX0_toldWord_23 (by decide) (by omega) (fun c_3 => ?_) (fun c_3 => ?_)
      · refine lv_iload hx hb dX0_toldWord_56 (lv_at hl 1 rfl) ?_
        refine z_as (show (hornZ (fun c => toldZ G r c) i) = toldWordZ G r from by (have hiN : i = 8 := by omega); rw [hiN]; first | done | rfl) ?_
        first | exact hret _ _ _ _ dX0_toldWord_58 hP hD hS | (exfalso; omega)
      · refine z_iconst hx hb dX0_toldWord_26 ?_
        refine lv_iload hx hb dX0_toldWord_27 (lv_at hl 1 rfl) ?_
        refine z_imul hx hb dX0_toldWord_29 ?_
        refine lv_aload_n hx hb dX0_toldWord_30 rfl (lv_at hl 4 rfl) ?_
        refine va_get (D := D) (ci := 0) (v := .ref (ad 1)) (C := RX0) (T := TX0) (N := 13) hx hb hq inA0 hown hK hP 0 rfl rfl 1 (by decide) (hq _ q_3) (fun _ h9 => h9) rfl dX0_toldWord_31 ?_
        refine z_bipush hx hb dX0_toldWord_34 (by decide +kernel) ?_
        refine lv_iload_n hx hb dX0_toldWord_36 rfl (lv_at hl 5 rfl) ?_
        refine z_imul hx hb dX0_toldWord_37 ?_
        refine lv_iload hx hb dX0_toldWord_38 (lv_at hl 0 rfl) ?_
        refine z_iadd hx hb dX0_toldWord_40 ?_
        refine z_iald hx hb hK hP 2 0 rfl rfl (by omega) (by omega) (v := (G 1 ((8 * r) + (7 - (i : Int))))) rfl dX0_toldWord_41 ?_
        have hv_4 := invG_1 hI ((8 * r) + (7 - (i : Int))) (by omega) (by omega)
        refine lv_iload_n hx hb dX0_toldWord_42 rfl (lv_at hl 3 rfl) ?_
        refine lv_iload_n hx hb dX0_toldWord_43 rfl (lv_at hl 2 rfl) ?_
        refine mw_none (st1 := [.int (iI (tellZ (G 1 ((8 * r) + (7 - (i : Int)))) (thrZ G r 0) (thrZ G r 1))), .int (iI (3 * (hornZ (fun c => toldZ G r c) i)))]) (mr_S (As := [.int (iI (G 1 ((8 * r) + (7 - (i : Int))))), .int (iI (thrZ G r 0)), .int (iI (thrZ G r 1))]) (rest := [.int (iI (3 * (hornZ (fun c => toldZ G r c) i)))]) ⟨hx, hb, hml, hown, hts⟩ (m_X0_tell l D (G 1 ((8 * r) + (7 - (i : Int)))) (thrZ G r 0) (thrZ G r 1) (by omega) (by omega) (by omega)) (va_cwS 3 hts (gS q_56 q_57 q_8 q_52) rfl rfl rfl (by decide +kernel) ⟨Nat.le_trans (m := 1) (Nat.le_of_ble_eq_true rfl) (Nat.le_trans (Nat.le_of_ble_eq_true rfl) hRf), Nat.le_trans (m := 22) (Nat.le_of_ble_eq_true rfl) (Nat.le_trans (Nat.le_of_ble_eq_true rfl) hRl)⟩) hN (hK.sub (tys' := []) [] rfl) (va_P0 _ _ _) (va_D0 A) rfl hl.1 (Nat.le_of_ble_eq_true rfl) ⟨hRc, hRs⟩ dX0_toldWord_44) hP hS hA rfl (fun H locs hP hS => ?_)
        have hf_5 := tellZ_01 (G 1 ((8 * r) + (7 - (i : Int)))) (thrZ G r 0) (thrZ G r 1)
        refine z_iadd hx hb dX0_toldWord_47 ?_
        refine lv_istore (lv' := [(4, .int (iI ((3 * (hornZ (fun c => toldZ G r c) i)) + tellZ (G 1 ((8 * r) + (7 - (i : Int)))) (thrZ G r 0) (thrZ G r 1)))), (5, .int (iI (7 - (i : Int)))), (3, .int (iI (thrZ G r 1))), (2, .int (iI (thrZ G r 0))), (0, .ref g), (1, .int (iI r))]) hx hb dX0_toldWord_48 hl (by decide) rfl (fun ls hl => ?_)
        refine lv_iinc (v := iI ((7 - (i : Int)) + (-1))) (lv' := [(5, .int (iI ((7 - (i : Int)) + (-1)))), (4, .int (iI ((3 * (hornZ (fun c => toldZ G r c) i)) + tellZ (G 1 ((8 * r) + (7 - (i : Int)))) (thrZ G r 0) (thrZ G r 1)))), (3, .int (iI (thrZ G r 1))), (2, .int (iI (thrZ G r 0))), (0, .ref g), (1, .int (iI r))]) hx hb dX0_toldWord_50 hl (k := 1) rfl (iI_add _ _) (by decide) rfl (fun ls hl => ?_)
        refine lv_goto (tgt := 21) hx hb dX0_toldWord_53 (by decide) ?_
        have e1_0 : ((7 - ((i + 1 : Nat) : Int))) = ((7 - (i : Int)) + (-1)) := by first | rfl | omega
        have e1_1 : ((hornZ (fun c => toldZ G r c) (i + 1))) = ((3 * (hornZ (fun c => toldZ G r c) i)) + tellZ (G 1 ((8 * r) + (7 - (i : Int)))) (thrZ G r 0) (thrZ G r 1)) := by first | rfl | omega
        exact ih21 (i + 1) (by omega) (by omega) _ _ _ hP hD hS (lv_to (lv_sub (l' := [(5, .int (iI ((7 - (i : Int)) + (-1)))), (4, .int (iI ((3 * (hornZ (fun c => toldZ G r c) i)) + tellZ (G 1 ((8 * r) + (7 - (i : Int)))) (thrZ G r 0) (thrZ G r 1)))), (3, .int (iI (thrZ G r 1))), (2, .int (iI (thrZ G r 0))), (0, .ref g), (1, .int (iI r))]) hl [0, 1, 2, 3, 4, 5] rfl) (by simp only [e1_0, e1_1]))
  have e0_0 : ((7 - ((0 : Nat) : Int))) = 7 := by first | rfl | omega
  have e0_1 : ((hornZ (fun c => toldZ G r c) (0))) = 0 := by first | rfl | omega
  exact LP21 (8 + 1) 0 (by omega) (by omega) _ _ _ hP hD hS (lv_to (lv_sub (l' := [(5, .int (iI 7)), (4, .int (iI 0)), (3, .int (iI (thrZ G r 1))), (2, .int (iI (thrZ G r 0))), (0, .ref g), (1, .int (iI r))]) hl [0, 1, 2, 3, 4, 5] rfl) (by simp only [e0_0, e0_1]))
set_option maxHeartbeats 4000000 in
set_option maxRecDepth 100000 in
theorem m_X0_levelWord (l : Launch) (D : va_G) (g : Nat) (ad : Nat → Nat) (cI : ClassId) (G : Nat → Int → Int) (r : Int) {B : Int} (hI : InvG B G) (h1 : 0 ≤ r ∧ r < 6)  : MW l D yX0_levelWord (wsY yX0_levelWord cX0_levelWord 4 (some .int)) { frames := 0, cells := 0, slots := 0, locals := 0 } [(cI, .int)] [.ref g, .int (iI r)] (wG g ad cI G) (wG g ad cI G) (some (.int (iI (levelWordZ G r)))) := by
  refine mw_ofI (cc := cX0_levelWord) (maxL := 4) (by decide) rfl (Nat.le_of_ble_eq_true rfl) ?_
  intro p e s m below meth c R A Q args ls hx hb hml hown hts hRf hRl hRc hRs hN hK hP hD hS hA hret hl
  have hq : ∀ w ∈ ALL, w.before args s = true := fun w h => hts w (List.mem_cons_of_mem _ h)
  have hl : lv_has ls 4 [(0, .ref g), (1, .int (iI r))] := hl
  refine z_iconst hx hb dX0_levelWord_0 ?_
  refine lv_istore_n (lv' := [(2, .int (iI 0)), (0, .ref g), (1, .int (iI r))]) hx hb dX0_levelWord_1 rfl hl (by decide) rfl (fun ls hl => ?_)
  refine z_bipush hx hb dX0_levelWord_2 (by decide +kernel) ?_
  refine lv_istore_n (lv' := [(3, .int (iI 7)), (2, .int (iI 0)), (0, .ref g), (1, .int (iI r))]) hx hb dX0_levelWord_4 rfl hl (by decide) rfl (fun ls hl => ?_)
  have LP5 : ∀ (fu i : Nat), i ≤ 8 → 8 < fu + i → ∀ (H : Heap) (locs : List Loc) (ls : Array Slot), va_P D vwCl (wG g ad cI G) H → va_D A (wG g ad cI G) → va_S A s.heap H locs → lv_has ls 4 [(3, .int (iI (7 - (i : Int)))), (2, .int (iI (hornZ (fun c => G 0 (8 * r + c)) i))), (0, .ref g), (1, .int (iI r))] → W p l e R s m args below meth c H locs 0 0 Q (F0 m 5 ls []) := by
    intro fu
    induction fu with
    | zero => intro i h1 h2; omega
    | succ fu ih5 =>
      intro i hi1 hif H locs ls hP hD hS hl
      refine lv_iload_n hx hb dX0_levelWord_5 rfl (lv_at hl 0 rfl) ?_
      refine z_if_lt (tgt := 31) hx hb dX0_levelWord_6 (by decide) (by omega) (fun c_1 => ?_) (fun c_1 => ?_)
      · refine lv_iload_n hx hb dX0_levelWord_31 rfl (lv_at hl 1 rfl) ?_
        refine z_as (show (hornZ (fun c => G 0 (8 * r + c)) i) = levelWordZ G r from by (have hiN : i = 8 := by omega); rw [hiN]; first | done | rfl) ?_
        first | exact hret _ _ _ _ dX0_levelWord_32 hP hD hS | (exfalso; omega)
      · refine z_iconst hx hb dX0_levelWord_9 ?_
        refine lv_iload_n hx hb dX0_levelWord_10 rfl (lv_at hl 1 rfl) ?_
        refine z_imul hx hb dX0_levelWord_11 ?_
        refine lv_aload_n hx hb dX0_levelWord_12 rfl (lv_at hl 2 rfl) ?_
        refine va_get (D := D) (ci := 0) (v := .ref (ad 0)) (C := RX0) (T := TX0) (N := 13) hx hb hq inA0 hown hK hP 0 rfl rfl 0 (by decide) (hq _ q_2) (fun _ h9 => h9) rfl dX0_levelWord_13 ?_
        refine z_bipush hx hb dX0_levelWord_16 (by decide +kernel) ?_
        refine lv_iload_n hx hb dX0_levelWord_18 rfl (lv_at hl 3 rfl) ?_
        refine z_imul hx hb dX0_levelWord_19 ?_
        refine lv_iload_n hx hb dX0_levelWord_20 rfl (lv_at hl 0 rfl) ?_
        refine z_iadd hx hb dX0_levelWord_21 ?_
        refine z_iald hx hb hK hP 1 0 rfl rfl (by omega) (by omega) (v := (G 0 ((8 * r) + (7 - (i : Int))))) rfl dX0_levelWord_22 ?_
        have hv_2 := invG_0 hI ((8 * r) + (7 - (i : Int))) (by omega) (by omega)
        refine z_iadd hx hb dX0_levelWord_23 ?_
        refine lv_istore_n (lv' := [(2, .int (iI ((3 * (hornZ (fun c => G 0 (8 * r + c)) i)) + (G 0 ((8 * r) + (7 - (i : Int))))))), (3, .int (iI (7 - (i : Int)))), (0, .ref g), (1, .int (iI r))]) hx hb dX0_levelWord_24 rfl hl (by decide) rfl (fun ls hl => ?_)
        refine lv_iinc (v := iI ((7 - (i : Int)) + (-1))) (lv' := [(3, .int (iI ((7 - (i : Int)) + (-1)))), (2, .int (iI ((3 * (hornZ (fun c => G 0 (8 * r + c)) i)) + (G 0 ((8 * r) + (7 - (i : Int))))))), (0, .ref g), (1, .int (iI r))]) hx hb dX0_levelWord_25 hl (k := 1) rfl (iI_add _ _) (by decide) rfl (fun ls hl => ?_)
        refine lv_goto (tgt := 5) hx hb dX0_levelWord_28 (by decide) ?_
        have e1_0 : ((7 - ((i + 1 : Nat) : Int))) = ((7 - (i : Int)) + (-1)) := by first | rfl | omega
        have e1_1 : ((hornZ (fun c => G 0 (8 * r + c)) (i + 1))) = ((3 * (hornZ (fun c => G 0 (8 * r + c)) i)) + (G 0 ((8 * r) + (7 - (i : Int))))) := by first | rfl | omega
        exact ih5 (i + 1) (by omega) (by omega) _ _ _ hP hD hS (lv_to (lv_sub (l' := [(3, .int (iI ((7 - (i : Int)) + (-1)))), (2, .int (iI ((3 * (hornZ (fun c => G 0 (8 * r + c)) i)) + (G 0 ((8 * r) + (7 - (i : Int))))))), (0, .ref g), (1, .int (iI r))]) hl [0, 1, 2, 3] rfl) (by simp only [e1_0, e1_1]))
  have e0_0 : ((7 - ((0 : Nat) : Int))) = 7 := by first | rfl | omega
  have e0_1 : ((hornZ (fun c => G 0 (8 * r + c)) (0))) = 0 := by first | rfl | omega
  exact LP5 (8 + 1) 0 (by omega) (by omega) _ _ _ hP hD hS (lv_to (lv_sub (l' := [(3, .int (iI 7)), (2, .int (iI 0)), (0, .ref g), (1, .int (iI r))]) hl [0, 1, 2, 3] rfl) (by simp only [e0_0, e0_1]))
set_option maxHeartbeats 4000000 in
set_option maxRecDepth 100000 in
theorem m_X0_put (l : Launch) (D : va_G) (g : Nat) (ad : Nat → Nat) (cI : ClassId) (G : Nat → Int → Int) (pl v : Int) {B : Int} (hI : InvG B G) (h1 : 0 ≤ pl ∧ pl < 48)  : MW l D yX0_put (wsY yX0_put cX0_put 4 none) { frames := 1, cells := 0, slots := 0, locals := 20 } [(cI, .int)] [.ref g, .int (iI pl), .int (iI v)] (wG g ad cI G) (wG g ad cI (putZ G pl v)) none := by
  refine mw_ofV (cc := cX0_put) (maxL := 4) (by decide) rfl (Nat.le_of_ble_eq_true rfl) ?_
  intro p e s m below meth c R A Q args ls hx hb hml hown hts hRf hRl hRc hRs hN hK hP hD hS hA hret hl
  have hq : ∀ w ∈ ALL, w.before args s = true := fun w h => hts w (List.mem_cons_of_mem _ h)
  have hl : lv_has ls 4 [(0, .ref g), (1, .int (iI pl)), (2, .int (iI v))] := hl
  have hBb := invG_B hI
  refine z_bipush hx hb dX0_put_0 (by decide +kernel) ?_
  refine lv_iload_n hx hb dX0_put_2 rfl (lv_at hl 1 rfl) ?_
  refine z_imul hx hb dX0_put_3 ?_
  refine z_bipush hx hb dX0_put_4 (by decide +kernel) ?_
  refine lv_aload_n hx hb dX0_put_6 rfl (lv_at hl 0 rfl) ?_
  refine va_get (D := D) (ci := 0) (v := .ref (ad 2)) (C := RX0) (T := TX0) (N := 13) hx hb hq inA0 hown hK hP 0 rfl rfl 2 (by decide) (hq _ q_1) (fun _ h9 => h9) rfl dX0_put_7 ?_
  refine lv_iload_n hx hb dX0_put_10 rfl (lv_at hl 1 rfl) ?_
  refine z_iald hx hb hK hP 3 0 rfl rfl (by omega) (by omega) (v := (G 2 pl)) rfl dX0_put_11 ?_
  have hv_1 := invG_2 hI pl (by omega) (by omega)
  refine z_imul hx hb dX0_put_12 ?_
  refine z_iadd hx hb dX0_put_13 ?_
  refine z_bipush hx hb dX0_put_14 (by decide +kernel) ?_
  refine z_irem hx hb dX0_put_16 (by omega) (by omega) ?_
  refine z_bipush hx hb dX0_put_17 (by decide +kernel) ?_
  refine z_isub hx hb dX0_put_19 ?_
  refine lv_istore_n (lv' := [(3, .int (iI ((((37 * pl) + (11 * (G 2 pl))) % 21) - 10))), (0, .ref g), (1, .int (iI pl)), (2, .int (iI v))]) hx hb dX0_put_20 rfl hl (by decide) rfl (fun ls hl => ?_)
  refine lv_aload_n hx hb dX0_put_21 rfl (lv_at hl 1 rfl) ?_
  refine va_get (D := D) (ci := 0) (v := .ref (ad 0)) (C := RX0) (T := TX0) (N := 13) hx hb hq inA0 hown hK hP 0 rfl rfl 0 (by decide) (hq _ q_2) (fun _ h9 => h9) rfl dX0_put_22 ?_
  refine lv_iload_n hx hb dX0_put_25 rfl (lv_at hl 2 rfl) ?_
  refine lv_iload_n hx hb dX0_put_26 rfl (lv_at hl 3 rfl) ?_
  refine z_iast (w1 := (wG g ad cI (upG G 0 pl v))) hx hb hK hP hD hS 1 0 rfl rfl (by omega) (by omega) (wG_set0 _ _ _ _ _ _) dX0_put_27 (fun H locs hP hD hS => ?_)
  refine lv_aload_n hx hb dX0_put_28 rfl (lv_at hl 1 rfl) ?_
  refine va_get (D := D) (ci := 0) (v := .ref (ad 1)) (C := RX0) (T := TX0) (N := 13) hx hb hq inA0 hown hK hP 0 rfl rfl 1 (by decide) (hq _ q_3) (fun _ h9 => h9) rfl dX0_put_29 ?_
  refine lv_iload_n hx hb dX0_put_32 rfl (lv_at hl 2 rfl) ?_
  refine lv_iload_n hx hb dX0_put_33 rfl (lv_at hl 3 rfl) ?_
  refine mw_none (st1 := [.int (iI (aimZ v)), .int (iI pl), .ref (ad 1)]) (mr_S (As := [.int (iI v)]) (rest := [.int (iI pl), .ref (ad 1)]) ⟨hx, hb, hml, hown, hts⟩ (m_X0_aim l D v ) (va_cwS 1 hts (gS q_6 q_7 q_8 q_0) rfl rfl rfl (by decide +kernel) ⟨Nat.le_trans (m := 1) (Nat.le_of_ble_eq_true rfl) (Nat.le_trans (Nat.le_of_ble_eq_true rfl) hRf), Nat.le_trans (m := 20) (Nat.le_of_ble_eq_true rfl) (Nat.le_trans (Nat.le_of_ble_eq_true rfl) hRl)⟩) hN (hK.sub (tys' := []) [] rfl) (va_P0 _ _ _) (va_D0 A) rfl hl.1 (Nat.le_of_ble_eq_true rfl) ⟨hRc, hRs⟩ dX0_put_34) hP hS hA rfl (fun H locs hP hS => ?_)
  have hf_2 : aimZ v = 100 + 400 * v := rfl
  refine lv_iload_n hx hb dX0_put_37 rfl (lv_at hl 0 rfl) ?_
  refine z_iadd hx hb dX0_put_38 ?_
  refine z_iast (w1 := (wG g ad cI (upG (upG G 0 pl v) 1 pl (aimZ v + ((((37 * pl) + (11 * (G 2 pl))) % 21) - 10))))) hx hb hK hP hD hS 2 0 rfl rfl (by omega) (by omega) (wG_set1 _ _ _ _ _ _) dX0_put_39 (fun H locs hP hD hS => ?_)
  refine lv_aload_n hx hb dX0_put_40 rfl (lv_at hl 1 rfl) ?_
  refine va_get (D := D) (ci := 0) (v := .ref (ad 2)) (C := RX0) (T := TX0) (N := 13) hx hb hq inA0 hown hK hP 0 rfl rfl 2 (by decide) (hq _ q_1) (fun _ h9 => h9) rfl dX0_put_41 ?_
  refine lv_iload_n hx hb dX0_put_44 rfl (lv_at hl 2 rfl) ?_
  refine lv_dup2_11 hx hb dX0_put_45 rfl rfl ?_
  refine z_iald hx hb hK hP 3 0 rfl rfl (by omega) (by omega) (v := (G 2 pl)) rfl dX0_put_46 ?_
  have hv_3 := invG_2 hI pl (by omega) (by omega)
  refine z_iconst hx hb dX0_put_47 ?_
  refine z_iadd hx hb dX0_put_48 ?_
  refine z_iast (w1 := (wG g ad cI (upG (upG (upG G 0 pl v) 1 pl (aimZ v + ((((37 * pl) + (11 * (G 2 pl))) % 21) - 10))) 2 pl ((G 2 pl) + 1)))) hx hb hK hP hD hS 3 0 rfl rfl (by omega) (by omega) (wG_set2 _ _ _ _ _ _) dX0_put_49 (fun H locs hP hD hS => ?_)
  refine lv_aload_n hx hb dX0_put_50 rfl (lv_at hl 1 rfl) ?_
  refine va_get (D := D) (ci := 0) (v := .ref (ad 3)) (C := RX0) (T := TX0) (N := 13) hx hb hq inA0 hown hK hP 0 rfl rfl 3 (by decide) (hq _ q_4) (fun _ h9 => h9) rfl dX0_put_51 ?_
  refine lv_iload_n hx hb dX0_put_54 rfl (lv_at hl 2 rfl) ?_
  refine lv_aload_n hx hb dX0_put_55 rfl (lv_at hl 1 rfl) ?_
  refine va_get (D := D) (ci := 0) (v := .int (iI (G 12 0))) (C := RX0) (T := TX0) (N := 13) hx hb hq inA0 hown hK hP 0 rfl rfl 12 (by decide) (hq _ q_5) (fun _ h9 => h9) rfl dX0_put_56 ?_
  refine z_iast (w1 := (wG g ad cI (upG (upG (upG (upG G 0 pl v) 1 pl (aimZ v + ((((37 * pl) + (11 * (G 2 pl))) % 21) - 10))) 2 pl ((G 2 pl) + 1)) 3 pl (G 12 0)))) hx hb hK hP hD hS 4 0 rfl rfl (by omega) (by omega) (wG_set3 _ _ _ _ _ _) dX0_put_59 (fun H locs hP hD hS => ?_)
  first | exact hret _ _ _ _ dX0_put_60 hP hD hS | (exfalso; omega)
set_option maxHeartbeats 4000000 in
set_option maxRecDepth 100000 in
theorem m_X0_writeGuards (l : Launch) (D : va_G) (g : Nat) (ad : Nat → Nat) (cI : ClassId) (G : Nat → Int → Int) (r : Int) {B : Int} (hI : InvG B G) (h1 : 0 ≤ r ∧ r < 6)  : MW l D yX0_writeGuards (wsY yX0_writeGuards cX0_writeGuards 4 none) { frames := 1, cells := 0, slots := 0, locals := 20 } [(cI, .int)] [.ref g, .int (iI r)] (wG g ad cI G) (wG g ad cI (writeGuardsZ G r)) none := by
  refine mw_ofV (cc := cX0_writeGuards) (maxL := 4) (by decide) rfl (Nat.le_of_ble_eq_true rfl) ?_
  intro p e s m below meth c R A Q args ls hx hb hml hown hts hRf hRl hRc hRs hN hK hP hD hS hA hret hl
  have hq : ∀ w ∈ ALL, w.before args s = true := fun w h => hts w (List.mem_cons_of_mem _ h)
  have hl : lv_has ls 4 [(0, .ref g), (1, .int (iI r))] := hl
  refine z_iconst hx hb dX0_writeGuards_0 ?_
  refine lv_istore_n (lv' := [(2, .int (iI 0)), (0, .ref g), (1, .int (iI r))]) hx hb dX0_writeGuards_1 rfl hl (by decide) rfl (fun ls hl => ?_)
  have LP2 : ∀ (fu i : Nat), i ≤ 3 → 3 < fu + i → ∀ (H : Heap) (locs : List Loc) (ls : Array Slot), va_P D vwCl (wG g ad cI (guardsZ G r i)) H → va_D A (wG g ad cI (guardsZ G r i)) → va_S A s.heap H locs → lv_has ls 4 [(2, .int (iI (i : Int))), (0, .ref g), (1, .int (iI r))] → W p l e R s m args below meth c H locs 0 0 Q (F0 m 2 ls []) := by
    intro fu
    induction fu with
    | zero => intro i h1 h2; omega
    | succ fu ih2 =>
      intro i hi1 hif H locs ls hP hD hS hl
      have hIi := guards_inv hI r i (by omega)
      refine lv_iload_n hx hb dX0_writeGuards_2 rfl (lv_at hl 0 rfl) ?_
      refine z_iconst hx hb dX0_writeGuards_3 ?_
      refine z_icmp_ge (tgt := 38) hx hb dX0_writeGuards_4 (by decide) (by omega) (by omega) (fun c_1 => ?_) (fun c_1 => ?_)
      · have hiN : i = 3 := by omega
        refine lv_aload_n hx hb dX0_writeGuards_38 rfl (lv_at hl 1 rfl) ?_
        refine va_get (D := D) (ci := 0) (v := .ref (ad 7)) (C := RX0) (T := TX0) (N := 13) hx hb hq inA0 hown hK hP 0 rfl rfl 7 (by decide) (hq _ q_12) (fun _ h9 => h9) rfl dX0_writeGuards_39 ?_
        refine lv_iload_n hx hb dX0_writeGuards_42 rfl (lv_at hl 2 rfl) ?_
        refine lv_aload_n hx hb dX0_writeGuards_43 rfl (lv_at hl 1 rfl) ?_
        refine va_get (D := D) (ci := 0) (v := .int (iI ((guardsZ G r i) 12 0))) (C := RX0) (T := TX0) (N := 13) hx hb hq inA0 hown hK hP 0 rfl rfl 12 (by decide) (hq _ q_5) (fun _ h9 => h9) rfl dX0_writeGuards_44 ?_
        refine z_iast (w1 := (wG g ad cI (upG (guardsZ G r i) 7 r ((guardsZ G r i) 12 0)))) hx hb hK hP hD hS 8 0 rfl rfl (by omega) (by omega) (wG_set7 _ _ _ _ _ _) dX0_writeGuards_47 (fun H locs hP hD hS => ?_)
        have eW0 : writeGuardsZ G r = (upG (guardsZ G r i) 7 r ((guardsZ G r i) 12 0)) := by rw [hiN]; rfl
        rw [← eW0] at hP hD
        first | exact hret _ _ _ _ dX0_writeGuards_48 hP hD hS | (exfalso; omega)
      · refine z_iconst hx hb dX0_writeGuards_7 ?_
        refine lv_iload_n hx hb dX0_writeGuards_8 rfl (lv_at hl 2 rfl) ?_
        refine z_imul hx hb dX0_writeGuards_9 ?_
        refine lv_iload_n hx hb dX0_writeGuards_10 rfl (lv_at hl 0 rfl) ?_
        refine z_iadd hx hb dX0_writeGuards_11 ?_
        refine lv_istore_n (lv' := [(3, .int (iI ((3 * r) + (i : Int)))), (2, .int (iI (i : Int))), (0, .ref g), (1, .int (iI r))]) hx hb dX0_writeGuards_12 rfl hl (by decide) rfl (fun ls hl => ?_)
        refine lv_aload_n hx hb dX0_writeGuards_13 rfl (lv_at hl 2 rfl) ?_
        refine va_get (D := D) (ci := 0) (v := .ref (ad 5)) (C := RX0) (T := TX0) (N := 13) hx hb hq inA0 hown hK hP 0 rfl rfl 5 (by decide) (hq _ q_10) (fun _ h9 => h9) rfl dX0_writeGuards_14 ?_
        refine lv_iload_n hx hb dX0_writeGuards_17 rfl (lv_at hl 0 rfl) ?_
        refine z_iald hx hb hK hP 6 0 rfl rfl (by omega) (by omega) (v := ((guardsZ G r i) 5 ((3 * r) + (i : Int)))) rfl dX0_writeGuards_18 ?_
        have hv_2 := invG_5 hIi ((3 * r) + (i : Int)) (by omega) (by omega)
        refine z_if_ne (tgt := 32) hx hb dX0_writeGuards_19 (by decide) (by omega) (fun c_3 => ?_) (fun c_3 => ?_)
        · refine lv_iinc (v := iI ((i : Int) + 1)) (lv' := [(2, .int (iI ((i : Int) + 1))), (3, .int (iI ((3 * r) + (i : Int)))), (0, .ref g), (1, .int (iI r))]) hx hb dX0_writeGuards_32 hl (k := 1) rfl (iI_add _ _) (by decide) rfl (fun ls hl => ?_)
          refine lv_goto (tgt := 2) hx hb dX0_writeGuards_35 (by decide) ?_
          have e1_0 : (((i + 1 : Nat) : Int)) = ((i : Int) + 1) := by first | rfl | omega
          have eG0 : (guardsZ G r (i + 1)) = (guardsZ G r i) := by first | (simp only [guardsZ]; rw [if_pos (by assumption)]) | (simp only [guardsZ]; rw [if_neg (by assumption)])
          rw [← eG0] at hP hD
          exact ih2 (i + 1) (by omega) (by omega) _ _ _ hP hD hS (lv_to (lv_sub (l' := [(2, .int (iI ((i : Int) + 1))), (0, .ref g), (1, .int (iI r))]) hl [0, 2, 3] rfl) (by simp only [e1_0]))
        · refine lv_aload_n hx hb dX0_writeGuards_22 rfl (lv_at hl 2 rfl) ?_
          refine va_get (D := D) (ci := 0) (v := .ref (ad 4)) (C := RX0) (T := TX0) (N := 13) hx hb hq inA0 hown hK hP 0 rfl rfl 4 (by decide) (hq _ q_11) (fun _ h9 => h9) rfl dX0_writeGuards_23 ?_
          refine lv_iload_n hx hb dX0_writeGuards_26 rfl (lv_at hl 0 rfl) ?_
          refine lv_iload_n hx hb dX0_writeGuards_27 rfl (lv_at hl 1 rfl) ?_
          refine mw_none (st1 := [.int (iI (aimZ (i : Int))), .int (iI ((3 * r) + (i : Int))), .ref (ad 4)]) (mr_S (As := [.int (iI (i : Int))]) (rest := [.int (iI ((3 * r) + (i : Int))), .ref (ad 4)]) ⟨hx, hb, hml, hown, hts⟩ (m_X0_aim l D (i : Int) ) (va_cwS 1 hts (gS q_6 q_7 q_8 q_0) rfl rfl rfl (by decide +kernel) ⟨Nat.le_trans (m := 1) (Nat.le_of_ble_eq_true rfl) (Nat.le_trans (Nat.le_of_ble_eq_true rfl) hRf), Nat.le_trans (m := 20) (Nat.le_of_ble_eq_true rfl) (Nat.le_trans (Nat.le_of_ble_eq_true rfl) hRl)⟩) hN (hK.sub (tys' := []) [] rfl) (va_P0 _ _ _) (va_D0 A) rfl hl.1 (Nat.le_of_ble_eq_true rfl) ⟨hRc, hRs⟩ dX0_writeGuards_28) hP hS hA rfl (fun H locs hP hS => ?_)
          have hf_4 : aimZ (i : Int) = 100 + 400 * (i : Int) := rfl
          refine z_iast (w1 := (wG g ad cI (upG (guardsZ G r i) 4 ((3 * r) + (i : Int)) (aimZ (i : Int))))) hx hb hK hP hD hS 5 0 rfl rfl (by omega) (by omega) (wG_set4 _ _ _ _ _ _) dX0_writeGuards_31 (fun H locs hP hD hS => ?_)
          refine lv_iinc (v := iI ((i : Int) + 1)) (lv' := [(2, .int (iI ((i : Int) + 1))), (3, .int (iI ((3 * r) + (i : Int)))), (0, .ref g), (1, .int (iI r))]) hx hb dX0_writeGuards_32 hl (k := 1) rfl (iI_add _ _) (by decide) rfl (fun ls hl => ?_)
          refine lv_goto (tgt := 2) hx hb dX0_writeGuards_35 (by decide) ?_
          have e1_0 : (((i + 1 : Nat) : Int)) = ((i : Int) + 1) := by first | rfl | omega
          have eG0 : (guardsZ G r (i + 1)) = (upG (guardsZ G r i) 4 ((3 * r) + (i : Int)) (aimZ (i : Int))) := by first | (simp only [guardsZ]; rw [if_pos (by assumption)]) | (simp only [guardsZ]; rw [if_neg (by assumption)])
          rw [← eG0] at hP hD
          exact ih2 (i + 1) (by omega) (by omega) _ _ _ hP hD hS (lv_to (lv_sub (l' := [(2, .int (iI ((i : Int) + 1))), (0, .ref g), (1, .int (iI r))]) hl [0, 2, 3] rfl) (by simp only [e1_0]))
  have e0_0 : (((0 : Nat) : Int)) = 0 := by first | rfl | omega
  exact LP2 (3 + 1) 0 (by omega) (by omega) _ _ _ hP hD hS (lv_to (lv_sub (l' := [(2, .int (iI 0)), (0, .ref g), (1, .int (iI r))]) hl [0, 1, 2] rfl) (by simp only [e0_0]))
set_option maxHeartbeats 4000000 in
set_option maxRecDepth 100000 in
theorem m_X0_nearer (l : Launch) (D : va_G) (g : Nat) (ad : Nat → Nat) (cI : ClassId) (G : Nat → Int → Int) (v rt : Int) {B : Int} (hI : InvG B G) (h1 : 0 ≤ v ∧ v ≤ 999) (h2 : 1 ≤ rt ∧ rt ≤ 200)  : MW l D yX0_nearer (wsY yX0_nearer cX0_nearer 4 (some .int)) { frames := 1, cells := 0, slots := 0, locals := 21 } [(cI, .int)] [.ref g, .int (iI v), .int (iI rt)] (wG g ad cI G) (wG g ad cI G) (some (.int (iI (nearZ (G 11 0) v rt)))) := by
  refine mw_ofI (cc := cX0_nearer) (maxL := 4) (by decide) rfl (Nat.le_of_ble_eq_true rfl) ?_
  intro p e s m below meth c R A Q args ls hx hb hml hown hts hRf hRl hRc hRs hN hK hP hD hS hA hret hl
  have hq : ∀ w ∈ ALL, w.before args s = true := fun w h => hts w (List.mem_cons_of_mem _ h)
  have hl : lv_has ls 4 [(0, .ref g), (1, .int (iI v)), (2, .int (iI rt))] := hl
  have hs0 := invG_s0 hI
  refine lv_aload_n hx hb dX0_nearer_0 rfl (lv_at hl 0 rfl) ?_
  refine va_get (D := D) (ci := 0) (v := .ref (ad 11)) (C := RX0) (T := TX0) (N := 13) hx hb hq inA0 hown hK hP 0 rfl rfl 11 (by decide) (hq _ q_22) (fun _ h9 => h9) rfl dX0_nearer_1 ?_
  refine z_iconst hx hb dX0_nearer_4 ?_
  refine z_iald hx hb hK hP 12 0 rfl rfl (by omega) (by omega) (v := (G 11 0)) rfl dX0_nearer_5 ?_
  have hv_1 := invG_11 hI 0 (by omega) (by omega)
  refine lv_istore_n (lv' := [(3, .int (iI (G 11 0))), (0, .ref g), (1, .int (iI v)), (2, .int (iI rt))]) hx hb dX0_nearer_6 rfl hl (by decide) rfl (fun ls hl => ?_)
  refine lv_iload_n hx hb dX0_nearer_7 rfl (lv_at hl 2 rfl) ?_
  refine lv_iload_n hx hb dX0_nearer_8 rfl (lv_at hl 0 rfl) ?_
  refine z_icmp_ge (tgt := 28) hx hb dX0_nearer_9 (by decide) (by omega) (by omega) (fun c_2 => ?_) (fun c_2 => ?_)
  · refine lv_iload_n hx hb dX0_nearer_28 rfl (lv_at hl 2 rfl) ?_
    refine lv_iload_n hx hb dX0_nearer_29 rfl (lv_at hl 0 rfl) ?_
    refine z_icmp_le (tgt := 49) hx hb dX0_nearer_30 (by decide) (by omega) (by omega) (fun c_3 => ?_) (fun c_3 => ?_)
    · refine lv_iload_n hx hb dX0_nearer_49 rfl (lv_at hl 2 rfl) ?_
      refine z_as (show v = nearZ (G 11 0) v rt from by first | rfl | omega | (unfold nearZ; omega)) ?_
      first | exact hret _ _ _ _ dX0_nearer_50 hP hD hS | (exfalso; omega)
    · refine lv_iload_n hx hb dX0_nearer_33 rfl (lv_at hl 2 rfl) ?_
      refine z_iconst hx hb dX0_nearer_34 ?_
      refine lv_iload_n hx hb dX0_nearer_35 rfl (lv_at hl 2 rfl) ?_
      refine lv_iload_n hx hb dX0_nearer_36 rfl (lv_at hl 0 rfl) ?_
      refine z_isub hx hb dX0_nearer_37 ?_
      refine lv_iload_n hx hb dX0_nearer_38 rfl (lv_at hl 3 rfl) ?_
      refine z_imul hx hb dX0_nearer_39 ?_
      have hm1 := mulb (a := v - G 11 0) (b := rt) (by omega) (by omega)
      refine z_sipush hx hb dX0_nearer_40 (by decide +kernel) ?_
      refine z_idiv hx hb dX0_nearer_43 (by omega) (by omega) ?_
      refine z_mmax hx hb (hml.trans hl.1.symm) hown (hq _ q_72) (hq _ q_73) (hq _ q_74) (hq _ q_75) (Nat.le_trans (Nat.le_of_ble_eq_true rfl) hRf) (Nat.le_trans (Nat.le_of_ble_eq_true rfl) hRl) hRc hRs (by omega) (by omega) (Nat.le_of_ble_eq_true rfl) dX0_nearer_44 ?_
      refine z_isub hx hb dX0_nearer_47 ?_
      refine z_as (show (v - (if 1 < (((v - (G 11 0)) * rt) / 1000) then (((v - (G 11 0)) * rt) / 1000) else 1)) = nearZ (G 11 0) v rt from by first | rfl | omega | (unfold nearZ; omega)) ?_
      first | exact hret _ _ _ _ dX0_nearer_48 hP hD hS | (exfalso; omega)
  · refine lv_iload_n hx hb dX0_nearer_12 rfl (lv_at hl 2 rfl) ?_
    refine z_iconst hx hb dX0_nearer_13 ?_
    refine lv_iload_n hx hb dX0_nearer_14 rfl (lv_at hl 0 rfl) ?_
    refine lv_iload_n hx hb dX0_nearer_15 rfl (lv_at hl 2 rfl) ?_
    refine z_isub hx hb dX0_nearer_16 ?_
    refine lv_iload_n hx hb dX0_nearer_17 rfl (lv_at hl 3 rfl) ?_
    refine z_imul hx hb dX0_nearer_18 ?_
    have hm1 := mulb (a := G 11 0 - v) (b := rt) (by omega) (by omega)
    refine z_sipush hx hb dX0_nearer_19 (by decide +kernel) ?_
    refine z_idiv hx hb dX0_nearer_22 (by omega) (by omega) ?_
    refine z_mmax hx hb (hml.trans hl.1.symm) hown (hq _ q_72) (hq _ q_73) (hq _ q_74) (hq _ q_75) (Nat.le_trans (Nat.le_of_ble_eq_true rfl) hRf) (Nat.le_trans (Nat.le_of_ble_eq_true rfl) hRl) hRc hRs (by omega) (by omega) (Nat.le_of_ble_eq_true rfl) dX0_nearer_23 ?_
    refine z_iadd hx hb dX0_nearer_26 ?_
    refine z_as (show (v + (if 1 < ((((G 11 0) - v) * rt) / 1000) then ((((G 11 0) - v) * rt) / 1000) else 1)) = nearZ (G 11 0) v rt from by first | rfl | omega | (unfold nearZ; omega)) ?_
    first | exact hret _ _ _ _ dX0_nearer_27 hP hD hS | (exfalso; omega)
set_option maxHeartbeats 4000000 in
set_option maxRecDepth 100000 in
theorem m_X0_drift (l : Launch) (D : va_G) (g : Nat) (ad : Nat → Nat) (cI : ClassId) (G : Nat → Int → Int) {B : Int} (hI : InvG B G)  : MW l D yX0_drift (wsY yX0_drift cX0_drift 2 none) { frames := 2, cells := 0, slots := 0, locals := 44 } [(cI, .int)] [.ref g] (wG g ad cI G) (wG g ad cI (driftZ G)) none := by
  refine mw_ofV (cc := cX0_drift) (maxL := 2) (by decide) rfl (Nat.le_of_ble_eq_true rfl) ?_
  intro p e s m below meth c R A Q args ls hx hb hml hown hts hRf hRl hRc hRs hN hK hP hD hS hA hret hl
  have hq : ∀ w ∈ ALL, w.before args s = true := fun w h => hts w (List.mem_cons_of_mem _ h)
  have hl : lv_has ls 2 [(0, .ref g)] := hl
  refine z_iconst hx hb dX0_drift_0 ?_
  refine lv_istore_n (lv' := [(1, .int (iI 0)), (0, .ref g)]) hx hb dX0_drift_1 rfl hl (by decide) rfl (fun ls hl => ?_)
  have LP2 : ∀ (fu i : Nat), i ≤ 48 → 48 < fu + i → ∀ (H : Heap) (locs : List Loc) (ls : Array Slot), va_P D vwCl (wG g ad cI (driftCZ G i)) H → va_D A (wG g ad cI (driftCZ G i)) → va_S A s.heap H locs → lv_has ls 2 [(1, .int (iI (i : Int))), (0, .ref g)] → W p l e R s m args below meth c H locs 0 0 Q (F0 m 2 ls []) := by
    intro fu
    induction fu with
    | zero => intro i h1 h2; omega
    | succ fu ih2 =>
      intro i hi1 hif H locs ls hP hD hS hl
      have hIi := driftC_inv hI i (by omega)
      refine lv_iload_n hx hb dX0_drift_2 rfl (lv_at hl 0 rfl) ?_
      refine z_bipush hx hb dX0_drift_3 (by decide +kernel) ?_
      refine z_icmp_ge (tgt := 39) hx hb dX0_drift_5 (by decide) (by omega) (by omega) (fun c_1 => ?_) (fun c_1 => ?_)
      · have hiN : i = 48 := by omega
        refine z_iconst hx hb dX0_drift_39 ?_
        refine lv_istore_n (lv' := [(1, .int (iI 0)), (0, .ref g)]) hx hb dX0_drift_40 rfl hl (by decide) rfl (fun ls hl => ?_)
        have LP41 : ∀ (fu j : Nat), j ≤ 18 → 18 < fu + j → ∀ (H : Heap) (locs : List Loc) (ls : Array Slot), va_P D vwCl (wG g ad cI (driftGZ (driftCZ G 48) j)) H → va_D A (wG g ad cI (driftGZ (driftCZ G 48) j)) → va_S A s.heap H locs → lv_has ls 2 [(1, .int (iI (j : Int))), (0, .ref g)] → W p l e R s m args below meth c H locs 0 0 Q (F0 m 41 ls []) := by
          intro fu
          induction fu with
          | zero => intro j h1 h2; omega
          | succ fu ih41 =>
            intro j hj1 hjf H locs ls hP hD hS hl
            have hIj := driftG_inv (driftC_inv hI 48 (by omega)) j (by omega)
            refine lv_iload_n hx hb dX0_drift_41 rfl (lv_at hl 0 rfl) ?_
            refine z_bipush hx hb dX0_drift_42 (by decide +kernel) ?_
            refine z_icmp_ge (tgt := 86) hx hb dX0_drift_44 (by decide) (by omega) (by omega) (fun c_2 => ?_) (fun c_2 => ?_)
            · have hjN : j = 18 := by omega
              have eW0 : driftZ G = (driftGZ (driftCZ G 48) j) := by rw [hjN]; rfl
              rw [← eW0] at hP hD
              first | exact hret _ _ _ _ dX0_drift_86 hP hD hS | (exfalso; omega)
            · refine lv_aload_n hx hb dX0_drift_47 rfl (lv_at hl 1 rfl) ?_
              refine va_get (D := D) (ci := 0) (v := .ref (ad 5)) (C := RX0) (T := TX0) (N := 13) hx hb hq inA0 hown hK hP 0 rfl rfl 5 (by decide) (hq _ q_10) (fun _ h9 => h9) rfl dX0_drift_48 ?_
              refine lv_iload_n hx hb dX0_drift_51 rfl (lv_at hl 0 rfl) ?_
              refine z_iald hx hb hK hP 6 0 rfl rfl (by omega) (by omega) (v := ((driftGZ (driftCZ G 48) j) 5 (j : Int))) rfl dX0_drift_52 ?_
              have hv_3 := invG_5 hIj (j : Int) (by omega) (by omega)
              refine z_if_ne (tgt := 80) hx hb dX0_drift_53 (by decide) (by omega) (fun c_4 => ?_) (fun c_4 => ?_)
              · refine lv_iinc (v := iI ((j : Int) + 1)) (lv' := [(1, .int (iI ((j : Int) + 1))), (0, .ref g)]) hx hb dX0_drift_80 hl (k := 0) rfl (iI_add _ _) (by decide) rfl (fun ls hl => ?_)
                refine lv_goto (tgt := 41) hx hb dX0_drift_83 (by decide) ?_
                have e1_0 : (((j + 1 : Nat) : Int)) = ((j : Int) + 1) := by first | rfl | omega
                have eG0 : (driftGZ (driftCZ G 48) (j + 1)) = (driftGZ (driftCZ G 48) j) := by first | (simp only [driftGZ]; rw [if_pos (by assumption)]) | (simp only [driftGZ]; rw [if_neg (by assumption)])
                rw [← eG0] at hP hD
                exact ih41 (j + 1) (by omega) (by omega) _ _ _ hP hD hS (lv_to (lv_sub (l' := [(1, .int (iI ((j : Int) + 1))), (0, .ref g)]) hl [0, 1] rfl) (by simp only [e1_0]))
              · refine lv_aload_n hx hb dX0_drift_56 rfl (lv_at hl 1 rfl) ?_
                refine va_get (D := D) (ci := 0) (v := .ref (ad 4)) (C := RX0) (T := TX0) (N := 13) hx hb hq inA0 hown hK hP 0 rfl rfl 4 (by decide) (hq _ q_11) (fun _ h9 => h9) rfl dX0_drift_57 ?_
                refine lv_iload_n hx hb dX0_drift_60 rfl (lv_at hl 0 rfl) ?_
                refine lv_aload_n hx hb dX0_drift_61 rfl (lv_at hl 1 rfl) ?_
                refine lv_aload_n hx hb dX0_drift_62 rfl (lv_at hl 1 rfl) ?_
                refine va_get (D := D) (ci := 0) (v := .ref (ad 4)) (C := RX0) (T := TX0) (N := 13) hx hb hq inA0 hown hK hP 0 rfl rfl 4 (by decide) (hq _ q_11) (fun _ h9 => h9) rfl dX0_drift_63 ?_
                refine lv_iload_n hx hb dX0_drift_66 rfl (lv_at hl 0 rfl) ?_
                refine z_iald hx hb hK hP 5 0 rfl rfl (by omega) (by omega) (v := ((driftGZ (driftCZ G 48) j) 4 (j : Int))) rfl dX0_drift_67 ?_
                have hv_5 := invG_4 hIj (j : Int) (by omega) (by omega)
                refine lv_aload_n hx hb dX0_drift_68 rfl (lv_at hl 1 rfl) ?_
                refine va_get (D := D) (ci := 0) (v := .ref (ad 6)) (C := RX0) (T := TX0) (N := 13) hx hb hq inA0 hown hK hP 0 rfl rfl 6 (by decide) (hq _ q_18) (fun _ h9 => h9) rfl dX0_drift_69 ?_
                refine lv_iload_n hx hb dX0_drift_72 rfl (lv_at hl 0 rfl) ?_
                refine z_iconst hx hb dX0_drift_73 ?_
                refine z_idiv hx hb dX0_drift_74 (by omega) (by omega) ?_
                refine z_iald hx hb hK hP 7 0 rfl rfl (by omega) (by omega) (v := ((driftGZ (driftCZ G 48) j) 6 ((j : Int) / 3))) rfl dX0_drift_75 ?_
                have hv_6 := invG_6 hIj ((j : Int) / 3) (by omega) (by omega)
                refine mw_full (st1 := [.int (iI (nearZ ((driftGZ (driftCZ G 48) j) 11 0) ((driftGZ (driftCZ G 48) j) 4 (j : Int)) ((driftGZ (driftCZ G 48) j) 6 ((j : Int) / 3)))), .int (iI (j : Int)), .ref (ad 4)]) (mr_V (As := [.int (iI ((driftGZ (driftCZ G 48) j) 4 (j : Int))), .int (iI ((driftGZ (driftCZ G 48) j) 6 ((j : Int) / 3)))]) (rest := [.int (iI (j : Int)), .ref (ad 4)]) (ci := 0) (q0 := 0) ⟨hx, hb, hml, hown, hts⟩ (m_X0_nearer l D g ad cI (driftGZ (driftCZ G 48) j) ((driftGZ (driftCZ G 48) j) 4 (j : Int)) ((driftGZ (driftCZ G 48) j) 6 ((j : Int) / 3)) hIj (by omega) (by omega)) (cwV 2 hts (gV q_77 q_78 q_79 q_8 q_76) rfl rfl rfl (by decide +kernel) ⟨Nat.le_trans (m := 2) (Nat.le_of_ble_eq_true rfl) (Nat.le_trans (Nat.le_of_ble_eq_true rfl) hRf), Nat.le_trans (m := 44) (Nat.le_of_ble_eq_true rfl) (Nat.le_trans (Nat.le_of_ble_eq_true rfl) hRl)⟩) hN hK hP hD rfl rfl rfl hl.1 (Nat.le_of_ble_eq_true rfl) ⟨hRc, hRs⟩ dX0_drift_76) hD hS hA rfl (fun H locs hP hD hS => ?_)
                refine z_iast (w1 := (wG g ad cI (upG (driftGZ (driftCZ G 48) j) 4 (j : Int) (nearZ ((driftGZ (driftCZ G 48) j) 11 0) ((driftGZ (driftCZ G 48) j) 4 (j : Int)) ((driftGZ (driftCZ G 48) j) 6 ((j : Int) / 3)))))) hx hb hK hP hD hS 5 0 rfl rfl (by omega) (by omega) (wG_set4 _ _ _ _ _ _) dX0_drift_79 (fun H locs hP hD hS => ?_)
                refine lv_iinc (v := iI ((j : Int) + 1)) (lv' := [(1, .int (iI ((j : Int) + 1))), (0, .ref g)]) hx hb dX0_drift_80 hl (k := 0) rfl (iI_add _ _) (by decide) rfl (fun ls hl => ?_)
                refine lv_goto (tgt := 41) hx hb dX0_drift_83 (by decide) ?_
                have e1_0 : (((j + 1 : Nat) : Int)) = ((j : Int) + 1) := by first | rfl | omega
                have eG0 : (driftGZ (driftCZ G 48) (j + 1)) = (upG (driftGZ (driftCZ G 48) j) 4 (j : Int) (nearZ ((driftGZ (driftCZ G 48) j) 11 0) ((driftGZ (driftCZ G 48) j) 4 (j : Int)) ((driftGZ (driftCZ G 48) j) 6 ((j : Int) / 3)))) := by first | (simp only [driftGZ]; rw [if_pos (by assumption)]) | (simp only [driftGZ]; rw [if_neg (by assumption)])
                rw [← eG0] at hP hD
                exact ih41 (j + 1) (by omega) (by omega) _ _ _ hP hD hS (lv_to (lv_sub (l' := [(1, .int (iI ((j : Int) + 1))), (0, .ref g)]) hl [0, 1] rfl) (by simp only [e1_0]))
        have e0_0 : (((0 : Nat) : Int)) = 0 := by first | rfl | omega
        rw [hiN] at hP hD
        exact LP41 (18 + 1) 0 (by omega) (by omega) _ _ _ hP hD hS (lv_to (lv_sub (l' := [(1, .int (iI 0)), (0, .ref g)]) hl [0, 1] rfl) (by simp only [e0_0]))
      · refine lv_aload_n hx hb dX0_drift_8 rfl (lv_at hl 1 rfl) ?_
        refine va_get (D := D) (ci := 0) (v := .ref (ad 1)) (C := RX0) (T := TX0) (N := 13) hx hb hq inA0 hown hK hP 0 rfl rfl 1 (by decide) (hq _ q_3) (fun _ h9 => h9) rfl dX0_drift_9 ?_
        refine lv_iload_n hx hb dX0_drift_12 rfl (lv_at hl 0 rfl) ?_
        refine lv_aload_n hx hb dX0_drift_13 rfl (lv_at hl 1 rfl) ?_
        refine lv_aload_n hx hb dX0_drift_14 rfl (lv_at hl 1 rfl) ?_
        refine va_get (D := D) (ci := 0) (v := .ref (ad 1)) (C := RX0) (T := TX0) (N := 13) hx hb hq inA0 hown hK hP 0 rfl rfl 1 (by decide) (hq _ q_3) (fun _ h9 => h9) rfl dX0_drift_15 ?_
        refine lv_iload_n hx hb dX0_drift_18 rfl (lv_at hl 0 rfl) ?_
        refine z_iald hx hb hK hP 2 0 rfl rfl (by omega) (by omega) (v := ((driftCZ G i) 1 (i : Int))) rfl dX0_drift_19 ?_
        have hv_7 := invG_1 hIi (i : Int) (by omega) (by omega)
        refine lv_aload_n hx hb dX0_drift_20 rfl (lv_at hl 1 rfl) ?_
        refine va_get (D := D) (ci := 0) (v := .ref (ad 6)) (C := RX0) (T := TX0) (N := 13) hx hb hq inA0 hown hK hP 0 rfl rfl 6 (by decide) (hq _ q_18) (fun _ h9 => h9) rfl dX0_drift_21 ?_
        refine lv_iload_n hx hb dX0_drift_24 rfl (lv_at hl 0 rfl) ?_
        refine z_bipush hx hb dX0_drift_25 (by decide +kernel) ?_
        refine z_idiv hx hb dX0_drift_27 (by omega) (by omega) ?_
        refine z_iald hx hb hK hP 7 0 rfl rfl (by omega) (by omega) (v := ((driftCZ G i) 6 ((i : Int) / 8))) rfl dX0_drift_28 ?_
        have hv_8 := invG_6 hIi ((i : Int) / 8) (by omega) (by omega)
        refine mw_full (st1 := [.int (iI (nearZ ((driftCZ G i) 11 0) ((driftCZ G i) 1 (i : Int)) ((driftCZ G i) 6 ((i : Int) / 8)))), .int (iI (i : Int)), .ref (ad 1)]) (mr_V (As := [.int (iI ((driftCZ G i) 1 (i : Int))), .int (iI ((driftCZ G i) 6 ((i : Int) / 8)))]) (rest := [.int (iI (i : Int)), .ref (ad 1)]) (ci := 0) (q0 := 0) ⟨hx, hb, hml, hown, hts⟩ (m_X0_nearer l D g ad cI (driftCZ G i) ((driftCZ G i) 1 (i : Int)) ((driftCZ G i) 6 ((i : Int) / 8)) hIi (by omega) (by omega)) (cwV 2 hts (gV q_77 q_78 q_79 q_8 q_76) rfl rfl rfl (by decide +kernel) ⟨Nat.le_trans (m := 2) (Nat.le_of_ble_eq_true rfl) (Nat.le_trans (Nat.le_of_ble_eq_true rfl) hRf), Nat.le_trans (m := 44) (Nat.le_of_ble_eq_true rfl) (Nat.le_trans (Nat.le_of_ble_eq_true rfl) hRl)⟩) hN hK hP hD rfl rfl rfl hl.1 (Nat.le_of_ble_eq_true rfl) ⟨hRc, hRs⟩ dX0_drift_29) hD hS hA rfl (fun H locs hP hD hS => ?_)
        refine z_iast (w1 := (wG g ad cI (upG (driftCZ G i) 1 (i : Int) (nearZ ((driftCZ G i) 11 0) ((driftCZ G i) 1 (i : Int)) ((driftCZ G i) 6 ((i : Int) / 8)))))) hx hb hK hP hD hS 2 0 rfl rfl (by omega) (by omega) (wG_set1 _ _ _ _ _ _) dX0_drift_32 (fun H locs hP hD hS => ?_)
        refine lv_iinc (v := iI ((i : Int) + 1)) (lv' := [(1, .int (iI ((i : Int) + 1))), (0, .ref g)]) hx hb dX0_drift_33 hl (k := 0) rfl (iI_add _ _) (by decide) rfl (fun ls hl => ?_)
        refine lv_goto (tgt := 2) hx hb dX0_drift_36 (by decide) ?_
        have e1_0 : (((i + 1 : Nat) : Int)) = ((i : Int) + 1) := by first | rfl | omega
        have eG0 : (driftCZ G (i + 1)) = (upG (driftCZ G i) 1 (i : Int) (nearZ ((driftCZ G i) 11 0) ((driftCZ G i) 1 (i : Int)) ((driftCZ G i) 6 ((i : Int) / 8)))) := by rfl
        rw [← eG0] at hP hD
        exact ih2 (i + 1) (by omega) (by omega) _ _ _ hP hD hS (lv_to (lv_sub (l' := [(1, .int (iI ((i : Int) + 1))), (0, .ref g)]) hl [0, 1] rfl) (by simp only [e1_0]))
  have e0_0 : (((0 : Nat) : Int)) = 0 := by first | rfl | omega
  exact LP2 (48 + 1) 0 (by omega) (by omega) _ _ _ hP hD hS (lv_to (lv_sub (l' := [(1, .int (iI 0)), (0, .ref g)]) hl [0, 1] rfl) (by simp only [e0_0]))
set_option maxHeartbeats 4000000 in
set_option maxRecDepth 100000 in
theorem m_X0_age (l : Launch) (D : va_G) (g : Nat) (ad : Nat → Nat) (cI : ClassId) (G : Nat → Int → Int) (r : Int) {B : Int} (hI : InvG B G) (h1 : 0 ≤ r ∧ r < 6)  : MW l D yX0_age (wsY yX0_age cX0_age 2 (some .int)) { frames := 0, cells := 0, slots := 0, locals := 0 } [(cI, .int)] [.ref g, .int (iI r)] (wG g ad cI G) (wG g ad cI G) (some (.int (iI (ageZ G r)))) := by
  refine mw_ofI (cc := cX0_age) (maxL := 2) (by decide) rfl (Nat.le_of_ble_eq_true rfl) ?_
  intro p e s m below meth c R A Q args ls hx hb hml hown hts hRf hRl hRc hRs hN hK hP hD hS hA hret hl
  have hq : ∀ w ∈ ALL, w.before args s = true := fun w h => hts w (List.mem_cons_of_mem _ h)
  have hl : lv_has ls 2 [(0, .ref g), (1, .int (iI r))] := hl
  refine lv_aload_n hx hb dX0_age_0 rfl (lv_at hl 0 rfl) ?_
  refine va_get (D := D) (ci := 0) (v := .int (iI (G 12 0))) (C := RX0) (T := TX0) (N := 13) hx hb hq inA0 hown hK hP 0 rfl rfl 12 (by decide) (hq _ q_5) (fun _ h9 => h9) rfl dX0_age_1 ?_
  refine lv_aload_n hx hb dX0_age_4 rfl (lv_at hl 0 rfl) ?_
  refine va_get (D := D) (ci := 0) (v := .ref (ad 7)) (C := RX0) (T := TX0) (N := 13) hx hb hq inA0 hown hK hP 0 rfl rfl 7 (by decide) (hq _ q_12) (fun _ h9 => h9) rfl dX0_age_5 ?_
  refine lv_iload_n hx hb dX0_age_8 rfl (lv_at hl 1 rfl) ?_
  refine z_iald hx hb hK hP 8 0 rfl rfl (by omega) (by omega) (v := (G 7 r)) rfl dX0_age_9 ?_
  have hv_1 := invG_7 hI r (by omega) (by omega)
  refine z_isub hx hb dX0_age_10 ?_
  refine z_as (show ((G 12 0) - (G 7 r)) = ageZ G r from by first | rfl | omega) ?_
  first | exact hret _ _ _ _ dX0_age_11 hP hD hS | (exfalso; omega)
