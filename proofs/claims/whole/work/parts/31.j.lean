set_option maxHeartbeats 4000000 in
set_option maxRecDepth 100000 in
theorem m_X3_in (l : Launch) (D : va_G) (v lo hi : Int) (h1 : -2147483648 ≤ v ∧ v < 2147483648) (h2 : -2147483648 ≤ lo ∧ lo < 2147483648) (h3 : -2147483648 ≤ hi ∧ hi < 2147483648)  : MW l D yX3_in (wsY yX3_in cX3_in 3 (some .boolean)) { frames := 0, cells := 0, slots := 0, locals := 0 } [] [.int (iI v), .int (iI lo), .int (iI hi)] [] [] (some (.int (iI (if lo ≤ v ∧ v ≤ hi then 1 else 0 : Int)))) := by
  refine mw_ofZ (cc := cX3_in) (maxL := 3) (ty := .boolean) (narrow_z01 (by omega)) (by decide) rfl (Nat.le_of_ble_eq_true rfl) ?_
  intro p e s m below meth c R A Q args ls hx hb hml hown hts hRf hRl hRc hRs hN hK hP hD hS hA hret hl
  have hq : ∀ w ∈ ALL, w.before args s = true := fun w h => hts w (List.mem_cons_of_mem _ h)
  have hl : lv_has ls 3 [(0, .int (iI v)), (1, .int (iI lo)), (2, .int (iI hi))] := hl
  refine lv_iload_n hx hb dX3_in_0 rfl (lv_at hl 0 rfl) ?_
  refine lv_iload_n hx hb dX3_in_1 rfl (lv_at hl 1 rfl) ?_
  refine z_icmp_lt (tgt := 14) hx hb dX3_in_2 (by decide) (by omega) (by omega) (fun c_1 => ?_) (fun c_1 => ?_)
  · refine z_iconst hx hb dX3_in_14 ?_
    refine z_as (show 0 = (if lo ≤ v ∧ v ≤ hi then 1 else 0 : Int) from by first | rfl | omega) ?_
    first | exact hret _ _ _ _ dX3_in_15 hP hD hS | (exfalso; omega)
  · refine lv_iload_n hx hb dX3_in_5 rfl (lv_at hl 0 rfl) ?_
    refine lv_iload_n hx hb dX3_in_6 rfl (lv_at hl 2 rfl) ?_
    refine z_icmp_gt (tgt := 14) hx hb dX3_in_7 (by decide) (by omega) (by omega) (fun c_2 => ?_) (fun c_2 => ?_)
    · refine z_iconst hx hb dX3_in_14 ?_
      refine z_as (show 0 = (if lo ≤ v ∧ v ≤ hi then 1 else 0 : Int) from by first | rfl | omega) ?_
      first | exact hret _ _ _ _ dX3_in_15 hP hD hS | (exfalso; omega)
    · refine z_iconst hx hb dX3_in_10 ?_
      refine lv_goto (tgt := 15) hx hb dX3_in_11 (by decide) ?_
      refine z_as (show 1 = (if lo ≤ v ∧ v ≤ hi then 1 else 0 : Int) from by first | rfl | omega) ?_
      first | exact hret _ _ _ _ dX3_in_15 hP hD hS | (exfalso; omega)
set_option maxHeartbeats 4000000 in
set_option maxRecDepth 100000 in
theorem m_X3_isRow (l : Launch) (D : va_G) (v : Int) (h1 : -2147483648 ≤ v ∧ v < 2147483648)  : MW l D yX3_isRow (wsY yX3_isRow cX3_isRow 1 (some .boolean)) { frames := 1, cells := 0, slots := 0, locals := 22 } [] [.int (iI v)] [] [] (some (.int (iI (if 0 ≤ v ∧ v ≤ 5 then 1 else 0 : Int)))) := by
  refine mw_ofZ (cc := cX3_isRow) (maxL := 1) (ty := .boolean) (narrow_z01 (by omega)) (by decide) rfl (Nat.le_of_ble_eq_true rfl) ?_
  intro p e s m below meth c R A Q args ls hx hb hml hown hts hRf hRl hRc hRs hN hK hP hD hS hA hret hl
  have hq : ∀ w ∈ ALL, w.before args s = true := fun w h => hts w (List.mem_cons_of_mem _ h)
  have hl : lv_has ls 1 [(0, .int (iI v))] := hl
  refine lv_iload_n hx hb dX3_isRow_0 rfl (lv_at hl 0 rfl) ?_
  refine z_iconst hx hb dX3_isRow_1 ?_
  refine z_iconst hx hb dX3_isRow_2 ?_
  refine mw_none (st1 := [.int (iI (if 0 ≤ v ∧ v ≤ 5 then 1 else 0 : Int))]) (mr_S (As := [.int (iI v), .int (iI 0), .int (iI 5)]) (rest := []) ⟨hx, hb, hml, hown, hts⟩ (m_X3_in l D v 0 5 (by omega) (by omega) (by omega)) (va_cwS 3 hts (gS q_380 q_381 q_345 q_374) rfl rfl rfl (by decide +kernel) ⟨Nat.le_trans (m := 1) (Nat.le_of_ble_eq_true rfl) (Nat.le_trans (Nat.le_of_ble_eq_true rfl) hRf), Nat.le_trans (m := 22) (Nat.le_of_ble_eq_true rfl) (Nat.le_trans (Nat.le_of_ble_eq_true rfl) hRl)⟩) hN (hK.sub (tys' := []) [] rfl) (va_P0 _ _ _) (va_D0 A) rfl hl.1 (Nat.le_of_ble_eq_true rfl) ⟨hRc, hRs⟩ dX3_isRow_3) hP hS hA rfl (fun H locs hP hS => ?_)
  first | exact hret _ _ _ _ dX3_isRow_6 hP hD hS | (exfalso; omega)
set_option maxHeartbeats 4000000 in
set_option maxRecDepth 100000 in
theorem m_X3_isCell (l : Launch) (D : va_G) (v : Int) (h1 : -2147483648 ≤ v ∧ v < 2147483648)  : MW l D yX3_isCell (wsY yX3_isCell cX3_isCell 1 (some .boolean)) { frames := 1, cells := 0, slots := 0, locals := 22 } [] [.int (iI v)] [] [] (some (.int (iI (if 0 ≤ v ∧ v ≤ 7 then 1 else 0 : Int)))) := by
  refine mw_ofZ (cc := cX3_isCell) (maxL := 1) (ty := .boolean) (narrow_z01 (by omega)) (by decide) rfl (Nat.le_of_ble_eq_true rfl) ?_
  intro p e s m below meth c R A Q args ls hx hb hml hown hts hRf hRl hRc hRs hN hK hP hD hS hA hret hl
  have hq : ∀ w ∈ ALL, w.before args s = true := fun w h => hts w (List.mem_cons_of_mem _ h)
  have hl : lv_has ls 1 [(0, .int (iI v))] := hl
  refine lv_iload_n hx hb dX3_isCell_0 rfl (lv_at hl 0 rfl) ?_
  refine z_iconst hx hb dX3_isCell_1 ?_
  refine z_bipush hx hb dX3_isCell_2 (by decide +kernel) ?_
  refine mw_none (st1 := [.int (iI (if 0 ≤ v ∧ v ≤ 7 then 1 else 0 : Int))]) (mr_S (As := [.int (iI v), .int (iI 0), .int (iI 7)]) (rest := []) ⟨hx, hb, hml, hown, hts⟩ (m_X3_in l D v 0 7 (by omega) (by omega) (by omega)) (va_cwS 3 hts (gS q_380 q_381 q_345 q_374) rfl rfl rfl (by decide +kernel) ⟨Nat.le_trans (m := 1) (Nat.le_of_ble_eq_true rfl) (Nat.le_trans (Nat.le_of_ble_eq_true rfl) hRf), Nat.le_trans (m := 22) (Nat.le_of_ble_eq_true rfl) (Nat.le_trans (Nat.le_of_ble_eq_true rfl) hRl)⟩) hN (hK.sub (tys' := []) [] rfl) (va_P0 _ _ _) (va_D0 A) rfl hl.1 (Nat.le_of_ble_eq_true rfl) ⟨hRc, hRs⟩ dX3_isCell_4) hP hS hA rfl (fun H locs hP hS => ?_)
  first | exact hret _ _ _ _ dX3_isCell_7 hP hD hS | (exfalso; omega)
set_option maxHeartbeats 4000000 in
set_option maxRecDepth 100000 in
theorem m_X3_isThree (l : Launch) (D : va_G) (v : Int) (h1 : -2147483648 ≤ v ∧ v < 2147483648)  : MW l D yX3_isThree (wsY yX3_isThree cX3_isThree 1 (some .boolean)) { frames := 1, cells := 0, slots := 0, locals := 22 } [] [.int (iI v)] [] [] (some (.int (iI (if 0 ≤ v ∧ v ≤ 2 then 1 else 0 : Int)))) := by
  refine mw_ofZ (cc := cX3_isThree) (maxL := 1) (ty := .boolean) (narrow_z01 (by omega)) (by decide) rfl (Nat.le_of_ble_eq_true rfl) ?_
  intro p e s m below meth c R A Q args ls hx hb hml hown hts hRf hRl hRc hRs hN hK hP hD hS hA hret hl
  have hq : ∀ w ∈ ALL, w.before args s = true := fun w h => hts w (List.mem_cons_of_mem _ h)
  have hl : lv_has ls 1 [(0, .int (iI v))] := hl
  refine lv_iload_n hx hb dX3_isThree_0 rfl (lv_at hl 0 rfl) ?_
  refine z_iconst hx hb dX3_isThree_1 ?_
  refine z_iconst hx hb dX3_isThree_2 ?_
  refine mw_none (st1 := [.int (iI (if 0 ≤ v ∧ v ≤ 2 then 1 else 0 : Int))]) (mr_S (As := [.int (iI v), .int (iI 0), .int (iI 2)]) (rest := []) ⟨hx, hb, hml, hown, hts⟩ (m_X3_in l D v 0 2 (by omega) (by omega) (by omega)) (va_cwS 3 hts (gS q_380 q_381 q_345 q_374) rfl rfl rfl (by decide +kernel) ⟨Nat.le_trans (m := 1) (Nat.le_of_ble_eq_true rfl) (Nat.le_trans (Nat.le_of_ble_eq_true rfl) hRf), Nat.le_trans (m := 22) (Nat.le_of_ble_eq_true rfl) (Nat.le_trans (Nat.le_of_ble_eq_true rfl) hRl)⟩) hN (hK.sub (tys' := []) [] rfl) (va_P0 _ _ _) (va_D0 A) rfl hl.1 (Nat.le_of_ble_eq_true rfl) ⟨hRc, hRs⟩ dX3_isThree_3) hP hS hA rfl (fun H locs hP hS => ?_)
  first | exact hret _ _ _ _ dX3_isThree_6 hP hD hS | (exfalso; omega)
set_option maxHeartbeats 4000000 in
set_option maxRecDepth 100000 in
theorem m_X3_aim (l : Launch) (D : va_G) (v : Int)  : MW l D yX3_aim (wsY yX3_aim cX3_aim 1 (some .int)) { frames := 0, cells := 0, slots := 0, locals := 0 } [] [.int (iI v)] [] [] (some (.int (iI (aimZ v)))) := by
  refine mw_ofI (cc := cX3_aim) (maxL := 1) (by decide) rfl (Nat.le_of_ble_eq_true rfl) ?_
  intro p e s m below meth c R A Q args ls hx hb hml hown hts hRf hRl hRc hRs hN hK hP hD hS hA hret hl
  have hq : ∀ w ∈ ALL, w.before args s = true := fun w h => hts w (List.mem_cons_of_mem _ h)
  have hl : lv_has ls 1 [(0, .int (iI v))] := hl
  refine z_bipush hx hb dX3_aim_0 (by decide +kernel) ?_
  refine z_sipush hx hb dX3_aim_2 (by decide +kernel) ?_
  refine lv_iload_n hx hb dX3_aim_5 rfl (lv_at hl 0 rfl) ?_
  refine z_imul hx hb dX3_aim_6 ?_
  refine z_iadd hx hb dX3_aim_7 ?_
  refine z_as (show (100 + (400 * v)) = aimZ v from by first | rfl | omega | (unfold aimZ; omega) | (subst_vars; unfold aimZ; omega) | (subst_vars; simp [aimZ])) ?_
  first | exact hret _ _ _ _ dX3_aim_8 hP hD hS | (exfalso; omega)
set_option maxHeartbeats 4000000 in
set_option maxRecDepth 100000 in
theorem m_X3_size (l : Launch) (D : va_G) (v : Int) (h1 : -2147483648 ≤ v ∧ v < 2147483648)  : MW l D yX3_size (wsY yX3_size cX3_size 1 (some .int)) { frames := 0, cells := 0, slots := 0, locals := 0 } [] [.int (iI v)] [] [] (some (.int (iI (if v < 0 then -v else v : Int)))) := by
  refine mw_ofI (cc := cX3_size) (maxL := 1) (by decide) rfl (Nat.le_of_ble_eq_true rfl) ?_
  intro p e s m below meth c R A Q args ls hx hb hml hown hts hRf hRl hRc hRs hN hK hP hD hS hA hret hl
  have hq : ∀ w ∈ ALL, w.before args s = true := fun w h => hts w (List.mem_cons_of_mem _ h)
  have hl : lv_has ls 1 [(0, .int (iI v))] := hl
  refine lv_iload_n hx hb dX3_size_0 rfl (lv_at hl 0 rfl) ?_
  refine z_if_ge (tgt := 9) hx hb dX3_size_1 (by decide) (by omega) (fun c_1 => ?_) (fun c_1 => ?_)
  · refine lv_iload_n hx hb dX3_size_9 rfl (lv_at hl 0 rfl) ?_
    refine z_as (show v = (if v < 0 then -v else v : Int) from by first | rfl | omega) ?_
    first | exact hret _ _ _ _ dX3_size_10 hP hD hS | (exfalso; omega)
  · refine lv_iload_n hx hb dX3_size_4 rfl (lv_at hl 0 rfl) ?_
    refine z_ineg hx hb dX3_size_5 ?_
    refine lv_goto (tgt := 10) hx hb dX3_size_6 (by decide) ?_
    refine z_as (show (-v) = (if v < 0 then -v else v : Int) from by first | rfl | omega) ?_
    first | exact hret _ _ _ _ dX3_size_10 hP hD hS | (exfalso; omega)
set_option maxHeartbeats 4000000 in
set_option maxRecDepth 100000 in
theorem m_X3_by (l : Launch) (D : va_G) (v lo up : Int) (h1 : -2147483648 ≤ v ∧ v < 2147483648) (h2 : -2147483648 ≤ lo ∧ lo < 2147483648) (h3 : -2147483648 ≤ up ∧ up < 2147483648)  : MW l D yX3_by (wsY yX3_by cX3_by 3 (some .int)) { frames := 0, cells := 0, slots := 0, locals := 0 } [] [.int (iI v), .int (iI lo), .int (iI up)] [] [] (some (.int (iI (tellZ v lo up)))) := by
  refine mw_ofI (cc := cX3_by) (maxL := 3) (by decide) rfl (Nat.le_of_ble_eq_true rfl) ?_
  intro p e s m below meth c R A Q args ls hx hb hml hown hts hRf hRl hRc hRs hN hK hP hD hS hA hret hl
  have hq : ∀ w ∈ ALL, w.before args s = true := fun w h => hts w (List.mem_cons_of_mem _ h)
  have hl : lv_has ls 3 [(0, .int (iI v)), (1, .int (iI lo)), (2, .int (iI up))] := hl
  refine lv_iload_n hx hb dX3_by_0 rfl (lv_at hl 0 rfl) ?_
  refine lv_iload_n hx hb dX3_by_1 rfl (lv_at hl 1 rfl) ?_
  refine z_icmp_ge (tgt := 9) hx hb dX3_by_2 (by decide) (by omega) (by omega) (fun c_1 => ?_) (fun c_1 => ?_)
  · refine lv_iload_n hx hb dX3_by_9 rfl (lv_at hl 0 rfl) ?_
    refine lv_iload_n hx hb dX3_by_10 rfl (lv_at hl 2 rfl) ?_
    refine z_icmp_lt (tgt := 18) hx hb dX3_by_11 (by decide) (by omega) (by omega) (fun c_2 => ?_) (fun c_2 => ?_)
    · refine z_iconst hx hb dX3_by_18 ?_
      refine z_as (show 1 = tellZ v lo up from by first | rfl | omega | (unfold tellZ; omega) | (subst_vars; unfold tellZ; omega) | (subst_vars; simp [tellZ])) ?_
      first | exact hret _ _ _ _ dX3_by_19 hP hD hS | (exfalso; omega)
    · refine z_iconst hx hb dX3_by_14 ?_
      refine lv_goto (tgt := 19) hx hb dX3_by_15 (by decide) ?_
      refine z_as (show 2 = tellZ v lo up from by first | rfl | omega | (unfold tellZ; omega) | (subst_vars; unfold tellZ; omega) | (subst_vars; simp [tellZ])) ?_
      first | exact hret _ _ _ _ dX3_by_19 hP hD hS | (exfalso; omega)
  · refine z_iconst hx hb dX3_by_5 ?_
    refine lv_goto (tgt := 19) hx hb dX3_by_6 (by decide) ?_
    refine z_as (show 0 = tellZ v lo up from by first | rfl | omega | (unfold tellZ; omega) | (subst_vars; unfold tellZ; omega) | (subst_vars; simp [tellZ])) ?_
    first | exact hret _ _ _ _ dX3_by_19 hP hD hS | (exfalso; omega)
set_option maxHeartbeats 4000000 in
set_option maxRecDepth 100000 in
theorem m_X3_of (l : Launch) (D : va_G) (mo : Nat) (am : Nat → Nat) (cI : ClassId) (S : Nat → Int → Int) (r w : Int) (k : Nat) (pp : Int) (h1 : (0 ≤ pp ∧ pp < lenZ k) ∧ ixZ k pp = 17 + 42 * r + w)  : MW l D yX3_of (wsY yX3_of cX3_of 3 (some .int)) { frames := 0, cells := 0, slots := 0, locals := 0 } [(cI, .int)] [.ref mo, .int (iI r), .int (iI w)] (wM mo am cI S) (wM mo am cI S) (some (.int (iI (gOf (S 0) k pp)))) := by
  refine mw_ofI (cc := cX3_of) (maxL := 3) (by decide) rfl (Nat.le_of_ble_eq_true rfl) ?_
  intro p e s m below meth c R A Q args ls hx hb hml hown hts hRf hRl hRc hRs hN hK hP hD hS hA hret hl
  have hq : ∀ w ∈ ALL, w.before args s = true := fun w h => hts w (List.mem_cons_of_mem _ h)
  have hl : lv_has ls 3 [(0, .ref mo), (1, .int (iI r)), (2, .int (iI w))] := hl
  have hrg := ix_rng h1.1
  refine lv_aload_n hx hb dX3_of_0 rfl (lv_at hl 0 rfl) ?_
  refine va_get (D := D) (ci := 3) (v := .ref (am 0)) (C := RX3) (T := TX3) (N := 14) hx hb hq inA3 hown hK hP 0 rfl rfl 0 (by decide) (hq _ q_338) (fun _ h9 => h9) rfl dX3_of_1 ?_
  refine z_bipush hx hb dX3_of_4 (by decide +kernel) ?_
  refine z_bipush hx hb dX3_of_6 (by decide +kernel) ?_
  refine lv_iload_n hx hb dX3_of_8 rfl (lv_at hl 1 rfl) ?_
  refine z_imul hx hb dX3_of_9 ?_
  refine z_iadd hx hb dX3_of_10 ?_
  refine lv_iload_n hx hb dX3_of_11 rfl (lv_at hl 2 rfl) ?_
  refine z_iadd hx hb dX3_of_12 ?_
  refine z_iald hx hb hK hP 1 0 rfl rfl (by omega) (by omega) (v := (gOf (S 0) k pp)) (by rw [gOf_in _ h1.1, h1.2]) dX3_of_13 ?_
  refine z_as (show (gOf (S 0) k pp) = gOf (S 0) k pp from by first | rfl | omega) ?_
  first | exact hret _ _ _ _ dX3_of_14 hP hD hS | (exfalso; omega)
set_option maxHeartbeats 4000000 in
set_option maxRecDepth 100000 in
theorem m_X3_ofCell (l : Launch) (D : va_G) (mo : Nat) (am : Nat → Nat) (cI : ClassId) (S : Nat → Int → Int) (r c2 w : Int) (k : Nat) (h1 : 0 ≤ r ∧ r < 6) (h2 : 0 ≤ c2 ∧ c2 < 8) (h3 : k < 4 ∧ w = k)  : MW l D yX3_ofCell (wsY yX3_ofCell cX3_ofCell 4 (some .int)) { frames := 1, cells := 0, slots := 0, locals := 22 } [(cI, .int)] [.ref mo, .int (iI r), .int (iI c2), .int (iI w)] (wM mo am cI S) (wM mo am cI S) (some (.int (iI (gOf (S 0) k (8 * r + c2))))) := by
  refine mw_ofI (cc := cX3_ofCell) (maxL := 4) (by decide) rfl (Nat.le_of_ble_eq_true rfl) ?_
  intro p e s m below meth c R A Q args ls hx hb hml hown hts hRf hRl hRc hRs hN hK hP hD hS hA hret hl
  have hq : ∀ w ∈ ALL, w.before args s = true := fun w h => hts w (List.mem_cons_of_mem _ h)
  have hl : lv_has ls 4 [(0, .ref mo), (1, .int (iI r)), (2, .int (iI c2)), (3, .int (iI w))] := hl
  refine lv_aload_n hx hb dX3_ofCell_0 rfl (lv_at hl 0 rfl) ?_
  refine lv_iload_n hx hb dX3_ofCell_1 rfl (lv_at hl 1 rfl) ?_
  refine z_bipush hx hb dX3_ofCell_2 (by decide +kernel) ?_
  refine z_iconst hx hb dX3_ofCell_4 ?_
  refine lv_iload_n hx hb dX3_ofCell_5 rfl (lv_at hl 2 rfl) ?_
  refine z_imul hx hb dX3_ofCell_6 ?_
  refine z_iadd hx hb dX3_ofCell_7 ?_
  refine lv_iload_n hx hb dX3_ofCell_8 rfl (lv_at hl 3 rfl) ?_
  refine z_iadd hx hb dX3_ofCell_9 ?_
  refine mw_full (st1 := [.int (iI (gOf (S 0) k (8 * r + c2)))]) (mr_V (As := [.int (iI r), .int (iI ((10 + (4 * c2)) + w))]) (rest := []) (ci := 3) (q0 := 0) ⟨hx, hb, hml, hown, hts⟩ (m_X3_of l D mo am cI S r ((10 + (4 * c2)) + w) k (8 * r + c2) (ix_ofc k h3.1 h1 h2 (by omega))) (cwV 2 hts (gV q_342 q_343 q_344 q_345 q_340) rfl rfl rfl (by decide +kernel) ⟨Nat.le_trans (m := 1) (Nat.le_of_ble_eq_true rfl) (Nat.le_trans (Nat.le_of_ble_eq_true rfl) hRf), Nat.le_trans (m := 22) (Nat.le_of_ble_eq_true rfl) (Nat.le_trans (Nat.le_of_ble_eq_true rfl) hRl)⟩) hN hK hP hD rfl rfl rfl hl.1 (Nat.le_of_ble_eq_true rfl) ⟨hRc, hRs⟩ dX3_ofCell_10) hD hS hA rfl (fun H locs hP hD hS => ?_)
  skip
  first | exact hret _ _ _ _ dX3_ofCell_13 hP hD hS | (exfalso; omega)
set_option maxHeartbeats 4000000 in
set_option maxRecDepth 100000 in
theorem m_X3_lays (l : Launch) (D : va_G) (mo : Nat) (am : Nat → Nat) (cI : ClassId) (S : Nat → Int → Int) (r w v : Int) (k : Nat) (pp : Int) (h1 : (0 ≤ pp ∧ pp < lenZ k) ∧ ixZ k pp = 17 + 42 * r + w)  : MW l D yX3_lays (wsY yX3_lays cX3_lays 4 none) { frames := 0, cells := 0, slots := 0, locals := 0 } [(cI, .int)] [.ref mo, .int (iI r), .int (iI w), .int (iI v)] (wM mo am cI S) (wM mo am cI (lyZ S k pp v)) none := by
  refine mw_ofV (cc := cX3_lays) (maxL := 4) (by decide) rfl (Nat.le_of_ble_eq_true rfl) ?_
  intro p e s m below meth c R A Q args ls hx hb hml hown hts hRf hRl hRc hRs hN hK hP hD hS hA hret hl
  have hq : ∀ w ∈ ALL, w.before args s = true := fun w h => hts w (List.mem_cons_of_mem _ h)
  have hl : lv_has ls 4 [(0, .ref mo), (1, .int (iI r)), (2, .int (iI w)), (3, .int (iI v))] := hl
  have hrg := ix_rng h1.1
  refine lv_aload_n hx hb dX3_lays_0 rfl (lv_at hl 0 rfl) ?_
  refine va_get (D := D) (ci := 3) (v := .ref (am 0)) (C := RX3) (T := TX3) (N := 14) hx hb hq inA3 hown hK hP 0 rfl rfl 0 (by decide) (hq _ q_338) (fun _ h9 => h9) rfl dX3_lays_1 ?_
  refine z_bipush hx hb dX3_lays_4 (by decide +kernel) ?_
  refine z_bipush hx hb dX3_lays_6 (by decide +kernel) ?_
  refine lv_iload_n hx hb dX3_lays_8 rfl (lv_at hl 1 rfl) ?_
  refine z_imul hx hb dX3_lays_9 ?_
  refine z_iadd hx hb dX3_lays_10 ?_
  refine lv_iload_n hx hb dX3_lays_11 rfl (lv_at hl 2 rfl) ?_
  refine z_iadd hx hb dX3_lays_12 ?_
  refine lv_iload_n hx hb dX3_lays_13 rfl (lv_at hl 3 rfl) ?_
  refine z_iast (w1 := (wM mo am cI (upG S 0 ((17 + (42 * r)) + w) v))) hx hb hK hP hD hS 1 0 rfl rfl (by omega) (by omega) (wM_set0 _ _ _ _ _ _) dX3_lays_14 (fun H locs hP hD hS => ?_)
  have eW0 : lyZ S k pp v = (upG S 0 ((17 + (42 * r)) + w) v) := by (unfold lyZ; rw [h1.2])
  rw [← eW0] at hP hD
  first | exact hret _ _ _ _ dX3_lays_15 hP hD hS | (exfalso; omega)
set_option maxHeartbeats 4000000 in
set_option maxRecDepth 100000 in
theorem m_X3_laysCell (l : Launch) (D : va_G) (mo : Nat) (am : Nat → Nat) (cI : ClassId) (S : Nat → Int → Int) (r c2 w v : Int) (k : Nat) (h1 : 0 ≤ r ∧ r < 6) (h2 : 0 ≤ c2 ∧ c2 < 8) (h3 : k < 4 ∧ w = k)  : MW l D yX3_laysCell (wsY yX3_laysCell cX3_laysCell 5 none) { frames := 1, cells := 0, slots := 0, locals := 23 } [(cI, .int)] [.ref mo, .int (iI r), .int (iI c2), .int (iI w), .int (iI v)] (wM mo am cI S) (wM mo am cI (lyZ S k (8 * r + c2) v)) none := by
  refine mw_ofV (cc := cX3_laysCell) (maxL := 5) (by decide) rfl (Nat.le_of_ble_eq_true rfl) ?_
  intro p e s m below meth c R A Q args ls hx hb hml hown hts hRf hRl hRc hRs hN hK hP hD hS hA hret hl
  have hq : ∀ w ∈ ALL, w.before args s = true := fun w h => hts w (List.mem_cons_of_mem _ h)
  have hl : lv_has ls 5 [(0, .ref mo), (1, .int (iI r)), (2, .int (iI c2)), (3, .int (iI w)), (4, .int (iI v))] := hl
  refine lv_aload_n hx hb dX3_laysCell_0 rfl (lv_at hl 0 rfl) ?_
  refine lv_iload_n hx hb dX3_laysCell_1 rfl (lv_at hl 1 rfl) ?_
  refine z_bipush hx hb dX3_laysCell_2 (by decide +kernel) ?_
  refine z_iconst hx hb dX3_laysCell_4 ?_
  refine lv_iload_n hx hb dX3_laysCell_5 rfl (lv_at hl 2 rfl) ?_
  refine z_imul hx hb dX3_laysCell_6 ?_
  refine z_iadd hx hb dX3_laysCell_7 ?_
  refine lv_iload_n hx hb dX3_laysCell_8 rfl (lv_at hl 3 rfl) ?_
  refine z_iadd hx hb dX3_laysCell_9 ?_
  refine lv_iload hx hb dX3_laysCell_10 (lv_at hl 4 rfl) ?_
  refine mw_full (st1 := []) (mr_V (As := [.int (iI r), .int (iI ((10 + (4 * c2)) + w)), .int (iI v)]) (rest := []) (ci := 3) (q0 := 0) ⟨hx, hb, hml, hown, hts⟩ (m_X3_lays l D mo am cI S r ((10 + (4 * c2)) + w) v k (8 * r + c2) (ix_ofc k h3.1 h1 h2 (by omega))) (cwV 3 hts (gV q_348 q_349 q_350 q_345 q_339) rfl rfl rfl (by decide +kernel) ⟨Nat.le_trans (m := 1) (Nat.le_of_ble_eq_true rfl) (Nat.le_trans (Nat.le_of_ble_eq_true rfl) hRf), Nat.le_trans (m := 23) (Nat.le_of_ble_eq_true rfl) (Nat.le_trans (Nat.le_of_ble_eq_true rfl) hRl)⟩) hN hK hP hD rfl rfl rfl hl.1 (Nat.le_of_ble_eq_true rfl) ⟨hRc, hRs⟩ dX3_laysCell_12) hD hS hA rfl (fun H locs hP hD hS => ?_)
  skip
  first | exact hret _ _ _ _ dX3_laysCell_15 hP hD hS | (exfalso; omega)
set_option maxHeartbeats 4000000 in
set_option maxRecDepth 100000 in
theorem m_X3_own (l : Launch) (D : va_G) (mo : Nat) (am : Nat → Nat) (cI : ClassId) (S : Nat → Int → Int) (r u : Int) {B : Int} (hI : InvG B (gOf (S 0))) (h1 : 0 ≤ r ∧ r < 6) (h2 : 0 ≤ u ∧ u < 2)  : MW l D yX3_own (wsY yX3_own cX3_own 3 (some .int)) { frames := 1, cells := 0, slots := 0, locals := 22 } [(cI, .int)] [.ref mo, .int (iI r), .int (iI u)] (wM mo am cI S) (wM mo am cI S) (some (.int (iI (ownZ (gOf (S 0)) r u)))) := by
  refine mw_ofI (cc := cX3_own) (maxL := 3) (by decide) rfl (Nat.le_of_ble_eq_true rfl) ?_
  intro p e s m below meth c R A Q args ls hx hb hml hown hts hRf hRl hRc hRs hN hK hP hD hS hA hret hl
  have hq : ∀ w ∈ ALL, w.before args s = true := fun w h => hts w (List.mem_cons_of_mem _ h)
  have hl : lv_has ls 3 [(0, .ref mo), (1, .int (iI r)), (2, .int (iI u))] := hl
  refine lv_aload_n hx hb dX3_own_0 rfl (lv_at hl 0 rfl) ?_
  refine lv_iload_n hx hb dX3_own_1 rfl (lv_at hl 1 rfl) ?_
  refine z_iconst hx hb dX3_own_2 ?_
  refine lv_iload_n hx hb dX3_own_3 rfl (lv_at hl 2 rfl) ?_
  refine z_iadd hx hb dX3_own_4 ?_
  refine mw_full (st1 := [.int (iI ((gOf (S 0)) 4 (3 * r + u)))]) (mr_V (As := [.int (iI r), .int (iI (4 + u))]) (rest := []) (ci := 3) (q0 := 0) ⟨hx, hb, hml, hown, hts⟩ (m_X3_of l D mo am cI S r (4 + u) 4 (3 * r + u) (ix_of4 (r := r) (by omega) (by omega))) (cwV 2 hts (gV q_342 q_343 q_344 q_345 q_340) rfl rfl rfl (by decide +kernel) ⟨Nat.le_trans (m := 1) (Nat.le_of_ble_eq_true rfl) (Nat.le_trans (Nat.le_of_ble_eq_true rfl) hRf), Nat.le_trans (m := 22) (Nat.le_of_ble_eq_true rfl) (Nat.le_trans (Nat.le_of_ble_eq_true rfl) hRl)⟩) hN hK hP hD rfl rfl rfl hl.1 (Nat.le_of_ble_eq_true rfl) ⟨hRc, hRs⟩ dX3_own_5) hD hS hA rfl (fun H locs hP hD hS => ?_)
  have hf_1 := invG_4 hI (3 * r + u) (by omega) (by omega)
  refine lv_aload_n hx hb dX3_own_8 rfl (lv_at hl 0 rfl) ?_
  refine lv_iload_n hx hb dX3_own_9 rfl (lv_at hl 1 rfl) ?_
  refine z_iconst hx hb dX3_own_10 ?_
  refine lv_iload_n hx hb dX3_own_11 rfl (lv_at hl 2 rfl) ?_
  refine z_iadd hx hb dX3_own_12 ?_
  refine z_iconst hx hb dX3_own_13 ?_
  refine z_iadd hx hb dX3_own_14 ?_
  refine mw_full (st1 := [.int (iI ((gOf (S 0)) 4 (3 * r + u + 1))), .int (iI ((gOf (S 0)) 4 (3 * r + u)))]) (mr_V (As := [.int (iI r), .int (iI ((4 + u) + 1))]) (rest := [.int (iI ((gOf (S 0)) 4 (3 * r + u)))]) (ci := 3) (q0 := 0) ⟨hx, hb, hml, hown, hts⟩ (m_X3_of l D mo am cI S r ((4 + u) + 1) 4 (3 * r + u + 1) (ix_of4 (r := r) (by omega) (by omega))) (cwV 2 hts (gV q_342 q_343 q_344 q_345 q_340) rfl rfl rfl (by decide +kernel) ⟨Nat.le_trans (m := 1) (Nat.le_of_ble_eq_true rfl) (Nat.le_trans (Nat.le_of_ble_eq_true rfl) hRf), Nat.le_trans (m := 22) (Nat.le_of_ble_eq_true rfl) (Nat.le_trans (Nat.le_of_ble_eq_true rfl) hRl)⟩) hN hK hP hD rfl rfl rfl hl.1 (Nat.le_of_ble_eq_true rfl) ⟨hRc, hRs⟩ dX3_own_15) hD hS hA rfl (fun H locs hP hD hS => ?_)
  have hf_2 := invG_4 hI (3 * r + u + 1) (by omega) (by omega)
  refine z_iadd hx hb dX3_own_18 ?_
  refine z_iconst hx hb dX3_own_19 ?_
  refine z_idiv hx hb dX3_own_20 (by omega) (by omega) ?_
  refine z_as (show (((gOf (S 0)) 4 (3 * r + u) + (gOf (S 0)) 4 (3 * r + u + 1)) / 2) = ownZ (gOf (S 0)) r u from by first | rfl | omega | (unfold ownZ; omega) | (subst_vars; unfold ownZ; omega) | (subst_vars; simp [ownZ])) ?_
  first | exact hret _ _ _ _ dX3_own_21 hP hD hS | (exfalso; omega)
set_option maxHeartbeats 4000000 in
set_option maxRecDepth 100000 in
theorem m_X3_isRight (l : Launch) (D : va_G) (mo : Nat) (am : Nat → Nat) (cI : ClassId) (S : Nat → Int → Int) (r : Int) {B : Int} (hI : InvG B (gOf (S 0))) (h1 : 0 ≤ r ∧ r < 6)  : MW l D yX3_isRight (wsY yX3_isRight cX3_isRight 2 (some .boolean)) { frames := 1, cells := 0, slots := 0, locals := 22 } [(cI, .int)] [.ref mo, .int (iI r)] (wM mo am cI S) (wM mo am cI S) (some (.int (iI (rightZ (gOf (S 0)) r)))) := by
  refine mw_ofZ (cc := cX3_isRight) (maxL := 2) (ty := .boolean) (narrow_z01 (rightZ_01 _ r)) (by decide) rfl (Nat.le_of_ble_eq_true rfl) ?_
  intro p e s m below meth c R A Q args ls hx hb hml hown hts hRf hRl hRc hRs hN hK hP hD hS hA hret hl
  have hq : ∀ w ∈ ALL, w.before args s = true := fun w h => hts w (List.mem_cons_of_mem _ h)
  have hl : lv_has ls 2 [(0, .ref mo), (1, .int (iI r))] := hl
  have hs1 := invG_s1 hI
  refine lv_aload_n hx hb dX3_isRight_0 rfl (lv_at hl 0 rfl) ?_
  refine lv_iload_n hx hb dX3_isRight_1 rfl (lv_at hl 1 rfl) ?_
  refine z_iconst hx hb dX3_isRight_2 ?_
  refine mw_full (st1 := [.int (iI ((gOf (S 0)) 4 (3 * r + 1)))]) (mr_V (As := [.int (iI r), .int (iI 5)]) (rest := []) (ci := 3) (q0 := 0) ⟨hx, hb, hml, hown, hts⟩ (m_X3_of l D mo am cI S r 5 4 (3 * r + 1) (ix_of4 (r := r) (by omega) (by omega))) (cwV 2 hts (gV q_342 q_343 q_344 q_345 q_340) rfl rfl rfl (by decide +kernel) ⟨Nat.le_trans (m := 1) (Nat.le_of_ble_eq_true rfl) (Nat.le_trans (Nat.le_of_ble_eq_true rfl) hRf), Nat.le_trans (m := 22) (Nat.le_of_ble_eq_true rfl) (Nat.le_trans (Nat.le_of_ble_eq_true rfl) hRl)⟩) hN hK hP hD rfl rfl rfl hl.1 (Nat.le_of_ble_eq_true rfl) ⟨hRc, hRs⟩ dX3_isRight_3) hD hS hA rfl (fun H locs hP hD hS => ?_)
  have hf_1 := invG_4 hI (3 * r + 1) (by omega) (by omega)
  refine lv_aload_n hx hb dX3_isRight_6 rfl (lv_at hl 0 rfl) ?_
  refine lv_iload_n hx hb dX3_isRight_7 rfl (lv_at hl 1 rfl) ?_
  refine z_iconst hx hb dX3_isRight_8 ?_
  refine mw_full (st1 := [.int (iI ((gOf (S 0)) 4 (3 * r))), .int (iI ((gOf (S 0)) 4 (3 * r + 1)))]) (mr_V (As := [.int (iI r), .int (iI 4)]) (rest := [.int (iI ((gOf (S 0)) 4 (3 * r + 1)))]) (ci := 3) (q0 := 0) ⟨hx, hb, hml, hown, hts⟩ (m_X3_of l D mo am cI S r 4 4 (3 * r) (ix_of4 (r := r) (by omega) (by omega))) (cwV 2 hts (gV q_342 q_343 q_344 q_345 q_340) rfl rfl rfl (by decide +kernel) ⟨Nat.le_trans (m := 1) (Nat.le_of_ble_eq_true rfl) (Nat.le_trans (Nat.le_of_ble_eq_true rfl) hRf), Nat.le_trans (m := 22) (Nat.le_of_ble_eq_true rfl) (Nat.le_trans (Nat.le_of_ble_eq_true rfl) hRl)⟩) hN hK hP hD rfl rfl rfl hl.1 (Nat.le_of_ble_eq_true rfl) ⟨hRc, hRs⟩ dX3_isRight_9) hD hS hA rfl (fun H locs hP hD hS => ?_)
  have hf_2 := invG_4 hI (3 * r) (by omega) (by omega)
  refine lv_aload_n hx hb dX3_isRight_12 rfl (lv_at hl 0 rfl) ?_
  refine va_get (D := D) (ci := 3) (v := .ref (am 0)) (C := RX3) (T := TX3) (N := 14) hx hb hq inA3 hown hK hP 0 rfl rfl 0 (by decide) (hq _ q_338) (fun _ h9 => h9) rfl dX3_isRight_13 ?_
  refine z_iconst hx hb dX3_isRight_16 ?_
  refine z_iald hx hb hK hP 1 0 rfl rfl (by omega) (by omega) (v := (gOf (S 0) 11 1)) (s_11_1 _) dX3_isRight_17 ?_
  refine z_iadd hx hb dX3_isRight_18 ?_
  refine z_icmp_lt (tgt := 49) hx hb dX3_isRight_19 (by decide) (by omega) (by omega) (fun c_3 => ?_) (fun c_3 => ?_)
  · refine z_iconst hx hb dX3_isRight_49 ?_
    refine z_as (show 0 = rightZ (gOf (S 0)) r from by first | rfl | omega | (unfold rightZ; omega) | (subst_vars; unfold rightZ; omega) | (subst_vars; simp [rightZ])) ?_
    first | exact hret _ _ _ _ dX3_isRight_50 hP hD hS | (exfalso; omega)
  · refine lv_aload_n hx hb dX3_isRight_22 rfl (lv_at hl 0 rfl) ?_
    refine lv_iload_n hx hb dX3_isRight_23 rfl (lv_at hl 1 rfl) ?_
    refine z_bipush hx hb dX3_isRight_24 (by decide +kernel) ?_
    refine mw_full (st1 := [.int (iI ((gOf (S 0)) 4 (3 * r + 2)))]) (mr_V (As := [.int (iI r), .int (iI 6)]) (rest := []) (ci := 3) (q0 := 0) ⟨hx, hb, hml, hown, hts⟩ (m_X3_of l D mo am cI S r 6 4 (3 * r + 2) (ix_of4 (r := r) (by omega) (by omega))) (cwV 2 hts (gV q_342 q_343 q_344 q_345 q_340) rfl rfl rfl (by decide +kernel) ⟨Nat.le_trans (m := 1) (Nat.le_of_ble_eq_true rfl) (Nat.le_trans (Nat.le_of_ble_eq_true rfl) hRf), Nat.le_trans (m := 22) (Nat.le_of_ble_eq_true rfl) (Nat.le_trans (Nat.le_of_ble_eq_true rfl) hRl)⟩) hN hK hP hD rfl rfl rfl hl.1 (Nat.le_of_ble_eq_true rfl) ⟨hRc, hRs⟩ dX3_isRight_26) hD hS hA rfl (fun H locs hP hD hS => ?_)
    have hf_4 := invG_4 hI (3 * r + 2) (by omega) (by omega)
    refine lv_aload_n hx hb dX3_isRight_29 rfl (lv_at hl 0 rfl) ?_
    refine lv_iload_n hx hb dX3_isRight_30 rfl (lv_at hl 1 rfl) ?_
    refine z_iconst hx hb dX3_isRight_31 ?_
    refine mw_full (st1 := [.int (iI ((gOf (S 0)) 4 (3 * r + 1))), .int (iI ((gOf (S 0)) 4 (3 * r + 2)))]) (mr_V (As := [.int (iI r), .int (iI 5)]) (rest := [.int (iI ((gOf (S 0)) 4 (3 * r + 2)))]) (ci := 3) (q0 := 0) ⟨hx, hb, hml, hown, hts⟩ (m_X3_of l D mo am cI S r 5 4 (3 * r + 1) (ix_of4 (r := r) (by omega) (by omega))) (cwV 2 hts (gV q_342 q_343 q_344 q_345 q_340) rfl rfl rfl (by decide +kernel) ⟨Nat.le_trans (m := 1) (Nat.le_of_ble_eq_true rfl) (Nat.le_trans (Nat.le_of_ble_eq_true rfl) hRf), Nat.le_trans (m := 22) (Nat.le_of_ble_eq_true rfl) (Nat.le_trans (Nat.le_of_ble_eq_true rfl) hRl)⟩) hN hK hP hD rfl rfl rfl hl.1 (Nat.le_of_ble_eq_true rfl) ⟨hRc, hRs⟩ dX3_isRight_32) hD hS hA rfl (fun H locs hP hD hS => ?_)
    have hf_5 := invG_4 hI (3 * r + 1) (by omega) (by omega)
    refine lv_aload_n hx hb dX3_isRight_35 rfl (lv_at hl 0 rfl) ?_
    refine va_get (D := D) (ci := 3) (v := .ref (am 0)) (C := RX3) (T := TX3) (N := 14) hx hb hq inA3 hown hK hP 0 rfl rfl 0 (by decide) (hq _ q_338) (fun _ h9 => h9) rfl dX3_isRight_36 ?_
    refine z_iconst hx hb dX3_isRight_39 ?_
    refine z_iald hx hb hK hP 1 0 rfl rfl (by omega) (by omega) (v := (gOf (S 0) 11 1)) (s_11_1 _) dX3_isRight_40 ?_
    refine z_iadd hx hb dX3_isRight_41 ?_
    refine z_icmp_lt (tgt := 49) hx hb dX3_isRight_42 (by decide) (by omega) (by omega) (fun c_6 => ?_) (fun c_6 => ?_)
    · refine z_iconst hx hb dX3_isRight_49 ?_
      refine z_as (show 0 = rightZ (gOf (S 0)) r from by first | rfl | omega | (unfold rightZ; omega) | (subst_vars; unfold rightZ; omega) | (subst_vars; simp [rightZ])) ?_
      first | exact hret _ _ _ _ dX3_isRight_50 hP hD hS | (exfalso; omega)
    · refine z_iconst hx hb dX3_isRight_45 ?_
      refine lv_goto (tgt := 50) hx hb dX3_isRight_46 (by decide) ?_
      refine z_as (show 1 = rightZ (gOf (S 0)) r from by first | rfl | omega | (unfold rightZ; omega) | (subst_vars; unfold rightZ; omega) | (subst_vars; simp [rightZ])) ?_
      first | exact hret _ _ _ _ dX3_isRight_50 hP hD hS | (exfalso; omega)
set_option maxHeartbeats 4000000 in
set_option maxRecDepth 100000 in
theorem m_X3_helps (l : Launch) (D : va_G) (mo : Nat) (am : Nat → Nat) (cI : ClassId) (S : Nat → Int → Int) (r : Int) {B : Int} (hI : InvG B (gOf (S 0))) (h1 : -2147483648 ≤ r ∧ r < 2147483648)  : MW l D yX3_helps (wsY yX3_helps cX3_helps 2 (some .boolean)) { frames := 2, cells := 0, slots := 0, locals := 43 } [(cI, .int)] [.ref mo, .int (iI r)] (wM mo am cI S) (wM mo am cI S) (some (.int (iI (rightZ (gOf (S 0)) r)))) := by
  refine mw_ofZ (cc := cX3_helps) (maxL := 2) (ty := .boolean) (narrow_z01 (rightZ_01 _ r)) (by decide) rfl (Nat.le_of_ble_eq_true rfl) ?_
  intro p e s m below meth c R A Q args ls hx hb hml hown hts hRf hRl hRc hRs hN hK hP hD hS hA hret hl
  have hq : ∀ w ∈ ALL, w.before args s = true := fun w h => hts w (List.mem_cons_of_mem _ h)
  have hl : lv_has ls 2 [(0, .ref mo), (1, .int (iI r))] := hl
  refine lv_iload_n hx hb dX3_helps_0 rfl (lv_at hl 1 rfl) ?_
  refine mw_none (st1 := [.int (iI (if 0 ≤ r ∧ r ≤ 5 then 1 else 0 : Int))]) (mr_S (As := [.int (iI r)]) (rest := []) ⟨hx, hb, hml, hown, hts⟩ (m_X3_isRow l D r (by omega)) (va_cwS 1 hts (gS q_388 q_389 q_345 q_382) rfl rfl rfl (by decide +kernel) ⟨Nat.le_trans (m := 2) (Nat.le_of_ble_eq_true rfl) (Nat.le_trans (Nat.le_of_ble_eq_true rfl) hRf), Nat.le_trans (m := 42) (Nat.le_of_ble_eq_true rfl) (Nat.le_trans (Nat.le_of_ble_eq_true rfl) hRl)⟩) hN (hK.sub (tys' := []) [] rfl) (va_P0 _ _ _) (va_D0 A) rfl hl.1 (Nat.le_of_ble_eq_true rfl) ⟨hRc, hRs⟩ dX3_helps_1) hP hS hA rfl (fun H locs hP hS => ?_)
  refine z_if_eq (tgt := 19) hx hb dX3_helps_4 (by decide) (by omega) (fun c_1 => ?_) (fun c_1 => ?_)
  · refine z_iconst hx hb dX3_helps_19 ?_
    refine z_as (show 0 = rightZ (gOf (S 0)) r from by first | rfl | omega | (unfold rightZ; omega) | (subst_vars; unfold rightZ; omega) | (subst_vars; simp [rightZ])) ?_
    first | exact hret _ _ _ _ dX3_helps_20 hP hD hS | (exfalso; omega)
  · refine lv_aload_n hx hb dX3_helps_7 rfl (lv_at hl 0 rfl) ?_
    refine lv_iload_n hx hb dX3_helps_8 rfl (lv_at hl 1 rfl) ?_
    refine mw_full (st1 := [.int (iI (rightZ (gOf (S 0)) r))]) (mr_V (As := [.int (iI r)]) (rest := []) (ci := 3) (q0 := 0) ⟨hx, hb, hml, hown, hts⟩ (m_X3_isRight l D mo am cI S r hI (by omega)) (cwV 1 hts (gV q_390 q_391 q_392 q_345 q_387) rfl rfl rfl (by decide +kernel) ⟨Nat.le_trans (m := 2) (Nat.le_of_ble_eq_true rfl) (Nat.le_trans (Nat.le_of_ble_eq_true rfl) hRf), Nat.le_trans (m := 43) (Nat.le_of_ble_eq_true rfl) (Nat.le_trans (Nat.le_of_ble_eq_true rfl) hRl)⟩) hN hK hP hD rfl rfl rfl hl.1 (Nat.le_of_ble_eq_true rfl) ⟨hRc, hRs⟩ dX3_helps_9) hD hS hA rfl (fun H locs hP hD hS => ?_)
    have hf_2 := rightZ_01 (gOf (S 0)) r
    refine z_if_eq (tgt := 19) hx hb dX3_helps_12 (by decide) (by omega) (fun c_3 => ?_) (fun c_3 => ?_)
    · refine z_iconst hx hb dX3_helps_19 ?_
      refine z_as (show 0 = rightZ (gOf (S 0)) r from by first | rfl | omega | (unfold rightZ; omega) | (subst_vars; unfold rightZ; omega) | (subst_vars; simp [rightZ])) ?_
      first | exact hret _ _ _ _ dX3_helps_20 hP hD hS | (exfalso; omega)
    · refine z_iconst hx hb dX3_helps_15 ?_
      refine lv_goto (tgt := 20) hx hb dX3_helps_16 (by decide) ?_
      refine z_as (show 1 = rightZ (gOf (S 0)) r from by first | rfl | omega | (unfold rightZ; omega) | (subst_vars; unfold rightZ; omega) | (subst_vars; simp [rightZ])) ?_
      first | exact hret _ _ _ _ dX3_helps_20 hP hD hS | (exfalso; omega)
set_option maxHeartbeats 4000000 in
set_option maxRecDepth 100000 in
theorem m_X3_source (l : Launch) (D : va_G) (mo : Nat) (am : Nat → Nat) (cI : ClassId) (S : Nat → Int → Int) (r : Int) {B : Int} (hI : InvG B (gOf (S 0))) (h1 : 0 ≤ r ∧ r < 6)  : MW l D yX3_source (wsY yX3_source cX3_source 2 (some .int)) { frames := 3, cells := 0, slots := 0, locals := 64 } [(cI, .int)] [.ref mo, .int (iI r)] (wM mo am cI S) (wM mo am cI S) (some (.int (iI (sourceZ (gOf (S 0)) r)))) := by
  refine mw_ofI (cc := cX3_source) (maxL := 2) (by decide) rfl (Nat.le_of_ble_eq_true rfl) ?_
  intro p e s m below meth c R A Q args ls hx hb hml hown hts hRf hRl hRc hRs hN hK hP hD hS hA hret hl
  have hq : ∀ w ∈ ALL, w.before args s = true := fun w h => hts w (List.mem_cons_of_mem _ h)
  have hl : lv_has ls 2 [(0, .ref mo), (1, .int (iI r))] := hl
  refine lv_aload_n hx hb dX3_source_0 rfl (lv_at hl 0 rfl) ?_
  refine lv_iload_n hx hb dX3_source_1 rfl (lv_at hl 1 rfl) ?_
  refine mw_full (st1 := [.int (iI (rightZ (gOf (S 0)) r))]) (mr_V (As := [.int (iI r)]) (rest := []) (ci := 3) (q0 := 0) ⟨hx, hb, hml, hown, hts⟩ (m_X3_isRight l D mo am cI S r hI (by omega)) (cwV 1 hts (gV q_390 q_391 q_392 q_345 q_387) rfl rfl rfl (by decide +kernel) ⟨Nat.le_trans (m := 2) (Nat.le_of_ble_eq_true rfl) (Nat.le_trans (Nat.le_of_ble_eq_true rfl) hRf), Nat.le_trans (m := 43) (Nat.le_of_ble_eq_true rfl) (Nat.le_trans (Nat.le_of_ble_eq_true rfl) hRl)⟩) hN hK hP hD rfl rfl rfl hl.1 (Nat.le_of_ble_eq_true rfl) ⟨hRc, hRs⟩ dX3_source_2) hD hS hA rfl (fun H locs hP hD hS => ?_)
  have hf_1 := rightZ_01 (gOf (S 0)) r
  refine z_if_eq (tgt := 12) hx hb dX3_source_5 (by decide) (by omega) (fun c_2 => ?_) (fun c_2 => ?_)
  · refine lv_aload_n hx hb dX3_source_12 rfl (lv_at hl 0 rfl) ?_
    refine lv_iload_n hx hb dX3_source_13 rfl (lv_at hl 1 rfl) ?_
    refine z_iconst hx hb dX3_source_14 ?_
    refine z_isub hx hb dX3_source_15 ?_
    refine mw_full (st1 := [.int (iI (rightZ (gOf (S 0)) (r - 1)))]) (mr_V (As := [.int (iI (r - 1))]) (rest := []) (ci := 3) (q0 := 0) ⟨hx, hb, hml, hown, hts⟩ (m_X3_helps l D mo am cI S (r - 1) hI (by omega)) (cwV 1 hts (gV q_394 q_395 q_396 q_345 q_393) rfl rfl rfl (by decide +kernel) ⟨Nat.le_trans (m := 3) (Nat.le_of_ble_eq_true rfl) (Nat.le_trans (Nat.le_of_ble_eq_true rfl) hRf), Nat.le_trans (m := 64) (Nat.le_of_ble_eq_true rfl) (Nat.le_trans (Nat.le_of_ble_eq_true rfl) hRl)⟩) hN hK hP hD rfl rfl rfl hl.1 (Nat.le_of_ble_eq_true rfl) ⟨hRc, hRs⟩ dX3_source_16) hD hS hA rfl (fun H locs hP hD hS => ?_)
    have hf_3 := rightZ_01 (gOf (S 0)) (r - 1)
    refine z_if_ne (tgt := 32) hx hb dX3_source_19 (by decide) (by omega) (fun c_4 => ?_) (fun c_4 => ?_)
    · refine z_iconst hx hb dX3_source_32 ?_
      refine lv_goto (tgt := 37) hx hb dX3_source_33 (by decide) ?_
      refine z_as (show 1 = sourceZ (gOf (S 0)) r from by first | rfl | omega | (unfold sourceZ; omega) | (subst_vars; unfold sourceZ; omega) | (subst_vars; simp [sourceZ])) ?_
      first | exact hret _ _ _ _ dX3_source_37 hP hD hS | (exfalso; omega)
    · refine lv_aload_n hx hb dX3_source_22 rfl (lv_at hl 0 rfl) ?_
      refine lv_iload_n hx hb dX3_source_23 rfl (lv_at hl 1 rfl) ?_
      refine z_iconst hx hb dX3_source_24 ?_
      refine z_iadd hx hb dX3_source_25 ?_
      refine mw_full (st1 := [.int (iI (rightZ (gOf (S 0)) (r + 1)))]) (mr_V (As := [.int (iI (r + 1))]) (rest := []) (ci := 3) (q0 := 0) ⟨hx, hb, hml, hown, hts⟩ (m_X3_helps l D mo am cI S (r + 1) hI (by omega)) (cwV 1 hts (gV q_394 q_395 q_396 q_345 q_393) rfl rfl rfl (by decide +kernel) ⟨Nat.le_trans (m := 3) (Nat.le_of_ble_eq_true rfl) (Nat.le_trans (Nat.le_of_ble_eq_true rfl) hRf), Nat.le_trans (m := 64) (Nat.le_of_ble_eq_true rfl) (Nat.le_trans (Nat.le_of_ble_eq_true rfl) hRl)⟩) hN hK hP hD rfl rfl rfl hl.1 (Nat.le_of_ble_eq_true rfl) ⟨hRc, hRs⟩ dX3_source_26) hD hS hA rfl (fun H locs hP hD hS => ?_)
      have hf_5 := rightZ_01 (gOf (S 0)) (r + 1)
      refine z_if_eq (tgt := 36) hx hb dX3_source_29 (by decide) (by omega) (fun c_6 => ?_) (fun c_6 => ?_)
      · refine z_iconst hx hb dX3_source_36 ?_
        refine z_as (show 2 = sourceZ (gOf (S 0)) r from by first | rfl | omega | (unfold sourceZ; omega) | (subst_vars; unfold sourceZ; omega) | (subst_vars; simp [sourceZ])) ?_
        first | exact hret _ _ _ _ dX3_source_37 hP hD hS | (exfalso; omega)
      · refine z_iconst hx hb dX3_source_32 ?_
        refine lv_goto (tgt := 37) hx hb dX3_source_33 (by decide) ?_
        refine z_as (show 1 = sourceZ (gOf (S 0)) r from by first | rfl | omega | (unfold sourceZ; omega) | (subst_vars; unfold sourceZ; omega) | (subst_vars; simp [sourceZ])) ?_
        first | exact hret _ _ _ _ dX3_source_37 hP hD hS | (exfalso; omega)
  · refine z_iconst hx hb dX3_source_8 ?_
    refine lv_goto (tgt := 37) hx hb dX3_source_9 (by decide) ?_
    refine z_as (show 0 = sourceZ (gOf (S 0)) r from by first | rfl | omega | (unfold sourceZ; omega) | (subst_vars; unfold sourceZ; omega) | (subst_vars; simp [sourceZ])) ?_
    first | exact hret _ _ _ _ dX3_source_37 hP hD hS | (exfalso; omega)
set_option maxHeartbeats 4000000 in
set_option maxRecDepth 100000 in
theorem m_X3_threshold (l : Launch) (D : va_G) (mo : Nat) (am : Nat → Nat) (cI : ClassId) (S : Nat → Int → Int) (r u : Int) {B : Int} (hI : InvG B (gOf (S 0))) (h1 : 0 ≤ r ∧ r < 6) (h2 : 0 ≤ u ∧ u < 2)  : MW l D yX3_threshold (wsY yX3_threshold cX3_threshold 5 (some .int)) { frames := 3, cells := 0, slots := 0, locals := 64 } [(cI, .int)] [.ref mo, .int (iI r), .int (iI u)] (wM mo am cI S) (wM mo am cI S) (some (.int (iI (thrZ (gOf (S 0)) r u)))) := by
  refine mw_ofI (cc := cX3_threshold) (maxL := 5) (by decide) rfl (Nat.le_of_ble_eq_true rfl) ?_
  intro p e s m below meth c R A Q args ls hx hb hml hown hts hRf hRl hRc hRs hN hK hP hD hS hA hret hl
  have hq : ∀ w ∈ ALL, w.before args s = true := fun w h => hts w (List.mem_cons_of_mem _ h)
  have hl : lv_has ls 5 [(0, .ref mo), (1, .int (iI r)), (2, .int (iI u))] := hl
  refine lv_aload_n hx hb dX3_threshold_0 rfl (lv_at hl 0 rfl) ?_
  refine lv_iload_n hx hb dX3_threshold_1 rfl (lv_at hl 1 rfl) ?_
  refine mw_full (st1 := [.int (iI (rightZ (gOf (S 0)) r))]) (mr_V (As := [.int (iI r)]) (rest := []) (ci := 3) (q0 := 0) ⟨hx, hb, hml, hown, hts⟩ (m_X3_isRight l D mo am cI S r hI (by omega)) (cwV 1 hts (gV q_390 q_391 q_392 q_345 q_387) rfl rfl rfl (by decide +kernel) ⟨Nat.le_trans (m := 2) (Nat.le_of_ble_eq_true rfl) (Nat.le_trans (Nat.le_of_ble_eq_true rfl) hRf), Nat.le_trans (m := 43) (Nat.le_of_ble_eq_true rfl) (Nat.le_trans (Nat.le_of_ble_eq_true rfl) hRl)⟩) hN hK hP hD rfl rfl rfl hl.1 (Nat.le_of_ble_eq_true rfl) ⟨hRc, hRs⟩ dX3_threshold_2) hD hS hA rfl (fun H locs hP hD hS => ?_)
  have hf_1 := rightZ_01 (gOf (S 0)) r
  refine z_if_eq (tgt := 15) hx hb dX3_threshold_5 (by decide) (by omega) (fun c_2 => ?_) (fun c_2 => ?_)
  · refine lv_aload_n hx hb dX3_threshold_15 rfl (lv_at hl 0 rfl) ?_
    refine lv_iload_n hx hb dX3_threshold_16 rfl (lv_at hl 1 rfl) ?_
    refine z_iconst hx hb dX3_threshold_17 ?_
    refine z_isub hx hb dX3_threshold_18 ?_
    refine mw_full (st1 := [.int (iI (rightZ (gOf (S 0)) (r - 1)))]) (mr_V (As := [.int (iI (r - 1))]) (rest := []) (ci := 3) (q0 := 0) ⟨hx, hb, hml, hown, hts⟩ (m_X3_helps l D mo am cI S (r - 1) hI (by omega)) (cwV 1 hts (gV q_394 q_395 q_396 q_345 q_393) rfl rfl rfl (by decide +kernel) ⟨Nat.le_trans (m := 3) (Nat.le_of_ble_eq_true rfl) (Nat.le_trans (Nat.le_of_ble_eq_true rfl) hRf), Nat.le_trans (m := 64) (Nat.le_of_ble_eq_true rfl) (Nat.le_trans (Nat.le_of_ble_eq_true rfl) hRl)⟩) hN hK hP hD rfl rfl rfl hl.1 (Nat.le_of_ble_eq_true rfl) ⟨hRc, hRs⟩ dX3_threshold_19) hD hS hA rfl (fun H locs hP hD hS => ?_)
    have hf_3 := rightZ_01 (gOf (S 0)) (r - 1)
    refine z_if_eq (tgt := 36) hx hb dX3_threshold_22 (by decide) (by omega) (fun c_4 => ?_) (fun c_4 => ?_)
    · refine z_iconst hx hb dX3_threshold_36 ?_
      refine lv_aload_n hx hb dX3_threshold_37 rfl (lv_at hl 0 rfl) ?_
      refine lv_iload_n hx hb dX3_threshold_38 rfl (lv_at hl 1 rfl) ?_
      refine z_iconst hx hb dX3_threshold_39 ?_
      refine z_iadd hx hb dX3_threshold_40 ?_
      refine mw_full (st1 := [.int (iI (rightZ (gOf (S 0)) (r + 1))), .int (iI 0)]) (mr_V (As := [.int (iI (r + 1))]) (rest := [.int (iI 0)]) (ci := 3) (q0 := 0) ⟨hx, hb, hml, hown, hts⟩ (m_X3_helps l D mo am cI S (r + 1) hI (by omega)) (cwV 1 hts (gV q_394 q_395 q_396 q_345 q_393) rfl rfl rfl (by decide +kernel) ⟨Nat.le_trans (m := 3) (Nat.le_of_ble_eq_true rfl) (Nat.le_trans (Nat.le_of_ble_eq_true rfl) hRf), Nat.le_trans (m := 64) (Nat.le_of_ble_eq_true rfl) (Nat.le_trans (Nat.le_of_ble_eq_true rfl) hRl)⟩) hN hK hP hD rfl rfl rfl hl.1 (Nat.le_of_ble_eq_true rfl) ⟨hRc, hRs⟩ dX3_threshold_41) hD hS hA rfl (fun H locs hP hD hS => ?_)
      have hf_5 := rightZ_01 (gOf (S 0)) (r + 1)
      refine z_if_eq (tgt := 58) hx hb dX3_threshold_44 (by decide) (by omega) (fun c_6 => ?_) (fun c_6 => ?_)
      · refine z_iconst hx hb dX3_threshold_58 ?_
        refine z_iadd hx hb dX3_threshold_59 ?_
        refine z_as (show ((0 + 0) : Int) = 0 from rfl) ?_
        refine lv_istore_n (lv' := [(3, .int (iI 0)), (0, .ref mo), (1, .int (iI r)), (2, .int (iI u))]) hx hb dX3_threshold_60 rfl hl (by decide) rfl (fun ls hl => ?_)
        refine lv_aload_n hx hb dX3_threshold_61 rfl (lv_at hl 1 rfl) ?_
        refine lv_iload_n hx hb dX3_threshold_62 rfl (lv_at hl 2 rfl) ?_
        refine z_iconst hx hb dX3_threshold_63 ?_
        refine z_isub hx hb dX3_threshold_64 ?_
        refine mw_full (st1 := [.int (iI (rightZ (gOf (S 0)) (r - 1)))]) (mr_V (As := [.int (iI (r - 1))]) (rest := []) (ci := 3) (q0 := 0) ⟨hx, hb, hml, hown, hts⟩ (m_X3_helps l D mo am cI S (r - 1) hI (by omega)) (cwV 1 hts (gV q_394 q_395 q_396 q_345 q_393) rfl rfl rfl (by decide +kernel) ⟨Nat.le_trans (m := 3) (Nat.le_of_ble_eq_true rfl) (Nat.le_trans (Nat.le_of_ble_eq_true rfl) hRf), Nat.le_trans (m := 64) (Nat.le_of_ble_eq_true rfl) (Nat.le_trans (Nat.le_of_ble_eq_true rfl) hRl)⟩) hN hK hP hD rfl rfl rfl hl.1 (Nat.le_of_ble_eq_true rfl) ⟨hRc, hRs⟩ dX3_threshold_65) hD hS hA rfl (fun H locs hP hD hS => ?_)
        have hf_7 := rightZ_01 (gOf (S 0)) (r - 1)
        refine z_if_eq (tgt := 75) hx hb dX3_threshold_68 (by decide) (by omega) (fun c_8 => ?_) (fun c_8 => ?_)
        · refine z_iconst hx hb dX3_threshold_75 ?_
          refine lv_aload_n hx hb dX3_threshold_76 rfl (lv_at hl 1 rfl) ?_
          refine lv_iload_n hx hb dX3_threshold_77 rfl (lv_at hl 2 rfl) ?_
          refine z_iconst hx hb dX3_threshold_78 ?_
          refine z_iadd hx hb dX3_threshold_79 ?_
          refine mw_full (st1 := [.int (iI (rightZ (gOf (S 0)) (r + 1))), .int (iI 0)]) (mr_V (As := [.int (iI (r + 1))]) (rest := [.int (iI 0)]) (ci := 3) (q0 := 0) ⟨hx, hb, hml, hown, hts⟩ (m_X3_helps l D mo am cI S (r + 1) hI (by omega)) (cwV 1 hts (gV q_394 q_395 q_396 q_345 q_393) rfl rfl rfl (by decide +kernel) ⟨Nat.le_trans (m := 3) (Nat.le_of_ble_eq_true rfl) (Nat.le_trans (Nat.le_of_ble_eq_true rfl) hRf), Nat.le_trans (m := 64) (Nat.le_of_ble_eq_true rfl) (Nat.le_trans (Nat.le_of_ble_eq_true rfl) hRl)⟩) hN hK hP hD rfl rfl rfl hl.1 (Nat.le_of_ble_eq_true rfl) ⟨hRc, hRs⟩ dX3_threshold_80) hD hS hA rfl (fun H locs hP hD hS => ?_)
          have hf_9 := rightZ_01 (gOf (S 0)) (r + 1)
          refine z_if_eq (tgt := 90) hx hb dX3_threshold_83 (by decide) (by omega) (fun c_10 => ?_) (fun c_10 => ?_)
          · refine z_iconst hx hb dX3_threshold_90 ?_
            refine z_iadd hx hb dX3_threshold_91 ?_
            refine z_as (show ((0 + 0) : Int) = 0 from rfl) ?_
            refine lv_istore (lv' := [(4, .int (iI 0)), (3, .int (iI 0)), (0, .ref mo), (1, .int (iI r)), (2, .int (iI u))]) hx hb dX3_threshold_92 hl (by decide) rfl (fun ls hl => ?_)
            refine lv_iload hx hb dX3_threshold_94 (lv_at hl 0 rfl) ?_
            refine z_if_le (tgt := 106) hx hb dX3_threshold_96 (by decide) (by omega) (fun c_11 => ?_) (fun c_11 => absurd c_11 (by omega))
            refine lv_iload_n hx hb dX3_threshold_106 rfl (lv_at hl 4 rfl) ?_
            refine z_if_ne (tgt := 116) hx hb dX3_threshold_107 (by decide) (by omega) (fun c_12 => ?_) (fun c_12 => ?_)
            · refine z_sipush hx hb dX3_threshold_116 (by decide +kernel) ?_
              refine z_as (show 700 = thrZ (gOf (S 0)) r u from by first | rfl | omega | (unfold thrZ; omega) | (subst_vars; unfold thrZ; omega) | (subst_vars; simp [thrZ])) ?_
              first | exact hret _ _ _ _ dX3_threshold_119 hP hD hS | (exfalso; omega)
            · refine z_sipush hx hb dX3_threshold_110 (by decide +kernel) ?_
              refine lv_goto (tgt := 119) hx hb dX3_threshold_113 (by decide) ?_
              refine z_as (show 300 = thrZ (gOf (S 0)) r u from by first | rfl | omega | (unfold thrZ; omega) | (subst_vars; unfold thrZ; omega) | (subst_vars; simp [thrZ])) ?_
              first | exact hret _ _ _ _ dX3_threshold_119 hP hD hS | (exfalso; omega)
          · refine z_iconst hx hb dX3_threshold_86 ?_
            refine lv_goto (tgt := 91) hx hb dX3_threshold_87 (by decide) ?_
            refine z_iadd hx hb dX3_threshold_91 ?_
            refine z_as (show ((0 + 1) : Int) = 1 from rfl) ?_
            refine lv_istore (lv' := [(4, .int (iI 1)), (3, .int (iI 0)), (0, .ref mo), (1, .int (iI r)), (2, .int (iI u))]) hx hb dX3_threshold_92 hl (by decide) rfl (fun ls hl => ?_)
            refine lv_iload hx hb dX3_threshold_94 (lv_at hl 0 rfl) ?_
            refine z_if_le (tgt := 106) hx hb dX3_threshold_96 (by decide) (by omega) (fun c_13 => absurd c_13 (by omega)) (fun c_13 => ?_)
            refine lv_iload_n hx hb dX3_threshold_99 rfl (lv_at hl 1 rfl) ?_
            refine lv_iload hx hb dX3_threshold_100 (lv_at hl 0 rfl) ?_
            refine z_idiv hx hb dX3_threshold_102 (by omega) (by omega) ?_
            refine lv_goto (tgt := 119) hx hb dX3_threshold_103 (by decide) ?_
            refine z_as (show (0 / 1) = thrZ (gOf (S 0)) r u from by first | rfl | omega | (unfold thrZ; omega) | (subst_vars; unfold thrZ; omega) | (subst_vars; simp [thrZ])) ?_
            first | exact hret _ _ _ _ dX3_threshold_119 hP hD hS | (exfalso; omega)
        · refine z_iconst hx hb dX3_threshold_71 ?_
          refine lv_goto (tgt := 76) hx hb dX3_threshold_72 (by decide) ?_
          refine lv_aload_n hx hb dX3_threshold_76 rfl (lv_at hl 1 rfl) ?_
          refine lv_iload_n hx hb dX3_threshold_77 rfl (lv_at hl 2 rfl) ?_
          refine z_iconst hx hb dX3_threshold_78 ?_
          refine z_iadd hx hb dX3_threshold_79 ?_
          refine mw_full (st1 := [.int (iI (rightZ (gOf (S 0)) (r + 1))), .int (iI 1)]) (mr_V (As := [.int (iI (r + 1))]) (rest := [.int (iI 1)]) (ci := 3) (q0 := 0) ⟨hx, hb, hml, hown, hts⟩ (m_X3_helps l D mo am cI S (r + 1) hI (by omega)) (cwV 1 hts (gV q_394 q_395 q_396 q_345 q_393) rfl rfl rfl (by decide +kernel) ⟨Nat.le_trans (m := 3) (Nat.le_of_ble_eq_true rfl) (Nat.le_trans (Nat.le_of_ble_eq_true rfl) hRf), Nat.le_trans (m := 64) (Nat.le_of_ble_eq_true rfl) (Nat.le_trans (Nat.le_of_ble_eq_true rfl) hRl)⟩) hN hK hP hD rfl rfl rfl hl.1 (Nat.le_of_ble_eq_true rfl) ⟨hRc, hRs⟩ dX3_threshold_80) hD hS hA rfl (fun H locs hP hD hS => ?_)
          have hf_14 := rightZ_01 (gOf (S 0)) (r + 1)
          refine z_if_eq (tgt := 90) hx hb dX3_threshold_83 (by decide) (by omega) (fun c_15 => ?_) (fun c_15 => ?_)
          · refine z_iconst hx hb dX3_threshold_90 ?_
            refine z_iadd hx hb dX3_threshold_91 ?_
            refine z_as (show ((1 + 0) : Int) = 1 from rfl) ?_
            refine lv_istore (lv' := [(4, .int (iI 1)), (3, .int (iI 0)), (0, .ref mo), (1, .int (iI r)), (2, .int (iI u))]) hx hb dX3_threshold_92 hl (by decide) rfl (fun ls hl => ?_)
            refine lv_iload hx hb dX3_threshold_94 (lv_at hl 0 rfl) ?_
            refine z_if_le (tgt := 106) hx hb dX3_threshold_96 (by decide) (by omega) (fun c_16 => absurd c_16 (by omega)) (fun c_16 => ?_)
            refine lv_iload_n hx hb dX3_threshold_99 rfl (lv_at hl 1 rfl) ?_
            refine lv_iload hx hb dX3_threshold_100 (lv_at hl 0 rfl) ?_
            refine z_idiv hx hb dX3_threshold_102 (by omega) (by omega) ?_
            refine lv_goto (tgt := 119) hx hb dX3_threshold_103 (by decide) ?_
            refine z_as (show (0 / 1) = thrZ (gOf (S 0)) r u from by first | rfl | omega | (unfold thrZ; omega) | (subst_vars; unfold thrZ; omega) | (subst_vars; simp [thrZ])) ?_
            first | exact hret _ _ _ _ dX3_threshold_119 hP hD hS | (exfalso; omega)
          · refine z_iconst hx hb dX3_threshold_86 ?_
            refine lv_goto (tgt := 91) hx hb dX3_threshold_87 (by decide) ?_
            refine z_iadd hx hb dX3_threshold_91 ?_
            refine z_as (show ((1 + 1) : Int) = 2 from rfl) ?_
            refine lv_istore (lv' := [(4, .int (iI 2)), (3, .int (iI 0)), (0, .ref mo), (1, .int (iI r)), (2, .int (iI u))]) hx hb dX3_threshold_92 hl (by decide) rfl (fun ls hl => ?_)
            refine lv_iload hx hb dX3_threshold_94 (lv_at hl 0 rfl) ?_
            refine z_if_le (tgt := 106) hx hb dX3_threshold_96 (by decide) (by omega) (fun c_17 => absurd c_17 (by omega)) (fun c_17 => ?_)
            refine lv_iload_n hx hb dX3_threshold_99 rfl (lv_at hl 1 rfl) ?_
            refine lv_iload hx hb dX3_threshold_100 (lv_at hl 0 rfl) ?_
            refine z_idiv hx hb dX3_threshold_102 (by omega) (by omega) ?_
            refine lv_goto (tgt := 119) hx hb dX3_threshold_103 (by decide) ?_
            refine z_as (show (0 / 2) = thrZ (gOf (S 0)) r u from by first | rfl | omega | (unfold thrZ; omega) | (subst_vars; unfold thrZ; omega) | (subst_vars; simp [thrZ])) ?_
            first | exact hret _ _ _ _ dX3_threshold_119 hP hD hS | (exfalso; omega)
      · have hh2 := rightZ_in c_6
        refine lv_aload_n hx hb dX3_threshold_47 rfl (lv_at hl 0 rfl) ?_
        refine lv_iload_n hx hb dX3_threshold_48 rfl (lv_at hl 1 rfl) ?_
        refine z_iconst hx hb dX3_threshold_49 ?_
        refine z_iadd hx hb dX3_threshold_50 ?_
        refine lv_iload_n hx hb dX3_threshold_51 rfl (lv_at hl 2 rfl) ?_
        refine mw_full (st1 := [.int (iI (ownZ (gOf (S 0)) (r + 1) u)), .int (iI 0)]) (mr_V (As := [.int (iI (r + 1)), .int (iI u)]) (rest := [.int (iI 0)]) (ci := 3) (q0 := 0) ⟨hx, hb, hml, hown, hts⟩ (m_X3_own l D mo am cI S (r + 1) u hI (by omega) (by omega)) (cwV 2 hts (gV q_398 q_399 q_400 q_345 q_386) rfl rfl rfl (by decide +kernel) ⟨Nat.le_trans (m := 2) (Nat.le_of_ble_eq_true rfl) (Nat.le_trans (Nat.le_of_ble_eq_true rfl) hRf), Nat.le_trans (m := 44) (Nat.le_of_ble_eq_true rfl) (Nat.le_trans (Nat.le_of_ble_eq_true rfl) hRl)⟩) hN hK hP hD rfl rfl rfl hl.1 (Nat.le_of_ble_eq_true rfl) ⟨hRc, hRs⟩ dX3_threshold_52) hD hS hA rfl (fun H locs hP hD hS => ?_)
        have hf_18 := ownZ_bd hI (r + 1) u (by omega) (by omega)
        refine lv_goto (tgt := 59) hx hb dX3_threshold_55 (by decide) ?_
        refine z_iadd hx hb dX3_threshold_59 ?_
        refine lv_istore_n (lv' := [(3, .int (iI (0 + ownZ (gOf (S 0)) (r + 1) u))), (0, .ref mo), (1, .int (iI r)), (2, .int (iI u))]) hx hb dX3_threshold_60 rfl hl (by decide) rfl (fun ls hl => ?_)
        refine lv_aload_n hx hb dX3_threshold_61 rfl (lv_at hl 1 rfl) ?_
        refine lv_iload_n hx hb dX3_threshold_62 rfl (lv_at hl 2 rfl) ?_
        refine z_iconst hx hb dX3_threshold_63 ?_
        refine z_isub hx hb dX3_threshold_64 ?_
        refine mw_full (st1 := [.int (iI (rightZ (gOf (S 0)) (r - 1)))]) (mr_V (As := [.int (iI (r - 1))]) (rest := []) (ci := 3) (q0 := 0) ⟨hx, hb, hml, hown, hts⟩ (m_X3_helps l D mo am cI S (r - 1) hI (by omega)) (cwV 1 hts (gV q_394 q_395 q_396 q_345 q_393) rfl rfl rfl (by decide +kernel) ⟨Nat.le_trans (m := 3) (Nat.le_of_ble_eq_true rfl) (Nat.le_trans (Nat.le_of_ble_eq_true rfl) hRf), Nat.le_trans (m := 64) (Nat.le_of_ble_eq_true rfl) (Nat.le_trans (Nat.le_of_ble_eq_true rfl) hRl)⟩) hN hK hP hD rfl rfl rfl hl.1 (Nat.le_of_ble_eq_true rfl) ⟨hRc, hRs⟩ dX3_threshold_65) hD hS hA rfl (fun H locs hP hD hS => ?_)
        have hf_19 := rightZ_01 (gOf (S 0)) (r - 1)
        refine z_if_eq (tgt := 75) hx hb dX3_threshold_68 (by decide) (by omega) (fun c_20 => ?_) (fun c_20 => ?_)
        · refine z_iconst hx hb dX3_threshold_75 ?_
          refine lv_aload_n hx hb dX3_threshold_76 rfl (lv_at hl 1 rfl) ?_
          refine lv_iload_n hx hb dX3_threshold_77 rfl (lv_at hl 2 rfl) ?_
          refine z_iconst hx hb dX3_threshold_78 ?_
          refine z_iadd hx hb dX3_threshold_79 ?_
          refine mw_full (st1 := [.int (iI (rightZ (gOf (S 0)) (r + 1))), .int (iI 0)]) (mr_V (As := [.int (iI (r + 1))]) (rest := [.int (iI 0)]) (ci := 3) (q0 := 0) ⟨hx, hb, hml, hown, hts⟩ (m_X3_helps l D mo am cI S (r + 1) hI (by omega)) (cwV 1 hts (gV q_394 q_395 q_396 q_345 q_393) rfl rfl rfl (by decide +kernel) ⟨Nat.le_trans (m := 3) (Nat.le_of_ble_eq_true rfl) (Nat.le_trans (Nat.le_of_ble_eq_true rfl) hRf), Nat.le_trans (m := 64) (Nat.le_of_ble_eq_true rfl) (Nat.le_trans (Nat.le_of_ble_eq_true rfl) hRl)⟩) hN hK hP hD rfl rfl rfl hl.1 (Nat.le_of_ble_eq_true rfl) ⟨hRc, hRs⟩ dX3_threshold_80) hD hS hA rfl (fun H locs hP hD hS => ?_)
          have hf_21 := rightZ_01 (gOf (S 0)) (r + 1)
          refine z_if_eq (tgt := 90) hx hb dX3_threshold_83 (by decide) (by omega) (fun c_22 => ?_) (fun c_22 => ?_)
          · refine z_iconst hx hb dX3_threshold_90 ?_
            refine z_iadd hx hb dX3_threshold_91 ?_
            refine z_as (show ((0 + 0) : Int) = 0 from rfl) ?_
            refine lv_istore (lv' := [(4, .int (iI 0)), (3, .int (iI (0 + ownZ (gOf (S 0)) (r + 1) u))), (0, .ref mo), (1, .int (iI r)), (2, .int (iI u))]) hx hb dX3_threshold_92 hl (by decide) rfl (fun ls hl => ?_)
            refine lv_iload hx hb dX3_threshold_94 (lv_at hl 0 rfl) ?_
            refine z_if_le (tgt := 106) hx hb dX3_threshold_96 (by decide) (by omega) (fun c_23 => ?_) (fun c_23 => absurd c_23 (by omega))
            refine lv_iload_n hx hb dX3_threshold_106 rfl (lv_at hl 4 rfl) ?_
            refine z_if_ne (tgt := 116) hx hb dX3_threshold_107 (by decide) (by omega) (fun c_24 => ?_) (fun c_24 => ?_)
            · refine z_sipush hx hb dX3_threshold_116 (by decide +kernel) ?_
              refine z_as (show 700 = thrZ (gOf (S 0)) r u from by first | rfl | omega | (unfold thrZ; omega) | (subst_vars; unfold thrZ; omega) | (subst_vars; simp [thrZ])) ?_
              first | exact hret _ _ _ _ dX3_threshold_119 hP hD hS | (exfalso; omega)
            · refine z_sipush hx hb dX3_threshold_110 (by decide +kernel) ?_
              refine lv_goto (tgt := 119) hx hb dX3_threshold_113 (by decide) ?_
              refine z_as (show 300 = thrZ (gOf (S 0)) r u from by first | rfl | omega | (unfold thrZ; omega) | (subst_vars; unfold thrZ; omega) | (subst_vars; simp [thrZ])) ?_
              first | exact hret _ _ _ _ dX3_threshold_119 hP hD hS | (exfalso; omega)
          · refine z_iconst hx hb dX3_threshold_86 ?_
            refine lv_goto (tgt := 91) hx hb dX3_threshold_87 (by decide) ?_
            refine z_iadd hx hb dX3_threshold_91 ?_
            refine z_as (show ((0 + 1) : Int) = 1 from rfl) ?_
            refine lv_istore (lv' := [(4, .int (iI 1)), (3, .int (iI (0 + ownZ (gOf (S 0)) (r + 1) u))), (0, .ref mo), (1, .int (iI r)), (2, .int (iI u))]) hx hb dX3_threshold_92 hl (by decide) rfl (fun ls hl => ?_)
            refine lv_iload hx hb dX3_threshold_94 (lv_at hl 0 rfl) ?_
            refine z_if_le (tgt := 106) hx hb dX3_threshold_96 (by decide) (by omega) (fun c_25 => absurd c_25 (by omega)) (fun c_25 => ?_)
            refine lv_iload_n hx hb dX3_threshold_99 rfl (lv_at hl 1 rfl) ?_
            refine lv_iload hx hb dX3_threshold_100 (lv_at hl 0 rfl) ?_
            refine z_idiv hx hb dX3_threshold_102 (by omega) (by omega) ?_
            refine lv_goto (tgt := 119) hx hb dX3_threshold_103 (by decide) ?_
            refine z_as (show ((0 + ownZ (gOf (S 0)) (r + 1) u) / 1) = thrZ (gOf (S 0)) r u from by first | rfl | omega | (unfold thrZ; omega) | (subst_vars; unfold thrZ; omega) | (subst_vars; simp [thrZ])) ?_
            first | exact hret _ _ _ _ dX3_threshold_119 hP hD hS | (exfalso; omega)
        · refine z_iconst hx hb dX3_threshold_71 ?_
          refine lv_goto (tgt := 76) hx hb dX3_threshold_72 (by decide) ?_
          refine lv_aload_n hx hb dX3_threshold_76 rfl (lv_at hl 1 rfl) ?_
          refine lv_iload_n hx hb dX3_threshold_77 rfl (lv_at hl 2 rfl) ?_
          refine z_iconst hx hb dX3_threshold_78 ?_
          refine z_iadd hx hb dX3_threshold_79 ?_
          refine mw_full (st1 := [.int (iI (rightZ (gOf (S 0)) (r + 1))), .int (iI 1)]) (mr_V (As := [.int (iI (r + 1))]) (rest := [.int (iI 1)]) (ci := 3) (q0 := 0) ⟨hx, hb, hml, hown, hts⟩ (m_X3_helps l D mo am cI S (r + 1) hI (by omega)) (cwV 1 hts (gV q_394 q_395 q_396 q_345 q_393) rfl rfl rfl (by decide +kernel) ⟨Nat.le_trans (m := 3) (Nat.le_of_ble_eq_true rfl) (Nat.le_trans (Nat.le_of_ble_eq_true rfl) hRf), Nat.le_trans (m := 64) (Nat.le_of_ble_eq_true rfl) (Nat.le_trans (Nat.le_of_ble_eq_true rfl) hRl)⟩) hN hK hP hD rfl rfl rfl hl.1 (Nat.le_of_ble_eq_true rfl) ⟨hRc, hRs⟩ dX3_threshold_80) hD hS hA rfl (fun H locs hP hD hS => ?_)
          have hf_26 := rightZ_01 (gOf (S 0)) (r + 1)
          refine z_if_eq (tgt := 90) hx hb dX3_threshold_83 (by decide) (by omega) (fun c_27 => ?_) (fun c_27 => ?_)
          · refine z_iconst hx hb dX3_threshold_90 ?_
            refine z_iadd hx hb dX3_threshold_91 ?_
            refine z_as (show ((1 + 0) : Int) = 1 from rfl) ?_
            refine lv_istore (lv' := [(4, .int (iI 1)), (3, .int (iI (0 + ownZ (gOf (S 0)) (r + 1) u))), (0, .ref mo), (1, .int (iI r)), (2, .int (iI u))]) hx hb dX3_threshold_92 hl (by decide) rfl (fun ls hl => ?_)
            refine lv_iload hx hb dX3_threshold_94 (lv_at hl 0 rfl) ?_
            refine z_if_le (tgt := 106) hx hb dX3_threshold_96 (by decide) (by omega) (fun c_28 => absurd c_28 (by omega)) (fun c_28 => ?_)
            refine lv_iload_n hx hb dX3_threshold_99 rfl (lv_at hl 1 rfl) ?_
            refine lv_iload hx hb dX3_threshold_100 (lv_at hl 0 rfl) ?_
            refine z_idiv hx hb dX3_threshold_102 (by omega) (by omega) ?_
            refine lv_goto (tgt := 119) hx hb dX3_threshold_103 (by decide) ?_
            refine z_as (show ((0 + ownZ (gOf (S 0)) (r + 1) u) / 1) = thrZ (gOf (S 0)) r u from by first | rfl | omega | (unfold thrZ; omega) | (subst_vars; unfold thrZ; omega) | (subst_vars; simp [thrZ])) ?_
            first | exact hret _ _ _ _ dX3_threshold_119 hP hD hS | (exfalso; omega)
          · refine z_iconst hx hb dX3_threshold_86 ?_
            refine lv_goto (tgt := 91) hx hb dX3_threshold_87 (by decide) ?_
            refine z_iadd hx hb dX3_threshold_91 ?_
            refine z_as (show ((1 + 1) : Int) = 2 from rfl) ?_
            refine lv_istore (lv' := [(4, .int (iI 2)), (3, .int (iI (0 + ownZ (gOf (S 0)) (r + 1) u))), (0, .ref mo), (1, .int (iI r)), (2, .int (iI u))]) hx hb dX3_threshold_92 hl (by decide) rfl (fun ls hl => ?_)
            refine lv_iload hx hb dX3_threshold_94 (lv_at hl 0 rfl) ?_
            refine z_if_le (tgt := 106) hx hb dX3_threshold_96 (by decide) (by omega) (fun c_29 => absurd c_29 (by omega)) (fun c_29 => ?_)
            refine lv_iload_n hx hb dX3_threshold_99 rfl (lv_at hl 1 rfl) ?_
            refine lv_iload hx hb dX3_threshold_100 (lv_at hl 0 rfl) ?_
            refine z_idiv hx hb dX3_threshold_102 (by omega) (by omega) ?_
            refine lv_goto (tgt := 119) hx hb dX3_threshold_103 (by decide) ?_
            refine z_as (show ((0 + ownZ (gOf (S 0)) (r + 1) u) / 2) = thrZ (gOf (S 0)) r u from by first | rfl | omega | (unfold thrZ; omega) | (subst_vars; unfold thrZ; omega) | (subst_vars; simp [thrZ])) ?_
            first | exact hret _ _ _ _ dX3_threshold_119 hP hD hS | (exfalso; omega)
    · have hh1 := rightZ_in c_4
      refine lv_aload_n hx hb dX3_threshold_25 rfl (lv_at hl 0 rfl) ?_
      refine lv_iload_n hx hb dX3_threshold_26 rfl (lv_at hl 1 rfl) ?_
      refine z_iconst hx hb dX3_threshold_27 ?_
      refine z_isub hx hb dX3_threshold_28 ?_
      refine lv_iload_n hx hb dX3_threshold_29 rfl (lv_at hl 2 rfl) ?_
      refine mw_full (st1 := [.int (iI (ownZ (gOf (S 0)) (r - 1) u))]) (mr_V (As := [.int (iI (r - 1)), .int (iI u)]) (rest := []) (ci := 3) (q0 := 0) ⟨hx, hb, hml, hown, hts⟩ (m_X3_own l D mo am cI S (r - 1) u hI (by omega) (by omega)) (cwV 2 hts (gV q_398 q_399 q_400 q_345 q_386) rfl rfl rfl (by decide +kernel) ⟨Nat.le_trans (m := 2) (Nat.le_of_ble_eq_true rfl) (Nat.le_trans (Nat.le_of_ble_eq_true rfl) hRf), Nat.le_trans (m := 44) (Nat.le_of_ble_eq_true rfl) (Nat.le_trans (Nat.le_of_ble_eq_true rfl) hRl)⟩) hN hK hP hD rfl rfl rfl hl.1 (Nat.le_of_ble_eq_true rfl) ⟨hRc, hRs⟩ dX3_threshold_30) hD hS hA rfl (fun H locs hP hD hS => ?_)
      have hf_30 := ownZ_bd hI (r - 1) u (by omega) (by omega)
      refine lv_goto (tgt := 37) hx hb dX3_threshold_33 (by decide) ?_
      refine lv_aload_n hx hb dX3_threshold_37 rfl (lv_at hl 0 rfl) ?_
      refine lv_iload_n hx hb dX3_threshold_38 rfl (lv_at hl 1 rfl) ?_
      refine z_iconst hx hb dX3_threshold_39 ?_
      refine z_iadd hx hb dX3_threshold_40 ?_
      refine mw_full (st1 := [.int (iI (rightZ (gOf (S 0)) (r + 1))), .int (iI (ownZ (gOf (S 0)) (r - 1) u))]) (mr_V (As := [.int (iI (r + 1))]) (rest := [.int (iI (ownZ (gOf (S 0)) (r - 1) u))]) (ci := 3) (q0 := 0) ⟨hx, hb, hml, hown, hts⟩ (m_X3_helps l D mo am cI S (r + 1) hI (by omega)) (cwV 1 hts (gV q_394 q_395 q_396 q_345 q_393) rfl rfl rfl (by decide +kernel) ⟨Nat.le_trans (m := 3) (Nat.le_of_ble_eq_true rfl) (Nat.le_trans (Nat.le_of_ble_eq_true rfl) hRf), Nat.le_trans (m := 64) (Nat.le_of_ble_eq_true rfl) (Nat.le_trans (Nat.le_of_ble_eq_true rfl) hRl)⟩) hN hK hP hD rfl rfl rfl hl.1 (Nat.le_of_ble_eq_true rfl) ⟨hRc, hRs⟩ dX3_threshold_41) hD hS hA rfl (fun H locs hP hD hS => ?_)
      have hf_31 := rightZ_01 (gOf (S 0)) (r + 1)
      refine z_if_eq (tgt := 58) hx hb dX3_threshold_44 (by decide) (by omega) (fun c_32 => ?_) (fun c_32 => ?_)
      · refine z_iconst hx hb dX3_threshold_58 ?_
        refine z_iadd hx hb dX3_threshold_59 ?_
        refine lv_istore_n (lv' := [(3, .int (iI (ownZ (gOf (S 0)) (r - 1) u + 0))), (0, .ref mo), (1, .int (iI r)), (2, .int (iI u))]) hx hb dX3_threshold_60 rfl hl (by decide) rfl (fun ls hl => ?_)
        refine lv_aload_n hx hb dX3_threshold_61 rfl (lv_at hl 1 rfl) ?_
        refine lv_iload_n hx hb dX3_threshold_62 rfl (lv_at hl 2 rfl) ?_
        refine z_iconst hx hb dX3_threshold_63 ?_
        refine z_isub hx hb dX3_threshold_64 ?_
        refine mw_full (st1 := [.int (iI (rightZ (gOf (S 0)) (r - 1)))]) (mr_V (As := [.int (iI (r - 1))]) (rest := []) (ci := 3) (q0 := 0) ⟨hx, hb, hml, hown, hts⟩ (m_X3_helps l D mo am cI S (r - 1) hI (by omega)) (cwV 1 hts (gV q_394 q_395 q_396 q_345 q_393) rfl rfl rfl (by decide +kernel) ⟨Nat.le_trans (m := 3) (Nat.le_of_ble_eq_true rfl) (Nat.le_trans (Nat.le_of_ble_eq_true rfl) hRf), Nat.le_trans (m := 64) (Nat.le_of_ble_eq_true rfl) (Nat.le_trans (Nat.le_of_ble_eq_true rfl) hRl)⟩) hN hK hP hD rfl rfl rfl hl.1 (Nat.le_of_ble_eq_true rfl) ⟨hRc, hRs⟩ dX3_threshold_65) hD hS hA rfl (fun H locs hP hD hS => ?_)
        have hf_33 := rightZ_01 (gOf (S 0)) (r - 1)
        refine z_if_eq (tgt := 75) hx hb dX3_threshold_68 (by decide) (by omega) (fun c_34 => ?_) (fun c_34 => ?_)
        · refine z_iconst hx hb dX3_threshold_75 ?_
          refine lv_aload_n hx hb dX3_threshold_76 rfl (lv_at hl 1 rfl) ?_
          refine lv_iload_n hx hb dX3_threshold_77 rfl (lv_at hl 2 rfl) ?_
          refine z_iconst hx hb dX3_threshold_78 ?_
          refine z_iadd hx hb dX3_threshold_79 ?_
          refine mw_full (st1 := [.int (iI (rightZ (gOf (S 0)) (r + 1))), .int (iI 0)]) (mr_V (As := [.int (iI (r + 1))]) (rest := [.int (iI 0)]) (ci := 3) (q0 := 0) ⟨hx, hb, hml, hown, hts⟩ (m_X3_helps l D mo am cI S (r + 1) hI (by omega)) (cwV 1 hts (gV q_394 q_395 q_396 q_345 q_393) rfl rfl rfl (by decide +kernel) ⟨Nat.le_trans (m := 3) (Nat.le_of_ble_eq_true rfl) (Nat.le_trans (Nat.le_of_ble_eq_true rfl) hRf), Nat.le_trans (m := 64) (Nat.le_of_ble_eq_true rfl) (Nat.le_trans (Nat.le_of_ble_eq_true rfl) hRl)⟩) hN hK hP hD rfl rfl rfl hl.1 (Nat.le_of_ble_eq_true rfl) ⟨hRc, hRs⟩ dX3_threshold_80) hD hS hA rfl (fun H locs hP hD hS => ?_)
          have hf_35 := rightZ_01 (gOf (S 0)) (r + 1)
          refine z_if_eq (tgt := 90) hx hb dX3_threshold_83 (by decide) (by omega) (fun c_36 => ?_) (fun c_36 => ?_)
          · refine z_iconst hx hb dX3_threshold_90 ?_
            refine z_iadd hx hb dX3_threshold_91 ?_
            refine z_as (show ((0 + 0) : Int) = 0 from rfl) ?_
            refine lv_istore (lv' := [(4, .int (iI 0)), (3, .int (iI (ownZ (gOf (S 0)) (r - 1) u + 0))), (0, .ref mo), (1, .int (iI r)), (2, .int (iI u))]) hx hb dX3_threshold_92 hl (by decide) rfl (fun ls hl => ?_)
            refine lv_iload hx hb dX3_threshold_94 (lv_at hl 0 rfl) ?_
            refine z_if_le (tgt := 106) hx hb dX3_threshold_96 (by decide) (by omega) (fun c_37 => ?_) (fun c_37 => absurd c_37 (by omega))
            refine lv_iload_n hx hb dX3_threshold_106 rfl (lv_at hl 4 rfl) ?_
            refine z_if_ne (tgt := 116) hx hb dX3_threshold_107 (by decide) (by omega) (fun c_38 => ?_) (fun c_38 => ?_)
            · refine z_sipush hx hb dX3_threshold_116 (by decide +kernel) ?_
              refine z_as (show 700 = thrZ (gOf (S 0)) r u from by first | rfl | omega | (unfold thrZ; omega) | (subst_vars; unfold thrZ; omega) | (subst_vars; simp [thrZ])) ?_
              first | exact hret _ _ _ _ dX3_threshold_119 hP hD hS | (exfalso; omega)
            · refine z_sipush hx hb dX3_threshold_110 (by decide +kernel) ?_
              refine lv_goto (tgt := 119) hx hb dX3_threshold_113 (by decide) ?_
              refine z_as (show 300 = thrZ (gOf (S 0)) r u from by first | rfl | omega | (unfold thrZ; omega) | (subst_vars; unfold thrZ; omega) | (subst_vars; simp [thrZ])) ?_
              first | exact hret _ _ _ _ dX3_threshold_119 hP hD hS | (exfalso; omega)
          · refine z_iconst hx hb dX3_threshold_86 ?_
            refine lv_goto (tgt := 91) hx hb dX3_threshold_87 (by decide) ?_
            refine z_iadd hx hb dX3_threshold_91 ?_
            refine z_as (show ((0 + 1) : Int) = 1 from rfl) ?_
            refine lv_istore (lv' := [(4, .int (iI 1)), (3, .int (iI (ownZ (gOf (S 0)) (r - 1) u + 0))), (0, .ref mo), (1, .int (iI r)), (2, .int (iI u))]) hx hb dX3_threshold_92 hl (by decide) rfl (fun ls hl => ?_)
            refine lv_iload hx hb dX3_threshold_94 (lv_at hl 0 rfl) ?_
            refine z_if_le (tgt := 106) hx hb dX3_threshold_96 (by decide) (by omega) (fun c_39 => absurd c_39 (by omega)) (fun c_39 => ?_)
            refine lv_iload_n hx hb dX3_threshold_99 rfl (lv_at hl 1 rfl) ?_
            refine lv_iload hx hb dX3_threshold_100 (lv_at hl 0 rfl) ?_
            refine z_idiv hx hb dX3_threshold_102 (by omega) (by omega) ?_
            refine lv_goto (tgt := 119) hx hb dX3_threshold_103 (by decide) ?_
            refine z_as (show ((ownZ (gOf (S 0)) (r - 1) u + 0) / 1) = thrZ (gOf (S 0)) r u from by first | rfl | omega | (unfold thrZ; omega) | (subst_vars; unfold thrZ; omega) | (subst_vars; simp [thrZ])) ?_
            first | exact hret _ _ _ _ dX3_threshold_119 hP hD hS | (exfalso; omega)
        · refine z_iconst hx hb dX3_threshold_71 ?_
          refine lv_goto (tgt := 76) hx hb dX3_threshold_72 (by decide) ?_
          refine lv_aload_n hx hb dX3_threshold_76 rfl (lv_at hl 1 rfl) ?_
          refine lv_iload_n hx hb dX3_threshold_77 rfl (lv_at hl 2 rfl) ?_
          refine z_iconst hx hb dX3_threshold_78 ?_
          refine z_iadd hx hb dX3_threshold_79 ?_
          refine mw_full (st1 := [.int (iI (rightZ (gOf (S 0)) (r + 1))), .int (iI 1)]) (mr_V (As := [.int (iI (r + 1))]) (rest := [.int (iI 1)]) (ci := 3) (q0 := 0) ⟨hx, hb, hml, hown, hts⟩ (m_X3_helps l D mo am cI S (r + 1) hI (by omega)) (cwV 1 hts (gV q_394 q_395 q_396 q_345 q_393) rfl rfl rfl (by decide +kernel) ⟨Nat.le_trans (m := 3) (Nat.le_of_ble_eq_true rfl) (Nat.le_trans (Nat.le_of_ble_eq_true rfl) hRf), Nat.le_trans (m := 64) (Nat.le_of_ble_eq_true rfl) (Nat.le_trans (Nat.le_of_ble_eq_true rfl) hRl)⟩) hN hK hP hD rfl rfl rfl hl.1 (Nat.le_of_ble_eq_true rfl) ⟨hRc, hRs⟩ dX3_threshold_80) hD hS hA rfl (fun H locs hP hD hS => ?_)
          have hf_40 := rightZ_01 (gOf (S 0)) (r + 1)
          refine z_if_eq (tgt := 90) hx hb dX3_threshold_83 (by decide) (by omega) (fun c_41 => ?_) (fun c_41 => ?_)
          · refine z_iconst hx hb dX3_threshold_90 ?_
            refine z_iadd hx hb dX3_threshold_91 ?_
            refine z_as (show ((1 + 0) : Int) = 1 from rfl) ?_
            refine lv_istore (lv' := [(4, .int (iI 1)), (3, .int (iI (ownZ (gOf (S 0)) (r - 1) u + 0))), (0, .ref mo), (1, .int (iI r)), (2, .int (iI u))]) hx hb dX3_threshold_92 hl (by decide) rfl (fun ls hl => ?_)
            refine lv_iload hx hb dX3_threshold_94 (lv_at hl 0 rfl) ?_
            refine z_if_le (tgt := 106) hx hb dX3_threshold_96 (by decide) (by omega) (fun c_42 => absurd c_42 (by omega)) (fun c_42 => ?_)
            refine lv_iload_n hx hb dX3_threshold_99 rfl (lv_at hl 1 rfl) ?_
            refine lv_iload hx hb dX3_threshold_100 (lv_at hl 0 rfl) ?_
            refine z_idiv hx hb dX3_threshold_102 (by omega) (by omega) ?_
            refine lv_goto (tgt := 119) hx hb dX3_threshold_103 (by decide) ?_
            refine z_as (show ((ownZ (gOf (S 0)) (r - 1) u + 0) / 1) = thrZ (gOf (S 0)) r u from by first | rfl | omega | (unfold thrZ; omega) | (subst_vars; unfold thrZ; omega) | (subst_vars; simp [thrZ])) ?_
            first | exact hret _ _ _ _ dX3_threshold_119 hP hD hS | (exfalso; omega)
          · refine z_iconst hx hb dX3_threshold_86 ?_
            refine lv_goto (tgt := 91) hx hb dX3_threshold_87 (by decide) ?_
            refine z_iadd hx hb dX3_threshold_91 ?_
            refine z_as (show ((1 + 1) : Int) = 2 from rfl) ?_
            refine lv_istore (lv' := [(4, .int (iI 2)), (3, .int (iI (ownZ (gOf (S 0)) (r - 1) u + 0))), (0, .ref mo), (1, .int (iI r)), (2, .int (iI u))]) hx hb dX3_threshold_92 hl (by decide) rfl (fun ls hl => ?_)
            refine lv_iload hx hb dX3_threshold_94 (lv_at hl 0 rfl) ?_
            refine z_if_le (tgt := 106) hx hb dX3_threshold_96 (by decide) (by omega) (fun c_43 => absurd c_43 (by omega)) (fun c_43 => ?_)
            refine lv_iload_n hx hb dX3_threshold_99 rfl (lv_at hl 1 rfl) ?_
            refine lv_iload hx hb dX3_threshold_100 (lv_at hl 0 rfl) ?_
            refine z_idiv hx hb dX3_threshold_102 (by omega) (by omega) ?_
            refine lv_goto (tgt := 119) hx hb dX3_threshold_103 (by decide) ?_
            refine z_as (show ((ownZ (gOf (S 0)) (r - 1) u + 0) / 2) = thrZ (gOf (S 0)) r u from by first | rfl | omega | (unfold thrZ; omega) | (subst_vars; unfold thrZ; omega) | (subst_vars; simp [thrZ])) ?_
            first | exact hret _ _ _ _ dX3_threshold_119 hP hD hS | (exfalso; omega)
      · have hh2 := rightZ_in c_32
        refine lv_aload_n hx hb dX3_threshold_47 rfl (lv_at hl 0 rfl) ?_
        refine lv_iload_n hx hb dX3_threshold_48 rfl (lv_at hl 1 rfl) ?_
        refine z_iconst hx hb dX3_threshold_49 ?_
        refine z_iadd hx hb dX3_threshold_50 ?_
        refine lv_iload_n hx hb dX3_threshold_51 rfl (lv_at hl 2 rfl) ?_
        refine mw_full (st1 := [.int (iI (ownZ (gOf (S 0)) (r + 1) u)), .int (iI (ownZ (gOf (S 0)) (r - 1) u))]) (mr_V (As := [.int (iI (r + 1)), .int (iI u)]) (rest := [.int (iI (ownZ (gOf (S 0)) (r - 1) u))]) (ci := 3) (q0 := 0) ⟨hx, hb, hml, hown, hts⟩ (m_X3_own l D mo am cI S (r + 1) u hI (by omega) (by omega)) (cwV 2 hts (gV q_398 q_399 q_400 q_345 q_386) rfl rfl rfl (by decide +kernel) ⟨Nat.le_trans (m := 2) (Nat.le_of_ble_eq_true rfl) (Nat.le_trans (Nat.le_of_ble_eq_true rfl) hRf), Nat.le_trans (m := 44) (Nat.le_of_ble_eq_true rfl) (Nat.le_trans (Nat.le_of_ble_eq_true rfl) hRl)⟩) hN hK hP hD rfl rfl rfl hl.1 (Nat.le_of_ble_eq_true rfl) ⟨hRc, hRs⟩ dX3_threshold_52) hD hS hA rfl (fun H locs hP hD hS => ?_)
        have hf_44 := ownZ_bd hI (r + 1) u (by omega) (by omega)
        refine lv_goto (tgt := 59) hx hb dX3_threshold_55 (by decide) ?_
        refine z_iadd hx hb dX3_threshold_59 ?_
        refine lv_istore_n (lv' := [(3, .int (iI (ownZ (gOf (S 0)) (r - 1) u + ownZ (gOf (S 0)) (r + 1) u))), (0, .ref mo), (1, .int (iI r)), (2, .int (iI u))]) hx hb dX3_threshold_60 rfl hl (by decide) rfl (fun ls hl => ?_)
        refine lv_aload_n hx hb dX3_threshold_61 rfl (lv_at hl 1 rfl) ?_
        refine lv_iload_n hx hb dX3_threshold_62 rfl (lv_at hl 2 rfl) ?_
        refine z_iconst hx hb dX3_threshold_63 ?_
        refine z_isub hx hb dX3_threshold_64 ?_
        refine mw_full (st1 := [.int (iI (rightZ (gOf (S 0)) (r - 1)))]) (mr_V (As := [.int (iI (r - 1))]) (rest := []) (ci := 3) (q0 := 0) ⟨hx, hb, hml, hown, hts⟩ (m_X3_helps l D mo am cI S (r - 1) hI (by omega)) (cwV 1 hts (gV q_394 q_395 q_396 q_345 q_393) rfl rfl rfl (by decide +kernel) ⟨Nat.le_trans (m := 3) (Nat.le_of_ble_eq_true rfl) (Nat.le_trans (Nat.le_of_ble_eq_true rfl) hRf), Nat.le_trans (m := 64) (Nat.le_of_ble_eq_true rfl) (Nat.le_trans (Nat.le_of_ble_eq_true rfl) hRl)⟩) hN hK hP hD rfl rfl rfl hl.1 (Nat.le_of_ble_eq_true rfl) ⟨hRc, hRs⟩ dX3_threshold_65) hD hS hA rfl (fun H locs hP hD hS => ?_)
        have hf_45 := rightZ_01 (gOf (S 0)) (r - 1)
        refine z_if_eq (tgt := 75) hx hb dX3_threshold_68 (by decide) (by omega) (fun c_46 => ?_) (fun c_46 => ?_)
        · refine z_iconst hx hb dX3_threshold_75 ?_
          refine lv_aload_n hx hb dX3_threshold_76 rfl (lv_at hl 1 rfl) ?_
          refine lv_iload_n hx hb dX3_threshold_77 rfl (lv_at hl 2 rfl) ?_
          refine z_iconst hx hb dX3_threshold_78 ?_
          refine z_iadd hx hb dX3_threshold_79 ?_
          refine mw_full (st1 := [.int (iI (rightZ (gOf (S 0)) (r + 1))), .int (iI 0)]) (mr_V (As := [.int (iI (r + 1))]) (rest := [.int (iI 0)]) (ci := 3) (q0 := 0) ⟨hx, hb, hml, hown, hts⟩ (m_X3_helps l D mo am cI S (r + 1) hI (by omega)) (cwV 1 hts (gV q_394 q_395 q_396 q_345 q_393) rfl rfl rfl (by decide +kernel) ⟨Nat.le_trans (m := 3) (Nat.le_of_ble_eq_true rfl) (Nat.le_trans (Nat.le_of_ble_eq_true rfl) hRf), Nat.le_trans (m := 64) (Nat.le_of_ble_eq_true rfl) (Nat.le_trans (Nat.le_of_ble_eq_true rfl) hRl)⟩) hN hK hP hD rfl rfl rfl hl.1 (Nat.le_of_ble_eq_true rfl) ⟨hRc, hRs⟩ dX3_threshold_80) hD hS hA rfl (fun H locs hP hD hS => ?_)
          have hf_47 := rightZ_01 (gOf (S 0)) (r + 1)
          refine z_if_eq (tgt := 90) hx hb dX3_threshold_83 (by decide) (by omega) (fun c_48 => ?_) (fun c_48 => ?_)
          · refine z_iconst hx hb dX3_threshold_90 ?_
            refine z_iadd hx hb dX3_threshold_91 ?_
            refine z_as (show ((0 + 0) : Int) = 0 from rfl) ?_
            refine lv_istore (lv' := [(4, .int (iI 0)), (3, .int (iI (ownZ (gOf (S 0)) (r - 1) u + ownZ (gOf (S 0)) (r + 1) u))), (0, .ref mo), (1, .int (iI r)), (2, .int (iI u))]) hx hb dX3_threshold_92 hl (by decide) rfl (fun ls hl => ?_)
            refine lv_iload hx hb dX3_threshold_94 (lv_at hl 0 rfl) ?_
            refine z_if_le (tgt := 106) hx hb dX3_threshold_96 (by decide) (by omega) (fun c_49 => ?_) (fun c_49 => absurd c_49 (by omega))
            refine lv_iload_n hx hb dX3_threshold_106 rfl (lv_at hl 4 rfl) ?_
            refine z_if_ne (tgt := 116) hx hb dX3_threshold_107 (by decide) (by omega) (fun c_50 => ?_) (fun c_50 => ?_)
            · refine z_sipush hx hb dX3_threshold_116 (by decide +kernel) ?_
              refine z_as (show 700 = thrZ (gOf (S 0)) r u from by first | rfl | omega | (unfold thrZ; omega) | (subst_vars; unfold thrZ; omega) | (subst_vars; simp [thrZ])) ?_
              first | exact hret _ _ _ _ dX3_threshold_119 hP hD hS | (exfalso; omega)
            · refine z_sipush hx hb dX3_threshold_110 (by decide +kernel) ?_
              refine lv_goto (tgt := 119) hx hb dX3_threshold_113 (by decide) ?_
              refine z_as (show 300 = thrZ (gOf (S 0)) r u from by first | rfl | omega | (unfold thrZ; omega) | (subst_vars; unfold thrZ; omega) | (subst_vars; simp [thrZ])) ?_
              first | exact hret _ _ _ _ dX3_threshold_119 hP hD hS | (exfalso; omega)
          · refine z_iconst hx hb dX3_threshold_86 ?_
            refine lv_goto (tgt := 91) hx hb dX3_threshold_87 (by decide) ?_
            refine z_iadd hx hb dX3_threshold_91 ?_
            refine z_as (show ((0 + 1) : Int) = 1 from rfl) ?_
            refine lv_istore (lv' := [(4, .int (iI 1)), (3, .int (iI (ownZ (gOf (S 0)) (r - 1) u + ownZ (gOf (S 0)) (r + 1) u))), (0, .ref mo), (1, .int (iI r)), (2, .int (iI u))]) hx hb dX3_threshold_92 hl (by decide) rfl (fun ls hl => ?_)
            refine lv_iload hx hb dX3_threshold_94 (lv_at hl 0 rfl) ?_
            refine z_if_le (tgt := 106) hx hb dX3_threshold_96 (by decide) (by omega) (fun c_51 => absurd c_51 (by omega)) (fun c_51 => ?_)
            refine lv_iload_n hx hb dX3_threshold_99 rfl (lv_at hl 1 rfl) ?_
            refine lv_iload hx hb dX3_threshold_100 (lv_at hl 0 rfl) ?_
            refine z_idiv hx hb dX3_threshold_102 (by omega) (by omega) ?_
            refine lv_goto (tgt := 119) hx hb dX3_threshold_103 (by decide) ?_
            refine z_as (show ((ownZ (gOf (S 0)) (r - 1) u + ownZ (gOf (S 0)) (r + 1) u) / 1) = thrZ (gOf (S 0)) r u from by first | rfl | omega | (unfold thrZ; omega) | (subst_vars; unfold thrZ; omega) | (subst_vars; simp [thrZ])) ?_
            first | exact hret _ _ _ _ dX3_threshold_119 hP hD hS | (exfalso; omega)
        · refine z_iconst hx hb dX3_threshold_71 ?_
          refine lv_goto (tgt := 76) hx hb dX3_threshold_72 (by decide) ?_
          refine lv_aload_n hx hb dX3_threshold_76 rfl (lv_at hl 1 rfl) ?_
          refine lv_iload_n hx hb dX3_threshold_77 rfl (lv_at hl 2 rfl) ?_
          refine z_iconst hx hb dX3_threshold_78 ?_
          refine z_iadd hx hb dX3_threshold_79 ?_
          refine mw_full (st1 := [.int (iI (rightZ (gOf (S 0)) (r + 1))), .int (iI 1)]) (mr_V (As := [.int (iI (r + 1))]) (rest := [.int (iI 1)]) (ci := 3) (q0 := 0) ⟨hx, hb, hml, hown, hts⟩ (m_X3_helps l D mo am cI S (r + 1) hI (by omega)) (cwV 1 hts (gV q_394 q_395 q_396 q_345 q_393) rfl rfl rfl (by decide +kernel) ⟨Nat.le_trans (m := 3) (Nat.le_of_ble_eq_true rfl) (Nat.le_trans (Nat.le_of_ble_eq_true rfl) hRf), Nat.le_trans (m := 64) (Nat.le_of_ble_eq_true rfl) (Nat.le_trans (Nat.le_of_ble_eq_true rfl) hRl)⟩) hN hK hP hD rfl rfl rfl hl.1 (Nat.le_of_ble_eq_true rfl) ⟨hRc, hRs⟩ dX3_threshold_80) hD hS hA rfl (fun H locs hP hD hS => ?_)
          have hf_52 := rightZ_01 (gOf (S 0)) (r + 1)
          refine z_if_eq (tgt := 90) hx hb dX3_threshold_83 (by decide) (by omega) (fun c_53 => ?_) (fun c_53 => ?_)
          · refine z_iconst hx hb dX3_threshold_90 ?_
            refine z_iadd hx hb dX3_threshold_91 ?_
            refine z_as (show ((1 + 0) : Int) = 1 from rfl) ?_
            refine lv_istore (lv' := [(4, .int (iI 1)), (3, .int (iI (ownZ (gOf (S 0)) (r - 1) u + ownZ (gOf (S 0)) (r + 1) u))), (0, .ref mo), (1, .int (iI r)), (2, .int (iI u))]) hx hb dX3_threshold_92 hl (by decide) rfl (fun ls hl => ?_)
            refine lv_iload hx hb dX3_threshold_94 (lv_at hl 0 rfl) ?_
            refine z_if_le (tgt := 106) hx hb dX3_threshold_96 (by decide) (by omega) (fun c_54 => absurd c_54 (by omega)) (fun c_54 => ?_)
            refine lv_iload_n hx hb dX3_threshold_99 rfl (lv_at hl 1 rfl) ?_
            refine lv_iload hx hb dX3_threshold_100 (lv_at hl 0 rfl) ?_
            refine z_idiv hx hb dX3_threshold_102 (by omega) (by omega) ?_
            refine lv_goto (tgt := 119) hx hb dX3_threshold_103 (by decide) ?_
            refine z_as (show ((ownZ (gOf (S 0)) (r - 1) u + ownZ (gOf (S 0)) (r + 1) u) / 1) = thrZ (gOf (S 0)) r u from by first | rfl | omega | (unfold thrZ; omega) | (subst_vars; unfold thrZ; omega) | (subst_vars; simp [thrZ])) ?_
            first | exact hret _ _ _ _ dX3_threshold_119 hP hD hS | (exfalso; omega)
          · refine z_iconst hx hb dX3_threshold_86 ?_
            refine lv_goto (tgt := 91) hx hb dX3_threshold_87 (by decide) ?_
            refine z_iadd hx hb dX3_threshold_91 ?_
            refine z_as (show ((1 + 1) : Int) = 2 from rfl) ?_
            refine lv_istore (lv' := [(4, .int (iI 2)), (3, .int (iI (ownZ (gOf (S 0)) (r - 1) u + ownZ (gOf (S 0)) (r + 1) u))), (0, .ref mo), (1, .int (iI r)), (2, .int (iI u))]) hx hb dX3_threshold_92 hl (by decide) rfl (fun ls hl => ?_)
            refine lv_iload hx hb dX3_threshold_94 (lv_at hl 0 rfl) ?_
            refine z_if_le (tgt := 106) hx hb dX3_threshold_96 (by decide) (by omega) (fun c_55 => absurd c_55 (by omega)) (fun c_55 => ?_)
            refine lv_iload_n hx hb dX3_threshold_99 rfl (lv_at hl 1 rfl) ?_
            refine lv_iload hx hb dX3_threshold_100 (lv_at hl 0 rfl) ?_
            refine z_idiv hx hb dX3_threshold_102 (by omega) (by omega) ?_
            refine lv_goto (tgt := 119) hx hb dX3_threshold_103 (by decide) ?_
            refine z_as (show ((ownZ (gOf (S 0)) (r - 1) u + ownZ (gOf (S 0)) (r + 1) u) / 2) = thrZ (gOf (S 0)) r u from by first | rfl | omega | (unfold thrZ; omega) | (subst_vars; unfold thrZ; omega) | (subst_vars; simp [thrZ])) ?_
            first | exact hret _ _ _ _ dX3_threshold_119 hP hD hS | (exfalso; omega)
  · refine lv_aload_n hx hb dX3_threshold_8 rfl (lv_at hl 0 rfl) ?_
    refine lv_iload_n hx hb dX3_threshold_9 rfl (lv_at hl 1 rfl) ?_
    refine lv_iload_n hx hb dX3_threshold_10 rfl (lv_at hl 2 rfl) ?_
    refine mw_full (st1 := [.int (iI (ownZ (gOf (S 0)) r u))]) (mr_V (As := [.int (iI r), .int (iI u)]) (rest := []) (ci := 3) (q0 := 0) ⟨hx, hb, hml, hown, hts⟩ (m_X3_own l D mo am cI S r u hI (by omega) (by omega)) (cwV 2 hts (gV q_398 q_399 q_400 q_345 q_386) rfl rfl rfl (by decide +kernel) ⟨Nat.le_trans (m := 2) (Nat.le_of_ble_eq_true rfl) (Nat.le_trans (Nat.le_of_ble_eq_true rfl) hRf), Nat.le_trans (m := 44) (Nat.le_of_ble_eq_true rfl) (Nat.le_trans (Nat.le_of_ble_eq_true rfl) hRl)⟩) hN hK hP hD rfl rfl rfl hl.1 (Nat.le_of_ble_eq_true rfl) ⟨hRc, hRs⟩ dX3_threshold_11) hD hS hA rfl (fun H locs hP hD hS => ?_)
    have hf_56 := ownZ_bd hI r u (by omega) (by omega)
    refine z_as (show ownZ (gOf (S 0)) r u = thrZ (gOf (S 0)) r u from by first | rfl | omega | (unfold thrZ; omega) | (subst_vars; unfold thrZ; omega) | (subst_vars; simp [thrZ])) ?_
    first | exact hret _ _ _ _ dX3_threshold_14 hP hD hS | (exfalso; omega)
set_option maxHeartbeats 4000000 in
set_option maxRecDepth 100000 in
theorem m_X3_told (l : Launch) (D : va_G) (mo : Nat) (am : Nat → Nat) (cI : ClassId) (S : Nat → Int → Int) (r c2 : Int) {B : Int} (hI : InvG B (gOf (S 0))) (h1 : 0 ≤ r ∧ r < 6) (h2 : 0 ≤ c2 ∧ c2 < 8)  : MW l D yX3_told (wsY yX3_told cX3_told 3 (some .int)) { frames := 4, cells := 0, slots := 0, locals := 88 } [(cI, .int)] [.ref mo, .int (iI r), .int (iI c2)] (wM mo am cI S) (wM mo am cI S) (some (.int (iI (tellZ ((gOf (S 0)) 1 (8 * r + c2)) (thrZ (gOf (S 0)) r 0) (thrZ (gOf (S 0)) r 1))))) := by
  refine mw_ofI (cc := cX3_told) (maxL := 3) (by decide) rfl (Nat.le_of_ble_eq_true rfl) ?_
  intro p e s m below meth c R A Q args ls hx hb hml hown hts hRf hRl hRc hRs hN hK hP hD hS hA hret hl
  have hq : ∀ w ∈ ALL, w.before args s = true := fun w h => hts w (List.mem_cons_of_mem _ h)
  have hl : lv_has ls 3 [(0, .ref mo), (1, .int (iI r)), (2, .int (iI c2))] := hl
  refine lv_aload_n hx hb dX3_told_0 rfl (lv_at hl 0 rfl) ?_
  refine lv_iload_n hx hb dX3_told_1 rfl (lv_at hl 1 rfl) ?_
  refine lv_iload_n hx hb dX3_told_2 rfl (lv_at hl 2 rfl) ?_
  refine z_iconst hx hb dX3_told_3 ?_
  refine mw_full (st1 := [.int (iI ((gOf (S 0)) 1 (8 * r + c2)))]) (mr_V (As := [.int (iI r), .int (iI c2), .int (iI 1)]) (rest := []) (ci := 3) (q0 := 0) ⟨hx, hb, hml, hown, hts⟩ (m_X3_ofCell l D mo am cI S r c2 1 1 (by omega) (by omega) (by omega)) (cwV 3 hts (gV q_354 q_355 q_356 q_345 q_352) rfl rfl rfl (by decide +kernel) ⟨Nat.le_trans (m := 2) (Nat.le_of_ble_eq_true rfl) (Nat.le_trans (Nat.le_of_ble_eq_true rfl) hRf), Nat.le_trans (m := 45) (Nat.le_of_ble_eq_true rfl) (Nat.le_trans (Nat.le_of_ble_eq_true rfl) hRl)⟩) hN hK hP hD rfl rfl rfl hl.1 (Nat.le_of_ble_eq_true rfl) ⟨hRc, hRs⟩ dX3_told_4) hD hS hA rfl (fun H locs hP hD hS => ?_)
  have hf_1 := invG_1 hI (8 * r + c2) (by omega) (by omega)
  refine lv_aload_n hx hb dX3_told_7 rfl (lv_at hl 0 rfl) ?_
  refine lv_iload_n hx hb dX3_told_8 rfl (lv_at hl 1 rfl) ?_
  refine z_iconst hx hb dX3_told_9 ?_
  refine mw_full (st1 := [.int (iI (thrZ (gOf (S 0)) r 0)), .int (iI ((gOf (S 0)) 1 (8 * r + c2)))]) (mr_V (As := [.int (iI r), .int (iI 0)]) (rest := [.int (iI ((gOf (S 0)) 1 (8 * r + c2)))]) (ci := 3) (q0 := 0) ⟨hx, hb, hml, hown, hts⟩ (m_X3_threshold l D mo am cI S r 0 hI (by omega) (by omega)) (cwV 2 hts (gV q_403 q_404 q_405 q_345 q_401) rfl rfl rfl (by decide +kernel) ⟨Nat.le_trans (m := 4) (Nat.le_of_ble_eq_true rfl) (Nat.le_trans (Nat.le_of_ble_eq_true rfl) hRf), Nat.le_trans (m := 88) (Nat.le_of_ble_eq_true rfl) (Nat.le_trans (Nat.le_of_ble_eq_true rfl) hRl)⟩) hN hK hP hD rfl rfl rfl hl.1 (Nat.le_of_ble_eq_true rfl) ⟨hRc, hRs⟩ dX3_told_10) hD hS hA rfl (fun H locs hP hD hS => ?_)
  have hf_2 := thrZ_bd hI r 0 (by omega) (by omega)
  refine lv_aload_n hx hb dX3_told_13 rfl (lv_at hl 0 rfl) ?_
  refine lv_iload_n hx hb dX3_told_14 rfl (lv_at hl 1 rfl) ?_
  refine z_iconst hx hb dX3_told_15 ?_
  refine mw_full (st1 := [.int (iI (thrZ (gOf (S 0)) r 1)), .int (iI (thrZ (gOf (S 0)) r 0)), .int (iI ((gOf (S 0)) 1 (8 * r + c2)))]) (mr_V (As := [.int (iI r), .int (iI 1)]) (rest := [.int (iI (thrZ (gOf (S 0)) r 0)), .int (iI ((gOf (S 0)) 1 (8 * r + c2)))]) (ci := 3) (q0 := 0) ⟨hx, hb, hml, hown, hts⟩ (m_X3_threshold l D mo am cI S r 1 hI (by omega) (by omega)) (cwV 2 hts (gV q_403 q_404 q_405 q_345 q_401) rfl rfl rfl (by decide +kernel) ⟨Nat.le_trans (m := 4) (Nat.le_of_ble_eq_true rfl) (Nat.le_trans (Nat.le_of_ble_eq_true rfl) hRf), Nat.le_trans (m := 88) (Nat.le_of_ble_eq_true rfl) (Nat.le_trans (Nat.le_of_ble_eq_true rfl) hRl)⟩) hN hK hP hD rfl rfl rfl hl.1 (Nat.le_of_ble_eq_true rfl) ⟨hRc, hRs⟩ dX3_told_16) hD hS hA rfl (fun H locs hP hD hS => ?_)
  have hf_3 := thrZ_bd hI r 1 (by omega) (by omega)
  refine mw_none (st1 := [.int (iI (tellZ ((gOf (S 0)) 1 (8 * r + c2)) (thrZ (gOf (S 0)) r 0) (thrZ (gOf (S 0)) r 1)))]) (mr_S (As := [.int (iI ((gOf (S 0)) 1 (8 * r + c2))), .int (iI (thrZ (gOf (S 0)) r 0)), .int (iI (thrZ (gOf (S 0)) r 1))]) (rest := []) ⟨hx, hb, hml, hown, hts⟩ (m_X3_by l D ((gOf (S 0)) 1 (8 * r + c2)) (thrZ (gOf (S 0)) r 0) (thrZ (gOf (S 0)) r 1) (by omega) (by omega) (by omega)) (va_cwS 3 hts (gS q_406 q_407 q_345 q_402) rfl rfl rfl (by decide +kernel) ⟨Nat.le_trans (m := 1) (Nat.le_of_ble_eq_true rfl) (Nat.le_trans (Nat.le_of_ble_eq_true rfl) hRf), Nat.le_trans (m := 22) (Nat.le_of_ble_eq_true rfl) (Nat.le_trans (Nat.le_of_ble_eq_true rfl) hRl)⟩) hN (hK.sub (tys' := []) [] rfl) (va_P0 _ _ _) (va_D0 A) rfl hl.1 (Nat.le_of_ble_eq_true rfl) ⟨hRc, hRs⟩ dX3_told_19) hP hS hA rfl (fun H locs hP hS => ?_)
  have hf_4 := tellZ_01 ((gOf (S 0)) 1 (8 * r + c2)) (thrZ (gOf (S 0)) r 0) (thrZ (gOf (S 0)) r 1)
  first | exact hret _ _ _ _ dX3_told_22 hP hD hS | (exfalso; omega)
set_option maxHeartbeats 4000000 in
set_option maxRecDepth 100000 in
theorem m_X3_wrong (l : Launch) (D : va_G) (mo : Nat) (am : Nat → Nat) (cI : ClassId) (S : Nat → Int → Int) (r : Int) {B : Int} (hI : InvG B (gOf (S 0))) (h1 : 0 ≤ r ∧ r < 6)  : MW l D yX3_wrong (wsY yX3_wrong cX3_wrong 4 (some .int)) { frames := 5, cells := 0, slots := 0, locals := 110 } [(cI, .int)] [.ref mo, .int (iI r)] (wM mo am cI S) (wM mo am cI S) (some (.int (iI (wrongZ (gOf (S 0)) r)))) := by
  refine mw_ofI (cc := cX3_wrong) (maxL := 4) (by decide) rfl (Nat.le_of_ble_eq_true rfl) ?_
  intro p e s m below meth c R A Q args ls hx hb hml hown hts hRf hRl hRc hRs hN hK hP hD hS hA hret hl
  have hq : ∀ w ∈ ALL, w.before args s = true := fun w h => hts w (List.mem_cons_of_mem _ h)
  have hl : lv_has ls 4 [(0, .ref mo), (1, .int (iI r))] := hl
  refine z_iconst hx hb dX3_wrong_0 ?_
  refine lv_istore_n (lv' := [(2, .int (iI 0)), (0, .ref mo), (1, .int (iI r))]) hx hb dX3_wrong_1 rfl hl (by decide) rfl (fun ls hl => ?_)
  refine z_iconst hx hb dX3_wrong_2 ?_
  refine lv_istore_n (lv' := [(3, .int (iI 0)), (2, .int (iI 0)), (0, .ref mo), (1, .int (iI r))]) hx hb dX3_wrong_3 rfl hl (by decide) rfl (fun ls hl => ?_)
  have LP4 : ∀ (fu i : Nat), i ≤ 8 → 8 < fu + i → ∀ (H : Heap) (locs : List Loc) (ls : Array Slot), va_P D vwCl (wM mo am cI S) H → va_D A (wM mo am cI S) → va_S A s.heap H locs → lv_has ls 4 [(3, .int (iI (i : Int))), (2, .int (iI (wrongByZ (gOf (S 0)) r (thrZ (gOf (S 0)) r 0) (thrZ (gOf (S 0)) r 1) i))), (0, .ref mo), (1, .int (iI r))] → W p l e R s m args below meth c H locs 0 0 Q (F0 m 4 ls []) := by
    intro fu
    induction fu with
    | zero => intro i h1 h2; omega
    | succ fu ih4 =>
      intro i hi1 hif H locs ls hP hD hS hl
      refine lv_iload_n hx hb dX3_wrong_4 rfl (lv_at hl 0 rfl) ?_
      refine z_bipush hx hb dX3_wrong_5 (by decide +kernel) ?_
      refine z_icmp_ge (tgt := 40) hx hb dX3_wrong_7 (by decide) (by omega) (by omega) (fun c_1 => ?_) (fun c_1 => ?_)
      · refine lv_iload_n hx hb dX3_wrong_40 rfl (lv_at hl 1 rfl) ?_
        refine z_as (show (wrongByZ (gOf (S 0)) r (thrZ (gOf (S 0)) r 0) (thrZ (gOf (S 0)) r 1) i) = wrongZ (gOf (S 0)) r from by (have hiN : i = 8 := by omega); rw [hiN]; rfl) ?_
        first | exact hret _ _ _ _ dX3_wrong_41 hP hD hS | (exfalso; omega)
      · refine lv_iload_n hx hb dX3_wrong_10 rfl (lv_at hl 1 rfl) ?_
        refine lv_aload_n hx hb dX3_wrong_11 rfl (lv_at hl 2 rfl) ?_
        refine lv_iload_n hx hb dX3_wrong_12 rfl (lv_at hl 3 rfl) ?_
        refine lv_iload_n hx hb dX3_wrong_13 rfl (lv_at hl 0 rfl) ?_
        refine mw_full (st1 := [.int (iI (tellZ ((gOf (S 0)) 1 (8 * r + (i : Int))) (thrZ (gOf (S 0)) r 0) (thrZ (gOf (S 0)) r 1))), .int (iI (wrongByZ (gOf (S 0)) r (thrZ (gOf (S 0)) r 0) (thrZ (gOf (S 0)) r 1) i))]) (mr_V (As := [.int (iI r), .int (iI (i : Int))]) (rest := [.int (iI (wrongByZ (gOf (S 0)) r (thrZ (gOf (S 0)) r 0) (thrZ (gOf (S 0)) r 1) i))]) (ci := 3) (q0 := 0) ⟨hx, hb, hml, hown, hts⟩ (m_X3_told l D mo am cI S r (i : Int) hI (by omega) (by omega)) (cwV 2 hts (gV q_409 q_410 q_411 q_345 q_408) rfl rfl rfl (by decide +kernel) ⟨Nat.le_trans (m := 5) (Nat.le_of_ble_eq_true rfl) (Nat.le_trans (Nat.le_of_ble_eq_true rfl) hRf), Nat.le_trans (m := 110) (Nat.le_of_ble_eq_true rfl) (Nat.le_trans (Nat.le_of_ble_eq_true rfl) hRl)⟩) hN hK hP hD rfl rfl rfl hl.1 (Nat.le_of_ble_eq_true rfl) ⟨hRc, hRs⟩ dX3_wrong_14) hD hS hA rfl (fun H locs hP hD hS => ?_)
        have hf_2 := tellZ_01 ((gOf (S 0)) 1 (8 * r + (i : Int))) (thrZ (gOf (S 0)) r 0) (thrZ (gOf (S 0)) r 1)
        refine lv_aload_n hx hb dX3_wrong_17 rfl (lv_at hl 2 rfl) ?_
        refine lv_iload_n hx hb dX3_wrong_18 rfl (lv_at hl 3 rfl) ?_
        refine lv_iload_n hx hb dX3_wrong_19 rfl (lv_at hl 0 rfl) ?_
        refine z_iconst hx hb dX3_wrong_20 ?_
        refine mw_full (st1 := [.int (iI ((gOf (S 0)) 0 (8 * r + (i : Int)))), .int (iI (tellZ ((gOf (S 0)) 1 (8 * r + (i : Int))) (thrZ (gOf (S 0)) r 0) (thrZ (gOf (S 0)) r 1))), .int (iI (wrongByZ (gOf (S 0)) r (thrZ (gOf (S 0)) r 0) (thrZ (gOf (S 0)) r 1) i))]) (mr_V (As := [.int (iI r), .int (iI (i : Int)), .int (iI 0)]) (rest := [.int (iI (tellZ ((gOf (S 0)) 1 (8 * r + (i : Int))) (thrZ (gOf (S 0)) r 0) (thrZ (gOf (S 0)) r 1))), .int (iI (wrongByZ (gOf (S 0)) r (thrZ (gOf (S 0)) r 0) (thrZ (gOf (S 0)) r 1) i))]) (ci := 3) (q0 := 0) ⟨hx, hb, hml, hown, hts⟩ (m_X3_ofCell l D mo am cI S r (i : Int) 0 0 (by omega) (by omega) (by omega)) (cwV 3 hts (gV q_354 q_355 q_356 q_345 q_352) rfl rfl rfl (by decide +kernel) ⟨Nat.le_trans (m := 2) (Nat.le_of_ble_eq_true rfl) (Nat.le_trans (Nat.le_of_ble_eq_true rfl) hRf), Nat.le_trans (m := 45) (Nat.le_of_ble_eq_true rfl) (Nat.le_trans (Nat.le_of_ble_eq_true rfl) hRl)⟩) hN hK hP hD rfl rfl rfl hl.1 (Nat.le_of_ble_eq_true rfl) ⟨hRc, hRs⟩ dX3_wrong_21) hD hS hA rfl (fun H locs hP hD hS => ?_)
        have hf_3 := invG_0 hI (8 * r + (i : Int)) (by omega) (by omega)
        refine z_icmp_ne (tgt := 31) hx hb dX3_wrong_24 (by decide) (by omega) (by omega) (fun c_4 => ?_) (fun c_4 => ?_)
        · refine z_iconst hx hb dX3_wrong_31 ?_
          refine z_iadd hx hb dX3_wrong_32 ?_
          refine lv_istore_n (lv' := [(2, .int (iI ((wrongByZ (gOf (S 0)) r (thrZ (gOf (S 0)) r 0) (thrZ (gOf (S 0)) r 1) i) + 1))), (3, .int (iI (i : Int))), (0, .ref mo), (1, .int (iI r))]) hx hb dX3_wrong_33 rfl hl (by decide) rfl (fun ls hl => ?_)
          refine lv_iinc (v := iI ((i : Int) + 1)) (lv' := [(3, .int (iI ((i : Int) + 1))), (2, .int (iI ((wrongByZ (gOf (S 0)) r (thrZ (gOf (S 0)) r 0) (thrZ (gOf (S 0)) r 1) i) + 1))), (0, .ref mo), (1, .int (iI r))]) hx hb dX3_wrong_34 hl (k := 1) rfl (iI_add _ _) (by decide) rfl (fun ls hl => ?_)
          refine lv_goto (tgt := 4) hx hb dX3_wrong_37 (by decide) ?_
          have e1_0 : (((i + 1 : Nat) : Int)) = ((i : Int) + 1) := by first | omega | (simp only [wrongByZ, sumZ]; omega)
          have e1_1 : ((wrongByZ (gOf (S 0)) r (thrZ (gOf (S 0)) r 0) (thrZ (gOf (S 0)) r 1) (i + 1))) = ((wrongByZ (gOf (S 0)) r (thrZ (gOf (S 0)) r 0) (thrZ (gOf (S 0)) r 1) i) + 1) := by first | omega | (simp only [wrongByZ, sumZ]; omega)
          exact ih4 (i + 1) (by omega) (by omega) _ _ _ hP hD hS (lv_to (lv_sub (l' := [(3, .int (iI ((i : Int) + 1))), (2, .int (iI ((wrongByZ (gOf (S 0)) r (thrZ (gOf (S 0)) r 0) (thrZ (gOf (S 0)) r 1) i) + 1))), (0, .ref mo), (1, .int (iI r))]) hl [0, 1, 2, 3] rfl) (by simp only [e1_0, e1_1]))
        · refine z_iconst hx hb dX3_wrong_27 ?_
          refine lv_goto (tgt := 32) hx hb dX3_wrong_28 (by decide) ?_
          refine z_iadd hx hb dX3_wrong_32 ?_
          refine lv_istore_n (lv' := [(2, .int (iI ((wrongByZ (gOf (S 0)) r (thrZ (gOf (S 0)) r 0) (thrZ (gOf (S 0)) r 1) i) + 0))), (3, .int (iI (i : Int))), (0, .ref mo), (1, .int (iI r))]) hx hb dX3_wrong_33 rfl hl (by decide) rfl (fun ls hl => ?_)
          refine lv_iinc (v := iI ((i : Int) + 1)) (lv' := [(3, .int (iI ((i : Int) + 1))), (2, .int (iI ((wrongByZ (gOf (S 0)) r (thrZ (gOf (S 0)) r 0) (thrZ (gOf (S 0)) r 1) i) + 0))), (0, .ref mo), (1, .int (iI r))]) hx hb dX3_wrong_34 hl (k := 1) rfl (iI_add _ _) (by decide) rfl (fun ls hl => ?_)
          refine lv_goto (tgt := 4) hx hb dX3_wrong_37 (by decide) ?_
          have e1_0 : (((i + 1 : Nat) : Int)) = ((i : Int) + 1) := by first | omega | (simp only [wrongByZ, sumZ]; omega)
          have e1_1 : ((wrongByZ (gOf (S 0)) r (thrZ (gOf (S 0)) r 0) (thrZ (gOf (S 0)) r 1) (i + 1))) = ((wrongByZ (gOf (S 0)) r (thrZ (gOf (S 0)) r 0) (thrZ (gOf (S 0)) r 1) i) + 0) := by first | omega | (simp only [wrongByZ, sumZ]; omega)
          exact ih4 (i + 1) (by omega) (by omega) _ _ _ hP hD hS (lv_to (lv_sub (l' := [(3, .int (iI ((i : Int) + 1))), (2, .int (iI ((wrongByZ (gOf (S 0)) r (thrZ (gOf (S 0)) r 0) (thrZ (gOf (S 0)) r 1) i) + 0))), (0, .ref mo), (1, .int (iI r))]) hl [0, 1, 2, 3] rfl) (by simp only [e1_0, e1_1]))
  have e0_0 : (((0 : Nat) : Int)) = 0 := by first | rfl | omega
  have e0_1 : ((wrongByZ (gOf (S 0)) r (thrZ (gOf (S 0)) r 0) (thrZ (gOf (S 0)) r 1) (0))) = 0 := by first | rfl | omega
  exact LP4 (8 + 1) 0 (by omega) (by omega) _ _ _ hP hD hS (lv_to (lv_sub (l' := [(3, .int (iI 0)), (2, .int (iI 0)), (0, .ref mo), (1, .int (iI r))]) hl [0, 1, 2, 3] rfl) (by simp only [e0_0, e0_1]))
set_option maxHeartbeats 4000000 in
set_option maxRecDepth 100000 in
theorem m_X3_wordTold (l : Launch) (D : va_G) (mo : Nat) (am : Nat → Nat) (cI : ClassId) (S : Nat → Int → Int) (r : Int) {B : Int} (hI : InvG B (gOf (S 0))) (h1 : 0 ≤ r ∧ r < 6)  : MW l D yX3_wordTold (wsY yX3_wordTold cX3_wordTold 4 (some .int)) { frames := 5, cells := 0, slots := 0, locals := 110 } [(cI, .int)] [.ref mo, .int (iI r)] (wM mo am cI S) (wM mo am cI S) (some (.int (iI (toldWordZ (gOf (S 0)) r)))) := by
  refine mw_ofI (cc := cX3_wordTold) (maxL := 4) (by decide) rfl (Nat.le_of_ble_eq_true rfl) ?_
  intro p e s m below meth c R A Q args ls hx hb hml hown hts hRf hRl hRc hRs hN hK hP hD hS hA hret hl
  have hq : ∀ w ∈ ALL, w.before args s = true := fun w h => hts w (List.mem_cons_of_mem _ h)
  have hl : lv_has ls 4 [(0, .ref mo), (1, .int (iI r))] := hl
  refine z_iconst hx hb dX3_wordTold_0 ?_
  refine lv_istore_n (lv' := [(2, .int (iI 0)), (0, .ref mo), (1, .int (iI r))]) hx hb dX3_wordTold_1 rfl hl (by decide) rfl (fun ls hl => ?_)
  refine z_bipush hx hb dX3_wordTold_2 (by decide +kernel) ?_
  refine lv_istore_n (lv' := [(3, .int (iI 7)), (2, .int (iI 0)), (0, .ref mo), (1, .int (iI r))]) hx hb dX3_wordTold_4 rfl hl (by decide) rfl (fun ls hl => ?_)
  have LP5 : ∀ (fu i : Nat), i ≤ 8 → 8 < fu + i → ∀ (H : Heap) (locs : List Loc) (ls : Array Slot), va_P D vwCl (wM mo am cI S) H → va_D A (wM mo am cI S) → va_S A s.heap H locs → lv_has ls 4 [(3, .int (iI (7 - (i : Int)))), (2, .int (iI (hornZ (fun c => toldZ (gOf (S 0)) r c) i))), (0, .ref mo), (1, .int (iI r))] → W p l e R s m args below meth c H locs 0 0 Q (F0 m 5 ls []) := by
    intro fu
    induction fu with
    | zero => intro i h1 h2; omega
    | succ fu ih5 =>
      intro i hi1 hif H locs ls hP hD hS hl
      refine lv_iload_n hx hb dX3_wordTold_5 rfl (lv_at hl 0 rfl) ?_
      refine z_if_lt (tgt := 26) hx hb dX3_wordTold_6 (by decide) (by omega) (fun c_1 => ?_) (fun c_1 => ?_)
      · refine lv_iload_n hx hb dX3_wordTold_26 rfl (lv_at hl 1 rfl) ?_
        refine z_as (show (hornZ (fun c => toldZ (gOf (S 0)) r c) i) = toldWordZ (gOf (S 0)) r from by (have hiN : i = 8 := by omega); rw [hiN]; first | done | rfl) ?_
        first | exact hret _ _ _ _ dX3_wordTold_27 hP hD hS | (exfalso; omega)
      · refine z_iconst hx hb dX3_wordTold_9 ?_
        refine lv_iload_n hx hb dX3_wordTold_10 rfl (lv_at hl 1 rfl) ?_
        refine z_imul hx hb dX3_wordTold_11 ?_
        refine lv_aload_n hx hb dX3_wordTold_12 rfl (lv_at hl 2 rfl) ?_
        refine lv_iload_n hx hb dX3_wordTold_13 rfl (lv_at hl 3 rfl) ?_
        refine lv_iload_n hx hb dX3_wordTold_14 rfl (lv_at hl 0 rfl) ?_
        refine mw_full (st1 := [.int (iI (tellZ ((gOf (S 0)) 1 (8 * r + (7 - (i : Int)))) (thrZ (gOf (S 0)) r 0) (thrZ (gOf (S 0)) r 1))), .int (iI (3 * (hornZ (fun c => toldZ (gOf (S 0)) r c) i)))]) (mr_V (As := [.int (iI r), .int (iI (7 - (i : Int)))]) (rest := [.int (iI (3 * (hornZ (fun c => toldZ (gOf (S 0)) r c) i)))]) (ci := 3) (q0 := 0) ⟨hx, hb, hml, hown, hts⟩ (m_X3_told l D mo am cI S r (7 - (i : Int)) hI (by omega) (by omega)) (cwV 2 hts (gV q_409 q_410 q_411 q_345 q_408) rfl rfl rfl (by decide +kernel) ⟨Nat.le_trans (m := 5) (Nat.le_of_ble_eq_true rfl) (Nat.le_trans (Nat.le_of_ble_eq_true rfl) hRf), Nat.le_trans (m := 110) (Nat.le_of_ble_eq_true rfl) (Nat.le_trans (Nat.le_of_ble_eq_true rfl) hRl)⟩) hN hK hP hD rfl rfl rfl hl.1 (Nat.le_of_ble_eq_true rfl) ⟨hRc, hRs⟩ dX3_wordTold_15) hD hS hA rfl (fun H locs hP hD hS => ?_)
        have hf_2 := tellZ_01 ((gOf (S 0)) 1 (8 * r + (7 - (i : Int)))) (thrZ (gOf (S 0)) r 0) (thrZ (gOf (S 0)) r 1)
        refine z_iadd hx hb dX3_wordTold_18 ?_
        refine lv_istore_n (lv' := [(2, .int (iI ((3 * (hornZ (fun c => toldZ (gOf (S 0)) r c) i)) + tellZ ((gOf (S 0)) 1 (8 * r + (7 - (i : Int)))) (thrZ (gOf (S 0)) r 0) (thrZ (gOf (S 0)) r 1)))), (3, .int (iI (7 - (i : Int)))), (0, .ref mo), (1, .int (iI r))]) hx hb dX3_wordTold_19 rfl hl (by decide) rfl (fun ls hl => ?_)
        refine lv_iinc (v := iI ((7 - (i : Int)) + (-1))) (lv' := [(3, .int (iI ((7 - (i : Int)) + (-1)))), (2, .int (iI ((3 * (hornZ (fun c => toldZ (gOf (S 0)) r c) i)) + tellZ ((gOf (S 0)) 1 (8 * r + (7 - (i : Int)))) (thrZ (gOf (S 0)) r 0) (thrZ (gOf (S 0)) r 1)))), (0, .ref mo), (1, .int (iI r))]) hx hb dX3_wordTold_20 hl (k := 1) rfl (iI_add _ _) (by decide) rfl (fun ls hl => ?_)
        refine lv_goto (tgt := 5) hx hb dX3_wordTold_23 (by decide) ?_
        have e1_0 : ((7 - ((i + 1 : Nat) : Int))) = ((7 - (i : Int)) + (-1)) := by first | rfl | omega
        have e1_1 : ((hornZ (fun c => toldZ (gOf (S 0)) r c) (i + 1))) = ((3 * (hornZ (fun c => toldZ (gOf (S 0)) r c) i)) + tellZ ((gOf (S 0)) 1 (8 * r + (7 - (i : Int)))) (thrZ (gOf (S 0)) r 0) (thrZ (gOf (S 0)) r 1)) := by first | rfl | omega
        exact ih5 (i + 1) (by omega) (by omega) _ _ _ hP hD hS (lv_to (lv_sub (l' := [(3, .int (iI ((7 - (i : Int)) + (-1)))), (2, .int (iI ((3 * (hornZ (fun c => toldZ (gOf (S 0)) r c) i)) + tellZ ((gOf (S 0)) 1 (8 * r + (7 - (i : Int)))) (thrZ (gOf (S 0)) r 0) (thrZ (gOf (S 0)) r 1)))), (0, .ref mo), (1, .int (iI r))]) hl [0, 1, 2, 3] rfl) (by simp only [e1_0, e1_1]))
  have e0_0 : ((7 - ((0 : Nat) : Int))) = 7 := by first | rfl | omega
  have e0_1 : ((hornZ (fun c => toldZ (gOf (S 0)) r c) (0))) = 0 := by first | rfl | omega
  exact LP5 (8 + 1) 0 (by omega) (by omega) _ _ _ hP hD hS (lv_to (lv_sub (l' := [(3, .int (iI 7)), (2, .int (iI 0)), (0, .ref mo), (1, .int (iI r))]) hl [0, 1, 2, 3] rfl) (by simp only [e0_0, e0_1]))
set_option maxHeartbeats 4000000 in
set_option maxRecDepth 100000 in
theorem m_X3_wordOf (l : Launch) (D : va_G) (mo : Nat) (am : Nat → Nat) (cI : ClassId) (S : Nat → Int → Int) (r : Int) {B : Int} (hI : InvG B (gOf (S 0))) (h1 : 0 ≤ r ∧ r < 6)  : MW l D yX3_wordOf (wsY yX3_wordOf cX3_wordOf 4 (some .int)) { frames := 2, cells := 0, slots := 0, locals := 45 } [(cI, .int)] [.ref mo, .int (iI r)] (wM mo am cI S) (wM mo am cI S) (some (.int (iI (levelWordZ (gOf (S 0)) r)))) := by
  refine mw_ofI (cc := cX3_wordOf) (maxL := 4) (by decide) rfl (Nat.le_of_ble_eq_true rfl) ?_
  intro p e s m below meth c R A Q args ls hx hb hml hown hts hRf hRl hRc hRs hN hK hP hD hS hA hret hl
  have hq : ∀ w ∈ ALL, w.before args s = true := fun w h => hts w (List.mem_cons_of_mem _ h)
  have hl : lv_has ls 4 [(0, .ref mo), (1, .int (iI r))] := hl
  refine z_iconst hx hb dX3_wordOf_0 ?_
  refine lv_istore_n (lv' := [(2, .int (iI 0)), (0, .ref mo), (1, .int (iI r))]) hx hb dX3_wordOf_1 rfl hl (by decide) rfl (fun ls hl => ?_)
  refine z_bipush hx hb dX3_wordOf_2 (by decide +kernel) ?_
  refine lv_istore_n (lv' := [(3, .int (iI 7)), (2, .int (iI 0)), (0, .ref mo), (1, .int (iI r))]) hx hb dX3_wordOf_4 rfl hl (by decide) rfl (fun ls hl => ?_)
  have LP5 : ∀ (fu i : Nat), i ≤ 8 → 8 < fu + i → ∀ (H : Heap) (locs : List Loc) (ls : Array Slot), va_P D vwCl (wM mo am cI S) H → va_D A (wM mo am cI S) → va_S A s.heap H locs → lv_has ls 4 [(3, .int (iI (7 - (i : Int)))), (2, .int (iI (hornZ (fun c => (gOf (S 0)) 0 (8 * r + c)) i))), (0, .ref mo), (1, .int (iI r))] → W p l e R s m args below meth c H locs 0 0 Q (F0 m 5 ls []) := by
    intro fu
    induction fu with
    | zero => intro i h1 h2; omega
    | succ fu ih5 =>
      intro i hi1 hif H locs ls hP hD hS hl
      refine lv_iload_n hx hb dX3_wordOf_5 rfl (lv_at hl 0 rfl) ?_
      refine z_if_lt (tgt := 27) hx hb dX3_wordOf_6 (by decide) (by omega) (fun c_1 => ?_) (fun c_1 => ?_)
      · refine lv_iload_n hx hb dX3_wordOf_27 rfl (lv_at hl 1 rfl) ?_
        refine z_as (show (hornZ (fun c => (gOf (S 0)) 0 (8 * r + c)) i) = levelWordZ (gOf (S 0)) r from by (have hiN : i = 8 := by omega); rw [hiN]; first | done | rfl) ?_
        first | exact hret _ _ _ _ dX3_wordOf_28 hP hD hS | (exfalso; omega)
      · refine z_iconst hx hb dX3_wordOf_9 ?_
        refine lv_iload_n hx hb dX3_wordOf_10 rfl (lv_at hl 1 rfl) ?_
        refine z_imul hx hb dX3_wordOf_11 ?_
        refine lv_aload_n hx hb dX3_wordOf_12 rfl (lv_at hl 2 rfl) ?_
        refine lv_iload_n hx hb dX3_wordOf_13 rfl (lv_at hl 3 rfl) ?_
        refine lv_iload_n hx hb dX3_wordOf_14 rfl (lv_at hl 0 rfl) ?_
        refine z_iconst hx hb dX3_wordOf_15 ?_
        refine mw_full (st1 := [.int (iI ((gOf (S 0)) 0 (8 * r + (7 - (i : Int))))), .int (iI (3 * (hornZ (fun c => (gOf (S 0)) 0 (8 * r + c)) i)))]) (mr_V (As := [.int (iI r), .int (iI (7 - (i : Int))), .int (iI 0)]) (rest := [.int (iI (3 * (hornZ (fun c => (gOf (S 0)) 0 (8 * r + c)) i)))]) (ci := 3) (q0 := 0) ⟨hx, hb, hml, hown, hts⟩ (m_X3_ofCell l D mo am cI S r (7 - (i : Int)) 0 0 (by omega) (by omega) (by omega)) (cwV 3 hts (gV q_354 q_355 q_356 q_345 q_352) rfl rfl rfl (by decide +kernel) ⟨Nat.le_trans (m := 2) (Nat.le_of_ble_eq_true rfl) (Nat.le_trans (Nat.le_of_ble_eq_true rfl) hRf), Nat.le_trans (m := 45) (Nat.le_of_ble_eq_true rfl) (Nat.le_trans (Nat.le_of_ble_eq_true rfl) hRl)⟩) hN hK hP hD rfl rfl rfl hl.1 (Nat.le_of_ble_eq_true rfl) ⟨hRc, hRs⟩ dX3_wordOf_16) hD hS hA rfl (fun H locs hP hD hS => ?_)
        have hf_2 := invG_0 hI (8 * r + (7 - (i : Int))) (by omega) (by omega)
        refine z_iadd hx hb dX3_wordOf_19 ?_
        refine lv_istore_n (lv' := [(2, .int (iI ((3 * (hornZ (fun c => (gOf (S 0)) 0 (8 * r + c)) i)) + (gOf (S 0)) 0 (8 * r + (7 - (i : Int)))))), (3, .int (iI (7 - (i : Int)))), (0, .ref mo), (1, .int (iI r))]) hx hb dX3_wordOf_20 rfl hl (by decide) rfl (fun ls hl => ?_)
        refine lv_iinc (v := iI ((7 - (i : Int)) + (-1))) (lv' := [(3, .int (iI ((7 - (i : Int)) + (-1)))), (2, .int (iI ((3 * (hornZ (fun c => (gOf (S 0)) 0 (8 * r + c)) i)) + (gOf (S 0)) 0 (8 * r + (7 - (i : Int)))))), (0, .ref mo), (1, .int (iI r))]) hx hb dX3_wordOf_21 hl (k := 1) rfl (iI_add _ _) (by decide) rfl (fun ls hl => ?_)
        refine lv_goto (tgt := 5) hx hb dX3_wordOf_24 (by decide) ?_
        have e1_0 : ((7 - ((i + 1 : Nat) : Int))) = ((7 - (i : Int)) + (-1)) := by first | rfl | omega
        have e1_1 : ((hornZ (fun c => (gOf (S 0)) 0 (8 * r + c)) (i + 1))) = ((3 * (hornZ (fun c => (gOf (S 0)) 0 (8 * r + c)) i)) + (gOf (S 0)) 0 (8 * r + (7 - (i : Int)))) := by first | rfl | omega
        exact ih5 (i + 1) (by omega) (by omega) _ _ _ hP hD hS (lv_to (lv_sub (l' := [(3, .int (iI ((7 - (i : Int)) + (-1)))), (2, .int (iI ((3 * (hornZ (fun c => (gOf (S 0)) 0 (8 * r + c)) i)) + (gOf (S 0)) 0 (8 * r + (7 - (i : Int)))))), (0, .ref mo), (1, .int (iI r))]) hl [0, 1, 2, 3] rfl) (by simp only [e1_0, e1_1]))
  have e0_0 : ((7 - ((0 : Nat) : Int))) = 7 := by first | rfl | omega
  have e0_1 : ((hornZ (fun c => (gOf (S 0)) 0 (8 * r + c)) (0))) = 0 := by first | rfl | omega
  exact LP5 (8 + 1) 0 (by omega) (by omega) _ _ _ hP hD hS (lv_to (lv_sub (l' := [(3, .int (iI 7)), (2, .int (iI 0)), (0, .ref mo), (1, .int (iI r))]) hl [0, 1, 2, 3] rfl) (by simp only [e0_0, e0_1]))
set_option maxHeartbeats 4000000 in
set_option maxRecDepth 100000 in
theorem m_X3_wrongFixed (l : Launch) (D : va_G) (mo : Nat) (am : Nat → Nat) (cI : ClassId) (S : Nat → Int → Int) (r : Int) {B : Int} (hI : InvG B (gOf (S 0))) (h1 : 0 ≤ r ∧ r < 6)  : MW l D yX3_wrongFixed (wsY yX3_wrongFixed cX3_wrongFixed 4 (some .int)) { frames := 2, cells := 0, slots := 0, locals := 45 } [(cI, .int)] [.ref mo, .int (iI r)] (wM mo am cI S) (wM mo am cI S) (some (.int (iI (wrongByZ (gOf (S 0)) r 300 700 8)))) := by
  refine mw_ofI (cc := cX3_wrongFixed) (maxL := 4) (by decide) rfl (Nat.le_of_ble_eq_true rfl) ?_
  intro p e s m below meth c R A Q args ls hx hb hml hown hts hRf hRl hRc hRs hN hK hP hD hS hA hret hl
  have hq : ∀ w ∈ ALL, w.before args s = true := fun w h => hts w (List.mem_cons_of_mem _ h)
  have hl : lv_has ls 4 [(0, .ref mo), (1, .int (iI r))] := hl
  refine z_iconst hx hb dX3_wrongFixed_0 ?_
  refine lv_istore_n (lv' := [(2, .int (iI 0)), (0, .ref mo), (1, .int (iI r))]) hx hb dX3_wrongFixed_1 rfl hl (by decide) rfl (fun ls hl => ?_)
  refine z_iconst hx hb dX3_wrongFixed_2 ?_
  refine lv_istore_n (lv' := [(3, .int (iI 0)), (2, .int (iI 0)), (0, .ref mo), (1, .int (iI r))]) hx hb dX3_wrongFixed_3 rfl hl (by decide) rfl (fun ls hl => ?_)
  have LP4 : ∀ (fu i : Nat), i ≤ 8 → 8 < fu + i → ∀ (H : Heap) (locs : List Loc) (ls : Array Slot), va_P D vwCl (wM mo am cI S) H → va_D A (wM mo am cI S) → va_S A s.heap H locs → lv_has ls 4 [(3, .int (iI (i : Int))), (2, .int (iI (wrongByZ (gOf (S 0)) r 300 700 i))), (0, .ref mo), (1, .int (iI r))] → W p l e R s m args below meth c H locs 0 0 Q (F0 m 4 ls []) := by
    intro fu
    induction fu with
    | zero => intro i h1 h2; omega
    | succ fu ih4 =>
      intro i hi1 hif H locs ls hP hD hS hl
      refine lv_iload_n hx hb dX3_wrongFixed_4 rfl (lv_at hl 0 rfl) ?_
      refine z_bipush hx hb dX3_wrongFixed_5 (by decide +kernel) ?_
      refine z_icmp_ge (tgt := 50) hx hb dX3_wrongFixed_7 (by decide) (by omega) (by omega) (fun c_1 => ?_) (fun c_1 => ?_)
      · refine lv_iload_n hx hb dX3_wrongFixed_50 rfl (lv_at hl 1 rfl) ?_
        refine z_as (show (wrongByZ (gOf (S 0)) r 300 700 i) = wrongByZ (gOf (S 0)) r 300 700 8 from by (have hiN : i = 8 := by omega); rw [hiN]; first | done | rfl) ?_
        first | exact hret _ _ _ _ dX3_wrongFixed_51 hP hD hS | (exfalso; omega)
      · refine lv_iload_n hx hb dX3_wrongFixed_10 rfl (lv_at hl 1 rfl) ?_
        refine lv_aload_n hx hb dX3_wrongFixed_11 rfl (lv_at hl 2 rfl) ?_
        refine lv_iload_n hx hb dX3_wrongFixed_12 rfl (lv_at hl 3 rfl) ?_
        refine lv_iload_n hx hb dX3_wrongFixed_13 rfl (lv_at hl 0 rfl) ?_
        refine z_iconst hx hb dX3_wrongFixed_14 ?_
        refine mw_full (st1 := [.int (iI ((gOf (S 0)) 1 (8 * r + (i : Int)))), .int (iI (wrongByZ (gOf (S 0)) r 300 700 i))]) (mr_V (As := [.int (iI r), .int (iI (i : Int)), .int (iI 1)]) (rest := [.int (iI (wrongByZ (gOf (S 0)) r 300 700 i))]) (ci := 3) (q0 := 0) ⟨hx, hb, hml, hown, hts⟩ (m_X3_ofCell l D mo am cI S r (i : Int) 1 1 (by omega) (by omega) (by omega)) (cwV 3 hts (gV q_354 q_355 q_356 q_345 q_352) rfl rfl rfl (by decide +kernel) ⟨Nat.le_trans (m := 2) (Nat.le_of_ble_eq_true rfl) (Nat.le_trans (Nat.le_of_ble_eq_true rfl) hRf), Nat.le_trans (m := 45) (Nat.le_of_ble_eq_true rfl) (Nat.le_trans (Nat.le_of_ble_eq_true rfl) hRl)⟩) hN hK hP hD rfl rfl rfl hl.1 (Nat.le_of_ble_eq_true rfl) ⟨hRc, hRs⟩ dX3_wrongFixed_15) hD hS hA rfl (fun H locs hP hD hS => ?_)
        have hf_2 := invG_1 hI (8 * r + (i : Int)) (by omega) (by omega)
        refine z_sipush hx hb dX3_wrongFixed_18 (by decide +kernel) ?_
        refine z_sipush hx hb dX3_wrongFixed_21 (by decide +kernel) ?_
        refine mw_none (st1 := [.int (iI (tellZ ((gOf (S 0)) 1 (8 * r + (i : Int))) 300 700)), .int (iI (wrongByZ (gOf (S 0)) r 300 700 i))]) (mr_S (As := [.int (iI ((gOf (S 0)) 1 (8 * r + (i : Int)))), .int (iI 300), .int (iI 700)]) (rest := [.int (iI (wrongByZ (gOf (S 0)) r 300 700 i))]) ⟨hx, hb, hml, hown, hts⟩ (m_X3_by l D ((gOf (S 0)) 1 (8 * r + (i : Int))) 300 700 (by omega) (by omega) (by omega)) (va_cwS 3 hts (gS q_406 q_407 q_345 q_402) rfl rfl rfl (by decide +kernel) ⟨Nat.le_trans (m := 1) (Nat.le_of_ble_eq_true rfl) (Nat.le_trans (Nat.le_of_ble_eq_true rfl) hRf), Nat.le_trans (m := 22) (Nat.le_of_ble_eq_true rfl) (Nat.le_trans (Nat.le_of_ble_eq_true rfl) hRl)⟩) hN (hK.sub (tys' := []) [] rfl) (va_P0 _ _ _) (va_D0 A) rfl hl.1 (Nat.le_of_ble_eq_true rfl) ⟨hRc, hRs⟩ dX3_wrongFixed_24) hP hS hA rfl (fun H locs hP hS => ?_)
        have hf_3 := tellZ_01 ((gOf (S 0)) 1 (8 * r + (i : Int))) 300 700
        refine lv_aload_n hx hb dX3_wrongFixed_27 rfl (lv_at hl 2 rfl) ?_
        refine lv_iload_n hx hb dX3_wrongFixed_28 rfl (lv_at hl 3 rfl) ?_
        refine lv_iload_n hx hb dX3_wrongFixed_29 rfl (lv_at hl 0 rfl) ?_
        refine z_iconst hx hb dX3_wrongFixed_30 ?_
        refine mw_full (st1 := [.int (iI ((gOf (S 0)) 0 (8 * r + (i : Int)))), .int (iI (tellZ ((gOf (S 0)) 1 (8 * r + (i : Int))) 300 700)), .int (iI (wrongByZ (gOf (S 0)) r 300 700 i))]) (mr_V (As := [.int (iI r), .int (iI (i : Int)), .int (iI 0)]) (rest := [.int (iI (tellZ ((gOf (S 0)) 1 (8 * r + (i : Int))) 300 700)), .int (iI (wrongByZ (gOf (S 0)) r 300 700 i))]) (ci := 3) (q0 := 0) ⟨hx, hb, hml, hown, hts⟩ (m_X3_ofCell l D mo am cI S r (i : Int) 0 0 (by omega) (by omega) (by omega)) (cwV 3 hts (gV q_354 q_355 q_356 q_345 q_352) rfl rfl rfl (by decide +kernel) ⟨Nat.le_trans (m := 2) (Nat.le_of_ble_eq_true rfl) (Nat.le_trans (Nat.le_of_ble_eq_true rfl) hRf), Nat.le_trans (m := 45) (Nat.le_of_ble_eq_true rfl) (Nat.le_trans (Nat.le_of_ble_eq_true rfl) hRl)⟩) hN hK hP hD rfl rfl rfl hl.1 (Nat.le_of_ble_eq_true rfl) ⟨hRc, hRs⟩ dX3_wrongFixed_31) hD hS hA rfl (fun H locs hP hD hS => ?_)
        have hf_4 := invG_0 hI (8 * r + (i : Int)) (by omega) (by omega)
        refine z_icmp_ne (tgt := 41) hx hb dX3_wrongFixed_34 (by decide) (by omega) (by omega) (fun c_5 => ?_) (fun c_5 => ?_)
        · refine z_iconst hx hb dX3_wrongFixed_41 ?_
          refine z_iadd hx hb dX3_wrongFixed_42 ?_
          refine lv_istore_n (lv' := [(2, .int (iI ((wrongByZ (gOf (S 0)) r 300 700 i) + 1))), (3, .int (iI (i : Int))), (0, .ref mo), (1, .int (iI r))]) hx hb dX3_wrongFixed_43 rfl hl (by decide) rfl (fun ls hl => ?_)
          refine lv_iinc (v := iI ((i : Int) + 1)) (lv' := [(3, .int (iI ((i : Int) + 1))), (2, .int (iI ((wrongByZ (gOf (S 0)) r 300 700 i) + 1))), (0, .ref mo), (1, .int (iI r))]) hx hb dX3_wrongFixed_44 hl (k := 1) rfl (iI_add _ _) (by decide) rfl (fun ls hl => ?_)
          refine lv_goto (tgt := 4) hx hb dX3_wrongFixed_47 (by decide) ?_
          have e1_0 : (((i + 1 : Nat) : Int)) = ((i : Int) + 1) := by first | omega | (simp only [wrongByZ, sumZ]; omega)
          have e1_1 : ((wrongByZ (gOf (S 0)) r 300 700 (i + 1))) = ((wrongByZ (gOf (S 0)) r 300 700 i) + 1) := by first | omega | (simp only [wrongByZ, sumZ]; omega)
          exact ih4 (i + 1) (by omega) (by omega) _ _ _ hP hD hS (lv_to (lv_sub (l' := [(3, .int (iI ((i : Int) + 1))), (2, .int (iI ((wrongByZ (gOf (S 0)) r 300 700 i) + 1))), (0, .ref mo), (1, .int (iI r))]) hl [0, 1, 2, 3] rfl) (by simp only [e1_0, e1_1]))
        · refine z_iconst hx hb dX3_wrongFixed_37 ?_
          refine lv_goto (tgt := 42) hx hb dX3_wrongFixed_38 (by decide) ?_
          refine z_iadd hx hb dX3_wrongFixed_42 ?_
          refine lv_istore_n (lv' := [(2, .int (iI ((wrongByZ (gOf (S 0)) r 300 700 i) + 0))), (3, .int (iI (i : Int))), (0, .ref mo), (1, .int (iI r))]) hx hb dX3_wrongFixed_43 rfl hl (by decide) rfl (fun ls hl => ?_)
          refine lv_iinc (v := iI ((i : Int) + 1)) (lv' := [(3, .int (iI ((i : Int) + 1))), (2, .int (iI ((wrongByZ (gOf (S 0)) r 300 700 i) + 0))), (0, .ref mo), (1, .int (iI r))]) hx hb dX3_wrongFixed_44 hl (k := 1) rfl (iI_add _ _) (by decide) rfl (fun ls hl => ?_)
          refine lv_goto (tgt := 4) hx hb dX3_wrongFixed_47 (by decide) ?_
          have e1_0 : (((i + 1 : Nat) : Int)) = ((i : Int) + 1) := by first | omega | (simp only [wrongByZ, sumZ]; omega)
          have e1_1 : ((wrongByZ (gOf (S 0)) r 300 700 (i + 1))) = ((wrongByZ (gOf (S 0)) r 300 700 i) + 0) := by first | omega | (simp only [wrongByZ, sumZ]; omega)
          exact ih4 (i + 1) (by omega) (by omega) _ _ _ hP hD hS (lv_to (lv_sub (l' := [(3, .int (iI ((i : Int) + 1))), (2, .int (iI ((wrongByZ (gOf (S 0)) r 300 700 i) + 0))), (0, .ref mo), (1, .int (iI r))]) hl [0, 1, 2, 3] rfl) (by simp only [e1_0, e1_1]))
  have e0_0 : (((0 : Nat) : Int)) = 0 := by first | rfl | omega
  have e0_1 : ((wrongByZ (gOf (S 0)) r 300 700 (0))) = 0 := by first | rfl | omega
  exact LP4 (8 + 1) 0 (by omega) (by omega) _ _ _ hP hD hS (lv_to (lv_sub (l' := [(3, .int (iI 0)), (2, .int (iI 0)), (0, .ref mo), (1, .int (iI r))]) hl [0, 1, 2, 3] rfl) (by simp only [e0_0, e0_1]))
set_option maxHeartbeats 4000000 in
set_option maxRecDepth 100000 in
theorem m_X3_ageOf (l : Launch) (D : va_G) (mo : Nat) (am : Nat → Nat) (cI : ClassId) (S : Nat → Int → Int) (r : Int) {B : Int} (hI : InvG B (gOf (S 0))) (h1 : 0 ≤ r ∧ r < 6)  : MW l D yX3_ageOf (wsY yX3_ageOf cX3_ageOf 2 (some .int)) { frames := 1, cells := 0, slots := 0, locals := 22 } [(cI, .int)] [.ref mo, .int (iI r)] (wM mo am cI S) (wM mo am cI S) (some (.int (iI (ageZ (gOf (S 0)) r)))) := by
  refine mw_ofI (cc := cX3_ageOf) (maxL := 2) (by decide) rfl (Nat.le_of_ble_eq_true rfl) ?_
  intro p e s m below meth c R A Q args ls hx hb hml hown hts hRf hRl hRc hRs hN hK hP hD hS hA hret hl
  have hq : ∀ w ∈ ALL, w.before args s = true := fun w h => hts w (List.mem_cons_of_mem _ h)
  have hl : lv_has ls 2 [(0, .ref mo), (1, .int (iI r))] := hl
  refine lv_aload_n hx hb dX3_ageOf_0 rfl (lv_at hl 0 rfl) ?_
  refine va_get (D := D) (ci := 3) (v := .ref (am 0)) (C := RX3) (T := TX3) (N := 14) hx hb hq inA3 hown hK hP 0 rfl rfl 0 (by decide) (hq _ q_338) (fun _ h9 => h9) rfl dX3_ageOf_1 ?_
  refine z_iconst hx hb dX3_ageOf_4 ?_
  refine z_iald hx hb hK hP 1 0 rfl rfl (by omega) (by omega) (v := (gOf (S 0) 12 0)) (s_12 _) dX3_ageOf_5 ?_
  refine lv_aload_n hx hb dX3_ageOf_6 rfl (lv_at hl 0 rfl) ?_
  refine lv_iload_n hx hb dX3_ageOf_7 rfl (lv_at hl 1 rfl) ?_
  refine z_iconst hx hb dX3_ageOf_8 ?_
  refine mw_full (st1 := [.int (iI ((gOf (S 0)) 7 r)), .int (iI (gOf (S 0) 12 0))]) (mr_V (As := [.int (iI r), .int (iI 1)]) (rest := [.int (iI (gOf (S 0) 12 0))]) (ci := 3) (q0 := 0) ⟨hx, hb, hml, hown, hts⟩ (m_X3_of l D mo am cI S r 1 7 r (ix_ofr 7 (by omega) (by omega) (by omega))) (cwV 2 hts (gV q_342 q_343 q_344 q_345 q_340) rfl rfl rfl (by decide +kernel) ⟨Nat.le_trans (m := 1) (Nat.le_of_ble_eq_true rfl) (Nat.le_trans (Nat.le_of_ble_eq_true rfl) hRf), Nat.le_trans (m := 22) (Nat.le_of_ble_eq_true rfl) (Nat.le_trans (Nat.le_of_ble_eq_true rfl) hRl)⟩) hN hK hP hD rfl rfl rfl hl.1 (Nat.le_of_ble_eq_true rfl) ⟨hRc, hRs⟩ dX3_ageOf_9) hD hS hA rfl (fun H locs hP hD hS => ?_)
  have hf_1 := invG_7 hI r (by omega) (by omega)
  refine z_isub hx hb dX3_ageOf_12 ?_
  refine z_as (show ((gOf (S 0) 12 0) - (gOf (S 0)) 7 r) = ageZ (gOf (S 0)) r from by first | rfl | omega) ?_
  first | exact hret _ _ _ _ dX3_ageOf_13 hP hD hS | (exfalso; omega)
