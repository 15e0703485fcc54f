set_option maxHeartbeats 4000000 in
set_option maxRecDepth 100000 in
theorem m_X3_errorWrite (l : Launch) (D : va_G) (r c2 v : Int) (h1 : -2147483648 ≤ r ∧ r < 2147483648) (h2 : -2147483648 ≤ c2 ∧ c2 < 2147483648) (h3 : -2147483648 ≤ v ∧ v < 2147483648)  : MW l D yX3_errorWrite (wsY yX3_errorWrite cX3_errorWrite 3 (some .int)) { frames := 2, cells := 0, slots := 0, locals := 42 } [] [.int (iI r), .int (iI c2), .int (iI v)] [] [] (some (.int (iI (ewV r c2 v)))) := by
  refine mw_ofI (cc := cX3_errorWrite) (maxL := 3) (by decide) rfl (Nat.le_of_ble_eq_true rfl) ?_
  intro p e s m below meth c R A Q args ls hx hb hml hown hts hRf hRl hRc hRs hN hK hP hD hS hA hret hl
  have hq : ∀ w ∈ ALL, w.before args s = true := fun w h => hts w (List.mem_cons_of_mem _ h)
  have hl : lv_has ls 3 [(0, .int (iI r)), (1, .int (iI c2)), (2, .int (iI v))] := hl
  refine lv_iload_n hx hb dX3_errorWrite_0 rfl (lv_at hl 0 rfl) ?_
  refine mw_none (st1 := [.int (iI (if 0 ≤ r ∧ r ≤ 5 then 1 else 0 : Int))]) (mr_S (As := [.int (iI r)]) (rest := []) ⟨hx, hb, hml, hown, hts⟩ (m_X3_isRow l D r (by omega)) (va_cwS 1 hts (gS q_388 q_389 q_345 q_382) rfl rfl rfl (by decide +kernel) ⟨Nat.le_trans (m := 2) (Nat.le_of_ble_eq_true rfl) (Nat.le_trans (Nat.le_of_ble_eq_true rfl) hRf), Nat.le_trans (m := 42) (Nat.le_of_ble_eq_true rfl) (Nat.le_trans (Nat.le_of_ble_eq_true rfl) hRl)⟩) hN (hK.sub (tys' := []) [] rfl) (va_P0 _ _ _) (va_D0 A) rfl hl.1 (Nat.le_of_ble_eq_true rfl) ⟨hRc, hRs⟩ dX3_errorWrite_1) hP hS hA rfl (fun H locs hP hS => ?_)
  refine z_if_eq (tgt := 25) hx hb dX3_errorWrite_4 (by decide) (by omega) (fun c_1 => ?_) (fun c_1 => ?_)
  · refine z_ldc hx hb (-1000001) (by decide +kernel) hown (hq _ q_448) dX3_errorWrite_25 ?_
    refine z_as (show (-1000001) = ewV r c2 v from by first | rfl | omega | (unfold ewV; omega) | (subst_vars; unfold ewV; omega) | (subst_vars; simp [ewV])) ?_
    first | exact hret _ _ _ _ dX3_errorWrite_27 hP hD hS | (exfalso; omega)
  · refine lv_iload_n hx hb dX3_errorWrite_7 rfl (lv_at hl 1 rfl) ?_
    refine mw_none (st1 := [.int (iI (if 0 ≤ c2 ∧ c2 ≤ 7 then 1 else 0 : Int))]) (mr_S (As := [.int (iI c2)]) (rest := []) ⟨hx, hb, hml, hown, hts⟩ (m_X3_isCell l D c2 (by omega)) (va_cwS 1 hts (gS q_449 q_450 q_345 q_383) rfl rfl rfl (by decide +kernel) ⟨Nat.le_trans (m := 2) (Nat.le_of_ble_eq_true rfl) (Nat.le_trans (Nat.le_of_ble_eq_true rfl) hRf), Nat.le_trans (m := 42) (Nat.le_of_ble_eq_true rfl) (Nat.le_trans (Nat.le_of_ble_eq_true rfl) hRl)⟩) hN (hK.sub (tys' := []) [] rfl) (va_P0 _ _ _) (va_D0 A) rfl hl.1 (Nat.le_of_ble_eq_true rfl) ⟨hRc, hRs⟩ dX3_errorWrite_8) hP hS hA rfl (fun H locs hP hS => ?_)
    refine z_if_eq (tgt := 25) hx hb dX3_errorWrite_11 (by decide) (by omega) (fun c_2 => ?_) (fun c_2 => ?_)
    · refine z_ldc hx hb (-1000001) (by decide +kernel) hown (hq _ q_448) dX3_errorWrite_25 ?_
      refine z_as (show (-1000001) = ewV r c2 v from by first | rfl | omega | (unfold ewV; omega) | (subst_vars; unfold ewV; omega) | (subst_vars; simp [ewV])) ?_
      first | exact hret _ _ _ _ dX3_errorWrite_27 hP hD hS | (exfalso; omega)
    · refine lv_iload_n hx hb dX3_errorWrite_14 rfl (lv_at hl 2 rfl) ?_
      refine mw_none (st1 := [.int (iI (if 0 ≤ v ∧ v ≤ 2 then 1 else 0 : Int))]) (mr_S (As := [.int (iI v)]) (rest := []) ⟨hx, hb, hml, hown, hts⟩ (m_X3_isThree l D v (by omega)) (va_cwS 1 hts (gS q_451 q_452 q_345 q_384) rfl rfl rfl (by decide +kernel) ⟨Nat.le_trans (m := 2) (Nat.le_of_ble_eq_true rfl) (Nat.le_trans (Nat.le_of_ble_eq_true rfl) hRf), Nat.le_trans (m := 42) (Nat.le_of_ble_eq_true rfl) (Nat.le_trans (Nat.le_of_ble_eq_true rfl) hRl)⟩) hN (hK.sub (tys' := []) [] rfl) (va_P0 _ _ _) (va_D0 A) rfl hl.1 (Nat.le_of_ble_eq_true rfl) ⟨hRc, hRs⟩ dX3_errorWrite_15) hP hS hA rfl (fun H locs hP hS => ?_)
      refine z_if_eq (tgt := 25) hx hb dX3_errorWrite_18 (by decide) (by omega) (fun c_3 => ?_) (fun c_3 => ?_)
      · refine z_ldc hx hb (-1000001) (by decide +kernel) hown (hq _ q_448) dX3_errorWrite_25 ?_
        refine z_as (show (-1000001) = ewV r c2 v from by first | rfl | omega | (unfold ewV; omega) | (subst_vars; unfold ewV; omega) | (subst_vars; simp [ewV])) ?_
        first | exact hret _ _ _ _ dX3_errorWrite_27 hP hD hS | (exfalso; omega)
      · refine z_iconst hx hb dX3_errorWrite_21 ?_
        refine lv_goto (tgt := 27) hx hb dX3_errorWrite_22 (by decide) ?_
        refine z_as (show 0 = ewV r c2 v from by first | rfl | omega | (unfold ewV; omega) | (subst_vars; unfold ewV; omega) | (subst_vars; simp [ewV])) ?_
        first | exact hret _ _ _ _ dX3_errorWrite_27 hP hD hS | (exfalso; omega)
set_option maxHeartbeats 4000000 in
set_option maxRecDepth 100000 in
theorem m_X3_errorRate (l : Launch) (D : va_G) (r v : Int) (h1 : -2147483648 ≤ r ∧ r < 2147483648) (h2 : -2147483648 ≤ v ∧ v < 2147483648)  : MW l D yX3_errorRate (wsY yX3_errorRate cX3_errorRate 2 (some .int)) { frames := 2, cells := 0, slots := 0, locals := 42 } [] [.int (iI r), .int (iI v)] [] [] (some (.int (iI (erV r v)))) := by
  refine mw_ofI (cc := cX3_errorRate) (maxL := 2) (by decide) rfl (Nat.le_of_ble_eq_true rfl) ?_
  intro p e s m below meth c R A Q args ls hx hb hml hown hts hRf hRl hRc hRs hN hK hP hD hS hA hret hl
  have hq : ∀ w ∈ ALL, w.before args s = true := fun w h => hts w (List.mem_cons_of_mem _ h)
  have hl : lv_has ls 2 [(0, .int (iI r)), (1, .int (iI v))] := hl
  refine lv_iload_n hx hb dX3_errorRate_0 rfl (lv_at hl 0 rfl) ?_
  refine mw_none (st1 := [.int (iI (if 0 ≤ r ∧ r ≤ 5 then 1 else 0 : Int))]) (mr_S (As := [.int (iI r)]) (rest := []) ⟨hx, hb, hml, hown, hts⟩ (m_X3_isRow l D r (by omega)) (va_cwS 1 hts (gS q_388 q_389 q_345 q_382) rfl rfl rfl (by decide +kernel) ⟨Nat.le_trans (m := 2) (Nat.le_of_ble_eq_true rfl) (Nat.le_trans (Nat.le_of_ble_eq_true rfl) hRf), Nat.le_trans (m := 42) (Nat.le_of_ble_eq_true rfl) (Nat.le_trans (Nat.le_of_ble_eq_true rfl) hRl)⟩) hN (hK.sub (tys' := []) [] rfl) (va_P0 _ _ _) (va_D0 A) rfl hl.1 (Nat.le_of_ble_eq_true rfl) ⟨hRc, hRs⟩ dX3_errorRate_1) hP hS hA rfl (fun H locs hP hS => ?_)
  refine z_if_eq (tgt := 22) hx hb dX3_errorRate_4 (by decide) (by omega) (fun c_1 => ?_) (fun c_1 => ?_)
  · refine z_ldc hx hb (-1000001) (by decide +kernel) hown (hq _ q_448) dX3_errorRate_22 ?_
    refine z_as (show (-1000001) = erV r v from by first | rfl | omega | (unfold erV; omega) | (subst_vars; unfold erV; omega) | (subst_vars; simp [erV])) ?_
    first | exact hret _ _ _ _ dX3_errorRate_24 hP hD hS | (exfalso; omega)
  · refine lv_iload_n hx hb dX3_errorRate_7 rfl (lv_at hl 1 rfl) ?_
    refine z_iconst hx hb dX3_errorRate_8 ?_
    refine z_sipush hx hb dX3_errorRate_9 (by decide +kernel) ?_
    refine mw_none (st1 := [.int (iI (if 1 ≤ v ∧ v ≤ 200 then 1 else 0 : Int))]) (mr_S (As := [.int (iI v), .int (iI 1), .int (iI 200)]) (rest := []) ⟨hx, hb, hml, hown, hts⟩ (m_X3_in l D v 1 200 (by omega) (by omega) (by omega)) (va_cwS 3 hts (gS q_380 q_381 q_345 q_374) rfl rfl rfl (by decide +kernel) ⟨Nat.le_trans (m := 1) (Nat.le_of_ble_eq_true rfl) (Nat.le_trans (Nat.le_of_ble_eq_true rfl) hRf), Nat.le_trans (m := 22) (Nat.le_of_ble_eq_true rfl) (Nat.le_trans (Nat.le_of_ble_eq_true rfl) hRl)⟩) hN (hK.sub (tys' := []) [] rfl) (va_P0 _ _ _) (va_D0 A) rfl hl.1 (Nat.le_of_ble_eq_true rfl) ⟨hRc, hRs⟩ dX3_errorRate_12) hP hS hA rfl (fun H locs hP hS => ?_)
    refine z_if_eq (tgt := 22) hx hb dX3_errorRate_15 (by decide) (by omega) (fun c_2 => ?_) (fun c_2 => ?_)
    · refine z_ldc hx hb (-1000001) (by decide +kernel) hown (hq _ q_448) dX3_errorRate_22 ?_
      refine z_as (show (-1000001) = erV r v from by first | rfl | omega | (unfold erV; omega) | (subst_vars; unfold erV; omega) | (subst_vars; simp [erV])) ?_
      first | exact hret _ _ _ _ dX3_errorRate_24 hP hD hS | (exfalso; omega)
    · refine z_iconst hx hb dX3_errorRate_18 ?_
      refine lv_goto (tgt := 24) hx hb dX3_errorRate_19 (by decide) ?_
      refine z_as (show 0 = erV r v from by first | rfl | omega | (unfold erV; omega) | (subst_vars; unfold erV; omega) | (subst_vars; simp [erV])) ?_
      first | exact hret _ _ _ _ dX3_errorRate_24 hP hD hS | (exfalso; omega)
set_option maxHeartbeats 4000000 in
set_option maxRecDepth 100000 in
theorem m_X3_errorFail (l : Launch) (D : va_G) (mo : Nat) (am : Nat → Nat) (cI : ClassId) (S : Nat → Int → Int) (r g2 v : Int) {B : Int} (hI : InvG B (gOf (S 0))) (h1 : -2147483648 ≤ r ∧ r < 2147483648) (h2 : -2147483648 ≤ g2 ∧ g2 < 2147483648) (h3 : -2147483648 ≤ v ∧ v < 2147483648)  : MW l D yX3_errorFail (wsY yX3_errorFail cX3_errorFail 4 (some .int)) { frames := 2, cells := 0, slots := 0, locals := 42 } [(cI, .int)] [.ref mo, .int (iI r), .int (iI g2), .int (iI v)] (wM mo am cI S) (wM mo am cI S) (some (.int (iI (efV (gOf (S 0)) r g2 v)))) := by
  refine mw_ofI (cc := cX3_errorFail) (maxL := 4) (by decide) rfl (Nat.le_of_ble_eq_true rfl) ?_
  intro p e s m below meth c R A Q args ls hx hb hml hown hts hRf hRl hRc hRs hN hK hP hD hS hA hret hl
  have hq : ∀ w ∈ ALL, w.before args s = true := fun w h => hts w (List.mem_cons_of_mem _ h)
  have hl : lv_has ls 4 [(0, .ref mo), (1, .int (iI r)), (2, .int (iI g2)), (3, .int (iI v))] := hl
  refine lv_iload_n hx hb dX3_errorFail_0 rfl (lv_at hl 1 rfl) ?_
  refine mw_none (st1 := [.int (iI (if 0 ≤ r ∧ r ≤ 5 then 1 else 0 : Int))]) (mr_S (As := [.int (iI r)]) (rest := []) ⟨hx, hb, hml, hown, hts⟩ (m_X3_isRow l D r (by omega)) (va_cwS 1 hts (gS q_388 q_389 q_345 q_382) rfl rfl rfl (by decide +kernel) ⟨Nat.le_trans (m := 2) (Nat.le_of_ble_eq_true rfl) (Nat.le_trans (Nat.le_of_ble_eq_true rfl) hRf), Nat.le_trans (m := 42) (Nat.le_of_ble_eq_true rfl) (Nat.le_trans (Nat.le_of_ble_eq_true rfl) hRl)⟩) hN (hK.sub (tys' := []) [] rfl) (va_P0 _ _ _) (va_D0 A) rfl hl.1 (Nat.le_of_ble_eq_true rfl) ⟨hRc, hRs⟩ dX3_errorFail_1) hP hS hA rfl (fun H locs hP hS => ?_)
  refine z_if_eq (tgt := 25) hx hb dX3_errorFail_4 (by decide) (by omega) (fun c_1 => ?_) (fun c_1 => ?_)
  · refine z_ldc hx hb (-1000001) (by decide +kernel) hown (hq _ q_448) dX3_errorFail_25 ?_
    refine lv_goto (tgt := 49) hx hb dX3_errorFail_27 (by decide) ?_
    refine z_as (show (-1000001) = efV (gOf (S 0)) r g2 v from by first | rfl | omega | (unfold efV; omega) | (subst_vars; unfold efV; omega) | (subst_vars; simp [efV])) ?_
    first | exact hret _ _ _ _ dX3_errorFail_49 hP hD hS | (exfalso; omega)
  · refine lv_iload_n hx hb dX3_errorFail_7 rfl (lv_at hl 2 rfl) ?_
    refine mw_none (st1 := [.int (iI (if 0 ≤ g2 ∧ g2 ≤ 2 then 1 else 0 : Int))]) (mr_S (As := [.int (iI g2)]) (rest := []) ⟨hx, hb, hml, hown, hts⟩ (m_X3_isThree l D g2 (by omega)) (va_cwS 1 hts (gS q_451 q_452 q_345 q_384) rfl rfl rfl (by decide +kernel) ⟨Nat.le_trans (m := 2) (Nat.le_of_ble_eq_true rfl) (Nat.le_trans (Nat.le_of_ble_eq_true rfl) hRf), Nat.le_trans (m := 42) (Nat.le_of_ble_eq_true rfl) (Nat.le_trans (Nat.le_of_ble_eq_true rfl) hRl)⟩) hN (hK.sub (tys' := []) [] rfl) (va_P0 _ _ _) (va_D0 A) rfl hl.1 (Nat.le_of_ble_eq_true rfl) ⟨hRc, hRs⟩ dX3_errorFail_8) hP hS hA rfl (fun H locs hP hS => ?_)
    refine z_if_eq (tgt := 25) hx hb dX3_errorFail_11 (by decide) (by omega) (fun c_2 => ?_) (fun c_2 => ?_)
    · refine z_ldc hx hb (-1000001) (by decide +kernel) hown (hq _ q_448) dX3_errorFail_25 ?_
      refine lv_goto (tgt := 49) hx hb dX3_errorFail_27 (by decide) ?_
      refine z_as (show (-1000001) = efV (gOf (S 0)) r g2 v from by first | rfl | omega | (unfold efV; omega) | (subst_vars; unfold efV; omega) | (subst_vars; simp [efV])) ?_
      first | exact hret _ _ _ _ dX3_errorFail_49 hP hD hS | (exfalso; omega)
    · refine lv_iload_n hx hb dX3_errorFail_14 rfl (lv_at hl 3 rfl) ?_
      refine z_iconst hx hb dX3_errorFail_15 ?_
      refine z_sipush hx hb dX3_errorFail_16 (by decide +kernel) ?_
      refine mw_none (st1 := [.int (iI (if 0 ≤ v ∧ v ≤ 999 then 1 else 0 : Int))]) (mr_S (As := [.int (iI v), .int (iI 0), .int (iI 999)]) (rest := []) ⟨hx, hb, hml, hown, hts⟩ (m_X3_in l D v 0 999 (by omega) (by omega) (by omega)) (va_cwS 3 hts (gS q_380 q_381 q_345 q_374) rfl rfl rfl (by decide +kernel) ⟨Nat.le_trans (m := 1) (Nat.le_of_ble_eq_true rfl) (Nat.le_trans (Nat.le_of_ble_eq_true rfl) hRf), Nat.le_trans (m := 22) (Nat.le_of_ble_eq_true rfl) (Nat.le_trans (Nat.le_of_ble_eq_true rfl) hRl)⟩) hN (hK.sub (tys' := []) [] rfl) (va_P0 _ _ _) (va_D0 A) rfl hl.1 (Nat.le_of_ble_eq_true rfl) ⟨hRc, hRs⟩ dX3_errorFail_19) hP hS hA rfl (fun H locs hP hS => ?_)
      refine z_if_ne (tgt := 30) hx hb dX3_errorFail_22 (by decide) (by omega) (fun c_3 => ?_) (fun c_3 => ?_)
      · refine lv_aload_n hx hb dX3_errorFail_30 rfl (lv_at hl 0 rfl) ?_
        refine lv_iload_n hx hb dX3_errorFail_31 rfl (lv_at hl 1 rfl) ?_
        refine z_bipush hx hb dX3_errorFail_32 (by decide +kernel) ?_
        refine lv_iload_n hx hb dX3_errorFail_34 rfl (lv_at hl 2 rfl) ?_
        refine z_iadd hx hb dX3_errorFail_35 ?_
        refine mw_full (st1 := [.int (iI ((gOf (S 0)) 5 (3 * r + g2)))]) (mr_V (As := [.int (iI r), .int (iI (7 + g2))]) (rest := []) (ci := 3) (q0 := 0) ⟨hx, hb, hml, hown, hts⟩ (m_X3_of l D mo am cI S r (7 + g2) 5 (3 * r + g2) (ix_of5 (r := r) (by omega) (by omega))) (cwV 2 hts (gV q_342 q_343 q_344 q_345 q_340) rfl rfl rfl (by decide +kernel) ⟨Nat.le_trans (m := 1) (Nat.le_of_ble_eq_true rfl) (Nat.le_trans (Nat.le_of_ble_eq_true rfl) hRf), Nat.le_trans (m := 22) (Nat.le_of_ble_eq_true rfl) (Nat.le_trans (Nat.le_of_ble_eq_true rfl) hRl)⟩) hN hK hP hD rfl rfl rfl hl.1 (Nat.le_of_ble_eq_true rfl) ⟨hRc, hRs⟩ dX3_errorFail_36) hD hS hA rfl (fun H locs hP hD hS => ?_)
        have hf_4 := invG_5 hI (3 * r + g2) (by omega) (by omega)
        refine z_iconst hx hb dX3_errorFail_39 ?_
        refine z_icmp_ne (tgt := 48) hx hb dX3_errorFail_40 (by decide) (by omega) (by omega) (fun c_5 => ?_) (fun c_5 => ?_)
        · refine z_iconst hx hb dX3_errorFail_48 ?_
          refine z_as (show 0 = efV (gOf (S 0)) r g2 v from by first | rfl | omega | (unfold efV; omega) | (subst_vars; unfold efV; omega) | (subst_vars; simp [efV])) ?_
          first | exact hret _ _ _ _ dX3_errorFail_49 hP hD hS | (exfalso; omega)
        · refine z_ldc hx hb (-1000002) (by decide +kernel) hown (hq _ q_454) dX3_errorFail_43 ?_
          refine lv_goto (tgt := 49) hx hb dX3_errorFail_45 (by decide) ?_
          refine z_as (show (-1000002) = efV (gOf (S 0)) r g2 v from by first | rfl | omega | (unfold efV; omega) | (subst_vars; unfold efV; omega) | (subst_vars; simp [efV])) ?_
          first | exact hret _ _ _ _ dX3_errorFail_49 hP hD hS | (exfalso; omega)
      · refine z_ldc hx hb (-1000001) (by decide +kernel) hown (hq _ q_448) dX3_errorFail_25 ?_
        refine lv_goto (tgt := 49) hx hb dX3_errorFail_27 (by decide) ?_
        refine z_as (show (-1000001) = efV (gOf (S 0)) r g2 v from by first | rfl | omega | (unfold efV; omega) | (subst_vars; unfold efV; omega) | (subst_vars; simp [efV])) ?_
        first | exact hret _ _ _ _ dX3_errorFail_49 hP hD hS | (exfalso; omega)
set_option maxHeartbeats 4000000 in
set_option maxRecDepth 100000 in
theorem m_X3_errorMend (l : Launch) (D : va_G) (mo : Nat) (am : Nat → Nat) (cI : ClassId) (S : Nat → Int → Int) (r g2 : Int) {B : Int} (hI : InvG B (gOf (S 0))) (h1 : -2147483648 ≤ r ∧ r < 2147483648) (h2 : -2147483648 ≤ g2 ∧ g2 < 2147483648)  : MW l D yX3_errorMend (wsY yX3_errorMend cX3_errorMend 3 (some .int)) { frames := 2, cells := 0, slots := 0, locals := 42 } [(cI, .int)] [.ref mo, .int (iI r), .int (iI g2)] (wM mo am cI S) (wM mo am cI S) (some (.int (iI (emV (gOf (S 0)) r g2)))) := by
  refine mw_ofI (cc := cX3_errorMend) (maxL := 3) (by decide) rfl (Nat.le_of_ble_eq_true rfl) ?_
  intro p e s m below meth c R A Q args ls hx hb hml hown hts hRf hRl hRc hRs hN hK hP hD hS hA hret hl
  have hq : ∀ w ∈ ALL, w.before args s = true := fun w h => hts w (List.mem_cons_of_mem _ h)
  have hl : lv_has ls 3 [(0, .ref mo), (1, .int (iI r)), (2, .int (iI g2))] := hl
  refine lv_iload_n hx hb dX3_errorMend_0 rfl (lv_at hl 1 rfl) ?_
  refine mw_none (st1 := [.int (iI (if 0 ≤ r ∧ r ≤ 5 then 1 else 0 : Int))]) (mr_S (As := [.int (iI r)]) (rest := []) ⟨hx, hb, hml, hown, hts⟩ (m_X3_isRow l D r (by omega)) (va_cwS 1 hts (gS q_388 q_389 q_345 q_382) rfl rfl rfl (by decide +kernel) ⟨Nat.le_trans (m := 2) (Nat.le_of_ble_eq_true rfl) (Nat.le_trans (Nat.le_of_ble_eq_true rfl) hRf), Nat.le_trans (m := 42) (Nat.le_of_ble_eq_true rfl) (Nat.le_trans (Nat.le_of_ble_eq_true rfl) hRl)⟩) hN (hK.sub (tys' := []) [] rfl) (va_P0 _ _ _) (va_D0 A) rfl hl.1 (Nat.le_of_ble_eq_true rfl) ⟨hRc, hRs⟩ dX3_errorMend_1) hP hS hA rfl (fun H locs hP hS => ?_)
  refine z_if_eq (tgt := 14) hx hb dX3_errorMend_4 (by decide) (by omega) (fun c_1 => ?_) (fun c_1 => ?_)
  · refine z_ldc hx hb (-1000001) (by decide +kernel) hown (hq _ q_448) dX3_errorMend_14 ?_
    refine lv_goto (tgt := 37) hx hb dX3_errorMend_16 (by decide) ?_
    refine z_as (show (-1000001) = emV (gOf (S 0)) r g2 from by first | rfl | omega | (unfold emV; omega) | (subst_vars; unfold emV; omega) | (subst_vars; simp [emV])) ?_
    first | exact hret _ _ _ _ dX3_errorMend_37 hP hD hS | (exfalso; omega)
  · refine lv_iload_n hx hb dX3_errorMend_7 rfl (lv_at hl 2 rfl) ?_
    refine mw_none (st1 := [.int (iI (if 0 ≤ g2 ∧ g2 ≤ 2 then 1 else 0 : Int))]) (mr_S (As := [.int (iI g2)]) (rest := []) ⟨hx, hb, hml, hown, hts⟩ (m_X3_isThree l D g2 (by omega)) (va_cwS 1 hts (gS q_451 q_452 q_345 q_384) rfl rfl rfl (by decide +kernel) ⟨Nat.le_trans (m := 2) (Nat.le_of_ble_eq_true rfl) (Nat.le_trans (Nat.le_of_ble_eq_true rfl) hRf), Nat.le_trans (m := 42) (Nat.le_of_ble_eq_true rfl) (Nat.le_trans (Nat.le_of_ble_eq_true rfl) hRl)⟩) hN (hK.sub (tys' := []) [] rfl) (va_P0 _ _ _) (va_D0 A) rfl hl.1 (Nat.le_of_ble_eq_true rfl) ⟨hRc, hRs⟩ dX3_errorMend_8) hP hS hA rfl (fun H locs hP hS => ?_)
    refine z_if_ne (tgt := 19) hx hb dX3_errorMend_11 (by decide) (by omega) (fun c_2 => ?_) (fun c_2 => ?_)
    · refine lv_aload_n hx hb dX3_errorMend_19 rfl (lv_at hl 0 rfl) ?_
      refine lv_iload_n hx hb dX3_errorMend_20 rfl (lv_at hl 1 rfl) ?_
      refine z_bipush hx hb dX3_errorMend_21 (by decide +kernel) ?_
      refine lv_iload_n hx hb dX3_errorMend_23 rfl (lv_at hl 2 rfl) ?_
      refine z_iadd hx hb dX3_errorMend_24 ?_
      refine mw_full (st1 := [.int (iI ((gOf (S 0)) 5 (3 * r + g2)))]) (mr_V (As := [.int (iI r), .int (iI (7 + g2))]) (rest := []) (ci := 3) (q0 := 0) ⟨hx, hb, hml, hown, hts⟩ (m_X3_of l D mo am cI S r (7 + g2) 5 (3 * r + g2) (ix_of5 (r := r) (by omega) (by omega))) (cwV 2 hts (gV q_342 q_343 q_344 q_345 q_340) rfl rfl rfl (by decide +kernel) ⟨Nat.le_trans (m := 1) (Nat.le_of_ble_eq_true rfl) (Nat.le_trans (Nat.le_of_ble_eq_true rfl) hRf), Nat.le_trans (m := 22) (Nat.le_of_ble_eq_true rfl) (Nat.le_trans (Nat.le_of_ble_eq_true rfl) hRl)⟩) hN hK hP hD rfl rfl rfl hl.1 (Nat.le_of_ble_eq_true rfl) ⟨hRc, hRs⟩ dX3_errorMend_25) hD hS hA rfl (fun H locs hP hD hS => ?_)
      have hf_3 := invG_5 hI (3 * r + g2) (by omega) (by omega)
      refine z_if_ne (tgt := 36) hx hb dX3_errorMend_28 (by decide) (by omega) (fun c_4 => ?_) (fun c_4 => ?_)
      · refine z_iconst hx hb dX3_errorMend_36 ?_
        refine z_as (show 0 = emV (gOf (S 0)) r g2 from by first | rfl | omega | (unfold emV; omega) | (subst_vars; unfold emV; omega) | (subst_vars; simp [emV])) ?_
        first | exact hret _ _ _ _ dX3_errorMend_37 hP hD hS | (exfalso; omega)
      · refine z_ldc hx hb (-1000002) (by decide +kernel) hown (hq _ q_454) dX3_errorMend_31 ?_
        refine lv_goto (tgt := 37) hx hb dX3_errorMend_33 (by decide) ?_
        refine z_as (show (-1000002) = emV (gOf (S 0)) r g2 from by first | rfl | omega | (unfold emV; omega) | (subst_vars; unfold emV; omega) | (subst_vars; simp [emV])) ?_
        first | exact hret _ _ _ _ dX3_errorMend_37 hP hD hS | (exfalso; omega)
    · refine z_ldc hx hb (-1000001) (by decide +kernel) hown (hq _ q_448) dX3_errorMend_14 ?_
      refine lv_goto (tgt := 37) hx hb dX3_errorMend_16 (by decide) ?_
      refine z_as (show (-1000001) = emV (gOf (S 0)) r g2 from by first | rfl | omega | (unfold emV; omega) | (subst_vars; unfold emV; omega) | (subst_vars; simp [emV])) ?_
      first | exact hret _ _ _ _ dX3_errorMend_37 hP hD hS | (exfalso; omega)
set_option maxHeartbeats 4000000 in
set_option maxRecDepth 100000 in
theorem m_X3_errorDays (l : Launch) (D : va_G) (mo : Nat) (am : Nat → Nat) (cI : ClassId) (S : Nat → Int → Int) (n : Int) {B : Int} (hI : InvG B (gOf (S 0))) (h1 : -2147483648 ≤ n ∧ n < 2147483648)  : MW l D yX3_errorDays (wsY yX3_errorDays cX3_errorDays 2 (some .int)) { frames := 1, cells := 0, slots := 0, locals := 22 } [(cI, .int)] [.ref mo, .int (iI n)] (wM mo am cI S) (wM mo am cI S) (some (.int (iI (edV (gOf (S 0)) n)))) := by
  refine mw_ofI (cc := cX3_errorDays) (maxL := 2) (by decide) rfl (Nat.le_of_ble_eq_true rfl) ?_
  intro p e s m below meth c R A Q args ls hx hb hml hown hts hRf hRl hRc hRs hN hK hP hD hS hA hret hl
  have hq : ∀ w ∈ ALL, w.before args s = true := fun w h => hts w (List.mem_cons_of_mem _ h)
  have hl : lv_has ls 2 [(0, .ref mo), (1, .int (iI n))] := hl
  have hdd := invG_d hI
  refine lv_iload_n hx hb dX3_errorDays_0 rfl (lv_at hl 1 rfl) ?_
  refine z_iconst hx hb dX3_errorDays_1 ?_
  refine z_bipush hx hb dX3_errorDays_2 (by decide +kernel) ?_
  refine mw_none (st1 := [.int (iI (if 1 ≤ n ∧ n ≤ 99 then 1 else 0 : Int))]) (mr_S (As := [.int (iI n), .int (iI 1), .int (iI 99)]) (rest := []) ⟨hx, hb, hml, hown, hts⟩ (m_X3_in l D n 1 99 (by omega) (by omega) (by omega)) (va_cwS 3 hts (gS q_380 q_381 q_345 q_374) rfl rfl rfl (by decide +kernel) ⟨Nat.le_trans (m := 1) (Nat.le_of_ble_eq_true rfl) (Nat.le_trans (Nat.le_of_ble_eq_true rfl) hRf), Nat.le_trans (m := 22) (Nat.le_of_ble_eq_true rfl) (Nat.le_trans (Nat.le_of_ble_eq_true rfl) hRl)⟩) hN (hK.sub (tys' := []) [] rfl) (va_P0 _ _ _) (va_D0 A) rfl hl.1 (Nat.le_of_ble_eq_true rfl) ⟨hRc, hRs⟩ dX3_errorDays_4) hP hS hA rfl (fun H locs hP hS => ?_)
  refine z_if_ne (tgt := 15) hx hb dX3_errorDays_7 (by decide) (by omega) (fun c_1 => ?_) (fun c_1 => ?_)
  · refine lv_aload_n hx hb dX3_errorDays_15 rfl (lv_at hl 0 rfl) ?_
    refine va_get (D := D) (ci := 3) (v := .ref (am 0)) (C := RX3) (T := TX3) (N := 14) hx hb hq inA3 hown hK hP 0 rfl rfl 0 (by decide) (hq _ q_338) (fun _ h9 => h9) rfl dX3_errorDays_16 ?_
    refine z_iconst hx hb dX3_errorDays_19 ?_
    refine z_iald hx hb hK hP 1 0 rfl rfl (by omega) (by omega) (v := (gOf (S 0) 12 0)) (s_12 _) dX3_errorDays_20 ?_
    refine lv_iload_n hx hb dX3_errorDays_21 rfl (lv_at hl 1 rfl) ?_
    refine z_iadd hx hb dX3_errorDays_22 ?_
    refine z_sipush hx hb dX3_errorDays_23 (by decide +kernel) ?_
    refine z_icmp_le (tgt := 34) hx hb dX3_errorDays_26 (by decide) (by omega) (by omega) (fun c_2 => ?_) (fun c_2 => ?_)
    · refine z_iconst hx hb dX3_errorDays_34 ?_
      refine z_as (show 0 = edV (gOf (S 0)) n from by first | rfl | omega | (unfold edV; omega) | (subst_vars; unfold edV; omega) | (subst_vars; simp [edV])) ?_
      first | exact hret _ _ _ _ dX3_errorDays_35 hP hD hS | (exfalso; omega)
    · refine z_ldc hx hb (-1000003) (by decide +kernel) hown (hq _ q_458) dX3_errorDays_29 ?_
      refine lv_goto (tgt := 35) hx hb dX3_errorDays_31 (by decide) ?_
      refine z_as (show (-1000003) = edV (gOf (S 0)) n from by first | rfl | omega | (unfold edV; omega) | (subst_vars; unfold edV; omega) | (subst_vars; simp [edV])) ?_
      first | exact hret _ _ _ _ dX3_errorDays_35 hP hD hS | (exfalso; omega)
  · refine z_ldc hx hb (-1000001) (by decide +kernel) hown (hq _ q_448) dX3_errorDays_10 ?_
    refine lv_goto (tgt := 35) hx hb dX3_errorDays_12 (by decide) ?_
    refine z_as (show (-1000001) = edV (gOf (S 0)) n from by first | rfl | omega | (unfold edV; omega) | (subst_vars; unfold edV; omega) | (subst_vars; simp [edV])) ?_
    first | exact hret _ _ _ _ dX3_errorDays_35 hP hD hS | (exfalso; omega)
set_option maxHeartbeats 4000000 in
set_option maxRecDepth 100000 in
theorem m_X3_goFail (l : Launch) (D : va_G) (mo : Nat) (am : Nat → Nat) (cI : ClassId) (S : Nat → Int → Int) (r g2 v : Int) (h1 : 0 ≤ r ∧ r < 6) (h2 : 0 ≤ g2 ∧ g2 < 3)  : MW l D yX3_goFail (wsY yX3_goFail cX3_goFail 4 none) { frames := 1, cells := 0, slots := 0, locals := 23 } [(cI, .int)] [.ref mo, .int (iI r), .int (iI g2), .int (iI v)] (wM mo am cI S) (wM mo am cI (lyZ (lyZ S 4 (3 * r + g2) v) 5 (3 * r + g2) 1)) none := by
  refine mw_ofV (cc := cX3_goFail) (maxL := 4) (by decide) rfl (Nat.le_of_ble_eq_true rfl) ?_
  intro p e s m below meth c R A Q args ls hx hb hml hown hts hRf hRl hRc hRs hN hK hP hD hS hA hret hl
  have hq : ∀ w ∈ ALL, w.before args s = true := fun w h => hts w (List.mem_cons_of_mem _ h)
  have hl : lv_has ls 4 [(0, .ref mo), (1, .int (iI r)), (2, .int (iI g2)), (3, .int (iI v))] := hl
  refine lv_aload_n hx hb dX3_goFail_0 rfl (lv_at hl 0 rfl) ?_
  refine lv_iload_n hx hb dX3_goFail_1 rfl (lv_at hl 1 rfl) ?_
  refine z_iconst hx hb dX3_goFail_2 ?_
  refine lv_iload_n hx hb dX3_goFail_3 rfl (lv_at hl 2 rfl) ?_
  refine z_iadd hx hb dX3_goFail_4 ?_
  refine lv_iload_n hx hb dX3_goFail_5 rfl (lv_at hl 3 rfl) ?_
  refine mw_full (st1 := []) (mr_V (As := [.int (iI r), .int (iI (4 + g2)), .int (iI v)]) (rest := []) (ci := 3) (q0 := 0) ⟨hx, hb, hml, hown, hts⟩ (m_X3_lays l D mo am cI S r (4 + g2) v 4 (3 * r + g2) (ix_of4 (r := r) (by omega) (by omega))) (cwV 3 hts (gV q_348 q_349 q_350 q_345 q_339) rfl rfl rfl (by decide +kernel) ⟨Nat.le_trans (m := 1) (Nat.le_of_ble_eq_true rfl) (Nat.le_trans (Nat.le_of_ble_eq_true rfl) hRf), Nat.le_trans (m := 23) (Nat.le_of_ble_eq_true rfl) (Nat.le_trans (Nat.le_of_ble_eq_true rfl) hRl)⟩) hN hK hP hD rfl rfl rfl hl.1 (Nat.le_of_ble_eq_true rfl) ⟨hRc, hRs⟩ dX3_goFail_6) hD hS hA rfl (fun H locs hP hD hS => ?_)
  skip
  refine lv_aload_n hx hb dX3_goFail_9 rfl (lv_at hl 0 rfl) ?_
  refine lv_iload_n hx hb dX3_goFail_10 rfl (lv_at hl 1 rfl) ?_
  refine z_bipush hx hb dX3_goFail_11 (by decide +kernel) ?_
  refine lv_iload_n hx hb dX3_goFail_13 rfl (lv_at hl 2 rfl) ?_
  refine z_iadd hx hb dX3_goFail_14 ?_
  refine z_iconst hx hb dX3_goFail_15 ?_
  refine mw_full (st1 := []) (mr_V (As := [.int (iI r), .int (iI (7 + g2)), .int (iI 1)]) (rest := []) (ci := 3) (q0 := 0) ⟨hx, hb, hml, hown, hts⟩ (m_X3_lays l D mo am cI (lyZ S 4 (3 * r + g2) v) r (7 + g2) 1 5 (3 * r + g2) (ix_of5 (r := r) (by omega) (by omega))) (cwV 3 hts (gV q_348 q_349 q_350 q_345 q_339) rfl rfl rfl (by decide +kernel) ⟨Nat.le_trans (m := 1) (Nat.le_of_ble_eq_true rfl) (Nat.le_trans (Nat.le_of_ble_eq_true rfl) hRf), Nat.le_trans (m := 23) (Nat.le_of_ble_eq_true rfl) (Nat.le_trans (Nat.le_of_ble_eq_true rfl) hRl)⟩) hN hK hP hD rfl rfl rfl hl.1 (Nat.le_of_ble_eq_true rfl) ⟨hRc, hRs⟩ dX3_goFail_16) hD hS hA rfl (fun H locs hP hD hS => ?_)
  skip
  first | exact hret _ _ _ _ dX3_goFail_19 hP hD hS | (exfalso; omega)
set_option maxHeartbeats 4000000 in
set_option maxRecDepth 100000 in
theorem m_X3_nearer (l : Launch) (D : va_G) (mo : Nat) (am : Nat → Nat) (cI : ClassId) (S : Nat → Int → Int) (r c2 : Int) {B : Int} (hI : InvG B (gOf (S 0))) (h1 : 0 ≤ r ∧ r < 6) (h2 : 0 ≤ c2 ∧ c2 < 8)  : MW l D yX3_nearer (wsY yX3_nearer cX3_nearer 5 (some .int)) { frames := 4, cells := 0, slots := 0, locals := 88 } [(cI, .int)] [.ref mo, .int (iI r), .int (iI c2)] (wM mo am cI S) (wM mo am cI S) (some (.int (iI (nrV (gOf (S 0)) r c2)))) := by
  refine mw_ofI (cc := cX3_nearer) (maxL := 5) (by decide) rfl (Nat.le_of_ble_eq_true rfl) ?_
  intro p e s m below meth c R A Q args ls hx hb hml hown hts hRf hRl hRc hRs hN hK hP hD hS hA hret hl
  have hq : ∀ w ∈ ALL, w.before args s = true := fun w h => hts w (List.mem_cons_of_mem _ h)
  have hl : lv_has ls 5 [(0, .ref mo), (1, .int (iI r)), (2, .int (iI c2))] := hl
  refine lv_aload_n hx hb dX3_nearer_0 rfl (lv_at hl 0 rfl) ?_
  refine lv_iload_n hx hb dX3_nearer_1 rfl (lv_at hl 1 rfl) ?_
  refine lv_iload_n hx hb dX3_nearer_2 rfl (lv_at hl 2 rfl) ?_
  refine z_iconst hx hb dX3_nearer_3 ?_
  refine mw_full (st1 := [.int (iI ((gOf (S 0)) 1 (8 * r + c2)))]) (mr_V (As := [.int (iI r), .int (iI c2), .int (iI 1)]) (rest := []) (ci := 3) (q0 := 0) ⟨hx, hb, hml, hown, hts⟩ (m_X3_ofCell l D mo am cI S r c2 1 1 (by omega) (by omega) (by omega)) (cwV 3 hts (gV q_354 q_355 q_356 q_345 q_352) rfl rfl rfl (by decide +kernel) ⟨Nat.le_trans (m := 2) (Nat.le_of_ble_eq_true rfl) (Nat.le_trans (Nat.le_of_ble_eq_true rfl) hRf), Nat.le_trans (m := 45) (Nat.le_of_ble_eq_true rfl) (Nat.le_trans (Nat.le_of_ble_eq_true rfl) hRl)⟩) hN hK hP hD rfl rfl rfl hl.1 (Nat.le_of_ble_eq_true rfl) ⟨hRc, hRs⟩ dX3_nearer_4) hD hS hA rfl (fun H locs hP hD hS => ?_)
  have hf_1 := invG_1 hI (8 * r + c2) (by omega) (by omega)
  refine lv_aload_n hx hb dX3_nearer_7 rfl (lv_at hl 0 rfl) ?_
  refine lv_iload_n hx hb dX3_nearer_8 rfl (lv_at hl 1 rfl) ?_
  refine z_iconst hx hb dX3_nearer_9 ?_
  refine mw_full (st1 := [.int (iI (thrZ (gOf (S 0)) r 0)), .int (iI ((gOf (S 0)) 1 (8 * r + c2)))]) (mr_V (As := [.int (iI r), .int (iI 0)]) (rest := [.int (iI ((gOf (S 0)) 1 (8 * r + c2)))]) (ci := 3) (q0 := 0) ⟨hx, hb, hml, hown, hts⟩ (m_X3_threshold l D mo am cI S r 0 hI (by omega) (by omega)) (cwV 2 hts (gV q_403 q_404 q_405 q_345 q_401) rfl rfl rfl (by decide +kernel) ⟨Nat.le_trans (m := 4) (Nat.le_of_ble_eq_true rfl) (Nat.le_trans (Nat.le_of_ble_eq_true rfl) hRf), Nat.le_trans (m := 88) (Nat.le_of_ble_eq_true rfl) (Nat.le_trans (Nat.le_of_ble_eq_true rfl) hRl)⟩) hN hK hP hD rfl rfl rfl hl.1 (Nat.le_of_ble_eq_true rfl) ⟨hRc, hRs⟩ dX3_nearer_10) hD hS hA rfl (fun H locs hP hD hS => ?_)
  have hf_2 := thrZ_bd hI r 0 (by omega) (by omega)
  refine z_isub hx hb dX3_nearer_13 ?_
  refine mw_none (st1 := [.int (iI (if ((gOf (S 0)) 1 (8 * r + c2) - thrZ (gOf (S 0)) r 0) < 0 then -((gOf (S 0)) 1 (8 * r + c2) - thrZ (gOf (S 0)) r 0) else ((gOf (S 0)) 1 (8 * r + c2) - thrZ (gOf (S 0)) r 0) : Int))]) (mr_S (As := [.int (iI ((gOf (S 0)) 1 (8 * r + c2) - thrZ (gOf (S 0)) r 0))]) (rest := []) ⟨hx, hb, hml, hown, hts⟩ (m_X3_size l D ((gOf (S 0)) 1 (8 * r + c2) - thrZ (gOf (S 0)) r 0) (by omega)) (va_cwS 1 hts (gS q_426 q_427 q_345 q_385) rfl rfl rfl (by decide +kernel) ⟨Nat.le_trans (m := 1) (Nat.le_of_ble_eq_true rfl) (Nat.le_trans (Nat.le_of_ble_eq_true rfl) hRf), Nat.le_trans (m := 20) (Nat.le_of_ble_eq_true rfl) (Nat.le_trans (Nat.le_of_ble_eq_true rfl) hRl)⟩) hN (hK.sub (tys' := []) [] rfl) (va_P0 _ _ _) (va_D0 A) rfl hl.1 (Nat.le_of_ble_eq_true rfl) ⟨hRc, hRs⟩ dX3_nearer_14) hP hS hA rfl (fun H locs hP hS => ?_)
  refine lv_istore_n (lv' := [(3, .int (iI (if ((gOf (S 0)) 1 (8 * r + c2) - thrZ (gOf (S 0)) r 0) < 0 then -((gOf (S 0)) 1 (8 * r + c2) - thrZ (gOf (S 0)) r 0) else ((gOf (S 0)) 1 (8 * r + c2) - thrZ (gOf (S 0)) r 0) : Int))), (0, .ref mo), (1, .int (iI r)), (2, .int (iI c2))]) hx hb dX3_nearer_17 rfl hl (by decide) rfl (fun ls hl => ?_)
  refine lv_aload_n hx hb dX3_nearer_18 rfl (lv_at hl 1 rfl) ?_
  refine lv_iload_n hx hb dX3_nearer_19 rfl (lv_at hl 2 rfl) ?_
  refine lv_iload_n hx hb dX3_nearer_20 rfl (lv_at hl 3 rfl) ?_
  refine z_iconst hx hb dX3_nearer_21 ?_
  refine mw_full (st1 := [.int (iI ((gOf (S 0)) 1 (8 * r + c2)))]) (mr_V (As := [.int (iI r), .int (iI c2), .int (iI 1)]) (rest := []) (ci := 3) (q0 := 0) ⟨hx, hb, hml, hown, hts⟩ (m_X3_ofCell l D mo am cI S r c2 1 1 (by omega) (by omega) (by omega)) (cwV 3 hts (gV q_354 q_355 q_356 q_345 q_352) rfl rfl rfl (by decide +kernel) ⟨Nat.le_trans (m := 2) (Nat.le_of_ble_eq_true rfl) (Nat.le_trans (Nat.le_of_ble_eq_true rfl) hRf), Nat.le_trans (m := 45) (Nat.le_of_ble_eq_true rfl) (Nat.le_trans (Nat.le_of_ble_eq_true rfl) hRl)⟩) hN hK hP hD rfl rfl rfl hl.1 (Nat.le_of_ble_eq_true rfl) ⟨hRc, hRs⟩ dX3_nearer_22) hD hS hA rfl (fun H locs hP hD hS => ?_)
  have hf_3 := invG_1 hI (8 * r + c2) (by omega) (by omega)
  refine lv_aload_n hx hb dX3_nearer_25 rfl (lv_at hl 1 rfl) ?_
  refine lv_iload_n hx hb dX3_nearer_26 rfl (lv_at hl 2 rfl) ?_
  refine z_iconst hx hb dX3_nearer_27 ?_
  refine mw_full (st1 := [.int (iI (thrZ (gOf (S 0)) r 1)), .int (iI ((gOf (S 0)) 1 (8 * r + c2)))]) (mr_V (As := [.int (iI r), .int (iI 1)]) (rest := [.int (iI ((gOf (S 0)) 1 (8 * r + c2)))]) (ci := 3) (q0 := 0) ⟨hx, hb, hml, hown, hts⟩ (m_X3_threshold l D mo am cI S r 1 hI (by omega) (by omega)) (cwV 2 hts (gV q_403 q_404 q_405 q_345 q_401) rfl rfl rfl (by decide +kernel) ⟨Nat.le_trans (m := 4) (Nat.le_of_ble_eq_true rfl) (Nat.le_trans (Nat.le_of_ble_eq_true rfl) hRf), Nat.le_trans (m := 88) (Nat.le_of_ble_eq_true rfl) (Nat.le_trans (Nat.le_of_ble_eq_true rfl) hRl)⟩) hN hK hP hD rfl rfl rfl hl.1 (Nat.le_of_ble_eq_true rfl) ⟨hRc, hRs⟩ dX3_nearer_28) hD hS hA rfl (fun H locs hP hD hS => ?_)
  have hf_4 := thrZ_bd hI r 1 (by omega) (by omega)
  refine z_isub hx hb dX3_nearer_31 ?_
  refine mw_none (st1 := [.int (iI (if ((gOf (S 0)) 1 (8 * r + c2) - thrZ (gOf (S 0)) r 1) < 0 then -((gOf (S 0)) 1 (8 * r + c2) - thrZ (gOf (S 0)) r 1) else ((gOf (S 0)) 1 (8 * r + c2) - thrZ (gOf (S 0)) r 1) : Int))]) (mr_S (As := [.int (iI ((gOf (S 0)) 1 (8 * r + c2) - thrZ (gOf (S 0)) r 1))]) (rest := []) ⟨hx, hb, hml, hown, hts⟩ (m_X3_size l D ((gOf (S 0)) 1 (8 * r + c2) - thrZ (gOf (S 0)) r 1) (by omega)) (va_cwS 1 hts (gS q_426 q_427 q_345 q_385) rfl rfl rfl (by decide +kernel) ⟨Nat.le_trans (m := 1) (Nat.le_of_ble_eq_true rfl) (Nat.le_trans (Nat.le_of_ble_eq_true rfl) hRf), Nat.le_trans (m := 20) (Nat.le_of_ble_eq_true rfl) (Nat.le_trans (Nat.le_of_ble_eq_true rfl) hRl)⟩) hN (hK.sub (tys' := []) [] rfl) (va_P0 _ _ _) (va_D0 A) rfl hl.1 (Nat.le_of_ble_eq_true rfl) ⟨hRc, hRs⟩ dX3_nearer_32) hP hS hA rfl (fun H locs hP hS => ?_)
  refine lv_istore (lv' := [(4, .int (iI (if ((gOf (S 0)) 1 (8 * r + c2) - thrZ (gOf (S 0)) r 1) < 0 then -((gOf (S 0)) 1 (8 * r + c2) - thrZ (gOf (S 0)) r 1) else ((gOf (S 0)) 1 (8 * r + c2) - thrZ (gOf (S 0)) r 1) : Int))), (3, .int (iI (if ((gOf (S 0)) 1 (8 * r + c2) - thrZ (gOf (S 0)) r 0) < 0 then -((gOf (S 0)) 1 (8 * r + c2) - thrZ (gOf (S 0)) r 0) else ((gOf (S 0)) 1 (8 * r + c2) - thrZ (gOf (S 0)) r 0) : Int))), (0, .ref mo), (1, .int (iI r)), (2, .int (iI c2))]) hx hb dX3_nearer_35 hl (by decide) rfl (fun ls hl => ?_)
  refine lv_iload_n hx hb dX3_nearer_37 rfl (lv_at hl 1 rfl) ?_
  refine lv_iload hx hb dX3_nearer_38 (lv_at hl 0 rfl) ?_
  refine z_icmp_ge (tgt := 47) hx hb dX3_nearer_40 (by decide) (by omega) (by omega) (fun c_5 => ?_) (fun c_5 => ?_)
  · refine lv_iload hx hb dX3_nearer_47 (lv_at hl 0 rfl) ?_
    refine z_as (show (if ((gOf (S 0)) 1 (8 * r + c2) - thrZ (gOf (S 0)) r 1) < 0 then -((gOf (S 0)) 1 (8 * r + c2) - thrZ (gOf (S 0)) r 1) else ((gOf (S 0)) 1 (8 * r + c2) - thrZ (gOf (S 0)) r 1) : Int) = nrV (gOf (S 0)) r c2 from by first | rfl | omega | (unfold nrV; omega) | (subst_vars; unfold nrV; omega) | (subst_vars; simp [nrV])) ?_
    first | exact hret _ _ _ _ dX3_nearer_49 hP hD hS | (exfalso; omega)
  · refine lv_iload_n hx hb dX3_nearer_43 rfl (lv_at hl 1 rfl) ?_
    refine lv_goto (tgt := 49) hx hb dX3_nearer_44 (by decide) ?_
    refine z_as (show (if ((gOf (S 0)) 1 (8 * r + c2) - thrZ (gOf (S 0)) r 0) < 0 then -((gOf (S 0)) 1 (8 * r + c2) - thrZ (gOf (S 0)) r 0) else ((gOf (S 0)) 1 (8 * r + c2) - thrZ (gOf (S 0)) r 0) : Int) = nrV (gOf (S 0)) r c2 from by first | rfl | omega | (unfold nrV; omega) | (subst_vars; unfold nrV; omega) | (subst_vars; simp [nrV])) ?_
    first | exact hret _ _ _ _ dX3_nearer_49 hP hD hS | (exfalso; omega)
set_option maxHeartbeats 4000000 in
set_option maxRecDepth 100000 in
theorem m_X3_cell (l : Launch) (D : va_G) (mo : Nat) (am : Nat → Nat) (cI : ClassId) (S : Nat → Int → Int) (r c2 w : Int) {B : Int} (hI : InvG B (gOf (S 0))) (h1 : 0 ≤ r ∧ r < 6) (h2 : 0 ≤ c2 ∧ c2 < 8) (h3 : -2147483648 ≤ w ∧ w < 2147483648)  : MW l D yX3_cell (wsY yX3_cell cX3_cell 5 (some .int)) { frames := 5, cells := 0, slots := 0, locals := 112 } [(cI, .int)] [.ref mo, .int (iI r), .int (iI c2), .int (iI w)] (wM mo am cI S) (wM mo am cI S) (some (.int (iI (cellV (gOf (S 0)) r c2 w)))) := by
  refine mw_ofI (cc := cX3_cell) (maxL := 5) (by decide) rfl (Nat.le_of_ble_eq_true rfl) ?_
  intro p e s m below meth c R A Q args ls hx hb hml hown hts hRf hRl hRc hRs hN hK hP hD hS hA hret hl
  have hq : ∀ w ∈ ALL, w.before args s = true := fun w h => hts w (List.mem_cons_of_mem _ h)
  have hl : lv_has ls 5 [(0, .ref mo), (1, .int (iI r)), (2, .int (iI c2)), (3, .int (iI w))] := hl
  refine lv_iload_n hx hb dX3_cell_0 rfl (lv_at hl 1 rfl) ?_
  refine mw_none (st1 := [.int (iI (if 0 ≤ r ∧ r ≤ 5 then 1 else 0 : Int))]) (mr_S (As := [.int (iI r)]) (rest := []) ⟨hx, hb, hml, hown, hts⟩ (m_X3_isRow l D r (by omega)) (va_cwS 1 hts (gS q_388 q_389 q_345 q_382) rfl rfl rfl (by decide +kernel) ⟨Nat.le_trans (m := 2) (Nat.le_of_ble_eq_true rfl) (Nat.le_trans (Nat.le_of_ble_eq_true rfl) hRf), Nat.le_trans (m := 42) (Nat.le_of_ble_eq_true rfl) (Nat.le_trans (Nat.le_of_ble_eq_true rfl) hRl)⟩) hN (hK.sub (tys' := []) [] rfl) (va_P0 _ _ _) (va_D0 A) rfl hl.1 (Nat.le_of_ble_eq_true rfl) ⟨hRc, hRs⟩ dX3_cell_1) hP hS hA rfl (fun H locs hP hS => ?_)
  refine z_if_eq (tgt := 14) hx hb dX3_cell_4 (by decide) (by omega) (fun c_1 => ?_) (fun c_1 => ?_)
  · refine z_ldc hx hb (-1000001) (by decide +kernel) hown (hq _ q_448) dX3_cell_14 ?_
    refine z_as (show (-1000001) = cellV (gOf (S 0)) r c2 w from by first | rfl | omega | (unfold cellV; omega) | (unfold cellV nrV; omega)) ?_
    first | exact hret _ _ _ _ dX3_cell_16 hP hD hS | (exfalso; omega)
  · refine lv_iload_n hx hb dX3_cell_7 rfl (lv_at hl 2 rfl) ?_
    refine mw_none (st1 := [.int (iI (if 0 ≤ c2 ∧ c2 ≤ 7 then 1 else 0 : Int))]) (mr_S (As := [.int (iI c2)]) (rest := []) ⟨hx, hb, hml, hown, hts⟩ (m_X3_isCell l D c2 (by omega)) (va_cwS 1 hts (gS q_449 q_450 q_345 q_383) rfl rfl rfl (by decide +kernel) ⟨Nat.le_trans (m := 2) (Nat.le_of_ble_eq_true rfl) (Nat.le_trans (Nat.le_of_ble_eq_true rfl) hRf), Nat.le_trans (m := 42) (Nat.le_of_ble_eq_true rfl) (Nat.le_trans (Nat.le_of_ble_eq_true rfl) hRl)⟩) hN (hK.sub (tys' := []) [] rfl) (va_P0 _ _ _) (va_D0 A) rfl hl.1 (Nat.le_of_ble_eq_true rfl) ⟨hRc, hRs⟩ dX3_cell_8) hP hS hA rfl (fun H locs hP hS => ?_)
    refine z_if_ne (tgt := 17) hx hb dX3_cell_11 (by decide) (by omega) (fun c_2 => ?_) (fun c_2 => ?_)
    · refine lv_aload_n hx hb dX3_cell_17 rfl (lv_at hl 0 rfl) ?_
      refine lv_iload_n hx hb dX3_cell_18 rfl (lv_at hl 1 rfl) ?_
      refine lv_iload_n hx hb dX3_cell_19 rfl (lv_at hl 2 rfl) ?_
      refine z_iconst hx hb dX3_cell_20 ?_
      refine mw_full (st1 := [.int (iI ((gOf (S 0)) 1 (8 * r + c2)))]) (mr_V (As := [.int (iI r), .int (iI c2), .int (iI 1)]) (rest := []) (ci := 3) (q0 := 0) ⟨hx, hb, hml, hown, hts⟩ (m_X3_ofCell l D mo am cI S r c2 1 1 (by omega) (by omega) (by omega)) (cwV 3 hts (gV q_354 q_355 q_356 q_345 q_352) rfl rfl rfl (by decide +kernel) ⟨Nat.le_trans (m := 2) (Nat.le_of_ble_eq_true rfl) (Nat.le_trans (Nat.le_of_ble_eq_true rfl) hRf), Nat.le_trans (m := 45) (Nat.le_of_ble_eq_true rfl) (Nat.le_trans (Nat.le_of_ble_eq_true rfl) hRl)⟩) hN hK hP hD rfl rfl rfl hl.1 (Nat.le_of_ble_eq_true rfl) ⟨hRc, hRs⟩ dX3_cell_21) hD hS hA rfl (fun H locs hP hD hS => ?_)
      have hf_3 := invG_1 hI (8 * r + c2) (by omega) (by omega)
      refine lv_istore (lv' := [(4, .int (iI ((gOf (S 0)) 1 (8 * r + c2)))), (0, .ref mo), (1, .int (iI r)), (2, .int (iI c2)), (3, .int (iI w))]) hx hb dX3_cell_24 hl (by decide) rfl (fun ls hl => ?_)
      refine lv_iload_n hx hb dX3_cell_26 rfl (lv_at hl 4 rfl) ?_
      rcases z_tab w 0 7 with c_4 | c_4
      · refine lv_tableOut (tgt := 150) hx hb dX3_cell_27 (by rw [iI_t (by omega)]; exact c_4) (by decide) ?_
        refine z_ldc hx hb (-1000001) (by decide +kernel) hown (hq _ q_448) dX3_cell_150 ?_
        refine z_as (show (-1000001) = cellV (gOf (S 0)) r c2 w from by first | rfl | omega | (unfold cellV; omega) | (unfold cellV nrV; omega)) ?_
        first | exact hret _ _ _ _ dX3_cell_152 hP hD hS | (exfalso; omega)
      · have c_5 : w = 0 ∨ w = 1 ∨ w = 2 ∨ w = 3 ∨ w = 4 ∨ w = 5 ∨ w = 6 ∨ w = 7 := by omega
        rcases c_5 with c_5 | c_5 | c_5 | c_5 | c_5 | c_5 | c_5 | c_5
        · refine lv_tableIn (tgt := 72) (off := 45) hx hb dX3_cell_27 (by rw [iI_t (by omega)]; omega) (by rw [iI_t (by omega)]; omega) (by rw [iI_t (by omega), c_5]; rfl) (by decide) ?_
          refine lv_aload_n hx hb dX3_cell_72 rfl (lv_at hl 1 rfl) ?_
          refine lv_iload_n hx hb dX3_cell_73 rfl (lv_at hl 2 rfl) ?_
          refine lv_iload_n hx hb dX3_cell_74 rfl (lv_at hl 3 rfl) ?_
          refine z_iconst hx hb dX3_cell_75 ?_
          refine mw_full (st1 := [.int (iI ((gOf (S 0)) 0 (8 * r + c2)))]) (mr_V (As := [.int (iI r), .int (iI c2), .int (iI 0)]) (rest := []) (ci := 3) (q0 := 0) ⟨hx, hb, hml, hown, hts⟩ (m_X3_ofCell l D mo am cI S r c2 0 0 (by omega) (by omega) (by omega)) (cwV 3 hts (gV q_354 q_355 q_356 q_345 q_352) rfl rfl rfl (by decide +kernel) ⟨Nat.le_trans (m := 2) (Nat.le_of_ble_eq_true rfl) (Nat.le_trans (Nat.le_of_ble_eq_true rfl) hRf), Nat.le_trans (m := 45) (Nat.le_of_ble_eq_true rfl) (Nat.le_trans (Nat.le_of_ble_eq_true rfl) hRl)⟩) hN hK hP hD rfl rfl rfl hl.1 (Nat.le_of_ble_eq_true rfl) ⟨hRc, hRs⟩ dX3_cell_76) hD hS hA rfl (fun H locs hP hD hS => ?_)
          have hf_6 := invG_0 hI (8 * r + c2) (by omega) (by omega)
          refine z_as (show (gOf (S 0)) 0 (8 * r + c2) = cellV (gOf (S 0)) r c2 w from by first | rfl | omega | (unfold cellV; omega) | (unfold cellV nrV; omega)) ?_
          first | exact hret _ _ _ _ dX3_cell_79 hP hD hS | (exfalso; omega)
        · refine lv_tableIn (tgt := 80) (off := 53) hx hb dX3_cell_27 (by rw [iI_t (by omega)]; omega) (by rw [iI_t (by omega)]; omega) (by rw [iI_t (by omega), c_5]; rfl) (by decide) ?_
          refine lv_iload hx hb dX3_cell_80 (lv_at hl 0 rfl) ?_
          refine z_as (show (gOf (S 0)) 1 (8 * r + c2) = cellV (gOf (S 0)) r c2 w from by first | rfl | omega | (unfold cellV; omega) | (unfold cellV nrV; omega)) ?_
          first | exact hret _ _ _ _ dX3_cell_82 hP hD hS | (exfalso; omega)
        · refine lv_tableIn (tgt := 83) (off := 56) hx hb dX3_cell_27 (by rw [iI_t (by omega)]; omega) (by rw [iI_t (by omega)]; omega) (by rw [iI_t (by omega), c_5]; rfl) (by decide) ?_
          refine lv_aload_n hx hb dX3_cell_83 rfl (lv_at hl 1 rfl) ?_
          refine lv_iload_n hx hb dX3_cell_84 rfl (lv_at hl 2 rfl) ?_
          refine lv_iload_n hx hb dX3_cell_85 rfl (lv_at hl 3 rfl) ?_
          refine mw_full (st1 := [.int (iI (tellZ ((gOf (S 0)) 1 (8 * r + c2)) (thrZ (gOf (S 0)) r 0) (thrZ (gOf (S 0)) r 1)))]) (mr_V (As := [.int (iI r), .int (iI c2)]) (rest := []) (ci := 3) (q0 := 0) ⟨hx, hb, hml, hown, hts⟩ (m_X3_told l D mo am cI S r c2 hI (by omega) (by omega)) (cwV 2 hts (gV q_409 q_410 q_411 q_345 q_408) rfl rfl rfl (by decide +kernel) ⟨Nat.le_trans (m := 5) (Nat.le_of_ble_eq_true rfl) (Nat.le_trans (Nat.le_of_ble_eq_true rfl) hRf), Nat.le_trans (m := 110) (Nat.le_of_ble_eq_true rfl) (Nat.le_trans (Nat.le_of_ble_eq_true rfl) hRl)⟩) hN hK hP hD rfl rfl rfl hl.1 (Nat.le_of_ble_eq_true rfl) ⟨hRc, hRs⟩ dX3_cell_86) hD hS hA rfl (fun H locs hP hD hS => ?_)
          have hf_7 := tellZ_01 ((gOf (S 0)) 1 (8 * r + c2)) (thrZ (gOf (S 0)) r 0) (thrZ (gOf (S 0)) r 1)
          refine z_as (show tellZ ((gOf (S 0)) 1 (8 * r + c2)) (thrZ (gOf (S 0)) r 0) (thrZ (gOf (S 0)) r 1) = cellV (gOf (S 0)) r c2 w from by first | rfl | omega | (unfold cellV; omega) | (unfold cellV nrV; omega)) ?_
          first | exact hret _ _ _ _ dX3_cell_89 hP hD hS | (exfalso; omega)
        · refine lv_tableIn (tgt := 90) (off := 63) hx hb dX3_cell_27 (by rw [iI_t (by omega)]; omega) (by rw [iI_t (by omega)]; omega) (by rw [iI_t (by omega), c_5]; rfl) (by decide) ?_
          refine lv_iload hx hb dX3_cell_90 (lv_at hl 0 rfl) ?_
          refine lv_aload_n hx hb dX3_cell_92 rfl (lv_at hl 1 rfl) ?_
          refine lv_iload_n hx hb dX3_cell_93 rfl (lv_at hl 2 rfl) ?_
          refine z_iconst hx hb dX3_cell_94 ?_
          refine mw_full (st1 := [.int (iI (ownZ (gOf (S 0)) r 0)), .int (iI ((gOf (S 0)) 1 (8 * r + c2)))]) (mr_V (As := [.int (iI r), .int (iI 0)]) (rest := [.int (iI ((gOf (S 0)) 1 (8 * r + c2)))]) (ci := 3) (q0 := 0) ⟨hx, hb, hml, hown, hts⟩ (m_X3_own l D mo am cI S r 0 hI (by omega) (by omega)) (cwV 2 hts (gV q_398 q_399 q_400 q_345 q_386) rfl rfl rfl (by decide +kernel) ⟨Nat.le_trans (m := 2) (Nat.le_of_ble_eq_true rfl) (Nat.le_trans (Nat.le_of_ble_eq_true rfl) hRf), Nat.le_trans (m := 44) (Nat.le_of_ble_eq_true rfl) (Nat.le_trans (Nat.le_of_ble_eq_true rfl) hRl)⟩) hN hK hP hD rfl rfl rfl hl.1 (Nat.le_of_ble_eq_true rfl) ⟨hRc, hRs⟩ dX3_cell_95) hD hS hA rfl (fun H locs hP hD hS => ?_)
          have hf_8 := ownZ_bd hI r 0 (by omega) (by omega)
          refine lv_aload_n hx hb dX3_cell_98 rfl (lv_at hl 1 rfl) ?_
          refine lv_iload_n hx hb dX3_cell_99 rfl (lv_at hl 2 rfl) ?_
          refine z_iconst hx hb dX3_cell_100 ?_
          refine mw_full (st1 := [.int (iI (ownZ (gOf (S 0)) r 1)), .int (iI (ownZ (gOf (S 0)) r 0)), .int (iI ((gOf (S 0)) 1 (8 * r + c2)))]) (mr_V (As := [.int (iI r), .int (iI 1)]) (rest := [.int (iI (ownZ (gOf (S 0)) r 0)), .int (iI ((gOf (S 0)) 1 (8 * r + c2)))]) (ci := 3) (q0 := 0) ⟨hx, hb, hml, hown, hts⟩ (m_X3_own l D mo am cI S r 1 hI (by omega) (by omega)) (cwV 2 hts (gV q_398 q_399 q_400 q_345 q_386) rfl rfl rfl (by decide +kernel) ⟨Nat.le_trans (m := 2) (Nat.le_of_ble_eq_true rfl) (Nat.le_trans (Nat.le_of_ble_eq_true rfl) hRf), Nat.le_trans (m := 44) (Nat.le_of_ble_eq_true rfl) (Nat.le_trans (Nat.le_of_ble_eq_true rfl) hRl)⟩) hN hK hP hD rfl rfl rfl hl.1 (Nat.le_of_ble_eq_true rfl) ⟨hRc, hRs⟩ dX3_cell_101) hD hS hA rfl (fun H locs hP hD hS => ?_)
          have hf_9 := ownZ_bd hI r 1 (by omega) (by omega)
          refine mw_none (st1 := [.int (iI (tellZ ((gOf (S 0)) 1 (8 * r + c2)) (ownZ (gOf (S 0)) r 0) (ownZ (gOf (S 0)) r 1)))]) (mr_S (As := [.int (iI ((gOf (S 0)) 1 (8 * r + c2))), .int (iI (ownZ (gOf (S 0)) r 0)), .int (iI (ownZ (gOf (S 0)) r 1))]) (rest := []) ⟨hx, hb, hml, hown, hts⟩ (m_X3_by l D ((gOf (S 0)) 1 (8 * r + c2)) (ownZ (gOf (S 0)) r 0) (ownZ (gOf (S 0)) r 1) (by omega) (by omega) (by omega)) (va_cwS 3 hts (gS q_406 q_407 q_345 q_402) rfl rfl rfl (by decide +kernel) ⟨Nat.le_trans (m := 1) (Nat.le_of_ble_eq_true rfl) (Nat.le_trans (Nat.le_of_ble_eq_true rfl) hRf), Nat.le_trans (m := 22) (Nat.le_of_ble_eq_true rfl) (Nat.le_trans (Nat.le_of_ble_eq_true rfl) hRl)⟩) hN (hK.sub (tys' := []) [] rfl) (va_P0 _ _ _) (va_D0 A) rfl hl.1 (Nat.le_of_ble_eq_true rfl) ⟨hRc, hRs⟩ dX3_cell_104) hP hS hA rfl (fun H locs hP hS => ?_)
          have hf_10 := tellZ_01 ((gOf (S 0)) 1 (8 * r + c2)) (ownZ (gOf (S 0)) r 0) (ownZ (gOf (S 0)) r 1)
          refine z_as (show tellZ ((gOf (S 0)) 1 (8 * r + c2)) (ownZ (gOf (S 0)) r 0) (ownZ (gOf (S 0)) r 1) = cellV (gOf (S 0)) r c2 w from by first | rfl | omega | (unfold cellV; omega) | (unfold cellV nrV; omega)) ?_
          first | exact hret _ _ _ _ dX3_cell_107 hP hD hS | (exfalso; omega)
        · refine lv_tableIn (tgt := 108) (off := 81) hx hb dX3_cell_27 (by rw [iI_t (by omega)]; omega) (by rw [iI_t (by omega)]; omega) (by rw [iI_t (by omega), c_5]; rfl) (by decide) ?_
          refine lv_iload hx hb dX3_cell_108 (lv_at hl 0 rfl) ?_
          refine z_sipush hx hb dX3_cell_110 (by decide +kernel) ?_
          refine z_sipush hx hb dX3_cell_113 (by decide +kernel) ?_
          refine mw_none (st1 := [.int (iI (tellZ ((gOf (S 0)) 1 (8 * r + c2)) 300 700))]) (mr_S (As := [.int (iI ((gOf (S 0)) 1 (8 * r + c2))), .int (iI 300), .int (iI 700)]) (rest := []) ⟨hx, hb, hml, hown, hts⟩ (m_X3_by l D ((gOf (S 0)) 1 (8 * r + c2)) 300 700 (by omega) (by omega) (by omega)) (va_cwS 3 hts (gS q_406 q_407 q_345 q_402) rfl rfl rfl (by decide +kernel) ⟨Nat.le_trans (m := 1) (Nat.le_of_ble_eq_true rfl) (Nat.le_trans (Nat.le_of_ble_eq_true rfl) hRf), Nat.le_trans (m := 22) (Nat.le_of_ble_eq_true rfl) (Nat.le_trans (Nat.le_of_ble_eq_true rfl) hRl)⟩) hN (hK.sub (tys' := []) [] rfl) (va_P0 _ _ _) (va_D0 A) rfl hl.1 (Nat.le_of_ble_eq_true rfl) ⟨hRc, hRs⟩ dX3_cell_116) hP hS hA rfl (fun H locs hP hS => ?_)
          have hf_11 := tellZ_01 ((gOf (S 0)) 1 (8 * r + c2)) 300 700
          refine z_as (show tellZ ((gOf (S 0)) 1 (8 * r + c2)) 300 700 = cellV (gOf (S 0)) r c2 w from by first | rfl | omega | (unfold cellV; omega) | (unfold cellV nrV; omega)) ?_
          first | exact hret _ _ _ _ dX3_cell_119 hP hD hS | (exfalso; omega)
        · refine lv_tableIn (tgt := 120) (off := 93) hx hb dX3_cell_27 (by rw [iI_t (by omega)]; omega) (by rw [iI_t (by omega)]; omega) (by rw [iI_t (by omega), c_5]; rfl) (by decide) ?_
          refine lv_aload_n hx hb dX3_cell_120 rfl (lv_at hl 1 rfl) ?_
          refine lv_iload_n hx hb dX3_cell_121 rfl (lv_at hl 2 rfl) ?_
          refine lv_iload_n hx hb dX3_cell_122 rfl (lv_at hl 3 rfl) ?_
          refine z_iconst hx hb dX3_cell_123 ?_
          refine mw_full (st1 := [.int (iI ((gOf (S 0)) 2 (8 * r + c2)))]) (mr_V (As := [.int (iI r), .int (iI c2), .int (iI 2)]) (rest := []) (ci := 3) (q0 := 0) ⟨hx, hb, hml, hown, hts⟩ (m_X3_ofCell l D mo am cI S r c2 2 2 (by omega) (by omega) (by omega)) (cwV 3 hts (gV q_354 q_355 q_356 q_345 q_352) rfl rfl rfl (by decide +kernel) ⟨Nat.le_trans (m := 2) (Nat.le_of_ble_eq_true rfl) (Nat.le_trans (Nat.le_of_ble_eq_true rfl) hRf), Nat.le_trans (m := 45) (Nat.le_of_ble_eq_true rfl) (Nat.le_trans (Nat.le_of_ble_eq_true rfl) hRl)⟩) hN hK hP hD rfl rfl rfl hl.1 (Nat.le_of_ble_eq_true rfl) ⟨hRc, hRs⟩ dX3_cell_124) hD hS hA rfl (fun H locs hP hD hS => ?_)
          have hf_12 := invG_2 hI (8 * r + c2) (by omega) (by omega)
          refine z_as (show (gOf (S 0)) 2 (8 * r + c2) = cellV (gOf (S 0)) r c2 w from by first | rfl | omega | (unfold cellV; omega) | (unfold cellV nrV; omega)) ?_
          first | exact hret _ _ _ _ dX3_cell_127 hP hD hS | (exfalso; omega)
        · refine lv_tableIn (tgt := 128) (off := 101) hx hb dX3_cell_27 (by rw [iI_t (by omega)]; omega) (by rw [iI_t (by omega)]; omega) (by rw [iI_t (by omega), c_5]; rfl) (by decide) ?_
          refine lv_aload_n hx hb dX3_cell_128 rfl (lv_at hl 1 rfl) ?_
          refine lv_iload_n hx hb dX3_cell_129 rfl (lv_at hl 2 rfl) ?_
          refine lv_iload_n hx hb dX3_cell_130 rfl (lv_at hl 3 rfl) ?_
          refine mw_full (st1 := [.int (iI (nrV (gOf (S 0)) r c2))]) (mr_V (As := [.int (iI r), .int (iI c2)]) (rest := []) (ci := 3) (q0 := 0) ⟨hx, hb, hml, hown, hts⟩ (m_X3_nearer l D mo am cI S r c2 hI (by omega) (by omega)) (cwV 2 hts (gV q_494 q_495 q_496 q_345 q_493) rfl rfl rfl (by decide +kernel) ⟨Nat.le_trans (m := 5) (Nat.le_of_ble_eq_true rfl) (Nat.le_trans (Nat.le_of_ble_eq_true rfl) hRf), Nat.le_trans (m := 112) (Nat.le_of_ble_eq_true rfl) (Nat.le_trans (Nat.le_of_ble_eq_true rfl) hRl)⟩) hN hK hP hD rfl rfl rfl hl.1 (Nat.le_of_ble_eq_true rfl) ⟨hRc, hRs⟩ dX3_cell_131) hD hS hA rfl (fun H locs hP hD hS => ?_)
          refine z_as (show nrV (gOf (S 0)) r c2 = cellV (gOf (S 0)) r c2 w from by first | rfl | omega | (unfold cellV; omega) | (unfold cellV nrV; omega)) ?_
          first | exact hret _ _ _ _ dX3_cell_134 hP hD hS | (exfalso; omega)
        · refine lv_tableIn (tgt := 135) (off := 108) hx hb dX3_cell_27 (by rw [iI_t (by omega)]; omega) (by rw [iI_t (by omega)]; omega) (by rw [iI_t (by omega), c_5]; rfl) (by decide) ?_
          refine lv_aload_n hx hb dX3_cell_135 rfl (lv_at hl 1 rfl) ?_
          refine va_get (D := D) (ci := 3) (v := .ref (am 0)) (C := RX3) (T := TX3) (N := 14) hx hb hq inA3 hown hK hP 0 rfl rfl 0 (by decide) (hq _ q_338) (fun _ h9 => h9) rfl dX3_cell_136 ?_
          refine z_iconst hx hb dX3_cell_139 ?_
          refine z_iald hx hb hK hP 1 0 rfl rfl (by omega) (by omega) (v := (gOf (S 0) 12 0)) (s_12 _) dX3_cell_140 ?_
          refine lv_aload_n hx hb dX3_cell_141 rfl (lv_at hl 1 rfl) ?_
          refine lv_iload_n hx hb dX3_cell_142 rfl (lv_at hl 2 rfl) ?_
          refine lv_iload_n hx hb dX3_cell_143 rfl (lv_at hl 3 rfl) ?_
          refine z_iconst hx hb dX3_cell_144 ?_
          refine mw_full (st1 := [.int (iI ((gOf (S 0)) 3 (8 * r + c2))), .int (iI (gOf (S 0) 12 0))]) (mr_V (As := [.int (iI r), .int (iI c2), .int (iI 3)]) (rest := [.int (iI (gOf (S 0) 12 0))]) (ci := 3) (q0 := 0) ⟨hx, hb, hml, hown, hts⟩ (m_X3_ofCell l D mo am cI S r c2 3 3 (by omega) (by omega) (by omega)) (cwV 3 hts (gV q_354 q_355 q_356 q_345 q_352) rfl rfl rfl (by decide +kernel) ⟨Nat.le_trans (m := 2) (Nat.le_of_ble_eq_true rfl) (Nat.le_trans (Nat.le_of_ble_eq_true rfl) hRf), Nat.le_trans (m := 45) (Nat.le_of_ble_eq_true rfl) (Nat.le_trans (Nat.le_of_ble_eq_true rfl) hRl)⟩) hN hK hP hD rfl rfl rfl hl.1 (Nat.le_of_ble_eq_true rfl) ⟨hRc, hRs⟩ dX3_cell_145) hD hS hA rfl (fun H locs hP hD hS => ?_)
          have hf_13 := invG_3 hI (8 * r + c2) (by omega) (by omega)
          refine z_isub hx hb dX3_cell_148 ?_
          refine z_as (show ((gOf (S 0) 12 0) - (gOf (S 0)) 3 (8 * r + c2)) = cellV (gOf (S 0)) r c2 w from by first | rfl | omega | (unfold cellV; omega) | (unfold cellV nrV; omega)) ?_
          first | exact hret _ _ _ _ dX3_cell_149 hP hD hS | (exfalso; omega)
    · refine z_ldc hx hb (-1000001) (by decide +kernel) hown (hq _ q_448) dX3_cell_14 ?_
      refine z_as (show (-1000001) = cellV (gOf (S 0)) r c2 w from by first | rfl | omega | (unfold cellV; omega) | (unfold cellV nrV; omega)) ?_
      first | exact hret _ _ _ _ dX3_cell_16 hP hD hS | (exfalso; omega)
set_option maxHeartbeats 4000000 in
set_option maxRecDepth 100000 in
theorem m_X3_cell_bad (l : Launch) (D : va_G) (mo : Nat) (am : Nat → Nat) (cI : ClassId) (S : Nat → Int → Int) (r c2 w : Int) (h1 : -2147483648 ≤ r ∧ r < 2147483648) (h2 : -2147483648 ≤ c2 ∧ c2 < 2147483648) (hb0 : r < 0 ∨ 5 < r ∨ c2 < 0 ∨ 7 < c2)  : MW l D yX3_cell (wsY yX3_cell cX3_cell 5 (some .int)) { frames := 2, cells := 0, slots := 0, locals := 42 } [(cI, .int)] [.ref mo, .int (iI r), .int (iI c2), .int (iI w)] (wM mo am cI S) (wM mo am cI S) (some (.int (iI (-1000001)))) := by
  refine mw_ofI (cc := cX3_cell) (maxL := 5) (by decide) rfl (Nat.le_of_ble_eq_true rfl) ?_
  intro p e s m below meth c R A Q args ls hx hb hml hown hts hRf hRl hRc hRs hN hK hP hD hS hA hret hl
  have hq : ∀ w ∈ ALL, w.before args s = true := fun w h => hts w (List.mem_cons_of_mem _ h)
  have hl : lv_has ls 5 [(0, .ref mo), (1, .int (iI r)), (2, .int (iI c2)), (3, .int (iI w))] := hl
  refine lv_iload_n hx hb dX3_cell_0 rfl (lv_at hl 1 rfl) ?_
  refine mw_none (st1 := [.int (iI (if 0 ≤ r ∧ r ≤ 5 then 1 else 0 : Int))]) (mr_S (As := [.int (iI r)]) (rest := []) ⟨hx, hb, hml, hown, hts⟩ (m_X3_isRow l D r (by omega)) (va_cwS 1 hts (gS q_388 q_389 q_345 q_382) rfl rfl rfl (by decide +kernel) ⟨Nat.le_trans (m := 2) (Nat.le_of_ble_eq_true rfl) (Nat.le_trans (Nat.le_of_ble_eq_true rfl) hRf), Nat.le_trans (m := 42) (Nat.le_of_ble_eq_true rfl) (Nat.le_trans (Nat.le_of_ble_eq_true rfl) hRl)⟩) hN (hK.sub (tys' := []) [] rfl) (va_P0 _ _ _) (va_D0 A) rfl hl.1 (Nat.le_of_ble_eq_true rfl) ⟨hRc, hRs⟩ dX3_cell_1) hP hS hA rfl (fun H locs hP hS => ?_)
  refine z_if_eq (tgt := 14) hx hb dX3_cell_4 (by decide) (by omega) (fun c_1 => ?_) (fun c_1 => ?_)
  · refine z_ldc hx hb (-1000001) (by decide +kernel) hown (hq _ q_448) dX3_cell_14 ?_
    refine z_as (show (-1000001) = -1000001 from by first | rfl | omega) ?_
    first | exact hret _ _ _ _ dX3_cell_16 hP hD hS | (exfalso; omega)
  · refine lv_iload_n hx hb dX3_cell_7 rfl (lv_at hl 2 rfl) ?_
    refine mw_none (st1 := [.int (iI (if 0 ≤ c2 ∧ c2 ≤ 7 then 1 else 0 : Int))]) (mr_S (As := [.int (iI c2)]) (rest := []) ⟨hx, hb, hml, hown, hts⟩ (m_X3_isCell l D c2 (by omega)) (va_cwS 1 hts (gS q_449 q_450 q_345 q_383) rfl rfl rfl (by decide +kernel) ⟨Nat.le_trans (m := 2) (Nat.le_of_ble_eq_true rfl) (Nat.le_trans (Nat.le_of_ble_eq_true rfl) hRf), Nat.le_trans (m := 42) (Nat.le_of_ble_eq_true rfl) (Nat.le_trans (Nat.le_of_ble_eq_true rfl) hRl)⟩) hN (hK.sub (tys' := []) [] rfl) (va_P0 _ _ _) (va_D0 A) rfl hl.1 (Nat.le_of_ble_eq_true rfl) ⟨hRc, hRs⟩ dX3_cell_8) hP hS hA rfl (fun H locs hP hS => ?_)
    refine z_if_ne (tgt := 17) hx hb dX3_cell_11 (by decide) (by omega) (fun c_2 => absurd c_2 (by omega)) (fun c_2 => ?_)
    refine z_ldc hx hb (-1000001) (by decide +kernel) hown (hq _ q_448) dX3_cell_14 ?_
    refine z_as (show (-1000001) = -1000001 from by first | rfl | omega) ?_
    first | exact hret _ _ _ _ dX3_cell_16 hP hD hS | (exfalso; omega)
set_option maxHeartbeats 4000000 in
set_option maxRecDepth 100000 in
theorem m_X3_guard (l : Launch) (D : va_G) (mo : Nat) (am : Nat → Nat) (cI : ClassId) (S : Nat → Int → Int) (r g2 w : Int) {B : Int} (hI : InvG B (gOf (S 0))) (h1 : 0 ≤ r ∧ r < 6) (h2 : 0 ≤ g2 ∧ g2 < 3) (h3 : -2147483648 ≤ w ∧ w < 2147483648)  : MW l D yX3_guard (wsY yX3_guard cX3_guard 4 (some .int)) { frames := 2, cells := 0, slots := 0, locals := 42 } [(cI, .int)] [.ref mo, .int (iI r), .int (iI g2), .int (iI w)] (wM mo am cI S) (wM mo am cI S) (some (.int (iI (guardV (gOf (S 0)) r g2 w)))) := by
  refine mw_ofI (cc := cX3_guard) (maxL := 4) (by decide) rfl (Nat.le_of_ble_eq_true rfl) ?_
  intro p e s m below meth c R A Q args ls hx hb hml hown hts hRf hRl hRc hRs hN hK hP hD hS hA hret hl
  have hq : ∀ w ∈ ALL, w.before args s = true := fun w h => hts w (List.mem_cons_of_mem _ h)
  have hl : lv_has ls 4 [(0, .ref mo), (1, .int (iI r)), (2, .int (iI g2)), (3, .int (iI w))] := hl
  refine lv_iload_n hx hb dX3_guard_0 rfl (lv_at hl 1 rfl) ?_
  refine mw_none (st1 := [.int (iI (if 0 ≤ r ∧ r ≤ 5 then 1 else 0 : Int))]) (mr_S (As := [.int (iI r)]) (rest := []) ⟨hx, hb, hml, hown, hts⟩ (m_X3_isRow l D r (by omega)) (va_cwS 1 hts (gS q_388 q_389 q_345 q_382) rfl rfl rfl (by decide +kernel) ⟨Nat.le_trans (m := 2) (Nat.le_of_ble_eq_true rfl) (Nat.le_trans (Nat.le_of_ble_eq_true rfl) hRf), Nat.le_trans (m := 42) (Nat.le_of_ble_eq_true rfl) (Nat.le_trans (Nat.le_of_ble_eq_true rfl) hRl)⟩) hN (hK.sub (tys' := []) [] rfl) (va_P0 _ _ _) (va_D0 A) rfl hl.1 (Nat.le_of_ble_eq_true rfl) ⟨hRc, hRs⟩ dX3_guard_1) hP hS hA rfl (fun H locs hP hS => ?_)
  refine z_if_eq (tgt := 23) hx hb dX3_guard_4 (by decide) (by omega) (fun c_1 => ?_) (fun c_1 => ?_)
  · refine z_ldc hx hb (-1000001) (by decide +kernel) hown (hq _ q_448) dX3_guard_23 ?_
    refine z_as (show (-1000001) = guardV (gOf (S 0)) r g2 w from by first | rfl | omega | (unfold guardV; omega) | (subst_vars; unfold guardV; omega) | (subst_vars; simp [guardV])) ?_
    first | exact hret _ _ _ _ dX3_guard_25 hP hD hS | (exfalso; omega)
  · refine lv_iload_n hx hb dX3_guard_7 rfl (lv_at hl 2 rfl) ?_
    refine mw_none (st1 := [.int (iI (if 0 ≤ g2 ∧ g2 ≤ 2 then 1 else 0 : Int))]) (mr_S (As := [.int (iI g2)]) (rest := []) ⟨hx, hb, hml, hown, hts⟩ (m_X3_isThree l D g2 (by omega)) (va_cwS 1 hts (gS q_451 q_452 q_345 q_384) rfl rfl rfl (by decide +kernel) ⟨Nat.le_trans (m := 2) (Nat.le_of_ble_eq_true rfl) (Nat.le_trans (Nat.le_of_ble_eq_true rfl) hRf), Nat.le_trans (m := 42) (Nat.le_of_ble_eq_true rfl) (Nat.le_trans (Nat.le_of_ble_eq_true rfl) hRl)⟩) hN (hK.sub (tys' := []) [] rfl) (va_P0 _ _ _) (va_D0 A) rfl hl.1 (Nat.le_of_ble_eq_true rfl) ⟨hRc, hRs⟩ dX3_guard_8) hP hS hA rfl (fun H locs hP hS => ?_)
    refine z_if_eq (tgt := 23) hx hb dX3_guard_11 (by decide) (by omega) (fun c_2 => ?_) (fun c_2 => ?_)
    · refine z_ldc hx hb (-1000001) (by decide +kernel) hown (hq _ q_448) dX3_guard_23 ?_
      refine z_as (show (-1000001) = guardV (gOf (S 0)) r g2 w from by first | rfl | omega | (unfold guardV; omega) | (subst_vars; unfold guardV; omega) | (subst_vars; simp [guardV])) ?_
      first | exact hret _ _ _ _ dX3_guard_25 hP hD hS | (exfalso; omega)
    · refine lv_iload_n hx hb dX3_guard_14 rfl (lv_at hl 3 rfl) ?_
      refine z_iconst hx hb dX3_guard_15 ?_
      refine z_iconst hx hb dX3_guard_16 ?_
      refine mw_none (st1 := [.int (iI (if 0 ≤ w ∧ w ≤ 1 then 1 else 0 : Int))]) (mr_S (As := [.int (iI w), .int (iI 0), .int (iI 1)]) (rest := []) ⟨hx, hb, hml, hown, hts⟩ (m_X3_in l D w 0 1 (by omega) (by omega) (by omega)) (va_cwS 3 hts (gS q_380 q_381 q_345 q_374) rfl rfl rfl (by decide +kernel) ⟨Nat.le_trans (m := 1) (Nat.le_of_ble_eq_true rfl) (Nat.le_trans (Nat.le_of_ble_eq_true rfl) hRf), Nat.le_trans (m := 22) (Nat.le_of_ble_eq_true rfl) (Nat.le_trans (Nat.le_of_ble_eq_true rfl) hRl)⟩) hN (hK.sub (tys' := []) [] rfl) (va_P0 _ _ _) (va_D0 A) rfl hl.1 (Nat.le_of_ble_eq_true rfl) ⟨hRc, hRs⟩ dX3_guard_17) hP hS hA rfl (fun H locs hP hS => ?_)
      refine z_if_ne (tgt := 26) hx hb dX3_guard_20 (by decide) (by omega) (fun c_3 => ?_) (fun c_3 => ?_)
      · refine lv_aload_n hx hb dX3_guard_26 rfl (lv_at hl 0 rfl) ?_
        refine lv_iload_n hx hb dX3_guard_27 rfl (lv_at hl 1 rfl) ?_
        refine lv_iload_n hx hb dX3_guard_28 rfl (lv_at hl 3 rfl) ?_
        refine z_if_ne (tgt := 36) hx hb dX3_guard_29 (by decide) (by omega) (fun c_4 => ?_) (fun c_4 => ?_)
        · refine z_bipush hx hb dX3_guard_36 (by decide +kernel) ?_
          refine lv_iload_n hx hb dX3_guard_38 rfl (lv_at hl 2 rfl) ?_
          refine z_iadd hx hb dX3_guard_39 ?_
          refine mw_full (st1 := [.int (iI ((gOf (S 0)) 5 (3 * r + g2)))]) (mr_V (As := [.int (iI r), .int (iI (7 + g2))]) (rest := []) (ci := 3) (q0 := 0) ⟨hx, hb, hml, hown, hts⟩ (m_X3_of l D mo am cI S r (7 + g2) 5 (3 * r + g2) (ix_of5 (r := r) (by omega) (by omega))) (cwV 2 hts (gV q_342 q_343 q_344 q_345 q_340) rfl rfl rfl (by decide +kernel) ⟨Nat.le_trans (m := 1) (Nat.le_of_ble_eq_true rfl) (Nat.le_trans (Nat.le_of_ble_eq_true rfl) hRf), Nat.le_trans (m := 22) (Nat.le_of_ble_eq_true rfl) (Nat.le_trans (Nat.le_of_ble_eq_true rfl) hRl)⟩) hN hK hP hD rfl rfl rfl hl.1 (Nat.le_of_ble_eq_true rfl) ⟨hRc, hRs⟩ dX3_guard_40) hD hS hA rfl (fun H locs hP hD hS => ?_)
          have hf_5 := invG_5 hI (3 * r + g2) (by omega) (by omega)
          refine z_as (show (gOf (S 0)) 5 (3 * r + g2) = guardV (gOf (S 0)) r g2 w from by first | rfl | omega | (unfold guardV; omega) | (subst_vars; unfold guardV; omega) | (subst_vars; simp [guardV])) ?_
          first | exact hret _ _ _ _ dX3_guard_43 hP hD hS | (exfalso; omega)
        · refine z_iconst hx hb dX3_guard_32 ?_
          refine lv_goto (tgt := 38) hx hb dX3_guard_33 (by decide) ?_
          refine lv_iload_n hx hb dX3_guard_38 rfl (lv_at hl 2 rfl) ?_
          refine z_iadd hx hb dX3_guard_39 ?_
          refine mw_full (st1 := [.int (iI ((gOf (S 0)) 4 (3 * r + g2)))]) (mr_V (As := [.int (iI r), .int (iI (4 + g2))]) (rest := []) (ci := 3) (q0 := 0) ⟨hx, hb, hml, hown, hts⟩ (m_X3_of l D mo am cI S r (4 + g2) 4 (3 * r + g2) (ix_of4 (r := r) (by omega) (by omega))) (cwV 2 hts (gV q_342 q_343 q_344 q_345 q_340) rfl rfl rfl (by decide +kernel) ⟨Nat.le_trans (m := 1) (Nat.le_of_ble_eq_true rfl) (Nat.le_trans (Nat.le_of_ble_eq_true rfl) hRf), Nat.le_trans (m := 22) (Nat.le_of_ble_eq_true rfl) (Nat.le_trans (Nat.le_of_ble_eq_true rfl) hRl)⟩) hN hK hP hD rfl rfl rfl hl.1 (Nat.le_of_ble_eq_true rfl) ⟨hRc, hRs⟩ dX3_guard_40) hD hS hA rfl (fun H locs hP hD hS => ?_)
          have hf_6 := invG_4 hI (3 * r + g2) (by omega) (by omega)
          refine z_as (show (gOf (S 0)) 4 (3 * r + g2) = guardV (gOf (S 0)) r g2 w from by first | rfl | omega | (unfold guardV; omega) | (subst_vars; unfold guardV; omega) | (subst_vars; simp [guardV])) ?_
          first | exact hret _ _ _ _ dX3_guard_43 hP hD hS | (exfalso; omega)
      · refine z_ldc hx hb (-1000001) (by decide +kernel) hown (hq _ q_448) dX3_guard_23 ?_
        refine z_as (show (-1000001) = guardV (gOf (S 0)) r g2 w from by first | rfl | omega | (unfold guardV; omega) | (subst_vars; unfold guardV; omega) | (subst_vars; simp [guardV])) ?_
        first | exact hret _ _ _ _ dX3_guard_25 hP hD hS | (exfalso; omega)
set_option maxHeartbeats 4000000 in
set_option maxRecDepth 100000 in
theorem m_X3_guard_bad (l : Launch) (D : va_G) (mo : Nat) (am : Nat → Nat) (cI : ClassId) (S : Nat → Int → Int) (r g2 w : Int) (h1 : -2147483648 ≤ r ∧ r < 2147483648) (h2 : -2147483648 ≤ g2 ∧ g2 < 2147483648) (h3 : -2147483648 ≤ w ∧ w < 2147483648) (hb0 : r < 0 ∨ 5 < r ∨ g2 < 0 ∨ 2 < g2)  : MW l D yX3_guard (wsY yX3_guard cX3_guard 4 (some .int)) { frames := 2, cells := 0, slots := 0, locals := 42 } [(cI, .int)] [.ref mo, .int (iI r), .int (iI g2), .int (iI w)] (wM mo am cI S) (wM mo am cI S) (some (.int (iI (-1000001)))) := by
  refine mw_ofI (cc := cX3_guard) (maxL := 4) (by decide) rfl (Nat.le_of_ble_eq_true rfl) ?_
  intro p e s m below meth c R A Q args ls hx hb hml hown hts hRf hRl hRc hRs hN hK hP hD hS hA hret hl
  have hq : ∀ w ∈ ALL, w.before args s = true := fun w h => hts w (List.mem_cons_of_mem _ h)
  have hl : lv_has ls 4 [(0, .ref mo), (1, .int (iI r)), (2, .int (iI g2)), (3, .int (iI w))] := hl
  refine lv_iload_n hx hb dX3_guard_0 rfl (lv_at hl 1 rfl) ?_
  refine mw_none (st1 := [.int (iI (if 0 ≤ r ∧ r ≤ 5 then 1 else 0 : Int))]) (mr_S (As := [.int (iI r)]) (rest := []) ⟨hx, hb, hml, hown, hts⟩ (m_X3_isRow l D r (by omega)) (va_cwS 1 hts (gS q_388 q_389 q_345 q_382) rfl rfl rfl (by decide +kernel) ⟨Nat.le_trans (m := 2) (Nat.le_of_ble_eq_true rfl) (Nat.le_trans (Nat.le_of_ble_eq_true rfl) hRf), Nat.le_trans (m := 42) (Nat.le_of_ble_eq_true rfl) (Nat.le_trans (Nat.le_of_ble_eq_true rfl) hRl)⟩) hN (hK.sub (tys' := []) [] rfl) (va_P0 _ _ _) (va_D0 A) rfl hl.1 (Nat.le_of_ble_eq_true rfl) ⟨hRc, hRs⟩ dX3_guard_1) hP hS hA rfl (fun H locs hP hS => ?_)
  refine z_if_eq (tgt := 23) hx hb dX3_guard_4 (by decide) (by omega) (fun c_1 => ?_) (fun c_1 => ?_)
  · refine z_ldc hx hb (-1000001) (by decide +kernel) hown (hq _ q_448) dX3_guard_23 ?_
    refine z_as (show (-1000001) = -1000001 from by first | rfl | omega) ?_
    first | exact hret _ _ _ _ dX3_guard_25 hP hD hS | (exfalso; omega)
  · refine lv_iload_n hx hb dX3_guard_7 rfl (lv_at hl 2 rfl) ?_
    refine mw_none (st1 := [.int (iI (if 0 ≤ g2 ∧ g2 ≤ 2 then 1 else 0 : Int))]) (mr_S (As := [.int (iI g2)]) (rest := []) ⟨hx, hb, hml, hown, hts⟩ (m_X3_isThree l D g2 (by omega)) (va_cwS 1 hts (gS q_451 q_452 q_345 q_384) rfl rfl rfl (by decide +kernel) ⟨Nat.le_trans (m := 2) (Nat.le_of_ble_eq_true rfl) (Nat.le_trans (Nat.le_of_ble_eq_true rfl) hRf), Nat.le_trans (m := 42) (Nat.le_of_ble_eq_true rfl) (Nat.le_trans (Nat.le_of_ble_eq_true rfl) hRl)⟩) hN (hK.sub (tys' := []) [] rfl) (va_P0 _ _ _) (va_D0 A) rfl hl.1 (Nat.le_of_ble_eq_true rfl) ⟨hRc, hRs⟩ dX3_guard_8) hP hS hA rfl (fun H locs hP hS => ?_)
    refine z_if_eq (tgt := 23) hx hb dX3_guard_11 (by decide) (by omega) (fun c_2 => ?_) (fun c_2 => absurd c_2 (by omega))
    refine z_ldc hx hb (-1000001) (by decide +kernel) hown (hq _ q_448) dX3_guard_23 ?_
    refine z_as (show (-1000001) = -1000001 from by first | rfl | omega) ?_
    first | exact hret _ _ _ _ dX3_guard_25 hP hD hS | (exfalso; omega)
set_option maxHeartbeats 4000000 in
set_option maxRecDepth 100000 in
theorem m_X3_row (l : Launch) (D : va_G) (mo : Nat) (am : Nat → Nat) (cI : ClassId) (S : Nat → Int → Int) (r w : Int) {B : Int} (hI : InvG B (gOf (S 0))) (h1 : 0 ≤ r ∧ r < 6) (h3 : -2147483648 ≤ w ∧ w < 2147483648)  : MW l D yX3_row (wsY yX3_row cX3_row 3 (some .int)) { frames := 6, cells := 0, slots := 0, locals := 133 } [(cI, .int)] [.ref mo, .int (iI r), .int (iI w)] (wM mo am cI S) (wM mo am cI S) (some (.int (iI (rowV (gOf (S 0)) r w)))) := by
  refine mw_ofI (cc := cX3_row) (maxL := 3) (by decide) rfl (Nat.le_of_ble_eq_true rfl) ?_
  intro p e s m below meth c R A Q args ls hx hb hml hown hts hRf hRl hRc hRs hN hK hP hD hS hA hret hl
  have hq : ∀ w ∈ ALL, w.before args s = true := fun w h => hts w (List.mem_cons_of_mem _ h)
  have hl : lv_has ls 3 [(0, .ref mo), (1, .int (iI r)), (2, .int (iI w))] := hl
  refine lv_iload_n hx hb dX3_row_0 rfl (lv_at hl 1 rfl) ?_
  refine mw_none (st1 := [.int (iI (if 0 ≤ r ∧ r ≤ 5 then 1 else 0 : Int))]) (mr_S (As := [.int (iI r)]) (rest := []) ⟨hx, hb, hml, hown, hts⟩ (m_X3_isRow l D r (by omega)) (va_cwS 1 hts (gS q_388 q_389 q_345 q_382) rfl rfl rfl (by decide +kernel) ⟨Nat.le_trans (m := 2) (Nat.le_of_ble_eq_true rfl) (Nat.le_trans (Nat.le_of_ble_eq_true rfl) hRf), Nat.le_trans (m := 42) (Nat.le_of_ble_eq_true rfl) (Nat.le_trans (Nat.le_of_ble_eq_true rfl) hRl)⟩) hN (hK.sub (tys' := []) [] rfl) (va_P0 _ _ _) (va_D0 A) rfl hl.1 (Nat.le_of_ble_eq_true rfl) ⟨hRc, hRs⟩ dX3_row_1) hP hS hA rfl (fun H locs hP hS => ?_)
  refine z_if_ne (tgt := 10) hx hb dX3_row_4 (by decide) (by omega) (fun c_1 => ?_) (fun c_1 => ?_)
  · refine lv_iload_n hx hb dX3_row_10 rfl (lv_at hl 2 rfl) ?_
    rcases z_tab w 0 13 with c_2 | c_2
    · refine lv_tableOut (tgt := 167) hx hb dX3_row_11 (by rw [iI_t (by omega)]; exact c_2) (by decide) ?_
      refine z_ldc hx hb (-1000001) (by decide +kernel) hown (hq _ q_448) dX3_row_167 ?_
      refine z_as (show (-1000001) = rowV (gOf (S 0)) r w from by first | rfl | omega | (unfold rowV; omega) | (subst_vars; unfold rowV; omega) | (subst_vars; simp [rowV])) ?_
      first | exact hret _ _ _ _ dX3_row_169 hP hD hS | (exfalso; omega)
    · have c_3 : w = 0 ∨ w = 1 ∨ w = 2 ∨ w = 3 ∨ w = 4 ∨ w = 5 ∨ w = 6 ∨ w = 7 ∨ w = 8 ∨ w = 9 ∨ w = 10 ∨ w = 11 ∨ w = 12 ∨ w = 13 := by omega
      rcases c_3 with c_3 | c_3 | c_3 | c_3 | c_3 | c_3 | c_3 | c_3 | c_3 | c_3 | c_3 | c_3 | c_3 | c_3
      · refine lv_tableIn (tgt := 80) (off := 69) hx hb dX3_row_11 (by rw [iI_t (by omega)]; omega) (by rw [iI_t (by omega)]; omega) (by rw [iI_t (by omega), c_3]; rfl) (by decide) ?_
        refine lv_aload_n hx hb dX3_row_80 rfl (lv_at hl 0 rfl) ?_
        refine lv_iload_n hx hb dX3_row_81 rfl (lv_at hl 1 rfl) ?_
        refine lv_iload_n hx hb dX3_row_82 rfl (lv_at hl 2 rfl) ?_
        refine mw_full (st1 := [.int (iI (ownZ (gOf (S 0)) r w))]) (mr_V (As := [.int (iI r), .int (iI w)]) (rest := []) (ci := 3) (q0 := 0) ⟨hx, hb, hml, hown, hts⟩ (m_X3_own l D mo am cI S r w hI (by omega) (by omega)) (cwV 2 hts (gV q_398 q_399 q_400 q_345 q_386) rfl rfl rfl (by decide +kernel) ⟨Nat.le_trans (m := 2) (Nat.le_of_ble_eq_true rfl) (Nat.le_trans (Nat.le_of_ble_eq_true rfl) hRf), Nat.le_trans (m := 44) (Nat.le_of_ble_eq_true rfl) (Nat.le_trans (Nat.le_of_ble_eq_true rfl) hRl)⟩) hN hK hP hD rfl rfl rfl hl.1 (Nat.le_of_ble_eq_true rfl) ⟨hRc, hRs⟩ dX3_row_83) hD hS hA rfl (fun H locs hP hD hS => ?_)
        have hf_4 := ownZ_bd hI r w (by omega) (by omega)
        refine z_as (show ownZ (gOf (S 0)) r w = rowV (gOf (S 0)) r w from by first | rfl | omega | (unfold rowV; omega) | (subst_vars; unfold rowV; omega) | (subst_vars; simp [rowV])) ?_
        first | exact hret _ _ _ _ dX3_row_86 hP hD hS | (exfalso; omega)
      · refine lv_tableIn (tgt := 80) (off := 69) hx hb dX3_row_11 (by rw [iI_t (by omega)]; omega) (by rw [iI_t (by omega)]; omega) (by rw [iI_t (by omega), c_3]; rfl) (by decide) ?_
        refine lv_aload_n hx hb dX3_row_80 rfl (lv_at hl 0 rfl) ?_
        refine lv_iload_n hx hb dX3_row_81 rfl (lv_at hl 1 rfl) ?_
        refine lv_iload_n hx hb dX3_row_82 rfl (lv_at hl 2 rfl) ?_
        refine mw_full (st1 := [.int (iI (ownZ (gOf (S 0)) r w))]) (mr_V (As := [.int (iI r), .int (iI w)]) (rest := []) (ci := 3) (q0 := 0) ⟨hx, hb, hml, hown, hts⟩ (m_X3_own l D mo am cI S r w hI (by omega) (by omega)) (cwV 2 hts (gV q_398 q_399 q_400 q_345 q_386) rfl rfl rfl (by decide +kernel) ⟨Nat.le_trans (m := 2) (Nat.le_of_ble_eq_true rfl) (Nat.le_trans (Nat.le_of_ble_eq_true rfl) hRf), Nat.le_trans (m := 44) (Nat.le_of_ble_eq_true rfl) (Nat.le_trans (Nat.le_of_ble_eq_true rfl) hRl)⟩) hN hK hP hD rfl rfl rfl hl.1 (Nat.le_of_ble_eq_true rfl) ⟨hRc, hRs⟩ dX3_row_83) hD hS hA rfl (fun H locs hP hD hS => ?_)
        have hf_5 := ownZ_bd hI r w (by omega) (by omega)
        refine z_as (show ownZ (gOf (S 0)) r w = rowV (gOf (S 0)) r w from by first | rfl | omega | (unfold rowV; omega) | (subst_vars; unfold rowV; omega) | (subst_vars; simp [rowV])) ?_
        first | exact hret _ _ _ _ dX3_row_86 hP hD hS | (exfalso; omega)
      · refine lv_tableIn (tgt := 87) (off := 76) hx hb dX3_row_11 (by rw [iI_t (by omega)]; omega) (by rw [iI_t (by omega)]; omega) (by rw [iI_t (by omega), c_3]; rfl) (by decide) ?_
        refine lv_aload_n hx hb dX3_row_87 rfl (lv_at hl 0 rfl) ?_
        refine lv_iload_n hx hb dX3_row_88 rfl (lv_at hl 1 rfl) ?_
        refine mw_full (st1 := [.int (iI (rightZ (gOf (S 0)) r))]) (mr_V (As := [.int (iI r)]) (rest := []) (ci := 3) (q0 := 0) ⟨hx, hb, hml, hown, hts⟩ (m_X3_isRight l D mo am cI S r hI (by omega)) (cwV 1 hts (gV q_390 q_391 q_392 q_345 q_387) rfl rfl rfl (by decide +kernel) ⟨Nat.le_trans (m := 2) (Nat.le_of_ble_eq_true rfl) (Nat.le_trans (Nat.le_of_ble_eq_true rfl) hRf), Nat.le_trans (m := 43) (Nat.le_of_ble_eq_true rfl) (Nat.le_trans (Nat.le_of_ble_eq_true rfl) hRl)⟩) hN hK hP hD rfl rfl rfl hl.1 (Nat.le_of_ble_eq_true rfl) ⟨hRc, hRs⟩ dX3_row_89) hD hS hA rfl (fun H locs hP hD hS => ?_)
        have hf_6 := rightZ_01 (gOf (S 0)) r
        refine z_if_eq (tgt := 99) hx hb dX3_row_92 (by decide) (by omega) (fun c_7 => ?_) (fun c_7 => ?_)
        · refine z_iconst hx hb dX3_row_99 ?_
          refine z_as (show 0 = rowV (gOf (S 0)) r w from by first | rfl | omega | (unfold rowV; omega) | (subst_vars; unfold rowV; omega) | (subst_vars; simp [rowV])) ?_
          first | exact hret _ _ _ _ dX3_row_100 hP hD hS | (exfalso; omega)
        · refine z_iconst hx hb dX3_row_95 ?_
          refine lv_goto (tgt := 100) hx hb dX3_row_96 (by decide) ?_
          refine z_as (show 1 = rowV (gOf (S 0)) r w from by first | rfl | omega | (unfold rowV; omega) | (subst_vars; unfold rowV; omega) | (subst_vars; simp [rowV])) ?_
          first | exact hret _ _ _ _ dX3_row_100 hP hD hS | (exfalso; omega)
      · refine lv_tableIn (tgt := 101) (off := 90) hx hb dX3_row_11 (by rw [iI_t (by omega)]; omega) (by rw [iI_t (by omega)]; omega) (by rw [iI_t (by omega), c_3]; rfl) (by decide) ?_
        refine lv_aload_n hx hb dX3_row_101 rfl (lv_at hl 0 rfl) ?_
        refine lv_iload_n hx hb dX3_row_102 rfl (lv_at hl 1 rfl) ?_
        refine mw_full (st1 := [.int (iI (sourceZ (gOf (S 0)) r))]) (mr_V (As := [.int (iI r)]) (rest := []) (ci := 3) (q0 := 0) ⟨hx, hb, hml, hown, hts⟩ (m_X3_source l D mo am cI S r hI (by omega)) (cwV 1 hts (gV q_500 q_501 q_502 q_345 q_397) rfl rfl rfl (by decide +kernel) ⟨Nat.le_trans (m := 4) (Nat.le_of_ble_eq_true rfl) (Nat.le_trans (Nat.le_of_ble_eq_true rfl) hRf), Nat.le_trans (m := 85) (Nat.le_of_ble_eq_true rfl) (Nat.le_trans (Nat.le_of_ble_eq_true rfl) hRl)⟩) hN hK hP hD rfl rfl rfl hl.1 (Nat.le_of_ble_eq_true rfl) ⟨hRc, hRs⟩ dX3_row_103) hD hS hA rfl (fun H locs hP hD hS => ?_)
        have hf_8 : 0 ≤ sourceZ (gOf (S 0)) r ∧ sourceZ (gOf (S 0)) r ≤ 2 := by unfold sourceZ; omega
        refine z_as (show sourceZ (gOf (S 0)) r = rowV (gOf (S 0)) r w from by first | rfl | omega | (unfold rowV; omega) | (subst_vars; unfold rowV; omega) | (subst_vars; simp [rowV])) ?_
        first | exact hret _ _ _ _ dX3_row_106 hP hD hS | (exfalso; omega)
      · refine lv_tableIn (tgt := 107) (off := 96) hx hb dX3_row_11 (by rw [iI_t (by omega)]; omega) (by rw [iI_t (by omega)]; omega) (by rw [iI_t (by omega), c_3]; rfl) (by decide) ?_
        refine lv_aload_n hx hb dX3_row_107 rfl (lv_at hl 0 rfl) ?_
        refine lv_iload_n hx hb dX3_row_108 rfl (lv_at hl 1 rfl) ?_
        refine lv_iload_n hx hb dX3_row_109 rfl (lv_at hl 2 rfl) ?_
        refine z_iconst hx hb dX3_row_110 ?_
        refine z_isub hx hb dX3_row_111 ?_
        refine mw_full (st1 := [.int (iI (thrZ (gOf (S 0)) r (w - 4)))]) (mr_V (As := [.int (iI r), .int (iI (w - 4))]) (rest := []) (ci := 3) (q0 := 0) ⟨hx, hb, hml, hown, hts⟩ (m_X3_threshold l D mo am cI S r (w - 4) hI (by omega) (by omega)) (cwV 2 hts (gV q_403 q_404 q_405 q_345 q_401) rfl rfl rfl (by decide +kernel) ⟨Nat.le_trans (m := 4) (Nat.le_of_ble_eq_true rfl) (Nat.le_trans (Nat.le_of_ble_eq_true rfl) hRf), Nat.le_trans (m := 88) (Nat.le_of_ble_eq_true rfl) (Nat.le_trans (Nat.le_of_ble_eq_true rfl) hRl)⟩) hN hK hP hD rfl rfl rfl hl.1 (Nat.le_of_ble_eq_true rfl) ⟨hRc, hRs⟩ dX3_row_112) hD hS hA rfl (fun H locs hP hD hS => ?_)
        have hf_9 := thrZ_bd hI r (w - 4) (by omega) (by omega)
        refine z_as (show thrZ (gOf (S 0)) r (w - 4) = rowV (gOf (S 0)) r w from by first | rfl | omega | (unfold rowV; omega) | (subst_vars; unfold rowV; omega) | (subst_vars; simp [rowV])) ?_
        first | exact hret _ _ _ _ dX3_row_115 hP hD hS | (exfalso; omega)
      · refine lv_tableIn (tgt := 107) (off := 96) hx hb dX3_row_11 (by rw [iI_t (by omega)]; omega) (by rw [iI_t (by omega)]; omega) (by rw [iI_t (by omega), c_3]; rfl) (by decide) ?_
        refine lv_aload_n hx hb dX3_row_107 rfl (lv_at hl 0 rfl) ?_
        refine lv_iload_n hx hb dX3_row_108 rfl (lv_at hl 1 rfl) ?_
        refine lv_iload_n hx hb dX3_row_109 rfl (lv_at hl 2 rfl) ?_
        refine z_iconst hx hb dX3_row_110 ?_
        refine z_isub hx hb dX3_row_111 ?_
        refine mw_full (st1 := [.int (iI (thrZ (gOf (S 0)) r (w - 4)))]) (mr_V (As := [.int (iI r), .int (iI (w - 4))]) (rest := []) (ci := 3) (q0 := 0) ⟨hx, hb, hml, hown, hts⟩ (m_X3_threshold l D mo am cI S r (w - 4) hI (by omega) (by omega)) (cwV 2 hts (gV q_403 q_404 q_405 q_345 q_401) rfl rfl rfl (by decide +kernel) ⟨Nat.le_trans (m := 4) (Nat.le_of_ble_eq_true rfl) (Nat.le_trans (Nat.le_of_ble_eq_true rfl) hRf), Nat.le_trans (m := 88) (Nat.le_of_ble_eq_true rfl) (Nat.le_trans (Nat.le_of_ble_eq_true rfl) hRl)⟩) hN hK hP hD rfl rfl rfl hl.1 (Nat.le_of_ble_eq_true rfl) ⟨hRc, hRs⟩ dX3_row_112) hD hS hA rfl (fun H locs hP hD hS => ?_)
        have hf_10 := thrZ_bd hI r (w - 4) (by omega) (by omega)
        refine z_as (show thrZ (gOf (S 0)) r (w - 4) = rowV (gOf (S 0)) r w from by first | rfl | omega | (unfold rowV; omega) | (subst_vars; unfold rowV; omega) | (subst_vars; simp [rowV])) ?_
        first | exact hret _ _ _ _ dX3_row_115 hP hD hS | (exfalso; omega)
      · refine lv_tableIn (tgt := 116) (off := 105) hx hb dX3_row_11 (by rw [iI_t (by omega)]; omega) (by rw [iI_t (by omega)]; omega) (by rw [iI_t (by omega), c_3]; rfl) (by decide) ?_
        refine lv_aload_n hx hb dX3_row_116 rfl (lv_at hl 0 rfl) ?_
        refine lv_iload_n hx hb dX3_row_117 rfl (lv_at hl 1 rfl) ?_
        refine mw_full (st1 := [.int (iI (wrongZ (gOf (S 0)) r))]) (mr_V (As := [.int (iI r)]) (rest := []) (ci := 3) (q0 := 0) ⟨hx, hb, hml, hown, hts⟩ (m_X3_wrong l D mo am cI S r hI (by omega)) (cwV 1 hts (gV q_416 q_417 q_418 q_345 q_412) rfl rfl rfl (by decide +kernel) ⟨Nat.le_trans (m := 6) (Nat.le_of_ble_eq_true rfl) (Nat.le_trans (Nat.le_of_ble_eq_true rfl) hRf), Nat.le_trans (m := 133) (Nat.le_of_ble_eq_true rfl) (Nat.le_trans (Nat.le_of_ble_eq_true rfl) hRl)⟩) hN hK hP hD rfl rfl rfl hl.1 (Nat.le_of_ble_eq_true rfl) ⟨hRc, hRs⟩ dX3_row_118) hD hS hA rfl (fun H locs hP hD hS => ?_)
        have hf_11 := wrongZ_bd (gOf (S 0)) r
        refine z_as (show wrongZ (gOf (S 0)) r = rowV (gOf (S 0)) r w from by first | rfl | omega | (unfold rowV; omega) | (subst_vars; unfold rowV; omega) | (subst_vars; simp [rowV])) ?_
        first | exact hret _ _ _ _ dX3_row_121 hP hD hS | (exfalso; omega)
      · refine lv_tableIn (tgt := 122) (off := 111) hx hb dX3_row_11 (by rw [iI_t (by omega)]; omega) (by rw [iI_t (by omega)]; omega) (by rw [iI_t (by omega), c_3]; rfl) (by decide) ?_
        refine lv_aload_n hx hb dX3_row_122 rfl (lv_at hl 0 rfl) ?_
        refine lv_iload_n hx hb dX3_row_123 rfl (lv_at hl 1 rfl) ?_
        refine mw_full (st1 := [.int (iI (wrongByZ (gOf (S 0)) r 300 700 8))]) (mr_V (As := [.int (iI r)]) (rest := []) (ci := 3) (q0 := 0) ⟨hx, hb, hml, hown, hts⟩ (m_X3_wrongFixed l D mo am cI S r hI (by omega)) (cwV 1 hts (gV q_503 q_504 q_505 q_345 q_499) rfl rfl rfl (by decide +kernel) ⟨Nat.le_trans (m := 3) (Nat.le_of_ble_eq_true rfl) (Nat.le_trans (Nat.le_of_ble_eq_true rfl) hRf), Nat.le_trans (m := 68) (Nat.le_of_ble_eq_true rfl) (Nat.le_trans (Nat.le_of_ble_eq_true rfl) hRl)⟩) hN hK hP hD rfl rfl rfl hl.1 (Nat.le_of_ble_eq_true rfl) ⟨hRc, hRs⟩ dX3_row_124) hD hS hA rfl (fun H locs hP hD hS => ?_)
        refine z_as (show wrongByZ (gOf (S 0)) r 300 700 8 = rowV (gOf (S 0)) r w from by first | rfl | omega | (unfold rowV; omega) | (subst_vars; unfold rowV; omega) | (subst_vars; simp [rowV])) ?_
        first | exact hret _ _ _ _ dX3_row_127 hP hD hS | (exfalso; omega)
      · refine lv_tableIn (tgt := 128) (off := 117) hx hb dX3_row_11 (by rw [iI_t (by omega)]; omega) (by rw [iI_t (by omega)]; omega) (by rw [iI_t (by omega), c_3]; rfl) (by decide) ?_
        refine lv_aload_n hx hb dX3_row_128 rfl (lv_at hl 0 rfl) ?_
        refine lv_iload_n hx hb dX3_row_129 rfl (lv_at hl 1 rfl) ?_
        refine z_iconst hx hb dX3_row_130 ?_
        refine mw_full (st1 := [.int (iI ((gOf (S 0)) 6 r))]) (mr_V (As := [.int (iI r), .int (iI 0)]) (rest := []) (ci := 3) (q0 := 0) ⟨hx, hb, hml, hown, hts⟩ (m_X3_of l D mo am cI S r 0 6 r (ix_ofr 6 (by omega) (by omega) (by omega))) (cwV 2 hts (gV q_342 q_343 q_344 q_345 q_340) rfl rfl rfl (by decide +kernel) ⟨Nat.le_trans (m := 1) (Nat.le_of_ble_eq_true rfl) (Nat.le_trans (Nat.le_of_ble_eq_true rfl) hRf), Nat.le_trans (m := 22) (Nat.le_of_ble_eq_true rfl) (Nat.le_trans (Nat.le_of_ble_eq_true rfl) hRl)⟩) hN hK hP hD rfl rfl rfl hl.1 (Nat.le_of_ble_eq_true rfl) ⟨hRc, hRs⟩ dX3_row_131) hD hS hA rfl (fun H locs hP hD hS => ?_)
        have hf_12 := invG_6 hI r (by omega) (by omega)
        refine z_as (show (gOf (S 0)) 6 r = rowV (gOf (S 0)) r w from by first | rfl | omega | (unfold rowV; omega) | (subst_vars; unfold rowV; omega) | (subst_vars; simp [rowV])) ?_
        first | exact hret _ _ _ _ dX3_row_134 hP hD hS | (exfalso; omega)
      · refine lv_tableIn (tgt := 135) (off := 124) hx hb dX3_row_11 (by rw [iI_t (by omega)]; omega) (by rw [iI_t (by omega)]; omega) (by rw [iI_t (by omega), c_3]; rfl) (by decide) ?_
        refine lv_aload_n hx hb dX3_row_135 rfl (lv_at hl 0 rfl) ?_
        refine lv_iload_n hx hb dX3_row_136 rfl (lv_at hl 1 rfl) ?_
        refine mw_full (st1 := [.int (iI (ageZ (gOf (S 0)) r))]) (mr_V (As := [.int (iI r)]) (rest := []) (ci := 3) (q0 := 0) ⟨hx, hb, hml, hown, hts⟩ (m_X3_ageOf l D mo am cI S r hI (by omega)) (cwV 1 hts (gV q_437 q_438 q_439 q_345 q_433) rfl rfl rfl (by decide +kernel) ⟨Nat.le_trans (m := 2) (Nat.le_of_ble_eq_true rfl) (Nat.le_trans (Nat.le_of_ble_eq_true rfl) hRf), Nat.le_trans (m := 43) (Nat.le_of_ble_eq_true rfl) (Nat.le_trans (Nat.le_of_ble_eq_true rfl) hRl)⟩) hN hK hP hD rfl rfl rfl hl.1 (Nat.le_of_ble_eq_true rfl) ⟨hRc, hRs⟩ dX3_row_137) hD hS hA rfl (fun H locs hP hD hS => ?_)
        have hf_13 := age_bd hI r (by omega)
        refine z_as (show ageZ (gOf (S 0)) r = rowV (gOf (S 0)) r w from by first | rfl | omega | (unfold rowV; omega) | (subst_vars; unfold rowV; omega) | (subst_vars; simp [rowV])) ?_
        first | exact hret _ _ _ _ dX3_row_140 hP hD hS | (exfalso; omega)
      · refine lv_tableIn (tgt := 141) (off := 130) hx hb dX3_row_11 (by rw [iI_t (by omega)]; omega) (by rw [iI_t (by omega)]; omega) (by rw [iI_t (by omega), c_3]; rfl) (by decide) ?_
        refine lv_aload_n hx hb dX3_row_141 rfl (lv_at hl 0 rfl) ?_
        refine lv_iload_n hx hb dX3_row_142 rfl (lv_at hl 1 rfl) ?_
        refine mw_full (st1 := [.int (iI (toldWordZ (gOf (S 0)) r))]) (mr_V (As := [.int (iI r)]) (rest := []) (ci := 3) (q0 := 0) ⟨hx, hb, hml, hown, hts⟩ (m_X3_wordTold l D mo am cI S r hI (by omega)) (cwV 1 hts (gV q_419 q_420 q_421 q_345 q_413) rfl rfl rfl (by decide +kernel) ⟨Nat.le_trans (m := 6) (Nat.le_of_ble_eq_true rfl) (Nat.le_trans (Nat.le_of_ble_eq_true rfl) hRf), Nat.le_trans (m := 133) (Nat.le_of_ble_eq_true rfl) (Nat.le_trans (Nat.le_of_ble_eq_true rfl) hRl)⟩) hN hK hP hD rfl rfl rfl hl.1 (Nat.le_of_ble_eq_true rfl) ⟨hRc, hRs⟩ dX3_row_143) hD hS hA rfl (fun H locs hP hD hS => ?_)
        refine z_as (show toldWordZ (gOf (S 0)) r = rowV (gOf (S 0)) r w from by first | rfl | omega | (unfold rowV; omega) | (subst_vars; unfold rowV; omega) | (subst_vars; simp [rowV])) ?_
        first | exact hret _ _ _ _ dX3_row_146 hP hD hS | (exfalso; omega)
      · refine lv_tableIn (tgt := 147) (off := 136) hx hb dX3_row_11 (by rw [iI_t (by omega)]; omega) (by rw [iI_t (by omega)]; omega) (by rw [iI_t (by omega), c_3]; rfl) (by decide) ?_
        refine lv_aload_n hx hb dX3_row_147 rfl (lv_at hl 0 rfl) ?_
        refine lv_iload_n hx hb dX3_row_148 rfl (lv_at hl 1 rfl) ?_
        refine mw_full (st1 := [.int (iI (levelWordZ (gOf (S 0)) r))]) (mr_V (As := [.int (iI r)]) (rest := []) (ci := 3) (q0 := 0) ⟨hx, hb, hml, hown, hts⟩ (m_X3_wordOf l D mo am cI S r hI (by omega)) (cwV 1 hts (gV q_506 q_507 q_508 q_345 q_414) rfl rfl rfl (by decide +kernel) ⟨Nat.le_trans (m := 3) (Nat.le_of_ble_eq_true rfl) (Nat.le_trans (Nat.le_of_ble_eq_true rfl) hRf), Nat.le_trans (m := 68) (Nat.le_of_ble_eq_true rfl) (Nat.le_trans (Nat.le_of_ble_eq_true rfl) hRl)⟩) hN hK hP hD rfl rfl rfl hl.1 (Nat.le_of_ble_eq_true rfl) ⟨hRc, hRs⟩ dX3_row_149) hD hS hA rfl (fun H locs hP hD hS => ?_)
        refine z_as (show levelWordZ (gOf (S 0)) r = rowV (gOf (S 0)) r w from by first | rfl | omega | (unfold rowV; omega) | (subst_vars; unfold rowV; omega) | (subst_vars; simp [rowV])) ?_
        first | exact hret _ _ _ _ dX3_row_152 hP hD hS | (exfalso; omega)
      · refine lv_tableIn (tgt := 153) (off := 142) hx hb dX3_row_11 (by rw [iI_t (by omega)]; omega) (by rw [iI_t (by omega)]; omega) (by rw [iI_t (by omega), c_3]; rfl) (by decide) ?_
        refine lv_aload_n hx hb dX3_row_153 rfl (lv_at hl 0 rfl) ?_
        refine lv_iload_n hx hb dX3_row_154 rfl (lv_at hl 1 rfl) ?_
        refine z_iconst hx hb dX3_row_155 ?_
        refine mw_full (st1 := [.int (iI ((gOf (S 0)) 8 r))]) (mr_V (As := [.int (iI r), .int (iI 2)]) (rest := []) (ci := 3) (q0 := 0) ⟨hx, hb, hml, hown, hts⟩ (m_X3_of l D mo am cI S r 2 8 r (ix_ofr 8 (by omega) (by omega) (by omega))) (cwV 2 hts (gV q_342 q_343 q_344 q_345 q_340) rfl rfl rfl (by decide +kernel) ⟨Nat.le_trans (m := 1) (Nat.le_of_ble_eq_true rfl) (Nat.le_trans (Nat.le_of_ble_eq_true rfl) hRf), Nat.le_trans (m := 22) (Nat.le_of_ble_eq_true rfl) (Nat.le_trans (Nat.le_of_ble_eq_true rfl) hRl)⟩) hN hK hP hD rfl rfl rfl hl.1 (Nat.le_of_ble_eq_true rfl) ⟨hRc, hRs⟩ dX3_row_156) hD hS hA rfl (fun H locs hP hD hS => ?_)
        have hf_14 := invG_8 hI r (by omega) (by omega)
        refine z_as (show (gOf (S 0)) 8 r = rowV (gOf (S 0)) r w from by first | rfl | omega | (unfold rowV; omega) | (subst_vars; unfold rowV; omega) | (subst_vars; simp [rowV])) ?_
        first | exact hret _ _ _ _ dX3_row_159 hP hD hS | (exfalso; omega)
      · refine lv_tableIn (tgt := 160) (off := 149) hx hb dX3_row_11 (by rw [iI_t (by omega)]; omega) (by rw [iI_t (by omega)]; omega) (by rw [iI_t (by omega), c_3]; rfl) (by decide) ?_
        refine lv_aload_n hx hb dX3_row_160 rfl (lv_at hl 0 rfl) ?_
        refine lv_iload_n hx hb dX3_row_161 rfl (lv_at hl 1 rfl) ?_
        refine z_iconst hx hb dX3_row_162 ?_
        refine mw_full (st1 := [.int (iI ((gOf (S 0)) 9 r))]) (mr_V (As := [.int (iI r), .int (iI 3)]) (rest := []) (ci := 3) (q0 := 0) ⟨hx, hb, hml, hown, hts⟩ (m_X3_of l D mo am cI S r 3 9 r (ix_ofr 9 (by omega) (by omega) (by omega))) (cwV 2 hts (gV q_342 q_343 q_344 q_345 q_340) rfl rfl rfl (by decide +kernel) ⟨Nat.le_trans (m := 1) (Nat.le_of_ble_eq_true rfl) (Nat.le_trans (Nat.le_of_ble_eq_true rfl) hRf), Nat.le_trans (m := 22) (Nat.le_of_ble_eq_true rfl) (Nat.le_trans (Nat.le_of_ble_eq_true rfl) hRl)⟩) hN hK hP hD rfl rfl rfl hl.1 (Nat.le_of_ble_eq_true rfl) ⟨hRc, hRs⟩ dX3_row_163) hD hS hA rfl (fun H locs hP hD hS => ?_)
        have hf_15 := invG_9 hI r (by omega) (by omega)
        refine z_as (show (gOf (S 0)) 9 r = rowV (gOf (S 0)) r w from by first | rfl | omega | (unfold rowV; omega) | (subst_vars; unfold rowV; omega) | (subst_vars; simp [rowV])) ?_
        first | exact hret _ _ _ _ dX3_row_166 hP hD hS | (exfalso; omega)
  · refine z_ldc hx hb (-1000001) (by decide +kernel) hown (hq _ q_448) dX3_row_7 ?_
    refine z_as (show (-1000001) = rowV (gOf (S 0)) r w from by first | rfl | omega | (unfold rowV; omega) | (subst_vars; unfold rowV; omega) | (subst_vars; simp [rowV])) ?_
    first | exact hret _ _ _ _ dX3_row_9 hP hD hS | (exfalso; omega)
set_option maxHeartbeats 4000000 in
set_option maxRecDepth 100000 in
theorem m_X3_row_bad (l : Launch) (D : va_G) (mo : Nat) (am : Nat → Nat) (cI : ClassId) (S : Nat → Int → Int) (r w : Int) (h1 : -2147483648 ≤ r ∧ r < 2147483648) (hb0 : r < 0 ∨ 5 < r)  : MW l D yX3_row (wsY yX3_row cX3_row 3 (some .int)) { frames := 2, cells := 0, slots := 0, locals := 42 } [(cI, .int)] [.ref mo, .int (iI r), .int (iI w)] (wM mo am cI S) (wM mo am cI S) (some (.int (iI (-1000001)))) := by
  refine mw_ofI (cc := cX3_row) (maxL := 3) (by decide) rfl (Nat.le_of_ble_eq_true rfl) ?_
  intro p e s m below meth c R A Q args ls hx hb hml hown hts hRf hRl hRc hRs hN hK hP hD hS hA hret hl
  have hq : ∀ w ∈ ALL, w.before args s = true := fun w h => hts w (List.mem_cons_of_mem _ h)
  have hl : lv_has ls 3 [(0, .ref mo), (1, .int (iI r)), (2, .int (iI w))] := hl
  refine lv_iload_n hx hb dX3_row_0 rfl (lv_at hl 1 rfl) ?_
  refine mw_none (st1 := [.int (iI (if 0 ≤ r ∧ r ≤ 5 then 1 else 0 : Int))]) (mr_S (As := [.int (iI r)]) (rest := []) ⟨hx, hb, hml, hown, hts⟩ (m_X3_isRow l D r (by omega)) (va_cwS 1 hts (gS q_388 q_389 q_345 q_382) rfl rfl rfl (by decide +kernel) ⟨Nat.le_trans (m := 2) (Nat.le_of_ble_eq_true rfl) (Nat.le_trans (Nat.le_of_ble_eq_true rfl) hRf), Nat.le_trans (m := 42) (Nat.le_of_ble_eq_true rfl) (Nat.le_trans (Nat.le_of_ble_eq_true rfl) hRl)⟩) hN (hK.sub (tys' := []) [] rfl) (va_P0 _ _ _) (va_D0 A) rfl hl.1 (Nat.le_of_ble_eq_true rfl) ⟨hRc, hRs⟩ dX3_row_1) hP hS hA rfl (fun H locs hP hS => ?_)
  refine z_if_ne (tgt := 10) hx hb dX3_row_4 (by decide) (by omega) (fun c_1 => absurd c_1 (by omega)) (fun c_1 => ?_)
  refine z_ldc hx hb (-1000001) (by decide +kernel) hown (hq _ q_448) dX3_row_7 ?_
  refine z_as (show (-1000001) = -1000001 from by first | rfl | omega) ?_
  first | exact hret _ _ _ _ dX3_row_9 hP hD hS | (exfalso; omega)
set_option maxHeartbeats 4000000 in
set_option maxRecDepth 100000 in
theorem m_X3_table (l : Launch) (D : va_G) (mo : Nat) (am : Nat → Nat) (cI : ClassId) (S : Nat → Int → Int) (v t2 : Int) (h1 : 0 ≤ v ∧ v < 3) (h2 : 0 ≤ t2 ∧ t2 < 3)  : MW l D yX3_table (wsY yX3_table cX3_table 3 (some .int)) { frames := 2, cells := 0, slots := 0, locals := 42 } [(cI, .int)] [.ref mo, .int (iI v), .int (iI t2)] (wM mo am cI S) (wM mo am cI S) (some (.int (iI ((gOf (S 0)) 10 (3 * v + t2))))) := by
  refine mw_ofI (cc := cX3_table) (maxL := 3) (by decide) rfl (Nat.le_of_ble_eq_true rfl) ?_
  intro p e s m below meth c R A Q args ls hx hb hml hown hts hRf hRl hRc hRs hN hK hP hD hS hA hret hl
  have hq : ∀ w ∈ ALL, w.before args s = true := fun w h => hts w (List.mem_cons_of_mem _ h)
  have hl : lv_has ls 3 [(0, .ref mo), (1, .int (iI v)), (2, .int (iI t2))] := hl
  refine lv_iload_n hx hb dX3_table_0 rfl (lv_at hl 1 rfl) ?_
  refine mw_none (st1 := [.int (iI (if 0 ≤ v ∧ v ≤ 2 then 1 else 0 : Int))]) (mr_S (As := [.int (iI v)]) (rest := []) ⟨hx, hb, hml, hown, hts⟩ (m_X3_isThree l D v (by omega)) (va_cwS 1 hts (gS q_451 q_452 q_345 q_384) rfl rfl rfl (by decide +kernel) ⟨Nat.le_trans (m := 2) (Nat.le_of_ble_eq_true rfl) (Nat.le_trans (Nat.le_of_ble_eq_true rfl) hRf), Nat.le_trans (m := 42) (Nat.le_of_ble_eq_true rfl) (Nat.le_trans (Nat.le_of_ble_eq_true rfl) hRl)⟩) hN (hK.sub (tys' := []) [] rfl) (va_P0 _ _ _) (va_D0 A) rfl hl.1 (Nat.le_of_ble_eq_true rfl) ⟨hRc, hRs⟩ dX3_table_1) hP hS hA rfl (fun H locs hP hS => ?_)
  refine z_if_eq (tgt := 30) hx hb dX3_table_4 (by decide) (by omega) (fun c_1 => ?_) (fun c_1 => ?_)
  · refine z_ldc hx hb (-1000001) (by decide +kernel) hown (hq _ q_448) dX3_table_30 ?_
    refine z_as (show (-1000001) = (gOf (S 0)) 10 (3 * v + t2) from by first | rfl | omega) ?_
    first | exact hret _ _ _ _ dX3_table_32 hP hD hS | (exfalso; omega)
  · refine lv_iload_n hx hb dX3_table_7 rfl (lv_at hl 2 rfl) ?_
    refine mw_none (st1 := [.int (iI (if 0 ≤ t2 ∧ t2 ≤ 2 then 1 else 0 : Int))]) (mr_S (As := [.int (iI t2)]) (rest := []) ⟨hx, hb, hml, hown, hts⟩ (m_X3_isThree l D t2 (by omega)) (va_cwS 1 hts (gS q_451 q_452 q_345 q_384) rfl rfl rfl (by decide +kernel) ⟨Nat.le_trans (m := 2) (Nat.le_of_ble_eq_true rfl) (Nat.le_trans (Nat.le_of_ble_eq_true rfl) hRf), Nat.le_trans (m := 42) (Nat.le_of_ble_eq_true rfl) (Nat.le_trans (Nat.le_of_ble_eq_true rfl) hRl)⟩) hN (hK.sub (tys' := []) [] rfl) (va_P0 _ _ _) (va_D0 A) rfl hl.1 (Nat.le_of_ble_eq_true rfl) ⟨hRc, hRs⟩ dX3_table_8) hP hS hA rfl (fun H locs hP hS => ?_)
    refine z_if_eq (tgt := 30) hx hb dX3_table_11 (by decide) (by omega) (fun c_2 => ?_) (fun c_2 => ?_)
    · refine z_ldc hx hb (-1000001) (by decide +kernel) hown (hq _ q_448) dX3_table_30 ?_
      refine z_as (show (-1000001) = (gOf (S 0)) 10 (3 * v + t2) from by first | rfl | omega) ?_
      first | exact hret _ _ _ _ dX3_table_32 hP hD hS | (exfalso; omega)
    · refine lv_aload_n hx hb dX3_table_14 rfl (lv_at hl 0 rfl) ?_
      refine va_get (D := D) (ci := 3) (v := .ref (am 0)) (C := RX3) (T := TX3) (N := 14) hx hb hq inA3 hown hK hP 0 rfl rfl 0 (by decide) (hq _ q_338) (fun _ h9 => h9) rfl dX3_table_15 ?_
      refine z_bipush hx hb dX3_table_18 (by decide +kernel) ?_
      refine z_iconst hx hb dX3_table_20 ?_
      refine lv_iload_n hx hb dX3_table_21 rfl (lv_at hl 1 rfl) ?_
      refine z_imul hx hb dX3_table_22 ?_
      refine z_iadd hx hb dX3_table_23 ?_
      refine lv_iload_n hx hb dX3_table_24 rfl (lv_at hl 2 rfl) ?_
      refine z_iadd hx hb dX3_table_25 ?_
      refine z_iald hx hb hK hP 1 0 rfl rfl (by omega) (by omega) (v := (gOf (S 0) 10 (3 * v + t2))) (s_10 _ (by omega) (by omega)) dX3_table_26 ?_
      refine lv_goto (tgt := 32) hx hb dX3_table_27 (by decide) ?_
      refine z_as (show (gOf (S 0) 10 (3 * v + t2)) = (gOf (S 0)) 10 (3 * v + t2) from by first | rfl | omega) ?_
      first | exact hret _ _ _ _ dX3_table_32 hP hD hS | (exfalso; omega)
set_option maxHeartbeats 4000000 in
set_option maxRecDepth 100000 in
theorem m_X3_table_bad (l : Launch) (D : va_G) (mo : Nat) (am : Nat → Nat) (cI : ClassId) (S : Nat → Int → Int) (v t2 : Int) (h1 : -2147483648 ≤ v ∧ v < 2147483648) (h2 : -2147483648 ≤ t2 ∧ t2 < 2147483648) (hb0 : v < 0 ∨ 2 < v ∨ t2 < 0 ∨ 2 < t2)  : MW l D yX3_table (wsY yX3_table cX3_table 3 (some .int)) { frames := 2, cells := 0, slots := 0, locals := 42 } [(cI, .int)] [.ref mo, .int (iI v), .int (iI t2)] (wM mo am cI S) (wM mo am cI S) (some (.int (iI (-1000001)))) := by
  refine mw_ofI (cc := cX3_table) (maxL := 3) (by decide) rfl (Nat.le_of_ble_eq_true rfl) ?_
  intro p e s m below meth c R A Q args ls hx hb hml hown hts hRf hRl hRc hRs hN hK hP hD hS hA hret hl
  have hq : ∀ w ∈ ALL, w.before args s = true := fun w h => hts w (List.mem_cons_of_mem _ h)
  have hl : lv_has ls 3 [(0, .ref mo), (1, .int (iI v)), (2, .int (iI t2))] := hl
  refine lv_iload_n hx hb dX3_table_0 rfl (lv_at hl 1 rfl) ?_
  refine mw_none (st1 := [.int (iI (if 0 ≤ v ∧ v ≤ 2 then 1 else 0 : Int))]) (mr_S (As := [.int (iI v)]) (rest := []) ⟨hx, hb, hml, hown, hts⟩ (m_X3_isThree l D v (by omega)) (va_cwS 1 hts (gS q_451 q_452 q_345 q_384) rfl rfl rfl (by decide +kernel) ⟨Nat.le_trans (m := 2) (Nat.le_of_ble_eq_true rfl) (Nat.le_trans (Nat.le_of_ble_eq_true rfl) hRf), Nat.le_trans (m := 42) (Nat.le_of_ble_eq_true rfl) (Nat.le_trans (Nat.le_of_ble_eq_true rfl) hRl)⟩) hN (hK.sub (tys' := []) [] rfl) (va_P0 _ _ _) (va_D0 A) rfl hl.1 (Nat.le_of_ble_eq_true rfl) ⟨hRc, hRs⟩ dX3_table_1) hP hS hA rfl (fun H locs hP hS => ?_)
  refine z_if_eq (tgt := 30) hx hb dX3_table_4 (by decide) (by omega) (fun c_1 => ?_) (fun c_1 => ?_)
  · refine z_ldc hx hb (-1000001) (by decide +kernel) hown (hq _ q_448) dX3_table_30 ?_
    refine z_as (show (-1000001) = -1000001 from by first | rfl | omega) ?_
    first | exact hret _ _ _ _ dX3_table_32 hP hD hS | (exfalso; omega)
  · refine lv_iload_n hx hb dX3_table_7 rfl (lv_at hl 2 rfl) ?_
    refine mw_none (st1 := [.int (iI (if 0 ≤ t2 ∧ t2 ≤ 2 then 1 else 0 : Int))]) (mr_S (As := [.int (iI t2)]) (rest := []) ⟨hx, hb, hml, hown, hts⟩ (m_X3_isThree l D t2 (by omega)) (va_cwS 1 hts (gS q_451 q_452 q_345 q_384) rfl rfl rfl (by decide +kernel) ⟨Nat.le_trans (m := 2) (Nat.le_of_ble_eq_true rfl) (Nat.le_trans (Nat.le_of_ble_eq_true rfl) hRf), Nat.le_trans (m := 42) (Nat.le_of_ble_eq_true rfl) (Nat.le_trans (Nat.le_of_ble_eq_true rfl) hRl)⟩) hN (hK.sub (tys' := []) [] rfl) (va_P0 _ _ _) (va_D0 A) rfl hl.1 (Nat.le_of_ble_eq_true rfl) ⟨hRc, hRs⟩ dX3_table_8) hP hS hA rfl (fun H locs hP hS => ?_)
    refine z_if_eq (tgt := 30) hx hb dX3_table_11 (by decide) (by omega) (fun c_2 => ?_) (fun c_2 => ?_)
    · refine z_ldc hx hb (-1000001) (by decide +kernel) hown (hq _ q_448) dX3_table_30 ?_
      refine z_as (show (-1000001) = -1000001 from by first | rfl | omega) ?_
      first | exact hret _ _ _ _ dX3_table_32 hP hD hS | (exfalso; omega)
    · refine lv_aload_n hx hb dX3_table_14 rfl (lv_at hl 0 rfl) ?_
      refine va_get (D := D) (ci := 3) (v := .ref (am 0)) (C := RX3) (T := TX3) (N := 14) hx hb hq inA3 hown hK hP 0 rfl rfl 0 (by decide) (hq _ q_338) (fun _ h9 => h9) rfl dX3_table_15 ?_
      refine z_bipush hx hb dX3_table_18 (by decide +kernel) ?_
      refine z_iconst hx hb dX3_table_20 ?_
      refine lv_iload_n hx hb dX3_table_21 rfl (lv_at hl 1 rfl) ?_
      refine z_imul hx hb dX3_table_22 ?_
      refine z_iadd hx hb dX3_table_23 ?_
      refine lv_iload_n hx hb dX3_table_24 rfl (lv_at hl 2 rfl) ?_
      refine z_iadd hx hb dX3_table_25 ?_
      refine z_iald hx hb hK hP 1 0 rfl rfl (by omega) (by omega) (v := (S 0 ((8 + (3 * v)) + t2))) rfl dX3_table_26 ?_
      refine lv_goto (tgt := 32) hx hb dX3_table_27 (by decide) ?_
      refine z_as (show (S 0 ((8 + (3 * v)) + t2)) = -1000001 from by first | rfl | omega) ?_
      first | exact hret _ _ _ _ dX3_table_32 hP hD hS | (exfalso; omega)
set_option maxHeartbeats 4000000 in
set_option maxRecDepth 100000 in
theorem m_X3_wrongAll (l : Launch) (D : va_G) (mo : Nat) (am : Nat → Nat) (cI : ClassId) (S : Nat → Int → Int) {B : Int} (hI : InvG B (gOf (S 0)))  : MW l D yX3_wrongAll (wsY yX3_wrongAll cX3_wrongAll 3 (some .int)) { frames := 6, cells := 0, slots := 0, locals := 133 } [(cI, .int)] [.ref mo] (wM mo am cI S) (wM mo am cI S) (some (.int (iI (allWrongZ (gOf (S 0)) 6)))) := by
  refine mw_ofI (cc := cX3_wrongAll) (maxL := 3) (by decide) rfl (Nat.le_of_ble_eq_true rfl) ?_
  intro p e s m below meth c R A Q args ls hx hb hml hown hts hRf hRl hRc hRs hN hK hP hD hS hA hret hl
  have hq : ∀ w ∈ ALL, w.before args s = true := fun w h => hts w (List.mem_cons_of_mem _ h)
  have hl : lv_has ls 3 [(0, .ref mo)] := hl
  refine z_iconst hx hb dX3_wrongAll_0 ?_
  refine lv_istore_n (lv' := [(1, .int (iI 0)), (0, .ref mo)]) hx hb dX3_wrongAll_1 rfl hl (by decide) rfl (fun ls hl => ?_)
  refine z_iconst hx hb dX3_wrongAll_2 ?_
  refine lv_istore_n (lv' := [(2, .int (iI 0)), (1, .int (iI 0)), (0, .ref mo)]) hx hb dX3_wrongAll_3 rfl hl (by decide) rfl (fun ls hl => ?_)
  have LP4 : ∀ (fu i : Nat), i ≤ 6 → 6 < fu + i → ∀ (H : Heap) (locs : List Loc) (ls : Array Slot), va_P D vwCl (wM mo am cI S) H → va_D A (wM mo am cI S) → va_S A s.heap H locs → lv_has ls 3 [(2, .int (iI (i : Int))), (1, .int (iI (allWrongZ (gOf (S 0)) i))), (0, .ref mo)] → W p l e R s m args below meth c H locs 0 0 Q (F0 m 4 ls []) := by
    intro fu
    induction fu with
    | zero => intro i h1 h2; omega
    | succ fu ih4 =>
      intro i hi1 hif H locs ls hP hD hS hl
      refine lv_iload_n hx hb dX3_wrongAll_4 rfl (lv_at hl 0 rfl) ?_
      refine z_bipush hx hb dX3_wrongAll_5 (by decide +kernel) ?_
      refine z_icmp_ge (tgt := 24) hx hb dX3_wrongAll_7 (by decide) (by omega) (by omega) (fun c_1 => ?_) (fun c_1 => ?_)
      · refine lv_iload_n hx hb dX3_wrongAll_24 rfl (lv_at hl 1 rfl) ?_
        refine z_as (show (allWrongZ (gOf (S 0)) i) = allWrongZ (gOf (S 0)) 6 from by (have hiN : i = 6 := by omega); rw [hiN]; first | done | rfl) ?_
        first | exact hret _ _ _ _ dX3_wrongAll_25 hP hD hS | (exfalso; omega)
      · refine lv_iload_n hx hb dX3_wrongAll_10 rfl (lv_at hl 1 rfl) ?_
        refine lv_aload_n hx hb dX3_wrongAll_11 rfl (lv_at hl 2 rfl) ?_
        refine lv_iload_n hx hb dX3_wrongAll_12 rfl (lv_at hl 0 rfl) ?_
        refine mw_full (st1 := [.int (iI (wrongZ (gOf (S 0)) (i : Int))), .int (iI (allWrongZ (gOf (S 0)) i))]) (mr_V (As := [.int (iI (i : Int))]) (rest := [.int (iI (allWrongZ (gOf (S 0)) i))]) (ci := 3) (q0 := 0) ⟨hx, hb, hml, hown, hts⟩ (m_X3_wrong l D mo am cI S (i : Int) hI (by omega)) (cwV 1 hts (gV q_416 q_417 q_418 q_345 q_412) rfl rfl rfl (by decide +kernel) ⟨Nat.le_trans (m := 6) (Nat.le_of_ble_eq_true rfl) (Nat.le_trans (Nat.le_of_ble_eq_true rfl) hRf), Nat.le_trans (m := 133) (Nat.le_of_ble_eq_true rfl) (Nat.le_trans (Nat.le_of_ble_eq_true rfl) hRl)⟩) hN hK hP hD rfl rfl rfl hl.1 (Nat.le_of_ble_eq_true rfl) ⟨hRc, hRs⟩ dX3_wrongAll_13) hD hS hA rfl (fun H locs hP hD hS => ?_)
        have hf_2 := wrongZ_bd (gOf (S 0)) (i : Int)
        refine z_iadd hx hb dX3_wrongAll_16 ?_
        refine lv_istore_n (lv' := [(1, .int (iI ((allWrongZ (gOf (S 0)) i) + wrongZ (gOf (S 0)) (i : Int)))), (2, .int (iI (i : Int))), (0, .ref mo)]) hx hb dX3_wrongAll_17 rfl hl (by decide) rfl (fun ls hl => ?_)
        refine lv_iinc (v := iI ((i : Int) + 1)) (lv' := [(2, .int (iI ((i : Int) + 1))), (1, .int (iI ((allWrongZ (gOf (S 0)) i) + wrongZ (gOf (S 0)) (i : Int)))), (0, .ref mo)]) hx hb dX3_wrongAll_18 hl (k := 1) rfl (iI_add _ _) (by decide) rfl (fun ls hl => ?_)
        refine lv_goto (tgt := 4) hx hb dX3_wrongAll_21 (by decide) ?_
        have e1_0 : (((i + 1 : Nat) : Int)) = ((i : Int) + 1) := by first | rfl | omega
        have e1_1 : ((allWrongZ (gOf (S 0)) (i + 1))) = ((allWrongZ (gOf (S 0)) i) + wrongZ (gOf (S 0)) (i : Int)) := by first | rfl | omega
        exact ih4 (i + 1) (by omega) (by omega) _ _ _ hP hD hS (lv_to (lv_sub (l' := [(2, .int (iI ((i : Int) + 1))), (1, .int (iI ((allWrongZ (gOf (S 0)) i) + wrongZ (gOf (S 0)) (i : Int)))), (0, .ref mo)]) hl [0, 1, 2] rfl) (by simp only [e1_0, e1_1]))
  have e0_0 : (((0 : Nat) : Int)) = 0 := by first | rfl | omega
  have e0_1 : ((allWrongZ (gOf (S 0)) (0))) = 0 := by first | rfl | omega
  exact LP4 (6 + 1) 0 (by omega) (by omega) _ _ _ hP hD hS (lv_to (lv_sub (l' := [(2, .int (iI 0)), (1, .int (iI 0)), (0, .ref mo)]) hl [0, 1, 2] rfl) (by simp only [e0_0, e0_1]))
set_option maxHeartbeats 4000000 in
set_option maxRecDepth 100000 in
theorem m_X3_isOf (l : Launch) (D : va_G) (mo : Nat) (am : Nat → Nat) (cI : ClassId) (S : Nat → Int → Int) (r w : Int) {B : Int} (hI : InvG B (gOf (S 0))) (h1 : 0 ≤ r ∧ r < 6) (h2 : 2 ≤ w ∧ w ≤ 5)  : MW l D yX3_isOf (wsY yX3_isOf cX3_isOf 3 (some .boolean)) { frames := 6, cells := 0, slots := 0, locals := 133 } [(cI, .int)] [.ref mo, .int (iI r), .int (iI w)] (wM mo am cI S) (wM mo am cI S) (some (.int (iI (ioV (gOf (S 0)) r w)))) := by
  refine mw_ofZ (cc := cX3_isOf) (maxL := 3) (ty := .boolean) (narrow_z01 (io_01 _ r w)) (by decide) rfl (Nat.le_of_ble_eq_true rfl) ?_
  intro p e s m below meth c R A Q args ls hx hb hml hown hts hRf hRl hRc hRs hN hK hP hD hS hA hret hl
  have hq : ∀ w ∈ ALL, w.before args s = true := fun w h => hts w (List.mem_cons_of_mem _ h)
  have hl : lv_has ls 3 [(0, .ref mo), (1, .int (iI r)), (2, .int (iI w))] := hl
  refine lv_iload_n hx hb dX3_isOf_0 rfl (lv_at hl 2 rfl) ?_
  refine z_iconst hx hb dX3_isOf_1 ?_
  refine z_icmp_ne (tgt := 21) hx hb dX3_isOf_2 (by decide) (by omega) (by omega) (fun c_1 => ?_) (fun c_1 => ?_)
  · refine lv_iload_n hx hb dX3_isOf_21 rfl (lv_at hl 2 rfl) ?_
    refine z_iconst hx hb dX3_isOf_22 ?_
    refine z_icmp_ne (tgt := 34) hx hb dX3_isOf_23 (by decide) (by omega) (by omega) (fun c_2 => ?_) (fun c_2 => ?_)
    · refine lv_aload_n hx hb dX3_isOf_34 rfl (lv_at hl 0 rfl) ?_
      refine lv_iload_n hx hb dX3_isOf_35 rfl (lv_at hl 1 rfl) ?_
      refine mw_full (st1 := [.int (iI (sourceZ (gOf (S 0)) r))]) (mr_V (As := [.int (iI r)]) (rest := []) (ci := 3) (q0 := 0) ⟨hx, hb, hml, hown, hts⟩ (m_X3_source l D mo am cI S r hI (by omega)) (cwV 1 hts (gV q_500 q_501 q_502 q_345 q_397) rfl rfl rfl (by decide +kernel) ⟨Nat.le_trans (m := 4) (Nat.le_of_ble_eq_true rfl) (Nat.le_trans (Nat.le_of_ble_eq_true rfl) hRf), Nat.le_trans (m := 85) (Nat.le_of_ble_eq_true rfl) (Nat.le_trans (Nat.le_of_ble_eq_true rfl) hRl)⟩) hN hK hP hD rfl rfl rfl hl.1 (Nat.le_of_ble_eq_true rfl) ⟨hRc, hRs⟩ dX3_isOf_36) hD hS hA rfl (fun H locs hP hD hS => ?_)
      have hf_3 : 0 ≤ sourceZ (gOf (S 0)) r ∧ sourceZ (gOf (S 0)) r ≤ 2 := by unfold sourceZ; omega
      refine lv_iload_n hx hb dX3_isOf_39 rfl (lv_at hl 2 rfl) ?_
      refine z_iconst hx hb dX3_isOf_40 ?_
      refine z_isub hx hb dX3_isOf_41 ?_
      refine z_icmp_ne (tgt := 49) hx hb dX3_isOf_42 (by decide) (by omega) (by omega) (fun c_4 => ?_) (fun c_4 => ?_)
      · refine z_iconst hx hb dX3_isOf_49 ?_
        refine z_as (show 0 = ioV (gOf (S 0)) r w from by (have h0 := src_0 (gOf (S 0)) r; unfold ioV; omega)) ?_
        first | exact hret _ _ _ _ dX3_isOf_50 hP hD hS | (exfalso; omega)
      · refine z_iconst hx hb dX3_isOf_45 ?_
        refine lv_goto (tgt := 50) hx hb dX3_isOf_46 (by decide) ?_
        refine z_as (show 1 = ioV (gOf (S 0)) r w from by (have h0 := src_0 (gOf (S 0)) r; unfold ioV; omega)) ?_
        first | exact hret _ _ _ _ dX3_isOf_50 hP hD hS | (exfalso; omega)
    · refine lv_aload_n hx hb dX3_isOf_26 rfl (lv_at hl 0 rfl) ?_
      refine lv_iload_n hx hb dX3_isOf_27 rfl (lv_at hl 1 rfl) ?_
      refine mw_full (st1 := [.int (iI (rightZ (gOf (S 0)) r))]) (mr_V (As := [.int (iI r)]) (rest := []) (ci := 3) (q0 := 0) ⟨hx, hb, hml, hown, hts⟩ (m_X3_isRight l D mo am cI S r hI (by omega)) (cwV 1 hts (gV q_390 q_391 q_392 q_345 q_387) rfl rfl rfl (by decide +kernel) ⟨Nat.le_trans (m := 2) (Nat.le_of_ble_eq_true rfl) (Nat.le_trans (Nat.le_of_ble_eq_true rfl) hRf), Nat.le_trans (m := 43) (Nat.le_of_ble_eq_true rfl) (Nat.le_trans (Nat.le_of_ble_eq_true rfl) hRl)⟩) hN hK hP hD rfl rfl rfl hl.1 (Nat.le_of_ble_eq_true rfl) ⟨hRc, hRs⟩ dX3_isOf_28) hD hS hA rfl (fun H locs hP hD hS => ?_)
      have hf_5 := rightZ_01 (gOf (S 0)) r
      refine lv_goto (tgt := 50) hx hb dX3_isOf_31 (by decide) ?_
      refine z_as (show rightZ (gOf (S 0)) r = ioV (gOf (S 0)) r w from by (have h0 := src_0 (gOf (S 0)) r; unfold ioV; omega)) ?_
      first | exact hret _ _ _ _ dX3_isOf_50 hP hD hS | (exfalso; omega)
  · refine lv_aload_n hx hb dX3_isOf_5 rfl (lv_at hl 0 rfl) ?_
    refine lv_iload_n hx hb dX3_isOf_6 rfl (lv_at hl 1 rfl) ?_
    refine mw_full (st1 := [.int (iI (wrongZ (gOf (S 0)) r))]) (mr_V (As := [.int (iI r)]) (rest := []) (ci := 3) (q0 := 0) ⟨hx, hb, hml, hown, hts⟩ (m_X3_wrong l D mo am cI S r hI (by omega)) (cwV 1 hts (gV q_416 q_417 q_418 q_345 q_412) rfl rfl rfl (by decide +kernel) ⟨Nat.le_trans (m := 6) (Nat.le_of_ble_eq_true rfl) (Nat.le_trans (Nat.le_of_ble_eq_true rfl) hRf), Nat.le_trans (m := 133) (Nat.le_of_ble_eq_true rfl) (Nat.le_trans (Nat.le_of_ble_eq_true rfl) hRl)⟩) hN hK hP hD rfl rfl rfl hl.1 (Nat.le_of_ble_eq_true rfl) ⟨hRc, hRs⟩ dX3_isOf_7) hD hS hA rfl (fun H locs hP hD hS => ?_)
    have hf_6 := wrongZ_bd (gOf (S 0)) r
    refine z_if_le (tgt := 17) hx hb dX3_isOf_10 (by decide) (by omega) (fun c_7 => ?_) (fun c_7 => ?_)
    · refine z_iconst hx hb dX3_isOf_17 ?_
      refine lv_goto (tgt := 50) hx hb dX3_isOf_18 (by decide) ?_
      refine z_as (show 0 = ioV (gOf (S 0)) r w from by (have h0 := src_0 (gOf (S 0)) r; unfold ioV; omega)) ?_
      first | exact hret _ _ _ _ dX3_isOf_50 hP hD hS | (exfalso; omega)
    · refine z_iconst hx hb dX3_isOf_13 ?_
      refine lv_goto (tgt := 50) hx hb dX3_isOf_14 (by decide) ?_
      refine z_as (show 1 = ioV (gOf (S 0)) r w from by (have h0 := src_0 (gOf (S 0)) r; unfold ioV; omega)) ?_
      first | exact hret _ _ _ _ dX3_isOf_50 hP hD hS | (exfalso; omega)
set_option maxHeartbeats 4000000 in
set_option maxRecDepth 100000 in
theorem m_X3_setOf (l : Launch) (D : va_G) (mo : Nat) (am : Nat → Nat) (cI : ClassId) (S : Nat → Int → Int) (w : Int) {B : Int} (hI : InvG B (gOf (S 0))) (h1 : 2 ≤ w ∧ w ≤ 5)  : MW l D yX3_setOf (wsY yX3_setOf cX3_setOf 4 (some .int)) { frames := 7, cells := 0, slots := 0, locals := 155 } [(cI, .int)] [.ref mo, .int (iI w)] (wM mo am cI S) (wM mo am cI S) (some (.int (iI (soV (gOf (S 0)) w 6)))) := by
  refine mw_ofI (cc := cX3_setOf) (maxL := 4) (by decide) rfl (Nat.le_of_ble_eq_true rfl) ?_
  intro p e s m below meth c R A Q args ls hx hb hml hown hts hRf hRl hRc hRs hN hK hP hD hS hA hret hl
  have hq : ∀ w ∈ ALL, w.before args s = true := fun w h => hts w (List.mem_cons_of_mem _ h)
  have hl : lv_has ls 4 [(0, .ref mo), (1, .int (iI w))] := hl
  refine z_iconst hx hb dX3_setOf_0 ?_
  refine lv_istore_n (lv' := [(2, .int (iI 0)), (0, .ref mo), (1, .int (iI w))]) hx hb dX3_setOf_1 rfl hl (by decide) rfl (fun ls hl => ?_)
  refine z_iconst hx hb dX3_setOf_2 ?_
  refine lv_istore_n (lv' := [(3, .int (iI 0)), (2, .int (iI 0)), (0, .ref mo), (1, .int (iI w))]) hx hb dX3_setOf_3 rfl hl (by decide) rfl (fun ls hl => ?_)
  have LP4 : ∀ (fu i : Nat), i ≤ 6 → 6 < fu + i → ∀ (H : Heap) (locs : List Loc) (ls : Array Slot), va_P D vwCl (wM mo am cI S) H → va_D A (wM mo am cI S) → va_S A s.heap H locs → lv_has ls 4 [(3, .int (iI (i : Int))), (2, .int (iI (soV (gOf (S 0)) w i))), (0, .ref mo), (1, .int (iI w))] → W p l e R s m args below meth c H locs 0 0 Q (F0 m 4 ls []) := by
    intro fu
    induction fu with
    | zero => intro i h1 h2; omega
    | succ fu ih4 =>
      intro i hi1 hif H locs ls hP hD hS hl
      have hbb : 0 ≤ soV (gOf (S 0)) w i ∧ soV (gOf (S 0)) w i < ((2 ^ i : Nat) : Int) := bits_bd (fun r => ioV (gOf (S 0)) r w) i
      refine lv_iload_n hx hb dX3_setOf_4 rfl (lv_at hl 0 rfl) ?_
      refine z_bipush hx hb dX3_setOf_5 (by decide +kernel) ?_
      refine z_icmp_ge (tgt := 35) hx hb dX3_setOf_7 (by decide) (by omega) (by omega) (fun c_1 => ?_) (fun c_1 => ?_)
      · refine lv_iload_n hx hb dX3_setOf_35 rfl (lv_at hl 1 rfl) ?_
        refine z_as (show (soV (gOf (S 0)) w i) = soV (gOf (S 0)) w 6 from by (have hiN : i = 6 := by omega); rw [hiN]; first | done | rfl) ?_
        first | exact hret _ _ _ _ dX3_setOf_36 hP hD hS | (exfalso; omega)
      · refine lv_iload_n hx hb dX3_setOf_10 rfl (lv_at hl 1 rfl) ?_
        refine lv_aload_n hx hb dX3_setOf_11 rfl (lv_at hl 2 rfl) ?_
        refine lv_iload_n hx hb dX3_setOf_12 rfl (lv_at hl 0 rfl) ?_
        refine lv_iload_n hx hb dX3_setOf_13 rfl (lv_at hl 3 rfl) ?_
        refine mw_full (st1 := [.int (iI (ioV (gOf (S 0)) (i : Int) w)), .int (iI (soV (gOf (S 0)) w i))]) (mr_V (As := [.int (iI (i : Int)), .int (iI w)]) (rest := [.int (iI (soV (gOf (S 0)) w i))]) (ci := 3) (q0 := 0) ⟨hx, hb, hml, hown, hts⟩ (m_X3_isOf l D mo am cI S (i : Int) w hI (by omega) (by omega)) (cwV 2 hts (gV q_537 q_538 q_539 q_345 q_536) rfl rfl rfl (by decide +kernel) ⟨Nat.le_trans (m := 7) (Nat.le_of_ble_eq_true rfl) (Nat.le_trans (Nat.le_of_ble_eq_true rfl) hRf), Nat.le_trans (m := 155) (Nat.le_of_ble_eq_true rfl) (Nat.le_trans (Nat.le_of_ble_eq_true rfl) hRl)⟩) hN hK hP hD rfl rfl rfl hl.1 (Nat.le_of_ble_eq_true rfl) ⟨hRc, hRs⟩ dX3_setOf_14) hD hS hA rfl (fun H locs hP hD hS => ?_)
        have hf_2 := io_01 (gOf (S 0)) (i : Int) w
        refine z_if_eq (tgt := 26) hx hb dX3_setOf_17 (by decide) (by omega) (fun c_3 => ?_) (fun c_3 => ?_)
        · refine z_iconst hx hb dX3_setOf_26 ?_
          refine lv_ior hx hb dX3_setOf_27 ?_
          refine z_asB (b := (soV (gOf (S 0)) w i)) or_0 ?_
          refine lv_istore_n (lv' := [(2, .int (iI (soV (gOf (S 0)) w i))), (3, .int (iI (i : Int))), (0, .ref mo), (1, .int (iI w))]) hx hb dX3_setOf_28 rfl hl (by decide) rfl (fun ls hl => ?_)
          refine lv_iinc (v := iI ((i : Int) + 1)) (lv' := [(3, .int (iI ((i : Int) + 1))), (2, .int (iI (soV (gOf (S 0)) w i))), (0, .ref mo), (1, .int (iI w))]) hx hb dX3_setOf_29 hl (k := 1) rfl (iI_add _ _) (by decide) rfl (fun ls hl => ?_)
          refine lv_goto (tgt := 4) hx hb dX3_setOf_32 (by decide) ?_
          have e1_0 : (((i + 1 : Nat) : Int)) = ((i : Int) + 1) := by first | omega | (simp only [soV, bitsZ]; split <;> first | (exfalso; omega) | rfl)
          have e1_1 : ((soV (gOf (S 0)) w (i + 1))) = (soV (gOf (S 0)) w i) := by first | omega | (simp only [soV, bitsZ]; split <;> first | (exfalso; omega) | rfl)
          exact ih4 (i + 1) (by omega) (by omega) _ _ _ hP hD hS (lv_to (lv_sub (l' := [(3, .int (iI ((i : Int) + 1))), (2, .int (iI (soV (gOf (S 0)) w i))), (0, .ref mo), (1, .int (iI w))]) hl [0, 1, 2, 3] rfl) (by simp only [e1_0, e1_1]))
        · refine z_iconst hx hb dX3_setOf_20 ?_
          refine lv_iload_n hx hb dX3_setOf_21 rfl (lv_at hl 0 rfl) ?_
          refine lv_ishl hx hb dX3_setOf_22 ?_
          refine lv_goto (tgt := 27) hx hb dX3_setOf_23 (by decide) ?_
          refine lv_ior hx hb dX3_setOf_27 ?_
          refine z_asB (b := (soV (gOf (S 0)) w i + ((2 ^ i : Nat) : Int))) (bit_or i (by omega) hbb) ?_
          refine lv_istore_n (lv' := [(2, .int (iI (soV (gOf (S 0)) w i + ((2 ^ i : Nat) : Int)))), (3, .int (iI (i : Int))), (0, .ref mo), (1, .int (iI w))]) hx hb dX3_setOf_28 rfl hl (by decide) rfl (fun ls hl => ?_)
          refine lv_iinc (v := iI ((i : Int) + 1)) (lv' := [(3, .int (iI ((i : Int) + 1))), (2, .int (iI (soV (gOf (S 0)) w i + ((2 ^ i : Nat) : Int)))), (0, .ref mo), (1, .int (iI w))]) hx hb dX3_setOf_29 hl (k := 1) rfl (iI_add _ _) (by decide) rfl (fun ls hl => ?_)
          refine lv_goto (tgt := 4) hx hb dX3_setOf_32 (by decide) ?_
          have e1_0 : (((i + 1 : Nat) : Int)) = ((i : Int) + 1) := by first | omega | (simp only [soV, bitsZ]; split <;> first | (exfalso; omega) | rfl)
          have e1_1 : ((soV (gOf (S 0)) w (i + 1))) = (soV (gOf (S 0)) w i + ((2 ^ i : Nat) : Int)) := by first | omega | (simp only [soV, bitsZ]; split <;> first | (exfalso; omega) | rfl)
          exact ih4 (i + 1) (by omega) (by omega) _ _ _ hP hD hS (lv_to (lv_sub (l' := [(3, .int (iI ((i : Int) + 1))), (2, .int (iI (soV (gOf (S 0)) w i + ((2 ^ i : Nat) : Int)))), (0, .ref mo), (1, .int (iI w))]) hl [0, 1, 2, 3] rfl) (by simp only [e1_0, e1_1]))
  have e0_0 : (((0 : Nat) : Int)) = 0 := by first | rfl | omega
  have e0_1 : ((soV (gOf (S 0)) w (0))) = 0 := by first | rfl | omega
  exact LP4 (6 + 1) 0 (by omega) (by omega) _ _ _ hP hD hS (lv_to (lv_sub (l' := [(3, .int (iI 0)), (2, .int (iI 0)), (0, .ref mo), (1, .int (iI w))]) hl [0, 1, 2, 3] rfl) (by simp only [e0_0, e0_1]))
set_option maxHeartbeats 4000000 in
set_option maxRecDepth 100000 in
theorem m_X3_failed (l : Launch) (D : va_G) (mo : Nat) (am : Nat → Nat) (cI : ClassId) (S : Nat → Int → Int) {B : Int} (hI : InvG B (gOf (S 0)))  : MW l D yX3_failed (wsY yX3_failed cX3_failed 3 (some .int)) { frames := 1, cells := 0, slots := 0, locals := 22 } [(cI, .int)] [.ref mo] (wM mo am cI S) (wM mo am cI S) (some (.int (iI (sumZ 18 ((gOf (S 0)) 5))))) := by
  refine mw_ofI (cc := cX3_failed) (maxL := 3) (by decide) rfl (Nat.le_of_ble_eq_true rfl) ?_
  intro p e s m below meth c R A Q args ls hx hb hml hown hts hRf hRl hRc hRs hN hK hP hD hS hA hret hl
  have hq : ∀ w ∈ ALL, w.before args s = true := fun w h => hts w (List.mem_cons_of_mem _ h)
  have hl : lv_has ls 3 [(0, .ref mo)] := hl
  refine z_iconst hx hb dX3_failed_0 ?_
  refine lv_istore_n (lv' := [(1, .int (iI 0)), (0, .ref mo)]) hx hb dX3_failed_1 rfl hl (by decide) rfl (fun ls hl => ?_)
  refine z_iconst hx hb dX3_failed_2 ?_
  refine lv_istore_n (lv' := [(2, .int (iI 0)), (1, .int (iI 0)), (0, .ref mo)]) hx hb dX3_failed_3 rfl hl (by decide) rfl (fun ls hl => ?_)
  have LP4 : ∀ (fu i : Nat), i ≤ 18 → 18 < fu + i → ∀ (H : Heap) (locs : List Loc) (ls : Array Slot), va_P D vwCl (wM mo am cI S) H → va_D A (wM mo am cI S) → va_S A s.heap H locs → lv_has ls 3 [(2, .int (iI (i : Int))), (1, .int (iI (sumZ i ((gOf (S 0)) 5)))), (0, .ref mo)] → W p l e R s m args below meth c H locs 0 0 Q (F0 m 4 ls []) := by
    intro fu
    induction fu with
    | zero => intro i h1 h2; omega
    | succ fu ih4 =>
      intro i hi1 hif H locs ls hP hD hS hl
      refine lv_iload_n hx hb dX3_failed_4 rfl (lv_at hl 0 rfl) ?_
      refine z_bipush hx hb dX3_failed_5 (by decide +kernel) ?_
      refine z_icmp_ge (tgt := 32) hx hb dX3_failed_7 (by decide) (by omega) (by omega) (fun c_1 => ?_) (fun c_1 => ?_)
      · refine lv_iload_n hx hb dX3_failed_32 rfl (lv_at hl 1 rfl) ?_
        refine z_as (show (sumZ i ((gOf (S 0)) 5)) = sumZ 18 ((gOf (S 0)) 5) from by (have hiN : i = 18 := by omega); rw [hiN]; first | done | rfl) ?_
        first | exact hret _ _ _ _ dX3_failed_33 hP hD hS | (exfalso; omega)
      · refine lv_iload_n hx hb dX3_failed_10 rfl (lv_at hl 1 rfl) ?_
        refine lv_aload_n hx hb dX3_failed_11 rfl (lv_at hl 2 rfl) ?_
        refine lv_iload_n hx hb dX3_failed_12 rfl (lv_at hl 0 rfl) ?_
        refine z_iconst hx hb dX3_failed_13 ?_
        refine z_idiv hx hb dX3_failed_14 (by omega) (by omega) ?_
        refine z_bipush hx hb dX3_failed_15 (by decide +kernel) ?_
        refine lv_iload_n hx hb dX3_failed_17 rfl (lv_at hl 0 rfl) ?_
        refine z_iconst hx hb dX3_failed_18 ?_
        refine z_irem hx hb dX3_failed_19 (by omega) (by omega) ?_
        refine z_iadd hx hb dX3_failed_20 ?_
        refine mw_full (st1 := [.int (iI ((gOf (S 0)) 5 (3 * ((i : Int) / 3) + ((i : Int) % 3)))), .int (iI (sumZ i ((gOf (S 0)) 5)))]) (mr_V (As := [.int (iI ((i : Int) / 3)), .int (iI (7 + ((i : Int) % 3)))]) (rest := [.int (iI (sumZ i ((gOf (S 0)) 5)))]) (ci := 3) (q0 := 0) ⟨hx, hb, hml, hown, hts⟩ (m_X3_of l D mo am cI S ((i : Int) / 3) (7 + ((i : Int) % 3)) 5 (3 * ((i : Int) / 3) + ((i : Int) % 3)) (ix_of5 (r := ((i : Int) / 3)) (by omega) (by omega))) (cwV 2 hts (gV q_342 q_343 q_344 q_345 q_340) rfl rfl rfl (by decide +kernel) ⟨Nat.le_trans (m := 1) (Nat.le_of_ble_eq_true rfl) (Nat.le_trans (Nat.le_of_ble_eq_true rfl) hRf), Nat.le_trans (m := 22) (Nat.le_of_ble_eq_true rfl) (Nat.le_trans (Nat.le_of_ble_eq_true rfl) hRl)⟩) hN hK hP hD rfl rfl rfl hl.1 (Nat.le_of_ble_eq_true rfl) ⟨hRc, hRs⟩ dX3_failed_21) hD hS hA rfl (fun H locs hP hD hS => ?_)
        have hf_2 := invG_5 hI (3 * ((i : Int) / 3) + ((i : Int) % 3)) (by omega) (by omega)
        refine z_iadd hx hb dX3_failed_24 ?_
        refine lv_istore_n (lv' := [(1, .int (iI ((sumZ i ((gOf (S 0)) 5)) + (gOf (S 0)) 5 (3 * ((i : Int) / 3) + ((i : Int) % 3))))), (2, .int (iI (i : Int))), (0, .ref mo)]) hx hb dX3_failed_25 rfl hl (by decide) rfl (fun ls hl => ?_)
        refine lv_iinc (v := iI ((i : Int) + 1)) (lv' := [(2, .int (iI ((i : Int) + 1))), (1, .int (iI ((sumZ i ((gOf (S 0)) 5)) + (gOf (S 0)) 5 (3 * ((i : Int) / 3) + ((i : Int) % 3))))), (0, .ref mo)]) hx hb dX3_failed_26 hl (k := 1) rfl (iI_add _ _) (by decide) rfl (fun ls hl => ?_)
        refine lv_goto (tgt := 4) hx hb dX3_failed_29 (by decide) ?_
        have e1_0 : (((i + 1 : Nat) : Int)) = ((i : Int) + 1) := by first | omega | (rw [show 3 * ((i : Int) / 3) + (i : Int) % 3 = i from by omega]; rfl)
        have e1_1 : ((sumZ (i + 1) ((gOf (S 0)) 5))) = ((sumZ i ((gOf (S 0)) 5)) + (gOf (S 0)) 5 (3 * ((i : Int) / 3) + ((i : Int) % 3))) := by first | omega | (rw [show 3 * ((i : Int) / 3) + (i : Int) % 3 = i from by omega]; rfl)
        exact ih4 (i + 1) (by omega) (by omega) _ _ _ hP hD hS (lv_to (lv_sub (l' := [(2, .int (iI ((i : Int) + 1))), (1, .int (iI ((sumZ i ((gOf (S 0)) 5)) + (gOf (S 0)) 5 (3 * ((i : Int) / 3) + ((i : Int) % 3))))), (0, .ref mo)]) hl [0, 1, 2] rfl) (by simp only [e1_0, e1_1]))
  have e0_0 : (((0 : Nat) : Int)) = 0 := by first | rfl | omega
  have e0_1 : ((sumZ (0) ((gOf (S 0)) 5))) = 0 := by first | rfl | omega
  exact LP4 (18 + 1) 0 (by omega) (by omega) _ _ _ hP hD hS (lv_to (lv_sub (l' := [(2, .int (iI 0)), (1, .int (iI 0)), (0, .ref mo)]) hl [0, 1, 2] rfl) (by simp only [e0_0, e0_1]))
set_option maxHeartbeats 4000000 in
set_option maxRecDepth 100000 in
theorem m_X3_pairs (l : Launch) (D : va_G) (mo : Nat) (am : Nat → Nat) (cI : ClassId) (S : Nat → Int → Int) {B : Int} (hI : InvG B (gOf (S 0)))  : MW l D yX3_pairs (wsY yX3_pairs cX3_pairs 3 (some .int)) { frames := 0, cells := 0, slots := 0, locals := 0 } [(cI, .int)] [.ref mo] (wM mo am cI S) (wM mo am cI S) (some (.int (iI (pairsZ (gOf (S 0)) 9)))) := by
  refine mw_ofI (cc := cX3_pairs) (maxL := 3) (by decide) rfl (Nat.le_of_ble_eq_true rfl) ?_
  intro p e s m below meth c R A Q args ls hx hb hml hown hts hRf hRl hRc hRs hN hK hP hD hS hA hret hl
  have hq : ∀ w ∈ ALL, w.before args s = true := fun w h => hts w (List.mem_cons_of_mem _ h)
  have hl : lv_has ls 3 [(0, .ref mo)] := hl
  have hBb := invG_B hI
  refine z_iconst hx hb dX3_pairs_0 ?_
  refine lv_istore_n (lv' := [(1, .int (iI 0)), (0, .ref mo)]) hx hb dX3_pairs_1 rfl hl (by decide) rfl (fun ls hl => ?_)
  refine z_iconst hx hb dX3_pairs_2 ?_
  refine lv_istore_n (lv' := [(2, .int (iI 0)), (1, .int (iI 0)), (0, .ref mo)]) hx hb dX3_pairs_3 rfl hl (by decide) rfl (fun ls hl => ?_)
  have LP4 : ∀ (fu i : Nat), i ≤ 9 → 9 < fu + i → ∀ (H : Heap) (locs : List Loc) (ls : Array Slot), va_P D vwCl (wM mo am cI S) H → va_D A (wM mo am cI S) → va_S A s.heap H locs → lv_has ls 3 [(2, .int (iI (i : Int))), (1, .int (iI (pairsZ (gOf (S 0)) i))), (0, .ref mo)] → W p l e R s m args below meth c H locs 0 0 Q (F0 m 4 ls []) := by
    intro fu
    induction fu with
    | zero => intro i h1 h2; omega
    | succ fu ih4 =>
      intro i hi1 hif H locs ls hP hD hS hl
      refine lv_iload_n hx hb dX3_pairs_4 rfl (lv_at hl 0 rfl) ?_
      refine z_bipush hx hb dX3_pairs_5 (by decide +kernel) ?_
      refine z_icmp_ge (tgt := 36) hx hb dX3_pairs_7 (by decide) (by omega) (by omega) (fun c_1 => ?_) (fun c_1 => ?_)
      · refine lv_iload_n hx hb dX3_pairs_36 rfl (lv_at hl 1 rfl) ?_
        refine z_as (show (pairsZ (gOf (S 0)) i) = pairsZ (gOf (S 0)) 9 from by (have hiN : i = 9 := by omega); rw [hiN]; first | done | rfl) ?_
        first | exact hret _ _ _ _ dX3_pairs_37 hP hD hS | (exfalso; omega)
      · refine lv_iload_n hx hb dX3_pairs_10 rfl (lv_at hl 1 rfl) ?_
        refine lv_aload_n hx hb dX3_pairs_11 rfl (lv_at hl 2 rfl) ?_
        refine va_get (D := D) (ci := 3) (v := .ref (am 0)) (C := RX3) (T := TX3) (N := 14) hx hb hq inA3 hown hK hP 0 rfl rfl 0 (by decide) (hq _ q_338) (fun _ h9 => h9) rfl dX3_pairs_12 ?_
        refine z_bipush hx hb dX3_pairs_15 (by decide +kernel) ?_
        refine lv_iload_n hx hb dX3_pairs_17 rfl (lv_at hl 0 rfl) ?_
        refine z_iadd hx hb dX3_pairs_18 ?_
        refine z_iald hx hb hK hP 1 0 rfl rfl (by omega) (by omega) (v := (gOf (S 0) 10 (i : Int))) (s_10 _ rfl (by omega)) dX3_pairs_19 ?_
        have hv9 := invG_10 hI (i : Int) (by omega) (by omega)
        refine z_if_le (tgt := 27) hx hb dX3_pairs_20 (by decide) (by omega) (fun c_2 => ?_) (fun c_2 => ?_)
        · refine z_iconst hx hb dX3_pairs_27 ?_
          refine z_iadd hx hb dX3_pairs_28 ?_
          refine lv_istore_n (lv' := [(1, .int (iI ((pairsZ (gOf (S 0)) i) + 0))), (2, .int (iI (i : Int))), (0, .ref mo)]) hx hb dX3_pairs_29 rfl hl (by decide) rfl (fun ls hl => ?_)
          refine lv_iinc (v := iI ((i : Int) + 1)) (lv' := [(2, .int (iI ((i : Int) + 1))), (1, .int (iI ((pairsZ (gOf (S 0)) i) + 0))), (0, .ref mo)]) hx hb dX3_pairs_30 hl (k := 1) rfl (iI_add _ _) (by decide) rfl (fun ls hl => ?_)
          refine lv_goto (tgt := 4) hx hb dX3_pairs_33 (by decide) ?_
          have e1_0 : (((i + 1 : Nat) : Int)) = ((i : Int) + 1) := by first | omega | (simp only [pairsZ, sumZ]; omega)
          have e1_1 : ((pairsZ (gOf (S 0)) (i + 1))) = ((pairsZ (gOf (S 0)) i) + 0) := by first | omega | (simp only [pairsZ, sumZ]; omega)
          exact ih4 (i + 1) (by omega) (by omega) _ _ _ hP hD hS (lv_to (lv_sub (l' := [(2, .int (iI ((i : Int) + 1))), (1, .int (iI ((pairsZ (gOf (S 0)) i) + 0))), (0, .ref mo)]) hl [0, 1, 2] rfl) (by simp only [e1_0, e1_1]))
        · refine z_iconst hx hb dX3_pairs_23 ?_
          refine lv_goto (tgt := 28) hx hb dX3_pairs_24 (by decide) ?_
          refine z_iadd hx hb dX3_pairs_28 ?_
          refine lv_istore_n (lv' := [(1, .int (iI ((pairsZ (gOf (S 0)) i) + 1))), (2, .int (iI (i : Int))), (0, .ref mo)]) hx hb dX3_pairs_29 rfl hl (by decide) rfl (fun ls hl => ?_)
          refine lv_iinc (v := iI ((i : Int) + 1)) (lv' := [(2, .int (iI ((i : Int) + 1))), (1, .int (iI ((pairsZ (gOf (S 0)) i) + 1))), (0, .ref mo)]) hx hb dX3_pairs_30 hl (k := 1) rfl (iI_add _ _) (by decide) rfl (fun ls hl => ?_)
          refine lv_goto (tgt := 4) hx hb dX3_pairs_33 (by decide) ?_
          have e1_0 : (((i + 1 : Nat) : Int)) = ((i : Int) + 1) := by first | omega | (simp only [pairsZ, sumZ]; omega)
          have e1_1 : ((pairsZ (gOf (S 0)) (i + 1))) = ((pairsZ (gOf (S 0)) i) + 1) := by first | omega | (simp only [pairsZ, sumZ]; omega)
          exact ih4 (i + 1) (by omega) (by omega) _ _ _ hP hD hS (lv_to (lv_sub (l' := [(2, .int (iI ((i : Int) + 1))), (1, .int (iI ((pairsZ (gOf (S 0)) i) + 1))), (0, .ref mo)]) hl [0, 1, 2] rfl) (by simp only [e1_0, e1_1]))
  have e0_0 : (((0 : Nat) : Int)) = 0 := by first | rfl | omega
  have e0_1 : ((pairsZ (gOf (S 0)) (0))) = 0 := by first | rfl | omega
  exact LP4 (9 + 1) 0 (by omega) (by omega) _ _ _ hP hD hS (lv_to (lv_sub (l' := [(2, .int (iI 0)), (1, .int (iI 0)), (0, .ref mo)]) hl [0, 1, 2] rfl) (by simp only [e0_0, e0_1]))
set_option maxHeartbeats 4000000 in
set_option maxRecDepth 100000 in
theorem m_X3_ofLevel (l : Launch) (D : va_G) (mo : Nat) (am : Nat → Nat) (cI : ClassId) (S : Nat → Int → Int) (v : Int) {B : Int} (hI : InvG B (gOf (S 0))) (h1 : -2147483648 ≤ v ∧ v < 2147483648)  : MW l D yX3_ofLevel (wsY yX3_ofLevel cX3_ofLevel 4 (some .int)) { frames := 2, cells := 0, slots := 0, locals := 45 } [(cI, .int)] [.ref mo, .int (iI v)] (wM mo am cI S) (wM mo am cI S) (some (.int (iI (ofLevelZ (gOf (S 0)) v 48)))) := by
  refine mw_ofI (cc := cX3_ofLevel) (maxL := 4) (by decide) rfl (Nat.le_of_ble_eq_true rfl) ?_
  intro p e s m below meth c R A Q args ls hx hb hml hown hts hRf hRl hRc hRs hN hK hP hD hS hA hret hl
  have hq : ∀ w ∈ ALL, w.before args s = true := fun w h => hts w (List.mem_cons_of_mem _ h)
  have hl : lv_has ls 4 [(0, .ref mo), (1, .int (iI v))] := hl
  refine z_iconst hx hb dX3_ofLevel_0 ?_
  refine lv_istore_n (lv' := [(2, .int (iI 0)), (0, .ref mo), (1, .int (iI v))]) hx hb dX3_ofLevel_1 rfl hl (by decide) rfl (fun ls hl => ?_)
  refine z_iconst hx hb dX3_ofLevel_2 ?_
  refine lv_istore_n (lv' := [(3, .int (iI 0)), (2, .int (iI 0)), (0, .ref mo), (1, .int (iI v))]) hx hb dX3_ofLevel_3 rfl hl (by decide) rfl (fun ls hl => ?_)
  have LP4 : ∀ (fu i : Nat), i ≤ 48 → 48 < fu + i → ∀ (H : Heap) (locs : List Loc) (ls : Array Slot), va_P D vwCl (wM mo am cI S) H → va_D A (wM mo am cI S) → va_S A s.heap H locs → lv_has ls 4 [(3, .int (iI (i : Int))), (2, .int (iI (ofLevelZ (gOf (S 0)) v i))), (0, .ref mo), (1, .int (iI v))] → W p l e R s m args below meth c H locs 0 0 Q (F0 m 4 ls []) := by
    intro fu
    induction fu with
    | zero => intro i h1 h2; omega
    | succ fu ih4 =>
      intro i hi1 hif H locs ls hP hD hS hl
      have hi8 : 8 * ((i : Int) / 8) + (i : Int) % 8 = i := by omega
      refine lv_iload_n hx hb dX3_ofLevel_4 rfl (lv_at hl 0 rfl) ?_
      refine z_bipush hx hb dX3_ofLevel_5 (by decide +kernel) ?_
      refine z_icmp_ge (tgt := 41) hx hb dX3_ofLevel_7 (by decide) (by omega) (by omega) (fun c_1 => ?_) (fun c_1 => ?_)
      · refine lv_iload_n hx hb dX3_ofLevel_41 rfl (lv_at hl 1 rfl) ?_
        refine z_as (show (ofLevelZ (gOf (S 0)) v i) = ofLevelZ (gOf (S 0)) v 48 from by (have hiN : i = 48 := by omega); rw [hiN]; first | done | rfl) ?_
        first | exact hret _ _ _ _ dX3_ofLevel_42 hP hD hS | (exfalso; omega)
      · refine lv_iload_n hx hb dX3_ofLevel_10 rfl (lv_at hl 1 rfl) ?_
        refine lv_aload_n hx hb dX3_ofLevel_11 rfl (lv_at hl 2 rfl) ?_
        refine lv_iload_n hx hb dX3_ofLevel_12 rfl (lv_at hl 0 rfl) ?_
        refine z_bipush hx hb dX3_ofLevel_13 (by decide +kernel) ?_
        refine z_idiv hx hb dX3_ofLevel_15 (by omega) (by omega) ?_
        refine lv_iload_n hx hb dX3_ofLevel_16 rfl (lv_at hl 0 rfl) ?_
        refine z_bipush hx hb dX3_ofLevel_17 (by decide +kernel) ?_
        refine z_irem hx hb dX3_ofLevel_19 (by omega) (by omega) ?_
        refine z_iconst hx hb dX3_ofLevel_20 ?_
        refine mw_full (st1 := [.int (iI ((gOf (S 0)) 0 (8 * ((i : Int) / 8) + ((i : Int) % 8)))), .int (iI (ofLevelZ (gOf (S 0)) v i))]) (mr_V (As := [.int (iI ((i : Int) / 8)), .int (iI ((i : Int) % 8)), .int (iI 0)]) (rest := [.int (iI (ofLevelZ (gOf (S 0)) v i))]) (ci := 3) (q0 := 0) ⟨hx, hb, hml, hown, hts⟩ (m_X3_ofCell l D mo am cI S ((i : Int) / 8) ((i : Int) % 8) 0 0 (by omega) (by omega) (by omega)) (cwV 3 hts (gV q_354 q_355 q_356 q_345 q_352) rfl rfl rfl (by decide +kernel) ⟨Nat.le_trans (m := 2) (Nat.le_of_ble_eq_true rfl) (Nat.le_trans (Nat.le_of_ble_eq_true rfl) hRf), Nat.le_trans (m := 45) (Nat.le_of_ble_eq_true rfl) (Nat.le_trans (Nat.le_of_ble_eq_true rfl) hRl)⟩) hN hK hP hD rfl rfl rfl hl.1 (Nat.le_of_ble_eq_true rfl) ⟨hRc, hRs⟩ dX3_ofLevel_21) hD hS hA rfl (fun H locs hP hD hS => ?_)
        have hf_2 := invG_0 hI (8 * ((i : Int) / 8) + ((i : Int) % 8)) (by omega) (by omega)
        refine lv_iload_n hx hb dX3_ofLevel_24 rfl (lv_at hl 3 rfl) ?_
        refine z_icmp_ne (tgt := 32) hx hb dX3_ofLevel_25 (by decide) (by omega) (by omega) (fun c_3 => ?_) (fun c_3 => ?_)
        · refine z_iconst hx hb dX3_ofLevel_32 ?_
          refine z_iadd hx hb dX3_ofLevel_33 ?_
          refine lv_istore_n (lv' := [(2, .int (iI ((ofLevelZ (gOf (S 0)) v i) + 0))), (3, .int (iI (i : Int))), (0, .ref mo), (1, .int (iI v))]) hx hb dX3_ofLevel_34 rfl hl (by decide) rfl (fun ls hl => ?_)
          refine lv_iinc (v := iI ((i : Int) + 1)) (lv' := [(3, .int (iI ((i : Int) + 1))), (2, .int (iI ((ofLevelZ (gOf (S 0)) v i) + 0))), (0, .ref mo), (1, .int (iI v))]) hx hb dX3_ofLevel_35 hl (k := 1) rfl (iI_add _ _) (by decide) rfl (fun ls hl => ?_)
          refine lv_goto (tgt := 4) hx hb dX3_ofLevel_38 (by decide) ?_
          have e1_0 : (((i + 1 : Nat) : Int)) = ((i : Int) + 1) := by first | omega | (rw [hi8] at *; simp only [ofLevelZ, sumZ]; omega)
          have e1_1 : ((ofLevelZ (gOf (S 0)) v (i + 1))) = ((ofLevelZ (gOf (S 0)) v i) + 0) := by first | omega | (rw [hi8] at *; simp only [ofLevelZ, sumZ]; omega)
          exact ih4 (i + 1) (by omega) (by omega) _ _ _ hP hD hS (lv_to (lv_sub (l' := [(3, .int (iI ((i : Int) + 1))), (2, .int (iI ((ofLevelZ (gOf (S 0)) v i) + 0))), (0, .ref mo), (1, .int (iI v))]) hl [0, 1, 2, 3] rfl) (by simp only [e1_0, e1_1]))
        · refine z_iconst hx hb dX3_ofLevel_28 ?_
          refine lv_goto (tgt := 33) hx hb dX3_ofLevel_29 (by decide) ?_
          refine z_iadd hx hb dX3_ofLevel_33 ?_
          refine lv_istore_n (lv' := [(2, .int (iI ((ofLevelZ (gOf (S 0)) v i) + 1))), (3, .int (iI (i : Int))), (0, .ref mo), (1, .int (iI v))]) hx hb dX3_ofLevel_34 rfl hl (by decide) rfl (fun ls hl => ?_)
          refine lv_iinc (v := iI ((i : Int) + 1)) (lv' := [(3, .int (iI ((i : Int) + 1))), (2, .int (iI ((ofLevelZ (gOf (S 0)) v i) + 1))), (0, .ref mo), (1, .int (iI v))]) hx hb dX3_ofLevel_35 hl (k := 1) rfl (iI_add _ _) (by decide) rfl (fun ls hl => ?_)
          refine lv_goto (tgt := 4) hx hb dX3_ofLevel_38 (by decide) ?_
          have e1_0 : (((i + 1 : Nat) : Int)) = ((i : Int) + 1) := by first | omega | (rw [hi8] at *; simp only [ofLevelZ, sumZ]; omega)
          have e1_1 : ((ofLevelZ (gOf (S 0)) v (i + 1))) = ((ofLevelZ (gOf (S 0)) v i) + 1) := by first | omega | (rw [hi8] at *; simp only [ofLevelZ, sumZ]; omega)
          exact ih4 (i + 1) (by omega) (by omega) _ _ _ hP hD hS (lv_to (lv_sub (l' := [(3, .int (iI ((i : Int) + 1))), (2, .int (iI ((ofLevelZ (gOf (S 0)) v i) + 1))), (0, .ref mo), (1, .int (iI v))]) hl [0, 1, 2, 3] rfl) (by simp only [e1_0, e1_1]))
  have e0_0 : (((0 : Nat) : Int)) = 0 := by first | rfl | omega
  have e0_1 : ((ofLevelZ (gOf (S 0)) v (0))) = 0 := by first | rfl | omega
  exact LP4 (48 + 1) 0 (by omega) (by omega) _ _ _ hP hD hS (lv_to (lv_sub (l' := [(3, .int (iI 0)), (2, .int (iI 0)), (0, .ref mo), (1, .int (iI v))]) hl [0, 1, 2, 3] rfl) (by simp only [e0_0, e0_1]))
set_option maxHeartbeats 4000000 in
set_option maxRecDepth 100000 in
theorem m_X3_worst (l : Launch) (D : va_G) (mo : Nat) (am : Nat → Nat) (cI : ClassId) (S : Nat → Int → Int) (q : Int) {B : Int} (hI : InvG B (gOf (S 0))) (h1 : 0 ≤ q ∧ q < 6)  : MW l D yX3_worst (wsY yX3_worst cX3_worst 6 (some .int)) { frames := 6, cells := 0, slots := 0, locals := 133 } [(cI, .int)] [.ref mo, .int (iI q)] (wM mo am cI S) (wM mo am cI S) (some (.int (iI (rankZ (gOf (S 0)) q 6)))) := by
  refine mw_ofI (cc := cX3_worst) (maxL := 6) (by decide) rfl (Nat.le_of_ble_eq_true rfl) ?_
  intro p e s m below meth c R A Q args ls hx hb hml hown hts hRf hRl hRc hRs hN hK hP hD hS hA hret hl
  have hq : ∀ w ∈ ALL, w.before args s = true := fun w h => hts w (List.mem_cons_of_mem _ h)
  have hl : lv_has ls 6 [(0, .ref mo), (1, .int (iI q))] := hl
  refine lv_iload_n hx hb dX3_worst_0 rfl (lv_at hl 1 rfl) ?_
  refine mw_none (st1 := [.int (iI (if 0 ≤ q ∧ q ≤ 5 then 1 else 0 : Int))]) (mr_S (As := [.int (iI q)]) (rest := []) ⟨hx, hb, hml, hown, hts⟩ (m_X3_isRow l D q (by omega)) (va_cwS 1 hts (gS q_388 q_389 q_345 q_382) rfl rfl rfl (by decide +kernel) ⟨Nat.le_trans (m := 2) (Nat.le_of_ble_eq_true rfl) (Nat.le_trans (Nat.le_of_ble_eq_true rfl) hRf), Nat.le_trans (m := 42) (Nat.le_of_ble_eq_true rfl) (Nat.le_trans (Nat.le_of_ble_eq_true rfl) hRl)⟩) hN (hK.sub (tys' := []) [] rfl) (va_P0 _ _ _) (va_D0 A) rfl hl.1 (Nat.le_of_ble_eq_true rfl) ⟨hRc, hRs⟩ dX3_worst_1) hP hS hA rfl (fun H locs hP hS => ?_)
  refine z_if_ne (tgt := 10) hx hb dX3_worst_4 (by decide) (by omega) (fun c_1 => ?_) (fun c_1 => absurd c_1 (by omega))
  refine z_ldc hx hb (-1000004) (by decide +kernel) hown (hq _ q_511) dX3_worst_10 ?_
  refine lv_istore_n (lv' := [(2, .int (iI (-1000004))), (0, .ref mo), (1, .int (iI q))]) hx hb dX3_worst_12 rfl hl (by decide) rfl (fun ls hl => ?_)
  refine z_iconst hx hb dX3_worst_13 ?_
  refine lv_istore_n (lv' := [(3, .int (iI 0)), (2, .int (iI (-1000004))), (0, .ref mo), (1, .int (iI q))]) hx hb dX3_worst_14 rfl hl (by decide) rfl (fun ls hl => ?_)
  have LP15 : ∀ (fu i : Nat), i ≤ 6 → 6 < fu + i → ∀ (H : Heap) (locs : List Loc) (ls : Array Slot), va_P D vwCl (wM mo am cI S) H → va_D A (wM mo am cI S) → va_S A s.heap H locs → lv_has ls 6 [(3, .int (iI (i : Int))), (2, .int (iI (rankZ (gOf (S 0)) q i))), (0, .ref mo), (1, .int (iI q))] → W p l e R s m args below meth c H locs 0 0 Q (F0 m 15 ls []) := by
    intro fu
    induction fu with
    | zero => intro i h1 h2; omega
    | succ fu ih15 =>
      intro i hi1 hif H locs ls hP hD hS hl
      refine lv_iload_n hx hb dX3_worst_15 rfl (lv_at hl 0 rfl) ?_
      refine z_bipush hx hb dX3_worst_16 (by decide +kernel) ?_
      refine z_icmp_ge (tgt := 102) hx hb dX3_worst_18 (by decide) (by omega) (by omega) (fun c_2 => ?_) (fun c_2 => ?_)
      · have hiN : i = 6 := by omega
        refine lv_iload_n hx hb dX3_worst_102 rfl (lv_at hl 1 rfl) ?_
        refine z_as (show (rankZ (gOf (S 0)) q i) = rankZ (gOf (S 0)) q 6 from by (rw [hiN])) ?_
        first | exact hret _ _ _ _ dX3_worst_103 hP hD hS | (exfalso; omega)
      · refine z_iconst hx hb dX3_worst_21 ?_
        refine lv_istore (lv' := [(4, .int (iI 0)), (3, .int (iI (i : Int))), (2, .int (iI (rankZ (gOf (S 0)) q i))), (0, .ref mo), (1, .int (iI q))]) hx hb dX3_worst_22 hl (by decide) rfl (fun ls hl => ?_)
        refine z_iconst hx hb dX3_worst_24 ?_
        refine lv_istore (lv' := [(5, .int (iI 0)), (4, .int (iI 0)), (3, .int (iI (i : Int))), (2, .int (iI (rankZ (gOf (S 0)) q i))), (0, .ref mo), (1, .int (iI q))]) hx hb dX3_worst_25 hl (by decide) rfl (fun ls hl => ?_)
        have LP27 : ∀ (fu j : Nat), j ≤ 6 → 6 < fu + j → ∀ (H : Heap) (locs : List Loc) (ls : Array Slot), va_P D vwCl (wM mo am cI S) H → va_D A (wM mo am cI S) → va_S A s.heap H locs → lv_has ls 6 [(5, .int (iI (j : Int))), (4, .int (iI (aheadZ (gOf (S 0)) i j))), (3, .int (iI (i : Int))), (2, .int (iI (rankZ (gOf (S 0)) q i))), (0, .ref mo), (1, .int (iI q))] → W p l e R s m args below meth c H locs 0 0 Q (F0 m 27 ls []) := by
          intro fu
          induction fu with
          | zero => intro j h1 h2; omega
          | succ fu ih27 =>
            intro j hj1 hjf H locs ls hP hD hS hl
            have hab := ahead_bd (gOf (S 0)) i j
            refine lv_iload hx hb dX3_worst_27 (lv_at hl 0 rfl) ?_
            refine z_bipush hx hb dX3_worst_29 (by decide +kernel) ?_
            refine z_icmp_ge (tgt := 84) hx hb dX3_worst_31 (by decide) (by omega) (by omega) (fun c_3 => ?_) (fun c_3 => ?_)
            · have hjN : j = 6 := by omega
              refine lv_iload hx hb dX3_worst_84 (lv_at hl 1 rfl) ?_
              refine lv_iload_n hx hb dX3_worst_86 rfl (lv_at hl 5 rfl) ?_
              refine z_icmp_ne (tgt := 94) hx hb dX3_worst_87 (by decide) (by omega) (by omega) (fun c_4 => ?_) (fun c_4 => ?_)
              · refine lv_iload_n hx hb dX3_worst_94 rfl (lv_at hl 3 rfl) ?_
                refine lv_istore_n (lv' := [(2, .int (iI (rankZ (gOf (S 0)) q i))), (5, .int (iI (j : Int))), (4, .int (iI (aheadZ (gOf (S 0)) i j))), (3, .int (iI (i : Int))), (0, .ref mo), (1, .int (iI q))]) hx hb dX3_worst_95 rfl hl (by decide) rfl (fun ls hl => ?_)
                refine lv_iinc (v := iI ((i : Int) + 1)) (lv' := [(3, .int (iI ((i : Int) + 1))), (2, .int (iI (rankZ (gOf (S 0)) q i))), (5, .int (iI (j : Int))), (4, .int (iI (aheadZ (gOf (S 0)) i j))), (0, .ref mo), (1, .int (iI q))]) hx hb dX3_worst_96 hl (k := 3) rfl (iI_add _ _) (by decide) rfl (fun ls hl => ?_)
                refine lv_goto (tgt := 15) hx hb dX3_worst_99 (by decide) ?_
                have e1_0 : (((i + 1 : Nat) : Int)) = ((i : Int) + 1) := by first | omega | (rw [hjN] at *; simp only [rankZ]; split <;> first | (exfalso; omega) | rfl)
                have e1_1 : ((rankZ (gOf (S 0)) q (i + 1))) = (rankZ (gOf (S 0)) q i) := by first | omega | (rw [hjN] at *; simp only [rankZ]; split <;> first | (exfalso; omega) | rfl)
                exact ih15 (i + 1) (by omega) (by omega) _ _ _ hP hD hS (lv_to (lv_sub (l' := [(3, .int (iI ((i : Int) + 1))), (2, .int (iI (rankZ (gOf (S 0)) q i))), (0, .ref mo), (1, .int (iI q))]) hl [0, 1, 4, 5] rfl) (by simp only [e1_0, e1_1]))
              · refine lv_iload_n hx hb dX3_worst_90 rfl (lv_at hl 2 rfl) ?_
                refine lv_goto (tgt := 95) hx hb dX3_worst_91 (by decide) ?_
                refine lv_istore_n (lv' := [(2, .int (iI (i : Int))), (5, .int (iI (j : Int))), (4, .int (iI (aheadZ (gOf (S 0)) i j))), (3, .int (iI (i : Int))), (0, .ref mo), (1, .int (iI q))]) hx hb dX3_worst_95 rfl hl (by decide) rfl (fun ls hl => ?_)
                refine lv_iinc (v := iI ((i : Int) + 1)) (lv' := [(3, .int (iI ((i : Int) + 1))), (2, .int (iI (i : Int))), (5, .int (iI (j : Int))), (4, .int (iI (aheadZ (gOf (S 0)) i j))), (0, .ref mo), (1, .int (iI q))]) hx hb dX3_worst_96 hl (k := 3) rfl (iI_add _ _) (by decide) rfl (fun ls hl => ?_)
                refine lv_goto (tgt := 15) hx hb dX3_worst_99 (by decide) ?_
                have e1_0 : (((i + 1 : Nat) : Int)) = ((i : Int) + 1) := by first | omega | (rw [hjN] at *; simp only [rankZ]; split <;> first | (exfalso; omega) | rfl)
                have e1_1 : ((rankZ (gOf (S 0)) q (i + 1))) = (i : Int) := by first | omega | (rw [hjN] at *; simp only [rankZ]; split <;> first | (exfalso; omega) | rfl)
                exact ih15 (i + 1) (by omega) (by omega) _ _ _ hP hD hS (lv_to (lv_sub (l' := [(3, .int (iI ((i : Int) + 1))), (2, .int (iI (i : Int))), (0, .ref mo), (1, .int (iI q))]) hl [0, 1, 4, 5] rfl) (by simp only [e1_0, e1_1]))
            · refine lv_iload hx hb dX3_worst_34 (lv_at hl 1 rfl) ?_
              refine lv_aload_n hx hb dX3_worst_36 rfl (lv_at hl 4 rfl) ?_
              refine lv_iload hx hb dX3_worst_37 (lv_at hl 0 rfl) ?_
              refine mw_full (st1 := [.int (iI (wrongZ (gOf (S 0)) (j : Int))), .int (iI (aheadZ (gOf (S 0)) i j))]) (mr_V (As := [.int (iI (j : Int))]) (rest := [.int (iI (aheadZ (gOf (S 0)) i j))]) (ci := 3) (q0 := 0) ⟨hx, hb, hml, hown, hts⟩ (m_X3_wrong l D mo am cI S (j : Int) hI (by omega)) (cwV 1 hts (gV q_416 q_417 q_418 q_345 q_412) rfl rfl rfl (by decide +kernel) ⟨Nat.le_trans (m := 6) (Nat.le_of_ble_eq_true rfl) (Nat.le_trans (Nat.le_of_ble_eq_true rfl) hRf), Nat.le_trans (m := 133) (Nat.le_of_ble_eq_true rfl) (Nat.le_trans (Nat.le_of_ble_eq_true rfl) hRl)⟩) hN hK hP hD rfl rfl rfl hl.1 (Nat.le_of_ble_eq_true rfl) ⟨hRc, hRs⟩ dX3_worst_39) hD hS hA rfl (fun H locs hP hD hS => ?_)
              have hf_5 := wrongZ_bd (gOf (S 0)) (j : Int)
              refine lv_aload_n hx hb dX3_worst_42 rfl (lv_at hl 4 rfl) ?_
              refine lv_iload_n hx hb dX3_worst_43 rfl (lv_at hl 2 rfl) ?_
              refine mw_full (st1 := [.int (iI (wrongZ (gOf (S 0)) (i : Int))), .int (iI (wrongZ (gOf (S 0)) (j : Int))), .int (iI (aheadZ (gOf (S 0)) i j))]) (mr_V (As := [.int (iI (i : Int))]) (rest := [.int (iI (wrongZ (gOf (S 0)) (j : Int))), .int (iI (aheadZ (gOf (S 0)) i j))]) (ci := 3) (q0 := 0) ⟨hx, hb, hml, hown, hts⟩ (m_X3_wrong l D mo am cI S (i : Int) hI (by omega)) (cwV 1 hts (gV q_416 q_417 q_418 q_345 q_412) rfl rfl rfl (by decide +kernel) ⟨Nat.le_trans (m := 6) (Nat.le_of_ble_eq_true rfl) (Nat.le_trans (Nat.le_of_ble_eq_true rfl) hRf), Nat.le_trans (m := 133) (Nat.le_of_ble_eq_true rfl) (Nat.le_trans (Nat.le_of_ble_eq_true rfl) hRl)⟩) hN hK hP hD rfl rfl rfl hl.1 (Nat.le_of_ble_eq_true rfl) ⟨hRc, hRs⟩ dX3_worst_44) hD hS hA rfl (fun H locs hP hD hS => ?_)
              have hf_6 := wrongZ_bd (gOf (S 0)) (i : Int)
              refine z_icmp_gt (tgt := 70) hx hb dX3_worst_47 (by decide) (by omega) (by omega) (fun c_7 => ?_) (fun c_7 => ?_)
              · refine z_iconst hx hb dX3_worst_70 ?_
                refine lv_goto (tgt := 75) hx hb dX3_worst_71 (by decide) ?_
                refine z_iadd hx hb dX3_worst_75 ?_
                refine lv_istore (lv' := [(4, .int (iI ((aheadZ (gOf (S 0)) i j) + 1))), (5, .int (iI (j : Int))), (3, .int (iI (i : Int))), (2, .int (iI (rankZ (gOf (S 0)) q i))), (0, .ref mo), (1, .int (iI q))]) hx hb dX3_worst_76 hl (by decide) rfl (fun ls hl => ?_)
                refine lv_iinc (v := iI ((j : Int) + 1)) (lv' := [(5, .int (iI ((j : Int) + 1))), (4, .int (iI ((aheadZ (gOf (S 0)) i j) + 1))), (3, .int (iI (i : Int))), (2, .int (iI (rankZ (gOf (S 0)) q i))), (0, .ref mo), (1, .int (iI q))]) hx hb dX3_worst_78 hl (k := 1) rfl (iI_add _ _) (by decide) rfl (fun ls hl => ?_)
                refine lv_goto (tgt := 27) hx hb dX3_worst_81 (by decide) ?_
                have e1_0 : (((j + 1 : Nat) : Int)) = ((j : Int) + 1) := by first | omega | (simp only [aheadZ, sumZ]; omega)
                have e1_1 : ((aheadZ (gOf (S 0)) i (j + 1))) = ((aheadZ (gOf (S 0)) i j) + 1) := by first | omega | (simp only [aheadZ, sumZ]; omega)
                exact ih27 (j + 1) (by omega) (by omega) _ _ _ hP hD hS (lv_to (lv_sub (l' := [(5, .int (iI ((j : Int) + 1))), (4, .int (iI ((aheadZ (gOf (S 0)) i j) + 1))), (3, .int (iI (i : Int))), (2, .int (iI (rankZ (gOf (S 0)) q i))), (0, .ref mo), (1, .int (iI q))]) hl [0, 1, 2, 3, 4, 5] rfl) (by simp only [e1_0, e1_1]))
              · refine lv_aload_n hx hb dX3_worst_50 rfl (lv_at hl 4 rfl) ?_
                refine lv_iload hx hb dX3_worst_51 (lv_at hl 0 rfl) ?_
                refine mw_full (st1 := [.int (iI (wrongZ (gOf (S 0)) (j : Int))), .int (iI (aheadZ (gOf (S 0)) i j))]) (mr_V (As := [.int (iI (j : Int))]) (rest := [.int (iI (aheadZ (gOf (S 0)) i j))]) (ci := 3) (q0 := 0) ⟨hx, hb, hml, hown, hts⟩ (m_X3_wrong l D mo am cI S (j : Int) hI (by omega)) (cwV 1 hts (gV q_416 q_417 q_418 q_345 q_412) rfl rfl rfl (by decide +kernel) ⟨Nat.le_trans (m := 6) (Nat.le_of_ble_eq_true rfl) (Nat.le_trans (Nat.le_of_ble_eq_true rfl) hRf), Nat.le_trans (m := 133) (Nat.le_of_ble_eq_true rfl) (Nat.le_trans (Nat.le_of_ble_eq_true rfl) hRl)⟩) hN hK hP hD rfl rfl rfl hl.1 (Nat.le_of_ble_eq_true rfl) ⟨hRc, hRs⟩ dX3_worst_53) hD hS hA rfl (fun H locs hP hD hS => ?_)
                have hf_8 := wrongZ_bd (gOf (S 0)) (j : Int)
                refine lv_aload_n hx hb dX3_worst_56 rfl (lv_at hl 4 rfl) ?_
                refine lv_iload_n hx hb dX3_worst_57 rfl (lv_at hl 2 rfl) ?_
                refine mw_full (st1 := [.int (iI (wrongZ (gOf (S 0)) (i : Int))), .int (iI (wrongZ (gOf (S 0)) (j : Int))), .int (iI (aheadZ (gOf (S 0)) i j))]) (mr_V (As := [.int (iI (i : Int))]) (rest := [.int (iI (wrongZ (gOf (S 0)) (j : Int))), .int (iI (aheadZ (gOf (S 0)) i j))]) (ci := 3) (q0 := 0) ⟨hx, hb, hml, hown, hts⟩ (m_X3_wrong l D mo am cI S (i : Int) hI (by omega)) (cwV 1 hts (gV q_416 q_417 q_418 q_345 q_412) rfl rfl rfl (by decide +kernel) ⟨Nat.le_trans (m := 6) (Nat.le_of_ble_eq_true rfl) (Nat.le_trans (Nat.le_of_ble_eq_true rfl) hRf), Nat.le_trans (m := 133) (Nat.le_of_ble_eq_true rfl) (Nat.le_trans (Nat.le_of_ble_eq_true rfl) hRl)⟩) hN hK hP hD rfl rfl rfl hl.1 (Nat.le_of_ble_eq_true rfl) ⟨hRc, hRs⟩ dX3_worst_58) hD hS hA rfl (fun H locs hP hD hS => ?_)
                have hf_9 := wrongZ_bd (gOf (S 0)) (i : Int)
                refine z_icmp_ne (tgt := 74) hx hb dX3_worst_61 (by decide) (by omega) (by omega) (fun c_10 => ?_) (fun c_10 => ?_)
                · refine z_iconst hx hb dX3_worst_74 ?_
                  refine z_iadd hx hb dX3_worst_75 ?_
                  refine lv_istore (lv' := [(4, .int (iI ((aheadZ (gOf (S 0)) i j) + 0))), (5, .int (iI (j : Int))), (3, .int (iI (i : Int))), (2, .int (iI (rankZ (gOf (S 0)) q i))), (0, .ref mo), (1, .int (iI q))]) hx hb dX3_worst_76 hl (by decide) rfl (fun ls hl => ?_)
                  refine lv_iinc (v := iI ((j : Int) + 1)) (lv' := [(5, .int (iI ((j : Int) + 1))), (4, .int (iI ((aheadZ (gOf (S 0)) i j) + 0))), (3, .int (iI (i : Int))), (2, .int (iI (rankZ (gOf (S 0)) q i))), (0, .ref mo), (1, .int (iI q))]) hx hb dX3_worst_78 hl (k := 1) rfl (iI_add _ _) (by decide) rfl (fun ls hl => ?_)
                  refine lv_goto (tgt := 27) hx hb dX3_worst_81 (by decide) ?_
                  have e1_0 : (((j + 1 : Nat) : Int)) = ((j : Int) + 1) := by first | omega | (simp only [aheadZ, sumZ]; omega)
                  have e1_1 : ((aheadZ (gOf (S 0)) i (j + 1))) = ((aheadZ (gOf (S 0)) i j) + 0) := by first | omega | (simp only [aheadZ, sumZ]; omega)
                  exact ih27 (j + 1) (by omega) (by omega) _ _ _ hP hD hS (lv_to (lv_sub (l' := [(5, .int (iI ((j : Int) + 1))), (4, .int (iI ((aheadZ (gOf (S 0)) i j) + 0))), (3, .int (iI (i : Int))), (2, .int (iI (rankZ (gOf (S 0)) q i))), (0, .ref mo), (1, .int (iI q))]) hl [0, 1, 2, 3, 4, 5] rfl) (by simp only [e1_0, e1_1]))
                · refine lv_iload hx hb dX3_worst_64 (lv_at hl 0 rfl) ?_
                  refine lv_iload_n hx hb dX3_worst_66 rfl (lv_at hl 2 rfl) ?_
                  refine z_icmp_ge (tgt := 74) hx hb dX3_worst_67 (by decide) (by omega) (by omega) (fun c_11 => ?_) (fun c_11 => ?_)
                  · refine z_iconst hx hb dX3_worst_74 ?_
                    refine z_iadd hx hb dX3_worst_75 ?_
                    refine lv_istore (lv' := [(4, .int (iI ((aheadZ (gOf (S 0)) i j) + 0))), (5, .int (iI (j : Int))), (3, .int (iI (i : Int))), (2, .int (iI (rankZ (gOf (S 0)) q i))), (0, .ref mo), (1, .int (iI q))]) hx hb dX3_worst_76 hl (by decide) rfl (fun ls hl => ?_)
                    refine lv_iinc (v := iI ((j : Int) + 1)) (lv' := [(5, .int (iI ((j : Int) + 1))), (4, .int (iI ((aheadZ (gOf (S 0)) i j) + 0))), (3, .int (iI (i : Int))), (2, .int (iI (rankZ (gOf (S 0)) q i))), (0, .ref mo), (1, .int (iI q))]) hx hb dX3_worst_78 hl (k := 1) rfl (iI_add _ _) (by decide) rfl (fun ls hl => ?_)
                    refine lv_goto (tgt := 27) hx hb dX3_worst_81 (by decide) ?_
                    have e1_0 : (((j + 1 : Nat) : Int)) = ((j : Int) + 1) := by first | omega | (simp only [aheadZ, sumZ]; omega)
                    have e1_1 : ((aheadZ (gOf (S 0)) i (j + 1))) = ((aheadZ (gOf (S 0)) i j) + 0) := by first | omega | (simp only [aheadZ, sumZ]; omega)
                    exact ih27 (j + 1) (by omega) (by omega) _ _ _ hP hD hS (lv_to (lv_sub (l' := [(5, .int (iI ((j : Int) + 1))), (4, .int (iI ((aheadZ (gOf (S 0)) i j) + 0))), (3, .int (iI (i : Int))), (2, .int (iI (rankZ (gOf (S 0)) q i))), (0, .ref mo), (1, .int (iI q))]) hl [0, 1, 2, 3, 4, 5] rfl) (by simp only [e1_0, e1_1]))
                  · refine z_iconst hx hb dX3_worst_70 ?_
                    refine lv_goto (tgt := 75) hx hb dX3_worst_71 (by decide) ?_
                    refine z_iadd hx hb dX3_worst_75 ?_
                    refine lv_istore (lv' := [(4, .int (iI ((aheadZ (gOf (S 0)) i j) + 1))), (5, .int (iI (j : Int))), (3, .int (iI (i : Int))), (2, .int (iI (rankZ (gOf (S 0)) q i))), (0, .ref mo), (1, .int (iI q))]) hx hb dX3_worst_76 hl (by decide) rfl (fun ls hl => ?_)
                    refine lv_iinc (v := iI ((j : Int) + 1)) (lv' := [(5, .int (iI ((j : Int) + 1))), (4, .int (iI ((aheadZ (gOf (S 0)) i j) + 1))), (3, .int (iI (i : Int))), (2, .int (iI (rankZ (gOf (S 0)) q i))), (0, .ref mo), (1, .int (iI q))]) hx hb dX3_worst_78 hl (k := 1) rfl (iI_add _ _) (by decide) rfl (fun ls hl => ?_)
                    refine lv_goto (tgt := 27) hx hb dX3_worst_81 (by decide) ?_
                    have e1_0 : (((j + 1 : Nat) : Int)) = ((j : Int) + 1) := by first | omega | (simp only [aheadZ, sumZ]; omega)
                    have e1_1 : ((aheadZ (gOf (S 0)) i (j + 1))) = ((aheadZ (gOf (S 0)) i j) + 1) := by first | omega | (simp only [aheadZ, sumZ]; omega)
                    exact ih27 (j + 1) (by omega) (by omega) _ _ _ hP hD hS (lv_to (lv_sub (l' := [(5, .int (iI ((j : Int) + 1))), (4, .int (iI ((aheadZ (gOf (S 0)) i j) + 1))), (3, .int (iI (i : Int))), (2, .int (iI (rankZ (gOf (S 0)) q i))), (0, .ref mo), (1, .int (iI q))]) hl [0, 1, 2, 3, 4, 5] rfl) (by simp only [e1_0, e1_1]))
        have e0_0 : (((0 : Nat) : Int)) = 0 := by first | rfl | omega
        have e0_1 : ((aheadZ (gOf (S 0)) i (0))) = 0 := by first | rfl | omega
        exact LP27 (6 + 1) 0 (by omega) (by omega) _ _ _ hP hD hS (lv_to (lv_sub (l' := [(5, .int (iI 0)), (4, .int (iI 0)), (3, .int (iI (i : Int))), (2, .int (iI (rankZ (gOf (S 0)) q i))), (0, .ref mo), (1, .int (iI q))]) hl [0, 1, 2, 3, 4, 5] rfl) (by simp only [e0_0, e0_1]))
  have e0_0 : (((0 : Nat) : Int)) = 0 := by first | rfl | omega
  have e0_1 : ((rankZ (gOf (S 0)) q (0))) = (-1000004) := by first | rfl | omega
  exact LP15 (6 + 1) 0 (by omega) (by omega) _ _ _ hP hD hS (lv_to (lv_sub (l' := [(3, .int (iI 0)), (2, .int (iI (-1000004))), (0, .ref mo), (1, .int (iI q))]) hl [0, 1, 2, 3] rfl) (by simp only [e0_0, e0_1]))
set_option maxHeartbeats 4000000 in
set_option maxRecDepth 100000 in
theorem m_X3_worst_bad (l : Launch) (D : va_G) (mo : Nat) (am : Nat → Nat) (cI : ClassId) (S : Nat → Int → Int) (q : Int) (h1 : -2147483648 ≤ q ∧ q < 2147483648) (hb0 : q < 0 ∨ 5 < q)  : MW l D yX3_worst (wsY yX3_worst cX3_worst 6 (some .int)) { frames := 2, cells := 0, slots := 0, locals := 42 } [(cI, .int)] [.ref mo, .int (iI q)] (wM mo am cI S) (wM mo am cI S) (some (.int (iI (-1000001)))) := by
  refine mw_ofI (cc := cX3_worst) (maxL := 6) (by decide) rfl (Nat.le_of_ble_eq_true rfl) ?_
  intro p e s m below meth c R A Q args ls hx hb hml hown hts hRf hRl hRc hRs hN hK hP hD hS hA hret hl
  have hq : ∀ w ∈ ALL, w.before args s = true := fun w h => hts w (List.mem_cons_of_mem _ h)
  have hl : lv_has ls 6 [(0, .ref mo), (1, .int (iI q))] := hl
  refine lv_iload_n hx hb dX3_worst_0 rfl (lv_at hl 1 rfl) ?_
  refine mw_none (st1 := [.int (iI (if 0 ≤ q ∧ q ≤ 5 then 1 else 0 : Int))]) (mr_S (As := [.int (iI q)]) (rest := []) ⟨hx, hb, hml, hown, hts⟩ (m_X3_isRow l D q (by omega)) (va_cwS 1 hts (gS q_388 q_389 q_345 q_382) rfl rfl rfl (by decide +kernel) ⟨Nat.le_trans (m := 2) (Nat.le_of_ble_eq_true rfl) (Nat.le_trans (Nat.le_of_ble_eq_true rfl) hRf), Nat.le_trans (m := 42) (Nat.le_of_ble_eq_true rfl) (Nat.le_trans (Nat.le_of_ble_eq_true rfl) hRl)⟩) hN (hK.sub (tys' := []) [] rfl) (va_P0 _ _ _) (va_D0 A) rfl hl.1 (Nat.le_of_ble_eq_true rfl) ⟨hRc, hRs⟩ dX3_worst_1) hP hS hA rfl (fun H locs hP hS => ?_)
  refine z_if_ne (tgt := 10) hx hb dX3_worst_4 (by decide) (by omega) (fun c_1 => absurd c_1 (by omega)) (fun c_1 => ?_)
  refine z_ldc hx hb (-1000001) (by decide +kernel) hown (hq _ q_448) dX3_worst_7 ?_
  refine z_as (show (-1000001) = -1000001 from by first | rfl | omega) ?_
  first | exact hret _ _ _ _ dX3_worst_9 hP hD hS | (exfalso; omega)
set_option maxHeartbeats 4000000 in
set_option maxRecDepth 100000 in
theorem m_X3_count (l : Launch) (D : va_G) (mo : Nat) (am : Nat → Nat) (cI : ClassId) (S : Nat → Int → Int) (w : Int) {B : Int} (hI : InvG B (gOf (S 0))) (hR : RefI (S 0)) (h1 : -2147483648 ≤ w ∧ w < 2147483648)  : MW l D yX3_count (wsY yX3_count cX3_count 2 (some .int)) { frames := 8, cells := 0, slots := 0, locals := 178 } [(cI, .int)] [.ref mo, .int (iI w)] (wM mo am cI S) (wM mo am cI S) (some (.int (iI (cntV S w)))) := by
  refine mw_ofI (cc := cX3_count) (maxL := 2) (by decide) rfl (Nat.le_of_ble_eq_true rfl) ?_
  intro p e s m below meth c R A Q args ls hx hb hml hown hts hRf hRl hRc hRs hN hK hP hD hS hA hret hl
  have hq : ∀ w ∈ ALL, w.before args s = true := fun w h => hts w (List.mem_cons_of_mem _ h)
  have hl : lv_has ls 2 [(0, .ref mo), (1, .int (iI w))] := hl
  refine lv_iload_n hx hb dX3_count_0 rfl (lv_at hl 1 rfl) ?_
  refine z_bipush hx hb dX3_count_1 (by decide +kernel) ?_
  refine z_bipush hx hb dX3_count_3 (by decide +kernel) ?_
  refine mw_none (st1 := [.int (iI (if 7 ≤ w ∧ w ≤ 10 then 1 else 0 : Int))]) (mr_S (As := [.int (iI w), .int (iI 7), .int (iI 10)]) (rest := []) ⟨hx, hb, hml, hown, hts⟩ (m_X3_in l D w 7 10 (by omega) (by omega) (by omega)) (va_cwS 3 hts (gS q_380 q_381 q_345 q_374) rfl rfl rfl (by decide +kernel) ⟨Nat.le_trans (m := 1) (Nat.le_of_ble_eq_true rfl) (Nat.le_trans (Nat.le_of_ble_eq_true rfl) hRf), Nat.le_trans (m := 22) (Nat.le_of_ble_eq_true rfl) (Nat.le_trans (Nat.le_of_ble_eq_true rfl) hRl)⟩) hN (hK.sub (tys' := []) [] rfl) (va_P0 _ _ _) (va_D0 A) rfl hl.1 (Nat.le_of_ble_eq_true rfl) ⟨hRc, hRs⟩ dX3_count_5) hP hS hA rfl (fun H locs hP hS => ?_)
  refine z_if_eq (tgt := 23) hx hb dX3_count_8 (by decide) (by omega) (fun c_1 => ?_) (fun c_1 => ?_)
  · refine lv_iload_n hx hb dX3_count_23 rfl (lv_at hl 1 rfl) ?_
    rcases z_tab w 0 22 with c_2 | c_2
    · refine lv_tableOut (tgt := 191) hx hb dX3_count_24 (by rw [iI_t (by omega)]; exact c_2) (by decide) ?_
      refine z_ldc hx hb (-1000001) (by decide +kernel) hown (hq _ q_448) dX3_count_191 ?_
      refine z_as (show (-1000001) = cntV S w from by first | rfl | (subst_vars; rfl) | (unfold cntV tallyV; omega) | (unfold cntV tallyV; rw [so_2]; omega) | (subst_vars; rw [so_2]; rfl) | (subst_vars; exact so_k _ _ _ (by decide) (by decide))) ?_
      first | exact hret _ _ _ _ dX3_count_193 hP hD hS | (exfalso; omega)
    · have c_3 : w = 0 ∨ w = 1 ∨ w = 2 ∨ w = 3 ∨ w = 4 ∨ w = 5 ∨ w = 6 ∨ w = 7 ∨ w = 8 ∨ w = 9 ∨ w = 10 ∨ w = 11 ∨ w = 12 ∨ w = 13 ∨ w = 14 ∨ w = 15 ∨ w = 16 ∨ w = 17 ∨ w = 18 ∨ w = 19 ∨ w = 20 ∨ w = 21 ∨ w = 22 := by omega
      rcases c_3 with c_3 | c_3 | c_3 | c_3 | c_3 | c_3 | c_3 | c_3 | c_3 | c_3 | c_3 | c_3 | c_3 | c_3 | c_3 | c_3 | c_3 | c_3 | c_3 | c_3 | c_3 | c_3 | c_3
      · refine lv_tableIn (tgt := 132) (off := 108) hx hb dX3_count_24 (by rw [iI_t (by omega)]; omega) (by rw [iI_t (by omega)]; omega) (by rw [iI_t (by omega), c_3]; rfl) (by decide) ?_
        refine lv_aload_n hx hb dX3_count_132 rfl (lv_at hl 0 rfl) ?_
        refine va_get (D := D) (ci := 3) (v := .ref (am 0)) (C := RX3) (T := TX3) (N := 14) hx hb hq inA3 hown hK hP 0 rfl rfl 0 (by decide) (hq _ q_338) (fun _ h9 => h9) rfl dX3_count_133 ?_
        refine z_iconst hx hb dX3_count_136 ?_
        refine z_iald hx hb hK hP 1 0 rfl rfl (by omega) (by omega) (v := (gOf (S 0) 12 0)) (s_12 _) dX3_count_137 ?_
        refine z_as (show (gOf (S 0) 12 0) = cntV S w from by first | rfl | (subst_vars; rfl) | (unfold cntV tallyV; omega) | (unfold cntV tallyV; rw [so_2]; omega) | (subst_vars; rw [so_2]; rfl) | (subst_vars; exact so_k _ _ _ (by decide) (by decide))) ?_
        first | exact hret _ _ _ _ dX3_count_138 hP hD hS | (exfalso; omega)
      · refine lv_tableIn (tgt := 139) (off := 115) hx hb dX3_count_24 (by rw [iI_t (by omega)]; omega) (by rw [iI_t (by omega)]; omega) (by rw [iI_t (by omega), c_3]; rfl) (by decide) ?_
        refine lv_aload_n hx hb dX3_count_139 rfl (lv_at hl 0 rfl) ?_
        refine mw_full (st1 := [.int (iI (allWrongZ (gOf (S 0)) 6))]) (mr_V (As := []) (rest := []) (ci := 3) (q0 := 0) ⟨hx, hb, hml, hown, hts⟩ (m_X3_wrongAll l D mo am cI S  hI) (cwV 0 hts (gV q_545 q_546 q_547 q_345 q_535) rfl rfl rfl (by decide +kernel) ⟨Nat.le_trans (m := 7) (Nat.le_of_ble_eq_true rfl) (Nat.le_trans (Nat.le_of_ble_eq_true rfl) hRf), Nat.le_trans (m := 155) (Nat.le_of_ble_eq_true rfl) (Nat.le_trans (Nat.le_of_ble_eq_true rfl) hRl)⟩) hN hK hP hD rfl rfl rfl hl.1 (Nat.le_of_ble_eq_true rfl) ⟨hRc, hRs⟩ dX3_count_140) hD hS hA rfl (fun H locs hP hD hS => ?_)
        refine z_as (show allWrongZ (gOf (S 0)) 6 = cntV S w from by first | rfl | (subst_vars; rfl) | (unfold cntV tallyV; omega) | (unfold cntV tallyV; rw [so_2]; omega) | (subst_vars; rw [so_2]; rfl) | (subst_vars; exact so_k _ _ _ (by decide) (by decide))) ?_
        first | exact hret _ _ _ _ dX3_count_143 hP hD hS | (exfalso; omega)
      · refine lv_tableIn (tgt := 144) (off := 120) hx hb dX3_count_24 (by rw [iI_t (by omega)]; omega) (by rw [iI_t (by omega)]; omega) (by rw [iI_t (by omega), c_3]; rfl) (by decide) ?_
        refine lv_aload_n hx hb dX3_count_144 rfl (lv_at hl 0 rfl) ?_
        refine lv_iload_n hx hb dX3_count_145 rfl (lv_at hl 1 rfl) ?_
        refine mw_full (st1 := [.int (iI (soV (gOf (S 0)) w 6))]) (mr_V (As := [.int (iI w)]) (rest := []) (ci := 3) (q0 := 0) ⟨hx, hb, hml, hown, hts⟩ (m_X3_setOf l D mo am cI S w hI (by omega)) (cwV 1 hts (gV q_548 q_549 q_550 q_345 q_540) rfl rfl rfl (by decide +kernel) ⟨Nat.le_trans (m := 8) (Nat.le_of_ble_eq_true rfl) (Nat.le_trans (Nat.le_of_ble_eq_true rfl) hRf), Nat.le_trans (m := 178) (Nat.le_of_ble_eq_true rfl) (Nat.le_trans (Nat.le_of_ble_eq_true rfl) hRl)⟩) hN hK hP hD rfl rfl rfl hl.1 (Nat.le_of_ble_eq_true rfl) ⟨hRc, hRs⟩ dX3_count_146) hD hS hA rfl (fun H locs hP hD hS => ?_)
        refine z_as (show soV (gOf (S 0)) w 6 = cntV S w from by first | rfl | (subst_vars; rfl) | (unfold cntV tallyV; omega) | (unfold cntV tallyV; rw [so_2]; omega) | (subst_vars; rw [so_2]; rfl) | (subst_vars; exact so_k _ _ _ (by decide) (by decide))) ?_
        first | exact hret _ _ _ _ dX3_count_149 hP hD hS | (exfalso; omega)
      · refine lv_tableIn (tgt := 144) (off := 120) hx hb dX3_count_24 (by rw [iI_t (by omega)]; omega) (by rw [iI_t (by omega)]; omega) (by rw [iI_t (by omega), c_3]; rfl) (by decide) ?_
        refine lv_aload_n hx hb dX3_count_144 rfl (lv_at hl 0 rfl) ?_
        refine lv_iload_n hx hb dX3_count_145 rfl (lv_at hl 1 rfl) ?_
        refine mw_full (st1 := [.int (iI (soV (gOf (S 0)) w 6))]) (mr_V (As := [.int (iI w)]) (rest := []) (ci := 3) (q0 := 0) ⟨hx, hb, hml, hown, hts⟩ (m_X3_setOf l D mo am cI S w hI (by omega)) (cwV 1 hts (gV q_548 q_549 q_550 q_345 q_540) rfl rfl rfl (by decide +kernel) ⟨Nat.le_trans (m := 8) (Nat.le_of_ble_eq_true rfl) (Nat.le_trans (Nat.le_of_ble_eq_true rfl) hRf), Nat.le_trans (m := 178) (Nat.le_of_ble_eq_true rfl) (Nat.le_trans (Nat.le_of_ble_eq_true rfl) hRl)⟩) hN hK hP hD rfl rfl rfl hl.1 (Nat.le_of_ble_eq_true rfl) ⟨hRc, hRs⟩ dX3_count_146) hD hS hA rfl (fun H locs hP hD hS => ?_)
        refine z_as (show soV (gOf (S 0)) w 6 = cntV S w from by first | rfl | (subst_vars; rfl) | (unfold cntV tallyV; omega) | (unfold cntV tallyV; rw [so_2]; omega) | (subst_vars; rw [so_2]; rfl) | (subst_vars; exact so_k _ _ _ (by decide) (by decide))) ?_
        first | exact hret _ _ _ _ dX3_count_149 hP hD hS | (exfalso; omega)
      · refine lv_tableIn (tgt := 144) (off := 120) hx hb dX3_count_24 (by rw [iI_t (by omega)]; omega) (by rw [iI_t (by omega)]; omega) (by rw [iI_t (by omega), c_3]; rfl) (by decide) ?_
        refine lv_aload_n hx hb dX3_count_144 rfl (lv_at hl 0 rfl) ?_
        refine lv_iload_n hx hb dX3_count_145 rfl (lv_at hl 1 rfl) ?_
        refine mw_full (st1 := [.int (iI (soV (gOf (S 0)) w 6))]) (mr_V (As := [.int (iI w)]) (rest := []) (ci := 3) (q0 := 0) ⟨hx, hb, hml, hown, hts⟩ (m_X3_setOf l D mo am cI S w hI (by omega)) (cwV 1 hts (gV q_548 q_549 q_550 q_345 q_540) rfl rfl rfl (by decide +kernel) ⟨Nat.le_trans (m := 8) (Nat.le_of_ble_eq_true rfl) (Nat.le_trans (Nat.le_of_ble_eq_true rfl) hRf), Nat.le_trans (m := 178) (Nat.le_of_ble_eq_true rfl) (Nat.le_trans (Nat.le_of_ble_eq_true rfl) hRl)⟩) hN hK hP hD rfl rfl rfl hl.1 (Nat.le_of_ble_eq_true rfl) ⟨hRc, hRs⟩ dX3_count_146) hD hS hA rfl (fun H locs hP hD hS => ?_)
        refine z_as (show soV (gOf (S 0)) w 6 = cntV S w from by first | rfl | (subst_vars; rfl) | (unfold cntV tallyV; omega) | (unfold cntV tallyV; rw [so_2]; omega) | (subst_vars; rw [so_2]; rfl) | (subst_vars; exact so_k _ _ _ (by decide) (by decide))) ?_
        first | exact hret _ _ _ _ dX3_count_149 hP hD hS | (exfalso; omega)
      · refine lv_tableIn (tgt := 144) (off := 120) hx hb dX3_count_24 (by rw [iI_t (by omega)]; omega) (by rw [iI_t (by omega)]; omega) (by rw [iI_t (by omega), c_3]; rfl) (by decide) ?_
        refine lv_aload_n hx hb dX3_count_144 rfl (lv_at hl 0 rfl) ?_
        refine lv_iload_n hx hb dX3_count_145 rfl (lv_at hl 1 rfl) ?_
        refine mw_full (st1 := [.int (iI (soV (gOf (S 0)) w 6))]) (mr_V (As := [.int (iI w)]) (rest := []) (ci := 3) (q0 := 0) ⟨hx, hb, hml, hown, hts⟩ (m_X3_setOf l D mo am cI S w hI (by omega)) (cwV 1 hts (gV q_548 q_549 q_550 q_345 q_540) rfl rfl rfl (by decide +kernel) ⟨Nat.le_trans (m := 8) (Nat.le_of_ble_eq_true rfl) (Nat.le_trans (Nat.le_of_ble_eq_true rfl) hRf), Nat.le_trans (m := 178) (Nat.le_of_ble_eq_true rfl) (Nat.le_trans (Nat.le_of_ble_eq_true rfl) hRl)⟩) hN hK hP hD rfl rfl rfl hl.1 (Nat.le_of_ble_eq_true rfl) ⟨hRc, hRs⟩ dX3_count_146) hD hS hA rfl (fun H locs hP hD hS => ?_)
        refine z_as (show soV (gOf (S 0)) w 6 = cntV S w from by first | rfl | (subst_vars; rfl) | (unfold cntV tallyV; omega) | (unfold cntV tallyV; rw [so_2]; omega) | (subst_vars; rw [so_2]; rfl) | (subst_vars; exact so_k _ _ _ (by decide) (by decide))) ?_
        first | exact hret _ _ _ _ dX3_count_149 hP hD hS | (exfalso; omega)
      · refine lv_tableIn (tgt := 150) (off := 126) hx hb dX3_count_24 (by rw [iI_t (by omega)]; omega) (by rw [iI_t (by omega)]; omega) (by rw [iI_t (by omega), c_3]; rfl) (by decide) ?_
        refine lv_aload_n hx hb dX3_count_150 rfl (lv_at hl 0 rfl) ?_
        refine mw_full (st1 := [.int (iI (sumZ 18 ((gOf (S 0)) 5)))]) (mr_V (As := []) (rest := []) (ci := 3) (q0 := 0) ⟨hx, hb, hml, hown, hts⟩ (m_X3_failed l D mo am cI S  hI) (cwV 0 hts (gV q_551 q_552 q_553 q_345 q_541) rfl rfl rfl (by decide +kernel) ⟨Nat.le_trans (m := 2) (Nat.le_of_ble_eq_true rfl) (Nat.le_trans (Nat.le_of_ble_eq_true rfl) hRf), Nat.le_trans (m := 44) (Nat.le_of_ble_eq_true rfl) (Nat.le_trans (Nat.le_of_ble_eq_true rfl) hRl)⟩) hN hK hP hD rfl rfl rfl hl.1 (Nat.le_of_ble_eq_true rfl) ⟨hRc, hRs⟩ dX3_count_151) hD hS hA rfl (fun H locs hP hD hS => ?_)
        refine z_as (show sumZ 18 ((gOf (S 0)) 5) = cntV S w from by first | rfl | (subst_vars; rfl) | (unfold cntV tallyV; omega) | (unfold cntV tallyV; rw [so_2]; omega) | (subst_vars; rw [so_2]; rfl) | (subst_vars; exact so_k _ _ _ (by decide) (by decide))) ?_
        first | exact hret _ _ _ _ dX3_count_154 hP hD hS | (exfalso; omega)
      · refine lv_tableIn (tgt := 191) (off := 167) hx hb dX3_count_24 (by rw [iI_t (by omega)]; omega) (by rw [iI_t (by omega)]; omega) (by rw [iI_t (by omega), c_3]; rfl) (by decide) ?_
        refine z_ldc hx hb (-1000001) (by decide +kernel) hown (hq _ q_448) dX3_count_191 ?_
        refine z_as (show (-1000001) = cntV S w from by first | rfl | (subst_vars; rfl) | (unfold cntV tallyV; omega) | (unfold cntV tallyV; rw [so_2]; omega) | (subst_vars; rw [so_2]; rfl) | (subst_vars; exact so_k _ _ _ (by decide) (by decide))) ?_
        first | exact hret _ _ _ _ dX3_count_193 hP hD hS | (exfalso; omega)
      · refine lv_tableIn (tgt := 191) (off := 167) hx hb dX3_count_24 (by rw [iI_t (by omega)]; omega) (by rw [iI_t (by omega)]; omega) (by rw [iI_t (by omega), c_3]; rfl) (by decide) ?_
        refine z_ldc hx hb (-1000001) (by decide +kernel) hown (hq _ q_448) dX3_count_191 ?_
        refine z_as (show (-1000001) = cntV S w from by first | rfl | (subst_vars; rfl) | (unfold cntV tallyV; omega) | (unfold cntV tallyV; rw [so_2]; omega) | (subst_vars; rw [so_2]; rfl) | (subst_vars; exact so_k _ _ _ (by decide) (by decide))) ?_
        first | exact hret _ _ _ _ dX3_count_193 hP hD hS | (exfalso; omega)
      · refine lv_tableIn (tgt := 191) (off := 167) hx hb dX3_count_24 (by rw [iI_t (by omega)]; omega) (by rw [iI_t (by omega)]; omega) (by rw [iI_t (by omega), c_3]; rfl) (by decide) ?_
        refine z_ldc hx hb (-1000001) (by decide +kernel) hown (hq _ q_448) dX3_count_191 ?_
        refine z_as (show (-1000001) = cntV S w from by first | rfl | (subst_vars; rfl) | (unfold cntV tallyV; omega) | (unfold cntV tallyV; rw [so_2]; omega) | (subst_vars; rw [so_2]; rfl) | (subst_vars; exact so_k _ _ _ (by decide) (by decide))) ?_
        first | exact hret _ _ _ _ dX3_count_193 hP hD hS | (exfalso; omega)
      · refine lv_tableIn (tgt := 191) (off := 167) hx hb dX3_count_24 (by rw [iI_t (by omega)]; omega) (by rw [iI_t (by omega)]; omega) (by rw [iI_t (by omega), c_3]; rfl) (by decide) ?_
        refine z_ldc hx hb (-1000001) (by decide +kernel) hown (hq _ q_448) dX3_count_191 ?_
        refine z_as (show (-1000001) = cntV S w from by first | rfl | (subst_vars; rfl) | (unfold cntV tallyV; omega) | (unfold cntV tallyV; rw [so_2]; omega) | (subst_vars; rw [so_2]; rfl) | (subst_vars; exact so_k _ _ _ (by decide) (by decide))) ?_
        first | exact hret _ _ _ _ dX3_count_193 hP hD hS | (exfalso; omega)
      · refine lv_tableIn (tgt := 155) (off := 131) hx hb dX3_count_24 (by rw [iI_t (by omega)]; omega) (by rw [iI_t (by omega)]; omega) (by rw [iI_t (by omega), c_3]; rfl) (by decide) ?_
        refine lv_aload_n hx hb dX3_count_155 rfl (lv_at hl 0 rfl) ?_
        refine mw_full (st1 := [.int (iI (pairsZ (gOf (S 0)) 9))]) (mr_V (As := []) (rest := []) (ci := 3) (q0 := 0) ⟨hx, hb, hml, hown, hts⟩ (m_X3_pairs l D mo am cI S  hI) (cwV 0 hts (gV q_554 q_555 q_556 q_345 q_542) rfl rfl rfl (by decide +kernel) ⟨Nat.le_trans (m := 1) (Nat.le_of_ble_eq_true rfl) (Nat.le_trans (Nat.le_of_ble_eq_true rfl) hRf), Nat.le_trans (m := 22) (Nat.le_of_ble_eq_true rfl) (Nat.le_trans (Nat.le_of_ble_eq_true rfl) hRl)⟩) hN hK hP hD rfl rfl rfl hl.1 (Nat.le_of_ble_eq_true rfl) ⟨hRc, hRs⟩ dX3_count_156) hD hS hA rfl (fun H locs hP hD hS => ?_)
        refine z_as (show pairsZ (gOf (S 0)) 9 = cntV S w from by first | rfl | (subst_vars; rfl) | (unfold cntV tallyV; omega) | (unfold cntV tallyV; rw [so_2]; omega) | (subst_vars; rw [so_2]; rfl) | (subst_vars; exact so_k _ _ _ (by decide) (by decide))) ?_
        first | exact hret _ _ _ _ dX3_count_159 hP hD hS | (exfalso; omega)
      · refine lv_tableIn (tgt := 160) (off := 136) hx hb dX3_count_24 (by rw [iI_t (by omega)]; omega) (by rw [iI_t (by omega)]; omega) (by rw [iI_t (by omega), c_3]; rfl) (by decide) ?_
        refine lv_aload_n hx hb dX3_count_160 rfl (lv_at hl 0 rfl) ?_
        refine lv_iload_n hx hb dX3_count_161 rfl (lv_at hl 1 rfl) ?_
        refine z_bipush hx hb dX3_count_162 (by decide +kernel) ?_
        refine z_isub hx hb dX3_count_164 ?_
        refine mw_full (st1 := [.int (iI (ofLevelZ (gOf (S 0)) (w - 12) 48))]) (mr_V (As := [.int (iI (w - 12))]) (rest := []) (ci := 3) (q0 := 0) ⟨hx, hb, hml, hown, hts⟩ (m_X3_ofLevel l D mo am cI S (w - 12) hI (by omega)) (cwV 1 hts (gV q_557 q_558 q_559 q_345 q_543) rfl rfl rfl (by decide +kernel) ⟨Nat.le_trans (m := 3) (Nat.le_of_ble_eq_true rfl) (Nat.le_trans (Nat.le_of_ble_eq_true rfl) hRf), Nat.le_trans (m := 68) (Nat.le_of_ble_eq_true rfl) (Nat.le_trans (Nat.le_of_ble_eq_true rfl) hRl)⟩) hN hK hP hD rfl rfl rfl hl.1 (Nat.le_of_ble_eq_true rfl) ⟨hRc, hRs⟩ dX3_count_165) hD hS hA rfl (fun H locs hP hD hS => ?_)
        refine z_as (show ofLevelZ (gOf (S 0)) (w - 12) 48 = cntV S w from by first | rfl | (subst_vars; rfl) | (unfold cntV tallyV; omega) | (unfold cntV tallyV; rw [so_2]; omega) | (subst_vars; rw [so_2]; rfl) | (subst_vars; exact so_k _ _ _ (by decide) (by decide))) ?_
        first | exact hret _ _ _ _ dX3_count_168 hP hD hS | (exfalso; omega)
      · refine lv_tableIn (tgt := 160) (off := 136) hx hb dX3_count_24 (by rw [iI_t (by omega)]; omega) (by rw [iI_t (by omega)]; omega) (by rw [iI_t (by omega), c_3]; rfl) (by decide) ?_
        refine lv_aload_n hx hb dX3_count_160 rfl (lv_at hl 0 rfl) ?_
        refine lv_iload_n hx hb dX3_count_161 rfl (lv_at hl 1 rfl) ?_
        refine z_bipush hx hb dX3_count_162 (by decide +kernel) ?_
        refine z_isub hx hb dX3_count_164 ?_
        refine mw_full (st1 := [.int (iI (ofLevelZ (gOf (S 0)) (w - 12) 48))]) (mr_V (As := [.int (iI (w - 12))]) (rest := []) (ci := 3) (q0 := 0) ⟨hx, hb, hml, hown, hts⟩ (m_X3_ofLevel l D mo am cI S (w - 12) hI (by omega)) (cwV 1 hts (gV q_557 q_558 q_559 q_345 q_543) rfl rfl rfl (by decide +kernel) ⟨Nat.le_trans (m := 3) (Nat.le_of_ble_eq_true rfl) (Nat.le_trans (Nat.le_of_ble_eq_true rfl) hRf), Nat.le_trans (m := 68) (Nat.le_of_ble_eq_true rfl) (Nat.le_trans (Nat.le_of_ble_eq_true rfl) hRl)⟩) hN hK hP hD rfl rfl rfl hl.1 (Nat.le_of_ble_eq_true rfl) ⟨hRc, hRs⟩ dX3_count_165) hD hS hA rfl (fun H locs hP hD hS => ?_)
        refine z_as (show ofLevelZ (gOf (S 0)) (w - 12) 48 = cntV S w from by first | rfl | (subst_vars; rfl) | (unfold cntV tallyV; omega) | (unfold cntV tallyV; rw [so_2]; omega) | (subst_vars; rw [so_2]; rfl) | (subst_vars; exact so_k _ _ _ (by decide) (by decide))) ?_
        first | exact hret _ _ _ _ dX3_count_168 hP hD hS | (exfalso; omega)
      · refine lv_tableIn (tgt := 160) (off := 136) hx hb dX3_count_24 (by rw [iI_t (by omega)]; omega) (by rw [iI_t (by omega)]; omega) (by rw [iI_t (by omega), c_3]; rfl) (by decide) ?_
        refine lv_aload_n hx hb dX3_count_160 rfl (lv_at hl 0 rfl) ?_
        refine lv_iload_n hx hb dX3_count_161 rfl (lv_at hl 1 rfl) ?_
        refine z_bipush hx hb dX3_count_162 (by decide +kernel) ?_
        refine z_isub hx hb dX3_count_164 ?_
        refine mw_full (st1 := [.int (iI (ofLevelZ (gOf (S 0)) (w - 12) 48))]) (mr_V (As := [.int (iI (w - 12))]) (rest := []) (ci := 3) (q0 := 0) ⟨hx, hb, hml, hown, hts⟩ (m_X3_ofLevel l D mo am cI S (w - 12) hI (by omega)) (cwV 1 hts (gV q_557 q_558 q_559 q_345 q_543) rfl rfl rfl (by decide +kernel) ⟨Nat.le_trans (m := 3) (Nat.le_of_ble_eq_true rfl) (Nat.le_trans (Nat.le_of_ble_eq_true rfl) hRf), Nat.le_trans (m := 68) (Nat.le_of_ble_eq_true rfl) (Nat.le_trans (Nat.le_of_ble_eq_true rfl) hRl)⟩) hN hK hP hD rfl rfl rfl hl.1 (Nat.le_of_ble_eq_true rfl) ⟨hRc, hRs⟩ dX3_count_165) hD hS hA rfl (fun H locs hP hD hS => ?_)
        refine z_as (show ofLevelZ (gOf (S 0)) (w - 12) 48 = cntV S w from by first | rfl | (subst_vars; rfl) | (unfold cntV tallyV; omega) | (unfold cntV tallyV; rw [so_2]; omega) | (subst_vars; rw [so_2]; rfl) | (subst_vars; exact so_k _ _ _ (by decide) (by decide))) ?_
        first | exact hret _ _ _ _ dX3_count_168 hP hD hS | (exfalso; omega)
      · refine lv_tableIn (tgt := 169) (off := 145) hx hb dX3_count_24 (by rw [iI_t (by omega)]; omega) (by rw [iI_t (by omega)]; omega) (by rw [iI_t (by omega), c_3]; rfl) (by decide) ?_
        refine lv_aload_n hx hb dX3_count_169 rfl (lv_at hl 0 rfl) ?_
        refine va_get (D := D) (ci := 3) (v := .int (iI (S 4 0))) (C := RX3) (T := TX3) (N := 14) hx hb hq inA3 hown hK hP 0 rfl rfl 4 (by decide) (hq _ q_376) (fun _ h9 => h9) rfl dX3_count_170 ?_
        refine z_as (show (S 4 0) = cntV S w from by first | rfl | (subst_vars; rfl) | (unfold cntV tallyV; omega) | (unfold cntV tallyV; rw [so_2]; omega) | (subst_vars; rw [so_2]; rfl) | (subst_vars; exact so_k _ _ _ (by decide) (by decide))) ?_
        first | exact hret _ _ _ _ dX3_count_173 hP hD hS | (exfalso; omega)
      · refine lv_tableIn (tgt := 174) (off := 150) hx hb dX3_count_24 (by rw [iI_t (by omega)]; omega) (by rw [iI_t (by omega)]; omega) (by rw [iI_t (by omega), c_3]; rfl) (by decide) ?_
        refine lv_aload_n hx hb dX3_count_174 rfl (lv_at hl 0 rfl) ?_
        refine va_get (D := D) (ci := 3) (v := .int (iI (S 6 0))) (C := RX3) (T := TX3) (N := 14) hx hb hq inA3 hown hK hP 0 rfl rfl 6 (by decide) (hq _ q_544) (fun _ h9 => h9) rfl dX3_count_175 ?_
        refine z_as (show (S 6 0) = cntV S w from by first | rfl | (subst_vars; rfl) | (unfold cntV tallyV; omega) | (unfold cntV tallyV; rw [so_2]; omega) | (subst_vars; rw [so_2]; rfl) | (subst_vars; exact so_k _ _ _ (by decide) (by decide))) ?_
        first | exact hret _ _ _ _ dX3_count_178 hP hD hS | (exfalso; omega)
      · refine lv_tableIn (tgt := 191) (off := 167) hx hb dX3_count_24 (by rw [iI_t (by omega)]; omega) (by rw [iI_t (by omega)]; omega) (by rw [iI_t (by omega), c_3]; rfl) (by decide) ?_
        refine z_ldc hx hb (-1000001) (by decide +kernel) hown (hq _ q_448) dX3_count_191 ?_
        refine z_as (show (-1000001) = cntV S w from by first | rfl | (subst_vars; rfl) | (unfold cntV tallyV; omega) | (unfold cntV tallyV; rw [so_2]; omega) | (subst_vars; rw [so_2]; rfl) | (subst_vars; exact so_k _ _ _ (by decide) (by decide))) ?_
        first | exact hret _ _ _ _ dX3_count_193 hP hD hS | (exfalso; omega)
      · refine lv_tableIn (tgt := 191) (off := 167) hx hb dX3_count_24 (by rw [iI_t (by omega)]; omega) (by rw [iI_t (by omega)]; omega) (by rw [iI_t (by omega), c_3]; rfl) (by decide) ?_
        refine z_ldc hx hb (-1000001) (by decide +kernel) hown (hq _ q_448) dX3_count_191 ?_
        refine z_as (show (-1000001) = cntV S w from by first | rfl | (subst_vars; rfl) | (unfold cntV tallyV; omega) | (unfold cntV tallyV; rw [so_2]; omega) | (subst_vars; rw [so_2]; rfl) | (subst_vars; exact so_k _ _ _ (by decide) (by decide))) ?_
        first | exact hret _ _ _ _ dX3_count_193 hP hD hS | (exfalso; omega)
      · refine lv_tableIn (tgt := 191) (off := 167) hx hb dX3_count_24 (by rw [iI_t (by omega)]; omega) (by rw [iI_t (by omega)]; omega) (by rw [iI_t (by omega), c_3]; rfl) (by decide) ?_
        refine z_ldc hx hb (-1000001) (by decide +kernel) hown (hq _ q_448) dX3_count_191 ?_
        refine z_as (show (-1000001) = cntV S w from by first | rfl | (subst_vars; rfl) | (unfold cntV tallyV; omega) | (unfold cntV tallyV; rw [so_2]; omega) | (subst_vars; rw [so_2]; rfl) | (subst_vars; exact so_k _ _ _ (by decide) (by decide))) ?_
        first | exact hret _ _ _ _ dX3_count_193 hP hD hS | (exfalso; omega)
      · refine lv_tableIn (tgt := 179) (off := 155) hx hb dX3_count_24 (by rw [iI_t (by omega)]; omega) (by rw [iI_t (by omega)]; omega) (by rw [iI_t (by omega), c_3]; rfl) (by decide) ?_
        refine lv_aload_n hx hb dX3_count_179 rfl (lv_at hl 0 rfl) ?_
        refine va_get (D := D) (ci := 3) (v := .ref (am 0)) (C := RX3) (T := TX3) (N := 14) hx hb hq inA3 hown hK hP 0 rfl rfl 0 (by decide) (hq _ q_338) (fun _ h9 => h9) rfl dX3_count_180 ?_
        refine z_iconst hx hb dX3_count_183 ?_
        refine lv_iload_n hx hb dX3_count_184 rfl (lv_at hl 1 rfl) ?_
        refine z_iadd hx hb dX3_count_185 ?_
        refine z_bipush hx hb dX3_count_186 (by decide +kernel) ?_
        refine z_isub hx hb dX3_count_188 ?_
        refine z_iald hx hb hK hP 1 0 rfl rfl (by omega) (by omega) (v := (gOf (S 0) 11 (w - 20))) (s_11 _ (by omega) (by omega)) dX3_count_189 ?_
        refine z_as (show (gOf (S 0) 11 (w - 20)) = cntV S w from by first | rfl | (subst_vars; rfl) | (unfold cntV tallyV; omega) | (unfold cntV tallyV; rw [so_2]; omega) | (subst_vars; rw [so_2]; rfl) | (subst_vars; exact so_k _ _ _ (by decide) (by decide))) ?_
        first | exact hret _ _ _ _ dX3_count_190 hP hD hS | (exfalso; omega)
      · refine lv_tableIn (tgt := 179) (off := 155) hx hb dX3_count_24 (by rw [iI_t (by omega)]; omega) (by rw [iI_t (by omega)]; omega) (by rw [iI_t (by omega), c_3]; rfl) (by decide) ?_
        refine lv_aload_n hx hb dX3_count_179 rfl (lv_at hl 0 rfl) ?_
        refine va_get (D := D) (ci := 3) (v := .ref (am 0)) (C := RX3) (T := TX3) (N := 14) hx hb hq inA3 hown hK hP 0 rfl rfl 0 (by decide) (hq _ q_338) (fun _ h9 => h9) rfl dX3_count_180 ?_
        refine z_iconst hx hb dX3_count_183 ?_
        refine lv_iload_n hx hb dX3_count_184 rfl (lv_at hl 1 rfl) ?_
        refine z_iadd hx hb dX3_count_185 ?_
        refine z_bipush hx hb dX3_count_186 (by decide +kernel) ?_
        refine z_isub hx hb dX3_count_188 ?_
        refine z_iald hx hb hK hP 1 0 rfl rfl (by omega) (by omega) (v := (gOf (S 0) 11 (w - 20))) (s_11 _ (by omega) (by omega)) dX3_count_189 ?_
        refine z_as (show (gOf (S 0) 11 (w - 20)) = cntV S w from by first | rfl | (subst_vars; rfl) | (unfold cntV tallyV; omega) | (unfold cntV tallyV; rw [so_2]; omega) | (subst_vars; rw [so_2]; rfl) | (subst_vars; exact so_k _ _ _ (by decide) (by decide))) ?_
        first | exact hret _ _ _ _ dX3_count_190 hP hD hS | (exfalso; omega)
      · refine lv_tableIn (tgt := 179) (off := 155) hx hb dX3_count_24 (by rw [iI_t (by omega)]; omega) (by rw [iI_t (by omega)]; omega) (by rw [iI_t (by omega), c_3]; rfl) (by decide) ?_
        refine lv_aload_n hx hb dX3_count_179 rfl (lv_at hl 0 rfl) ?_
        refine va_get (D := D) (ci := 3) (v := .ref (am 0)) (C := RX3) (T := TX3) (N := 14) hx hb hq inA3 hown hK hP 0 rfl rfl 0 (by decide) (hq _ q_338) (fun _ h9 => h9) rfl dX3_count_180 ?_
        refine z_iconst hx hb dX3_count_183 ?_
        refine lv_iload_n hx hb dX3_count_184 rfl (lv_at hl 1 rfl) ?_
        refine z_iadd hx hb dX3_count_185 ?_
        refine z_bipush hx hb dX3_count_186 (by decide +kernel) ?_
        refine z_isub hx hb dX3_count_188 ?_
        refine z_iald hx hb hK hP 1 0 rfl rfl (by omega) (by omega) (v := (gOf (S 0) 11 (w - 20))) (s_11 _ (by omega) (by omega)) dX3_count_189 ?_
        refine z_as (show (gOf (S 0) 11 (w - 20)) = cntV S w from by first | rfl | (subst_vars; rfl) | (unfold cntV tallyV; omega) | (unfold cntV tallyV; rw [so_2]; omega) | (subst_vars; rw [so_2]; rfl) | (subst_vars; exact so_k _ _ _ (by decide) (by decide))) ?_
        first | exact hret _ _ _ _ dX3_count_190 hP hD hS | (exfalso; omega)
  · refine lv_aload_n hx hb dX3_count_11 rfl (lv_at hl 0 rfl) ?_
    refine va_get (D := D) (ci := 3) (v := .ref (am 0)) (C := RX3) (T := TX3) (N := 14) hx hb hq inA3 hown hK hP 0 rfl rfl 0 (by decide) (hq _ q_338) (fun _ h9 => h9) rfl dX3_count_12 ?_
    refine z_iconst hx hb dX3_count_15 ?_
    refine lv_iload_n hx hb dX3_count_16 rfl (lv_at hl 1 rfl) ?_
    refine z_iadd hx hb dX3_count_17 ?_
    refine z_bipush hx hb dX3_count_18 (by decide +kernel) ?_
    refine z_isub hx hb dX3_count_20 ?_
    refine z_iald hx hb hK hP 1 0 rfl rfl (by omega) (by omega) (v := (S 0 ((4 + w) - 7))) rfl dX3_count_21 ?_
    refine z_as (show (S 0 ((4 + w) - 7)) = cntV S w from by (rcases (show w = 7 ∨ w = 8 ∨ w = 9 ∨ w = 10 from by omega) with h9 | h9 | h9 | h9 <;> subst h9 <;> first | exact hR.1 | exact hR.2.1 | exact hR.2.2.1 | exact hR.2.2.2)) ?_
    first | exact hret _ _ _ _ dX3_count_22 hP hD hS | (exfalso; omega)
