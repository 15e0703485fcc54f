set_option maxHeartbeats 4000000 in
set_option maxRecDepth 100000 in
theorem m_X3_write (l : Launch) (D : va_G) (mo : Nat) (am : Nat → Nat) (cI : ClassId) (S : Nat → Int → Int) (r c2 v : Int) {B : Int} (hI : InvG B (gOf (S 0))) (hk : 0 ≤ S 4 0 ∧ S 4 0 ≤ 4) (h1 : 0 ≤ r ∧ r < 6) (h2 : 0 ≤ c2 ∧ c2 < 8) (h3 : 0 ≤ v ∧ v < 3)  : MW l D yX3_write (wsY yX3_write cX3_write 5 (some .int)) { frames := 3, cells := 0, slots := 0, locals := 72 } [(cI, .int)] [.ref mo, .int (iI r), .int (iI c2), .int (iI v)] (wM mo am cI S) (wM mo am cI (wrS (recS S) r c2 v)) (some (.int (iI (aimZ v + ((37 * (8 * r + c2) + 11 * (gOf (recS S 0)) 2 (8 * r + c2)) % 21 - 10))))) := by
  refine mw_ofI (cc := cX3_write) (maxL := 5) (by decide) rfl (Nat.le_of_ble_eq_true rfl) ?_
  intro p e s m below meth c R A Q args ls hx hb hml hown hts hRf hRl hRc hRs hN hK hP hD hS hA hret hl
  have hq : ∀ w ∈ ALL, w.before args s = true := fun w h => hts w (List.mem_cons_of_mem _ h)
  have hl : lv_has ls 5 [(0, .ref mo), (1, .int (iI r)), (2, .int (iI c2)), (3, .int (iI v))] := hl
  refine lv_iload_n hx hb dX3_write_0 rfl (lv_at hl 1 rfl) ?_
  refine lv_iload_n hx hb dX3_write_1 rfl (lv_at hl 2 rfl) ?_
  refine lv_iload_n hx hb dX3_write_2 rfl (lv_at hl 3 rfl) ?_
  refine mw_none (st1 := [.int (iI (ewV r c2 v))]) (mr_S (As := [.int (iI r), .int (iI c2), .int (iI v)]) (rest := []) ⟨hx, hb, hml, hown, hts⟩ (m_X3_errorWrite l D r c2 v (by omega) (by omega) (by omega)) (va_cwS 3 hts (gS q_461 q_462 q_345 q_453) rfl rfl rfl (by decide +kernel) ⟨Nat.le_trans (m := 3) (Nat.le_of_ble_eq_true rfl) (Nat.le_trans (Nat.le_of_ble_eq_true rfl) hRf), Nat.le_trans (m := 64) (Nat.le_of_ble_eq_true rfl) (Nat.le_trans (Nat.le_of_ble_eq_true rfl) hRl)⟩) hN (hK.sub (tys' := []) [] rfl) (va_P0 _ _ _) (va_D0 A) rfl hl.1 (Nat.le_of_ble_eq_true rfl) ⟨hRc, hRs⟩ dX3_write_3) hP hS hA rfl (fun H locs hP hS => ?_)
  have hf_1 : ewV r c2 v = if 0 ≤ r ∧ r < 6 ∧ 0 ≤ c2 ∧ c2 < 8 ∧ 0 ≤ v ∧ v < 3 then 0 else -1000001 := rfl
  refine lv_istore (lv' := [(4, .int (iI (ewV r c2 v))), (0, .ref mo), (1, .int (iI r)), (2, .int (iI c2)), (3, .int (iI v))]) hx hb dX3_write_6 hl (by decide) rfl (fun ls hl => ?_)
  refine lv_iload hx hb dX3_write_8 (lv_at hl 0 rfl) ?_
  refine z_if_ge (tgt := 16) hx hb dX3_write_10 (by decide) (by omega) (fun c_2 => ?_) (fun c_2 => absurd c_2 (by omega))
  refine lv_aload_n hx hb dX3_write_16 rfl (lv_at hl 1 rfl) ?_
  refine mw_full (st1 := []) (mr_V (As := []) (rest := []) (ci := 3) (q0 := 0) ⟨hx, hb, hml, hown, hts⟩ (m_X3_records_all l D mo am cI S  hk) (cwV 0 hts (gV q_463 q_464 q_465 q_345 q_379) rfl rfl rfl (by decide +kernel) ⟨Nat.le_trans (m := 2) (Nat.le_of_ble_eq_true rfl) (Nat.le_trans (Nat.le_of_ble_eq_true rfl) hRf), Nat.le_trans (m := 45) (Nat.le_of_ble_eq_true rfl) (Nat.le_trans (Nat.le_of_ble_eq_true rfl) hRl)⟩) hN hK hP hD rfl rfl rfl hl.1 (Nat.le_of_ble_eq_true rfl) ⟨hRc, hRs⟩ dX3_write_17) hD hS hA rfl (fun H locs hP hD hS => ?_)
  have hI1 := inv_rec hI
  have hq12 : gOf (recS S 0) 12 0 = gOf (S 0) 12 0 := by rw [q_rec]
  refine lv_aload_n hx hb dX3_write_20 rfl (lv_at hl 1 rfl) ?_
  refine lv_iload_n hx hb dX3_write_21 rfl (lv_at hl 2 rfl) ?_
  refine lv_iload_n hx hb dX3_write_22 rfl (lv_at hl 3 rfl) ?_
  refine lv_iload_n hx hb dX3_write_23 rfl (lv_at hl 4 rfl) ?_
  refine mw_full (st1 := [.int (iI (aimZ v + ((37 * (8 * r + c2) + 11 * (gOf ((recS S) 0)) 2 (8 * r + c2)) % 21 - 10)))]) (mr_V (As := [.int (iI r), .int (iI c2), .int (iI v)]) (rest := []) (ci := 3) (q0 := 0) ⟨hx, hb, hml, hown, hts⟩ (m_X3_writes l D mo am cI (recS S) r c2 v hI1 (by omega) (by omega)) (cwV 3 hts (gV q_370 q_371 q_372 q_345 q_360) rfl rfl rfl (by decide +kernel) ⟨Nat.le_trans (m := 3) (Nat.le_of_ble_eq_true rfl) (Nat.le_trans (Nat.le_of_ble_eq_true rfl) hRf), Nat.le_trans (m := 72) (Nat.le_of_ble_eq_true rfl) (Nat.le_trans (Nat.le_of_ble_eq_true rfl) hRl)⟩) hN hK hP hD rfl rfl rfl hl.1 (Nat.le_of_ble_eq_true rfl) ⟨hRc, hRs⟩ dX3_write_24) hD hS hA rfl (fun H locs hP hD hS => ?_)
  refine z_as (show aimZ v + ((37 * (8 * r + c2) + 11 * (gOf ((recS S) 0)) 2 (8 * r + c2)) % 21 - 10) = aimZ v + ((37 * (8 * r + c2) + 11 * (gOf (recS S 0)) 2 (8 * r + c2)) % 21 - 10) from by first | rfl | omega) ?_
  first | exact hret _ _ _ _ dX3_write_27 hP hD hS | (exfalso; omega)
set_option maxHeartbeats 4000000 in
set_option maxRecDepth 100000 in
theorem m_X3_write_bad (l : Launch) (D : va_G) (mo : Nat) (am : Nat → Nat) (cI : ClassId) (S : Nat → Int → Int) (r c2 v : Int) (h1 : -2147483648 ≤ r ∧ r < 2147483648) (h2 : -2147483648 ≤ c2 ∧ c2 < 2147483648) (h3 : -2147483648 ≤ v ∧ v < 2147483648) (hb0 : r < 0 ∨ 5 < r ∨ c2 < 0 ∨ 7 < c2 ∨ v < 0 ∨ 2 < v)  : MW l D yX3_write (wsY yX3_write cX3_write 5 (some .int)) { frames := 3, cells := 0, slots := 0, locals := 72 } [(cI, .int)] [.ref mo, .int (iI r), .int (iI c2), .int (iI v)] (wM mo am cI S) (wM mo am cI S) (some (.int (iI (-1000001)))) := by
  refine mw_ofI (cc := cX3_write) (maxL := 5) (by decide) rfl (Nat.le_of_ble_eq_true rfl) ?_
  intro p e s m below meth c R A Q args ls hx hb hml hown hts hRf hRl hRc hRs hN hK hP hD hS hA hret hl
  have hq : ∀ w ∈ ALL, w.before args s = true := fun w h => hts w (List.mem_cons_of_mem _ h)
  have hl : lv_has ls 5 [(0, .ref mo), (1, .int (iI r)), (2, .int (iI c2)), (3, .int (iI v))] := hl
  refine lv_iload_n hx hb dX3_write_0 rfl (lv_at hl 1 rfl) ?_
  refine lv_iload_n hx hb dX3_write_1 rfl (lv_at hl 2 rfl) ?_
  refine lv_iload_n hx hb dX3_write_2 rfl (lv_at hl 3 rfl) ?_
  refine mw_none (st1 := [.int (iI (ewV r c2 v))]) (mr_S (As := [.int (iI r), .int (iI c2), .int (iI v)]) (rest := []) ⟨hx, hb, hml, hown, hts⟩ (m_X3_errorWrite l D r c2 v (by omega) (by omega) (by omega)) (va_cwS 3 hts (gS q_461 q_462 q_345 q_453) rfl rfl rfl (by decide +kernel) ⟨Nat.le_trans (m := 3) (Nat.le_of_ble_eq_true rfl) (Nat.le_trans (Nat.le_of_ble_eq_true rfl) hRf), Nat.le_trans (m := 64) (Nat.le_of_ble_eq_true rfl) (Nat.le_trans (Nat.le_of_ble_eq_true rfl) hRl)⟩) hN (hK.sub (tys' := []) [] rfl) (va_P0 _ _ _) (va_D0 A) rfl hl.1 (Nat.le_of_ble_eq_true rfl) ⟨hRc, hRs⟩ dX3_write_3) hP hS hA rfl (fun H locs hP hS => ?_)
  have hf_1 : ewV r c2 v = if 0 ≤ r ∧ r < 6 ∧ 0 ≤ c2 ∧ c2 < 8 ∧ 0 ≤ v ∧ v < 3 then 0 else -1000001 := rfl
  refine lv_istore (lv' := [(4, .int (iI (ewV r c2 v))), (0, .ref mo), (1, .int (iI r)), (2, .int (iI c2)), (3, .int (iI v))]) hx hb dX3_write_6 hl (by decide) rfl (fun ls hl => ?_)
  refine lv_iload hx hb dX3_write_8 (lv_at hl 0 rfl) ?_
  refine z_if_ge (tgt := 16) hx hb dX3_write_10 (by decide) (by omega) (fun c_2 => absurd c_2 (by omega)) (fun c_2 => ?_)
  refine lv_iload hx hb dX3_write_13 (lv_at hl 0 rfl) ?_
  refine z_as (show ewV r c2 v = -1000001 from by first | rfl | omega) ?_
  first | exact hret _ _ _ _ dX3_write_15 hP hD hS | (exfalso; omega)
set_option maxHeartbeats 4000000 in
set_option maxRecDepth 100000 in
theorem m_X3_fill (l : Launch) (D : va_G) (mo : Nat) (am : Nat → Nat) (cI : ClassId) (S : Nat → Int → Int) (r wd : Int) {B : Int} (hI : InvG B (gOf (S 0))) (hk : 0 ≤ S 4 0 ∧ S 4 0 ≤ 4) (hB : B + 1 ≤ 100000000) (h1 : 0 ≤ r ∧ r < 6) (h2 : 0 ≤ wd ∧ wd ≤ 6560)  : MW l D yX3_fill (wsY yX3_fill cX3_fill 4 (some .int)) { frames := 6, cells := 0, slots := 0, locals := 133 } [(cI, .int)] [.ref mo, .int (iI r), .int (iI wd)] (wM mo am cI S) (wM mo am cI (wwS (recS S) r wd 8)) (some (.int (iI (toldWordZ (gOf (recS S 0)) r)))) := by
  refine mw_ofI (cc := cX3_fill) (maxL := 4) (by decide) rfl (Nat.le_of_ble_eq_true rfl) ?_
  intro p e s m below meth c R A Q args ls hx hb hml hown hts hRf hRl hRc hRs hN hK hP hD hS hA hret hl
  have hq : ∀ w ∈ ALL, w.before args s = true := fun w h => hts w (List.mem_cons_of_mem _ h)
  have hl : lv_has ls 4 [(0, .ref mo), (1, .int (iI r)), (2, .int (iI wd))] := hl
  refine lv_iload_n hx hb dX3_fill_0 rfl (lv_at hl 1 rfl) ?_
  refine mw_none (st1 := [.int (iI (if 0 ≤ r ∧ r ≤ 5 then 1 else 0 : Int))]) (mr_S (As := [.int (iI r)]) (rest := []) ⟨hx, hb, hml, hown, hts⟩ (m_X3_isRow l D r (by omega)) (va_cwS 1 hts (gS q_388 q_389 q_345 q_382) rfl rfl rfl (by decide +kernel) ⟨Nat.le_trans (m := 2) (Nat.le_of_ble_eq_true rfl) (Nat.le_trans (Nat.le_of_ble_eq_true rfl) hRf), Nat.le_trans (m := 42) (Nat.le_of_ble_eq_true rfl) (Nat.le_trans (Nat.le_of_ble_eq_true rfl) hRl)⟩) hN (hK.sub (tys' := []) [] rfl) (va_P0 _ _ _) (va_D0 A) rfl hl.1 (Nat.le_of_ble_eq_true rfl) ⟨hRc, hRs⟩ dX3_fill_1) hP hS hA rfl (fun H locs hP hS => ?_)
  refine z_if_eq (tgt := 18) hx hb dX3_fill_4 (by decide) (by omega) (fun c_1 => absurd c_1 (by omega)) (fun c_1 => ?_)
  refine lv_iload_n hx hb dX3_fill_7 rfl (lv_at hl 2 rfl) ?_
  refine z_iconst hx hb dX3_fill_8 ?_
  refine z_sipush hx hb dX3_fill_9 (by decide +kernel) ?_
  refine mw_none (st1 := [.int (iI (if 0 ≤ wd ∧ wd ≤ 6560 then 1 else 0 : Int))]) (mr_S (As := [.int (iI wd), .int (iI 0), .int (iI 6560)]) (rest := []) ⟨hx, hb, hml, hown, hts⟩ (m_X3_in l D wd 0 6560 (by omega) (by omega) (by omega)) (va_cwS 3 hts (gS q_380 q_381 q_345 q_374) rfl rfl rfl (by decide +kernel) ⟨Nat.le_trans (m := 1) (Nat.le_of_ble_eq_true rfl) (Nat.le_trans (Nat.le_of_ble_eq_true rfl) hRf), Nat.le_trans (m := 22) (Nat.le_of_ble_eq_true rfl) (Nat.le_trans (Nat.le_of_ble_eq_true rfl) hRl)⟩) hN (hK.sub (tys' := []) [] rfl) (va_P0 _ _ _) (va_D0 A) rfl hl.1 (Nat.le_of_ble_eq_true rfl) ⟨hRc, hRs⟩ dX3_fill_12) hP hS hA rfl (fun H locs hP hS => ?_)
  refine z_if_ne (tgt := 21) hx hb dX3_fill_15 (by decide) (by omega) (fun c_2 => ?_) (fun c_2 => absurd c_2 (by omega))
  refine lv_aload_n hx hb dX3_fill_21 rfl (lv_at hl 0 rfl) ?_
  refine mw_full (st1 := []) (mr_V (As := []) (rest := []) (ci := 3) (q0 := 0) ⟨hx, hb, hml, hown, hts⟩ (m_X3_records_all l D mo am cI S  hk) (cwV 0 hts (gV q_463 q_464 q_465 q_345 q_379) rfl rfl rfl (by decide +kernel) ⟨Nat.le_trans (m := 2) (Nat.le_of_ble_eq_true rfl) (Nat.le_trans (Nat.le_of_ble_eq_true rfl) hRf), Nat.le_trans (m := 45) (Nat.le_of_ble_eq_true rfl) (Nat.le_trans (Nat.le_of_ble_eq_true rfl) hRl)⟩) hN hK hP hD rfl rfl rfl hl.1 (Nat.le_of_ble_eq_true rfl) ⟨hRc, hRs⟩ dX3_fill_22) hD hS hA rfl (fun H locs hP hD hS => ?_)
  have hI1 := inv_rec hI
  have hq12 : gOf (recS S 0) 12 0 = gOf (S 0) 12 0 := by rw [q_rec]
  refine lv_aload_n hx hb dX3_fill_25 rfl (lv_at hl 0 rfl) ?_
  refine lv_iload_n hx hb dX3_fill_26 rfl (lv_at hl 1 rfl) ?_
  refine mw_full (st1 := [.int (iI (toldWordZ (gOf ((recS S) 0)) r))]) (mr_V (As := [.int (iI r)]) (rest := []) (ci := 3) (q0 := 0) ⟨hx, hb, hml, hown, hts⟩ (m_X3_wordTold l D mo am cI (recS S) r hI1 (by omega)) (cwV 1 hts (gV q_419 q_420 q_421 q_345 q_413) rfl rfl rfl (by decide +kernel) ⟨Nat.le_trans (m := 6) (Nat.le_of_ble_eq_true rfl) (Nat.le_trans (Nat.le_of_ble_eq_true rfl) hRf), Nat.le_trans (m := 133) (Nat.le_of_ble_eq_true rfl) (Nat.le_trans (Nat.le_of_ble_eq_true rfl) hRl)⟩) hN hK hP hD rfl rfl rfl hl.1 (Nat.le_of_ble_eq_true rfl) ⟨hRc, hRs⟩ dX3_fill_27) hD hS hA rfl (fun H locs hP hD hS => ?_)
  refine lv_istore_n (lv' := [(3, .int (iI (toldWordZ (gOf ((recS S) 0)) r))), (0, .ref mo), (1, .int (iI r)), (2, .int (iI wd))]) hx hb dX3_fill_30 rfl hl (by decide) rfl (fun ls hl => ?_)
  refine lv_aload_n hx hb dX3_fill_31 rfl (lv_at hl 1 rfl) ?_
  refine lv_iload_n hx hb dX3_fill_32 rfl (lv_at hl 2 rfl) ?_
  refine lv_iload_n hx hb dX3_fill_33 rfl (lv_at hl 3 rfl) ?_
  refine mw_full (st1 := []) (mr_V (As := [.int (iI r), .int (iI wd)]) (rest := []) (ci := 3) (q0 := 0) ⟨hx, hb, hml, hown, hts⟩ (m_X3_writesWord l D mo am cI (recS S) r wd hI1 hB (by omega) (by omega)) (cwV 2 hts (gV q_422 q_423 q_424 q_345 q_415) rfl rfl rfl (by decide +kernel) ⟨Nat.le_trans (m := 4) (Nat.le_of_ble_eq_true rfl) (Nat.le_trans (Nat.le_of_ble_eq_true rfl) hRf), Nat.le_trans (m := 97) (Nat.le_of_ble_eq_true rfl) (Nat.le_trans (Nat.le_of_ble_eq_true rfl) hRl)⟩) hN hK hP hD rfl rfl rfl hl.1 (Nat.le_of_ble_eq_true rfl) ⟨hRc, hRs⟩ dX3_fill_34) hD hS hA rfl (fun H locs hP hD hS => ?_)
  refine lv_iload_n hx hb dX3_fill_37 rfl (lv_at hl 0 rfl) ?_
  refine z_as (show toldWordZ (gOf ((recS S) 0)) r = toldWordZ (gOf (recS S 0)) r from by first | rfl | omega) ?_
  first | exact hret _ _ _ _ dX3_fill_38 hP hD hS | (exfalso; omega)
set_option maxHeartbeats 4000000 in
set_option maxRecDepth 100000 in
theorem m_X3_fill_bad (l : Launch) (D : va_G) (mo : Nat) (am : Nat → Nat) (cI : ClassId) (S : Nat → Int → Int) (r wd : Int) (h1 : -2147483648 ≤ r ∧ r < 2147483648) (h2 : -2147483648 ≤ wd ∧ wd < 2147483648) (hb0 : r < 0 ∨ 5 < r ∨ wd < 0 ∨ 6560 < wd)  : MW l D yX3_fill (wsY yX3_fill cX3_fill 4 (some .int)) { frames := 6, cells := 0, slots := 0, locals := 133 } [(cI, .int)] [.ref mo, .int (iI r), .int (iI wd)] (wM mo am cI S) (wM mo am cI S) (some (.int (iI (-1000001)))) := by
  refine mw_ofI (cc := cX3_fill) (maxL := 4) (by decide) rfl (Nat.le_of_ble_eq_true rfl) ?_
  intro p e s m below meth c R A Q args ls hx hb hml hown hts hRf hRl hRc hRs hN hK hP hD hS hA hret hl
  have hq : ∀ w ∈ ALL, w.before args s = true := fun w h => hts w (List.mem_cons_of_mem _ h)
  have hl : lv_has ls 4 [(0, .ref mo), (1, .int (iI r)), (2, .int (iI wd))] := hl
  refine lv_iload_n hx hb dX3_fill_0 rfl (lv_at hl 1 rfl) ?_
  refine mw_none (st1 := [.int (iI (if 0 ≤ r ∧ r ≤ 5 then 1 else 0 : Int))]) (mr_S (As := [.int (iI r)]) (rest := []) ⟨hx, hb, hml, hown, hts⟩ (m_X3_isRow l D r (by omega)) (va_cwS 1 hts (gS q_388 q_389 q_345 q_382) rfl rfl rfl (by decide +kernel) ⟨Nat.le_trans (m := 2) (Nat.le_of_ble_eq_true rfl) (Nat.le_trans (Nat.le_of_ble_eq_true rfl) hRf), Nat.le_trans (m := 42) (Nat.le_of_ble_eq_true rfl) (Nat.le_trans (Nat.le_of_ble_eq_true rfl) hRl)⟩) hN (hK.sub (tys' := []) [] rfl) (va_P0 _ _ _) (va_D0 A) rfl hl.1 (Nat.le_of_ble_eq_true rfl) ⟨hRc, hRs⟩ dX3_fill_1) hP hS hA rfl (fun H locs hP hS => ?_)
  refine z_if_eq (tgt := 18) hx hb dX3_fill_4 (by decide) (by omega) (fun c_1 => ?_) (fun c_1 => ?_)
  · refine z_ldc hx hb (-1000001) (by decide +kernel) hown (hq _ q_448) dX3_fill_18 ?_
    refine z_as (show (-1000001) = -1000001 from by first | rfl | omega) ?_
    first | exact hret _ _ _ _ dX3_fill_20 hP hD hS | (exfalso; omega)
  · refine lv_iload_n hx hb dX3_fill_7 rfl (lv_at hl 2 rfl) ?_
    refine z_iconst hx hb dX3_fill_8 ?_
    refine z_sipush hx hb dX3_fill_9 (by decide +kernel) ?_
    refine mw_none (st1 := [.int (iI (if 0 ≤ wd ∧ wd ≤ 6560 then 1 else 0 : Int))]) (mr_S (As := [.int (iI wd), .int (iI 0), .int (iI 6560)]) (rest := []) ⟨hx, hb, hml, hown, hts⟩ (m_X3_in l D wd 0 6560 (by omega) (by omega) (by omega)) (va_cwS 3 hts (gS q_380 q_381 q_345 q_374) rfl rfl rfl (by decide +kernel) ⟨Nat.le_trans (m := 1) (Nat.le_of_ble_eq_true rfl) (Nat.le_trans (Nat.le_of_ble_eq_true rfl) hRf), Nat.le_trans (m := 22) (Nat.le_of_ble_eq_true rfl) (Nat.le_trans (Nat.le_of_ble_eq_true rfl) hRl)⟩) hN (hK.sub (tys' := []) [] rfl) (va_P0 _ _ _) (va_D0 A) rfl hl.1 (Nat.le_of_ble_eq_true rfl) ⟨hRc, hRs⟩ dX3_fill_12) hP hS hA rfl (fun H locs hP hS => ?_)
    refine z_if_ne (tgt := 21) hx hb dX3_fill_15 (by decide) (by omega) (fun c_2 => absurd c_2 (by omega)) (fun c_2 => ?_)
    refine z_ldc hx hb (-1000001) (by decide +kernel) hown (hq _ q_448) dX3_fill_18 ?_
    refine z_as (show (-1000001) = -1000001 from by first | rfl | omega) ?_
    first | exact hret _ _ _ _ dX3_fill_20 hP hD hS | (exfalso; omega)
set_option maxHeartbeats 4000000 in
set_option maxRecDepth 100000 in
theorem m_X3_anew (l : Launch) (D : va_G) (mo : Nat) (am : Nat → Nat) (cI : ClassId) (S : Nat → Int → Int) (r : Int) {B : Int} (hI : InvG B (gOf (S 0))) (hk : 0 ≤ S 4 0 ∧ S 4 0 ≤ 4) (hB : B + 1 ≤ 100000000) (h1 : 0 ≤ r ∧ r < 6)  : MW l D yX3_anew (wsY yX3_anew cX3_anew 2 (some .int)) { frames := 7, cells := 0, slots := 0, locals := 155 } [(cI, .int)] [.ref mo, .int (iI r)] (wM mo am cI S) (wM mo am cI (waS (recS S) r)) (some (.int (iI (wrongZ (gOf (recS S 0)) r)))) := by
  refine mw_ofI (cc := cX3_anew) (maxL := 2) (by decide) rfl (Nat.le_of_ble_eq_true rfl) ?_
  intro p e s m below meth c R A Q args ls hx hb hml hown hts hRf hRl hRc hRs hN hK hP hD hS hA hret hl
  have hq : ∀ w ∈ ALL, w.before args s = true := fun w h => hts w (List.mem_cons_of_mem _ h)
  have hl : lv_has ls 2 [(0, .ref mo), (1, .int (iI r))] := hl
  refine lv_iload_n hx hb dX3_anew_0 rfl (lv_at hl 1 rfl) ?_
  refine mw_none (st1 := [.int (iI (if 0 ≤ r ∧ r ≤ 5 then 1 else 0 : Int))]) (mr_S (As := [.int (iI r)]) (rest := []) ⟨hx, hb, hml, hown, hts⟩ (m_X3_isRow l D r (by omega)) (va_cwS 1 hts (gS q_388 q_389 q_345 q_382) rfl rfl rfl (by decide +kernel) ⟨Nat.le_trans (m := 2) (Nat.le_of_ble_eq_true rfl) (Nat.le_trans (Nat.le_of_ble_eq_true rfl) hRf), Nat.le_trans (m := 42) (Nat.le_of_ble_eq_true rfl) (Nat.le_trans (Nat.le_of_ble_eq_true rfl) hRl)⟩) hN (hK.sub (tys' := []) [] rfl) (va_P0 _ _ _) (va_D0 A) rfl hl.1 (Nat.le_of_ble_eq_true rfl) ⟨hRc, hRs⟩ dX3_anew_1) hP hS hA rfl (fun H locs hP hS => ?_)
  refine z_if_ne (tgt := 10) hx hb dX3_anew_4 (by decide) (by omega) (fun c_1 => ?_) (fun c_1 => absurd c_1 (by omega))
  refine lv_aload_n hx hb dX3_anew_10 rfl (lv_at hl 0 rfl) ?_
  refine mw_full (st1 := []) (mr_V (As := []) (rest := []) (ci := 3) (q0 := 0) ⟨hx, hb, hml, hown, hts⟩ (m_X3_records_all l D mo am cI S  hk) (cwV 0 hts (gV q_463 q_464 q_465 q_345 q_379) rfl rfl rfl (by decide +kernel) ⟨Nat.le_trans (m := 2) (Nat.le_of_ble_eq_true rfl) (Nat.le_trans (Nat.le_of_ble_eq_true rfl) hRf), Nat.le_trans (m := 45) (Nat.le_of_ble_eq_true rfl) (Nat.le_trans (Nat.le_of_ble_eq_true rfl) hRl)⟩) hN hK hP hD rfl rfl rfl hl.1 (Nat.le_of_ble_eq_true rfl) ⟨hRc, hRs⟩ dX3_anew_11) hD hS hA rfl (fun H locs hP hD hS => ?_)
  have hI1 := inv_rec hI
  have hq12 : gOf (recS S 0) 12 0 = gOf (S 0) 12 0 := by rw [q_rec]
  refine lv_aload_n hx hb dX3_anew_14 rfl (lv_at hl 0 rfl) ?_
  refine lv_iload_n hx hb dX3_anew_15 rfl (lv_at hl 1 rfl) ?_
  refine mw_full (st1 := [.int (iI (wrongZ (gOf ((recS S) 0)) r))]) (mr_V (As := [.int (iI r)]) (rest := []) (ci := 3) (q0 := 0) ⟨hx, hb, hml, hown, hts⟩ (m_X3_writesAnew l D mo am cI (recS S) r hI1 hB (by omega)) (cwV 1 hts (gV q_440 q_441 q_442 q_345 q_425) rfl rfl rfl (by decide +kernel) ⟨Nat.le_trans (m := 7) (Nat.le_of_ble_eq_true rfl) (Nat.le_trans (Nat.le_of_ble_eq_true rfl) hRf), Nat.le_trans (m := 155) (Nat.le_of_ble_eq_true rfl) (Nat.le_trans (Nat.le_of_ble_eq_true rfl) hRl)⟩) hN hK hP hD rfl rfl rfl hl.1 (Nat.le_of_ble_eq_true rfl) ⟨hRc, hRs⟩ dX3_anew_16) hD hS hA rfl (fun H locs hP hD hS => ?_)
  have hf_2 := wrongZ_bd (gOf ((recS S) 0)) r
  refine z_as (show wrongZ (gOf ((recS S) 0)) r = wrongZ (gOf (recS S 0)) r from by first | rfl | omega) ?_
  first | exact hret _ _ _ _ dX3_anew_19 hP hD hS | (exfalso; omega)
set_option maxHeartbeats 4000000 in
set_option maxRecDepth 100000 in
theorem m_X3_anew_bad (l : Launch) (D : va_G) (mo : Nat) (am : Nat → Nat) (cI : ClassId) (S : Nat → Int → Int) (r : Int) (h1 : -2147483648 ≤ r ∧ r < 2147483648) (hb0 : r < 0 ∨ 5 < r)  : MW l D yX3_anew (wsY yX3_anew cX3_anew 2 (some .int)) { frames := 7, cells := 0, slots := 0, locals := 155 } [(cI, .int)] [.ref mo, .int (iI r)] (wM mo am cI S) (wM mo am cI S) (some (.int (iI (-1000001)))) := by
  refine mw_ofI (cc := cX3_anew) (maxL := 2) (by decide) rfl (Nat.le_of_ble_eq_true rfl) ?_
  intro p e s m below meth c R A Q args ls hx hb hml hown hts hRf hRl hRc hRs hN hK hP hD hS hA hret hl
  have hq : ∀ w ∈ ALL, w.before args s = true := fun w h => hts w (List.mem_cons_of_mem _ h)
  have hl : lv_has ls 2 [(0, .ref mo), (1, .int (iI r))] := hl
  refine lv_iload_n hx hb dX3_anew_0 rfl (lv_at hl 1 rfl) ?_
  refine mw_none (st1 := [.int (iI (if 0 ≤ r ∧ r ≤ 5 then 1 else 0 : Int))]) (mr_S (As := [.int (iI r)]) (rest := []) ⟨hx, hb, hml, hown, hts⟩ (m_X3_isRow l D r (by omega)) (va_cwS 1 hts (gS q_388 q_389 q_345 q_382) rfl rfl rfl (by decide +kernel) ⟨Nat.le_trans (m := 2) (Nat.le_of_ble_eq_true rfl) (Nat.le_trans (Nat.le_of_ble_eq_true rfl) hRf), Nat.le_trans (m := 42) (Nat.le_of_ble_eq_true rfl) (Nat.le_trans (Nat.le_of_ble_eq_true rfl) hRl)⟩) hN (hK.sub (tys' := []) [] rfl) (va_P0 _ _ _) (va_D0 A) rfl hl.1 (Nat.le_of_ble_eq_true rfl) ⟨hRc, hRs⟩ dX3_anew_1) hP hS hA rfl (fun H locs hP hS => ?_)
  refine z_if_ne (tgt := 10) hx hb dX3_anew_4 (by decide) (by omega) (fun c_1 => absurd c_1 (by omega)) (fun c_1 => ?_)
  refine z_ldc hx hb (-1000001) (by decide +kernel) hown (hq _ q_448) dX3_anew_7 ?_
  refine z_as (show (-1000001) = -1000001 from by first | rfl | omega) ?_
  first | exact hret _ _ _ _ dX3_anew_9 hP hD hS | (exfalso; omega)
set_option maxHeartbeats 4000000 in
set_option maxRecDepth 100000 in
theorem m_X3_ask (l : Launch) (D : va_G) (mo : Nat) (am : Nat → Nat) (cI : ClassId) (S : Nat → Int → Int) (r c2 : Int) {B : Int} (hI : InvG B (gOf (S 0))) (hk : 0 ≤ S 4 0 ∧ S 4 0 ≤ 4) (h1 : 0 ≤ r ∧ r < 6) (h2 : 0 ≤ c2 ∧ c2 < 8)  : MW l D yX3_ask (wsY yX3_ask cX3_ask 4 (some .int)) { frames := 5, cells := 0, slots := 0, locals := 110 } [(cI, .int)] [.ref mo, .int (iI r), .int (iI c2)] (wM mo am cI S) (wM mo am cI (askS (recS S) r c2)) (some (.int (iI (tellZ ((gOf (recS S 0)) 1 (8 * r + c2)) (thrZ (gOf (recS S 0)) r 0) (thrZ (gOf (recS S 0)) r 1))))) := by
  refine mw_ofI (cc := cX3_ask) (maxL := 4) (by decide) rfl (Nat.le_of_ble_eq_true rfl) ?_
  intro p e s m below meth c R A Q args ls hx hb hml hown hts hRf hRl hRc hRs hN hK hP hD hS hA hret hl
  have hq : ∀ w ∈ ALL, w.before args s = true := fun w h => hts w (List.mem_cons_of_mem _ h)
  have hl : lv_has ls 4 [(0, .ref mo), (1, .int (iI r)), (2, .int (iI c2))] := hl
  refine lv_iload_n hx hb dX3_ask_0 rfl (lv_at hl 1 rfl) ?_
  refine mw_none (st1 := [.int (iI (if 0 ≤ r ∧ r ≤ 5 then 1 else 0 : Int))]) (mr_S (As := [.int (iI r)]) (rest := []) ⟨hx, hb, hml, hown, hts⟩ (m_X3_isRow l D r (by omega)) (va_cwS 1 hts (gS q_388 q_389 q_345 q_382) rfl rfl rfl (by decide +kernel) ⟨Nat.le_trans (m := 2) (Nat.le_of_ble_eq_true rfl) (Nat.le_trans (Nat.le_of_ble_eq_true rfl) hRf), Nat.le_trans (m := 42) (Nat.le_of_ble_eq_true rfl) (Nat.le_trans (Nat.le_of_ble_eq_true rfl) hRl)⟩) hN (hK.sub (tys' := []) [] rfl) (va_P0 _ _ _) (va_D0 A) rfl hl.1 (Nat.le_of_ble_eq_true rfl) ⟨hRc, hRs⟩ dX3_ask_1) hP hS hA rfl (fun H locs hP hS => ?_)
  refine z_if_eq (tgt := 14) hx hb dX3_ask_4 (by decide) (by omega) (fun c_1 => absurd c_1 (by omega)) (fun c_1 => ?_)
  refine lv_iload_n hx hb dX3_ask_7 rfl (lv_at hl 2 rfl) ?_
  refine mw_none (st1 := [.int (iI (if 0 ≤ c2 ∧ c2 ≤ 7 then 1 else 0 : Int))]) (mr_S (As := [.int (iI c2)]) (rest := []) ⟨hx, hb, hml, hown, hts⟩ (m_X3_isCell l D c2 (by omega)) (va_cwS 1 hts (gS q_449 q_450 q_345 q_383) rfl rfl rfl (by decide +kernel) ⟨Nat.le_trans (m := 2) (Nat.le_of_ble_eq_true rfl) (Nat.le_trans (Nat.le_of_ble_eq_true rfl) hRf), Nat.le_trans (m := 42) (Nat.le_of_ble_eq_true rfl) (Nat.le_trans (Nat.le_of_ble_eq_true rfl) hRl)⟩) hN (hK.sub (tys' := []) [] rfl) (va_P0 _ _ _) (va_D0 A) rfl hl.1 (Nat.le_of_ble_eq_true rfl) ⟨hRc, hRs⟩ dX3_ask_8) hP hS hA rfl (fun H locs hP hS => ?_)
  refine z_if_ne (tgt := 17) hx hb dX3_ask_11 (by decide) (by omega) (fun c_2 => ?_) (fun c_2 => absurd c_2 (by omega))
  refine lv_aload_n hx hb dX3_ask_17 rfl (lv_at hl 0 rfl) ?_
  refine mw_full (st1 := []) (mr_V (As := []) (rest := []) (ci := 3) (q0 := 0) ⟨hx, hb, hml, hown, hts⟩ (m_X3_records_all l D mo am cI S  hk) (cwV 0 hts (gV q_463 q_464 q_465 q_345 q_379) rfl rfl rfl (by decide +kernel) ⟨Nat.le_trans (m := 2) (Nat.le_of_ble_eq_true rfl) (Nat.le_trans (Nat.le_of_ble_eq_true rfl) hRf), Nat.le_trans (m := 45) (Nat.le_of_ble_eq_true rfl) (Nat.le_trans (Nat.le_of_ble_eq_true rfl) hRl)⟩) hN hK hP hD rfl rfl rfl hl.1 (Nat.le_of_ble_eq_true rfl) ⟨hRc, hRs⟩ dX3_ask_18) hD hS hA rfl (fun H locs hP hD hS => ?_)
  have hI1 := inv_rec hI
  have hq12 : gOf (recS S 0) 12 0 = gOf (S 0) 12 0 := by rw [q_rec]
  refine lv_aload_n hx hb dX3_ask_21 rfl (lv_at hl 0 rfl) ?_
  refine lv_iload_n hx hb dX3_ask_22 rfl (lv_at hl 1 rfl) ?_
  refine lv_iload_n hx hb dX3_ask_23 rfl (lv_at hl 2 rfl) ?_
  refine mw_full (st1 := [.int (iI (tellZ ((gOf ((recS S) 0)) 1 (8 * r + c2)) (thrZ (gOf ((recS S) 0)) r 0) (thrZ (gOf ((recS S) 0)) r 1)))]) (mr_V (As := [.int (iI r), .int (iI c2)]) (rest := []) (ci := 3) (q0 := 0) ⟨hx, hb, hml, hown, hts⟩ (m_X3_told l D mo am cI (recS S) r c2 hI1 (by omega) (by omega)) (cwV 2 hts (gV q_409 q_410 q_411 q_345 q_408) rfl rfl rfl (by decide +kernel) ⟨Nat.le_trans (m := 5) (Nat.le_of_ble_eq_true rfl) (Nat.le_trans (Nat.le_of_ble_eq_true rfl) hRf), Nat.le_trans (m := 110) (Nat.le_of_ble_eq_true rfl) (Nat.le_trans (Nat.le_of_ble_eq_true rfl) hRl)⟩) hN hK hP hD rfl rfl rfl hl.1 (Nat.le_of_ble_eq_true rfl) ⟨hRc, hRs⟩ dX3_ask_24) hD hS hA rfl (fun H locs hP hD hS => ?_)
  have hf_3 := tellZ_01 ((gOf ((recS S) 0)) 1 (8 * r + c2)) (thrZ (gOf ((recS S) 0)) r 0) (thrZ (gOf ((recS S) 0)) r 1)
  refine lv_istore_n (lv' := [(3, .int (iI (tellZ ((gOf ((recS S) 0)) 1 (8 * r + c2)) (thrZ (gOf ((recS S) 0)) r 0) (thrZ (gOf ((recS S) 0)) r 1)))), (0, .ref mo), (1, .int (iI r)), (2, .int (iI c2))]) hx hb dX3_ask_27 rfl hl (by decide) rfl (fun ls hl => ?_)
  refine lv_aload_n hx hb dX3_ask_28 rfl (lv_at hl 1 rfl) ?_
  refine va_get (D := D) (ci := 3) (v := .ref (am 0)) (C := RX3) (T := TX3) (N := 14) hx hb hq inA3 hown hK hP 0 rfl rfl 0 (by decide) (hq _ q_338) (fun _ h9 => h9) rfl dX3_ask_29 ?_
  refine z_bipush hx hb dX3_ask_32 (by decide +kernel) ?_
  refine z_iconst hx hb dX3_ask_34 ?_
  refine lv_aload_n hx hb dX3_ask_35 rfl (lv_at hl 1 rfl) ?_
  refine lv_iload_n hx hb dX3_ask_36 rfl (lv_at hl 2 rfl) ?_
  refine lv_iload_n hx hb dX3_ask_37 rfl (lv_at hl 3 rfl) ?_
  refine z_iconst hx hb dX3_ask_38 ?_
  refine mw_full (st1 := [.int (iI ((gOf ((recS S) 0)) 0 (8 * r + c2))), .int (iI 3), .int (iI 8), .ref (am 0)]) (mr_V (As := [.int (iI r), .int (iI c2), .int (iI 0)]) (rest := [.int (iI 3), .int (iI 8), .ref (am 0)]) (ci := 3) (q0 := 0) ⟨hx, hb, hml, hown, hts⟩ (m_X3_ofCell l D mo am cI (recS S) r c2 0 0 (by omega) (by omega) (by omega)) (cwV 3 hts (gV q_354 q_355 q_356 q_345 q_352) rfl rfl rfl (by decide +kernel) ⟨Nat.le_trans (m := 2) (Nat.le_of_ble_eq_true rfl) (Nat.le_trans (Nat.le_of_ble_eq_true rfl) hRf), Nat.le_trans (m := 45) (Nat.le_of_ble_eq_true rfl) (Nat.le_trans (Nat.le_of_ble_eq_true rfl) hRl)⟩) hN hK hP hD rfl rfl rfl hl.1 (Nat.le_of_ble_eq_true rfl) ⟨hRc, hRs⟩ dX3_ask_39) hD hS hA rfl (fun H locs hP hD hS => ?_)
  have hf_4 := invG_0 hI1 (8 * r + c2) (by omega) (by omega)
  refine z_imul hx hb dX3_ask_42 ?_
  refine z_iadd hx hb dX3_ask_43 ?_
  refine lv_iload_n hx hb dX3_ask_44 rfl (lv_at hl 0 rfl) ?_
  refine z_iadd hx hb dX3_ask_45 ?_
  refine lv_dup2_11 hx hb dX3_ask_46 rfl rfl ?_
  refine z_iald hx hb hK hP 1 0 rfl rfl (by omega) (by omega) (v := ((gOf (recS S 0)) 10 (3 * (gOf (recS S 0)) 0 (8 * r + c2) + tellZ ((gOf (recS S 0)) 1 (8 * r + c2)) (thrZ (gOf (recS S 0)) r 0) (thrZ (gOf (recS S 0)) r 1)))) (s_10 _ (by omega) (by omega)) dX3_ask_47 ?_
  refine z_iconst hx hb dX3_ask_48 ?_
  refine z_iadd hx hb dX3_ask_49 ?_
  refine z_iast (w1 := (wM mo am cI (upG (recS S) 0 ((8 + (3 * (gOf ((recS S) 0)) 0 (8 * r + c2))) + tellZ ((gOf ((recS S) 0)) 1 (8 * r + c2)) (thrZ (gOf ((recS S) 0)) r 0) (thrZ (gOf ((recS S) 0)) r 1)) (((gOf (recS S 0)) 10 (3 * (gOf (recS S 0)) 0 (8 * r + c2) + tellZ ((gOf (recS S 0)) 1 (8 * r + c2)) (thrZ (gOf (recS S 0)) r 0) (thrZ (gOf (recS S 0)) r 1))) + 1)))) hx hb hK hP hD hS 1 0 rfl rfl (by omega) (by omega) (wM_set0 _ _ _ _ _ _) dX3_ask_50 (fun H locs hP hD hS => ?_)
  refine lv_aload_n hx hb dX3_ask_51 rfl (lv_at hl 1 rfl) ?_
  refine va_get (D := D) (ci := 3) (v := .ref (am 0)) (C := RX3) (T := TX3) (N := 14) hx hb hq inA3 hown hK hP 0 rfl rfl 0 (by decide) (hq _ q_338) (fun _ h9 => h9) rfl dX3_ask_52 ?_
  refine z_bipush hx hb dX3_ask_55 (by decide +kernel) ?_
  refine lv_dup2_11 hx hb dX3_ask_57 rfl rfl ?_
  refine z_iald hx hb hK hP 1 0 rfl rfl (by omega) (by omega) (v := ((upG (recS S) 0 ((8 + (3 * (gOf ((recS S) 0)) 0 (8 * r + c2))) + tellZ ((gOf ((recS S) 0)) 1 (8 * r + c2)) (thrZ (gOf ((recS S) 0)) r 0) (thrZ (gOf ((recS S) 0)) r 1)) (((gOf (recS S 0)) 10 (3 * (gOf (recS S 0)) 0 (8 * r + c2) + tellZ ((gOf (recS S 0)) 1 (8 * r + c2)) (thrZ (gOf (recS S 0)) r 0) (thrZ (gOf (recS S 0)) r 1))) + 1)) 0 7)) rfl dX3_ask_58 ?_
  refine z_iconst hx hb dX3_ask_59 ?_
  refine z_iadd hx hb dX3_ask_60 ?_
  refine z_iast (w1 := (wM mo am cI (upG (upG (recS S) 0 ((8 + (3 * (gOf ((recS S) 0)) 0 (8 * r + c2))) + tellZ ((gOf ((recS S) 0)) 1 (8 * r + c2)) (thrZ (gOf ((recS S) 0)) r 0) (thrZ (gOf ((recS S) 0)) r 1)) (((gOf (recS S 0)) 10 (3 * (gOf (recS S 0)) 0 (8 * r + c2) + tellZ ((gOf (recS S 0)) 1 (8 * r + c2)) (thrZ (gOf (recS S 0)) r 0) (thrZ (gOf (recS S 0)) r 1))) + 1)) 0 7 (((upG (recS S) 0 ((8 + (3 * (gOf ((recS S) 0)) 0 (8 * r + c2))) + tellZ ((gOf ((recS S) 0)) 1 (8 * r + c2)) (thrZ (gOf ((recS S) 0)) r 0) (thrZ (gOf ((recS S) 0)) r 1)) (((gOf (recS S 0)) 10 (3 * (gOf (recS S 0)) 0 (8 * r + c2) + tellZ ((gOf (recS S 0)) 1 (8 * r + c2)) (thrZ (gOf (recS S 0)) r 0) (thrZ (gOf (recS S 0)) r 1))) + 1)) 0 7) + 1)))) hx hb hK hP hD hS 1 0 rfl rfl (by omega) (by omega) (wM_set0 _ _ _ _ _ _) dX3_ask_61 (fun H locs hP hD hS => ?_)
  refine lv_iload_n hx hb dX3_ask_62 rfl (lv_at hl 0 rfl) ?_
  refine z_as (show tellZ ((gOf ((recS S) 0)) 1 (8 * r + c2)) (thrZ (gOf ((recS S) 0)) r 0) (thrZ (gOf ((recS S) 0)) r 1) = tellZ ((gOf (recS S 0)) 1 (8 * r + c2)) (thrZ (gOf (recS S 0)) r 0) (thrZ (gOf (recS S 0)) r 1) from by first | rfl | omega) ?_
  first | exact hret _ _ _ _ dX3_ask_63 hP hD hS | (exfalso; omega)
set_option maxHeartbeats 4000000 in
set_option maxRecDepth 100000 in
theorem m_X3_ask_bad (l : Launch) (D : va_G) (mo : Nat) (am : Nat → Nat) (cI : ClassId) (S : Nat → Int → Int) (r c2 : Int) (h1 : -2147483648 ≤ r ∧ r < 2147483648) (h2 : -2147483648 ≤ c2 ∧ c2 < 2147483648) (hb0 : r < 0 ∨ 5 < r ∨ c2 < 0 ∨ 7 < c2)  : MW l D yX3_ask (wsY yX3_ask cX3_ask 4 (some .int)) { frames := 5, cells := 0, slots := 0, locals := 110 } [(cI, .int)] [.ref mo, .int (iI r), .int (iI c2)] (wM mo am cI S) (wM mo am cI S) (some (.int (iI (-1000001)))) := by
  refine mw_ofI (cc := cX3_ask) (maxL := 4) (by decide) rfl (Nat.le_of_ble_eq_true rfl) ?_
  intro p e s m below meth c R A Q args ls hx hb hml hown hts hRf hRl hRc hRs hN hK hP hD hS hA hret hl
  have hq : ∀ w ∈ ALL, w.before args s = true := fun w h => hts w (List.mem_cons_of_mem _ h)
  have hl : lv_has ls 4 [(0, .ref mo), (1, .int (iI r)), (2, .int (iI c2))] := hl
  refine lv_iload_n hx hb dX3_ask_0 rfl (lv_at hl 1 rfl) ?_
  refine mw_none (st1 := [.int (iI (if 0 ≤ r ∧ r ≤ 5 then 1 else 0 : Int))]) (mr_S (As := [.int (iI r)]) (rest := []) ⟨hx, hb, hml, hown, hts⟩ (m_X3_isRow l D r (by omega)) (va_cwS 1 hts (gS q_388 q_389 q_345 q_382) rfl rfl rfl (by decide +kernel) ⟨Nat.le_trans (m := 2) (Nat.le_of_ble_eq_true rfl) (Nat.le_trans (Nat.le_of_ble_eq_true rfl) hRf), Nat.le_trans (m := 42) (Nat.le_of_ble_eq_true rfl) (Nat.le_trans (Nat.le_of_ble_eq_true rfl) hRl)⟩) hN (hK.sub (tys' := []) [] rfl) (va_P0 _ _ _) (va_D0 A) rfl hl.1 (Nat.le_of_ble_eq_true rfl) ⟨hRc, hRs⟩ dX3_ask_1) hP hS hA rfl (fun H locs hP hS => ?_)
  refine z_if_eq (tgt := 14) hx hb dX3_ask_4 (by decide) (by omega) (fun c_1 => ?_) (fun c_1 => ?_)
  · refine z_ldc hx hb (-1000001) (by decide +kernel) hown (hq _ q_448) dX3_ask_14 ?_
    refine z_as (show (-1000001) = -1000001 from by first | rfl | omega) ?_
    first | exact hret _ _ _ _ dX3_ask_16 hP hD hS | (exfalso; omega)
  · refine lv_iload_n hx hb dX3_ask_7 rfl (lv_at hl 2 rfl) ?_
    refine mw_none (st1 := [.int (iI (if 0 ≤ c2 ∧ c2 ≤ 7 then 1 else 0 : Int))]) (mr_S (As := [.int (iI c2)]) (rest := []) ⟨hx, hb, hml, hown, hts⟩ (m_X3_isCell l D c2 (by omega)) (va_cwS 1 hts (gS q_449 q_450 q_345 q_383) rfl rfl rfl (by decide +kernel) ⟨Nat.le_trans (m := 2) (Nat.le_of_ble_eq_true rfl) (Nat.le_trans (Nat.le_of_ble_eq_true rfl) hRf), Nat.le_trans (m := 42) (Nat.le_of_ble_eq_true rfl) (Nat.le_trans (Nat.le_of_ble_eq_true rfl) hRl)⟩) hN (hK.sub (tys' := []) [] rfl) (va_P0 _ _ _) (va_D0 A) rfl hl.1 (Nat.le_of_ble_eq_true rfl) ⟨hRc, hRs⟩ dX3_ask_8) hP hS hA rfl (fun H locs hP hS => ?_)
    refine z_if_ne (tgt := 17) hx hb dX3_ask_11 (by decide) (by omega) (fun c_2 => absurd c_2 (by omega)) (fun c_2 => ?_)
    refine z_ldc hx hb (-1000001) (by decide +kernel) hown (hq _ q_448) dX3_ask_14 ?_
    refine z_as (show (-1000001) = -1000001 from by first | rfl | omega) ?_
    first | exact hret _ _ _ _ dX3_ask_16 hP hD hS | (exfalso; omega)
set_option maxHeartbeats 4000000 in
set_option maxRecDepth 100000 in
theorem m_X3_fail (l : Launch) (D : va_G) (mo : Nat) (am : Nat → Nat) (cI : ClassId) (S : Nat → Int → Int) (r g2 v : Int) {B : Int} (hI : InvG B (gOf (S 0))) (hk : 0 ≤ S 4 0 ∧ S 4 0 ≤ 4) (h1 : 0 ≤ r ∧ r < 6) (h2 : 0 ≤ g2 ∧ g2 < 3) (h3 : 0 ≤ v ∧ v ≤ 999) (h4 : (gOf (S 0)) 5 (3 * r + g2) = 0)  : MW l D yX3_fail (wsY yX3_fail cX3_fail 6 (some .int)) { frames := 3, cells := 0, slots := 0, locals := 65 } [(cI, .int)] [.ref mo, .int (iI r), .int (iI g2), .int (iI v)] (wM mo am cI S) (wM mo am cI (lyZ (lyZ (recS S) 4 (3 * r + g2) v) 5 (3 * r + g2) 1)) (some (.int (iI ((gOf (recS S 0)) 4 (3 * r + g2))))) := by
  refine mw_ofI (cc := cX3_fail) (maxL := 6) (by decide) rfl (Nat.le_of_ble_eq_true rfl) ?_
  intro p e s m below meth c R A Q args ls hx hb hml hown hts hRf hRl hRc hRs hN hK hP hD hS hA hret hl
  have hq : ∀ w ∈ ALL, w.before args s = true := fun w h => hts w (List.mem_cons_of_mem _ h)
  have hl : lv_has ls 6 [(0, .ref mo), (1, .int (iI r)), (2, .int (iI g2)), (3, .int (iI v))] := hl
  refine lv_aload_n hx hb dX3_fail_0 rfl (lv_at hl 0 rfl) ?_
  refine lv_iload_n hx hb dX3_fail_1 rfl (lv_at hl 1 rfl) ?_
  refine lv_iload_n hx hb dX3_fail_2 rfl (lv_at hl 2 rfl) ?_
  refine lv_iload_n hx hb dX3_fail_3 rfl (lv_at hl 3 rfl) ?_
  refine mw_full (st1 := [.int (iI (efV (gOf (S 0)) r g2 v))]) (mr_V (As := [.int (iI r), .int (iI g2), .int (iI v)]) (rest := []) (ci := 3) (q0 := 0) ⟨hx, hb, hml, hown, hts⟩ (m_X3_errorFail l D mo am cI S r g2 v hI (by omega) (by omega) (by omega)) (cwV 3 hts (gV q_470 q_471 q_472 q_345 q_455) rfl rfl rfl (by decide +kernel) ⟨Nat.le_trans (m := 3) (Nat.le_of_ble_eq_true rfl) (Nat.le_trans (Nat.le_of_ble_eq_true rfl) hRf), Nat.le_trans (m := 65) (Nat.le_of_ble_eq_true rfl) (Nat.le_trans (Nat.le_of_ble_eq_true rfl) hRl)⟩) hN hK hP hD rfl rfl rfl hl.1 (Nat.le_of_ble_eq_true rfl) ⟨hRc, hRs⟩ dX3_fail_4) hD hS hA rfl (fun H locs hP hD hS => ?_)
  have hf_1 : efV (gOf (S 0)) r g2 v = if 0 ≤ r ∧ r < 6 ∧ 0 ≤ g2 ∧ g2 < 3 ∧ 0 ≤ v ∧ v ≤ 999 then (if (gOf (S 0)) 5 (3 * r + g2) = 0 then 0 else -1000002) else -1000001 := rfl
  refine lv_istore (lv' := [(4, .int (iI (efV (gOf (S 0)) r g2 v))), (0, .ref mo), (1, .int (iI r)), (2, .int (iI g2)), (3, .int (iI v))]) hx hb dX3_fail_7 hl (by decide) rfl (fun ls hl => ?_)
  refine lv_iload hx hb dX3_fail_9 (lv_at hl 0 rfl) ?_
  refine z_if_ge (tgt := 17) hx hb dX3_fail_11 (by decide) (by omega) (fun c_2 => ?_) (fun c_2 => absurd c_2 (by omega))
  refine lv_aload_n hx hb dX3_fail_17 rfl (lv_at hl 1 rfl) ?_
  refine mw_full (st1 := []) (mr_V (As := []) (rest := []) (ci := 3) (q0 := 0) ⟨hx, hb, hml, hown, hts⟩ (m_X3_records_all l D mo am cI S  hk) (cwV 0 hts (gV q_463 q_464 q_465 q_345 q_379) rfl rfl rfl (by decide +kernel) ⟨Nat.le_trans (m := 2) (Nat.le_of_ble_eq_true rfl) (Nat.le_trans (Nat.le_of_ble_eq_true rfl) hRf), Nat.le_trans (m := 45) (Nat.le_of_ble_eq_true rfl) (Nat.le_trans (Nat.le_of_ble_eq_true rfl) hRl)⟩) hN hK hP hD rfl rfl rfl hl.1 (Nat.le_of_ble_eq_true rfl) ⟨hRc, hRs⟩ dX3_fail_18) hD hS hA rfl (fun H locs hP hD hS => ?_)
  have hI1 := inv_rec hI
  have hq12 : gOf (recS S 0) 12 0 = gOf (S 0) 12 0 := by rw [q_rec]
  refine lv_aload_n hx hb dX3_fail_21 rfl (lv_at hl 1 rfl) ?_
  refine lv_iload_n hx hb dX3_fail_22 rfl (lv_at hl 2 rfl) ?_
  refine z_iconst hx hb dX3_fail_23 ?_
  refine lv_iload_n hx hb dX3_fail_24 rfl (lv_at hl 3 rfl) ?_
  refine z_iadd hx hb dX3_fail_25 ?_
  refine mw_full (st1 := [.int (iI ((gOf ((recS S) 0)) 4 (3 * r + g2)))]) (mr_V (As := [.int (iI r), .int (iI (4 + g2))]) (rest := []) (ci := 3) (q0 := 0) ⟨hx, hb, hml, hown, hts⟩ (m_X3_of l D mo am cI (recS S) r (4 + g2) 4 (3 * r + g2) (ix_of4 (r := r) (by omega) (by omega))) (cwV 2 hts (gV q_342 q_343 q_344 q_345 q_340) rfl rfl rfl (by decide +kernel) ⟨Nat.le_trans (m := 1) (Nat.le_of_ble_eq_true rfl) (Nat.le_trans (Nat.le_of_ble_eq_true rfl) hRf), Nat.le_trans (m := 22) (Nat.le_of_ble_eq_true rfl) (Nat.le_trans (Nat.le_of_ble_eq_true rfl) hRl)⟩) hN hK hP hD rfl rfl rfl hl.1 (Nat.le_of_ble_eq_true rfl) ⟨hRc, hRs⟩ dX3_fail_26) hD hS hA rfl (fun H locs hP hD hS => ?_)
  have hf_3 := invG_4 hI1 (3 * r + g2) (by omega) (by omega)
  refine lv_istore (lv' := [(5, .int (iI ((gOf ((recS S) 0)) 4 (3 * r + g2)))), (4, .int (iI (efV (gOf (S 0)) r g2 v))), (0, .ref mo), (1, .int (iI r)), (2, .int (iI g2)), (3, .int (iI v))]) hx hb dX3_fail_29 hl (by decide) rfl (fun ls hl => ?_)
  refine lv_aload_n hx hb dX3_fail_31 rfl (lv_at hl 2 rfl) ?_
  refine lv_iload_n hx hb dX3_fail_32 rfl (lv_at hl 3 rfl) ?_
  refine lv_iload_n hx hb dX3_fail_33 rfl (lv_at hl 4 rfl) ?_
  refine lv_iload_n hx hb dX3_fail_34 rfl (lv_at hl 5 rfl) ?_
  refine mw_full (st1 := []) (mr_V (As := [.int (iI r), .int (iI g2), .int (iI v)]) (rest := []) (ci := 3) (q0 := 0) ⟨hx, hb, hml, hown, hts⟩ (m_X3_goFail l D mo am cI (recS S) r g2 v (by omega) (by omega)) (cwV 3 hts (gV q_473 q_474 q_475 q_345 q_460) rfl rfl rfl (by decide +kernel) ⟨Nat.le_trans (m := 2) (Nat.le_of_ble_eq_true rfl) (Nat.le_trans (Nat.le_of_ble_eq_true rfl) hRf), Nat.le_trans (m := 46) (Nat.le_of_ble_eq_true rfl) (Nat.le_trans (Nat.le_of_ble_eq_true rfl) hRl)⟩) hN hK hP hD rfl rfl rfl hl.1 (Nat.le_of_ble_eq_true rfl) ⟨hRc, hRs⟩ dX3_fail_35) hD hS hA rfl (fun H locs hP hD hS => ?_)
  refine lv_iload hx hb dX3_fail_38 (lv_at hl 0 rfl) ?_
  refine z_as (show (gOf ((recS S) 0)) 4 (3 * r + g2) = (gOf (recS S 0)) 4 (3 * r + g2) from by first | rfl | omega) ?_
  first | exact hret _ _ _ _ dX3_fail_40 hP hD hS | (exfalso; omega)
set_option maxHeartbeats 4000000 in
set_option maxRecDepth 100000 in
theorem m_X3_fail_err (l : Launch) (D : va_G) (mo : Nat) (am : Nat → Nat) (cI : ClassId) (S : Nat → Int → Int) (r g2 v : Int) {B : Int} (hI : InvG B (gOf (S 0))) (h1 : -2147483648 ≤ r ∧ r < 2147483648) (h2 : -2147483648 ≤ g2 ∧ g2 < 2147483648) (h3 : -2147483648 ≤ v ∧ v < 2147483648) (he : efV (gOf (S 0)) r g2 v < 0)  : MW l D yX3_fail (wsY yX3_fail cX3_fail 6 (some .int)) { frames := 3, cells := 0, slots := 0, locals := 65 } [(cI, .int)] [.ref mo, .int (iI r), .int (iI g2), .int (iI v)] (wM mo am cI S) (wM mo am cI S) (some (.int (iI (efV (gOf (S 0)) r g2 v)))) := by
  refine mw_ofI (cc := cX3_fail) (maxL := 6) (by decide) rfl (Nat.le_of_ble_eq_true rfl) ?_
  intro p e s m below meth c R A Q args ls hx hb hml hown hts hRf hRl hRc hRs hN hK hP hD hS hA hret hl
  have hq : ∀ w ∈ ALL, w.before args s = true := fun w h => hts w (List.mem_cons_of_mem _ h)
  have hl : lv_has ls 6 [(0, .ref mo), (1, .int (iI r)), (2, .int (iI g2)), (3, .int (iI v))] := hl
  refine lv_aload_n hx hb dX3_fail_0 rfl (lv_at hl 0 rfl) ?_
  refine lv_iload_n hx hb dX3_fail_1 rfl (lv_at hl 1 rfl) ?_
  refine lv_iload_n hx hb dX3_fail_2 rfl (lv_at hl 2 rfl) ?_
  refine lv_iload_n hx hb dX3_fail_3 rfl (lv_at hl 3 rfl) ?_
  refine mw_full (st1 := [.int (iI (efV (gOf (S 0)) r g2 v))]) (mr_V (As := [.int (iI r), .int (iI g2), .int (iI v)]) (rest := []) (ci := 3) (q0 := 0) ⟨hx, hb, hml, hown, hts⟩ (m_X3_errorFail l D mo am cI S r g2 v hI (by omega) (by omega) (by omega)) (cwV 3 hts (gV q_470 q_471 q_472 q_345 q_455) rfl rfl rfl (by decide +kernel) ⟨Nat.le_trans (m := 3) (Nat.le_of_ble_eq_true rfl) (Nat.le_trans (Nat.le_of_ble_eq_true rfl) hRf), Nat.le_trans (m := 65) (Nat.le_of_ble_eq_true rfl) (Nat.le_trans (Nat.le_of_ble_eq_true rfl) hRl)⟩) hN hK hP hD rfl rfl rfl hl.1 (Nat.le_of_ble_eq_true rfl) ⟨hRc, hRs⟩ dX3_fail_4) hD hS hA rfl (fun H locs hP hD hS => ?_)
  have hf_1 : efV (gOf (S 0)) r g2 v = if 0 ≤ r ∧ r < 6 ∧ 0 ≤ g2 ∧ g2 < 3 ∧ 0 ≤ v ∧ v ≤ 999 then (if (gOf (S 0)) 5 (3 * r + g2) = 0 then 0 else -1000002) else -1000001 := rfl
  refine lv_istore (lv' := [(4, .int (iI (efV (gOf (S 0)) r g2 v))), (0, .ref mo), (1, .int (iI r)), (2, .int (iI g2)), (3, .int (iI v))]) hx hb dX3_fail_7 hl (by decide) rfl (fun ls hl => ?_)
  refine lv_iload hx hb dX3_fail_9 (lv_at hl 0 rfl) ?_
  refine z_if_ge (tgt := 17) hx hb dX3_fail_11 (by decide) (by omega) (fun c_2 => absurd c_2 (by omega)) (fun c_2 => ?_)
  refine lv_iload hx hb dX3_fail_14 (lv_at hl 0 rfl) ?_
  first | exact hret _ _ _ _ dX3_fail_16 hP hD hS | (exfalso; omega)
set_option maxHeartbeats 4000000 in
set_option maxRecDepth 100000 in
theorem m_X3_mend (l : Launch) (D : va_G) (mo : Nat) (am : Nat → Nat) (cI : ClassId) (S : Nat → Int → Int) (r g2 : Int) {B : Int} (hI : InvG B (gOf (S 0))) (hk : 0 ≤ S 4 0 ∧ S 4 0 ≤ 4) (h1 : 0 ≤ r ∧ r < 6) (h2 : 0 ≤ g2 ∧ g2 < 3) (h4 : (gOf (S 0)) 5 (3 * r + g2) ≠ 0)  : MW l D yX3_mend (wsY yX3_mend cX3_mend 4 (some .int)) { frames := 3, cells := 0, slots := 0, locals := 64 } [(cI, .int)] [.ref mo, .int (iI r), .int (iI g2)] (wM mo am cI S) (wM mo am cI (lyZ (recS S) 5 (3 * r + g2) 0)) (some (.int (iI (gOf (lyZ (recS S) 5 (3 * r + g2) 0 0) 4 (3 * r + g2))))) := by
  refine mw_ofI (cc := cX3_mend) (maxL := 4) (by decide) rfl (Nat.le_of_ble_eq_true rfl) ?_
  intro p e s m below meth c R A Q args ls hx hb hml hown hts hRf hRl hRc hRs hN hK hP hD hS hA hret hl
  have hq : ∀ w ∈ ALL, w.before args s = true := fun w h => hts w (List.mem_cons_of_mem _ h)
  have hl : lv_has ls 4 [(0, .ref mo), (1, .int (iI r)), (2, .int (iI g2))] := hl
  refine lv_aload_n hx hb dX3_mend_0 rfl (lv_at hl 0 rfl) ?_
  refine lv_iload_n hx hb dX3_mend_1 rfl (lv_at hl 1 rfl) ?_
  refine lv_iload_n hx hb dX3_mend_2 rfl (lv_at hl 2 rfl) ?_
  refine mw_full (st1 := [.int (iI (emV (gOf (S 0)) r g2))]) (mr_V (As := [.int (iI r), .int (iI g2)]) (rest := []) (ci := 3) (q0 := 0) ⟨hx, hb, hml, hown, hts⟩ (m_X3_errorMend l D mo am cI S r g2 hI (by omega) (by omega)) (cwV 2 hts (gV q_477 q_478 q_479 q_345 q_456) rfl rfl rfl (by decide +kernel) ⟨Nat.le_trans (m := 3) (Nat.le_of_ble_eq_true rfl) (Nat.le_trans (Nat.le_of_ble_eq_true rfl) hRf), Nat.le_trans (m := 64) (Nat.le_of_ble_eq_true rfl) (Nat.le_trans (Nat.le_of_ble_eq_true rfl) hRl)⟩) hN hK hP hD rfl rfl rfl hl.1 (Nat.le_of_ble_eq_true rfl) ⟨hRc, hRs⟩ dX3_mend_3) hD hS hA rfl (fun H locs hP hD hS => ?_)
  have hf_1 : emV (gOf (S 0)) r g2 = if 0 ≤ r ∧ r < 6 ∧ 0 ≤ g2 ∧ g2 < 3 then (if (gOf (S 0)) 5 (3 * r + g2) = 0 then -1000002 else 0) else -1000001 := rfl
  refine lv_istore_n (lv' := [(3, .int (iI (emV (gOf (S 0)) r g2))), (0, .ref mo), (1, .int (iI r)), (2, .int (iI g2))]) hx hb dX3_mend_6 rfl hl (by decide) rfl (fun ls hl => ?_)
  refine lv_iload_n hx hb dX3_mend_7 rfl (lv_at hl 0 rfl) ?_
  refine z_if_ge (tgt := 13) hx hb dX3_mend_8 (by decide) (by omega) (fun c_2 => ?_) (fun c_2 => absurd c_2 (by omega))
  refine lv_aload_n hx hb dX3_mend_13 rfl (lv_at hl 1 rfl) ?_
  refine mw_full (st1 := []) (mr_V (As := []) (rest := []) (ci := 3) (q0 := 0) ⟨hx, hb, hml, hown, hts⟩ (m_X3_records_all l D mo am cI S  hk) (cwV 0 hts (gV q_463 q_464 q_465 q_345 q_379) rfl rfl rfl (by decide +kernel) ⟨Nat.le_trans (m := 2) (Nat.le_of_ble_eq_true rfl) (Nat.le_trans (Nat.le_of_ble_eq_true rfl) hRf), Nat.le_trans (m := 45) (Nat.le_of_ble_eq_true rfl) (Nat.le_trans (Nat.le_of_ble_eq_true rfl) hRl)⟩) hN hK hP hD rfl rfl rfl hl.1 (Nat.le_of_ble_eq_true rfl) ⟨hRc, hRs⟩ dX3_mend_14) hD hS hA rfl (fun H locs hP hD hS => ?_)
  have hI1 := inv_rec hI
  have hq12 : gOf (recS S 0) 12 0 = gOf (S 0) 12 0 := by rw [q_rec]
  refine lv_aload_n hx hb dX3_mend_17 rfl (lv_at hl 1 rfl) ?_
  refine lv_iload_n hx hb dX3_mend_18 rfl (lv_at hl 2 rfl) ?_
  refine z_bipush hx hb dX3_mend_19 (by decide +kernel) ?_
  refine lv_iload_n hx hb dX3_mend_21 rfl (lv_at hl 3 rfl) ?_
  refine z_iadd hx hb dX3_mend_22 ?_
  refine z_iconst hx hb dX3_mend_23 ?_
  refine mw_full (st1 := []) (mr_V (As := [.int (iI r), .int (iI (7 + g2)), .int (iI 0)]) (rest := []) (ci := 3) (q0 := 0) ⟨hx, hb, hml, hown, hts⟩ (m_X3_lays l D mo am cI (recS S) r (7 + g2) 0 5 (3 * r + g2) (ix_of5 (r := r) (by omega) (by omega))) (cwV 3 hts (gV q_348 q_349 q_350 q_345 q_339) rfl rfl rfl (by decide +kernel) ⟨Nat.le_trans (m := 1) (Nat.le_of_ble_eq_true rfl) (Nat.le_trans (Nat.le_of_ble_eq_true rfl) hRf), Nat.le_trans (m := 23) (Nat.le_of_ble_eq_true rfl) (Nat.le_trans (Nat.le_of_ble_eq_true rfl) hRl)⟩) hN hK hP hD rfl rfl rfl hl.1 (Nat.le_of_ble_eq_true rfl) ⟨hRc, hRs⟩ dX3_mend_24) hD hS hA rfl (fun H locs hP hD hS => ?_)
  skip
  refine lv_aload_n hx hb dX3_mend_27 rfl (lv_at hl 1 rfl) ?_
  refine lv_iload_n hx hb dX3_mend_28 rfl (lv_at hl 2 rfl) ?_
  refine z_iconst hx hb dX3_mend_29 ?_
  refine lv_iload_n hx hb dX3_mend_30 rfl (lv_at hl 3 rfl) ?_
  refine z_iadd hx hb dX3_mend_31 ?_
  refine mw_full (st1 := [.int (iI ((gOf ((lyZ (recS S) 5 (3 * r + g2) 0) 0)) 4 (3 * r + g2)))]) (mr_V (As := [.int (iI r), .int (iI (4 + g2))]) (rest := []) (ci := 3) (q0 := 0) ⟨hx, hb, hml, hown, hts⟩ (m_X3_of l D mo am cI (lyZ (recS S) 5 (3 * r + g2) 0) r (4 + g2) 4 (3 * r + g2) (ix_of4 (r := r) (by omega) (by omega))) (cwV 2 hts (gV q_342 q_343 q_344 q_345 q_340) rfl rfl rfl (by decide +kernel) ⟨Nat.le_trans (m := 1) (Nat.le_of_ble_eq_true rfl) (Nat.le_trans (Nat.le_of_ble_eq_true rfl) hRf), Nat.le_trans (m := 22) (Nat.le_of_ble_eq_true rfl) (Nat.le_trans (Nat.le_of_ble_eq_true rfl) hRl)⟩) hN hK hP hD rfl rfl rfl hl.1 (Nat.le_of_ble_eq_true rfl) ⟨hRc, hRs⟩ dX3_mend_32) hD hS hA rfl (fun H locs hP hD hS => ?_)
  skip
  refine z_as (show (gOf ((lyZ (recS S) 5 (3 * r + g2) 0) 0)) 4 (3 * r + g2) = gOf (lyZ (recS S) 5 (3 * r + g2) 0 0) 4 (3 * r + g2) from by first | rfl | omega) ?_
  first | exact hret _ _ _ _ dX3_mend_35 hP hD hS | (exfalso; omega)
set_option maxHeartbeats 4000000 in
set_option maxRecDepth 100000 in
theorem m_X3_mend_err (l : Launch) (D : va_G) (mo : Nat) (am : Nat → Nat) (cI : ClassId) (S : Nat → Int → Int) (r g2 : Int) {B : Int} (hI : InvG B (gOf (S 0))) (h1 : -2147483648 ≤ r ∧ r < 2147483648) (h2 : -2147483648 ≤ g2 ∧ g2 < 2147483648) (he : emV (gOf (S 0)) r g2 < 0)  : MW l D yX3_mend (wsY yX3_mend cX3_mend 4 (some .int)) { frames := 3, cells := 0, slots := 0, locals := 64 } [(cI, .int)] [.ref mo, .int (iI r), .int (iI g2)] (wM mo am cI S) (wM mo am cI S) (some (.int (iI (emV (gOf (S 0)) r g2)))) := by
  refine mw_ofI (cc := cX3_mend) (maxL := 4) (by decide) rfl (Nat.le_of_ble_eq_true rfl) ?_
  intro p e s m below meth c R A Q args ls hx hb hml hown hts hRf hRl hRc hRs hN hK hP hD hS hA hret hl
  have hq : ∀ w ∈ ALL, w.before args s = true := fun w h => hts w (List.mem_cons_of_mem _ h)
  have hl : lv_has ls 4 [(0, .ref mo), (1, .int (iI r)), (2, .int (iI g2))] := hl
  refine lv_aload_n hx hb dX3_mend_0 rfl (lv_at hl 0 rfl) ?_
  refine lv_iload_n hx hb dX3_mend_1 rfl (lv_at hl 1 rfl) ?_
  refine lv_iload_n hx hb dX3_mend_2 rfl (lv_at hl 2 rfl) ?_
  refine mw_full (st1 := [.int (iI (emV (gOf (S 0)) r g2))]) (mr_V (As := [.int (iI r), .int (iI g2)]) (rest := []) (ci := 3) (q0 := 0) ⟨hx, hb, hml, hown, hts⟩ (m_X3_errorMend l D mo am cI S r g2 hI (by omega) (by omega)) (cwV 2 hts (gV q_477 q_478 q_479 q_345 q_456) rfl rfl rfl (by decide +kernel) ⟨Nat.le_trans (m := 3) (Nat.le_of_ble_eq_true rfl) (Nat.le_trans (Nat.le_of_ble_eq_true rfl) hRf), Nat.le_trans (m := 64) (Nat.le_of_ble_eq_true rfl) (Nat.le_trans (Nat.le_of_ble_eq_true rfl) hRl)⟩) hN hK hP hD rfl rfl rfl hl.1 (Nat.le_of_ble_eq_true rfl) ⟨hRc, hRs⟩ dX3_mend_3) hD hS hA rfl (fun H locs hP hD hS => ?_)
  have hf_1 : emV (gOf (S 0)) r g2 = if 0 ≤ r ∧ r < 6 ∧ 0 ≤ g2 ∧ g2 < 3 then (if (gOf (S 0)) 5 (3 * r + g2) = 0 then -1000002 else 0) else -1000001 := rfl
  refine lv_istore_n (lv' := [(3, .int (iI (emV (gOf (S 0)) r g2))), (0, .ref mo), (1, .int (iI r)), (2, .int (iI g2))]) hx hb dX3_mend_6 rfl hl (by decide) rfl (fun ls hl => ?_)
  refine lv_iload_n hx hb dX3_mend_7 rfl (lv_at hl 0 rfl) ?_
  refine z_if_ge (tgt := 13) hx hb dX3_mend_8 (by decide) (by omega) (fun c_2 => absurd c_2 (by omega)) (fun c_2 => ?_)
  refine lv_iload_n hx hb dX3_mend_11 rfl (lv_at hl 0 rfl) ?_
  first | exact hret _ _ _ _ dX3_mend_12 hP hD hS | (exfalso; omega)
set_option maxHeartbeats 4000000 in
set_option maxRecDepth 100000 in
theorem m_X3_rate (l : Launch) (D : va_G) (mo : Nat) (am : Nat → Nat) (cI : ClassId) (S : Nat → Int → Int) (r v : Int) {B : Int} (hI : InvG B (gOf (S 0))) (hk : 0 ≤ S 4 0 ∧ S 4 0 ≤ 4) (h1 : 0 ≤ r ∧ r < 6) (h2 : 1 ≤ v ∧ v ≤ 200)  : MW l D yX3_rate (wsY yX3_rate cX3_rate 5 (some .int)) { frames := 3, cells := 0, slots := 0, locals := 63 } [(cI, .int)] [.ref mo, .int (iI r), .int (iI v)] (wM mo am cI S) (wM mo am cI (lyZ (recS S) 6 r v)) (some (.int (iI ((gOf (recS S 0)) 6 r)))) := by
  refine mw_ofI (cc := cX3_rate) (maxL := 5) (by decide) rfl (Nat.le_of_ble_eq_true rfl) ?_
  intro p e s m below meth c R A Q args ls hx hb hml hown hts hRf hRl hRc hRs hN hK hP hD hS hA hret hl
  have hq : ∀ w ∈ ALL, w.before args s = true := fun w h => hts w (List.mem_cons_of_mem _ h)
  have hl : lv_has ls 5 [(0, .ref mo), (1, .int (iI r)), (2, .int (iI v))] := hl
  refine lv_iload_n hx hb dX3_rate_0 rfl (lv_at hl 1 rfl) ?_
  refine lv_iload_n hx hb dX3_rate_1 rfl (lv_at hl 2 rfl) ?_
  refine mw_none (st1 := [.int (iI (erV r v))]) (mr_S (As := [.int (iI r), .int (iI v)]) (rest := []) ⟨hx, hb, hml, hown, hts⟩ (m_X3_errorRate l D r v (by omega) (by omega)) (va_cwS 2 hts (gS q_481 q_482 q_345 q_457) rfl rfl rfl (by decide +kernel) ⟨Nat.le_trans (m := 3) (Nat.le_of_ble_eq_true rfl) (Nat.le_trans (Nat.le_of_ble_eq_true rfl) hRf), Nat.le_trans (m := 63) (Nat.le_of_ble_eq_true rfl) (Nat.le_trans (Nat.le_of_ble_eq_true rfl) hRl)⟩) hN (hK.sub (tys' := []) [] rfl) (va_P0 _ _ _) (va_D0 A) rfl hl.1 (Nat.le_of_ble_eq_true rfl) ⟨hRc, hRs⟩ dX3_rate_2) hP hS hA rfl (fun H locs hP hS => ?_)
  have hf_1 : erV r v = if 0 ≤ r ∧ r < 6 ∧ 1 ≤ v ∧ v ≤ 200 then 0 else -1000001 := rfl
  refine lv_istore_n (lv' := [(3, .int (iI (erV r v))), (0, .ref mo), (1, .int (iI r)), (2, .int (iI v))]) hx hb dX3_rate_5 rfl hl (by decide) rfl (fun ls hl => ?_)
  refine lv_iload_n hx hb dX3_rate_6 rfl (lv_at hl 0 rfl) ?_
  refine z_if_ge (tgt := 12) hx hb dX3_rate_7 (by decide) (by omega) (fun c_2 => ?_) (fun c_2 => absurd c_2 (by omega))
  refine lv_aload_n hx hb dX3_rate_12 rfl (lv_at hl 1 rfl) ?_
  refine mw_full (st1 := []) (mr_V (As := []) (rest := []) (ci := 3) (q0 := 0) ⟨hx, hb, hml, hown, hts⟩ (m_X3_records_all l D mo am cI S  hk) (cwV 0 hts (gV q_463 q_464 q_465 q_345 q_379) rfl rfl rfl (by decide +kernel) ⟨Nat.le_trans (m := 2) (Nat.le_of_ble_eq_true rfl) (Nat.le_trans (Nat.le_of_ble_eq_true rfl) hRf), Nat.le_trans (m := 45) (Nat.le_of_ble_eq_true rfl) (Nat.le_trans (Nat.le_of_ble_eq_true rfl) hRl)⟩) hN hK hP hD rfl rfl rfl hl.1 (Nat.le_of_ble_eq_true rfl) ⟨hRc, hRs⟩ dX3_rate_13) hD hS hA rfl (fun H locs hP hD hS => ?_)
  have hI1 := inv_rec hI
  have hq12 : gOf (recS S 0) 12 0 = gOf (S 0) 12 0 := by rw [q_rec]
  refine lv_aload_n hx hb dX3_rate_16 rfl (lv_at hl 1 rfl) ?_
  refine lv_iload_n hx hb dX3_rate_17 rfl (lv_at hl 2 rfl) ?_
  refine z_iconst hx hb dX3_rate_18 ?_
  refine mw_full (st1 := [.int (iI ((gOf ((recS S) 0)) 6 r))]) (mr_V (As := [.int (iI r), .int (iI 0)]) (rest := []) (ci := 3) (q0 := 0) ⟨hx, hb, hml, hown, hts⟩ (m_X3_of l D mo am cI (recS S) r 0 6 r (ix_ofr 6 (by omega) (by omega) (by omega))) (cwV 2 hts (gV q_342 q_343 q_344 q_345 q_340) rfl rfl rfl (by decide +kernel) ⟨Nat.le_trans (m := 1) (Nat.le_of_ble_eq_true rfl) (Nat.le_trans (Nat.le_of_ble_eq_true rfl) hRf), Nat.le_trans (m := 22) (Nat.le_of_ble_eq_true rfl) (Nat.le_trans (Nat.le_of_ble_eq_true rfl) hRl)⟩) hN hK hP hD rfl rfl rfl hl.1 (Nat.le_of_ble_eq_true rfl) ⟨hRc, hRs⟩ dX3_rate_19) hD hS hA rfl (fun H locs hP hD hS => ?_)
  have hf_3 := invG_6 hI1 r (by omega) (by omega)
  refine lv_istore (lv' := [(4, .int (iI ((gOf ((recS S) 0)) 6 r))), (3, .int (iI (erV r v))), (0, .ref mo), (1, .int (iI r)), (2, .int (iI v))]) hx hb dX3_rate_22 hl (by decide) rfl (fun ls hl => ?_)
  refine lv_aload_n hx hb dX3_rate_24 rfl (lv_at hl 2 rfl) ?_
  refine lv_iload_n hx hb dX3_rate_25 rfl (lv_at hl 3 rfl) ?_
  refine z_iconst hx hb dX3_rate_26 ?_
  refine lv_iload_n hx hb dX3_rate_27 rfl (lv_at hl 4 rfl) ?_
  refine mw_full (st1 := []) (mr_V (As := [.int (iI r), .int (iI 0), .int (iI v)]) (rest := []) (ci := 3) (q0 := 0) ⟨hx, hb, hml, hown, hts⟩ (m_X3_lays l D mo am cI (recS S) r 0 v 6 r (ix_ofr 6 (by omega) (by omega) (by omega))) (cwV 3 hts (gV q_348 q_349 q_350 q_345 q_339) rfl rfl rfl (by decide +kernel) ⟨Nat.le_trans (m := 1) (Nat.le_of_ble_eq_true rfl) (Nat.le_trans (Nat.le_of_ble_eq_true rfl) hRf), Nat.le_trans (m := 23) (Nat.le_of_ble_eq_true rfl) (Nat.le_trans (Nat.le_of_ble_eq_true rfl) hRl)⟩) hN hK hP hD rfl rfl rfl hl.1 (Nat.le_of_ble_eq_true rfl) ⟨hRc, hRs⟩ dX3_rate_28) hD hS hA rfl (fun H locs hP hD hS => ?_)
  skip
  refine lv_iload hx hb dX3_rate_31 (lv_at hl 0 rfl) ?_
  refine z_as (show (gOf ((recS S) 0)) 6 r = (gOf (recS S 0)) 6 r from by first | rfl | omega) ?_
  first | exact hret _ _ _ _ dX3_rate_33 hP hD hS | (exfalso; omega)
set_option maxHeartbeats 4000000 in
set_option maxRecDepth 100000 in
theorem m_X3_rate_bad (l : Launch) (D : va_G) (mo : Nat) (am : Nat → Nat) (cI : ClassId) (S : Nat → Int → Int) (r v : Int) (h1 : -2147483648 ≤ r ∧ r < 2147483648) (h2 : -2147483648 ≤ v ∧ v < 2147483648) (hb0 : r < 0 ∨ 5 < r ∨ v < 1 ∨ 200 < v)  : MW l D yX3_rate (wsY yX3_rate cX3_rate 5 (some .int)) { frames := 3, cells := 0, slots := 0, locals := 63 } [(cI, .int)] [.ref mo, .int (iI r), .int (iI v)] (wM mo am cI S) (wM mo am cI S) (some (.int (iI (-1000001)))) := by
  refine mw_ofI (cc := cX3_rate) (maxL := 5) (by decide) rfl (Nat.le_of_ble_eq_true rfl) ?_
  intro p e s m below meth c R A Q args ls hx hb hml hown hts hRf hRl hRc hRs hN hK hP hD hS hA hret hl
  have hq : ∀ w ∈ ALL, w.before args s = true := fun w h => hts w (List.mem_cons_of_mem _ h)
  have hl : lv_has ls 5 [(0, .ref mo), (1, .int (iI r)), (2, .int (iI v))] := hl
  refine lv_iload_n hx hb dX3_rate_0 rfl (lv_at hl 1 rfl) ?_
  refine lv_iload_n hx hb dX3_rate_1 rfl (lv_at hl 2 rfl) ?_
  refine mw_none (st1 := [.int (iI (erV r v))]) (mr_S (As := [.int (iI r), .int (iI v)]) (rest := []) ⟨hx, hb, hml, hown, hts⟩ (m_X3_errorRate l D r v (by omega) (by omega)) (va_cwS 2 hts (gS q_481 q_482 q_345 q_457) rfl rfl rfl (by decide +kernel) ⟨Nat.le_trans (m := 3) (Nat.le_of_ble_eq_true rfl) (Nat.le_trans (Nat.le_of_ble_eq_true rfl) hRf), Nat.le_trans (m := 63) (Nat.le_of_ble_eq_true rfl) (Nat.le_trans (Nat.le_of_ble_eq_true rfl) hRl)⟩) hN (hK.sub (tys' := []) [] rfl) (va_P0 _ _ _) (va_D0 A) rfl hl.1 (Nat.le_of_ble_eq_true rfl) ⟨hRc, hRs⟩ dX3_rate_2) hP hS hA rfl (fun H locs hP hS => ?_)
  have hf_1 : erV r v = if 0 ≤ r ∧ r < 6 ∧ 1 ≤ v ∧ v ≤ 200 then 0 else -1000001 := rfl
  refine lv_istore_n (lv' := [(3, .int (iI (erV r v))), (0, .ref mo), (1, .int (iI r)), (2, .int (iI v))]) hx hb dX3_rate_5 rfl hl (by decide) rfl (fun ls hl => ?_)
  refine lv_iload_n hx hb dX3_rate_6 rfl (lv_at hl 0 rfl) ?_
  refine z_if_ge (tgt := 12) hx hb dX3_rate_7 (by decide) (by omega) (fun c_2 => absurd c_2 (by omega)) (fun c_2 => ?_)
  refine lv_iload_n hx hb dX3_rate_10 rfl (lv_at hl 0 rfl) ?_
  refine z_as (show erV r v = -1000001 from by first | rfl | omega) ?_
  first | exact hret _ _ _ _ dX3_rate_11 hP hD hS | (exfalso; omega)
set_option maxHeartbeats 4000000 in
set_option maxRecDepth 100000 in
theorem m_X3_days (l : Launch) (D : va_G) (mo : Nat) (am : Nat → Nat) (cI : ClassId) (S : Nat → Int → Int) (n : Int) {B : Int} (hI : InvG B (gOf (S 0))) (hk : 0 ≤ S 4 0 ∧ S 4 0 ≤ 4) (h1 : 1 ≤ n ∧ n ≤ 99) (h2 : (gOf (S 0)) 12 0 ≤ 9999 - n) (hB : B + 594 ≤ 100000000)  : MW l D yX3_days (wsY yX3_days cX3_days 3 (some .int)) { frames := 9, cells := 0, slots := 0, locals := 200 } [(cI, .int)] [.ref mo, .int (iI n)] (wM mo am cI S) (wM mo am cI (esS (recS S) n.toNat)) (some (.int (iI (esL (recS S) n.toNat)))) := by
  refine mw_ofI (cc := cX3_days) (maxL := 3) (by decide) rfl (Nat.le_of_ble_eq_true rfl) ?_
  intro p e s m below meth c R A Q args ls hx hb hml hown hts hRf hRl hRc hRs hN hK hP hD hS hA hret hl
  have hq : ∀ w ∈ ALL, w.before args s = true := fun w h => hts w (List.mem_cons_of_mem _ h)
  have hl : lv_has ls 3 [(0, .ref mo), (1, .int (iI n))] := hl
  have hdd := invG_d hI
  refine lv_aload_n hx hb dX3_days_0 rfl (lv_at hl 0 rfl) ?_
  refine lv_iload_n hx hb dX3_days_1 rfl (lv_at hl 1 rfl) ?_
  refine mw_full (st1 := [.int (iI (edV (gOf (S 0)) n))]) (mr_V (As := [.int (iI n)]) (rest := []) (ci := 3) (q0 := 0) ⟨hx, hb, hml, hown, hts⟩ (m_X3_errorDays l D mo am cI S n hI (by omega)) (cwV 1 hts (gV q_484 q_485 q_486 q_345 q_459) rfl rfl rfl (by decide +kernel) ⟨Nat.le_trans (m := 2) (Nat.le_of_ble_eq_true rfl) (Nat.le_trans (Nat.le_of_ble_eq_true rfl) hRf), Nat.le_trans (m := 43) (Nat.le_of_ble_eq_true rfl) (Nat.le_trans (Nat.le_of_ble_eq_true rfl) hRl)⟩) hN hK hP hD rfl rfl rfl hl.1 (Nat.le_of_ble_eq_true rfl) ⟨hRc, hRs⟩ dX3_days_2) hD hS hA rfl (fun H locs hP hD hS => ?_)
  have hf_1 : edV (gOf (S 0)) n = if 1 ≤ n ∧ n ≤ 99 then (if 9999 - n < (gOf (S 0)) 12 0 then -1000003 else 0) else -1000001 := rfl
  refine lv_istore_n (lv' := [(2, .int (iI (edV (gOf (S 0)) n))), (0, .ref mo), (1, .int (iI n))]) hx hb dX3_days_5 rfl hl (by decide) rfl (fun ls hl => ?_)
  refine lv_iload_n hx hb dX3_days_6 rfl (lv_at hl 0 rfl) ?_
  refine z_if_ge (tgt := 12) hx hb dX3_days_7 (by decide) (by omega) (fun c_2 => ?_) (fun c_2 => absurd c_2 (by omega))
  refine lv_aload_n hx hb dX3_days_12 rfl (lv_at hl 1 rfl) ?_
  refine mw_full (st1 := []) (mr_V (As := []) (rest := []) (ci := 3) (q0 := 0) ⟨hx, hb, hml, hown, hts⟩ (m_X3_records_all l D mo am cI S  hk) (cwV 0 hts (gV q_463 q_464 q_465 q_345 q_379) rfl rfl rfl (by decide +kernel) ⟨Nat.le_trans (m := 2) (Nat.le_of_ble_eq_true rfl) (Nat.le_trans (Nat.le_of_ble_eq_true rfl) hRf), Nat.le_trans (m := 45) (Nat.le_of_ble_eq_true rfl) (Nat.le_trans (Nat.le_of_ble_eq_true rfl) hRl)⟩) hN hK hP hD rfl rfl rfl hl.1 (Nat.le_of_ble_eq_true rfl) ⟨hRc, hRs⟩ dX3_days_13) hD hS hA rfl (fun H locs hP hD hS => ?_)
  have hI1 := inv_rec hI
  have hq12 : gOf (recS S 0) 12 0 = gOf (S 0) 12 0 := by rw [q_rec]
  refine lv_aload_n hx hb dX3_days_16 rfl (lv_at hl 1 rfl) ?_
  refine lv_iload_n hx hb dX3_days_17 rfl (lv_at hl 2 rfl) ?_
  refine mw_full (st1 := [.int (iI (esL (recS S) n.toNat))]) (mr_V (As := [.int (iI n)]) (rest := []) (ci := 3) (q0 := 0) ⟨hx, hb, hml, hown, hts⟩ (m_X3_endsDays l D mo am cI (recS S) n hI1 (by omega) (by omega) (by omega)) (cwV 1 hts (gV q_487 q_488 q_489 q_345 q_447) rfl rfl rfl (by decide +kernel) ⟨Nat.le_trans (m := 9) (Nat.le_of_ble_eq_true rfl) (Nat.le_trans (Nat.le_of_ble_eq_true rfl) hRf), Nat.le_trans (m := 200) (Nat.le_of_ble_eq_true rfl) (Nat.le_trans (Nat.le_of_ble_eq_true rfl) hRl)⟩) hN hK hP hD rfl rfl rfl hl.1 (Nat.le_of_ble_eq_true rfl) ⟨hRc, hRs⟩ dX3_days_18) hD hS hA rfl (fun H locs hP hD hS => ?_)
  have hf_3 := esL_bd (recS S) n.toNat
  first | exact hret _ _ _ _ dX3_days_21 hP hD hS | (exfalso; omega)
set_option maxHeartbeats 4000000 in
set_option maxRecDepth 100000 in
theorem m_X3_days_err (l : Launch) (D : va_G) (mo : Nat) (am : Nat → Nat) (cI : ClassId) (S : Nat → Int → Int) (n : Int) {B : Int} (hI : InvG B (gOf (S 0))) (h1 : -2147483648 ≤ n ∧ n < 2147483648) (he : edV (gOf (S 0)) n < 0)  : MW l D yX3_days (wsY yX3_days cX3_days 3 (some .int)) { frames := 9, cells := 0, slots := 0, locals := 200 } [(cI, .int)] [.ref mo, .int (iI n)] (wM mo am cI S) (wM mo am cI S) (some (.int (iI (edV (gOf (S 0)) n)))) := by
  refine mw_ofI (cc := cX3_days) (maxL := 3) (by decide) rfl (Nat.le_of_ble_eq_true rfl) ?_
  intro p e s m below meth c R A Q args ls hx hb hml hown hts hRf hRl hRc hRs hN hK hP hD hS hA hret hl
  have hq : ∀ w ∈ ALL, w.before args s = true := fun w h => hts w (List.mem_cons_of_mem _ h)
  have hl : lv_has ls 3 [(0, .ref mo), (1, .int (iI n))] := hl
  refine lv_aload_n hx hb dX3_days_0 rfl (lv_at hl 0 rfl) ?_
  refine lv_iload_n hx hb dX3_days_1 rfl (lv_at hl 1 rfl) ?_
  refine mw_full (st1 := [.int (iI (edV (gOf (S 0)) n))]) (mr_V (As := [.int (iI n)]) (rest := []) (ci := 3) (q0 := 0) ⟨hx, hb, hml, hown, hts⟩ (m_X3_errorDays l D mo am cI S n hI (by omega)) (cwV 1 hts (gV q_484 q_485 q_486 q_345 q_459) rfl rfl rfl (by decide +kernel) ⟨Nat.le_trans (m := 2) (Nat.le_of_ble_eq_true rfl) (Nat.le_trans (Nat.le_of_ble_eq_true rfl) hRf), Nat.le_trans (m := 43) (Nat.le_of_ble_eq_true rfl) (Nat.le_trans (Nat.le_of_ble_eq_true rfl) hRl)⟩) hN hK hP hD rfl rfl rfl hl.1 (Nat.le_of_ble_eq_true rfl) ⟨hRc, hRs⟩ dX3_days_2) hD hS hA rfl (fun H locs hP hD hS => ?_)
  have hf_1 : edV (gOf (S 0)) n = if 1 ≤ n ∧ n ≤ 99 then (if 9999 - n < (gOf (S 0)) 12 0 then -1000003 else 0) else -1000001 := rfl
  refine lv_istore_n (lv' := [(2, .int (iI (edV (gOf (S 0)) n))), (0, .ref mo), (1, .int (iI n))]) hx hb dX3_days_5 rfl hl (by decide) rfl (fun ls hl => ?_)
  refine lv_iload_n hx hb dX3_days_6 rfl (lv_at hl 0 rfl) ?_
  refine z_if_ge (tgt := 12) hx hb dX3_days_7 (by decide) (by omega) (fun c_2 => absurd c_2 (by omega)) (fun c_2 => ?_)
  refine lv_iload_n hx hb dX3_days_10 rfl (lv_at hl 0 rfl) ?_
  first | exact hret _ _ _ _ dX3_days_11 hP hD hS | (exfalso; omega)
set_option maxHeartbeats 4000000 in
set_option maxRecDepth 100000 in
theorem m_X3_set (l : Launch) (D : va_G) (mo : Nat) (am : Nat → Nat) (cI : ClassId) (S : Nat → Int → Int) (w v : Int) {B : Int} (hI : InvG B (gOf (S 0))) (hk : 0 ≤ S 4 0 ∧ S 4 0 ≤ 4) (h1 : 0 ≤ w ∧ w < 3) (h2 : -2147483648 ≤ v ∧ v < 2147483648) (h3 : badSetZ w v = 0)  : MW l D yX3_set (wsY yX3_set cX3_set 4 (some .int)) { frames := 2, cells := 0, slots := 0, locals := 45 } [(cI, .int)] [.ref mo, .int (iI w), .int (iI v)] (wM mo am cI S) (wM mo am cI (upG (recS S) 0 (1 + w) v)) (some (.int (iI ((gOf (recS S 0)) 11 w)))) := by
  refine mw_ofI (cc := cX3_set) (maxL := 4) (by decide) rfl (Nat.le_of_ble_eq_true rfl) ?_
  intro p e s m below meth c R A Q args ls hx hb hml hown hts hRf hRl hRc hRs hN hK hP hD hS hA hret hl
  have hq : ∀ w ∈ ALL, w.before args s = true := fun w h => hts w (List.mem_cons_of_mem _ h)
  have hl : lv_has ls 4 [(0, .ref mo), (1, .int (iI w)), (2, .int (iI v))] := hl
  have hbs : badSetZ w v = if w = 0 then (if v < 300 ∨ 700 < v then 1 else 0) else if w = 1 then (if v < 1 ∨ 300 < v then 1 else 0) else (if v < 0 ∨ 99 < v then 1 else 0) := rfl
  refine lv_iload_n hx hb dX3_set_0 rfl (lv_at hl 1 rfl) ?_
  refine mw_none (st1 := [.int (iI (if 0 ≤ w ∧ w ≤ 2 then 1 else 0 : Int))]) (mr_S (As := [.int (iI w)]) (rest := []) ⟨hx, hb, hml, hown, hts⟩ (m_X3_isThree l D w (by omega)) (va_cwS 1 hts (gS q_451 q_452 q_345 q_384) rfl rfl rfl (by decide +kernel) ⟨Nat.le_trans (m := 2) (Nat.le_of_ble_eq_true rfl) (Nat.le_trans (Nat.le_of_ble_eq_true rfl) hRf), Nat.le_trans (m := 42) (Nat.le_of_ble_eq_true rfl) (Nat.le_trans (Nat.le_of_ble_eq_true rfl) hRl)⟩) hN (hK.sub (tys' := []) [] rfl) (va_P0 _ _ _) (va_D0 A) rfl hl.1 (Nat.le_of_ble_eq_true rfl) ⟨hRc, hRs⟩ dX3_set_1) hP hS hA rfl (fun H locs hP hS => ?_)
  refine z_if_eq (tgt := 57) hx hb dX3_set_4 (by decide) (by omega) (fun c_1 => absurd c_1 (by omega)) (fun c_1 => ?_)
  refine lv_iload_n hx hb dX3_set_7 rfl (lv_at hl 2 rfl) ?_
  refine lv_iload_n hx hb dX3_set_8 rfl (lv_at hl 1 rfl) ?_
  refine z_if_ne (tgt := 18) hx hb dX3_set_9 (by decide) (by omega) (fun c_2 => ?_) (fun c_2 => ?_)
  · refine lv_iload_n hx hb dX3_set_18 rfl (lv_at hl 1 rfl) ?_
    refine z_iconst hx hb dX3_set_19 ?_
    refine z_icmp_ne (tgt := 27) hx hb dX3_set_20 (by decide) (by omega) (by omega) (fun c_3 => ?_) (fun c_3 => ?_)
    · refine z_iconst hx hb dX3_set_27 ?_
      refine lv_iload_n hx hb dX3_set_28 rfl (lv_at hl 1 rfl) ?_
      refine z_if_ne (tgt := 38) hx hb dX3_set_29 (by decide) (by omega) (fun c_4 => ?_) (fun c_4 => absurd c_4 (by omega))
      refine lv_iload_n hx hb dX3_set_38 rfl (lv_at hl 1 rfl) ?_
      refine z_iconst hx hb dX3_set_39 ?_
      refine z_icmp_ne (tgt := 49) hx hb dX3_set_40 (by decide) (by omega) (by omega) (fun c_5 => ?_) (fun c_5 => absurd c_5 (by omega))
      refine z_bipush hx hb dX3_set_49 (by decide +kernel) ?_
      refine mw_none (st1 := [.int (iI (if 0 ≤ v ∧ v ≤ 99 then 1 else 0 : Int))]) (mr_S (As := [.int (iI v), .int (iI 0), .int (iI 99)]) (rest := []) ⟨hx, hb, hml, hown, hts⟩ (m_X3_in l D v 0 99 (by omega) (by omega) (by omega)) (va_cwS 3 hts (gS q_380 q_381 q_345 q_374) rfl rfl rfl (by decide +kernel) ⟨Nat.le_trans (m := 1) (Nat.le_of_ble_eq_true rfl) (Nat.le_trans (Nat.le_of_ble_eq_true rfl) hRf), Nat.le_trans (m := 22) (Nat.le_of_ble_eq_true rfl) (Nat.le_trans (Nat.le_of_ble_eq_true rfl) hRl)⟩) hN (hK.sub (tys' := []) [] rfl) (va_P0 _ _ _) (va_D0 A) rfl hl.1 (Nat.le_of_ble_eq_true rfl) ⟨hRc, hRs⟩ dX3_set_51) hP hS hA rfl (fun H locs hP hS => ?_)
      refine z_if_ne (tgt := 60) hx hb dX3_set_54 (by decide) (by omega) (fun c_6 => ?_) (fun c_6 => absurd c_6 (by omega))
      refine lv_aload_n hx hb dX3_set_60 rfl (lv_at hl 0 rfl) ?_
      refine mw_full (st1 := []) (mr_V (As := []) (rest := []) (ci := 3) (q0 := 0) ⟨hx, hb, hml, hown, hts⟩ (m_X3_records_all l D mo am cI S  hk) (cwV 0 hts (gV q_463 q_464 q_465 q_345 q_379) rfl rfl rfl (by decide +kernel) ⟨Nat.le_trans (m := 2) (Nat.le_of_ble_eq_true rfl) (Nat.le_trans (Nat.le_of_ble_eq_true rfl) hRf), Nat.le_trans (m := 45) (Nat.le_of_ble_eq_true rfl) (Nat.le_trans (Nat.le_of_ble_eq_true rfl) hRl)⟩) hN hK hP hD rfl rfl rfl hl.1 (Nat.le_of_ble_eq_true rfl) ⟨hRc, hRs⟩ dX3_set_61) hD hS hA rfl (fun H locs hP hD hS => ?_)
      have hI1 := inv_rec hI
      have hq12 : gOf (recS S 0) 12 0 = gOf (S 0) 12 0 := by rw [q_rec]
      refine lv_aload_n hx hb dX3_set_64 rfl (lv_at hl 0 rfl) ?_
      refine va_get (D := D) (ci := 3) (v := .ref (am 0)) (C := RX3) (T := TX3) (N := 14) hx hb hq inA3 hown hK hP 0 rfl rfl 0 (by decide) (hq _ q_338) (fun _ h9 => h9) rfl dX3_set_65 ?_
      refine z_iconst hx hb dX3_set_68 ?_
      refine lv_iload_n hx hb dX3_set_69 rfl (lv_at hl 1 rfl) ?_
      refine z_iadd hx hb dX3_set_70 ?_
      refine z_iald hx hb hK hP 1 0 rfl rfl (by omega) (by omega) (v := ((gOf (recS S 0)) 11 w)) (s_11 _ rfl (by omega)) dX3_set_71 ?_
      refine lv_istore_n (lv' := [(3, .int (iI ((gOf (recS S 0)) 11 w))), (0, .ref mo), (1, .int (iI w)), (2, .int (iI v))]) hx hb dX3_set_72 rfl hl (by decide) rfl (fun ls hl => ?_)
      refine lv_aload_n hx hb dX3_set_73 rfl (lv_at hl 1 rfl) ?_
      refine va_get (D := D) (ci := 3) (v := .ref (am 0)) (C := RX3) (T := TX3) (N := 14) hx hb hq inA3 hown hK hP 0 rfl rfl 0 (by decide) (hq _ q_338) (fun _ h9 => h9) rfl dX3_set_74 ?_
      refine z_iconst hx hb dX3_set_77 ?_
      refine lv_iload_n hx hb dX3_set_78 rfl (lv_at hl 2 rfl) ?_
      refine z_iadd hx hb dX3_set_79 ?_
      refine lv_iload_n hx hb dX3_set_80 rfl (lv_at hl 3 rfl) ?_
      refine z_iast (w1 := (wM mo am cI (upG (recS S) 0 (1 + w) v))) hx hb hK hP hD hS 1 0 rfl rfl (by omega) (by omega) (wM_set0 _ _ _ _ _ _) dX3_set_81 (fun H locs hP hD hS => ?_)
      refine lv_iload_n hx hb dX3_set_82 rfl (lv_at hl 0 rfl) ?_
      refine z_as (show ((gOf (recS S 0)) 11 w) = (gOf (recS S 0)) 11 w from by first | rfl | omega) ?_
      first | exact hret _ _ _ _ dX3_set_83 hP hD hS | (exfalso; omega)
    · refine z_iconst hx hb dX3_set_23 ?_
      refine lv_goto (tgt := 28) hx hb dX3_set_24 (by decide) ?_
      refine lv_iload_n hx hb dX3_set_28 rfl (lv_at hl 1 rfl) ?_
      refine z_if_ne (tgt := 38) hx hb dX3_set_29 (by decide) (by omega) (fun c_7 => ?_) (fun c_7 => absurd c_7 (by omega))
      refine lv_iload_n hx hb dX3_set_38 rfl (lv_at hl 1 rfl) ?_
      refine z_iconst hx hb dX3_set_39 ?_
      refine z_icmp_ne (tgt := 49) hx hb dX3_set_40 (by decide) (by omega) (by omega) (fun c_8 => absurd c_8 (by omega)) (fun c_8 => ?_)
      refine z_sipush hx hb dX3_set_43 (by decide +kernel) ?_
      refine lv_goto (tgt := 51) hx hb dX3_set_46 (by decide) ?_
      refine mw_none (st1 := [.int (iI (if 1 ≤ v ∧ v ≤ 300 then 1 else 0 : Int))]) (mr_S (As := [.int (iI v), .int (iI 1), .int (iI 300)]) (rest := []) ⟨hx, hb, hml, hown, hts⟩ (m_X3_in l D v 1 300 (by omega) (by omega) (by omega)) (va_cwS 3 hts (gS q_380 q_381 q_345 q_374) rfl rfl rfl (by decide +kernel) ⟨Nat.le_trans (m := 1) (Nat.le_of_ble_eq_true rfl) (Nat.le_trans (Nat.le_of_ble_eq_true rfl) hRf), Nat.le_trans (m := 22) (Nat.le_of_ble_eq_true rfl) (Nat.le_trans (Nat.le_of_ble_eq_true rfl) hRl)⟩) hN (hK.sub (tys' := []) [] rfl) (va_P0 _ _ _) (va_D0 A) rfl hl.1 (Nat.le_of_ble_eq_true rfl) ⟨hRc, hRs⟩ dX3_set_51) hP hS hA rfl (fun H locs hP hS => ?_)
      refine z_if_ne (tgt := 60) hx hb dX3_set_54 (by decide) (by omega) (fun c_9 => ?_) (fun c_9 => absurd c_9 (by omega))
      refine lv_aload_n hx hb dX3_set_60 rfl (lv_at hl 0 rfl) ?_
      refine mw_full (st1 := []) (mr_V (As := []) (rest := []) (ci := 3) (q0 := 0) ⟨hx, hb, hml, hown, hts⟩ (m_X3_records_all l D mo am cI S  hk) (cwV 0 hts (gV q_463 q_464 q_465 q_345 q_379) rfl rfl rfl (by decide +kernel) ⟨Nat.le_trans (m := 2) (Nat.le_of_ble_eq_true rfl) (Nat.le_trans (Nat.le_of_ble_eq_true rfl) hRf), Nat.le_trans (m := 45) (Nat.le_of_ble_eq_true rfl) (Nat.le_trans (Nat.le_of_ble_eq_true rfl) hRl)⟩) hN hK hP hD rfl rfl rfl hl.1 (Nat.le_of_ble_eq_true rfl) ⟨hRc, hRs⟩ dX3_set_61) hD hS hA rfl (fun H locs hP hD hS => ?_)
      have hI1 := inv_rec hI
      have hq12 : gOf (recS S 0) 12 0 = gOf (S 0) 12 0 := by rw [q_rec]
      refine lv_aload_n hx hb dX3_set_64 rfl (lv_at hl 0 rfl) ?_
      refine va_get (D := D) (ci := 3) (v := .ref (am 0)) (C := RX3) (T := TX3) (N := 14) hx hb hq inA3 hown hK hP 0 rfl rfl 0 (by decide) (hq _ q_338) (fun _ h9 => h9) rfl dX3_set_65 ?_
      refine z_iconst hx hb dX3_set_68 ?_
      refine lv_iload_n hx hb dX3_set_69 rfl (lv_at hl 1 rfl) ?_
      refine z_iadd hx hb dX3_set_70 ?_
      refine z_iald hx hb hK hP 1 0 rfl rfl (by omega) (by omega) (v := ((gOf (recS S 0)) 11 w)) (s_11 _ rfl (by omega)) dX3_set_71 ?_
      refine lv_istore_n (lv' := [(3, .int (iI ((gOf (recS S 0)) 11 w))), (0, .ref mo), (1, .int (iI w)), (2, .int (iI v))]) hx hb dX3_set_72 rfl hl (by decide) rfl (fun ls hl => ?_)
      refine lv_aload_n hx hb dX3_set_73 rfl (lv_at hl 1 rfl) ?_
      refine va_get (D := D) (ci := 3) (v := .ref (am 0)) (C := RX3) (T := TX3) (N := 14) hx hb hq inA3 hown hK hP 0 rfl rfl 0 (by decide) (hq _ q_338) (fun _ h9 => h9) rfl dX3_set_74 ?_
      refine z_iconst hx hb dX3_set_77 ?_
      refine lv_iload_n hx hb dX3_set_78 rfl (lv_at hl 2 rfl) ?_
      refine z_iadd hx hb dX3_set_79 ?_
      refine lv_iload_n hx hb dX3_set_80 rfl (lv_at hl 3 rfl) ?_
      refine z_iast (w1 := (wM mo am cI (upG (recS S) 0 (1 + w) v))) hx hb hK hP hD hS 1 0 rfl rfl (by omega) (by omega) (wM_set0 _ _ _ _ _ _) dX3_set_81 (fun H locs hP hD hS => ?_)
      refine lv_iload_n hx hb dX3_set_82 rfl (lv_at hl 0 rfl) ?_
      refine z_as (show ((gOf (recS S 0)) 11 w) = (gOf (recS S 0)) 11 w from by first | rfl | omega) ?_
      first | exact hret _ _ _ _ dX3_set_83 hP hD hS | (exfalso; omega)
  · refine z_sipush hx hb dX3_set_12 (by decide +kernel) ?_
    refine lv_goto (tgt := 28) hx hb dX3_set_15 (by decide) ?_
    refine lv_iload_n hx hb dX3_set_28 rfl (lv_at hl 1 rfl) ?_
    refine z_if_ne (tgt := 38) hx hb dX3_set_29 (by decide) (by omega) (fun c_10 => absurd c_10 (by omega)) (fun c_10 => ?_)
    refine z_sipush hx hb dX3_set_32 (by decide +kernel) ?_
    refine lv_goto (tgt := 51) hx hb dX3_set_35 (by decide) ?_
    refine mw_none (st1 := [.int (iI (if 300 ≤ v ∧ v ≤ 700 then 1 else 0 : Int))]) (mr_S (As := [.int (iI v), .int (iI 300), .int (iI 700)]) (rest := []) ⟨hx, hb, hml, hown, hts⟩ (m_X3_in l D v 300 700 (by omega) (by omega) (by omega)) (va_cwS 3 hts (gS q_380 q_381 q_345 q_374) rfl rfl rfl (by decide +kernel) ⟨Nat.le_trans (m := 1) (Nat.le_of_ble_eq_true rfl) (Nat.le_trans (Nat.le_of_ble_eq_true rfl) hRf), Nat.le_trans (m := 22) (Nat.le_of_ble_eq_true rfl) (Nat.le_trans (Nat.le_of_ble_eq_true rfl) hRl)⟩) hN (hK.sub (tys' := []) [] rfl) (va_P0 _ _ _) (va_D0 A) rfl hl.1 (Nat.le_of_ble_eq_true rfl) ⟨hRc, hRs⟩ dX3_set_51) hP hS hA rfl (fun H locs hP hS => ?_)
    refine z_if_ne (tgt := 60) hx hb dX3_set_54 (by decide) (by omega) (fun c_11 => ?_) (fun c_11 => absurd c_11 (by omega))
    refine lv_aload_n hx hb dX3_set_60 rfl (lv_at hl 0 rfl) ?_
    refine mw_full (st1 := []) (mr_V (As := []) (rest := []) (ci := 3) (q0 := 0) ⟨hx, hb, hml, hown, hts⟩ (m_X3_records_all l D mo am cI S  hk) (cwV 0 hts (gV q_463 q_464 q_465 q_345 q_379) rfl rfl rfl (by decide +kernel) ⟨Nat.le_trans (m := 2) (Nat.le_of_ble_eq_true rfl) (Nat.le_trans (Nat.le_of_ble_eq_true rfl) hRf), Nat.le_trans (m := 45) (Nat.le_of_ble_eq_true rfl) (Nat.le_trans (Nat.le_of_ble_eq_true rfl) hRl)⟩) hN hK hP hD rfl rfl rfl hl.1 (Nat.le_of_ble_eq_true rfl) ⟨hRc, hRs⟩ dX3_set_61) hD hS hA rfl (fun H locs hP hD hS => ?_)
    have hI1 := inv_rec hI
    have hq12 : gOf (recS S 0) 12 0 = gOf (S 0) 12 0 := by rw [q_rec]
    refine lv_aload_n hx hb dX3_set_64 rfl (lv_at hl 0 rfl) ?_
    refine va_get (D := D) (ci := 3) (v := .ref (am 0)) (C := RX3) (T := TX3) (N := 14) hx hb hq inA3 hown hK hP 0 rfl rfl 0 (by decide) (hq _ q_338) (fun _ h9 => h9) rfl dX3_set_65 ?_
    refine z_iconst hx hb dX3_set_68 ?_
    refine lv_iload_n hx hb dX3_set_69 rfl (lv_at hl 1 rfl) ?_
    refine z_iadd hx hb dX3_set_70 ?_
    refine z_iald hx hb hK hP 1 0 rfl rfl (by omega) (by omega) (v := ((gOf (recS S 0)) 11 w)) (s_11 _ rfl (by omega)) dX3_set_71 ?_
    refine lv_istore_n (lv' := [(3, .int (iI ((gOf (recS S 0)) 11 w))), (0, .ref mo), (1, .int (iI w)), (2, .int (iI v))]) hx hb dX3_set_72 rfl hl (by decide) rfl (fun ls hl => ?_)
    refine lv_aload_n hx hb dX3_set_73 rfl (lv_at hl 1 rfl) ?_
    refine va_get (D := D) (ci := 3) (v := .ref (am 0)) (C := RX3) (T := TX3) (N := 14) hx hb hq inA3 hown hK hP 0 rfl rfl 0 (by decide) (hq _ q_338) (fun _ h9 => h9) rfl dX3_set_74 ?_
    refine z_iconst hx hb dX3_set_77 ?_
    refine lv_iload_n hx hb dX3_set_78 rfl (lv_at hl 2 rfl) ?_
    refine z_iadd hx hb dX3_set_79 ?_
    refine lv_iload_n hx hb dX3_set_80 rfl (lv_at hl 3 rfl) ?_
    refine z_iast (w1 := (wM mo am cI (upG (recS S) 0 (1 + w) v))) hx hb hK hP hD hS 1 0 rfl rfl (by omega) (by omega) (wM_set0 _ _ _ _ _ _) dX3_set_81 (fun H locs hP hD hS => ?_)
    refine lv_iload_n hx hb dX3_set_82 rfl (lv_at hl 0 rfl) ?_
    refine z_as (show ((gOf (recS S 0)) 11 w) = (gOf (recS S 0)) 11 w from by first | rfl | omega) ?_
    first | exact hret _ _ _ _ dX3_set_83 hP hD hS | (exfalso; omega)
set_option maxHeartbeats 4000000 in
set_option maxRecDepth 100000 in
theorem m_X3_set_bad (l : Launch) (D : va_G) (mo : Nat) (am : Nat → Nat) (cI : ClassId) (S : Nat → Int → Int) (w v : Int) (h1 : -2147483648 ≤ w ∧ w < 2147483648) (h2 : -2147483648 ≤ v ∧ v < 2147483648) (hb0 : w < 0 ∨ 2 < w ∨ badSetZ w v ≠ 0)  : MW l D yX3_set (wsY yX3_set cX3_set 4 (some .int)) { frames := 2, cells := 0, slots := 0, locals := 45 } [(cI, .int)] [.ref mo, .int (iI w), .int (iI v)] (wM mo am cI S) (wM mo am cI S) (some (.int (iI (-1000001)))) := by
  refine mw_ofI (cc := cX3_set) (maxL := 4) (by decide) rfl (Nat.le_of_ble_eq_true rfl) ?_
  intro p e s m below meth c R A Q args ls hx hb hml hown hts hRf hRl hRc hRs hN hK hP hD hS hA hret hl
  have hq : ∀ w ∈ ALL, w.before args s = true := fun w h => hts w (List.mem_cons_of_mem _ h)
  have hl : lv_has ls 4 [(0, .ref mo), (1, .int (iI w)), (2, .int (iI v))] := hl
  have hbs : badSetZ w v = if w = 0 then (if v < 300 ∨ 700 < v then 1 else 0) else if w = 1 then (if v < 1 ∨ 300 < v then 1 else 0) else (if v < 0 ∨ 99 < v then 1 else 0) := rfl
  refine lv_iload_n hx hb dX3_set_0 rfl (lv_at hl 1 rfl) ?_
  refine mw_none (st1 := [.int (iI (if 0 ≤ w ∧ w ≤ 2 then 1 else 0 : Int))]) (mr_S (As := [.int (iI w)]) (rest := []) ⟨hx, hb, hml, hown, hts⟩ (m_X3_isThree l D w (by omega)) (va_cwS 1 hts (gS q_451 q_452 q_345 q_384) rfl rfl rfl (by decide +kernel) ⟨Nat.le_trans (m := 2) (Nat.le_of_ble_eq_true rfl) (Nat.le_trans (Nat.le_of_ble_eq_true rfl) hRf), Nat.le_trans (m := 42) (Nat.le_of_ble_eq_true rfl) (Nat.le_trans (Nat.le_of_ble_eq_true rfl) hRl)⟩) hN (hK.sub (tys' := []) [] rfl) (va_P0 _ _ _) (va_D0 A) rfl hl.1 (Nat.le_of_ble_eq_true rfl) ⟨hRc, hRs⟩ dX3_set_1) hP hS hA rfl (fun H locs hP hS => ?_)
  refine z_if_eq (tgt := 57) hx hb dX3_set_4 (by decide) (by omega) (fun c_1 => ?_) (fun c_1 => ?_)
  · refine z_ldc hx hb (-1000001) (by decide +kernel) hown (hq _ q_448) dX3_set_57 ?_
    refine z_as (show (-1000001) = -1000001 from by first | rfl | omega) ?_
    first | exact hret _ _ _ _ dX3_set_59 hP hD hS | (exfalso; omega)
  · refine lv_iload_n hx hb dX3_set_7 rfl (lv_at hl 2 rfl) ?_
    refine lv_iload_n hx hb dX3_set_8 rfl (lv_at hl 1 rfl) ?_
    refine z_if_ne (tgt := 18) hx hb dX3_set_9 (by decide) (by omega) (fun c_2 => ?_) (fun c_2 => ?_)
    · refine lv_iload_n hx hb dX3_set_18 rfl (lv_at hl 1 rfl) ?_
      refine z_iconst hx hb dX3_set_19 ?_
      refine z_icmp_ne (tgt := 27) hx hb dX3_set_20 (by decide) (by omega) (by omega) (fun c_3 => ?_) (fun c_3 => ?_)
      · refine z_iconst hx hb dX3_set_27 ?_
        refine lv_iload_n hx hb dX3_set_28 rfl (lv_at hl 1 rfl) ?_
        refine z_if_ne (tgt := 38) hx hb dX3_set_29 (by decide) (by omega) (fun c_4 => ?_) (fun c_4 => absurd c_4 (by omega))
        refine lv_iload_n hx hb dX3_set_38 rfl (lv_at hl 1 rfl) ?_
        refine z_iconst hx hb dX3_set_39 ?_
        refine z_icmp_ne (tgt := 49) hx hb dX3_set_40 (by decide) (by omega) (by omega) (fun c_5 => ?_) (fun c_5 => absurd c_5 (by omega))
        refine z_bipush hx hb dX3_set_49 (by decide +kernel) ?_
        refine mw_none (st1 := [.int (iI (if 0 ≤ v ∧ v ≤ 99 then 1 else 0 : Int))]) (mr_S (As := [.int (iI v), .int (iI 0), .int (iI 99)]) (rest := []) ⟨hx, hb, hml, hown, hts⟩ (m_X3_in l D v 0 99 (by omega) (by omega) (by omega)) (va_cwS 3 hts (gS q_380 q_381 q_345 q_374) rfl rfl rfl (by decide +kernel) ⟨Nat.le_trans (m := 1) (Nat.le_of_ble_eq_true rfl) (Nat.le_trans (Nat.le_of_ble_eq_true rfl) hRf), Nat.le_trans (m := 22) (Nat.le_of_ble_eq_true rfl) (Nat.le_trans (Nat.le_of_ble_eq_true rfl) hRl)⟩) hN (hK.sub (tys' := []) [] rfl) (va_P0 _ _ _) (va_D0 A) rfl hl.1 (Nat.le_of_ble_eq_true rfl) ⟨hRc, hRs⟩ dX3_set_51) hP hS hA rfl (fun H locs hP hS => ?_)
        refine z_if_ne (tgt := 60) hx hb dX3_set_54 (by decide) (by omega) (fun c_6 => absurd c_6 (by omega)) (fun c_6 => ?_)
        refine z_ldc hx hb (-1000001) (by decide +kernel) hown (hq _ q_448) dX3_set_57 ?_
        refine z_as (show (-1000001) = -1000001 from by first | rfl | omega) ?_
        first | exact hret _ _ _ _ dX3_set_59 hP hD hS | (exfalso; omega)
      · refine z_iconst hx hb dX3_set_23 ?_
        refine lv_goto (tgt := 28) hx hb dX3_set_24 (by decide) ?_
        refine lv_iload_n hx hb dX3_set_28 rfl (lv_at hl 1 rfl) ?_
        refine z_if_ne (tgt := 38) hx hb dX3_set_29 (by decide) (by omega) (fun c_7 => ?_) (fun c_7 => absurd c_7 (by omega))
        refine lv_iload_n hx hb dX3_set_38 rfl (lv_at hl 1 rfl) ?_
        refine z_iconst hx hb dX3_set_39 ?_
        refine z_icmp_ne (tgt := 49) hx hb dX3_set_40 (by decide) (by omega) (by omega) (fun c_8 => absurd c_8 (by omega)) (fun c_8 => ?_)
        refine z_sipush hx hb dX3_set_43 (by decide +kernel) ?_
        refine lv_goto (tgt := 51) hx hb dX3_set_46 (by decide) ?_
        refine mw_none (st1 := [.int (iI (if 1 ≤ v ∧ v ≤ 300 then 1 else 0 : Int))]) (mr_S (As := [.int (iI v), .int (iI 1), .int (iI 300)]) (rest := []) ⟨hx, hb, hml, hown, hts⟩ (m_X3_in l D v 1 300 (by omega) (by omega) (by omega)) (va_cwS 3 hts (gS q_380 q_381 q_345 q_374) rfl rfl rfl (by decide +kernel) ⟨Nat.le_trans (m := 1) (Nat.le_of_ble_eq_true rfl) (Nat.le_trans (Nat.le_of_ble_eq_true rfl) hRf), Nat.le_trans (m := 22) (Nat.le_of_ble_eq_true rfl) (Nat.le_trans (Nat.le_of_ble_eq_true rfl) hRl)⟩) hN (hK.sub (tys' := []) [] rfl) (va_P0 _ _ _) (va_D0 A) rfl hl.1 (Nat.le_of_ble_eq_true rfl) ⟨hRc, hRs⟩ dX3_set_51) hP hS hA rfl (fun H locs hP hS => ?_)
        refine z_if_ne (tgt := 60) hx hb dX3_set_54 (by decide) (by omega) (fun c_9 => absurd c_9 (by omega)) (fun c_9 => ?_)
        refine z_ldc hx hb (-1000001) (by decide +kernel) hown (hq _ q_448) dX3_set_57 ?_
        refine z_as (show (-1000001) = -1000001 from by first | rfl | omega) ?_
        first | exact hret _ _ _ _ dX3_set_59 hP hD hS | (exfalso; omega)
    · refine z_sipush hx hb dX3_set_12 (by decide +kernel) ?_
      refine lv_goto (tgt := 28) hx hb dX3_set_15 (by decide) ?_
      refine lv_iload_n hx hb dX3_set_28 rfl (lv_at hl 1 rfl) ?_
      refine z_if_ne (tgt := 38) hx hb dX3_set_29 (by decide) (by omega) (fun c_10 => absurd c_10 (by omega)) (fun c_10 => ?_)
      refine z_sipush hx hb dX3_set_32 (by decide +kernel) ?_
      refine lv_goto (tgt := 51) hx hb dX3_set_35 (by decide) ?_
      refine mw_none (st1 := [.int (iI (if 300 ≤ v ∧ v ≤ 700 then 1 else 0 : Int))]) (mr_S (As := [.int (iI v), .int (iI 300), .int (iI 700)]) (rest := []) ⟨hx, hb, hml, hown, hts⟩ (m_X3_in l D v 300 700 (by omega) (by omega) (by omega)) (va_cwS 3 hts (gS q_380 q_381 q_345 q_374) rfl rfl rfl (by decide +kernel) ⟨Nat.le_trans (m := 1) (Nat.le_of_ble_eq_true rfl) (Nat.le_trans (Nat.le_of_ble_eq_true rfl) hRf), Nat.le_trans (m := 22) (Nat.le_of_ble_eq_true rfl) (Nat.le_trans (Nat.le_of_ble_eq_true rfl) hRl)⟩) hN (hK.sub (tys' := []) [] rfl) (va_P0 _ _ _) (va_D0 A) rfl hl.1 (Nat.le_of_ble_eq_true rfl) ⟨hRc, hRs⟩ dX3_set_51) hP hS hA rfl (fun H locs hP hS => ?_)
      refine z_if_ne (tgt := 60) hx hb dX3_set_54 (by decide) (by omega) (fun c_11 => absurd c_11 (by omega)) (fun c_11 => ?_)
      refine z_ldc hx hb (-1000001) (by decide +kernel) hown (hq _ q_448) dX3_set_57 ?_
      refine z_as (show (-1000001) = -1000001 from by first | rfl | omega) ?_
      first | exact hret _ _ _ _ dX3_set_59 hP hD hS | (exfalso; omega)
