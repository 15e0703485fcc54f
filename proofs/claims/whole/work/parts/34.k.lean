set_option maxHeartbeats 4000000 in
set_option maxRecDepth 100000 in
theorem m_X3_writes (l : Launch) (D : va_G) (mo : Nat) (am : Nat → Nat) (cI : ClassId) (S : Nat → Int → Int) (r c2 v : Int) {B : Int} (hI : InvG B (gOf (S 0))) (h1 : 0 ≤ r ∧ r < 6) (h2 : 0 ≤ c2 ∧ c2 < 8)  : MW l D yX3_writes (wsY yX3_writes cX3_writes 6 (some .int)) { frames := 2, cells := 0, slots := 0, locals := 47 } [(cI, .int)] [.ref mo, .int (iI r), .int (iI c2), .int (iI v)] (wM mo am cI S) (wM mo am cI (wrS S r c2 v)) (some (.int (iI (aimZ v + ((37 * (8 * r + c2) + 11 * (gOf (S 0)) 2 (8 * r + c2)) % 21 - 10))))) := by
  refine mw_ofI (cc := cX3_writes) (maxL := 6) (by decide) rfl (Nat.le_of_ble_eq_true rfl) ?_
  intro p e s m below meth c R A Q args ls hx hb hml hown hts hRf hRl hRc hRs hN hK hP hD hS hA hret hl
  have hq : ∀ w ∈ ALL, w.before args s = true := fun w h => hts w (List.mem_cons_of_mem _ h)
  have hl : lv_has ls 6 [(0, .ref mo), (1, .int (iI r)), (2, .int (iI c2)), (3, .int (iI v))] := hl
  have hBb := invG_B hI
  refine lv_aload_n hx hb dX3_writes_0 rfl (lv_at hl 0 rfl) ?_
  refine lv_iload_n hx hb dX3_writes_1 rfl (lv_at hl 1 rfl) ?_
  refine lv_iload_n hx hb dX3_writes_2 rfl (lv_at hl 2 rfl) ?_
  refine z_iconst hx hb dX3_writes_3 ?_
  refine mw_full (st1 := [.int (iI ((gOf (S 0)) 2 (8 * r + c2)))]) (mr_V (As := [.int (iI r), .int (iI c2), .int (iI 2)]) (rest := []) (ci := 3) (q0 := 0) ⟨hx, hb, hml, hown, hts⟩ (m_X3_ofCell l D mo am cI S r c2 2 2 (by omega) (by omega) (by omega)) (cwV 3 hts (gV q_354 q_355 q_356 q_345 q_352) rfl rfl rfl (by decide +kernel) ⟨Nat.le_trans (m := 2) (Nat.le_of_ble_eq_true rfl) (Nat.le_trans (Nat.le_of_ble_eq_true rfl) hRf), Nat.le_trans (m := 45) (Nat.le_of_ble_eq_true rfl) (Nat.le_trans (Nat.le_of_ble_eq_true rfl) hRl)⟩) hN hK hP hD rfl rfl rfl hl.1 (Nat.le_of_ble_eq_true rfl) ⟨hRc, hRs⟩ dX3_writes_4) hD hS hA rfl (fun H locs hP hD hS => ?_)
  have hf_1 := invG_2 hI (8 * r + c2) (by omega) (by omega)
  refine lv_istore (lv' := [(4, .int (iI ((gOf (S 0)) 2 (8 * r + c2)))), (0, .ref mo), (1, .int (iI r)), (2, .int (iI c2)), (3, .int (iI v))]) hx hb dX3_writes_7 hl (by decide) rfl (fun ls hl => ?_)
  refine z_bipush hx hb dX3_writes_9 (by decide +kernel) ?_
  refine z_bipush hx hb dX3_writes_11 (by decide +kernel) ?_
  refine lv_iload_n hx hb dX3_writes_13 rfl (lv_at hl 2 rfl) ?_
  refine z_imul hx hb dX3_writes_14 ?_
  refine lv_iload_n hx hb dX3_writes_15 rfl (lv_at hl 3 rfl) ?_
  refine z_iadd hx hb dX3_writes_16 ?_
  refine z_imul hx hb dX3_writes_17 ?_
  refine z_bipush hx hb dX3_writes_18 (by decide +kernel) ?_
  refine lv_iload hx hb dX3_writes_20 (lv_at hl 0 rfl) ?_
  refine z_imul hx hb dX3_writes_22 ?_
  refine z_iadd hx hb dX3_writes_23 ?_
  refine z_bipush hx hb dX3_writes_24 (by decide +kernel) ?_
  refine z_irem hx hb dX3_writes_26 (by omega) (by omega) ?_
  refine z_bipush hx hb dX3_writes_27 (by decide +kernel) ?_
  refine z_isub hx hb dX3_writes_29 ?_
  refine lv_istore (lv' := [(5, .int (iI ((((37 * ((8 * r) + c2)) + (11 * (gOf (S 0)) 2 (8 * r + c2))) % 21) - 10))), (4, .int (iI ((gOf (S 0)) 2 (8 * r + c2)))), (0, .ref mo), (1, .int (iI r)), (2, .int (iI c2)), (3, .int (iI v))]) hx hb dX3_writes_30 hl (by decide) rfl (fun ls hl => ?_)
  refine lv_aload_n hx hb dX3_writes_32 rfl (lv_at hl 2 rfl) ?_
  refine lv_iload_n hx hb dX3_writes_33 rfl (lv_at hl 3 rfl) ?_
  refine lv_iload_n hx hb dX3_writes_34 rfl (lv_at hl 4 rfl) ?_
  refine z_iconst hx hb dX3_writes_35 ?_
  refine lv_iload_n hx hb dX3_writes_36 rfl (lv_at hl 5 rfl) ?_
  refine mw_full (st1 := []) (mr_V (As := [.int (iI r), .int (iI c2), .int (iI 0), .int (iI v)]) (rest := []) (ci := 3) (q0 := 0) ⟨hx, hb, hml, hown, hts⟩ (m_X3_laysCell l D mo am cI S r c2 0 v 0 (by omega) (by omega) (by omega)) (cwV 4 hts (gV q_357 q_358 q_359 q_345 q_353) rfl rfl rfl (by decide +kernel) ⟨Nat.le_trans (m := 2) (Nat.le_of_ble_eq_true rfl) (Nat.le_trans (Nat.le_of_ble_eq_true rfl) hRf), Nat.le_trans (m := 47) (Nat.le_of_ble_eq_true rfl) (Nat.le_trans (Nat.le_of_ble_eq_true rfl) hRl)⟩) hN hK hP hD rfl rfl rfl hl.1 (Nat.le_of_ble_eq_true rfl) ⟨hRc, hRs⟩ dX3_writes_37) hD hS hA rfl (fun H locs hP hD hS => ?_)
  skip
  refine lv_aload_n hx hb dX3_writes_40 rfl (lv_at hl 2 rfl) ?_
  refine lv_iload_n hx hb dX3_writes_41 rfl (lv_at hl 3 rfl) ?_
  refine lv_iload_n hx hb dX3_writes_42 rfl (lv_at hl 4 rfl) ?_
  refine z_iconst hx hb dX3_writes_43 ?_
  refine lv_iload_n hx hb dX3_writes_44 rfl (lv_at hl 5 rfl) ?_
  refine mw_none (st1 := [.int (iI (aimZ v)), .int (iI 1), .int (iI c2), .int (iI r), .ref mo]) (mr_S (As := [.int (iI v)]) (rest := [.int (iI 1), .int (iI c2), .int (iI r), .ref mo]) ⟨hx, hb, hml, hown, hts⟩ (m_X3_aim l D v ) (va_cwS 1 hts (gS q_346 q_347 q_345 q_341) rfl rfl rfl (by decide +kernel) ⟨Nat.le_trans (m := 1) (Nat.le_of_ble_eq_true rfl) (Nat.le_trans (Nat.le_of_ble_eq_true rfl) hRf), Nat.le_trans (m := 20) (Nat.le_of_ble_eq_true rfl) (Nat.le_trans (Nat.le_of_ble_eq_true rfl) hRl)⟩) hN (hK.sub (tys' := []) [] rfl) (va_P0 _ _ _) (va_D0 A) rfl hl.1 (Nat.le_of_ble_eq_true rfl) ⟨hRc, hRs⟩ dX3_writes_45) hP hS hA rfl (fun H locs hP hS => ?_)
  have hf_3 : aimZ v = 100 + 400 * v := rfl
  refine lv_iload hx hb dX3_writes_48 (lv_at hl 0 rfl) ?_
  refine z_iadd hx hb dX3_writes_50 ?_
  refine mw_full (st1 := []) (mr_V (As := [.int (iI r), .int (iI c2), .int (iI 1), .int (iI (aimZ v + ((((37 * ((8 * r) + c2)) + (11 * (gOf (S 0)) 2 (8 * r + c2))) % 21) - 10)))]) (rest := []) (ci := 3) (q0 := 0) ⟨hx, hb, hml, hown, hts⟩ (m_X3_laysCell l D mo am cI (lyZ S 0 (8 * r + c2) v) r c2 1 (aimZ v + ((((37 * ((8 * r) + c2)) + (11 * (gOf (S 0)) 2 (8 * r + c2))) % 21) - 10)) 1 (by omega) (by omega) (by omega)) (cwV 4 hts (gV q_357 q_358 q_359 q_345 q_353) rfl rfl rfl (by decide +kernel) ⟨Nat.le_trans (m := 2) (Nat.le_of_ble_eq_true rfl) (Nat.le_trans (Nat.le_of_ble_eq_true rfl) hRf), Nat.le_trans (m := 47) (Nat.le_of_ble_eq_true rfl) (Nat.le_trans (Nat.le_of_ble_eq_true rfl) hRl)⟩) hN hK hP hD rfl rfl rfl hl.1 (Nat.le_of_ble_eq_true rfl) ⟨hRc, hRs⟩ dX3_writes_51) hD hS hA rfl (fun H locs hP hD hS => ?_)
  skip
  refine lv_aload_n hx hb dX3_writes_54 rfl (lv_at hl 2 rfl) ?_
  refine lv_iload_n hx hb dX3_writes_55 rfl (lv_at hl 3 rfl) ?_
  refine lv_iload_n hx hb dX3_writes_56 rfl (lv_at hl 4 rfl) ?_
  refine z_iconst hx hb dX3_writes_57 ?_
  refine lv_iload hx hb dX3_writes_58 (lv_at hl 1 rfl) ?_
  refine z_iconst hx hb dX3_writes_60 ?_
  refine z_iadd hx hb dX3_writes_61 ?_
  refine mw_full (st1 := []) (mr_V (As := [.int (iI r), .int (iI c2), .int (iI 2), .int (iI ((gOf (S 0)) 2 (8 * r + c2) + 1))]) (rest := []) (ci := 3) (q0 := 0) ⟨hx, hb, hml, hown, hts⟩ (m_X3_laysCell l D mo am cI (lyZ (lyZ S 0 (8 * r + c2) v) 1 (8 * r + c2) (aimZ v + ((((37 * ((8 * r) + c2)) + (11 * (gOf (S 0)) 2 (8 * r + c2))) % 21) - 10))) r c2 2 ((gOf (S 0)) 2 (8 * r + c2) + 1) 2 (by omega) (by omega) (by omega)) (cwV 4 hts (gV q_357 q_358 q_359 q_345 q_353) rfl rfl rfl (by decide +kernel) ⟨Nat.le_trans (m := 2) (Nat.le_of_ble_eq_true rfl) (Nat.le_trans (Nat.le_of_ble_eq_true rfl) hRf), Nat.le_trans (m := 47) (Nat.le_of_ble_eq_true rfl) (Nat.le_trans (Nat.le_of_ble_eq_true rfl) hRl)⟩) hN hK hP hD rfl rfl rfl hl.1 (Nat.le_of_ble_eq_true rfl) ⟨hRc, hRs⟩ dX3_writes_62) hD hS hA rfl (fun H locs hP hD hS => ?_)
  skip
  refine lv_aload_n hx hb dX3_writes_65 rfl (lv_at hl 2 rfl) ?_
  refine lv_iload_n hx hb dX3_writes_66 rfl (lv_at hl 3 rfl) ?_
  refine lv_iload_n hx hb dX3_writes_67 rfl (lv_at hl 4 rfl) ?_
  refine z_iconst hx hb dX3_writes_68 ?_
  refine lv_aload_n hx hb dX3_writes_69 rfl (lv_at hl 2 rfl) ?_
  refine va_get (D := D) (ci := 3) (v := .ref (am 0)) (C := RX3) (T := TX3) (N := 14) hx hb hq inA3 hown hK hP 0 rfl rfl 0 (by decide) (hq _ q_338) (fun _ h9 => h9) rfl dX3_writes_70 ?_
  refine z_iconst hx hb dX3_writes_73 ?_
  refine z_iald hx hb hK hP 1 0 rfl rfl (by omega) (by omega) (v := (gOf ((lyZ (lyZ (lyZ S 0 (8 * r + c2) v) 1 (8 * r + c2) (aimZ v + ((((37 * ((8 * r) + c2)) + (11 * (gOf (S 0)) 2 (8 * r + c2))) % 21) - 10))) 2 (8 * r + c2) ((gOf (S 0)) 2 (8 * r + c2) + 1)) 0) 12 0)) (s_12 _) dX3_writes_74 ?_
  refine mw_full (st1 := []) (mr_V (As := [.int (iI r), .int (iI c2), .int (iI 3), .int (iI (gOf ((lyZ (lyZ (lyZ S 0 (8 * r + c2) v) 1 (8 * r + c2) (aimZ v + ((((37 * ((8 * r) + c2)) + (11 * (gOf (S 0)) 2 (8 * r + c2))) % 21) - 10))) 2 (8 * r + c2) ((gOf (S 0)) 2 (8 * r + c2) + 1)) 0) 12 0))]) (rest := []) (ci := 3) (q0 := 0) ⟨hx, hb, hml, hown, hts⟩ (m_X3_laysCell l D mo am cI (lyZ (lyZ (lyZ S 0 (8 * r + c2) v) 1 (8 * r + c2) (aimZ v + ((((37 * ((8 * r) + c2)) + (11 * (gOf (S 0)) 2 (8 * r + c2))) % 21) - 10))) 2 (8 * r + c2) ((gOf (S 0)) 2 (8 * r + c2) + 1)) r c2 3 (gOf ((lyZ (lyZ (lyZ S 0 (8 * r + c2) v) 1 (8 * r + c2) (aimZ v + ((((37 * ((8 * r) + c2)) + (11 * (gOf (S 0)) 2 (8 * r + c2))) % 21) - 10))) 2 (8 * r + c2) ((gOf (S 0)) 2 (8 * r + c2) + 1)) 0) 12 0) 3 (by omega) (by omega) (by omega)) (cwV 4 hts (gV q_357 q_358 q_359 q_345 q_353) rfl rfl rfl (by decide +kernel) ⟨Nat.le_trans (m := 2) (Nat.le_of_ble_eq_true rfl) (Nat.le_trans (Nat.le_of_ble_eq_true rfl) hRf), Nat.le_trans (m := 47) (Nat.le_of_ble_eq_true rfl) (Nat.le_trans (Nat.le_of_ble_eq_true rfl) hRl)⟩) hN hK hP hD rfl rfl rfl hl.1 (Nat.le_of_ble_eq_true rfl) ⟨hRc, hRs⟩ dX3_writes_75) hD hS hA rfl (fun H locs hP hD hS => ?_)
  skip
  refine lv_aload_n hx hb dX3_writes_78 rfl (lv_at hl 2 rfl) ?_
  refine va_get (D := D) (ci := 3) (v := .ref (am 0)) (C := RX3) (T := TX3) (N := 14) hx hb hq inA3 hown hK hP 0 rfl rfl 0 (by decide) (hq _ q_338) (fun _ h9 => h9) rfl dX3_writes_79 ?_
  refine z_iconst hx hb dX3_writes_82 ?_
  refine lv_dup2_11 hx hb dX3_writes_83 rfl rfl ?_
  refine z_iald hx hb hK hP 1 0 rfl rfl (by omega) (by omega) (v := ((lyZ (lyZ (lyZ (lyZ S 0 (8 * r + c2) v) 1 (8 * r + c2) (aimZ v + ((((37 * ((8 * r) + c2)) + (11 * (gOf (S 0)) 2 (8 * r + c2))) % 21) - 10))) 2 (8 * r + c2) ((gOf (S 0)) 2 (8 * r + c2) + 1)) 3 (8 * r + c2) (gOf ((lyZ (lyZ (lyZ S 0 (8 * r + c2) v) 1 (8 * r + c2) (aimZ v + ((((37 * ((8 * r) + c2)) + (11 * (gOf (S 0)) 2 (8 * r + c2))) % 21) - 10))) 2 (8 * r + c2) ((gOf (S 0)) 2 (8 * r + c2) + 1)) 0) 12 0)) 0 5)) rfl dX3_writes_84 ?_
  refine z_iconst hx hb dX3_writes_85 ?_
  refine z_iadd hx hb dX3_writes_86 ?_
  refine z_iast (w1 := (wM mo am cI (upG (lyZ (lyZ (lyZ (lyZ S 0 (8 * r + c2) v) 1 (8 * r + c2) (aimZ v + ((((37 * ((8 * r) + c2)) + (11 * (gOf (S 0)) 2 (8 * r + c2))) % 21) - 10))) 2 (8 * r + c2) ((gOf (S 0)) 2 (8 * r + c2) + 1)) 3 (8 * r + c2) (gOf ((lyZ (lyZ (lyZ S 0 (8 * r + c2) v) 1 (8 * r + c2) (aimZ v + ((((37 * ((8 * r) + c2)) + (11 * (gOf (S 0)) 2 (8 * r + c2))) % 21) - 10))) 2 (8 * r + c2) ((gOf (S 0)) 2 (8 * r + c2) + 1)) 0) 12 0)) 0 5 (((lyZ (lyZ (lyZ (lyZ S 0 (8 * r + c2) v) 1 (8 * r + c2) (aimZ v + ((((37 * ((8 * r) + c2)) + (11 * (gOf (S 0)) 2 (8 * r + c2))) % 21) - 10))) 2 (8 * r + c2) ((gOf (S 0)) 2 (8 * r + c2) + 1)) 3 (8 * r + c2) (gOf ((lyZ (lyZ (lyZ S 0 (8 * r + c2) v) 1 (8 * r + c2) (aimZ v + ((((37 * ((8 * r) + c2)) + (11 * (gOf (S 0)) 2 (8 * r + c2))) % 21) - 10))) 2 (8 * r + c2) ((gOf (S 0)) 2 (8 * r + c2) + 1)) 0) 12 0)) 0 5) + 1)))) hx hb hK hP hD hS 1 0 rfl rfl (by omega) (by omega) (wM_set0 _ _ _ _ _ _) dX3_writes_87 (fun H locs hP hD hS => ?_)
  refine lv_iload_n hx hb dX3_writes_88 rfl (lv_at hl 5 rfl) ?_
  refine mw_none (st1 := [.int (iI (aimZ v))]) (mr_S (As := [.int (iI v)]) (rest := []) ⟨hx, hb, hml, hown, hts⟩ (m_X3_aim l D v ) (va_cwS 1 hts (gS q_346 q_347 q_345 q_341) rfl rfl rfl (by decide +kernel) ⟨Nat.le_trans (m := 1) (Nat.le_of_ble_eq_true rfl) (Nat.le_trans (Nat.le_of_ble_eq_true rfl) hRf), Nat.le_trans (m := 20) (Nat.le_of_ble_eq_true rfl) (Nat.le_trans (Nat.le_of_ble_eq_true rfl) hRl)⟩) hN (hK.sub (tys' := []) [] rfl) (va_P0 _ _ _) (va_D0 A) rfl hl.1 (Nat.le_of_ble_eq_true rfl) ⟨hRc, hRs⟩ dX3_writes_89) hP hS hA rfl (fun H locs hP hS => ?_)
  have hf_7 : aimZ v = 100 + 400 * v := rfl
  refine lv_iload hx hb dX3_writes_92 (lv_at hl 0 rfl) ?_
  refine z_iadd hx hb dX3_writes_94 ?_
  refine z_as (show (aimZ v + ((((37 * ((8 * r) + c2)) + (11 * (gOf (S 0)) 2 (8 * r + c2))) % 21) - 10)) = aimZ v + ((37 * (8 * r + c2) + 11 * (gOf (S 0)) 2 (8 * r + c2)) % 21 - 10) from by first | rfl | omega) ?_
  first | exact hret _ _ _ _ dX3_writes_95 hP hD hS | (exfalso; omega)
set_option maxHeartbeats 4000000 in
set_option maxRecDepth 100000 in
theorem m_X3_writesGuards (l : Launch) (D : va_G) (mo : Nat) (am : Nat → Nat) (cI : ClassId) (S : Nat → Int → Int) (r : Int) {B : Int} (hI : InvG B (gOf (S 0))) (h1 : 0 ≤ r ∧ r < 6)  : MW l D yX3_writesGuards (wsY yX3_writesGuards cX3_writesGuards 3 none) { frames := 1, cells := 0, slots := 0, locals := 23 } [(cI, .int)] [.ref mo, .int (iI r)] (wM mo am cI S) (wM mo am cI (wguS S r)) none := by
  refine mw_ofV (cc := cX3_writesGuards) (maxL := 3) (by decide) rfl (Nat.le_of_ble_eq_true rfl) ?_
  intro p e s m below meth c R A Q args ls hx hb hml hown hts hRf hRl hRc hRs hN hK hP hD hS hA hret hl
  have hq : ∀ w ∈ ALL, w.before args s = true := fun w h => hts w (List.mem_cons_of_mem _ h)
  have hl : lv_has ls 3 [(0, .ref mo), (1, .int (iI r))] := hl
  refine z_iconst hx hb dX3_writesGuards_0 ?_
  refine lv_istore_n (lv' := [(2, .int (iI 0)), (0, .ref mo), (1, .int (iI r))]) hx hb dX3_writesGuards_1 rfl hl (by decide) rfl (fun ls hl => ?_)
  have LP2 : ∀ (fu i : Nat), i ≤ 3 → 3 < fu + i → ∀ (H : Heap) (locs : List Loc) (ls : Array Slot), va_P D vwCl (wM mo am cI (wgS S r i)) H → va_D A (wM mo am cI (wgS S r i)) → va_S A s.heap H locs → lv_has ls 3 [(2, .int (iI (i : Int))), (0, .ref mo), (1, .int (iI r))] → W p l e R s m args below meth c H locs 0 0 Q (F0 m 2 ls []) := by
    intro fu
    induction fu with
    | zero => intro i h1 h2; omega
    | succ fu ih2 =>
      intro i hi1 hif H locs ls hP hD hS hl
      have hIi := inv_wg hI h1 i (by omega)
      refine lv_iload_n hx hb dX3_writesGuards_2 rfl (lv_at hl 0 rfl) ?_
      refine z_iconst hx hb dX3_writesGuards_3 ?_
      refine z_icmp_ge (tgt := 49) hx hb dX3_writesGuards_4 (by decide) (by omega) (by omega) (fun c_1 => ?_) (fun c_1 => ?_)
      · have hiN : i = 3 := by omega
        refine lv_aload_n hx hb dX3_writesGuards_49 rfl (lv_at hl 1 rfl) ?_
        refine lv_iload_n hx hb dX3_writesGuards_50 rfl (lv_at hl 2 rfl) ?_
        refine z_iconst hx hb dX3_writesGuards_51 ?_
        refine lv_aload_n hx hb dX3_writesGuards_52 rfl (lv_at hl 1 rfl) ?_
        refine va_get (D := D) (ci := 3) (v := .ref (am 0)) (C := RX3) (T := TX3) (N := 14) hx hb hq inA3 hown hK hP 0 rfl rfl 0 (by decide) (hq _ q_338) (fun _ h9 => h9) rfl dX3_writesGuards_53 ?_
        refine z_iconst hx hb dX3_writesGuards_56 ?_
        refine z_iald hx hb hK hP 1 0 rfl rfl (by omega) (by omega) (v := (gOf ((wgS S r i) 0) 12 0)) (s_12 _) dX3_writesGuards_57 ?_
        refine mw_full (st1 := []) (mr_V (As := [.int (iI r), .int (iI 1), .int (iI (gOf ((wgS S r i) 0) 12 0))]) (rest := []) (ci := 3) (q0 := 0) ⟨hx, hb, hml, hown, hts⟩ (m_X3_lays l D mo am cI (wgS S r i) r 1 (gOf ((wgS S r i) 0) 12 0) 7 r (ix_ofr 7 (by omega) (by omega) (by omega))) (cwV 3 hts (gV q_348 q_349 q_350 q_345 q_339) rfl rfl rfl (by decide +kernel) ⟨Nat.le_trans (m := 1) (Nat.le_of_ble_eq_true rfl) (Nat.le_trans (Nat.le_of_ble_eq_true rfl) hRf), Nat.le_trans (m := 23) (Nat.le_of_ble_eq_true rfl) (Nat.le_trans (Nat.le_of_ble_eq_true rfl) hRl)⟩) hN hK hP hD rfl rfl rfl hl.1 (Nat.le_of_ble_eq_true rfl) ⟨hRc, hRs⟩ dX3_writesGuards_58) hD hS hA rfl (fun H locs hP hD hS => ?_)
        skip
        have eW0 : wguS S r = (lyZ (wgS S r i) 7 r (gOf ((wgS S r i) 0) 12 0)) := by (rw [hiN]; rfl)
        rw [← eW0] at hP hD
        first | exact hret _ _ _ _ dX3_writesGuards_61 hP hD hS | (exfalso; omega)
      · refine lv_aload_n hx hb dX3_writesGuards_7 rfl (lv_at hl 1 rfl) ?_
        refine lv_iload_n hx hb dX3_writesGuards_8 rfl (lv_at hl 2 rfl) ?_
        refine z_iconst hx hb dX3_writesGuards_9 ?_
        refine lv_iload_n hx hb dX3_writesGuards_10 rfl (lv_at hl 0 rfl) ?_
        refine z_iadd hx hb dX3_writesGuards_11 ?_
        refine lv_aload_n hx hb dX3_writesGuards_12 rfl (lv_at hl 1 rfl) ?_
        refine lv_iload_n hx hb dX3_writesGuards_13 rfl (lv_at hl 2 rfl) ?_
        refine z_bipush hx hb dX3_writesGuards_14 (by decide +kernel) ?_
        refine lv_iload_n hx hb dX3_writesGuards_16 rfl (lv_at hl 0 rfl) ?_
        refine z_iadd hx hb dX3_writesGuards_17 ?_
        refine mw_full (st1 := [.int (iI ((gOf ((wgS S r i) 0)) 5 (3 * r + (i : Int)))), .int (iI (4 + (i : Int))), .int (iI r), .ref mo]) (mr_V (As := [.int (iI r), .int (iI (7 + (i : Int)))]) (rest := [.int (iI (4 + (i : Int))), .int (iI r), .ref mo]) (ci := 3) (q0 := 0) ⟨hx, hb, hml, hown, hts⟩ (m_X3_of l D mo am cI (wgS S r i) r (7 + (i : Int)) 5 (3 * r + (i : Int)) (ix_of5 (r := r) (by omega) (by omega))) (cwV 2 hts (gV q_342 q_343 q_344 q_345 q_340) rfl rfl rfl (by decide +kernel) ⟨Nat.le_trans (m := 1) (Nat.le_of_ble_eq_true rfl) (Nat.le_trans (Nat.le_of_ble_eq_true rfl) hRf), Nat.le_trans (m := 22) (Nat.le_of_ble_eq_true rfl) (Nat.le_trans (Nat.le_of_ble_eq_true rfl) hRl)⟩) hN hK hP hD rfl rfl rfl hl.1 (Nat.le_of_ble_eq_true rfl) ⟨hRc, hRs⟩ dX3_writesGuards_18) hD hS hA rfl (fun H locs hP hD hS => ?_)
        have hf_3 := invG_5 hIi (3 * r + (i : Int)) (by omega) (by omega)
        refine z_iconst hx hb dX3_writesGuards_21 ?_
        refine z_icmp_ne (tgt := 36) hx hb dX3_writesGuards_22 (by decide) (by omega) (by omega) (fun c_4 => ?_) (fun c_4 => ?_)
        · refine lv_iload_n hx hb dX3_writesGuards_36 rfl (lv_at hl 0 rfl) ?_
          refine mw_none (st1 := [.int (iI (aimZ (i : Int))), .int (iI (4 + (i : Int))), .int (iI r), .ref mo]) (mr_S (As := [.int (iI (i : Int))]) (rest := [.int (iI (4 + (i : Int))), .int (iI r), .ref mo]) ⟨hx, hb, hml, hown, hts⟩ (m_X3_aim l D (i : Int) ) (va_cwS 1 hts (gS q_346 q_347 q_345 q_341) rfl rfl rfl (by decide +kernel) ⟨Nat.le_trans (m := 1) (Nat.le_of_ble_eq_true rfl) (Nat.le_trans (Nat.le_of_ble_eq_true rfl) hRf), Nat.le_trans (m := 20) (Nat.le_of_ble_eq_true rfl) (Nat.le_trans (Nat.le_of_ble_eq_true rfl) hRl)⟩) hN (hK.sub (tys' := []) [] rfl) (va_P0 _ _ _) (va_D0 A) rfl hl.1 (Nat.le_of_ble_eq_true rfl) ⟨hRc, hRs⟩ dX3_writesGuards_37) hP hS hA rfl (fun H locs hP hS => ?_)
          have hf_5 : aimZ (i : Int) = 100 + 400 * (i : Int) := rfl
          refine mw_full (st1 := []) (mr_V (As := [.int (iI r), .int (iI (4 + (i : Int))), .int (iI (aimZ (i : Int)))]) (rest := []) (ci := 3) (q0 := 0) ⟨hx, hb, hml, hown, hts⟩ (m_X3_lays l D mo am cI (wgS S r i) r (4 + (i : Int)) (aimZ (i : Int)) 4 (3 * r + (i : Int)) (ix_of4 (r := r) (by omega) (by omega))) (cwV 3 hts (gV q_348 q_349 q_350 q_345 q_339) rfl rfl rfl (by decide +kernel) ⟨Nat.le_trans (m := 1) (Nat.le_of_ble_eq_true rfl) (Nat.le_trans (Nat.le_of_ble_eq_true rfl) hRf), Nat.le_trans (m := 23) (Nat.le_of_ble_eq_true rfl) (Nat.le_trans (Nat.le_of_ble_eq_true rfl) hRl)⟩) hN hK hP hD rfl rfl rfl hl.1 (Nat.le_of_ble_eq_true rfl) ⟨hRc, hRs⟩ dX3_writesGuards_40) hD hS hA rfl (fun H locs hP hD hS => ?_)
          skip
          refine lv_iinc (v := iI ((i : Int) + 1)) (lv' := [(2, .int (iI ((i : Int) + 1))), (0, .ref mo), (1, .int (iI r))]) hx hb dX3_writesGuards_43 hl (k := 0) rfl (iI_add _ _) (by decide) rfl (fun ls hl => ?_)
          refine lv_goto (tgt := 2) hx hb dX3_writesGuards_46 (by decide) ?_
          have e1_0 : (((i + 1 : Nat) : Int)) = ((i : Int) + 1) := by first | rfl | omega
          have eG0 : (wgS S r (i + 1)) = (lyZ (wgS S r i) 4 (3 * r + (i : Int)) (aimZ (i : Int))) := by (simp only [wgS]; split <;> first | (exfalso; omega) | rfl)
          rw [← eG0] at hP hD
          exact ih2 (i + 1) (by omega) (by omega) _ _ _ hP hD hS (lv_to (lv_sub (l' := [(2, .int (iI ((i : Int) + 1))), (0, .ref mo), (1, .int (iI r))]) hl [0, 1, 2] rfl) (by simp only [e1_0]))
        · refine lv_aload_n hx hb dX3_writesGuards_25 rfl (lv_at hl 1 rfl) ?_
          refine lv_iload_n hx hb dX3_writesGuards_26 rfl (lv_at hl 2 rfl) ?_
          refine z_iconst hx hb dX3_writesGuards_27 ?_
          refine lv_iload_n hx hb dX3_writesGuards_28 rfl (lv_at hl 0 rfl) ?_
          refine z_iadd hx hb dX3_writesGuards_29 ?_
          refine mw_full (st1 := [.int (iI ((gOf ((wgS S r i) 0)) 4 (3 * r + (i : Int)))), .int (iI (4 + (i : Int))), .int (iI r), .ref mo]) (mr_V (As := [.int (iI r), .int (iI (4 + (i : Int)))]) (rest := [.int (iI (4 + (i : Int))), .int (iI r), .ref mo]) (ci := 3) (q0 := 0) ⟨hx, hb, hml, hown, hts⟩ (m_X3_of l D mo am cI (wgS S r i) r (4 + (i : Int)) 4 (3 * r + (i : Int)) (ix_of4 (r := r) (by omega) (by omega))) (cwV 2 hts (gV q_342 q_343 q_344 q_345 q_340) rfl rfl rfl (by decide +kernel) ⟨Nat.le_trans (m := 1) (Nat.le_of_ble_eq_true rfl) (Nat.le_trans (Nat.le_of_ble_eq_true rfl) hRf), Nat.le_trans (m := 22) (Nat.le_of_ble_eq_true rfl) (Nat.le_trans (Nat.le_of_ble_eq_true rfl) hRl)⟩) hN hK hP hD rfl rfl rfl hl.1 (Nat.le_of_ble_eq_true rfl) ⟨hRc, hRs⟩ dX3_writesGuards_30) hD hS hA rfl (fun H locs hP hD hS => ?_)
          have hf_7 := invG_4 hIi (3 * r + (i : Int)) (by omega) (by omega)
          refine lv_goto (tgt := 40) hx hb dX3_writesGuards_33 (by decide) ?_
          refine mw_full (st1 := []) (mr_V (As := [.int (iI r), .int (iI (4 + (i : Int))), .int (iI ((gOf ((wgS S r i) 0)) 4 (3 * r + (i : Int))))]) (rest := []) (ci := 3) (q0 := 0) ⟨hx, hb, hml, hown, hts⟩ (m_X3_lays l D mo am cI (wgS S r i) r (4 + (i : Int)) ((gOf ((wgS S r i) 0)) 4 (3 * r + (i : Int))) 4 (3 * r + (i : Int)) (ix_of4 (r := r) (by omega) (by omega))) (cwV 3 hts (gV q_348 q_349 q_350 q_345 q_339) rfl rfl rfl (by decide +kernel) ⟨Nat.le_trans (m := 1) (Nat.le_of_ble_eq_true rfl) (Nat.le_trans (Nat.le_of_ble_eq_true rfl) hRf), Nat.le_trans (m := 23) (Nat.le_of_ble_eq_true rfl) (Nat.le_trans (Nat.le_of_ble_eq_true rfl) hRl)⟩) hN hK hP hD rfl rfl rfl hl.1 (Nat.le_of_ble_eq_true rfl) ⟨hRc, hRs⟩ dX3_writesGuards_40) hD hS hA rfl (fun H locs hP hD hS => ?_)
          skip
          refine lv_iinc (v := iI ((i : Int) + 1)) (lv' := [(2, .int (iI ((i : Int) + 1))), (0, .ref mo), (1, .int (iI r))]) hx hb dX3_writesGuards_43 hl (k := 0) rfl (iI_add _ _) (by decide) rfl (fun ls hl => ?_)
          refine lv_goto (tgt := 2) hx hb dX3_writesGuards_46 (by decide) ?_
          have e1_0 : (((i + 1 : Nat) : Int)) = ((i : Int) + 1) := by first | rfl | omega
          have eG0 : (wgS S r (i + 1)) = (lyZ (wgS S r i) 4 (3 * r + (i : Int)) ((gOf ((wgS S r i) 0)) 4 (3 * r + (i : Int)))) := by (simp only [wgS]; split <;> first | (exfalso; omega) | rfl)
          rw [← eG0] at hP hD
          exact ih2 (i + 1) (by omega) (by omega) _ _ _ hP hD hS (lv_to (lv_sub (l' := [(2, .int (iI ((i : Int) + 1))), (0, .ref mo), (1, .int (iI r))]) hl [0, 1, 2] rfl) (by simp only [e1_0]))
  have e0_0 : (((0 : Nat) : Int)) = 0 := by first | rfl | omega
  exact LP2 (3 + 1) 0 (by omega) (by omega) _ _ _ hP hD hS (lv_to (lv_sub (l' := [(2, .int (iI 0)), (0, .ref mo), (1, .int (iI r))]) hl [0, 1, 2] rfl) (by simp only [e0_0]))
set_option maxHeartbeats 4000000 in
set_option maxRecDepth 100000 in
theorem m_X3_writesWord (l : Launch) (D : va_G) (mo : Nat) (am : Nat → Nat) (cI : ClassId) (S : Nat → Int → Int) (r wd : Int) {B : Int} (hI : InvG B (gOf (S 0))) (hB : B + 1 ≤ 100000000) (h1 : 0 ≤ r ∧ r < 6) (h2 : 0 ≤ wd ∧ wd < 2147483648)  : MW l D yX3_writesWord (wsY yX3_writesWord cX3_writesWord 6 none) { frames := 3, cells := 0, slots := 0, locals := 72 } [(cI, .int)] [.ref mo, .int (iI r), .int (iI wd)] (wM mo am cI S) (wM mo am cI (wwS S r wd 8)) none := by
  refine mw_ofV (cc := cX3_writesWord) (maxL := 6) (by decide) rfl (Nat.le_of_ble_eq_true rfl) ?_
  intro p e s m below meth c R A Q args ls hx hb hml hown hts hRf hRl hRc hRs hN hK hP hD hS hA hret hl
  have hq : ∀ w ∈ ALL, w.before args s = true := fun w h => hts w (List.mem_cons_of_mem _ h)
  have hl : lv_has ls 6 [(0, .ref mo), (1, .int (iI r)), (2, .int (iI wd))] := hl
  refine lv_iload_n hx hb dX3_writesWord_0 rfl (lv_at hl 2 rfl) ?_
  refine lv_istore_n (lv' := [(3, .int (iI wd)), (0, .ref mo), (1, .int (iI r)), (2, .int (iI wd))]) hx hb dX3_writesWord_1 rfl hl (by decide) rfl (fun ls hl => ?_)
  refine z_iconst hx hb dX3_writesWord_2 ?_
  refine lv_istore (lv' := [(4, .int (iI 0)), (3, .int (iI wd)), (0, .ref mo), (1, .int (iI r)), (2, .int (iI wd))]) hx hb dX3_writesWord_3 hl (by decide) rfl (fun ls hl => ?_)
  have LP5 : ∀ (fu i : Nat), i ≤ 8 → 8 < fu + i → ∀ (H : Heap) (locs : List Loc) (ls : Array Slot), va_P D vwCl (wM mo am cI (wwS S r wd i)) H → va_D A (wM mo am cI (wwS S r wd i)) → va_S A s.heap H locs → lv_has ls 6 [(4, .int (iI (i : Int))), (3, .int (iI (restZ wd i))), (0, .ref mo), (1, .int (iI r)), (2, .int (iI wd))] → W p l e R s m args below meth c H locs 0 0 Q (F0 m 5 ls []) := by
    intro fu
    induction fu with
    | zero => intro i h1 h2; omega
    | succ fu ih5 =>
      intro i hi1 hif H locs ls hP hD hS hl
      have hIi := inv_ww hI hB h1 h2 i (by omega)
      have hri := rest_bd h2 i
      refine lv_iload hx hb dX3_writesWord_5 (lv_at hl 0 rfl) ?_
      refine z_bipush hx hb dX3_writesWord_7 (by decide +kernel) ?_
      refine z_icmp_ge (tgt := 34) hx hb dX3_writesWord_9 (by decide) (by omega) (by omega) (fun c_1 => ?_) (fun c_1 => ?_)
      · have hiN : i = 8 := by omega
        have eW0 : wwS S r wd 8 = (wwS S r wd i) := by (rw [hiN])
        rw [← eW0] at hP hD
        first | exact hret _ _ _ _ dX3_writesWord_34 hP hD hS | (exfalso; omega)
      · refine lv_aload_n hx hb dX3_writesWord_12 rfl (lv_at hl 2 rfl) ?_
        refine lv_iload_n hx hb dX3_writesWord_13 rfl (lv_at hl 3 rfl) ?_
        refine lv_iload hx hb dX3_writesWord_14 (lv_at hl 0 rfl) ?_
        refine lv_iload_n hx hb dX3_writesWord_16 rfl (lv_at hl 1 rfl) ?_
        refine z_iconst hx hb dX3_writesWord_17 ?_
        refine z_irem hx hb dX3_writesWord_18 (by omega) (by omega) ?_
        refine mw_full (st1 := [.int (iI (aimZ ((restZ wd i) % 3) + ((37 * (8 * r + (i : Int)) + 11 * (gOf ((wwS S r wd i) 0)) 2 (8 * r + (i : Int))) % 21 - 10)))]) (mr_V (As := [.int (iI r), .int (iI (i : Int)), .int (iI ((restZ wd i) % 3))]) (rest := []) (ci := 3) (q0 := 0) ⟨hx, hb, hml, hown, hts⟩ (m_X3_writes l D mo am cI (wwS S r wd i) r (i : Int) ((restZ wd i) % 3) hIi (by omega) (by omega)) (cwV 3 hts (gV q_370 q_371 q_372 q_345 q_360) rfl rfl rfl (by decide +kernel) ⟨Nat.le_trans (m := 3) (Nat.le_of_ble_eq_true rfl) (Nat.le_trans (Nat.le_of_ble_eq_true rfl) hRf), Nat.le_trans (m := 72) (Nat.le_of_ble_eq_true rfl) (Nat.le_trans (Nat.le_of_ble_eq_true rfl) hRl)⟩) hN hK hP hD rfl rfl rfl hl.1 (Nat.le_of_ble_eq_true rfl) ⟨hRc, hRs⟩ dX3_writesWord_19) hD hS hA rfl (fun H locs hP hD hS => ?_)
        refine lv_istore (lv' := [(5, .int (iI (aimZ ((restZ wd i) % 3) + ((37 * (8 * r + (i : Int)) + 11 * (gOf ((wwS S r wd i) 0)) 2 (8 * r + (i : Int))) % 21 - 10)))), (4, .int (iI (i : Int))), (3, .int (iI (restZ wd i))), (0, .ref mo), (1, .int (iI r)), (2, .int (iI wd))]) hx hb dX3_writesWord_22 hl (by decide) rfl (fun ls hl => ?_)
        refine lv_iload_n hx hb dX3_writesWord_24 rfl (lv_at hl 2 rfl) ?_
        refine z_iconst hx hb dX3_writesWord_25 ?_
        refine z_idiv hx hb dX3_writesWord_26 (by omega) (by omega) ?_
        refine lv_istore_n (lv' := [(3, .int (iI ((restZ wd i) / 3))), (5, .int (iI (aimZ ((restZ wd i) % 3) + ((37 * (8 * r + (i : Int)) + 11 * (gOf ((wwS S r wd i) 0)) 2 (8 * r + (i : Int))) % 21 - 10)))), (4, .int (iI (i : Int))), (0, .ref mo), (1, .int (iI r)), (2, .int (iI wd))]) hx hb dX3_writesWord_27 rfl hl (by decide) rfl (fun ls hl => ?_)
        refine lv_iinc (v := iI ((i : Int) + 1)) (lv' := [(4, .int (iI ((i : Int) + 1))), (3, .int (iI ((restZ wd i) / 3))), (5, .int (iI (aimZ ((restZ wd i) % 3) + ((37 * (8 * r + (i : Int)) + 11 * (gOf ((wwS S r wd i) 0)) 2 (8 * r + (i : Int))) % 21 - 10)))), (0, .ref mo), (1, .int (iI r)), (2, .int (iI wd))]) hx hb dX3_writesWord_28 hl (k := 2) rfl (iI_add _ _) (by decide) rfl (fun ls hl => ?_)
        refine lv_goto (tgt := 5) hx hb dX3_writesWord_31 (by decide) ?_
        have e1_0 : (((i + 1 : Nat) : Int)) = ((i : Int) + 1) := by first | rfl | omega
        have e1_1 : ((restZ wd (i + 1))) = ((restZ wd i) / 3) := by first | rfl | omega
        have eG0 : (wwS S r wd (i + 1)) = (wrS (wwS S r wd i) r (i : Int) ((restZ wd i) % 3)) := by rfl
        rw [← eG0] at hP hD
        exact ih5 (i + 1) (by omega) (by omega) _ _ _ hP hD hS (lv_to (lv_sub (l' := [(4, .int (iI ((i : Int) + 1))), (3, .int (iI ((restZ wd i) / 3))), (0, .ref mo), (1, .int (iI r)), (2, .int (iI wd))]) hl [0, 1, 3, 4, 5] rfl) (by simp only [e1_0, e1_1]))
  have e0_0 : (((0 : Nat) : Int)) = 0 := by first | rfl | omega
  have e0_1 : ((restZ wd (0))) = wd := by first | rfl | omega
  exact LP5 (8 + 1) 0 (by omega) (by omega) _ _ _ hP hD hS (lv_to (lv_sub (l' := [(4, .int (iI 0)), (3, .int (iI wd)), (0, .ref mo), (1, .int (iI r)), (2, .int (iI wd))]) hl [0, 1, 2, 3, 4] rfl) (by simp only [e0_0, e0_1]))
set_option maxHeartbeats 4000000 in
set_option maxRecDepth 100000 in
theorem m_X3_writesAnew (l : Launch) (D : va_G) (mo : Nat) (am : Nat → Nat) (cI : ClassId) (S : Nat → Int → Int) (r : Int) {B : Int} (hI : InvG B (gOf (S 0))) (hB : B + 1 ≤ 100000000) (h1 : 0 ≤ r ∧ r < 6)  : MW l D yX3_writesAnew (wsY yX3_writesAnew cX3_writesAnew 3 (some .int)) { frames := 6, cells := 0, slots := 0, locals := 133 } [(cI, .int)] [.ref mo, .int (iI r)] (wM mo am cI S) (wM mo am cI (waS S r)) (some (.int (iI (wrongZ (gOf (S 0)) r)))) := by
  refine mw_ofI (cc := cX3_writesAnew) (maxL := 3) (by decide) rfl (Nat.le_of_ble_eq_true rfl) ?_
  intro p e s m below meth c R A Q args ls hx hb hml hown hts hRf hRl hRc hRs hN hK hP hD hS hA hret hl
  have hq : ∀ w ∈ ALL, w.before args s = true := fun w h => hts w (List.mem_cons_of_mem _ h)
  have hl : lv_has ls 3 [(0, .ref mo), (1, .int (iI r))] := hl
  refine lv_aload_n hx hb dX3_writesAnew_0 rfl (lv_at hl 0 rfl) ?_
  refine lv_iload_n hx hb dX3_writesAnew_1 rfl (lv_at hl 1 rfl) ?_
  refine mw_full (st1 := [.int (iI (wrongZ (gOf (S 0)) r))]) (mr_V (As := [.int (iI r)]) (rest := []) (ci := 3) (q0 := 0) ⟨hx, hb, hml, hown, hts⟩ (m_X3_wrong l D mo am cI S r hI (by omega)) (cwV 1 hts (gV q_416 q_417 q_418 q_345 q_412) rfl rfl rfl (by decide +kernel) ⟨Nat.le_trans (m := 6) (Nat.le_of_ble_eq_true rfl) (Nat.le_trans (Nat.le_of_ble_eq_true rfl) hRf), Nat.le_trans (m := 133) (Nat.le_of_ble_eq_true rfl) (Nat.le_trans (Nat.le_of_ble_eq_true rfl) hRl)⟩) hN hK hP hD rfl rfl rfl hl.1 (Nat.le_of_ble_eq_true rfl) ⟨hRc, hRs⟩ dX3_writesAnew_2) hD hS hA rfl (fun H locs hP hD hS => ?_)
  have hf_1 := wrongZ_bd (gOf (S 0)) r
  refine lv_istore_n (lv' := [(2, .int (iI (wrongZ (gOf (S 0)) r))), (0, .ref mo), (1, .int (iI r))]) hx hb dX3_writesAnew_5 rfl hl (by decide) rfl (fun ls hl => ?_)
  refine lv_aload_n hx hb dX3_writesAnew_6 rfl (lv_at hl 1 rfl) ?_
  refine lv_iload_n hx hb dX3_writesAnew_7 rfl (lv_at hl 2 rfl) ?_
  refine lv_aload_n hx hb dX3_writesAnew_8 rfl (lv_at hl 1 rfl) ?_
  refine lv_iload_n hx hb dX3_writesAnew_9 rfl (lv_at hl 2 rfl) ?_
  refine mw_full (st1 := [.int (iI (toldWordZ (gOf (S 0)) r)), .int (iI r), .ref mo]) (mr_V (As := [.int (iI r)]) (rest := [.int (iI r), .ref mo]) (ci := 3) (q0 := 0) ⟨hx, hb, hml, hown, hts⟩ (m_X3_wordTold l D mo am cI S r hI (by omega)) (cwV 1 hts (gV q_419 q_420 q_421 q_345 q_413) rfl rfl rfl (by decide +kernel) ⟨Nat.le_trans (m := 6) (Nat.le_of_ble_eq_true rfl) (Nat.le_trans (Nat.le_of_ble_eq_true rfl) hRf), Nat.le_trans (m := 133) (Nat.le_of_ble_eq_true rfl) (Nat.le_trans (Nat.le_of_ble_eq_true rfl) hRl)⟩) hN hK hP hD rfl rfl rfl hl.1 (Nat.le_of_ble_eq_true rfl) ⟨hRc, hRs⟩ dX3_writesAnew_10) hD hS hA rfl (fun H locs hP hD hS => ?_)
  have htw := toldWord_bd (gOf (S 0)) r
  refine mw_full (st1 := []) (mr_V (As := [.int (iI r), .int (iI (toldWordZ (gOf (S 0)) r))]) (rest := []) (ci := 3) (q0 := 0) ⟨hx, hb, hml, hown, hts⟩ (m_X3_writesWord l D mo am cI S r (toldWordZ (gOf (S 0)) r) hI hB (by omega) (by omega)) (cwV 2 hts (gV q_422 q_423 q_424 q_345 q_415) rfl rfl rfl (by decide +kernel) ⟨Nat.le_trans (m := 4) (Nat.le_of_ble_eq_true rfl) (Nat.le_trans (Nat.le_of_ble_eq_true rfl) hRf), Nat.le_trans (m := 97) (Nat.le_of_ble_eq_true rfl) (Nat.le_trans (Nat.le_of_ble_eq_true rfl) hRl)⟩) hN hK hP hD rfl rfl rfl hl.1 (Nat.le_of_ble_eq_true rfl) ⟨hRc, hRs⟩ dX3_writesAnew_13) hD hS hA rfl (fun H locs hP hD hS => ?_)
  have hI1 := inv_ww hI hB h1 (w := toldWordZ (gOf (S 0)) r) (by omega) 8 (by omega)
  refine lv_aload_n hx hb dX3_writesAnew_16 rfl (lv_at hl 1 rfl) ?_
  refine lv_iload_n hx hb dX3_writesAnew_17 rfl (lv_at hl 2 rfl) ?_
  refine mw_full (st1 := []) (mr_V (As := [.int (iI r)]) (rest := []) (ci := 3) (q0 := 0) ⟨hx, hb, hml, hown, hts⟩ (m_X3_writesGuards l D mo am cI (wwS S r (toldWordZ (gOf (S 0)) r) 8) r hI1 (by omega)) (cwV 1 hts (gV q_367 q_368 q_369 q_345 q_351) rfl rfl rfl (by decide +kernel) ⟨Nat.le_trans (m := 2) (Nat.le_of_ble_eq_true rfl) (Nat.le_trans (Nat.le_of_ble_eq_true rfl) hRf), Nat.le_trans (m := 45) (Nat.le_of_ble_eq_true rfl) (Nat.le_trans (Nat.le_of_ble_eq_true rfl) hRl)⟩) hN hK hP hD rfl rfl rfl hl.1 (Nat.le_of_ble_eq_true rfl) ⟨hRc, hRs⟩ dX3_writesAnew_18) hD hS hA rfl (fun H locs hP hD hS => ?_)
  have hI2 := inv_wgu hI1 h1
  refine lv_aload_n hx hb dX3_writesAnew_21 rfl (lv_at hl 1 rfl) ?_
  refine lv_iload_n hx hb dX3_writesAnew_22 rfl (lv_at hl 2 rfl) ?_
  refine z_iconst hx hb dX3_writesAnew_23 ?_
  refine lv_aload_n hx hb dX3_writesAnew_24 rfl (lv_at hl 1 rfl) ?_
  refine lv_iload_n hx hb dX3_writesAnew_25 rfl (lv_at hl 2 rfl) ?_
  refine z_iconst hx hb dX3_writesAnew_26 ?_
  refine mw_full (st1 := [.int (iI ((gOf ((wguS (wwS S r (toldWordZ (gOf (S 0)) r) 8) r) 0)) 8 r)), .int (iI 2), .int (iI r), .ref mo]) (mr_V (As := [.int (iI r), .int (iI 2)]) (rest := [.int (iI 2), .int (iI r), .ref mo]) (ci := 3) (q0 := 0) ⟨hx, hb, hml, hown, hts⟩ (m_X3_of l D mo am cI (wguS (wwS S r (toldWordZ (gOf (S 0)) r) 8) r) r 2 8 r (ix_ofr 8 (by omega) (by omega) (by omega))) (cwV 2 hts (gV q_342 q_343 q_344 q_345 q_340) rfl rfl rfl (by decide +kernel) ⟨Nat.le_trans (m := 1) (Nat.le_of_ble_eq_true rfl) (Nat.le_trans (Nat.le_of_ble_eq_true rfl) hRf), Nat.le_trans (m := 22) (Nat.le_of_ble_eq_true rfl) (Nat.le_trans (Nat.le_of_ble_eq_true rfl) hRl)⟩) hN hK hP hD rfl rfl rfl hl.1 (Nat.le_of_ble_eq_true rfl) ⟨hRc, hRs⟩ dX3_writesAnew_27) hD hS hA rfl (fun H locs hP hD hS => ?_)
  have hf_2 := invG_8 hI2 r (by omega) (by omega)
  refine lv_iload_n hx hb dX3_writesAnew_30 rfl (lv_at hl 0 rfl) ?_
  refine z_iadd hx hb dX3_writesAnew_31 ?_
  refine mw_full (st1 := []) (mr_V (As := [.int (iI r), .int (iI 2), .int (iI ((gOf ((wguS (wwS S r (toldWordZ (gOf (S 0)) r) 8) r) 0)) 8 r + wrongZ (gOf (S 0)) r))]) (rest := []) (ci := 3) (q0 := 0) ⟨hx, hb, hml, hown, hts⟩ (m_X3_lays l D mo am cI (wguS (wwS S r (toldWordZ (gOf (S 0)) r) 8) r) r 2 ((gOf ((wguS (wwS S r (toldWordZ (gOf (S 0)) r) 8) r) 0)) 8 r + wrongZ (gOf (S 0)) r) 8 r (ix_ofr 8 (by omega) (by omega) (by omega))) (cwV 3 hts (gV q_348 q_349 q_350 q_345 q_339) rfl rfl rfl (by decide +kernel) ⟨Nat.le_trans (m := 1) (Nat.le_of_ble_eq_true rfl) (Nat.le_trans (Nat.le_of_ble_eq_true rfl) hRf), Nat.le_trans (m := 23) (Nat.le_of_ble_eq_true rfl) (Nat.le_trans (Nat.le_of_ble_eq_true rfl) hRl)⟩) hN hK hP hD rfl rfl rfl hl.1 (Nat.le_of_ble_eq_true rfl) ⟨hRc, hRs⟩ dX3_writesAnew_32) hD hS hA rfl (fun H locs hP hD hS => ?_)
  skip
  refine lv_aload_n hx hb dX3_writesAnew_35 rfl (lv_at hl 1 rfl) ?_
  refine lv_iload_n hx hb dX3_writesAnew_36 rfl (lv_at hl 2 rfl) ?_
  refine z_iconst hx hb dX3_writesAnew_37 ?_
  refine lv_aload_n hx hb dX3_writesAnew_38 rfl (lv_at hl 1 rfl) ?_
  refine lv_iload_n hx hb dX3_writesAnew_39 rfl (lv_at hl 2 rfl) ?_
  refine z_iconst hx hb dX3_writesAnew_40 ?_
  refine mw_full (st1 := [.int (iI ((gOf ((lyZ (wguS (wwS S r (toldWordZ (gOf (S 0)) r) 8) r) 8 r ((gOf ((wguS (wwS S r (toldWordZ (gOf (S 0)) r) 8) r) 0)) 8 r + wrongZ (gOf (S 0)) r)) 0)) 9 r)), .int (iI 3), .int (iI r), .ref mo]) (mr_V (As := [.int (iI r), .int (iI 3)]) (rest := [.int (iI 3), .int (iI r), .ref mo]) (ci := 3) (q0 := 0) ⟨hx, hb, hml, hown, hts⟩ (m_X3_of l D mo am cI (lyZ (wguS (wwS S r (toldWordZ (gOf (S 0)) r) 8) r) 8 r ((gOf ((wguS (wwS S r (toldWordZ (gOf (S 0)) r) 8) r) 0)) 8 r + wrongZ (gOf (S 0)) r)) r 3 9 r (ix_ofr 9 (by omega) (by omega) (by omega))) (cwV 2 hts (gV q_342 q_343 q_344 q_345 q_340) rfl rfl rfl (by decide +kernel) ⟨Nat.le_trans (m := 1) (Nat.le_of_ble_eq_true rfl) (Nat.le_trans (Nat.le_of_ble_eq_true rfl) hRf), Nat.le_trans (m := 22) (Nat.le_of_ble_eq_true rfl) (Nat.le_trans (Nat.le_of_ble_eq_true rfl) hRl)⟩) hN hK hP hD rfl rfl rfl hl.1 (Nat.le_of_ble_eq_true rfl) ⟨hRc, hRs⟩ dX3_writesAnew_41) hD hS hA rfl (fun H locs hP hD hS => ?_)
  skip
  refine z_iconst hx hb dX3_writesAnew_44 ?_
  refine z_iadd hx hb dX3_writesAnew_45 ?_
  refine mw_full (st1 := []) (mr_V (As := [.int (iI r), .int (iI 3), .int (iI ((gOf ((lyZ (wguS (wwS S r (toldWordZ (gOf (S 0)) r) 8) r) 8 r ((gOf ((wguS (wwS S r (toldWordZ (gOf (S 0)) r) 8) r) 0)) 8 r + wrongZ (gOf (S 0)) r)) 0)) 9 r + 1))]) (rest := []) (ci := 3) (q0 := 0) ⟨hx, hb, hml, hown, hts⟩ (m_X3_lays l D mo am cI (lyZ (wguS (wwS S r (toldWordZ (gOf (S 0)) r) 8) r) 8 r ((gOf ((wguS (wwS S r (toldWordZ (gOf (S 0)) r) 8) r) 0)) 8 r + wrongZ (gOf (S 0)) r)) r 3 ((gOf ((lyZ (wguS (wwS S r (toldWordZ (gOf (S 0)) r) 8) r) 8 r ((gOf ((wguS (wwS S r (toldWordZ (gOf (S 0)) r) 8) r) 0)) 8 r + wrongZ (gOf (S 0)) r)) 0)) 9 r + 1) 9 r (ix_ofr 9 (by omega) (by omega) (by omega))) (cwV 3 hts (gV q_348 q_349 q_350 q_345 q_339) rfl rfl rfl (by decide +kernel) ⟨Nat.le_trans (m := 1) (Nat.le_of_ble_eq_true rfl) (Nat.le_trans (Nat.le_of_ble_eq_true rfl) hRf), Nat.le_trans (m := 23) (Nat.le_of_ble_eq_true rfl) (Nat.le_trans (Nat.le_of_ble_eq_true rfl) hRl)⟩) hN hK hP hD rfl rfl rfl hl.1 (Nat.le_of_ble_eq_true rfl) ⟨hRc, hRs⟩ dX3_writesAnew_46) hD hS hA rfl (fun H locs hP hD hS => ?_)
  skip
  refine lv_aload_n hx hb dX3_writesAnew_49 rfl (lv_at hl 1 rfl) ?_
  refine va_get (D := D) (ci := 3) (v := .ref (am 0)) (C := RX3) (T := TX3) (N := 14) hx hb hq inA3 hown hK hP 0 rfl rfl 0 (by decide) (hq _ q_338) (fun _ h9 => h9) rfl dX3_writesAnew_50 ?_
  refine z_iconst hx hb dX3_writesAnew_53 ?_
  refine lv_dup2_11 hx hb dX3_writesAnew_54 rfl rfl ?_
  refine z_iald hx hb hK hP 1 0 rfl rfl (by omega) (by omega) (v := ((lyZ (lyZ (wguS (wwS S r (toldWordZ (gOf (S 0)) r) 8) r) 8 r ((gOf ((wguS (wwS S r (toldWordZ (gOf (S 0)) r) 8) r) 0)) 8 r + wrongZ (gOf (S 0)) r)) 9 r ((gOf ((lyZ (wguS (wwS S r (toldWordZ (gOf (S 0)) r) 8) r) 8 r ((gOf ((wguS (wwS S r (toldWordZ (gOf (S 0)) r) 8) r) 0)) 8 r + wrongZ (gOf (S 0)) r)) 0)) 9 r + 1)) 0 4)) rfl dX3_writesAnew_55 ?_
  refine lv_iload_n hx hb dX3_writesAnew_56 rfl (lv_at hl 0 rfl) ?_
  refine z_iadd hx hb dX3_writesAnew_57 ?_
  refine z_iast (w1 := (wM mo am cI (upG (lyZ (lyZ (wguS (wwS S r (toldWordZ (gOf (S 0)) r) 8) r) 8 r ((gOf ((wguS (wwS S r (toldWordZ (gOf (S 0)) r) 8) r) 0)) 8 r + wrongZ (gOf (S 0)) r)) 9 r ((gOf ((lyZ (wguS (wwS S r (toldWordZ (gOf (S 0)) r) 8) r) 8 r ((gOf ((wguS (wwS S r (toldWordZ (gOf (S 0)) r) 8) r) 0)) 8 r + wrongZ (gOf (S 0)) r)) 0)) 9 r + 1)) 0 4 (((lyZ (lyZ (wguS (wwS S r (toldWordZ (gOf (S 0)) r) 8) r) 8 r ((gOf ((wguS (wwS S r (toldWordZ (gOf (S 0)) r) 8) r) 0)) 8 r + wrongZ (gOf (S 0)) r)) 9 r ((gOf ((lyZ (wguS (wwS S r (toldWordZ (gOf (S 0)) r) 8) r) 8 r ((gOf ((wguS (wwS S r (toldWordZ (gOf (S 0)) r) 8) r) 0)) 8 r + wrongZ (gOf (S 0)) r)) 0)) 9 r + 1)) 0 4) + wrongZ (gOf (S 0)) r)))) hx hb hK hP hD hS 1 0 rfl rfl (by omega) (by omega) (wM_set0 _ _ _ _ _ _) dX3_writesAnew_58 (fun H locs hP hD hS => ?_)
  refine lv_aload_n hx hb dX3_writesAnew_59 rfl (lv_at hl 1 rfl) ?_
  refine va_get (D := D) (ci := 3) (v := .ref (am 0)) (C := RX3) (T := TX3) (N := 14) hx hb hq inA3 hown hK hP 0 rfl rfl 0 (by decide) (hq _ q_338) (fun _ h9 => h9) rfl dX3_writesAnew_60 ?_
  refine z_bipush hx hb dX3_writesAnew_63 (by decide +kernel) ?_
  refine lv_dup2_11 hx hb dX3_writesAnew_65 rfl rfl ?_
  refine z_iald hx hb hK hP 1 0 rfl rfl (by omega) (by omega) (v := ((upG (lyZ (lyZ (wguS (wwS S r (toldWordZ (gOf (S 0)) r) 8) r) 8 r ((gOf ((wguS (wwS S r (toldWordZ (gOf (S 0)) r) 8) r) 0)) 8 r + wrongZ (gOf (S 0)) r)) 9 r ((gOf ((lyZ (wguS (wwS S r (toldWordZ (gOf (S 0)) r) 8) r) 8 r ((gOf ((wguS (wwS S r (toldWordZ (gOf (S 0)) r) 8) r) 0)) 8 r + wrongZ (gOf (S 0)) r)) 0)) 9 r + 1)) 0 4 (((lyZ (lyZ (wguS (wwS S r (toldWordZ (gOf (S 0)) r) 8) r) 8 r ((gOf ((wguS (wwS S r (toldWordZ (gOf (S 0)) r) 8) r) 0)) 8 r + wrongZ (gOf (S 0)) r)) 9 r ((gOf ((lyZ (wguS (wwS S r (toldWordZ (gOf (S 0)) r) 8) r) 8 r ((gOf ((wguS (wwS S r (toldWordZ (gOf (S 0)) r) 8) r) 0)) 8 r + wrongZ (gOf (S 0)) r)) 0)) 9 r + 1)) 0 4) + wrongZ (gOf (S 0)) r)) 0 6)) rfl dX3_writesAnew_66 ?_
  refine z_iconst hx hb dX3_writesAnew_67 ?_
  refine z_iadd hx hb dX3_writesAnew_68 ?_
  refine z_iast (w1 := (wM mo am cI (upG (upG (lyZ (lyZ (wguS (wwS S r (toldWordZ (gOf (S 0)) r) 8) r) 8 r ((gOf ((wguS (wwS S r (toldWordZ (gOf (S 0)) r) 8) r) 0)) 8 r + wrongZ (gOf (S 0)) r)) 9 r ((gOf ((lyZ (wguS (wwS S r (toldWordZ (gOf (S 0)) r) 8) r) 8 r ((gOf ((wguS (wwS S r (toldWordZ (gOf (S 0)) r) 8) r) 0)) 8 r + wrongZ (gOf (S 0)) r)) 0)) 9 r + 1)) 0 4 (((lyZ (lyZ (wguS (wwS S r (toldWordZ (gOf (S 0)) r) 8) r) 8 r ((gOf ((wguS (wwS S r (toldWordZ (gOf (S 0)) r) 8) r) 0)) 8 r + wrongZ (gOf (S 0)) r)) 9 r ((gOf ((lyZ (wguS (wwS S r (toldWordZ (gOf (S 0)) r) 8) r) 8 r ((gOf ((wguS (wwS S r (toldWordZ (gOf (S 0)) r) 8) r) 0)) 8 r + wrongZ (gOf (S 0)) r)) 0)) 9 r + 1)) 0 4) + wrongZ (gOf (S 0)) r)) 0 6 (((upG (lyZ (lyZ (wguS (wwS S r (toldWordZ (gOf (S 0)) r) 8) r) 8 r ((gOf ((wguS (wwS S r (toldWordZ (gOf (S 0)) r) 8) r) 0)) 8 r + wrongZ (gOf (S 0)) r)) 9 r ((gOf ((lyZ (wguS (wwS S r (toldWordZ (gOf (S 0)) r) 8) r) 8 r ((gOf ((wguS (wwS S r (toldWordZ (gOf (S 0)) r) 8) r) 0)) 8 r + wrongZ (gOf (S 0)) r)) 0)) 9 r + 1)) 0 4 (((lyZ (lyZ (wguS (wwS S r (toldWordZ (gOf (S 0)) r) 8) r) 8 r ((gOf ((wguS (wwS S r (toldWordZ (gOf (S 0)) r) 8) r) 0)) 8 r + wrongZ (gOf (S 0)) r)) 9 r ((gOf ((lyZ (wguS (wwS S r (toldWordZ (gOf (S 0)) r) 8) r) 8 r ((gOf ((wguS (wwS S r (toldWordZ (gOf (S 0)) r) 8) r) 0)) 8 r + wrongZ (gOf (S 0)) r)) 0)) 9 r + 1)) 0 4) + wrongZ (gOf (S 0)) r)) 0 6) + 1)))) hx hb hK hP hD hS 1 0 rfl rfl (by omega) (by omega) (wM_set0 _ _ _ _ _ _) dX3_writesAnew_69 (fun H locs hP hD hS => ?_)
  refine lv_iload_n hx hb dX3_writesAnew_70 rfl (lv_at hl 0 rfl) ?_
  first | exact hret _ _ _ _ dX3_writesAnew_71 hP hD hS | (exfalso; omega)
set_option maxHeartbeats 4000000 in
set_option maxRecDepth 100000 in
theorem m_X3_drifted (l : Launch) (D : va_G) (mo : Nat) (am : Nat → Nat) (cI : ClassId) (S : Nat → Int → Int) (v rt : Int) {B : Int} (hI : InvG B (gOf (S 0))) (h1 : 0 ≤ v ∧ v ≤ 999) (h2 : 1 ≤ rt ∧ rt ≤ 200)  : MW l D yX3_drifted (wsY yX3_drifted cX3_drifted 5 (some .int)) { frames := 1, cells := 0, slots := 0, locals := 20 } [(cI, .int)] [.ref mo, .int (iI v), .int (iI rt)] (wM mo am cI S) (wM mo am cI S) (some (.int (iI (nearZ ((gOf (S 0)) 11 0) v rt)))) := by
  refine mw_ofI (cc := cX3_drifted) (maxL := 5) (by decide) rfl (Nat.le_of_ble_eq_true rfl) ?_
  intro p e s m below meth c R A Q args ls hx hb hml hown hts hRf hRl hRc hRs hN hK hP hD hS hA hret hl
  have hq : ∀ w ∈ ALL, w.before args s = true := fun w h => hts w (List.mem_cons_of_mem _ h)
  have hl : lv_has ls 5 [(0, .ref mo), (1, .int (iI v)), (2, .int (iI rt))] := hl
  have hs0 := invG_s0 hI
  refine lv_aload_n hx hb dX3_drifted_0 rfl (lv_at hl 0 rfl) ?_
  refine va_get (D := D) (ci := 3) (v := .ref (am 0)) (C := RX3) (T := TX3) (N := 14) hx hb hq inA3 hown hK hP 0 rfl rfl 0 (by decide) (hq _ q_338) (fun _ h9 => h9) rfl dX3_drifted_1 ?_
  refine z_iconst hx hb dX3_drifted_4 ?_
  refine z_iald hx hb hK hP 1 0 rfl rfl (by omega) (by omega) (v := (gOf (S 0) 11 0)) (s_11_0 _) dX3_drifted_5 ?_
  refine lv_iload_n hx hb dX3_drifted_6 rfl (lv_at hl 1 rfl) ?_
  refine z_isub hx hb dX3_drifted_7 ?_
  refine lv_istore_n (lv' := [(3, .int (iI ((gOf (S 0) 11 0) - v))), (0, .ref mo), (1, .int (iI v)), (2, .int (iI rt))]) hx hb dX3_drifted_8 rfl hl (by decide) rfl (fun ls hl => ?_)
  refine lv_iload_n hx hb dX3_drifted_9 rfl (lv_at hl 0 rfl) ?_
  refine mw_none (st1 := [.int (iI (if ((gOf (S 0) 11 0) - v) < 0 then -((gOf (S 0) 11 0) - v) else ((gOf (S 0) 11 0) - v) : Int))]) (mr_S (As := [.int (iI ((gOf (S 0) 11 0) - v))]) (rest := []) ⟨hx, hb, hml, hown, hts⟩ (m_X3_size l D ((gOf (S 0) 11 0) - v) (by omega)) (va_cwS 1 hts (gS q_426 q_427 q_345 q_385) rfl rfl rfl (by decide +kernel) ⟨Nat.le_trans (m := 1) (Nat.le_of_ble_eq_true rfl) (Nat.le_trans (Nat.le_of_ble_eq_true rfl) hRf), Nat.le_trans (m := 20) (Nat.le_of_ble_eq_true rfl) (Nat.le_trans (Nat.le_of_ble_eq_true rfl) hRl)⟩) hN (hK.sub (tys' := []) [] rfl) (va_P0 _ _ _) (va_D0 A) rfl hl.1 (Nat.le_of_ble_eq_true rfl) ⟨hRc, hRs⟩ dX3_drifted_10) hP hS hA rfl (fun H locs hP hS => ?_)
  refine lv_iload_n hx hb dX3_drifted_13 rfl (lv_at hl 3 rfl) ?_
  refine z_imul hx hb dX3_drifted_14 ?_
  have hm1 := mulb (a := (if (gOf (S 0) 11 0) - v < 0 then -((gOf (S 0) 11 0) - v) else (gOf (S 0) 11 0) - v)) (b := rt) (by omega) (by omega)
  refine z_sipush hx hb dX3_drifted_15 (by decide +kernel) ?_
  refine z_idiv hx hb dX3_drifted_18 (by omega) (by omega) ?_
  refine lv_istore (lv' := [(4, .int (iI (((if ((gOf (S 0) 11 0) - v) < 0 then -((gOf (S 0) 11 0) - v) else ((gOf (S 0) 11 0) - v) : Int) * rt) / 1000))), (3, .int (iI ((gOf (S 0) 11 0) - v))), (0, .ref mo), (1, .int (iI v)), (2, .int (iI rt))]) hx hb dX3_drifted_19 hl (by decide) rfl (fun ls hl => ?_)
  refine lv_iload hx hb dX3_drifted_21 (lv_at hl 0 rfl) ?_
  refine z_iconst hx hb dX3_drifted_23 ?_
  refine z_icmp_ge (tgt := 31) hx hb dX3_drifted_24 (by decide) (by omega) (by omega) (fun c_1 => ?_) (fun c_1 => ?_)
  · refine lv_iload hx hb dX3_drifted_31 (lv_at hl 0 rfl) ?_
    refine lv_istore (lv' := [(4, .int (iI (((if ((gOf (S 0) 11 0) - v) < 0 then -((gOf (S 0) 11 0) - v) else ((gOf (S 0) 11 0) - v) : Int) * rt) / 1000))), (3, .int (iI ((gOf (S 0) 11 0) - v))), (0, .ref mo), (1, .int (iI v)), (2, .int (iI rt))]) hx hb dX3_drifted_33 hl (by decide) rfl (fun ls hl => ?_)
    refine lv_iload_n hx hb dX3_drifted_35 rfl (lv_at hl 1 rfl) ?_
    refine z_if_ne (tgt := 43) hx hb dX3_drifted_36 (by decide) (by omega) (fun c_2 => ?_) (fun c_2 => ?_)
    · refine lv_iload_n hx hb dX3_drifted_43 rfl (lv_at hl 1 rfl) ?_
      refine z_if_le (tgt := 54) hx hb dX3_drifted_44 (by decide) (by omega) (fun c_3 => ?_) (fun c_3 => ?_)
      · refine lv_iload_n hx hb dX3_drifted_54 rfl (lv_at hl 3 rfl) ?_
        refine lv_iload hx hb dX3_drifted_55 (lv_at hl 0 rfl) ?_
        refine z_isub hx hb dX3_drifted_57 ?_
        refine z_as (show (v - (((if ((gOf (S 0) 11 0) - v) < 0 then -((gOf (S 0) 11 0) - v) else ((gOf (S 0) 11 0) - v) : Int) * rt) / 1000)) = nearZ ((gOf (S 0)) 11 0) v rt from by (rw [near_eq]; omega)) ?_
        first | exact hret _ _ _ _ dX3_drifted_58 hP hD hS | (exfalso; omega)
      · refine lv_iload_n hx hb dX3_drifted_47 rfl (lv_at hl 3 rfl) ?_
        refine lv_iload hx hb dX3_drifted_48 (lv_at hl 0 rfl) ?_
        refine z_iadd hx hb dX3_drifted_50 ?_
        refine lv_goto (tgt := 58) hx hb dX3_drifted_51 (by decide) ?_
        refine z_as (show (v + (((if ((gOf (S 0) 11 0) - v) < 0 then -((gOf (S 0) 11 0) - v) else ((gOf (S 0) 11 0) - v) : Int) * rt) / 1000)) = nearZ ((gOf (S 0)) 11 0) v rt from by (rw [near_eq]; omega)) ?_
        first | exact hret _ _ _ _ dX3_drifted_58 hP hD hS | (exfalso; omega)
    · refine lv_iload_n hx hb dX3_drifted_39 rfl (lv_at hl 3 rfl) ?_
      refine lv_goto (tgt := 58) hx hb dX3_drifted_40 (by decide) ?_
      refine z_as (show v = nearZ ((gOf (S 0)) 11 0) v rt from by (rw [near_eq]; omega)) ?_
      first | exact hret _ _ _ _ dX3_drifted_58 hP hD hS | (exfalso; omega)
  · refine z_iconst hx hb dX3_drifted_27 ?_
    refine lv_goto (tgt := 33) hx hb dX3_drifted_28 (by decide) ?_
    refine lv_istore (lv' := [(4, .int (iI 1)), (3, .int (iI ((gOf (S 0) 11 0) - v))), (0, .ref mo), (1, .int (iI v)), (2, .int (iI rt))]) hx hb dX3_drifted_33 hl (by decide) rfl (fun ls hl => ?_)
    refine lv_iload_n hx hb dX3_drifted_35 rfl (lv_at hl 1 rfl) ?_
    refine z_if_ne (tgt := 43) hx hb dX3_drifted_36 (by decide) (by omega) (fun c_4 => ?_) (fun c_4 => ?_)
    · refine lv_iload_n hx hb dX3_drifted_43 rfl (lv_at hl 1 rfl) ?_
      refine z_if_le (tgt := 54) hx hb dX3_drifted_44 (by decide) (by omega) (fun c_5 => ?_) (fun c_5 => ?_)
      · refine lv_iload_n hx hb dX3_drifted_54 rfl (lv_at hl 3 rfl) ?_
        refine lv_iload hx hb dX3_drifted_55 (lv_at hl 0 rfl) ?_
        refine z_isub hx hb dX3_drifted_57 ?_
        refine z_as (show (v - 1) = nearZ ((gOf (S 0)) 11 0) v rt from by (rw [near_eq]; omega)) ?_
        first | exact hret _ _ _ _ dX3_drifted_58 hP hD hS | (exfalso; omega)
      · refine lv_iload_n hx hb dX3_drifted_47 rfl (lv_at hl 3 rfl) ?_
        refine lv_iload hx hb dX3_drifted_48 (lv_at hl 0 rfl) ?_
        refine z_iadd hx hb dX3_drifted_50 ?_
        refine lv_goto (tgt := 58) hx hb dX3_drifted_51 (by decide) ?_
        refine z_as (show (v + 1) = nearZ ((gOf (S 0)) 11 0) v rt from by (rw [near_eq]; omega)) ?_
        first | exact hret _ _ _ _ dX3_drifted_58 hP hD hS | (exfalso; omega)
    · refine lv_iload_n hx hb dX3_drifted_39 rfl (lv_at hl 3 rfl) ?_
      refine lv_goto (tgt := 58) hx hb dX3_drifted_40 (by decide) ?_
      refine z_as (show v = nearZ ((gOf (S 0)) 11 0) v rt from by (rw [near_eq]; omega)) ?_
      first | exact hret _ _ _ _ dX3_drifted_58 hP hD hS | (exfalso; omega)
set_option maxHeartbeats 4000000 in
set_option maxRecDepth 100000 in
theorem m_X3_drifts (l : Launch) (D : va_G) (mo : Nat) (am : Nat → Nat) (cI : ClassId) (S : Nat → Int → Int) {B : Int} (hI : InvG B (gOf (S 0)))  : MW l D yX3_drifts (wsY yX3_drifts cX3_drifts 3 none) { frames := 2, cells := 0, slots := 0, locals := 47 } [(cI, .int)] [.ref mo] (wM mo am cI S) (wM mo am cI (dsS S)) none := by
  refine mw_ofV (cc := cX3_drifts) (maxL := 3) (by decide) rfl (Nat.le_of_ble_eq_true rfl) ?_
  intro p e s m below meth c R A Q args ls hx hb hml hown hts hRf hRl hRc hRs hN hK hP hD hS hA hret hl
  have hq : ∀ w ∈ ALL, w.before args s = true := fun w h => hts w (List.mem_cons_of_mem _ h)
  have hl : lv_has ls 3 [(0, .ref mo)] := hl
  refine z_iconst hx hb dX3_drifts_0 ?_
  refine lv_istore_n (lv' := [(1, .int (iI 0)), (0, .ref mo)]) hx hb dX3_drifts_1 rfl hl (by decide) rfl (fun ls hl => ?_)
  have LP2 : ∀ (fu i : Nat), i ≤ 6 → 6 < fu + i → ∀ (H : Heap) (locs : List Loc) (ls : Array Slot), va_P D vwCl (wM mo am cI (drS S i)) H → va_D A (wM mo am cI (drS S i)) → va_S A s.heap H locs → lv_has ls 3 [(1, .int (iI (i : Int))), (0, .ref mo)] → W p l e R s m args below meth c H locs 0 0 Q (F0 m 2 ls []) := by
    intro fu
    induction fu with
    | zero => intro i h1 h2; omega
    | succ fu ih2 =>
      intro i hi1 hif H locs ls hP hD hS hl
      have hIi := inv_dr hI i (by omega)
      refine lv_iload_n hx hb dX3_drifts_2 rfl (lv_at hl 0 rfl) ?_
      refine z_bipush hx hb dX3_drifts_3 (by decide +kernel) ?_
      refine z_icmp_ge (tgt := 115) hx hb dX3_drifts_5 (by decide) (by omega) (by omega) (fun c_1 => ?_) (fun c_1 => ?_)
      · have hiN : i = 6 := by omega
        refine lv_aload_n hx hb dX3_drifts_115 rfl (lv_at hl 1 rfl) ?_
        refine va_get (D := D) (ci := 3) (v := .ref (am 0)) (C := RX3) (T := TX3) (N := 14) hx hb hq inA3 hown hK hP 0 rfl rfl 0 (by decide) (hq _ q_338) (fun _ h9 => h9) rfl dX3_drifts_116 ?_
        refine z_iconst hx hb dX3_drifts_119 ?_
        refine lv_dup2_11 hx hb dX3_drifts_120 rfl rfl ?_
        refine z_iald hx hb hK hP 1 0 rfl rfl (by omega) (by omega) (v := (gOf ((drS S i) 0) 12 0)) (s_12 _) dX3_drifts_121 ?_
        refine z_iconst hx hb dX3_drifts_122 ?_
        refine z_iadd hx hb dX3_drifts_123 ?_
        refine z_iast (w1 := (wM mo am cI (upG (drS S i) 0 0 ((gOf ((drS S i) 0) 12 0) + 1)))) hx hb hK hP hD hS 1 0 rfl rfl (by omega) (by omega) (wM_set0 _ _ _ _ _ _) dX3_drifts_124 (fun H locs hP hD hS => ?_)
        have eW0 : dsS S = (upG (drS S i) 0 0 ((gOf ((drS S i) 0) 12 0) + 1)) := by (rw [hiN]; rfl)
        rw [← eW0] at hP hD
        first | exact hret _ _ _ _ dX3_drifts_125 hP hD hS | (exfalso; omega)
      · refine z_iconst hx hb dX3_drifts_8 ?_
        refine lv_istore_n (lv' := [(2, .int (iI 0)), (1, .int (iI (i : Int))), (0, .ref mo)]) hx hb dX3_drifts_9 rfl hl (by decide) rfl (fun ls hl => ?_)
        have LP10 : ∀ (fu j : Nat), j ≤ 3 → 3 < fu + j → ∀ (H : Heap) (locs : List Loc) (ls : Array Slot), va_P D vwCl (wM mo am cI (dgS (drS S i) i j)) H → va_D A (wM mo am cI (dgS (drS S i) i j)) → va_S A s.heap H locs → lv_has ls 3 [(2, .int (iI (j : Int))), (1, .int (iI (i : Int))), (0, .ref mo)] → W p l e R s m args below meth c H locs 0 0 Q (F0 m 10 ls []) := by
          intro fu
          induction fu with
          | zero => intro j h1 h2; omega
          | succ fu ih10 =>
            intro j hj1 hjf H locs ls hP hD hS hl
            have hIj := inv_dg hIi (r := (i : Int)) (by omega) j (by omega)
            refine lv_iload_n hx hb dX3_drifts_10 rfl (lv_at hl 0 rfl) ?_
            refine z_iconst hx hb dX3_drifts_11 ?_
            refine z_icmp_ge (tgt := 71) hx hb dX3_drifts_12 (by decide) (by omega) (by omega) (fun c_2 => ?_) (fun c_2 => ?_)
            · have hjN : j = 3 := by omega
              refine z_iconst hx hb dX3_drifts_71 ?_
              refine lv_istore_n (lv' := [(2, .int (iI 0)), (1, .int (iI (i : Int))), (0, .ref mo)]) hx hb dX3_drifts_72 rfl hl (by decide) rfl (fun ls hl => ?_)
              have LP73 : ∀ (fu k : Nat), k ≤ 8 → 8 < fu + k → ∀ (H : Heap) (locs : List Loc) (ls : Array Slot), va_P D vwCl (wM mo am cI (dcS (dgS (drS S i) i 3) i k)) H → va_D A (wM mo am cI (dcS (dgS (drS S i) i 3) i k)) → va_S A s.heap H locs → lv_has ls 3 [(2, .int (iI (k : Int))), (1, .int (iI (i : Int))), (0, .ref mo)] → W p l e R s m args below meth c H locs 0 0 Q (F0 m 73 ls []) := by
                intro fu
                induction fu with
                | zero => intro k h1 h2; omega
                | succ fu ih73 =>
                  intro k hk1 hkf H locs ls hP hD hS hl
                  have hIk := inv_dc (inv_dg hIi (r := (i : Int)) (by omega) 3 (by omega)) (r := (i : Int)) (by omega) k (by omega)
                  refine lv_iload_n hx hb dX3_drifts_73 rfl (lv_at hl 0 rfl) ?_
                  refine z_bipush hx hb dX3_drifts_74 (by decide +kernel) ?_
                  refine z_icmp_ge (tgt := 109) hx hb dX3_drifts_76 (by decide) (by omega) (by omega) (fun c_3 => ?_) (fun c_3 => ?_)
                  · have hkN : k = 8 := by omega
                    refine lv_iinc (v := iI ((i : Int) + 1)) (lv' := [(1, .int (iI ((i : Int) + 1))), (2, .int (iI (k : Int))), (0, .ref mo)]) hx hb dX3_drifts_109 hl (k := 1) rfl (iI_add _ _) (by decide) rfl (fun ls hl => ?_)
                    refine lv_goto (tgt := 2) hx hb dX3_drifts_112 (by decide) ?_
                    have e1_0 : (((i + 1 : Nat) : Int)) = ((i : Int) + 1) := by first | rfl | omega
                    have eG0 : (drS S (i + 1)) = (dcS (dgS (drS S i) i 3) i k) := by (rw [hkN]; rfl)
                    rw [← eG0] at hP hD
                    exact ih2 (i + 1) (by omega) (by omega) _ _ _ hP hD hS (lv_to (lv_sub (l' := [(1, .int (iI ((i : Int) + 1))), (0, .ref mo)]) hl [0, 2] rfl) (by simp only [e1_0]))
                  · refine lv_aload_n hx hb dX3_drifts_79 rfl (lv_at hl 2 rfl) ?_
                    refine lv_iload_n hx hb dX3_drifts_80 rfl (lv_at hl 1 rfl) ?_
                    refine lv_iload_n hx hb dX3_drifts_81 rfl (lv_at hl 0 rfl) ?_
                    refine z_iconst hx hb dX3_drifts_82 ?_
                    refine lv_aload_n hx hb dX3_drifts_83 rfl (lv_at hl 2 rfl) ?_
                    refine lv_aload_n hx hb dX3_drifts_84 rfl (lv_at hl 2 rfl) ?_
                    refine lv_iload_n hx hb dX3_drifts_85 rfl (lv_at hl 1 rfl) ?_
                    refine lv_iload_n hx hb dX3_drifts_86 rfl (lv_at hl 0 rfl) ?_
                    refine z_iconst hx hb dX3_drifts_87 ?_
                    refine mw_full (st1 := [.int (iI ((gOf ((dcS (dgS (drS S i) i 3) i k) 0)) 1 (8 * (i : Int) + (k : Int)))), .ref mo, .int (iI 1), .int (iI (k : Int)), .int (iI (i : Int)), .ref mo]) (mr_V (As := [.int (iI (i : Int)), .int (iI (k : Int)), .int (iI 1)]) (rest := [.ref mo, .int (iI 1), .int (iI (k : Int)), .int (iI (i : Int)), .ref mo]) (ci := 3) (q0 := 0) ⟨hx, hb, hml, hown, hts⟩ (m_X3_ofCell l D mo am cI (dcS (dgS (drS S i) i 3) i k) (i : Int) (k : Int) 1 1 (by omega) (by omega) (by omega)) (cwV 3 hts (gV q_354 q_355 q_356 q_345 q_352) rfl rfl rfl (by decide +kernel) ⟨Nat.le_trans (m := 2) (Nat.le_of_ble_eq_true rfl) (Nat.le_trans (Nat.le_of_ble_eq_true rfl) hRf), Nat.le_trans (m := 45) (Nat.le_of_ble_eq_true rfl) (Nat.le_trans (Nat.le_of_ble_eq_true rfl) hRl)⟩) hN hK hP hD rfl rfl rfl hl.1 (Nat.le_of_ble_eq_true rfl) ⟨hRc, hRs⟩ dX3_drifts_88) hD hS hA rfl (fun H locs hP hD hS => ?_)
                    have hf_4 := invG_1 hIk (8 * (i : Int) + (k : Int)) (by omega) (by omega)
                    refine lv_aload_n hx hb dX3_drifts_91 rfl (lv_at hl 2 rfl) ?_
                    refine lv_iload_n hx hb dX3_drifts_92 rfl (lv_at hl 1 rfl) ?_
                    refine z_iconst hx hb dX3_drifts_93 ?_
                    refine mw_full (st1 := [.int (iI ((gOf ((dcS (dgS (drS S i) i 3) i k) 0)) 6 (i : Int))), .int (iI ((gOf ((dcS (dgS (drS S i) i 3) i k) 0)) 1 (8 * (i : Int) + (k : Int)))), .ref mo, .int (iI 1), .int (iI (k : Int)), .int (iI (i : Int)), .ref mo]) (mr_V (As := [.int (iI (i : Int)), .int (iI 0)]) (rest := [.int (iI ((gOf ((dcS (dgS (drS S i) i 3) i k) 0)) 1 (8 * (i : Int) + (k : Int)))), .ref mo, .int (iI 1), .int (iI (k : Int)), .int (iI (i : Int)), .ref mo]) (ci := 3) (q0 := 0) ⟨hx, hb, hml, hown, hts⟩ (m_X3_of l D mo am cI (dcS (dgS (drS S i) i 3) i k) (i : Int) 0 6 (i : Int) (ix_ofr 6 (by omega) (by omega) (by omega))) (cwV 2 hts (gV q_342 q_343 q_344 q_345 q_340) rfl rfl rfl (by decide +kernel) ⟨Nat.le_trans (m := 1) (Nat.le_of_ble_eq_true rfl) (Nat.le_trans (Nat.le_of_ble_eq_true rfl) hRf), Nat.le_trans (m := 22) (Nat.le_of_ble_eq_true rfl) (Nat.le_trans (Nat.le_of_ble_eq_true rfl) hRl)⟩) hN hK hP hD rfl rfl rfl hl.1 (Nat.le_of_ble_eq_true rfl) ⟨hRc, hRs⟩ dX3_drifts_94) hD hS hA rfl (fun H locs hP hD hS => ?_)
                    have hf_5 := invG_6 hIk (i : Int) (by omega) (by omega)
                    refine mw_full (st1 := [.int (iI (nearZ ((gOf ((dcS (dgS (drS S i) i 3) i k) 0)) 11 0) ((gOf ((dcS (dgS (drS S i) i 3) i k) 0)) 1 (8 * (i : Int) + (k : Int))) ((gOf ((dcS (dgS (drS S i) i 3) i k) 0)) 6 (i : Int)))), .int (iI 1), .int (iI (k : Int)), .int (iI (i : Int)), .ref mo]) (mr_V (As := [.int (iI ((gOf ((dcS (dgS (drS S i) i 3) i k) 0)) 1 (8 * (i : Int) + (k : Int)))), .int (iI ((gOf ((dcS (dgS (drS S i) i 3) i k) 0)) 6 (i : Int)))]) (rest := [.int (iI 1), .int (iI (k : Int)), .int (iI (i : Int)), .ref mo]) (ci := 3) (q0 := 0) ⟨hx, hb, hml, hown, hts⟩ (m_X3_drifted l D mo am cI (dcS (dgS (drS S i) i 3) i k) ((gOf ((dcS (dgS (drS S i) i 3) i k) 0)) 1 (8 * (i : Int) + (k : Int))) ((gOf ((dcS (dgS (drS S i) i 3) i k) 0)) 6 (i : Int)) hIk (by omega) (by omega)) (cwV 2 hts (gV q_429 q_430 q_431 q_345 q_428) rfl rfl rfl (by decide +kernel) ⟨Nat.le_trans (m := 2) (Nat.le_of_ble_eq_true rfl) (Nat.le_trans (Nat.le_of_ble_eq_true rfl) hRf), Nat.le_trans (m := 44) (Nat.le_of_ble_eq_true rfl) (Nat.le_trans (Nat.le_of_ble_eq_true rfl) hRl)⟩) hN hK hP hD rfl rfl rfl hl.1 (Nat.le_of_ble_eq_true rfl) ⟨hRc, hRs⟩ dX3_drifts_97) hD hS hA rfl (fun H locs hP hD hS => ?_)
                    refine mw_full (st1 := []) (mr_V (As := [.int (iI (i : Int)), .int (iI (k : Int)), .int (iI 1), .int (iI (nearZ ((gOf ((dcS (dgS (drS S i) i 3) i k) 0)) 11 0) ((gOf ((dcS (dgS (drS S i) i 3) i k) 0)) 1 (8 * (i : Int) + (k : Int))) ((gOf ((dcS (dgS (drS S i) i 3) i k) 0)) 6 (i : Int))))]) (rest := []) (ci := 3) (q0 := 0) ⟨hx, hb, hml, hown, hts⟩ (m_X3_laysCell l D mo am cI (dcS (dgS (drS S i) i 3) i k) (i : Int) (k : Int) 1 (nearZ ((gOf ((dcS (dgS (drS S i) i 3) i k) 0)) 11 0) ((gOf ((dcS (dgS (drS S i) i 3) i k) 0)) 1 (8 * (i : Int) + (k : Int))) ((gOf ((dcS (dgS (drS S i) i 3) i k) 0)) 6 (i : Int))) 1 (by omega) (by omega) (by omega)) (cwV 4 hts (gV q_357 q_358 q_359 q_345 q_353) rfl rfl rfl (by decide +kernel) ⟨Nat.le_trans (m := 2) (Nat.le_of_ble_eq_true rfl) (Nat.le_trans (Nat.le_of_ble_eq_true rfl) hRf), Nat.le_trans (m := 47) (Nat.le_of_ble_eq_true rfl) (Nat.le_trans (Nat.le_of_ble_eq_true rfl) hRl)⟩) hN hK hP hD rfl rfl rfl hl.1 (Nat.le_of_ble_eq_true rfl) ⟨hRc, hRs⟩ dX3_drifts_100) hD hS hA rfl (fun H locs hP hD hS => ?_)
                    skip
                    refine lv_iinc (v := iI ((k : Int) + 1)) (lv' := [(2, .int (iI ((k : Int) + 1))), (1, .int (iI (i : Int))), (0, .ref mo)]) hx hb dX3_drifts_103 hl (k := 0) rfl (iI_add _ _) (by decide) rfl (fun ls hl => ?_)
                    refine lv_goto (tgt := 73) hx hb dX3_drifts_106 (by decide) ?_
                    have e1_0 : (((k + 1 : Nat) : Int)) = ((k : Int) + 1) := by first | rfl | omega
                    have eG0 : (dcS (dgS (drS S i) i 3) i (k + 1)) = (lyZ (dcS (dgS (drS S i) i 3) i k) 1 (8 * (i : Int) + (k : Int)) (nearZ ((gOf ((dcS (dgS (drS S i) i 3) i k) 0)) 11 0) ((gOf ((dcS (dgS (drS S i) i 3) i k) 0)) 1 (8 * (i : Int) + (k : Int))) ((gOf ((dcS (dgS (drS S i) i 3) i k) 0)) 6 (i : Int)))) := by rfl
                    rw [← eG0] at hP hD
                    exact ih73 (k + 1) (by omega) (by omega) _ _ _ hP hD hS (lv_to (lv_sub (l' := [(2, .int (iI ((k : Int) + 1))), (1, .int (iI (i : Int))), (0, .ref mo)]) hl [0, 1, 2] rfl) (by simp only [e1_0]))
              have e0_0 : (((0 : Nat) : Int)) = 0 := by first | rfl | omega
              rw [hjN] at hP hD
              exact LP73 (8 + 1) 0 (by omega) (by omega) _ _ _ hP hD hS (lv_to (lv_sub (l' := [(2, .int (iI 0)), (1, .int (iI (i : Int))), (0, .ref mo)]) hl [0, 1, 2] rfl) (by simp only [e0_0]))
            · refine lv_aload_n hx hb dX3_drifts_15 rfl (lv_at hl 2 rfl) ?_
              refine lv_iload_n hx hb dX3_drifts_16 rfl (lv_at hl 1 rfl) ?_
              refine z_iconst hx hb dX3_drifts_17 ?_
              refine lv_iload_n hx hb dX3_drifts_18 rfl (lv_at hl 0 rfl) ?_
              refine z_iadd hx hb dX3_drifts_19 ?_
              refine lv_aload_n hx hb dX3_drifts_20 rfl (lv_at hl 2 rfl) ?_
              refine lv_iload_n hx hb dX3_drifts_21 rfl (lv_at hl 1 rfl) ?_
              refine z_bipush hx hb dX3_drifts_22 (by decide +kernel) ?_
              refine lv_iload_n hx hb dX3_drifts_24 rfl (lv_at hl 0 rfl) ?_
              refine z_iadd hx hb dX3_drifts_25 ?_
              refine mw_full (st1 := [.int (iI ((gOf ((dgS (drS S i) i j) 0)) 5 (3 * (i : Int) + (j : Int)))), .int (iI (4 + (j : Int))), .int (iI (i : Int)), .ref mo]) (mr_V (As := [.int (iI (i : Int)), .int (iI (7 + (j : Int)))]) (rest := [.int (iI (4 + (j : Int))), .int (iI (i : Int)), .ref mo]) (ci := 3) (q0 := 0) ⟨hx, hb, hml, hown, hts⟩ (m_X3_of l D mo am cI (dgS (drS S i) i j) (i : Int) (7 + (j : Int)) 5 (3 * (i : Int) + (j : Int)) (ix_of5 (r := (i : Int)) (by omega) (by omega))) (cwV 2 hts (gV q_342 q_343 q_344 q_345 q_340) rfl rfl rfl (by decide +kernel) ⟨Nat.le_trans (m := 1) (Nat.le_of_ble_eq_true rfl) (Nat.le_trans (Nat.le_of_ble_eq_true rfl) hRf), Nat.le_trans (m := 22) (Nat.le_of_ble_eq_true rfl) (Nat.le_trans (Nat.le_of_ble_eq_true rfl) hRl)⟩) hN hK hP hD rfl rfl rfl hl.1 (Nat.le_of_ble_eq_true rfl) ⟨hRc, hRs⟩ dX3_drifts_26) hD hS hA rfl (fun H locs hP hD hS => ?_)
              have hf_7 := invG_5 hIj (3 * (i : Int) + (j : Int)) (by omega) (by omega)
              refine z_iconst hx hb dX3_drifts_29 ?_
              refine z_icmp_ne (tgt := 44) hx hb dX3_drifts_30 (by decide) (by omega) (by omega) (fun c_8 => ?_) (fun c_8 => ?_)
              · refine lv_aload_n hx hb dX3_drifts_44 rfl (lv_at hl 2 rfl) ?_
                refine lv_aload_n hx hb dX3_drifts_45 rfl (lv_at hl 2 rfl) ?_
                refine lv_iload_n hx hb dX3_drifts_46 rfl (lv_at hl 1 rfl) ?_
                refine z_iconst hx hb dX3_drifts_47 ?_
                refine lv_iload_n hx hb dX3_drifts_48 rfl (lv_at hl 0 rfl) ?_
                refine z_iadd hx hb dX3_drifts_49 ?_
                refine mw_full (st1 := [.int (iI ((gOf ((dgS (drS S i) i j) 0)) 4 (3 * (i : Int) + (j : Int)))), .ref mo, .int (iI (4 + (j : Int))), .int (iI (i : Int)), .ref mo]) (mr_V (As := [.int (iI (i : Int)), .int (iI (4 + (j : Int)))]) (rest := [.ref mo, .int (iI (4 + (j : Int))), .int (iI (i : Int)), .ref mo]) (ci := 3) (q0 := 0) ⟨hx, hb, hml, hown, hts⟩ (m_X3_of l D mo am cI (dgS (drS S i) i j) (i : Int) (4 + (j : Int)) 4 (3 * (i : Int) + (j : Int)) (ix_of4 (r := (i : Int)) (by omega) (by omega))) (cwV 2 hts (gV q_342 q_343 q_344 q_345 q_340) rfl rfl rfl (by decide +kernel) ⟨Nat.le_trans (m := 1) (Nat.le_of_ble_eq_true rfl) (Nat.le_trans (Nat.le_of_ble_eq_true rfl) hRf), Nat.le_trans (m := 22) (Nat.le_of_ble_eq_true rfl) (Nat.le_trans (Nat.le_of_ble_eq_true rfl) hRl)⟩) hN hK hP hD rfl rfl rfl hl.1 (Nat.le_of_ble_eq_true rfl) ⟨hRc, hRs⟩ dX3_drifts_50) hD hS hA rfl (fun H locs hP hD hS => ?_)
                have hf_9 := invG_4 hIj (3 * (i : Int) + (j : Int)) (by omega) (by omega)
                refine lv_aload_n hx hb dX3_drifts_53 rfl (lv_at hl 2 rfl) ?_
                refine lv_iload_n hx hb dX3_drifts_54 rfl (lv_at hl 1 rfl) ?_
                refine z_iconst hx hb dX3_drifts_55 ?_
                refine mw_full (st1 := [.int (iI ((gOf ((dgS (drS S i) i j) 0)) 6 (i : Int))), .int (iI ((gOf ((dgS (drS S i) i j) 0)) 4 (3 * (i : Int) + (j : Int)))), .ref mo, .int (iI (4 + (j : Int))), .int (iI (i : Int)), .ref mo]) (mr_V (As := [.int (iI (i : Int)), .int (iI 0)]) (rest := [.int (iI ((gOf ((dgS (drS S i) i j) 0)) 4 (3 * (i : Int) + (j : Int)))), .ref mo, .int (iI (4 + (j : Int))), .int (iI (i : Int)), .ref mo]) (ci := 3) (q0 := 0) ⟨hx, hb, hml, hown, hts⟩ (m_X3_of l D mo am cI (dgS (drS S i) i j) (i : Int) 0 6 (i : Int) (ix_ofr 6 (by omega) (by omega) (by omega))) (cwV 2 hts (gV q_342 q_343 q_344 q_345 q_340) rfl rfl rfl (by decide +kernel) ⟨Nat.le_trans (m := 1) (Nat.le_of_ble_eq_true rfl) (Nat.le_trans (Nat.le_of_ble_eq_true rfl) hRf), Nat.le_trans (m := 22) (Nat.le_of_ble_eq_true rfl) (Nat.le_trans (Nat.le_of_ble_eq_true rfl) hRl)⟩) hN hK hP hD rfl rfl rfl hl.1 (Nat.le_of_ble_eq_true rfl) ⟨hRc, hRs⟩ dX3_drifts_56) hD hS hA rfl (fun H locs hP hD hS => ?_)
                have hf_10 := invG_6 hIj (i : Int) (by omega) (by omega)
                refine mw_full (st1 := [.int (iI (nearZ ((gOf ((dgS (drS S i) i j) 0)) 11 0) ((gOf ((dgS (drS S i) i j) 0)) 4 (3 * (i : Int) + (j : Int))) ((gOf ((dgS (drS S i) i j) 0)) 6 (i : Int)))), .int (iI (4 + (j : Int))), .int (iI (i : Int)), .ref mo]) (mr_V (As := [.int (iI ((gOf ((dgS (drS S i) i j) 0)) 4 (3 * (i : Int) + (j : Int)))), .int (iI ((gOf ((dgS (drS S i) i j) 0)) 6 (i : Int)))]) (rest := [.int (iI (4 + (j : Int))), .int (iI (i : Int)), .ref mo]) (ci := 3) (q0 := 0) ⟨hx, hb, hml, hown, hts⟩ (m_X3_drifted l D mo am cI (dgS (drS S i) i j) ((gOf ((dgS (drS S i) i j) 0)) 4 (3 * (i : Int) + (j : Int))) ((gOf ((dgS (drS S i) i j) 0)) 6 (i : Int)) hIj (by omega) (by omega)) (cwV 2 hts (gV q_429 q_430 q_431 q_345 q_428) rfl rfl rfl (by decide +kernel) ⟨Nat.le_trans (m := 2) (Nat.le_of_ble_eq_true rfl) (Nat.le_trans (Nat.le_of_ble_eq_true rfl) hRf), Nat.le_trans (m := 44) (Nat.le_of_ble_eq_true rfl) (Nat.le_trans (Nat.le_of_ble_eq_true rfl) hRl)⟩) hN hK hP hD rfl rfl rfl hl.1 (Nat.le_of_ble_eq_true rfl) ⟨hRc, hRs⟩ dX3_drifts_59) hD hS hA rfl (fun H locs hP hD hS => ?_)
                refine mw_full (st1 := []) (mr_V (As := [.int (iI (i : Int)), .int (iI (4 + (j : Int))), .int (iI (nearZ ((gOf ((dgS (drS S i) i j) 0)) 11 0) ((gOf ((dgS (drS S i) i j) 0)) 4 (3 * (i : Int) + (j : Int))) ((gOf ((dgS (drS S i) i j) 0)) 6 (i : Int))))]) (rest := []) (ci := 3) (q0 := 0) ⟨hx, hb, hml, hown, hts⟩ (m_X3_lays l D mo am cI (dgS (drS S i) i j) (i : Int) (4 + (j : Int)) (nearZ ((gOf ((dgS (drS S i) i j) 0)) 11 0) ((gOf ((dgS (drS S i) i j) 0)) 4 (3 * (i : Int) + (j : Int))) ((gOf ((dgS (drS S i) i j) 0)) 6 (i : Int))) 4 (3 * (i : Int) + (j : Int)) (ix_of4 (r := (i : Int)) (by omega) (by omega))) (cwV 3 hts (gV q_348 q_349 q_350 q_345 q_339) rfl rfl rfl (by decide +kernel) ⟨Nat.le_trans (m := 1) (Nat.le_of_ble_eq_true rfl) (Nat.le_trans (Nat.le_of_ble_eq_true rfl) hRf), Nat.le_trans (m := 23) (Nat.le_of_ble_eq_true rfl) (Nat.le_trans (Nat.le_of_ble_eq_true rfl) hRl)⟩) hN hK hP hD rfl rfl rfl hl.1 (Nat.le_of_ble_eq_true rfl) ⟨hRc, hRs⟩ dX3_drifts_62) hD hS hA rfl (fun H locs hP hD hS => ?_)
                skip
                refine lv_iinc (v := iI ((j : Int) + 1)) (lv' := [(2, .int (iI ((j : Int) + 1))), (1, .int (iI (i : Int))), (0, .ref mo)]) hx hb dX3_drifts_65 hl (k := 0) rfl (iI_add _ _) (by decide) rfl (fun ls hl => ?_)
                refine lv_goto (tgt := 10) hx hb dX3_drifts_68 (by decide) ?_
                have e1_0 : (((j + 1 : Nat) : Int)) = ((j : Int) + 1) := by first | rfl | omega
                have eG0 : (dgS (drS S i) i (j + 1)) = (lyZ (dgS (drS S i) i j) 4 (3 * (i : Int) + (j : Int)) (nearZ ((gOf ((dgS (drS S i) i j) 0)) 11 0) ((gOf ((dgS (drS S i) i j) 0)) 4 (3 * (i : Int) + (j : Int))) ((gOf ((dgS (drS S i) i j) 0)) 6 (i : Int)))) := by (simp only [dgS]; split <;> first | (exfalso; omega) | rfl)
                rw [← eG0] at hP hD
                exact ih10 (j + 1) (by omega) (by omega) _ _ _ hP hD hS (lv_to (lv_sub (l' := [(2, .int (iI ((j : Int) + 1))), (1, .int (iI (i : Int))), (0, .ref mo)]) hl [0, 1, 2] rfl) (by simp only [e1_0]))
              · refine lv_aload_n hx hb dX3_drifts_33 rfl (lv_at hl 2 rfl) ?_
                refine lv_iload_n hx hb dX3_drifts_34 rfl (lv_at hl 1 rfl) ?_
                refine z_iconst hx hb dX3_drifts_35 ?_
                refine lv_iload_n hx hb dX3_drifts_36 rfl (lv_at hl 0 rfl) ?_
                refine z_iadd hx hb dX3_drifts_37 ?_
                refine mw_full (st1 := [.int (iI ((gOf ((dgS (drS S i) i j) 0)) 4 (3 * (i : Int) + (j : Int)))), .int (iI (4 + (j : Int))), .int (iI (i : Int)), .ref mo]) (mr_V (As := [.int (iI (i : Int)), .int (iI (4 + (j : Int)))]) (rest := [.int (iI (4 + (j : Int))), .int (iI (i : Int)), .ref mo]) (ci := 3) (q0 := 0) ⟨hx, hb, hml, hown, hts⟩ (m_X3_of l D mo am cI (dgS (drS S i) i j) (i : Int) (4 + (j : Int)) 4 (3 * (i : Int) + (j : Int)) (ix_of4 (r := (i : Int)) (by omega) (by omega))) (cwV 2 hts (gV q_342 q_343 q_344 q_345 q_340) rfl rfl rfl (by decide +kernel) ⟨Nat.le_trans (m := 1) (Nat.le_of_ble_eq_true rfl) (Nat.le_trans (Nat.le_of_ble_eq_true rfl) hRf), Nat.le_trans (m := 22) (Nat.le_of_ble_eq_true rfl) (Nat.le_trans (Nat.le_of_ble_eq_true rfl) hRl)⟩) hN hK hP hD rfl rfl rfl hl.1 (Nat.le_of_ble_eq_true rfl) ⟨hRc, hRs⟩ dX3_drifts_38) hD hS hA rfl (fun H locs hP hD hS => ?_)
                have hf_12 := invG_4 hIj (3 * (i : Int) + (j : Int)) (by omega) (by omega)
                refine lv_goto (tgt := 62) hx hb dX3_drifts_41 (by decide) ?_
                refine mw_full (st1 := []) (mr_V (As := [.int (iI (i : Int)), .int (iI (4 + (j : Int))), .int (iI ((gOf ((dgS (drS S i) i j) 0)) 4 (3 * (i : Int) + (j : Int))))]) (rest := []) (ci := 3) (q0 := 0) ⟨hx, hb, hml, hown, hts⟩ (m_X3_lays l D mo am cI (dgS (drS S i) i j) (i : Int) (4 + (j : Int)) ((gOf ((dgS (drS S i) i j) 0)) 4 (3 * (i : Int) + (j : Int))) 4 (3 * (i : Int) + (j : Int)) (ix_of4 (r := (i : Int)) (by omega) (by omega))) (cwV 3 hts (gV q_348 q_349 q_350 q_345 q_339) rfl rfl rfl (by decide +kernel) ⟨Nat.le_trans (m := 1) (Nat.le_of_ble_eq_true rfl) (Nat.le_trans (Nat.le_of_ble_eq_true rfl) hRf), Nat.le_trans (m := 23) (Nat.le_of_ble_eq_true rfl) (Nat.le_trans (Nat.le_of_ble_eq_true rfl) hRl)⟩) hN hK hP hD rfl rfl rfl hl.1 (Nat.le_of_ble_eq_true rfl) ⟨hRc, hRs⟩ dX3_drifts_62) hD hS hA rfl (fun H locs hP hD hS => ?_)
                skip
                refine lv_iinc (v := iI ((j : Int) + 1)) (lv' := [(2, .int (iI ((j : Int) + 1))), (1, .int (iI (i : Int))), (0, .ref mo)]) hx hb dX3_drifts_65 hl (k := 0) rfl (iI_add _ _) (by decide) rfl (fun ls hl => ?_)
                refine lv_goto (tgt := 10) hx hb dX3_drifts_68 (by decide) ?_
                have e1_0 : (((j + 1 : Nat) : Int)) = ((j : Int) + 1) := by first | rfl | omega
                have eG0 : (dgS (drS S i) i (j + 1)) = (lyZ (dgS (drS S i) i j) 4 (3 * (i : Int) + (j : Int)) ((gOf ((dgS (drS S i) i j) 0)) 4 (3 * (i : Int) + (j : Int)))) := by (simp only [dgS]; split <;> first | (exfalso; omega) | rfl)
                rw [← eG0] at hP hD
                exact ih10 (j + 1) (by omega) (by omega) _ _ _ hP hD hS (lv_to (lv_sub (l' := [(2, .int (iI ((j : Int) + 1))), (1, .int (iI (i : Int))), (0, .ref mo)]) hl [0, 1, 2] rfl) (by simp only [e1_0]))
        have e0_0 : (((0 : Nat) : Int)) = 0 := by first | rfl | omega
        exact LP10 (3 + 1) 0 (by omega) (by omega) _ _ _ hP hD hS (lv_to (lv_sub (l' := [(2, .int (iI 0)), (1, .int (iI (i : Int))), (0, .ref mo)]) hl [0, 1, 2] rfl) (by simp only [e0_0]))
  have e0_0 : (((0 : Nat) : Int)) = 0 := by first | rfl | omega
  exact LP2 (6 + 1) 0 (by omega) (by omega) _ _ _ hP hD hS (lv_to (lv_sub (l' := [(1, .int (iI 0)), (0, .ref mo)]) hl [0, 1] rfl) (by simp only [e0_0]))
set_option maxHeartbeats 4000000 in
set_option maxRecDepth 100000 in
theorem m_X3_endsDay (l : Launch) (D : va_G) (mo : Nat) (am : Nat → Nat) (cI : ClassId) (S : Nat → Int → Int) {B : Int} (hI : InvG B (gOf (S 0))) (hB : B + 6 ≤ 100000000) (hd : (gOf (S 0)) 12 0 + 1 ≤ 10000000)  : MW l D yX3_endsDay (wsY yX3_endsDay cX3_endsDay 3 (some .int)) { frames := 7, cells := 0, slots := 0, locals := 155 } [(cI, .int)] [.ref mo] (wM mo am cI S) (wM mo am cI (edS S 6)) (some (.int (iI (edL S 6)))) := by
  refine mw_ofI (cc := cX3_endsDay) (maxL := 3) (by decide) rfl (Nat.le_of_ble_eq_true rfl) ?_
  intro p e s m below meth c R A Q args ls hx hb hml hown hts hRf hRl hRc hRs hN hK hP hD hS hA hret hl
  have hq : ∀ w ∈ ALL, w.before args s = true := fun w h => hts w (List.mem_cons_of_mem _ h)
  have hl : lv_has ls 3 [(0, .ref mo)] := hl
  refine z_iconst hx hb dX3_endsDay_0 ?_
  refine lv_istore_n (lv' := [(1, .int (iI 0)), (0, .ref mo)]) hx hb dX3_endsDay_1 rfl hl (by decide) rfl (fun ls hl => ?_)
  refine lv_aload_n hx hb dX3_endsDay_2 rfl (lv_at hl 1 rfl) ?_
  refine mw_full (st1 := []) (mr_V (As := []) (rest := []) (ci := 3) (q0 := 0) ⟨hx, hb, hml, hown, hts⟩ (m_X3_drifts l D mo am cI S  hI) (cwV 0 hts (gV q_434 q_435 q_436 q_345 q_432) rfl rfl rfl (by decide +kernel) ⟨Nat.le_trans (m := 3) (Nat.le_of_ble_eq_true rfl) (Nat.le_trans (Nat.le_of_ble_eq_true rfl) hRf), Nat.le_trans (m := 69) (Nat.le_of_ble_eq_true rfl) (Nat.le_trans (Nat.le_of_ble_eq_true rfl) hRl)⟩) hN hK hP hD rfl rfl rfl hl.1 (Nat.le_of_ble_eq_true rfl) ⟨hRc, hRs⟩ dX3_endsDay_3) hD hS hA rfl (fun H locs hP hD hS => ?_)
  refine z_iconst hx hb dX3_endsDay_6 ?_
  refine lv_istore_n (lv' := [(2, .int (iI 0)), (1, .int (iI 0)), (0, .ref mo)]) hx hb dX3_endsDay_7 rfl hl (by decide) rfl (fun ls hl => ?_)
  have LP8 : ∀ (fu i : Nat), i ≤ 6 → 6 < fu + i → ∀ (H : Heap) (locs : List Loc) (ls : Array Slot), va_P D vwCl (wM mo am cI (edS S i)) H → va_D A (wM mo am cI (edS S i)) → va_S A s.heap H locs → lv_has ls 3 [(2, .int (iI (i : Int))), (1, .int (iI (edL S i))), (0, .ref mo)] → W p l e R s m args below meth c H locs 0 0 Q (F0 m 8 ls []) := by
    intro fu
    induction fu with
    | zero => intro i h1 h2; omega
    | succ fu ih8 =>
      intro i hi1 hif H locs ls hP hD hS hl
      have hIi := inv_ed hI hB hd i (by omega)
      have hs2 := invG_s2 hIi
      refine lv_iload_n hx hb dX3_endsDay_8 rfl (lv_at hl 0 rfl) ?_
      refine z_bipush hx hb dX3_endsDay_9 (by decide +kernel) ?_
      refine z_icmp_ge (tgt := 55) hx hb dX3_endsDay_11 (by decide) (by omega) (by omega) (fun c_1 => ?_) (fun c_1 => ?_)
      · have hiN : i = 6 := by omega
        refine lv_iload_n hx hb dX3_endsDay_55 rfl (lv_at hl 1 rfl) ?_
        refine z_as (show (edL S i) = edL S 6 from by (rw [hiN])) ?_
        have eW0 : edS S 6 = (edS S i) := by (rw [hiN])
        rw [← eW0] at hP hD
        first | exact hret _ _ _ _ dX3_endsDay_56 hP hD hS | (exfalso; omega)
      · refine lv_iload_n hx hb dX3_endsDay_14 rfl (lv_at hl 1 rfl) ?_
        refine lv_aload_n hx hb dX3_endsDay_15 rfl (lv_at hl 2 rfl) ?_
        refine va_get (D := D) (ci := 3) (v := .ref (am 0)) (C := RX3) (T := TX3) (N := 14) hx hb hq inA3 hown hK hP 0 rfl rfl 0 (by decide) (hq _ q_338) (fun _ h9 => h9) rfl dX3_endsDay_16 ?_
        refine z_iconst hx hb dX3_endsDay_19 ?_
        refine z_iald hx hb hK hP 1 0 rfl rfl (by omega) (by omega) (v := (gOf ((edS S i) 0) 11 2)) (s_11_2 _) dX3_endsDay_20 ?_
        refine z_if_le (tgt := 46) hx hb dX3_endsDay_21 (by decide) (by omega) (fun c_2 => ?_) (fun c_2 => ?_)
        · refine z_iconst hx hb dX3_endsDay_46 ?_
          refine z_iadd hx hb dX3_endsDay_47 ?_
          refine lv_istore_n (lv' := [(1, .int (iI ((edL S i) + 0))), (2, .int (iI (i : Int))), (0, .ref mo)]) hx hb dX3_endsDay_48 rfl hl (by decide) rfl (fun ls hl => ?_)
          refine lv_iinc (v := iI ((i : Int) + 1)) (lv' := [(2, .int (iI ((i : Int) + 1))), (1, .int (iI ((edL S i) + 0))), (0, .ref mo)]) hx hb dX3_endsDay_49 hl (k := 1) rfl (iI_add _ _) (by decide) rfl (fun ls hl => ?_)
          refine lv_goto (tgt := 8) hx hb dX3_endsDay_52 (by decide) ?_
          have e1_0 : (((i + 1 : Nat) : Int)) = ((i : Int) + 1) := by first | omega | (simp only [edL]; split <;> first | (exfalso; omega) | omega)
          have e1_1 : ((edL S (i + 1))) = ((edL S i) + 0) := by first | omega | (simp only [edL]; split <;> first | (exfalso; omega) | omega)
          have eG0 : (edS S (i + 1)) = (edS S i) := by (simp only [edS]; split <;> first | (exfalso; omega) | rfl)
          rw [← eG0] at hP hD
          exact ih8 (i + 1) (by omega) (by omega) _ _ _ hP hD hS (lv_to (lv_sub (l' := [(2, .int (iI ((i : Int) + 1))), (1, .int (iI ((edL S i) + 0))), (0, .ref mo)]) hl [0, 1, 2] rfl) (by simp only [e1_0, e1_1]))
        · refine lv_aload_n hx hb dX3_endsDay_24 rfl (lv_at hl 2 rfl) ?_
          refine lv_iload_n hx hb dX3_endsDay_25 rfl (lv_at hl 0 rfl) ?_
          refine mw_full (st1 := [.int (iI (ageZ (gOf ((edS S i) 0)) (i : Int))), .int (iI (edL S i))]) (mr_V (As := [.int (iI (i : Int))]) (rest := [.int (iI (edL S i))]) (ci := 3) (q0 := 0) ⟨hx, hb, hml, hown, hts⟩ (m_X3_ageOf l D mo am cI (edS S i) (i : Int) hIi (by omega)) (cwV 1 hts (gV q_437 q_438 q_439 q_345 q_433) rfl rfl rfl (by decide +kernel) ⟨Nat.le_trans (m := 2) (Nat.le_of_ble_eq_true rfl) (Nat.le_trans (Nat.le_of_ble_eq_true rfl) hRf), Nat.le_trans (m := 43) (Nat.le_of_ble_eq_true rfl) (Nat.le_trans (Nat.le_of_ble_eq_true rfl) hRl)⟩) hN hK hP hD rfl rfl rfl hl.1 (Nat.le_of_ble_eq_true rfl) ⟨hRc, hRs⟩ dX3_endsDay_26) hD hS hA rfl (fun H locs hP hD hS => ?_)
          have hf_3 := age_bd hIi (i : Int) (by omega)
          refine lv_aload_n hx hb dX3_endsDay_29 rfl (lv_at hl 2 rfl) ?_
          refine va_get (D := D) (ci := 3) (v := .ref (am 0)) (C := RX3) (T := TX3) (N := 14) hx hb hq inA3 hown hK hP 0 rfl rfl 0 (by decide) (hq _ q_338) (fun _ h9 => h9) rfl dX3_endsDay_30 ?_
          refine z_iconst hx hb dX3_endsDay_33 ?_
          refine z_iald hx hb hK hP 1 0 rfl rfl (by omega) (by omega) (v := (gOf ((edS S i) 0) 11 2)) (s_11_2 _) dX3_endsDay_34 ?_
          refine z_icmp_lt (tgt := 46) hx hb dX3_endsDay_35 (by decide) (by omega) (by omega) (fun c_4 => ?_) (fun c_4 => ?_)
          · refine z_iconst hx hb dX3_endsDay_46 ?_
            refine z_iadd hx hb dX3_endsDay_47 ?_
            refine lv_istore_n (lv' := [(1, .int (iI ((edL S i) + 0))), (2, .int (iI (i : Int))), (0, .ref mo)]) hx hb dX3_endsDay_48 rfl hl (by decide) rfl (fun ls hl => ?_)
            refine lv_iinc (v := iI ((i : Int) + 1)) (lv' := [(2, .int (iI ((i : Int) + 1))), (1, .int (iI ((edL S i) + 0))), (0, .ref mo)]) hx hb dX3_endsDay_49 hl (k := 1) rfl (iI_add _ _) (by decide) rfl (fun ls hl => ?_)
            refine lv_goto (tgt := 8) hx hb dX3_endsDay_52 (by decide) ?_
            have e1_0 : (((i + 1 : Nat) : Int)) = ((i : Int) + 1) := by first | omega | (simp only [edL]; split <;> first | (exfalso; omega) | omega)
            have e1_1 : ((edL S (i + 1))) = ((edL S i) + 0) := by first | omega | (simp only [edL]; split <;> first | (exfalso; omega) | omega)
            have eG0 : (edS S (i + 1)) = (edS S i) := by (simp only [edS]; split <;> first | (exfalso; omega) | rfl)
            rw [← eG0] at hP hD
            exact ih8 (i + 1) (by omega) (by omega) _ _ _ hP hD hS (lv_to (lv_sub (l' := [(2, .int (iI ((i : Int) + 1))), (1, .int (iI ((edL S i) + 0))), (0, .ref mo)]) hl [0, 1, 2] rfl) (by simp only [e1_0, e1_1]))
          · refine lv_aload_n hx hb dX3_endsDay_38 rfl (lv_at hl 2 rfl) ?_
            refine lv_iload_n hx hb dX3_endsDay_39 rfl (lv_at hl 0 rfl) ?_
            refine mw_full (st1 := [.int (iI (wrongZ (gOf ((edS S i) 0)) (i : Int))), .int (iI (edL S i))]) (mr_V (As := [.int (iI (i : Int))]) (rest := [.int (iI (edL S i))]) (ci := 3) (q0 := 0) ⟨hx, hb, hml, hown, hts⟩ (m_X3_writesAnew l D mo am cI (edS S i) (i : Int) hIi (by omega) (by omega)) (cwV 1 hts (gV q_440 q_441 q_442 q_345 q_425) rfl rfl rfl (by decide +kernel) ⟨Nat.le_trans (m := 7) (Nat.le_of_ble_eq_true rfl) (Nat.le_trans (Nat.le_of_ble_eq_true rfl) hRf), Nat.le_trans (m := 155) (Nat.le_of_ble_eq_true rfl) (Nat.le_trans (Nat.le_of_ble_eq_true rfl) hRl)⟩) hN hK hP hD rfl rfl rfl hl.1 (Nat.le_of_ble_eq_true rfl) ⟨hRc, hRs⟩ dX3_endsDay_40) hD hS hA rfl (fun H locs hP hD hS => ?_)
            have hf_5 := wrongZ_bd (gOf ((edS S i) 0)) (i : Int)
            refine lv_goto (tgt := 47) hx hb dX3_endsDay_43 (by decide) ?_
            refine z_iadd hx hb dX3_endsDay_47 ?_
            refine lv_istore_n (lv' := [(1, .int (iI ((edL S i) + wrongZ (gOf ((edS S i) 0)) (i : Int)))), (2, .int (iI (i : Int))), (0, .ref mo)]) hx hb dX3_endsDay_48 rfl hl (by decide) rfl (fun ls hl => ?_)
            refine lv_iinc (v := iI ((i : Int) + 1)) (lv' := [(2, .int (iI ((i : Int) + 1))), (1, .int (iI ((edL S i) + wrongZ (gOf ((edS S i) 0)) (i : Int)))), (0, .ref mo)]) hx hb dX3_endsDay_49 hl (k := 1) rfl (iI_add _ _) (by decide) rfl (fun ls hl => ?_)
            refine lv_goto (tgt := 8) hx hb dX3_endsDay_52 (by decide) ?_
            have e1_0 : (((i + 1 : Nat) : Int)) = ((i : Int) + 1) := by first | omega | (simp only [edL]; split <;> first | (exfalso; omega) | omega)
            have e1_1 : ((edL S (i + 1))) = ((edL S i) + wrongZ (gOf ((edS S i) 0)) (i : Int)) := by first | omega | (simp only [edL]; split <;> first | (exfalso; omega) | omega)
            have eG0 : (edS S (i + 1)) = (waS (edS S i) (i : Int)) := by (simp only [edS]; split <;> first | (exfalso; omega) | rfl)
            rw [← eG0] at hP hD
            exact ih8 (i + 1) (by omega) (by omega) _ _ _ hP hD hS (lv_to (lv_sub (l' := [(2, .int (iI ((i : Int) + 1))), (1, .int (iI ((edL S i) + wrongZ (gOf ((edS S i) 0)) (i : Int)))), (0, .ref mo)]) hl [0, 1, 2] rfl) (by simp only [e1_0, e1_1]))
  have e0_0 : (((0 : Nat) : Int)) = 0 := by first | rfl | omega
  have e0_1 : ((edL S (0))) = 0 := by first | rfl | omega
  exact LP8 (6 + 1) 0 (by omega) (by omega) _ _ _ hP hD hS (lv_to (lv_sub (l' := [(2, .int (iI 0)), (1, .int (iI 0)), (0, .ref mo)]) hl [0, 1, 2] rfl) (by simp only [e0_0, e0_1]))
set_option maxHeartbeats 4000000 in
set_option maxRecDepth 100000 in
theorem m_X3_endsDays (l : Launch) (D : va_G) (mo : Nat) (am : Nat → Nat) (cI : ClassId) (S : Nat → Int → Int) (n : Int) {B : Int} (hI : InvG B (gOf (S 0))) (h1 : 1 ≤ n ∧ n ≤ 99) (hB : B + 6 * n ≤ 100000000) (hd : (gOf (S 0)) 12 0 + n ≤ 10000000)  : MW l D yX3_endsDays (wsY yX3_endsDays cX3_endsDays 4 (some .int)) { frames := 8, cells := 0, slots := 0, locals := 177 } [(cI, .int)] [.ref mo, .int (iI n)] (wM mo am cI S) (wM mo am cI (esS S n.toNat)) (some (.int (iI (esL S n.toNat)))) := by
  refine mw_ofI (cc := cX3_endsDays) (maxL := 4) (by decide) rfl (Nat.le_of_ble_eq_true rfl) ?_
  intro p e s m below meth c R A Q args ls hx hb hml hown hts hRf hRl hRc hRs hN hK hP hD hS hA hret hl
  have hq : ∀ w ∈ ALL, w.before args s = true := fun w h => hts w (List.mem_cons_of_mem _ h)
  have hl : lv_has ls 4 [(0, .ref mo), (1, .int (iI n))] := hl
  obtain ⟨N, hN0⟩ : ∃ N : Nat, N = n.toNat := ⟨_, rfl⟩
  have hNn : (N : Int) = n := by omega
  refine z_iconst hx hb dX3_endsDays_0 ?_
  refine lv_istore_n (lv' := [(2, .int (iI 0)), (0, .ref mo), (1, .int (iI n))]) hx hb dX3_endsDays_1 rfl hl (by decide) rfl (fun ls hl => ?_)
  refine z_iconst hx hb dX3_endsDays_2 ?_
  refine lv_istore_n (lv' := [(3, .int (iI 0)), (2, .int (iI 0)), (0, .ref mo), (1, .int (iI n))]) hx hb dX3_endsDays_3 rfl hl (by decide) rfl (fun ls hl => ?_)
  have LP4 : ∀ (fu i : Nat), i ≤ N → N < fu + i → ∀ (H : Heap) (locs : List Loc) (ls : Array Slot), va_P D vwCl (wM mo am cI (esS S i)) H → va_D A (wM mo am cI (esS S i)) → va_S A s.heap H locs → lv_has ls 4 [(3, .int (iI (i : Int))), (2, .int (iI (esL S i))), (0, .ref mo), (1, .int (iI n))] → W p l e R s m args below meth c H locs 0 0 Q (F0 m 4 ls []) := by
    intro fu
    induction fu with
    | zero => intro i h1 h2; omega
    | succ fu ih4 =>
      intro i hi1 hif H locs ls hP hD hS hl
      have hIi := inv_es hI i (by omega) (by omega)
      have hdi := es_12 hI i (by omega) (by omega)
      refine lv_iload_n hx hb dX3_endsDays_4 rfl (lv_at hl 0 rfl) ?_
      refine lv_iload_n hx hb dX3_endsDays_5 rfl (lv_at hl 3 rfl) ?_
      refine z_icmp_ge (tgt := 22) hx hb dX3_endsDays_6 (by decide) (by omega) (by omega) (fun c_1 => ?_) (fun c_1 => ?_)
      · have hiN : i = n.toNat := by omega
        refine lv_iload_n hx hb dX3_endsDays_22 rfl (lv_at hl 1 rfl) ?_
        refine z_as (show (esL S i) = esL S n.toNat from by (rw [hiN])) ?_
        have eW0 : esS S n.toNat = (esS S i) := by (rw [hiN])
        rw [← eW0] at hP hD
        first | exact hret _ _ _ _ dX3_endsDays_23 hP hD hS | (exfalso; omega)
      · refine lv_iload_n hx hb dX3_endsDays_9 rfl (lv_at hl 1 rfl) ?_
        refine lv_aload_n hx hb dX3_endsDays_10 rfl (lv_at hl 2 rfl) ?_
        refine mw_full (st1 := [.int (iI (edL (esS S i) 6)), .int (iI (esL S i))]) (mr_V (As := []) (rest := [.int (iI (esL S i))]) (ci := 3) (q0 := 0) ⟨hx, hb, hml, hown, hts⟩ (m_X3_endsDay l D mo am cI (esS S i)  hIi (by omega) (by omega)) (cwV 0 hts (gV q_444 q_445 q_446 q_345 q_443) rfl rfl rfl (by decide +kernel) ⟨Nat.le_trans (m := 8) (Nat.le_of_ble_eq_true rfl) (Nat.le_trans (Nat.le_of_ble_eq_true rfl) hRf), Nat.le_trans (m := 177) (Nat.le_of_ble_eq_true rfl) (Nat.le_trans (Nat.le_of_ble_eq_true rfl) hRl)⟩) hN hK hP hD rfl rfl rfl hl.1 (Nat.le_of_ble_eq_true rfl) ⟨hRc, hRs⟩ dX3_endsDays_11) hD hS hA rfl (fun H locs hP hD hS => ?_)
        have hf_2 := edL_bd (esS S i) 6
        refine z_iadd hx hb dX3_endsDays_14 ?_
        refine lv_istore_n (lv' := [(2, .int (iI ((esL S i) + edL (esS S i) 6))), (3, .int (iI (i : Int))), (0, .ref mo), (1, .int (iI n))]) hx hb dX3_endsDays_15 rfl hl (by decide) rfl (fun ls hl => ?_)
        refine lv_iinc (v := iI ((i : Int) + 1)) (lv' := [(3, .int (iI ((i : Int) + 1))), (2, .int (iI ((esL S i) + edL (esS S i) 6))), (0, .ref mo), (1, .int (iI n))]) hx hb dX3_endsDays_16 hl (k := 1) rfl (iI_add _ _) (by decide) rfl (fun ls hl => ?_)
        refine lv_goto (tgt := 4) hx hb dX3_endsDays_19 (by decide) ?_
        have e1_0 : (((i + 1 : Nat) : Int)) = ((i : Int) + 1) := by first | rfl | omega
        have e1_1 : ((esL S (i + 1))) = ((esL S i) + edL (esS S i) 6) := by first | rfl | omega
        have eG0 : (esS S (i + 1)) = (edS (esS S i) 6) := by rfl
        rw [← eG0] at hP hD
        exact ih4 (i + 1) (by omega) (by omega) _ _ _ hP hD hS (lv_to (lv_sub (l' := [(3, .int (iI ((i : Int) + 1))), (2, .int (iI ((esL S i) + edL (esS S i) 6))), (0, .ref mo), (1, .int (iI n))]) hl [0, 1, 2, 3] rfl) (by simp only [e1_0, e1_1]))
  have e0_0 : (((0 : Nat) : Int)) = 0 := by first | rfl | omega
  have e0_1 : ((esL S (0))) = 0 := by first | rfl | omega
  exact LP4 (N + 1) 0 (by omega) (by omega) _ _ _ hP hD hS (lv_to (lv_sub (l' := [(3, .int (iI 0)), (2, .int (iI 0)), (0, .ref mo), (1, .int (iI n))]) hl [0, 1, 2, 3] rfl) (by simp only [e0_0, e0_1]))
