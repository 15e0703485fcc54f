set_option maxHeartbeats 4000000 in
set_option maxRecDepth 100000 in
theorem m_X3_init (l : Launch) (D : va_G) (mo : Nat) (cI : ClassId) : MC l D yX3_init (wsY yX3_init cX3_init 3 none) { frames := 3, cells := 6, slots := 1946, locals := 72 } [(cI, .int)] [.ref mo] [(mo, .inr (3, [.null, .null, .null, .null, .int (iI 0), .null, .int (iI 0), .int (iI 0), .int (iI 0), .int (iI 0), .int (iI 0), .null, .int (iI 0), .int (iI 0)]))] (fun _ => True) 6 1946 (fun am : Nat → Nat => wM mo am cI sF) := by
  refine mc_of (cc := cX3_init) (maxL := 3) (by decide) rfl (Nat.le_of_ble_eq_true rfl) ?_
  intro p e s m below meth c R A Q args ls hx hb hml hown hts hRf hRl hRc hRs hN hK hP hD hS hA hret hl hin hE
  have hq : ∀ w ∈ ALL, w.before args s = true := fun w h => hts w (List.mem_cons_of_mem _ h)
  have hl : lv_has ls 3 [(0, .ref mo)] := hl
  refine lv_aload_n hx hb dX3_init_0 rfl (lv_at hl 0 rfl) ?_
  refine W.objInit hx hb hown (hq _ q_361) (hq _ q_15) (hq _ q_16) rfl (by rw [hml]; exact hl.1) rfl dX3_init_1 (Nat.le_trans (Nat.le_of_ble_eq_true rfl) hRf) (Nat.le_trans (Nat.le_of_ble_eq_true rfl) hRl) ?_
  refine W.eq (g2 := F0 m 4 ls []) rfl ?_
  refine lv_aload_n hx hb dX3_init_4 rfl (lv_at hl 0 rfl) ?_
  refine z_sipush hx hb dX3_init_5 (by decide +kernel) ?_
  refine x_newI hx hb (hq _ q_17) hK hP hD hS hA 0 rfl 269 rfl (by omega) (Nat.le_trans (Nat.le_of_ble_eq_true rfl) hRc) (Nat.le_trans (Nat.le_of_ble_eq_true rfl) hRs) dX3_init_8 (fun q8 H hP hD hS => ?_)
  have hP : va_P D vwCl [(mo, .inr (3, [.null, .null, .null, .null, .int (iI 0), .null, .int (iI 0), .int (iI 0), .int (iI 0), .int (iI 0), .int (iI 0), .null, .int (iI 0), .int (iI 0)])), (q8, .inl (cI, 269, .inl (aI (fun _ => 0))))] H := hP
  have hD : va_D A [(mo, .inr (3, [.null, .null, .null, .null, .int (iI 0), .null, .int (iI 0), .int (iI 0), .int (iI 0), .int (iI 0), .int (iI 0), .null, .int (iI 0), .int (iI 0)])), (q8, .inl (cI, 269, .inl (aI (fun _ => 0))))] := hD
  refine va_putF (D := D) (ci := 3) (v := .ref q8) (ty := tyX3 0) (C := RX3) (T := TX3) (N := 14) hx hb hq inA3 tyX3 tyX3_ok nmX3 hown hK hP hD hS 0 rfl rfl 0 (by decide) (hq _ q_338) (fun _ h9 => h9) rfl hin rfl (tyX3_ok 0 (by decide)) rfl rfl (Nat.le_of_ble_eq_true rfl) dX3_init_10 (fun H locs hP hD hS => ?_)
  have hP : va_P D vwCl [(mo, .inr (3, [.ref q8, .null, .null, .null, .int (iI 0), .null, .int (iI 0), .int (iI 0), .int (iI 0), .int (iI 0), .int (iI 0), .null, .int (iI 0), .int (iI 0)])), (q8, .inl (cI, 269, .inl (aI (fun _ => 0))))] H := hP
  have hD : va_D A [(mo, .inr (3, [.ref q8, .null, .null, .null, .int (iI 0), .null, .int (iI 0), .int (iI 0), .int (iI 0), .int (iI 0), .int (iI 0), .null, .int (iI 0), .int (iI 0)])), (q8, .inl (cI, 269, .inl (aI (fun _ => 0))))] := hD
  refine lv_aload_n hx hb dX3_init_13 rfl (lv_at hl 0 rfl) ?_
  refine z_sipush hx hb dX3_init_14 (by decide +kernel) ?_
  refine x_newI hx hb (hq _ q_17) hK hP hD hS hA 0 rfl 269 rfl (by omega) (Nat.le_trans (Nat.le_of_ble_eq_true rfl) hRc) (Nat.le_trans (Nat.le_of_ble_eq_true rfl) hRs) dX3_init_17 (fun q17 H hP hD hS => ?_)
  have hP : va_P D vwCl [(mo, .inr (3, [.ref q8, .null, .null, .null, .int (iI 0), .null, .int (iI 0), .int (iI 0), .int (iI 0), .int (iI 0), .int (iI 0), .null, .int (iI 0), .int (iI 0)])), (q8, .inl (cI, 269, .inl (aI (fun _ => 0)))), (q17, .inl (cI, 269, .inl (aI (fun _ => 0))))] H := hP
  have hD : va_D A [(mo, .inr (3, [.ref q8, .null, .null, .null, .int (iI 0), .null, .int (iI 0), .int (iI 0), .int (iI 0), .int (iI 0), .int (iI 0), .null, .int (iI 0), .int (iI 0)])), (q8, .inl (cI, 269, .inl (aI (fun _ => 0)))), (q17, .inl (cI, 269, .inl (aI (fun _ => 0))))] := hD
  refine va_putF (D := D) (ci := 3) (v := .ref q17) (ty := tyX3 1) (C := RX3) (T := TX3) (N := 14) hx hb hq inA3 tyX3 tyX3_ok nmX3 hown hK hP hD hS 0 rfl rfl 1 (by decide) (hq _ q_362) (fun _ h9 => h9) rfl hin rfl (tyX3_ok 1 (by decide)) rfl rfl (Nat.le_of_ble_eq_true rfl) dX3_init_19 (fun H locs hP hD hS => ?_)
  have hP : va_P D vwCl [(mo, .inr (3, [.ref q8, .ref q17, .null, .null, .int (iI 0), .null, .int (iI 0), .int (iI 0), .int (iI 0), .int (iI 0), .int (iI 0), .null, .int (iI 0), .int (iI 0)])), (q8, .inl (cI, 269, .inl (aI (fun _ => 0)))), (q17, .inl (cI, 269, .inl (aI (fun _ => 0))))] H := hP
  have hD : va_D A [(mo, .inr (3, [.ref q8, .ref q17, .null, .null, .int (iI 0), .null, .int (iI 0), .int (iI 0), .int (iI 0), .int (iI 0), .int (iI 0), .null, .int (iI 0), .int (iI 0)])), (q8, .inl (cI, 269, .inl (aI (fun _ => 0)))), (q17, .inl (cI, 269, .inl (aI (fun _ => 0))))] := hD
  refine lv_aload_n hx hb dX3_init_22 rfl (lv_at hl 0 rfl) ?_
  refine z_sipush hx hb dX3_init_23 (by decide +kernel) ?_
  refine x_newI hx hb (hq _ q_17) hK hP hD hS hA 0 rfl 269 rfl (by omega) (Nat.le_trans (Nat.le_of_ble_eq_true rfl) hRc) (Nat.le_trans (Nat.le_of_ble_eq_true rfl) hRs) dX3_init_26 (fun q26 H hP hD hS => ?_)
  have hP : va_P D vwCl [(mo, .inr (3, [.ref q8, .ref q17, .null, .null, .int (iI 0), .null, .int (iI 0), .int (iI 0), .int (iI 0), .int (iI 0), .int (iI 0), .null, .int (iI 0), .int (iI 0)])), (q8, .inl (cI, 269, .inl (aI (fun _ => 0)))), (q17, .inl (cI, 269, .inl (aI (fun _ => 0)))), (q26, .inl (cI, 269, .inl (aI (fun _ => 0))))] H := hP
  have hD : va_D A [(mo, .inr (3, [.ref q8, .ref q17, .null, .null, .int (iI 0), .null, .int (iI 0), .int (iI 0), .int (iI 0), .int (iI 0), .int (iI 0), .null, .int (iI 0), .int (iI 0)])), (q8, .inl (cI, 269, .inl (aI (fun _ => 0)))), (q17, .inl (cI, 269, .inl (aI (fun _ => 0)))), (q26, .inl (cI, 269, .inl (aI (fun _ => 0))))] := hD
  refine va_putF (D := D) (ci := 3) (v := .ref q26) (ty := tyX3 2) (C := RX3) (T := TX3) (N := 14) hx hb hq inA3 tyX3 tyX3_ok nmX3 hown hK hP hD hS 0 rfl rfl 2 (by decide) (hq _ q_363) (fun _ h9 => h9) rfl hin rfl (tyX3_ok 2 (by decide)) rfl rfl (Nat.le_of_ble_eq_true rfl) dX3_init_28 (fun H locs hP hD hS => ?_)
  have hP : va_P D vwCl [(mo, .inr (3, [.ref q8, .ref q17, .ref q26, .null, .int (iI 0), .null, .int (iI 0), .int (iI 0), .int (iI 0), .int (iI 0), .int (iI 0), .null, .int (iI 0), .int (iI 0)])), (q8, .inl (cI, 269, .inl (aI (fun _ => 0)))), (q17, .inl (cI, 269, .inl (aI (fun _ => 0)))), (q26, .inl (cI, 269, .inl (aI (fun _ => 0))))] H := hP
  have hD : va_D A [(mo, .inr (3, [.ref q8, .ref q17, .ref q26, .null, .int (iI 0), .null, .int (iI 0), .int (iI 0), .int (iI 0), .int (iI 0), .int (iI 0), .null, .int (iI 0), .int (iI 0)])), (q8, .inl (cI, 269, .inl (aI (fun _ => 0)))), (q17, .inl (cI, 269, .inl (aI (fun _ => 0)))), (q26, .inl (cI, 269, .inl (aI (fun _ => 0))))] := hD
  refine lv_aload_n hx hb dX3_init_31 rfl (lv_at hl 0 rfl) ?_
  refine z_sipush hx hb dX3_init_32 (by decide +kernel) ?_
  refine x_newI hx hb (hq _ q_17) hK hP hD hS hA 0 rfl 1076 rfl (by omega) (Nat.le_trans (Nat.le_of_ble_eq_true rfl) hRc) (Nat.le_trans (Nat.le_of_ble_eq_true rfl) hRs) dX3_init_35 (fun q35 H hP hD hS => ?_)
  have hP : va_P D vwCl [(mo, .inr (3, [.ref q8, .ref q17, .ref q26, .null, .int (iI 0), .null, .int (iI 0), .int (iI 0), .int (iI 0), .int (iI 0), .int (iI 0), .null, .int (iI 0), .int (iI 0)])), (q8, .inl (cI, 269, .inl (aI (fun _ => 0)))), (q17, .inl (cI, 269, .inl (aI (fun _ => 0)))), (q26, .inl (cI, 269, .inl (aI (fun _ => 0)))), (q35, .inl (cI, 1076, .inl (aI (fun _ => 0))))] H := hP
  have hD : va_D A [(mo, .inr (3, [.ref q8, .ref q17, .ref q26, .null, .int (iI 0), .null, .int (iI 0), .int (iI 0), .int (iI 0), .int (iI 0), .int (iI 0), .null, .int (iI 0), .int (iI 0)])), (q8, .inl (cI, 269, .inl (aI (fun _ => 0)))), (q17, .inl (cI, 269, .inl (aI (fun _ => 0)))), (q26, .inl (cI, 269, .inl (aI (fun _ => 0)))), (q35, .inl (cI, 1076, .inl (aI (fun _ => 0))))] := hD
  refine va_putF (D := D) (ci := 3) (v := .ref q35) (ty := tyX3 3) (C := RX3) (T := TX3) (N := 14) hx hb hq inA3 tyX3 tyX3_ok nmX3 hown hK hP hD hS 0 rfl rfl 3 (by decide) (hq _ q_364) (fun _ h9 => h9) rfl hin rfl (tyX3_ok 3 (by decide)) rfl rfl (Nat.le_of_ble_eq_true rfl) dX3_init_37 (fun H locs hP hD hS => ?_)
  have hP : va_P D vwCl [(mo, .inr (3, [.ref q8, .ref q17, .ref q26, .ref q35, .int (iI 0), .null, .int (iI 0), .int (iI 0), .int (iI 0), .int (iI 0), .int (iI 0), .null, .int (iI 0), .int (iI 0)])), (q8, .inl (cI, 269, .inl (aI (fun _ => 0)))), (q17, .inl (cI, 269, .inl (aI (fun _ => 0)))), (q26, .inl (cI, 269, .inl (aI (fun _ => 0)))), (q35, .inl (cI, 1076, .inl (aI (fun _ => 0))))] H := hP
  have hD : va_D A [(mo, .inr (3, [.ref q8, .ref q17, .ref q26, .ref q35, .int (iI 0), .null, .int (iI 0), .int (iI 0), .int (iI 0), .int (iI 0), .int (iI 0), .null, .int (iI 0), .int (iI 0)])), (q8, .inl (cI, 269, .inl (aI (fun _ => 0)))), (q17, .inl (cI, 269, .inl (aI (fun _ => 0)))), (q26, .inl (cI, 269, .inl (aI (fun _ => 0)))), (q35, .inl (cI, 1076, .inl (aI (fun _ => 0))))] := hD
  refine lv_aload_n hx hb dX3_init_40 rfl (lv_at hl 0 rfl) ?_
  refine z_bipush hx hb dX3_init_41 (by decide +kernel) ?_
  refine x_newI hx hb (hq _ q_17) hK hP hD hS hA 0 rfl 60 rfl (by omega) (Nat.le_trans (Nat.le_of_ble_eq_true rfl) hRc) (Nat.le_trans (Nat.le_of_ble_eq_true rfl) hRs) dX3_init_43 (fun q43 H hP hD hS => ?_)
  have hP : va_P D vwCl [(mo, .inr (3, [.ref q8, .ref q17, .ref q26, .ref q35, .int (iI 0), .null, .int (iI 0), .int (iI 0), .int (iI 0), .int (iI 0), .int (iI 0), .null, .int (iI 0), .int (iI 0)])), (q8, .inl (cI, 269, .inl (aI (fun _ => 0)))), (q17, .inl (cI, 269, .inl (aI (fun _ => 0)))), (q26, .inl (cI, 269, .inl (aI (fun _ => 0)))), (q35, .inl (cI, 1076, .inl (aI (fun _ => 0)))), (q43, .inl (cI, 60, .inl (aI (fun _ => 0))))] H := hP
  have hD : va_D A [(mo, .inr (3, [.ref q8, .ref q17, .ref q26, .ref q35, .int (iI 0), .null, .int (iI 0), .int (iI 0), .int (iI 0), .int (iI 0), .int (iI 0), .null, .int (iI 0), .int (iI 0)])), (q8, .inl (cI, 269, .inl (aI (fun _ => 0)))), (q17, .inl (cI, 269, .inl (aI (fun _ => 0)))), (q26, .inl (cI, 269, .inl (aI (fun _ => 0)))), (q35, .inl (cI, 1076, .inl (aI (fun _ => 0)))), (q43, .inl (cI, 60, .inl (aI (fun _ => 0))))] := hD
  refine va_putF (D := D) (ci := 3) (v := .ref q43) (ty := tyX3 5) (C := RX3) (T := TX3) (N := 14) hx hb hq inA3 tyX3 tyX3_ok nmX3 hown hK hP hD hS 0 rfl rfl 5 (by decide) (hq _ q_365) (fun _ h9 => h9) rfl hin rfl (tyX3_ok 5 (by decide)) rfl rfl (Nat.le_of_ble_eq_true rfl) dX3_init_45 (fun H locs hP hD hS => ?_)
  have hP : va_P D vwCl [(mo, .inr (3, [.ref q8, .ref q17, .ref q26, .ref q35, .int (iI 0), .ref q43, .int (iI 0), .int (iI 0), .int (iI 0), .int (iI 0), .int (iI 0), .null, .int (iI 0), .int (iI 0)])), (q8, .inl (cI, 269, .inl (aI (fun _ => 0)))), (q17, .inl (cI, 269, .inl (aI (fun _ => 0)))), (q26, .inl (cI, 269, .inl (aI (fun _ => 0)))), (q35, .inl (cI, 1076, .inl (aI (fun _ => 0)))), (q43, .inl (cI, 60, .inl (aI (fun _ => 0))))] H := hP
  have hD : va_D A [(mo, .inr (3, [.ref q8, .ref q17, .ref q26, .ref q35, .int (iI 0), .ref q43, .int (iI 0), .int (iI 0), .int (iI 0), .int (iI 0), .int (iI 0), .null, .int (iI 0), .int (iI 0)])), (q8, .inl (cI, 269, .inl (aI (fun _ => 0)))), (q17, .inl (cI, 269, .inl (aI (fun _ => 0)))), (q26, .inl (cI, 269, .inl (aI (fun _ => 0)))), (q35, .inl (cI, 1076, .inl (aI (fun _ => 0)))), (q43, .inl (cI, 60, .inl (aI (fun _ => 0))))] := hD
  refine lv_aload_n hx hb dX3_init_48 rfl (lv_at hl 0 rfl) ?_
  refine z_iconst hx hb dX3_init_49 ?_
  refine x_newI hx hb (hq _ q_17) hK hP hD hS hA 0 rfl 3 rfl (by omega) (Nat.le_trans (Nat.le_of_ble_eq_true rfl) hRc) (Nat.le_trans (Nat.le_of_ble_eq_true rfl) hRs) dX3_init_50 (fun q50 H hP hD hS => ?_)
  have hP : va_P D vwCl [(mo, .inr (3, [.ref q8, .ref q17, .ref q26, .ref q35, .int (iI 0), .ref q43, .int (iI 0), .int (iI 0), .int (iI 0), .int (iI 0), .int (iI 0), .null, .int (iI 0), .int (iI 0)])), (q8, .inl (cI, 269, .inl (aI (fun _ => 0)))), (q17, .inl (cI, 269, .inl (aI (fun _ => 0)))), (q26, .inl (cI, 269, .inl (aI (fun _ => 0)))), (q35, .inl (cI, 1076, .inl (aI (fun _ => 0)))), (q43, .inl (cI, 60, .inl (aI (fun _ => 0)))), (q50, .inl (cI, 3, .inl (aI (fun _ => 0))))] H := hP
  have hD : va_D A [(mo, .inr (3, [.ref q8, .ref q17, .ref q26, .ref q35, .int (iI 0), .ref q43, .int (iI 0), .int (iI 0), .int (iI 0), .int (iI 0), .int (iI 0), .null, .int (iI 0), .int (iI 0)])), (q8, .inl (cI, 269, .inl (aI (fun _ => 0)))), (q17, .inl (cI, 269, .inl (aI (fun _ => 0)))), (q26, .inl (cI, 269, .inl (aI (fun _ => 0)))), (q35, .inl (cI, 1076, .inl (aI (fun _ => 0)))), (q43, .inl (cI, 60, .inl (aI (fun _ => 0)))), (q50, .inl (cI, 3, .inl (aI (fun _ => 0))))] := hD
  refine va_putF (D := D) (ci := 3) (v := .ref q50) (ty := tyX3 11) (C := RX3) (T := TX3) (N := 14) hx hb hq inA3 tyX3 tyX3_ok nmX3 hown hK hP hD hS 0 rfl rfl 11 (by decide) (hq _ q_366) (fun _ h9 => h9) rfl hin rfl (tyX3_ok 11 (by decide)) rfl rfl (Nat.le_of_ble_eq_true rfl) dX3_init_52 (fun H locs hP hD hS => ?_)
  have hP : va_P D vwCl [(mo, .inr (3, [.ref q8, .ref q17, .ref q26, .ref q35, .int (iI 0), .ref q43, .int (iI 0), .int (iI 0), .int (iI 0), .int (iI 0), .int (iI 0), .ref q50, .int (iI 0), .int (iI 0)])), (q8, .inl (cI, 269, .inl (aI (fun _ => 0)))), (q17, .inl (cI, 269, .inl (aI (fun _ => 0)))), (q26, .inl (cI, 269, .inl (aI (fun _ => 0)))), (q35, .inl (cI, 1076, .inl (aI (fun _ => 0)))), (q43, .inl (cI, 60, .inl (aI (fun _ => 0)))), (q50, .inl (cI, 3, .inl (aI (fun _ => 0))))] H := hP
  have hD : va_D A [(mo, .inr (3, [.ref q8, .ref q17, .ref q26, .ref q35, .int (iI 0), .ref q43, .int (iI 0), .int (iI 0), .int (iI 0), .int (iI 0), .int (iI 0), .ref q50, .int (iI 0), .int (iI 0)])), (q8, .inl (cI, 269, .inl (aI (fun _ => 0)))), (q17, .inl (cI, 269, .inl (aI (fun _ => 0)))), (q26, .inl (cI, 269, .inl (aI (fun _ => 0)))), (q35, .inl (cI, 1076, .inl (aI (fun _ => 0)))), (q43, .inl (cI, 60, .inl (aI (fun _ => 0)))), (q50, .inl (cI, 3, .inl (aI (fun _ => 0))))] := hD
  refine W.widen (k := 6) (n := 1946) (Nat.le_of_ble_eq_true rfl) (Nat.le_of_ble_eq_true rfl) ?_
  obtain ⟨am, ham⟩ : ∃ am : Nat → Nat, am = (fun k : Nat => (if k = 0 then q8 else (if k = 1 then q17 else (if k = 2 then q26 else (if k = 3 then q35 else (if k = 5 then q43 else (if k = 11 then q50 else 0))))))) := ⟨_, rfl⟩
  have hP : va_P D vwCl (wM mo am cI zS) H := by rw [ham]; exact hP
  have hD : va_D A (wM mo am cI zS) := by rw [ham]; exact hD
  refine lv_aload_n hx hb dX3_init_55 rfl (lv_at hl 0 rfl) ?_
  refine va_get (D := D) (ci := 3) (v := .ref (am 0)) (C := RX3) (T := TX3) (N := 14) hx hb hq inA3 hown hK hP 0 rfl rfl 0 (by decide) (hq _ q_338) (fun _ h9 => h9) rfl dX3_init_56 ?_
  refine z_iconst hx hb dX3_init_59 ?_
  refine z_sipush hx hb dX3_init_60 (by decide +kernel) ?_
  refine z_iast (w1 := (wM mo am cI (upG zS 0 1 500))) hx hb hK hP hD hS 1 0 rfl rfl (by omega) (by omega) (wM_set0 _ _ _ _ _ _) dX3_init_63 (fun H locs hP hD hS => ?_)
  refine lv_aload_n hx hb dX3_init_64 rfl (lv_at hl 0 rfl) ?_
  refine va_get (D := D) (ci := 3) (v := .ref (am 0)) (C := RX3) (T := TX3) (N := 14) hx hb hq inA3 hown hK hP 0 rfl rfl 0 (by decide) (hq _ q_338) (fun _ h9 => h9) rfl dX3_init_65 ?_
  refine z_iconst hx hb dX3_init_68 ?_
  refine z_bipush hx hb dX3_init_69 (by decide +kernel) ?_
  refine z_iast (w1 := (wM mo am cI (upG (upG zS 0 1 500) 0 2 40))) hx hb hK hP hD hS 1 0 rfl rfl (by omega) (by omega) (wM_set0 _ _ _ _ _ _) dX3_init_71 (fun H locs hP hD hS => ?_)
  refine z_iconst hx hb dX3_init_72 ?_
  refine lv_istore_n (lv' := [(1, .int (iI 0)), (0, .ref mo)]) hx hb dX3_init_73 rfl hl (by decide) rfl (fun ls hl => ?_)
  have LP74 : ∀ (fu i : Nat), i ≤ 6 → 6 < fu + i → ∀ (H : Heap) (locs : List Loc) (ls : Array Slot), va_P D vwCl (wM mo am cI (sR i)) H → va_D A (wM mo am cI (sR i)) → va_S A s.heap H locs → lv_has ls 3 [(1, .int (iI (i : Int))), (0, .ref mo)] → W p l e R s m args below meth c H locs 6 1946 Q (F0 m 74 ls []) := by
    intro fu
    induction fu with
    | zero => intro i h1 h2; omega
    | succ fu ih74 =>
      intro i hi1 hif H locs ls hP hD hS hl
      have hIa := sR_W i (by omega)
      refine lv_iload_n hx hb dX3_init_74 rfl (lv_at hl 0 rfl) ?_
      refine z_bipush hx hb dX3_init_75 (by decide +kernel) ?_
      refine z_icmp_ge (tgt := 121) hx hb dX3_init_77 (by decide) (by omega) (by omega) (fun c_1 => ?_) (fun c_1 => ?_)
      · have hi6 : i = 6 := by omega
        refine lv_aload_n hx hb dX3_init_121 rfl (lv_at hl 1 rfl) ?_
        refine va_get (D := D) (ci := 3) (v := .ref (am 0)) (C := RX3) (T := TX3) (N := 14) hx hb hq inA3 hown hK hP 0 rfl rfl 0 (by decide) (hq _ q_338) (fun _ h9 => h9) rfl dX3_init_122 ?_
        refine z_iconst hx hb dX3_init_125 ?_
        refine z_iconst hx hb dX3_init_126 ?_
        refine z_iast (w1 := (wM mo am cI (upG (sR i) 0 5 0))) hx hb hK hP hD hS 1 0 rfl rfl (by omega) (by omega) (wM_set0 _ _ _ _ _ _) dX3_init_127 (fun H locs hP hD hS => ?_)
        (rw [hi6] at hP hD; exact hret am _ _ _ _ dX3_init_128 hP hD hS)
      · refine lv_aload_n hx hb dX3_init_80 rfl (lv_at hl 1 rfl) ?_
        refine lv_iload_n hx hb dX3_init_81 rfl (lv_at hl 0 rfl) ?_
        refine z_iconst hx hb dX3_init_82 ?_
        refine z_bipush hx hb dX3_init_83 (by decide +kernel) ?_
        have hIl : InvW (8 * (i : Int)) (gOf (lyZ (sR i) 6 (i : Int) 20 0)) := by rw [gOf_ly _ _ (show 0 ≤ (i : Int) ∧ (i : Int) < lenZ 6 from ⟨by omega, by show (i : Int) < 6; omega⟩)]; exact invW_upk hIa 6 _ _ (by decide) (by decide) (by decide) (by decide)
        refine mw_full (st1 := []) (mr_V (As := [.int (iI (i : Int)), .int (iI 0), .int (iI 20)]) (rest := []) (ci := 3) (q0 := 0) ⟨hx, hb, hml, hown, hts⟩ (m_X3_lays l D mo am cI (sR i) (i : Int) 0 20 6 (i : Int) (ix_ofr 6 (by omega) (by omega) (by omega))) (cwV 3 hts (gV q_348 q_349 q_350 q_345 q_339) rfl rfl rfl (by decide +kernel) ⟨Nat.le_trans (m := 1) (Nat.le_of_ble_eq_true rfl) (Nat.le_trans (Nat.le_of_ble_eq_true rfl) hRf), Nat.le_trans (m := 23) (Nat.le_of_ble_eq_true rfl) (Nat.le_trans (Nat.le_of_ble_eq_true rfl) hRl)⟩) hN hK hP hD rfl rfl rfl hl.1 (Nat.le_of_ble_eq_true rfl) ⟨Nat.le_trans (Nat.le_of_ble_eq_true rfl) hRc, Nat.le_trans (Nat.le_of_ble_eq_true rfl) hRs⟩ dX3_init_85) hD hS hA rfl (fun H locs hP hD hS => ?_)
        skip
        refine lv_aload_n hx hb dX3_init_88 rfl (lv_at hl 1 rfl) ?_
        refine lv_iload_n hx hb dX3_init_89 rfl (lv_at hl 0 rfl) ?_
        refine mw_full (st1 := []) (mr_V (As := [.int (iI (i : Int))]) (rest := []) (ci := 3) (q0 := 0) ⟨hx, hb, hml, hown, hts⟩ (m_X3_writesGuards_w l D mo am cI (lyZ (sR i) 6 (i : Int) 20) (i : Int) hIl (by omega)) (cwV 1 hts (gV q_367 q_368 q_369 q_345 q_351) rfl rfl rfl (by decide +kernel) ⟨Nat.le_trans (m := 2) (Nat.le_of_ble_eq_true rfl) (Nat.le_trans (Nat.le_of_ble_eq_true rfl) hRf), Nat.le_trans (m := 45) (Nat.le_of_ble_eq_true rfl) (Nat.le_trans (Nat.le_of_ble_eq_true rfl) hRl)⟩) hN hK hP hD rfl rfl rfl hl.1 (Nat.le_of_ble_eq_true rfl) ⟨Nat.le_trans (Nat.le_of_ble_eq_true rfl) hRc, Nat.le_trans (Nat.le_of_ble_eq_true rfl) hRs⟩ dX3_init_90) hD hS hA rfl (fun H locs hP hD hS => ?_)
        refine z_iconst hx hb dX3_init_93 ?_
        refine lv_istore_n (lv' := [(2, .int (iI 0)), (1, .int (iI (i : Int))), (0, .ref mo)]) hx hb dX3_init_94 rfl hl (by decide) rfl (fun ls hl => ?_)
        have LP95 : ∀ (fu j : Nat), j ≤ 8 → 8 < fu + j → ∀ (H : Heap) (locs : List Loc) (ls : Array Slot), va_P D vwCl (wM mo am cI (sC (sR i) (i : Int) j)) H → va_D A (wM mo am cI (sC (sR i) (i : Int) j)) → va_S A s.heap H locs → lv_has ls 3 [(2, .int (iI (j : Int))), (1, .int (iI (i : Int))), (0, .ref mo)] → W p l e R s m args below meth c H locs 6 1946 Q (F0 m 95 ls []) := by
          intro fu
          induction fu with
          | zero => intro j h1 h2; omega
          | succ fu ih95 =>
            intro j hj1 hjf H locs ls hP hD hS hl
            have hIb := sC_W hIa (by omega) (r := (i : Int)) (by omega) j (by omega)
            refine lv_iload_n hx hb dX3_init_95 rfl (lv_at hl 0 rfl) ?_
            refine z_bipush hx hb dX3_init_96 (by decide +kernel) ?_
            refine z_icmp_ge (tgt := 115) hx hb dX3_init_98 (by decide) (by omega) (by omega) (fun c_3 => ?_) (fun c_3 => ?_)
            · have hj8 : j = 8 := by omega
              refine lv_iinc (v := iI ((i : Int) + 1)) (lv' := [(1, .int (iI ((i : Int) + 1))), (2, .int (iI (j : Int))), (0, .ref mo)]) hx hb dX3_init_115 hl (k := 1) rfl (iI_add _ _) (by decide) rfl (fun ls hl => ?_)
              refine lv_goto (tgt := 74) hx hb dX3_init_118 (by decide) ?_
              have e1_0 : (((i + 1 : Nat) : Int)) = ((i : Int) + 1) := by first | rfl | omega
              have eG0 : (sR (i + 1)) = (sC (sR i) (i : Int) j) := by (rw [hj8]; rfl)
              rw [← eG0] at hP hD
              exact ih74 (i + 1) (by omega) (by omega) _ _ _ hP hD hS (lv_to (lv_sub (l' := [(1, .int (iI ((i : Int) + 1))), (0, .ref mo)]) hl [0, 2] rfl) (by simp only [e1_0]))
            · refine lv_aload_n hx hb dX3_init_101 rfl (lv_at hl 2 rfl) ?_
              refine lv_iload_n hx hb dX3_init_102 rfl (lv_at hl 1 rfl) ?_
              refine lv_iload_n hx hb dX3_init_103 rfl (lv_at hl 0 rfl) ?_
              refine z_iconst hx hb dX3_init_104 ?_
              refine mw_full (st1 := [.int (iI (aimZ 0 + ((37 * (8 * (i : Int) + (j : Int)) + 11 * (gOf ((sC (sR i) (i : Int) j) 0)) 2 (8 * (i : Int) + (j : Int))) % 21 - 10)))]) (mr_V (As := [.int (iI (i : Int)), .int (iI (j : Int)), .int (iI 0)]) (rest := []) (ci := 3) (q0 := 0) ⟨hx, hb, hml, hown, hts⟩ (m_X3_writes_w l D mo am cI (sC (sR i) (i : Int) j) (i : Int) (j : Int) 0 hIb (by omega) (by omega)) (cwV 3 hts (gV q_370 q_371 q_372 q_345 q_360) rfl rfl rfl (by decide +kernel) ⟨Nat.le_trans (m := 3) (Nat.le_of_ble_eq_true rfl) (Nat.le_trans (Nat.le_of_ble_eq_true rfl) hRf), Nat.le_trans (m := 72) (Nat.le_of_ble_eq_true rfl) (Nat.le_trans (Nat.le_of_ble_eq_true rfl) hRl)⟩) hN hK hP hD rfl rfl rfl hl.1 (Nat.le_of_ble_eq_true rfl) ⟨Nat.le_trans (Nat.le_of_ble_eq_true rfl) hRc, Nat.le_trans (Nat.le_of_ble_eq_true rfl) hRs⟩ dX3_init_105) hD hS hA rfl (fun H locs hP hD hS => ?_)
              refine lv_pop hx hb dX3_init_108 rfl ?_
              refine lv_iinc (v := iI ((j : Int) + 1)) (lv' := [(2, .int (iI ((j : Int) + 1))), (1, .int (iI (i : Int))), (0, .ref mo)]) hx hb dX3_init_109 hl (k := 0) rfl (iI_add _ _) (by decide) rfl (fun ls hl => ?_)
              refine lv_goto (tgt := 95) hx hb dX3_init_112 (by decide) ?_
              have e1_0 : (((j + 1 : Nat) : Int)) = ((j : Int) + 1) := by first | rfl | omega
              have eG0 : (sC (sR i) (i : Int) (j + 1)) = (wrS (sC (sR i) (i : Int) j) (i : Int) (j : Int) 0) := by rfl
              rw [← eG0] at hP hD
              exact ih95 (j + 1) (by omega) (by omega) _ _ _ hP hD hS (lv_to (lv_sub (l' := [(2, .int (iI ((j : Int) + 1))), (1, .int (iI (i : Int))), (0, .ref mo)]) hl [0, 1, 2] rfl) (by simp only [e1_0]))
        have e0_0 : (((0 : Nat) : Int)) = 0 := by first | rfl | omega
        exact LP95 (8 + 1) 0 (by omega) (by omega) _ _ _ hP hD hS (lv_to (lv_sub (l' := [(2, .int (iI 0)), (1, .int (iI (i : Int))), (0, .ref mo)]) hl [0, 1, 2] rfl) (by simp only [e0_0]))
  have e0_0 : (((0 : Nat) : Int)) = 0 := by first | rfl | omega
  have hP : va_P D vwCl (wM mo am cI (sR 0)) H := hP
  have hD : va_D A (wM mo am cI (sR 0)) := hD
  exact LP74 (6 + 1) 0 (by omega) (by omega) _ _ _ hP hD hS (lv_to (lv_sub (l' := [(1, .int (iI 0)), (0, .ref mo)]) hl [0, 1] rfl) (by simp only [e0_0]))
