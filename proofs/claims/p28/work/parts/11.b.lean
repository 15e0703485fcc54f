set_option maxHeartbeats 4000000 in
set_option maxRecDepth 100000 in
theorem m_X0_writeLevel (l : Launch) (D : va_G) (g : Nat) (ad : Nat → Nat) (cI : ClassId) (G : Nat → Int → Int) (r c2 v : Int) {B : Int} (hI : InvG B G) (hB : B + 1 ≤ 100000000) (h1 : 0 ≤ r ∧ r < 6) (h2 : 0 ≤ c2 ∧ c2 < 8) (h3 : 0 ≤ v ∧ v < 3)  : MW l D yX0_writeLevel (wsY yX0_writeLevel cX0_writeLevel 5 (some .int)) { frames := 2, cells := 0, slots := 0, locals := 43 } [(cI, .int)] [.ref g, .int (iI r), .int (iI c2), .int (iI v)] (wG g ad cI G) (wG g ad cI (putZ G (8 * r + c2) v)) (some (.int (iI (putZ G (8 * r + c2) v 1 (8 * r + c2))))) := by
  refine mw_ofI (cc := cX0_writeLevel) (maxL := 5) (by decide) rfl (Nat.le_of_ble_eq_true rfl) ?_
  intro p e s m below meth c R A Q args ls hx hb hml hown hts hRf hRl hRc hRs hN hK hP hD hS hA hret hl
  have hq : ∀ w ∈ ALL, w.before args s = true := fun w h => hts w (List.mem_cons_of_mem _ h)
  have hl : lv_has ls 5 [(0, .ref g), (1, .int (iI r)), (2, .int (iI c2)), (3, .int (iI v))] := hl
  refine lv_iload_n hx hb dX0_writeLevel_0 rfl (lv_at hl 1 rfl) ?_
  refine lv_iload_n hx hb dX0_writeLevel_1 rfl (lv_at hl 2 rfl) ?_
  refine mw_none (st1 := [.int (iI (if (r < 0 ∨ 5 < r) ∨ (c2 < 0 ∨ 7 < c2) then 1 else 0 : Int))]) (mr_S (As := [.int (iI r), .int (iI c2)]) (rest := []) ⟨hx, hb, hml, hown, hts⟩ (m_X0_isOutsideCell l D r c2 (by omega) (by omega)) (va_cwS 2 hts (gS q_40 q_41 q_8 q_38) rfl rfl rfl (by decide +kernel) ⟨Nat.le_trans (m := 2) (Nat.le_of_ble_eq_true rfl) (Nat.le_trans (Nat.le_of_ble_eq_true rfl) hRf), Nat.le_trans (m := 43) (Nat.le_of_ble_eq_true rfl) (Nat.le_trans (Nat.le_of_ble_eq_true rfl) hRl)⟩) hN (hK.sub (tys' := []) [] rfl) (va_P0 _ _ _) (va_D0 A) rfl hl.1 (Nat.le_of_ble_eq_true rfl) ⟨hRc, hRs⟩ dX0_writeLevel_2) hP hS hA rfl (fun H locs hP hS => ?_)
  refine z_if_ne (tgt := 17) hx hb dX0_writeLevel_5 (by decide) (by omega) (fun c_1 => absurd c_1 (by omega)) (fun c_1 => ?_)
  refine lv_iload_n hx hb dX0_writeLevel_8 rfl (lv_at hl 3 rfl) ?_
  refine z_iconst hx hb dX0_writeLevel_9 ?_
  refine z_iconst hx hb dX0_writeLevel_10 ?_
  refine mw_none (st1 := [.int (iI (outZ v 0 2))]) (mr_SN (As := [.int (iI v), .int (iI 0), .int (iI 2)]) (rest := []) ⟨hx, hb, hml, hown, hts⟩ (m_X2_isOutside l D v 0 2 (by omega) (by omega) (by omega)) ⟨va_cnB 3 hts (gSelf q_35) rfl rfl rfl hN.1 (hq _ q_37) (by decide +kernel) ⟨Nat.le_trans (m := 1) (Nat.le_of_ble_eq_true rfl) (Nat.le_trans (Nat.le_of_ble_eq_true rfl) hRf), Nat.le_trans (m := 22) (Nat.le_of_ble_eq_true rfl) (Nat.le_trans (Nat.le_of_ble_eq_true rfl) hRl)⟩, hq _ q_36, trivial⟩ hN (hK.sub (tys' := []) [] rfl) (va_P0 _ _ _) (va_D0 A) rfl hl.1 (Nat.le_of_ble_eq_true rfl) ⟨hRc, hRs⟩ dX0_writeLevel_11) hP hS hA rfl (fun H locs hP hS => ?_)
  have hf_2 : outZ v 0 2 = if v < 0 ∨ 2 < v then 1 else 0 := rfl
  refine z_if_eq (tgt := 20) hx hb dX0_writeLevel_14 (by decide) (by omega) (fun c_3 => ?_) (fun c_3 => absurd c_3 (by omega))
  refine z_bipush hx hb dX0_writeLevel_20 (by decide +kernel) ?_
  refine lv_iload_n hx hb dX0_writeLevel_22 rfl (lv_at hl 1 rfl) ?_
  refine z_imul hx hb dX0_writeLevel_23 ?_
  refine lv_iload_n hx hb dX0_writeLevel_24 rfl (lv_at hl 2 rfl) ?_
  refine z_iadd hx hb dX0_writeLevel_25 ?_
  refine lv_istore (lv' := [(4, .int (iI ((8 * r) + c2))), (0, .ref g), (1, .int (iI r)), (2, .int (iI c2)), (3, .int (iI v))]) hx hb dX0_writeLevel_26 hl (by decide) rfl (fun ls hl => ?_)
  refine lv_aload_n hx hb dX0_writeLevel_28 rfl (lv_at hl 1 rfl) ?_
  refine lv_iload hx hb dX0_writeLevel_29 (lv_at hl 0 rfl) ?_
  refine lv_iload_n hx hb dX0_writeLevel_31 rfl (lv_at hl 4 rfl) ?_
  refine mw_full (st1 := []) (mr_V (As := [.int (iI ((8 * r) + c2)), .int (iI v)]) (rest := []) (ci := 0) (q0 := 0) ⟨hx, hb, hml, hown, hts⟩ (m_X0_put l D g ad cI G ((8 * r) + c2) v hI (by omega)) (cwV 2 hts (gV q_23 q_24 q_25 q_8 q_9) rfl rfl rfl (by decide +kernel) ⟨Nat.le_trans (m := 2) (Nat.le_of_ble_eq_true rfl) (Nat.le_trans (Nat.le_of_ble_eq_true rfl) hRf), Nat.le_trans (m := 43) (Nat.le_of_ble_eq_true rfl) (Nat.le_trans (Nat.le_of_ble_eq_true rfl) hRl)⟩) hN hK hP hD rfl rfl rfl hl.1 (Nat.le_of_ble_eq_true rfl) ⟨hRc, hRs⟩ dX0_writeLevel_32) hD hS hA rfl (fun H locs hP hD hS => ?_)
  refine lv_aload_n hx hb dX0_writeLevel_35 rfl (lv_at hl 1 rfl) ?_
  refine va_get (D := D) (ci := 0) (v := .ref (ad 1)) (C := RX0) (T := TX0) (N := 13) hx hb hq inA0 hown hK hP 0 rfl rfl 1 (by decide) (hq _ q_3) (fun _ h9 => h9) rfl dX0_writeLevel_36 ?_
  refine lv_iload hx hb dX0_writeLevel_39 (lv_at hl 0 rfl) ?_
  refine z_iald hx hb hK hP 2 0 rfl rfl (by omega) (by omega) (v := ((putZ G ((8 * r) + c2) v) 1 ((8 * r) + c2))) rfl dX0_writeLevel_41 ?_
  refine z_as (show ((putZ G ((8 * r) + c2) v) 1 ((8 * r) + c2)) = putZ G (8 * r + c2) v 1 (8 * r + c2) from by first | rfl | omega) ?_
  first | exact hret _ _ _ _ dX0_writeLevel_42 hP hD hS | (exfalso; omega)
set_option maxHeartbeats 4000000 in
set_option maxRecDepth 100000 in
theorem m_X0_writeLevel_bad (l : Launch) (D : va_G) (g : Nat) (ad : Nat → Nat) (cI : ClassId) (G : Nat → Int → Int) (r c2 v : Int) (h1 : -2147483648 ≤ r ∧ r < 2147483648) (h2 : -2147483648 ≤ c2 ∧ c2 < 2147483648) (h3 : -2147483648 ≤ v ∧ v < 2147483648) (hb0 : r < 0 ∨ 5 < r ∨ c2 < 0 ∨ 7 < c2 ∨ v < 0 ∨ 2 < v)  : MW l D yX0_writeLevel (wsY yX0_writeLevel cX0_writeLevel 5 (some .int)) { frames := 2, cells := 0, slots := 0, locals := 43 } [(cI, .int)] [.ref g, .int (iI r), .int (iI c2), .int (iI v)] (wG g ad cI G) (wG g ad cI G) (some (.int (iI (-1000001)))) := by
  refine mw_ofI (cc := cX0_writeLevel) (maxL := 5) (by decide) rfl (Nat.le_of_ble_eq_true rfl) ?_
  intro p e s m below meth c R A Q args ls hx hb hml hown hts hRf hRl hRc hRs hN hK hP hD hS hA hret hl
  have hq : ∀ w ∈ ALL, w.before args s = true := fun w h => hts w (List.mem_cons_of_mem _ h)
  have hl : lv_has ls 5 [(0, .ref g), (1, .int (iI r)), (2, .int (iI c2)), (3, .int (iI v))] := hl
  refine lv_iload_n hx hb dX0_writeLevel_0 rfl (lv_at hl 1 rfl) ?_
  refine lv_iload_n hx hb dX0_writeLevel_1 rfl (lv_at hl 2 rfl) ?_
  refine mw_none (st1 := [.int (iI (if (r < 0 ∨ 5 < r) ∨ (c2 < 0 ∨ 7 < c2) then 1 else 0 : Int))]) (mr_S (As := [.int (iI r), .int (iI c2)]) (rest := []) ⟨hx, hb, hml, hown, hts⟩ (m_X0_isOutsideCell l D r c2 (by omega) (by omega)) (va_cwS 2 hts (gS q_40 q_41 q_8 q_38) rfl rfl rfl (by decide +kernel) ⟨Nat.le_trans (m := 2) (Nat.le_of_ble_eq_true rfl) (Nat.le_trans (Nat.le_of_ble_eq_true rfl) hRf), Nat.le_trans (m := 43) (Nat.le_of_ble_eq_true rfl) (Nat.le_trans (Nat.le_of_ble_eq_true rfl) hRl)⟩) hN (hK.sub (tys' := []) [] rfl) (va_P0 _ _ _) (va_D0 A) rfl hl.1 (Nat.le_of_ble_eq_true rfl) ⟨hRc, hRs⟩ dX0_writeLevel_2) hP hS hA rfl (fun H locs hP hS => ?_)
  refine z_if_ne (tgt := 17) hx hb dX0_writeLevel_5 (by decide) (by omega) (fun c_1 => ?_) (fun c_1 => ?_)
  · refine z_ldc hx hb (-1000001) (by decide +kernel) hown (hq _ q_39) dX0_writeLevel_17 ?_
    refine z_as (show (-1000001) = -1000001 from by first | rfl | omega) ?_
    first | exact hret _ _ _ _ dX0_writeLevel_19 hP hD hS | (exfalso; omega)
  · refine lv_iload_n hx hb dX0_writeLevel_8 rfl (lv_at hl 3 rfl) ?_
    refine z_iconst hx hb dX0_writeLevel_9 ?_
    refine z_iconst hx hb dX0_writeLevel_10 ?_
    refine mw_none (st1 := [.int (iI (outZ v 0 2))]) (mr_SN (As := [.int (iI v), .int (iI 0), .int (iI 2)]) (rest := []) ⟨hx, hb, hml, hown, hts⟩ (m_X2_isOutside l D v 0 2 (by omega) (by omega) (by omega)) ⟨va_cnB 3 hts (gSelf q_35) rfl rfl rfl hN.1 (hq _ q_37) (by decide +kernel) ⟨Nat.le_trans (m := 1) (Nat.le_of_ble_eq_true rfl) (Nat.le_trans (Nat.le_of_ble_eq_true rfl) hRf), Nat.le_trans (m := 22) (Nat.le_of_ble_eq_true rfl) (Nat.le_trans (Nat.le_of_ble_eq_true rfl) hRl)⟩, hq _ q_36, trivial⟩ hN (hK.sub (tys' := []) [] rfl) (va_P0 _ _ _) (va_D0 A) rfl hl.1 (Nat.le_of_ble_eq_true rfl) ⟨hRc, hRs⟩ dX0_writeLevel_11) hP hS hA rfl (fun H locs hP hS => ?_)
    have hf_2 : outZ v 0 2 = if v < 0 ∨ 2 < v then 1 else 0 := rfl
    refine z_if_eq (tgt := 20) hx hb dX0_writeLevel_14 (by decide) (by omega) (fun c_3 => absurd c_3 (by omega)) (fun c_3 => ?_)
    refine z_ldc hx hb (-1000001) (by decide +kernel) hown (hq _ q_39) dX0_writeLevel_17 ?_
    refine z_as (show (-1000001) = -1000001 from by first | rfl | omega) ?_
    first | exact hret _ _ _ _ dX0_writeLevel_19 hP hD hS | (exfalso; omega)
set_option maxHeartbeats 4000000 in
set_option maxRecDepth 100000 in
theorem m_X0_writeWord (l : Launch) (D : va_G) (g : Nat) (ad : Nat → Nat) (cI : ClassId) (G : Nat → Int → Int) (r wd : Int) {B : Int} (hI : InvG B G) (hB : B + 1 ≤ 100000000) (h1 : 0 ≤ r ∧ r < 6) (h2 : 0 ≤ wd ∧ wd ≤ 6560)  : MW l D yX0_writeWord (wsY yX0_writeWord cX0_writeWord 6 (some .int)) { frames := 3, cells := 0, slots := 0, locals := 72 } [(cI, .int)] [.ref g, .int (iI r), .int (iI wd)] (wG g ad cI G) (wG g ad cI (wordStZ G r wd 8)) (some (.int (iI (toldWordZ G r)))) := by
  refine mw_ofI (cc := cX0_writeWord) (maxL := 6) (by decide) rfl (Nat.le_of_ble_eq_true rfl) ?_
  intro p e s m below meth c R A Q args ls hx hb hml hown hts hRf hRl hRc hRs hN hK hP hD hS hA hret hl
  have hq : ∀ w ∈ ALL, w.before args s = true := fun w h => hts w (List.mem_cons_of_mem _ h)
  have hl : lv_has ls 6 [(0, .ref g), (1, .int (iI r)), (2, .int (iI wd))] := hl
  refine lv_iload_n hx hb dX0_writeWord_0 rfl (lv_at hl 1 rfl) ?_
  refine z_iconst hx hb dX0_writeWord_1 ?_
  refine z_iconst hx hb dX0_writeWord_2 ?_
  refine mw_none (st1 := [.int (iI (outZ r 0 5))]) (mr_SN (As := [.int (iI r), .int (iI 0), .int (iI 5)]) (rest := []) ⟨hx, hb, hml, hown, hts⟩ (m_X2_isOutside l D r 0 5 (by omega) (by omega) (by omega)) ⟨va_cnB 3 hts (gSelf q_35) rfl rfl rfl hN.1 (hq _ q_37) (by decide +kernel) ⟨Nat.le_trans (m := 1) (Nat.le_of_ble_eq_true rfl) (Nat.le_trans (Nat.le_of_ble_eq_true rfl) hRf), Nat.le_trans (m := 22) (Nat.le_of_ble_eq_true rfl) (Nat.le_trans (Nat.le_of_ble_eq_true rfl) hRl)⟩, hq _ q_36, trivial⟩ hN (hK.sub (tys' := []) [] rfl) (va_P0 _ _ _) (va_D0 A) rfl hl.1 (Nat.le_of_ble_eq_true rfl) ⟨hRc, hRs⟩ dX0_writeWord_3) hP hS hA rfl (fun H locs hP hS => ?_)
  have hf_1 : outZ r 0 5 = if r < 0 ∨ 5 < r then 1 else 0 := rfl
  refine z_if_ne (tgt := 20) hx hb dX0_writeWord_6 (by decide) (by omega) (fun c_2 => absurd c_2 (by omega)) (fun c_2 => ?_)
  refine lv_iload_n hx hb dX0_writeWord_9 rfl (lv_at hl 2 rfl) ?_
  refine z_iconst hx hb dX0_writeWord_10 ?_
  refine z_sipush hx hb dX0_writeWord_11 (by decide +kernel) ?_
  refine mw_none (st1 := [.int (iI (outZ wd 0 6560))]) (mr_SN (As := [.int (iI wd), .int (iI 0), .int (iI 6560)]) (rest := []) ⟨hx, hb, hml, hown, hts⟩ (m_X2_isOutside l D wd 0 6560 (by omega) (by omega) (by omega)) ⟨va_cnB 3 hts (gSelf q_35) rfl rfl rfl hN.1 (hq _ q_37) (by decide +kernel) ⟨Nat.le_trans (m := 1) (Nat.le_of_ble_eq_true rfl) (Nat.le_trans (Nat.le_of_ble_eq_true rfl) hRf), Nat.le_trans (m := 22) (Nat.le_of_ble_eq_true rfl) (Nat.le_trans (Nat.le_of_ble_eq_true rfl) hRl)⟩, hq _ q_36, trivial⟩ hN (hK.sub (tys' := []) [] rfl) (va_P0 _ _ _) (va_D0 A) rfl hl.1 (Nat.le_of_ble_eq_true rfl) ⟨hRc, hRs⟩ dX0_writeWord_14) hP hS hA rfl (fun H locs hP hS => ?_)
  have hf_3 : outZ wd 0 6560 = if wd < 0 ∨ 6560 < wd then 1 else 0 := rfl
  refine z_if_eq (tgt := 23) hx hb dX0_writeWord_17 (by decide) (by omega) (fun c_4 => ?_) (fun c_4 => absurd c_4 (by omega))
  refine lv_aload_n hx hb dX0_writeWord_23 rfl (lv_at hl 0 rfl) ?_
  refine lv_iload_n hx hb dX0_writeWord_24 rfl (lv_at hl 1 rfl) ?_
  refine mw_full (st1 := [.int (iI (toldWordZ G r))]) (mr_V (As := [.int (iI r)]) (rest := []) (ci := 0) (q0 := 0) ⟨hx, hb, hml, hown, hts⟩ (m_X0_toldWord l D g ad cI G r hI (by omega)) (cwV 1 hts (gV q_59 q_60 q_61 q_8 q_58) rfl rfl rfl (by decide +kernel) ⟨Nat.le_trans (m := 3) (Nat.le_of_ble_eq_true rfl) (Nat.le_trans (Nat.le_of_ble_eq_true rfl) hRf), Nat.le_trans (m := 72) (Nat.le_of_ble_eq_true rfl) (Nat.le_trans (Nat.le_of_ble_eq_true rfl) hRl)⟩) hN hK hP hD rfl rfl rfl hl.1 (Nat.le_of_ble_eq_true rfl) ⟨hRc, hRs⟩ dX0_writeWord_25) hD hS hA rfl (fun H locs hP hD hS => ?_)
  refine lv_istore_n (lv' := [(3, .int (iI (toldWordZ G r))), (0, .ref g), (1, .int (iI r)), (2, .int (iI wd))]) hx hb dX0_writeWord_28 rfl hl (by decide) rfl (fun ls hl => ?_)
  refine lv_iload_n hx hb dX0_writeWord_29 rfl (lv_at hl 3 rfl) ?_
  refine lv_istore (lv' := [(4, .int (iI wd)), (3, .int (iI (toldWordZ G r))), (0, .ref g), (1, .int (iI r)), (2, .int (iI wd))]) hx hb dX0_writeWord_30 hl (by decide) rfl (fun ls hl => ?_)
  refine z_iconst hx hb dX0_writeWord_32 ?_
  refine lv_istore (lv' := [(5, .int (iI 0)), (4, .int (iI wd)), (3, .int (iI (toldWordZ G r))), (0, .ref g), (1, .int (iI r)), (2, .int (iI wd))]) hx hb dX0_writeWord_33 hl (by decide) rfl (fun ls hl => ?_)
  have LP35 : ∀ (fu i : Nat), i ≤ 8 → 8 < fu + i → ∀ (H : Heap) (locs : List Loc) (ls : Array Slot), va_P D vwCl (wG g ad cI (wordStZ G r wd i)) H → va_D A (wG g ad cI (wordStZ G r wd i)) → va_S A s.heap H locs → lv_has ls 6 [(5, .int (iI (i : Int))), (4, .int (iI (restZ wd i))), (3, .int (iI (toldWordZ G r))), (0, .ref g), (1, .int (iI r)), (2, .int (iI wd))] → W p l e R s m args below meth c H locs 0 0 Q (F0 m 35 ls []) := by
    intro fu
    induction fu with
    | zero => intro i h1 h2; omega
    | succ fu ih35 =>
      intro i hi1 hif H locs ls hP hD hS hl
      have hIi := wordSt_inv hI hB h1 (w := wd) (by omega) i (by omega)
      have hri := rest_bd (w := wd) (by omega) i
      refine lv_iload hx hb dX0_writeWord_35 (lv_at hl 0 rfl) ?_
      refine z_bipush hx hb dX0_writeWord_37 (by decide +kernel) ?_
      refine z_icmp_ge (tgt := 69) hx hb dX0_writeWord_39 (by decide) (by omega) (by omega) (fun c_5 => ?_) (fun c_5 => ?_)
      · have hiN : i = 8 := by omega
        refine lv_iload_n hx hb dX0_writeWord_69 rfl (lv_at hl 2 rfl) ?_
        have eW0 : wordStZ G r wd 8 = (wordStZ G r wd i) := by rw [hiN]
        rw [← eW0] at hP hD
        first | exact hret _ _ _ _ dX0_writeWord_70 hP hD hS | (exfalso; omega)
      · refine lv_aload_n hx hb dX0_writeWord_42 rfl (lv_at hl 3 rfl) ?_
        refine z_bipush hx hb dX0_writeWord_43 (by decide +kernel) ?_
        refine lv_iload_n hx hb dX0_writeWord_45 rfl (lv_at hl 4 rfl) ?_
        refine z_imul hx hb dX0_writeWord_46 ?_
        refine lv_iload hx hb dX0_writeWord_47 (lv_at hl 0 rfl) ?_
        refine z_iadd hx hb dX0_writeWord_49 ?_
        refine lv_iload hx hb dX0_writeWord_50 (lv_at hl 1 rfl) ?_
        refine z_iconst hx hb dX0_writeWord_52 ?_
        refine z_irem hx hb dX0_writeWord_53 (by omega) (by omega) ?_
        refine mw_full (st1 := []) (mr_V (As := [.int (iI ((8 * r) + (i : Int))), .int (iI ((restZ wd i) % 3))]) (rest := []) (ci := 0) (q0 := 0) ⟨hx, hb, hml, hown, hts⟩ (m_X0_put l D g ad cI (wordStZ G r wd i) ((8 * r) + (i : Int)) ((restZ wd i) % 3) hIi (by omega)) (cwV 2 hts (gV q_23 q_24 q_25 q_8 q_9) rfl rfl rfl (by decide +kernel) ⟨Nat.le_trans (m := 2) (Nat.le_of_ble_eq_true rfl) (Nat.le_trans (Nat.le_of_ble_eq_true rfl) hRf), Nat.le_trans (m := 43) (Nat.le_of_ble_eq_true rfl) (Nat.le_trans (Nat.le_of_ble_eq_true rfl) hRl)⟩) hN hK hP hD rfl rfl rfl hl.1 (Nat.le_of_ble_eq_true rfl) ⟨hRc, hRs⟩ dX0_writeWord_54) hD hS hA rfl (fun H locs hP hD hS => ?_)
        refine lv_iload hx hb dX0_writeWord_57 (lv_at hl 1 rfl) ?_
        refine z_iconst hx hb dX0_writeWord_59 ?_
        refine z_idiv hx hb dX0_writeWord_60 (by omega) (by omega) ?_
        refine lv_istore (lv' := [(4, .int (iI ((restZ wd i) / 3))), (5, .int (iI (i : Int))), (3, .int (iI (toldWordZ G r))), (0, .ref g), (1, .int (iI r)), (2, .int (iI wd))]) hx hb dX0_writeWord_61 hl (by decide) rfl (fun ls hl => ?_)
        refine lv_iinc (v := iI ((i : Int) + 1)) (lv' := [(5, .int (iI ((i : Int) + 1))), (4, .int (iI ((restZ wd i) / 3))), (3, .int (iI (toldWordZ G r))), (0, .ref g), (1, .int (iI r)), (2, .int (iI wd))]) hx hb dX0_writeWord_63 hl (k := 1) rfl (iI_add _ _) (by decide) rfl (fun ls hl => ?_)
        refine lv_goto (tgt := 35) hx hb dX0_writeWord_66 (by decide) ?_
        have e1_0 : (((i + 1 : Nat) : Int)) = ((i : Int) + 1) := by first | rfl | omega
        have e1_1 : ((restZ wd (i + 1))) = ((restZ wd i) / 3) := by first | rfl | omega
        have eG0 : (wordStZ G r wd (i + 1)) = (putZ (wordStZ G r wd i) ((8 * r) + (i : Int)) ((restZ wd i) % 3)) := by rfl
        rw [← eG0] at hP hD
        exact ih35 (i + 1) (by omega) (by omega) _ _ _ hP hD hS (lv_to (lv_sub (l' := [(5, .int (iI ((i : Int) + 1))), (4, .int (iI ((restZ wd i) / 3))), (3, .int (iI (toldWordZ G r))), (0, .ref g), (1, .int (iI r)), (2, .int (iI wd))]) hl [0, 1, 2, 3, 4, 5] rfl) (by simp only [e1_0, e1_1]))
  have e0_0 : (((0 : Nat) : Int)) = 0 := by first | rfl | omega
  have e0_1 : ((restZ wd (0))) = wd := by first | rfl | omega
  exact LP35 (8 + 1) 0 (by omega) (by omega) _ _ _ hP hD hS (lv_to (lv_sub (l' := [(5, .int (iI 0)), (4, .int (iI wd)), (3, .int (iI (toldWordZ G r))), (0, .ref g), (1, .int (iI r)), (2, .int (iI wd))]) hl [0, 1, 2, 3, 4, 5] rfl) (by simp only [e0_0, e0_1]))
set_option maxHeartbeats 4000000 in
set_option maxRecDepth 100000 in
theorem m_X0_writeWord_bad (l : Launch) (D : va_G) (g : Nat) (ad : Nat → Nat) (cI : ClassId) (G : Nat → Int → Int) (r wd : Int) (h1 : -2147483648 ≤ r ∧ r < 2147483648) (h2 : -2147483648 ≤ wd ∧ wd < 2147483648) (hb0 : r < 0 ∨ 5 < r ∨ wd < 0 ∨ 6560 < wd)  : MW l D yX0_writeWord (wsY yX0_writeWord cX0_writeWord 6 (some .int)) { frames := 3, cells := 0, slots := 0, locals := 72 } [(cI, .int)] [.ref g, .int (iI r), .int (iI wd)] (wG g ad cI G) (wG g ad cI G) (some (.int (iI (-1000001)))) := by
  refine mw_ofI (cc := cX0_writeWord) (maxL := 6) (by decide) rfl (Nat.le_of_ble_eq_true rfl) ?_
  intro p e s m below meth c R A Q args ls hx hb hml hown hts hRf hRl hRc hRs hN hK hP hD hS hA hret hl
  have hq : ∀ w ∈ ALL, w.before args s = true := fun w h => hts w (List.mem_cons_of_mem _ h)
  have hl : lv_has ls 6 [(0, .ref g), (1, .int (iI r)), (2, .int (iI wd))] := hl
  refine lv_iload_n hx hb dX0_writeWord_0 rfl (lv_at hl 1 rfl) ?_
  refine z_iconst hx hb dX0_writeWord_1 ?_
  refine z_iconst hx hb dX0_writeWord_2 ?_
  refine mw_none (st1 := [.int (iI (outZ r 0 5))]) (mr_SN (As := [.int (iI r), .int (iI 0), .int (iI 5)]) (rest := []) ⟨hx, hb, hml, hown, hts⟩ (m_X2_isOutside l D r 0 5 (by omega) (by omega) (by omega)) ⟨va_cnB 3 hts (gSelf q_35) rfl rfl rfl hN.1 (hq _ q_37) (by decide +kernel) ⟨Nat.le_trans (m := 1) (Nat.le_of_ble_eq_true rfl) (Nat.le_trans (Nat.le_of_ble_eq_true rfl) hRf), Nat.le_trans (m := 22) (Nat.le_of_ble_eq_true rfl) (Nat.le_trans (Nat.le_of_ble_eq_true rfl) hRl)⟩, hq _ q_36, trivial⟩ hN (hK.sub (tys' := []) [] rfl) (va_P0 _ _ _) (va_D0 A) rfl hl.1 (Nat.le_of_ble_eq_true rfl) ⟨hRc, hRs⟩ dX0_writeWord_3) hP hS hA rfl (fun H locs hP hS => ?_)
  have hf_1 : outZ r 0 5 = if r < 0 ∨ 5 < r then 1 else 0 := rfl
  refine z_if_ne (tgt := 20) hx hb dX0_writeWord_6 (by decide) (by omega) (fun c_2 => ?_) (fun c_2 => ?_)
  · refine z_ldc hx hb (-1000001) (by decide +kernel) hown (hq _ q_39) dX0_writeWord_20 ?_
    refine z_as (show (-1000001) = -1000001 from by first | rfl | omega) ?_
    first | exact hret _ _ _ _ dX0_writeWord_22 hP hD hS | (exfalso; omega)
  · refine lv_iload_n hx hb dX0_writeWord_9 rfl (lv_at hl 2 rfl) ?_
    refine z_iconst hx hb dX0_writeWord_10 ?_
    refine z_sipush hx hb dX0_writeWord_11 (by decide +kernel) ?_
    refine mw_none (st1 := [.int (iI (outZ wd 0 6560))]) (mr_SN (As := [.int (iI wd), .int (iI 0), .int (iI 6560)]) (rest := []) ⟨hx, hb, hml, hown, hts⟩ (m_X2_isOutside l D wd 0 6560 (by omega) (by omega) (by omega)) ⟨va_cnB 3 hts (gSelf q_35) rfl rfl rfl hN.1 (hq _ q_37) (by decide +kernel) ⟨Nat.le_trans (m := 1) (Nat.le_of_ble_eq_true rfl) (Nat.le_trans (Nat.le_of_ble_eq_true rfl) hRf), Nat.le_trans (m := 22) (Nat.le_of_ble_eq_true rfl) (Nat.le_trans (Nat.le_of_ble_eq_true rfl) hRl)⟩, hq _ q_36, trivial⟩ hN (hK.sub (tys' := []) [] rfl) (va_P0 _ _ _) (va_D0 A) rfl hl.1 (Nat.le_of_ble_eq_true rfl) ⟨hRc, hRs⟩ dX0_writeWord_14) hP hS hA rfl (fun H locs hP hS => ?_)
    have hf_3 : outZ wd 0 6560 = if wd < 0 ∨ 6560 < wd then 1 else 0 := rfl
    refine z_if_eq (tgt := 23) hx hb dX0_writeWord_17 (by decide) (by omega) (fun c_4 => absurd c_4 (by omega)) (fun c_4 => ?_)
    refine z_ldc hx hb (-1000001) (by decide +kernel) hown (hq _ q_39) dX0_writeWord_20 ?_
    refine z_as (show (-1000001) = -1000001 from by first | rfl | omega) ?_
    first | exact hret _ _ _ _ dX0_writeWord_22 hP hD hS | (exfalso; omega)
set_option maxHeartbeats 4000000 in
set_option maxRecDepth 100000 in
theorem m_X0_writeAnew (l : Launch) (D : va_G) (g : Nat) (ad : Nat → Nat) (cI : ClassId) (G : Nat → Int → Int) (r : Int) {B : Int} (hI : InvG B G) (hB : B + 1 ≤ 100000000) (h1 : 0 ≤ r ∧ r < 6)  : MW l D yX0_writeAnew (wsY yX0_writeAnew cX0_writeAnew 8 (some .int)) { frames := 2, cells := 0, slots := 0, locals := 47 } [(cI, .int)] [.ref g, .int (iI r)] (wG g ad cI G) (wG g ad cI (writeAnewZ G r)) (some (.int (iI (lostAnewZ G r)))) := by
  refine mw_ofI (cc := cX0_writeAnew) (maxL := 8) (by decide) rfl (Nat.le_of_ble_eq_true rfl) ?_
  intro p e s m below meth c R A Q args ls hx hb hml hown hts hRf hRl hRc hRs hN hK hP hD hS hA hret hl
  have hq : ∀ w ∈ ALL, w.before args s = true := fun w h => hts w (List.mem_cons_of_mem _ h)
  have hl : lv_has ls 8 [(0, .ref g), (1, .int (iI r))] := hl
  refine lv_iload_n hx hb dX0_writeAnew_0 rfl (lv_at hl 1 rfl) ?_
  refine z_iconst hx hb dX0_writeAnew_1 ?_
  refine z_iconst hx hb dX0_writeAnew_2 ?_
  refine mw_none (st1 := [.int (iI (outZ r 0 5))]) (mr_SN (As := [.int (iI r), .int (iI 0), .int (iI 5)]) (rest := []) ⟨hx, hb, hml, hown, hts⟩ (m_X2_isOutside l D r 0 5 (by omega) (by omega) (by omega)) ⟨va_cnB 3 hts (gSelf q_35) rfl rfl rfl hN.1 (hq _ q_37) (by decide +kernel) ⟨Nat.le_trans (m := 1) (Nat.le_of_ble_eq_true rfl) (Nat.le_trans (Nat.le_of_ble_eq_true rfl) hRf), Nat.le_trans (m := 22) (Nat.le_of_ble_eq_true rfl) (Nat.le_trans (Nat.le_of_ble_eq_true rfl) hRl)⟩, hq _ q_36, trivial⟩ hN (hK.sub (tys' := []) [] rfl) (va_P0 _ _ _) (va_D0 A) rfl hl.1 (Nat.le_of_ble_eq_true rfl) ⟨hRc, hRs⟩ dX0_writeAnew_3) hP hS hA rfl (fun H locs hP hS => ?_)
  have hf_1 : outZ r 0 5 = if r < 0 ∨ 5 < r then 1 else 0 := rfl
  refine z_if_eq (tgt := 12) hx hb dX0_writeAnew_6 (by decide) (by omega) (fun c_2 => ?_) (fun c_2 => absurd c_2 (by omega))
  refine lv_aload_n hx hb dX0_writeAnew_12 rfl (lv_at hl 0 rfl) ?_
  refine lv_iload_n hx hb dX0_writeAnew_13 rfl (lv_at hl 1 rfl) ?_
  refine z_iconst hx hb dX0_writeAnew_14 ?_
  refine mw_full (st1 := [.int (iI (thrZ G r 0))]) (mr_V (As := [.int (iI r), .int (iI 0)]) (rest := []) (ci := 0) (q0 := 0) ⟨hx, hb, hml, hown, hts⟩ (m_X0_threshold l D g ad cI G r 0 hI (by omega) (by omega)) (cwV 2 hts (gV q_53 q_54 q_55 q_8 q_51) rfl rfl rfl (by decide +kernel) ⟨Nat.le_trans (m := 2) (Nat.le_of_ble_eq_true rfl) (Nat.le_trans (Nat.le_of_ble_eq_true rfl) hRf), Nat.le_trans (m := 47) (Nat.le_of_ble_eq_true rfl) (Nat.le_trans (Nat.le_of_ble_eq_true rfl) hRl)⟩) hN hK hP hD rfl rfl rfl hl.1 (Nat.le_of_ble_eq_true rfl) ⟨hRc, hRs⟩ dX0_writeAnew_15) hD hS hA rfl (fun H locs hP hD hS => ?_)
  have hf_3 := thrZ_bd hI r 0 (by omega) (by omega)
  refine lv_istore_n (lv' := [(2, .int (iI (thrZ G r 0))), (0, .ref g), (1, .int (iI r))]) hx hb dX0_writeAnew_18 rfl hl (by decide) rfl (fun ls hl => ?_)
  refine lv_aload_n hx hb dX0_writeAnew_19 rfl (lv_at hl 1 rfl) ?_
  refine lv_iload_n hx hb dX0_writeAnew_20 rfl (lv_at hl 2 rfl) ?_
  refine z_iconst hx hb dX0_writeAnew_21 ?_
  refine mw_full (st1 := [.int (iI (thrZ G r 1))]) (mr_V (As := [.int (iI r), .int (iI 1)]) (rest := []) (ci := 0) (q0 := 0) ⟨hx, hb, hml, hown, hts⟩ (m_X0_threshold l D g ad cI G r 1 hI (by omega) (by omega)) (cwV 2 hts (gV q_53 q_54 q_55 q_8 q_51) rfl rfl rfl (by decide +kernel) ⟨Nat.le_trans (m := 2) (Nat.le_of_ble_eq_true rfl) (Nat.le_trans (Nat.le_of_ble_eq_true rfl) hRf), Nat.le_trans (m := 47) (Nat.le_of_ble_eq_true rfl) (Nat.le_trans (Nat.le_of_ble_eq_true rfl) hRl)⟩) hN hK hP hD rfl rfl rfl hl.1 (Nat.le_of_ble_eq_true rfl) ⟨hRc, hRs⟩ dX0_writeAnew_22) hD hS hA rfl (fun H locs hP hD hS => ?_)
  have hf_4 := thrZ_bd hI r 1 (by omega) (by omega)
  refine lv_istore_n (lv' := [(3, .int (iI (thrZ G r 1))), (2, .int (iI (thrZ G r 0))), (0, .ref g), (1, .int (iI r))]) hx hb dX0_writeAnew_25 rfl hl (by decide) rfl (fun ls hl => ?_)
  refine z_iconst hx hb dX0_writeAnew_26 ?_
  refine lv_istore (lv' := [(4, .int (iI 0)), (3, .int (iI (thrZ G r 1))), (2, .int (iI (thrZ G r 0))), (0, .ref g), (1, .int (iI r))]) hx hb dX0_writeAnew_27 hl (by decide) rfl (fun ls hl => ?_)
  refine z_iconst hx hb dX0_writeAnew_29 ?_
  refine lv_istore (lv' := [(5, .int (iI 0)), (4, .int (iI 0)), (3, .int (iI (thrZ G r 1))), (2, .int (iI (thrZ G r 0))), (0, .ref g), (1, .int (iI r))]) hx hb dX0_writeAnew_30 hl (by decide) rfl (fun ls hl => ?_)
  have LP32 : ∀ (fu i : Nat), i ≤ 8 → 8 < fu + i → ∀ (H : Heap) (locs : List Loc) (ls : Array Slot), va_P D vwCl (wG g ad cI (anewStZ G r (thrZ G r 0) (thrZ G r 1) i)) H → va_D A (wG g ad cI (anewStZ G r (thrZ G r 0) (thrZ G r 1) i)) → va_S A s.heap H locs → lv_has ls 8 [(5, .int (iI (i : Int))), (4, .int (iI (anewLostZ G r (thrZ G r 0) (thrZ G r 1) i))), (3, .int (iI (thrZ G r 1))), (2, .int (iI (thrZ G r 0))), (0, .ref g), (1, .int (iI r))] → W p l e R s m args below meth c H locs 0 0 Q (F0 m 32 ls []) := by
    intro fu
    induction fu with
    | zero => intro i h1 h2; omega
    | succ fu ih32 =>
      intro i hi1 hif H locs ls hP hD hS hl
      have hIi := anewSt_inv hI hB (lo := thrZ G r 0) (up := thrZ G r 1) h1 i (by omega)
      refine lv_iload hx hb dX0_writeAnew_32 (lv_at hl 0 rfl) ?_
      refine z_bipush hx hb dX0_writeAnew_34 (by decide +kernel) ?_
      refine z_icmp_ge (tgt := 91) hx hb dX0_writeAnew_36 (by decide) (by omega) (by omega) (fun c_5 => ?_) (fun c_5 => ?_)
      · have hiN : i = 8 := by omega
        rw [hiN] at hP hD
        have hI8 := anewSt_inv hI hB (lo := thrZ G r 0) (up := thrZ G r 1) h1 8 (by omega)
        refine lv_aload_n hx hb dX0_writeAnew_91 rfl (lv_at hl 4 rfl) ?_
        refine lv_iload_n hx hb dX0_writeAnew_92 rfl (lv_at hl 5 rfl) ?_
        refine mw_full (st1 := []) (mr_V (As := [.int (iI r)]) (rest := []) (ci := 0) (q0 := 0) ⟨hx, hb, hml, hown, hts⟩ (m_X0_writeGuards l D g ad cI (anewStZ G r (thrZ G r 0) (thrZ G r 1) 8) r hI8 (by omega)) (cwV 1 hts (gV q_26 q_27 q_28 q_8 q_13) rfl rfl rfl (by decide +kernel) ⟨Nat.le_trans (m := 2) (Nat.le_of_ble_eq_true rfl) (Nat.le_trans (Nat.le_of_ble_eq_true rfl) hRf), Nat.le_trans (m := 43) (Nat.le_of_ble_eq_true rfl) (Nat.le_trans (Nat.le_of_ble_eq_true rfl) hRl)⟩) hN hK hP hD rfl rfl rfl hl.1 (Nat.le_of_ble_eq_true rfl) ⟨hRc, hRs⟩ dX0_writeAnew_93) hD hS hA rfl (fun H locs hP hD hS => ?_)
        have hI9 := writeGuards_inv hI8 r
        refine lv_aload_n hx hb dX0_writeAnew_96 rfl (lv_at hl 4 rfl) ?_
        refine va_get (D := D) (ci := 0) (v := .ref (ad 8)) (C := RX0) (T := TX0) (N := 13) hx hb hq inA0 hown hK hP 0 rfl rfl 8 (by decide) (hq _ q_19) (fun _ h9 => h9) rfl dX0_writeAnew_97 ?_
        refine lv_iload_n hx hb dX0_writeAnew_100 rfl (lv_at hl 5 rfl) ?_
        refine lv_dup2_11 hx hb dX0_writeAnew_101 rfl rfl ?_
        refine z_iald hx hb hK hP 9 0 rfl rfl (by omega) (by omega) (v := ((writeGuardsZ (anewStZ G r (thrZ G r 0) (thrZ G r 1) 8) r) 8 r)) rfl dX0_writeAnew_102 ?_
        refine lv_iload hx hb dX0_writeAnew_103 (lv_at hl 1 rfl) ?_
        refine z_iadd hx hb dX0_writeAnew_105 ?_
        refine z_iast (w1 := (wG g ad cI (upG (writeGuardsZ (anewStZ G r (thrZ G r 0) (thrZ G r 1) 8) r) 8 r (((writeGuardsZ (anewStZ G r (thrZ G r 0) (thrZ G r 1) 8) r) 8 r) + (anewLostZ G r (thrZ G r 0) (thrZ G r 1) i))))) hx hb hK hP hD hS 9 0 rfl rfl (by omega) (by omega) (wG_set8 _ _ _ _ _ _) dX0_writeAnew_106 (fun H locs hP hD hS => ?_)
        refine lv_aload_n hx hb dX0_writeAnew_107 rfl (lv_at hl 4 rfl) ?_
        refine va_get (D := D) (ci := 0) (v := .ref (ad 9)) (C := RX0) (T := TX0) (N := 13) hx hb hq inA0 hown hK hP 0 rfl rfl 9 (by decide) (hq _ q_20) (fun _ h9 => h9) rfl dX0_writeAnew_108 ?_
        refine lv_iload_n hx hb dX0_writeAnew_111 rfl (lv_at hl 5 rfl) ?_
        refine lv_dup2_11 hx hb dX0_writeAnew_112 rfl rfl ?_
        refine z_iald hx hb hK hP 10 0 rfl rfl (by omega) (by omega) (v := ((writeGuardsZ (anewStZ G r (thrZ G r 0) (thrZ G r 1) 8) r) 9 r)) rfl dX0_writeAnew_113 ?_
        refine z_iconst hx hb dX0_writeAnew_114 ?_
        refine z_iadd hx hb dX0_writeAnew_115 ?_
        refine z_iast (w1 := (wG g ad cI (upG (upG (writeGuardsZ (anewStZ G r (thrZ G r 0) (thrZ G r 1) 8) r) 8 r (((writeGuardsZ (anewStZ G r (thrZ G r 0) (thrZ G r 1) 8) r) 8 r) + (anewLostZ G r (thrZ G r 0) (thrZ G r 1) i))) 9 r (((writeGuardsZ (anewStZ G r (thrZ G r 0) (thrZ G r 1) 8) r) 9 r) + 1)))) hx hb hK hP hD hS 10 0 rfl rfl (by omega) (by omega) (wG_set9 _ _ _ _ _ _) dX0_writeAnew_116 (fun H locs hP hD hS => ?_)
        refine lv_iload hx hb dX0_writeAnew_117 (lv_at hl 1 rfl) ?_
        refine z_as (show (anewLostZ G r (thrZ G r 0) (thrZ G r 1) i) = lostAnewZ G r from by rw [hiN]; rfl) ?_
        have eW0 : writeAnewZ G r = (upG (upG (writeGuardsZ (anewStZ G r (thrZ G r 0) (thrZ G r 1) 8) r) 8 r (((writeGuardsZ (anewStZ G r (thrZ G r 0) (thrZ G r 1) 8) r) 8 r) + (anewLostZ G r (thrZ G r 0) (thrZ G r 1) i))) 9 r (((writeGuardsZ (anewStZ G r (thrZ G r 0) (thrZ G r 1) 8) r) 9 r) + 1)) := by rw [hiN]; rfl
        rw [← eW0] at hP hD
        first | exact hret _ _ _ _ dX0_writeAnew_119 hP hD hS | (exfalso; omega)
      · refine z_bipush hx hb dX0_writeAnew_39 (by decide +kernel) ?_
        refine lv_iload_n hx hb dX0_writeAnew_41 rfl (lv_at hl 5 rfl) ?_
        refine z_imul hx hb dX0_writeAnew_42 ?_
        refine lv_iload hx hb dX0_writeAnew_43 (lv_at hl 0 rfl) ?_
        refine z_iadd hx hb dX0_writeAnew_45 ?_
        refine lv_istore (lv' := [(6, .int (iI ((8 * r) + (i : Int)))), (5, .int (iI (i : Int))), (4, .int (iI (anewLostZ G r (thrZ G r 0) (thrZ G r 1) i))), (3, .int (iI (thrZ G r 1))), (2, .int (iI (thrZ G r 0))), (0, .ref g), (1, .int (iI r))]) hx hb dX0_writeAnew_46 hl (by decide) rfl (fun ls hl => ?_)
        refine lv_aload_n hx hb dX0_writeAnew_48 rfl (lv_at hl 5 rfl) ?_
        refine va_get (D := D) (ci := 0) (v := .ref (ad 1)) (C := RX0) (T := TX0) (N := 13) hx hb hq inA0 hown hK hP 0 rfl rfl 1 (by decide) (hq _ q_3) (fun _ h9 => h9) rfl dX0_writeAnew_49 ?_
        refine lv_iload hx hb dX0_writeAnew_52 (lv_at hl 0 rfl) ?_
        refine z_iald hx hb hK hP 2 0 rfl rfl (by omega) (by omega) (v := ((anewStZ G r (thrZ G r 0) (thrZ G r 1) i) 1 ((8 * r) + (i : Int)))) rfl dX0_writeAnew_54 ?_
        have hv_6 := invG_1 hIi ((8 * r) + (i : Int)) (by omega) (by omega)
        refine lv_iload_n hx hb dX0_writeAnew_55 rfl (lv_at hl 4 rfl) ?_
        refine lv_iload_n hx hb dX0_writeAnew_56 rfl (lv_at hl 3 rfl) ?_
        refine mw_none (st1 := [.int (iI (tellZ ((anewStZ G r (thrZ G r 0) (thrZ G r 1) i) 1 ((8 * r) + (i : Int))) (thrZ G r 0) (thrZ G r 1)))]) (mr_S (As := [.int (iI ((anewStZ G r (thrZ G r 0) (thrZ G r 1) i) 1 ((8 * r) + (i : Int)))), .int (iI (thrZ G r 0)), .int (iI (thrZ G r 1))]) (rest := []) ⟨hx, hb, hml, hown, hts⟩ (m_X0_tell l D ((anewStZ G r (thrZ G r 0) (thrZ G r 1) i) 1 ((8 * r) + (i : Int))) (thrZ G r 0) (thrZ G r 1) (by omega) (by omega) (by omega)) (va_cwS 3 hts (gS q_56 q_57 q_8 q_52) rfl rfl rfl (by decide +kernel) ⟨Nat.le_trans (m := 1) (Nat.le_of_ble_eq_true rfl) (Nat.le_trans (Nat.le_of_ble_eq_true rfl) hRf), Nat.le_trans (m := 22) (Nat.le_of_ble_eq_true rfl) (Nat.le_trans (Nat.le_of_ble_eq_true rfl) hRl)⟩) hN (hK.sub (tys' := []) [] rfl) (va_P0 _ _ _) (va_D0 A) rfl hl.1 (Nat.le_of_ble_eq_true rfl) ⟨hRc, hRs⟩ dX0_writeAnew_57) hP hS hA rfl (fun H locs hP hS => ?_)
        have hf_7 := tellZ_01 ((anewStZ G r (thrZ G r 0) (thrZ G r 1) i) 1 ((8 * r) + (i : Int))) (thrZ G r 0) (thrZ G r 1)
        refine lv_istore (lv' := [(7, .int (iI (tellZ ((anewStZ G r (thrZ G r 0) (thrZ G r 1) i) 1 ((8 * r) + (i : Int))) (thrZ G r 0) (thrZ G r 1)))), (6, .int (iI ((8 * r) + (i : Int)))), (5, .int (iI (i : Int))), (4, .int (iI (anewLostZ G r (thrZ G r 0) (thrZ G r 1) i))), (3, .int (iI (thrZ G r 1))), (2, .int (iI (thrZ G r 0))), (0, .ref g), (1, .int (iI r))]) hx hb dX0_writeAnew_60 hl (by decide) rfl (fun ls hl => ?_)
        refine lv_iload hx hb dX0_writeAnew_62 (lv_at hl 0 rfl) ?_
        refine lv_aload_n hx hb dX0_writeAnew_64 rfl (lv_at hl 6 rfl) ?_
        refine va_get (D := D) (ci := 0) (v := .ref (ad 0)) (C := RX0) (T := TX0) (N := 13) hx hb hq inA0 hown hK hP 0 rfl rfl 0 (by decide) (hq _ q_2) (fun _ h9 => h9) rfl dX0_writeAnew_65 ?_
        refine lv_iload hx hb dX0_writeAnew_68 (lv_at hl 1 rfl) ?_
        refine z_iald hx hb hK hP 1 0 rfl rfl (by omega) (by omega) (v := ((anewStZ G r (thrZ G r 0) (thrZ G r 1) i) 0 ((8 * r) + (i : Int)))) rfl dX0_writeAnew_70 ?_
        have hv_8 := invG_0 hIi ((8 * r) + (i : Int)) (by omega) (by omega)
        refine z_icmp_eq (tgt := 77) hx hb dX0_writeAnew_71 (by decide) (by omega) (by omega) (fun c_9 => ?_) (fun c_9 => ?_)
        · refine lv_aload_n hx hb dX0_writeAnew_77 rfl (lv_at hl 6 rfl) ?_
          refine lv_iload hx hb dX0_writeAnew_78 (lv_at hl 1 rfl) ?_
          refine lv_iload hx hb dX0_writeAnew_80 (lv_at hl 0 rfl) ?_
          refine mw_full (st1 := []) (mr_V (As := [.int (iI ((8 * r) + (i : Int))), .int (iI (tellZ ((anewStZ G r (thrZ G r 0) (thrZ G r 1) i) 1 ((8 * r) + (i : Int))) (thrZ G r 0) (thrZ G r 1)))]) (rest := []) (ci := 0) (q0 := 0) ⟨hx, hb, hml, hown, hts⟩ (m_X0_put l D g ad cI (anewStZ G r (thrZ G r 0) (thrZ G r 1) i) ((8 * r) + (i : Int)) (tellZ ((anewStZ G r (thrZ G r 0) (thrZ G r 1) i) 1 ((8 * r) + (i : Int))) (thrZ G r 0) (thrZ G r 1)) hIi (by omega)) (cwV 2 hts (gV q_23 q_24 q_25 q_8 q_9) rfl rfl rfl (by decide +kernel) ⟨Nat.le_trans (m := 2) (Nat.le_of_ble_eq_true rfl) (Nat.le_trans (Nat.le_of_ble_eq_true rfl) hRf), Nat.le_trans (m := 43) (Nat.le_of_ble_eq_true rfl) (Nat.le_trans (Nat.le_of_ble_eq_true rfl) hRl)⟩) hN hK hP hD rfl rfl rfl hl.1 (Nat.le_of_ble_eq_true rfl) ⟨hRc, hRs⟩ dX0_writeAnew_82) hD hS hA rfl (fun H locs hP hD hS => ?_)
          refine lv_iinc (v := iI ((i : Int) + 1)) (lv' := [(5, .int (iI ((i : Int) + 1))), (7, .int (iI (tellZ ((anewStZ G r (thrZ G r 0) (thrZ G r 1) i) 1 ((8 * r) + (i : Int))) (thrZ G r 0) (thrZ G r 1)))), (6, .int (iI ((8 * r) + (i : Int)))), (4, .int (iI (anewLostZ G r (thrZ G r 0) (thrZ G r 1) i))), (3, .int (iI (thrZ G r 1))), (2, .int (iI (thrZ G r 0))), (0, .ref g), (1, .int (iI r))]) hx hb dX0_writeAnew_85 hl (k := 2) rfl (iI_add _ _) (by decide) rfl (fun ls hl => ?_)
          refine lv_goto (tgt := 32) hx hb dX0_writeAnew_88 (by decide) ?_
          have e1_0 : (((i + 1 : Nat) : Int)) = ((i : Int) + 1) := by first | omega | (simp only [anewLostZ]; rw [if_pos (by assumption)]) | (simp only [anewLostZ]; rw [if_neg (by assumption)])
          have e1_1 : ((anewLostZ G r (thrZ G r 0) (thrZ G r 1) (i + 1))) = (anewLostZ G r (thrZ G r 0) (thrZ G r 1) i) := by first | omega | (simp only [anewLostZ]; rw [if_pos (by assumption)]) | (simp only [anewLostZ]; rw [if_neg (by assumption)])
          have eG0 : (anewStZ G r (thrZ G r 0) (thrZ G r 1) (i + 1)) = (putZ (anewStZ G r (thrZ G r 0) (thrZ G r 1) i) ((8 * r) + (i : Int)) (tellZ ((anewStZ G r (thrZ G r 0) (thrZ G r 1) i) 1 ((8 * r) + (i : Int))) (thrZ G r 0) (thrZ G r 1))) := by rfl
          rw [← eG0] at hP hD
          exact ih32 (i + 1) (by omega) (by omega) _ _ _ hP hD hS (lv_to (lv_sub (l' := [(5, .int (iI ((i : Int) + 1))), (4, .int (iI (anewLostZ G r (thrZ G r 0) (thrZ G r 1) i))), (3, .int (iI (thrZ G r 1))), (2, .int (iI (thrZ G r 0))), (0, .ref g), (1, .int (iI r))]) hl [0, 3, 4, 5, 6, 7] rfl) (by simp only [e1_0, e1_1]))
        · refine lv_iinc (v := iI ((anewLostZ G r (thrZ G r 0) (thrZ G r 1) i) + 1)) (lv' := [(4, .int (iI ((anewLostZ G r (thrZ G r 0) (thrZ G r 1) i) + 1))), (7, .int (iI (tellZ ((anewStZ G r (thrZ G r 0) (thrZ G r 1) i) 1 ((8 * r) + (i : Int))) (thrZ G r 0) (thrZ G r 1)))), (6, .int (iI ((8 * r) + (i : Int)))), (5, .int (iI (i : Int))), (3, .int (iI (thrZ G r 1))), (2, .int (iI (thrZ G r 0))), (0, .ref g), (1, .int (iI r))]) hx hb dX0_writeAnew_74 hl (k := 3) rfl (iI_add _ _) (by decide) rfl (fun ls hl => ?_)
          refine lv_aload_n hx hb dX0_writeAnew_77 rfl (lv_at hl 6 rfl) ?_
          refine lv_iload hx hb dX0_writeAnew_78 (lv_at hl 2 rfl) ?_
          refine lv_iload hx hb dX0_writeAnew_80 (lv_at hl 1 rfl) ?_
          refine mw_full (st1 := []) (mr_V (As := [.int (iI ((8 * r) + (i : Int))), .int (iI (tellZ ((anewStZ G r (thrZ G r 0) (thrZ G r 1) i) 1 ((8 * r) + (i : Int))) (thrZ G r 0) (thrZ G r 1)))]) (rest := []) (ci := 0) (q0 := 0) ⟨hx, hb, hml, hown, hts⟩ (m_X0_put l D g ad cI (anewStZ G r (thrZ G r 0) (thrZ G r 1) i) ((8 * r) + (i : Int)) (tellZ ((anewStZ G r (thrZ G r 0) (thrZ G r 1) i) 1 ((8 * r) + (i : Int))) (thrZ G r 0) (thrZ G r 1)) hIi (by omega)) (cwV 2 hts (gV q_23 q_24 q_25 q_8 q_9) rfl rfl rfl (by decide +kernel) ⟨Nat.le_trans (m := 2) (Nat.le_of_ble_eq_true rfl) (Nat.le_trans (Nat.le_of_ble_eq_true rfl) hRf), Nat.le_trans (m := 43) (Nat.le_of_ble_eq_true rfl) (Nat.le_trans (Nat.le_of_ble_eq_true rfl) hRl)⟩) hN hK hP hD rfl rfl rfl hl.1 (Nat.le_of_ble_eq_true rfl) ⟨hRc, hRs⟩ dX0_writeAnew_82) hD hS hA rfl (fun H locs hP hD hS => ?_)
          refine lv_iinc (v := iI ((i : Int) + 1)) (lv' := [(5, .int (iI ((i : Int) + 1))), (4, .int (iI ((anewLostZ G r (thrZ G r 0) (thrZ G r 1) i) + 1))), (7, .int (iI (tellZ ((anewStZ G r (thrZ G r 0) (thrZ G r 1) i) 1 ((8 * r) + (i : Int))) (thrZ G r 0) (thrZ G r 1)))), (6, .int (iI ((8 * r) + (i : Int)))), (3, .int (iI (thrZ G r 1))), (2, .int (iI (thrZ G r 0))), (0, .ref g), (1, .int (iI r))]) hx hb dX0_writeAnew_85 hl (k := 3) rfl (iI_add _ _) (by decide) rfl (fun ls hl => ?_)
          refine lv_goto (tgt := 32) hx hb dX0_writeAnew_88 (by decide) ?_
          have e1_0 : (((i + 1 : Nat) : Int)) = ((i : Int) + 1) := by first | omega | (simp only [anewLostZ]; rw [if_pos (by assumption)]) | (simp only [anewLostZ]; rw [if_neg (by assumption)])
          have e1_1 : ((anewLostZ G r (thrZ G r 0) (thrZ G r 1) (i + 1))) = ((anewLostZ G r (thrZ G r 0) (thrZ G r 1) i) + 1) := by first | omega | (simp only [anewLostZ]; rw [if_pos (by assumption)]) | (simp only [anewLostZ]; rw [if_neg (by assumption)])
          have eG0 : (anewStZ G r (thrZ G r 0) (thrZ G r 1) (i + 1)) = (putZ (anewStZ G r (thrZ G r 0) (thrZ G r 1) i) ((8 * r) + (i : Int)) (tellZ ((anewStZ G r (thrZ G r 0) (thrZ G r 1) i) 1 ((8 * r) + (i : Int))) (thrZ G r 0) (thrZ G r 1))) := by rfl
          rw [← eG0] at hP hD
          exact ih32 (i + 1) (by omega) (by omega) _ _ _ hP hD hS (lv_to (lv_sub (l' := [(5, .int (iI ((i : Int) + 1))), (4, .int (iI ((anewLostZ G r (thrZ G r 0) (thrZ G r 1) i) + 1))), (3, .int (iI (thrZ G r 1))), (2, .int (iI (thrZ G r 0))), (0, .ref g), (1, .int (iI r))]) hl [0, 1, 4, 5, 6, 7] rfl) (by simp only [e1_0, e1_1]))
  have e0_0 : (((0 : Nat) : Int)) = 0 := by first | rfl | omega
  have e0_1 : ((anewLostZ G r (thrZ G r 0) (thrZ G r 1) (0))) = 0 := by first | rfl | omega
  exact LP32 (8 + 1) 0 (by omega) (by omega) _ _ _ hP hD hS (lv_to (lv_sub (l' := [(5, .int (iI 0)), (4, .int (iI 0)), (3, .int (iI (thrZ G r 1))), (2, .int (iI (thrZ G r 0))), (0, .ref g), (1, .int (iI r))]) hl [0, 1, 2, 3, 4, 5] rfl) (by simp only [e0_0, e0_1]))
set_option maxHeartbeats 4000000 in
set_option maxRecDepth 100000 in
theorem m_X0_writeAnew_bad (l : Launch) (D : va_G) (g : Nat) (ad : Nat → Nat) (cI : ClassId) (G : Nat → Int → Int) (r : Int) (h1 : -2147483648 ≤ r ∧ r < 2147483648) (hb0 : r < 0 ∨ 5 < r)  : MW l D yX0_writeAnew (wsY yX0_writeAnew cX0_writeAnew 8 (some .int)) { frames := 2, cells := 0, slots := 0, locals := 47 } [(cI, .int)] [.ref g, .int (iI r)] (wG g ad cI G) (wG g ad cI G) (some (.int (iI (-1000001)))) := by
  refine mw_ofI (cc := cX0_writeAnew) (maxL := 8) (by decide) rfl (Nat.le_of_ble_eq_true rfl) ?_
  intro p e s m below meth c R A Q args ls hx hb hml hown hts hRf hRl hRc hRs hN hK hP hD hS hA hret hl
  have hq : ∀ w ∈ ALL, w.before args s = true := fun w h => hts w (List.mem_cons_of_mem _ h)
  have hl : lv_has ls 8 [(0, .ref g), (1, .int (iI r))] := hl
  refine lv_iload_n hx hb dX0_writeAnew_0 rfl (lv_at hl 1 rfl) ?_
  refine z_iconst hx hb dX0_writeAnew_1 ?_
  refine z_iconst hx hb dX0_writeAnew_2 ?_
  refine mw_none (st1 := [.int (iI (outZ r 0 5))]) (mr_SN (As := [.int (iI r), .int (iI 0), .int (iI 5)]) (rest := []) ⟨hx, hb, hml, hown, hts⟩ (m_X2_isOutside l D r 0 5 (by omega) (by omega) (by omega)) ⟨va_cnB 3 hts (gSelf q_35) rfl rfl rfl hN.1 (hq _ q_37) (by decide +kernel) ⟨Nat.le_trans (m := 1) (Nat.le_of_ble_eq_true rfl) (Nat.le_trans (Nat.le_of_ble_eq_true rfl) hRf), Nat.le_trans (m := 22) (Nat.le_of_ble_eq_true rfl) (Nat.le_trans (Nat.le_of_ble_eq_true rfl) hRl)⟩, hq _ q_36, trivial⟩ hN (hK.sub (tys' := []) [] rfl) (va_P0 _ _ _) (va_D0 A) rfl hl.1 (Nat.le_of_ble_eq_true rfl) ⟨hRc, hRs⟩ dX0_writeAnew_3) hP hS hA rfl (fun H locs hP hS => ?_)
  have hf_1 : outZ r 0 5 = if r < 0 ∨ 5 < r then 1 else 0 := rfl
  refine z_if_eq (tgt := 12) hx hb dX0_writeAnew_6 (by decide) (by omega) (fun c_2 => absurd c_2 (by omega)) (fun c_2 => ?_)
  refine z_ldc hx hb (-1000001) (by decide +kernel) hown (hq _ q_39) dX0_writeAnew_9 ?_
  refine z_as (show (-1000001) = -1000001 from by first | rfl | omega) ?_
  first | exact hret _ _ _ _ dX0_writeAnew_11 hP hD hS | (exfalso; omega)
set_option maxHeartbeats 4000000 in
set_option maxRecDepth 100000 in
theorem m_X0_askCell (l : Launch) (D : va_G) (g : Nat) (ad : Nat → Nat) (cI : ClassId) (G : Nat → Int → Int) (r c2 : Int) {B : Int} (hI : InvG B G) (hB : B + 1 ≤ 100000000) (h1 : 0 ≤ r ∧ r < 6) (h2 : 0 ≤ c2 ∧ c2 < 8)  : MW l D yX0_askCell (wsY yX0_askCell cX0_askCell 5 (some .int)) { frames := 2, cells := 0, slots := 0, locals := 47 } [(cI, .int)] [.ref g, .int (iI r), .int (iI c2)] (wG g ad cI G) (wG g ad cI (askZ G r c2)) (some (.int (iI (toldZ G r c2)))) := by
  refine mw_ofI (cc := cX0_askCell) (maxL := 5) (by decide) rfl (Nat.le_of_ble_eq_true rfl) ?_
  intro p e s m below meth c R A Q args ls hx hb hml hown hts hRf hRl hRc hRs hN hK hP hD hS hA hret hl
  have hq : ∀ w ∈ ALL, w.before args s = true := fun w h => hts w (List.mem_cons_of_mem _ h)
  have hl : lv_has ls 5 [(0, .ref g), (1, .int (iI r)), (2, .int (iI c2))] := hl
  refine lv_iload_n hx hb dX0_askCell_0 rfl (lv_at hl 1 rfl) ?_
  refine lv_iload_n hx hb dX0_askCell_1 rfl (lv_at hl 2 rfl) ?_
  refine mw_none (st1 := [.int (iI (if (r < 0 ∨ 5 < r) ∨ (c2 < 0 ∨ 7 < c2) then 1 else 0 : Int))]) (mr_S (As := [.int (iI r), .int (iI c2)]) (rest := []) ⟨hx, hb, hml, hown, hts⟩ (m_X0_isOutsideCell l D r c2 (by omega) (by omega)) (va_cwS 2 hts (gS q_40 q_41 q_8 q_38) rfl rfl rfl (by decide +kernel) ⟨Nat.le_trans (m := 2) (Nat.le_of_ble_eq_true rfl) (Nat.le_trans (Nat.le_of_ble_eq_true rfl) hRf), Nat.le_trans (m := 43) (Nat.le_of_ble_eq_true rfl) (Nat.le_trans (Nat.le_of_ble_eq_true rfl) hRl)⟩) hN (hK.sub (tys' := []) [] rfl) (va_P0 _ _ _) (va_D0 A) rfl hl.1 (Nat.le_of_ble_eq_true rfl) ⟨hRc, hRs⟩ dX0_askCell_2) hP hS hA rfl (fun H locs hP hS => ?_)
  refine z_if_eq (tgt := 11) hx hb dX0_askCell_5 (by decide) (by omega) (fun c_1 => ?_) (fun c_1 => absurd c_1 (by omega))
  refine z_bipush hx hb dX0_askCell_11 (by decide +kernel) ?_
  refine lv_iload_n hx hb dX0_askCell_13 rfl (lv_at hl 1 rfl) ?_
  refine z_imul hx hb dX0_askCell_14 ?_
  refine lv_iload_n hx hb dX0_askCell_15 rfl (lv_at hl 2 rfl) ?_
  refine z_iadd hx hb dX0_askCell_16 ?_
  refine lv_istore_n (lv' := [(3, .int (iI ((8 * r) + c2))), (0, .ref g), (1, .int (iI r)), (2, .int (iI c2))]) hx hb dX0_askCell_17 rfl hl (by decide) rfl (fun ls hl => ?_)
  refine lv_aload_n hx hb dX0_askCell_18 rfl (lv_at hl 1 rfl) ?_
  refine va_get (D := D) (ci := 0) (v := .ref (ad 1)) (C := RX0) (T := TX0) (N := 13) hx hb hq inA0 hown hK hP 0 rfl rfl 1 (by decide) (hq _ q_3) (fun _ h9 => h9) rfl dX0_askCell_19 ?_
  refine lv_iload_n hx hb dX0_askCell_22 rfl (lv_at hl 0 rfl) ?_
  refine z_iald hx hb hK hP 2 0 rfl rfl (by omega) (by omega) (v := (G 1 ((8 * r) + c2))) rfl dX0_askCell_23 ?_
  have hv_2 := invG_1 hI ((8 * r) + c2) (by omega) (by omega)
  refine lv_aload_n hx hb dX0_askCell_24 rfl (lv_at hl 1 rfl) ?_
  refine lv_iload_n hx hb dX0_askCell_25 rfl (lv_at hl 2 rfl) ?_
  refine z_iconst hx hb dX0_askCell_26 ?_
  refine mw_full (st1 := [.int (iI (thrZ G r 0)), .int (iI (G 1 ((8 * r) + c2)))]) (mr_V (As := [.int (iI r), .int (iI 0)]) (rest := [.int (iI (G 1 ((8 * r) + c2)))]) (ci := 0) (q0 := 0) ⟨hx, hb, hml, hown, hts⟩ (m_X0_threshold l D g ad cI G r 0 hI (by omega) (by omega)) (cwV 2 hts (gV q_53 q_54 q_55 q_8 q_51) rfl rfl rfl (by decide +kernel) ⟨Nat.le_trans (m := 2) (Nat.le_of_ble_eq_true rfl) (Nat.le_trans (Nat.le_of_ble_eq_true rfl) hRf), Nat.le_trans (m := 47) (Nat.le_of_ble_eq_true rfl) (Nat.le_trans (Nat.le_of_ble_eq_true rfl) hRl)⟩) hN hK hP hD rfl rfl rfl hl.1 (Nat.le_of_ble_eq_true rfl) ⟨hRc, hRs⟩ dX0_askCell_27) hD hS hA rfl (fun H locs hP hD hS => ?_)
  have hf_3 := thrZ_bd hI r 0 (by omega) (by omega)
  refine lv_aload_n hx hb dX0_askCell_30 rfl (lv_at hl 1 rfl) ?_
  refine lv_iload_n hx hb dX0_askCell_31 rfl (lv_at hl 2 rfl) ?_
  refine z_iconst hx hb dX0_askCell_32 ?_
  refine mw_full (st1 := [.int (iI (thrZ G r 1)), .int (iI (thrZ G r 0)), .int (iI (G 1 ((8 * r) + c2)))]) (mr_V (As := [.int (iI r), .int (iI 1)]) (rest := [.int (iI (thrZ G r 0)), .int (iI (G 1 ((8 * r) + c2)))]) (ci := 0) (q0 := 0) ⟨hx, hb, hml, hown, hts⟩ (m_X0_threshold l D g ad cI G r 1 hI (by omega) (by omega)) (cwV 2 hts (gV q_53 q_54 q_55 q_8 q_51) rfl rfl rfl (by decide +kernel) ⟨Nat.le_trans (m := 2) (Nat.le_of_ble_eq_true rfl) (Nat.le_trans (Nat.le_of_ble_eq_true rfl) hRf), Nat.le_trans (m := 47) (Nat.le_of_ble_eq_true rfl) (Nat.le_trans (Nat.le_of_ble_eq_true rfl) hRl)⟩) hN hK hP hD rfl rfl rfl hl.1 (Nat.le_of_ble_eq_true rfl) ⟨hRc, hRs⟩ dX0_askCell_33) hD hS hA rfl (fun H locs hP hD hS => ?_)
  have hf_4 := thrZ_bd hI r 1 (by omega) (by omega)
  refine mw_none (st1 := [.int (iI (tellZ (G 1 ((8 * r) + c2)) (thrZ G r 0) (thrZ G r 1)))]) (mr_S (As := [.int (iI (G 1 ((8 * r) + c2))), .int (iI (thrZ G r 0)), .int (iI (thrZ G r 1))]) (rest := []) ⟨hx, hb, hml, hown, hts⟩ (m_X0_tell l D (G 1 ((8 * r) + c2)) (thrZ G r 0) (thrZ G r 1) (by omega) (by omega) (by omega)) (va_cwS 3 hts (gS q_56 q_57 q_8 q_52) rfl rfl rfl (by decide +kernel) ⟨Nat.le_trans (m := 1) (Nat.le_of_ble_eq_true rfl) (Nat.le_trans (Nat.le_of_ble_eq_true rfl) hRf), Nat.le_trans (m := 22) (Nat.le_of_ble_eq_true rfl) (Nat.le_trans (Nat.le_of_ble_eq_true rfl) hRl)⟩) hN (hK.sub (tys' := []) [] rfl) (va_P0 _ _ _) (va_D0 A) rfl hl.1 (Nat.le_of_ble_eq_true rfl) ⟨hRc, hRs⟩ dX0_askCell_36) hP hS hA rfl (fun H locs hP hS => ?_)
  have hf_5 := tellZ_01 (G 1 ((8 * r) + c2)) (thrZ G r 0) (thrZ G r 1)
  refine lv_istore (lv' := [(4, .int (iI (tellZ (G 1 ((8 * r) + c2)) (thrZ G r 0) (thrZ G r 1)))), (3, .int (iI ((8 * r) + c2))), (0, .ref g), (1, .int (iI r)), (2, .int (iI c2))]) hx hb dX0_askCell_39 hl (by decide) rfl (fun ls hl => ?_)
  refine lv_aload_n hx hb dX0_askCell_41 rfl (lv_at hl 2 rfl) ?_
  refine va_get (D := D) (ci := 0) (v := .ref (ad 10)) (C := RX0) (T := TX0) (N := 13) hx hb hq inA0 hown hK hP 0 rfl rfl 10 (by decide) (hq _ q_21) (fun _ h9 => h9) rfl dX0_askCell_42 ?_
  refine z_iconst hx hb dX0_askCell_45 ?_
  refine lv_aload_n hx hb dX0_askCell_46 rfl (lv_at hl 2 rfl) ?_
  refine va_get (D := D) (ci := 0) (v := .ref (ad 0)) (C := RX0) (T := TX0) (N := 13) hx hb hq inA0 hown hK hP 0 rfl rfl 0 (by decide) (hq _ q_2) (fun _ h9 => h9) rfl dX0_askCell_47 ?_
  refine lv_iload_n hx hb dX0_askCell_50 rfl (lv_at hl 1 rfl) ?_
  refine z_iald hx hb hK hP 1 0 rfl rfl (by omega) (by omega) (v := (G 0 ((8 * r) + c2))) rfl dX0_askCell_51 ?_
  have hv_6 := invG_0 hI ((8 * r) + c2) (by omega) (by omega)
  refine z_imul hx hb dX0_askCell_52 ?_
  refine lv_iload hx hb dX0_askCell_53 (lv_at hl 0 rfl) ?_
  refine z_iadd hx hb dX0_askCell_55 ?_
  refine lv_dup2_11 hx hb dX0_askCell_56 rfl rfl ?_
  refine z_iald hx hb hK hP 11 0 rfl rfl (by omega) (by omega) (v := (G 10 ((3 * (G 0 ((8 * r) + c2))) + tellZ (G 1 ((8 * r) + c2)) (thrZ G r 0) (thrZ G r 1)))) rfl dX0_askCell_57 ?_
  have hv_7 := invG_10 hI ((3 * (G 0 ((8 * r) + c2))) + tellZ (G 1 ((8 * r) + c2)) (thrZ G r 0) (thrZ G r 1)) (by omega) (by omega)
  refine z_iconst hx hb dX0_askCell_58 ?_
  refine z_iadd hx hb dX0_askCell_59 ?_
  refine z_iast (w1 := (wG g ad cI (upG G 10 ((3 * (G 0 ((8 * r) + c2))) + tellZ (G 1 ((8 * r) + c2)) (thrZ G r 0) (thrZ G r 1)) ((G 10 ((3 * (G 0 ((8 * r) + c2))) + tellZ (G 1 ((8 * r) + c2)) (thrZ G r 0) (thrZ G r 1))) + 1)))) hx hb hK hP hD hS 11 0 rfl rfl (by omega) (by omega) (wG_set10 _ _ _ _ _ _) dX0_askCell_60 (fun H locs hP hD hS => ?_)
  refine lv_iload hx hb dX0_askCell_61 (lv_at hl 0 rfl) ?_
  refine z_as (show tellZ (G 1 ((8 * r) + c2)) (thrZ G r 0) (thrZ G r 1) = toldZ G r c2 from by first | rfl | omega) ?_
  first | exact hret _ _ _ _ dX0_askCell_63 hP hD hS | (exfalso; omega)
set_option maxHeartbeats 4000000 in
set_option maxRecDepth 100000 in
theorem m_X0_askCell_bad (l : Launch) (D : va_G) (g : Nat) (ad : Nat → Nat) (cI : ClassId) (G : Nat → Int → Int) (r c2 : Int) (h1 : -2147483648 ≤ r ∧ r < 2147483648) (h2 : -2147483648 ≤ c2 ∧ c2 < 2147483648) (hb0 : r < 0 ∨ 5 < r ∨ c2 < 0 ∨ 7 < c2)  : MW l D yX0_askCell (wsY yX0_askCell cX0_askCell 5 (some .int)) { frames := 2, cells := 0, slots := 0, locals := 47 } [(cI, .int)] [.ref g, .int (iI r), .int (iI c2)] (wG g ad cI G) (wG g ad cI G) (some (.int (iI (-1000001)))) := by
  refine mw_ofI (cc := cX0_askCell) (maxL := 5) (by decide) rfl (Nat.le_of_ble_eq_true rfl) ?_
  intro p e s m below meth c R A Q args ls hx hb hml hown hts hRf hRl hRc hRs hN hK hP hD hS hA hret hl
  have hq : ∀ w ∈ ALL, w.before args s = true := fun w h => hts w (List.mem_cons_of_mem _ h)
  have hl : lv_has ls 5 [(0, .ref g), (1, .int (iI r)), (2, .int (iI c2))] := hl
  refine lv_iload_n hx hb dX0_askCell_0 rfl (lv_at hl 1 rfl) ?_
  refine lv_iload_n hx hb dX0_askCell_1 rfl (lv_at hl 2 rfl) ?_
  refine mw_none (st1 := [.int (iI (if (r < 0 ∨ 5 < r) ∨ (c2 < 0 ∨ 7 < c2) then 1 else 0 : Int))]) (mr_S (As := [.int (iI r), .int (iI c2)]) (rest := []) ⟨hx, hb, hml, hown, hts⟩ (m_X0_isOutsideCell l D r c2 (by omega) (by omega)) (va_cwS 2 hts (gS q_40 q_41 q_8 q_38) rfl rfl rfl (by decide +kernel) ⟨Nat.le_trans (m := 2) (Nat.le_of_ble_eq_true rfl) (Nat.le_trans (Nat.le_of_ble_eq_true rfl) hRf), Nat.le_trans (m := 43) (Nat.le_of_ble_eq_true rfl) (Nat.le_trans (Nat.le_of_ble_eq_true rfl) hRl)⟩) hN (hK.sub (tys' := []) [] rfl) (va_P0 _ _ _) (va_D0 A) rfl hl.1 (Nat.le_of_ble_eq_true rfl) ⟨hRc, hRs⟩ dX0_askCell_2) hP hS hA rfl (fun H locs hP hS => ?_)
  refine z_if_eq (tgt := 11) hx hb dX0_askCell_5 (by decide) (by omega) (fun c_1 => absurd c_1 (by omega)) (fun c_1 => ?_)
  refine z_ldc hx hb (-1000001) (by decide +kernel) hown (hq _ q_39) dX0_askCell_8 ?_
  refine z_as (show (-1000001) = -1000001 from by first | rfl | omega) ?_
  first | exact hret _ _ _ _ dX0_askCell_10 hP hD hS | (exfalso; omega)
set_option maxHeartbeats 4000000 in
set_option maxRecDepth 100000 in
theorem m_X0_failGuard (l : Launch) (D : va_G) (g : Nat) (ad : Nat → Nat) (cI : ClassId) (G : Nat → Int → Int) (r g2 v : Int) {B : Int} (hI : InvG B G) (h1 : 0 ≤ r ∧ r < 6) (h2 : 0 ≤ g2 ∧ g2 < 3) (h3 : 0 ≤ v ∧ v ≤ 999) (h4 : G 5 (3 * r + g2) = 0)  : MW l D yX0_failGuard (wsY yX0_failGuard cX0_failGuard 6 (some .int)) { frames := 2, cells := 0, slots := 0, locals := 43 } [(cI, .int)] [.ref g, .int (iI r), .int (iI g2), .int (iI v)] (wG g ad cI G) (wG g ad cI (upG (upG G 5 (3 * r + g2) 1) 4 (3 * r + g2) v)) (some (.int (iI (G 4 (3 * r + g2))))) := by
  refine mw_ofI (cc := cX0_failGuard) (maxL := 6) (by decide) rfl (Nat.le_of_ble_eq_true rfl) ?_
  intro p e s m below meth c R A Q args ls hx hb hml hown hts hRf hRl hRc hRs hN hK hP hD hS hA hret hl
  have hq : ∀ w ∈ ALL, w.before args s = true := fun w h => hts w (List.mem_cons_of_mem _ h)
  have hl : lv_has ls 6 [(0, .ref g), (1, .int (iI r)), (2, .int (iI g2)), (3, .int (iI v))] := hl
  refine lv_iload_n hx hb dX0_failGuard_0 rfl (lv_at hl 1 rfl) ?_
  refine lv_iload_n hx hb dX0_failGuard_1 rfl (lv_at hl 2 rfl) ?_
  refine mw_none (st1 := [.int (iI (if (r < 0 ∨ 5 < r) ∨ (g2 < 0 ∨ 2 < g2) then 1 else 0 : Int))]) (mr_S (As := [.int (iI r), .int (iI g2)]) (rest := []) ⟨hx, hb, hml, hown, hts⟩ (m_X0_isOutsideGuard l D r g2 (by omega) (by omega)) (va_cwS 2 hts (gS q_67 q_68 q_8 q_65) rfl rfl rfl (by decide +kernel) ⟨Nat.le_trans (m := 2) (Nat.le_of_ble_eq_true rfl) (Nat.le_trans (Nat.le_of_ble_eq_true rfl) hRf), Nat.le_trans (m := 43) (Nat.le_of_ble_eq_true rfl) (Nat.le_trans (Nat.le_of_ble_eq_true rfl) hRl)⟩) hN (hK.sub (tys' := []) [] rfl) (va_P0 _ _ _) (va_D0 A) rfl hl.1 (Nat.le_of_ble_eq_true rfl) ⟨hRc, hRs⟩ dX0_failGuard_2) hP hS hA rfl (fun H locs hP hS => ?_)
  refine z_if_ne (tgt := 19) hx hb dX0_failGuard_5 (by decide) (by omega) (fun c_1 => ?_) (fun c_1 => ?_)
  · refine z_ldc hx hb (-1000001) (by decide +kernel) hown (hq _ q_39) dX0_failGuard_19 ?_
    refine z_as (show (-1000001) = G 4 (3 * r + g2) from by first | rfl | omega) ?_
    first | exact hret _ _ _ _ dX0_failGuard_21 hP hD hS | (exfalso; omega)
  · refine lv_iload_n hx hb dX0_failGuard_8 rfl (lv_at hl 3 rfl) ?_
    refine z_iconst hx hb dX0_failGuard_9 ?_
    refine z_sipush hx hb dX0_failGuard_10 (by decide +kernel) ?_
    refine mw_none (st1 := [.int (iI (outZ v 0 999))]) (mr_SN (As := [.int (iI v), .int (iI 0), .int (iI 999)]) (rest := []) ⟨hx, hb, hml, hown, hts⟩ (m_X2_isOutside l D v 0 999 (by omega) (by omega) (by omega)) ⟨va_cnB 3 hts (gSelf q_35) rfl rfl rfl hN.1 (hq _ q_37) (by decide +kernel) ⟨Nat.le_trans (m := 1) (Nat.le_of_ble_eq_true rfl) (Nat.le_trans (Nat.le_of_ble_eq_true rfl) hRf), Nat.le_trans (m := 22) (Nat.le_of_ble_eq_true rfl) (Nat.le_trans (Nat.le_of_ble_eq_true rfl) hRl)⟩, hq _ q_36, trivial⟩ hN (hK.sub (tys' := []) [] rfl) (va_P0 _ _ _) (va_D0 A) rfl hl.1 (Nat.le_of_ble_eq_true rfl) ⟨hRc, hRs⟩ dX0_failGuard_13) hP hS hA rfl (fun H locs hP hS => ?_)
    have hf_2 : outZ v 0 999 = if v < 0 ∨ 999 < v then 1 else 0 := rfl
    refine z_if_eq (tgt := 22) hx hb dX0_failGuard_16 (by decide) (by omega) (fun c_3 => ?_) (fun c_3 => ?_)
    · refine z_iconst hx hb dX0_failGuard_22 ?_
      refine lv_iload_n hx hb dX0_failGuard_23 rfl (lv_at hl 1 rfl) ?_
      refine z_imul hx hb dX0_failGuard_24 ?_
      refine lv_iload_n hx hb dX0_failGuard_25 rfl (lv_at hl 2 rfl) ?_
      refine z_iadd hx hb dX0_failGuard_26 ?_
      refine lv_istore (lv' := [(4, .int (iI ((3 * r) + g2))), (0, .ref g), (1, .int (iI r)), (2, .int (iI g2)), (3, .int (iI v))]) hx hb dX0_failGuard_27 hl (by decide) rfl (fun ls hl => ?_)
      refine lv_aload_n hx hb dX0_failGuard_29 rfl (lv_at hl 1 rfl) ?_
      refine va_get (D := D) (ci := 0) (v := .ref (ad 5)) (C := RX0) (T := TX0) (N := 13) hx hb hq inA0 hown hK hP 0 rfl rfl 5 (by decide) (hq _ q_10) (fun _ h9 => h9) rfl dX0_failGuard_30 ?_
      refine lv_iload hx hb dX0_failGuard_33 (lv_at hl 0 rfl) ?_
      refine z_iald hx hb hK hP 6 0 rfl rfl (by omega) (by omega) (v := (G 5 ((3 * r) + g2))) rfl dX0_failGuard_35 ?_
      have hv_4 := invG_5 hI ((3 * r) + g2) (by omega) (by omega)
      refine z_iconst hx hb dX0_failGuard_36 ?_
      refine z_icmp_ne (tgt := 43) hx hb dX0_failGuard_37 (by decide) (by omega) (by omega) (fun c_5 => ?_) (fun c_5 => ?_)
      · refine lv_aload_n hx hb dX0_failGuard_43 rfl (lv_at hl 1 rfl) ?_
        refine va_get (D := D) (ci := 0) (v := .ref (ad 4)) (C := RX0) (T := TX0) (N := 13) hx hb hq inA0 hown hK hP 0 rfl rfl 4 (by decide) (hq _ q_11) (fun _ h9 => h9) rfl dX0_failGuard_44 ?_
        refine lv_iload hx hb dX0_failGuard_47 (lv_at hl 0 rfl) ?_
        refine z_iald hx hb hK hP 5 0 rfl rfl (by omega) (by omega) (v := (G 4 ((3 * r) + g2))) rfl dX0_failGuard_49 ?_
        have hv_6 := invG_4 hI ((3 * r) + g2) (by omega) (by omega)
        refine lv_istore (lv' := [(5, .int (iI (G 4 ((3 * r) + g2)))), (4, .int (iI ((3 * r) + g2))), (0, .ref g), (1, .int (iI r)), (2, .int (iI g2)), (3, .int (iI v))]) hx hb dX0_failGuard_50 hl (by decide) rfl (fun ls hl => ?_)
        refine lv_aload_n hx hb dX0_failGuard_52 rfl (lv_at hl 2 rfl) ?_
        refine va_get (D := D) (ci := 0) (v := .ref (ad 5)) (C := RX0) (T := TX0) (N := 13) hx hb hq inA0 hown hK hP 0 rfl rfl 5 (by decide) (hq _ q_10) (fun _ h9 => h9) rfl dX0_failGuard_53 ?_
        refine lv_iload hx hb dX0_failGuard_56 (lv_at hl 1 rfl) ?_
        refine z_iconst hx hb dX0_failGuard_58 ?_
        refine z_iast (w1 := (wG g ad cI (upG G 5 ((3 * r) + g2) 1))) hx hb hK hP hD hS 6 0 rfl rfl (by omega) (by omega) (wG_set5 _ _ _ _ _ _) dX0_failGuard_59 (fun H locs hP hD hS => ?_)
        refine lv_aload_n hx hb dX0_failGuard_60 rfl (lv_at hl 2 rfl) ?_
        refine va_get (D := D) (ci := 0) (v := .ref (ad 4)) (C := RX0) (T := TX0) (N := 13) hx hb hq inA0 hown hK hP 0 rfl rfl 4 (by decide) (hq _ q_11) (fun _ h9 => h9) rfl dX0_failGuard_61 ?_
        refine lv_iload hx hb dX0_failGuard_64 (lv_at hl 1 rfl) ?_
        refine lv_iload_n hx hb dX0_failGuard_66 rfl (lv_at hl 5 rfl) ?_
        refine z_iast (w1 := (wG g ad cI (upG (upG G 5 ((3 * r) + g2) 1) 4 ((3 * r) + g2) v))) hx hb hK hP hD hS 5 0 rfl rfl (by omega) (by omega) (wG_set4 _ _ _ _ _ _) dX0_failGuard_67 (fun H locs hP hD hS => ?_)
        refine lv_iload hx hb dX0_failGuard_68 (lv_at hl 0 rfl) ?_
        refine z_as (show (G 4 ((3 * r) + g2)) = G 4 (3 * r + g2) from by first | rfl | omega) ?_
        first | exact hret _ _ _ _ dX0_failGuard_70 hP hD hS | (exfalso; omega)
      · refine z_ldc hx hb (-1000002) (by decide +kernel) hown (hq _ q_66) dX0_failGuard_40 ?_
        refine z_as (show (-1000002) = G 4 (3 * r + g2) from by first | rfl | omega) ?_
        first | exact hret _ _ _ _ dX0_failGuard_42 hP hD hS | (exfalso; omega)
    · refine z_ldc hx hb (-1000001) (by decide +kernel) hown (hq _ q_39) dX0_failGuard_19 ?_
      refine z_as (show (-1000001) = G 4 (3 * r + g2) from by first | rfl | omega) ?_
      first | exact hret _ _ _ _ dX0_failGuard_21 hP hD hS | (exfalso; omega)
set_option maxHeartbeats 4000000 in
set_option maxRecDepth 100000 in
theorem m_X0_failGuard_no (l : Launch) (D : va_G) (g : Nat) (ad : Nat → Nat) (cI : ClassId) (G : Nat → Int → Int) (r g2 v : Int) {B : Int} (hI : InvG B G) (h1 : 0 ≤ r ∧ r < 6) (h2 : 0 ≤ g2 ∧ g2 < 3) (h3 : 0 ≤ v ∧ v ≤ 999) (h4 : G 5 (3 * r + g2) ≠ 0)  : MW l D yX0_failGuard (wsY yX0_failGuard cX0_failGuard 6 (some .int)) { frames := 2, cells := 0, slots := 0, locals := 43 } [(cI, .int)] [.ref g, .int (iI r), .int (iI g2), .int (iI v)] (wG g ad cI G) (wG g ad cI G) (some (.int (iI (-1000002)))) := by
  refine mw_ofI (cc := cX0_failGuard) (maxL := 6) (by decide) rfl (Nat.le_of_ble_eq_true rfl) ?_
  intro p e s m below meth c R A Q args ls hx hb hml hown hts hRf hRl hRc hRs hN hK hP hD hS hA hret hl
  have hq : ∀ w ∈ ALL, w.before args s = true := fun w h => hts w (List.mem_cons_of_mem _ h)
  have hl : lv_has ls 6 [(0, .ref g), (1, .int (iI r)), (2, .int (iI g2)), (3, .int (iI v))] := hl
  refine lv_iload_n hx hb dX0_failGuard_0 rfl (lv_at hl 1 rfl) ?_
  refine lv_iload_n hx hb dX0_failGuard_1 rfl (lv_at hl 2 rfl) ?_
  refine mw_none (st1 := [.int (iI (if (r < 0 ∨ 5 < r) ∨ (g2 < 0 ∨ 2 < g2) then 1 else 0 : Int))]) (mr_S (As := [.int (iI r), .int (iI g2)]) (rest := []) ⟨hx, hb, hml, hown, hts⟩ (m_X0_isOutsideGuard l D r g2 (by omega) (by omega)) (va_cwS 2 hts (gS q_67 q_68 q_8 q_65) rfl rfl rfl (by decide +kernel) ⟨Nat.le_trans (m := 2) (Nat.le_of_ble_eq_true rfl) (Nat.le_trans (Nat.le_of_ble_eq_true rfl) hRf), Nat.le_trans (m := 43) (Nat.le_of_ble_eq_true rfl) (Nat.le_trans (Nat.le_of_ble_eq_true rfl) hRl)⟩) hN (hK.sub (tys' := []) [] rfl) (va_P0 _ _ _) (va_D0 A) rfl hl.1 (Nat.le_of_ble_eq_true rfl) ⟨hRc, hRs⟩ dX0_failGuard_2) hP hS hA rfl (fun H locs hP hS => ?_)
  refine z_if_ne (tgt := 19) hx hb dX0_failGuard_5 (by decide) (by omega) (fun c_1 => ?_) (fun c_1 => ?_)
  · refine z_ldc hx hb (-1000001) (by decide +kernel) hown (hq _ q_39) dX0_failGuard_19 ?_
    refine z_as (show (-1000001) = -1000002 from by first | rfl | omega) ?_
    first | exact hret _ _ _ _ dX0_failGuard_21 hP hD hS | (exfalso; omega)
  · refine lv_iload_n hx hb dX0_failGuard_8 rfl (lv_at hl 3 rfl) ?_
    refine z_iconst hx hb dX0_failGuard_9 ?_
    refine z_sipush hx hb dX0_failGuard_10 (by decide +kernel) ?_
    refine mw_none (st1 := [.int (iI (outZ v 0 999))]) (mr_SN (As := [.int (iI v), .int (iI 0), .int (iI 999)]) (rest := []) ⟨hx, hb, hml, hown, hts⟩ (m_X2_isOutside l D v 0 999 (by omega) (by omega) (by omega)) ⟨va_cnB 3 hts (gSelf q_35) rfl rfl rfl hN.1 (hq _ q_37) (by decide +kernel) ⟨Nat.le_trans (m := 1) (Nat.le_of_ble_eq_true rfl) (Nat.le_trans (Nat.le_of_ble_eq_true rfl) hRf), Nat.le_trans (m := 22) (Nat.le_of_ble_eq_true rfl) (Nat.le_trans (Nat.le_of_ble_eq_true rfl) hRl)⟩, hq _ q_36, trivial⟩ hN (hK.sub (tys' := []) [] rfl) (va_P0 _ _ _) (va_D0 A) rfl hl.1 (Nat.le_of_ble_eq_true rfl) ⟨hRc, hRs⟩ dX0_failGuard_13) hP hS hA rfl (fun H locs hP hS => ?_)
    have hf_2 : outZ v 0 999 = if v < 0 ∨ 999 < v then 1 else 0 := rfl
    refine z_if_eq (tgt := 22) hx hb dX0_failGuard_16 (by decide) (by omega) (fun c_3 => ?_) (fun c_3 => ?_)
    · refine z_iconst hx hb dX0_failGuard_22 ?_
      refine lv_iload_n hx hb dX0_failGuard_23 rfl (lv_at hl 1 rfl) ?_
      refine z_imul hx hb dX0_failGuard_24 ?_
      refine lv_iload_n hx hb dX0_failGuard_25 rfl (lv_at hl 2 rfl) ?_
      refine z_iadd hx hb dX0_failGuard_26 ?_
      refine lv_istore (lv' := [(4, .int (iI ((3 * r) + g2))), (0, .ref g), (1, .int (iI r)), (2, .int (iI g2)), (3, .int (iI v))]) hx hb dX0_failGuard_27 hl (by decide) rfl (fun ls hl => ?_)
      refine lv_aload_n hx hb dX0_failGuard_29 rfl (lv_at hl 1 rfl) ?_
      refine va_get (D := D) (ci := 0) (v := .ref (ad 5)) (C := RX0) (T := TX0) (N := 13) hx hb hq inA0 hown hK hP 0 rfl rfl 5 (by decide) (hq _ q_10) (fun _ h9 => h9) rfl dX0_failGuard_30 ?_
      refine lv_iload hx hb dX0_failGuard_33 (lv_at hl 0 rfl) ?_
      refine z_iald hx hb hK hP 6 0 rfl rfl (by omega) (by omega) (v := (G 5 ((3 * r) + g2))) rfl dX0_failGuard_35 ?_
      have hv_4 := invG_5 hI ((3 * r) + g2) (by omega) (by omega)
      refine z_iconst hx hb dX0_failGuard_36 ?_
      refine z_icmp_ne (tgt := 43) hx hb dX0_failGuard_37 (by decide) (by omega) (by omega) (fun c_5 => ?_) (fun c_5 => ?_)
      · refine lv_aload_n hx hb dX0_failGuard_43 rfl (lv_at hl 1 rfl) ?_
        refine va_get (D := D) (ci := 0) (v := .ref (ad 4)) (C := RX0) (T := TX0) (N := 13) hx hb hq inA0 hown hK hP 0 rfl rfl 4 (by decide) (hq _ q_11) (fun _ h9 => h9) rfl dX0_failGuard_44 ?_
        refine lv_iload hx hb dX0_failGuard_47 (lv_at hl 0 rfl) ?_
        refine z_iald hx hb hK hP 5 0 rfl rfl (by omega) (by omega) (v := (G 4 ((3 * r) + g2))) rfl dX0_failGuard_49 ?_
        have hv_6 := invG_4 hI ((3 * r) + g2) (by omega) (by omega)
        refine lv_istore (lv' := [(5, .int (iI (G 4 ((3 * r) + g2)))), (4, .int (iI ((3 * r) + g2))), (0, .ref g), (1, .int (iI r)), (2, .int (iI g2)), (3, .int (iI v))]) hx hb dX0_failGuard_50 hl (by decide) rfl (fun ls hl => ?_)
        refine lv_aload_n hx hb dX0_failGuard_52 rfl (lv_at hl 2 rfl) ?_
        refine va_get (D := D) (ci := 0) (v := .ref (ad 5)) (C := RX0) (T := TX0) (N := 13) hx hb hq inA0 hown hK hP 0 rfl rfl 5 (by decide) (hq _ q_10) (fun _ h9 => h9) rfl dX0_failGuard_53 ?_
        refine lv_iload hx hb dX0_failGuard_56 (lv_at hl 1 rfl) ?_
        refine z_iconst hx hb dX0_failGuard_58 ?_
        refine z_iast (w1 := (wG g ad cI (upG G 5 ((3 * r) + g2) 1))) hx hb hK hP hD hS 6 0 rfl rfl (by omega) (by omega) (wG_set5 _ _ _ _ _ _) dX0_failGuard_59 (fun H locs hP hD hS => ?_)
        refine lv_aload_n hx hb dX0_failGuard_60 rfl (lv_at hl 2 rfl) ?_
        refine va_get (D := D) (ci := 0) (v := .ref (ad 4)) (C := RX0) (T := TX0) (N := 13) hx hb hq inA0 hown hK hP 0 rfl rfl 4 (by decide) (hq _ q_11) (fun _ h9 => h9) rfl dX0_failGuard_61 ?_
        refine lv_iload hx hb dX0_failGuard_64 (lv_at hl 1 rfl) ?_
        refine lv_iload_n hx hb dX0_failGuard_66 rfl (lv_at hl 5 rfl) ?_
        refine z_iast (w1 := (wG g ad cI (upG (upG G 5 ((3 * r) + g2) 1) 4 ((3 * r) + g2) v))) hx hb hK hP hD hS 5 0 rfl rfl (by omega) (by omega) (wG_set4 _ _ _ _ _ _) dX0_failGuard_67 (fun H locs hP hD hS => ?_)
        refine lv_iload hx hb dX0_failGuard_68 (lv_at hl 0 rfl) ?_
        refine z_as (show (G 4 ((3 * r) + g2)) = -1000002 from by first | rfl | omega) ?_
        first | exact hret _ _ _ _ dX0_failGuard_70 hP hD hS | (exfalso; omega)
      · refine z_ldc hx hb (-1000002) (by decide +kernel) hown (hq _ q_66) dX0_failGuard_40 ?_
        refine z_as (show (-1000002) = -1000002 from by first | rfl | omega) ?_
        first | exact hret _ _ _ _ dX0_failGuard_42 hP hD hS | (exfalso; omega)
    · refine z_ldc hx hb (-1000001) (by decide +kernel) hown (hq _ q_39) dX0_failGuard_19 ?_
      refine z_as (show (-1000001) = -1000002 from by first | rfl | omega) ?_
      first | exact hret _ _ _ _ dX0_failGuard_21 hP hD hS | (exfalso; omega)
set_option maxHeartbeats 4000000 in
set_option maxRecDepth 100000 in
theorem m_X0_failGuard_bad (l : Launch) (D : va_G) (g : Nat) (ad : Nat → Nat) (cI : ClassId) (G : Nat → Int → Int) (r g2 v : Int) (h1 : -2147483648 ≤ r ∧ r < 2147483648) (h2 : -2147483648 ≤ g2 ∧ g2 < 2147483648) (h3 : -2147483648 ≤ v ∧ v < 2147483648) (hb0 : r < 0 ∨ 5 < r ∨ g2 < 0 ∨ 2 < g2 ∨ v < 0 ∨ 999 < v)  : MW l D yX0_failGuard (wsY yX0_failGuard cX0_failGuard 6 (some .int)) { frames := 2, cells := 0, slots := 0, locals := 43 } [(cI, .int)] [.ref g, .int (iI r), .int (iI g2), .int (iI v)] (wG g ad cI G) (wG g ad cI G) (some (.int (iI (-1000001)))) := by
  refine mw_ofI (cc := cX0_failGuard) (maxL := 6) (by decide) rfl (Nat.le_of_ble_eq_true rfl) ?_
  intro p e s m below meth c R A Q args ls hx hb hml hown hts hRf hRl hRc hRs hN hK hP hD hS hA hret hl
  have hq : ∀ w ∈ ALL, w.before args s = true := fun w h => hts w (List.mem_cons_of_mem _ h)
  have hl : lv_has ls 6 [(0, .ref g), (1, .int (iI r)), (2, .int (iI g2)), (3, .int (iI v))] := hl
  refine lv_iload_n hx hb dX0_failGuard_0 rfl (lv_at hl 1 rfl) ?_
  refine lv_iload_n hx hb dX0_failGuard_1 rfl (lv_at hl 2 rfl) ?_
  refine mw_none (st1 := [.int (iI (if (r < 0 ∨ 5 < r) ∨ (g2 < 0 ∨ 2 < g2) then 1 else 0 : Int))]) (mr_S (As := [.int (iI r), .int (iI g2)]) (rest := []) ⟨hx, hb, hml, hown, hts⟩ (m_X0_isOutsideGuard l D r g2 (by omega) (by omega)) (va_cwS 2 hts (gS q_67 q_68 q_8 q_65) rfl rfl rfl (by decide +kernel) ⟨Nat.le_trans (m := 2) (Nat.le_of_ble_eq_true rfl) (Nat.le_trans (Nat.le_of_ble_eq_true rfl) hRf), Nat.le_trans (m := 43) (Nat.le_of_ble_eq_true rfl) (Nat.le_trans (Nat.le_of_ble_eq_true rfl) hRl)⟩) hN (hK.sub (tys' := []) [] rfl) (va_P0 _ _ _) (va_D0 A) rfl hl.1 (Nat.le_of_ble_eq_true rfl) ⟨hRc, hRs⟩ dX0_failGuard_2) hP hS hA rfl (fun H locs hP hS => ?_)
  refine z_if_ne (tgt := 19) hx hb dX0_failGuard_5 (by decide) (by omega) (fun c_1 => ?_) (fun c_1 => ?_)
  · refine z_ldc hx hb (-1000001) (by decide +kernel) hown (hq _ q_39) dX0_failGuard_19 ?_
    refine z_as (show (-1000001) = -1000001 from by first | rfl | omega) ?_
    first | exact hret _ _ _ _ dX0_failGuard_21 hP hD hS | (exfalso; omega)
  · refine lv_iload_n hx hb dX0_failGuard_8 rfl (lv_at hl 3 rfl) ?_
    refine z_iconst hx hb dX0_failGuard_9 ?_
    refine z_sipush hx hb dX0_failGuard_10 (by decide +kernel) ?_
    refine mw_none (st1 := [.int (iI (outZ v 0 999))]) (mr_SN (As := [.int (iI v), .int (iI 0), .int (iI 999)]) (rest := []) ⟨hx, hb, hml, hown, hts⟩ (m_X2_isOutside l D v 0 999 (by omega) (by omega) (by omega)) ⟨va_cnB 3 hts (gSelf q_35) rfl rfl rfl hN.1 (hq _ q_37) (by decide +kernel) ⟨Nat.le_trans (m := 1) (Nat.le_of_ble_eq_true rfl) (Nat.le_trans (Nat.le_of_ble_eq_true rfl) hRf), Nat.le_trans (m := 22) (Nat.le_of_ble_eq_true rfl) (Nat.le_trans (Nat.le_of_ble_eq_true rfl) hRl)⟩, hq _ q_36, trivial⟩ hN (hK.sub (tys' := []) [] rfl) (va_P0 _ _ _) (va_D0 A) rfl hl.1 (Nat.le_of_ble_eq_true rfl) ⟨hRc, hRs⟩ dX0_failGuard_13) hP hS hA rfl (fun H locs hP hS => ?_)
    have hf_2 : outZ v 0 999 = if v < 0 ∨ 999 < v then 1 else 0 := rfl
    refine z_if_eq (tgt := 22) hx hb dX0_failGuard_16 (by decide) (by omega) (fun c_3 => ?_) (fun c_3 => ?_)
    · refine z_iconst hx hb dX0_failGuard_22 ?_
      refine lv_iload_n hx hb dX0_failGuard_23 rfl (lv_at hl 1 rfl) ?_
      refine z_imul hx hb dX0_failGuard_24 ?_
      refine lv_iload_n hx hb dX0_failGuard_25 rfl (lv_at hl 2 rfl) ?_
      refine z_iadd hx hb dX0_failGuard_26 ?_
      refine lv_istore (lv' := [(4, .int (iI ((3 * r) + g2))), (0, .ref g), (1, .int (iI r)), (2, .int (iI g2)), (3, .int (iI v))]) hx hb dX0_failGuard_27 hl (by decide) rfl (fun ls hl => ?_)
      refine lv_aload_n hx hb dX0_failGuard_29 rfl (lv_at hl 1 rfl) ?_
      refine va_get (D := D) (ci := 0) (v := .ref (ad 5)) (C := RX0) (T := TX0) (N := 13) hx hb hq inA0 hown hK hP 0 rfl rfl 5 (by decide) (hq _ q_10) (fun _ h9 => h9) rfl dX0_failGuard_30 ?_
      refine lv_iload hx hb dX0_failGuard_33 (lv_at hl 0 rfl) ?_
      refine z_iald hx hb hK hP 6 0 rfl rfl (by omega) (by omega) (v := (G 5 ((3 * r) + g2))) rfl dX0_failGuard_35 ?_
      refine z_iconst hx hb dX0_failGuard_36 ?_
      refine z_icmp_ne (tgt := 43) hx hb dX0_failGuard_37 (by decide) (by omega) (by omega) (fun c_4 => ?_) (fun c_4 => ?_)
      · refine lv_aload_n hx hb dX0_failGuard_43 rfl (lv_at hl 1 rfl) ?_
        refine va_get (D := D) (ci := 0) (v := .ref (ad 4)) (C := RX0) (T := TX0) (N := 13) hx hb hq inA0 hown hK hP 0 rfl rfl 4 (by decide) (hq _ q_11) (fun _ h9 => h9) rfl dX0_failGuard_44 ?_
        refine lv_iload hx hb dX0_failGuard_47 (lv_at hl 0 rfl) ?_
        refine z_iald hx hb hK hP 5 0 rfl rfl (by omega) (by omega) (v := (G 4 ((3 * r) + g2))) rfl dX0_failGuard_49 ?_
        refine lv_istore (lv' := [(5, .int (iI (G 4 ((3 * r) + g2)))), (4, .int (iI ((3 * r) + g2))), (0, .ref g), (1, .int (iI r)), (2, .int (iI g2)), (3, .int (iI v))]) hx hb dX0_failGuard_50 hl (by decide) rfl (fun ls hl => ?_)
        refine lv_aload_n hx hb dX0_failGuard_52 rfl (lv_at hl 2 rfl) ?_
        refine va_get (D := D) (ci := 0) (v := .ref (ad 5)) (C := RX0) (T := TX0) (N := 13) hx hb hq inA0 hown hK hP 0 rfl rfl 5 (by decide) (hq _ q_10) (fun _ h9 => h9) rfl dX0_failGuard_53 ?_
        refine lv_iload hx hb dX0_failGuard_56 (lv_at hl 1 rfl) ?_
        refine z_iconst hx hb dX0_failGuard_58 ?_
        refine z_iast (w1 := (wG g ad cI (upG G 5 ((3 * r) + g2) 1))) hx hb hK hP hD hS 6 0 rfl rfl (by omega) (by omega) (wG_set5 _ _ _ _ _ _) dX0_failGuard_59 (fun H locs hP hD hS => ?_)
        refine lv_aload_n hx hb dX0_failGuard_60 rfl (lv_at hl 2 rfl) ?_
        refine va_get (D := D) (ci := 0) (v := .ref (ad 4)) (C := RX0) (T := TX0) (N := 13) hx hb hq inA0 hown hK hP 0 rfl rfl 4 (by decide) (hq _ q_11) (fun _ h9 => h9) rfl dX0_failGuard_61 ?_
        refine lv_iload hx hb dX0_failGuard_64 (lv_at hl 1 rfl) ?_
        refine lv_iload_n hx hb dX0_failGuard_66 rfl (lv_at hl 5 rfl) ?_
        refine z_iast (w1 := (wG g ad cI (upG (upG G 5 ((3 * r) + g2) 1) 4 ((3 * r) + g2) v))) hx hb hK hP hD hS 5 0 rfl rfl (by omega) (by omega) (wG_set4 _ _ _ _ _ _) dX0_failGuard_67 (fun H locs hP hD hS => ?_)
        refine lv_iload hx hb dX0_failGuard_68 (lv_at hl 0 rfl) ?_
        refine z_as (show (G 4 ((3 * r) + g2)) = -1000001 from by first | rfl | omega) ?_
        first | exact hret _ _ _ _ dX0_failGuard_70 hP hD hS | (exfalso; omega)
      · refine z_ldc hx hb (-1000002) (by decide +kernel) hown (hq _ q_66) dX0_failGuard_40 ?_
        refine z_as (show (-1000002) = -1000001 from by first | rfl | omega) ?_
        first | exact hret _ _ _ _ dX0_failGuard_42 hP hD hS | (exfalso; omega)
    · refine z_ldc hx hb (-1000001) (by decide +kernel) hown (hq _ q_39) dX0_failGuard_19 ?_
      refine z_as (show (-1000001) = -1000001 from by first | rfl | omega) ?_
      first | exact hret _ _ _ _ dX0_failGuard_21 hP hD hS | (exfalso; omega)
set_option maxHeartbeats 4000000 in
set_option maxRecDepth 100000 in
theorem m_X0_mendGuard (l : Launch) (D : va_G) (g : Nat) (ad : Nat → Nat) (cI : ClassId) (G : Nat → Int → Int) (r g2 : Int) {B : Int} (hI : InvG B G) (h1 : 0 ≤ r ∧ r < 6) (h2 : 0 ≤ g2 ∧ g2 < 3) (h4 : G 5 (3 * r + g2) ≠ 0)  : MW l D yX0_mendGuard (wsY yX0_mendGuard cX0_mendGuard 4 (some .int)) { frames := 2, cells := 0, slots := 0, locals := 43 } [(cI, .int)] [.ref g, .int (iI r), .int (iI g2)] (wG g ad cI G) (wG g ad cI (upG G 5 (3 * r + g2) 0)) (some (.int (iI (G 4 (3 * r + g2))))) := by
  refine mw_ofI (cc := cX0_mendGuard) (maxL := 4) (by decide) rfl (Nat.le_of_ble_eq_true rfl) ?_
  intro p e s m below meth c R A Q args ls hx hb hml hown hts hRf hRl hRc hRs hN hK hP hD hS hA hret hl
  have hq : ∀ w ∈ ALL, w.before args s = true := fun w h => hts w (List.mem_cons_of_mem _ h)
  have hl : lv_has ls 4 [(0, .ref g), (1, .int (iI r)), (2, .int (iI g2))] := hl
  refine lv_iload_n hx hb dX0_mendGuard_0 rfl (lv_at hl 1 rfl) ?_
  refine lv_iload_n hx hb dX0_mendGuard_1 rfl (lv_at hl 2 rfl) ?_
  refine mw_none (st1 := [.int (iI (if (r < 0 ∨ 5 < r) ∨ (g2 < 0 ∨ 2 < g2) then 1 else 0 : Int))]) (mr_S (As := [.int (iI r), .int (iI g2)]) (rest := []) ⟨hx, hb, hml, hown, hts⟩ (m_X0_isOutsideGuard l D r g2 (by omega) (by omega)) (va_cwS 2 hts (gS q_67 q_68 q_8 q_65) rfl rfl rfl (by decide +kernel) ⟨Nat.le_trans (m := 2) (Nat.le_of_ble_eq_true rfl) (Nat.le_trans (Nat.le_of_ble_eq_true rfl) hRf), Nat.le_trans (m := 43) (Nat.le_of_ble_eq_true rfl) (Nat.le_trans (Nat.le_of_ble_eq_true rfl) hRl)⟩) hN (hK.sub (tys' := []) [] rfl) (va_P0 _ _ _) (va_D0 A) rfl hl.1 (Nat.le_of_ble_eq_true rfl) ⟨hRc, hRs⟩ dX0_mendGuard_2) hP hS hA rfl (fun H locs hP hS => ?_)
  refine z_if_eq (tgt := 11) hx hb dX0_mendGuard_5 (by decide) (by omega) (fun c_1 => ?_) (fun c_1 => ?_)
  · refine z_iconst hx hb dX0_mendGuard_11 ?_
    refine lv_iload_n hx hb dX0_mendGuard_12 rfl (lv_at hl 1 rfl) ?_
    refine z_imul hx hb dX0_mendGuard_13 ?_
    refine lv_iload_n hx hb dX0_mendGuard_14 rfl (lv_at hl 2 rfl) ?_
    refine z_iadd hx hb dX0_mendGuard_15 ?_
    refine lv_istore_n (lv' := [(3, .int (iI ((3 * r) + g2))), (0, .ref g), (1, .int (iI r)), (2, .int (iI g2))]) hx hb dX0_mendGuard_16 rfl hl (by decide) rfl (fun ls hl => ?_)
    refine lv_aload_n hx hb dX0_mendGuard_17 rfl (lv_at hl 1 rfl) ?_
    refine va_get (D := D) (ci := 0) (v := .ref (ad 5)) (C := RX0) (T := TX0) (N := 13) hx hb hq inA0 hown hK hP 0 rfl rfl 5 (by decide) (hq _ q_10) (fun _ h9 => h9) rfl dX0_mendGuard_18 ?_
    refine lv_iload_n hx hb dX0_mendGuard_21 rfl (lv_at hl 0 rfl) ?_
    refine z_iald hx hb hK hP 6 0 rfl rfl (by omega) (by omega) (v := (G 5 ((3 * r) + g2))) rfl dX0_mendGuard_22 ?_
    have hv_2 := invG_5 hI ((3 * r) + g2) (by omega) (by omega)
    refine z_if_ne (tgt := 29) hx hb dX0_mendGuard_23 (by decide) (by omega) (fun c_3 => ?_) (fun c_3 => ?_)
    · refine lv_aload_n hx hb dX0_mendGuard_29 rfl (lv_at hl 1 rfl) ?_
      refine va_get (D := D) (ci := 0) (v := .ref (ad 5)) (C := RX0) (T := TX0) (N := 13) hx hb hq inA0 hown hK hP 0 rfl rfl 5 (by decide) (hq _ q_10) (fun _ h9 => h9) rfl dX0_mendGuard_30 ?_
      refine lv_iload_n hx hb dX0_mendGuard_33 rfl (lv_at hl 0 rfl) ?_
      refine z_iconst hx hb dX0_mendGuard_34 ?_
      refine z_iast (w1 := (wG g ad cI (upG G 5 ((3 * r) + g2) 0))) hx hb hK hP hD hS 6 0 rfl rfl (by omega) (by omega) (wG_set5 _ _ _ _ _ _) dX0_mendGuard_35 (fun H locs hP hD hS => ?_)
      refine lv_aload_n hx hb dX0_mendGuard_36 rfl (lv_at hl 1 rfl) ?_
      refine va_get (D := D) (ci := 0) (v := .ref (ad 4)) (C := RX0) (T := TX0) (N := 13) hx hb hq inA0 hown hK hP 0 rfl rfl 4 (by decide) (hq _ q_11) (fun _ h9 => h9) rfl dX0_mendGuard_37 ?_
      refine lv_iload_n hx hb dX0_mendGuard_40 rfl (lv_at hl 0 rfl) ?_
      refine z_iald hx hb hK hP 5 0 rfl rfl (by omega) (by omega) (v := (G 4 ((3 * r) + g2))) rfl dX0_mendGuard_41 ?_
      have hv_4 := invG_4 hI ((3 * r) + g2) (by omega) (by omega)
      refine z_as (show (G 4 ((3 * r) + g2)) = G 4 (3 * r + g2) from by first | rfl | omega) ?_
      first | exact hret _ _ _ _ dX0_mendGuard_42 hP hD hS | (exfalso; omega)
    · refine z_ldc hx hb (-1000002) (by decide +kernel) hown (hq _ q_66) dX0_mendGuard_26 ?_
      refine z_as (show (-1000002) = G 4 (3 * r + g2) from by first | rfl | omega) ?_
      first | exact hret _ _ _ _ dX0_mendGuard_28 hP hD hS | (exfalso; omega)
  · refine z_ldc hx hb (-1000001) (by decide +kernel) hown (hq _ q_39) dX0_mendGuard_8 ?_
    refine z_as (show (-1000001) = G 4 (3 * r + g2) from by first | rfl | omega) ?_
    first | exact hret _ _ _ _ dX0_mendGuard_10 hP hD hS | (exfalso; omega)
set_option maxHeartbeats 4000000 in
set_option maxRecDepth 100000 in
theorem m_X0_mendGuard_no (l : Launch) (D : va_G) (g : Nat) (ad : Nat → Nat) (cI : ClassId) (G : Nat → Int → Int) (r g2 : Int) {B : Int} (hI : InvG B G) (h1 : 0 ≤ r ∧ r < 6) (h2 : 0 ≤ g2 ∧ g2 < 3) (h4 : G 5 (3 * r + g2) = 0)  : MW l D yX0_mendGuard (wsY yX0_mendGuard cX0_mendGuard 4 (some .int)) { frames := 2, cells := 0, slots := 0, locals := 43 } [(cI, .int)] [.ref g, .int (iI r), .int (iI g2)] (wG g ad cI G) (wG g ad cI G) (some (.int (iI (-1000002)))) := by
  refine mw_ofI (cc := cX0_mendGuard) (maxL := 4) (by decide) rfl (Nat.le_of_ble_eq_true rfl) ?_
  intro p e s m below meth c R A Q args ls hx hb hml hown hts hRf hRl hRc hRs hN hK hP hD hS hA hret hl
  have hq : ∀ w ∈ ALL, w.before args s = true := fun w h => hts w (List.mem_cons_of_mem _ h)
  have hl : lv_has ls 4 [(0, .ref g), (1, .int (iI r)), (2, .int (iI g2))] := hl
  refine lv_iload_n hx hb dX0_mendGuard_0 rfl (lv_at hl 1 rfl) ?_
  refine lv_iload_n hx hb dX0_mendGuard_1 rfl (lv_at hl 2 rfl) ?_
  refine mw_none (st1 := [.int (iI (if (r < 0 ∨ 5 < r) ∨ (g2 < 0 ∨ 2 < g2) then 1 else 0 : Int))]) (mr_S (As := [.int (iI r), .int (iI g2)]) (rest := []) ⟨hx, hb, hml, hown, hts⟩ (m_X0_isOutsideGuard l D r g2 (by omega) (by omega)) (va_cwS 2 hts (gS q_67 q_68 q_8 q_65) rfl rfl rfl (by decide +kernel) ⟨Nat.le_trans (m := 2) (Nat.le_of_ble_eq_true rfl) (Nat.le_trans (Nat.le_of_ble_eq_true rfl) hRf), Nat.le_trans (m := 43) (Nat.le_of_ble_eq_true rfl) (Nat.le_trans (Nat.le_of_ble_eq_true rfl) hRl)⟩) hN (hK.sub (tys' := []) [] rfl) (va_P0 _ _ _) (va_D0 A) rfl hl.1 (Nat.le_of_ble_eq_true rfl) ⟨hRc, hRs⟩ dX0_mendGuard_2) hP hS hA rfl (fun H locs hP hS => ?_)
  refine z_if_eq (tgt := 11) hx hb dX0_mendGuard_5 (by decide) (by omega) (fun c_1 => ?_) (fun c_1 => ?_)
  · refine z_iconst hx hb dX0_mendGuard_11 ?_
    refine lv_iload_n hx hb dX0_mendGuard_12 rfl (lv_at hl 1 rfl) ?_
    refine z_imul hx hb dX0_mendGuard_13 ?_
    refine lv_iload_n hx hb dX0_mendGuard_14 rfl (lv_at hl 2 rfl) ?_
    refine z_iadd hx hb dX0_mendGuard_15 ?_
    refine lv_istore_n (lv' := [(3, .int (iI ((3 * r) + g2))), (0, .ref g), (1, .int (iI r)), (2, .int (iI g2))]) hx hb dX0_mendGuard_16 rfl hl (by decide) rfl (fun ls hl => ?_)
    refine lv_aload_n hx hb dX0_mendGuard_17 rfl (lv_at hl 1 rfl) ?_
    refine va_get (D := D) (ci := 0) (v := .ref (ad 5)) (C := RX0) (T := TX0) (N := 13) hx hb hq inA0 hown hK hP 0 rfl rfl 5 (by decide) (hq _ q_10) (fun _ h9 => h9) rfl dX0_mendGuard_18 ?_
    refine lv_iload_n hx hb dX0_mendGuard_21 rfl (lv_at hl 0 rfl) ?_
    refine z_iald hx hb hK hP 6 0 rfl rfl (by omega) (by omega) (v := (G 5 ((3 * r) + g2))) rfl dX0_mendGuard_22 ?_
    have hv_2 := invG_5 hI ((3 * r) + g2) (by omega) (by omega)
    refine z_if_ne (tgt := 29) hx hb dX0_mendGuard_23 (by decide) (by omega) (fun c_3 => ?_) (fun c_3 => ?_)
    · refine lv_aload_n hx hb dX0_mendGuard_29 rfl (lv_at hl 1 rfl) ?_
      refine va_get (D := D) (ci := 0) (v := .ref (ad 5)) (C := RX0) (T := TX0) (N := 13) hx hb hq inA0 hown hK hP 0 rfl rfl 5 (by decide) (hq _ q_10) (fun _ h9 => h9) rfl dX0_mendGuard_30 ?_
      refine lv_iload_n hx hb dX0_mendGuard_33 rfl (lv_at hl 0 rfl) ?_
      refine z_iconst hx hb dX0_mendGuard_34 ?_
      refine z_iast (w1 := (wG g ad cI (upG G 5 ((3 * r) + g2) 0))) hx hb hK hP hD hS 6 0 rfl rfl (by omega) (by omega) (wG_set5 _ _ _ _ _ _) dX0_mendGuard_35 (fun H locs hP hD hS => ?_)
      refine lv_aload_n hx hb dX0_mendGuard_36 rfl (lv_at hl 1 rfl) ?_
      refine va_get (D := D) (ci := 0) (v := .ref (ad 4)) (C := RX0) (T := TX0) (N := 13) hx hb hq inA0 hown hK hP 0 rfl rfl 4 (by decide) (hq _ q_11) (fun _ h9 => h9) rfl dX0_mendGuard_37 ?_
      refine lv_iload_n hx hb dX0_mendGuard_40 rfl (lv_at hl 0 rfl) ?_
      refine z_iald hx hb hK hP 5 0 rfl rfl (by omega) (by omega) (v := (G 4 ((3 * r) + g2))) rfl dX0_mendGuard_41 ?_
      have hv_4 := invG_4 hI ((3 * r) + g2) (by omega) (by omega)
      refine z_as (show (G 4 ((3 * r) + g2)) = -1000002 from by first | rfl | omega) ?_
      first | exact hret _ _ _ _ dX0_mendGuard_42 hP hD hS | (exfalso; omega)
    · refine z_ldc hx hb (-1000002) (by decide +kernel) hown (hq _ q_66) dX0_mendGuard_26 ?_
      refine z_as (show (-1000002) = -1000002 from by first | rfl | omega) ?_
      first | exact hret _ _ _ _ dX0_mendGuard_28 hP hD hS | (exfalso; omega)
  · refine z_ldc hx hb (-1000001) (by decide +kernel) hown (hq _ q_39) dX0_mendGuard_8 ?_
    refine z_as (show (-1000001) = -1000002 from by first | rfl | omega) ?_
    first | exact hret _ _ _ _ dX0_mendGuard_10 hP hD hS | (exfalso; omega)
set_option maxHeartbeats 4000000 in
set_option maxRecDepth 100000 in
theorem m_X0_mendGuard_bad (l : Launch) (D : va_G) (g : Nat) (ad : Nat → Nat) (cI : ClassId) (G : Nat → Int → Int) (r g2 : Int) (h1 : -2147483648 ≤ r ∧ r < 2147483648) (h2 : -2147483648 ≤ g2 ∧ g2 < 2147483648) (hb0 : r < 0 ∨ 5 < r ∨ g2 < 0 ∨ 2 < g2)  : MW l D yX0_mendGuard (wsY yX0_mendGuard cX0_mendGuard 4 (some .int)) { frames := 2, cells := 0, slots := 0, locals := 43 } [(cI, .int)] [.ref g, .int (iI r), .int (iI g2)] (wG g ad cI G) (wG g ad cI G) (some (.int (iI (-1000001)))) := by
  refine mw_ofI (cc := cX0_mendGuard) (maxL := 4) (by decide) rfl (Nat.le_of_ble_eq_true rfl) ?_
  intro p e s m below meth c R A Q args ls hx hb hml hown hts hRf hRl hRc hRs hN hK hP hD hS hA hret hl
  have hq : ∀ w ∈ ALL, w.before args s = true := fun w h => hts w (List.mem_cons_of_mem _ h)
  have hl : lv_has ls 4 [(0, .ref g), (1, .int (iI r)), (2, .int (iI g2))] := hl
  refine lv_iload_n hx hb dX0_mendGuard_0 rfl (lv_at hl 1 rfl) ?_
  refine lv_iload_n hx hb dX0_mendGuard_1 rfl (lv_at hl 2 rfl) ?_
  refine mw_none (st1 := [.int (iI (if (r < 0 ∨ 5 < r) ∨ (g2 < 0 ∨ 2 < g2) then 1 else 0 : Int))]) (mr_S (As := [.int (iI r), .int (iI g2)]) (rest := []) ⟨hx, hb, hml, hown, hts⟩ (m_X0_isOutsideGuard l D r g2 (by omega) (by omega)) (va_cwS 2 hts (gS q_67 q_68 q_8 q_65) rfl rfl rfl (by decide +kernel) ⟨Nat.le_trans (m := 2) (Nat.le_of_ble_eq_true rfl) (Nat.le_trans (Nat.le_of_ble_eq_true rfl) hRf), Nat.le_trans (m := 43) (Nat.le_of_ble_eq_true rfl) (Nat.le_trans (Nat.le_of_ble_eq_true rfl) hRl)⟩) hN (hK.sub (tys' := []) [] rfl) (va_P0 _ _ _) (va_D0 A) rfl hl.1 (Nat.le_of_ble_eq_true rfl) ⟨hRc, hRs⟩ dX0_mendGuard_2) hP hS hA rfl (fun H locs hP hS => ?_)
  refine z_if_eq (tgt := 11) hx hb dX0_mendGuard_5 (by decide) (by omega) (fun c_1 => ?_) (fun c_1 => ?_)
  · refine z_iconst hx hb dX0_mendGuard_11 ?_
    refine lv_iload_n hx hb dX0_mendGuard_12 rfl (lv_at hl 1 rfl) ?_
    refine z_imul hx hb dX0_mendGuard_13 ?_
    refine lv_iload_n hx hb dX0_mendGuard_14 rfl (lv_at hl 2 rfl) ?_
    refine z_iadd hx hb dX0_mendGuard_15 ?_
    refine lv_istore_n (lv' := [(3, .int (iI ((3 * r) + g2))), (0, .ref g), (1, .int (iI r)), (2, .int (iI g2))]) hx hb dX0_mendGuard_16 rfl hl (by decide) rfl (fun ls hl => ?_)
    refine lv_aload_n hx hb dX0_mendGuard_17 rfl (lv_at hl 1 rfl) ?_
    refine va_get (D := D) (ci := 0) (v := .ref (ad 5)) (C := RX0) (T := TX0) (N := 13) hx hb hq inA0 hown hK hP 0 rfl rfl 5 (by decide) (hq _ q_10) (fun _ h9 => h9) rfl dX0_mendGuard_18 ?_
    refine lv_iload_n hx hb dX0_mendGuard_21 rfl (lv_at hl 0 rfl) ?_
    refine z_iald hx hb hK hP 6 0 rfl rfl (by omega) (by omega) (v := (G 5 ((3 * r) + g2))) rfl dX0_mendGuard_22 ?_
    refine z_if_ne (tgt := 29) hx hb dX0_mendGuard_23 (by decide) (by omega) (fun c_2 => ?_) (fun c_2 => ?_)
    · refine lv_aload_n hx hb dX0_mendGuard_29 rfl (lv_at hl 1 rfl) ?_
      refine va_get (D := D) (ci := 0) (v := .ref (ad 5)) (C := RX0) (T := TX0) (N := 13) hx hb hq inA0 hown hK hP 0 rfl rfl 5 (by decide) (hq _ q_10) (fun _ h9 => h9) rfl dX0_mendGuard_30 ?_
      refine lv_iload_n hx hb dX0_mendGuard_33 rfl (lv_at hl 0 rfl) ?_
      refine z_iconst hx hb dX0_mendGuard_34 ?_
      refine z_iast (w1 := (wG g ad cI (upG G 5 ((3 * r) + g2) 0))) hx hb hK hP hD hS 6 0 rfl rfl (by omega) (by omega) (wG_set5 _ _ _ _ _ _) dX0_mendGuard_35 (fun H locs hP hD hS => ?_)
      refine lv_aload_n hx hb dX0_mendGuard_36 rfl (lv_at hl 1 rfl) ?_
      refine va_get (D := D) (ci := 0) (v := .ref (ad 4)) (C := RX0) (T := TX0) (N := 13) hx hb hq inA0 hown hK hP 0 rfl rfl 4 (by decide) (hq _ q_11) (fun _ h9 => h9) rfl dX0_mendGuard_37 ?_
      refine lv_iload_n hx hb dX0_mendGuard_40 rfl (lv_at hl 0 rfl) ?_
      refine z_iald hx hb hK hP 5 0 rfl rfl (by omega) (by omega) (v := (G 4 ((3 * r) + g2))) rfl dX0_mendGuard_41 ?_
      refine z_as (show (G 4 ((3 * r) + g2)) = -1000001 from by first | rfl | omega) ?_
      first | exact hret _ _ _ _ dX0_mendGuard_42 hP hD hS | (exfalso; omega)
    · refine z_ldc hx hb (-1000002) (by decide +kernel) hown (hq _ q_66) dX0_mendGuard_26 ?_
      refine z_as (show (-1000002) = -1000001 from by first | rfl | omega) ?_
      first | exact hret _ _ _ _ dX0_mendGuard_28 hP hD hS | (exfalso; omega)
  · refine z_ldc hx hb (-1000001) (by decide +kernel) hown (hq _ q_39) dX0_mendGuard_8 ?_
    refine z_as (show (-1000001) = -1000001 from by first | rfl | omega) ?_
    first | exact hret _ _ _ _ dX0_mendGuard_10 hP hD hS | (exfalso; omega)
set_option maxHeartbeats 4000000 in
set_option maxRecDepth 100000 in
theorem m_X0_changeRate (l : Launch) (D : va_G) (g : Nat) (ad : Nat → Nat) (cI : ClassId) (G : Nat → Int → Int) (r v : Int) {B : Int} (hI : InvG B G) (h1 : 0 ≤ r ∧ r < 6) (h2 : 1 ≤ v ∧ v ≤ 200)  : MW l D yX0_changeRate (wsY yX0_changeRate cX0_changeRate 4 (some .int)) { frames := 1, cells := 0, slots := 0, locals := 22 } [(cI, .int)] [.ref g, .int (iI r), .int (iI v)] (wG g ad cI G) (wG g ad cI (upG G 6 r v)) (some (.int (iI (G 6 r)))) := by
  refine mw_ofI (cc := cX0_changeRate) (maxL := 4) (by decide) rfl (Nat.le_of_ble_eq_true rfl) ?_
  intro p e s m below meth c R A Q args ls hx hb hml hown hts hRf hRl hRc hRs hN hK hP hD hS hA hret hl
  have hq : ∀ w ∈ ALL, w.before args s = true := fun w h => hts w (List.mem_cons_of_mem _ h)
  have hl : lv_has ls 4 [(0, .ref g), (1, .int (iI r)), (2, .int (iI v))] := hl
  refine lv_iload_n hx hb dX0_changeRate_0 rfl (lv_at hl 1 rfl) ?_
  refine z_iconst hx hb dX0_changeRate_1 ?_
  refine z_iconst hx hb dX0_changeRate_2 ?_
  refine mw_none (st1 := [.int (iI (outZ r 0 5))]) (mr_SN (As := [.int (iI r), .int (iI 0), .int (iI 5)]) (rest := []) ⟨hx, hb, hml, hown, hts⟩ (m_X2_isOutside l D r 0 5 (by omega) (by omega) (by omega)) ⟨va_cnB 3 hts (gSelf q_35) rfl rfl rfl hN.1 (hq _ q_37) (by decide +kernel) ⟨Nat.le_trans (m := 1) (Nat.le_of_ble_eq_true rfl) (Nat.le_trans (Nat.le_of_ble_eq_true rfl) hRf), Nat.le_trans (m := 22) (Nat.le_of_ble_eq_true rfl) (Nat.le_trans (Nat.le_of_ble_eq_true rfl) hRl)⟩, hq _ q_36, trivial⟩ hN (hK.sub (tys' := []) [] rfl) (va_P0 _ _ _) (va_D0 A) rfl hl.1 (Nat.le_of_ble_eq_true rfl) ⟨hRc, hRs⟩ dX0_changeRate_3) hP hS hA rfl (fun H locs hP hS => ?_)
  have hf_1 : outZ r 0 5 = if r < 0 ∨ 5 < r then 1 else 0 := rfl
  refine z_if_ne (tgt := 20) hx hb dX0_changeRate_6 (by decide) (by omega) (fun c_2 => ?_) (fun c_2 => ?_)
  · refine z_ldc hx hb (-1000001) (by decide +kernel) hown (hq _ q_39) dX0_changeRate_20 ?_
    refine z_as (show (-1000001) = G 6 r from by first | rfl | omega) ?_
    first | exact hret _ _ _ _ dX0_changeRate_22 hP hD hS | (exfalso; omega)
  · refine lv_iload_n hx hb dX0_changeRate_9 rfl (lv_at hl 2 rfl) ?_
    refine z_iconst hx hb dX0_changeRate_10 ?_
    refine z_sipush hx hb dX0_changeRate_11 (by decide +kernel) ?_
    refine mw_none (st1 := [.int (iI (outZ v 1 200))]) (mr_SN (As := [.int (iI v), .int (iI 1), .int (iI 200)]) (rest := []) ⟨hx, hb, hml, hown, hts⟩ (m_X2_isOutside l D v 1 200 (by omega) (by omega) (by omega)) ⟨va_cnB 3 hts (gSelf q_35) rfl rfl rfl hN.1 (hq _ q_37) (by decide +kernel) ⟨Nat.le_trans (m := 1) (Nat.le_of_ble_eq_true rfl) (Nat.le_trans (Nat.le_of_ble_eq_true rfl) hRf), Nat.le_trans (m := 22) (Nat.le_of_ble_eq_true rfl) (Nat.le_trans (Nat.le_of_ble_eq_true rfl) hRl)⟩, hq _ q_36, trivial⟩ hN (hK.sub (tys' := []) [] rfl) (va_P0 _ _ _) (va_D0 A) rfl hl.1 (Nat.le_of_ble_eq_true rfl) ⟨hRc, hRs⟩ dX0_changeRate_14) hP hS hA rfl (fun H locs hP hS => ?_)
    have hf_3 : outZ v 1 200 = if v < 1 ∨ 200 < v then 1 else 0 := rfl
    refine z_if_eq (tgt := 23) hx hb dX0_changeRate_17 (by decide) (by omega) (fun c_4 => ?_) (fun c_4 => ?_)
    · refine lv_aload_n hx hb dX0_changeRate_23 rfl (lv_at hl 0 rfl) ?_
      refine va_get (D := D) (ci := 0) (v := .ref (ad 6)) (C := RX0) (T := TX0) (N := 13) hx hb hq inA0 hown hK hP 0 rfl rfl 6 (by decide) (hq _ q_18) (fun _ h9 => h9) rfl dX0_changeRate_24 ?_
      refine lv_iload_n hx hb dX0_changeRate_27 rfl (lv_at hl 1 rfl) ?_
      refine z_iald hx hb hK hP 7 0 rfl rfl (by omega) (by omega) (v := (G 6 r)) rfl dX0_changeRate_28 ?_
      have hv_5 := invG_6 hI r (by omega) (by omega)
      refine lv_istore_n (lv' := [(3, .int (iI (G 6 r))), (0, .ref g), (1, .int (iI r)), (2, .int (iI v))]) hx hb dX0_changeRate_29 rfl hl (by decide) rfl (fun ls hl => ?_)
      refine lv_aload_n hx hb dX0_changeRate_30 rfl (lv_at hl 1 rfl) ?_
      refine va_get (D := D) (ci := 0) (v := .ref (ad 6)) (C := RX0) (T := TX0) (N := 13) hx hb hq inA0 hown hK hP 0 rfl rfl 6 (by decide) (hq _ q_18) (fun _ h9 => h9) rfl dX0_changeRate_31 ?_
      refine lv_iload_n hx hb dX0_changeRate_34 rfl (lv_at hl 2 rfl) ?_
      refine lv_iload_n hx hb dX0_changeRate_35 rfl (lv_at hl 3 rfl) ?_
      refine z_iast (w1 := (wG g ad cI (upG G 6 r v))) hx hb hK hP hD hS 7 0 rfl rfl (by omega) (by omega) (wG_set6 _ _ _ _ _ _) dX0_changeRate_36 (fun H locs hP hD hS => ?_)
      refine lv_iload_n hx hb dX0_changeRate_37 rfl (lv_at hl 0 rfl) ?_
      refine z_as (show (G 6 r) = G 6 r from by first | rfl | omega) ?_
      first | exact hret _ _ _ _ dX0_changeRate_38 hP hD hS | (exfalso; omega)
    · refine z_ldc hx hb (-1000001) (by decide +kernel) hown (hq _ q_39) dX0_changeRate_20 ?_
      refine z_as (show (-1000001) = G 6 r from by first | rfl | omega) ?_
      first | exact hret _ _ _ _ dX0_changeRate_22 hP hD hS | (exfalso; omega)
set_option maxHeartbeats 4000000 in
set_option maxRecDepth 100000 in
theorem m_X0_changeRate_bad (l : Launch) (D : va_G) (g : Nat) (ad : Nat → Nat) (cI : ClassId) (G : Nat → Int → Int) (r v : Int) (h1 : -2147483648 ≤ r ∧ r < 2147483648) (h2 : -2147483648 ≤ v ∧ v < 2147483648) (hb0 : r < 0 ∨ 5 < r ∨ v < 1 ∨ 200 < v)  : MW l D yX0_changeRate (wsY yX0_changeRate cX0_changeRate 4 (some .int)) { frames := 1, cells := 0, slots := 0, locals := 22 } [(cI, .int)] [.ref g, .int (iI r), .int (iI v)] (wG g ad cI G) (wG g ad cI G) (some (.int (iI (-1000001)))) := by
  refine mw_ofI (cc := cX0_changeRate) (maxL := 4) (by decide) rfl (Nat.le_of_ble_eq_true rfl) ?_
  intro p e s m below meth c R A Q args ls hx hb hml hown hts hRf hRl hRc hRs hN hK hP hD hS hA hret hl
  have hq : ∀ w ∈ ALL, w.before args s = true := fun w h => hts w (List.mem_cons_of_mem _ h)
  have hl : lv_has ls 4 [(0, .ref g), (1, .int (iI r)), (2, .int (iI v))] := hl
  refine lv_iload_n hx hb dX0_changeRate_0 rfl (lv_at hl 1 rfl) ?_
  refine z_iconst hx hb dX0_changeRate_1 ?_
  refine z_iconst hx hb dX0_changeRate_2 ?_
  refine mw_none (st1 := [.int (iI (outZ r 0 5))]) (mr_SN (As := [.int (iI r), .int (iI 0), .int (iI 5)]) (rest := []) ⟨hx, hb, hml, hown, hts⟩ (m_X2_isOutside l D r 0 5 (by omega) (by omega) (by omega)) ⟨va_cnB 3 hts (gSelf q_35) rfl rfl rfl hN.1 (hq _ q_37) (by decide +kernel) ⟨Nat.le_trans (m := 1) (Nat.le_of_ble_eq_true rfl) (Nat.le_trans (Nat.le_of_ble_eq_true rfl) hRf), Nat.le_trans (m := 22) (Nat.le_of_ble_eq_true rfl) (Nat.le_trans (Nat.le_of_ble_eq_true rfl) hRl)⟩, hq _ q_36, trivial⟩ hN (hK.sub (tys' := []) [] rfl) (va_P0 _ _ _) (va_D0 A) rfl hl.1 (Nat.le_of_ble_eq_true rfl) ⟨hRc, hRs⟩ dX0_changeRate_3) hP hS hA rfl (fun H locs hP hS => ?_)
  have hf_1 : outZ r 0 5 = if r < 0 ∨ 5 < r then 1 else 0 := rfl
  refine z_if_ne (tgt := 20) hx hb dX0_changeRate_6 (by decide) (by omega) (fun c_2 => ?_) (fun c_2 => ?_)
  · refine z_ldc hx hb (-1000001) (by decide +kernel) hown (hq _ q_39) dX0_changeRate_20 ?_
    refine z_as (show (-1000001) = -1000001 from by first | rfl | omega) ?_
    first | exact hret _ _ _ _ dX0_changeRate_22 hP hD hS | (exfalso; omega)
  · refine lv_iload_n hx hb dX0_changeRate_9 rfl (lv_at hl 2 rfl) ?_
    refine z_iconst hx hb dX0_changeRate_10 ?_
    refine z_sipush hx hb dX0_changeRate_11 (by decide +kernel) ?_
    refine mw_none (st1 := [.int (iI (outZ v 1 200))]) (mr_SN (As := [.int (iI v), .int (iI 1), .int (iI 200)]) (rest := []) ⟨hx, hb, hml, hown, hts⟩ (m_X2_isOutside l D v 1 200 (by omega) (by omega) (by omega)) ⟨va_cnB 3 hts (gSelf q_35) rfl rfl rfl hN.1 (hq _ q_37) (by decide +kernel) ⟨Nat.le_trans (m := 1) (Nat.le_of_ble_eq_true rfl) (Nat.le_trans (Nat.le_of_ble_eq_true rfl) hRf), Nat.le_trans (m := 22) (Nat.le_of_ble_eq_true rfl) (Nat.le_trans (Nat.le_of_ble_eq_true rfl) hRl)⟩, hq _ q_36, trivial⟩ hN (hK.sub (tys' := []) [] rfl) (va_P0 _ _ _) (va_D0 A) rfl hl.1 (Nat.le_of_ble_eq_true rfl) ⟨hRc, hRs⟩ dX0_changeRate_14) hP hS hA rfl (fun H locs hP hS => ?_)
    have hf_3 : outZ v 1 200 = if v < 1 ∨ 200 < v then 1 else 0 := rfl
    refine z_if_eq (tgt := 23) hx hb dX0_changeRate_17 (by decide) (by omega) (fun c_4 => ?_) (fun c_4 => ?_)
    · refine lv_aload_n hx hb dX0_changeRate_23 rfl (lv_at hl 0 rfl) ?_
      refine va_get (D := D) (ci := 0) (v := .ref (ad 6)) (C := RX0) (T := TX0) (N := 13) hx hb hq inA0 hown hK hP 0 rfl rfl 6 (by decide) (hq _ q_18) (fun _ h9 => h9) rfl dX0_changeRate_24 ?_
      refine lv_iload_n hx hb dX0_changeRate_27 rfl (lv_at hl 1 rfl) ?_
      refine z_iald hx hb hK hP 7 0 rfl rfl (by omega) (by omega) (v := (G 6 r)) rfl dX0_changeRate_28 ?_
      refine lv_istore_n (lv' := [(3, .int (iI (G 6 r))), (0, .ref g), (1, .int (iI r)), (2, .int (iI v))]) hx hb dX0_changeRate_29 rfl hl (by decide) rfl (fun ls hl => ?_)
      refine lv_aload_n hx hb dX0_changeRate_30 rfl (lv_at hl 1 rfl) ?_
      refine va_get (D := D) (ci := 0) (v := .ref (ad 6)) (C := RX0) (T := TX0) (N := 13) hx hb hq inA0 hown hK hP 0 rfl rfl 6 (by decide) (hq _ q_18) (fun _ h9 => h9) rfl dX0_changeRate_31 ?_
      refine lv_iload_n hx hb dX0_changeRate_34 rfl (lv_at hl 2 rfl) ?_
      refine lv_iload_n hx hb dX0_changeRate_35 rfl (lv_at hl 3 rfl) ?_
      refine z_iast (w1 := (wG g ad cI (upG G 6 r v))) hx hb hK hP hD hS 7 0 rfl rfl (by omega) (by omega) (wG_set6 _ _ _ _ _ _) dX0_changeRate_36 (fun H locs hP hD hS => ?_)
      refine lv_iload_n hx hb dX0_changeRate_37 rfl (lv_at hl 0 rfl) ?_
      refine z_as (show (G 6 r) = -1000001 from by first | rfl | omega) ?_
      first | exact hret _ _ _ _ dX0_changeRate_38 hP hD hS | (exfalso; omega)
    · refine z_ldc hx hb (-1000001) (by decide +kernel) hown (hq _ q_39) dX0_changeRate_20 ?_
      refine z_as (show (-1000001) = -1000001 from by first | rfl | omega) ?_
      first | exact hret _ _ _ _ dX0_changeRate_22 hP hD hS | (exfalso; omega)
set_option maxHeartbeats 4000000 in
set_option maxRecDepth 100000 in
theorem m_X0_isOutsideSetting (l : Launch) (D : va_G) (w v : Int) (h1 : -2147483648 ≤ w ∧ w < 2147483648) (h2 : -2147483648 ≤ v ∧ v < 2147483648)  : MW l D yX0_isOutsideSetting (wsY yX0_isOutsideSetting cX0_isOutsideSetting 2 (some .boolean)) { frames := 1, cells := 0, slots := 0, locals := 22 } [] [.int (iI w), .int (iI v)] [] [] (some (.int (iI (badSetZ w v)))) := by
  refine mw_ofZ (cc := cX0_isOutsideSetting) (maxL := 2) (ty := .boolean) (narrow_z01 (by have := outZ_01 v 300 700; have := outZ_01 v 1 300; have := outZ_01 v 0 99; unfold badSetZ; omega)) (by decide) rfl (Nat.le_of_ble_eq_true rfl) ?_
  intro p e s m below meth c R A Q args ls hx hb hml hown hts hRf hRl hRc hRs hN hK hP hD hS hA hret hl
  have hq : ∀ w ∈ ALL, w.before args s = true := fun w h => hts w (List.mem_cons_of_mem _ h)
  have hl : lv_has ls 2 [(0, .int (iI w)), (1, .int (iI v))] := hl
  refine lv_iload_n hx hb dX0_isOutsideSetting_0 rfl (lv_at hl 0 rfl) ?_
  have c_1 : (w ≠ 0 ∧ w ≠ 1) ∨ (w = 0 ∨ w = 1) := by omega
  rcases c_1 with c_1 | c_1 | c_1
  · refine lv_lookup (tgt := 48) (off := 47) hx hb dX0_isOutsideSetting_1 (by decide) (by rw [iI_t (by omega)]; show (if (0 : Int) = w then (27 : Int) else (if (1 : Int) = w then (38 : Int) else 47)) = 47; omega) (by decide) ?_
    refine lv_iload_n hx hb dX0_isOutsideSetting_48 rfl (lv_at hl 1 rfl) ?_
    refine z_iconst hx hb dX0_isOutsideSetting_49 ?_
    refine z_bipush hx hb dX0_isOutsideSetting_50 (by decide +kernel) ?_
    refine mw_none (st1 := [.int (iI (outZ v 0 99))]) (mr_SN (As := [.int (iI v), .int (iI 0), .int (iI 99)]) (rest := []) ⟨hx, hb, hml, hown, hts⟩ (m_X2_isOutside l D v 0 99 (by omega) (by omega) (by omega)) ⟨va_cnB 3 hts (gSelf q_35) rfl rfl rfl hN.1 (hq _ q_37) (by decide +kernel) ⟨Nat.le_trans (m := 1) (Nat.le_of_ble_eq_true rfl) (Nat.le_trans (Nat.le_of_ble_eq_true rfl) hRf), Nat.le_trans (m := 22) (Nat.le_of_ble_eq_true rfl) (Nat.le_trans (Nat.le_of_ble_eq_true rfl) hRl)⟩, hq _ q_36, trivial⟩ hN (hK.sub (tys' := []) [] rfl) (va_P0 _ _ _) (va_D0 A) rfl hl.1 (Nat.le_of_ble_eq_true rfl) ⟨hRc, hRs⟩ dX0_isOutsideSetting_52) hP hS hA rfl (fun H locs hP hS => ?_)
    have hf_2 : outZ v 0 99 = if v < 0 ∨ 99 < v then 1 else 0 := rfl
    refine z_as (show outZ v 0 99 = badSetZ w v from by first | rfl | omega | (unfold badSetZ outZ; omega)) ?_
    first | exact hret _ _ _ _ dX0_isOutsideSetting_55 hP hD hS | (exfalso; omega)
  · refine lv_lookup (tgt := 28) (off := 27) hx hb dX0_isOutsideSetting_1 (by decide) (by rw [iI_t (by omega), c_1]; rfl) (by decide) ?_
    refine lv_iload_n hx hb dX0_isOutsideSetting_28 rfl (lv_at hl 1 rfl) ?_
    refine z_sipush hx hb dX0_isOutsideSetting_29 (by decide +kernel) ?_
    refine z_sipush hx hb dX0_isOutsideSetting_32 (by decide +kernel) ?_
    refine mw_none (st1 := [.int (iI (outZ v 300 700))]) (mr_SN (As := [.int (iI v), .int (iI 300), .int (iI 700)]) (rest := []) ⟨hx, hb, hml, hown, hts⟩ (m_X2_isOutside l D v 300 700 (by omega) (by omega) (by omega)) ⟨va_cnB 3 hts (gSelf q_35) rfl rfl rfl hN.1 (hq _ q_37) (by decide +kernel) ⟨Nat.le_trans (m := 1) (Nat.le_of_ble_eq_true rfl) (Nat.le_trans (Nat.le_of_ble_eq_true rfl) hRf), Nat.le_trans (m := 22) (Nat.le_of_ble_eq_true rfl) (Nat.le_trans (Nat.le_of_ble_eq_true rfl) hRl)⟩, hq _ q_36, trivial⟩ hN (hK.sub (tys' := []) [] rfl) (va_P0 _ _ _) (va_D0 A) rfl hl.1 (Nat.le_of_ble_eq_true rfl) ⟨hRc, hRs⟩ dX0_isOutsideSetting_35) hP hS hA rfl (fun H locs hP hS => ?_)
    have hf_3 : outZ v 300 700 = if v < 300 ∨ 700 < v then 1 else 0 := rfl
    refine z_as (show outZ v 300 700 = badSetZ w v from by first | rfl | omega | (unfold badSetZ outZ; omega)) ?_
    first | exact hret _ _ _ _ dX0_isOutsideSetting_38 hP hD hS | (exfalso; omega)
  · refine lv_lookup (tgt := 39) (off := 38) hx hb dX0_isOutsideSetting_1 (by decide) (by rw [iI_t (by omega), c_1]; rfl) (by decide) ?_
    refine lv_iload_n hx hb dX0_isOutsideSetting_39 rfl (lv_at hl 1 rfl) ?_
    refine z_iconst hx hb dX0_isOutsideSetting_40 ?_
    refine z_sipush hx hb dX0_isOutsideSetting_41 (by decide +kernel) ?_
    refine mw_none (st1 := [.int (iI (outZ v 1 300))]) (mr_SN (As := [.int (iI v), .int (iI 1), .int (iI 300)]) (rest := []) ⟨hx, hb, hml, hown, hts⟩ (m_X2_isOutside l D v 1 300 (by omega) (by omega) (by omega)) ⟨va_cnB 3 hts (gSelf q_35) rfl rfl rfl hN.1 (hq _ q_37) (by decide +kernel) ⟨Nat.le_trans (m := 1) (Nat.le_of_ble_eq_true rfl) (Nat.le_trans (Nat.le_of_ble_eq_true rfl) hRf), Nat.le_trans (m := 22) (Nat.le_of_ble_eq_true rfl) (Nat.le_trans (Nat.le_of_ble_eq_true rfl) hRl)⟩, hq _ q_36, trivial⟩ hN (hK.sub (tys' := []) [] rfl) (va_P0 _ _ _) (va_D0 A) rfl hl.1 (Nat.le_of_ble_eq_true rfl) ⟨hRc, hRs⟩ dX0_isOutsideSetting_44) hP hS hA rfl (fun H locs hP hS => ?_)
    have hf_4 : outZ v 1 300 = if v < 1 ∨ 300 < v then 1 else 0 := rfl
    refine z_as (show outZ v 1 300 = badSetZ w v from by first | rfl | omega | (unfold badSetZ outZ; omega)) ?_
    first | exact hret _ _ _ _ dX0_isOutsideSetting_47 hP hD hS | (exfalso; omega)
set_option maxHeartbeats 4000000 in
set_option maxRecDepth 100000 in
theorem m_X0_changeSetting (l : Launch) (D : va_G) (g : Nat) (ad : Nat → Nat) (cI : ClassId) (G : Nat → Int → Int) (w v : Int) {B : Int} (hI : InvG B G) (h1 : 0 ≤ w ∧ w < 3) (h2 : -2147483648 ≤ v ∧ v < 2147483648) (h3 : badSetZ w v = 0)  : MW l D yX0_changeSetting (wsY yX0_changeSetting cX0_changeSetting 4 (some .int)) { frames := 2, cells := 0, slots := 0, locals := 43 } [(cI, .int)] [.ref g, .int (iI w), .int (iI v)] (wG g ad cI G) (wG g ad cI (upG G 11 w v)) (some (.int (iI (G 11 w)))) := by
  refine mw_ofI (cc := cX0_changeSetting) (maxL := 4) (by decide) rfl (Nat.le_of_ble_eq_true rfl) ?_
  intro p e s m below meth c R A Q args ls hx hb hml hown hts hRf hRl hRc hRs hN hK hP hD hS hA hret hl
  have hq : ∀ w ∈ ALL, w.before args s = true := fun w h => hts w (List.mem_cons_of_mem _ h)
  have hl : lv_has ls 4 [(0, .ref g), (1, .int (iI w)), (2, .int (iI v))] := hl
  refine lv_iload_n hx hb dX0_changeSetting_0 rfl (lv_at hl 1 rfl) ?_
  refine z_iconst hx hb dX0_changeSetting_1 ?_
  refine z_iconst hx hb dX0_changeSetting_2 ?_
  refine mw_none (st1 := [.int (iI (outZ w 0 2))]) (mr_SN (As := [.int (iI w), .int (iI 0), .int (iI 2)]) (rest := []) ⟨hx, hb, hml, hown, hts⟩ (m_X2_isOutside l D w 0 2 (by omega) (by omega) (by omega)) ⟨va_cnB 3 hts (gSelf q_35) rfl rfl rfl hN.1 (hq _ q_37) (by decide +kernel) ⟨Nat.le_trans (m := 1) (Nat.le_of_ble_eq_true rfl) (Nat.le_trans (Nat.le_of_ble_eq_true rfl) hRf), Nat.le_trans (m := 22) (Nat.le_of_ble_eq_true rfl) (Nat.le_trans (Nat.le_of_ble_eq_true rfl) hRl)⟩, hq _ q_36, trivial⟩ hN (hK.sub (tys' := []) [] rfl) (va_P0 _ _ _) (va_D0 A) rfl hl.1 (Nat.le_of_ble_eq_true rfl) ⟨hRc, hRs⟩ dX0_changeSetting_3) hP hS hA rfl (fun H locs hP hS => ?_)
  have hf_1 : outZ w 0 2 = if w < 0 ∨ 2 < w then 1 else 0 := rfl
  refine z_if_ne (tgt := 17) hx hb dX0_changeSetting_6 (by decide) (by omega) (fun c_2 => ?_) (fun c_2 => ?_)
  · refine z_ldc hx hb (-1000001) (by decide +kernel) hown (hq _ q_39) dX0_changeSetting_17 ?_
    refine z_as (show (-1000001) = G 11 w from by first | rfl | omega) ?_
    first | exact hret _ _ _ _ dX0_changeSetting_19 hP hD hS | (exfalso; omega)
  · refine lv_iload_n hx hb dX0_changeSetting_9 rfl (lv_at hl 1 rfl) ?_
    refine lv_iload_n hx hb dX0_changeSetting_10 rfl (lv_at hl 2 rfl) ?_
    refine mw_none (st1 := [.int (iI (badSetZ w v))]) (mr_S (As := [.int (iI w), .int (iI v)]) (rest := []) ⟨hx, hb, hml, hown, hts⟩ (m_X0_isOutsideSetting l D w v (by omega) (by omega)) (va_cwS 2 hts (gS q_94 q_95 q_8 q_93) rfl rfl rfl (by decide +kernel) ⟨Nat.le_trans (m := 2) (Nat.le_of_ble_eq_true rfl) (Nat.le_trans (Nat.le_of_ble_eq_true rfl) hRf), Nat.le_trans (m := 43) (Nat.le_of_ble_eq_true rfl) (Nat.le_trans (Nat.le_of_ble_eq_true rfl) hRl)⟩) hN (hK.sub (tys' := []) [] rfl) (va_P0 _ _ _) (va_D0 A) rfl hl.1 (Nat.le_of_ble_eq_true rfl) ⟨hRc, hRs⟩ dX0_changeSetting_11) hP hS hA rfl (fun H locs hP hS => ?_)
    have hf_3 : badSetZ w v = if w = 0 then (if v < 300 ∨ 700 < v then 1 else 0) else if w = 1 then (if v < 1 ∨ 300 < v then 1 else 0) else (if v < 0 ∨ 99 < v then 1 else 0) := rfl
    refine z_if_eq (tgt := 20) hx hb dX0_changeSetting_14 (by decide) (by omega) (fun c_4 => ?_) (fun c_4 => ?_)
    · refine lv_aload_n hx hb dX0_changeSetting_20 rfl (lv_at hl 0 rfl) ?_
      refine va_get (D := D) (ci := 0) (v := .ref (ad 11)) (C := RX0) (T := TX0) (N := 13) hx hb hq inA0 hown hK hP 0 rfl rfl 11 (by decide) (hq _ q_22) (fun _ h9 => h9) rfl dX0_changeSetting_21 ?_
      refine lv_iload_n hx hb dX0_changeSetting_24 rfl (lv_at hl 1 rfl) ?_
      refine z_iald hx hb hK hP 12 0 rfl rfl (by omega) (by omega) (v := (G 11 w)) rfl dX0_changeSetting_25 ?_
      have hv_5 := invG_11 hI w (by omega) (by omega)
      refine lv_istore_n (lv' := [(3, .int (iI (G 11 w))), (0, .ref g), (1, .int (iI w)), (2, .int (iI v))]) hx hb dX0_changeSetting_26 rfl hl (by decide) rfl (fun ls hl => ?_)
      refine lv_aload_n hx hb dX0_changeSetting_27 rfl (lv_at hl 1 rfl) ?_
      refine va_get (D := D) (ci := 0) (v := .ref (ad 11)) (C := RX0) (T := TX0) (N := 13) hx hb hq inA0 hown hK hP 0 rfl rfl 11 (by decide) (hq _ q_22) (fun _ h9 => h9) rfl dX0_changeSetting_28 ?_
      refine lv_iload_n hx hb dX0_changeSetting_31 rfl (lv_at hl 2 rfl) ?_
      refine lv_iload_n hx hb dX0_changeSetting_32 rfl (lv_at hl 3 rfl) ?_
      refine z_iast (w1 := (wG g ad cI (upG G 11 w v))) hx hb hK hP hD hS 12 0 rfl rfl (by omega) (by omega) (wG_set11 _ _ _ _ _ _) dX0_changeSetting_33 (fun H locs hP hD hS => ?_)
      refine lv_iload_n hx hb dX0_changeSetting_34 rfl (lv_at hl 0 rfl) ?_
      refine z_as (show (G 11 w) = G 11 w from by first | rfl | omega) ?_
      first | exact hret _ _ _ _ dX0_changeSetting_35 hP hD hS | (exfalso; omega)
    · refine z_ldc hx hb (-1000001) (by decide +kernel) hown (hq _ q_39) dX0_changeSetting_17 ?_
      refine z_as (show (-1000001) = G 11 w from by first | rfl | omega) ?_
      first | exact hret _ _ _ _ dX0_changeSetting_19 hP hD hS | (exfalso; omega)
set_option maxHeartbeats 4000000 in
set_option maxRecDepth 100000 in
theorem m_X0_changeSetting_bad (l : Launch) (D : va_G) (g : Nat) (ad : Nat → Nat) (cI : ClassId) (G : Nat → Int → Int) (w v : Int) (h1 : -2147483648 ≤ w ∧ w < 2147483648) (h2 : -2147483648 ≤ v ∧ v < 2147483648) (hb0 : w < 0 ∨ 2 < w ∨ badSetZ w v ≠ 0)  : MW l D yX0_changeSetting (wsY yX0_changeSetting cX0_changeSetting 4 (some .int)) { frames := 2, cells := 0, slots := 0, locals := 43 } [(cI, .int)] [.ref g, .int (iI w), .int (iI v)] (wG g ad cI G) (wG g ad cI G) (some (.int (iI (-1000001)))) := by
  refine mw_ofI (cc := cX0_changeSetting) (maxL := 4) (by decide) rfl (Nat.le_of_ble_eq_true rfl) ?_
  intro p e s m below meth c R A Q args ls hx hb hml hown hts hRf hRl hRc hRs hN hK hP hD hS hA hret hl
  have hq : ∀ w ∈ ALL, w.before args s = true := fun w h => hts w (List.mem_cons_of_mem _ h)
  have hl : lv_has ls 4 [(0, .ref g), (1, .int (iI w)), (2, .int (iI v))] := hl
  refine lv_iload_n hx hb dX0_changeSetting_0 rfl (lv_at hl 1 rfl) ?_
  refine z_iconst hx hb dX0_changeSetting_1 ?_
  refine z_iconst hx hb dX0_changeSetting_2 ?_
  refine mw_none (st1 := [.int (iI (outZ w 0 2))]) (mr_SN (As := [.int (iI w), .int (iI 0), .int (iI 2)]) (rest := []) ⟨hx, hb, hml, hown, hts⟩ (m_X2_isOutside l D w 0 2 (by omega) (by omega) (by omega)) ⟨va_cnB 3 hts (gSelf q_35) rfl rfl rfl hN.1 (hq _ q_37) (by decide +kernel) ⟨Nat.le_trans (m := 1) (Nat.le_of_ble_eq_true rfl) (Nat.le_trans (Nat.le_of_ble_eq_true rfl) hRf), Nat.le_trans (m := 22) (Nat.le_of_ble_eq_true rfl) (Nat.le_trans (Nat.le_of_ble_eq_true rfl) hRl)⟩, hq _ q_36, trivial⟩ hN (hK.sub (tys' := []) [] rfl) (va_P0 _ _ _) (va_D0 A) rfl hl.1 (Nat.le_of_ble_eq_true rfl) ⟨hRc, hRs⟩ dX0_changeSetting_3) hP hS hA rfl (fun H locs hP hS => ?_)
  have hf_1 : outZ w 0 2 = if w < 0 ∨ 2 < w then 1 else 0 := rfl
  refine z_if_ne (tgt := 17) hx hb dX0_changeSetting_6 (by decide) (by omega) (fun c_2 => ?_) (fun c_2 => ?_)
  · refine z_ldc hx hb (-1000001) (by decide +kernel) hown (hq _ q_39) dX0_changeSetting_17 ?_
    refine z_as (show (-1000001) = -1000001 from by first | rfl | omega) ?_
    first | exact hret _ _ _ _ dX0_changeSetting_19 hP hD hS | (exfalso; omega)
  · refine lv_iload_n hx hb dX0_changeSetting_9 rfl (lv_at hl 1 rfl) ?_
    refine lv_iload_n hx hb dX0_changeSetting_10 rfl (lv_at hl 2 rfl) ?_
    refine mw_none (st1 := [.int (iI (badSetZ w v))]) (mr_S (As := [.int (iI w), .int (iI v)]) (rest := []) ⟨hx, hb, hml, hown, hts⟩ (m_X0_isOutsideSetting l D w v (by omega) (by omega)) (va_cwS 2 hts (gS q_94 q_95 q_8 q_93) rfl rfl rfl (by decide +kernel) ⟨Nat.le_trans (m := 2) (Nat.le_of_ble_eq_true rfl) (Nat.le_trans (Nat.le_of_ble_eq_true rfl) hRf), Nat.le_trans (m := 43) (Nat.le_of_ble_eq_true rfl) (Nat.le_trans (Nat.le_of_ble_eq_true rfl) hRl)⟩) hN (hK.sub (tys' := []) [] rfl) (va_P0 _ _ _) (va_D0 A) rfl hl.1 (Nat.le_of_ble_eq_true rfl) ⟨hRc, hRs⟩ dX0_changeSetting_11) hP hS hA rfl (fun H locs hP hS => ?_)
    have hf_3 : badSetZ w v = if w = 0 then (if v < 300 ∨ 700 < v then 1 else 0) else if w = 1 then (if v < 1 ∨ 300 < v then 1 else 0) else (if v < 0 ∨ 99 < v then 1 else 0) := rfl
    refine z_if_eq (tgt := 20) hx hb dX0_changeSetting_14 (by decide) (by omega) (fun c_4 => ?_) (fun c_4 => ?_)
    · refine lv_aload_n hx hb dX0_changeSetting_20 rfl (lv_at hl 0 rfl) ?_
      refine va_get (D := D) (ci := 0) (v := .ref (ad 11)) (C := RX0) (T := TX0) (N := 13) hx hb hq inA0 hown hK hP 0 rfl rfl 11 (by decide) (hq _ q_22) (fun _ h9 => h9) rfl dX0_changeSetting_21 ?_
      refine lv_iload_n hx hb dX0_changeSetting_24 rfl (lv_at hl 1 rfl) ?_
      refine z_iald hx hb hK hP 12 0 rfl rfl (by omega) (by omega) (v := (G 11 w)) rfl dX0_changeSetting_25 ?_
      refine lv_istore_n (lv' := [(3, .int (iI (G 11 w))), (0, .ref g), (1, .int (iI w)), (2, .int (iI v))]) hx hb dX0_changeSetting_26 rfl hl (by decide) rfl (fun ls hl => ?_)
      refine lv_aload_n hx hb dX0_changeSetting_27 rfl (lv_at hl 1 rfl) ?_
      refine va_get (D := D) (ci := 0) (v := .ref (ad 11)) (C := RX0) (T := TX0) (N := 13) hx hb hq inA0 hown hK hP 0 rfl rfl 11 (by decide) (hq _ q_22) (fun _ h9 => h9) rfl dX0_changeSetting_28 ?_
      refine lv_iload_n hx hb dX0_changeSetting_31 rfl (lv_at hl 2 rfl) ?_
      refine lv_iload_n hx hb dX0_changeSetting_32 rfl (lv_at hl 3 rfl) ?_
      refine z_iast (w1 := (wG g ad cI (upG G 11 w v))) hx hb hK hP hD hS 12 0 rfl rfl (by omega) (by omega) (wG_set11 _ _ _ _ _ _) dX0_changeSetting_33 (fun H locs hP hD hS => ?_)
      refine lv_iload_n hx hb dX0_changeSetting_34 rfl (lv_at hl 0 rfl) ?_
      refine z_as (show (G 11 w) = -1000001 from by first | rfl | omega) ?_
      first | exact hret _ _ _ _ dX0_changeSetting_35 hP hD hS | (exfalso; omega)
    · refine z_ldc hx hb (-1000001) (by decide +kernel) hown (hq _ q_39) dX0_changeSetting_17 ?_
      refine z_as (show (-1000001) = -1000001 from by first | rfl | omega) ?_
      first | exact hret _ _ _ _ dX0_changeSetting_19 hP hD hS | (exfalso; omega)
