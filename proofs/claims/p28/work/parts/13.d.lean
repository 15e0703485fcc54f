set_option maxHeartbeats 4000000 in
set_option maxRecDepth 100000 in
theorem m_X0_numberOfCell (l : Launch) (D : va_G) (g : Nat) (ad : Nat → Nat) (cI : ClassId) (G : Nat → Int → Int) (r c2 w : Int) {B : Int} (hI : InvG B G) (h1 : 0 ≤ r ∧ r < 6) (h2 : 0 ≤ c2 ∧ c2 < 8) (h3 : -2147483648 ≤ w ∧ w < 2147483648)  : MW l D yX0_numberOfCell (wsY yX0_numberOfCell cX0_numberOfCell 7 (some .int)) { frames := 2, cells := 0, slots := 0, locals := 47 } [(cI, .int)] [.ref g, .int (iI r), .int (iI c2), .int (iI w)] (wG g ad cI G) (wG g ad cI G) (some (.int (iI (cellV G r c2 w)))) := by
  refine mw_ofI (cc := cX0_numberOfCell) (maxL := 7) (by decide) rfl (Nat.le_of_ble_eq_true rfl) ?_
  intro p e s m below meth c R A Q args ls hx hb hml hown hts hRf hRl hRc hRs hN hK hP hD hS hA hret hl
  have hq : ∀ w ∈ ALL, w.before args s = true := fun w h => hts w (List.mem_cons_of_mem _ h)
  have hl : lv_has ls 7 [(0, .ref g), (1, .int (iI r)), (2, .int (iI c2)), (3, .int (iI w))] := hl
  refine lv_iload_n hx hb dX0_numberOfCell_0 rfl (lv_at hl 1 rfl) ?_
  refine lv_iload_n hx hb dX0_numberOfCell_1 rfl (lv_at hl 2 rfl) ?_
  refine mw_none (st1 := [.int (iI (if (r < 0 ∨ 5 < r) ∨ (c2 < 0 ∨ 7 < c2) then 1 else 0 : Int))]) (mr_S (As := [.int (iI r), .int (iI c2)]) (rest := []) ⟨hx, hb, hml, hown, hts⟩ (m_X0_isOutsideCell l D r c2 (by omega) (by omega)) (va_cwS 2 hts (gS q_40 q_41 q_8 q_38) rfl rfl rfl (by decide +kernel) ⟨Nat.le_trans (m := 2) (Nat.le_of_ble_eq_true rfl) (Nat.le_trans (Nat.le_of_ble_eq_true rfl) hRf), Nat.le_trans (m := 43) (Nat.le_of_ble_eq_true rfl) (Nat.le_trans (Nat.le_of_ble_eq_true rfl) hRl)⟩) hN (hK.sub (tys' := []) [] rfl) (va_P0 _ _ _) (va_D0 A) rfl hl.1 (Nat.le_of_ble_eq_true rfl) ⟨hRc, hRs⟩ dX0_numberOfCell_2) hP hS hA rfl (fun H locs hP hS => ?_)
  refine z_if_eq (tgt := 11) hx hb dX0_numberOfCell_5 (by decide) (by omega) (fun c_1 => ?_) (fun c_1 => absurd c_1 (by omega))
  refine z_bipush hx hb dX0_numberOfCell_11 (by decide +kernel) ?_
  refine lv_iload_n hx hb dX0_numberOfCell_13 rfl (lv_at hl 1 rfl) ?_
  refine z_imul hx hb dX0_numberOfCell_14 ?_
  refine lv_iload_n hx hb dX0_numberOfCell_15 rfl (lv_at hl 2 rfl) ?_
  refine z_iadd hx hb dX0_numberOfCell_16 ?_
  refine lv_istore (lv' := [(4, .int (iI ((8 * r) + c2))), (0, .ref g), (1, .int (iI r)), (2, .int (iI c2)), (3, .int (iI w))]) hx hb dX0_numberOfCell_17 hl (by decide) rfl (fun ls hl => ?_)
  refine lv_aload_n hx hb dX0_numberOfCell_19 rfl (lv_at hl 1 rfl) ?_
  refine lv_iload_n hx hb dX0_numberOfCell_20 rfl (lv_at hl 2 rfl) ?_
  refine z_iconst hx hb dX0_numberOfCell_21 ?_
  refine mw_full (st1 := [.int (iI (thrZ G r 0))]) (mr_V (As := [.int (iI r), .int (iI 0)]) (rest := []) (ci := 0) (q0 := 0) ⟨hx, hb, hml, hown, hts⟩ (m_X0_threshold l D g ad cI G r 0 hI (by omega) (by omega)) (cwV 2 hts (gV q_53 q_54 q_55 q_8 q_51) rfl rfl rfl (by decide +kernel) ⟨Nat.le_trans (m := 2) (Nat.le_of_ble_eq_true rfl) (Nat.le_trans (Nat.le_of_ble_eq_true rfl) hRf), Nat.le_trans (m := 47) (Nat.le_of_ble_eq_true rfl) (Nat.le_trans (Nat.le_of_ble_eq_true rfl) hRl)⟩) hN hK hP hD rfl rfl rfl hl.1 (Nat.le_of_ble_eq_true rfl) ⟨hRc, hRs⟩ dX0_numberOfCell_22) hD hS hA rfl (fun H locs hP hD hS => ?_)
  have hf_2 := thrZ_bd hI r 0 (by omega) (by omega)
  refine lv_istore (lv' := [(5, .int (iI (thrZ G r 0))), (4, .int (iI ((8 * r) + c2))), (0, .ref g), (1, .int (iI r)), (2, .int (iI c2)), (3, .int (iI w))]) hx hb dX0_numberOfCell_25 hl (by decide) rfl (fun ls hl => ?_)
  refine lv_aload_n hx hb dX0_numberOfCell_27 rfl (lv_at hl 2 rfl) ?_
  refine lv_iload_n hx hb dX0_numberOfCell_28 rfl (lv_at hl 3 rfl) ?_
  refine z_iconst hx hb dX0_numberOfCell_29 ?_
  refine mw_full (st1 := [.int (iI (thrZ G r 1))]) (mr_V (As := [.int (iI r), .int (iI 1)]) (rest := []) (ci := 0) (q0 := 0) ⟨hx, hb, hml, hown, hts⟩ (m_X0_threshold l D g ad cI G r 1 hI (by omega) (by omega)) (cwV 2 hts (gV q_53 q_54 q_55 q_8 q_51) rfl rfl rfl (by decide +kernel) ⟨Nat.le_trans (m := 2) (Nat.le_of_ble_eq_true rfl) (Nat.le_trans (Nat.le_of_ble_eq_true rfl) hRf), Nat.le_trans (m := 47) (Nat.le_of_ble_eq_true rfl) (Nat.le_trans (Nat.le_of_ble_eq_true rfl) hRl)⟩) hN hK hP hD rfl rfl rfl hl.1 (Nat.le_of_ble_eq_true rfl) ⟨hRc, hRs⟩ dX0_numberOfCell_30) hD hS hA rfl (fun H locs hP hD hS => ?_)
  have hf_3 := thrZ_bd hI r 1 (by omega) (by omega)
  refine lv_istore (lv' := [(6, .int (iI (thrZ G r 1))), (5, .int (iI (thrZ G r 0))), (4, .int (iI ((8 * r) + c2))), (0, .ref g), (1, .int (iI r)), (2, .int (iI c2)), (3, .int (iI w))]) hx hb dX0_numberOfCell_33 hl (by decide) rfl (fun ls hl => ?_)
  refine lv_iload_n hx hb dX0_numberOfCell_35 rfl (lv_at hl 6 rfl) ?_
  rcases z_tab w 0 7 with c_4 | c_4
  · refine lv_tableOut (tgt := 206) hx hb dX0_numberOfCell_36 (by rw [iI_t (by omega)]; exact c_4) (by decide) ?_
    refine z_ldc hx hb (-1000001) (by decide +kernel) hown (hq _ q_39) dX0_numberOfCell_206 ?_
    refine z_as (show (-1000001) = cellV G r c2 w from by first | rfl | omega | (unfold cellV; omega)) ?_
    first | exact hret _ _ _ _ dX0_numberOfCell_208 hP hD hS | (exfalso; omega)
  · have c_5 : w = 0 ∨ w = 1 ∨ w = 2 ∨ w = 3 ∨ w = 4 ∨ w = 5 ∨ w = 6 ∨ w = 7 := by omega
    rcases c_5 with c_5 | c_5 | c_5 | c_5 | c_5 | c_5 | c_5 | c_5
    · refine lv_tableIn (tgt := 84) (off := 48) hx hb dX0_numberOfCell_36 (by rw [iI_t (by omega)]; omega) (by rw [iI_t (by omega)]; omega) (by rw [iI_t (by omega), c_5]; rfl) (by decide) ?_
      refine lv_aload_n hx hb dX0_numberOfCell_84 rfl (lv_at hl 3 rfl) ?_
      refine va_get (D := D) (ci := 0) (v := .ref (ad 0)) (C := RX0) (T := TX0) (N := 13) hx hb hq inA0 hown hK hP 0 rfl rfl 0 (by decide) (hq _ q_2) (fun _ h9 => h9) rfl dX0_numberOfCell_85 ?_
      refine lv_iload hx hb dX0_numberOfCell_88 (lv_at hl 2 rfl) ?_
      refine z_iald hx hb hK hP 1 0 rfl rfl (by omega) (by omega) (v := (G 0 ((8 * r) + c2))) rfl dX0_numberOfCell_90 ?_
      have hv_6 := invG_0 hI ((8 * r) + c2) (by omega) (by omega)
      refine z_as (show (G 0 ((8 * r) + c2)) = cellV G r c2 w from by first | rfl | omega | (unfold cellV; omega)) ?_
      first | exact hret _ _ _ _ dX0_numberOfCell_91 hP hD hS | (exfalso; omega)
    · refine lv_tableIn (tgt := 92) (off := 56) hx hb dX0_numberOfCell_36 (by rw [iI_t (by omega)]; omega) (by rw [iI_t (by omega)]; omega) (by rw [iI_t (by omega), c_5]; rfl) (by decide) ?_
      refine lv_aload_n hx hb dX0_numberOfCell_92 rfl (lv_at hl 3 rfl) ?_
      refine va_get (D := D) (ci := 0) (v := .ref (ad 1)) (C := RX0) (T := TX0) (N := 13) hx hb hq inA0 hown hK hP 0 rfl rfl 1 (by decide) (hq _ q_3) (fun _ h9 => h9) rfl dX0_numberOfCell_93 ?_
      refine lv_iload hx hb dX0_numberOfCell_96 (lv_at hl 2 rfl) ?_
      refine z_iald hx hb hK hP 2 0 rfl rfl (by omega) (by omega) (v := (G 1 ((8 * r) + c2))) rfl dX0_numberOfCell_98 ?_
      have hv_7 := invG_1 hI ((8 * r) + c2) (by omega) (by omega)
      refine z_as (show (G 1 ((8 * r) + c2)) = cellV G r c2 w from by first | rfl | omega | (unfold cellV; omega)) ?_
      first | exact hret _ _ _ _ dX0_numberOfCell_99 hP hD hS | (exfalso; omega)
    · refine lv_tableIn (tgt := 100) (off := 64) hx hb dX0_numberOfCell_36 (by rw [iI_t (by omega)]; omega) (by rw [iI_t (by omega)]; omega) (by rw [iI_t (by omega), c_5]; rfl) (by decide) ?_
      refine lv_aload_n hx hb dX0_numberOfCell_100 rfl (lv_at hl 3 rfl) ?_
      refine va_get (D := D) (ci := 0) (v := .ref (ad 1)) (C := RX0) (T := TX0) (N := 13) hx hb hq inA0 hown hK hP 0 rfl rfl 1 (by decide) (hq _ q_3) (fun _ h9 => h9) rfl dX0_numberOfCell_101 ?_
      refine lv_iload hx hb dX0_numberOfCell_104 (lv_at hl 2 rfl) ?_
      refine z_iald hx hb hK hP 2 0 rfl rfl (by omega) (by omega) (v := (G 1 ((8 * r) + c2))) rfl dX0_numberOfCell_106 ?_
      have hv_8 := invG_1 hI ((8 * r) + c2) (by omega) (by omega)
      refine lv_iload hx hb dX0_numberOfCell_107 (lv_at hl 1 rfl) ?_
      refine lv_iload hx hb dX0_numberOfCell_109 (lv_at hl 0 rfl) ?_
      refine mw_none (st1 := [.int (iI (tellZ (G 1 ((8 * r) + c2)) (thrZ G r 0) (thrZ G r 1)))]) (mr_S (As := [.int (iI (G 1 ((8 * r) + c2))), .int (iI (thrZ G r 0)), .int (iI (thrZ G r 1))]) (rest := []) ⟨hx, hb, hml, hown, hts⟩ (m_X0_tell l D (G 1 ((8 * r) + c2)) (thrZ G r 0) (thrZ G r 1) (by omega) (by omega) (by omega)) (va_cwS 3 hts (gS q_56 q_57 q_8 q_52) rfl rfl rfl (by decide +kernel) ⟨Nat.le_trans (m := 1) (Nat.le_of_ble_eq_true rfl) (Nat.le_trans (Nat.le_of_ble_eq_true rfl) hRf), Nat.le_trans (m := 22) (Nat.le_of_ble_eq_true rfl) (Nat.le_trans (Nat.le_of_ble_eq_true rfl) hRl)⟩) hN (hK.sub (tys' := []) [] rfl) (va_P0 _ _ _) (va_D0 A) rfl hl.1 (Nat.le_of_ble_eq_true rfl) ⟨hRc, hRs⟩ dX0_numberOfCell_111) hP hS hA rfl (fun H locs hP hS => ?_)
      have hf_9 := tellZ_01 (G 1 ((8 * r) + c2)) (thrZ G r 0) (thrZ G r 1)
      refine z_as (show tellZ (G 1 ((8 * r) + c2)) (thrZ G r 0) (thrZ G r 1) = cellV G r c2 w from by first | rfl | omega | (unfold cellV; omega)) ?_
      first | exact hret _ _ _ _ dX0_numberOfCell_114 hP hD hS | (exfalso; omega)
    · refine lv_tableIn (tgt := 115) (off := 79) hx hb dX0_numberOfCell_36 (by rw [iI_t (by omega)]; omega) (by rw [iI_t (by omega)]; omega) (by rw [iI_t (by omega), c_5]; rfl) (by decide) ?_
      refine lv_aload_n hx hb dX0_numberOfCell_115 rfl (lv_at hl 3 rfl) ?_
      refine va_get (D := D) (ci := 0) (v := .ref (ad 1)) (C := RX0) (T := TX0) (N := 13) hx hb hq inA0 hown hK hP 0 rfl rfl 1 (by decide) (hq _ q_3) (fun _ h9 => h9) rfl dX0_numberOfCell_116 ?_
      refine lv_iload hx hb dX0_numberOfCell_119 (lv_at hl 2 rfl) ?_
      refine z_iald hx hb hK hP 2 0 rfl rfl (by omega) (by omega) (v := (G 1 ((8 * r) + c2))) rfl dX0_numberOfCell_121 ?_
      have hv_10 := invG_1 hI ((8 * r) + c2) (by omega) (by omega)
      refine lv_aload_n hx hb dX0_numberOfCell_122 rfl (lv_at hl 3 rfl) ?_
      refine lv_iload_n hx hb dX0_numberOfCell_123 rfl (lv_at hl 4 rfl) ?_
      refine z_iconst hx hb dX0_numberOfCell_124 ?_
      refine mw_full (st1 := [.int (iI (ownZ G r 0)), .int (iI (G 1 ((8 * r) + c2)))]) (mr_V (As := [.int (iI r), .int (iI 0)]) (rest := [.int (iI (G 1 ((8 * r) + c2)))]) (ci := 0) (q0 := 0) ⟨hx, hb, hml, hown, hts⟩ (m_X0_ownThreshold l D g ad cI G r 0 hI (by omega) (by omega)) (cwV 2 hts (gV q_48 q_49 q_50 q_8 q_44) rfl rfl rfl (by decide +kernel) ⟨Nat.le_trans (m := 1) (Nat.le_of_ble_eq_true rfl) (Nat.le_trans (Nat.le_of_ble_eq_true rfl) hRf), Nat.le_trans (m := 23) (Nat.le_of_ble_eq_true rfl) (Nat.le_trans (Nat.le_of_ble_eq_true rfl) hRl)⟩) hN hK hP hD rfl rfl rfl hl.1 (Nat.le_of_ble_eq_true rfl) ⟨hRc, hRs⟩ dX0_numberOfCell_125) hD hS hA rfl (fun H locs hP hD hS => ?_)
      have hf_11 := ownZ_bd hI r 0 (by omega) (by omega)
      refine lv_aload_n hx hb dX0_numberOfCell_128 rfl (lv_at hl 3 rfl) ?_
      refine lv_iload_n hx hb dX0_numberOfCell_129 rfl (lv_at hl 4 rfl) ?_
      refine z_iconst hx hb dX0_numberOfCell_130 ?_
      refine mw_full (st1 := [.int (iI (ownZ G r 1)), .int (iI (ownZ G r 0)), .int (iI (G 1 ((8 * r) + c2)))]) (mr_V (As := [.int (iI r), .int (iI 1)]) (rest := [.int (iI (ownZ G r 0)), .int (iI (G 1 ((8 * r) + c2)))]) (ci := 0) (q0 := 0) ⟨hx, hb, hml, hown, hts⟩ (m_X0_ownThreshold l D g ad cI G r 1 hI (by omega) (by omega)) (cwV 2 hts (gV q_48 q_49 q_50 q_8 q_44) rfl rfl rfl (by decide +kernel) ⟨Nat.le_trans (m := 1) (Nat.le_of_ble_eq_true rfl) (Nat.le_trans (Nat.le_of_ble_eq_true rfl) hRf), Nat.le_trans (m := 23) (Nat.le_of_ble_eq_true rfl) (Nat.le_trans (Nat.le_of_ble_eq_true rfl) hRl)⟩) hN hK hP hD rfl rfl rfl hl.1 (Nat.le_of_ble_eq_true rfl) ⟨hRc, hRs⟩ dX0_numberOfCell_131) hD hS hA rfl (fun H locs hP hD hS => ?_)
      have hf_12 := ownZ_bd hI r 1 (by omega) (by omega)
      refine mw_none (st1 := [.int (iI (tellZ (G 1 ((8 * r) + c2)) (ownZ G r 0) (ownZ G r 1)))]) (mr_S (As := [.int (iI (G 1 ((8 * r) + c2))), .int (iI (ownZ G r 0)), .int (iI (ownZ G r 1))]) (rest := []) ⟨hx, hb, hml, hown, hts⟩ (m_X0_tell l D (G 1 ((8 * r) + c2)) (ownZ G r 0) (ownZ G r 1) (by omega) (by omega) (by omega)) (va_cwS 3 hts (gS q_56 q_57 q_8 q_52) rfl rfl rfl (by decide +kernel) ⟨Nat.le_trans (m := 1) (Nat.le_of_ble_eq_true rfl) (Nat.le_trans (Nat.le_of_ble_eq_true rfl) hRf), Nat.le_trans (m := 22) (Nat.le_of_ble_eq_true rfl) (Nat.le_trans (Nat.le_of_ble_eq_true rfl) hRl)⟩) hN (hK.sub (tys' := []) [] rfl) (va_P0 _ _ _) (va_D0 A) rfl hl.1 (Nat.le_of_ble_eq_true rfl) ⟨hRc, hRs⟩ dX0_numberOfCell_134) hP hS hA rfl (fun H locs hP hS => ?_)
      have hf_13 := tellZ_01 (G 1 ((8 * r) + c2)) (ownZ G r 0) (ownZ G r 1)
      refine z_as (show tellZ (G 1 ((8 * r) + c2)) (ownZ G r 0) (ownZ G r 1) = cellV G r c2 w from by first | rfl | omega | (unfold cellV; omega)) ?_
      first | exact hret _ _ _ _ dX0_numberOfCell_137 hP hD hS | (exfalso; omega)
    · refine lv_tableIn (tgt := 138) (off := 102) hx hb dX0_numberOfCell_36 (by rw [iI_t (by omega)]; omega) (by rw [iI_t (by omega)]; omega) (by rw [iI_t (by omega), c_5]; rfl) (by decide) ?_
      refine lv_aload_n hx hb dX0_numberOfCell_138 rfl (lv_at hl 3 rfl) ?_
      refine va_get (D := D) (ci := 0) (v := .ref (ad 1)) (C := RX0) (T := TX0) (N := 13) hx hb hq inA0 hown hK hP 0 rfl rfl 1 (by decide) (hq _ q_3) (fun _ h9 => h9) rfl dX0_numberOfCell_139 ?_
      refine lv_iload hx hb dX0_numberOfCell_142 (lv_at hl 2 rfl) ?_
      refine z_iald hx hb hK hP 2 0 rfl rfl (by omega) (by omega) (v := (G 1 ((8 * r) + c2))) rfl dX0_numberOfCell_144 ?_
      have hv_14 := invG_1 hI ((8 * r) + c2) (by omega) (by omega)
      refine z_sipush hx hb dX0_numberOfCell_145 (by decide +kernel) ?_
      refine z_sipush hx hb dX0_numberOfCell_148 (by decide +kernel) ?_
      refine mw_none (st1 := [.int (iI (tellZ (G 1 ((8 * r) + c2)) 300 700))]) (mr_S (As := [.int (iI (G 1 ((8 * r) + c2))), .int (iI 300), .int (iI 700)]) (rest := []) ⟨hx, hb, hml, hown, hts⟩ (m_X0_tell l D (G 1 ((8 * r) + c2)) 300 700 (by omega) (by omega) (by omega)) (va_cwS 3 hts (gS q_56 q_57 q_8 q_52) rfl rfl rfl (by decide +kernel) ⟨Nat.le_trans (m := 1) (Nat.le_of_ble_eq_true rfl) (Nat.le_trans (Nat.le_of_ble_eq_true rfl) hRf), Nat.le_trans (m := 22) (Nat.le_of_ble_eq_true rfl) (Nat.le_trans (Nat.le_of_ble_eq_true rfl) hRl)⟩) hN (hK.sub (tys' := []) [] rfl) (va_P0 _ _ _) (va_D0 A) rfl hl.1 (Nat.le_of_ble_eq_true rfl) ⟨hRc, hRs⟩ dX0_numberOfCell_151) hP hS hA rfl (fun H locs hP hS => ?_)
      have hf_15 := tellZ_01 (G 1 ((8 * r) + c2)) 300 700
      refine z_as (show tellZ (G 1 ((8 * r) + c2)) 300 700 = cellV G r c2 w from by first | rfl | omega | (unfold cellV; omega)) ?_
      first | exact hret _ _ _ _ dX0_numberOfCell_154 hP hD hS | (exfalso; omega)
    · refine lv_tableIn (tgt := 155) (off := 119) hx hb dX0_numberOfCell_36 (by rw [iI_t (by omega)]; omega) (by rw [iI_t (by omega)]; omega) (by rw [iI_t (by omega), c_5]; rfl) (by decide) ?_
      refine lv_aload_n hx hb dX0_numberOfCell_155 rfl (lv_at hl 3 rfl) ?_
      refine va_get (D := D) (ci := 0) (v := .ref (ad 2)) (C := RX0) (T := TX0) (N := 13) hx hb hq inA0 hown hK hP 0 rfl rfl 2 (by decide) (hq _ q_1) (fun _ h9 => h9) rfl dX0_numberOfCell_156 ?_
      refine lv_iload hx hb dX0_numberOfCell_159 (lv_at hl 2 rfl) ?_
      refine z_iald hx hb hK hP 3 0 rfl rfl (by omega) (by omega) (v := (G 2 ((8 * r) + c2))) rfl dX0_numberOfCell_161 ?_
      have hv_16 := invG_2 hI ((8 * r) + c2) (by omega) (by omega)
      refine z_as (show (G 2 ((8 * r) + c2)) = cellV G r c2 w from by first | rfl | omega | (unfold cellV; omega)) ?_
      first | exact hret _ _ _ _ dX0_numberOfCell_162 hP hD hS | (exfalso; omega)
    · refine lv_tableIn (tgt := 163) (off := 127) hx hb dX0_numberOfCell_36 (by rw [iI_t (by omega)]; omega) (by rw [iI_t (by omega)]; omega) (by rw [iI_t (by omega), c_5]; rfl) (by decide) ?_
      refine lv_aload_n hx hb dX0_numberOfCell_163 rfl (lv_at hl 3 rfl) ?_
      refine va_get (D := D) (ci := 0) (v := .ref (ad 1)) (C := RX0) (T := TX0) (N := 13) hx hb hq inA0 hown hK hP 0 rfl rfl 1 (by decide) (hq _ q_3) (fun _ h9 => h9) rfl dX0_numberOfCell_164 ?_
      refine lv_iload hx hb dX0_numberOfCell_167 (lv_at hl 2 rfl) ?_
      refine z_iald hx hb hK hP 2 0 rfl rfl (by omega) (by omega) (v := (G 1 ((8 * r) + c2))) rfl dX0_numberOfCell_169 ?_
      have hv_17 := invG_1 hI ((8 * r) + c2) (by omega) (by omega)
      refine lv_iload hx hb dX0_numberOfCell_170 (lv_at hl 1 rfl) ?_
      refine z_isub hx hb dX0_numberOfCell_172 ?_
      refine z_mabs hx hb (hml.trans hl.1.symm) hown (hq _ q_97) (hq _ q_98) (hq _ q_74) (hq _ q_99) (Nat.le_trans (Nat.le_of_ble_eq_true rfl) hRf) (Nat.le_trans (Nat.le_of_ble_eq_true rfl) hRl) hRc hRs (by omega) (Nat.le_of_ble_eq_true rfl) dX0_numberOfCell_173 ?_
      refine lv_aload_n hx hb dX0_numberOfCell_176 rfl (lv_at hl 3 rfl) ?_
      refine va_get (D := D) (ci := 0) (v := .ref (ad 1)) (C := RX0) (T := TX0) (N := 13) hx hb hq inA0 hown hK hP 0 rfl rfl 1 (by decide) (hq _ q_3) (fun _ h9 => h9) rfl dX0_numberOfCell_177 ?_
      refine lv_iload hx hb dX0_numberOfCell_180 (lv_at hl 2 rfl) ?_
      refine z_iald hx hb hK hP 2 0 rfl rfl (by omega) (by omega) (v := (G 1 ((8 * r) + c2))) rfl dX0_numberOfCell_182 ?_
      have hv_18 := invG_1 hI ((8 * r) + c2) (by omega) (by omega)
      refine lv_iload hx hb dX0_numberOfCell_183 (lv_at hl 0 rfl) ?_
      refine z_isub hx hb dX0_numberOfCell_185 ?_
      refine z_mabs hx hb (hml.trans hl.1.symm) hown (hq _ q_97) (hq _ q_98) (hq _ q_74) (hq _ q_99) (Nat.le_trans (Nat.le_of_ble_eq_true rfl) hRf) (Nat.le_trans (Nat.le_of_ble_eq_true rfl) hRl) hRc hRs (by omega) (Nat.le_of_ble_eq_true rfl) dX0_numberOfCell_186 ?_
      refine z_mmin hx hb (hml.trans hl.1.symm) hown (hq _ q_100) (hq _ q_101) (hq _ q_74) (hq _ q_102) (Nat.le_trans (Nat.le_of_ble_eq_true rfl) hRf) (Nat.le_trans (Nat.le_of_ble_eq_true rfl) hRl) hRc hRs (by omega) (by omega) (Nat.le_of_ble_eq_true rfl) dX0_numberOfCell_189 ?_
      refine z_as (show (if (if 0 ≤ ((G 1 ((8 * r) + c2)) - thrZ G r 1) then ((G 1 ((8 * r) + c2)) - thrZ G r 1) else 0 - ((G 1 ((8 * r) + c2)) - thrZ G r 1)) < (if 0 ≤ ((G 1 ((8 * r) + c2)) - thrZ G r 0) then ((G 1 ((8 * r) + c2)) - thrZ G r 0) else 0 - ((G 1 ((8 * r) + c2)) - thrZ G r 0)) then (if 0 ≤ ((G 1 ((8 * r) + c2)) - thrZ G r 1) then ((G 1 ((8 * r) + c2)) - thrZ G r 1) else 0 - ((G 1 ((8 * r) + c2)) - thrZ G r 1)) else (if 0 ≤ ((G 1 ((8 * r) + c2)) - thrZ G r 0) then ((G 1 ((8 * r) + c2)) - thrZ G r 0) else 0 - ((G 1 ((8 * r) + c2)) - thrZ G r 0))) = cellV G r c2 w from by first | rfl | omega | (unfold cellV; omega)) ?_
      first | exact hret _ _ _ _ dX0_numberOfCell_192 hP hD hS | (exfalso; omega)
    · refine lv_tableIn (tgt := 193) (off := 157) hx hb dX0_numberOfCell_36 (by rw [iI_t (by omega)]; omega) (by rw [iI_t (by omega)]; omega) (by rw [iI_t (by omega), c_5]; rfl) (by decide) ?_
      refine lv_aload_n hx hb dX0_numberOfCell_193 rfl (lv_at hl 3 rfl) ?_
      refine va_get (D := D) (ci := 0) (v := .int (iI (G 12 0))) (C := RX0) (T := TX0) (N := 13) hx hb hq inA0 hown hK hP 0 rfl rfl 12 (by decide) (hq _ q_5) (fun _ h9 => h9) rfl dX0_numberOfCell_194 ?_
      refine lv_aload_n hx hb dX0_numberOfCell_197 rfl (lv_at hl 3 rfl) ?_
      refine va_get (D := D) (ci := 0) (v := .ref (ad 3)) (C := RX0) (T := TX0) (N := 13) hx hb hq inA0 hown hK hP 0 rfl rfl 3 (by decide) (hq _ q_4) (fun _ h9 => h9) rfl dX0_numberOfCell_198 ?_
      refine lv_iload hx hb dX0_numberOfCell_201 (lv_at hl 2 rfl) ?_
      refine z_iald hx hb hK hP 4 0 rfl rfl (by omega) (by omega) (v := (G 3 ((8 * r) + c2))) rfl dX0_numberOfCell_203 ?_
      have hv_19 := invG_3 hI ((8 * r) + c2) (by omega) (by omega)
      refine z_isub hx hb dX0_numberOfCell_204 ?_
      refine z_as (show ((G 12 0) - (G 3 ((8 * r) + c2))) = cellV G r c2 w from by first | rfl | omega | (unfold cellV; omega)) ?_
      first | exact hret _ _ _ _ dX0_numberOfCell_205 hP hD hS | (exfalso; omega)
set_option maxHeartbeats 4000000 in
set_option maxRecDepth 100000 in
theorem m_X0_numberOfCell_bad (l : Launch) (D : va_G) (g : Nat) (ad : Nat → Nat) (cI : ClassId) (G : Nat → Int → Int) (r c2 w : Int) (h1 : -2147483648 ≤ r ∧ r < 2147483648) (h2 : -2147483648 ≤ c2 ∧ c2 < 2147483648) (hb0 : r < 0 ∨ 5 < r ∨ c2 < 0 ∨ 7 < c2)  : MW l D yX0_numberOfCell (wsY yX0_numberOfCell cX0_numberOfCell 7 (some .int)) { frames := 2, cells := 0, slots := 0, locals := 47 } [(cI, .int)] [.ref g, .int (iI r), .int (iI c2), .int (iI w)] (wG g ad cI G) (wG g ad cI G) (some (.int (iI (-1000001)))) := by
  refine mw_ofI (cc := cX0_numberOfCell) (maxL := 7) (by decide) rfl (Nat.le_of_ble_eq_true rfl) ?_
  intro p e s m below meth c R A Q args ls hx hb hml hown hts hRf hRl hRc hRs hN hK hP hD hS hA hret hl
  have hq : ∀ w ∈ ALL, w.before args s = true := fun w h => hts w (List.mem_cons_of_mem _ h)
  have hl : lv_has ls 7 [(0, .ref g), (1, .int (iI r)), (2, .int (iI c2)), (3, .int (iI w))] := hl
  refine lv_iload_n hx hb dX0_numberOfCell_0 rfl (lv_at hl 1 rfl) ?_
  refine lv_iload_n hx hb dX0_numberOfCell_1 rfl (lv_at hl 2 rfl) ?_
  refine mw_none (st1 := [.int (iI (if (r < 0 ∨ 5 < r) ∨ (c2 < 0 ∨ 7 < c2) then 1 else 0 : Int))]) (mr_S (As := [.int (iI r), .int (iI c2)]) (rest := []) ⟨hx, hb, hml, hown, hts⟩ (m_X0_isOutsideCell l D r c2 (by omega) (by omega)) (va_cwS 2 hts (gS q_40 q_41 q_8 q_38) rfl rfl rfl (by decide +kernel) ⟨Nat.le_trans (m := 2) (Nat.le_of_ble_eq_true rfl) (Nat.le_trans (Nat.le_of_ble_eq_true rfl) hRf), Nat.le_trans (m := 43) (Nat.le_of_ble_eq_true rfl) (Nat.le_trans (Nat.le_of_ble_eq_true rfl) hRl)⟩) hN (hK.sub (tys' := []) [] rfl) (va_P0 _ _ _) (va_D0 A) rfl hl.1 (Nat.le_of_ble_eq_true rfl) ⟨hRc, hRs⟩ dX0_numberOfCell_2) hP hS hA rfl (fun H locs hP hS => ?_)
  refine z_if_eq (tgt := 11) hx hb dX0_numberOfCell_5 (by decide) (by omega) (fun c_1 => absurd c_1 (by omega)) (fun c_1 => ?_)
  refine z_ldc hx hb (-1000001) (by decide +kernel) hown (hq _ q_39) dX0_numberOfCell_8 ?_
  refine z_as (show (-1000001) = -1000001 from by first | rfl | omega) ?_
  first | exact hret _ _ _ _ dX0_numberOfCell_10 hP hD hS | (exfalso; omega)
set_option maxHeartbeats 4000000 in
set_option maxRecDepth 100000 in
theorem m_X0_numberOfGuard (l : Launch) (D : va_G) (g : Nat) (ad : Nat → Nat) (cI : ClassId) (G : Nat → Int → Int) (r g2 w : Int) {B : Int} (hI : InvG B G) (h1 : 0 ≤ r ∧ r < 6) (h2 : 0 ≤ g2 ∧ g2 < 3) (h3 : -2147483648 ≤ w ∧ w < 2147483648)  : MW l D yX0_numberOfGuard (wsY yX0_numberOfGuard cX0_numberOfGuard 5 (some .int)) { frames := 2, cells := 0, slots := 0, locals := 43 } [(cI, .int)] [.ref g, .int (iI r), .int (iI g2), .int (iI w)] (wG g ad cI G) (wG g ad cI G) (some (.int (iI (guardV G r g2 w)))) := by
  refine mw_ofI (cc := cX0_numberOfGuard) (maxL := 5) (by decide) rfl (Nat.le_of_ble_eq_true rfl) ?_
  intro p e s m below meth c R A Q args ls hx hb hml hown hts hRf hRl hRc hRs hN hK hP hD hS hA hret hl
  have hq : ∀ w ∈ ALL, w.before args s = true := fun w h => hts w (List.mem_cons_of_mem _ h)
  have hl : lv_has ls 5 [(0, .ref g), (1, .int (iI r)), (2, .int (iI g2)), (3, .int (iI w))] := hl
  refine lv_iload_n hx hb dX0_numberOfGuard_0 rfl (lv_at hl 1 rfl) ?_
  refine lv_iload_n hx hb dX0_numberOfGuard_1 rfl (lv_at hl 2 rfl) ?_
  refine mw_none (st1 := [.int (iI (if (r < 0 ∨ 5 < r) ∨ (g2 < 0 ∨ 2 < g2) then 1 else 0 : Int))]) (mr_S (As := [.int (iI r), .int (iI g2)]) (rest := []) ⟨hx, hb, hml, hown, hts⟩ (m_X0_isOutsideGuard l D r g2 (by omega) (by omega)) (va_cwS 2 hts (gS q_67 q_68 q_8 q_65) rfl rfl rfl (by decide +kernel) ⟨Nat.le_trans (m := 2) (Nat.le_of_ble_eq_true rfl) (Nat.le_trans (Nat.le_of_ble_eq_true rfl) hRf), Nat.le_trans (m := 43) (Nat.le_of_ble_eq_true rfl) (Nat.le_trans (Nat.le_of_ble_eq_true rfl) hRl)⟩) hN (hK.sub (tys' := []) [] rfl) (va_P0 _ _ _) (va_D0 A) rfl hl.1 (Nat.le_of_ble_eq_true rfl) ⟨hRc, hRs⟩ dX0_numberOfGuard_2) hP hS hA rfl (fun H locs hP hS => ?_)
  refine z_if_eq (tgt := 11) hx hb dX0_numberOfGuard_5 (by decide) (by omega) (fun c_1 => ?_) (fun c_1 => ?_)
  · refine z_iconst hx hb dX0_numberOfGuard_11 ?_
    refine lv_iload_n hx hb dX0_numberOfGuard_12 rfl (lv_at hl 1 rfl) ?_
    refine z_imul hx hb dX0_numberOfGuard_13 ?_
    refine lv_iload_n hx hb dX0_numberOfGuard_14 rfl (lv_at hl 2 rfl) ?_
    refine z_iadd hx hb dX0_numberOfGuard_15 ?_
    refine lv_istore (lv' := [(4, .int (iI ((3 * r) + g2))), (0, .ref g), (1, .int (iI r)), (2, .int (iI g2)), (3, .int (iI w))]) hx hb dX0_numberOfGuard_16 hl (by decide) rfl (fun ls hl => ?_)
    refine lv_iload_n hx hb dX0_numberOfGuard_18 rfl (lv_at hl 4 rfl) ?_
    have c_2 : (w ≠ 0 ∧ w ≠ 1) ∨ (w = 0 ∨ w = 1) := by omega
    rcases c_2 with c_2 | c_2 | c_2
    · refine lv_lookup (tgt := 60) (off := 41) hx hb dX0_numberOfGuard_19 (by decide) (by rw [iI_t (by omega)]; show (if (0 : Int) = w then (25 : Int) else (if (1 : Int) = w then (33 : Int) else 41)) = 41; omega) (by decide) ?_
      refine z_ldc hx hb (-1000001) (by decide +kernel) hown (hq _ q_39) dX0_numberOfGuard_60 ?_
      refine z_as (show (-1000001) = guardV G r g2 w from by first | rfl | omega | (unfold guardV; omega)) ?_
      first | exact hret _ _ _ _ dX0_numberOfGuard_62 hP hD hS | (exfalso; omega)
    · refine lv_lookup (tgt := 44) (off := 25) hx hb dX0_numberOfGuard_19 (by decide) (by rw [iI_t (by omega), c_2]; rfl) (by decide) ?_
      refine lv_aload_n hx hb dX0_numberOfGuard_44 rfl (lv_at hl 1 rfl) ?_
      refine va_get (D := D) (ci := 0) (v := .ref (ad 4)) (C := RX0) (T := TX0) (N := 13) hx hb hq inA0 hown hK hP 0 rfl rfl 4 (by decide) (hq _ q_11) (fun _ h9 => h9) rfl dX0_numberOfGuard_45 ?_
      refine lv_iload hx hb dX0_numberOfGuard_48 (lv_at hl 0 rfl) ?_
      refine z_iald hx hb hK hP 5 0 rfl rfl (by omega) (by omega) (v := (G 4 ((3 * r) + g2))) rfl dX0_numberOfGuard_50 ?_
      have hv_3 := invG_4 hI ((3 * r) + g2) (by omega) (by omega)
      refine z_as (show (G 4 ((3 * r) + g2)) = guardV G r g2 w from by first | rfl | omega | (unfold guardV; omega)) ?_
      first | exact hret _ _ _ _ dX0_numberOfGuard_51 hP hD hS | (exfalso; omega)
    · refine lv_lookup (tgt := 52) (off := 33) hx hb dX0_numberOfGuard_19 (by decide) (by rw [iI_t (by omega), c_2]; rfl) (by decide) ?_
      refine lv_aload_n hx hb dX0_numberOfGuard_52 rfl (lv_at hl 1 rfl) ?_
      refine va_get (D := D) (ci := 0) (v := .ref (ad 5)) (C := RX0) (T := TX0) (N := 13) hx hb hq inA0 hown hK hP 0 rfl rfl 5 (by decide) (hq _ q_10) (fun _ h9 => h9) rfl dX0_numberOfGuard_53 ?_
      refine lv_iload hx hb dX0_numberOfGuard_56 (lv_at hl 0 rfl) ?_
      refine z_iald hx hb hK hP 6 0 rfl rfl (by omega) (by omega) (v := (G 5 ((3 * r) + g2))) rfl dX0_numberOfGuard_58 ?_
      have hv_4 := invG_5 hI ((3 * r) + g2) (by omega) (by omega)
      refine z_as (show (G 5 ((3 * r) + g2)) = guardV G r g2 w from by first | rfl | omega | (unfold guardV; omega)) ?_
      first | exact hret _ _ _ _ dX0_numberOfGuard_59 hP hD hS | (exfalso; omega)
  · refine z_ldc hx hb (-1000001) (by decide +kernel) hown (hq _ q_39) dX0_numberOfGuard_8 ?_
    refine z_as (show (-1000001) = guardV G r g2 w from by first | rfl | omega | (unfold guardV; omega)) ?_
    first | exact hret _ _ _ _ dX0_numberOfGuard_10 hP hD hS | (exfalso; omega)
set_option maxHeartbeats 4000000 in
set_option maxRecDepth 100000 in
theorem m_X0_numberOfGuard_bad (l : Launch) (D : va_G) (g : Nat) (ad : Nat → Nat) (cI : ClassId) (G : Nat → Int → Int) (r g2 w : Int) (h1 : -2147483648 ≤ r ∧ r < 2147483648) (h2 : -2147483648 ≤ g2 ∧ g2 < 2147483648) (hb0 : r < 0 ∨ 5 < r ∨ g2 < 0 ∨ 2 < g2)  : MW l D yX0_numberOfGuard (wsY yX0_numberOfGuard cX0_numberOfGuard 5 (some .int)) { frames := 2, cells := 0, slots := 0, locals := 43 } [(cI, .int)] [.ref g, .int (iI r), .int (iI g2), .int (iI w)] (wG g ad cI G) (wG g ad cI G) (some (.int (iI (-1000001)))) := by
  refine mw_ofI (cc := cX0_numberOfGuard) (maxL := 5) (by decide) rfl (Nat.le_of_ble_eq_true rfl) ?_
  intro p e s m below meth c R A Q args ls hx hb hml hown hts hRf hRl hRc hRs hN hK hP hD hS hA hret hl
  have hq : ∀ w ∈ ALL, w.before args s = true := fun w h => hts w (List.mem_cons_of_mem _ h)
  have hl : lv_has ls 5 [(0, .ref g), (1, .int (iI r)), (2, .int (iI g2)), (3, .int (iI w))] := hl
  refine lv_iload_n hx hb dX0_numberOfGuard_0 rfl (lv_at hl 1 rfl) ?_
  refine lv_iload_n hx hb dX0_numberOfGuard_1 rfl (lv_at hl 2 rfl) ?_
  refine mw_none (st1 := [.int (iI (if (r < 0 ∨ 5 < r) ∨ (g2 < 0 ∨ 2 < g2) then 1 else 0 : Int))]) (mr_S (As := [.int (iI r), .int (iI g2)]) (rest := []) ⟨hx, hb, hml, hown, hts⟩ (m_X0_isOutsideGuard l D r g2 (by omega) (by omega)) (va_cwS 2 hts (gS q_67 q_68 q_8 q_65) rfl rfl rfl (by decide +kernel) ⟨Nat.le_trans (m := 2) (Nat.le_of_ble_eq_true rfl) (Nat.le_trans (Nat.le_of_ble_eq_true rfl) hRf), Nat.le_trans (m := 43) (Nat.le_of_ble_eq_true rfl) (Nat.le_trans (Nat.le_of_ble_eq_true rfl) hRl)⟩) hN (hK.sub (tys' := []) [] rfl) (va_P0 _ _ _) (va_D0 A) rfl hl.1 (Nat.le_of_ble_eq_true rfl) ⟨hRc, hRs⟩ dX0_numberOfGuard_2) hP hS hA rfl (fun H locs hP hS => ?_)
  refine z_if_eq (tgt := 11) hx hb dX0_numberOfGuard_5 (by decide) (by omega) (fun c_1 => ?_) (fun c_1 => ?_)
  · refine z_iconst hx hb dX0_numberOfGuard_11 ?_
    refine lv_iload_n hx hb dX0_numberOfGuard_12 rfl (lv_at hl 1 rfl) ?_
    refine z_imul hx hb dX0_numberOfGuard_13 ?_
    refine lv_iload_n hx hb dX0_numberOfGuard_14 rfl (lv_at hl 2 rfl) ?_
    refine z_iadd hx hb dX0_numberOfGuard_15 ?_
    refine lv_istore (lv' := [(4, .int (iI ((3 * r) + g2))), (0, .ref g), (1, .int (iI r)), (2, .int (iI g2)), (3, .int (iI w))]) hx hb dX0_numberOfGuard_16 hl (by decide) rfl (fun ls hl => ?_)
    refine lv_iload_n hx hb dX0_numberOfGuard_18 rfl (lv_at hl 4 rfl) ?_
    have c_2 : (w ≠ 0 ∧ w ≠ 1) ∨ (w = 0 ∨ w = 1) := by omega
    rcases c_2 with c_2 | c_2 | c_2
    · refine lv_lookup (tgt := 60) (off := 41) hx hb dX0_numberOfGuard_19 (by decide) (by rw [iI_t (by omega)]; show (if (0 : Int) = w then (25 : Int) else (if (1 : Int) = w then (33 : Int) else 41)) = 41; omega) (by decide) ?_
      refine z_ldc hx hb (-1000001) (by decide +kernel) hown (hq _ q_39) dX0_numberOfGuard_60 ?_
      refine z_as (show (-1000001) = -1000001 from by first | rfl | omega) ?_
      first | exact hret _ _ _ _ dX0_numberOfGuard_62 hP hD hS | (exfalso; omega)
    · refine lv_lookup (tgt := 44) (off := 25) hx hb dX0_numberOfGuard_19 (by decide) (by rw [iI_t (by omega), c_2]; rfl) (by decide) ?_
      refine lv_aload_n hx hb dX0_numberOfGuard_44 rfl (lv_at hl 1 rfl) ?_
      refine va_get (D := D) (ci := 0) (v := .ref (ad 4)) (C := RX0) (T := TX0) (N := 13) hx hb hq inA0 hown hK hP 0 rfl rfl 4 (by decide) (hq _ q_11) (fun _ h9 => h9) rfl dX0_numberOfGuard_45 ?_
      refine lv_iload hx hb dX0_numberOfGuard_48 (lv_at hl 0 rfl) ?_
      refine z_iald hx hb hK hP 5 0 rfl rfl (by omega) (by omega) (v := (G 4 ((3 * r) + g2))) rfl dX0_numberOfGuard_50 ?_
      refine z_as (show (G 4 ((3 * r) + g2)) = -1000001 from by first | rfl | omega) ?_
      first | exact hret _ _ _ _ dX0_numberOfGuard_51 hP hD hS | (exfalso; omega)
    · refine lv_lookup (tgt := 52) (off := 33) hx hb dX0_numberOfGuard_19 (by decide) (by rw [iI_t (by omega), c_2]; rfl) (by decide) ?_
      refine lv_aload_n hx hb dX0_numberOfGuard_52 rfl (lv_at hl 1 rfl) ?_
      refine va_get (D := D) (ci := 0) (v := .ref (ad 5)) (C := RX0) (T := TX0) (N := 13) hx hb hq inA0 hown hK hP 0 rfl rfl 5 (by decide) (hq _ q_10) (fun _ h9 => h9) rfl dX0_numberOfGuard_53 ?_
      refine lv_iload hx hb dX0_numberOfGuard_56 (lv_at hl 0 rfl) ?_
      refine z_iald hx hb hK hP 6 0 rfl rfl (by omega) (by omega) (v := (G 5 ((3 * r) + g2))) rfl dX0_numberOfGuard_58 ?_
      refine z_as (show (G 5 ((3 * r) + g2)) = -1000001 from by first | rfl | omega) ?_
      first | exact hret _ _ _ _ dX0_numberOfGuard_59 hP hD hS | (exfalso; omega)
  · refine z_ldc hx hb (-1000001) (by decide +kernel) hown (hq _ q_39) dX0_numberOfGuard_8 ?_
    refine z_as (show (-1000001) = -1000001 from by first | rfl | omega) ?_
    first | exact hret _ _ _ _ dX0_numberOfGuard_10 hP hD hS | (exfalso; omega)
set_option maxHeartbeats 4000000 in
set_option maxRecDepth 100000 in
theorem m_X0_numberOfRow (l : Launch) (D : va_G) (g : Nat) (ad : Nat → Nat) (cI : ClassId) (G : Nat → Int → Int) (r w : Int) {B : Int} (hI : InvG B G) (h1 : 0 ≤ r ∧ r < 6) (h3 : -2147483648 ≤ w ∧ w < 2147483648)  : MW l D yX0_numberOfRow (wsY yX0_numberOfRow cX0_numberOfRow 3 (some .int)) { frames := 3, cells := 0, slots := 0, locals := 72 } [(cI, .int)] [.ref g, .int (iI r), .int (iI w)] (wG g ad cI G) (wG g ad cI G) (some (.int (iI (rowV G r w)))) := by
  refine mw_ofI (cc := cX0_numberOfRow) (maxL := 3) (by decide) rfl (Nat.le_of_ble_eq_true rfl) ?_
  intro p e s m below meth c R A Q args ls hx hb hml hown hts hRf hRl hRc hRs hN hK hP hD hS hA hret hl
  have hq : ∀ w ∈ ALL, w.before args s = true := fun w h => hts w (List.mem_cons_of_mem _ h)
  have hl : lv_has ls 3 [(0, .ref g), (1, .int (iI r)), (2, .int (iI w))] := hl
  refine lv_iload_n hx hb dX0_numberOfRow_0 rfl (lv_at hl 1 rfl) ?_
  refine z_iconst hx hb dX0_numberOfRow_1 ?_
  refine z_iconst hx hb dX0_numberOfRow_2 ?_
  refine mw_none (st1 := [.int (iI (outZ r 0 5))]) (mr_SN (As := [.int (iI r), .int (iI 0), .int (iI 5)]) (rest := []) ⟨hx, hb, hml, hown, hts⟩ (m_X2_isOutside l D r 0 5 (by omega) (by omega) (by omega)) ⟨va_cnB 3 hts (gSelf q_35) rfl rfl rfl hN.1 (hq _ q_37) (by decide +kernel) ⟨Nat.le_trans (m := 1) (Nat.le_of_ble_eq_true rfl) (Nat.le_trans (Nat.le_of_ble_eq_true rfl) hRf), Nat.le_trans (m := 22) (Nat.le_of_ble_eq_true rfl) (Nat.le_trans (Nat.le_of_ble_eq_true rfl) hRl)⟩, hq _ q_36, trivial⟩ hN (hK.sub (tys' := []) [] rfl) (va_P0 _ _ _) (va_D0 A) rfl hl.1 (Nat.le_of_ble_eq_true rfl) ⟨hRc, hRs⟩ dX0_numberOfRow_3) hP hS hA rfl (fun H locs hP hS => ?_)
  have hf_1 : outZ r 0 5 = if r < 0 ∨ 5 < r then 1 else 0 := rfl
  refine z_if_eq (tgt := 12) hx hb dX0_numberOfRow_6 (by decide) (by omega) (fun c_2 => ?_) (fun c_2 => ?_)
  · refine lv_iload_n hx hb dX0_numberOfRow_12 rfl (lv_at hl 2 rfl) ?_
    rcases z_tab w 0 13 with c_3 | c_3
    · refine lv_tableOut (tgt := 189) hx hb dX0_numberOfRow_13 (by rw [iI_t (by omega)]; exact c_3) (by decide) ?_
      refine z_ldc hx hb (-1000001) (by decide +kernel) hown (hq _ q_39) dX0_numberOfRow_189 ?_
      refine z_as (show (-1000001) = rowV G r w from by first | rfl | omega | (unfold rowV; omega)) ?_
      first | exact hret _ _ _ _ dX0_numberOfRow_191 hP hD hS | (exfalso; omega)
    · have c_4 : w = 0 ∨ w = 1 ∨ w = 2 ∨ w = 3 ∨ w = 4 ∨ w = 5 ∨ w = 6 ∨ w = 7 ∨ w = 8 ∨ w = 9 ∨ w = 10 ∨ w = 11 ∨ w = 12 ∨ w = 13 := by omega
      rcases c_4 with c_4 | c_4 | c_4 | c_4 | c_4 | c_4 | c_4 | c_4 | c_4 | c_4 | c_4 | c_4 | c_4 | c_4
      · refine lv_tableIn (tgt := 84) (off := 71) hx hb dX0_numberOfRow_13 (by rw [iI_t (by omega)]; omega) (by rw [iI_t (by omega)]; omega) (by rw [iI_t (by omega), c_4]; rfl) (by decide) ?_
        refine lv_aload_n hx hb dX0_numberOfRow_84 rfl (lv_at hl 0 rfl) ?_
        refine lv_iload_n hx hb dX0_numberOfRow_85 rfl (lv_at hl 1 rfl) ?_
        refine z_iconst hx hb dX0_numberOfRow_86 ?_
        refine mw_full (st1 := [.int (iI (ownZ G r 0))]) (mr_V (As := [.int (iI r), .int (iI 0)]) (rest := []) (ci := 0) (q0 := 0) ⟨hx, hb, hml, hown, hts⟩ (m_X0_ownThreshold l D g ad cI G r 0 hI (by omega) (by omega)) (cwV 2 hts (gV q_48 q_49 q_50 q_8 q_44) rfl rfl rfl (by decide +kernel) ⟨Nat.le_trans (m := 1) (Nat.le_of_ble_eq_true rfl) (Nat.le_trans (Nat.le_of_ble_eq_true rfl) hRf), Nat.le_trans (m := 23) (Nat.le_of_ble_eq_true rfl) (Nat.le_trans (Nat.le_of_ble_eq_true rfl) hRl)⟩) hN hK hP hD rfl rfl rfl hl.1 (Nat.le_of_ble_eq_true rfl) ⟨hRc, hRs⟩ dX0_numberOfRow_87) hD hS hA rfl (fun H locs hP hD hS => ?_)
        have hf_5 := ownZ_bd hI r 0 (by omega) (by omega)
        refine z_as (show ownZ G r 0 = rowV G r w from by first | rfl | omega | (unfold rowV; omega)) ?_
        first | exact hret _ _ _ _ dX0_numberOfRow_90 hP hD hS | (exfalso; omega)
      · refine lv_tableIn (tgt := 91) (off := 78) hx hb dX0_numberOfRow_13 (by rw [iI_t (by omega)]; omega) (by rw [iI_t (by omega)]; omega) (by rw [iI_t (by omega), c_4]; rfl) (by decide) ?_
        refine lv_aload_n hx hb dX0_numberOfRow_91 rfl (lv_at hl 0 rfl) ?_
        refine lv_iload_n hx hb dX0_numberOfRow_92 rfl (lv_at hl 1 rfl) ?_
        refine z_iconst hx hb dX0_numberOfRow_93 ?_
        refine mw_full (st1 := [.int (iI (ownZ G r 1))]) (mr_V (As := [.int (iI r), .int (iI 1)]) (rest := []) (ci := 0) (q0 := 0) ⟨hx, hb, hml, hown, hts⟩ (m_X0_ownThreshold l D g ad cI G r 1 hI (by omega) (by omega)) (cwV 2 hts (gV q_48 q_49 q_50 q_8 q_44) rfl rfl rfl (by decide +kernel) ⟨Nat.le_trans (m := 1) (Nat.le_of_ble_eq_true rfl) (Nat.le_trans (Nat.le_of_ble_eq_true rfl) hRf), Nat.le_trans (m := 23) (Nat.le_of_ble_eq_true rfl) (Nat.le_trans (Nat.le_of_ble_eq_true rfl) hRl)⟩) hN hK hP hD rfl rfl rfl hl.1 (Nat.le_of_ble_eq_true rfl) ⟨hRc, hRs⟩ dX0_numberOfRow_94) hD hS hA rfl (fun H locs hP hD hS => ?_)
        have hf_6 := ownZ_bd hI r 1 (by omega) (by omega)
        refine z_as (show ownZ G r 1 = rowV G r w from by first | rfl | omega | (unfold rowV; omega)) ?_
        first | exact hret _ _ _ _ dX0_numberOfRow_97 hP hD hS | (exfalso; omega)
      · refine lv_tableIn (tgt := 98) (off := 85) hx hb dX0_numberOfRow_13 (by rw [iI_t (by omega)]; omega) (by rw [iI_t (by omega)]; omega) (by rw [iI_t (by omega), c_4]; rfl) (by decide) ?_
        refine lv_aload_n hx hb dX0_numberOfRow_98 rfl (lv_at hl 0 rfl) ?_
        refine lv_iload_n hx hb dX0_numberOfRow_99 rfl (lv_at hl 1 rfl) ?_
        refine mw_full (st1 := [.int (iI (rightZ G r))]) (mr_V (As := [.int (iI r)]) (rest := []) (ci := 0) (q0 := 0) ⟨hx, hb, hml, hown, hts⟩ (m_X0_hasRightThresholds l D g ad cI G r hI (by omega)) (cwV 1 hts (gV q_45 q_46 q_47 q_8 q_43) rfl rfl rfl (by decide +kernel) ⟨Nat.le_trans (m := 1) (Nat.le_of_ble_eq_true rfl) (Nat.le_trans (Nat.le_of_ble_eq_true rfl) hRf), Nat.le_trans (m := 22) (Nat.le_of_ble_eq_true rfl) (Nat.le_trans (Nat.le_of_ble_eq_true rfl) hRl)⟩) hN hK hP hD rfl rfl rfl hl.1 (Nat.le_of_ble_eq_true rfl) ⟨hRc, hRs⟩ dX0_numberOfRow_100) hD hS hA rfl (fun H locs hP hD hS => ?_)
        have hf_7 := rightZ_01 G r
        refine z_if_eq (tgt := 110) hx hb dX0_numberOfRow_103 (by decide) (by omega) (fun c_8 => ?_) (fun c_8 => ?_)
        · refine z_iconst hx hb dX0_numberOfRow_110 ?_
          refine z_as (show 0 = rowV G r w from by first | rfl | omega | (unfold rowV; omega)) ?_
          first | exact hret _ _ _ _ dX0_numberOfRow_111 hP hD hS | (exfalso; omega)
        · refine z_iconst hx hb dX0_numberOfRow_106 ?_
          refine lv_goto (tgt := 111) hx hb dX0_numberOfRow_107 (by decide) ?_
          refine z_as (show 1 = rowV G r w from by first | rfl | omega | (unfold rowV; omega)) ?_
          first | exact hret _ _ _ _ dX0_numberOfRow_111 hP hD hS | (exfalso; omega)
      · refine lv_tableIn (tgt := 112) (off := 99) hx hb dX0_numberOfRow_13 (by rw [iI_t (by omega)]; omega) (by rw [iI_t (by omega)]; omega) (by rw [iI_t (by omega), c_4]; rfl) (by decide) ?_
        refine lv_aload_n hx hb dX0_numberOfRow_112 rfl (lv_at hl 0 rfl) ?_
        refine lv_iload_n hx hb dX0_numberOfRow_113 rfl (lv_at hl 1 rfl) ?_
        refine mw_full (st1 := [.int (iI (sourceZ G r))]) (mr_V (As := [.int (iI r)]) (rest := []) (ci := 0) (q0 := 0) ⟨hx, hb, hml, hown, hts⟩ (m_X0_source l D g ad cI G r hI (by omega)) (cwV 1 hts (gV q_112 q_113 q_114 q_8 q_105) rfl rfl rfl (by decide +kernel) ⟨Nat.le_trans (m := 2) (Nat.le_of_ble_eq_true rfl) (Nat.le_trans (Nat.le_of_ble_eq_true rfl) hRf), Nat.le_trans (m := 43) (Nat.le_of_ble_eq_true rfl) (Nat.le_trans (Nat.le_of_ble_eq_true rfl) hRl)⟩) hN hK hP hD rfl rfl rfl hl.1 (Nat.le_of_ble_eq_true rfl) ⟨hRc, hRs⟩ dX0_numberOfRow_114) hD hS hA rfl (fun H locs hP hD hS => ?_)
        have hf_9 : 0 ≤ sourceZ G r ∧ sourceZ G r ≤ 2 := by unfold sourceZ; omega
        refine z_as (show sourceZ G r = rowV G r w from by first | rfl | omega | (unfold rowV; omega)) ?_
        first | exact hret _ _ _ _ dX0_numberOfRow_117 hP hD hS | (exfalso; omega)
      · refine lv_tableIn (tgt := 118) (off := 105) hx hb dX0_numberOfRow_13 (by rw [iI_t (by omega)]; omega) (by rw [iI_t (by omega)]; omega) (by rw [iI_t (by omega), c_4]; rfl) (by decide) ?_
        refine lv_aload_n hx hb dX0_numberOfRow_118 rfl (lv_at hl 0 rfl) ?_
        refine lv_iload_n hx hb dX0_numberOfRow_119 rfl (lv_at hl 1 rfl) ?_
        refine z_iconst hx hb dX0_numberOfRow_120 ?_
        refine mw_full (st1 := [.int (iI (thrZ G r 0))]) (mr_V (As := [.int (iI r), .int (iI 0)]) (rest := []) (ci := 0) (q0 := 0) ⟨hx, hb, hml, hown, hts⟩ (m_X0_threshold l D g ad cI G r 0 hI (by omega) (by omega)) (cwV 2 hts (gV q_53 q_54 q_55 q_8 q_51) rfl rfl rfl (by decide +kernel) ⟨Nat.le_trans (m := 2) (Nat.le_of_ble_eq_true rfl) (Nat.le_trans (Nat.le_of_ble_eq_true rfl) hRf), Nat.le_trans (m := 47) (Nat.le_of_ble_eq_true rfl) (Nat.le_trans (Nat.le_of_ble_eq_true rfl) hRl)⟩) hN hK hP hD rfl rfl rfl hl.1 (Nat.le_of_ble_eq_true rfl) ⟨hRc, hRs⟩ dX0_numberOfRow_121) hD hS hA rfl (fun H locs hP hD hS => ?_)
        have hf_10 := thrZ_bd hI r 0 (by omega) (by omega)
        refine z_as (show thrZ G r 0 = rowV G r w from by first | rfl | omega | (unfold rowV; omega)) ?_
        first | exact hret _ _ _ _ dX0_numberOfRow_124 hP hD hS | (exfalso; omega)
      · refine lv_tableIn (tgt := 125) (off := 112) hx hb dX0_numberOfRow_13 (by rw [iI_t (by omega)]; omega) (by rw [iI_t (by omega)]; omega) (by rw [iI_t (by omega), c_4]; rfl) (by decide) ?_
        refine lv_aload_n hx hb dX0_numberOfRow_125 rfl (lv_at hl 0 rfl) ?_
        refine lv_iload_n hx hb dX0_numberOfRow_126 rfl (lv_at hl 1 rfl) ?_
        refine z_iconst hx hb dX0_numberOfRow_127 ?_
        refine mw_full (st1 := [.int (iI (thrZ G r 1))]) (mr_V (As := [.int (iI r), .int (iI 1)]) (rest := []) (ci := 0) (q0 := 0) ⟨hx, hb, hml, hown, hts⟩ (m_X0_threshold l D g ad cI G r 1 hI (by omega) (by omega)) (cwV 2 hts (gV q_53 q_54 q_55 q_8 q_51) rfl rfl rfl (by decide +kernel) ⟨Nat.le_trans (m := 2) (Nat.le_of_ble_eq_true rfl) (Nat.le_trans (Nat.le_of_ble_eq_true rfl) hRf), Nat.le_trans (m := 47) (Nat.le_of_ble_eq_true rfl) (Nat.le_trans (Nat.le_of_ble_eq_true rfl) hRl)⟩) hN hK hP hD rfl rfl rfl hl.1 (Nat.le_of_ble_eq_true rfl) ⟨hRc, hRs⟩ dX0_numberOfRow_128) hD hS hA rfl (fun H locs hP hD hS => ?_)
        have hf_11 := thrZ_bd hI r 1 (by omega) (by omega)
        refine z_as (show thrZ G r 1 = rowV G r w from by first | rfl | omega | (unfold rowV; omega)) ?_
        first | exact hret _ _ _ _ dX0_numberOfRow_131 hP hD hS | (exfalso; omega)
      · refine lv_tableIn (tgt := 132) (off := 119) hx hb dX0_numberOfRow_13 (by rw [iI_t (by omega)]; omega) (by rw [iI_t (by omega)]; omega) (by rw [iI_t (by omega), c_4]; rfl) (by decide) ?_
        refine lv_aload_n hx hb dX0_numberOfRow_132 rfl (lv_at hl 0 rfl) ?_
        refine lv_iload_n hx hb dX0_numberOfRow_133 rfl (lv_at hl 1 rfl) ?_
        refine mw_full (st1 := [.int (iI (wrongZ G r))]) (mr_V (As := [.int (iI r)]) (rest := []) (ci := 0) (q0 := 0) ⟨hx, hb, hml, hown, hts⟩ (m_X0_wrongCells l D g ad cI G r hI (by omega)) (cwV 1 hts (gV q_115 q_116 q_117 q_8 q_110) rfl rfl rfl (by decide +kernel) ⟨Nat.le_trans (m := 3) (Nat.le_of_ble_eq_true rfl) (Nat.le_trans (Nat.le_of_ble_eq_true rfl) hRf), Nat.le_trans (m := 69) (Nat.le_of_ble_eq_true rfl) (Nat.le_trans (Nat.le_of_ble_eq_true rfl) hRl)⟩) hN hK hP hD rfl rfl rfl hl.1 (Nat.le_of_ble_eq_true rfl) ⟨hRc, hRs⟩ dX0_numberOfRow_134) hD hS hA rfl (fun H locs hP hD hS => ?_)
        have hf_12 := wrongZ_bd G r
        refine z_as (show wrongZ G r = rowV G r w from by first | rfl | omega | (unfold rowV; omega)) ?_
        first | exact hret _ _ _ _ dX0_numberOfRow_137 hP hD hS | (exfalso; omega)
      · refine lv_tableIn (tgt := 138) (off := 125) hx hb dX0_numberOfRow_13 (by rw [iI_t (by omega)]; omega) (by rw [iI_t (by omega)]; omega) (by rw [iI_t (by omega), c_4]; rfl) (by decide) ?_
        refine lv_aload_n hx hb dX0_numberOfRow_138 rfl (lv_at hl 0 rfl) ?_
        refine lv_iload_n hx hb dX0_numberOfRow_139 rfl (lv_at hl 1 rfl) ?_
        refine z_sipush hx hb dX0_numberOfRow_140 (by decide +kernel) ?_
        refine z_sipush hx hb dX0_numberOfRow_143 (by decide +kernel) ?_
        refine mw_full (st1 := [.int (iI (wrongByZ G r 300 700 8))]) (mr_V (As := [.int (iI r), .int (iI 300), .int (iI 700)]) (rest := []) (ci := 0) (q0 := 0) ⟨hx, hb, hml, hown, hts⟩ (m_X0_wrongBy l D g ad cI G r 300 700 hI (by omega) (by omega) (by omega)) (cwV 3 hts (gV q_107 q_108 q_109 q_8 q_106) rfl rfl rfl (by decide +kernel) ⟨Nat.le_trans (m := 2) (Nat.le_of_ble_eq_true rfl) (Nat.le_trans (Nat.le_of_ble_eq_true rfl) hRf), Nat.le_trans (m := 48) (Nat.le_of_ble_eq_true rfl) (Nat.le_trans (Nat.le_of_ble_eq_true rfl) hRl)⟩) hN hK hP hD rfl rfl rfl hl.1 (Nat.le_of_ble_eq_true rfl) ⟨hRc, hRs⟩ dX0_numberOfRow_146) hD hS hA rfl (fun H locs hP hD hS => ?_)
        have hf_13 := wrongByZ_bd G r 300 700 8
        refine z_as (show wrongByZ G r 300 700 8 = rowV G r w from by first | rfl | omega | (unfold rowV; omega)) ?_
        first | exact hret _ _ _ _ dX0_numberOfRow_149 hP hD hS | (exfalso; omega)
      · refine lv_tableIn (tgt := 150) (off := 137) hx hb dX0_numberOfRow_13 (by rw [iI_t (by omega)]; omega) (by rw [iI_t (by omega)]; omega) (by rw [iI_t (by omega), c_4]; rfl) (by decide) ?_
        refine lv_aload_n hx hb dX0_numberOfRow_150 rfl (lv_at hl 0 rfl) ?_
        refine va_get (D := D) (ci := 0) (v := .ref (ad 6)) (C := RX0) (T := TX0) (N := 13) hx hb hq inA0 hown hK hP 0 rfl rfl 6 (by decide) (hq _ q_18) (fun _ h9 => h9) rfl dX0_numberOfRow_151 ?_
        refine lv_iload_n hx hb dX0_numberOfRow_154 rfl (lv_at hl 1 rfl) ?_
        refine z_iald hx hb hK hP 7 0 rfl rfl (by omega) (by omega) (v := (G 6 r)) rfl dX0_numberOfRow_155 ?_
        have hv_14 := invG_6 hI r (by omega) (by omega)
        refine z_as (show (G 6 r) = rowV G r w from by first | rfl | omega | (unfold rowV; omega)) ?_
        first | exact hret _ _ _ _ dX0_numberOfRow_156 hP hD hS | (exfalso; omega)
      · refine lv_tableIn (tgt := 157) (off := 144) hx hb dX0_numberOfRow_13 (by rw [iI_t (by omega)]; omega) (by rw [iI_t (by omega)]; omega) (by rw [iI_t (by omega), c_4]; rfl) (by decide) ?_
        refine lv_aload_n hx hb dX0_numberOfRow_157 rfl (lv_at hl 0 rfl) ?_
        refine lv_iload_n hx hb dX0_numberOfRow_158 rfl (lv_at hl 1 rfl) ?_
        refine mw_full (st1 := [.int (iI (ageZ G r))]) (mr_V (As := [.int (iI r)]) (rest := []) (ci := 0) (q0 := 0) ⟨hx, hb, hml, hown, hts⟩ (m_X0_age l D g ad cI G r hI (by omega)) (cwV 1 hts (gV q_86 q_87 q_88 q_8 q_81) rfl rfl rfl (by decide +kernel) ⟨Nat.le_trans (m := 1) (Nat.le_of_ble_eq_true rfl) (Nat.le_trans (Nat.le_of_ble_eq_true rfl) hRf), Nat.le_trans (m := 21) (Nat.le_of_ble_eq_true rfl) (Nat.le_trans (Nat.le_of_ble_eq_true rfl) hRl)⟩) hN hK hP hD rfl rfl rfl hl.1 (Nat.le_of_ble_eq_true rfl) ⟨hRc, hRs⟩ dX0_numberOfRow_159) hD hS hA rfl (fun H locs hP hD hS => ?_)
        have hf_15 := age_bd hI r (by omega)
        refine z_as (show ageZ G r = rowV G r w from by first | rfl | omega | (unfold rowV; omega)) ?_
        first | exact hret _ _ _ _ dX0_numberOfRow_162 hP hD hS | (exfalso; omega)
      · refine lv_tableIn (tgt := 163) (off := 150) hx hb dX0_numberOfRow_13 (by rw [iI_t (by omega)]; omega) (by rw [iI_t (by omega)]; omega) (by rw [iI_t (by omega), c_4]; rfl) (by decide) ?_
        refine lv_aload_n hx hb dX0_numberOfRow_163 rfl (lv_at hl 0 rfl) ?_
        refine lv_iload_n hx hb dX0_numberOfRow_164 rfl (lv_at hl 1 rfl) ?_
        refine mw_full (st1 := [.int (iI (toldWordZ G r))]) (mr_V (As := [.int (iI r)]) (rest := []) (ci := 0) (q0 := 0) ⟨hx, hb, hml, hown, hts⟩ (m_X0_toldWord l D g ad cI G r hI (by omega)) (cwV 1 hts (gV q_59 q_60 q_61 q_8 q_58) rfl rfl rfl (by decide +kernel) ⟨Nat.le_trans (m := 3) (Nat.le_of_ble_eq_true rfl) (Nat.le_trans (Nat.le_of_ble_eq_true rfl) hRf), Nat.le_trans (m := 72) (Nat.le_of_ble_eq_true rfl) (Nat.le_trans (Nat.le_of_ble_eq_true rfl) hRl)⟩) hN hK hP hD rfl rfl rfl hl.1 (Nat.le_of_ble_eq_true rfl) ⟨hRc, hRs⟩ dX0_numberOfRow_165) hD hS hA rfl (fun H locs hP hD hS => ?_)
        refine z_as (show toldWordZ G r = rowV G r w from by first | rfl | omega | (unfold rowV; omega)) ?_
        first | exact hret _ _ _ _ dX0_numberOfRow_168 hP hD hS | (exfalso; omega)
      · refine lv_tableIn (tgt := 169) (off := 156) hx hb dX0_numberOfRow_13 (by rw [iI_t (by omega)]; omega) (by rw [iI_t (by omega)]; omega) (by rw [iI_t (by omega), c_4]; rfl) (by decide) ?_
        refine lv_aload_n hx hb dX0_numberOfRow_169 rfl (lv_at hl 0 rfl) ?_
        refine lv_iload_n hx hb dX0_numberOfRow_170 rfl (lv_at hl 1 rfl) ?_
        refine mw_full (st1 := [.int (iI (levelWordZ G r))]) (mr_V (As := [.int (iI r)]) (rest := []) (ci := 0) (q0 := 0) ⟨hx, hb, hml, hown, hts⟩ (m_X0_levelWord l D g ad cI G r hI (by omega)) (cwV 1 hts (gV q_118 q_119 q_120 q_8 q_111) rfl rfl rfl (by decide +kernel) ⟨Nat.le_trans (m := 1) (Nat.le_of_ble_eq_true rfl) (Nat.le_trans (Nat.le_of_ble_eq_true rfl) hRf), Nat.le_trans (m := 23) (Nat.le_of_ble_eq_true rfl) (Nat.le_trans (Nat.le_of_ble_eq_true rfl) hRl)⟩) hN hK hP hD rfl rfl rfl hl.1 (Nat.le_of_ble_eq_true rfl) ⟨hRc, hRs⟩ dX0_numberOfRow_171) hD hS hA rfl (fun H locs hP hD hS => ?_)
        refine z_as (show levelWordZ G r = rowV G r w from by first | rfl | omega | (unfold rowV; omega)) ?_
        first | exact hret _ _ _ _ dX0_numberOfRow_174 hP hD hS | (exfalso; omega)
      · refine lv_tableIn (tgt := 175) (off := 162) hx hb dX0_numberOfRow_13 (by rw [iI_t (by omega)]; omega) (by rw [iI_t (by omega)]; omega) (by rw [iI_t (by omega), c_4]; rfl) (by decide) ?_
        refine lv_aload_n hx hb dX0_numberOfRow_175 rfl (lv_at hl 0 rfl) ?_
        refine va_get (D := D) (ci := 0) (v := .ref (ad 8)) (C := RX0) (T := TX0) (N := 13) hx hb hq inA0 hown hK hP 0 rfl rfl 8 (by decide) (hq _ q_19) (fun _ h9 => h9) rfl dX0_numberOfRow_176 ?_
        refine lv_iload_n hx hb dX0_numberOfRow_179 rfl (lv_at hl 1 rfl) ?_
        refine z_iald hx hb hK hP 9 0 rfl rfl (by omega) (by omega) (v := (G 8 r)) rfl dX0_numberOfRow_180 ?_
        have hv_16 := invG_8 hI r (by omega) (by omega)
        refine z_as (show (G 8 r) = rowV G r w from by first | rfl | omega | (unfold rowV; omega)) ?_
        first | exact hret _ _ _ _ dX0_numberOfRow_181 hP hD hS | (exfalso; omega)
      · refine lv_tableIn (tgt := 182) (off := 169) hx hb dX0_numberOfRow_13 (by rw [iI_t (by omega)]; omega) (by rw [iI_t (by omega)]; omega) (by rw [iI_t (by omega), c_4]; rfl) (by decide) ?_
        refine lv_aload_n hx hb dX0_numberOfRow_182 rfl (lv_at hl 0 rfl) ?_
        refine va_get (D := D) (ci := 0) (v := .ref (ad 9)) (C := RX0) (T := TX0) (N := 13) hx hb hq inA0 hown hK hP 0 rfl rfl 9 (by decide) (hq _ q_20) (fun _ h9 => h9) rfl dX0_numberOfRow_183 ?_
        refine lv_iload_n hx hb dX0_numberOfRow_186 rfl (lv_at hl 1 rfl) ?_
        refine z_iald hx hb hK hP 10 0 rfl rfl (by omega) (by omega) (v := (G 9 r)) rfl dX0_numberOfRow_187 ?_
        have hv_17 := invG_9 hI r (by omega) (by omega)
        refine z_as (show (G 9 r) = rowV G r w from by first | rfl | omega | (unfold rowV; omega)) ?_
        first | exact hret _ _ _ _ dX0_numberOfRow_188 hP hD hS | (exfalso; omega)
  · refine z_ldc hx hb (-1000001) (by decide +kernel) hown (hq _ q_39) dX0_numberOfRow_9 ?_
    refine z_as (show (-1000001) = rowV G r w from by first | rfl | omega | (unfold rowV; omega)) ?_
    first | exact hret _ _ _ _ dX0_numberOfRow_11 hP hD hS | (exfalso; omega)
set_option maxHeartbeats 4000000 in
set_option maxRecDepth 100000 in
theorem m_X0_numberOfRow_bad (l : Launch) (D : va_G) (g : Nat) (ad : Nat → Nat) (cI : ClassId) (G : Nat → Int → Int) (r w : Int) (h1 : -2147483648 ≤ r ∧ r < 2147483648) (hb0 : r < 0 ∨ 5 < r)  : MW l D yX0_numberOfRow (wsY yX0_numberOfRow cX0_numberOfRow 3 (some .int)) { frames := 3, cells := 0, slots := 0, locals := 72 } [(cI, .int)] [.ref g, .int (iI r), .int (iI w)] (wG g ad cI G) (wG g ad cI G) (some (.int (iI (-1000001)))) := by
  refine mw_ofI (cc := cX0_numberOfRow) (maxL := 3) (by decide) rfl (Nat.le_of_ble_eq_true rfl) ?_
  intro p e s m below meth c R A Q args ls hx hb hml hown hts hRf hRl hRc hRs hN hK hP hD hS hA hret hl
  have hq : ∀ w ∈ ALL, w.before args s = true := fun w h => hts w (List.mem_cons_of_mem _ h)
  have hl : lv_has ls 3 [(0, .ref g), (1, .int (iI r)), (2, .int (iI w))] := hl
  refine lv_iload_n hx hb dX0_numberOfRow_0 rfl (lv_at hl 1 rfl) ?_
  refine z_iconst hx hb dX0_numberOfRow_1 ?_
  refine z_iconst hx hb dX0_numberOfRow_2 ?_
  refine mw_none (st1 := [.int (iI (outZ r 0 5))]) (mr_SN (As := [.int (iI r), .int (iI 0), .int (iI 5)]) (rest := []) ⟨hx, hb, hml, hown, hts⟩ (m_X2_isOutside l D r 0 5 (by omega) (by omega) (by omega)) ⟨va_cnB 3 hts (gSelf q_35) rfl rfl rfl hN.1 (hq _ q_37) (by decide +kernel) ⟨Nat.le_trans (m := 1) (Nat.le_of_ble_eq_true rfl) (Nat.le_trans (Nat.le_of_ble_eq_true rfl) hRf), Nat.le_trans (m := 22) (Nat.le_of_ble_eq_true rfl) (Nat.le_trans (Nat.le_of_ble_eq_true rfl) hRl)⟩, hq _ q_36, trivial⟩ hN (hK.sub (tys' := []) [] rfl) (va_P0 _ _ _) (va_D0 A) rfl hl.1 (Nat.le_of_ble_eq_true rfl) ⟨hRc, hRs⟩ dX0_numberOfRow_3) hP hS hA rfl (fun H locs hP hS => ?_)
  have hf_1 : outZ r 0 5 = if r < 0 ∨ 5 < r then 1 else 0 := rfl
  refine z_if_eq (tgt := 12) hx hb dX0_numberOfRow_6 (by decide) (by omega) (fun c_2 => absurd c_2 (by omega)) (fun c_2 => ?_)
  refine z_ldc hx hb (-1000001) (by decide +kernel) hown (hq _ q_39) dX0_numberOfRow_9 ?_
  refine z_as (show (-1000001) = -1000001 from by first | rfl | omega) ?_
  first | exact hret _ _ _ _ dX0_numberOfRow_11 hP hD hS | (exfalso; omega)
set_option maxHeartbeats 4000000 in
set_option maxRecDepth 100000 in
theorem m_X0_timesTold (l : Launch) (D : va_G) (g : Nat) (ad : Nat → Nat) (cI : ClassId) (G : Nat → Int → Int) (v t2 : Int) {B : Int} (hI : InvG B G) (h1 : 0 ≤ v ∧ v < 3) (h2 : 0 ≤ t2 ∧ t2 < 3)  : MW l D yX0_timesTold (wsY yX0_timesTold cX0_timesTold 3 (some .int)) { frames := 1, cells := 0, slots := 0, locals := 22 } [(cI, .int)] [.ref g, .int (iI v), .int (iI t2)] (wG g ad cI G) (wG g ad cI G) (some (.int (iI (G 10 (3 * v + t2))))) := by
  refine mw_ofI (cc := cX0_timesTold) (maxL := 3) (by decide) rfl (Nat.le_of_ble_eq_true rfl) ?_
  intro p e s m below meth c R A Q args ls hx hb hml hown hts hRf hRl hRc hRs hN hK hP hD hS hA hret hl
  have hq : ∀ w ∈ ALL, w.before args s = true := fun w h => hts w (List.mem_cons_of_mem _ h)
  have hl : lv_has ls 3 [(0, .ref g), (1, .int (iI v)), (2, .int (iI t2))] := hl
  refine lv_iload_n hx hb dX0_timesTold_0 rfl (lv_at hl 1 rfl) ?_
  refine z_iconst hx hb dX0_timesTold_1 ?_
  refine z_iconst hx hb dX0_timesTold_2 ?_
  refine mw_none (st1 := [.int (iI (outZ v 0 2))]) (mr_SN (As := [.int (iI v), .int (iI 0), .int (iI 2)]) (rest := []) ⟨hx, hb, hml, hown, hts⟩ (m_X2_isOutside l D v 0 2 (by omega) (by omega) (by omega)) ⟨va_cnB 3 hts (gSelf q_35) rfl rfl rfl hN.1 (hq _ q_37) (by decide +kernel) ⟨Nat.le_trans (m := 1) (Nat.le_of_ble_eq_true rfl) (Nat.le_trans (Nat.le_of_ble_eq_true rfl) hRf), Nat.le_trans (m := 22) (Nat.le_of_ble_eq_true rfl) (Nat.le_trans (Nat.le_of_ble_eq_true rfl) hRl)⟩, hq _ q_36, trivial⟩ hN (hK.sub (tys' := []) [] rfl) (va_P0 _ _ _) (va_D0 A) rfl hl.1 (Nat.le_of_ble_eq_true rfl) ⟨hRc, hRs⟩ dX0_timesTold_3) hP hS hA rfl (fun H locs hP hS => ?_)
  have hf_1 : outZ v 0 2 = if v < 0 ∨ 2 < v then 1 else 0 := rfl
  refine z_if_ne (tgt := 18) hx hb dX0_timesTold_6 (by decide) (by omega) (fun c_2 => ?_) (fun c_2 => ?_)
  · refine z_ldc hx hb (-1000001) (by decide +kernel) hown (hq _ q_39) dX0_timesTold_18 ?_
    refine z_as (show (-1000001) = G 10 (3 * v + t2) from by first | rfl | omega) ?_
    first | exact hret _ _ _ _ dX0_timesTold_20 hP hD hS | (exfalso; omega)
  · refine lv_iload_n hx hb dX0_timesTold_9 rfl (lv_at hl 2 rfl) ?_
    refine z_iconst hx hb dX0_timesTold_10 ?_
    refine z_iconst hx hb dX0_timesTold_11 ?_
    refine mw_none (st1 := [.int (iI (outZ t2 0 2))]) (mr_SN (As := [.int (iI t2), .int (iI 0), .int (iI 2)]) (rest := []) ⟨hx, hb, hml, hown, hts⟩ (m_X2_isOutside l D t2 0 2 (by omega) (by omega) (by omega)) ⟨va_cnB 3 hts (gSelf q_35) rfl rfl rfl hN.1 (hq _ q_37) (by decide +kernel) ⟨Nat.le_trans (m := 1) (Nat.le_of_ble_eq_true rfl) (Nat.le_trans (Nat.le_of_ble_eq_true rfl) hRf), Nat.le_trans (m := 22) (Nat.le_of_ble_eq_true rfl) (Nat.le_trans (Nat.le_of_ble_eq_true rfl) hRl)⟩, hq _ q_36, trivial⟩ hN (hK.sub (tys' := []) [] rfl) (va_P0 _ _ _) (va_D0 A) rfl hl.1 (Nat.le_of_ble_eq_true rfl) ⟨hRc, hRs⟩ dX0_timesTold_12) hP hS hA rfl (fun H locs hP hS => ?_)
    have hf_3 : outZ t2 0 2 = if t2 < 0 ∨ 2 < t2 then 1 else 0 := rfl
    refine z_if_eq (tgt := 21) hx hb dX0_timesTold_15 (by decide) (by omega) (fun c_4 => ?_) (fun c_4 => ?_)
    · refine lv_aload_n hx hb dX0_timesTold_21 rfl (lv_at hl 0 rfl) ?_
      refine va_get (D := D) (ci := 0) (v := .ref (ad 10)) (C := RX0) (T := TX0) (N := 13) hx hb hq inA0 hown hK hP 0 rfl rfl 10 (by decide) (hq _ q_21) (fun _ h9 => h9) rfl dX0_timesTold_22 ?_
      refine z_iconst hx hb dX0_timesTold_25 ?_
      refine lv_iload_n hx hb dX0_timesTold_26 rfl (lv_at hl 1 rfl) ?_
      refine z_imul hx hb dX0_timesTold_27 ?_
      refine lv_iload_n hx hb dX0_timesTold_28 rfl (lv_at hl 2 rfl) ?_
      refine z_iadd hx hb dX0_timesTold_29 ?_
      refine z_iald hx hb hK hP 11 0 rfl rfl (by omega) (by omega) (v := (G 10 ((3 * v) + t2))) rfl dX0_timesTold_30 ?_
      have hv_5 := invG_10 hI ((3 * v) + t2) (by omega) (by omega)
      refine z_as (show (G 10 ((3 * v) + t2)) = G 10 (3 * v + t2) from by first | rfl | omega) ?_
      first | exact hret _ _ _ _ dX0_timesTold_31 hP hD hS | (exfalso; omega)
    · refine z_ldc hx hb (-1000001) (by decide +kernel) hown (hq _ q_39) dX0_timesTold_18 ?_
      refine z_as (show (-1000001) = G 10 (3 * v + t2) from by first | rfl | omega) ?_
      first | exact hret _ _ _ _ dX0_timesTold_20 hP hD hS | (exfalso; omega)
set_option maxHeartbeats 4000000 in
set_option maxRecDepth 100000 in
theorem m_X0_timesTold_bad (l : Launch) (D : va_G) (g : Nat) (ad : Nat → Nat) (cI : ClassId) (G : Nat → Int → Int) (v t2 : Int) (h1 : -2147483648 ≤ v ∧ v < 2147483648) (h2 : -2147483648 ≤ t2 ∧ t2 < 2147483648) (hb0 : v < 0 ∨ 2 < v ∨ t2 < 0 ∨ 2 < t2)  : MW l D yX0_timesTold (wsY yX0_timesTold cX0_timesTold 3 (some .int)) { frames := 1, cells := 0, slots := 0, locals := 22 } [(cI, .int)] [.ref g, .int (iI v), .int (iI t2)] (wG g ad cI G) (wG g ad cI G) (some (.int (iI (-1000001)))) := by
  refine mw_ofI (cc := cX0_timesTold) (maxL := 3) (by decide) rfl (Nat.le_of_ble_eq_true rfl) ?_
  intro p e s m below meth c R A Q args ls hx hb hml hown hts hRf hRl hRc hRs hN hK hP hD hS hA hret hl
  have hq : ∀ w ∈ ALL, w.before args s = true := fun w h => hts w (List.mem_cons_of_mem _ h)
  have hl : lv_has ls 3 [(0, .ref g), (1, .int (iI v)), (2, .int (iI t2))] := hl
  refine lv_iload_n hx hb dX0_timesTold_0 rfl (lv_at hl 1 rfl) ?_
  refine z_iconst hx hb dX0_timesTold_1 ?_
  refine z_iconst hx hb dX0_timesTold_2 ?_
  refine mw_none (st1 := [.int (iI (outZ v 0 2))]) (mr_SN (As := [.int (iI v), .int (iI 0), .int (iI 2)]) (rest := []) ⟨hx, hb, hml, hown, hts⟩ (m_X2_isOutside l D v 0 2 (by omega) (by omega) (by omega)) ⟨va_cnB 3 hts (gSelf q_35) rfl rfl rfl hN.1 (hq _ q_37) (by decide +kernel) ⟨Nat.le_trans (m := 1) (Nat.le_of_ble_eq_true rfl) (Nat.le_trans (Nat.le_of_ble_eq_true rfl) hRf), Nat.le_trans (m := 22) (Nat.le_of_ble_eq_true rfl) (Nat.le_trans (Nat.le_of_ble_eq_true rfl) hRl)⟩, hq _ q_36, trivial⟩ hN (hK.sub (tys' := []) [] rfl) (va_P0 _ _ _) (va_D0 A) rfl hl.1 (Nat.le_of_ble_eq_true rfl) ⟨hRc, hRs⟩ dX0_timesTold_3) hP hS hA rfl (fun H locs hP hS => ?_)
  have hf_1 : outZ v 0 2 = if v < 0 ∨ 2 < v then 1 else 0 := rfl
  refine z_if_ne (tgt := 18) hx hb dX0_timesTold_6 (by decide) (by omega) (fun c_2 => ?_) (fun c_2 => ?_)
  · refine z_ldc hx hb (-1000001) (by decide +kernel) hown (hq _ q_39) dX0_timesTold_18 ?_
    refine z_as (show (-1000001) = -1000001 from by first | rfl | omega) ?_
    first | exact hret _ _ _ _ dX0_timesTold_20 hP hD hS | (exfalso; omega)
  · refine lv_iload_n hx hb dX0_timesTold_9 rfl (lv_at hl 2 rfl) ?_
    refine z_iconst hx hb dX0_timesTold_10 ?_
    refine z_iconst hx hb dX0_timesTold_11 ?_
    refine mw_none (st1 := [.int (iI (outZ t2 0 2))]) (mr_SN (As := [.int (iI t2), .int (iI 0), .int (iI 2)]) (rest := []) ⟨hx, hb, hml, hown, hts⟩ (m_X2_isOutside l D t2 0 2 (by omega) (by omega) (by omega)) ⟨va_cnB 3 hts (gSelf q_35) rfl rfl rfl hN.1 (hq _ q_37) (by decide +kernel) ⟨Nat.le_trans (m := 1) (Nat.le_of_ble_eq_true rfl) (Nat.le_trans (Nat.le_of_ble_eq_true rfl) hRf), Nat.le_trans (m := 22) (Nat.le_of_ble_eq_true rfl) (Nat.le_trans (Nat.le_of_ble_eq_true rfl) hRl)⟩, hq _ q_36, trivial⟩ hN (hK.sub (tys' := []) [] rfl) (va_P0 _ _ _) (va_D0 A) rfl hl.1 (Nat.le_of_ble_eq_true rfl) ⟨hRc, hRs⟩ dX0_timesTold_12) hP hS hA rfl (fun H locs hP hS => ?_)
    have hf_3 : outZ t2 0 2 = if t2 < 0 ∨ 2 < t2 then 1 else 0 := rfl
    refine z_if_eq (tgt := 21) hx hb dX0_timesTold_15 (by decide) (by omega) (fun c_4 => ?_) (fun c_4 => ?_)
    · refine lv_aload_n hx hb dX0_timesTold_21 rfl (lv_at hl 0 rfl) ?_
      refine va_get (D := D) (ci := 0) (v := .ref (ad 10)) (C := RX0) (T := TX0) (N := 13) hx hb hq inA0 hown hK hP 0 rfl rfl 10 (by decide) (hq _ q_21) (fun _ h9 => h9) rfl dX0_timesTold_22 ?_
      refine z_iconst hx hb dX0_timesTold_25 ?_
      refine lv_iload_n hx hb dX0_timesTold_26 rfl (lv_at hl 1 rfl) ?_
      refine z_imul hx hb dX0_timesTold_27 ?_
      refine lv_iload_n hx hb dX0_timesTold_28 rfl (lv_at hl 2 rfl) ?_
      refine z_iadd hx hb dX0_timesTold_29 ?_
      refine z_iald hx hb hK hP 11 0 rfl rfl (by omega) (by omega) (v := (G 10 ((3 * v) + t2))) rfl dX0_timesTold_30 ?_
      refine z_as (show (G 10 ((3 * v) + t2)) = -1000001 from by first | rfl | omega) ?_
      first | exact hret _ _ _ _ dX0_timesTold_31 hP hD hS | (exfalso; omega)
    · refine z_ldc hx hb (-1000001) (by decide +kernel) hown (hq _ q_39) dX0_timesTold_18 ?_
      refine z_as (show (-1000001) = -1000001 from by first | rfl | omega) ?_
      first | exact hret _ _ _ _ dX0_timesTold_20 hP hD hS | (exfalso; omega)
