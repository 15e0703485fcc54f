set_option maxHeartbeats 4000000 in
set_option maxRecDepth 100000 in
theorem m_X3_takesOrder (l : Launch) (D : va_G) (mo : Nat) (am : Nat → Nat) (cI : ClassId) (S : Nat → Int → Int) (hT : InvS S) (h2 : 0 ≤ S 7 0 ∧ S 7 0 ≤ 60)  : MW l D yX3_takesOrder (wsY yX3_takesOrder cX3_takesOrder 3 none) { frames := 2, cells := 0, slots := 0, locals := 45 } [(cI, .int)] [.ref mo] (wM mo am cI S) (wM mo am cI (toS S)) none := by
  refine mw_ofV (cc := cX3_takesOrder) (maxL := 3) (by decide) rfl (Nat.le_of_ble_eq_true rfl) ?_
  intro p e s m below meth c R A Q args ls hx hb hml hown hts hRf hRl hRc hRs hN hK hP hD hS hA hret hl
  have hq : ∀ w ∈ ALL, w.before args s = true := fun w h => hts w (List.mem_cons_of_mem _ h)
  have hl : lv_has ls 3 [(0, .ref mo)] := hl
  have hT1 := hT.1
  refine lv_aload_n hx hb dX3_takesOrder_0 rfl (lv_at hl 0 rfl) ?_
  refine lv_aload_n hx hb dX3_takesOrder_1 rfl (lv_at hl 0 rfl) ?_
  refine va_get (D := D) (ci := 3) (v := .int (iI (S 7 0))) (C := RX3) (T := TX3) (N := 14) hx hb hq inA3 hown hK hP 0 rfl rfl 7 (by decide) (hq _ q_563) (fun _ h9 => h9) rfl dX3_takesOrder_2 ?_
  refine va_put (D := D) (ci := 3) (v := .int (iI (S 7 0))) (ty := .int) (C := RX3) (T := TX3) (N := 14) hx hb hq inA3 tyX3 tyX3_ok nmX3 hown hK hP hD hS 0 rfl rfl 8 (by decide) (hq _ q_571) (fun _ h9 => h9) rfl (by decide +kernel) rfl rfl (Nat.le_of_ble_eq_true rfl) dX3_takesOrder_5 (fun H locs hP hD hS => ?_)
  have hP : va_P D vwCl (wM mo am cI (upG S 8 0 (S 7 0))) H := hP
  have hD : va_D A (wM mo am cI (upG S 8 0 (S 7 0))) := hD
  refine lv_aload_n hx hb dX3_takesOrder_8 rfl (lv_at hl 0 rfl) ?_
  refine z_iconst hx hb dX3_takesOrder_9 ?_
  refine va_put (D := D) (ci := 3) (v := .int (iI 1)) (ty := .boolean) (C := RX3) (T := TX3) (N := 14) hx hb hq inA3 tyX3 tyX3_ok nmX3 hown hK hP hD hS 0 rfl rfl 9 (by decide) (hq _ q_565) (fun _ h9 => h9) rfl (by decide +kernel) (narrow_z01 (by omega)) (fits_z01 (by omega)) (Nat.le_of_ble_eq_true rfl) dX3_takesOrder_10 (fun H locs hP hD hS => ?_)
  have hP : va_P D vwCl (wM mo am cI (upG (upG S 8 0 (S 7 0)) 9 0 1)) H := hP
  have hD : va_D A (wM mo am cI (upG (upG S 8 0 (S 7 0)) 9 0 1)) := hD
  refine lv_aload_n hx hb dX3_takesOrder_13 rfl (lv_at hl 0 rfl) ?_
  refine lv_aload_n hx hb dX3_takesOrder_14 rfl (lv_at hl 0 rfl) ?_
  refine mw_full (st1 := [.int (iI (chrZ (S 5) (S 6 0) (S 7 0))), .ref mo]) (mr_V (As := []) (rest := [.ref mo]) (ci := 3) (q0 := 0) ⟨hx, hb, hml, hown, hts⟩ (m_X3_here l D mo am cI (upG (upG S 8 0 (S 7 0)) 9 0 1)  hT (show 0 ≤ (S 7 0) ∧ (S 7 0) ≤ 1000 by omega)) (cwV 0 hts (gV q_567 q_568 q_569 q_345 q_564) rfl rfl rfl (by decide +kernel) ⟨Nat.le_trans (m := 1) (Nat.le_of_ble_eq_true rfl) (Nat.le_trans (Nat.le_of_ble_eq_true rfl) hRf), Nat.le_trans (m := 20) (Nat.le_of_ble_eq_true rfl) (Nat.le_trans (Nat.le_of_ble_eq_true rfl) hRl)⟩) hN hK hP hD rfl rfl rfl hl.1 (Nat.le_of_ble_eq_true rfl) ⟨hRc, hRs⟩ dX3_takesOrder_15) hD hS hA rfl (fun H locs hP hD hS => ?_)
  have hf_1 := chrS_bd hT (S 7 0)
  refine va_put (D := D) (ci := 3) (v := .int (iI (chrZ (S 5) (S 6 0) (S 7 0)))) (ty := .int) (C := RX3) (T := TX3) (N := 14) hx hb hq inA3 tyX3 tyX3_ok nmX3 hown hK hP hD hS 0 rfl rfl 10 (by decide) (hq _ q_572) (fun _ h9 => h9) rfl (by decide +kernel) rfl rfl (Nat.le_of_ble_eq_true rfl) dX3_takesOrder_18 (fun H locs hP hD hS => ?_)
  have hP : va_P D vwCl (wM mo am cI (upG (upG (upG S 8 0 (S 7 0)) 9 0 1) 10 0 (chrZ (S 5) (S 6 0) (S 7 0)))) H := hP
  have hD : va_D A (wM mo am cI (upG (upG (upG S 8 0 (S 7 0)) 9 0 1) 10 0 (chrZ (S 5) (S 6 0) (S 7 0)))) := hD
  refine lv_aload_n hx hb dX3_takesOrder_21 rfl (lv_at hl 0 rfl) ?_
  have J_2 : ∀ bz : Int, bz = okZ (chrZ (S 5) (S 6 0) (S 7 0)) → W p l e R s m args below meth c H locs 0 0 Q (F0 m 81 ls [.int (iI bz), .ref mo]) := by
    intro bz_3 hbz_3
    have hkb := ok_b (chrZ (S 5) (S 6 0) (S 7 0))
    refine mw_full (st1 := []) (mr_V (As := [.int (iI bz_3)]) (rest := []) (ci := 3) (q0 := 0) ⟨hx, hb, hml, hown, hts⟩ (m_X3_takes l D mo am cI (upG (upG (upG S 8 0 (S 7 0)) 9 0 1) 10 0 (chrZ (S 5) (S 6 0) (S 7 0))) bz_3 (show 1 = 0 ∨ 1 = 1 by omega) (by omega)) (cwV 1 hts (gV q_573 q_574 q_575 q_345 q_566) rfl rfl rfl (by decide +kernel) ⟨Nat.le_trans (m := 1) (Nat.le_of_ble_eq_true rfl) (Nat.le_trans (Nat.le_of_ble_eq_true rfl) hRf), Nat.le_trans (m := 21) (Nat.le_of_ble_eq_true rfl) (Nat.le_trans (Nat.le_of_ble_eq_true rfl) hRl)⟩) hN hK hP hD rfl rfl rfl hl.1 (Nat.le_of_ble_eq_true rfl) ⟨hRc, hRs⟩ dX3_takesOrder_81) hD hS hA rfl (fun H locs hP hD hS => ?_)
    obtain ⟨Z_4, hZ_4⟩ : ∃ X : Nat → Int → Int, X = (tkS (upG (upG (upG S 8 0 (S 7 0)) 9 0 1) 10 0 (chrZ (S 5) (S 6 0) (S 7 0))) bz_3) := ⟨_, rfl⟩
    rw [← hZ_4] at hP hD
    have hIZ_4 := (tk_inv (S := (upG (upG (upG S 8 0 (S 7 0)) 9 0 1) 10 0 (chrZ (S 5) (S 6 0) (S 7 0)))) hT bz_3)
    rw [← hZ_4] at hIZ_4
    have hf_5a : Z_4 9 0 = 0 ∨ Z_4 9 0 = 1 := by rw [hZ_4]; exact tk_b9 _ _
    have hf_6b : (S 7 0) ≤ Z_4 7 0 ∧ Z_4 7 0 ≤ (S 7 0) + 1 := by rw [hZ_4]; exact tk_b7 _ _
    have hf_7c : Z_4 10 0 = chrZ (S 5) (S 6 0) (S 7 0) := by rw [hZ_4]; exact congrFun (tk_k (upG (upG (upG S 8 0 (S 7 0)) 9 0 1) 10 0 (chrZ (S 5) (S 6 0) (S 7 0))) bz_3 10 (by decide) (by decide)) 0
    have J_8 : ∀ bz : Int, bz = nmZ (chrZ (S 5) (S 6 0) (S 7 0)) → W p l e R s m args below meth c H locs 0 0 Q (F0 m 129 ls [.int (iI bz)]) := by
      intro bz_9 hbz_9
      rcases (show bz_9 = 1 ∨ bz_9 = 2 ∨ bz_9 = 3 from by (subst_vars; unfold nmZ; omega)) with hcs_10 | hcs_10 | hcs_10
      · refine z_as hcs_10 ?_
        refine lv_istore_n (lv' := [(1, .int (iI 1)), (0, .ref mo)]) hx hb dX3_takesOrder_129 rfl hl (by decide) rfl (fun ls hl => ?_)
        refine z_iconst hx hb dX3_takesOrder_130 ?_
        refine lv_istore_n (lv' := [(2, .int (iI 0)), (1, .int (iI 1)), (0, .ref mo)]) hx hb dX3_takesOrder_131 rfl hl (by decide) rfl (fun ls hl => ?_)
        refine lv_iload_n hx hb dX3_takesOrder_132 rfl (lv_at hl 0 rfl) ?_
        refine lv_iload_n hx hb dX3_takesOrder_133 rfl (lv_at hl 1 rfl) ?_
        refine z_icmp_ge (tgt := 170) hx hb dX3_takesOrder_134 (by decide) (by omega) (by omega) (fun c_11 => absurd c_11 (by omega)) (fun c_11 => ?_)
        refine lv_iload_n hx hb dX3_takesOrder_137 rfl (lv_at hl 0 rfl) ?_
        refine z_if_le (tgt := 159) hx hb dX3_takesOrder_138 (by decide) (by omega) (fun c_12 => ?_) (fun c_12 => absurd c_12 (by omega))
        refine lv_aload_n hx hb dX3_takesOrder_159 rfl (lv_at hl 2 rfl) ?_
        refine lv_iload_n hx hb dX3_takesOrder_160 rfl (lv_at hl 0 rfl) ?_
        refine mw_full (st1 := []) (mr_V (As := [.int (iI 0)]) (rest := []) (ci := 3) (q0 := 0) ⟨hx, hb, hml, hown, hts⟩ (m_X3_takesNumber l D mo am cI Z_4 0 hIZ_4 (show (Z_4 9 0) = 0 ∨ (Z_4 9 0) = 1 by omega) (show 0 ≤ (Z_4 7 0) ∧ (Z_4 7 0) ≤ 900 by omega) (by omega)) (cwV 1 hts (gV q_576 q_577 q_578 q_345 q_570) rfl rfl rfl (by decide +kernel) ⟨Nat.le_trans (m := 2) (Nat.le_of_ble_eq_true rfl) (Nat.le_trans (Nat.le_of_ble_eq_true rfl) hRf), Nat.le_trans (m := 45) (Nat.le_of_ble_eq_true rfl) (Nat.le_trans (Nat.le_of_ble_eq_true rfl) hRl)⟩) hN hK hP hD rfl rfl rfl hl.1 (Nat.le_of_ble_eq_true rfl) ⟨hRc, hRs⟩ dX3_takesOrder_161) hD hS hA rfl (fun H locs hP hD hS => ?_)
        obtain ⟨Z_13, hZ_13⟩ : ∃ X : Nat → Int → Int, X = (tnS Z_4 0) := ⟨_, rfl⟩
        rw [← hZ_13] at hP hD
        have hIZ_13 := (tn_inv (S := Z_4) hIZ_4 0)
        rw [← hZ_13] at hIZ_13
        have hf_14a : Z_13 9 0 = 0 ∨ Z_13 9 0 = 1 := by rw [hZ_13]; exact tn_b9 _ _
        have hf_15b : (Z_4 7 0) ≤ Z_13 7 0 ∧ Z_13 7 0 ≤ (Z_4 7 0) + 3 := by rw [hZ_13]; exact tn_7 _ _
        refine lv_iinc (v := iI 1) (lv' := [(2, .int (iI 1)), (1, .int (iI 1)), (0, .ref mo)]) hx hb dX3_takesOrder_164 hl (k := 0) rfl (by decide +kernel) (by decide) rfl (fun ls hl => ?_)
        refine lv_goto (tgt := 132) hx hb dX3_takesOrder_167 (by decide) ?_
        refine lv_iload_n hx hb dX3_takesOrder_132 rfl (lv_at hl 0 rfl) ?_
        refine lv_iload_n hx hb dX3_takesOrder_133 rfl (lv_at hl 1 rfl) ?_
        refine z_icmp_ge (tgt := 170) hx hb dX3_takesOrder_134 (by decide) (by omega) (by omega) (fun c_16 => ?_) (fun c_16 => absurd c_16 (by omega))
        refine lv_aload_n hx hb dX3_takesOrder_170 rfl (lv_at hl 2 rfl) ?_
        refine lv_aload_n hx hb dX3_takesOrder_171 rfl (lv_at hl 2 rfl) ?_
        refine mw_full (st1 := [.int (iI (chrZ (Z_13 5) (Z_13 6 0) (Z_13 7 0))), .ref mo]) (mr_V (As := []) (rest := [.ref mo]) (ci := 3) (q0 := 0) ⟨hx, hb, hml, hown, hts⟩ (m_X3_here l D mo am cI Z_13  hIZ_13 (show 0 ≤ (Z_13 7 0) ∧ (Z_13 7 0) ≤ 1000 by omega)) (cwV 0 hts (gV q_567 q_568 q_569 q_345 q_564) rfl rfl rfl (by decide +kernel) ⟨Nat.le_trans (m := 1) (Nat.le_of_ble_eq_true rfl) (Nat.le_trans (Nat.le_of_ble_eq_true rfl) hRf), Nat.le_trans (m := 20) (Nat.le_of_ble_eq_true rfl) (Nat.le_trans (Nat.le_of_ble_eq_true rfl) hRl)⟩) hN hK hP hD rfl rfl rfl hl.1 (Nat.le_of_ble_eq_true rfl) ⟨hRc, hRs⟩ dX3_takesOrder_172) hD hS hA rfl (fun H locs hP hD hS => ?_)
        have hf_17 := chrS_bd hIZ_13 (Z_13 7 0)
        have J_18 : ∀ bz : Int, bz = (if chrZ (Z_13 5) (Z_13 6 0) (Z_13 7 0) = 59 then 1 else 0 : Int) → W p l e R s m args below meth c H locs 0 0 Q (F0 m 185 ls [.int (iI bz), .ref mo]) := by
          intro bz_19 hbz_19
          refine mw_full (st1 := []) (mr_V (As := [.int (iI bz_19)]) (rest := []) (ci := 3) (q0 := 0) ⟨hx, hb, hml, hown, hts⟩ (m_X3_takes l D mo am cI Z_13 bz_19 (show (Z_13 9 0) = 0 ∨ (Z_13 9 0) = 1 by omega) (by omega)) (cwV 1 hts (gV q_573 q_574 q_575 q_345 q_566) rfl rfl rfl (by decide +kernel) ⟨Nat.le_trans (m := 1) (Nat.le_of_ble_eq_true rfl) (Nat.le_trans (Nat.le_of_ble_eq_true rfl) hRf), Nat.le_trans (m := 21) (Nat.le_of_ble_eq_true rfl) (Nat.le_trans (Nat.le_of_ble_eq_true rfl) hRl)⟩) hN hK hP hD rfl rfl rfl hl.1 (Nat.le_of_ble_eq_true rfl) ⟨hRc, hRs⟩ dX3_takesOrder_185) hD hS hA rfl (fun H locs hP hD hS => ?_)
          obtain ⟨Z_20, hZ_20⟩ : ∃ X : Nat → Int → Int, X = (tkS Z_13 bz_19) := ⟨_, rfl⟩
          rw [← hZ_20] at hP hD
          have hIZ_20 := (tk_inv (S := Z_13) hIZ_13 bz_19)
          rw [← hZ_20] at hIZ_20
          have hf_21a : Z_20 9 0 = 0 ∨ Z_20 9 0 = 1 := by rw [hZ_20]; exact tk_b9 _ _
          have hf_22b : (Z_13 7 0) ≤ Z_20 7 0 ∧ Z_20 7 0 ≤ (Z_13 7 0) + 1 := by rw [hZ_20]; exact tk_b7 _ _
          have hf_23c : Z_20 10 0 = (Z_13 10 0) := by rw [hZ_20]; exact congrFun (tk_k Z_13 bz_19 10 (by decide) (by decide)) 0
          have eW0 : toS S = Z_20 := by (first | (have hn : nmZ (chrZ (S 5) (S 6 0) (S 7 0)) = 1 := (by omega); subst_vars; unfold toS toC toN toA; rw [if_pos hn]) | (have hn : nmZ (chrZ (S 5) (S 6 0) (S 7 0)) = 2 := (by omega); subst_vars; unfold toS toC toN toA; rw [if_neg (by omega), if_pos hn]) | (have hn : nmZ (chrZ (S 5) (S 6 0) (S 7 0)) = 3 := (by omega); subst_vars; unfold toS toC toN toA; rw [if_neg (by omega), if_neg (by omega)]))
          rw [← eW0] at hP hD
          first | exact hret _ _ _ _ dX3_takesOrder_188 hP hD hS | (exfalso; omega)
        refine z_bipush hx hb dX3_takesOrder_175 (by decide +kernel) ?_
        refine z_icmp_ne (tgt := 184) hx hb dX3_takesOrder_177 (by decide) (by omega) (by omega) (fun c_24 => ?_) (fun c_24 => ?_)
        · refine z_iconst hx hb dX3_takesOrder_184 ?_
          exact J_18 0 (by omega)
        · refine z_iconst hx hb dX3_takesOrder_180 ?_
          refine lv_goto (tgt := 185) hx hb dX3_takesOrder_181 (by decide) ?_
          exact J_18 1 (by omega)
      · refine z_as hcs_10 ?_
        refine lv_istore_n (lv' := [(1, .int (iI 2)), (0, .ref mo)]) hx hb dX3_takesOrder_129 rfl hl (by decide) rfl (fun ls hl => ?_)
        refine z_iconst hx hb dX3_takesOrder_130 ?_
        refine lv_istore_n (lv' := [(2, .int (iI 0)), (1, .int (iI 2)), (0, .ref mo)]) hx hb dX3_takesOrder_131 rfl hl (by decide) rfl (fun ls hl => ?_)
        refine lv_iload_n hx hb dX3_takesOrder_132 rfl (lv_at hl 0 rfl) ?_
        refine lv_iload_n hx hb dX3_takesOrder_133 rfl (lv_at hl 1 rfl) ?_
        refine z_icmp_ge (tgt := 170) hx hb dX3_takesOrder_134 (by decide) (by omega) (by omega) (fun c_25 => absurd c_25 (by omega)) (fun c_25 => ?_)
        refine lv_iload_n hx hb dX3_takesOrder_137 rfl (lv_at hl 0 rfl) ?_
        refine z_if_le (tgt := 159) hx hb dX3_takesOrder_138 (by decide) (by omega) (fun c_26 => ?_) (fun c_26 => absurd c_26 (by omega))
        refine lv_aload_n hx hb dX3_takesOrder_159 rfl (lv_at hl 2 rfl) ?_
        refine lv_iload_n hx hb dX3_takesOrder_160 rfl (lv_at hl 0 rfl) ?_
        refine mw_full (st1 := []) (mr_V (As := [.int (iI 0)]) (rest := []) (ci := 3) (q0 := 0) ⟨hx, hb, hml, hown, hts⟩ (m_X3_takesNumber l D mo am cI Z_4 0 hIZ_4 (show (Z_4 9 0) = 0 ∨ (Z_4 9 0) = 1 by omega) (show 0 ≤ (Z_4 7 0) ∧ (Z_4 7 0) ≤ 900 by omega) (by omega)) (cwV 1 hts (gV q_576 q_577 q_578 q_345 q_570) rfl rfl rfl (by decide +kernel) ⟨Nat.le_trans (m := 2) (Nat.le_of_ble_eq_true rfl) (Nat.le_trans (Nat.le_of_ble_eq_true rfl) hRf), Nat.le_trans (m := 45) (Nat.le_of_ble_eq_true rfl) (Nat.le_trans (Nat.le_of_ble_eq_true rfl) hRl)⟩) hN hK hP hD rfl rfl rfl hl.1 (Nat.le_of_ble_eq_true rfl) ⟨hRc, hRs⟩ dX3_takesOrder_161) hD hS hA rfl (fun H locs hP hD hS => ?_)
        obtain ⟨Z_27, hZ_27⟩ : ∃ X : Nat → Int → Int, X = (tnS Z_4 0) := ⟨_, rfl⟩
        rw [← hZ_27] at hP hD
        have hIZ_27 := (tn_inv (S := Z_4) hIZ_4 0)
        rw [← hZ_27] at hIZ_27
        have hf_28a : Z_27 9 0 = 0 ∨ Z_27 9 0 = 1 := by rw [hZ_27]; exact tn_b9 _ _
        have hf_29b : (Z_4 7 0) ≤ Z_27 7 0 ∧ Z_27 7 0 ≤ (Z_4 7 0) + 3 := by rw [hZ_27]; exact tn_7 _ _
        refine lv_iinc (v := iI 1) (lv' := [(2, .int (iI 1)), (1, .int (iI 2)), (0, .ref mo)]) hx hb dX3_takesOrder_164 hl (k := 0) rfl (by decide +kernel) (by decide) rfl (fun ls hl => ?_)
        refine lv_goto (tgt := 132) hx hb dX3_takesOrder_167 (by decide) ?_
        refine lv_iload_n hx hb dX3_takesOrder_132 rfl (lv_at hl 0 rfl) ?_
        refine lv_iload_n hx hb dX3_takesOrder_133 rfl (lv_at hl 1 rfl) ?_
        refine z_icmp_ge (tgt := 170) hx hb dX3_takesOrder_134 (by decide) (by omega) (by omega) (fun c_30 => absurd c_30 (by omega)) (fun c_30 => ?_)
        refine lv_iload_n hx hb dX3_takesOrder_137 rfl (lv_at hl 0 rfl) ?_
        refine z_if_le (tgt := 159) hx hb dX3_takesOrder_138 (by decide) (by omega) (fun c_31 => absurd c_31 (by omega)) (fun c_31 => ?_)
        refine lv_aload_n hx hb dX3_takesOrder_141 rfl (lv_at hl 2 rfl) ?_
        refine lv_aload_n hx hb dX3_takesOrder_142 rfl (lv_at hl 2 rfl) ?_
        refine mw_full (st1 := [.int (iI (chrZ (Z_27 5) (Z_27 6 0) (Z_27 7 0))), .ref mo]) (mr_V (As := []) (rest := [.ref mo]) (ci := 3) (q0 := 0) ⟨hx, hb, hml, hown, hts⟩ (m_X3_here l D mo am cI Z_27  hIZ_27 (show 0 ≤ (Z_27 7 0) ∧ (Z_27 7 0) ≤ 1000 by omega)) (cwV 0 hts (gV q_567 q_568 q_569 q_345 q_564) rfl rfl rfl (by decide +kernel) ⟨Nat.le_trans (m := 1) (Nat.le_of_ble_eq_true rfl) (Nat.le_trans (Nat.le_of_ble_eq_true rfl) hRf), Nat.le_trans (m := 20) (Nat.le_of_ble_eq_true rfl) (Nat.le_trans (Nat.le_of_ble_eq_true rfl) hRl)⟩) hN hK hP hD rfl rfl rfl hl.1 (Nat.le_of_ble_eq_true rfl) ⟨hRc, hRs⟩ dX3_takesOrder_143) hD hS hA rfl (fun H locs hP hD hS => ?_)
        have hf_32 := chrS_bd hIZ_27 (Z_27 7 0)
        have J_33 : ∀ bz : Int, bz = (if chrZ (Z_27 5) (Z_27 6 0) (Z_27 7 0) = 44 then 1 else 0 : Int) → W p l e R s m args below meth c H locs 0 0 Q (F0 m 156 ls [.int (iI bz), .ref mo]) := by
          intro bz_34 hbz_34
          refine mw_full (st1 := []) (mr_V (As := [.int (iI bz_34)]) (rest := []) (ci := 3) (q0 := 0) ⟨hx, hb, hml, hown, hts⟩ (m_X3_takes l D mo am cI Z_27 bz_34 (show (Z_27 9 0) = 0 ∨ (Z_27 9 0) = 1 by omega) (by omega)) (cwV 1 hts (gV q_573 q_574 q_575 q_345 q_566) rfl rfl rfl (by decide +kernel) ⟨Nat.le_trans (m := 1) (Nat.le_of_ble_eq_true rfl) (Nat.le_trans (Nat.le_of_ble_eq_true rfl) hRf), Nat.le_trans (m := 21) (Nat.le_of_ble_eq_true rfl) (Nat.le_trans (Nat.le_of_ble_eq_true rfl) hRl)⟩) hN hK hP hD rfl rfl rfl hl.1 (Nat.le_of_ble_eq_true rfl) ⟨hRc, hRs⟩ dX3_takesOrder_156) hD hS hA rfl (fun H locs hP hD hS => ?_)
          obtain ⟨Z_35, hZ_35⟩ : ∃ X : Nat → Int → Int, X = (tkS Z_27 bz_34) := ⟨_, rfl⟩
          rw [← hZ_35] at hP hD
          have hIZ_35 := (tk_inv (S := Z_27) hIZ_27 bz_34)
          rw [← hZ_35] at hIZ_35
          have hf_36a : Z_35 9 0 = 0 ∨ Z_35 9 0 = 1 := by rw [hZ_35]; exact tk_b9 _ _
          have hf_37b : (Z_27 7 0) ≤ Z_35 7 0 ∧ Z_35 7 0 ≤ (Z_27 7 0) + 1 := by rw [hZ_35]; exact tk_b7 _ _
          have hf_38c : Z_35 10 0 = (Z_27 10 0) := by rw [hZ_35]; exact congrFun (tk_k Z_27 bz_34 10 (by decide) (by decide)) 0
          refine lv_aload_n hx hb dX3_takesOrder_159 rfl (lv_at hl 2 rfl) ?_
          refine lv_iload_n hx hb dX3_takesOrder_160 rfl (lv_at hl 0 rfl) ?_
          refine mw_full (st1 := []) (mr_V (As := [.int (iI 1)]) (rest := []) (ci := 3) (q0 := 0) ⟨hx, hb, hml, hown, hts⟩ (m_X3_takesNumber l D mo am cI Z_35 1 hIZ_35 (show (Z_35 9 0) = 0 ∨ (Z_35 9 0) = 1 by omega) (show 0 ≤ (Z_35 7 0) ∧ (Z_35 7 0) ≤ 900 by omega) (by omega)) (cwV 1 hts (gV q_576 q_577 q_578 q_345 q_570) rfl rfl rfl (by decide +kernel) ⟨Nat.le_trans (m := 2) (Nat.le_of_ble_eq_true rfl) (Nat.le_trans (Nat.le_of_ble_eq_true rfl) hRf), Nat.le_trans (m := 45) (Nat.le_of_ble_eq_true rfl) (Nat.le_trans (Nat.le_of_ble_eq_true rfl) hRl)⟩) hN hK hP hD rfl rfl rfl hl.1 (Nat.le_of_ble_eq_true rfl) ⟨hRc, hRs⟩ dX3_takesOrder_161) hD hS hA rfl (fun H locs hP hD hS => ?_)
          obtain ⟨Z_39, hZ_39⟩ : ∃ X : Nat → Int → Int, X = (tnS Z_35 1) := ⟨_, rfl⟩
          rw [← hZ_39] at hP hD
          have hIZ_39 := (tn_inv (S := Z_35) hIZ_35 1)
          rw [← hZ_39] at hIZ_39
          have hf_40a : Z_39 9 0 = 0 ∨ Z_39 9 0 = 1 := by rw [hZ_39]; exact tn_b9 _ _
          have hf_41b : (Z_35 7 0) ≤ Z_39 7 0 ∧ Z_39 7 0 ≤ (Z_35 7 0) + 3 := by rw [hZ_39]; exact tn_7 _ _
          refine lv_iinc (v := iI 2) (lv' := [(2, .int (iI 2)), (1, .int (iI 2)), (0, .ref mo)]) hx hb dX3_takesOrder_164 hl (k := 0) rfl (by decide +kernel) (by decide) rfl (fun ls hl => ?_)
          refine lv_goto (tgt := 132) hx hb dX3_takesOrder_167 (by decide) ?_
          refine lv_iload_n hx hb dX3_takesOrder_132 rfl (lv_at hl 0 rfl) ?_
          refine lv_iload_n hx hb dX3_takesOrder_133 rfl (lv_at hl 1 rfl) ?_
          refine z_icmp_ge (tgt := 170) hx hb dX3_takesOrder_134 (by decide) (by omega) (by omega) (fun c_42 => ?_) (fun c_42 => absurd c_42 (by omega))
          refine lv_aload_n hx hb dX3_takesOrder_170 rfl (lv_at hl 2 rfl) ?_
          refine lv_aload_n hx hb dX3_takesOrder_171 rfl (lv_at hl 2 rfl) ?_
          refine mw_full (st1 := [.int (iI (chrZ (Z_39 5) (Z_39 6 0) (Z_39 7 0))), .ref mo]) (mr_V (As := []) (rest := [.ref mo]) (ci := 3) (q0 := 0) ⟨hx, hb, hml, hown, hts⟩ (m_X3_here l D mo am cI Z_39  hIZ_39 (show 0 ≤ (Z_39 7 0) ∧ (Z_39 7 0) ≤ 1000 by omega)) (cwV 0 hts (gV q_567 q_568 q_569 q_345 q_564) rfl rfl rfl (by decide +kernel) ⟨Nat.le_trans (m := 1) (Nat.le_of_ble_eq_true rfl) (Nat.le_trans (Nat.le_of_ble_eq_true rfl) hRf), Nat.le_trans (m := 20) (Nat.le_of_ble_eq_true rfl) (Nat.le_trans (Nat.le_of_ble_eq_true rfl) hRl)⟩) hN hK hP hD rfl rfl rfl hl.1 (Nat.le_of_ble_eq_true rfl) ⟨hRc, hRs⟩ dX3_takesOrder_172) hD hS hA rfl (fun H locs hP hD hS => ?_)
          have hf_43 := chrS_bd hIZ_39 (Z_39 7 0)
          have J_44 : ∀ bz : Int, bz = (if chrZ (Z_39 5) (Z_39 6 0) (Z_39 7 0) = 59 then 1 else 0 : Int) → W p l e R s m args below meth c H locs 0 0 Q (F0 m 185 ls [.int (iI bz), .ref mo]) := by
            intro bz_45 hbz_45
            refine mw_full (st1 := []) (mr_V (As := [.int (iI bz_45)]) (rest := []) (ci := 3) (q0 := 0) ⟨hx, hb, hml, hown, hts⟩ (m_X3_takes l D mo am cI Z_39 bz_45 (show (Z_39 9 0) = 0 ∨ (Z_39 9 0) = 1 by omega) (by omega)) (cwV 1 hts (gV q_573 q_574 q_575 q_345 q_566) rfl rfl rfl (by decide +kernel) ⟨Nat.le_trans (m := 1) (Nat.le_of_ble_eq_true rfl) (Nat.le_trans (Nat.le_of_ble_eq_true rfl) hRf), Nat.le_trans (m := 21) (Nat.le_of_ble_eq_true rfl) (Nat.le_trans (Nat.le_of_ble_eq_true rfl) hRl)⟩) hN hK hP hD rfl rfl rfl hl.1 (Nat.le_of_ble_eq_true rfl) ⟨hRc, hRs⟩ dX3_takesOrder_185) hD hS hA rfl (fun H locs hP hD hS => ?_)
            obtain ⟨Z_46, hZ_46⟩ : ∃ X : Nat → Int → Int, X = (tkS Z_39 bz_45) := ⟨_, rfl⟩
            rw [← hZ_46] at hP hD
            have hIZ_46 := (tk_inv (S := Z_39) hIZ_39 bz_45)
            rw [← hZ_46] at hIZ_46
            have hf_47a : Z_46 9 0 = 0 ∨ Z_46 9 0 = 1 := by rw [hZ_46]; exact tk_b9 _ _
            have hf_48b : (Z_39 7 0) ≤ Z_46 7 0 ∧ Z_46 7 0 ≤ (Z_39 7 0) + 1 := by rw [hZ_46]; exact tk_b7 _ _
            have hf_49c : Z_46 10 0 = (Z_39 10 0) := by rw [hZ_46]; exact congrFun (tk_k Z_39 bz_45 10 (by decide) (by decide)) 0
            have eW0 : toS S = Z_46 := by (first | (have hn : nmZ (chrZ (S 5) (S 6 0) (S 7 0)) = 1 := (by omega); subst_vars; unfold toS toC toN toA; rw [if_pos hn]) | (have hn : nmZ (chrZ (S 5) (S 6 0) (S 7 0)) = 2 := (by omega); subst_vars; unfold toS toC toN toA; rw [if_neg (by omega), if_pos hn]) | (have hn : nmZ (chrZ (S 5) (S 6 0) (S 7 0)) = 3 := (by omega); subst_vars; unfold toS toC toN toA; rw [if_neg (by omega), if_neg (by omega)]))
            rw [← eW0] at hP hD
            first | exact hret _ _ _ _ dX3_takesOrder_188 hP hD hS | (exfalso; omega)
          refine z_bipush hx hb dX3_takesOrder_175 (by decide +kernel) ?_
          refine z_icmp_ne (tgt := 184) hx hb dX3_takesOrder_177 (by decide) (by omega) (by omega) (fun c_50 => ?_) (fun c_50 => ?_)
          · refine z_iconst hx hb dX3_takesOrder_184 ?_
            exact J_44 0 (by omega)
          · refine z_iconst hx hb dX3_takesOrder_180 ?_
            refine lv_goto (tgt := 185) hx hb dX3_takesOrder_181 (by decide) ?_
            exact J_44 1 (by omega)
        refine z_bipush hx hb dX3_takesOrder_146 (by decide +kernel) ?_
        refine z_icmp_ne (tgt := 155) hx hb dX3_takesOrder_148 (by decide) (by omega) (by omega) (fun c_51 => ?_) (fun c_51 => ?_)
        · refine z_iconst hx hb dX3_takesOrder_155 ?_
          exact J_33 0 (by omega)
        · refine z_iconst hx hb dX3_takesOrder_151 ?_
          refine lv_goto (tgt := 156) hx hb dX3_takesOrder_152 (by decide) ?_
          exact J_33 1 (by omega)
      · refine z_as hcs_10 ?_
        refine lv_istore_n (lv' := [(1, .int (iI 3)), (0, .ref mo)]) hx hb dX3_takesOrder_129 rfl hl (by decide) rfl (fun ls hl => ?_)
        refine z_iconst hx hb dX3_takesOrder_130 ?_
        refine lv_istore_n (lv' := [(2, .int (iI 0)), (1, .int (iI 3)), (0, .ref mo)]) hx hb dX3_takesOrder_131 rfl hl (by decide) rfl (fun ls hl => ?_)
        refine lv_iload_n hx hb dX3_takesOrder_132 rfl (lv_at hl 0 rfl) ?_
        refine lv_iload_n hx hb dX3_takesOrder_133 rfl (lv_at hl 1 rfl) ?_
        refine z_icmp_ge (tgt := 170) hx hb dX3_takesOrder_134 (by decide) (by omega) (by omega) (fun c_52 => absurd c_52 (by omega)) (fun c_52 => ?_)
        refine lv_iload_n hx hb dX3_takesOrder_137 rfl (lv_at hl 0 rfl) ?_
        refine z_if_le (tgt := 159) hx hb dX3_takesOrder_138 (by decide) (by omega) (fun c_53 => ?_) (fun c_53 => absurd c_53 (by omega))
        refine lv_aload_n hx hb dX3_takesOrder_159 rfl (lv_at hl 2 rfl) ?_
        refine lv_iload_n hx hb dX3_takesOrder_160 rfl (lv_at hl 0 rfl) ?_
        refine mw_full (st1 := []) (mr_V (As := [.int (iI 0)]) (rest := []) (ci := 3) (q0 := 0) ⟨hx, hb, hml, hown, hts⟩ (m_X3_takesNumber l D mo am cI Z_4 0 hIZ_4 (show (Z_4 9 0) = 0 ∨ (Z_4 9 0) = 1 by omega) (show 0 ≤ (Z_4 7 0) ∧ (Z_4 7 0) ≤ 900 by omega) (by omega)) (cwV 1 hts (gV q_576 q_577 q_578 q_345 q_570) rfl rfl rfl (by decide +kernel) ⟨Nat.le_trans (m := 2) (Nat.le_of_ble_eq_true rfl) (Nat.le_trans (Nat.le_of_ble_eq_true rfl) hRf), Nat.le_trans (m := 45) (Nat.le_of_ble_eq_true rfl) (Nat.le_trans (Nat.le_of_ble_eq_true rfl) hRl)⟩) hN hK hP hD rfl rfl rfl hl.1 (Nat.le_of_ble_eq_true rfl) ⟨hRc, hRs⟩ dX3_takesOrder_161) hD hS hA rfl (fun H locs hP hD hS => ?_)
        obtain ⟨Z_54, hZ_54⟩ : ∃ X : Nat → Int → Int, X = (tnS Z_4 0) := ⟨_, rfl⟩
        rw [← hZ_54] at hP hD
        have hIZ_54 := (tn_inv (S := Z_4) hIZ_4 0)
        rw [← hZ_54] at hIZ_54
        have hf_55a : Z_54 9 0 = 0 ∨ Z_54 9 0 = 1 := by rw [hZ_54]; exact tn_b9 _ _
        have hf_56b : (Z_4 7 0) ≤ Z_54 7 0 ∧ Z_54 7 0 ≤ (Z_4 7 0) + 3 := by rw [hZ_54]; exact tn_7 _ _
        refine lv_iinc (v := iI 1) (lv' := [(2, .int (iI 1)), (1, .int (iI 3)), (0, .ref mo)]) hx hb dX3_takesOrder_164 hl (k := 0) rfl (by decide +kernel) (by decide) rfl (fun ls hl => ?_)
        refine lv_goto (tgt := 132) hx hb dX3_takesOrder_167 (by decide) ?_
        refine lv_iload_n hx hb dX3_takesOrder_132 rfl (lv_at hl 0 rfl) ?_
        refine lv_iload_n hx hb dX3_takesOrder_133 rfl (lv_at hl 1 rfl) ?_
        refine z_icmp_ge (tgt := 170) hx hb dX3_takesOrder_134 (by decide) (by omega) (by omega) (fun c_57 => absurd c_57 (by omega)) (fun c_57 => ?_)
        refine lv_iload_n hx hb dX3_takesOrder_137 rfl (lv_at hl 0 rfl) ?_
        refine z_if_le (tgt := 159) hx hb dX3_takesOrder_138 (by decide) (by omega) (fun c_58 => absurd c_58 (by omega)) (fun c_58 => ?_)
        refine lv_aload_n hx hb dX3_takesOrder_141 rfl (lv_at hl 2 rfl) ?_
        refine lv_aload_n hx hb dX3_takesOrder_142 rfl (lv_at hl 2 rfl) ?_
        refine mw_full (st1 := [.int (iI (chrZ (Z_54 5) (Z_54 6 0) (Z_54 7 0))), .ref mo]) (mr_V (As := []) (rest := [.ref mo]) (ci := 3) (q0 := 0) ⟨hx, hb, hml, hown, hts⟩ (m_X3_here l D mo am cI Z_54  hIZ_54 (show 0 ≤ (Z_54 7 0) ∧ (Z_54 7 0) ≤ 1000 by omega)) (cwV 0 hts (gV q_567 q_568 q_569 q_345 q_564) rfl rfl rfl (by decide +kernel) ⟨Nat.le_trans (m := 1) (Nat.le_of_ble_eq_true rfl) (Nat.le_trans (Nat.le_of_ble_eq_true rfl) hRf), Nat.le_trans (m := 20) (Nat.le_of_ble_eq_true rfl) (Nat.le_trans (Nat.le_of_ble_eq_true rfl) hRl)⟩) hN hK hP hD rfl rfl rfl hl.1 (Nat.le_of_ble_eq_true rfl) ⟨hRc, hRs⟩ dX3_takesOrder_143) hD hS hA rfl (fun H locs hP hD hS => ?_)
        have hf_59 := chrS_bd hIZ_54 (Z_54 7 0)
        have J_60 : ∀ bz : Int, bz = (if chrZ (Z_54 5) (Z_54 6 0) (Z_54 7 0) = 44 then 1 else 0 : Int) → W p l e R s m args below meth c H locs 0 0 Q (F0 m 156 ls [.int (iI bz), .ref mo]) := by
          intro bz_61 hbz_61
          refine mw_full (st1 := []) (mr_V (As := [.int (iI bz_61)]) (rest := []) (ci := 3) (q0 := 0) ⟨hx, hb, hml, hown, hts⟩ (m_X3_takes l D mo am cI Z_54 bz_61 (show (Z_54 9 0) = 0 ∨ (Z_54 9 0) = 1 by omega) (by omega)) (cwV 1 hts (gV q_573 q_574 q_575 q_345 q_566) rfl rfl rfl (by decide +kernel) ⟨Nat.le_trans (m := 1) (Nat.le_of_ble_eq_true rfl) (Nat.le_trans (Nat.le_of_ble_eq_true rfl) hRf), Nat.le_trans (m := 21) (Nat.le_of_ble_eq_true rfl) (Nat.le_trans (Nat.le_of_ble_eq_true rfl) hRl)⟩) hN hK hP hD rfl rfl rfl hl.1 (Nat.le_of_ble_eq_true rfl) ⟨hRc, hRs⟩ dX3_takesOrder_156) hD hS hA rfl (fun H locs hP hD hS => ?_)
          obtain ⟨Z_62, hZ_62⟩ : ∃ X : Nat → Int → Int, X = (tkS Z_54 bz_61) := ⟨_, rfl⟩
          rw [← hZ_62] at hP hD
          have hIZ_62 := (tk_inv (S := Z_54) hIZ_54 bz_61)
          rw [← hZ_62] at hIZ_62
          have hf_63a : Z_62 9 0 = 0 ∨ Z_62 9 0 = 1 := by rw [hZ_62]; exact tk_b9 _ _
          have hf_64b : (Z_54 7 0) ≤ Z_62 7 0 ∧ Z_62 7 0 ≤ (Z_54 7 0) + 1 := by rw [hZ_62]; exact tk_b7 _ _
          have hf_65c : Z_62 10 0 = (Z_54 10 0) := by rw [hZ_62]; exact congrFun (tk_k Z_54 bz_61 10 (by decide) (by decide)) 0
          refine lv_aload_n hx hb dX3_takesOrder_159 rfl (lv_at hl 2 rfl) ?_
          refine lv_iload_n hx hb dX3_takesOrder_160 rfl (lv_at hl 0 rfl) ?_
          refine mw_full (st1 := []) (mr_V (As := [.int (iI 1)]) (rest := []) (ci := 3) (q0 := 0) ⟨hx, hb, hml, hown, hts⟩ (m_X3_takesNumber l D mo am cI Z_62 1 hIZ_62 (show (Z_62 9 0) = 0 ∨ (Z_62 9 0) = 1 by omega) (show 0 ≤ (Z_62 7 0) ∧ (Z_62 7 0) ≤ 900 by omega) (by omega)) (cwV 1 hts (gV q_576 q_577 q_578 q_345 q_570) rfl rfl rfl (by decide +kernel) ⟨Nat.le_trans (m := 2) (Nat.le_of_ble_eq_true rfl) (Nat.le_trans (Nat.le_of_ble_eq_true rfl) hRf), Nat.le_trans (m := 45) (Nat.le_of_ble_eq_true rfl) (Nat.le_trans (Nat.le_of_ble_eq_true rfl) hRl)⟩) hN hK hP hD rfl rfl rfl hl.1 (Nat.le_of_ble_eq_true rfl) ⟨hRc, hRs⟩ dX3_takesOrder_161) hD hS hA rfl (fun H locs hP hD hS => ?_)
          obtain ⟨Z_66, hZ_66⟩ : ∃ X : Nat → Int → Int, X = (tnS Z_62 1) := ⟨_, rfl⟩
          rw [← hZ_66] at hP hD
          have hIZ_66 := (tn_inv (S := Z_62) hIZ_62 1)
          rw [← hZ_66] at hIZ_66
          have hf_67a : Z_66 9 0 = 0 ∨ Z_66 9 0 = 1 := by rw [hZ_66]; exact tn_b9 _ _
          have hf_68b : (Z_62 7 0) ≤ Z_66 7 0 ∧ Z_66 7 0 ≤ (Z_62 7 0) + 3 := by rw [hZ_66]; exact tn_7 _ _
          refine lv_iinc (v := iI 2) (lv' := [(2, .int (iI 2)), (1, .int (iI 3)), (0, .ref mo)]) hx hb dX3_takesOrder_164 hl (k := 0) rfl (by decide +kernel) (by decide) rfl (fun ls hl => ?_)
          refine lv_goto (tgt := 132) hx hb dX3_takesOrder_167 (by decide) ?_
          refine lv_iload_n hx hb dX3_takesOrder_132 rfl (lv_at hl 0 rfl) ?_
          refine lv_iload_n hx hb dX3_takesOrder_133 rfl (lv_at hl 1 rfl) ?_
          refine z_icmp_ge (tgt := 170) hx hb dX3_takesOrder_134 (by decide) (by omega) (by omega) (fun c_69 => absurd c_69 (by omega)) (fun c_69 => ?_)
          refine lv_iload_n hx hb dX3_takesOrder_137 rfl (lv_at hl 0 rfl) ?_
          refine z_if_le (tgt := 159) hx hb dX3_takesOrder_138 (by decide) (by omega) (fun c_70 => absurd c_70 (by omega)) (fun c_70 => ?_)
          refine lv_aload_n hx hb dX3_takesOrder_141 rfl (lv_at hl 2 rfl) ?_
          refine lv_aload_n hx hb dX3_takesOrder_142 rfl (lv_at hl 2 rfl) ?_
          refine mw_full (st1 := [.int (iI (chrZ (Z_66 5) (Z_66 6 0) (Z_66 7 0))), .ref mo]) (mr_V (As := []) (rest := [.ref mo]) (ci := 3) (q0 := 0) ⟨hx, hb, hml, hown, hts⟩ (m_X3_here l D mo am cI Z_66  hIZ_66 (show 0 ≤ (Z_66 7 0) ∧ (Z_66 7 0) ≤ 1000 by omega)) (cwV 0 hts (gV q_567 q_568 q_569 q_345 q_564) rfl rfl rfl (by decide +kernel) ⟨Nat.le_trans (m := 1) (Nat.le_of_ble_eq_true rfl) (Nat.le_trans (Nat.le_of_ble_eq_true rfl) hRf), Nat.le_trans (m := 20) (Nat.le_of_ble_eq_true rfl) (Nat.le_trans (Nat.le_of_ble_eq_true rfl) hRl)⟩) hN hK hP hD rfl rfl rfl hl.1 (Nat.le_of_ble_eq_true rfl) ⟨hRc, hRs⟩ dX3_takesOrder_143) hD hS hA rfl (fun H locs hP hD hS => ?_)
          have hf_71 := chrS_bd hIZ_66 (Z_66 7 0)
          have J_72 : ∀ bz : Int, bz = (if chrZ (Z_66 5) (Z_66 6 0) (Z_66 7 0) = 44 then 1 else 0 : Int) → W p l e R s m args below meth c H locs 0 0 Q (F0 m 156 ls [.int (iI bz), .ref mo]) := by
            intro bz_73 hbz_73
            refine mw_full (st1 := []) (mr_V (As := [.int (iI bz_73)]) (rest := []) (ci := 3) (q0 := 0) ⟨hx, hb, hml, hown, hts⟩ (m_X3_takes l D mo am cI Z_66 bz_73 (show (Z_66 9 0) = 0 ∨ (Z_66 9 0) = 1 by omega) (by omega)) (cwV 1 hts (gV q_573 q_574 q_575 q_345 q_566) rfl rfl rfl (by decide +kernel) ⟨Nat.le_trans (m := 1) (Nat.le_of_ble_eq_true rfl) (Nat.le_trans (Nat.le_of_ble_eq_true rfl) hRf), Nat.le_trans (m := 21) (Nat.le_of_ble_eq_true rfl) (Nat.le_trans (Nat.le_of_ble_eq_true rfl) hRl)⟩) hN hK hP hD rfl rfl rfl hl.1 (Nat.le_of_ble_eq_true rfl) ⟨hRc, hRs⟩ dX3_takesOrder_156) hD hS hA rfl (fun H locs hP hD hS => ?_)
            obtain ⟨Z_74, hZ_74⟩ : ∃ X : Nat → Int → Int, X = (tkS Z_66 bz_73) := ⟨_, rfl⟩
            rw [← hZ_74] at hP hD
            have hIZ_74 := (tk_inv (S := Z_66) hIZ_66 bz_73)
            rw [← hZ_74] at hIZ_74
            have hf_75a : Z_74 9 0 = 0 ∨ Z_74 9 0 = 1 := by rw [hZ_74]; exact tk_b9 _ _
            have hf_76b : (Z_66 7 0) ≤ Z_74 7 0 ∧ Z_74 7 0 ≤ (Z_66 7 0) + 1 := by rw [hZ_74]; exact tk_b7 _ _
            have hf_77c : Z_74 10 0 = (Z_66 10 0) := by rw [hZ_74]; exact congrFun (tk_k Z_66 bz_73 10 (by decide) (by decide)) 0
            refine lv_aload_n hx hb dX3_takesOrder_159 rfl (lv_at hl 2 rfl) ?_
            refine lv_iload_n hx hb dX3_takesOrder_160 rfl (lv_at hl 0 rfl) ?_
            refine mw_full (st1 := []) (mr_V (As := [.int (iI 2)]) (rest := []) (ci := 3) (q0 := 0) ⟨hx, hb, hml, hown, hts⟩ (m_X3_takesNumber l D mo am cI Z_74 2 hIZ_74 (show (Z_74 9 0) = 0 ∨ (Z_74 9 0) = 1 by omega) (show 0 ≤ (Z_74 7 0) ∧ (Z_74 7 0) ≤ 900 by omega) (by omega)) (cwV 1 hts (gV q_576 q_577 q_578 q_345 q_570) rfl rfl rfl (by decide +kernel) ⟨Nat.le_trans (m := 2) (Nat.le_of_ble_eq_true rfl) (Nat.le_trans (Nat.le_of_ble_eq_true rfl) hRf), Nat.le_trans (m := 45) (Nat.le_of_ble_eq_true rfl) (Nat.le_trans (Nat.le_of_ble_eq_true rfl) hRl)⟩) hN hK hP hD rfl rfl rfl hl.1 (Nat.le_of_ble_eq_true rfl) ⟨hRc, hRs⟩ dX3_takesOrder_161) hD hS hA rfl (fun H locs hP hD hS => ?_)
            obtain ⟨Z_78, hZ_78⟩ : ∃ X : Nat → Int → Int, X = (tnS Z_74 2) := ⟨_, rfl⟩
            rw [← hZ_78] at hP hD
            have hIZ_78 := (tn_inv (S := Z_74) hIZ_74 2)
            rw [← hZ_78] at hIZ_78
            have hf_79a : Z_78 9 0 = 0 ∨ Z_78 9 0 = 1 := by rw [hZ_78]; exact tn_b9 _ _
            have hf_80b : (Z_74 7 0) ≤ Z_78 7 0 ∧ Z_78 7 0 ≤ (Z_74 7 0) + 3 := by rw [hZ_78]; exact tn_7 _ _
            refine lv_iinc (v := iI 3) (lv' := [(2, .int (iI 3)), (1, .int (iI 3)), (0, .ref mo)]) hx hb dX3_takesOrder_164 hl (k := 0) rfl (by decide +kernel) (by decide) rfl (fun ls hl => ?_)
            refine lv_goto (tgt := 132) hx hb dX3_takesOrder_167 (by decide) ?_
            refine lv_iload_n hx hb dX3_takesOrder_132 rfl (lv_at hl 0 rfl) ?_
            refine lv_iload_n hx hb dX3_takesOrder_133 rfl (lv_at hl 1 rfl) ?_
            refine z_icmp_ge (tgt := 170) hx hb dX3_takesOrder_134 (by decide) (by omega) (by omega) (fun c_81 => ?_) (fun c_81 => absurd c_81 (by omega))
            refine lv_aload_n hx hb dX3_takesOrder_170 rfl (lv_at hl 2 rfl) ?_
            refine lv_aload_n hx hb dX3_takesOrder_171 rfl (lv_at hl 2 rfl) ?_
            refine mw_full (st1 := [.int (iI (chrZ (Z_78 5) (Z_78 6 0) (Z_78 7 0))), .ref mo]) (mr_V (As := []) (rest := [.ref mo]) (ci := 3) (q0 := 0) ⟨hx, hb, hml, hown, hts⟩ (m_X3_here l D mo am cI Z_78  hIZ_78 (show 0 ≤ (Z_78 7 0) ∧ (Z_78 7 0) ≤ 1000 by omega)) (cwV 0 hts (gV q_567 q_568 q_569 q_345 q_564) rfl rfl rfl (by decide +kernel) ⟨Nat.le_trans (m := 1) (Nat.le_of_ble_eq_true rfl) (Nat.le_trans (Nat.le_of_ble_eq_true rfl) hRf), Nat.le_trans (m := 20) (Nat.le_of_ble_eq_true rfl) (Nat.le_trans (Nat.le_of_ble_eq_true rfl) hRl)⟩) hN hK hP hD rfl rfl rfl hl.1 (Nat.le_of_ble_eq_true rfl) ⟨hRc, hRs⟩ dX3_takesOrder_172) hD hS hA rfl (fun H locs hP hD hS => ?_)
            have hf_82 := chrS_bd hIZ_78 (Z_78 7 0)
            have J_83 : ∀ bz : Int, bz = (if chrZ (Z_78 5) (Z_78 6 0) (Z_78 7 0) = 59 then 1 else 0 : Int) → W p l e R s m args below meth c H locs 0 0 Q (F0 m 185 ls [.int (iI bz), .ref mo]) := by
              intro bz_84 hbz_84
              refine mw_full (st1 := []) (mr_V (As := [.int (iI bz_84)]) (rest := []) (ci := 3) (q0 := 0) ⟨hx, hb, hml, hown, hts⟩ (m_X3_takes l D mo am cI Z_78 bz_84 (show (Z_78 9 0) = 0 ∨ (Z_78 9 0) = 1 by omega) (by omega)) (cwV 1 hts (gV q_573 q_574 q_575 q_345 q_566) rfl rfl rfl (by decide +kernel) ⟨Nat.le_trans (m := 1) (Nat.le_of_ble_eq_true rfl) (Nat.le_trans (Nat.le_of_ble_eq_true rfl) hRf), Nat.le_trans (m := 21) (Nat.le_of_ble_eq_true rfl) (Nat.le_trans (Nat.le_of_ble_eq_true rfl) hRl)⟩) hN hK hP hD rfl rfl rfl hl.1 (Nat.le_of_ble_eq_true rfl) ⟨hRc, hRs⟩ dX3_takesOrder_185) hD hS hA rfl (fun H locs hP hD hS => ?_)
              obtain ⟨Z_85, hZ_85⟩ : ∃ X : Nat → Int → Int, X = (tkS Z_78 bz_84) := ⟨_, rfl⟩
              rw [← hZ_85] at hP hD
              have hIZ_85 := (tk_inv (S := Z_78) hIZ_78 bz_84)
              rw [← hZ_85] at hIZ_85
              have hf_86a : Z_85 9 0 = 0 ∨ Z_85 9 0 = 1 := by rw [hZ_85]; exact tk_b9 _ _
              have hf_87b : (Z_78 7 0) ≤ Z_85 7 0 ∧ Z_85 7 0 ≤ (Z_78 7 0) + 1 := by rw [hZ_85]; exact tk_b7 _ _
              have hf_88c : Z_85 10 0 = (Z_78 10 0) := by rw [hZ_85]; exact congrFun (tk_k Z_78 bz_84 10 (by decide) (by decide)) 0
              have eW0 : toS S = Z_85 := by (first | (have hn : nmZ (chrZ (S 5) (S 6 0) (S 7 0)) = 1 := (by omega); subst_vars; unfold toS toC toN toA; rw [if_pos hn]) | (have hn : nmZ (chrZ (S 5) (S 6 0) (S 7 0)) = 2 := (by omega); subst_vars; unfold toS toC toN toA; rw [if_neg (by omega), if_pos hn]) | (have hn : nmZ (chrZ (S 5) (S 6 0) (S 7 0)) = 3 := (by omega); subst_vars; unfold toS toC toN toA; rw [if_neg (by omega), if_neg (by omega)]))
              rw [← eW0] at hP hD
              first | exact hret _ _ _ _ dX3_takesOrder_188 hP hD hS | (exfalso; omega)
            refine z_bipush hx hb dX3_takesOrder_175 (by decide +kernel) ?_
            refine z_icmp_ne (tgt := 184) hx hb dX3_takesOrder_177 (by decide) (by omega) (by omega) (fun c_89 => ?_) (fun c_89 => ?_)
            · refine z_iconst hx hb dX3_takesOrder_184 ?_
              exact J_83 0 (by omega)
            · refine z_iconst hx hb dX3_takesOrder_180 ?_
              refine lv_goto (tgt := 185) hx hb dX3_takesOrder_181 (by decide) ?_
              exact J_83 1 (by omega)
          refine z_bipush hx hb dX3_takesOrder_146 (by decide +kernel) ?_
          refine z_icmp_ne (tgt := 155) hx hb dX3_takesOrder_148 (by decide) (by omega) (by omega) (fun c_90 => ?_) (fun c_90 => ?_)
          · refine z_iconst hx hb dX3_takesOrder_155 ?_
            exact J_72 0 (by omega)
          · refine z_iconst hx hb dX3_takesOrder_151 ?_
            refine lv_goto (tgt := 156) hx hb dX3_takesOrder_152 (by decide) ?_
            exact J_72 1 (by omega)
        refine z_bipush hx hb dX3_takesOrder_146 (by decide +kernel) ?_
        refine z_icmp_ne (tgt := 155) hx hb dX3_takesOrder_148 (by decide) (by omega) (by omega) (fun c_91 => ?_) (fun c_91 => ?_)
        · refine z_iconst hx hb dX3_takesOrder_155 ?_
          exact J_60 0 (by omega)
        · refine z_iconst hx hb dX3_takesOrder_151 ?_
          refine lv_goto (tgt := 156) hx hb dX3_takesOrder_152 (by decide) ?_
          exact J_60 1 (by omega)
    refine lv_aload_n hx hb dX3_takesOrder_84 rfl (lv_at hl 0 rfl) ?_
    refine va_get (D := D) (ci := 3) (v := .int (iI (Z_4 10 0))) (C := RX3) (T := TX3) (N := 14) hx hb hq inA3 hown hK hP 0 rfl rfl 10 (by decide) (hq _ q_572) (fun _ h9 => h9) rfl dX3_takesOrder_85 ?_
    refine z_bipush hx hb dX3_takesOrder_88 (by decide +kernel) ?_
    refine z_icmp_eq (tgt := 102) hx hb dX3_takesOrder_90 (by decide) (by omega) (by omega) (fun c_92 => ?_) (fun c_92 => ?_)
    · refine z_iconst hx hb dX3_takesOrder_102 ?_
      refine lv_goto (tgt := 129) hx hb dX3_takesOrder_103 (by decide) ?_
      exact J_8 3 (by (unfold nmZ; omega))
    · refine lv_aload_n hx hb dX3_takesOrder_93 rfl (lv_at hl 0 rfl) ?_
      refine va_get (D := D) (ci := 3) (v := .int (iI (Z_4 10 0))) (C := RX3) (T := TX3) (N := 14) hx hb hq inA3 hown hK hP 0 rfl rfl 10 (by decide) (hq _ q_572) (fun _ h9 => h9) rfl dX3_takesOrder_94 ?_
      refine z_bipush hx hb dX3_takesOrder_97 (by decide +kernel) ?_
      refine z_icmp_ne (tgt := 106) hx hb dX3_takesOrder_99 (by decide) (by omega) (by omega) (fun c_93 => ?_) (fun c_93 => ?_)
      · refine lv_aload_n hx hb dX3_takesOrder_106 rfl (lv_at hl 0 rfl) ?_
        refine va_get (D := D) (ci := 3) (v := .int (iI (Z_4 10 0))) (C := RX3) (T := TX3) (N := 14) hx hb hq inA3 hown hK hP 0 rfl rfl 10 (by decide) (hq _ q_572) (fun _ h9 => h9) rfl dX3_takesOrder_107 ?_
        refine z_bipush hx hb dX3_takesOrder_110 (by decide +kernel) ?_
        refine z_icmp_eq (tgt := 124) hx hb dX3_takesOrder_112 (by decide) (by omega) (by omega) (fun c_94 => ?_) (fun c_94 => ?_)
        · refine z_iconst hx hb dX3_takesOrder_124 ?_
          refine lv_goto (tgt := 129) hx hb dX3_takesOrder_125 (by decide) ?_
          exact J_8 2 (by (unfold nmZ; omega))
        · refine lv_aload_n hx hb dX3_takesOrder_115 rfl (lv_at hl 0 rfl) ?_
          refine va_get (D := D) (ci := 3) (v := .int (iI (Z_4 10 0))) (C := RX3) (T := TX3) (N := 14) hx hb hq inA3 hown hK hP 0 rfl rfl 10 (by decide) (hq _ q_572) (fun _ h9 => h9) rfl dX3_takesOrder_116 ?_
          refine z_bipush hx hb dX3_takesOrder_119 (by decide +kernel) ?_
          refine z_icmp_ne (tgt := 128) hx hb dX3_takesOrder_121 (by decide) (by omega) (by omega) (fun c_95 => ?_) (fun c_95 => ?_)
          · refine z_iconst hx hb dX3_takesOrder_128 ?_
            exact J_8 1 (by (unfold nmZ; omega))
          · refine z_iconst hx hb dX3_takesOrder_124 ?_
            refine lv_goto (tgt := 129) hx hb dX3_takesOrder_125 (by decide) ?_
            exact J_8 2 (by (unfold nmZ; omega))
      · refine z_iconst hx hb dX3_takesOrder_102 ?_
        refine lv_goto (tgt := 129) hx hb dX3_takesOrder_103 (by decide) ?_
        exact J_8 3 (by (unfold nmZ; omega))
  refine lv_aload_n hx hb dX3_takesOrder_22 rfl (lv_at hl 0 rfl) ?_
  refine va_get (D := D) (ci := 3) (v := .int (iI (chrZ (S 5) (S 6 0) (S 7 0)))) (C := RX3) (T := TX3) (N := 14) hx hb hq inA3 hown hK hP 0 rfl rfl 10 (by decide) (hq _ q_572) (fun _ h9 => h9) rfl dX3_takesOrder_23 ?_
  refine z_bipush hx hb dX3_takesOrder_26 (by decide +kernel) ?_
  refine z_icmp_eq (tgt := 76) hx hb dX3_takesOrder_28 (by decide) (by omega) (by omega) (fun c_96 => ?_) (fun c_96 => ?_)
  · refine z_iconst hx hb dX3_takesOrder_76 ?_
    refine lv_goto (tgt := 81) hx hb dX3_takesOrder_77 (by decide) ?_
    have hkb := ok_b (chrZ (S 5) (S 6 0) (S 7 0))
    exact J_2 1 (by (unfold okZ; omega))
  · refine lv_aload_n hx hb dX3_takesOrder_31 rfl (lv_at hl 0 rfl) ?_
    refine va_get (D := D) (ci := 3) (v := .int (iI (chrZ (S 5) (S 6 0) (S 7 0)))) (C := RX3) (T := TX3) (N := 14) hx hb hq inA3 hown hK hP 0 rfl rfl 10 (by decide) (hq _ q_572) (fun _ h9 => h9) rfl dX3_takesOrder_32 ?_
    refine z_bipush hx hb dX3_takesOrder_35 (by decide +kernel) ?_
    refine z_icmp_eq (tgt := 76) hx hb dX3_takesOrder_37 (by decide) (by omega) (by omega) (fun c_97 => ?_) (fun c_97 => ?_)
    · refine z_iconst hx hb dX3_takesOrder_76 ?_
      refine lv_goto (tgt := 81) hx hb dX3_takesOrder_77 (by decide) ?_
      have hkb := ok_b (chrZ (S 5) (S 6 0) (S 7 0))
      exact J_2 1 (by (unfold okZ; omega))
    · refine lv_aload_n hx hb dX3_takesOrder_40 rfl (lv_at hl 0 rfl) ?_
      refine va_get (D := D) (ci := 3) (v := .int (iI (chrZ (S 5) (S 6 0) (S 7 0)))) (C := RX3) (T := TX3) (N := 14) hx hb hq inA3 hown hK hP 0 rfl rfl 10 (by decide) (hq _ q_572) (fun _ h9 => h9) rfl dX3_takesOrder_41 ?_
      refine z_bipush hx hb dX3_takesOrder_44 (by decide +kernel) ?_
      refine z_icmp_eq (tgt := 76) hx hb dX3_takesOrder_46 (by decide) (by omega) (by omega) (fun c_98 => ?_) (fun c_98 => ?_)
      · refine z_iconst hx hb dX3_takesOrder_76 ?_
        refine lv_goto (tgt := 81) hx hb dX3_takesOrder_77 (by decide) ?_
        have hkb := ok_b (chrZ (S 5) (S 6 0) (S 7 0))
        exact J_2 1 (by (unfold okZ; omega))
      · refine lv_aload_n hx hb dX3_takesOrder_49 rfl (lv_at hl 0 rfl) ?_
        refine va_get (D := D) (ci := 3) (v := .int (iI (chrZ (S 5) (S 6 0) (S 7 0)))) (C := RX3) (T := TX3) (N := 14) hx hb hq inA3 hown hK hP 0 rfl rfl 10 (by decide) (hq _ q_572) (fun _ h9 => h9) rfl dX3_takesOrder_50 ?_
        refine z_bipush hx hb dX3_takesOrder_53 (by decide +kernel) ?_
        refine z_icmp_eq (tgt := 76) hx hb dX3_takesOrder_55 (by decide) (by omega) (by omega) (fun c_99 => ?_) (fun c_99 => ?_)
        · refine z_iconst hx hb dX3_takesOrder_76 ?_
          refine lv_goto (tgt := 81) hx hb dX3_takesOrder_77 (by decide) ?_
          have hkb := ok_b (chrZ (S 5) (S 6 0) (S 7 0))
          exact J_2 1 (by (unfold okZ; omega))
        · refine lv_aload_n hx hb dX3_takesOrder_58 rfl (lv_at hl 0 rfl) ?_
          refine va_get (D := D) (ci := 3) (v := .int (iI (chrZ (S 5) (S 6 0) (S 7 0)))) (C := RX3) (T := TX3) (N := 14) hx hb hq inA3 hown hK hP 0 rfl rfl 10 (by decide) (hq _ q_572) (fun _ h9 => h9) rfl dX3_takesOrder_59 ?_
          refine z_bipush hx hb dX3_takesOrder_62 (by decide +kernel) ?_
          refine z_icmp_eq (tgt := 76) hx hb dX3_takesOrder_64 (by decide) (by omega) (by omega) (fun c_100 => ?_) (fun c_100 => ?_)
          · refine z_iconst hx hb dX3_takesOrder_76 ?_
            refine lv_goto (tgt := 81) hx hb dX3_takesOrder_77 (by decide) ?_
            have hkb := ok_b (chrZ (S 5) (S 6 0) (S 7 0))
            exact J_2 1 (by (unfold okZ; omega))
          · refine lv_aload_n hx hb dX3_takesOrder_67 rfl (lv_at hl 0 rfl) ?_
            refine va_get (D := D) (ci := 3) (v := .int (iI (chrZ (S 5) (S 6 0) (S 7 0)))) (C := RX3) (T := TX3) (N := 14) hx hb hq inA3 hown hK hP 0 rfl rfl 10 (by decide) (hq _ q_572) (fun _ h9 => h9) rfl dX3_takesOrder_68 ?_
            refine z_bipush hx hb dX3_takesOrder_71 (by decide +kernel) ?_
            refine z_icmp_ne (tgt := 80) hx hb dX3_takesOrder_73 (by decide) (by omega) (by omega) (fun c_101 => ?_) (fun c_101 => ?_)
            · refine z_iconst hx hb dX3_takesOrder_80 ?_
              have hkb := ok_b (chrZ (S 5) (S 6 0) (S 7 0))
              exact J_2 0 (by (unfold okZ; omega))
            · refine z_iconst hx hb dX3_takesOrder_76 ?_
              refine lv_goto (tgt := 81) hx hb dX3_takesOrder_77 (by decide) ?_
              have hkb := ok_b (chrZ (S 5) (S 6 0) (S 7 0))
              exact J_2 1 (by (unfold okZ; omega))
