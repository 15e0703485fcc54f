set_option maxHeartbeats 4000000 in
set_option maxRecDepth 100000 in
theorem m_X3_doesAll (l : Launch) (D : va_G) (mo : Nat) (am : Nat → Nat) (cI : ClassId) (S : Nat → Int → Int) {B : Int} (hI : InvG B (gOf (S 0))) (hT : InvS S) (hK9 : InvK S) (hB : B + 35640 ≤ 100000000)  : MW l D yX3_doesAll (wsY yX3_doesAll cX3_doesAll 3 (some .int)) { frames := 10, cells := 0, slots := 0, locals := 221 } [(cI, .int)] [.ref mo] (wM mo am cI S) (wM mo am cI (daI (upG (upG S 12 0 0) 7 0 0) 60)) (some (.int (iI (daC (upG (upG S 12 0 0) 7 0 0) 60)))) := by
  refine mw_ofI (cc := cX3_doesAll) (maxL := 3) (by decide) rfl (Nat.le_of_ble_eq_true rfl) ?_
  intro p e s m below meth c R A Q args ls hx hb hml hown hts hRf hRl hRc hRs hN hK hP hD hS hA hret hl
  have hq : ∀ w ∈ ALL, w.before args s = true := fun w h => hts w (List.mem_cons_of_mem _ h)
  have hl : lv_has ls 3 [(0, .ref mo)] := hl
  refine z_iconst hx hb dX3_doesAll_0 ?_
  refine lv_istore_n (lv' := [(1, .int (iI 0)), (0, .ref mo)]) hx hb dX3_doesAll_1 rfl hl (by decide) rfl (fun ls hl => ?_)
  refine lv_aload_n hx hb dX3_doesAll_2 rfl (lv_at hl 1 rfl) ?_
  refine z_iconst hx hb dX3_doesAll_3 ?_
  refine va_put (D := D) (ci := 3) (v := .int (iI 0)) (ty := .int) (C := RX3) (T := TX3) (N := 14) hx hb hq inA3 tyX3 tyX3_ok nmX3 hown hK hP hD hS 0 rfl rfl 12 (by decide) (hq _ q_582) (fun _ h9 => h9) rfl (by decide +kernel) rfl rfl (Nat.le_of_ble_eq_true rfl) dX3_doesAll_4 (fun H locs hP hD hS => ?_)
  have hP : va_P D vwCl (wM mo am cI (upG S 12 0 0)) H := hP
  have hD : va_D A (wM mo am cI (upG S 12 0 0)) := hD
  refine lv_aload_n hx hb dX3_doesAll_7 rfl (lv_at hl 1 rfl) ?_
  refine z_iconst hx hb dX3_doesAll_8 ?_
  refine va_put (D := D) (ci := 3) (v := .int (iI 0)) (ty := .int) (C := RX3) (T := TX3) (N := 14) hx hb hq inA3 tyX3 tyX3_ok nmX3 hown hK hP hD hS 0 rfl rfl 7 (by decide) (hq _ q_563) (fun _ h9 => h9) rfl (by decide +kernel) rfl rfl (Nat.le_of_ble_eq_true rfl) dX3_doesAll_9 (fun H locs hP hD hS => ?_)
  have hP : va_P D vwCl (wM mo am cI (upG (upG S 12 0 0) 7 0 0)) H := hP
  have hD : va_D A (wM mo am cI (upG (upG S 12 0 0) 7 0 0)) := hD
  have LP12 : ∀ (fu i : Nat), i ≤ 60 → 60 < fu + i → ∀ (H : Heap) (locs : List Loc) (ls : Array Slot), va_P D vwCl (wM mo am cI (daI (upG (upG S 12 0 0) 7 0 0) i)) H → va_D A (wM mo am cI (daI (upG (upG S 12 0 0) 7 0 0) i)) → va_S A s.heap H locs → lv_has ls 3 [(1, .int (iI (daC (upG (upG S 12 0 0) 7 0 0) i))), (0, .ref mo)] → W p l e R s m args below meth c H locs 0 0 Q (F0 m 12 ls []) := by
    intro fu
    induction fu with
    | zero => intro i h1 h2; omega
    | succ fu ih12 =>
      intro i hi1 hif H locs ls hP hD hS hl
      obtain ⟨hIi, hTi, hKi, h7i, h12i, hpi, hci⟩ := da_all (X := (upG (upG S 12 0 0) 7 0 0)) hI hT hK9 rfl rfl hB i (by omega)
      have hT6 := hTi.1
      refine lv_aload_n hx hb dX3_doesAll_12 rfl (lv_at hl 1 rfl) ?_
      refine va_get (D := D) (ci := 3) (v := .int (iI ((daI (upG (upG S 12 0 0) 7 0 0) i) 12 0))) (C := RX3) (T := TX3) (N := 14) hx hb hq inA3 hown hK hP 0 rfl rfl 12 (by decide) (hq _ q_582) (fun _ h9 => h9) rfl dX3_doesAll_13 ?_
      refine z_if_ne (tgt := 114) hx hb dX3_doesAll_16 (by decide) (by omega) (fun c_1 => ?_) (fun c_1 => ?_)
      · refine lv_iload_n hx hb dX3_doesAll_114 rfl (lv_at hl 0 rfl) ?_
        refine z_as (show (daC (upG (upG S 12 0 0) 7 0 0) i) = daC (upG (upG S 12 0 0) 7 0 0) 60 from by first | exact (da_stop2 (by omega) (by omega)).2.symm | exact (da_stop2 (by omega) (by omega)).2) ?_
        have eW0 : daI (upG (upG S 12 0 0) 7 0 0) 60 = (daI (upG (upG S 12 0 0) 7 0 0) i) := by (exact (da_stop2 (by omega) (by omega)).1)
        rw [← eW0] at hP hD
        first | exact hret _ _ _ _ dX3_doesAll_115 hP hD hS | (exfalso; omega)
      · refine lv_aload_n hx hb dX3_doesAll_19 rfl (lv_at hl 1 rfl) ?_
        refine va_get (D := D) (ci := 3) (v := .int (iI ((daI (upG (upG S 12 0 0) 7 0 0) i) 7 0))) (C := RX3) (T := TX3) (N := 14) hx hb hq inA3 hown hK hP 0 rfl rfl 7 (by decide) (hq _ q_563) (fun _ h9 => h9) rfl dX3_doesAll_20 ?_
        refine lv_aload_n hx hb dX3_doesAll_23 rfl (lv_at hl 1 rfl) ?_
        refine va_get (D := D) (ci := 3) (v := .int (iI ((daI (upG (upG S 12 0 0) 7 0 0) i) 6 0))) (C := RX3) (T := TX3) (N := 14) hx hb hq inA3 hown hK hP 0 rfl rfl 6 (by decide) (hq _ q_544) (fun _ h9 => h9) rfl dX3_doesAll_24 ?_
        refine z_icmp_ge (tgt := 114) hx hb dX3_doesAll_27 (by decide) (by omega) (by omega) (fun c_2 => ?_) (fun c_2 => ?_)
        · refine lv_iload_n hx hb dX3_doesAll_114 rfl (lv_at hl 0 rfl) ?_
          refine z_as (show (daC (upG (upG S 12 0 0) 7 0 0) i) = daC (upG (upG S 12 0 0) 7 0 0) 60 from by first | exact (da_stop2 (by omega) (by omega)).2.symm | exact (da_stop2 (by omega) (by omega)).2) ?_
          have eW0 : daI (upG (upG S 12 0 0) 7 0 0) 60 = (daI (upG (upG S 12 0 0) 7 0 0) i) := by (exact (da_stop2 (by omega) (by omega)).1)
          rw [← eW0] at hP hD
          first | exact hret _ _ _ _ dX3_doesAll_115 hP hD hS | (exfalso; omega)
        · refine lv_aload_n hx hb dX3_doesAll_30 rfl (lv_at hl 1 rfl) ?_
          refine mw_full (st1 := []) (mr_V (As := []) (rest := []) (ci := 3) (q0 := 0) ⟨hx, hb, hml, hown, hts⟩ (m_X3_takesOrder l D mo am cI (daI (upG (upG S 12 0 0) 7 0 0) i)  hTi (show 0 ≤ ((daI (upG (upG S 12 0 0) 7 0 0) i) 7 0) ∧ ((daI (upG (upG S 12 0 0) 7 0 0) i) 7 0) ≤ 60 by omega)) (cwV 0 hts (gV q_584 q_585 q_586 q_345 q_579) rfl rfl rfl (by decide +kernel) ⟨Nat.le_trans (m := 3) (Nat.le_of_ble_eq_true rfl) (Nat.le_trans (Nat.le_of_ble_eq_true rfl) hRf), Nat.le_trans (m := 67) (Nat.le_of_ble_eq_true rfl) (Nat.le_trans (Nat.le_of_ble_eq_true rfl) hRl)⟩) hN hK hP hD rfl rfl rfl hl.1 (Nat.le_of_ble_eq_true rfl) ⟨hRc, hRs⟩ dX3_doesAll_31) hD hS hA rfl (fun H locs hP hD hS => ?_)
          obtain ⟨Z_3, hZ_3⟩ : ∃ X : Nat → Int → Int, X = (toS (daI (upG (upG S 12 0 0) 7 0 0) i)) := ⟨_, rfl⟩
          rw [← hZ_3] at hP hD
          have hIZ_3 := (to_invG hIi)
          rw [← hZ_3] at hIZ_3
          have hf_4a : Z_3 9 0 = 0 ∨ Z_3 9 0 = 1 := by rw [hZ_3]; exact to_9 _
          have hf_5b : ((daI (upG (upG S 12 0 0) 7 0 0) i) 7 0) ≤ Z_3 7 0 ∧ Z_3 7 0 ≤ ((daI (upG (upG S 12 0 0) 7 0 0) i) 7 0) + 13 := by rw [hZ_3]; exact to_7 _
          have hf_6c : Z_3 8 0 = ((daI (upG (upG S 12 0 0) 7 0 0) i) 7 0) := by rw [hZ_3]; exact to_8 _
          have hf_7d : 0 ≤ Z_3 10 0 ∧ Z_3 10 0 ≤ 126 := by rw [hZ_3, to_10]; exact chrS_bd hTi _
          have hLZ : Z_3 9 0 ≠ 0 → Z_3 10 0 = 119 ∨ Z_3 10 0 = 97 ∨ Z_3 10 0 = 102 ∨ Z_3 10 0 = 109 ∨ Z_3 10 0 = 114 ∨ Z_3 10 0 = 100 := by rw [hZ_3]; exact fun q => by rw [to_10]; exact ok_let (to_form q).1
          have hKZ : InvK Z_3 := by rw [hZ_3]; exact to_K hKi
          have hGO := da_go hZ_3 ⟨by omega, by omega⟩
          refine lv_aload_n hx hb dX3_doesAll_34 rfl (lv_at hl 1 rfl) ?_
          refine va_get (D := D) (ci := 3) (v := .int (iI (Z_3 9 0))) (C := RX3) (T := TX3) (N := 14) hx hb hq inA3 hown hK hP 0 rfl rfl 9 (by decide) (hq _ q_565) (fun _ h9 => h9) rfl dX3_doesAll_35 ?_
          refine z_if_eq (tgt := 48) hx hb dX3_doesAll_38 (by decide) (by omega) (fun c_11 => ?_) (fun c_11 => ?_)
          · refine z_iconst hx hb dX3_doesAll_48 ?_
            refine lv_istore_n (lv' := [(2, .int (iI 0)), (1, .int (iI (daC (upG (upG S 12 0 0) 7 0 0) i))), (0, .ref mo)]) hx hb dX3_doesAll_49 rfl hl (by decide) rfl (fun ls hl => ?_)
            refine lv_aload_n hx hb dX3_doesAll_50 rfl (lv_at hl 2 rfl) ?_
            refine va_get (D := D) (ci := 3) (v := .int (iI (Z_3 9 0))) (C := RX3) (T := TX3) (N := 14) hx hb hq inA3 hown hK hP 0 rfl rfl 9 (by decide) (hq _ q_565) (fun _ h9 => h9) rfl dX3_doesAll_51 ?_
            refine z_if_eq (tgt := 61) hx hb dX3_doesAll_54 (by decide) (by omega) (fun c_12 => ?_) (fun c_12 => absurd c_12 (by omega))
            refine lv_aload_n hx hb dX3_doesAll_61 rfl (lv_at hl 2 rfl) ?_
            refine lv_aload_n hx hb dX3_doesAll_62 rfl (lv_at hl 2 rfl) ?_
            refine va_get (D := D) (ci := 3) (v := .int (iI (Z_3 9 0))) (C := RX3) (T := TX3) (N := 14) hx hb hq inA3 hown hK hP 0 rfl rfl 9 (by decide) (hq _ q_565) (fun _ h9 => h9) rfl dX3_doesAll_63 ?_
            refine z_if_eq (tgt := 73) hx hb dX3_doesAll_66 (by decide) (by omega) (fun c_13 => ?_) (fun c_13 => absurd c_13 (by omega))
            refine z_iconst hx hb dX3_doesAll_73 ?_
            refine va_put (D := D) (ci := 3) (v := .int (iI 1)) (ty := .int) (C := RX3) (T := TX3) (N := 14) hx hb hq inA3 tyX3 tyX3_ok nmX3 hown hK hP hD hS 0 rfl rfl 12 (by decide) (hq _ q_582) (fun _ h9 => h9) rfl (by decide +kernel) rfl rfl (Nat.le_of_ble_eq_true rfl) dX3_doesAll_74 (fun H locs hP hD hS => ?_)
            have hP : va_P D vwCl (wM mo am cI (upG Z_3 12 0 1)) H := hP
            have hD : va_D A (wM mo am cI (upG Z_3 12 0 1)) := hD
            refine lv_aload_n hx hb dX3_doesAll_77 rfl (lv_at hl 2 rfl) ?_
            refine lv_aload_n hx hb dX3_doesAll_78 rfl (lv_at hl 2 rfl) ?_
            refine va_get (D := D) (ci := 3) (v := .int (iI (Z_3 9 0))) (C := RX3) (T := TX3) (N := 14) hx hb hq inA3 hown hK hP 0 rfl rfl 9 (by decide) (hq _ q_565) (fun _ h9 => h9) rfl dX3_doesAll_79 ?_
            refine z_if_eq (tgt := 89) hx hb dX3_doesAll_82 (by decide) (by omega) (fun c_14 => ?_) (fun c_14 => absurd c_14 (by omega))
            refine lv_aload_n hx hb dX3_doesAll_89 rfl (lv_at hl 2 rfl) ?_
            refine va_get (D := D) (ci := 3) (v := .int (iI (Z_3 7 0))) (C := RX3) (T := TX3) (N := 14) hx hb hq inA3 hown hK hP 0 rfl rfl 7 (by decide) (hq _ q_563) (fun _ h9 => h9) rfl dX3_doesAll_90 ?_
            refine lv_aload_n hx hb dX3_doesAll_93 rfl (lv_at hl 2 rfl) ?_
            refine va_get (D := D) (ci := 3) (v := .int (iI (Z_3 8 0))) (C := RX3) (T := TX3) (N := 14) hx hb hq inA3 hown hK hP 0 rfl rfl 8 (by decide) (hq _ q_571) (fun _ h9 => h9) rfl dX3_doesAll_94 ?_
            refine z_isub hx hb dX3_doesAll_97 ?_
            refine va_put (D := D) (ci := 3) (v := .int (iI ((Z_3 7 0) - (Z_3 8 0)))) (ty := .int) (C := RX3) (T := TX3) (N := 14) hx hb hq inA3 tyX3 tyX3_ok nmX3 hown hK hP hD hS 0 rfl rfl 13 (by decide) (hq _ q_583) (fun _ h9 => h9) rfl (by decide +kernel) rfl rfl (Nat.le_of_ble_eq_true rfl) dX3_doesAll_98 (fun H locs hP hD hS => ?_)
            have hP : va_P D vwCl (wM mo am cI (upG (upG Z_3 12 0 1) 13 0 ((Z_3 7 0) - (Z_3 8 0)))) H := hP
            have hD : va_D A (wM mo am cI (upG (upG Z_3 12 0 1) 13 0 ((Z_3 7 0) - (Z_3 8 0)))) := hD
            refine lv_goto (tgt := 111) hx hb dX3_doesAll_101 (by decide) ?_
            refine lv_goto (tgt := 12) hx hb dX3_doesAll_111 (by decide) ?_
            have e1_0 : ((daC (upG (upG S 12 0 0) 7 0 0) (i + 1))) = (daC (upG (upG S 12 0 0) 7 0 0) i) := by (rw [hGO.2]; unfold cnT; omega)
            have eG0 : (daI (upG (upG S 12 0 0) 7 0 0) (i + 1)) = (upG (upG Z_3 12 0 1) 13 0 ((Z_3 7 0) - (Z_3 8 0))) := by (rw [hGO.1]; unfold stpS; first | rw [if_pos (by omega)] | rw [if_neg (by omega), if_pos (by omega)] | rw [if_neg (by omega), if_neg (by omega)])
            rw [← eG0] at hP hD
            exact ih12 (i + 1) (by omega) (by omega) _ _ _ hP hD hS (lv_to (lv_sub (l' := [(1, .int (iI (daC (upG (upG S 12 0 0) 7 0 0) i))), (0, .ref mo)]) hl [1, 2] rfl) (by simp only [e1_0]))
          · refine lv_aload_n hx hb dX3_doesAll_41 rfl (lv_at hl 1 rfl) ?_
            refine mw_full (st1 := [.int (iI (eoV Z_3))]) (mr_V (As := []) (rest := []) (ci := 3) (q0 := 0) ⟨hx, hb, hml, hown, hts⟩ (m_X3_errorOfOrder l D mo am cI Z_3  hIZ_3 (by omega) hKZ) (cwV 0 hts (gV q_587 q_588 q_589 q_345 q_580) rfl rfl rfl (by decide +kernel) ⟨Nat.le_trans (m := 4) (Nat.le_of_ble_eq_true rfl) (Nat.le_trans (Nat.le_of_ble_eq_true rfl) hRf), Nat.le_trans (m := 85) (Nat.le_of_ble_eq_true rfl) (Nat.le_trans (Nat.le_of_ble_eq_true rfl) hRl)⟩) hN hK hP hD rfl rfl rfl hl.1 (Nat.le_of_ble_eq_true rfl) ⟨hRc, hRs⟩ dX3_doesAll_42) hD hS hA rfl (fun H locs hP hD hS => ?_)
            have hf_15 := eo_bd Z_3
            refine lv_goto (tgt := 49) hx hb dX3_doesAll_45 (by decide) ?_
            refine lv_istore_n (lv' := [(2, .int (iI (eoV Z_3))), (1, .int (iI (daC (upG (upG S 12 0 0) 7 0 0) i))), (0, .ref mo)]) hx hb dX3_doesAll_49 rfl hl (by decide) rfl (fun ls hl => ?_)
            refine lv_aload_n hx hb dX3_doesAll_50 rfl (lv_at hl 2 rfl) ?_
            refine va_get (D := D) (ci := 3) (v := .int (iI (Z_3 9 0))) (C := RX3) (T := TX3) (N := 14) hx hb hq inA3 hown hK hP 0 rfl rfl 9 (by decide) (hq _ q_565) (fun _ h9 => h9) rfl dX3_doesAll_51 ?_
            refine z_if_eq (tgt := 61) hx hb dX3_doesAll_54 (by decide) (by omega) (fun c_16 => absurd c_16 (by omega)) (fun c_16 => ?_)
            refine lv_iload_n hx hb dX3_doesAll_57 rfl (lv_at hl 0 rfl) ?_
            refine z_if_ge (tgt := 104) hx hb dX3_doesAll_58 (by decide) (by omega) (fun c_17 => ?_) (fun c_17 => ?_)
            · refine lv_aload_n hx hb dX3_doesAll_104 rfl (lv_at hl 2 rfl) ?_
              refine mw_full (st1 := []) (mr_V (As := []) (rest := []) (ci := 3) (q0 := 0) ⟨hx, hb, hml, hown, hts⟩ (m_X3_doesOrder l D mo am cI Z_3  hIZ_3 (by omega) hKZ (hLZ (by omega)) (by omega) (by omega)) (cwV 0 hts (gV q_590 q_591 q_592 q_345 q_581) rfl rfl rfl (by decide +kernel) ⟨Nat.le_trans (m := 10) (Nat.le_of_ble_eq_true rfl) (Nat.le_trans (Nat.le_of_ble_eq_true rfl) hRf), Nat.le_trans (m := 221) (Nat.le_of_ble_eq_true rfl) (Nat.le_trans (Nat.le_of_ble_eq_true rfl) hRl)⟩) hN hK hP hD rfl rfl rfl hl.1 (Nat.le_of_ble_eq_true rfl) ⟨hRc, hRs⟩ dX3_doesAll_105) hD hS hA rfl (fun H locs hP hD hS => ?_)
              refine lv_iinc (v := iI ((daC (upG (upG S 12 0 0) 7 0 0) i) + 1)) (lv' := [(1, .int (iI ((daC (upG (upG S 12 0 0) 7 0 0) i) + 1))), (2, .int (iI (eoV Z_3))), (0, .ref mo)]) hx hb dX3_doesAll_108 hl (k := 1) rfl (iI_add _ _) (by decide) rfl (fun ls hl => ?_)
              refine lv_goto (tgt := 12) hx hb dX3_doesAll_111 (by decide) ?_
              have e1_0 : ((daC (upG (upG S 12 0 0) 7 0 0) (i + 1))) = ((daC (upG (upG S 12 0 0) 7 0 0) i) + 1) := by (rw [hGO.2]; unfold cnT; omega)
              have eG0 : (daI (upG (upG S 12 0 0) 7 0 0) (i + 1)) = (doS Z_3) := by (rw [hGO.1]; unfold stpS; first | rw [if_pos (by omega)] | rw [if_neg (by omega), if_pos (by omega)] | rw [if_neg (by omega), if_neg (by omega)])
              rw [← eG0] at hP hD
              exact ih12 (i + 1) (by omega) (by omega) _ _ _ hP hD hS (lv_to (lv_sub (l' := [(1, .int (iI ((daC (upG (upG S 12 0 0) 7 0 0) i) + 1))), (0, .ref mo)]) hl [0, 2] rfl) (by simp only [e1_0]))
            · refine lv_aload_n hx hb dX3_doesAll_61 rfl (lv_at hl 2 rfl) ?_
              refine lv_aload_n hx hb dX3_doesAll_62 rfl (lv_at hl 2 rfl) ?_
              refine va_get (D := D) (ci := 3) (v := .int (iI (Z_3 9 0))) (C := RX3) (T := TX3) (N := 14) hx hb hq inA3 hown hK hP 0 rfl rfl 9 (by decide) (hq _ q_565) (fun _ h9 => h9) rfl dX3_doesAll_63 ?_
              refine z_if_eq (tgt := 73) hx hb dX3_doesAll_66 (by decide) (by omega) (fun c_18 => absurd c_18 (by omega)) (fun c_18 => ?_)
              refine z_iconst hx hb dX3_doesAll_69 ?_
              refine lv_goto (tgt := 74) hx hb dX3_doesAll_70 (by decide) ?_
              refine va_put (D := D) (ci := 3) (v := .int (iI 2)) (ty := .int) (C := RX3) (T := TX3) (N := 14) hx hb hq inA3 tyX3 tyX3_ok nmX3 hown hK hP hD hS 0 rfl rfl 12 (by decide) (hq _ q_582) (fun _ h9 => h9) rfl (by decide +kernel) rfl rfl (Nat.le_of_ble_eq_true rfl) dX3_doesAll_74 (fun H locs hP hD hS => ?_)
              have hP : va_P D vwCl (wM mo am cI (upG Z_3 12 0 2)) H := hP
              have hD : va_D A (wM mo am cI (upG Z_3 12 0 2)) := hD
              refine lv_aload_n hx hb dX3_doesAll_77 rfl (lv_at hl 2 rfl) ?_
              refine lv_aload_n hx hb dX3_doesAll_78 rfl (lv_at hl 2 rfl) ?_
              refine va_get (D := D) (ci := 3) (v := .int (iI (Z_3 9 0))) (C := RX3) (T := TX3) (N := 14) hx hb hq inA3 hown hK hP 0 rfl rfl 9 (by decide) (hq _ q_565) (fun _ h9 => h9) rfl dX3_doesAll_79 ?_
              refine z_if_eq (tgt := 89) hx hb dX3_doesAll_82 (by decide) (by omega) (fun c_19 => absurd c_19 (by omega)) (fun c_19 => ?_)
              refine lv_iload_n hx hb dX3_doesAll_85 rfl (lv_at hl 0 rfl) ?_
              refine lv_goto (tgt := 98) hx hb dX3_doesAll_86 (by decide) ?_
              refine va_put (D := D) (ci := 3) (v := .int (iI (eoV Z_3))) (ty := .int) (C := RX3) (T := TX3) (N := 14) hx hb hq inA3 tyX3 tyX3_ok nmX3 hown hK hP hD hS 0 rfl rfl 13 (by decide) (hq _ q_583) (fun _ h9 => h9) rfl (by decide +kernel) rfl rfl (Nat.le_of_ble_eq_true rfl) dX3_doesAll_98 (fun H locs hP hD hS => ?_)
              have hP : va_P D vwCl (wM mo am cI (upG (upG Z_3 12 0 2) 13 0 (eoV Z_3))) H := hP
              have hD : va_D A (wM mo am cI (upG (upG Z_3 12 0 2) 13 0 (eoV Z_3))) := hD
              refine lv_goto (tgt := 111) hx hb dX3_doesAll_101 (by decide) ?_
              refine lv_goto (tgt := 12) hx hb dX3_doesAll_111 (by decide) ?_
              have e1_0 : ((daC (upG (upG S 12 0 0) 7 0 0) (i + 1))) = (daC (upG (upG S 12 0 0) 7 0 0) i) := by (rw [hGO.2]; unfold cnT; omega)
              have eG0 : (daI (upG (upG S 12 0 0) 7 0 0) (i + 1)) = (upG (upG Z_3 12 0 2) 13 0 (eoV Z_3)) := by (rw [hGO.1]; unfold stpS; first | rw [if_pos (by omega)] | rw [if_neg (by omega), if_pos (by omega)] | rw [if_neg (by omega), if_neg (by omega)])
              rw [← eG0] at hP hD
              exact ih12 (i + 1) (by omega) (by omega) _ _ _ hP hD hS (lv_to (lv_sub (l' := [(1, .int (iI (daC (upG (upG S 12 0 0) 7 0 0) i))), (0, .ref mo)]) hl [1, 2] rfl) (by simp only [e1_0]))
  have e0_0 : ((daC (upG (upG S 12 0 0) 7 0 0) (0))) = 0 := by rfl
  exact LP12 (60 + 1) 0 (by omega) (by omega) _ _ _ hP hD hS (lv_to (lv_sub (l' := [(1, .int (iI 0)), (0, .ref mo)]) hl [0, 1] rfl) (by simp only [e0_0]))
