set_option maxHeartbeats 8000000 in
set_option maxRecDepth 100000 in
theorem m_L_number (l : Launch) (D : va_G) (xo xh t : Nat) (ta : Nat → Nat) (cI cC cH : ClassId) {k : Nat} {q : SS} (h : CR k q) (hk : k < 100) (v : Int) (h_v : -2147483648 ≤ v ∧ v < 2147483648) (hv : 0 ≤ v ∧ v ≤ 999) {m0 i0 d0 : Int} (hm : TX q m0 i0 d0) (h6 : m0 ≤ 57) : ME l D yL_number (wsY yL_number cL_number 2 (some .boolean)) { frames := 3, cells := 0, slots := 0, locals := 64 } (tyS cI cC cH) [.ref xo, .int (iI v)] (wS xo xh t ta cI cC cH q) (fun q' : SS => CR k q' ∧ Sme q q' ∧ ∃ m1 : Int, (m0 < m1 ∧ m1 ≤ m0 + 3 ∧ (v < 10 → m1 ≤ m0 + 1)) ∧ TX q' m1 i0 d0) (fun q' : SS => wS xo xh t ta cI cC cH q') (some (.int (iI 1))) := by
  refine me_ofZ (cc := cL_number) (maxL := 2) rfl (by decide) rfl (Nat.le_of_ble_eq_true rfl) ?_
  intro p e s m below meth c R A Q args ls hx hb hml hown hts hRf hRl hRc hRs hN hK hP hD hS hA hret hl
  have hq : ∀ w ∈ ALL, w.before args s = true := fun w h => hts w (List.mem_cons_of_mem _ h)
  have hl : lv_has ls 2 [(0, .ref xo), (1, .int (iI v))] := hl
  have hm0 : 0 ≤ m0 := by have a := h.2.2.2.1.1; have b := hm.1; omega
  refine lv_iload_n hx hb dL_number_0 rfl (lv_at hl 1 rfl) ?_
  refine z_bipush hx hb dL_number_1 (by decide +kernel) ?_
  refine z_icmp_lt (tgt := 20) hx hb dL_number_3 (by decide) (by omega) (by omega) (fun c_1 => ?_) (fun c_1 => ?_)
  · refine lv_iload_n hx hb dL_number_20 rfl (lv_at hl 1 rfl) ?_
    refine z_bipush hx hb dL_number_21 (by decide +kernel) ?_
    refine z_icmp_lt (tgt := 43) hx hb dL_number_23 (by decide) (by omega) (by omega) (fun c_2 => ?_) (fun c_2 => ?_)
    · refine lv_aload_n hx hb dL_number_43 rfl (lv_at hl 0 rfl) ?_
      refine z_bipush hx hb dL_number_44 (by decide +kernel) ?_
      refine lv_iload_n hx hb dL_number_46 rfl (lv_at hl 1 rfl) ?_
      refine z_bipush hx hb dL_number_47 (by decide +kernel) ?_
      refine z_irem hx hb dL_number_49 (by omega) (by omega) ?_
      refine z_iadd hx hb dL_number_50 ?_
      obtain ⟨q1, mxq1, hRq1, hsq1, hxq1⟩ := sc_type l D xo xh t ta cI cC cH h (48 + (v % 10)) (by omega) hm (by omega)
      have hxq1 : TX q1 (m0 + 1) i0 d0 := by have e0 := hxq1; rw [if_neg (by omega), if_neg (by omega), Int.add_zero, Int.add_zero] at e0; exact e0
      refine mw_full (st1 := [.int (iI (m0 + 1))]) (mr_V (As := [.int (iI (48 + (v % 10)))]) (rest := []) (ci := 2) (q0 := 0) ⟨hx, hb, hml, hown, hts⟩ mxq1 (cwV 1 hts (gV q_385 q_386 q_387 q_37 q_310) rfl rfl rfl (by decide +kernel) ⟨Nat.le_trans (m := 3) (Nat.le_of_ble_eq_true rfl) (Nat.le_trans (Nat.le_of_ble_eq_true rfl) hRf), Nat.le_trans (m := 64) (Nat.le_of_ble_eq_true rfl) (Nat.le_trans (Nat.le_of_ble_eq_true rfl) hRl)⟩) hN hK hP hD rfl rfl rfl hl.1 (Nat.le_of_ble_eq_true rfl) ⟨hRc, hRs⟩ dL_number_51) hD hS hA rfl (fun H locs hP hD hS => ?_)
      refine z_if_le (tgt := 61) hx hb dL_number_54 (by decide) (by omega) (fun c_3 => absurd c_3 (by omega)) (fun c_3 => ?_)
      refine z_iconst hx hb dL_number_57 ?_
      refine lv_goto (tgt := 62) hx hb dL_number_58 (by decide) ?_
      exact hret q1 _ _ _ _ ⟨hRq1, hsq1, (m0 + 1), ⟨by omega, by omega, by omega⟩, hxq1⟩ dL_number_62 hP hD hS
    · refine lv_aload_n hx hb dL_number_26 rfl (lv_at hl 0 rfl) ?_
      refine z_bipush hx hb dL_number_27 (by decide +kernel) ?_
      refine lv_iload_n hx hb dL_number_29 rfl (lv_at hl 1 rfl) ?_
      refine z_bipush hx hb dL_number_30 (by decide +kernel) ?_
      refine z_idiv hx hb dL_number_32 (by omega) (by omega) ?_
      refine z_bipush hx hb dL_number_33 (by decide +kernel) ?_
      refine z_irem hx hb dL_number_35 (by omega) (by omega) ?_
      refine z_iadd hx hb dL_number_36 ?_
      obtain ⟨q1, mxq1, hRq1, hsq1, hxq1⟩ := sc_type l D xo xh t ta cI cC cH h (48 + ((v / 10) % 10)) (by omega) hm (by omega)
      have hxq1 : TX q1 (m0 + 1) i0 d0 := by have e0 := hxq1; rw [if_neg (by omega), if_neg (by omega), Int.add_zero, Int.add_zero] at e0; exact e0
      refine mw_full (st1 := [.int (iI (m0 + 1))]) (mr_V (As := [.int (iI (48 + ((v / 10) % 10)))]) (rest := []) (ci := 2) (q0 := 0) ⟨hx, hb, hml, hown, hts⟩ mxq1 (cwV 1 hts (gV q_385 q_386 q_387 q_37 q_310) rfl rfl rfl (by decide +kernel) ⟨Nat.le_trans (m := 3) (Nat.le_of_ble_eq_true rfl) (Nat.le_trans (Nat.le_of_ble_eq_true rfl) hRf), Nat.le_trans (m := 64) (Nat.le_of_ble_eq_true rfl) (Nat.le_trans (Nat.le_of_ble_eq_true rfl) hRl)⟩) hN hK hP hD rfl rfl rfl hl.1 (Nat.le_of_ble_eq_true rfl) ⟨hRc, hRs⟩ dL_number_37) hD hS hA rfl (fun H locs hP hD hS => ?_)
      refine z_if_le (tgt := 61) hx hb dL_number_40 (by decide) (by omega) (fun c_4 => absurd c_4 (by omega)) (fun c_4 => ?_)
      refine lv_aload_n hx hb dL_number_43 rfl (lv_at hl 0 rfl) ?_
      refine z_bipush hx hb dL_number_44 (by decide +kernel) ?_
      refine lv_iload_n hx hb dL_number_46 rfl (lv_at hl 1 rfl) ?_
      refine z_bipush hx hb dL_number_47 (by decide +kernel) ?_
      refine z_irem hx hb dL_number_49 (by omega) (by omega) ?_
      refine z_iadd hx hb dL_number_50 ?_
      obtain ⟨q2, mxq2, hRq2, hsq2, hxq2⟩ := sc_type l D xo xh t ta cI cC cH hRq1 (48 + (v % 10)) (by omega) hxq1 (by omega)
      have hxq2 : TX q2 ((m0 + 1) + 1) i0 d0 := by have e0 := hxq2; rw [if_neg (by omega), if_neg (by omega), Int.add_zero, Int.add_zero] at e0; exact e0
      refine mw_full (st1 := [.int (iI ((m0 + 1) + 1))]) (mr_V (As := [.int (iI (48 + (v % 10)))]) (rest := []) (ci := 2) (q0 := 0) ⟨hx, hb, hml, hown, hts⟩ mxq2 (cwV 1 hts (gV q_385 q_386 q_387 q_37 q_310) rfl rfl rfl (by decide +kernel) ⟨Nat.le_trans (m := 3) (Nat.le_of_ble_eq_true rfl) (Nat.le_trans (Nat.le_of_ble_eq_true rfl) hRf), Nat.le_trans (m := 64) (Nat.le_of_ble_eq_true rfl) (Nat.le_trans (Nat.le_of_ble_eq_true rfl) hRl)⟩) hN hK hP hD rfl rfl rfl hl.1 (Nat.le_of_ble_eq_true rfl) ⟨hRc, hRs⟩ dL_number_51) hD hS hA rfl (fun H locs hP hD hS => ?_)
      refine z_if_le (tgt := 61) hx hb dL_number_54 (by decide) (by omega) (fun c_5 => absurd c_5 (by omega)) (fun c_5 => ?_)
      refine z_iconst hx hb dL_number_57 ?_
      refine lv_goto (tgt := 62) hx hb dL_number_58 (by decide) ?_
      exact hret q2 _ _ _ _ ⟨hRq2, (Sme_tr hsq1 hsq2), ((m0 + 1) + 1), ⟨by omega, by omega, by omega⟩, hxq2⟩ dL_number_62 hP hD hS
  · refine lv_aload_n hx hb dL_number_6 rfl (lv_at hl 0 rfl) ?_
    refine z_bipush hx hb dL_number_7 (by decide +kernel) ?_
    refine lv_iload_n hx hb dL_number_9 rfl (lv_at hl 1 rfl) ?_
    refine z_bipush hx hb dL_number_10 (by decide +kernel) ?_
    refine z_idiv hx hb dL_number_12 (by omega) (by omega) ?_
    refine z_iadd hx hb dL_number_13 ?_
    obtain ⟨q1, mxq1, hRq1, hsq1, hxq1⟩ := sc_type l D xo xh t ta cI cC cH h (48 + (v / 100)) (by omega) hm (by omega)
    have hxq1 : TX q1 (m0 + 1) i0 d0 := by have e0 := hxq1; rw [if_neg (by omega), if_neg (by omega), Int.add_zero, Int.add_zero] at e0; exact e0
    refine mw_full (st1 := [.int (iI (m0 + 1))]) (mr_V (As := [.int (iI (48 + (v / 100)))]) (rest := []) (ci := 2) (q0 := 0) ⟨hx, hb, hml, hown, hts⟩ mxq1 (cwV 1 hts (gV q_385 q_386 q_387 q_37 q_310) rfl rfl rfl (by decide +kernel) ⟨Nat.le_trans (m := 3) (Nat.le_of_ble_eq_true rfl) (Nat.le_trans (Nat.le_of_ble_eq_true rfl) hRf), Nat.le_trans (m := 64) (Nat.le_of_ble_eq_true rfl) (Nat.le_trans (Nat.le_of_ble_eq_true rfl) hRl)⟩) hN hK hP hD rfl rfl rfl hl.1 (Nat.le_of_ble_eq_true rfl) ⟨hRc, hRs⟩ dL_number_14) hD hS hA rfl (fun H locs hP hD hS => ?_)
    refine z_if_le (tgt := 61) hx hb dL_number_17 (by decide) (by omega) (fun c_6 => absurd c_6 (by omega)) (fun c_6 => ?_)
    refine lv_iload_n hx hb dL_number_20 rfl (lv_at hl 1 rfl) ?_
    refine z_bipush hx hb dL_number_21 (by decide +kernel) ?_
    refine z_icmp_lt (tgt := 43) hx hb dL_number_23 (by decide) (by omega) (by omega) (fun c_7 => ?_) (fun c_7 => ?_)
    · refine lv_aload_n hx hb dL_number_43 rfl (lv_at hl 0 rfl) ?_
      refine z_bipush hx hb dL_number_44 (by decide +kernel) ?_
      refine lv_iload_n hx hb dL_number_46 rfl (lv_at hl 1 rfl) ?_
      refine z_bipush hx hb dL_number_47 (by decide +kernel) ?_
      refine z_irem hx hb dL_number_49 (by omega) (by omega) ?_
      refine z_iadd hx hb dL_number_50 ?_
      obtain ⟨q2, mxq2, hRq2, hsq2, hxq2⟩ := sc_type l D xo xh t ta cI cC cH hRq1 (48 + (v % 10)) (by omega) hxq1 (by omega)
      have hxq2 : TX q2 ((m0 + 1) + 1) i0 d0 := by have e0 := hxq2; rw [if_neg (by omega), if_neg (by omega), Int.add_zero, Int.add_zero] at e0; exact e0
      refine mw_full (st1 := [.int (iI ((m0 + 1) + 1))]) (mr_V (As := [.int (iI (48 + (v % 10)))]) (rest := []) (ci := 2) (q0 := 0) ⟨hx, hb, hml, hown, hts⟩ mxq2 (cwV 1 hts (gV q_385 q_386 q_387 q_37 q_310) rfl rfl rfl (by decide +kernel) ⟨Nat.le_trans (m := 3) (Nat.le_of_ble_eq_true rfl) (Nat.le_trans (Nat.le_of_ble_eq_true rfl) hRf), Nat.le_trans (m := 64) (Nat.le_of_ble_eq_true rfl) (Nat.le_trans (Nat.le_of_ble_eq_true rfl) hRl)⟩) hN hK hP hD rfl rfl rfl hl.1 (Nat.le_of_ble_eq_true rfl) ⟨hRc, hRs⟩ dL_number_51) hD hS hA rfl (fun H locs hP hD hS => ?_)
      refine z_if_le (tgt := 61) hx hb dL_number_54 (by decide) (by omega) (fun c_8 => absurd c_8 (by omega)) (fun c_8 => ?_)
      refine z_iconst hx hb dL_number_57 ?_
      refine lv_goto (tgt := 62) hx hb dL_number_58 (by decide) ?_
      exact hret q2 _ _ _ _ ⟨hRq2, (Sme_tr hsq1 hsq2), ((m0 + 1) + 1), ⟨by omega, by omega, by omega⟩, hxq2⟩ dL_number_62 hP hD hS
    · refine lv_aload_n hx hb dL_number_26 rfl (lv_at hl 0 rfl) ?_
      refine z_bipush hx hb dL_number_27 (by decide +kernel) ?_
      refine lv_iload_n hx hb dL_number_29 rfl (lv_at hl 1 rfl) ?_
      refine z_bipush hx hb dL_number_30 (by decide +kernel) ?_
      refine z_idiv hx hb dL_number_32 (by omega) (by omega) ?_
      refine z_bipush hx hb dL_number_33 (by decide +kernel) ?_
      refine z_irem hx hb dL_number_35 (by omega) (by omega) ?_
      refine z_iadd hx hb dL_number_36 ?_
      obtain ⟨q2, mxq2, hRq2, hsq2, hxq2⟩ := sc_type l D xo xh t ta cI cC cH hRq1 (48 + ((v / 10) % 10)) (by omega) hxq1 (by omega)
      have hxq2 : TX q2 ((m0 + 1) + 1) i0 d0 := by have e0 := hxq2; rw [if_neg (by omega), if_neg (by omega), Int.add_zero, Int.add_zero] at e0; exact e0
      refine mw_full (st1 := [.int (iI ((m0 + 1) + 1))]) (mr_V (As := [.int (iI (48 + ((v / 10) % 10)))]) (rest := []) (ci := 2) (q0 := 0) ⟨hx, hb, hml, hown, hts⟩ mxq2 (cwV 1 hts (gV q_385 q_386 q_387 q_37 q_310) rfl rfl rfl (by decide +kernel) ⟨Nat.le_trans (m := 3) (Nat.le_of_ble_eq_true rfl) (Nat.le_trans (Nat.le_of_ble_eq_true rfl) hRf), Nat.le_trans (m := 64) (Nat.le_of_ble_eq_true rfl) (Nat.le_trans (Nat.le_of_ble_eq_true rfl) hRl)⟩) hN hK hP hD rfl rfl rfl hl.1 (Nat.le_of_ble_eq_true rfl) ⟨hRc, hRs⟩ dL_number_37) hD hS hA rfl (fun H locs hP hD hS => ?_)
      refine z_if_le (tgt := 61) hx hb dL_number_40 (by decide) (by omega) (fun c_9 => absurd c_9 (by omega)) (fun c_9 => ?_)
      refine lv_aload_n hx hb dL_number_43 rfl (lv_at hl 0 rfl) ?_
      refine z_bipush hx hb dL_number_44 (by decide +kernel) ?_
      refine lv_iload_n hx hb dL_number_46 rfl (lv_at hl 1 rfl) ?_
      refine z_bipush hx hb dL_number_47 (by decide +kernel) ?_
      refine z_irem hx hb dL_number_49 (by omega) (by omega) ?_
      refine z_iadd hx hb dL_number_50 ?_
      obtain ⟨q3, mxq3, hRq3, hsq3, hxq3⟩ := sc_type l D xo xh t ta cI cC cH hRq2 (48 + (v % 10)) (by omega) hxq2 (by omega)
      have hxq3 : TX q3 (((m0 + 1) + 1) + 1) i0 d0 := by have e0 := hxq3; rw [if_neg (by omega), if_neg (by omega), Int.add_zero, Int.add_zero] at e0; exact e0
      refine mw_full (st1 := [.int (iI (((m0 + 1) + 1) + 1))]) (mr_V (As := [.int (iI (48 + (v % 10)))]) (rest := []) (ci := 2) (q0 := 0) ⟨hx, hb, hml, hown, hts⟩ mxq3 (cwV 1 hts (gV q_385 q_386 q_387 q_37 q_310) rfl rfl rfl (by decide +kernel) ⟨Nat.le_trans (m := 3) (Nat.le_of_ble_eq_true rfl) (Nat.le_trans (Nat.le_of_ble_eq_true rfl) hRf), Nat.le_trans (m := 64) (Nat.le_of_ble_eq_true rfl) (Nat.le_trans (Nat.le_of_ble_eq_true rfl) hRl)⟩) hN hK hP hD rfl rfl rfl hl.1 (Nat.le_of_ble_eq_true rfl) ⟨hRc, hRs⟩ dL_number_51) hD hS hA rfl (fun H locs hP hD hS => ?_)
      refine z_if_le (tgt := 61) hx hb dL_number_54 (by decide) (by omega) (fun c_10 => absurd c_10 (by omega)) (fun c_10 => ?_)
      refine z_iconst hx hb dL_number_57 ?_
      refine lv_goto (tgt := 62) hx hb dL_number_58 (by decide) ?_
      exact hret q3 _ _ _ _ ⟨hRq3, (Sme_tr (Sme_tr hsq1 hsq2) hsq3), (((m0 + 1) + 1) + 1), ⟨by omega, by omega, by omega⟩, hxq3⟩ dL_number_62 hP hD hS
