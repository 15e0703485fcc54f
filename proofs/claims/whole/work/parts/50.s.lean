set_option maxHeartbeats 4000000 in
set_option maxRecDepth 100000 in
theorem m_X3_errorOfOrder (l : Launch) (D : va_G) (mo : Nat) (am : Nat → Nat) (cI : ClassId) (S : Nat → Int → Int) {B : Int} (hI : InvG B (gOf (S 0))) (hk : 0 ≤ S 10 0 ∧ S 10 0 ≤ 126) (ht : ∀ i : Int, 0 ≤ i → i < 3 → 0 ≤ S 11 i ∧ S 11 i ≤ 999)  : MW l D yX3_errorOfOrder (wsY yX3_errorOfOrder cX3_errorOfOrder 1 (some .int)) { frames := 3, cells := 0, slots := 0, locals := 65 } [(cI, .int)] [.ref mo] (wM mo am cI S) (wM mo am cI S) (some (.int (iI (eoV S)))) := by
  refine mw_ofI (cc := cX3_errorOfOrder) (maxL := 1) (by decide) rfl (Nat.le_of_ble_eq_true rfl) ?_
  intro p e s m below meth c R A Q args ls hx hb hml hown hts hRf hRl hRc hRs hN hK hP hD hS hA hret hl
  have hq : ∀ w ∈ ALL, w.before args s = true := fun w h => hts w (List.mem_cons_of_mem _ h)
  have hl : lv_has ls 1 [(0, .ref mo)] := hl
  have h110 := ht 0 (by omega) (by omega)
  have h111 := ht 1 (by omega) (by omega)
  have h112 := ht 2 (by omega) (by omega)
  refine lv_aload_n hx hb dX3_errorOfOrder_0 rfl (lv_at hl 0 rfl) ?_
  refine va_get (D := D) (ci := 3) (v := .int (iI (S 10 0))) (C := RX3) (T := TX3) (N := 14) hx hb hq inA3 hown hK hP 0 rfl rfl 10 (by decide) (hq _ q_572) (fun _ h9 => h9) rfl dX3_errorOfOrder_1 ?_
  have c_1 : ((S 10 0) ≠ 97 ∧ (S 10 0) ≠ 102 ∧ (S 10 0) ≠ 109 ∧ (S 10 0) ≠ 114 ∧ (S 10 0) ≠ 119) ∨ ((S 10 0) = 97 ∨ (S 10 0) = 102 ∨ (S 10 0) = 109 ∨ (S 10 0) = 114 ∨ (S 10 0) = 119) := by omega
  rcases c_1 with c_1 | c_1 | c_1 | c_1 | c_1 | c_1
  · refine lv_lookup (tgt := 153) (off := 149) hx hb dX3_errorOfOrder_4 (by decide) (by rw [iI_t (by omega)]; show (if (97 : Int) = (S 10 0) then (74 : Int) else (if (102 : Int) = (S 10 0) then (93 : Int) else (if (109 : Int) = (S 10 0) then (116 : Int) else (if (114 : Int) = (S 10 0) then (133 : Int) else (if (119 : Int) = (S 10 0) then (52 : Int) else 149))))) = 149; omega) (by decide) ?_
    refine lv_aload_n hx hb dX3_errorOfOrder_153 rfl (lv_at hl 0 rfl) ?_
    refine lv_aload_n hx hb dX3_errorOfOrder_154 rfl (lv_at hl 0 rfl) ?_
    refine va_get (D := D) (ci := 3) (v := .ref (am 11)) (C := RX3) (T := TX3) (N := 14) hx hb hq inA3 hown hK hP 0 rfl rfl 11 (by decide) (hq _ q_366) (fun _ h9 => h9) rfl dX3_errorOfOrder_155 ?_
    refine z_iconst hx hb dX3_errorOfOrder_158 ?_
    refine z_iald hx hb hK hP 6 0 rfl rfl (by omega) (by omega) (v := (S 11 0)) rfl dX3_errorOfOrder_159 ?_
    refine mw_full (st1 := [.int (iI (edV (gOf (S 0)) (S 11 0)))]) (mr_V (As := [.int (iI (S 11 0))]) (rest := []) (ci := 3) (q0 := 0) ⟨hx, hb, hml, hown, hts⟩ (m_X3_errorDays l D mo am cI S (S 11 0) hI (by omega)) (cwV 1 hts (gV q_484 q_485 q_486 q_345 q_459) rfl rfl rfl (by decide +kernel) ⟨Nat.le_trans (m := 2) (Nat.le_of_ble_eq_true rfl) (Nat.le_trans (Nat.le_of_ble_eq_true rfl) hRf), Nat.le_trans (m := 43) (Nat.le_of_ble_eq_true rfl) (Nat.le_trans (Nat.le_of_ble_eq_true rfl) hRl)⟩) hN hK hP hD rfl rfl rfl hl.1 (Nat.le_of_ble_eq_true rfl) ⟨hRc, hRs⟩ dX3_errorOfOrder_160) hD hS hA rfl (fun H locs hP hD hS => ?_)
    have hf_2 : edV (gOf (S 0)) (S 11 0) = if 1 ≤ (S 11 0) ∧ (S 11 0) ≤ 99 then (if 9999 - (S 11 0) < (gOf (S 0)) 12 0 then -1000003 else 0) else -1000001 := rfl
    refine z_as (show edV (gOf (S 0)) (S 11 0) = eoV S from by first | rfl | omega | (unfold eoV; omega) | (subst_vars; unfold eoV; omega) | (subst_vars; simp [eoV])) ?_
    first | exact hret _ _ _ _ dX3_errorOfOrder_163 hP hD hS | (exfalso; omega)
  · refine lv_lookup (tgt := 78) (off := 74) hx hb dX3_errorOfOrder_4 (by decide) (by rw [iI_t (by omega), c_1]; rfl) (by decide) ?_
    refine lv_aload_n hx hb dX3_errorOfOrder_78 rfl (lv_at hl 0 rfl) ?_
    refine va_get (D := D) (ci := 3) (v := .ref (am 11)) (C := RX3) (T := TX3) (N := 14) hx hb hq inA3 hown hK hP 0 rfl rfl 11 (by decide) (hq _ q_366) (fun _ h9 => h9) rfl dX3_errorOfOrder_79 ?_
    refine z_iconst hx hb dX3_errorOfOrder_82 ?_
    refine z_iald hx hb hK hP 6 0 rfl rfl (by omega) (by omega) (v := (S 11 0)) rfl dX3_errorOfOrder_83 ?_
    refine mw_none (st1 := [.int (iI (if 0 ≤ (S 11 0) ∧ (S 11 0) ≤ 5 then 1 else 0 : Int))]) (mr_S (As := [.int (iI (S 11 0))]) (rest := []) ⟨hx, hb, hml, hown, hts⟩ (m_X3_isRow l D (S 11 0) (by omega)) (va_cwS 1 hts (gS q_388 q_389 q_345 q_382) rfl rfl rfl (by decide +kernel) ⟨Nat.le_trans (m := 2) (Nat.le_of_ble_eq_true rfl) (Nat.le_trans (Nat.le_of_ble_eq_true rfl) hRf), Nat.le_trans (m := 42) (Nat.le_of_ble_eq_true rfl) (Nat.le_trans (Nat.le_of_ble_eq_true rfl) hRl)⟩) hN (hK.sub (tys' := []) [] rfl) (va_P0 _ _ _) (va_D0 A) rfl hl.1 (Nat.le_of_ble_eq_true rfl) ⟨hRc, hRs⟩ dX3_errorOfOrder_84) hP hS hA rfl (fun H locs hP hS => ?_)
    refine z_if_eq (tgt := 94) hx hb dX3_errorOfOrder_87 (by decide) (by omega) (fun c_3 => ?_) (fun c_3 => ?_)
    · refine z_ldc hx hb (-1000001) (by decide +kernel) hown (hq _ q_448) dX3_errorOfOrder_94 ?_
      refine z_as (show (-1000001) = eoV S from by first | rfl | omega | (unfold eoV; omega) | (subst_vars; unfold eoV; omega) | (subst_vars; simp [eoV])) ?_
      first | exact hret _ _ _ _ dX3_errorOfOrder_96 hP hD hS | (exfalso; omega)
    · refine z_iconst hx hb dX3_errorOfOrder_90 ?_
      refine lv_goto (tgt := 96) hx hb dX3_errorOfOrder_91 (by decide) ?_
      refine z_as (show 0 = eoV S from by first | rfl | omega | (unfold eoV; omega) | (subst_vars; unfold eoV; omega) | (subst_vars; simp [eoV])) ?_
      first | exact hret _ _ _ _ dX3_errorOfOrder_96 hP hD hS | (exfalso; omega)
  · refine lv_lookup (tgt := 97) (off := 93) hx hb dX3_errorOfOrder_4 (by decide) (by rw [iI_t (by omega), c_1]; rfl) (by decide) ?_
    refine lv_aload_n hx hb dX3_errorOfOrder_97 rfl (lv_at hl 0 rfl) ?_
    refine lv_aload_n hx hb dX3_errorOfOrder_98 rfl (lv_at hl 0 rfl) ?_
    refine va_get (D := D) (ci := 3) (v := .ref (am 11)) (C := RX3) (T := TX3) (N := 14) hx hb hq inA3 hown hK hP 0 rfl rfl 11 (by decide) (hq _ q_366) (fun _ h9 => h9) rfl dX3_errorOfOrder_99 ?_
    refine z_iconst hx hb dX3_errorOfOrder_102 ?_
    refine z_iald hx hb hK hP 6 0 rfl rfl (by omega) (by omega) (v := (S 11 0)) rfl dX3_errorOfOrder_103 ?_
    refine lv_aload_n hx hb dX3_errorOfOrder_104 rfl (lv_at hl 0 rfl) ?_
    refine va_get (D := D) (ci := 3) (v := .ref (am 11)) (C := RX3) (T := TX3) (N := 14) hx hb hq inA3 hown hK hP 0 rfl rfl 11 (by decide) (hq _ q_366) (fun _ h9 => h9) rfl dX3_errorOfOrder_105 ?_
    refine z_iconst hx hb dX3_errorOfOrder_108 ?_
    refine z_iald hx hb hK hP 6 0 rfl rfl (by omega) (by omega) (v := (S 11 1)) rfl dX3_errorOfOrder_109 ?_
    refine lv_aload_n hx hb dX3_errorOfOrder_110 rfl (lv_at hl 0 rfl) ?_
    refine va_get (D := D) (ci := 3) (v := .ref (am 11)) (C := RX3) (T := TX3) (N := 14) hx hb hq inA3 hown hK hP 0 rfl rfl 11 (by decide) (hq _ q_366) (fun _ h9 => h9) rfl dX3_errorOfOrder_111 ?_
    refine z_iconst hx hb dX3_errorOfOrder_114 ?_
    refine z_iald hx hb hK hP 6 0 rfl rfl (by omega) (by omega) (v := (S 11 2)) rfl dX3_errorOfOrder_115 ?_
    refine mw_full (st1 := [.int (iI (efV (gOf (S 0)) (S 11 0) (S 11 1) (S 11 2)))]) (mr_V (As := [.int (iI (S 11 0)), .int (iI (S 11 1)), .int (iI (S 11 2))]) (rest := []) (ci := 3) (q0 := 0) ⟨hx, hb, hml, hown, hts⟩ (m_X3_errorFail l D mo am cI S (S 11 0) (S 11 1) (S 11 2) hI (by omega) (by omega) (by omega)) (cwV 3 hts (gV q_470 q_471 q_472 q_345 q_455) rfl rfl rfl (by decide +kernel) ⟨Nat.le_trans (m := 3) (Nat.le_of_ble_eq_true rfl) (Nat.le_trans (Nat.le_of_ble_eq_true rfl) hRf), Nat.le_trans (m := 65) (Nat.le_of_ble_eq_true rfl) (Nat.le_trans (Nat.le_of_ble_eq_true rfl) hRl)⟩) hN hK hP hD rfl rfl rfl hl.1 (Nat.le_of_ble_eq_true rfl) ⟨hRc, hRs⟩ dX3_errorOfOrder_116) hD hS hA rfl (fun H locs hP hD hS => ?_)
    have hf_4 : efV (gOf (S 0)) (S 11 0) (S 11 1) (S 11 2) = if 0 ≤ (S 11 0) ∧ (S 11 0) < 6 ∧ 0 ≤ (S 11 1) ∧ (S 11 1) < 3 ∧ 0 ≤ (S 11 2) ∧ (S 11 2) ≤ 999 then (if (gOf (S 0)) 5 (3 * (S 11 0) + (S 11 1)) = 0 then 0 else -1000002) else -1000001 := rfl
    refine z_as (show efV (gOf (S 0)) (S 11 0) (S 11 1) (S 11 2) = eoV S from by first | rfl | omega | (unfold eoV; omega) | (subst_vars; unfold eoV; omega) | (subst_vars; simp [eoV])) ?_
    first | exact hret _ _ _ _ dX3_errorOfOrder_119 hP hD hS | (exfalso; omega)
  · refine lv_lookup (tgt := 120) (off := 116) hx hb dX3_errorOfOrder_4 (by decide) (by rw [iI_t (by omega), c_1]; rfl) (by decide) ?_
    refine lv_aload_n hx hb dX3_errorOfOrder_120 rfl (lv_at hl 0 rfl) ?_
    refine lv_aload_n hx hb dX3_errorOfOrder_121 rfl (lv_at hl 0 rfl) ?_
    refine va_get (D := D) (ci := 3) (v := .ref (am 11)) (C := RX3) (T := TX3) (N := 14) hx hb hq inA3 hown hK hP 0 rfl rfl 11 (by decide) (hq _ q_366) (fun _ h9 => h9) rfl dX3_errorOfOrder_122 ?_
    refine z_iconst hx hb dX3_errorOfOrder_125 ?_
    refine z_iald hx hb hK hP 6 0 rfl rfl (by omega) (by omega) (v := (S 11 0)) rfl dX3_errorOfOrder_126 ?_
    refine lv_aload_n hx hb dX3_errorOfOrder_127 rfl (lv_at hl 0 rfl) ?_
    refine va_get (D := D) (ci := 3) (v := .ref (am 11)) (C := RX3) (T := TX3) (N := 14) hx hb hq inA3 hown hK hP 0 rfl rfl 11 (by decide) (hq _ q_366) (fun _ h9 => h9) rfl dX3_errorOfOrder_128 ?_
    refine z_iconst hx hb dX3_errorOfOrder_131 ?_
    refine z_iald hx hb hK hP 6 0 rfl rfl (by omega) (by omega) (v := (S 11 1)) rfl dX3_errorOfOrder_132 ?_
    refine mw_full (st1 := [.int (iI (emV (gOf (S 0)) (S 11 0) (S 11 1)))]) (mr_V (As := [.int (iI (S 11 0)), .int (iI (S 11 1))]) (rest := []) (ci := 3) (q0 := 0) ⟨hx, hb, hml, hown, hts⟩ (m_X3_errorMend l D mo am cI S (S 11 0) (S 11 1) hI (by omega) (by omega)) (cwV 2 hts (gV q_477 q_478 q_479 q_345 q_456) rfl rfl rfl (by decide +kernel) ⟨Nat.le_trans (m := 3) (Nat.le_of_ble_eq_true rfl) (Nat.le_trans (Nat.le_of_ble_eq_true rfl) hRf), Nat.le_trans (m := 64) (Nat.le_of_ble_eq_true rfl) (Nat.le_trans (Nat.le_of_ble_eq_true rfl) hRl)⟩) hN hK hP hD rfl rfl rfl hl.1 (Nat.le_of_ble_eq_true rfl) ⟨hRc, hRs⟩ dX3_errorOfOrder_133) hD hS hA rfl (fun H locs hP hD hS => ?_)
    have hf_5 : emV (gOf (S 0)) (S 11 0) (S 11 1) = if 0 ≤ (S 11 0) ∧ (S 11 0) < 6 ∧ 0 ≤ (S 11 1) ∧ (S 11 1) < 3 then (if (gOf (S 0)) 5 (3 * (S 11 0) + (S 11 1)) = 0 then -1000002 else 0) else -1000001 := rfl
    refine z_as (show emV (gOf (S 0)) (S 11 0) (S 11 1) = eoV S from by first | rfl | omega | (unfold eoV; omega) | (subst_vars; unfold eoV; omega) | (subst_vars; simp [eoV])) ?_
    first | exact hret _ _ _ _ dX3_errorOfOrder_136 hP hD hS | (exfalso; omega)
  · refine lv_lookup (tgt := 137) (off := 133) hx hb dX3_errorOfOrder_4 (by decide) (by rw [iI_t (by omega), c_1]; rfl) (by decide) ?_
    refine lv_aload_n hx hb dX3_errorOfOrder_137 rfl (lv_at hl 0 rfl) ?_
    refine va_get (D := D) (ci := 3) (v := .ref (am 11)) (C := RX3) (T := TX3) (N := 14) hx hb hq inA3 hown hK hP 0 rfl rfl 11 (by decide) (hq _ q_366) (fun _ h9 => h9) rfl dX3_errorOfOrder_138 ?_
    refine z_iconst hx hb dX3_errorOfOrder_141 ?_
    refine z_iald hx hb hK hP 6 0 rfl rfl (by omega) (by omega) (v := (S 11 0)) rfl dX3_errorOfOrder_142 ?_
    refine lv_aload_n hx hb dX3_errorOfOrder_143 rfl (lv_at hl 0 rfl) ?_
    refine va_get (D := D) (ci := 3) (v := .ref (am 11)) (C := RX3) (T := TX3) (N := 14) hx hb hq inA3 hown hK hP 0 rfl rfl 11 (by decide) (hq _ q_366) (fun _ h9 => h9) rfl dX3_errorOfOrder_144 ?_
    refine z_iconst hx hb dX3_errorOfOrder_147 ?_
    refine z_iald hx hb hK hP 6 0 rfl rfl (by omega) (by omega) (v := (S 11 1)) rfl dX3_errorOfOrder_148 ?_
    refine mw_none (st1 := [.int (iI (erV (S 11 0) (S 11 1)))]) (mr_S (As := [.int (iI (S 11 0)), .int (iI (S 11 1))]) (rest := []) ⟨hx, hb, hml, hown, hts⟩ (m_X3_errorRate l D (S 11 0) (S 11 1) (by omega) (by omega)) (va_cwS 2 hts (gS q_481 q_482 q_345 q_457) rfl rfl rfl (by decide +kernel) ⟨Nat.le_trans (m := 3) (Nat.le_of_ble_eq_true rfl) (Nat.le_trans (Nat.le_of_ble_eq_true rfl) hRf), Nat.le_trans (m := 63) (Nat.le_of_ble_eq_true rfl) (Nat.le_trans (Nat.le_of_ble_eq_true rfl) hRl)⟩) hN (hK.sub (tys' := []) [] rfl) (va_P0 _ _ _) (va_D0 A) rfl hl.1 (Nat.le_of_ble_eq_true rfl) ⟨hRc, hRs⟩ dX3_errorOfOrder_149) hP hS hA rfl (fun H locs hP hS => ?_)
    have hf_6 : erV (S 11 0) (S 11 1) = if 0 ≤ (S 11 0) ∧ (S 11 0) < 6 ∧ 1 ≤ (S 11 1) ∧ (S 11 1) ≤ 200 then 0 else -1000001 := rfl
    refine z_as (show erV (S 11 0) (S 11 1) = eoV S from by first | rfl | omega | (unfold eoV; omega) | (subst_vars; unfold eoV; omega) | (subst_vars; simp [eoV])) ?_
    first | exact hret _ _ _ _ dX3_errorOfOrder_152 hP hD hS | (exfalso; omega)
  · refine lv_lookup (tgt := 56) (off := 52) hx hb dX3_errorOfOrder_4 (by decide) (by rw [iI_t (by omega), c_1]; rfl) (by decide) ?_
    refine lv_aload_n hx hb dX3_errorOfOrder_56 rfl (lv_at hl 0 rfl) ?_
    refine va_get (D := D) (ci := 3) (v := .ref (am 11)) (C := RX3) (T := TX3) (N := 14) hx hb hq inA3 hown hK hP 0 rfl rfl 11 (by decide) (hq _ q_366) (fun _ h9 => h9) rfl dX3_errorOfOrder_57 ?_
    refine z_iconst hx hb dX3_errorOfOrder_60 ?_
    refine z_iald hx hb hK hP 6 0 rfl rfl (by omega) (by omega) (v := (S 11 0)) rfl dX3_errorOfOrder_61 ?_
    refine lv_aload_n hx hb dX3_errorOfOrder_62 rfl (lv_at hl 0 rfl) ?_
    refine va_get (D := D) (ci := 3) (v := .ref (am 11)) (C := RX3) (T := TX3) (N := 14) hx hb hq inA3 hown hK hP 0 rfl rfl 11 (by decide) (hq _ q_366) (fun _ h9 => h9) rfl dX3_errorOfOrder_63 ?_
    refine z_iconst hx hb dX3_errorOfOrder_66 ?_
    refine z_iald hx hb hK hP 6 0 rfl rfl (by omega) (by omega) (v := (S 11 1)) rfl dX3_errorOfOrder_67 ?_
    refine lv_aload_n hx hb dX3_errorOfOrder_68 rfl (lv_at hl 0 rfl) ?_
    refine va_get (D := D) (ci := 3) (v := .ref (am 11)) (C := RX3) (T := TX3) (N := 14) hx hb hq inA3 hown hK hP 0 rfl rfl 11 (by decide) (hq _ q_366) (fun _ h9 => h9) rfl dX3_errorOfOrder_69 ?_
    refine z_iconst hx hb dX3_errorOfOrder_72 ?_
    refine z_iald hx hb hK hP 6 0 rfl rfl (by omega) (by omega) (v := (S 11 2)) rfl dX3_errorOfOrder_73 ?_
    refine mw_none (st1 := [.int (iI (ewV (S 11 0) (S 11 1) (S 11 2)))]) (mr_S (As := [.int (iI (S 11 0)), .int (iI (S 11 1)), .int (iI (S 11 2))]) (rest := []) ⟨hx, hb, hml, hown, hts⟩ (m_X3_errorWrite l D (S 11 0) (S 11 1) (S 11 2) (by omega) (by omega) (by omega)) (va_cwS 3 hts (gS q_461 q_462 q_345 q_453) rfl rfl rfl (by decide +kernel) ⟨Nat.le_trans (m := 3) (Nat.le_of_ble_eq_true rfl) (Nat.le_trans (Nat.le_of_ble_eq_true rfl) hRf), Nat.le_trans (m := 64) (Nat.le_of_ble_eq_true rfl) (Nat.le_trans (Nat.le_of_ble_eq_true rfl) hRl)⟩) hN (hK.sub (tys' := []) [] rfl) (va_P0 _ _ _) (va_D0 A) rfl hl.1 (Nat.le_of_ble_eq_true rfl) ⟨hRc, hRs⟩ dX3_errorOfOrder_74) hP hS hA rfl (fun H locs hP hS => ?_)
    have hf_7 : ewV (S 11 0) (S 11 1) (S 11 2) = if 0 ≤ (S 11 0) ∧ (S 11 0) < 6 ∧ 0 ≤ (S 11 1) ∧ (S 11 1) < 8 ∧ 0 ≤ (S 11 2) ∧ (S 11 2) < 3 then 0 else -1000001 := rfl
    refine z_as (show ewV (S 11 0) (S 11 1) (S 11 2) = eoV S from by first | rfl | omega | (unfold eoV; omega) | (subst_vars; unfold eoV; omega) | (subst_vars; simp [eoV])) ?_
    first | exact hret _ _ _ _ dX3_errorOfOrder_77 hP hD hS | (exfalso; omega)
set_option maxHeartbeats 4000000 in
set_option maxRecDepth 100000 in
theorem m_X3_doesOrder (l : Launch) (D : va_G) (mo : Nat) (am : Nat → Nat) (cI : ClassId) (S : Nat → Int → Int) {B : Int} (hI : InvG B (gOf (S 0))) (hk : 0 ≤ S 10 0 ∧ S 10 0 ≤ 126) (ht : ∀ i : Int, 0 ≤ i → i < 3 → 0 ≤ S 11 i ∧ S 11 i ≤ 999) (hl6 : S 10 0 = 119 ∨ S 10 0 = 97 ∨ S 10 0 = 102 ∨ S 10 0 = 109 ∨ S 10 0 = 114 ∨ S 10 0 = 100) (hB : B + 594 ≤ 100000000) (he : eoV S = 0)  : MW l D yX3_doesOrder (wsY yX3_doesOrder cX3_doesOrder 2 none) { frames := 9, cells := 0, slots := 0, locals := 200 } [(cI, .int)] [.ref mo] (wM mo am cI S) (wM mo am cI (doS S)) none := by
  refine mw_ofV (cc := cX3_doesOrder) (maxL := 2) (by decide) rfl (Nat.le_of_ble_eq_true rfl) ?_
  intro p e s m below meth c R A Q args ls hx hb hml hown hts hRf hRl hRc hRs hN hK hP hD hS hA hret hl
  have hq : ∀ w ∈ ALL, w.before args s = true := fun w h => hts w (List.mem_cons_of_mem _ h)
  have hl : lv_has ls 2 [(0, .ref mo)] := hl
  have h110 := ht 0 (by omega) (by omega)
  have h111 := ht 1 (by omega) (by omega)
  have h112 := ht 2 (by omega) (by omega)
  have hw1 : ewV (S 11 0) (S 11 1) (S 11 2) = if 0 ≤ S 11 0 ∧ S 11 0 < 6 ∧ 0 ≤ S 11 1 ∧ S 11 1 < 8 ∧ 0 ≤ S 11 2 ∧ S 11 2 < 3 then 0 else -1000001 := rfl
  have hw2 : efV (gOf (S 0)) (S 11 0) (S 11 1) (S 11 2) = if 0 ≤ S 11 0 ∧ S 11 0 < 6 ∧ 0 ≤ S 11 1 ∧ S 11 1 < 3 ∧ 0 ≤ S 11 2 ∧ S 11 2 ≤ 999 then (if gOf (S 0) 5 (3 * S 11 0 + S 11 1) = 0 then 0 else -1000002) else -1000001 := rfl
  have hw3 : emV (gOf (S 0)) (S 11 0) (S 11 1) = if 0 ≤ S 11 0 ∧ S 11 0 < 6 ∧ 0 ≤ S 11 1 ∧ S 11 1 < 3 then (if gOf (S 0) 5 (3 * S 11 0 + S 11 1) = 0 then -1000002 else 0) else -1000001 := rfl
  have hw4 : erV (S 11 0) (S 11 1) = if 0 ≤ S 11 0 ∧ S 11 0 < 6 ∧ 1 ≤ S 11 1 ∧ S 11 1 ≤ 200 then 0 else -1000001 := rfl
  have hw5 : edV (gOf (S 0)) (S 11 0) = if 1 ≤ S 11 0 ∧ S 11 0 ≤ 99 then (if 9999 - S 11 0 < gOf (S 0) 12 0 then -1000003 else 0) else -1000001 := rfl
  have he1 := he
  unfold eoV at he1
  have hdd := invG_d hI
  refine z_iconst hx hb dX3_doesOrder_0 ?_
  refine lv_istore_n (lv' := [(1, .int (iI 0)), (0, .ref mo)]) hx hb dX3_doesOrder_1 rfl hl (by decide) rfl (fun ls hl => ?_)
  refine lv_aload_n hx hb dX3_doesOrder_2 rfl (lv_at hl 1 rfl) ?_
  refine va_get (D := D) (ci := 3) (v := .int (iI (S 10 0))) (C := RX3) (T := TX3) (N := 14) hx hb hq inA3 hown hK hP 0 rfl rfl 10 (by decide) (hq _ q_572) (fun _ h9 => h9) rfl dX3_doesOrder_3 ?_
  have c_1 : ((S 10 0) ≠ 97 ∧ (S 10 0) ≠ 102 ∧ (S 10 0) ≠ 109 ∧ (S 10 0) ≠ 114 ∧ (S 10 0) ≠ 119) ∨ ((S 10 0) = 97 ∨ (S 10 0) = 102 ∨ (S 10 0) = 109 ∨ (S 10 0) = 114 ∨ (S 10 0) = 119) := by omega
  rcases c_1 with c_1 | c_1 | c_1 | c_1 | c_1 | c_1
  · refine lv_lookup (tgt := 164) (off := 158) hx hb dX3_doesOrder_6 (by decide) (by rw [iI_t (by omega)]; show (if (97 : Int) = (S 10 0) then (76 : Int) else (if (102 : Int) = (S 10 0) then (90 : Int) else (if (109 : Int) = (S 10 0) then (115 : Int) else (if (114 : Int) = (S 10 0) then (138 : Int) else (if (119 : Int) = (S 10 0) then (50 : Int) else 158))))) = 158; omega) (by decide) ?_
    refine lv_aload_n hx hb dX3_doesOrder_164 rfl (lv_at hl 1 rfl) ?_
    refine lv_aload_n hx hb dX3_doesOrder_165 rfl (lv_at hl 1 rfl) ?_
    refine va_get (D := D) (ci := 3) (v := .ref (am 11)) (C := RX3) (T := TX3) (N := 14) hx hb hq inA3 hown hK hP 0 rfl rfl 11 (by decide) (hq _ q_366) (fun _ h9 => h9) rfl dX3_doesOrder_166 ?_
    refine z_iconst hx hb dX3_doesOrder_169 ?_
    refine z_iald hx hb hK hP 6 0 rfl rfl (by omega) (by omega) (v := (S 11 0)) rfl dX3_doesOrder_170 ?_
    refine mw_full (st1 := [.int (iI (esL S (S 11 0).toNat))]) (mr_V (As := [.int (iI (S 11 0))]) (rest := []) (ci := 3) (q0 := 0) ⟨hx, hb, hml, hown, hts⟩ (m_X3_endsDays l D mo am cI S (S 11 0) hI (by omega) (by omega) (by omega)) (cwV 1 hts (gV q_487 q_488 q_489 q_345 q_447) rfl rfl rfl (by decide +kernel) ⟨Nat.le_trans (m := 9) (Nat.le_of_ble_eq_true rfl) (Nat.le_trans (Nat.le_of_ble_eq_true rfl) hRf), Nat.le_trans (m := 200) (Nat.le_of_ble_eq_true rfl) (Nat.le_trans (Nat.le_of_ble_eq_true rfl) hRl)⟩) hN hK hP hD rfl rfl rfl hl.1 (Nat.le_of_ble_eq_true rfl) ⟨hRc, hRs⟩ dX3_doesOrder_171) hD hS hA rfl (fun H locs hP hD hS => ?_)
    have hf_2 := esL_bd S (S 11 0).toNat
    refine lv_istore_n (lv' := [(1, .int (iI (esL S (S 11 0).toNat))), (0, .ref mo)]) hx hb dX3_doesOrder_174 rfl hl (by decide) rfl (fun ls hl => ?_)
    have eW0 : doS S = (esS S (S 11 0).toNat) := by (unfold doS; first | rw [if_pos (by omega)] | rw [if_neg (by omega), if_pos (by omega)] | rw [if_neg (by omega), if_neg (by omega), if_pos (by omega)] | rw [if_neg (by omega), if_neg (by omega), if_neg (by omega), if_pos (by omega)] | rw [if_neg (by omega), if_neg (by omega), if_neg (by omega), if_neg (by omega), if_pos (by omega)] | rw [if_neg (by omega), if_neg (by omega), if_neg (by omega), if_neg (by omega), if_neg (by omega)])
    rw [← eW0] at hP hD
    first | exact hret _ _ _ _ dX3_doesOrder_175 hP hD hS | (exfalso; omega)
  · refine lv_lookup (tgt := 82) (off := 76) hx hb dX3_doesOrder_6 (by decide) (by rw [iI_t (by omega), c_1]; rfl) (by decide) ?_
    refine lv_aload_n hx hb dX3_doesOrder_82 rfl (lv_at hl 1 rfl) ?_
    refine lv_aload_n hx hb dX3_doesOrder_83 rfl (lv_at hl 1 rfl) ?_
    refine va_get (D := D) (ci := 3) (v := .ref (am 11)) (C := RX3) (T := TX3) (N := 14) hx hb hq inA3 hown hK hP 0 rfl rfl 11 (by decide) (hq _ q_366) (fun _ h9 => h9) rfl dX3_doesOrder_84 ?_
    refine z_iconst hx hb dX3_doesOrder_87 ?_
    refine z_iald hx hb hK hP 6 0 rfl rfl (by omega) (by omega) (v := (S 11 0)) rfl dX3_doesOrder_88 ?_
    refine mw_full (st1 := [.int (iI (wrongZ (gOf (S 0)) (S 11 0)))]) (mr_V (As := [.int (iI (S 11 0))]) (rest := []) (ci := 3) (q0 := 0) ⟨hx, hb, hml, hown, hts⟩ (m_X3_writesAnew l D mo am cI S (S 11 0) hI (by omega) (by omega)) (cwV 1 hts (gV q_440 q_441 q_442 q_345 q_425) rfl rfl rfl (by decide +kernel) ⟨Nat.le_trans (m := 7) (Nat.le_of_ble_eq_true rfl) (Nat.le_trans (Nat.le_of_ble_eq_true rfl) hRf), Nat.le_trans (m := 155) (Nat.le_of_ble_eq_true rfl) (Nat.le_trans (Nat.le_of_ble_eq_true rfl) hRl)⟩) hN hK hP hD rfl rfl rfl hl.1 (Nat.le_of_ble_eq_true rfl) ⟨hRc, hRs⟩ dX3_doesOrder_89) hD hS hA rfl (fun H locs hP hD hS => ?_)
    have hf_3 := wrongZ_bd (gOf (S 0)) (S 11 0)
    refine lv_istore_n (lv' := [(1, .int (iI (wrongZ (gOf (S 0)) (S 11 0)))), (0, .ref mo)]) hx hb dX3_doesOrder_92 rfl hl (by decide) rfl (fun ls hl => ?_)
    refine lv_goto (tgt := 175) hx hb dX3_doesOrder_93 (by decide) ?_
    have eW0 : doS S = (waS S (S 11 0)) := by (unfold doS; first | rw [if_pos (by omega)] | rw [if_neg (by omega), if_pos (by omega)] | rw [if_neg (by omega), if_neg (by omega), if_pos (by omega)] | rw [if_neg (by omega), if_neg (by omega), if_neg (by omega), if_pos (by omega)] | rw [if_neg (by omega), if_neg (by omega), if_neg (by omega), if_neg (by omega), if_pos (by omega)] | rw [if_neg (by omega), if_neg (by omega), if_neg (by omega), if_neg (by omega), if_neg (by omega)])
    rw [← eW0] at hP hD
    first | exact hret _ _ _ _ dX3_doesOrder_175 hP hD hS | (exfalso; omega)
  · refine lv_lookup (tgt := 96) (off := 90) hx hb dX3_doesOrder_6 (by decide) (by rw [iI_t (by omega), c_1]; rfl) (by decide) ?_
    refine lv_aload_n hx hb dX3_doesOrder_96 rfl (lv_at hl 1 rfl) ?_
    refine lv_aload_n hx hb dX3_doesOrder_97 rfl (lv_at hl 1 rfl) ?_
    refine va_get (D := D) (ci := 3) (v := .ref (am 11)) (C := RX3) (T := TX3) (N := 14) hx hb hq inA3 hown hK hP 0 rfl rfl 11 (by decide) (hq _ q_366) (fun _ h9 => h9) rfl dX3_doesOrder_98 ?_
    refine z_iconst hx hb dX3_doesOrder_101 ?_
    refine z_iald hx hb hK hP 6 0 rfl rfl (by omega) (by omega) (v := (S 11 0)) rfl dX3_doesOrder_102 ?_
    refine lv_aload_n hx hb dX3_doesOrder_103 rfl (lv_at hl 1 rfl) ?_
    refine va_get (D := D) (ci := 3) (v := .ref (am 11)) (C := RX3) (T := TX3) (N := 14) hx hb hq inA3 hown hK hP 0 rfl rfl 11 (by decide) (hq _ q_366) (fun _ h9 => h9) rfl dX3_doesOrder_104 ?_
    refine z_iconst hx hb dX3_doesOrder_107 ?_
    refine z_iald hx hb hK hP 6 0 rfl rfl (by omega) (by omega) (v := (S 11 1)) rfl dX3_doesOrder_108 ?_
    refine lv_aload_n hx hb dX3_doesOrder_109 rfl (lv_at hl 1 rfl) ?_
    refine va_get (D := D) (ci := 3) (v := .ref (am 11)) (C := RX3) (T := TX3) (N := 14) hx hb hq inA3 hown hK hP 0 rfl rfl 11 (by decide) (hq _ q_366) (fun _ h9 => h9) rfl dX3_doesOrder_110 ?_
    refine z_iconst hx hb dX3_doesOrder_113 ?_
    refine z_iald hx hb hK hP 6 0 rfl rfl (by omega) (by omega) (v := (S 11 2)) rfl dX3_doesOrder_114 ?_
    refine mw_full (st1 := []) (mr_V (As := [.int (iI (S 11 0)), .int (iI (S 11 1)), .int (iI (S 11 2))]) (rest := []) (ci := 3) (q0 := 0) ⟨hx, hb, hml, hown, hts⟩ (m_X3_goFail l D mo am cI S (S 11 0) (S 11 1) (S 11 2) (by omega) (by omega)) (cwV 3 hts (gV q_473 q_474 q_475 q_345 q_460) rfl rfl rfl (by decide +kernel) ⟨Nat.le_trans (m := 2) (Nat.le_of_ble_eq_true rfl) (Nat.le_trans (Nat.le_of_ble_eq_true rfl) hRf), Nat.le_trans (m := 46) (Nat.le_of_ble_eq_true rfl) (Nat.le_trans (Nat.le_of_ble_eq_true rfl) hRl)⟩) hN hK hP hD rfl rfl rfl hl.1 (Nat.le_of_ble_eq_true rfl) ⟨hRc, hRs⟩ dX3_doesOrder_115) hD hS hA rfl (fun H locs hP hD hS => ?_)
    refine lv_goto (tgt := 175) hx hb dX3_doesOrder_118 (by decide) ?_
    have eW0 : doS S = (lyZ (lyZ S 4 (3 * (S 11 0) + (S 11 1)) (S 11 2)) 5 (3 * (S 11 0) + (S 11 1)) 1) := by (unfold doS; first | rw [if_pos (by omega)] | rw [if_neg (by omega), if_pos (by omega)] | rw [if_neg (by omega), if_neg (by omega), if_pos (by omega)] | rw [if_neg (by omega), if_neg (by omega), if_neg (by omega), if_pos (by omega)] | rw [if_neg (by omega), if_neg (by omega), if_neg (by omega), if_neg (by omega), if_pos (by omega)] | rw [if_neg (by omega), if_neg (by omega), if_neg (by omega), if_neg (by omega), if_neg (by omega)])
    rw [← eW0] at hP hD
    first | exact hret _ _ _ _ dX3_doesOrder_175 hP hD hS | (exfalso; omega)
  · refine lv_lookup (tgt := 121) (off := 115) hx hb dX3_doesOrder_6 (by decide) (by rw [iI_t (by omega), c_1]; rfl) (by decide) ?_
    refine lv_aload_n hx hb dX3_doesOrder_121 rfl (lv_at hl 1 rfl) ?_
    refine lv_aload_n hx hb dX3_doesOrder_122 rfl (lv_at hl 1 rfl) ?_
    refine va_get (D := D) (ci := 3) (v := .ref (am 11)) (C := RX3) (T := TX3) (N := 14) hx hb hq inA3 hown hK hP 0 rfl rfl 11 (by decide) (hq _ q_366) (fun _ h9 => h9) rfl dX3_doesOrder_123 ?_
    refine z_iconst hx hb dX3_doesOrder_126 ?_
    refine z_iald hx hb hK hP 6 0 rfl rfl (by omega) (by omega) (v := (S 11 0)) rfl dX3_doesOrder_127 ?_
    refine z_bipush hx hb dX3_doesOrder_128 (by decide +kernel) ?_
    refine lv_aload_n hx hb dX3_doesOrder_130 rfl (lv_at hl 1 rfl) ?_
    refine va_get (D := D) (ci := 3) (v := .ref (am 11)) (C := RX3) (T := TX3) (N := 14) hx hb hq inA3 hown hK hP 0 rfl rfl 11 (by decide) (hq _ q_366) (fun _ h9 => h9) rfl dX3_doesOrder_131 ?_
    refine z_iconst hx hb dX3_doesOrder_134 ?_
    refine z_iald hx hb hK hP 6 0 rfl rfl (by omega) (by omega) (v := (S 11 1)) rfl dX3_doesOrder_135 ?_
    refine z_iadd hx hb dX3_doesOrder_136 ?_
    refine z_iconst hx hb dX3_doesOrder_137 ?_
    refine mw_full (st1 := []) (mr_V (As := [.int (iI (S 11 0)), .int (iI (7 + (S 11 1))), .int (iI 0)]) (rest := []) (ci := 3) (q0 := 0) ⟨hx, hb, hml, hown, hts⟩ (m_X3_lays l D mo am cI S (S 11 0) (7 + (S 11 1)) 0 5 (3 * (S 11 0) + (S 11 1)) (ix_of5 (r := (S 11 0)) (by omega) (by omega))) (cwV 3 hts (gV q_348 q_349 q_350 q_345 q_339) rfl rfl rfl (by decide +kernel) ⟨Nat.le_trans (m := 1) (Nat.le_of_ble_eq_true rfl) (Nat.le_trans (Nat.le_of_ble_eq_true rfl) hRf), Nat.le_trans (m := 23) (Nat.le_of_ble_eq_true rfl) (Nat.le_trans (Nat.le_of_ble_eq_true rfl) hRl)⟩) hN hK hP hD rfl rfl rfl hl.1 (Nat.le_of_ble_eq_true rfl) ⟨hRc, hRs⟩ dX3_doesOrder_138) hD hS hA rfl (fun H locs hP hD hS => ?_)
    skip
    refine lv_goto (tgt := 175) hx hb dX3_doesOrder_141 (by decide) ?_
    have eW0 : doS S = (lyZ S 5 (3 * (S 11 0) + (S 11 1)) 0) := by (unfold doS; first | rw [if_pos (by omega)] | rw [if_neg (by omega), if_pos (by omega)] | rw [if_neg (by omega), if_neg (by omega), if_pos (by omega)] | rw [if_neg (by omega), if_neg (by omega), if_neg (by omega), if_pos (by omega)] | rw [if_neg (by omega), if_neg (by omega), if_neg (by omega), if_neg (by omega), if_pos (by omega)] | rw [if_neg (by omega), if_neg (by omega), if_neg (by omega), if_neg (by omega), if_neg (by omega)])
    rw [← eW0] at hP hD
    first | exact hret _ _ _ _ dX3_doesOrder_175 hP hD hS | (exfalso; omega)
  · refine lv_lookup (tgt := 144) (off := 138) hx hb dX3_doesOrder_6 (by decide) (by rw [iI_t (by omega), c_1]; rfl) (by decide) ?_
    refine lv_aload_n hx hb dX3_doesOrder_144 rfl (lv_at hl 1 rfl) ?_
    refine lv_aload_n hx hb dX3_doesOrder_145 rfl (lv_at hl 1 rfl) ?_
    refine va_get (D := D) (ci := 3) (v := .ref (am 11)) (C := RX3) (T := TX3) (N := 14) hx hb hq inA3 hown hK hP 0 rfl rfl 11 (by decide) (hq _ q_366) (fun _ h9 => h9) rfl dX3_doesOrder_146 ?_
    refine z_iconst hx hb dX3_doesOrder_149 ?_
    refine z_iald hx hb hK hP 6 0 rfl rfl (by omega) (by omega) (v := (S 11 0)) rfl dX3_doesOrder_150 ?_
    refine z_iconst hx hb dX3_doesOrder_151 ?_
    refine lv_aload_n hx hb dX3_doesOrder_152 rfl (lv_at hl 1 rfl) ?_
    refine va_get (D := D) (ci := 3) (v := .ref (am 11)) (C := RX3) (T := TX3) (N := 14) hx hb hq inA3 hown hK hP 0 rfl rfl 11 (by decide) (hq _ q_366) (fun _ h9 => h9) rfl dX3_doesOrder_153 ?_
    refine z_iconst hx hb dX3_doesOrder_156 ?_
    refine z_iald hx hb hK hP 6 0 rfl rfl (by omega) (by omega) (v := (S 11 1)) rfl dX3_doesOrder_157 ?_
    refine mw_full (st1 := []) (mr_V (As := [.int (iI (S 11 0)), .int (iI 0), .int (iI (S 11 1))]) (rest := []) (ci := 3) (q0 := 0) ⟨hx, hb, hml, hown, hts⟩ (m_X3_lays l D mo am cI S (S 11 0) 0 (S 11 1) 6 (S 11 0) (ix_ofr 6 (by omega) (by omega) (by omega))) (cwV 3 hts (gV q_348 q_349 q_350 q_345 q_339) rfl rfl rfl (by decide +kernel) ⟨Nat.le_trans (m := 1) (Nat.le_of_ble_eq_true rfl) (Nat.le_trans (Nat.le_of_ble_eq_true rfl) hRf), Nat.le_trans (m := 23) (Nat.le_of_ble_eq_true rfl) (Nat.le_trans (Nat.le_of_ble_eq_true rfl) hRl)⟩) hN hK hP hD rfl rfl rfl hl.1 (Nat.le_of_ble_eq_true rfl) ⟨hRc, hRs⟩ dX3_doesOrder_158) hD hS hA rfl (fun H locs hP hD hS => ?_)
    skip
    refine lv_goto (tgt := 175) hx hb dX3_doesOrder_161 (by decide) ?_
    have eW0 : doS S = (lyZ S 6 (S 11 0) (S 11 1)) := by (unfold doS; first | rw [if_pos (by omega)] | rw [if_neg (by omega), if_pos (by omega)] | rw [if_neg (by omega), if_neg (by omega), if_pos (by omega)] | rw [if_neg (by omega), if_neg (by omega), if_neg (by omega), if_pos (by omega)] | rw [if_neg (by omega), if_neg (by omega), if_neg (by omega), if_neg (by omega), if_pos (by omega)] | rw [if_neg (by omega), if_neg (by omega), if_neg (by omega), if_neg (by omega), if_neg (by omega)])
    rw [← eW0] at hP hD
    first | exact hret _ _ _ _ dX3_doesOrder_175 hP hD hS | (exfalso; omega)
  · refine lv_lookup (tgt := 56) (off := 50) hx hb dX3_doesOrder_6 (by decide) (by rw [iI_t (by omega), c_1]; rfl) (by decide) ?_
    refine lv_aload_n hx hb dX3_doesOrder_56 rfl (lv_at hl 1 rfl) ?_
    refine lv_aload_n hx hb dX3_doesOrder_57 rfl (lv_at hl 1 rfl) ?_
    refine va_get (D := D) (ci := 3) (v := .ref (am 11)) (C := RX3) (T := TX3) (N := 14) hx hb hq inA3 hown hK hP 0 rfl rfl 11 (by decide) (hq _ q_366) (fun _ h9 => h9) rfl dX3_doesOrder_58 ?_
    refine z_iconst hx hb dX3_doesOrder_61 ?_
    refine z_iald hx hb hK hP 6 0 rfl rfl (by omega) (by omega) (v := (S 11 0)) rfl dX3_doesOrder_62 ?_
    refine lv_aload_n hx hb dX3_doesOrder_63 rfl (lv_at hl 1 rfl) ?_
    refine va_get (D := D) (ci := 3) (v := .ref (am 11)) (C := RX3) (T := TX3) (N := 14) hx hb hq inA3 hown hK hP 0 rfl rfl 11 (by decide) (hq _ q_366) (fun _ h9 => h9) rfl dX3_doesOrder_64 ?_
    refine z_iconst hx hb dX3_doesOrder_67 ?_
    refine z_iald hx hb hK hP 6 0 rfl rfl (by omega) (by omega) (v := (S 11 1)) rfl dX3_doesOrder_68 ?_
    refine lv_aload_n hx hb dX3_doesOrder_69 rfl (lv_at hl 1 rfl) ?_
    refine va_get (D := D) (ci := 3) (v := .ref (am 11)) (C := RX3) (T := TX3) (N := 14) hx hb hq inA3 hown hK hP 0 rfl rfl 11 (by decide) (hq _ q_366) (fun _ h9 => h9) rfl dX3_doesOrder_70 ?_
    refine z_iconst hx hb dX3_doesOrder_73 ?_
    refine z_iald hx hb hK hP 6 0 rfl rfl (by omega) (by omega) (v := (S 11 2)) rfl dX3_doesOrder_74 ?_
    refine mw_full (st1 := [.int (iI (aimZ (S 11 2) + ((37 * (8 * (S 11 0) + (S 11 1)) + 11 * (gOf (S 0)) 2 (8 * (S 11 0) + (S 11 1))) % 21 - 10)))]) (mr_V (As := [.int (iI (S 11 0)), .int (iI (S 11 1)), .int (iI (S 11 2))]) (rest := []) (ci := 3) (q0 := 0) ⟨hx, hb, hml, hown, hts⟩ (m_X3_writes l D mo am cI S (S 11 0) (S 11 1) (S 11 2) hI (by omega) (by omega)) (cwV 3 hts (gV q_370 q_371 q_372 q_345 q_360) rfl rfl rfl (by decide +kernel) ⟨Nat.le_trans (m := 3) (Nat.le_of_ble_eq_true rfl) (Nat.le_trans (Nat.le_of_ble_eq_true rfl) hRf), Nat.le_trans (m := 72) (Nat.le_of_ble_eq_true rfl) (Nat.le_trans (Nat.le_of_ble_eq_true rfl) hRl)⟩) hN hK hP hD rfl rfl rfl hl.1 (Nat.le_of_ble_eq_true rfl) ⟨hRc, hRs⟩ dX3_doesOrder_75) hD hS hA rfl (fun H locs hP hD hS => ?_)
    refine lv_istore_n (lv' := [(1, .int (iI (aimZ (S 11 2) + ((37 * (8 * (S 11 0) + (S 11 1)) + 11 * (gOf (S 0)) 2 (8 * (S 11 0) + (S 11 1))) % 21 - 10)))), (0, .ref mo)]) hx hb dX3_doesOrder_78 rfl hl (by decide) rfl (fun ls hl => ?_)
    refine lv_goto (tgt := 175) hx hb dX3_doesOrder_79 (by decide) ?_
    have eW0 : doS S = (wrS S (S 11 0) (S 11 1) (S 11 2)) := by (unfold doS; first | rw [if_pos (by omega)] | rw [if_neg (by omega), if_pos (by omega)] | rw [if_neg (by omega), if_neg (by omega), if_pos (by omega)] | rw [if_neg (by omega), if_neg (by omega), if_neg (by omega), if_pos (by omega)] | rw [if_neg (by omega), if_neg (by omega), if_neg (by omega), if_neg (by omega), if_pos (by omega)] | rw [if_neg (by omega), if_neg (by omega), if_neg (by omega), if_neg (by omega), if_neg (by omega)])
    rw [← eW0] at hP hD
    first | exact hret _ _ _ _ dX3_doesOrder_175 hP hD hS | (exfalso; omega)
