set_option maxHeartbeats 4000000 in
set_option maxRecDepth 100000 in
theorem m_X0_passDays (l : Launch) (D : va_G) (g : Nat) (ad : Nat → Nat) (cI : ClassId) (G : Nat → Int → Int) (n last : Int) {B : Int} (hI : InvG B G) (h1 : 1 ≤ n ∧ n ≤ 99) (h2 : 9999 ≤ last ∧ last ≤ 1000000) (h3 : G 12 0 ≤ last - n) (h4 : B + 6 * n ≤ 100000000)  : MW l D yX0_passDays (wsY yX0_passDays cX0_passDays 6 (some .int)) { frames := 3, cells := 0, slots := 0, locals := 74 } [(cI, .int)] [.ref g, .int (iI n), .int (iI last)] (wG g ad cI G) (wG g ad cI (daysStZ G n.toNat)) (some (.int (iI (daysLostZ G n.toNat)))) := by
  refine mw_ofI (cc := cX0_passDays) (maxL := 6) (by decide) rfl (Nat.le_of_ble_eq_true rfl) ?_
  intro p e s m below meth c R A Q args ls hx hb hml hown hts hRf hRl hRc hRs hN hK hP hD hS hA hret hl
  have hq : ∀ w ∈ ALL, w.before args s = true := fun w h => hts w (List.mem_cons_of_mem _ h)
  have hl : lv_has ls 6 [(0, .ref g), (1, .int (iI n)), (2, .int (iI last))] := hl
  have hdd := invG_d hI
  obtain ⟨N, hN0⟩ : ∃ N : Nat, N = n.toNat := ⟨_, rfl⟩
  have hNn : (N : Int) = n := by omega
  refine lv_iload_n hx hb dX0_passDays_0 rfl (lv_at hl 1 rfl) ?_
  refine z_iconst hx hb dX0_passDays_1 ?_
  refine z_bipush hx hb dX0_passDays_2 (by decide +kernel) ?_
  refine mw_none (st1 := [.int (iI (outZ n 1 99))]) (mr_SN (As := [.int (iI n), .int (iI 1), .int (iI 99)]) (rest := []) ⟨hx, hb, hml, hown, hts⟩ (m_X2_isOutside l D n 1 99 (by omega) (by omega) (by omega)) ⟨va_cnB 3 hts (gSelf q_35) rfl rfl rfl hN.1 (hq _ q_37) (by decide +kernel) ⟨Nat.le_trans (m := 1) (Nat.le_of_ble_eq_true rfl) (Nat.le_trans (Nat.le_of_ble_eq_true rfl) hRf), Nat.le_trans (m := 22) (Nat.le_of_ble_eq_true rfl) (Nat.le_trans (Nat.le_of_ble_eq_true rfl) hRl)⟩, hq _ q_36, trivial⟩ hN (hK.sub (tys' := []) [] rfl) (va_P0 _ _ _) (va_D0 A) rfl hl.1 (Nat.le_of_ble_eq_true rfl) ⟨hRc, hRs⟩ dX0_passDays_4) hP hS hA rfl (fun H locs hP hS => ?_)
  have hf_1 : outZ n 1 99 = if n < 1 ∨ 99 < n then 1 else 0 := rfl
  refine z_if_eq (tgt := 13) hx hb dX0_passDays_7 (by decide) (by omega) (fun c_2 => ?_) (fun c_2 => absurd c_2 (by omega))
  refine lv_aload_n hx hb dX0_passDays_13 rfl (lv_at hl 0 rfl) ?_
  refine va_get (D := D) (ci := 0) (v := .int (iI (G 12 0))) (C := RX0) (T := TX0) (N := 13) hx hb hq inA0 hown hK hP 0 rfl rfl 12 (by decide) (hq _ q_5) (fun _ h9 => h9) rfl dX0_passDays_14 ?_
  refine lv_iload_n hx hb dX0_passDays_17 rfl (lv_at hl 2 rfl) ?_
  refine lv_iload_n hx hb dX0_passDays_18 rfl (lv_at hl 1 rfl) ?_
  refine z_isub hx hb dX0_passDays_19 ?_
  refine z_icmp_le (tgt := 26) hx hb dX0_passDays_20 (by decide) (by omega) (by omega) (fun c_3 => ?_) (fun c_3 => absurd c_3 (by omega))
  refine z_iconst hx hb dX0_passDays_26 ?_
  refine lv_istore_n (lv' := [(3, .int (iI 0)), (0, .ref g), (1, .int (iI n)), (2, .int (iI last))]) hx hb dX0_passDays_27 rfl hl (by decide) rfl (fun ls hl => ?_)
  refine z_iconst hx hb dX0_passDays_28 ?_
  refine lv_istore (lv' := [(4, .int (iI 0)), (3, .int (iI 0)), (0, .ref g), (1, .int (iI n)), (2, .int (iI last))]) hx hb dX0_passDays_29 hl (by decide) rfl (fun ls hl => ?_)
  have LP31 : ∀ (fu i : Nat), i ≤ N → N < fu + i → ∀ (H : Heap) (locs : List Loc) (ls : Array Slot), va_P D vwCl (wG g ad cI (daysStZ G i)) H → va_D A (wG g ad cI (daysStZ G i)) → va_S A s.heap H locs → lv_has ls 6 [(4, .int (iI (i : Int))), (3, .int (iI (daysLostZ G i))), (0, .ref g), (1, .int (iI n)), (2, .int (iI last))] → W p l e R s m args below meth c H locs 0 0 Q (F0 m 31 ls []) := by
    intro fu
    induction fu with
    | zero => intro i h1 h2; omega
    | succ fu ih31 =>
      intro i hi1 hif H locs ls hP hD hS hl
      have hIi := days_inv hI i (by omega) (by omega)
      have hdi := days_12 G i
      have hIt := drift_inv hIi
      have hdt := drift_12 (daysStZ G i)
      refine lv_iload hx hb dX0_passDays_31 (lv_at hl 0 rfl) ?_
      refine lv_iload_n hx hb dX0_passDays_33 rfl (lv_at hl 3 rfl) ?_
      refine z_icmp_ge (tgt := 106) hx hb dX0_passDays_34 (by decide) (by omega) (by omega) (fun c_4 => ?_) (fun c_4 => ?_)
      · have hiN : i = n.toNat := by omega
        refine lv_iload_n hx hb dX0_passDays_106 rfl (lv_at hl 1 rfl) ?_
        refine z_as (show (daysLostZ G i) = daysLostZ G n.toNat from by first | rfl | (rw [hiN])) ?_
        have eW0 : daysStZ G n.toNat = (daysStZ G i) := by rw [hiN]
        rw [← eW0] at hP hD
        first | exact hret _ _ _ _ dX0_passDays_107 hP hD hS | (exfalso; omega)
      · refine lv_aload_n hx hb dX0_passDays_37 rfl (lv_at hl 2 rfl) ?_
        refine mw_full (st1 := []) (mr_V (As := []) (rest := []) (ci := 0) (q0 := 0) ⟨hx, hb, hml, hown, hts⟩ (m_X0_drift l D g ad cI (daysStZ G i)  hIi) (cwV 0 hts (gV q_83 q_84 q_85 q_8 q_80) rfl rfl rfl (by decide +kernel) ⟨Nat.le_trans (m := 3) (Nat.le_of_ble_eq_true rfl) (Nat.le_trans (Nat.le_of_ble_eq_true rfl) hRf), Nat.le_trans (m := 65) (Nat.le_of_ble_eq_true rfl) (Nat.le_trans (Nat.le_of_ble_eq_true rfl) hRl)⟩) hN hK hP hD rfl rfl rfl hl.1 (Nat.le_of_ble_eq_true rfl) ⟨hRc, hRs⟩ dX0_passDays_38) hD hS hA rfl (fun H locs hP hD hS => ?_)
        refine lv_aload_n hx hb dX0_passDays_41 rfl (lv_at hl 2 rfl) ?_
        refine lv_dup hx hb dX0_passDays_42 rfl ?_
        refine va_get (D := D) (ci := 0) (v := .int (iI ((driftZ (daysStZ G i)) 12 0))) (C := RX0) (T := TX0) (N := 13) hx hb hq inA0 hown hK hP 0 rfl rfl 12 (by decide) (hq _ q_5) (fun _ h9 => h9) rfl dX0_passDays_43 ?_
        refine z_iconst hx hb dX0_passDays_46 ?_
        refine z_iadd hx hb dX0_passDays_47 ?_
        refine va_put (D := D) (ci := 0) (v := .int (iI (((driftZ (daysStZ G i)) 12 0) + 1))) (ty := .int) (C := RX0) (T := TX0) (N := 13) hx hb hq inA0 tyX0 tyX0_ok nmX0 hown hK hP hD hS 0 rfl rfl 12 (by decide) (hq _ q_5) (fun _ h9 => h9) rfl (by decide +kernel) rfl rfl (Nat.le_of_ble_eq_true rfl) dX0_passDays_48 (fun H locs hP hD hS => ?_)
        have hP : va_P D vwCl (wG g ad cI (upG (driftZ (daysStZ G i)) 12 0 (((driftZ (daysStZ G i)) 12 0) + 1))) H := hP
        have hD : va_D A (wG g ad cI (upG (driftZ (daysStZ G i)) 12 0 (((driftZ (daysStZ G i)) 12 0) + 1))) := hD
        refine z_iconst hx hb dX0_passDays_51 ?_
        refine lv_istore (lv' := [(5, .int (iI 0)), (4, .int (iI (i : Int))), (3, .int (iI (daysLostZ G i))), (0, .ref g), (1, .int (iI n)), (2, .int (iI last))]) hx hb dX0_passDays_52 hl (by decide) rfl (fun ls hl => ?_)
        have LP54 : ∀ (fu j : Nat), j ≤ 6 → 6 < fu + j → ∀ (H : Heap) (locs : List Loc) (ls : Array Slot), va_P D vwCl (wG g ad cI (dayStZ (tickZ (daysStZ G i)) j)) H → va_D A (wG g ad cI (dayStZ (tickZ (daysStZ G i)) j)) → va_S A s.heap H locs → lv_has ls 6 [(5, .int (iI (j : Int))), (4, .int (iI (i : Int))), (3, .int (iI (daysLostZ G i + dayLostZ (tickZ (daysStZ G i)) j))), (0, .ref g), (1, .int (iI n)), (2, .int (iI last))] → W p l e R s m args below meth c H locs 0 0 Q (F0 m 54 ls []) := by
          intro fu
          induction fu with
          | zero => intro j h1 h2; omega
          | succ fu ih54 =>
            intro j hj1 hjf H locs ls hP hD hS hl
            have hIj := dayRow_inv (tick_inv hIi (by omega)) (by omega) j (by omega)
            have hs2 := invG_s2 hIj
            refine lv_iload hx hb dX0_passDays_54 (lv_at hl 0 rfl) ?_
            refine z_bipush hx hb dX0_passDays_56 (by decide +kernel) ?_
            refine z_icmp_ge (tgt := 100) hx hb dX0_passDays_58 (by decide) (by omega) (by omega) (fun c_5 => ?_) (fun c_5 => ?_)
            · have hjN : j = 6 := by omega
              refine lv_iinc (v := iI ((i : Int) + 1)) (lv' := [(4, .int (iI ((i : Int) + 1))), (5, .int (iI (j : Int))), (3, .int (iI (daysLostZ G i + dayLostZ (tickZ (daysStZ G i)) j))), (0, .ref g), (1, .int (iI n)), (2, .int (iI last))]) hx hb dX0_passDays_100 hl (k := 1) rfl (iI_add _ _) (by decide) rfl (fun ls hl => ?_)
              refine lv_goto (tgt := 31) hx hb dX0_passDays_103 (by decide) ?_
              have e1_0 : (((i + 1 : Nat) : Int)) = ((i : Int) + 1) := by first | omega | (rw [hjN]; rfl)
              have e1_1 : ((daysLostZ G (i + 1))) = (daysLostZ G i + dayLostZ (tickZ (daysStZ G i)) j) := by first | omega | (rw [hjN]; rfl)
              have eG0 : (daysStZ G (i + 1)) = (dayStZ (tickZ (daysStZ G i)) j) := by (rw [hjN]; rfl)
              rw [← eG0] at hP hD
              exact ih31 (i + 1) (by omega) (by omega) _ _ _ hP hD hS (lv_to (lv_sub (l' := [(4, .int (iI ((i : Int) + 1))), (3, .int (iI (daysLostZ G i + dayLostZ (tickZ (daysStZ G i)) j))), (0, .ref g), (1, .int (iI n)), (2, .int (iI last))]) hl [0, 2, 3, 4, 5] rfl) (by simp only [e1_0, e1_1]))
            · refine lv_aload_n hx hb dX0_passDays_61 rfl (lv_at hl 3 rfl) ?_
              refine va_get (D := D) (ci := 0) (v := .ref (ad 11)) (C := RX0) (T := TX0) (N := 13) hx hb hq inA0 hown hK hP 0 rfl rfl 11 (by decide) (hq _ q_22) (fun _ h9 => h9) rfl dX0_passDays_62 ?_
              refine z_iconst hx hb dX0_passDays_65 ?_
              refine z_iald hx hb hK hP 12 0 rfl rfl (by omega) (by omega) (v := ((dayStZ (tickZ (daysStZ G i)) j) 11 2)) rfl dX0_passDays_66 ?_
              have hv_6 := invG_11 hIj 2 (by omega) (by omega)
              refine z_if_le (tgt := 94) hx hb dX0_passDays_67 (by decide) (by omega) (fun c_7 => ?_) (fun c_7 => ?_)
              · refine lv_iinc (v := iI ((j : Int) + 1)) (lv' := [(5, .int (iI ((j : Int) + 1))), (4, .int (iI (i : Int))), (3, .int (iI (daysLostZ G i + dayLostZ (tickZ (daysStZ G i)) j))), (0, .ref g), (1, .int (iI n)), (2, .int (iI last))]) hx hb dX0_passDays_94 hl (k := 0) rfl (iI_add _ _) (by decide) rfl (fun ls hl => ?_)
                refine lv_goto (tgt := 54) hx hb dX0_passDays_97 (by decide) ?_
                have e1_0 : (((j + 1 : Nat) : Int)) = ((j : Int) + 1) := by first | omega | (simp only [dayLostZ]; split <;> first | (exfalso; omega) | omega)
                have e1_1 : ((daysLostZ G i + dayLostZ (tickZ (daysStZ G i)) (j + 1))) = (daysLostZ G i + dayLostZ (tickZ (daysStZ G i)) j) := by first | omega | (simp only [dayLostZ]; split <;> first | (exfalso; omega) | omega)
                have eG0 : (dayStZ (tickZ (daysStZ G i)) (j + 1)) = (dayStZ (tickZ (daysStZ G i)) j) := by (simp only [dayStZ]; split <;> first | (exfalso; omega) | rfl)
                rw [← eG0] at hP hD
                exact ih54 (j + 1) (by omega) (by omega) _ _ _ hP hD hS (lv_to (lv_sub (l' := [(5, .int (iI ((j : Int) + 1))), (4, .int (iI (i : Int))), (3, .int (iI (daysLostZ G i + dayLostZ (tickZ (daysStZ G i)) j))), (0, .ref g), (1, .int (iI n)), (2, .int (iI last))]) hl [0, 1, 2, 3, 4, 5] rfl) (by simp only [e1_0, e1_1]))
              · refine lv_aload_n hx hb dX0_passDays_70 rfl (lv_at hl 3 rfl) ?_
                refine lv_iload hx hb dX0_passDays_71 (lv_at hl 0 rfl) ?_
                refine mw_full (st1 := [.int (iI (ageZ (dayStZ (tickZ (daysStZ G i)) j) (j : Int)))]) (mr_V (As := [.int (iI (j : Int))]) (rest := []) (ci := 0) (q0 := 0) ⟨hx, hb, hml, hown, hts⟩ (m_X0_age l D g ad cI (dayStZ (tickZ (daysStZ G i)) j) (j : Int) hIj (by omega)) (cwV 1 hts (gV q_86 q_87 q_88 q_8 q_81) rfl rfl rfl (by decide +kernel) ⟨Nat.le_trans (m := 1) (Nat.le_of_ble_eq_true rfl) (Nat.le_trans (Nat.le_of_ble_eq_true rfl) hRf), Nat.le_trans (m := 21) (Nat.le_of_ble_eq_true rfl) (Nat.le_trans (Nat.le_of_ble_eq_true rfl) hRl)⟩) hN hK hP hD rfl rfl rfl hl.1 (Nat.le_of_ble_eq_true rfl) ⟨hRc, hRs⟩ dX0_passDays_73) hD hS hA rfl (fun H locs hP hD hS => ?_)
                have hf_8 := age_bd hIj (j : Int) (by omega)
                refine lv_aload_n hx hb dX0_passDays_76 rfl (lv_at hl 3 rfl) ?_
                refine va_get (D := D) (ci := 0) (v := .ref (ad 11)) (C := RX0) (T := TX0) (N := 13) hx hb hq inA0 hown hK hP 0 rfl rfl 11 (by decide) (hq _ q_22) (fun _ h9 => h9) rfl dX0_passDays_77 ?_
                refine z_iconst hx hb dX0_passDays_80 ?_
                refine z_iald hx hb hK hP 12 0 rfl rfl (by omega) (by omega) (v := ((dayStZ (tickZ (daysStZ G i)) j) 11 2)) rfl dX0_passDays_81 ?_
                have hv_9 := invG_11 hIj 2 (by omega) (by omega)
                refine z_icmp_lt (tgt := 94) hx hb dX0_passDays_82 (by decide) (by omega) (by omega) (fun c_10 => ?_) (fun c_10 => ?_)
                · refine lv_iinc (v := iI ((j : Int) + 1)) (lv' := [(5, .int (iI ((j : Int) + 1))), (4, .int (iI (i : Int))), (3, .int (iI (daysLostZ G i + dayLostZ (tickZ (daysStZ G i)) j))), (0, .ref g), (1, .int (iI n)), (2, .int (iI last))]) hx hb dX0_passDays_94 hl (k := 0) rfl (iI_add _ _) (by decide) rfl (fun ls hl => ?_)
                  refine lv_goto (tgt := 54) hx hb dX0_passDays_97 (by decide) ?_
                  have e1_0 : (((j + 1 : Nat) : Int)) = ((j : Int) + 1) := by first | omega | (simp only [dayLostZ]; split <;> first | (exfalso; omega) | omega)
                  have e1_1 : ((daysLostZ G i + dayLostZ (tickZ (daysStZ G i)) (j + 1))) = (daysLostZ G i + dayLostZ (tickZ (daysStZ G i)) j) := by first | omega | (simp only [dayLostZ]; split <;> first | (exfalso; omega) | omega)
                  have eG0 : (dayStZ (tickZ (daysStZ G i)) (j + 1)) = (dayStZ (tickZ (daysStZ G i)) j) := by (simp only [dayStZ]; split <;> first | (exfalso; omega) | rfl)
                  rw [← eG0] at hP hD
                  exact ih54 (j + 1) (by omega) (by omega) _ _ _ hP hD hS (lv_to (lv_sub (l' := [(5, .int (iI ((j : Int) + 1))), (4, .int (iI (i : Int))), (3, .int (iI (daysLostZ G i + dayLostZ (tickZ (daysStZ G i)) j))), (0, .ref g), (1, .int (iI n)), (2, .int (iI last))]) hl [0, 1, 2, 3, 4, 5] rfl) (by simp only [e1_0, e1_1]))
                · refine lv_iload_n hx hb dX0_passDays_85 rfl (lv_at hl 2 rfl) ?_
                  refine lv_aload_n hx hb dX0_passDays_86 rfl (lv_at hl 3 rfl) ?_
                  refine lv_iload hx hb dX0_passDays_87 (lv_at hl 0 rfl) ?_
                  refine mw_full (st1 := [.int (iI (lostAnewZ (dayStZ (tickZ (daysStZ G i)) j) (j : Int))), .int (iI (daysLostZ G i + dayLostZ (tickZ (daysStZ G i)) j))]) (mr_V (As := [.int (iI (j : Int))]) (rest := [.int (iI (daysLostZ G i + dayLostZ (tickZ (daysStZ G i)) j))]) (ci := 0) (q0 := 0) ⟨hx, hb, hml, hown, hts⟩ (m_X0_writeAnew l D g ad cI (dayStZ (tickZ (daysStZ G i)) j) (j : Int) hIj (by omega) (by omega)) (cwV 1 hts (gV q_89 q_90 q_91 q_8 q_63) rfl rfl rfl (by decide +kernel) ⟨Nat.le_trans (m := 3) (Nat.le_of_ble_eq_true rfl) (Nat.le_trans (Nat.le_of_ble_eq_true rfl) hRf), Nat.le_trans (m := 74) (Nat.le_of_ble_eq_true rfl) (Nat.le_trans (Nat.le_of_ble_eq_true rfl) hRl)⟩) hN hK hP hD rfl rfl rfl hl.1 (Nat.le_of_ble_eq_true rfl) ⟨hRc, hRs⟩ dX0_passDays_89) hD hS hA rfl (fun H locs hP hD hS => ?_)
                  have hf_11 := lostAnew_bd (dayStZ (tickZ (daysStZ G i)) j) (j : Int)
                  refine z_iadd hx hb dX0_passDays_92 ?_
                  refine lv_istore_n (lv' := [(3, .int (iI ((daysLostZ G i + dayLostZ (tickZ (daysStZ G i)) j) + lostAnewZ (dayStZ (tickZ (daysStZ G i)) j) (j : Int)))), (5, .int (iI (j : Int))), (4, .int (iI (i : Int))), (0, .ref g), (1, .int (iI n)), (2, .int (iI last))]) hx hb dX0_passDays_93 rfl hl (by decide) rfl (fun ls hl => ?_)
                  refine lv_iinc (v := iI ((j : Int) + 1)) (lv' := [(5, .int (iI ((j : Int) + 1))), (3, .int (iI ((daysLostZ G i + dayLostZ (tickZ (daysStZ G i)) j) + lostAnewZ (dayStZ (tickZ (daysStZ G i)) j) (j : Int)))), (4, .int (iI (i : Int))), (0, .ref g), (1, .int (iI n)), (2, .int (iI last))]) hx hb dX0_passDays_94 hl (k := 1) rfl (iI_add _ _) (by decide) rfl (fun ls hl => ?_)
                  refine lv_goto (tgt := 54) hx hb dX0_passDays_97 (by decide) ?_
                  have e1_0 : (((j + 1 : Nat) : Int)) = ((j : Int) + 1) := by first | omega | (simp only [dayLostZ]; split <;> first | (exfalso; omega) | omega)
                  have e1_1 : ((daysLostZ G i + dayLostZ (tickZ (daysStZ G i)) (j + 1))) = ((daysLostZ G i + dayLostZ (tickZ (daysStZ G i)) j) + lostAnewZ (dayStZ (tickZ (daysStZ G i)) j) (j : Int)) := by first | omega | (simp only [dayLostZ]; split <;> first | (exfalso; omega) | omega)
                  have eG0 : (dayStZ (tickZ (daysStZ G i)) (j + 1)) = (writeAnewZ (dayStZ (tickZ (daysStZ G i)) j) (j : Int)) := by (simp only [dayStZ]; split <;> first | (exfalso; omega) | rfl)
                  rw [← eG0] at hP hD
                  exact ih54 (j + 1) (by omega) (by omega) _ _ _ hP hD hS (lv_to (lv_sub (l' := [(5, .int (iI ((j : Int) + 1))), (4, .int (iI (i : Int))), (3, .int (iI ((daysLostZ G i + dayLostZ (tickZ (daysStZ G i)) j) + lostAnewZ (dayStZ (tickZ (daysStZ G i)) j) (j : Int)))), (0, .ref g), (1, .int (iI n)), (2, .int (iI last))]) hl [0, 2, 1, 3, 4, 5] rfl) (by simp only [e1_0, e1_1]))
        have e0_0 : (((0 : Nat) : Int)) = 0 := by first | rfl | omega | (show daysLostZ G i + 0 = daysLostZ G i; omega)
        have e0_1 : ((daysLostZ G i + dayLostZ (tickZ (daysStZ G i)) (0))) = (daysLostZ G i) := by first | rfl | omega | (show daysLostZ G i + 0 = daysLostZ G i; omega)
        exact LP54 (6 + 1) 0 (by omega) (by omega) _ _ _ hP hD hS (lv_to (lv_sub (l' := [(5, .int (iI 0)), (4, .int (iI (i : Int))), (3, .int (iI (daysLostZ G i))), (0, .ref g), (1, .int (iI n)), (2, .int (iI last))]) hl [0, 1, 2, 3, 4, 5] rfl) (by simp only [e0_0, e0_1]))
  have e0_0 : (((0 : Nat) : Int)) = 0 := by first | rfl | omega
  have e0_1 : ((daysLostZ G (0))) = 0 := by first | rfl | omega
  exact LP31 (N + 1) 0 (by omega) (by omega) _ _ _ hP hD hS (lv_to (lv_sub (l' := [(4, .int (iI 0)), (3, .int (iI 0)), (0, .ref g), (1, .int (iI n)), (2, .int (iI last))]) hl [0, 1, 2, 3, 4] rfl) (by simp only [e0_0, e0_1]))
set_option maxHeartbeats 4000000 in
set_option maxRecDepth 100000 in
theorem m_X0_passDays_bad (l : Launch) (D : va_G) (g : Nat) (ad : Nat → Nat) (cI : ClassId) (G : Nat → Int → Int) (n last : Int) (h1 : -2147483648 ≤ n ∧ n < 2147483648) (h2 : -2147483648 ≤ last ∧ last < 2147483648) (hb0 : n < 1 ∨ 99 < n)  : MW l D yX0_passDays (wsY yX0_passDays cX0_passDays 6 (some .int)) { frames := 3, cells := 0, slots := 0, locals := 74 } [(cI, .int)] [.ref g, .int (iI n), .int (iI last)] (wG g ad cI G) (wG g ad cI G) (some (.int (iI (-1000001)))) := by
  refine mw_ofI (cc := cX0_passDays) (maxL := 6) (by decide) rfl (Nat.le_of_ble_eq_true rfl) ?_
  intro p e s m below meth c R A Q args ls hx hb hml hown hts hRf hRl hRc hRs hN hK hP hD hS hA hret hl
  have hq : ∀ w ∈ ALL, w.before args s = true := fun w h => hts w (List.mem_cons_of_mem _ h)
  have hl : lv_has ls 6 [(0, .ref g), (1, .int (iI n)), (2, .int (iI last))] := hl
  refine lv_iload_n hx hb dX0_passDays_0 rfl (lv_at hl 1 rfl) ?_
  refine z_iconst hx hb dX0_passDays_1 ?_
  refine z_bipush hx hb dX0_passDays_2 (by decide +kernel) ?_
  refine mw_none (st1 := [.int (iI (outZ n 1 99))]) (mr_SN (As := [.int (iI n), .int (iI 1), .int (iI 99)]) (rest := []) ⟨hx, hb, hml, hown, hts⟩ (m_X2_isOutside l D n 1 99 (by omega) (by omega) (by omega)) ⟨va_cnB 3 hts (gSelf q_35) rfl rfl rfl hN.1 (hq _ q_37) (by decide +kernel) ⟨Nat.le_trans (m := 1) (Nat.le_of_ble_eq_true rfl) (Nat.le_trans (Nat.le_of_ble_eq_true rfl) hRf), Nat.le_trans (m := 22) (Nat.le_of_ble_eq_true rfl) (Nat.le_trans (Nat.le_of_ble_eq_true rfl) hRl)⟩, hq _ q_36, trivial⟩ hN (hK.sub (tys' := []) [] rfl) (va_P0 _ _ _) (va_D0 A) rfl hl.1 (Nat.le_of_ble_eq_true rfl) ⟨hRc, hRs⟩ dX0_passDays_4) hP hS hA rfl (fun H locs hP hS => ?_)
  have hf_1 : outZ n 1 99 = if n < 1 ∨ 99 < n then 1 else 0 := rfl
  refine z_if_eq (tgt := 13) hx hb dX0_passDays_7 (by decide) (by omega) (fun c_2 => absurd c_2 (by omega)) (fun c_2 => ?_)
  refine z_ldc hx hb (-1000001) (by decide +kernel) hown (hq _ q_39) dX0_passDays_10 ?_
  refine z_as (show (-1000001) = -1000001 from by first | rfl | omega) ?_
  first | exact hret _ _ _ _ dX0_passDays_12 hP hD hS | (exfalso; omega)
set_option maxHeartbeats 4000000 in
set_option maxRecDepth 100000 in
theorem m_X0_passDays_late (l : Launch) (D : va_G) (g : Nat) (ad : Nat → Nat) (cI : ClassId) (G : Nat → Int → Int) (n last : Int) {B : Int} (hI : InvG B G) (h1 : 1 ≤ n ∧ n ≤ 99) (h2 : 9999 ≤ last ∧ last ≤ 1000000) (h3 : last - n < G 12 0)  : MW l D yX0_passDays (wsY yX0_passDays cX0_passDays 6 (some .int)) { frames := 3, cells := 0, slots := 0, locals := 74 } [(cI, .int)] [.ref g, .int (iI n), .int (iI last)] (wG g ad cI G) (wG g ad cI G) (some (.int (iI (-1000003)))) := by
  refine mw_ofI (cc := cX0_passDays) (maxL := 6) (by decide) rfl (Nat.le_of_ble_eq_true rfl) ?_
  intro p e s m below meth c R A Q args ls hx hb hml hown hts hRf hRl hRc hRs hN hK hP hD hS hA hret hl
  have hq : ∀ w ∈ ALL, w.before args s = true := fun w h => hts w (List.mem_cons_of_mem _ h)
  have hl : lv_has ls 6 [(0, .ref g), (1, .int (iI n)), (2, .int (iI last))] := hl
  have hdd := invG_d hI
  refine lv_iload_n hx hb dX0_passDays_0 rfl (lv_at hl 1 rfl) ?_
  refine z_iconst hx hb dX0_passDays_1 ?_
  refine z_bipush hx hb dX0_passDays_2 (by decide +kernel) ?_
  refine mw_none (st1 := [.int (iI (outZ n 1 99))]) (mr_SN (As := [.int (iI n), .int (iI 1), .int (iI 99)]) (rest := []) ⟨hx, hb, hml, hown, hts⟩ (m_X2_isOutside l D n 1 99 (by omega) (by omega) (by omega)) ⟨va_cnB 3 hts (gSelf q_35) rfl rfl rfl hN.1 (hq _ q_37) (by decide +kernel) ⟨Nat.le_trans (m := 1) (Nat.le_of_ble_eq_true rfl) (Nat.le_trans (Nat.le_of_ble_eq_true rfl) hRf), Nat.le_trans (m := 22) (Nat.le_of_ble_eq_true rfl) (Nat.le_trans (Nat.le_of_ble_eq_true rfl) hRl)⟩, hq _ q_36, trivial⟩ hN (hK.sub (tys' := []) [] rfl) (va_P0 _ _ _) (va_D0 A) rfl hl.1 (Nat.le_of_ble_eq_true rfl) ⟨hRc, hRs⟩ dX0_passDays_4) hP hS hA rfl (fun H locs hP hS => ?_)
  have hf_1 : outZ n 1 99 = if n < 1 ∨ 99 < n then 1 else 0 := rfl
  refine z_if_eq (tgt := 13) hx hb dX0_passDays_7 (by decide) (by omega) (fun c_2 => ?_) (fun c_2 => absurd c_2 (by omega))
  refine lv_aload_n hx hb dX0_passDays_13 rfl (lv_at hl 0 rfl) ?_
  refine va_get (D := D) (ci := 0) (v := .int (iI (G 12 0))) (C := RX0) (T := TX0) (N := 13) hx hb hq inA0 hown hK hP 0 rfl rfl 12 (by decide) (hq _ q_5) (fun _ h9 => h9) rfl dX0_passDays_14 ?_
  refine lv_iload_n hx hb dX0_passDays_17 rfl (lv_at hl 2 rfl) ?_
  refine lv_iload_n hx hb dX0_passDays_18 rfl (lv_at hl 1 rfl) ?_
  refine z_isub hx hb dX0_passDays_19 ?_
  refine z_icmp_le (tgt := 26) hx hb dX0_passDays_20 (by decide) (by omega) (by omega) (fun c_3 => absurd c_3 (by omega)) (fun c_3 => ?_)
  refine z_ldc hx hb (-1000003) (by decide +kernel) hown (hq _ q_82) dX0_passDays_23 ?_
  refine z_as (show (-1000003) = -1000003 from by first | rfl | omega) ?_
  first | exact hret _ _ _ _ dX0_passDays_25 hP hD hS | (exfalso; omega)
