set_option maxHeartbeats 8000000 in
set_option maxRecDepth 100000 in
theorem m_L_would (l : Launch) (D : va_G) (xo xh t : Nat) (ta : Nat → Nat) (cI cC cH : ClassId) {k : Nat} {q : SS} (h : CR k q) (hk : k < 100) (x : Int) (h_x : -2147483648 ≤ x ∧ x < 2147483648) : ME l D yL_would (wsY yL_would cL_would 7 (some .boolean)) { frames := 6, cells := 0, slots := 0, locals := 142 } (tyS cI cC cH) [.ref xo, .int (iI x)] (wS xo xh t ta cI cC cH q) (fun q' : SS => CR k q' ∧ Sme q q') (fun q' : SS => wS xo xh t ta cI cC cH q') (some (.int (iI 1))) := by
  refine me_ofZ (cc := cL_would) (maxL := 7) rfl (by decide) rfl (Nat.le_of_ble_eq_true rfl) ?_
  intro p e s m below meth c R A Q args ls hx hb hml hown hts hRf hRl hRc hRs hN hK hP hD hS hA hret hl
  have hq : ∀ w ∈ ALL, w.before args s = true := fun w h => hts w (List.mem_cons_of_mem _ h)
  have hl : lv_has ls 7 [(0, .ref xo), (1, .int (iI x))] := hl
  refine lv_iload_n hx hb dL_would_0 rfl (lv_at hl 1 rfl) ?_
  refine z_bipush hx hb dL_would_1 (by decide +kernel) ?_
  refine mw_none (st1 := [.int (iI (lowZ x (7 : Int)))]) (mr_S (As := [.int (iI x), .int (iI 7)]) (rest := []) ⟨hx, hb, hml, hown, hts⟩ (m_L_low l D x (7 : Int) (by omega)) (va_cwS 2 hts (gS q_372 q_373 q_374 q_341) rfl rfl rfl (by decide +kernel) ⟨Nat.le_trans (m := 1) (Nat.le_of_ble_eq_true rfl) (Nat.le_trans (Nat.le_of_ble_eq_true rfl) hRf), Nat.le_trans (m := 21) (Nat.le_of_ble_eq_true rfl) (Nat.le_trans (Nat.le_of_ble_eq_true rfl) hRl)⟩) hN (hK.sub (tys' := []) [] rfl) (va_P0 _ _ _) (va_D0 A) rfl hl.1 (Nat.le_of_ble_eq_true rfl) ⟨hRc, hRs⟩ dL_would_3) hP hS hA rfl (fun H locs hP hS => ?_)
  have hv_1 := low_bd x (n := 7) (by omega)
  obtain ⟨rw0, e_rw0⟩ : ∃ z : Int, z = (lowZ x (7 : Int)) := ⟨_, rfl⟩
  refine z_as e_rw0.symm ?_
  refine lv_istore_n (lv' := [(2, .int (iI rw0)), (0, .ref xo), (1, .int (iI x))]) hx hb dL_would_6 rfl hl (by decide) rfl (fun ls hl => ?_)
  rcases (show (0 ≤ rw0 ∧ rw0 < 6) ∨ (rw0 = 6) from by omega) with hsp_2 | hsp_2
  · refine lv_aload_n hx hb dL_would_7 rfl (lv_at hl 1 rfl) ?_
    refine lv_iload_n hx hb dL_would_8 rfl (lv_at hl 0 rfl) ?_
    obtain ⟨q1, mxq1, hRq1, hsq1, hTq1⟩ := sc_wrongIn l D xo xh t ta cI cC cH h (by omega) rw0 (by omega)
    refine mw_full (st1 := [.int (iI (fstZ (fun i : Nat => wrongZ (daysStZ (SS.G q) i) rw0) 301 0))]) (mr_V (As := [.int (iI rw0)]) (rest := []) (ci := 2) (q0 := 0) ⟨hx, hb, hml, hown, hts⟩ mxq1 (cwV 1 hts (gV q_375 q_376 q_377 q_37 q_272) rfl rfl rfl (by decide +kernel) ⟨Nat.le_trans (m := 5) (Nat.le_of_ble_eq_true rfl) (Nat.le_trans (Nat.le_of_ble_eq_true rfl) hRf), Nat.le_trans (m := 121) (Nat.le_of_ble_eq_true rfl) (Nat.le_trans (Nat.le_of_ble_eq_true rfl) hRl)⟩) hN hK hP hD rfl rfl rfl hl.1 (Nat.le_of_ble_eq_true rfl) ⟨hRc, hRs⟩ dL_would_9) hD hS hA rfl (fun H locs hP hD hS => ?_)
    obtain ⟨w1, e_w1⟩ : ∃ z : Int, z = (fstZ (fun i : Nat => wrongZ (daysStZ (SS.G q) i) rw0) 301 0) := ⟨_, rfl⟩
    refine z_as e_w1.symm ?_
    refine lv_istore_n (lv' := [(3, .int (iI w1)), (2, .int (iI rw0)), (0, .ref xo), (1, .int (iI x))]) hx hb dL_would_12 rfl hl (by decide) rfl (fun ls hl => ?_)
    refine lv_aload_n hx hb dL_would_13 rfl (lv_at hl 2 rfl) ?_
    refine lv_iload_n hx hb dL_would_14 rfl (lv_at hl 1 rfl) ?_
    obtain ⟨q2, mxq2, hRq2, hsq2, hTq2⟩ := sc_rightFor l D xo xh t ta cI cC cH hRq1 (by omega) rw0 (by omega)
    refine mw_full (st1 := [.int (iI (fstZ (fun i : Nat => if rightZ (daysStZ (upG (SS.G q1) 11 2 0) i) rw0 = 0 then 1 else 0) 301 0))]) (mr_V (As := [.int (iI rw0)]) (rest := []) (ci := 2) (q0 := 0) ⟨hx, hb, hml, hown, hts⟩ mxq2 (cwV 1 hts (gV q_378 q_379 q_380 q_37 q_274) rfl rfl rfl (by decide +kernel) ⟨Nat.le_trans (m := 5) (Nat.le_of_ble_eq_true rfl) (Nat.le_trans (Nat.le_of_ble_eq_true rfl) hRf), Nat.le_trans (m := 121) (Nat.le_of_ble_eq_true rfl) (Nat.le_trans (Nat.le_of_ble_eq_true rfl) hRl)⟩) hN hK hP hD rfl rfl rfl hl.1 (Nat.le_of_ble_eq_true rfl) ⟨hRc, hRs⟩ dL_would_15) hD hS hA rfl (fun H locs hP hD hS => ?_)
    obtain ⟨w2, e_w2⟩ : ∃ z : Int, z = (fstZ (fun i : Nat => if rightZ (daysStZ (upG (SS.G q1) 11 2 0) i) rw0 = 0 then 1 else 0) 301 0) := ⟨_, rfl⟩
    refine z_as e_w2.symm ?_
    refine lv_istore (lv' := [(4, .int (iI w2)), (3, .int (iI w1)), (2, .int (iI rw0)), (0, .ref xo), (1, .int (iI x))]) hx hb dL_would_18 hl (by decide) rfl (fun ls hl => ?_)
    refine lv_aload_n hx hb dL_would_20 rfl (lv_at hl 3 rfl) ?_
    obtain ⟨q3, mxq3, hRq3, hsq3, hTq3⟩ := sc_safeAge l D xo xh t ta cI cC cH hRq2 (by omega)
    refine mw_full (st1 := [.int (iI (sagZ (SS.G q2) 60 0))]) (mr_V (As := []) (rest := []) (ci := 2) (q0 := 0) ⟨hx, hb, hml, hown, hts⟩ mxq3 (cwV 0 hts (gV q_381 q_382 q_383 q_37 q_279) rfl rfl rfl (by decide +kernel) ⟨Nat.le_trans (m := 6) (Nat.le_of_ble_eq_true rfl) (Nat.le_trans (Nat.le_of_ble_eq_true rfl) hRf), Nat.le_trans (m := 142) (Nat.le_of_ble_eq_true rfl) (Nat.le_trans (Nat.le_of_ble_eq_true rfl) hRl)⟩) hN hK hP hD rfl rfl rfl hl.1 (Nat.le_of_ble_eq_true rfl) ⟨hRc, hRs⟩ dL_would_21) hD hS hA rfl (fun H locs hP hD hS => ?_)
    have hsg := sag_bd (SS.G q2) 60 0 rfl
    obtain ⟨ag, e_ag⟩ : ∃ z : Int, z = (sagZ (SS.G q2) 60 0) := ⟨_, rfl⟩
    refine z_as e_ag.symm ?_
    refine lv_istore (lv' := [(5, .int (iI ag)), (4, .int (iI w2)), (3, .int (iI w1)), (2, .int (iI rw0)), (0, .ref xo), (1, .int (iI x))]) hx hb dL_would_24 hl (by decide) rfl (fun ls hl => ?_)
    refine lv_iload_n hx hb dL_would_26 rfl (lv_at hl 3 rfl) ?_
    refine z_bipush hx hb dL_would_27 (by decide +kernel) ?_
    refine z_icmp_ne (tgt := 53) hx hb dL_would_29 (by decide) (by omega) (by omega) (fun c_3 => ?_) (fun c_3 => absurd c_3 (by omega))
    have f1 := wrongIn_f (SS.G q) rw0
    have f2 := rightFor_f (SS.G q1) rw0
    have w3 : wrongZ (SS.G q3) rw0 = wrongZ (SS.G q) rw0 := by rw [hsq3.1, hsq2.1, hsq1.1]
    have r3 : rightZ (SS.G q3) rw0 = rightZ (SS.G q1) rw0 := by rw [hsq3.1, hsq2.1]
    have hwb := wrongZ_bd (SS.G q) rw0
    have hrb := rightZ_01 (SS.G q1) rw0
    have J_4 : ∀ (H : Heap) (locs : List Loc), va_P D vwCl (wS xo xh t ta cI cC cH q3) H → va_D A (wS xo xh t ta cI cC cH q3) → va_S A s.heap H locs → W p l e R s m args below meth c H locs 0 0 Q (F0 m 70 ls []) := by
      intro H locs hP hD hS
      have J_6 : ∀ (H : Heap) (locs : List Loc), va_P D vwCl (wS xo xh t ta cI cC cH q3) H → va_D A (wS xo xh t ta cI cC cH q3) → va_S A s.heap H locs → W p l e R s m args below meth c H locs 0 0 Q (F0 m 90 ls []) := by
        intro H locs hP hD hS
        have J_8 : ∀ (bz_9 : Int) (H : Heap) (locs : List Loc), (bz_9 = (if w1 = 0 then 1 else 0)) → va_P D vwCl (wS xo xh t ta cI cC cH q3) H → va_D A (wS xo xh t ta cI cC cH q3) → va_S A s.heap H locs → W p l e R s m args below meth c H locs 0 0 Q (F0 m 99 ls [.int (iI bz_9)]) := by
          intro bz_9 H locs hbz_9 hP hD hS
          have J_10 : ∀ (bz_11 : Int) (H : Heap) (locs : List Loc), (bz_11 = (if 0 < wrongZ (SS.G q3) rw0 then 1 else 0)) → va_P D vwCl (wS xo xh t ta cI cC cH q3) H → va_D A (wS xo xh t ta cI cC cH q3) → va_S A s.heap H locs → W p l e R s m args below meth c H locs 0 0 Q (F0 m 114 ls [.int (iI bz_11), .int (iI bz_9)]) := by
            intro bz_11 H locs hbz_11 hP hD hS
            refine z_icmp_ne (tgt := 148) hx hb dL_would_114 (by decide) (by omega) (by omega) (fun c_12 => absurd c_12 (by omega)) (fun c_12 => ?_)
            have J_13 : ∀ (bz_14 : Int) (H : Heap) (locs : List Loc), (bz_14 = (if w2 = 0 then 1 else 0)) → va_P D vwCl (wS xo xh t ta cI cC cH q3) H → va_D A (wS xo xh t ta cI cC cH q3) → va_S A s.heap H locs → W p l e R s m args below meth c H locs 0 0 Q (F0 m 127 ls [.int (iI bz_14)]) := by
              intro bz_14 H locs hbz_14 hP hD hS
              have J_15 : ∀ (bz_16 : Int) (H : Heap) (locs : List Loc), (bz_16 = (if rightZ (SS.G q3) rw0 = 0 then 1 else 0)) → va_P D vwCl (wS xo xh t ta cI cC cH q3) H → va_D A (wS xo xh t ta cI cC cH q3) → va_S A s.heap H locs → W p l e R s m args below meth c H locs 0 0 Q (F0 m 141 ls [.int (iI bz_16), .int (iI bz_14)]) := by
                intro bz_16 H locs hbz_16 hP hD hS
                refine z_icmp_ne (tgt := 148) hx hb dL_would_141 (by decide) (by omega) (by omega) (fun c_17 => absurd c_17 (by omega)) (fun c_17 => ?_)
                refine z_iconst hx hb dL_would_144 ?_
                refine lv_goto (tgt := 149) hx hb dL_would_145 (by decide) ?_
                refine lv_istore (lv' := [(6, .int (iI 1)), (5, .int (iI ag)), (4, .int (iI w2)), (3, .int (iI w1)), (2, .int (iI rw0)), (0, .ref xo), (1, .int (iI x))]) hx hb dL_would_149 hl (by decide) rfl (fun ls hl => ?_)
                refine lv_iload hx hb dL_would_151 (lv_at hl 0 rfl) ?_
                refine z_if_eq (tgt := 180) hx hb dL_would_153 (by decide) (by omega) (fun c_18 => absurd c_18 (by omega)) (fun c_18 => ?_)
                refine lv_iload hx hb dL_would_156 (lv_at hl 1 rfl) ?_
                refine z_ldc hx hb (-1000004) (by decide +kernel) hown (hq _ q_360) dL_would_158 ?_
                refine z_icmp_eq (tgt := 176) hx hb dL_would_160 (by decide) (by omega) (by omega) (fun c_19 => ?_) (fun c_19 => ?_)
                · refine z_iconst hx hb dL_would_176 ?_
                  refine lv_goto (tgt := 181) hx hb dL_would_177 (by decide) ?_
                  exact hret q3 _ _ _ _ ⟨hRq3, (Sme_tr (Sme_tr hsq1 hsq2) hsq3)⟩ dL_would_181 hP hD hS
                · refine lv_iload hx hb dL_would_163 (lv_at hl 1 rfl) ?_
                  refine z_iconst hx hb dL_would_165 ?_
                  refine z_icmp_lt (tgt := 180) hx hb dL_would_166 (by decide) (by omega) (by omega) (fun c_20 => absurd c_20 (by omega)) (fun c_20 => ?_)
                  refine lv_iload hx hb dL_would_169 (lv_at hl 1 rfl) ?_
                  refine z_bipush hx hb dL_would_171 (by decide +kernel) ?_
                  refine z_icmp_gt (tgt := 180) hx hb dL_would_173 (by decide) (by omega) (by omega) (fun c_21 => absurd c_21 (by omega)) (fun c_21 => ?_)
                  refine z_iconst hx hb dL_would_176 ?_
                  refine lv_goto (tgt := 181) hx hb dL_would_177 (by decide) ?_
                  exact hret q3 _ _ _ _ ⟨hRq3, (Sme_tr (Sme_tr hsq1 hsq2) hsq3)⟩ dL_would_181 hP hD hS
              refine lv_aload_n hx hb dL_would_127 rfl (lv_at hl 4 rfl) ?_
              refine lv_iload_n hx hb dL_would_128 rfl (lv_at hl 3 rfl) ?_
              refine z_iconst hx hb dL_would_129 ?_
              refine mw_full (st1 := [.int (iI (rightZ (SS.G q3) rw0)), .int (iI bz_14)]) (mr_V (As := [.int (iI rw0), .int (iI 2)]) (rest := [.int (iI bz_14)]) (ci := 2) (q0 := 0) ⟨hx, hb, hml, hown, hts⟩ (rd_row2 l D xo xh t ta cI cC cH hRq3 rw0 (by omega)) (cwV 2 hts (gV q_350 q_351 q_352 q_37 q_262) rfl rfl rfl (by decide +kernel) ⟨Nat.le_trans (m := 5) (Nat.le_of_ble_eq_true rfl) (Nat.le_trans (Nat.le_of_ble_eq_true rfl) hRf), Nat.le_trans (m := 116) (Nat.le_of_ble_eq_true rfl) (Nat.le_trans (Nat.le_of_ble_eq_true rfl) hRl)⟩) hN hK hP hD rfl rfl rfl hl.1 (Nat.le_of_ble_eq_true rfl) ⟨hRc, hRs⟩ dL_would_130) hD hS hA rfl (fun H locs hP hD hS => ?_)
              have hv_22 := rb_row2 hRq3 rw0 (by omega)
              refine z_if_ne (tgt := 140) hx hb dL_would_133 (by decide) (by omega) (fun c_23 => ?_) (fun c_23 => ?_)
              · refine z_iconst hx hb dL_would_140 ?_
                exact J_15 0 _ _ (by omega) hP hD hS
              · refine z_iconst hx hb dL_would_136 ?_
                refine lv_goto (tgt := 141) hx hb dL_would_137 (by decide) ?_
                exact J_15 1 _ _ (by omega) hP hD hS
            refine lv_iload hx hb dL_would_117 (lv_at hl 1 rfl) ?_
            refine z_if_ne (tgt := 126) hx hb dL_would_119 (by decide) (by omega) (fun c_24 => ?_) (fun c_24 => ?_)
            · refine z_iconst hx hb dL_would_126 ?_
              exact J_13 0 _ _ (by omega) hP hD hS
            · refine z_iconst hx hb dL_would_122 ?_
              refine lv_goto (tgt := 127) hx hb dL_would_123 (by decide) ?_
              exact J_13 1 _ _ (by omega) hP hD hS
          refine lv_aload_n hx hb dL_would_99 rfl (lv_at hl 4 rfl) ?_
          refine lv_iload_n hx hb dL_would_100 rfl (lv_at hl 3 rfl) ?_
          refine z_bipush hx hb dL_would_101 (by decide +kernel) ?_
          refine mw_full (st1 := [.int (iI (wrongZ (SS.G q3) rw0)), .int (iI bz_9)]) (mr_V (As := [.int (iI rw0), .int (iI 6)]) (rest := [.int (iI bz_9)]) (ci := 2) (q0 := 0) ⟨hx, hb, hml, hown, hts⟩ (rd_row6 l D xo xh t ta cI cC cH hRq3 rw0 (by omega)) (cwV 2 hts (gV q_350 q_351 q_352 q_37 q_262) rfl rfl rfl (by decide +kernel) ⟨Nat.le_trans (m := 5) (Nat.le_of_ble_eq_true rfl) (Nat.le_trans (Nat.le_of_ble_eq_true rfl) hRf), Nat.le_trans (m := 116) (Nat.le_of_ble_eq_true rfl) (Nat.le_trans (Nat.le_of_ble_eq_true rfl) hRl)⟩) hN hK hP hD rfl rfl rfl hl.1 (Nat.le_of_ble_eq_true rfl) ⟨hRc, hRs⟩ dL_would_103) hD hS hA rfl (fun H locs hP hD hS => ?_)
          have hv_25 := rb_row6 hRq3 rw0 (by omega)
          refine z_if_le (tgt := 113) hx hb dL_would_106 (by decide) (by omega) (fun c_26 => ?_) (fun c_26 => ?_)
          · refine z_iconst hx hb dL_would_113 ?_
            exact J_10 0 _ _ (by omega) hP hD hS
          · refine z_iconst hx hb dL_would_109 ?_
            refine lv_goto (tgt := 114) hx hb dL_would_110 (by decide) ?_
            exact J_10 1 _ _ (by omega) hP hD hS
        refine lv_iload_n hx hb dL_would_90 rfl (lv_at hl 2 rfl) ?_
        refine z_if_ne (tgt := 98) hx hb dL_would_91 (by decide) (by omega) (fun c_27 => ?_) (fun c_27 => ?_)
        · refine z_iconst hx hb dL_would_98 ?_
          exact J_8 0 _ _ (by omega) hP hD hS
        · refine z_iconst hx hb dL_would_94 ?_
          refine lv_goto (tgt := 99) hx hb dL_would_95 (by decide) ?_
          exact J_8 1 _ _ (by omega) hP hD hS
      refine lv_iload hx hb dL_would_70 (lv_at hl 1 rfl) ?_
      refine z_ldc hx hb (-1000004) (by decide +kernel) hown (hq _ q_360) dL_would_72 ?_
      refine z_icmp_eq (tgt := 90) hx hb dL_would_74 (by decide) (by omega) (by omega) (fun c_28 => ?_) (fun c_28 => ?_)
      · exact J_6 _ _ hP hD hS
      · refine lv_iload hx hb dL_would_77 (lv_at hl 1 rfl) ?_
        refine z_if_lt (tgt := 148) hx hb dL_would_79 (by decide) (by omega) (fun c_29 => absurd c_29 (by omega)) (fun c_29 => ?_)
        refine lv_iload hx hb dL_would_82 (lv_at hl 1 rfl) ?_
        refine z_sipush hx hb dL_would_84 (by decide +kernel) ?_
        refine z_icmp_gt (tgt := 148) hx hb dL_would_87 (by decide) (by omega) (by omega) (fun c_30 => absurd c_30 (by omega)) (fun c_30 => ?_)
        exact J_6 _ _ hP hD hS
    have f1 := wrongIn_f (SS.G q) rw0
    have f2 := rightFor_f (SS.G q1) rw0
    have w3 : wrongZ (SS.G q3) rw0 = wrongZ (SS.G q) rw0 := by rw [hsq3.1, hsq2.1, hsq1.1]
    have r3 : rightZ (SS.G q3) rw0 = rightZ (SS.G q1) rw0 := by rw [hsq3.1, hsq2.1]
    have hwb := wrongZ_bd (SS.G q) rw0
    have hrb := rightZ_01 (SS.G q1) rw0
    refine lv_iload_n hx hb dL_would_53 rfl (lv_at hl 2 rfl) ?_
    refine z_ldc hx hb (-1000004) (by decide +kernel) hown (hq _ q_360) dL_would_54 ?_
    refine z_icmp_eq (tgt := 70) hx hb dL_would_56 (by decide) (by omega) (by omega) (fun c_31 => ?_) (fun c_31 => ?_)
    · exact J_4 _ _ hP hD hS
    · refine lv_iload_n hx hb dL_would_59 rfl (lv_at hl 2 rfl) ?_
      refine z_if_lt (tgt := 148) hx hb dL_would_60 (by decide) (by omega) (fun c_32 => absurd c_32 (by omega)) (fun c_32 => ?_)
      refine lv_iload_n hx hb dL_would_63 rfl (lv_at hl 2 rfl) ?_
      refine z_sipush hx hb dL_would_64 (by decide +kernel) ?_
      refine z_icmp_gt (tgt := 148) hx hb dL_would_67 (by decide) (by omega) (by omega) (fun c_33 => absurd c_33 (by omega)) (fun c_33 => ?_)
      exact J_4 _ _ hP hD hS
  · refine lv_aload_n hx hb dL_would_7 rfl (lv_at hl 1 rfl) ?_
    refine lv_iload_n hx hb dL_would_8 rfl (lv_at hl 0 rfl) ?_
    refine mw_full (st1 := [.int (iI (-1000001))]) (mr_V (As := [.int (iI rw0)]) (rest := []) (ci := 2) (q0 := 0) ⟨hx, hb, hml, hown, hts⟩ (rd_wrongIn_bad l D xo xh t ta cI cC cH h rw0 (by omega)) (cwV 1 hts (gV q_375 q_376 q_377 q_37 q_272) rfl rfl rfl (by decide +kernel) ⟨Nat.le_trans (m := 5) (Nat.le_of_ble_eq_true rfl) (Nat.le_trans (Nat.le_of_ble_eq_true rfl) hRf), Nat.le_trans (m := 121) (Nat.le_of_ble_eq_true rfl) (Nat.le_trans (Nat.le_of_ble_eq_true rfl) hRl)⟩) hN hK hP hD rfl rfl rfl hl.1 (Nat.le_of_ble_eq_true rfl) ⟨hRc, hRs⟩ dL_would_9) hD hS hA rfl (fun H locs hP hD hS => ?_)
    obtain ⟨w1, e_w1⟩ : ∃ z : Int, z = (-1000001) := ⟨_, rfl⟩
    refine z_as e_w1.symm ?_
    refine lv_istore_n (lv' := [(3, .int (iI w1)), (2, .int (iI rw0)), (0, .ref xo), (1, .int (iI x))]) hx hb dL_would_12 rfl hl (by decide) rfl (fun ls hl => ?_)
    refine lv_aload_n hx hb dL_would_13 rfl (lv_at hl 2 rfl) ?_
    refine lv_iload_n hx hb dL_would_14 rfl (lv_at hl 1 rfl) ?_
    refine mw_full (st1 := [.int (iI (-1000001))]) (mr_V (As := [.int (iI rw0)]) (rest := []) (ci := 2) (q0 := 0) ⟨hx, hb, hml, hown, hts⟩ (rd_rightFor_bad l D xo xh t ta cI cC cH h rw0 (by omega)) (cwV 1 hts (gV q_378 q_379 q_380 q_37 q_274) rfl rfl rfl (by decide +kernel) ⟨Nat.le_trans (m := 5) (Nat.le_of_ble_eq_true rfl) (Nat.le_trans (Nat.le_of_ble_eq_true rfl) hRf), Nat.le_trans (m := 121) (Nat.le_of_ble_eq_true rfl) (Nat.le_trans (Nat.le_of_ble_eq_true rfl) hRl)⟩) hN hK hP hD rfl rfl rfl hl.1 (Nat.le_of_ble_eq_true rfl) ⟨hRc, hRs⟩ dL_would_15) hD hS hA rfl (fun H locs hP hD hS => ?_)
    obtain ⟨w2, e_w2⟩ : ∃ z : Int, z = (-1000001) := ⟨_, rfl⟩
    refine z_as e_w2.symm ?_
    refine lv_istore (lv' := [(4, .int (iI w2)), (3, .int (iI w1)), (2, .int (iI rw0)), (0, .ref xo), (1, .int (iI x))]) hx hb dL_would_18 hl (by decide) rfl (fun ls hl => ?_)
    refine lv_aload_n hx hb dL_would_20 rfl (lv_at hl 3 rfl) ?_
    obtain ⟨q1, mxq1, hRq1, hsq1, hTq1⟩ := sc_safeAge l D xo xh t ta cI cC cH h (by omega)
    refine mw_full (st1 := [.int (iI (sagZ (SS.G q) 60 0))]) (mr_V (As := []) (rest := []) (ci := 2) (q0 := 0) ⟨hx, hb, hml, hown, hts⟩ mxq1 (cwV 0 hts (gV q_381 q_382 q_383 q_37 q_279) rfl rfl rfl (by decide +kernel) ⟨Nat.le_trans (m := 6) (Nat.le_of_ble_eq_true rfl) (Nat.le_trans (Nat.le_of_ble_eq_true rfl) hRf), Nat.le_trans (m := 142) (Nat.le_of_ble_eq_true rfl) (Nat.le_trans (Nat.le_of_ble_eq_true rfl) hRl)⟩) hN hK hP hD rfl rfl rfl hl.1 (Nat.le_of_ble_eq_true rfl) ⟨hRc, hRs⟩ dL_would_21) hD hS hA rfl (fun H locs hP hD hS => ?_)
    have hsg := sag_bd (SS.G q) 60 0 rfl
    obtain ⟨ag, e_ag⟩ : ∃ z : Int, z = (sagZ (SS.G q) 60 0) := ⟨_, rfl⟩
    refine z_as e_ag.symm ?_
    refine lv_istore (lv' := [(5, .int (iI ag)), (4, .int (iI w2)), (3, .int (iI w1)), (2, .int (iI rw0)), (0, .ref xo), (1, .int (iI x))]) hx hb dL_would_24 hl (by decide) rfl (fun ls hl => ?_)
    refine lv_iload_n hx hb dL_would_26 rfl (lv_at hl 3 rfl) ?_
    refine z_bipush hx hb dL_would_27 (by decide +kernel) ?_
    refine z_icmp_ne (tgt := 53) hx hb dL_would_29 (by decide) (by omega) (by omega) (fun c_34 => absurd c_34 (by omega)) (fun c_34 => ?_)
    refine lv_iload_n hx hb dL_would_32 rfl (lv_at hl 2 rfl) ?_
    refine z_ldc hx hb (-1000001) (by decide +kernel) hown (hq _ q_371) dL_would_33 ?_
    refine z_icmp_ne (tgt := 49) hx hb dL_would_35 (by decide) (by omega) (by omega) (fun c_35 => absurd c_35 (by omega)) (fun c_35 => ?_)
    refine lv_iload hx hb dL_would_38 (lv_at hl 1 rfl) ?_
    refine z_ldc hx hb (-1000001) (by decide +kernel) hown (hq _ q_371) dL_would_40 ?_
    refine z_icmp_ne (tgt := 49) hx hb dL_would_42 (by decide) (by omega) (by omega) (fun c_36 => absurd c_36 (by omega)) (fun c_36 => ?_)
    refine z_iconst hx hb dL_would_45 ?_
    refine lv_goto (tgt := 149) hx hb dL_would_46 (by decide) ?_
    refine lv_istore (lv' := [(6, .int (iI 1)), (5, .int (iI ag)), (4, .int (iI w2)), (3, .int (iI w1)), (2, .int (iI rw0)), (0, .ref xo), (1, .int (iI x))]) hx hb dL_would_149 hl (by decide) rfl (fun ls hl => ?_)
    refine lv_iload hx hb dL_would_151 (lv_at hl 0 rfl) ?_
    refine z_if_eq (tgt := 180) hx hb dL_would_153 (by decide) (by omega) (fun c_37 => absurd c_37 (by omega)) (fun c_37 => ?_)
    refine lv_iload hx hb dL_would_156 (lv_at hl 1 rfl) ?_
    refine z_ldc hx hb (-1000004) (by decide +kernel) hown (hq _ q_360) dL_would_158 ?_
    refine z_icmp_eq (tgt := 176) hx hb dL_would_160 (by decide) (by omega) (by omega) (fun c_38 => ?_) (fun c_38 => ?_)
    · refine z_iconst hx hb dL_would_176 ?_
      refine lv_goto (tgt := 181) hx hb dL_would_177 (by decide) ?_
      exact hret q1 _ _ _ _ ⟨hRq1, hsq1⟩ dL_would_181 hP hD hS
    · refine lv_iload hx hb dL_would_163 (lv_at hl 1 rfl) ?_
      refine z_iconst hx hb dL_would_165 ?_
      refine z_icmp_lt (tgt := 180) hx hb dL_would_166 (by decide) (by omega) (by omega) (fun c_39 => absurd c_39 (by omega)) (fun c_39 => ?_)
      refine lv_iload hx hb dL_would_169 (lv_at hl 1 rfl) ?_
      refine z_bipush hx hb dL_would_171 (by decide +kernel) ?_
      refine z_icmp_gt (tgt := 180) hx hb dL_would_173 (by decide) (by omega) (by omega) (fun c_40 => absurd c_40 (by omega)) (fun c_40 => ?_)
      refine z_iconst hx hb dL_would_176 ?_
      refine lv_goto (tgt := 181) hx hb dL_would_177 (by decide) ?_
      exact hret q1 _ _ _ _ ⟨hRq1, hsq1⟩ dL_would_181 hP hD hS
