set_option maxHeartbeats 8000000 in
set_option maxRecDepth 100000 in
theorem m_L_holds (l : Launch) (D : va_G) (xo xh t : Nat) (ta : Nat → Nat) (cI cC cH : ClassId) {k : Nat} {q : SS} (h : CR k q) (hk : k < 100) : MW l D yL_holds (wsY yL_holds cL_holds 14 (some .boolean)) { frames := 6, cells := 0, slots := 0, locals := 133 } (tyS cI cC cH) [.ref xo] (wS xo xh t ta cI cC cH q) (wS xo xh t ta cI cC cH q) (some (.int (iI 1))) := by
  refine mw_ofZ (cc := cL_holds) (maxL := 14) (ty := .boolean) rfl (by decide) rfl (Nat.le_of_ble_eq_true rfl) ?_
  intro p e s m below meth c R A Q args ls hx hb hml hown hts hRf hRl hRc hRs hN hK hP hD hS hA hret hl
  have hq : ∀ w ∈ ALL, w.before args s = true := fun w h => hts w (List.mem_cons_of_mem _ h)
  have hl : lv_has ls 14 [(0, .ref xo)] := hl
  refine z_iconst hx hb dL_holds_0 ?_
  refine lv_istore_n (lv' := [(1, .int (iI 0)), (0, .ref xo)]) hx hb dL_holds_1 rfl hl (by decide) rfl (fun ls hl => ?_)
  refine z_iconst hx hb dL_holds_2 ?_
  refine lv_istore_n (lv' := [(2, .int (iI 0)), (1, .int (iI 0)), (0, .ref xo)]) hx hb dL_holds_3 rfl hl (by decide) rfl (fun ls hl => ?_)
  have hl48 := levels_48 h.1.1
  refine lv_aload_n hx hb dL_holds_4 rfl (lv_at hl 2 rfl) ?_
  refine z_bipush hx hb dL_holds_5 (by decide +kernel) ?_
  refine mw_full (st1 := [.int (iI (ofLevelZ (SS.G q) 0 48))]) (mr_V (As := [.int (iI 12)]) (rest := []) (ci := 2) (q0 := 0) ⟨hx, hb, hml, hown, hts⟩ (rd_cnt12 l D xo xh t ta cI cC cH h (by omega)) (cwV 1 hts (gV q_344 q_345 q_346 q_37 q_304) rfl rfl rfl (by decide +kernel) ⟨Nat.le_trans (m := 6) (Nat.le_of_ble_eq_true rfl) (Nat.le_trans (Nat.le_of_ble_eq_true rfl) hRf), Nat.le_trans (m := 133) (Nat.le_of_ble_eq_true rfl) (Nat.le_trans (Nat.le_of_ble_eq_true rfl) hRl)⟩) hN hK hP hD rfl rfl rfl hl.1 (Nat.le_of_ble_eq_true rfl) ⟨hRc, hRs⟩ dL_holds_7) hD hS hA rfl (fun H locs hP hD hS => ?_)
  have hv_1 := rb_cnt12 h (by omega)
  refine lv_aload_n hx hb dL_holds_10 rfl (lv_at hl 2 rfl) ?_
  refine z_bipush hx hb dL_holds_11 (by decide +kernel) ?_
  refine mw_full (st1 := [.int (iI (ofLevelZ (SS.G q) 1 48)), .int (iI (ofLevelZ (SS.G q) 0 48))]) (mr_V (As := [.int (iI 13)]) (rest := [.int (iI (ofLevelZ (SS.G q) 0 48))]) (ci := 2) (q0 := 0) ⟨hx, hb, hml, hown, hts⟩ (rd_cnt13 l D xo xh t ta cI cC cH h (by omega)) (cwV 1 hts (gV q_344 q_345 q_346 q_37 q_304) rfl rfl rfl (by decide +kernel) ⟨Nat.le_trans (m := 6) (Nat.le_of_ble_eq_true rfl) (Nat.le_trans (Nat.le_of_ble_eq_true rfl) hRf), Nat.le_trans (m := 133) (Nat.le_of_ble_eq_true rfl) (Nat.le_trans (Nat.le_of_ble_eq_true rfl) hRl)⟩) hN hK hP hD rfl rfl rfl hl.1 (Nat.le_of_ble_eq_true rfl) ⟨hRc, hRs⟩ dL_holds_13) hD hS hA rfl (fun H locs hP hD hS => ?_)
  have hv_2 := rb_cnt13 h (by omega)
  refine z_iadd hx hb dL_holds_16 ?_
  refine lv_aload_n hx hb dL_holds_17 rfl (lv_at hl 2 rfl) ?_
  refine z_bipush hx hb dL_holds_18 (by decide +kernel) ?_
  refine mw_full (st1 := [.int (iI (ofLevelZ (SS.G q) 2 48)), .int (iI ((ofLevelZ (SS.G q) 0 48) + (ofLevelZ (SS.G q) 1 48)))]) (mr_V (As := [.int (iI 14)]) (rest := [.int (iI ((ofLevelZ (SS.G q) 0 48) + (ofLevelZ (SS.G q) 1 48)))]) (ci := 2) (q0 := 0) ⟨hx, hb, hml, hown, hts⟩ (rd_cnt14 l D xo xh t ta cI cC cH h (by omega)) (cwV 1 hts (gV q_344 q_345 q_346 q_37 q_304) rfl rfl rfl (by decide +kernel) ⟨Nat.le_trans (m := 6) (Nat.le_of_ble_eq_true rfl) (Nat.le_trans (Nat.le_of_ble_eq_true rfl) hRf), Nat.le_trans (m := 133) (Nat.le_of_ble_eq_true rfl) (Nat.le_trans (Nat.le_of_ble_eq_true rfl) hRl)⟩) hN hK hP hD rfl rfl rfl hl.1 (Nat.le_of_ble_eq_true rfl) ⟨hRc, hRs⟩ dL_holds_20) hD hS hA rfl (fun H locs hP hD hS => ?_)
  have hv_3 := rb_cnt14 h (by omega)
  refine z_iadd hx hb dL_holds_23 ?_
  refine z_bipush hx hb dL_holds_24 (by decide +kernel) ?_
  refine z_icmp_ne (tgt := 82) hx hb dL_holds_26 (by decide) (by omega) (by omega) (fun c_4 => absurd c_4 (by omega)) (fun c_4 => ?_)
  refine lv_aload_n hx hb dL_holds_29 rfl (lv_at hl 2 rfl) ?_
  refine z_bipush hx hb dL_holds_30 (by decide +kernel) ?_
  refine mw_full (st1 := [.int (iI (pairsZ (SS.G q) 9))]) (mr_V (As := [.int (iI 11)]) (rest := []) (ci := 2) (q0 := 0) ⟨hx, hb, hml, hown, hts⟩ (rd_cnt11 l D xo xh t ta cI cC cH h (by omega)) (cwV 1 hts (gV q_344 q_345 q_346 q_37 q_304) rfl rfl rfl (by decide +kernel) ⟨Nat.le_trans (m := 6) (Nat.le_of_ble_eq_true rfl) (Nat.le_trans (Nat.le_of_ble_eq_true rfl) hRf), Nat.le_trans (m := 133) (Nat.le_of_ble_eq_true rfl) (Nat.le_trans (Nat.le_of_ble_eq_true rfl) hRl)⟩) hN hK hP hD rfl rfl rfl hl.1 (Nat.le_of_ble_eq_true rfl) ⟨hRc, hRs⟩ dL_holds_32) hD hS hA rfl (fun H locs hP hD hS => ?_)
  have hv_5 := rb_cnt11 h (by omega)
  refine z_bipush hx hb dL_holds_35 (by decide +kernel) ?_
  refine z_icmp_gt (tgt := 82) hx hb dL_holds_37 (by decide) (by omega) (by omega) (fun c_6 => absurd c_6 (by omega)) (fun c_6 => ?_)
  have J_7 : ∀ (bz_8 : Int) (H : Heap) (locs : List Loc), (bz_8 = (if sumZ 9 (SS.G q 10) = 0 then 1 else 0)) → va_P D vwCl (wS xo xh t ta cI cC cH q) H → va_D A (wS xo xh t ta cI cC cH q) → va_S A s.heap H locs → W p l e R s m args below meth c H locs 0 0 Q (F0 m 54 ls [.int (iI bz_8)]) := by
    intro bz_8 H locs hbz_8 hP hD hS
    have J_9 : ∀ (bz_10 : Int) (H : Heap) (locs : List Loc), (bz_10 = (if sumZ 9 (SS.G q 10) = 0 then 1 else 0)) → va_P D vwCl (wS xo xh t ta cI cC cH q) H → va_D A (wS xo xh t ta cI cC cH q) → va_S A s.heap H locs → W p l e R s m args below meth c H locs 0 0 Q (F0 m 68 ls [.int (iI bz_10), .int (iI bz_8)]) := by
      intro bz_10 H locs hbz_10 hP hD hS
      refine z_icmp_ne (tgt := 82) hx hb dL_holds_68 (by decide) (by omega) (by omega) (fun c_11 => absurd c_11 (by omega)) (fun c_11 => ?_)
      refine lv_aload_n hx hb dL_holds_71 rfl (lv_at hl 2 rfl) ?_
      refine mw_full (st1 := [.int (iI (meanZ (SS.G q)))]) (mr_V (As := []) (rest := []) (ci := 2) (q0 := 0) ⟨hx, hb, hml, hown, hts⟩ (rd_mean l D xo xh t ta cI cC cH h) (cwV 0 hts (gV q_364 q_365 q_366 q_37 q_292) rfl rfl rfl (by decide +kernel) ⟨Nat.le_trans (m := 3) (Nat.le_of_ble_eq_true rfl) (Nat.le_trans (Nat.le_of_ble_eq_true rfl) hRf), Nat.le_trans (m := 63) (Nat.le_of_ble_eq_true rfl) (Nat.le_trans (Nat.le_of_ble_eq_true rfl) hRl)⟩) hN hK hP hD rfl rfl rfl hl.1 (Nat.le_of_ble_eq_true rfl) ⟨hRc, hRs⟩ dL_holds_72) hD hS hA rfl (fun H locs hP hD hS => ?_)
      have hv_12 := rb_mean h
      refine z_if_lt (tgt := 82) hx hb dL_holds_75 (by decide) (by omega) (fun c_13 => absurd c_13 (by omega)) (fun c_13 => ?_)
      refine z_iconst hx hb dL_holds_78 ?_
      refine lv_goto (tgt := 83) hx hb dL_holds_79 (by decide) ?_
      refine lv_istore_n (lv' := [(3, .int (iI 1)), (2, .int (iI 0)), (1, .int (iI 0)), (0, .ref xo)]) hx hb dL_holds_83 rfl hl (by decide) rfl (fun ls hl => ?_)
      refine z_iconst hx hb dL_holds_84 ?_
      refine lv_istore (lv' := [(4, .int (iI 0)), (3, .int (iI 1)), (2, .int (iI 0)), (1, .int (iI 0)), (0, .ref xo)]) hx hb dL_holds_85 hl (by decide) rfl (fun ls hl => ?_)
      have LP87 : ∀ (fu i : Nat), i ≤ 6 → 6 < fu + i → ∀ (H : Heap) (locs : List Loc) (ls : Array Slot), va_P D vwCl (wS xo xh t ta cI cC cH q) H → va_D A (wS xo xh t ta cI cC cH q) → va_S A s.heap H locs → lv_has ls 14 [(4, .int (iI (i : Int))), (3, .int (iI 1)), (2, .int (iI (failN (SS.G q) i))), (1, .int (iI (allWrongZ (SS.G q) i))), (0, .ref xo)] → W p l e R s m args below meth c H locs 0 0 Q (F0 m 87 ls []) := by
        intro fu
        induction fu with
        | zero => intro i h1 h2; omega
        | succ fu ih87 =>
          intro i hi1 hif H locs ls hP hD hS hl
          refine lv_iload hx hb dL_holds_87 (lv_at hl 0 rfl) ?_
          refine z_bipush hx hb dL_holds_89 (by decide +kernel) ?_
          refine z_icmp_ge (tgt := 661) hx hb dL_holds_91 (by decide) (by omega) (by omega) (fun c_14 => ?_) (fun c_14 => ?_)
          · have ei : i = 6 := by omega
            have hbw := allWrongN_bd (SS.G q) i
            have hbf := failN_bd h.1.1 i (by omega)
            refine lv_aload_n hx hb dL_holds_661 rfl (lv_at hl 4 rfl) ?_
            refine z_iconst hx hb dL_holds_662 ?_
            refine mw_full (st1 := [.int (iI ((wsZ (SS.G q) (0 + 1)).2))]) (mr_V (As := [.int (iI 0)]) (rest := []) (ci := 2) (q0 := 0) ⟨hx, hb, hml, hown, hts⟩ (rd_worstN l D xo xh t ta cI cC cH h 0 (by omega)) (cwV 1 hts (gV q_367 q_368 q_369 q_37 q_283) rfl rfl rfl (by decide +kernel) ⟨Nat.le_trans (m := 5) (Nat.le_of_ble_eq_true rfl) (Nat.le_trans (Nat.le_of_ble_eq_true rfl) hRf), Nat.le_trans (m := 118) (Nat.le_of_ble_eq_true rfl) (Nat.le_trans (Nat.le_of_ble_eq_true rfl) hRl)⟩) hN hK hP hD rfl rfl rfl hl.1 (Nat.le_of_ble_eq_true rfl) ⟨hRc, hRs⟩ dL_holds_663) hD hS hA rfl (fun H locs hP hD hS => ?_)
            have hv_15 := rb_worstN h 0 (by omega)
            refine lv_istore (lv' := [(4, .int (iI ((wsZ (SS.G q) (0 + 1)).2))), (3, .int (iI 1)), (2, .int (iI (failN (SS.G q) i))), (1, .int (iI (allWrongZ (SS.G q) i))), (0, .ref xo)]) hx hb dL_holds_666 hl (by decide) rfl (fun ls hl => ?_)
            refine z_iconst hx hb dL_holds_668 ?_
            refine lv_istore (lv' := [(5, .int (iI 1)), (4, .int (iI ((wsZ (SS.G q) (0 + 1)).2))), (3, .int (iI 1)), (2, .int (iI (failN (SS.G q) i))), (1, .int (iI (allWrongZ (SS.G q) i))), (0, .ref xo)]) hx hb dL_holds_669 hl (by decide) rfl (fun ls hl => ?_)
            have LP671 : ∀ (fu tk : Nat), tk ≤ 6 → 6 < fu + tk → 1 ≤ tk → ∀ (H : Heap) (locs : List Loc) (ls : Array Slot), va_P D vwCl (wS xo xh t ta cI cC cH q) H → va_D A (wS xo xh t ta cI cC cH q) → va_S A s.heap H locs → lv_has ls 14 [(5, .int (iI (tk : Int))), (4, .int (iI ((wsZ (SS.G q) tk).2))), (3, .int (iI 1)), (2, .int (iI (failN (SS.G q) i))), (1, .int (iI (allWrongZ (SS.G q) i))), (0, .ref xo)] → W p l e R s m args below meth c H locs 0 0 Q (F0 m 671 ls []) := by
              intro fu
              induction fu with
              | zero => intro tk h1 h2; omega
              | succ fu ih671 =>
                intro tk htk1 htkf htk H locs ls hP hD hS hl
                have hwl := (ws_bd (SS.G q) tk).2
                refine lv_iload hx hb dL_holds_671 (lv_at hl 0 rfl) ?_
                refine z_bipush hx hb dL_holds_673 (by decide +kernel) ?_
                refine z_icmp_ge (tgt := 751) hx hb dL_holds_675 (by decide) (by omega) (by omega) (fun c_16 => ?_) (fun c_16 => ?_)
                · refine lv_iload_n hx hb dL_holds_751 rfl (lv_at hl 2 rfl) ?_
                  refine z_if_eq (tgt := 778) hx hb dL_holds_752 (by decide) (by omega) (fun c_17 => absurd c_17 (by omega)) (fun c_17 => ?_)
                  refine lv_iload_n hx hb dL_holds_755 rfl (lv_at hl 4 rfl) ?_
                  refine lv_aload_n hx hb dL_holds_756 rfl (lv_at hl 5 rfl) ?_
                  refine z_iconst hx hb dL_holds_757 ?_
                  refine mw_full (st1 := [.int (iI (allWrongZ (SS.G q) 6)), .int (iI (allWrongZ (SS.G q) i))]) (mr_V (As := [.int (iI 1)]) (rest := [.int (iI (allWrongZ (SS.G q) i))]) (ci := 2) (q0 := 0) ⟨hx, hb, hml, hown, hts⟩ (rd_cnt1 l D xo xh t ta cI cC cH h (by omega)) (cwV 1 hts (gV q_344 q_345 q_346 q_37 q_304) rfl rfl rfl (by decide +kernel) ⟨Nat.le_trans (m := 6) (Nat.le_of_ble_eq_true rfl) (Nat.le_trans (Nat.le_of_ble_eq_true rfl) hRf), Nat.le_trans (m := 133) (Nat.le_of_ble_eq_true rfl) (Nat.le_trans (Nat.le_of_ble_eq_true rfl) hRl)⟩) hN hK hP hD rfl rfl rfl hl.1 (Nat.le_of_ble_eq_true rfl) ⟨hRc, hRs⟩ dL_holds_758) hD hS hA rfl (fun H locs hP hD hS => ?_)
                  have hv_18 := rb_cnt1 h (by omega)
                  refine z_icmp_ne (tgt := 778) hx hb dL_holds_761 (by decide) (by omega) (by omega) (fun c_19 => absurd c_19 (by rw [ei]; simp)) (fun c_19 => ?_)
                  refine lv_iload_n hx hb dL_holds_764 rfl (lv_at hl 3 rfl) ?_
                  refine lv_aload_n hx hb dL_holds_765 rfl (lv_at hl 5 rfl) ?_
                  refine z_bipush hx hb dL_holds_766 (by decide +kernel) ?_
                  refine mw_full (st1 := [.int (iI (sumZ 18 (SS.G q 5))), .int (iI (failN (SS.G q) i))]) (mr_V (As := [.int (iI 6)]) (rest := [.int (iI (failN (SS.G q) i))]) (ci := 2) (q0 := 0) ⟨hx, hb, hml, hown, hts⟩ (rd_cnt6 l D xo xh t ta cI cC cH h (by omega)) (cwV 1 hts (gV q_344 q_345 q_346 q_37 q_304) rfl rfl rfl (by decide +kernel) ⟨Nat.le_trans (m := 6) (Nat.le_of_ble_eq_true rfl) (Nat.le_trans (Nat.le_of_ble_eq_true rfl) hRf), Nat.le_trans (m := 133) (Nat.le_of_ble_eq_true rfl) (Nat.le_trans (Nat.le_of_ble_eq_true rfl) hRl)⟩) hN hK hP hD rfl rfl rfl hl.1 (Nat.le_of_ble_eq_true rfl) ⟨hRc, hRs⟩ dL_holds_768) hD hS hA rfl (fun H locs hP hD hS => ?_)
                  have hv_20 := rb_cnt6 h (by omega)
                  refine z_icmp_ne (tgt := 778) hx hb dL_holds_771 (by decide) (by omega) (by omega) (fun c_21 => absurd c_21 (by rw [ei, fail_18]; simp)) (fun c_21 => ?_)
                  refine z_iconst hx hb dL_holds_774 ?_
                  refine lv_goto (tgt := 779) hx hb dL_holds_775 (by decide) ?_
                  exact hret _ _ _ _ dL_holds_779 hP hD hS
                · refine lv_iload_n hx hb dL_holds_678 rfl (lv_at hl 2 rfl) ?_
                  refine z_if_eq (tgt := 751) hx hb dL_holds_679 (by decide) (by omega) (fun c_22 => absurd c_22 (by omega)) (fun c_22 => ?_)
                  refine lv_aload_n hx hb dL_holds_682 rfl (lv_at hl 5 rfl) ?_
                  refine lv_iload hx hb dL_holds_683 (lv_at hl 0 rfl) ?_
                  refine mw_full (st1 := [.int (iI ((wsZ (SS.G q) (tk + 1)).2))]) (mr_V (As := [.int (iI (tk : Int))]) (rest := []) (ci := 2) (q0 := 0) ⟨hx, hb, hml, hown, hts⟩ (rd_worstN l D xo xh t ta cI cC cH h tk (by omega)) (cwV 1 hts (gV q_367 q_368 q_369 q_37 q_283) rfl rfl rfl (by decide +kernel) ⟨Nat.le_trans (m := 5) (Nat.le_of_ble_eq_true rfl) (Nat.le_trans (Nat.le_of_ble_eq_true rfl) hRf), Nat.le_trans (m := 118) (Nat.le_of_ble_eq_true rfl) (Nat.le_trans (Nat.le_of_ble_eq_true rfl) hRl)⟩) hN hK hP hD rfl rfl rfl hl.1 (Nat.le_of_ble_eq_true rfl) ⟨hRc, hRs⟩ dL_holds_685) hD hS hA rfl (fun H locs hP hD hS => ?_)
                  have hv_23 := rb_worstN h tk (by omega)
                  refine lv_istore (lv' := [(6, .int (iI ((wsZ (SS.G q) (tk + 1)).2))), (5, .int (iI (tk : Int))), (4, .int (iI ((wsZ (SS.G q) tk).2))), (3, .int (iI 1)), (2, .int (iI (failN (SS.G q) i))), (1, .int (iI (allWrongZ (SS.G q) i))), (0, .ref xo)]) hx hb dL_holds_688 hl (by decide) rfl (fun ls hl => ?_)
                  have hrk := rank_next (SS.G q) tk htk (by omega)
                  refine lv_aload_n hx hb dL_holds_690 rfl (lv_at hl 6 rfl) ?_
                  refine lv_iload hx hb dL_holds_691 (lv_at hl 0 rfl) ?_
                  refine z_bipush hx hb dL_holds_693 (by decide +kernel) ?_
                  refine mw_full (st1 := [.int (iI (wrongZ (SS.G q) ((wsZ (SS.G q) (tk + 1)).2)))]) (mr_V (As := [.int (iI ((wsZ (SS.G q) (tk + 1)).2)), .int (iI 6)]) (rest := []) (ci := 2) (q0 := 0) ⟨hx, hb, hml, hown, hts⟩ (rd_row6 l D xo xh t ta cI cC cH h ((wsZ (SS.G q) (tk + 1)).2) (by omega)) (cwV 2 hts (gV q_350 q_351 q_352 q_37 q_262) rfl rfl rfl (by decide +kernel) ⟨Nat.le_trans (m := 5) (Nat.le_of_ble_eq_true rfl) (Nat.le_trans (Nat.le_of_ble_eq_true rfl) hRf), Nat.le_trans (m := 116) (Nat.le_of_ble_eq_true rfl) (Nat.le_trans (Nat.le_of_ble_eq_true rfl) hRl)⟩) hN hK hP hD rfl rfl rfl hl.1 (Nat.le_of_ble_eq_true rfl) ⟨hRc, hRs⟩ dL_holds_695) hD hS hA rfl (fun H locs hP hD hS => ?_)
                  have hv_24 := rb_row6 h ((wsZ (SS.G q) (tk + 1)).2) (by omega)
                  refine lv_aload_n hx hb dL_holds_698 rfl (lv_at hl 6 rfl) ?_
                  refine lv_iload hx hb dL_holds_699 (lv_at hl 2 rfl) ?_
                  refine z_bipush hx hb dL_holds_701 (by decide +kernel) ?_
                  refine mw_full (st1 := [.int (iI (wrongZ (SS.G q) ((wsZ (SS.G q) tk).2))), .int (iI (wrongZ (SS.G q) ((wsZ (SS.G q) (tk + 1)).2)))]) (mr_V (As := [.int (iI ((wsZ (SS.G q) tk).2)), .int (iI 6)]) (rest := [.int (iI (wrongZ (SS.G q) ((wsZ (SS.G q) (tk + 1)).2)))]) (ci := 2) (q0 := 0) ⟨hx, hb, hml, hown, hts⟩ (rd_row6 l D xo xh t ta cI cC cH h ((wsZ (SS.G q) tk).2) (by omega)) (cwV 2 hts (gV q_350 q_351 q_352 q_37 q_262) rfl rfl rfl (by decide +kernel) ⟨Nat.le_trans (m := 5) (Nat.le_of_ble_eq_true rfl) (Nat.le_trans (Nat.le_of_ble_eq_true rfl) hRf), Nat.le_trans (m := 116) (Nat.le_of_ble_eq_true rfl) (Nat.le_trans (Nat.le_of_ble_eq_true rfl) hRl)⟩) hN hK hP hD rfl rfl rfl hl.1 (Nat.le_of_ble_eq_true rfl) ⟨hRc, hRs⟩ dL_holds_703) hD hS hA rfl (fun H locs hP hD hS => ?_)
                  have hv_25 := rb_row6 h ((wsZ (SS.G q) tk).2) (by omega)
                  refine z_icmp_lt (tgt := 735) hx hb dL_holds_706 (by decide) (by omega) (by omega) (fun c_26 => ?_) (fun c_26 => ?_)
                  · refine z_iconst hx hb dL_holds_735 ?_
                    refine lv_goto (tgt := 740) hx hb dL_holds_736 (by decide) ?_
                    refine lv_istore_n (lv' := [(3, .int (iI 1)), (6, .int (iI ((wsZ (SS.G q) (tk + 1)).2))), (5, .int (iI (tk : Int))), (4, .int (iI ((wsZ (SS.G q) tk).2))), (2, .int (iI (failN (SS.G q) i))), (1, .int (iI (allWrongZ (SS.G q) i))), (0, .ref xo)]) hx hb dL_holds_740 rfl hl (by decide) rfl (fun ls hl => ?_)
                    refine lv_iload hx hb dL_holds_741 (lv_at hl 1 rfl) ?_
                    refine lv_istore (lv' := [(4, .int (iI ((wsZ (SS.G q) (tk + 1)).2))), (3, .int (iI 1)), (6, .int (iI ((wsZ (SS.G q) (tk + 1)).2))), (5, .int (iI (tk : Int))), (2, .int (iI (failN (SS.G q) i))), (1, .int (iI (allWrongZ (SS.G q) i))), (0, .ref xo)]) hx hb dL_holds_743 hl (by decide) rfl (fun ls hl => ?_)
                    refine lv_iinc (v := iI ((tk : Int) + 1)) (lv' := [(5, .int (iI ((tk : Int) + 1))), (4, .int (iI ((wsZ (SS.G q) (tk + 1)).2))), (3, .int (iI 1)), (6, .int (iI ((wsZ (SS.G q) (tk + 1)).2))), (2, .int (iI (failN (SS.G q) i))), (1, .int (iI (allWrongZ (SS.G q) i))), (0, .ref xo)]) hx hb dL_holds_745 hl (k := 3) rfl (iI_add _ _) (by decide) rfl (fun ls hl => ?_)
                    refine lv_goto (tgt := 671) hx hb dL_holds_748 (by decide) ?_
                    have e1_0 : (((tk + 1 : Nat) : Int)) = ((tk : Int) + 1) := by first | rfl | omega
                    have e1_1 : ((wsZ (SS.G q) (tk + 1)).2) = (wsZ (SS.G q) (tk + 1)).2 := by first | rfl | omega
                    have e1_2 : (1) = 1 := by first | rfl | omega
                    exact ih671 (tk + 1) (by omega) (by omega) (by omega) _ _ _ hP hD hS (lv_to (lv_sub (l' := [(5, .int (iI ((tk : Int) + 1))), (4, .int (iI ((wsZ (SS.G q) (tk + 1)).2))), (3, .int (iI 1)), (2, .int (iI (failN (SS.G q) i))), (1, .int (iI (allWrongZ (SS.G q) i))), (0, .ref xo)]) hl [0, 1, 2, 4, 5, 6] rfl) (by simp only [e1_0, e1_1, e1_2]))
                  · refine lv_aload_n hx hb dL_holds_709 rfl (lv_at hl 6 rfl) ?_
                    refine lv_iload hx hb dL_holds_710 (lv_at hl 0 rfl) ?_
                    refine z_bipush hx hb dL_holds_712 (by decide +kernel) ?_
                    refine mw_full (st1 := [.int (iI (wrongZ (SS.G q) ((wsZ (SS.G q) (tk + 1)).2)))]) (mr_V (As := [.int (iI ((wsZ (SS.G q) (tk + 1)).2)), .int (iI 6)]) (rest := []) (ci := 2) (q0 := 0) ⟨hx, hb, hml, hown, hts⟩ (rd_row6 l D xo xh t ta cI cC cH h ((wsZ (SS.G q) (tk + 1)).2) (by omega)) (cwV 2 hts (gV q_350 q_351 q_352 q_37 q_262) rfl rfl rfl (by decide +kernel) ⟨Nat.le_trans (m := 5) (Nat.le_of_ble_eq_true rfl) (Nat.le_trans (Nat.le_of_ble_eq_true rfl) hRf), Nat.le_trans (m := 116) (Nat.le_of_ble_eq_true rfl) (Nat.le_trans (Nat.le_of_ble_eq_true rfl) hRl)⟩) hN hK hP hD rfl rfl rfl hl.1 (Nat.le_of_ble_eq_true rfl) ⟨hRc, hRs⟩ dL_holds_714) hD hS hA rfl (fun H locs hP hD hS => ?_)
                    have hv_27 := rb_row6 h ((wsZ (SS.G q) (tk + 1)).2) (by omega)
                    refine lv_aload_n hx hb dL_holds_717 rfl (lv_at hl 6 rfl) ?_
                    refine lv_iload hx hb dL_holds_718 (lv_at hl 2 rfl) ?_
                    refine z_bipush hx hb dL_holds_720 (by decide +kernel) ?_
                    refine mw_full (st1 := [.int (iI (wrongZ (SS.G q) ((wsZ (SS.G q) tk).2))), .int (iI (wrongZ (SS.G q) ((wsZ (SS.G q) (tk + 1)).2)))]) (mr_V (As := [.int (iI ((wsZ (SS.G q) tk).2)), .int (iI 6)]) (rest := [.int (iI (wrongZ (SS.G q) ((wsZ (SS.G q) (tk + 1)).2)))]) (ci := 2) (q0 := 0) ⟨hx, hb, hml, hown, hts⟩ (rd_row6 l D xo xh t ta cI cC cH h ((wsZ (SS.G q) tk).2) (by omega)) (cwV 2 hts (gV q_350 q_351 q_352 q_37 q_262) rfl rfl rfl (by decide +kernel) ⟨Nat.le_trans (m := 5) (Nat.le_of_ble_eq_true rfl) (Nat.le_trans (Nat.le_of_ble_eq_true rfl) hRf), Nat.le_trans (m := 116) (Nat.le_of_ble_eq_true rfl) (Nat.le_trans (Nat.le_of_ble_eq_true rfl) hRl)⟩) hN hK hP hD rfl rfl rfl hl.1 (Nat.le_of_ble_eq_true rfl) ⟨hRc, hRs⟩ dL_holds_722) hD hS hA rfl (fun H locs hP hD hS => ?_)
                    have hv_28 := rb_row6 h ((wsZ (SS.G q) tk).2) (by omega)
                    refine z_icmp_ne (tgt := 739) hx hb dL_holds_725 (by decide) (by omega) (by omega) (fun c_29 => absurd c_29 (by omega)) (fun c_29 => ?_)
                    refine lv_iload hx hb dL_holds_728 (lv_at hl 0 rfl) ?_
                    refine lv_iload hx hb dL_holds_730 (lv_at hl 2 rfl) ?_
                    refine z_icmp_le (tgt := 739) hx hb dL_holds_732 (by decide) (by omega) (by omega) (fun c_30 => absurd c_30 (by omega)) (fun c_30 => ?_)
                    refine z_iconst hx hb dL_holds_735 ?_
                    refine lv_goto (tgt := 740) hx hb dL_holds_736 (by decide) ?_
                    refine lv_istore_n (lv' := [(3, .int (iI 1)), (6, .int (iI ((wsZ (SS.G q) (tk + 1)).2))), (5, .int (iI (tk : Int))), (4, .int (iI ((wsZ (SS.G q) tk).2))), (2, .int (iI (failN (SS.G q) i))), (1, .int (iI (allWrongZ (SS.G q) i))), (0, .ref xo)]) hx hb dL_holds_740 rfl hl (by decide) rfl (fun ls hl => ?_)
                    refine lv_iload hx hb dL_holds_741 (lv_at hl 1 rfl) ?_
                    refine lv_istore (lv' := [(4, .int (iI ((wsZ (SS.G q) (tk + 1)).2))), (3, .int (iI 1)), (6, .int (iI ((wsZ (SS.G q) (tk + 1)).2))), (5, .int (iI (tk : Int))), (2, .int (iI (failN (SS.G q) i))), (1, .int (iI (allWrongZ (SS.G q) i))), (0, .ref xo)]) hx hb dL_holds_743 hl (by decide) rfl (fun ls hl => ?_)
                    refine lv_iinc (v := iI ((tk : Int) + 1)) (lv' := [(5, .int (iI ((tk : Int) + 1))), (4, .int (iI ((wsZ (SS.G q) (tk + 1)).2))), (3, .int (iI 1)), (6, .int (iI ((wsZ (SS.G q) (tk + 1)).2))), (2, .int (iI (failN (SS.G q) i))), (1, .int (iI (allWrongZ (SS.G q) i))), (0, .ref xo)]) hx hb dL_holds_745 hl (k := 3) rfl (iI_add _ _) (by decide) rfl (fun ls hl => ?_)
                    refine lv_goto (tgt := 671) hx hb dL_holds_748 (by decide) ?_
                    have e1_0 : (((tk + 1 : Nat) : Int)) = ((tk : Int) + 1) := by first | rfl | omega
                    have e1_1 : ((wsZ (SS.G q) (tk + 1)).2) = (wsZ (SS.G q) (tk + 1)).2 := by first | rfl | omega
                    have e1_2 : (1) = 1 := by first | rfl | omega
                    exact ih671 (tk + 1) (by omega) (by omega) (by omega) _ _ _ hP hD hS (lv_to (lv_sub (l' := [(5, .int (iI ((tk : Int) + 1))), (4, .int (iI ((wsZ (SS.G q) (tk + 1)).2))), (3, .int (iI 1)), (2, .int (iI (failN (SS.G q) i))), (1, .int (iI (allWrongZ (SS.G q) i))), (0, .ref xo)]) hl [0, 1, 2, 4, 5, 6] rfl) (by simp only [e1_0, e1_1, e1_2]))
            have e0_0 : (((1 : Nat) : Int)) = 1 := by first | rfl | omega
            have e0_1 : ((wsZ (SS.G q) (1)).2) = (wsZ (SS.G q) (0 + 1)).2 := by first | rfl | omega
            exact LP671 (6 + 1) 1 (by omega) (by omega) (by omega) _ _ _ hP hD hS (lv_to (lv_sub (l' := [(5, .int (iI 1)), (4, .int (iI ((wsZ (SS.G q) (0 + 1)).2))), (3, .int (iI 1)), (2, .int (iI (failN (SS.G q) i))), (1, .int (iI (allWrongZ (SS.G q) i))), (0, .ref xo)]) hl [0, 1, 2, 3, 4, 5] rfl) (by simp only [e0_0, e0_1]))
          · refine lv_iload_n hx hb dL_holds_94 rfl (lv_at hl 1 rfl) ?_
            refine z_if_eq (tgt := 661) hx hb dL_holds_95 (by decide) (by omega) (fun c_31 => absurd c_31 (by omega)) (fun c_31 => ?_)
            refine lv_aload_n hx hb dL_holds_98 rfl (lv_at hl 4 rfl) ?_
            refine lv_iload hx hb dL_holds_99 (lv_at hl 0 rfl) ?_
            refine z_iconst hx hb dL_holds_101 ?_
            refine z_iconst hx hb dL_holds_102 ?_
            refine mw_full (st1 := [.int (iI (SS.G q 4 (3 * (i : Int) + (1 : Int))))]) (mr_V (As := [.int (iI (i : Int)), .int (iI 1), .int (iI 0)]) (rest := []) (ci := 2) (q0 := 0) ⟨hx, hb, hml, hown, hts⟩ (rd_guard0 l D xo xh t ta cI cC cH h (i : Int) (1 : Int) (by omega) (by omega)) (cwV 3 hts (gV q_353 q_354 q_355 q_37 q_258) rfl rfl rfl (by decide +kernel) ⟨Nat.le_trans (m := 4) (Nat.le_of_ble_eq_true rfl) (Nat.le_trans (Nat.le_of_ble_eq_true rfl) hRf), Nat.le_trans (m := 90) (Nat.le_of_ble_eq_true rfl) (Nat.le_trans (Nat.le_of_ble_eq_true rfl) hRl)⟩) hN hK hP hD rfl rfl rfl hl.1 (Nat.le_of_ble_eq_true rfl) ⟨hRc, hRs⟩ dL_holds_103) hD hS hA rfl (fun H locs hP hD hS => ?_)
            have hv_32 := rb_guard0 h (i : Int) (1 : Int) (by omega) (by omega)
            refine lv_istore (lv' := [(5, .int (iI (SS.G q 4 (3 * (i : Int) + (1 : Int))))), (4, .int (iI (i : Int))), (3, .int (iI 1)), (2, .int (iI (failN (SS.G q) i))), (1, .int (iI (allWrongZ (SS.G q) i))), (0, .ref xo)]) hx hb dL_holds_106 hl (by decide) rfl (fun ls hl => ?_)
            have hre := right_e1 (G := SS.G q) (r := (i : Int)) (by omega)
            have J_33 : ∀ (bz_34 : Int) (H : Heap) (locs : List Loc), (bz_34 = (rightZ (SS.G q) (i : Int))) → va_P D vwCl (wS xo xh t ta cI cC cH q) H → va_D A (wS xo xh t ta cI cC cH q) → va_S A s.heap H locs → W p l e R s m args below meth c H locs 0 0 Q (F0 m 153 ls [.int (iI bz_34)]) := by
              intro bz_34 H locs hbz_34 hP hD hS
              refine lv_istore (lv' := [(6, .int (iI bz_34)), (5, .int (iI (SS.G q 4 (3 * (i : Int) + (1 : Int))))), (4, .int (iI (i : Int))), (3, .int (iI 1)), (2, .int (iI (failN (SS.G q) i))), (1, .int (iI (allWrongZ (SS.G q) i))), (0, .ref xo)]) hx hb dL_holds_153 hl (by decide) rfl (fun ls hl => ?_)
              refine lv_aload_n hx hb dL_holds_155 rfl (lv_at hl 6 rfl) ?_
              refine lv_iload hx hb dL_holds_156 (lv_at hl 2 rfl) ?_
              refine z_iconst hx hb dL_holds_158 ?_
              refine mw_full (st1 := [.int (iI (thrZ (SS.G q) (i : Int) 0))]) (mr_V (As := [.int (iI (i : Int)), .int (iI 4)]) (rest := []) (ci := 2) (q0 := 0) ⟨hx, hb, hml, hown, hts⟩ (rd_row4 l D xo xh t ta cI cC cH h (i : Int) (by omega)) (cwV 2 hts (gV q_350 q_351 q_352 q_37 q_262) rfl rfl rfl (by decide +kernel) ⟨Nat.le_trans (m := 5) (Nat.le_of_ble_eq_true rfl) (Nat.le_trans (Nat.le_of_ble_eq_true rfl) hRf), Nat.le_trans (m := 116) (Nat.le_of_ble_eq_true rfl) (Nat.le_trans (Nat.le_of_ble_eq_true rfl) hRl)⟩) hN hK hP hD rfl rfl rfl hl.1 (Nat.le_of_ble_eq_true rfl) ⟨hRc, hRs⟩ dL_holds_159) hD hS hA rfl (fun H locs hP hD hS => ?_)
              have hv_35 := rb_row4 h (i : Int) (by omega)
              refine lv_istore (lv' := [(7, .int (iI (thrZ (SS.G q) (i : Int) 0))), (6, .int (iI bz_34)), (5, .int (iI (SS.G q 4 (3 * (i : Int) + (1 : Int))))), (4, .int (iI (i : Int))), (3, .int (iI 1)), (2, .int (iI (failN (SS.G q) i))), (1, .int (iI (allWrongZ (SS.G q) i))), (0, .ref xo)]) hx hb dL_holds_162 hl (by decide) rfl (fun ls hl => ?_)
              refine lv_aload_n hx hb dL_holds_164 rfl (lv_at hl 7 rfl) ?_
              refine lv_iload hx hb dL_holds_165 (lv_at hl 3 rfl) ?_
              refine z_iconst hx hb dL_holds_167 ?_
              refine mw_full (st1 := [.int (iI (thrZ (SS.G q) (i : Int) 1))]) (mr_V (As := [.int (iI (i : Int)), .int (iI 5)]) (rest := []) (ci := 2) (q0 := 0) ⟨hx, hb, hml, hown, hts⟩ (rd_row5 l D xo xh t ta cI cC cH h (i : Int) (by omega)) (cwV 2 hts (gV q_350 q_351 q_352 q_37 q_262) rfl rfl rfl (by decide +kernel) ⟨Nat.le_trans (m := 5) (Nat.le_of_ble_eq_true rfl) (Nat.le_trans (Nat.le_of_ble_eq_true rfl) hRf), Nat.le_trans (m := 116) (Nat.le_of_ble_eq_true rfl) (Nat.le_trans (Nat.le_of_ble_eq_true rfl) hRl)⟩) hN hK hP hD rfl rfl rfl hl.1 (Nat.le_of_ble_eq_true rfl) ⟨hRc, hRs⟩ dL_holds_168) hD hS hA rfl (fun H locs hP hD hS => ?_)
              have hv_36 := rb_row5 h (i : Int) (by omega)
              refine lv_istore (lv' := [(8, .int (iI (thrZ (SS.G q) (i : Int) 1))), (7, .int (iI (thrZ (SS.G q) (i : Int) 0))), (6, .int (iI bz_34)), (5, .int (iI (SS.G q 4 (3 * (i : Int) + (1 : Int))))), (4, .int (iI (i : Int))), (3, .int (iI 1)), (2, .int (iI (failN (SS.G q) i))), (1, .int (iI (allWrongZ (SS.G q) i))), (0, .ref xo)]) hx hb dL_holds_171 hl (by decide) rfl (fun ls hl => ?_)
              have hlo : (i : Int) ≤ 0 → rightZ (SS.G q) ((i : Int) - 1) = 0 := fun c => right_lo _ (by omega)
              have hhi : 5 ≤ (i : Int) → rightZ (SS.G q) ((i : Int) + 1) = 0 := fun c => right_hi _ (by omega)
              have J_37 : ∀ (bz_38 : Int) (H : Heap) (locs : List Loc), (bz_38 = (if rightZ (SS.G q) ((i : Int) - 1) = 1 ∨ rightZ (SS.G q) ((i : Int) + 1) = 1 then 1 else 0)) → va_P D vwCl (wS xo xh t ta cI cC cH q) H → va_D A (wS xo xh t ta cI cC cH q) → va_S A s.heap H locs → W p l e R s m args below meth c H locs 0 0 Q (F0 m 215 ls [.int (iI bz_38)]) := by
                intro bz_38 H locs hbz_38 hP hD hS
                refine lv_istore (lv' := [(9, .int (iI bz_38)), (8, .int (iI (thrZ (SS.G q) (i : Int) 1))), (7, .int (iI (thrZ (SS.G q) (i : Int) 0))), (6, .int (iI bz_34)), (5, .int (iI (SS.G q 4 (3 * (i : Int) + (1 : Int))))), (4, .int (iI (i : Int))), (3, .int (iI 1)), (2, .int (iI (failN (SS.G q) i))), (1, .int (iI (allWrongZ (SS.G q) i))), (0, .ref xo)]) hx hb dL_holds_215 hl (by decide) rfl (fun ls hl => ?_)
                refine lv_iload_n hx hb dL_holds_217 rfl (lv_at hl 8 rfl) ?_
                refine lv_aload_n hx hb dL_holds_218 rfl (lv_at hl 9 rfl) ?_
                refine lv_iload hx hb dL_holds_219 (lv_at hl 5 rfl) ?_
                refine z_bipush hx hb dL_holds_221 (by decide +kernel) ?_
                refine mw_full (st1 := [.int (iI (wrongZ (SS.G q) (i : Int))), .int (iI (allWrongZ (SS.G q) i))]) (mr_V (As := [.int (iI (i : Int)), .int (iI 6)]) (rest := [.int (iI (allWrongZ (SS.G q) i))]) (ci := 2) (q0 := 0) ⟨hx, hb, hml, hown, hts⟩ (rd_row6 l D xo xh t ta cI cC cH h (i : Int) (by omega)) (cwV 2 hts (gV q_350 q_351 q_352 q_37 q_262) rfl rfl rfl (by decide +kernel) ⟨Nat.le_trans (m := 5) (Nat.le_of_ble_eq_true rfl) (Nat.le_trans (Nat.le_of_ble_eq_true rfl) hRf), Nat.le_trans (m := 116) (Nat.le_of_ble_eq_true rfl) (Nat.le_trans (Nat.le_of_ble_eq_true rfl) hRl)⟩) hN hK hP hD rfl rfl rfl hl.1 (Nat.le_of_ble_eq_true rfl) ⟨hRc, hRs⟩ dL_holds_223) hD hS hA rfl (fun H locs hP hD hS => ?_)
                have hv_39 := rb_row6 h (i : Int) (by omega)
                refine z_iadd hx hb dL_holds_226 ?_
                refine lv_istore_n (lv' := [(1, .int (iI ((allWrongZ (SS.G q) i) + (wrongZ (SS.G q) (i : Int))))), (9, .int (iI bz_38)), (8, .int (iI (thrZ (SS.G q) (i : Int) 1))), (7, .int (iI (thrZ (SS.G q) (i : Int) 0))), (6, .int (iI bz_34)), (5, .int (iI (SS.G q 4 (3 * (i : Int) + (1 : Int))))), (4, .int (iI (i : Int))), (3, .int (iI 1)), (2, .int (iI (failN (SS.G q) i))), (0, .ref xo)]) hx hb dL_holds_227 rfl hl (by decide) rfl (fun ls hl => ?_)
                refine lv_iload_n hx hb dL_holds_228 rfl (lv_at hl 8 rfl) ?_
                refine lv_aload_n hx hb dL_holds_229 rfl (lv_at hl 9 rfl) ?_
                refine lv_iload hx hb dL_holds_230 (lv_at hl 6 rfl) ?_
                refine z_iconst hx hb dL_holds_232 ?_
                refine z_iconst hx hb dL_holds_233 ?_
                refine mw_full (st1 := [.int (iI (SS.G q 5 (3 * (i : Int) + (0 : Int)))), .int (iI (failN (SS.G q) i))]) (mr_V (As := [.int (iI (i : Int)), .int (iI 0), .int (iI 1)]) (rest := [.int (iI (failN (SS.G q) i))]) (ci := 2) (q0 := 0) ⟨hx, hb, hml, hown, hts⟩ (rd_guard1 l D xo xh t ta cI cC cH h (i : Int) (0 : Int) (by omega) (by omega)) (cwV 3 hts (gV q_353 q_354 q_355 q_37 q_258) rfl rfl rfl (by decide +kernel) ⟨Nat.le_trans (m := 4) (Nat.le_of_ble_eq_true rfl) (Nat.le_trans (Nat.le_of_ble_eq_true rfl) hRf), Nat.le_trans (m := 90) (Nat.le_of_ble_eq_true rfl) (Nat.le_trans (Nat.le_of_ble_eq_true rfl) hRl)⟩) hN hK hP hD rfl rfl rfl hl.1 (Nat.le_of_ble_eq_true rfl) ⟨hRc, hRs⟩ dL_holds_234) hD hS hA rfl (fun H locs hP hD hS => ?_)
                have hv_40 := rb_guard1 h (i : Int) (0 : Int) (by omega) (by omega)
                refine lv_aload_n hx hb dL_holds_237 rfl (lv_at hl 9 rfl) ?_
                refine lv_iload hx hb dL_holds_238 (lv_at hl 6 rfl) ?_
                refine z_iconst hx hb dL_holds_240 ?_
                refine z_iconst hx hb dL_holds_241 ?_
                refine mw_full (st1 := [.int (iI (SS.G q 5 (3 * (i : Int) + (1 : Int)))), .int (iI (SS.G q 5 (3 * (i : Int) + (0 : Int)))), .int (iI (failN (SS.G q) i))]) (mr_V (As := [.int (iI (i : Int)), .int (iI 1), .int (iI 1)]) (rest := [.int (iI (SS.G q 5 (3 * (i : Int) + (0 : Int)))), .int (iI (failN (SS.G q) i))]) (ci := 2) (q0 := 0) ⟨hx, hb, hml, hown, hts⟩ (rd_guard1 l D xo xh t ta cI cC cH h (i : Int) (1 : Int) (by omega) (by omega)) (cwV 3 hts (gV q_353 q_354 q_355 q_37 q_258) rfl rfl rfl (by decide +kernel) ⟨Nat.le_trans (m := 4) (Nat.le_of_ble_eq_true rfl) (Nat.le_trans (Nat.le_of_ble_eq_true rfl) hRf), Nat.le_trans (m := 90) (Nat.le_of_ble_eq_true rfl) (Nat.le_trans (Nat.le_of_ble_eq_true rfl) hRl)⟩) hN hK hP hD rfl rfl rfl hl.1 (Nat.le_of_ble_eq_true rfl) ⟨hRc, hRs⟩ dL_holds_242) hD hS hA rfl (fun H locs hP hD hS => ?_)
                have hv_41 := rb_guard1 h (i : Int) (1 : Int) (by omega) (by omega)
                refine z_iadd hx hb dL_holds_245 ?_
                refine lv_aload_n hx hb dL_holds_246 rfl (lv_at hl 9 rfl) ?_
                refine lv_iload hx hb dL_holds_247 (lv_at hl 6 rfl) ?_
                refine z_iconst hx hb dL_holds_249 ?_
                refine z_iconst hx hb dL_holds_250 ?_
                refine mw_full (st1 := [.int (iI (SS.G q 5 (3 * (i : Int) + (2 : Int)))), .int (iI ((SS.G q 5 (3 * (i : Int) + (0 : Int))) + (SS.G q 5 (3 * (i : Int) + (1 : Int))))), .int (iI (failN (SS.G q) i))]) (mr_V (As := [.int (iI (i : Int)), .int (iI 2), .int (iI 1)]) (rest := [.int (iI ((SS.G q 5 (3 * (i : Int) + (0 : Int))) + (SS.G q 5 (3 * (i : Int) + (1 : Int))))), .int (iI (failN (SS.G q) i))]) (ci := 2) (q0 := 0) ⟨hx, hb, hml, hown, hts⟩ (rd_guard1 l D xo xh t ta cI cC cH h (i : Int) (2 : Int) (by omega) (by omega)) (cwV 3 hts (gV q_353 q_354 q_355 q_37 q_258) rfl rfl rfl (by decide +kernel) ⟨Nat.le_trans (m := 4) (Nat.le_of_ble_eq_true rfl) (Nat.le_trans (Nat.le_of_ble_eq_true rfl) hRf), Nat.le_trans (m := 90) (Nat.le_of_ble_eq_true rfl) (Nat.le_trans (Nat.le_of_ble_eq_true rfl) hRl)⟩) hN hK hP hD rfl rfl rfl hl.1 (Nat.le_of_ble_eq_true rfl) ⟨hRc, hRs⟩ dL_holds_251) hD hS hA rfl (fun H locs hP hD hS => ?_)
                have hv_42 := rb_guard1 h (i : Int) (2 : Int) (by omega) (by omega)
                refine z_iadd hx hb dL_holds_254 ?_
                refine z_iadd hx hb dL_holds_255 ?_
                refine lv_istore_n (lv' := [(2, .int (iI ((failN (SS.G q) i) + (((SS.G q 5 (3 * (i : Int) + (0 : Int))) + (SS.G q 5 (3 * (i : Int) + (1 : Int)))) + (SS.G q 5 (3 * (i : Int) + (2 : Int))))))), (1, .int (iI ((allWrongZ (SS.G q) i) + (wrongZ (SS.G q) (i : Int))))), (9, .int (iI bz_38)), (8, .int (iI (thrZ (SS.G q) (i : Int) 1))), (7, .int (iI (thrZ (SS.G q) (i : Int) 0))), (6, .int (iI bz_34)), (5, .int (iI (SS.G q 4 (3 * (i : Int) + (1 : Int))))), (4, .int (iI (i : Int))), (3, .int (iI 1)), (0, .ref xo)]) hx hb dL_holds_256 rfl hl (by decide) rfl (fun ls hl => ?_)
                refine lv_aload_n hx hb dL_holds_257 rfl (lv_at hl 9 rfl) ?_
                refine lv_iload hx hb dL_holds_258 (lv_at hl 7 rfl) ?_
                refine z_iconst hx hb dL_holds_260 ?_
                refine mw_full (st1 := [.int (iI (rightZ (SS.G q) (i : Int)))]) (mr_V (As := [.int (iI (i : Int)), .int (iI 2)]) (rest := []) (ci := 2) (q0 := 0) ⟨hx, hb, hml, hown, hts⟩ (rd_row2 l D xo xh t ta cI cC cH h (i : Int) (by omega)) (cwV 2 hts (gV q_350 q_351 q_352 q_37 q_262) rfl rfl rfl (by decide +kernel) ⟨Nat.le_trans (m := 5) (Nat.le_of_ble_eq_true rfl) (Nat.le_trans (Nat.le_of_ble_eq_true rfl) hRf), Nat.le_trans (m := 116) (Nat.le_of_ble_eq_true rfl) (Nat.le_trans (Nat.le_of_ble_eq_true rfl) hRl)⟩) hN hK hP hD rfl rfl rfl hl.1 (Nat.le_of_ble_eq_true rfl) ⟨hRc, hRs⟩ dL_holds_261) hD hS hA rfl (fun H locs hP hD hS => ?_)
                have hv_43 := rb_row2 h (i : Int) (by omega)
                have J_44 : ∀ (bz_45 : Int) (H : Heap) (locs : List Loc), (bz_45 = (if bz_34 = 0 then 0 else 1)) → va_P D vwCl (wS xo xh t ta cI cC cH q) H → va_D A (wS xo xh t ta cI cC cH q) → va_S A s.heap H locs → W p l e R s m args below meth c H locs 0 0 Q (F0 m 274 ls [.int (iI bz_45), .int (iI (rightZ (SS.G q) (i : Int)))]) := by
                  intro bz_45 H locs hbz_45 hP hD hS
                  refine z_icmp_ne (tgt := 460) hx hb dL_holds_274 (by decide) (by omega) (by omega) (fun c_46 => absurd c_46 (by omega)) (fun c_46 => ?_)
                  have hsrc := src_e (SS.G q) (i : Int)
                  have hrx := rightZ_01 (SS.G q) (i : Int)
                  refine lv_aload_n hx hb dL_holds_277 rfl (lv_at hl 9 rfl) ?_
                  refine lv_iload hx hb dL_holds_278 (lv_at hl 7 rfl) ?_
                  refine z_iconst hx hb dL_holds_280 ?_
                  refine mw_full (st1 := [.int (iI (sourceZ (SS.G q) (i : Int)))]) (mr_V (As := [.int (iI (i : Int)), .int (iI 3)]) (rest := []) (ci := 2) (q0 := 0) ⟨hx, hb, hml, hown, hts⟩ (rd_row3 l D xo xh t ta cI cC cH h (i : Int) (by omega)) (cwV 2 hts (gV q_350 q_351 q_352 q_37 q_262) rfl rfl rfl (by decide +kernel) ⟨Nat.le_trans (m := 5) (Nat.le_of_ble_eq_true rfl) (Nat.le_trans (Nat.le_of_ble_eq_true rfl) hRf), Nat.le_trans (m := 116) (Nat.le_of_ble_eq_true rfl) (Nat.le_trans (Nat.le_of_ble_eq_true rfl) hRl)⟩) hN hK hP hD rfl rfl rfl hl.1 (Nat.le_of_ble_eq_true rfl) ⟨hRc, hRs⟩ dL_holds_281) hD hS hA rfl (fun H locs hP hD hS => ?_)
                  have hv_47 := rb_row3 h (i : Int) (by omega)
                  have J_48 : ∀ (bz_49 : Int) (H : Heap) (locs : List Loc), (bz_49 = (if bz_34 ≠ 0 then 0 else if bz_38 ≠ 0 then 1 else 2)) → va_P D vwCl (wS xo xh t ta cI cC cH q) H → va_D A (wS xo xh t ta cI cC cH q) → va_S A s.heap H locs → W p l e R s m args below meth c H locs 0 0 Q (F0 m 303 ls [.int (iI bz_49), .int (iI (sourceZ (SS.G q) (i : Int)))]) := by
                    intro bz_49 H locs hbz_49 hP hD hS
                    refine z_icmp_ne (tgt := 460) hx hb dL_holds_303 (by decide) (by omega) (by omega) (fun c_50 => absurd c_50 (by omega)) (fun c_50 => ?_)
                    have hoe := own_e (SS.G q) (i : Int)
                    refine lv_aload_n hx hb dL_holds_306 rfl (lv_at hl 9 rfl) ?_
                    refine lv_iload hx hb dL_holds_307 (lv_at hl 7 rfl) ?_
                    refine z_iconst hx hb dL_holds_309 ?_
                    refine mw_full (st1 := [.int (iI (ownZ (SS.G q) (i : Int) 0))]) (mr_V (As := [.int (iI (i : Int)), .int (iI 0)]) (rest := []) (ci := 2) (q0 := 0) ⟨hx, hb, hml, hown, hts⟩ (rd_row0 l D xo xh t ta cI cC cH h (i : Int) (by omega)) (cwV 2 hts (gV q_350 q_351 q_352 q_37 q_262) rfl rfl rfl (by decide +kernel) ⟨Nat.le_trans (m := 5) (Nat.le_of_ble_eq_true rfl) (Nat.le_trans (Nat.le_of_ble_eq_true rfl) hRf), Nat.le_trans (m := 116) (Nat.le_of_ble_eq_true rfl) (Nat.le_trans (Nat.le_of_ble_eq_true rfl) hRl)⟩) hN hK hP hD rfl rfl rfl hl.1 (Nat.le_of_ble_eq_true rfl) ⟨hRc, hRs⟩ dL_holds_310) hD hS hA rfl (fun H locs hP hD hS => ?_)
                    have hv_51 := rb_row0 h (i : Int) (by omega)
                    refine lv_aload_n hx hb dL_holds_313 rfl (lv_at hl 9 rfl) ?_
                    refine lv_iload hx hb dL_holds_314 (lv_at hl 7 rfl) ?_
                    refine z_iconst hx hb dL_holds_316 ?_
                    refine z_iconst hx hb dL_holds_317 ?_
                    refine mw_full (st1 := [.int (iI (SS.G q 4 (3 * (i : Int) + (0 : Int)))), .int (iI (ownZ (SS.G q) (i : Int) 0))]) (mr_V (As := [.int (iI (i : Int)), .int (iI 0), .int (iI 0)]) (rest := [.int (iI (ownZ (SS.G q) (i : Int) 0))]) (ci := 2) (q0 := 0) ⟨hx, hb, hml, hown, hts⟩ (rd_guard0 l D xo xh t ta cI cC cH h (i : Int) (0 : Int) (by omega) (by omega)) (cwV 3 hts (gV q_353 q_354 q_355 q_37 q_258) rfl rfl rfl (by decide +kernel) ⟨Nat.le_trans (m := 4) (Nat.le_of_ble_eq_true rfl) (Nat.le_trans (Nat.le_of_ble_eq_true rfl) hRf), Nat.le_trans (m := 90) (Nat.le_of_ble_eq_true rfl) (Nat.le_trans (Nat.le_of_ble_eq_true rfl) hRl)⟩) hN hK hP hD rfl rfl rfl hl.1 (Nat.le_of_ble_eq_true rfl) ⟨hRc, hRs⟩ dL_holds_318) hD hS hA rfl (fun H locs hP hD hS => ?_)
                    have hv_52 := rb_guard0 h (i : Int) (0 : Int) (by omega) (by omega)
                    refine lv_iload hx hb dL_holds_321 (lv_at hl 6 rfl) ?_
                    refine z_iadd hx hb dL_holds_323 ?_
                    refine z_iconst hx hb dL_holds_324 ?_
                    refine z_idiv hx hb dL_holds_325 (by omega) (by omega) ?_
                    refine z_icmp_ne (tgt := 460) hx hb dL_holds_326 (by decide) (by omega) (by omega) (fun c_53 => absurd c_53 (by omega)) (fun c_53 => ?_)
                    refine lv_aload_n hx hb dL_holds_329 rfl (lv_at hl 9 rfl) ?_
                    refine lv_iload hx hb dL_holds_330 (lv_at hl 7 rfl) ?_
                    refine z_iconst hx hb dL_holds_332 ?_
                    refine mw_full (st1 := [.int (iI (ownZ (SS.G q) (i : Int) 1))]) (mr_V (As := [.int (iI (i : Int)), .int (iI 1)]) (rest := []) (ci := 2) (q0 := 0) ⟨hx, hb, hml, hown, hts⟩ (rd_row1 l D xo xh t ta cI cC cH h (i : Int) (by omega)) (cwV 2 hts (gV q_350 q_351 q_352 q_37 q_262) rfl rfl rfl (by decide +kernel) ⟨Nat.le_trans (m := 5) (Nat.le_of_ble_eq_true rfl) (Nat.le_trans (Nat.le_of_ble_eq_true rfl) hRf), Nat.le_trans (m := 116) (Nat.le_of_ble_eq_true rfl) (Nat.le_trans (Nat.le_of_ble_eq_true rfl) hRl)⟩) hN hK hP hD rfl rfl rfl hl.1 (Nat.le_of_ble_eq_true rfl) ⟨hRc, hRs⟩ dL_holds_333) hD hS hA rfl (fun H locs hP hD hS => ?_)
                    have hv_54 := rb_row1 h (i : Int) (by omega)
                    refine lv_iload hx hb dL_holds_336 (lv_at hl 6 rfl) ?_
                    refine lv_aload_n hx hb dL_holds_338 rfl (lv_at hl 9 rfl) ?_
                    refine lv_iload hx hb dL_holds_339 (lv_at hl 7 rfl) ?_
                    refine z_iconst hx hb dL_holds_341 ?_
                    refine z_iconst hx hb dL_holds_342 ?_
                    refine mw_full (st1 := [.int (iI (SS.G q 4 (3 * (i : Int) + (2 : Int)))), .int (iI (SS.G q 4 (3 * (i : Int) + (1 : Int)))), .int (iI (ownZ (SS.G q) (i : Int) 1))]) (mr_V (As := [.int (iI (i : Int)), .int (iI 2), .int (iI 0)]) (rest := [.int (iI (SS.G q 4 (3 * (i : Int) + (1 : Int)))), .int (iI (ownZ (SS.G q) (i : Int) 1))]) (ci := 2) (q0 := 0) ⟨hx, hb, hml, hown, hts⟩ (rd_guard0 l D xo xh t ta cI cC cH h (i : Int) (2 : Int) (by omega) (by omega)) (cwV 3 hts (gV q_353 q_354 q_355 q_37 q_258) rfl rfl rfl (by decide +kernel) ⟨Nat.le_trans (m := 4) (Nat.le_of_ble_eq_true rfl) (Nat.le_trans (Nat.le_of_ble_eq_true rfl) hRf), Nat.le_trans (m := 90) (Nat.le_of_ble_eq_true rfl) (Nat.le_trans (Nat.le_of_ble_eq_true rfl) hRl)⟩) hN hK hP hD rfl rfl rfl hl.1 (Nat.le_of_ble_eq_true rfl) ⟨hRc, hRs⟩ dL_holds_343) hD hS hA rfl (fun H locs hP hD hS => ?_)
                    have hv_55 := rb_guard0 h (i : Int) (2 : Int) (by omega) (by omega)
                    refine z_iadd hx hb dL_holds_346 ?_
                    refine z_iconst hx hb dL_holds_347 ?_
                    refine z_idiv hx hb dL_holds_348 (by omega) (by omega) ?_
                    refine z_icmp_ne (tgt := 460) hx hb dL_holds_349 (by decide) (by omega) (by omega) (fun c_56 => absurd c_56 (by omega)) (fun c_56 => ?_)
                    have hra := rightZ_01 (SS.G q) ((i : Int) - 1)
                    have hrb := rightZ_01 (SS.G q) ((i : Int) + 1)
                    have J_57 : ∀ (H : Heap) (locs : List Loc), va_P D vwCl (wS xo xh t ta cI cC cH q) H → va_D A (wS xo xh t ta cI cC cH q) → va_S A s.heap H locs → W p l e R s m args below meth c H locs 0 0 Q (F0 m 407 ls []) := by
                      intro H locs hP hD hS
                      have htl := thr_lt h.1.1 (i : Int)
                      refine lv_iload hx hb dL_holds_407 (lv_at hl 4 rfl) ?_
                      refine lv_iload hx hb dL_holds_409 (lv_at hl 3 rfl) ?_
                      refine z_icmp_ge (tgt := 460) hx hb dL_holds_411 (by decide) (by omega) (by omega) (fun c_59 => absurd c_59 (by omega)) (fun c_59 => ?_)
                      have hage : ageZ (SS.G q) (i : Int) = SS.G q 12 0 - SS.G q 7 (i : Int) := rfl
                      have h7 := invG_7 h.1.1 (i : Int) (by omega) (by omega)
                      refine lv_aload_n hx hb dL_holds_414 rfl (lv_at hl 9 rfl) ?_
                      refine lv_iload hx hb dL_holds_415 (lv_at hl 7 rfl) ?_
                      refine z_bipush hx hb dL_holds_417 (by decide +kernel) ?_
                      refine mw_full (st1 := [.int (iI (ageZ (SS.G q) (i : Int)))]) (mr_V (As := [.int (iI (i : Int)), .int (iI 9)]) (rest := []) (ci := 2) (q0 := 0) ⟨hx, hb, hml, hown, hts⟩ (rd_row9 l D xo xh t ta cI cC cH h (i : Int) (by omega)) (cwV 2 hts (gV q_350 q_351 q_352 q_37 q_262) rfl rfl rfl (by decide +kernel) ⟨Nat.le_trans (m := 5) (Nat.le_of_ble_eq_true rfl) (Nat.le_trans (Nat.le_of_ble_eq_true rfl) hRf), Nat.le_trans (m := 116) (Nat.le_of_ble_eq_true rfl) (Nat.le_trans (Nat.le_of_ble_eq_true rfl) hRl)⟩) hN hK hP hD rfl rfl rfl hl.1 (Nat.le_of_ble_eq_true rfl) ⟨hRc, hRs⟩ dL_holds_419) hD hS hA rfl (fun H locs hP hD hS => ?_)
                      have hv_60 := rb_row9 h (i : Int) (by omega)
                      refine lv_aload_n hx hb dL_holds_422 rfl (lv_at hl 9 rfl) ?_
                      refine z_iconst hx hb dL_holds_423 ?_
                      refine mw_full (st1 := [.int (iI (SS.G q 12 0)), .int (iI (ageZ (SS.G q) (i : Int)))]) (mr_V (As := [.int (iI 0)]) (rest := [.int (iI (ageZ (SS.G q) (i : Int)))]) (ci := 2) (q0 := 0) ⟨hx, hb, hml, hown, hts⟩ (rd_cnt0 l D xo xh t ta cI cC cH h (by omega)) (cwV 1 hts (gV q_344 q_345 q_346 q_37 q_304) rfl rfl rfl (by decide +kernel) ⟨Nat.le_trans (m := 6) (Nat.le_of_ble_eq_true rfl) (Nat.le_trans (Nat.le_of_ble_eq_true rfl) hRf), Nat.le_trans (m := 133) (Nat.le_of_ble_eq_true rfl) (Nat.le_trans (Nat.le_of_ble_eq_true rfl) hRl)⟩) hN hK hP hD rfl rfl rfl hl.1 (Nat.le_of_ble_eq_true rfl) ⟨hRc, hRs⟩ dL_holds_424) hD hS hA rfl (fun H locs hP hD hS => ?_)
                      have hv_61 := rb_cnt0 h (by omega)
                      refine z_icmp_gt (tgt := 460) hx hb dL_holds_427 (by decide) (by omega) (by omega) (fun c_62 => absurd c_62 (by omega)) (fun c_62 => ?_)
                      refine lv_aload_n hx hb dL_holds_430 rfl (lv_at hl 9 rfl) ?_
                      refine lv_iload hx hb dL_holds_431 (lv_at hl 7 rfl) ?_
                      refine z_bipush hx hb dL_holds_433 (by decide +kernel) ?_
                      refine mw_full (st1 := [.int (iI (SS.G q 6 (i : Int)))]) (mr_V (As := [.int (iI (i : Int)), .int (iI 8)]) (rest := []) (ci := 2) (q0 := 0) ⟨hx, hb, hml, hown, hts⟩ (rd_row8 l D xo xh t ta cI cC cH h (i : Int) (by omega)) (cwV 2 hts (gV q_350 q_351 q_352 q_37 q_262) rfl rfl rfl (by decide +kernel) ⟨Nat.le_trans (m := 5) (Nat.le_of_ble_eq_true rfl) (Nat.le_trans (Nat.le_of_ble_eq_true rfl) hRf), Nat.le_trans (m := 116) (Nat.le_of_ble_eq_true rfl) (Nat.le_trans (Nat.le_of_ble_eq_true rfl) hRl)⟩) hN hK hP hD rfl rfl rfl hl.1 (Nat.le_of_ble_eq_true rfl) ⟨hRc, hRs⟩ dL_holds_435) hD hS hA rfl (fun H locs hP hD hS => ?_)
                      have hv_63 := rb_row8 h (i : Int) (by omega)
                      refine z_iconst hx hb dL_holds_438 ?_
                      refine z_icmp_lt (tgt := 460) hx hb dL_holds_439 (by decide) (by omega) (by omega) (fun c_64 => absurd c_64 (by omega)) (fun c_64 => ?_)
                      refine lv_aload_n hx hb dL_holds_442 rfl (lv_at hl 9 rfl) ?_
                      refine lv_iload hx hb dL_holds_443 (lv_at hl 7 rfl) ?_
                      refine z_bipush hx hb dL_holds_445 (by decide +kernel) ?_
                      refine mw_full (st1 := [.int (iI (SS.G q 6 (i : Int)))]) (mr_V (As := [.int (iI (i : Int)), .int (iI 8)]) (rest := []) (ci := 2) (q0 := 0) ⟨hx, hb, hml, hown, hts⟩ (rd_row8 l D xo xh t ta cI cC cH h (i : Int) (by omega)) (cwV 2 hts (gV q_350 q_351 q_352 q_37 q_262) rfl rfl rfl (by decide +kernel) ⟨Nat.le_trans (m := 5) (Nat.le_of_ble_eq_true rfl) (Nat.le_trans (Nat.le_of_ble_eq_true rfl) hRf), Nat.le_trans (m := 116) (Nat.le_of_ble_eq_true rfl) (Nat.le_trans (Nat.le_of_ble_eq_true rfl) hRl)⟩) hN hK hP hD rfl rfl rfl hl.1 (Nat.le_of_ble_eq_true rfl) ⟨hRc, hRs⟩ dL_holds_447) hD hS hA rfl (fun H locs hP hD hS => ?_)
                      have hv_65 := rb_row8 h (i : Int) (by omega)
                      refine z_sipush hx hb dL_holds_450 (by decide +kernel) ?_
                      refine z_icmp_gt (tgt := 460) hx hb dL_holds_453 (by decide) (by omega) (by omega) (fun c_66 => absurd c_66 (by omega)) (fun c_66 => ?_)
                      refine z_iconst hx hb dL_holds_456 ?_
                      refine lv_goto (tgt := 461) hx hb dL_holds_457 (by decide) ?_
                      refine lv_istore_n (lv' := [(3, .int (iI 1)), (2, .int (iI ((failN (SS.G q) i) + (((SS.G q 5 (3 * (i : Int) + (0 : Int))) + (SS.G q 5 (3 * (i : Int) + (1 : Int)))) + (SS.G q 5 (3 * (i : Int) + (2 : Int))))))), (1, .int (iI ((allWrongZ (SS.G q) i) + (wrongZ (SS.G q) (i : Int))))), (9, .int (iI bz_38)), (8, .int (iI (thrZ (SS.G q) (i : Int) 1))), (7, .int (iI (thrZ (SS.G q) (i : Int) 0))), (6, .int (iI bz_34)), (5, .int (iI (SS.G q 4 (3 * (i : Int) + (1 : Int))))), (4, .int (iI (i : Int))), (0, .ref xo)]) hx hb dL_holds_461 rfl hl (by decide) rfl (fun ls hl => ?_)
                      refine z_iconst hx hb dL_holds_462 ?_
                      refine lv_istore (lv' := [(10, .int (iI 0)), (3, .int (iI 1)), (2, .int (iI ((failN (SS.G q) i) + (((SS.G q 5 (3 * (i : Int) + (0 : Int))) + (SS.G q 5 (3 * (i : Int) + (1 : Int)))) + (SS.G q 5 (3 * (i : Int) + (2 : Int))))))), (1, .int (iI ((allWrongZ (SS.G q) i) + (wrongZ (SS.G q) (i : Int))))), (9, .int (iI bz_38)), (8, .int (iI (thrZ (SS.G q) (i : Int) 1))), (7, .int (iI (thrZ (SS.G q) (i : Int) 0))), (6, .int (iI bz_34)), (5, .int (iI (SS.G q 4 (3 * (i : Int) + (1 : Int))))), (4, .int (iI (i : Int))), (0, .ref xo)]) hx hb dL_holds_463 hl (by decide) rfl (fun ls hl => ?_)
                      have LP465 : ∀ (fu j : Nat), j ≤ 8 → 8 < fu + j → ∀ (H : Heap) (locs : List Loc) (ls : Array Slot), va_P D vwCl (wS xo xh t ta cI cC cH q) H → va_D A (wS xo xh t ta cI cC cH q) → va_S A s.heap H locs → lv_has ls 14 [(10, .int (iI (j : Int))), (3, .int (iI 1)), (2, .int (iI ((failN (SS.G q) i) + (((SS.G q 5 (3 * (i : Int) + (0 : Int))) + (SS.G q 5 (3 * (i : Int) + (1 : Int)))) + (SS.G q 5 (3 * (i : Int) + (2 : Int))))))), (1, .int (iI ((allWrongZ (SS.G q) i) + (wrongZ (SS.G q) (i : Int))))), (9, .int (iI bz_38)), (8, .int (iI (thrZ (SS.G q) (i : Int) 1))), (7, .int (iI (thrZ (SS.G q) (i : Int) 0))), (6, .int (iI bz_34)), (5, .int (iI (SS.G q 4 (3 * (i : Int) + (1 : Int))))), (4, .int (iI (i : Int))), (0, .ref xo)] → W p l e R s m args below meth c H locs 0 0 Q (F0 m 465 ls []) := by
                        intro fu
                        induction fu with
                        | zero => intro j h1 h2; omega
                        | succ fu ih465 =>
                          intro j hj1 hjf H locs ls hP hD hS hl
                          refine lv_iload hx hb dL_holds_465 (lv_at hl 0 rfl) ?_
                          refine z_bipush hx hb dL_holds_467 (by decide +kernel) ?_
                          refine z_icmp_ge (tgt := 655) hx hb dL_holds_469 (by decide) (by omega) (by omega) (fun c_67 => ?_) (fun c_67 => ?_)
                          · refine lv_iinc (v := iI ((i : Int) + 1)) (lv' := [(4, .int (iI ((i : Int) + 1))), (10, .int (iI (j : Int))), (3, .int (iI 1)), (2, .int (iI ((failN (SS.G q) i) + (((SS.G q 5 (3 * (i : Int) + (0 : Int))) + (SS.G q 5 (3 * (i : Int) + (1 : Int)))) + (SS.G q 5 (3 * (i : Int) + (2 : Int))))))), (1, .int (iI ((allWrongZ (SS.G q) i) + (wrongZ (SS.G q) (i : Int))))), (9, .int (iI bz_38)), (8, .int (iI (thrZ (SS.G q) (i : Int) 1))), (7, .int (iI (thrZ (SS.G q) (i : Int) 0))), (6, .int (iI bz_34)), (5, .int (iI (SS.G q 4 (3 * (i : Int) + (1 : Int))))), (0, .ref xo)]) hx hb dL_holds_655 hl (k := 9) rfl (iI_add _ _) (by decide) rfl (fun ls hl => ?_)
                            refine lv_goto (tgt := 87) hx hb dL_holds_658 (by decide) ?_
                            have e1_0 : (((i + 1 : Nat) : Int)) = ((i : Int) + 1) := by first | rfl | omega
                            have e1_1 : (1) = 1 := by first | rfl | omega
                            have e1_2 : ((failN (SS.G q) (i + 1))) = ((failN (SS.G q) i) + (((SS.G q 5 (3 * (i : Int) + (0 : Int))) + (SS.G q 5 (3 * (i : Int) + (1 : Int)))) + (SS.G q 5 (3 * (i : Int) + (2 : Int))))) := by first | rfl | omega
                            have e1_3 : ((allWrongZ (SS.G q) (i + 1))) = ((allWrongZ (SS.G q) i) + (wrongZ (SS.G q) (i : Int))) := by first | rfl | omega
                            exact ih87 (i + 1) (by omega) (by omega) _ _ _ hP hD hS (lv_to (lv_sub (l' := [(4, .int (iI ((i : Int) + 1))), (3, .int (iI 1)), (2, .int (iI ((failN (SS.G q) i) + (((SS.G q 5 (3 * (i : Int) + (0 : Int))) + (SS.G q 5 (3 * (i : Int) + (1 : Int)))) + (SS.G q 5 (3 * (i : Int) + (2 : Int))))))), (1, .int (iI ((allWrongZ (SS.G q) i) + (wrongZ (SS.G q) (i : Int))))), (0, .ref xo)]) hl [0, 2, 3, 4, 10] rfl) (by simp only [e1_0, e1_1, e1_2, e1_3]))
                          · refine lv_iload_n hx hb dL_holds_472 rfl (lv_at hl 1 rfl) ?_
                            refine z_if_eq (tgt := 655) hx hb dL_holds_473 (by decide) (by omega) (fun c_68 => absurd c_68 (by omega)) (fun c_68 => ?_)
                            refine lv_aload_n hx hb dL_holds_476 rfl (lv_at hl 10 rfl) ?_
                            refine lv_iload hx hb dL_holds_477 (lv_at hl 9 rfl) ?_
                            refine lv_iload hx hb dL_holds_479 (lv_at hl 0 rfl) ?_
                            refine z_iconst hx hb dL_holds_481 ?_
                            refine mw_full (st1 := [.int (iI (SS.G q 1 (8 * (i : Int) + (j : Int))))]) (mr_V (As := [.int (iI (i : Int)), .int (iI (j : Int)), .int (iI 1)]) (rest := []) (ci := 2) (q0 := 0) ⟨hx, hb, hml, hown, hts⟩ (rd_cell1 l D xo xh t ta cI cC cH h (i : Int) (j : Int) (by omega) (by omega)) (cwV 3 hts (gV q_356 q_357 q_358 q_37 q_254) rfl rfl rfl (by decide +kernel) ⟨Nat.le_trans (m := 4) (Nat.le_of_ble_eq_true rfl) (Nat.le_trans (Nat.le_of_ble_eq_true rfl) hRf), Nat.le_trans (m := 96) (Nat.le_of_ble_eq_true rfl) (Nat.le_trans (Nat.le_of_ble_eq_true rfl) hRl)⟩) hN hK hP hD rfl rfl rfl hl.1 (Nat.le_of_ble_eq_true rfl) ⟨hRc, hRs⟩ dL_holds_482) hD hS hA rfl (fun H locs hP hD hS => ?_)
                            have hv_69 := rb_cell1 h (i : Int) (j : Int) (by omega) (by omega)
                            refine lv_istore (lv' := [(11, .int (iI (SS.G q 1 (8 * (i : Int) + (j : Int))))), (10, .int (iI (j : Int))), (3, .int (iI 1)), (2, .int (iI ((failN (SS.G q) i) + (((SS.G q 5 (3 * (i : Int) + (0 : Int))) + (SS.G q 5 (3 * (i : Int) + (1 : Int)))) + (SS.G q 5 (3 * (i : Int) + (2 : Int))))))), (1, .int (iI ((allWrongZ (SS.G q) i) + (wrongZ (SS.G q) (i : Int))))), (9, .int (iI bz_38)), (8, .int (iI (thrZ (SS.G q) (i : Int) 1))), (7, .int (iI (thrZ (SS.G q) (i : Int) 0))), (6, .int (iI bz_34)), (5, .int (iI (SS.G q 4 (3 * (i : Int) + (1 : Int))))), (4, .int (iI (i : Int))), (0, .ref xo)]) hx hb dL_holds_485 hl (by decide) rfl (fun ls hl => ?_)
                            have J_70 : ∀ (bz_71 : Int) (H : Heap) (locs : List Loc), (bz_71 = (if (SS.G q 1 (8 * (i : Int) + (j : Int))) < (thrZ (SS.G q) (i : Int) 0) then (thrZ (SS.G q) (i : Int) 0) - (SS.G q 1 (8 * (i : Int) + (j : Int))) else (SS.G q 1 (8 * (i : Int) + (j : Int))) - (thrZ (SS.G q) (i : Int) 0))) → va_P D vwCl (wS xo xh t ta cI cC cH q) H → va_D A (wS xo xh t ta cI cC cH q) → va_S A s.heap H locs → W p l e R s m args below meth c H locs 0 0 Q (F0 m 507 ls [.int (iI bz_71)]) := by
                              intro bz_71 H locs hbz_71 hP hD hS
                              refine lv_istore (lv' := [(12, .int (iI bz_71)), (11, .int (iI (SS.G q 1 (8 * (i : Int) + (j : Int))))), (10, .int (iI (j : Int))), (3, .int (iI 1)), (2, .int (iI ((failN (SS.G q) i) + (((SS.G q 5 (3 * (i : Int) + (0 : Int))) + (SS.G q 5 (3 * (i : Int) + (1 : Int)))) + (SS.G q 5 (3 * (i : Int) + (2 : Int))))))), (1, .int (iI ((allWrongZ (SS.G q) i) + (wrongZ (SS.G q) (i : Int))))), (9, .int (iI bz_38)), (8, .int (iI (thrZ (SS.G q) (i : Int) 1))), (7, .int (iI (thrZ (SS.G q) (i : Int) 0))), (6, .int (iI bz_34)), (5, .int (iI (SS.G q 4 (3 * (i : Int) + (1 : Int))))), (4, .int (iI (i : Int))), (0, .ref xo)]) hx hb dL_holds_507 hl (by decide) rfl (fun ls hl => ?_)
                              have J_72 : ∀ (bz_73 : Int) (H : Heap) (locs : List Loc), (bz_73 = (if (SS.G q 1 (8 * (i : Int) + (j : Int))) < (thrZ (SS.G q) (i : Int) 1) then (thrZ (SS.G q) (i : Int) 1) - (SS.G q 1 (8 * (i : Int) + (j : Int))) else (SS.G q 1 (8 * (i : Int) + (j : Int))) - (thrZ (SS.G q) (i : Int) 1))) → va_P D vwCl (wS xo xh t ta cI cC cH q) H → va_D A (wS xo xh t ta cI cC cH q) → va_S A s.heap H locs → W p l e R s m args below meth c H locs 0 0 Q (F0 m 529 ls [.int (iI bz_73)]) := by
                                intro bz_73 H locs hbz_73 hP hD hS
                                refine lv_istore (lv' := [(13, .int (iI bz_73)), (12, .int (iI bz_71)), (11, .int (iI (SS.G q 1 (8 * (i : Int) + (j : Int))))), (10, .int (iI (j : Int))), (3, .int (iI 1)), (2, .int (iI ((failN (SS.G q) i) + (((SS.G q 5 (3 * (i : Int) + (0 : Int))) + (SS.G q 5 (3 * (i : Int) + (1 : Int)))) + (SS.G q 5 (3 * (i : Int) + (2 : Int))))))), (1, .int (iI ((allWrongZ (SS.G q) i) + (wrongZ (SS.G q) (i : Int))))), (9, .int (iI bz_38)), (8, .int (iI (thrZ (SS.G q) (i : Int) 1))), (7, .int (iI (thrZ (SS.G q) (i : Int) 0))), (6, .int (iI bz_34)), (5, .int (iI (SS.G q 4 (3 * (i : Int) + (1 : Int))))), (4, .int (iI (i : Int))), (0, .ref xo)]) hx hb dL_holds_529 hl (by decide) rfl (fun ls hl => ?_)
                                have htold : toldZ (SS.G q) (i : Int) (j : Int) = tellZ (SS.G q 1 (8 * (i : Int) + (j : Int))) (thrZ (SS.G q) (i : Int) 0) (thrZ (SS.G q) (i : Int) 1) := rfl
                                refine lv_aload_n hx hb dL_holds_531 rfl (lv_at hl 13 rfl) ?_
                                refine lv_iload hx hb dL_holds_532 (lv_at hl 12 rfl) ?_
                                refine lv_iload hx hb dL_holds_534 (lv_at hl 3 rfl) ?_
                                refine z_iconst hx hb dL_holds_536 ?_
                                refine mw_full (st1 := [.int (iI (toldZ (SS.G q) (i : Int) (j : Int)))]) (mr_V (As := [.int (iI (i : Int)), .int (iI (j : Int)), .int (iI 2)]) (rest := []) (ci := 2) (q0 := 0) ⟨hx, hb, hml, hown, hts⟩ (rd_cell2 l D xo xh t ta cI cC cH h (i : Int) (j : Int) (by omega) (by omega)) (cwV 3 hts (gV q_356 q_357 q_358 q_37 q_254) rfl rfl rfl (by decide +kernel) ⟨Nat.le_trans (m := 4) (Nat.le_of_ble_eq_true rfl) (Nat.le_trans (Nat.le_of_ble_eq_true rfl) hRf), Nat.le_trans (m := 96) (Nat.le_of_ble_eq_true rfl) (Nat.le_trans (Nat.le_of_ble_eq_true rfl) hRl)⟩) hN hK hP hD rfl rfl rfl hl.1 (Nat.le_of_ble_eq_true rfl) ⟨hRc, hRs⟩ dL_holds_537) hD hS hA rfl (fun H locs hP hD hS => ?_)
                                have hv_74 := rb_cell2 h (i : Int) (j : Int) (by omega) (by omega)
                                have J_75 : ∀ (bz_76 : Int) (H : Heap) (locs : List Loc), (bz_76 = (tellZ (SS.G q 1 (8 * (i : Int) + (j : Int))) (thrZ (SS.G q) (i : Int) 0) (thrZ (SS.G q) (i : Int) 1))) → va_P D vwCl (wS xo xh t ta cI cC cH q) H → va_D A (wS xo xh t ta cI cC cH q) → va_S A s.heap H locs → W p l e R s m args below meth c H locs 0 0 Q (F0 m 563 ls [.int (iI bz_76), .int (iI (toldZ (SS.G q) (i : Int) (j : Int)))]) := by
                                  intro bz_76 H locs hbz_76 hP hD hS
                                  refine z_icmp_ne (tgt := 647) hx hb dL_holds_563 (by decide) (by omega) (by omega) (fun c_77 => absurd c_77 (by omega)) (fun c_77 => ?_)
                                  refine lv_aload_n hx hb dL_holds_566 rfl (lv_at hl 13 rfl) ?_
                                  refine lv_iload hx hb dL_holds_567 (lv_at hl 12 rfl) ?_
                                  refine lv_iload hx hb dL_holds_569 (lv_at hl 3 rfl) ?_
                                  refine z_iconst hx hb dL_holds_571 ?_
                                  refine mw_full (st1 := [.int (iI (tellZ (SS.G q 1 (8 * (i : Int) + (j : Int))) 300 700))]) (mr_V (As := [.int (iI (i : Int)), .int (iI (j : Int)), .int (iI 4)]) (rest := []) (ci := 2) (q0 := 0) ⟨hx, hb, hml, hown, hts⟩ (rd_cell4 l D xo xh t ta cI cC cH h (i : Int) (j : Int) (by omega) (by omega)) (cwV 3 hts (gV q_356 q_357 q_358 q_37 q_254) rfl rfl rfl (by decide +kernel) ⟨Nat.le_trans (m := 4) (Nat.le_of_ble_eq_true rfl) (Nat.le_trans (Nat.le_of_ble_eq_true rfl) hRf), Nat.le_trans (m := 96) (Nat.le_of_ble_eq_true rfl) (Nat.le_trans (Nat.le_of_ble_eq_true rfl) hRl)⟩) hN hK hP hD rfl rfl rfl hl.1 (Nat.le_of_ble_eq_true rfl) ⟨hRc, hRs⟩ dL_holds_572) hD hS hA rfl (fun H locs hP hD hS => ?_)
                                  have hv_78 := rb_cell4 h (i : Int) (j : Int) (by omega) (by omega)
                                  have J_79 : ∀ (bz_80 : Int) (H : Heap) (locs : List Loc), (bz_80 = (tellZ (SS.G q 1 (8 * (i : Int) + (j : Int))) 300 700)) → va_P D vwCl (wS xo xh t ta cI cC cH q) H → va_D A (wS xo xh t ta cI cC cH q) → va_S A s.heap H locs → W p l e R s m args below meth c H locs 0 0 Q (F0 m 600 ls [.int (iI bz_80), .int (iI (tellZ (SS.G q 1 (8 * (i : Int) + (j : Int))) 300 700))]) := by
                                    intro bz_80 H locs hbz_80 hP hD hS
                                    refine z_icmp_ne (tgt := 647) hx hb dL_holds_600 (by decide) (by omega) (by omega) (fun c_81 => absurd c_81 (by omega)) (fun c_81 => ?_)
                                    have hnc := nearC_e (SS.G q 1 (8 * (i : Int) + (j : Int))) (thrZ (SS.G q) (i : Int) 0) (thrZ (SS.G q) (i : Int) 1)
                                    refine lv_aload_n hx hb dL_holds_603 rfl (lv_at hl 13 rfl) ?_
                                    refine lv_iload hx hb dL_holds_604 (lv_at hl 12 rfl) ?_
                                    refine lv_iload hx hb dL_holds_606 (lv_at hl 3 rfl) ?_
                                    refine z_bipush hx hb dL_holds_608 (by decide +kernel) ?_
                                    refine mw_full (st1 := [.int (iI (nearC (SS.G q 1 (8 * (i : Int) + (j : Int))) (thrZ (SS.G q) (i : Int) 0) (thrZ (SS.G q) (i : Int) 1)))]) (mr_V (As := [.int (iI (i : Int)), .int (iI (j : Int)), .int (iI 6)]) (rest := []) (ci := 2) (q0 := 0) ⟨hx, hb, hml, hown, hts⟩ (rd_cell6 l D xo xh t ta cI cC cH h (i : Int) (j : Int) (by omega) (by omega)) (cwV 3 hts (gV q_356 q_357 q_358 q_37 q_254) rfl rfl rfl (by decide +kernel) ⟨Nat.le_trans (m := 4) (Nat.le_of_ble_eq_true rfl) (Nat.le_trans (Nat.le_of_ble_eq_true rfl) hRf), Nat.le_trans (m := 96) (Nat.le_of_ble_eq_true rfl) (Nat.le_trans (Nat.le_of_ble_eq_true rfl) hRl)⟩) hN hK hP hD rfl rfl rfl hl.1 (Nat.le_of_ble_eq_true rfl) ⟨hRc, hRs⟩ dL_holds_610) hD hS hA rfl (fun H locs hP hD hS => ?_)
                                    have hv_82 := rb_cell6 h (i : Int) (j : Int) (by omega) (by omega)
                                    have J_83 : ∀ (bz_84 : Int) (H : Heap) (locs : List Loc), (bz_84 = (if bz_71 < bz_73 then bz_71 else bz_73)) → va_P D vwCl (wS xo xh t ta cI cC cH q) H → va_D A (wS xo xh t ta cI cC cH q) → va_S A s.heap H locs → W p l e R s m args below meth c H locs 0 0 Q (F0 m 627 ls [.int (iI bz_84), .int (iI (nearC (SS.G q 1 (8 * (i : Int) + (j : Int))) (thrZ (SS.G q) (i : Int) 0) (thrZ (SS.G q) (i : Int) 1)))]) := by
                                      intro bz_84 H locs hbz_84 hP hD hS
                                      refine z_icmp_ne (tgt := 647) hx hb dL_holds_627 (by decide) (by omega) (by omega) (fun c_85 => absurd c_85 (by omega)) (fun c_85 => ?_)
                                      refine lv_iload hx hb dL_holds_630 (lv_at hl 2 rfl) ?_
                                      refine z_if_lt (tgt := 647) hx hb dL_holds_632 (by decide) (by omega) (fun c_86 => absurd c_86 (by omega)) (fun c_86 => ?_)
                                      refine lv_iload hx hb dL_holds_635 (lv_at hl 2 rfl) ?_
                                      refine z_sipush hx hb dL_holds_637 (by decide +kernel) ?_
                                      refine z_icmp_gt (tgt := 647) hx hb dL_holds_640 (by decide) (by omega) (by omega) (fun c_87 => absurd c_87 (by omega)) (fun c_87 => ?_)
                                      refine z_iconst hx hb dL_holds_643 ?_
                                      refine lv_goto (tgt := 648) hx hb dL_holds_644 (by decide) ?_
                                      refine lv_istore_n (lv' := [(3, .int (iI 1)), (13, .int (iI bz_73)), (12, .int (iI bz_71)), (11, .int (iI (SS.G q 1 (8 * (i : Int) + (j : Int))))), (10, .int (iI (j : Int))), (2, .int (iI ((failN (SS.G q) i) + (((SS.G q 5 (3 * (i : Int) + (0 : Int))) + (SS.G q 5 (3 * (i : Int) + (1 : Int)))) + (SS.G q 5 (3 * (i : Int) + (2 : Int))))))), (1, .int (iI ((allWrongZ (SS.G q) i) + (wrongZ (SS.G q) (i : Int))))), (9, .int (iI bz_38)), (8, .int (iI (thrZ (SS.G q) (i : Int) 1))), (7, .int (iI (thrZ (SS.G q) (i : Int) 0))), (6, .int (iI bz_34)), (5, .int (iI (SS.G q 4 (3 * (i : Int) + (1 : Int))))), (4, .int (iI (i : Int))), (0, .ref xo)]) hx hb dL_holds_648 rfl hl (by decide) rfl (fun ls hl => ?_)
                                      refine lv_iinc (v := iI ((j : Int) + 1)) (lv' := [(10, .int (iI ((j : Int) + 1))), (3, .int (iI 1)), (13, .int (iI bz_73)), (12, .int (iI bz_71)), (11, .int (iI (SS.G q 1 (8 * (i : Int) + (j : Int))))), (2, .int (iI ((failN (SS.G q) i) + (((SS.G q 5 (3 * (i : Int) + (0 : Int))) + (SS.G q 5 (3 * (i : Int) + (1 : Int)))) + (SS.G q 5 (3 * (i : Int) + (2 : Int))))))), (1, .int (iI ((allWrongZ (SS.G q) i) + (wrongZ (SS.G q) (i : Int))))), (9, .int (iI bz_38)), (8, .int (iI (thrZ (SS.G q) (i : Int) 1))), (7, .int (iI (thrZ (SS.G q) (i : Int) 0))), (6, .int (iI bz_34)), (5, .int (iI (SS.G q 4 (3 * (i : Int) + (1 : Int))))), (4, .int (iI (i : Int))), (0, .ref xo)]) hx hb dL_holds_649 hl (k := 4) rfl (iI_add _ _) (by decide) rfl (fun ls hl => ?_)
                                      refine lv_goto (tgt := 465) hx hb dL_holds_652 (by decide) ?_
                                      have e1_0 : (((j + 1 : Nat) : Int)) = ((j : Int) + 1) := by first | rfl | omega
                                      have e1_1 : (1) = 1 := by first | rfl | omega
                                      exact ih465 (j + 1) (by omega) (by omega) _ _ _ hP hD hS (lv_to (lv_sub (l' := [(10, .int (iI ((j : Int) + 1))), (3, .int (iI 1)), (2, .int (iI ((failN (SS.G q) i) + (((SS.G q 5 (3 * (i : Int) + (0 : Int))) + (SS.G q 5 (3 * (i : Int) + (1 : Int)))) + (SS.G q 5 (3 * (i : Int) + (2 : Int))))))), (1, .int (iI ((allWrongZ (SS.G q) i) + (wrongZ (SS.G q) (i : Int))))), (9, .int (iI bz_38)), (8, .int (iI (thrZ (SS.G q) (i : Int) 1))), (7, .int (iI (thrZ (SS.G q) (i : Int) 0))), (6, .int (iI bz_34)), (5, .int (iI (SS.G q 4 (3 * (i : Int) + (1 : Int))))), (4, .int (iI (i : Int))), (0, .ref xo)]) hl [0, 1, 5, 6, 7, 8, 9, 10, 11, 12, 13] rfl) (by simp only [e1_0, e1_1]))
                                    refine lv_iload hx hb dL_holds_613 (lv_at hl 1 rfl) ?_
                                    refine lv_iload hx hb dL_holds_615 (lv_at hl 0 rfl) ?_
                                    refine z_icmp_ge (tgt := 625) hx hb dL_holds_617 (by decide) (by omega) (by omega) (fun c_88 => ?_) (fun c_88 => ?_)
                                    · refine lv_iload hx hb dL_holds_625 (lv_at hl 0 rfl) ?_
                                      exact J_83 bz_73 _ _ (by omega) hP hD hS
                                    · refine lv_iload hx hb dL_holds_620 (lv_at hl 1 rfl) ?_
                                      refine lv_goto (tgt := 627) hx hb dL_holds_622 (by decide) ?_
                                      exact J_83 bz_71 _ _ (by omega) hP hD hS
                                  refine lv_iload hx hb dL_holds_575 (lv_at hl 2 rfl) ?_
                                  refine z_sipush hx hb dL_holds_577 (by decide +kernel) ?_
                                  refine z_icmp_ge (tgt := 587) hx hb dL_holds_580 (by decide) (by omega) (by omega) (fun c_89 => ?_) (fun c_89 => ?_)
                                  · refine lv_iload hx hb dL_holds_587 (lv_at hl 2 rfl) ?_
                                    refine z_sipush hx hb dL_holds_589 (by decide +kernel) ?_
                                    refine z_icmp_lt (tgt := 599) hx hb dL_holds_592 (by decide) (by omega) (by omega) (fun c_90 => ?_) (fun c_90 => ?_)
                                    · refine z_iconst hx hb dL_holds_599 ?_
                                      exact J_79 1 _ _ (by unfold tellZ; omega) hP hD hS
                                    · refine z_iconst hx hb dL_holds_595 ?_
                                      refine lv_goto (tgt := 600) hx hb dL_holds_596 (by decide) ?_
                                      exact J_79 2 _ _ (by unfold tellZ; omega) hP hD hS
                                  · refine z_iconst hx hb dL_holds_583 ?_
                                    refine lv_goto (tgt := 600) hx hb dL_holds_584 (by decide) ?_
                                    exact J_79 0 _ _ (by unfold tellZ; omega) hP hD hS
                                refine lv_iload hx hb dL_holds_540 (lv_at hl 2 rfl) ?_
                                refine lv_iload hx hb dL_holds_542 (lv_at hl 9 rfl) ?_
                                refine z_icmp_ge (tgt := 551) hx hb dL_holds_544 (by decide) (by omega) (by omega) (fun c_91 => ?_) (fun c_91 => ?_)
                                · refine lv_iload hx hb dL_holds_551 (lv_at hl 2 rfl) ?_
                                  refine lv_iload hx hb dL_holds_553 (lv_at hl 8 rfl) ?_
                                  refine z_icmp_lt (tgt := 562) hx hb dL_holds_555 (by decide) (by omega) (by omega) (fun c_92 => ?_) (fun c_92 => ?_)
                                  · refine z_iconst hx hb dL_holds_562 ?_
                                    exact J_75 1 _ _ (by unfold tellZ; omega) hP hD hS
                                  · refine z_iconst hx hb dL_holds_558 ?_
                                    refine lv_goto (tgt := 563) hx hb dL_holds_559 (by decide) ?_
                                    exact J_75 2 _ _ (by unfold tellZ; omega) hP hD hS
                                · refine z_iconst hx hb dL_holds_547 ?_
                                  refine lv_goto (tgt := 563) hx hb dL_holds_548 (by decide) ?_
                                  exact J_75 0 _ _ (by unfold tellZ; omega) hP hD hS
                              refine lv_iload hx hb dL_holds_509 (lv_at hl 1 rfl) ?_
                              refine lv_iload hx hb dL_holds_511 (lv_at hl 7 rfl) ?_
                              refine z_icmp_ge (tgt := 524) hx hb dL_holds_513 (by decide) (by omega) (by omega) (fun c_93 => ?_) (fun c_93 => ?_)
                              · refine lv_iload hx hb dL_holds_524 (lv_at hl 1 rfl) ?_
                                refine lv_iload hx hb dL_holds_526 (lv_at hl 7 rfl) ?_
                                refine z_isub hx hb dL_holds_528 ?_
                                exact J_72 ((SS.G q 1 (8 * (i : Int) + (j : Int))) - (thrZ (SS.G q) (i : Int) 1)) _ _ (by omega) hP hD hS
                              · refine lv_iload hx hb dL_holds_516 (lv_at hl 7 rfl) ?_
                                refine lv_iload hx hb dL_holds_518 (lv_at hl 1 rfl) ?_
                                refine z_isub hx hb dL_holds_520 ?_
                                refine lv_goto (tgt := 529) hx hb dL_holds_521 (by decide) ?_
                                exact J_72 ((thrZ (SS.G q) (i : Int) 1) - (SS.G q 1 (8 * (i : Int) + (j : Int)))) _ _ (by omega) hP hD hS
                            refine lv_iload hx hb dL_holds_487 (lv_at hl 0 rfl) ?_
                            refine lv_iload hx hb dL_holds_489 (lv_at hl 7 rfl) ?_
                            refine z_icmp_ge (tgt := 502) hx hb dL_holds_491 (by decide) (by omega) (by omega) (fun c_94 => ?_) (fun c_94 => ?_)
                            · refine lv_iload hx hb dL_holds_502 (lv_at hl 0 rfl) ?_
                              refine lv_iload hx hb dL_holds_504 (lv_at hl 7 rfl) ?_
                              refine z_isub hx hb dL_holds_506 ?_
                              exact J_70 ((SS.G q 1 (8 * (i : Int) + (j : Int))) - (thrZ (SS.G q) (i : Int) 0)) _ _ (by omega) hP hD hS
                            · refine lv_iload hx hb dL_holds_494 (lv_at hl 7 rfl) ?_
                              refine lv_iload hx hb dL_holds_496 (lv_at hl 0 rfl) ?_
                              refine z_isub hx hb dL_holds_498 ?_
                              refine lv_goto (tgt := 507) hx hb dL_holds_499 (by decide) ?_
                              exact J_70 ((thrZ (SS.G q) (i : Int) 0) - (SS.G q 1 (8 * (i : Int) + (j : Int)))) _ _ (by omega) hP hD hS
                      have e0_0 : (((0 : Nat) : Int)) = 0 := by first | rfl | omega
                      exact LP465 (8 + 1) 0 (by omega) (by omega) _ _ _ hP hD hS (lv_to (lv_sub (l' := [(10, .int (iI 0)), (3, .int (iI 1)), (2, .int (iI ((failN (SS.G q) i) + (((SS.G q 5 (3 * (i : Int) + (0 : Int))) + (SS.G q 5 (3 * (i : Int) + (1 : Int)))) + (SS.G q 5 (3 * (i : Int) + (2 : Int))))))), (1, .int (iI ((allWrongZ (SS.G q) i) + (wrongZ (SS.G q) (i : Int))))), (9, .int (iI bz_38)), (8, .int (iI (thrZ (SS.G q) (i : Int) 1))), (7, .int (iI (thrZ (SS.G q) (i : Int) 0))), (6, .int (iI bz_34)), (5, .int (iI (SS.G q 4 (3 * (i : Int) + (1 : Int))))), (4, .int (iI (i : Int))), (0, .ref xo)]) hl [0, 1, 2, 3, 4, 5, 6, 7, 8, 9, 10] rfl) (by simp only [e0_0]))
                    have hra := rightZ_01 (SS.G q) ((i : Int) - 1)
                    have hrb := rightZ_01 (SS.G q) ((i : Int) + 1)
                    refine lv_iload hx hb dL_holds_352 (lv_at hl 5 rfl) ?_
                    refine z_if_eq (tgt := 381) hx hb dL_holds_354 (by decide) (by omega) (fun c_95 => ?_) (fun c_95 => ?_)
                    · refine lv_iload hx hb dL_holds_381 (lv_at hl 5 rfl) ?_
                      refine z_if_ne (tgt := 407) hx hb dL_holds_383 (by decide) (by omega) (fun c_96 => absurd c_96 (by omega)) (fun c_96 => ?_)
                      refine lv_iload hx hb dL_holds_386 (lv_at hl 2 rfl) ?_
                      refine z_if_ne (tgt := 407) hx hb dL_holds_388 (by decide) (by omega) (fun c_97 => ?_) (fun c_97 => ?_)
                      · have htl := thr_lt h.1.1 (i : Int)
                        exact J_57 _ _ hP hD hS
                      · have htf := thr_fix (G := SS.G q) (r := (i : Int)) (by omega) (by omega) (by omega)
                        refine lv_iload hx hb dL_holds_391 (lv_at hl 4 rfl) ?_
                        refine z_sipush hx hb dL_holds_393 (by decide +kernel) ?_
                        refine z_icmp_ne (tgt := 460) hx hb dL_holds_396 (by decide) (by omega) (by omega) (fun c_98 => absurd c_98 (by omega)) (fun c_98 => ?_)
                        refine lv_iload hx hb dL_holds_399 (lv_at hl 3 rfl) ?_
                        refine z_sipush hx hb dL_holds_401 (by decide +kernel) ?_
                        refine z_icmp_ne (tgt := 460) hx hb dL_holds_404 (by decide) (by omega) (by omega) (fun c_99 => absurd c_99 (by omega)) (fun c_99 => ?_)
                        have htl := thr_lt h.1.1 (i : Int)
                        exact J_57 _ _ hP hD hS
                    · have ht0 := thr_own (G := SS.G q) (r := (i : Int)) 0 (by omega)
                      have ht1 := thr_own (G := SS.G q) (r := (i : Int)) 1 (by omega)
                      refine lv_iload hx hb dL_holds_357 (lv_at hl 4 rfl) ?_
                      refine lv_aload_n hx hb dL_holds_359 rfl (lv_at hl 9 rfl) ?_
                      refine lv_iload hx hb dL_holds_360 (lv_at hl 7 rfl) ?_
                      refine z_iconst hx hb dL_holds_362 ?_
                      refine mw_full (st1 := [.int (iI (ownZ (SS.G q) (i : Int) 0)), .int (iI (thrZ (SS.G q) (i : Int) 0))]) (mr_V (As := [.int (iI (i : Int)), .int (iI 0)]) (rest := [.int (iI (thrZ (SS.G q) (i : Int) 0))]) (ci := 2) (q0 := 0) ⟨hx, hb, hml, hown, hts⟩ (rd_row0 l D xo xh t ta cI cC cH h (i : Int) (by omega)) (cwV 2 hts (gV q_350 q_351 q_352 q_37 q_262) rfl rfl rfl (by decide +kernel) ⟨Nat.le_trans (m := 5) (Nat.le_of_ble_eq_true rfl) (Nat.le_trans (Nat.le_of_ble_eq_true rfl) hRf), Nat.le_trans (m := 116) (Nat.le_of_ble_eq_true rfl) (Nat.le_trans (Nat.le_of_ble_eq_true rfl) hRl)⟩) hN hK hP hD rfl rfl rfl hl.1 (Nat.le_of_ble_eq_true rfl) ⟨hRc, hRs⟩ dL_holds_363) hD hS hA rfl (fun H locs hP hD hS => ?_)
                      have hv_100 := rb_row0 h (i : Int) (by omega)
                      refine z_icmp_ne (tgt := 460) hx hb dL_holds_366 (by decide) (by omega) (by omega) (fun c_101 => absurd c_101 (by omega)) (fun c_101 => ?_)
                      refine lv_iload hx hb dL_holds_369 (lv_at hl 3 rfl) ?_
                      refine lv_aload_n hx hb dL_holds_371 rfl (lv_at hl 9 rfl) ?_
                      refine lv_iload hx hb dL_holds_372 (lv_at hl 7 rfl) ?_
                      refine z_iconst hx hb dL_holds_374 ?_
                      refine mw_full (st1 := [.int (iI (ownZ (SS.G q) (i : Int) 1)), .int (iI (thrZ (SS.G q) (i : Int) 1))]) (mr_V (As := [.int (iI (i : Int)), .int (iI 1)]) (rest := [.int (iI (thrZ (SS.G q) (i : Int) 1))]) (ci := 2) (q0 := 0) ⟨hx, hb, hml, hown, hts⟩ (rd_row1 l D xo xh t ta cI cC cH h (i : Int) (by omega)) (cwV 2 hts (gV q_350 q_351 q_352 q_37 q_262) rfl rfl rfl (by decide +kernel) ⟨Nat.le_trans (m := 5) (Nat.le_of_ble_eq_true rfl) (Nat.le_trans (Nat.le_of_ble_eq_true rfl) hRf), Nat.le_trans (m := 116) (Nat.le_of_ble_eq_true rfl) (Nat.le_trans (Nat.le_of_ble_eq_true rfl) hRl)⟩) hN hK hP hD rfl rfl rfl hl.1 (Nat.le_of_ble_eq_true rfl) ⟨hRc, hRs⟩ dL_holds_375) hD hS hA rfl (fun H locs hP hD hS => ?_)
                      have hv_102 := rb_row1 h (i : Int) (by omega)
                      refine z_icmp_ne (tgt := 460) hx hb dL_holds_378 (by decide) (by omega) (by omega) (fun c_103 => absurd c_103 (by omega)) (fun c_103 => ?_)
                      refine lv_iload hx hb dL_holds_381 (lv_at hl 5 rfl) ?_
                      refine z_if_ne (tgt := 407) hx hb dL_holds_383 (by decide) (by omega) (fun c_104 => ?_) (fun c_104 => absurd c_104 (by omega))
                      have htl := thr_lt h.1.1 (i : Int)
                      exact J_57 _ _ hP hD hS
                  refine lv_iload hx hb dL_holds_284 (lv_at hl 5 rfl) ?_
                  refine z_if_eq (tgt := 293) hx hb dL_holds_286 (by decide) (by omega) (fun c_105 => ?_) (fun c_105 => ?_)
                  · refine lv_iload hx hb dL_holds_293 (lv_at hl 2 rfl) ?_
                    refine z_if_eq (tgt := 302) hx hb dL_holds_295 (by decide) (by omega) (fun c_106 => ?_) (fun c_106 => ?_)
                    · refine z_iconst hx hb dL_holds_302 ?_
                      exact J_48 2 _ _ (by omega) hP hD hS
                    · refine z_iconst hx hb dL_holds_298 ?_
                      refine lv_goto (tgt := 303) hx hb dL_holds_299 (by decide) ?_
                      exact J_48 1 _ _ (by omega) hP hD hS
                  · refine z_iconst hx hb dL_holds_289 ?_
                    refine lv_goto (tgt := 303) hx hb dL_holds_290 (by decide) ?_
                    exact J_48 0 _ _ (by omega) hP hD hS
                refine lv_iload hx hb dL_holds_264 (lv_at hl 5 rfl) ?_
                refine z_if_eq (tgt := 273) hx hb dL_holds_266 (by decide) (by omega) (fun c_107 => ?_) (fun c_107 => ?_)
                · refine z_iconst hx hb dL_holds_273 ?_
                  exact J_44 0 _ _ (by omega) hP hD hS
                · refine z_iconst hx hb dL_holds_269 ?_
                  refine lv_goto (tgt := 274) hx hb dL_holds_270 (by decide) ?_
                  exact J_44 1 _ _ (by omega) hP hD hS
              have hlo : (i : Int) ≤ 0 → rightZ (SS.G q) ((i : Int) - 1) = 0 := fun c => right_lo _ (by omega)
              have hhi : 5 ≤ (i : Int) → rightZ (SS.G q) ((i : Int) + 1) = 0 := fun c => right_hi _ (by omega)
              refine lv_iload hx hb dL_holds_173 (lv_at hl 4 rfl) ?_
              refine z_if_le (tgt := 191) hx hb dL_holds_175 (by decide) (by omega) (fun c_108 => ?_) (fun c_108 => ?_)
              · refine lv_iload hx hb dL_holds_191 (lv_at hl 4 rfl) ?_
                refine z_iconst hx hb dL_holds_193 ?_
                refine z_icmp_ge (tgt := 214) hx hb dL_holds_194 (by decide) (by omega) (by omega) (fun c_109 => ?_) (fun c_109 => ?_)
                · refine z_iconst hx hb dL_holds_214 ?_
                  exact J_37 0 _ _ (by omega) hP hD hS
                · refine lv_aload_n hx hb dL_holds_197 rfl (lv_at hl 8 rfl) ?_
                  refine lv_iload hx hb dL_holds_198 (lv_at hl 4 rfl) ?_
                  refine z_iconst hx hb dL_holds_200 ?_
                  refine z_iadd hx hb dL_holds_201 ?_
                  refine z_iconst hx hb dL_holds_202 ?_
                  refine mw_full (st1 := [.int (iI (rightZ (SS.G q) ((i : Int) + 1)))]) (mr_V (As := [.int (iI ((i : Int) + 1)), .int (iI 2)]) (rest := []) (ci := 2) (q0 := 0) ⟨hx, hb, hml, hown, hts⟩ (rd_row2 l D xo xh t ta cI cC cH h ((i : Int) + 1) (by omega)) (cwV 2 hts (gV q_350 q_351 q_352 q_37 q_262) rfl rfl rfl (by decide +kernel) ⟨Nat.le_trans (m := 5) (Nat.le_of_ble_eq_true rfl) (Nat.le_trans (Nat.le_of_ble_eq_true rfl) hRf), Nat.le_trans (m := 116) (Nat.le_of_ble_eq_true rfl) (Nat.le_trans (Nat.le_of_ble_eq_true rfl) hRl)⟩) hN hK hP hD rfl rfl rfl hl.1 (Nat.le_of_ble_eq_true rfl) ⟨hRc, hRs⟩ dL_holds_203) hD hS hA rfl (fun H locs hP hD hS => ?_)
                  have hv_110 := rb_row2 h ((i : Int) + 1) (by omega)
                  refine z_iconst hx hb dL_holds_206 ?_
                  refine z_icmp_ne (tgt := 214) hx hb dL_holds_207 (by decide) (by omega) (by omega) (fun c_111 => ?_) (fun c_111 => ?_)
                  · refine z_iconst hx hb dL_holds_214 ?_
                    exact J_37 0 _ _ (by omega) hP hD hS
                  · refine z_iconst hx hb dL_holds_210 ?_
                    refine lv_goto (tgt := 215) hx hb dL_holds_211 (by decide) ?_
                    exact J_37 1 _ _ (by omega) hP hD hS
              · refine lv_aload_n hx hb dL_holds_178 rfl (lv_at hl 8 rfl) ?_
                refine lv_iload hx hb dL_holds_179 (lv_at hl 4 rfl) ?_
                refine z_iconst hx hb dL_holds_181 ?_
                refine z_isub hx hb dL_holds_182 ?_
                refine z_iconst hx hb dL_holds_183 ?_
                refine mw_full (st1 := [.int (iI (rightZ (SS.G q) ((i : Int) - 1)))]) (mr_V (As := [.int (iI ((i : Int) - 1)), .int (iI 2)]) (rest := []) (ci := 2) (q0 := 0) ⟨hx, hb, hml, hown, hts⟩ (rd_row2 l D xo xh t ta cI cC cH h ((i : Int) - 1) (by omega)) (cwV 2 hts (gV q_350 q_351 q_352 q_37 q_262) rfl rfl rfl (by decide +kernel) ⟨Nat.le_trans (m := 5) (Nat.le_of_ble_eq_true rfl) (Nat.le_trans (Nat.le_of_ble_eq_true rfl) hRf), Nat.le_trans (m := 116) (Nat.le_of_ble_eq_true rfl) (Nat.le_trans (Nat.le_of_ble_eq_true rfl) hRl)⟩) hN hK hP hD rfl rfl rfl hl.1 (Nat.le_of_ble_eq_true rfl) ⟨hRc, hRs⟩ dL_holds_184) hD hS hA rfl (fun H locs hP hD hS => ?_)
                have hv_112 := rb_row2 h ((i : Int) - 1) (by omega)
                refine z_iconst hx hb dL_holds_187 ?_
                refine z_icmp_eq (tgt := 210) hx hb dL_holds_188 (by decide) (by omega) (by omega) (fun c_113 => ?_) (fun c_113 => ?_)
                · refine z_iconst hx hb dL_holds_210 ?_
                  refine lv_goto (tgt := 215) hx hb dL_holds_211 (by decide) ?_
                  exact J_37 1 _ _ (by omega) hP hD hS
                · refine lv_iload hx hb dL_holds_191 (lv_at hl 4 rfl) ?_
                  refine z_iconst hx hb dL_holds_193 ?_
                  refine z_icmp_ge (tgt := 214) hx hb dL_holds_194 (by decide) (by omega) (by omega) (fun c_114 => ?_) (fun c_114 => ?_)
                  · refine z_iconst hx hb dL_holds_214 ?_
                    exact J_37 0 _ _ (by omega) hP hD hS
                  · refine lv_aload_n hx hb dL_holds_197 rfl (lv_at hl 8 rfl) ?_
                    refine lv_iload hx hb dL_holds_198 (lv_at hl 4 rfl) ?_
                    refine z_iconst hx hb dL_holds_200 ?_
                    refine z_iadd hx hb dL_holds_201 ?_
                    refine z_iconst hx hb dL_holds_202 ?_
                    refine mw_full (st1 := [.int (iI (rightZ (SS.G q) ((i : Int) + 1)))]) (mr_V (As := [.int (iI ((i : Int) + 1)), .int (iI 2)]) (rest := []) (ci := 2) (q0 := 0) ⟨hx, hb, hml, hown, hts⟩ (rd_row2 l D xo xh t ta cI cC cH h ((i : Int) + 1) (by omega)) (cwV 2 hts (gV q_350 q_351 q_352 q_37 q_262) rfl rfl rfl (by decide +kernel) ⟨Nat.le_trans (m := 5) (Nat.le_of_ble_eq_true rfl) (Nat.le_trans (Nat.le_of_ble_eq_true rfl) hRf), Nat.le_trans (m := 116) (Nat.le_of_ble_eq_true rfl) (Nat.le_trans (Nat.le_of_ble_eq_true rfl) hRl)⟩) hN hK hP hD rfl rfl rfl hl.1 (Nat.le_of_ble_eq_true rfl) ⟨hRc, hRs⟩ dL_holds_203) hD hS hA rfl (fun H locs hP hD hS => ?_)
                    have hv_115 := rb_row2 h ((i : Int) + 1) (by omega)
                    refine z_iconst hx hb dL_holds_206 ?_
                    refine z_icmp_ne (tgt := 214) hx hb dL_holds_207 (by decide) (by omega) (by omega) (fun c_116 => ?_) (fun c_116 => ?_)
                    · refine z_iconst hx hb dL_holds_214 ?_
                      exact J_37 0 _ _ (by omega) hP hD hS
                    · refine z_iconst hx hb dL_holds_210 ?_
                      refine lv_goto (tgt := 215) hx hb dL_holds_211 (by decide) ?_
                      exact J_37 1 _ _ (by omega) hP hD hS
            have hre := right_e1 (G := SS.G q) (r := (i : Int)) (by omega)
            refine lv_iload hx hb dL_holds_108 (lv_at hl 0 rfl) ?_
            refine lv_aload_n hx hb dL_holds_110 rfl (lv_at hl 5 rfl) ?_
            refine lv_iload hx hb dL_holds_111 (lv_at hl 1 rfl) ?_
            refine z_iconst hx hb dL_holds_113 ?_
            refine z_iconst hx hb dL_holds_114 ?_
            refine mw_full (st1 := [.int (iI (SS.G q 4 (3 * (i : Int) + (0 : Int)))), .int (iI (SS.G q 4 (3 * (i : Int) + (1 : Int))))]) (mr_V (As := [.int (iI (i : Int)), .int (iI 0), .int (iI 0)]) (rest := [.int (iI (SS.G q 4 (3 * (i : Int) + (1 : Int))))]) (ci := 2) (q0 := 0) ⟨hx, hb, hml, hown, hts⟩ (rd_guard0 l D xo xh t ta cI cC cH h (i : Int) (0 : Int) (by omega) (by omega)) (cwV 3 hts (gV q_353 q_354 q_355 q_37 q_258) rfl rfl rfl (by decide +kernel) ⟨Nat.le_trans (m := 4) (Nat.le_of_ble_eq_true rfl) (Nat.le_trans (Nat.le_of_ble_eq_true rfl) hRf), Nat.le_trans (m := 90) (Nat.le_of_ble_eq_true rfl) (Nat.le_trans (Nat.le_of_ble_eq_true rfl) hRl)⟩) hN hK hP hD rfl rfl rfl hl.1 (Nat.le_of_ble_eq_true rfl) ⟨hRc, hRs⟩ dL_holds_115) hD hS hA rfl (fun H locs hP hD hS => ?_)
            have hv_117 := rb_guard0 h (i : Int) (0 : Int) (by omega) (by omega)
            refine z_isub hx hb dL_holds_118 ?_
            refine lv_aload_n hx hb dL_holds_119 rfl (lv_at hl 5 rfl) ?_
            refine z_bipush hx hb dL_holds_120 (by decide +kernel) ?_
            refine mw_full (st1 := [.int (iI (SS.G q 11 1)), .int (iI ((SS.G q 4 (3 * (i : Int) + (1 : Int))) - (SS.G q 4 (3 * (i : Int) + (0 : Int)))))]) (mr_V (As := [.int (iI 21)]) (rest := [.int (iI ((SS.G q 4 (3 * (i : Int) + (1 : Int))) - (SS.G q 4 (3 * (i : Int) + (0 : Int)))))]) (ci := 2) (q0 := 0) ⟨hx, hb, hml, hown, hts⟩ (rd_cnt21 l D xo xh t ta cI cC cH h (by omega)) (cwV 1 hts (gV q_344 q_345 q_346 q_37 q_304) rfl rfl rfl (by decide +kernel) ⟨Nat.le_trans (m := 6) (Nat.le_of_ble_eq_true rfl) (Nat.le_trans (Nat.le_of_ble_eq_true rfl) hRf), Nat.le_trans (m := 133) (Nat.le_of_ble_eq_true rfl) (Nat.le_trans (Nat.le_of_ble_eq_true rfl) hRl)⟩) hN hK hP hD rfl rfl rfl hl.1 (Nat.le_of_ble_eq_true rfl) ⟨hRc, hRs⟩ dL_holds_122) hD hS hA rfl (fun H locs hP hD hS => ?_)
            have hv_118 := rb_cnt21 h (by omega)
            refine z_icmp_lt (tgt := 152) hx hb dL_holds_125 (by decide) (by omega) (by omega) (fun c_119 => ?_) (fun c_119 => ?_)
            · refine z_iconst hx hb dL_holds_152 ?_
              exact J_33 0 _ _ (by omega) hP hD hS
            · refine lv_aload_n hx hb dL_holds_128 rfl (lv_at hl 5 rfl) ?_
              refine lv_iload hx hb dL_holds_129 (lv_at hl 1 rfl) ?_
              refine z_iconst hx hb dL_holds_131 ?_
              refine z_iconst hx hb dL_holds_132 ?_
              refine mw_full (st1 := [.int (iI (SS.G q 4 (3 * (i : Int) + (2 : Int))))]) (mr_V (As := [.int (iI (i : Int)), .int (iI 2), .int (iI 0)]) (rest := []) (ci := 2) (q0 := 0) ⟨hx, hb, hml, hown, hts⟩ (rd_guard0 l D xo xh t ta cI cC cH h (i : Int) (2 : Int) (by omega) (by omega)) (cwV 3 hts (gV q_353 q_354 q_355 q_37 q_258) rfl rfl rfl (by decide +kernel) ⟨Nat.le_trans (m := 4) (Nat.le_of_ble_eq_true rfl) (Nat.le_trans (Nat.le_of_ble_eq_true rfl) hRf), Nat.le_trans (m := 90) (Nat.le_of_ble_eq_true rfl) (Nat.le_trans (Nat.le_of_ble_eq_true rfl) hRl)⟩) hN hK hP hD rfl rfl rfl hl.1 (Nat.le_of_ble_eq_true rfl) ⟨hRc, hRs⟩ dL_holds_133) hD hS hA rfl (fun H locs hP hD hS => ?_)
              have hv_120 := rb_guard0 h (i : Int) (2 : Int) (by omega) (by omega)
              refine lv_iload hx hb dL_holds_136 (lv_at hl 0 rfl) ?_
              refine z_isub hx hb dL_holds_138 ?_
              refine lv_aload_n hx hb dL_holds_139 rfl (lv_at hl 5 rfl) ?_
              refine z_bipush hx hb dL_holds_140 (by decide +kernel) ?_
              refine mw_full (st1 := [.int (iI (SS.G q 11 1)), .int (iI ((SS.G q 4 (3 * (i : Int) + (2 : Int))) - (SS.G q 4 (3 * (i : Int) + (1 : Int)))))]) (mr_V (As := [.int (iI 21)]) (rest := [.int (iI ((SS.G q 4 (3 * (i : Int) + (2 : Int))) - (SS.G q 4 (3 * (i : Int) + (1 : Int)))))]) (ci := 2) (q0 := 0) ⟨hx, hb, hml, hown, hts⟩ (rd_cnt21 l D xo xh t ta cI cC cH h (by omega)) (cwV 1 hts (gV q_344 q_345 q_346 q_37 q_304) rfl rfl rfl (by decide +kernel) ⟨Nat.le_trans (m := 6) (Nat.le_of_ble_eq_true rfl) (Nat.le_trans (Nat.le_of_ble_eq_true rfl) hRf), Nat.le_trans (m := 133) (Nat.le_of_ble_eq_true rfl) (Nat.le_trans (Nat.le_of_ble_eq_true rfl) hRl)⟩) hN hK hP hD rfl rfl rfl hl.1 (Nat.le_of_ble_eq_true rfl) ⟨hRc, hRs⟩ dL_holds_142) hD hS hA rfl (fun H locs hP hD hS => ?_)
              have hv_121 := rb_cnt21 h (by omega)
              refine z_icmp_lt (tgt := 152) hx hb dL_holds_145 (by decide) (by omega) (by omega) (fun c_122 => ?_) (fun c_122 => ?_)
              · refine z_iconst hx hb dL_holds_152 ?_
                exact J_33 0 _ _ (by omega) hP hD hS
              · refine z_iconst hx hb dL_holds_148 ?_
                refine lv_goto (tgt := 153) hx hb dL_holds_149 (by decide) ?_
                exact J_33 1 _ _ (by omega) hP hD hS
      have e0_0 : (((0 : Nat) : Int)) = 0 := by first | rfl | omega
      have e0_1 : ((failN (SS.G q) (0))) = 0 := by first | rfl | omega
      have e0_2 : ((allWrongZ (SS.G q) (0))) = 0 := by first | rfl | omega
      exact LP87 (6 + 1) 0 (by omega) (by omega) _ _ _ hP hD hS (lv_to (lv_sub (l' := [(4, .int (iI 0)), (3, .int (iI 1)), (2, .int (iI 0)), (1, .int (iI 0)), (0, .ref xo)]) hl [0, 1, 2, 3, 4] rfl) (by simp only [e0_0, e0_1, e0_2]))
    refine lv_aload_n hx hb dL_holds_54 rfl (lv_at hl 2 rfl) ?_
    refine z_bipush hx hb dL_holds_55 (by decide +kernel) ?_
    refine mw_full (st1 := [.int (iI (sumZ 9 (SS.G q 10))), .int (iI bz_8)]) (mr_V (As := [.int (iI 10)]) (rest := [.int (iI bz_8)]) (ci := 2) (q0 := 0) ⟨hx, hb, hml, hown, hts⟩ (rd_cnt10 l D xo xh t ta cI cC cH h (by omega)) (cwV 1 hts (gV q_344 q_345 q_346 q_37 q_304) rfl rfl rfl (by decide +kernel) ⟨Nat.le_trans (m := 6) (Nat.le_of_ble_eq_true rfl) (Nat.le_trans (Nat.le_of_ble_eq_true rfl) hRf), Nat.le_trans (m := 133) (Nat.le_of_ble_eq_true rfl) (Nat.le_trans (Nat.le_of_ble_eq_true rfl) hRl)⟩) hN hK hP hD rfl rfl rfl hl.1 (Nat.le_of_ble_eq_true rfl) ⟨hRc, hRs⟩ dL_holds_57) hD hS hA rfl (fun H locs hP hD hS => ?_)
    have hv_123 := rb_cnt10 h (by omega)
    refine z_if_ne (tgt := 67) hx hb dL_holds_60 (by decide) (by omega) (fun c_124 => ?_) (fun c_124 => ?_)
    · refine z_iconst hx hb dL_holds_67 ?_
      exact J_9 0 _ _ (by omega) hP hD hS
    · refine z_iconst hx hb dL_holds_63 ?_
      refine lv_goto (tgt := 68) hx hb dL_holds_64 (by decide) ?_
      exact J_9 1 _ _ (by omega) hP hD hS
  refine lv_aload_n hx hb dL_holds_40 rfl (lv_at hl 2 rfl) ?_
  refine mw_full (st1 := [.int (iI (shareZ (SS.G q)))]) (mr_V (As := []) (rest := []) (ci := 2) (q0 := 0) ⟨hx, hb, hml, hown, hts⟩ (rd_share l D xo xh t ta cI cC cH h (by omega)) (cwV 0 hts (gV q_361 q_362 q_363 q_37 q_297) rfl rfl rfl (by decide +kernel) ⟨Nat.le_trans (m := 3) (Nat.le_of_ble_eq_true rfl) (Nat.le_trans (Nat.le_of_ble_eq_true rfl) hRf), Nat.le_trans (m := 63) (Nat.le_of_ble_eq_true rfl) (Nat.le_trans (Nat.le_of_ble_eq_true rfl) hRl)⟩) hN hK hP hD rfl rfl rfl hl.1 (Nat.le_of_ble_eq_true rfl) ⟨hRc, hRs⟩ dL_holds_41) hD hS hA rfl (fun H locs hP hD hS => ?_)
  have hv_125 := rb_share h (by omega)
  refine z_ldc hx hb (-1000004) (by decide +kernel) hown (hq _ q_360) dL_holds_44 ?_
  refine z_icmp_ne (tgt := 53) hx hb dL_holds_46 (by decide) (by omega) (by omega) (fun c_126 => ?_) (fun c_126 => ?_)
  · refine z_iconst hx hb dL_holds_53 ?_
    exact J_7 0 _ _ (by omega) hP hD hS
  · refine z_iconst hx hb dL_holds_49 ?_
    refine lv_goto (tgt := 54) hx hb dL_holds_50 (by decide) ?_
    exact J_7 1 _ _ (by omega) hP hD hS
