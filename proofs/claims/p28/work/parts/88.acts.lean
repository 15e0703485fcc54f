set_option maxHeartbeats 8000000 in
set_option maxRecDepth 100000 in
theorem m_L_acts (l : Launch) (D : va_G) (xo xh t : Nat) (ta : Nat → Nat) (cI cC cH : ClassId) {k : Nat} {q : SS} (h : CR k q) (hk : k < 100) (x : Int) (h_x : -2147483648 ≤ x ∧ x < 2147483648) (y : Int) (h_y : -2147483648 ≤ y ∧ y < 2147483648) : ME l D yL_acts (wsY yL_acts cL_acts 14 (some .boolean)) { frames := 8, cells := 0, slots := 0, locals := 192 } (tyS cI cC cH) [.ref xo, .int (iI x), .int (iI y)] (wS xo xh t ta cI cC cH q) (fun q' : SS => CR (k + 1) q' ∧ Aft q q') (fun q' : SS => wS xo xh t ta cI cC cH q') (some (.int (iI 1))) := by
  refine me_ofZ (cc := cL_acts) (maxL := 14) rfl (by decide) rfl (Nat.le_of_ble_eq_true rfl) ?_
  intro p e s m below meth c R A Q args ls hx hb hml hown hts hRf hRl hRc hRs hN hK hP hD hS hA hret hl
  have hq : ∀ w ∈ ALL, w.before args s = true := fun w h => hts w (List.mem_cons_of_mem _ h)
  have hl : lv_has ls 14 [(0, .ref xo), (1, .int (iI x)), (2, .int (iI y))] := hl
  refine lv_iload_n hx hb dL_acts_0 rfl (lv_at hl 1 rfl) ?_
  refine z_bipush hx hb dL_acts_1 (by decide +kernel) ?_
  refine mw_none (st1 := [.int (iI (lowZ x (24 : Int)))]) (mr_S (As := [.int (iI x), .int (iI 24)]) (rest := []) ⟨hx, hb, hml, hown, hts⟩ (m_L_low l D x (24 : Int) (by omega)) (va_cwS 2 hts (gS q_372 q_373 q_374 q_341) rfl rfl rfl (by decide +kernel) ⟨Nat.le_trans (m := 1) (Nat.le_of_ble_eq_true rfl) (Nat.le_trans (Nat.le_of_ble_eq_true rfl) hRf), Nat.le_trans (m := 21) (Nat.le_of_ble_eq_true rfl) (Nat.le_trans (Nat.le_of_ble_eq_true rfl) hRl)⟩) hN (hK.sub (tys' := []) [] rfl) (va_P0 _ _ _) (va_D0 A) rfl hl.1 (Nat.le_of_ble_eq_true rfl) ⟨hRc, hRs⟩ dL_acts_3) hP hS hA rfl (fun H locs hP hS => ?_)
  have hv_1 := low_bd x (n := 24) (by omega)
  obtain ⟨how, e_how⟩ : ∃ z : Int, z = (lowZ x (24 : Int)) := ⟨_, rfl⟩
  refine z_as e_how.symm ?_
  refine lv_istore_n (lv' := [(3, .int (iI how)), (0, .ref xo), (1, .int (iI x)), (2, .int (iI y))]) hx hb dL_acts_6 rfl hl (by decide) rfl (fun ls hl => ?_)
  refine lv_iload_n hx hb dL_acts_7 rfl (lv_at hl 0 rfl) ?_
  refine z_bipush hx hb dL_acts_8 (by decide +kernel) ?_
  refine z_icmp_ge (tgt := 20) hx hb dL_acts_10 (by decide) (by omega) (by omega) (fun c_2 => ?_) (fun c_2 => ?_)
  · refine lv_iload_n hx hb dL_acts_20 rfl (lv_at hl 3 rfl) ?_
    refine z_bipush hx hb dL_acts_21 (by decide +kernel) ?_
    refine mw_none (st1 := [.int (iI (lowZ y (7 : Int)))]) (mr_S (As := [.int (iI y), .int (iI 7)]) (rest := []) ⟨hx, hb, hml, hown, hts⟩ (m_L_low l D y (7 : Int) (by omega)) (va_cwS 2 hts (gS q_372 q_373 q_374 q_341) rfl rfl rfl (by decide +kernel) ⟨Nat.le_trans (m := 1) (Nat.le_of_ble_eq_true rfl) (Nat.le_trans (Nat.le_of_ble_eq_true rfl) hRf), Nat.le_trans (m := 21) (Nat.le_of_ble_eq_true rfl) (Nat.le_trans (Nat.le_of_ble_eq_true rfl) hRl)⟩) hN (hK.sub (tys' := []) [] rfl) (va_P0 _ _ _) (va_D0 A) rfl hl.1 (Nat.le_of_ble_eq_true rfl) ⟨hRc, hRs⟩ dL_acts_23) hP hS hA rfl (fun H locs hP hS => ?_)
    have hv_3 := low_bd y (n := 7) (by omega)
    obtain ⟨rw0, e_rw0⟩ : ∃ z : Int, z = (lowZ y (7 : Int)) := ⟨_, rfl⟩
    refine z_as e_rw0.symm ?_
    refine lv_istore (lv' := [(4, .int (iI rw0)), (3, .int (iI how)), (0, .ref xo), (1, .int (iI x)), (2, .int (iI y))]) hx hb dL_acts_26 hl (by decide) rfl (fun ls hl => ?_)
    refine lv_iload_n hx hb dL_acts_28 rfl (lv_at hl 4 rfl) ?_
    refine z_iconst hx hb dL_acts_29 ?_
    refine lv_ishr hx hb dL_acts_30 ?_
    obtain ⟨y_4, hy_4, ey_4⟩ := iI_ex (iI y >>> (iI 4 &&& 31))
    refine z_asB (b := y_4) ey_4 ?_
    have J_5 : ∀ (bz_6 : Int) (H : Heap) (locs : List Loc), (bz_6 = 4 ∨ bz_6 = 3) → va_P D vwCl (wS xo xh t ta cI cC cH q) H → va_D A (wS xo xh t ta cI cC cH q) → va_S A s.heap H locs → W p l e R s m args below meth c H locs 0 0 Q (F0 m 48 ls [.int (iI bz_6), .int (iI y_4)]) := by
      intro bz_6 H locs hbz_6 hP hD hS
      refine mw_none (st1 := [.int (iI (lowZ y_4 bz_6))]) (mr_S (As := [.int (iI y_4), .int (iI bz_6)]) (rest := []) ⟨hx, hb, hml, hown, hts⟩ (m_L_low l D y_4 bz_6 (by omega)) (va_cwS 2 hts (gS q_372 q_373 q_374 q_341) rfl rfl rfl (by decide +kernel) ⟨Nat.le_trans (m := 1) (Nat.le_of_ble_eq_true rfl) (Nat.le_trans (Nat.le_of_ble_eq_true rfl) hRf), Nat.le_trans (m := 21) (Nat.le_of_ble_eq_true rfl) (Nat.le_trans (Nat.le_of_ble_eq_true rfl) hRl)⟩) hN (hK.sub (tys' := []) [] rfl) (va_P0 _ _ _) (va_D0 A) rfl hl.1 (Nat.le_of_ble_eq_true rfl) ⟨hRc, hRs⟩ dL_acts_48) hP hS hA rfl (fun H locs hP hS => ?_)
      have hv_7 := low_bd y_4 (n := bz_6) (by omega)
      obtain ⟨gg, e_gg⟩ : ∃ z : Int, z = (lowZ y_4 bz_6) := ⟨_, rfl⟩
      refine z_as e_gg.symm ?_
      refine lv_istore (lv' := [(5, .int (iI gg)), (4, .int (iI rw0)), (3, .int (iI how)), (0, .ref xo), (1, .int (iI x)), (2, .int (iI y))]) hx hb dL_acts_51 hl (by decide) rfl (fun ls hl => ?_)
      have J_8 : ∀ (bz_9 : Int) (H : Heap) (locs : List Loc), (bz_9 = (if rw0 = 6 ∨ gg = 3 then 1 else 0)) → va_P D vwCl (wS xo xh t ta cI cC cH q) H → va_D A (wS xo xh t ta cI cC cH q) → va_S A s.heap H locs → W p l e R s m args below meth c H locs 0 0 Q (F0 m 71 ls [.int (iI bz_9)]) := by
        intro bz_9 H locs hbz_9 hP hD hS
        obtain ⟨bd, e_bd⟩ : ∃ z : Int, z = bz_9 := ⟨_, rfl⟩
        refine z_as e_bd.symm ?_
        refine lv_istore (lv' := [(6, .int (iI bd)), (5, .int (iI gg)), (4, .int (iI rw0)), (3, .int (iI how)), (0, .ref xo), (1, .int (iI x)), (2, .int (iI y))]) hx hb dL_acts_71 hl (by decide) rfl (fun ls hl => ?_)
        have J_10 : ∀ (bz_11 : Int) (H : Heap) (locs : List Loc), (bz_11 = (if bd = 0 then SS.G q 4 (3 * rw0 + gg) else 0)) → va_P D vwCl (wS xo xh t ta cI cC cH q) H → va_D A (wS xo xh t ta cI cC cH q) → va_S A s.heap H locs → W p l e R s m args below meth c H locs 0 0 Q (F0 m 91 ls [.int (iI bz_11)]) := by
          intro bz_11 H locs hbz_11 hP hD hS
          obtain ⟨va, e_va⟩ : ∃ z : Int, z = bz_11 := ⟨_, rfl⟩
          refine z_as e_va.symm ?_
          refine lv_istore (lv' := [(7, .int (iI va)), (6, .int (iI bd)), (5, .int (iI gg)), (4, .int (iI rw0)), (3, .int (iI how)), (0, .ref xo), (1, .int (iI x)), (2, .int (iI y))]) hx hb dL_acts_91 hl (by decide) rfl (fun ls hl => ?_)
          have J_12 : ∀ (bz_13 : Int) (H : Heap) (locs : List Loc), (bz_13 = (if bd = 0 ∧ SS.G q 5 (3 * rw0 + gg) = 1 then 1 else 0)) → va_P D vwCl (wS xo xh t ta cI cC cH q) H → va_D A (wS xo xh t ta cI cC cH q) → va_S A s.heap H locs → W p l e R s m args below meth c H locs 0 0 Q (F0 m 116 ls [.int (iI bz_13)]) := by
            intro bz_13 H locs hbz_13 hP hD hS
            obtain ⟨fl, e_fl⟩ : ∃ z : Int, z = bz_13 := ⟨_, rfl⟩
            refine z_as e_fl.symm ?_
            refine lv_istore (lv' := [(8, .int (iI fl)), (7, .int (iI va)), (6, .int (iI bd)), (5, .int (iI gg)), (4, .int (iI rw0)), (3, .int (iI how)), (0, .ref xo), (1, .int (iI x)), (2, .int (iI y))]) hx hb dL_acts_116 hl (by decide) rfl (fun ls hl => ?_)
            have hbv : 0 ≤ va ∧ va ≤ 999 := by
              by_cases c : bd = 0
              · have := invG_4 h.1.1 (3 * rw0 + gg) (by omega) (by omega); omega
              · omega
            have hg5 : bd = 0 → (0 ≤ SS.G q 5 (3 * rw0 + gg) ∧ SS.G q 5 (3 * rw0 + gg) ≤ 1) := fun c => invG_5 h.1.1 (3 * rw0 + gg) (by omega) (by omega)
            have ev : bd = 0 → va = SS.G q 4 (3 * rw0 + gg) := fun c => by omega
            have ef : bd = 0 → (fl = 1 ↔ ¬ SS.G q 5 (3 * rw0 + gg) = 0) := fun c => by have := hg5 c; omega
            refine lv_iload_n hx hb dL_acts_118 rfl (lv_at hl 5 rfl) ?_
            refine z_bipush hx hb dL_acts_119 (by decide +kernel) ?_
            refine z_icmp_ge (tgt := 230) hx hb dL_acts_121 (by decide) (by omega) (by omega) (fun c_14 => ?_) (fun c_14 => ?_)
            · refine lv_iload_n hx hb dL_acts_230 rfl (lv_at hl 5 rfl) ?_
              refine z_bipush hx hb dL_acts_231 (by decide +kernel) ?_
              refine z_icmp_ge (tgt := 306) hx hb dL_acts_233 (by decide) (by omega) (by omega) (fun c_15 => ?_) (fun c_15 => ?_)
              · refine lv_iload_n hx hb dL_acts_306 rfl (lv_at hl 5 rfl) ?_
                refine z_bipush hx hb dL_acts_307 (by decide +kernel) ?_
                refine z_icmp_ge (tgt := 418) hx hb dL_acts_309 (by decide) (by omega) (by omega) (fun c_16 => ?_) (fun c_16 => ?_)
                · refine lv_iload_n hx hb dL_acts_418 rfl (lv_at hl 5 rfl) ?_
                  refine z_bipush hx hb dL_acts_419 (by decide +kernel) ?_
                  refine z_icmp_ge (tgt := 574) hx hb dL_acts_421 (by decide) (by omega) (by omega) (fun c_17 => ?_) (fun c_17 => ?_)
                  · refine lv_iload_n hx hb dL_acts_574 rfl (lv_at hl 5 rfl) ?_
                    refine z_bipush hx hb dL_acts_575 (by decide +kernel) ?_
                    refine z_icmp_ge (tgt := 770) hx hb dL_acts_577 (by decide) (by omega) (by omega) (fun c_18 => ?_) (fun c_18 => ?_)
                    · refine lv_aload_n hx hb dL_acts_770 rfl (lv_at hl 6 rfl) ?_
                      refine lv_iload_n hx hb dL_acts_771 rfl (lv_at hl 8 rfl) ?_
                      refine me_go (st1 := [.int (iI 1)]) (me_S (As := [.ref xo, .int (iI y)]) (rest := []) ⟨hx, hb, hml, hown, hts⟩ (m_L_reads l D xo xh t ta cI cC cH h (by omega) y (by omega)) (va_cwS 2 hts (gS q_436 q_437 q_374 q_405) rfl rfl rfl (by decide +kernel) ⟨Nat.le_trans (m := 8) (Nat.le_of_ble_eq_true rfl) (Nat.le_trans (Nat.le_of_ble_eq_true rfl) hRf), Nat.le_trans (m := 192) (Nat.le_of_ble_eq_true rfl) (Nat.le_trans (Nat.le_of_ble_eq_true rfl) hRl)⟩) hN hK hP hD rfl hl.1 (Nat.le_of_ble_eq_true rfl) ⟨hRc, hRs⟩ dL_acts_772) hD hS hA rfl (fun q1 H locs hu hP hD hS => ?_)
                      obtain ⟨hRq1, haq1⟩ := hu
                      exact hret q1 _ _ _ _ ⟨hRq1, haq1⟩ dL_acts_775 hP hD hS
                    · refine lv_iload_n hx hb dL_acts_580 rfl (lv_at hl 8 rfl) ?_
                      refine z_iconst hx hb dL_acts_581 ?_
                      refine mw_none (st1 := [.int (iI (lowZ y (4 : Int)))]) (mr_S (As := [.int (iI y), .int (iI 4)]) (rest := []) ⟨hx, hb, hml, hown, hts⟩ (m_L_low l D y (4 : Int) (by omega)) (va_cwS 2 hts (gS q_372 q_373 q_374 q_341) rfl rfl rfl (by decide +kernel) ⟨Nat.le_trans (m := 1) (Nat.le_of_ble_eq_true rfl) (Nat.le_trans (Nat.le_of_ble_eq_true rfl) hRf), Nat.le_trans (m := 21) (Nat.le_of_ble_eq_true rfl) (Nat.le_trans (Nat.le_of_ble_eq_true rfl) hRl)⟩) hN (hK.sub (tys' := []) [] rfl) (va_P0 _ _ _) (va_D0 A) rfl hl.1 (Nat.le_of_ble_eq_true rfl) ⟨hRc, hRs⟩ dL_acts_582) hP hS hA rfl (fun H locs hP hS => ?_)
                      have hv_19 := low_bd y (n := 4) (by omega)
                      obtain ⟨wt, e_wt⟩ : ∃ z : Int, z = (lowZ y (4 : Int)) := ⟨_, rfl⟩
                      refine z_as e_wt.symm ?_
                      refine lv_istore (lv' := [(9, .int (iI wt)), (8, .int (iI fl)), (7, .int (iI va)), (6, .int (iI bd)), (5, .int (iI gg)), (4, .int (iI rw0)), (3, .int (iI how)), (0, .ref xo), (1, .int (iI x)), (2, .int (iI y))]) hx hb dL_acts_585 hl (by decide) rfl (fun ls hl => ?_)
                      have J_20 : ∀ (bz_21 : Int) (H : Heap) (locs : List Loc), ((wt = 0 ∧ 299 ≤ bz_21 ∧ bz_21 ≤ 701) ∨ (wt = 1 ∧ 0 ≤ bz_21 ∧ bz_21 ≤ 301) ∨ (2 ≤ wt ∧ 0 ≤ bz_21 ∧ bz_21 ≤ 100)) → va_P D vwCl (wS xo xh t ta cI cC cH q) H → va_D A (wS xo xh t ta cI cC cH q) → va_S A s.heap H locs → W p l e R s m args below meth c H locs 0 0 Q (F0 m 634 ls [.int (iI bz_21)]) := by
                        intro bz_21 H locs hbz_21 hP hD hS
                        obtain ⟨tv, e_tv⟩ : ∃ z : Int, z = bz_21 := ⟨_, rfl⟩
                        refine z_as e_tv.symm ?_
                        refine lv_istore (lv' := [(10, .int (iI tv)), (9, .int (iI wt)), (8, .int (iI fl)), (7, .int (iI va)), (6, .int (iI bd)), (5, .int (iI gg)), (4, .int (iI rw0)), (3, .int (iI how)), (0, .ref xo), (1, .int (iI x)), (2, .int (iI y))]) hx hb dL_acts_634 hl (by decide) rfl (fun ls hl => ?_)
                        have J_22 : ∀ (bz_23 : Int) (H : Heap) (locs : List Loc), (bz_23 = (if wt = 3 ∨ (wt = 0 ∧ (tv = 299 ∨ tv = 701)) ∨ (wt = 1 ∧ (tv = 0 ∨ tv = 301)) ∨ (wt = 2 ∧ tv = 100) then 1 else 0)) → va_P D vwCl (wS xo xh t ta cI cC cH q) H → va_D A (wS xo xh t ta cI cC cH q) → va_S A s.heap H locs → W p l e R s m args below meth c H locs 0 0 Q (F0 m 700 ls [.int (iI bz_23)]) := by
                          intro bz_23 H locs hbz_23 hP hD hS
                          obtain ⟨no, e_no⟩ : ∃ z : Int, z = bz_23 := ⟨_, rfl⟩
                          refine z_as e_no.symm ?_
                          refine lv_istore (lv' := [(11, .int (iI no)), (10, .int (iI tv)), (9, .int (iI wt)), (8, .int (iI fl)), (7, .int (iI va)), (6, .int (iI bd)), (5, .int (iI gg)), (4, .int (iI rw0)), (3, .int (iI how)), (0, .ref xo), (1, .int (iI x)), (2, .int (iI y))]) hx hb dL_acts_700 hl (by decide) rfl (fun ls hl => ?_)
                          have J_24 : ∀ (bz_25 : Int) (H : Heap) (locs : List Loc), (bz_25 = (if no = 0 then SS.G q 11 wt else 0)) → va_P D vwCl (wS xo xh t ta cI cC cH q) H → va_D A (wS xo xh t ta cI cC cH q) → va_S A s.heap H locs → W p l e R s m args below meth c H locs 0 0 Q (F0 m 720 ls [.int (iI bz_25)]) := by
                            intro bz_25 H locs hbz_25 hP hD hS
                            obtain ⟨had, e_had⟩ : ∃ z : Int, z = bz_25 := ⟨_, rfl⟩
                            refine z_as e_had.symm ?_
                            refine lv_istore (lv' := [(12, .int (iI had)), (11, .int (iI no)), (10, .int (iI tv)), (9, .int (iI wt)), (8, .int (iI fl)), (7, .int (iI va)), (6, .int (iI bd)), (5, .int (iI gg)), (4, .int (iI rw0)), (3, .int (iI how)), (0, .ref xo), (1, .int (iI x)), (2, .int (iI y))]) hx hb dL_acts_720 hl (by decide) rfl (fun ls hl => ?_)
                            have hbh : 0 ≤ had ∧ had ≤ 700 := by
                              by_cases c : no = 0
                              · have := invG_11 h.1.1 wt (by omega) (by omega); omega
                              · omega
                            have hbs : no = 0 ↔ (0 ≤ wt ∧ wt < 3 ∧ badSetZ wt tv = 0) := by unfold badSetZ outZ; omega
                            refine lv_aload_n hx hb dL_acts_722 rfl (lv_at hl 10 rfl) ?_
                            refine lv_iload hx hb dL_acts_723 (lv_at hl 3 rfl) ?_
                            refine lv_iload hx hb dL_acts_725 (lv_at hl 2 rfl) ?_
                            obtain ⟨q1, mxq1, hcq1, hTq1⟩ := sc_set l D xo xh t ta cI cC cH h (by omega) wt tv (by omega) (by omega)
                            have hRq1 := hcq1.1
                            refine mw_full (st1 := [.int (iI (csV (SS.G q) wt tv))]) (mr_V (As := [.int (iI wt), .int (iI tv)]) (rest := []) (ci := 2) (q0 := 0) ⟨hx, hb, hml, hown, hts⟩ mxq1 (cwV 2 hts (gV q_433 q_434 q_435 q_37 q_250) rfl rfl rfl (by decide +kernel) ⟨Nat.le_trans (m := 4) (Nat.le_of_ble_eq_true rfl) (Nat.le_trans (Nat.le_of_ble_eq_true rfl) hRf), Nat.le_trans (m := 88) (Nat.le_of_ble_eq_true rfl) (Nat.le_trans (Nat.le_of_ble_eq_true rfl) hRl)⟩) hN hK hP hD rfl rfl rfl hl.1 (Nat.le_of_ble_eq_true rfl) ⟨hRc, hRs⟩ dL_acts_727) hD hS hA rfl (fun H locs hP hD hS => ?_)
                            have hV : csV (SS.G q) wt tv = (if no = 0 then had else -1000001) := by
                              by_cases c : no = 0
                              · rw [if_pos c, show csV (SS.G q) wt tv = _ from if_pos (hbs.mp c)]; omega
                              · rw [if_neg c]; exact if_neg (fun z => c (hbs.mpr z))
                            have J_26 : ∀ (bz_27 : Int) (H : Heap) (locs : List Loc), (bz_27 = (if no = 0 then had else -1000001)) → va_P D vwCl (wS xo xh t ta cI cC cH q1) H → va_D A (wS xo xh t ta cI cC cH q1) → va_S A s.heap H locs → W p l e R s m args below meth c H locs 0 0 Q (F0 m 742 ls [.int (iI bz_27), .int (iI (csV (SS.G q) wt tv))]) := by
                              intro bz_27 H locs hbz_27 hP hD hS
                              refine z_icmp_ne (tgt := 768) hx hb dL_acts_742 (by decide) (by omega) (by omega) (fun c_28 => absurd c_28 (by omega)) (fun c_28 => ?_)
                              refine lv_iload hx hb dL_acts_745 (lv_at hl 1 rfl) ?_
                              refine z_if_ne (tgt := 764) hx hb dL_acts_747 (by decide) (by omega) (fun c_29 => ?_) (fun c_29 => ?_)
                              · refine z_iconst hx hb dL_acts_764 ?_
                                refine lv_goto (tgt := 769) hx hb dL_acts_765 (by decide) ?_
                                exact hret q1 _ _ _ _ ⟨hRq1, hcq1.2.1⟩ dL_acts_769 hP hD hS
                              · have c11 : SS.G q1 11 wt = tv := by rw [hcq1.2.2.1, show csG (SS.G q) wt tv = _ from if_pos (hbs.mp (by omega))]; exact upI_s _ _ _
                                refine lv_aload_n hx hb dL_acts_750 rfl (lv_at hl 10 rfl) ?_
                                refine z_bipush hx hb dL_acts_751 (by decide +kernel) ?_
                                refine lv_iload hx hb dL_acts_753 (lv_at hl 3 rfl) ?_
                                refine z_iadd hx hb dL_acts_755 ?_
                                refine mw_full (st1 := [.int (iI (SS.G q1 11 wt))]) (mr_V (As := [.int (iI (20 + wt))]) (rest := []) (ci := 2) (q0 := 0) ⟨hx, hb, hml, hown, hts⟩ (rd_cntS l D xo xh t ta cI cC cH hRq1 wt (by omega)) (cwV 1 hts (gV q_344 q_345 q_346 q_37 q_304) rfl rfl rfl (by decide +kernel) ⟨Nat.le_trans (m := 6) (Nat.le_of_ble_eq_true rfl) (Nat.le_trans (Nat.le_of_ble_eq_true rfl) hRf), Nat.le_trans (m := 133) (Nat.le_of_ble_eq_true rfl) (Nat.le_trans (Nat.le_of_ble_eq_true rfl) hRl)⟩) hN hK hP hD rfl rfl rfl hl.1 (Nat.le_of_ble_eq_true rfl) ⟨hRc, hRs⟩ dL_acts_756) hD hS hA rfl (fun H locs hP hD hS => ?_)
                                have hv_30 := rb_cntS hRq1 wt (by omega)
                                refine lv_iload hx hb dL_acts_759 (lv_at hl 2 rfl) ?_
                                refine z_icmp_ne (tgt := 768) hx hb dL_acts_761 (by decide) (by omega) (by omega) (fun c_31 => ?_) (fun c_31 => ?_)
                                · refine z_iconst hx hb dL_acts_768 ?_
                                  refine z_as (show 0 = 1 from by omega) ?_
                                  exact hret q1 _ _ _ _ ⟨hRq1, hcq1.2.1⟩ dL_acts_769 hP hD hS
                                · refine z_iconst hx hb dL_acts_764 ?_
                                  refine lv_goto (tgt := 769) hx hb dL_acts_765 (by decide) ?_
                                  exact hret q1 _ _ _ _ ⟨hRq1, hcq1.2.1⟩ dL_acts_769 hP hD hS
                            have hV : csV (SS.G q) wt tv = (if no = 0 then had else -1000001) := by
                              by_cases c : no = 0
                              · rw [if_pos c, show csV (SS.G q) wt tv = _ from if_pos (hbs.mp c)]; omega
                              · rw [if_neg c]; exact if_neg (fun z => c (hbs.mpr z))
                            refine lv_iload hx hb dL_acts_730 (lv_at hl 1 rfl) ?_
                            refine z_if_eq (tgt := 740) hx hb dL_acts_732 (by decide) (by omega) (fun c_32 => ?_) (fun c_32 => ?_)
                            · refine lv_iload hx hb dL_acts_740 (lv_at hl 0 rfl) ?_
                              exact J_26 had _ _ (by omega) hP hD hS
                            · refine z_ldc hx hb (-1000001) (by decide +kernel) hown (hq _ q_371) dL_acts_735 ?_
                              refine lv_goto (tgt := 742) hx hb dL_acts_737 (by decide) ?_
                              exact J_26 (-1000001) _ _ (by omega) hP hD hS
                          refine lv_iload hx hb dL_acts_702 (lv_at hl 0 rfl) ?_
                          refine z_if_eq (tgt := 711) hx hb dL_acts_704 (by decide) (by omega) (fun c_33 => ?_) (fun c_33 => ?_)
                          · refine lv_aload_n hx hb dL_acts_711 rfl (lv_at hl 9 rfl) ?_
                            refine z_bipush hx hb dL_acts_712 (by decide +kernel) ?_
                            refine lv_iload hx hb dL_acts_714 (lv_at hl 2 rfl) ?_
                            refine z_iadd hx hb dL_acts_716 ?_
                            refine mw_full (st1 := [.int (iI (SS.G q 11 wt))]) (mr_V (As := [.int (iI (20 + wt))]) (rest := []) (ci := 2) (q0 := 0) ⟨hx, hb, hml, hown, hts⟩ (rd_cntS l D xo xh t ta cI cC cH h wt (by omega)) (cwV 1 hts (gV q_344 q_345 q_346 q_37 q_304) rfl rfl rfl (by decide +kernel) ⟨Nat.le_trans (m := 6) (Nat.le_of_ble_eq_true rfl) (Nat.le_trans (Nat.le_of_ble_eq_true rfl) hRf), Nat.le_trans (m := 133) (Nat.le_of_ble_eq_true rfl) (Nat.le_trans (Nat.le_of_ble_eq_true rfl) hRl)⟩) hN hK hP hD rfl rfl rfl hl.1 (Nat.le_of_ble_eq_true rfl) ⟨hRc, hRs⟩ dL_acts_717) hD hS hA rfl (fun H locs hP hD hS => ?_)
                            have hv_34 := rb_cntS h wt (by omega)
                            exact J_24 (SS.G q 11 wt) _ _ (by omega) hP hD hS
                          · refine z_iconst hx hb dL_acts_707 ?_
                            refine lv_goto (tgt := 720) hx hb dL_acts_708 (by decide) ?_
                            exact J_24 0 _ _ (by omega) hP hD hS
                        refine lv_iload hx hb dL_acts_636 (lv_at hl 1 rfl) ?_
                        refine z_iconst hx hb dL_acts_638 ?_
                        refine z_icmp_eq (tgt := 695) hx hb dL_acts_639 (by decide) (by omega) (by omega) (fun c_35 => ?_) (fun c_35 => ?_)
                        · refine z_iconst hx hb dL_acts_695 ?_
                          refine lv_goto (tgt := 700) hx hb dL_acts_696 (by decide) ?_
                          exact J_22 1 _ _ (by omega) hP hD hS
                        · refine lv_iload hx hb dL_acts_642 (lv_at hl 1 rfl) ?_
                          refine z_if_ne (tgt := 666) hx hb dL_acts_644 (by decide) (by omega) (fun c_36 => ?_) (fun c_36 => ?_)
                          · refine lv_iload hx hb dL_acts_666 (lv_at hl 1 rfl) ?_
                            refine z_iconst hx hb dL_acts_668 ?_
                            refine z_icmp_ne (tgt := 688) hx hb dL_acts_669 (by decide) (by omega) (by omega) (fun c_37 => ?_) (fun c_37 => ?_)
                            · refine lv_iload hx hb dL_acts_688 (lv_at hl 0 rfl) ?_
                              refine z_bipush hx hb dL_acts_690 (by decide +kernel) ?_
                              refine z_icmp_ne (tgt := 699) hx hb dL_acts_692 (by decide) (by omega) (by omega) (fun c_38 => ?_) (fun c_38 => ?_)
                              · refine z_iconst hx hb dL_acts_699 ?_
                                exact J_22 0 _ _ (by omega) hP hD hS
                              · refine z_iconst hx hb dL_acts_695 ?_
                                refine lv_goto (tgt := 700) hx hb dL_acts_696 (by decide) ?_
                                exact J_22 1 _ _ (by omega) hP hD hS
                            · refine lv_iload hx hb dL_acts_672 (lv_at hl 0 rfl) ?_
                              refine z_if_eq (tgt := 695) hx hb dL_acts_674 (by decide) (by omega) (fun c_39 => ?_) (fun c_39 => ?_)
                              · refine z_iconst hx hb dL_acts_695 ?_
                                refine lv_goto (tgt := 700) hx hb dL_acts_696 (by decide) ?_
                                exact J_22 1 _ _ (by omega) hP hD hS
                              · refine lv_iload hx hb dL_acts_677 (lv_at hl 0 rfl) ?_
                                refine z_sipush hx hb dL_acts_679 (by decide +kernel) ?_
                                refine z_icmp_ne (tgt := 699) hx hb dL_acts_682 (by decide) (by omega) (by omega) (fun c_40 => ?_) (fun c_40 => ?_)
                                · refine z_iconst hx hb dL_acts_699 ?_
                                  exact J_22 0 _ _ (by omega) hP hD hS
                                · refine lv_goto (tgt := 695) hx hb dL_acts_685 (by decide) ?_
                                  refine z_iconst hx hb dL_acts_695 ?_
                                  refine lv_goto (tgt := 700) hx hb dL_acts_696 (by decide) ?_
                                  exact J_22 1 _ _ (by omega) hP hD hS
                          · refine lv_iload hx hb dL_acts_647 (lv_at hl 0 rfl) ?_
                            refine z_sipush hx hb dL_acts_649 (by decide +kernel) ?_
                            refine z_icmp_eq (tgt := 695) hx hb dL_acts_652 (by decide) (by omega) (by omega) (fun c_41 => ?_) (fun c_41 => ?_)
                            · refine z_iconst hx hb dL_acts_695 ?_
                              refine lv_goto (tgt := 700) hx hb dL_acts_696 (by decide) ?_
                              exact J_22 1 _ _ (by omega) hP hD hS
                            · refine lv_iload hx hb dL_acts_655 (lv_at hl 0 rfl) ?_
                              refine z_sipush hx hb dL_acts_657 (by decide +kernel) ?_
                              refine z_icmp_ne (tgt := 699) hx hb dL_acts_660 (by decide) (by omega) (by omega) (fun c_42 => ?_) (fun c_42 => ?_)
                              · refine z_iconst hx hb dL_acts_699 ?_
                                exact J_22 0 _ _ (by omega) hP hD hS
                              · refine lv_goto (tgt := 695) hx hb dL_acts_663 (by decide) ?_
                                refine z_iconst hx hb dL_acts_695 ?_
                                refine lv_goto (tgt := 700) hx hb dL_acts_696 (by decide) ?_
                                exact J_22 1 _ _ (by omega) hP hD hS
                      refine lv_iload hx hb dL_acts_587 (lv_at hl 0 rfl) ?_
                      refine z_if_ne (tgt := 608) hx hb dL_acts_589 (by decide) (by omega) (fun c_43 => ?_) (fun c_43 => ?_)
                      · refine lv_iload hx hb dL_acts_608 (lv_at hl 0 rfl) ?_
                        refine z_iconst hx hb dL_acts_610 ?_
                        refine z_icmp_ne (tgt := 626) hx hb dL_acts_611 (by decide) (by omega) (by omega) (fun c_44 => ?_) (fun c_44 => ?_)
                        · refine lv_iload_n hx hb dL_acts_626 rfl (lv_at hl 9 rfl) ?_
                          refine z_iconst hx hb dL_acts_627 ?_
                          refine lv_ishr hx hb dL_acts_628 ?_
                          obtain ⟨y_45, hy_45, ey_45⟩ := iI_ex (iI y >>> (iI 2 &&& 31))
                          refine z_asB (b := y_45) ey_45 ?_
                          refine z_bipush hx hb dL_acts_629 (by decide +kernel) ?_
                          refine mw_none (st1 := [.int (iI (lowZ y_45 (101 : Int)))]) (mr_S (As := [.int (iI y_45), .int (iI 101)]) (rest := []) ⟨hx, hb, hml, hown, hts⟩ (m_L_low l D y_45 (101 : Int) (by omega)) (va_cwS 2 hts (gS q_372 q_373 q_374 q_341) rfl rfl rfl (by decide +kernel) ⟨Nat.le_trans (m := 1) (Nat.le_of_ble_eq_true rfl) (Nat.le_trans (Nat.le_of_ble_eq_true rfl) hRf), Nat.le_trans (m := 21) (Nat.le_of_ble_eq_true rfl) (Nat.le_trans (Nat.le_of_ble_eq_true rfl) hRl)⟩) hN (hK.sub (tys' := []) [] rfl) (va_P0 _ _ _) (va_D0 A) rfl hl.1 (Nat.le_of_ble_eq_true rfl) ⟨hRc, hRs⟩ dL_acts_631) hP hS hA rfl (fun H locs hP hS => ?_)
                          have hv_46 := low_bd y_45 (n := 101) (by omega)
                          exact J_20 (lowZ y_45 (101 : Int)) _ _ (by omega) hP hD hS
                        · refine lv_iload_n hx hb dL_acts_614 rfl (lv_at hl 9 rfl) ?_
                          refine z_iconst hx hb dL_acts_615 ?_
                          refine lv_ishr hx hb dL_acts_616 ?_
                          obtain ⟨y_47, hy_47, ey_47⟩ := iI_ex (iI y >>> (iI 2 &&& 31))
                          refine z_asB (b := y_47) ey_47 ?_
                          refine z_sipush hx hb dL_acts_617 (by decide +kernel) ?_
                          refine mw_none (st1 := [.int (iI (lowZ y_47 (302 : Int)))]) (mr_S (As := [.int (iI y_47), .int (iI 302)]) (rest := []) ⟨hx, hb, hml, hown, hts⟩ (m_L_low l D y_47 (302 : Int) (by omega)) (va_cwS 2 hts (gS q_372 q_373 q_374 q_341) rfl rfl rfl (by decide +kernel) ⟨Nat.le_trans (m := 1) (Nat.le_of_ble_eq_true rfl) (Nat.le_trans (Nat.le_of_ble_eq_true rfl) hRf), Nat.le_trans (m := 21) (Nat.le_of_ble_eq_true rfl) (Nat.le_trans (Nat.le_of_ble_eq_true rfl) hRl)⟩) hN (hK.sub (tys' := []) [] rfl) (va_P0 _ _ _) (va_D0 A) rfl hl.1 (Nat.le_of_ble_eq_true rfl) ⟨hRc, hRs⟩ dL_acts_620) hP hS hA rfl (fun H locs hP hS => ?_)
                          have hv_48 := low_bd y_47 (n := 302) (by omega)
                          refine lv_goto (tgt := 634) hx hb dL_acts_623 (by decide) ?_
                          exact J_20 (lowZ y_47 (302 : Int)) _ _ (by omega) hP hD hS
                      · refine z_sipush hx hb dL_acts_592 (by decide +kernel) ?_
                        refine lv_iload_n hx hb dL_acts_595 rfl (lv_at hl 9 rfl) ?_
                        refine z_iconst hx hb dL_acts_596 ?_
                        refine lv_ishr hx hb dL_acts_597 ?_
                        obtain ⟨y_49, hy_49, ey_49⟩ := iI_ex (iI y >>> (iI 2 &&& 31))
                        refine z_asB (b := y_49) ey_49 ?_
                        refine z_sipush hx hb dL_acts_598 (by decide +kernel) ?_
                        refine mw_none (st1 := [.int (iI (lowZ y_49 (403 : Int))), .int (iI 299)]) (mr_S (As := [.int (iI y_49), .int (iI 403)]) (rest := [.int (iI 299)]) ⟨hx, hb, hml, hown, hts⟩ (m_L_low l D y_49 (403 : Int) (by omega)) (va_cwS 2 hts (gS q_372 q_373 q_374 q_341) rfl rfl rfl (by decide +kernel) ⟨Nat.le_trans (m := 1) (Nat.le_of_ble_eq_true rfl) (Nat.le_trans (Nat.le_of_ble_eq_true rfl) hRf), Nat.le_trans (m := 21) (Nat.le_of_ble_eq_true rfl) (Nat.le_trans (Nat.le_of_ble_eq_true rfl) hRl)⟩) hN (hK.sub (tys' := []) [] rfl) (va_P0 _ _ _) (va_D0 A) rfl hl.1 (Nat.le_of_ble_eq_true rfl) ⟨hRc, hRs⟩ dL_acts_601) hP hS hA rfl (fun H locs hP hS => ?_)
                        have hv_50 := low_bd y_49 (n := 403) (by omega)
                        refine z_iadd hx hb dL_acts_604 ?_
                        refine lv_goto (tgt := 634) hx hb dL_acts_605 (by decide) ?_
                        exact J_20 (299 + (lowZ y_49 (403 : Int))) _ _ (by omega) hP hD hS
                  · refine lv_iload_n hx hb dL_acts_424 rfl (lv_at hl 8 rfl) ?_
                    have J_51 : ∀ (bz_52 : Int) (H : Heap) (locs : List Loc), (bz_52 = 101 ∨ bz_52 = 10) → va_P D vwCl (wS xo xh t ta cI cC cH q) H → va_D A (wS xo xh t ta cI cC cH q) → va_S A s.heap H locs → W p l e R s m args below meth c H locs 0 0 Q (F0 m 443 ls [.int (iI bz_52), .int (iI y)]) := by
                      intro bz_52 H locs hbz_52 hP hD hS
                      refine mw_none (st1 := [.int (iI (lowZ y bz_52))]) (mr_S (As := [.int (iI y), .int (iI bz_52)]) (rest := []) ⟨hx, hb, hml, hown, hts⟩ (m_L_low l D y bz_52 (by omega)) (va_cwS 2 hts (gS q_372 q_373 q_374 q_341) rfl rfl rfl (by decide +kernel) ⟨Nat.le_trans (m := 1) (Nat.le_of_ble_eq_true rfl) (Nat.le_trans (Nat.le_of_ble_eq_true rfl) hRf), Nat.le_trans (m := 21) (Nat.le_of_ble_eq_true rfl) (Nat.le_trans (Nat.le_of_ble_eq_true rfl) hRl)⟩) hN (hK.sub (tys' := []) [] rfl) (va_P0 _ _ _) (va_D0 A) rfl hl.1 (Nat.le_of_ble_eq_true rfl) ⟨hRc, hRs⟩ dL_acts_443) hP hS hA rfl (fun H locs hP hS => ?_)
                      have hv_53 := low_bd y (n := bz_52) (by omega)
                      obtain ⟨mn, e_mn⟩ : ∃ z : Int, z = (lowZ y bz_52) := ⟨_, rfl⟩
                      refine z_as e_mn.symm ?_
                      refine lv_istore (lv' := [(9, .int (iI mn)), (8, .int (iI fl)), (7, .int (iI va)), (6, .int (iI bd)), (5, .int (iI gg)), (4, .int (iI rw0)), (3, .int (iI how)), (0, .ref xo), (1, .int (iI x)), (2, .int (iI y))]) hx hb dL_acts_446 hl (by decide) rfl (fun ls hl => ?_)
                      have J_54 : ∀ (bz_55 : Int) (H : Heap) (locs : List Loc), (bz_55 = (if mn = 0 ∨ mn = 100 then 1 else 0)) → va_P D vwCl (wS xo xh t ta cI cC cH q) H → va_D A (wS xo xh t ta cI cC cH q) → va_S A s.heap H locs → W p l e R s m args below meth c H locs 0 0 Q (F0 m 465 ls [.int (iI bz_55)]) := by
                        intro bz_55 H locs hbz_55 hP hD hS
                        obtain ⟨no, e_no⟩ : ∃ z : Int, z = bz_55 := ⟨_, rfl⟩
                        refine z_as e_no.symm ?_
                        refine lv_istore (lv' := [(10, .int (iI no)), (9, .int (iI mn)), (8, .int (iI fl)), (7, .int (iI va)), (6, .int (iI bd)), (5, .int (iI gg)), (4, .int (iI rw0)), (3, .int (iI how)), (0, .ref xo), (1, .int (iI x)), (2, .int (iI y))]) hx hb dL_acts_465 hl (by decide) rfl (fun ls hl => ?_)
                        refine lv_aload_n hx hb dL_acts_467 rfl (lv_at hl 8 rfl) ?_
                        refine z_iconst hx hb dL_acts_468 ?_
                        refine mw_full (st1 := [.int (iI (SS.G q 12 0))]) (mr_V (As := [.int (iI 0)]) (rest := []) (ci := 2) (q0 := 0) ⟨hx, hb, hml, hown, hts⟩ (rd_cnt0 l D xo xh t ta cI cC cH h (by omega)) (cwV 1 hts (gV q_344 q_345 q_346 q_37 q_304) rfl rfl rfl (by decide +kernel) ⟨Nat.le_trans (m := 6) (Nat.le_of_ble_eq_true rfl) (Nat.le_trans (Nat.le_of_ble_eq_true rfl) hRf), Nat.le_trans (m := 133) (Nat.le_of_ble_eq_true rfl) (Nat.le_trans (Nat.le_of_ble_eq_true rfl) hRl)⟩) hN hK hP hD rfl rfl rfl hl.1 (Nat.le_of_ble_eq_true rfl) ⟨hRc, hRs⟩ dL_acts_469) hD hS hA rfl (fun H locs hP hD hS => ?_)
                        have hv_56 := rb_cnt0 h (by omega)
                        obtain ⟨now, e_now⟩ : ∃ z : Int, z = (SS.G q 12 0) := ⟨_, rfl⟩
                        refine z_as e_now.symm ?_
                        refine lv_istore (lv' := [(11, .int (iI now)), (10, .int (iI no)), (9, .int (iI mn)), (8, .int (iI fl)), (7, .int (iI va)), (6, .int (iI bd)), (5, .int (iI gg)), (4, .int (iI rw0)), (3, .int (iI how)), (0, .ref xo), (1, .int (iI x)), (2, .int (iI y))]) hx hb dL_acts_472 hl (by decide) rfl (fun ls hl => ?_)
                        refine lv_aload_n hx hb dL_acts_474 rfl (lv_at hl 9 rfl) ?_
                        refine z_bipush hx hb dL_acts_475 (by decide +kernel) ?_
                        refine mw_full (st1 := [.int (iI (sumZ 6 (SS.G q 8)))]) (mr_V (As := [.int (iI 7)]) (rest := []) (ci := 2) (q0 := 0) ⟨hx, hb, hml, hown, hts⟩ (rd_cnt7 l D xo xh t ta cI cC cH h (by omega)) (cwV 1 hts (gV q_344 q_345 q_346 q_37 q_304) rfl rfl rfl (by decide +kernel) ⟨Nat.le_trans (m := 6) (Nat.le_of_ble_eq_true rfl) (Nat.le_trans (Nat.le_of_ble_eq_true rfl) hRf), Nat.le_trans (m := 133) (Nat.le_of_ble_eq_true rfl) (Nat.le_trans (Nat.le_of_ble_eq_true rfl) hRl)⟩) hN hK hP hD rfl rfl rfl hl.1 (Nat.le_of_ble_eq_true rfl) ⟨hRc, hRs⟩ dL_acts_477) hD hS hA rfl (fun H locs hP hD hS => ?_)
                        have hv_57 := rb_cnt7 h (by omega)
                        obtain ⟨lost, e_lost⟩ : ∃ z : Int, z = (sumZ 6 (SS.G q 8)) := ⟨_, rfl⟩
                        refine z_as e_lost.symm ?_
                        refine lv_istore (lv' := [(12, .int (iI lost)), (11, .int (iI now)), (10, .int (iI no)), (9, .int (iI mn)), (8, .int (iI fl)), (7, .int (iI va)), (6, .int (iI bd)), (5, .int (iI gg)), (4, .int (iI rw0)), (3, .int (iI how)), (0, .ref xo), (1, .int (iI x)), (2, .int (iI y))]) hx hb dL_acts_480 hl (by decide) rfl (fun ls hl => ?_)
                        refine lv_aload_n hx hb dL_acts_482 rfl (lv_at hl 10 rfl) ?_
                        refine lv_iload hx hb dL_acts_483 (lv_at hl 3 rfl) ?_
                        obtain ⟨q1, mxq1, hcq1, hTq1⟩ := sc_days l D xo xh t ta cI cC cH h (by omega) mn (by omega)
                        have hRq1 := hcq1.1
                        refine mw_full (st1 := [.int (iI (pdV (SS.G q) mn 9999))]) (mr_V (As := [.int (iI mn)]) (rest := []) (ci := 2) (q0 := 0) ⟨hx, hb, hml, hown, hts⟩ mxq1 (cwV 1 hts (gV q_430 q_431 q_432 q_37 q_246) rfl rfl rfl (by decide +kernel) ⟨Nat.le_trans (m := 5) (Nat.le_of_ble_eq_true rfl) (Nat.le_trans (Nat.le_of_ble_eq_true rfl) hRf), Nat.le_trans (m := 120) (Nat.le_of_ble_eq_true rfl) (Nat.le_trans (Nat.le_of_ble_eq_true rfl) hRl)⟩) hN hK hP hD rfl rfl rfl hl.1 (Nat.le_of_ble_eq_true rfl) ⟨hRc, hRs⟩ dL_acts_485) hD hS hA rfl (fun H locs hP hD hS => ?_)
                        obtain ⟨td, e_td⟩ : ∃ z : Int, z = (pdV (SS.G q) mn 9999) := ⟨_, rfl⟩
                        refine z_as e_td.symm ?_
                        refine lv_istore (lv' := [(13, .int (iI td)), (12, .int (iI lost)), (11, .int (iI now)), (10, .int (iI no)), (9, .int (iI mn)), (8, .int (iI fl)), (7, .int (iI va)), (6, .int (iI bd)), (5, .int (iI gg)), (4, .int (iI rw0)), (3, .int (iI how)), (0, .ref xo), (1, .int (iI x)), (2, .int (iI y))]) hx hb dL_acts_488 hl (by decide) rfl (fun ls hl => ?_)
                        have hdl := daysLost_bd (SS.G q) mn.toNat
                        have hV : td = (if no = 1 then -1000001 else if 9999 < now + mn then -1000003 else daysLostZ (SS.G q) mn.toNat) := by
                          rw [e_td]
                          by_cases c : no = 1
                          · rw [if_pos c]; exact if_neg (by omega)
                          · rw [if_neg c, show pdV (SS.G q) mn 9999 = _ from if_pos (by omega)]
                            by_cases d : 9999 < now + mn
                            · rw [if_pos d, if_pos (by omega)]
                            · rw [if_neg d, if_neg (by omega)]
                        have hGn : (no = 1 ∨ 9999 < now + mn) → SS.G q1 12 0 = now := fun c => by
                          rw [hcq1.2.2.1, e_now]
                          by_cases d : no = 1
                          · rw [show pdG (SS.G q) mn 9999 = _ from if_neg (by omega)]
                          · rw [show pdG (SS.G q) mn 9999 = _ from (if_pos (by omega)).trans (if_pos (by omega))]
                        have hGy : ¬ (no = 1 ∨ 9999 < now + mn) → SS.G q1 12 0 = now + mn ∧ sumZ 6 (SS.G q1 8) = lost + td := fun c => by
                          rw [hcq1.2.2.1, show pdG (SS.G q) mn 9999 = _ from (if_pos (by omega)).trans (if_neg (by omega)), days_12, days_lost]
                          omega
                        refine lv_iload hx hb dL_acts_490 (lv_at hl 3 rfl) ?_
                        refine z_if_ne (tgt := 506) hx hb dL_acts_492 (by decide) (by omega) (fun c_58 => ?_) (fun c_58 => ?_)
                        · have hGn := hGn (by omega)
                          refine lv_iload hx hb dL_acts_506 (lv_at hl 0 rfl) ?_
                          have J_59 : ∀ (bz_60 : Int) (H : Heap) (locs : List Loc), (bz_60 = (if no = 0 then -1000003 else -1000001)) → va_P D vwCl (wS xo xh t ta cI cC cH q1) H → va_D A (wS xo xh t ta cI cC cH q1) → va_S A s.heap H locs → W p l e R s m args below meth c H locs 0 0 Q (F0 m 520 ls [.int (iI bz_60), .int (iI td)]) := by
                            intro bz_60 H locs hbz_60 hP hD hS
                            refine z_icmp_ne (tgt := 537) hx hb dL_acts_520 (by decide) (by omega) (by omega) (fun c_61 => absurd c_61 (by omega)) (fun c_61 => ?_)
                            refine lv_aload_n hx hb dL_acts_523 rfl (lv_at hl 11 rfl) ?_
                            refine z_iconst hx hb dL_acts_524 ?_
                            refine mw_full (st1 := [.int (iI (SS.G q1 12 0))]) (mr_V (As := [.int (iI 0)]) (rest := []) (ci := 2) (q0 := 0) ⟨hx, hb, hml, hown, hts⟩ (rd_cnt0 l D xo xh t ta cI cC cH hRq1 (by omega)) (cwV 1 hts (gV q_344 q_345 q_346 q_37 q_304) rfl rfl rfl (by decide +kernel) ⟨Nat.le_trans (m := 6) (Nat.le_of_ble_eq_true rfl) (Nat.le_trans (Nat.le_of_ble_eq_true rfl) hRf), Nat.le_trans (m := 133) (Nat.le_of_ble_eq_true rfl) (Nat.le_trans (Nat.le_of_ble_eq_true rfl) hRl)⟩) hN hK hP hD rfl rfl rfl hl.1 (Nat.le_of_ble_eq_true rfl) ⟨hRc, hRs⟩ dL_acts_525) hD hS hA rfl (fun H locs hP hD hS => ?_)
                            have hv_62 := rb_cnt0 hRq1 (by omega)
                            refine lv_iload hx hb dL_acts_528 (lv_at hl 2 rfl) ?_
                            refine z_icmp_ne (tgt := 537) hx hb dL_acts_530 (by decide) (by omega) (by omega) (fun c_63 => absurd c_63 (by omega)) (fun c_63 => ?_)
                            refine z_iconst hx hb dL_acts_533 ?_
                            refine lv_goto (tgt := 573) hx hb dL_acts_534 (by decide) ?_
                            exact hret q1 _ _ _ _ ⟨hRq1, hcq1.2.1⟩ dL_acts_573 hP hD hS
                          refine lv_iload hx hb dL_acts_508 (lv_at hl 3 rfl) ?_
                          refine z_if_eq (tgt := 518) hx hb dL_acts_510 (by decide) (by omega) (fun c_64 => absurd c_64 (by omega)) (fun c_64 => ?_)
                          refine z_ldc hx hb (-1000001) (by decide +kernel) hown (hq _ q_371) dL_acts_513 ?_
                          refine lv_goto (tgt := 520) hx hb dL_acts_515 (by decide) ?_
                          exact J_59 (-1000001) _ _ (by omega) hP hD hS
                        · refine lv_iload hx hb dL_acts_495 (lv_at hl 2 rfl) ?_
                          refine lv_iload hx hb dL_acts_497 (lv_at hl 4 rfl) ?_
                          refine z_iadd hx hb dL_acts_499 ?_
                          refine z_sipush hx hb dL_acts_500 (by decide +kernel) ?_
                          refine z_icmp_le (tgt := 541) hx hb dL_acts_503 (by decide) (by omega) (by omega) (fun c_65 => ?_) (fun c_65 => ?_)
                          · have hGy := hGy (by omega)
                            refine lv_aload_n hx hb dL_acts_541 rfl (lv_at hl 11 rfl) ?_
                            refine z_iconst hx hb dL_acts_542 ?_
                            refine mw_full (st1 := [.int (iI (SS.G q1 12 0))]) (mr_V (As := [.int (iI 0)]) (rest := []) (ci := 2) (q0 := 0) ⟨hx, hb, hml, hown, hts⟩ (rd_cnt0 l D xo xh t ta cI cC cH hRq1 (by omega)) (cwV 1 hts (gV q_344 q_345 q_346 q_37 q_304) rfl rfl rfl (by decide +kernel) ⟨Nat.le_trans (m := 6) (Nat.le_of_ble_eq_true rfl) (Nat.le_trans (Nat.le_of_ble_eq_true rfl) hRf), Nat.le_trans (m := 133) (Nat.le_of_ble_eq_true rfl) (Nat.le_trans (Nat.le_of_ble_eq_true rfl) hRl)⟩) hN hK hP hD rfl rfl rfl hl.1 (Nat.le_of_ble_eq_true rfl) ⟨hRc, hRs⟩ dL_acts_543) hD hS hA rfl (fun H locs hP hD hS => ?_)
                            have hv_66 := rb_cnt0 hRq1 (by omega)
                            refine lv_iload hx hb dL_acts_546 (lv_at hl 2 rfl) ?_
                            refine lv_iload hx hb dL_acts_548 (lv_at hl 4 rfl) ?_
                            refine z_iadd hx hb dL_acts_550 ?_
                            refine z_icmp_ne (tgt := 572) hx hb dL_acts_551 (by decide) (by omega) (by omega) (fun c_67 => absurd c_67 (by omega)) (fun c_67 => ?_)
                            refine lv_aload_n hx hb dL_acts_554 rfl (lv_at hl 11 rfl) ?_
                            refine z_bipush hx hb dL_acts_555 (by decide +kernel) ?_
                            refine mw_full (st1 := [.int (iI (sumZ 6 (SS.G q1 8)))]) (mr_V (As := [.int (iI 7)]) (rest := []) (ci := 2) (q0 := 0) ⟨hx, hb, hml, hown, hts⟩ (rd_cnt7 l D xo xh t ta cI cC cH hRq1 (by omega)) (cwV 1 hts (gV q_344 q_345 q_346 q_37 q_304) rfl rfl rfl (by decide +kernel) ⟨Nat.le_trans (m := 6) (Nat.le_of_ble_eq_true rfl) (Nat.le_trans (Nat.le_of_ble_eq_true rfl) hRf), Nat.le_trans (m := 133) (Nat.le_of_ble_eq_true rfl) (Nat.le_trans (Nat.le_of_ble_eq_true rfl) hRl)⟩) hN hK hP hD rfl rfl rfl hl.1 (Nat.le_of_ble_eq_true rfl) ⟨hRc, hRs⟩ dL_acts_557) hD hS hA rfl (fun H locs hP hD hS => ?_)
                            have hv_68 := rb_cnt7 hRq1 (by omega)
                            refine lv_iload hx hb dL_acts_560 (lv_at hl 1 rfl) ?_
                            refine lv_iload hx hb dL_acts_562 (lv_at hl 0 rfl) ?_
                            refine z_iadd hx hb dL_acts_564 ?_
                            refine z_icmp_ne (tgt := 572) hx hb dL_acts_565 (by decide) (by omega) (by omega) (fun c_69 => absurd c_69 (by omega)) (fun c_69 => ?_)
                            refine z_iconst hx hb dL_acts_568 ?_
                            refine lv_goto (tgt := 573) hx hb dL_acts_569 (by decide) ?_
                            exact hret q1 _ _ _ _ ⟨hRq1, hcq1.2.1⟩ dL_acts_573 hP hD hS
                          · have hGn := hGn (by omega)
                            refine lv_iload hx hb dL_acts_506 (lv_at hl 0 rfl) ?_
                            have J_70 : ∀ (bz_71 : Int) (H : Heap) (locs : List Loc), (bz_71 = (if no = 0 then -1000003 else -1000001)) → va_P D vwCl (wS xo xh t ta cI cC cH q1) H → va_D A (wS xo xh t ta cI cC cH q1) → va_S A s.heap H locs → W p l e R s m args below meth c H locs 0 0 Q (F0 m 520 ls [.int (iI bz_71), .int (iI td)]) := by
                              intro bz_71 H locs hbz_71 hP hD hS
                              refine z_icmp_ne (tgt := 537) hx hb dL_acts_520 (by decide) (by omega) (by omega) (fun c_72 => absurd c_72 (by omega)) (fun c_72 => ?_)
                              refine lv_aload_n hx hb dL_acts_523 rfl (lv_at hl 11 rfl) ?_
                              refine z_iconst hx hb dL_acts_524 ?_
                              refine mw_full (st1 := [.int (iI (SS.G q1 12 0))]) (mr_V (As := [.int (iI 0)]) (rest := []) (ci := 2) (q0 := 0) ⟨hx, hb, hml, hown, hts⟩ (rd_cnt0 l D xo xh t ta cI cC cH hRq1 (by omega)) (cwV 1 hts (gV q_344 q_345 q_346 q_37 q_304) rfl rfl rfl (by decide +kernel) ⟨Nat.le_trans (m := 6) (Nat.le_of_ble_eq_true rfl) (Nat.le_trans (Nat.le_of_ble_eq_true rfl) hRf), Nat.le_trans (m := 133) (Nat.le_of_ble_eq_true rfl) (Nat.le_trans (Nat.le_of_ble_eq_true rfl) hRl)⟩) hN hK hP hD rfl rfl rfl hl.1 (Nat.le_of_ble_eq_true rfl) ⟨hRc, hRs⟩ dL_acts_525) hD hS hA rfl (fun H locs hP hD hS => ?_)
                              have hv_73 := rb_cnt0 hRq1 (by omega)
                              refine lv_iload hx hb dL_acts_528 (lv_at hl 2 rfl) ?_
                              refine z_icmp_ne (tgt := 537) hx hb dL_acts_530 (by decide) (by omega) (by omega) (fun c_74 => absurd c_74 (by omega)) (fun c_74 => ?_)
                              refine z_iconst hx hb dL_acts_533 ?_
                              refine lv_goto (tgt := 573) hx hb dL_acts_534 (by decide) ?_
                              exact hret q1 _ _ _ _ ⟨hRq1, hcq1.2.1⟩ dL_acts_573 hP hD hS
                            refine lv_iload hx hb dL_acts_508 (lv_at hl 3 rfl) ?_
                            refine z_if_eq (tgt := 518) hx hb dL_acts_510 (by decide) (by omega) (fun c_75 => ?_) (fun c_75 => absurd c_75 (by omega))
                            refine z_ldc hx hb (-1000003) (by decide +kernel) hown (hq _ q_396) dL_acts_518 ?_
                            exact J_70 (-1000003) _ _ (by omega) hP hD hS
                      refine lv_iload hx hb dL_acts_448 (lv_at hl 0 rfl) ?_
                      refine z_if_eq (tgt := 460) hx hb dL_acts_450 (by decide) (by omega) (fun c_76 => ?_) (fun c_76 => ?_)
                      · refine z_iconst hx hb dL_acts_460 ?_
                        refine lv_goto (tgt := 465) hx hb dL_acts_461 (by decide) ?_
                        exact J_54 1 _ _ (by omega) hP hD hS
                      · refine lv_iload hx hb dL_acts_453 (lv_at hl 0 rfl) ?_
                        refine z_bipush hx hb dL_acts_455 (by decide +kernel) ?_
                        refine z_icmp_ne (tgt := 464) hx hb dL_acts_457 (by decide) (by omega) (by omega) (fun c_77 => ?_) (fun c_77 => ?_)
                        · refine z_iconst hx hb dL_acts_464 ?_
                          exact J_54 0 _ _ (by omega) hP hD hS
                        · refine z_iconst hx hb dL_acts_460 ?_
                          refine lv_goto (tgt := 465) hx hb dL_acts_461 (by decide) ?_
                          exact J_54 1 _ _ (by omega) hP hD hS
                    refine lv_iload_n hx hb dL_acts_425 rfl (lv_at hl 8 rfl) ?_
                    refine z_bipush hx hb dL_acts_426 (by decide +kernel) ?_
                    refine lv_ishr hx hb dL_acts_428 ?_
                    obtain ⟨y_78, hy_78, ey_78⟩ := iI_ex (iI y >>> (iI 8 &&& 31))
                    refine z_asB (b := y_78) ey_78 ?_
                    refine z_iconst hx hb dL_acts_429 ?_
                    refine mw_none (st1 := [.int (iI (lowZ y_78 (5 : Int))), .int (iI y)]) (mr_S (As := [.int (iI y_78), .int (iI 5)]) (rest := [.int (iI y)]) ⟨hx, hb, hml, hown, hts⟩ (m_L_low l D y_78 (5 : Int) (by omega)) (va_cwS 2 hts (gS q_372 q_373 q_374 q_341) rfl rfl rfl (by decide +kernel) ⟨Nat.le_trans (m := 1) (Nat.le_of_ble_eq_true rfl) (Nat.le_trans (Nat.le_of_ble_eq_true rfl) hRf), Nat.le_trans (m := 21) (Nat.le_of_ble_eq_true rfl) (Nat.le_trans (Nat.le_of_ble_eq_true rfl) hRl)⟩) hN (hK.sub (tys' := []) [] rfl) (va_P0 _ _ _) (va_D0 A) rfl hl.1 (Nat.le_of_ble_eq_true rfl) ⟨hRc, hRs⟩ dL_acts_430) hP hS hA rfl (fun H locs hP hS => ?_)
                    have hv_79 := low_bd y_78 (n := 5) (by omega)
                    refine z_if_ne (tgt := 441) hx hb dL_acts_433 (by decide) (by omega) (fun c_80 => ?_) (fun c_80 => ?_)
                    · refine z_bipush hx hb dL_acts_441 (by decide +kernel) ?_
                      exact J_51 10 _ _ (by omega) hP hD hS
                    · refine z_bipush hx hb dL_acts_436 (by decide +kernel) ?_
                      refine lv_goto (tgt := 443) hx hb dL_acts_438 (by decide) ?_
                      exact J_51 101 _ _ (by omega) hP hD hS
                · refine lv_iload_n hx hb dL_acts_312 rfl (lv_at hl 8 rfl) ?_
                  refine z_iconst hx hb dL_acts_313 ?_
                  refine lv_ishr hx hb dL_acts_314 ?_
                  obtain ⟨y_81, hy_81, ey_81⟩ := iI_ex (iI y >>> (iI 5 &&& 31))
                  refine z_asB (b := y_81) ey_81 ?_
                  refine z_sipush hx hb dL_acts_315 (by decide +kernel) ?_
                  refine mw_none (st1 := [.int (iI (lowZ y_81 (202 : Int)))]) (mr_S (As := [.int (iI y_81), .int (iI 202)]) (rest := []) ⟨hx, hb, hml, hown, hts⟩ (m_L_low l D y_81 (202 : Int) (by omega)) (va_cwS 2 hts (gS q_372 q_373 q_374 q_341) rfl rfl rfl (by decide +kernel) ⟨Nat.le_trans (m := 1) (Nat.le_of_ble_eq_true rfl) (Nat.le_trans (Nat.le_of_ble_eq_true rfl) hRf), Nat.le_trans (m := 21) (Nat.le_of_ble_eq_true rfl) (Nat.le_trans (Nat.le_of_ble_eq_true rfl) hRl)⟩) hN (hK.sub (tys' := []) [] rfl) (va_P0 _ _ _) (va_D0 A) rfl hl.1 (Nat.le_of_ble_eq_true rfl) ⟨hRc, hRs⟩ dL_acts_318) hP hS hA rfl (fun H locs hP hS => ?_)
                  have hv_82 := low_bd y_81 (n := 202) (by omega)
                  obtain ⟨rt, e_rt⟩ : ∃ z : Int, z = (lowZ y_81 (202 : Int)) := ⟨_, rfl⟩
                  refine z_as e_rt.symm ?_
                  refine lv_istore (lv' := [(9, .int (iI rt)), (8, .int (iI fl)), (7, .int (iI va)), (6, .int (iI bd)), (5, .int (iI gg)), (4, .int (iI rw0)), (3, .int (iI how)), (0, .ref xo), (1, .int (iI x)), (2, .int (iI y))]) hx hb dL_acts_321 hl (by decide) rfl (fun ls hl => ?_)
                  have J_83 : ∀ (bz_84 : Int) (H : Heap) (locs : List Loc), (bz_84 = (if rw0 = 6 ∨ rt = 0 ∨ rt = 201 then 1 else 0)) → va_P D vwCl (wS xo xh t ta cI cC cH q) H → va_D A (wS xo xh t ta cI cC cH q) → va_S A s.heap H locs → W p l e R s m args below meth c H locs 0 0 Q (F0 m 348 ls [.int (iI bz_84)]) := by
                    intro bz_84 H locs hbz_84 hP hD hS
                    obtain ⟨no, e_no⟩ : ∃ z : Int, z = bz_84 := ⟨_, rfl⟩
                    refine z_as e_no.symm ?_
                    refine lv_istore (lv' := [(10, .int (iI no)), (9, .int (iI rt)), (8, .int (iI fl)), (7, .int (iI va)), (6, .int (iI bd)), (5, .int (iI gg)), (4, .int (iI rw0)), (3, .int (iI how)), (0, .ref xo), (1, .int (iI x)), (2, .int (iI y))]) hx hb dL_acts_348 hl (by decide) rfl (fun ls hl => ?_)
                    have J_85 : ∀ (bz_86 : Int) (H : Heap) (locs : List Loc), (bz_86 = (if rw0 = 6 then 0 else SS.G q 6 rw0)) → va_P D vwCl (wS xo xh t ta cI cC cH q) H → va_D A (wS xo xh t ta cI cC cH q) → va_S A s.heap H locs → W p l e R s m args below meth c H locs 0 0 Q (F0 m 369 ls [.int (iI bz_86)]) := by
                      intro bz_86 H locs hbz_86 hP hD hS
                      obtain ⟨had, e_had⟩ : ∃ z : Int, z = bz_86 := ⟨_, rfl⟩
                      refine z_as e_had.symm ?_
                      refine lv_istore (lv' := [(11, .int (iI had)), (10, .int (iI no)), (9, .int (iI rt)), (8, .int (iI fl)), (7, .int (iI va)), (6, .int (iI bd)), (5, .int (iI gg)), (4, .int (iI rw0)), (3, .int (iI how)), (0, .ref xo), (1, .int (iI x)), (2, .int (iI y))]) hx hb dL_acts_369 hl (by decide) rfl (fun ls hl => ?_)
                      have hbh : 0 ≤ had ∧ had ≤ 200 := by
                        by_cases c : rw0 = 6
                        · omega
                        · have := invG_6 h.1.1 rw0 (by omega) (by omega); omega
                      refine lv_aload_n hx hb dL_acts_371 rfl (lv_at hl 9 rfl) ?_
                      refine lv_iload hx hb dL_acts_372 (lv_at hl 7 rfl) ?_
                      refine lv_iload hx hb dL_acts_374 (lv_at hl 2 rfl) ?_
                      obtain ⟨q1, mxq1, hcq1, hTq1⟩ := sc_rate l D xo xh t ta cI cC cH h (by omega) rw0 rt (by omega) (by omega)
                      have hRq1 := hcq1.1
                      refine mw_full (st1 := [.int (iI (crV (SS.G q) rw0 rt))]) (mr_V (As := [.int (iI rw0), .int (iI rt)]) (rest := []) (ci := 2) (q0 := 0) ⟨hx, hb, hml, hown, hts⟩ mxq1 (cwV 2 hts (gV q_427 q_428 q_429 q_37 q_244) rfl rfl rfl (by decide +kernel) ⟨Nat.le_trans (m := 3) (Nat.le_of_ble_eq_true rfl) (Nat.le_trans (Nat.le_of_ble_eq_true rfl) hRf), Nat.le_trans (m := 69) (Nat.le_of_ble_eq_true rfl) (Nat.le_trans (Nat.le_of_ble_eq_true rfl) hRl)⟩) hN hK hP hD rfl rfl rfl hl.1 (Nat.le_of_ble_eq_true rfl) ⟨hRc, hRs⟩ dL_acts_376) hD hS hA rfl (fun H locs hP hD hS => ?_)
                      have hV : crV (SS.G q) rw0 rt = (if no = 0 then had else -1000001) := by
                        by_cases c : no = 0
                        · rw [if_pos c, show crV (SS.G q) rw0 rt = _ from if_pos (by omega)]; omega
                        · rw [if_neg c]; exact if_neg (by omega)
                      have J_87 : ∀ (bz_88 : Int) (H : Heap) (locs : List Loc), (bz_88 = (if no = 0 then had else -1000001)) → va_P D vwCl (wS xo xh t ta cI cC cH q1) H → va_D A (wS xo xh t ta cI cC cH q1) → va_S A s.heap H locs → W p l e R s m args below meth c H locs 0 0 Q (F0 m 391 ls [.int (iI bz_88), .int (iI (crV (SS.G q) rw0 rt))]) := by
                        intro bz_88 H locs hbz_88 hP hD hS
                        refine z_icmp_ne (tgt := 416) hx hb dL_acts_391 (by decide) (by omega) (by omega) (fun c_89 => absurd c_89 (by omega)) (fun c_89 => ?_)
                        refine lv_iload hx hb dL_acts_394 (lv_at hl 1 rfl) ?_
                        refine z_if_ne (tgt := 412) hx hb dL_acts_396 (by decide) (by omega) (fun c_90 => ?_) (fun c_90 => ?_)
                        · refine z_iconst hx hb dL_acts_412 ?_
                          refine lv_goto (tgt := 417) hx hb dL_acts_413 (by decide) ?_
                          exact hret q1 _ _ _ _ ⟨hRq1, hcq1.2.1⟩ dL_acts_417 hP hD hS
                        · have c8 : SS.G q1 6 rw0 = rt := by rw [hcq1.2.2.1, show crG (SS.G q) rw0 rt = _ from if_pos (by omega)]; exact upI_s _ _ _
                          refine lv_aload_n hx hb dL_acts_399 rfl (lv_at hl 9 rfl) ?_
                          refine lv_iload hx hb dL_acts_400 (lv_at hl 7 rfl) ?_
                          refine z_bipush hx hb dL_acts_402 (by decide +kernel) ?_
                          refine mw_full (st1 := [.int (iI (SS.G q1 6 rw0))]) (mr_V (As := [.int (iI rw0), .int (iI 8)]) (rest := []) (ci := 2) (q0 := 0) ⟨hx, hb, hml, hown, hts⟩ (rd_row8 l D xo xh t ta cI cC cH hRq1 rw0 (by omega)) (cwV 2 hts (gV q_350 q_351 q_352 q_37 q_262) rfl rfl rfl (by decide +kernel) ⟨Nat.le_trans (m := 5) (Nat.le_of_ble_eq_true rfl) (Nat.le_trans (Nat.le_of_ble_eq_true rfl) hRf), Nat.le_trans (m := 116) (Nat.le_of_ble_eq_true rfl) (Nat.le_trans (Nat.le_of_ble_eq_true rfl) hRl)⟩) hN hK hP hD rfl rfl rfl hl.1 (Nat.le_of_ble_eq_true rfl) ⟨hRc, hRs⟩ dL_acts_404) hD hS hA rfl (fun H locs hP hD hS => ?_)
                          have hv_91 := rb_row8 hRq1 rw0 (by omega)
                          refine lv_iload hx hb dL_acts_407 (lv_at hl 2 rfl) ?_
                          refine z_icmp_ne (tgt := 416) hx hb dL_acts_409 (by decide) (by omega) (by omega) (fun c_92 => absurd c_92 (by omega)) (fun c_92 => ?_)
                          refine z_iconst hx hb dL_acts_412 ?_
                          refine lv_goto (tgt := 417) hx hb dL_acts_413 (by decide) ?_
                          exact hret q1 _ _ _ _ ⟨hRq1, hcq1.2.1⟩ dL_acts_417 hP hD hS
                      have hV : crV (SS.G q) rw0 rt = (if no = 0 then had else -1000001) := by
                        by_cases c : no = 0
                        · rw [if_pos c, show crV (SS.G q) rw0 rt = _ from if_pos (by omega)]; omega
                        · rw [if_neg c]; exact if_neg (by omega)
                      refine lv_iload hx hb dL_acts_379 (lv_at hl 1 rfl) ?_
                      refine z_if_eq (tgt := 389) hx hb dL_acts_381 (by decide) (by omega) (fun c_93 => ?_) (fun c_93 => ?_)
                      · refine lv_iload hx hb dL_acts_389 (lv_at hl 0 rfl) ?_
                        exact J_87 had _ _ (by omega) hP hD hS
                      · refine z_ldc hx hb (-1000001) (by decide +kernel) hown (hq _ q_371) dL_acts_384 ?_
                        refine lv_goto (tgt := 391) hx hb dL_acts_386 (by decide) ?_
                        exact J_87 (-1000001) _ _ (by omega) hP hD hS
                    refine lv_iload hx hb dL_acts_350 (lv_at hl 6 rfl) ?_
                    refine z_bipush hx hb dL_acts_352 (by decide +kernel) ?_
                    refine z_icmp_ne (tgt := 361) hx hb dL_acts_354 (by decide) (by omega) (by omega) (fun c_94 => ?_) (fun c_94 => ?_)
                    · refine lv_aload_n hx hb dL_acts_361 rfl (lv_at hl 8 rfl) ?_
                      refine lv_iload hx hb dL_acts_362 (lv_at hl 6 rfl) ?_
                      refine z_bipush hx hb dL_acts_364 (by decide +kernel) ?_
                      refine mw_full (st1 := [.int (iI (SS.G q 6 rw0))]) (mr_V (As := [.int (iI rw0), .int (iI 8)]) (rest := []) (ci := 2) (q0 := 0) ⟨hx, hb, hml, hown, hts⟩ (rd_row8 l D xo xh t ta cI cC cH h rw0 (by omega)) (cwV 2 hts (gV q_350 q_351 q_352 q_37 q_262) rfl rfl rfl (by decide +kernel) ⟨Nat.le_trans (m := 5) (Nat.le_of_ble_eq_true rfl) (Nat.le_trans (Nat.le_of_ble_eq_true rfl) hRf), Nat.le_trans (m := 116) (Nat.le_of_ble_eq_true rfl) (Nat.le_trans (Nat.le_of_ble_eq_true rfl) hRl)⟩) hN hK hP hD rfl rfl rfl hl.1 (Nat.le_of_ble_eq_true rfl) ⟨hRc, hRs⟩ dL_acts_366) hD hS hA rfl (fun H locs hP hD hS => ?_)
                      have hv_95 := rb_row8 h rw0 (by omega)
                      exact J_85 (SS.G q 6 rw0) _ _ (by omega) hP hD hS
                    · refine z_iconst hx hb dL_acts_357 ?_
                      refine lv_goto (tgt := 369) hx hb dL_acts_358 (by decide) ?_
                      exact J_85 0 _ _ (by omega) hP hD hS
                  refine lv_iload hx hb dL_acts_323 (lv_at hl 5 rfl) ?_
                  refine z_bipush hx hb dL_acts_325 (by decide +kernel) ?_
                  refine z_icmp_eq (tgt := 343) hx hb dL_acts_327 (by decide) (by omega) (by omega) (fun c_96 => ?_) (fun c_96 => ?_)
                  · refine z_iconst hx hb dL_acts_343 ?_
                    refine lv_goto (tgt := 348) hx hb dL_acts_344 (by decide) ?_
                    exact J_83 1 _ _ (by omega) hP hD hS
                  · refine lv_iload hx hb dL_acts_330 (lv_at hl 0 rfl) ?_
                    refine z_if_eq (tgt := 343) hx hb dL_acts_332 (by decide) (by omega) (fun c_97 => ?_) (fun c_97 => ?_)
                    · refine z_iconst hx hb dL_acts_343 ?_
                      refine lv_goto (tgt := 348) hx hb dL_acts_344 (by decide) ?_
                      exact J_83 1 _ _ (by omega) hP hD hS
                    · refine lv_iload hx hb dL_acts_335 (lv_at hl 0 rfl) ?_
                      refine z_sipush hx hb dL_acts_337 (by decide +kernel) ?_
                      refine z_icmp_ne (tgt := 347) hx hb dL_acts_340 (by decide) (by omega) (by omega) (fun c_98 => ?_) (fun c_98 => ?_)
                      · refine z_iconst hx hb dL_acts_347 ?_
                        exact J_83 0 _ _ (by omega) hP hD hS
                      · refine z_iconst hx hb dL_acts_343 ?_
                        refine lv_goto (tgt := 348) hx hb dL_acts_344 (by decide) ?_
                        exact J_83 1 _ _ (by omega) hP hD hS
              · refine lv_aload_n hx hb dL_acts_236 rfl (lv_at hl 6 rfl) ?_
                refine lv_iload hx hb dL_acts_237 (lv_at hl 4 rfl) ?_
                refine lv_iload hx hb dL_acts_239 (lv_at hl 3 rfl) ?_
                obtain ⟨q1, mxq1, hcq1, hTq1⟩ := sc_mend l D xo xh t ta cI cC cH h (by omega) rw0 gg (by omega) (by omega)
                have hRq1 := hcq1.1
                refine mw_full (st1 := [.int (iI (mgV (SS.G q) rw0 gg))]) (mr_V (As := [.int (iI rw0), .int (iI gg)]) (rest := []) (ci := 2) (q0 := 0) ⟨hx, hb, hml, hown, hts⟩ mxq1 (cwV 2 hts (gV q_424 q_425 q_426 q_37 q_242) rfl rfl rfl (by decide +kernel) ⟨Nat.le_trans (m := 4) (Nat.le_of_ble_eq_true rfl) (Nat.le_trans (Nat.le_of_ble_eq_true rfl) hRf), Nat.le_trans (m := 88) (Nat.le_of_ble_eq_true rfl) (Nat.le_trans (Nat.le_of_ble_eq_true rfl) hRl)⟩) hN hK hP hD rfl rfl rfl hl.1 (Nat.le_of_ble_eq_true rfl) ⟨hRc, hRs⟩ dL_acts_241) hD hS hA rfl (fun H locs hP hD hS => ?_)
                have hV : mgV (SS.G q) rw0 gg = (if bd = 1 then -1000001 else if fl = 1 then va else -1000002) := by
                  by_cases c : bd = 1
                  · rw [if_pos c]; exact if_neg (by omega)
                  · rw [if_neg c, show mgV (SS.G q) rw0 gg = _ from if_pos (by omega)]
                    have e2 := ef (by omega)
                    by_cases d : fl = 1
                    · rw [if_pos d, if_neg (e2.mp d), ev (by omega)]
                    · rw [if_neg d, if_pos (by by_cases z : SS.G q 5 (3 * rw0 + gg) = 0; exact z; exact absurd (e2.mpr z) d)]
                have J_99 : ∀ (bz_100 : Int) (H : Heap) (locs : List Loc), (bz_100 = (if bd = 1 then -1000001 else if fl = 1 then va else -1000002)) → va_P D vwCl (wS xo xh t ta cI cC cH q1) H → va_D A (wS xo xh t ta cI cC cH q1) → va_S A s.heap H locs → W p l e R s m args below meth c H locs 0 0 Q (F0 m 266 ls [.int (iI bz_100), .int (iI (mgV (SS.G q) rw0 gg))]) := by
                  intro bz_100 H locs hbz_100 hP hD hS
                  refine z_icmp_ne (tgt := 304) hx hb dL_acts_266 (by decide) (by omega) (by omega) (fun c_101 => absurd c_101 (by omega)) (fun c_101 => ?_)
                  refine lv_iload hx hb dL_acts_269 (lv_at hl 2 rfl) ?_
                  refine z_if_ne (tgt := 300) hx hb dL_acts_271 (by decide) (by omega) (fun c_102 => ?_) (fun c_102 => ?_)
                  · refine z_iconst hx hb dL_acts_300 ?_
                    refine lv_goto (tgt := 305) hx hb dL_acts_301 (by decide) ?_
                    exact hret q1 _ _ _ _ ⟨hRq1, hcq1.2.1⟩ dL_acts_305 hP hD hS
                  · have c45 : SS.G q1 5 (3 * rw0 + gg) = 0 ∧ SS.G q1 4 (3 * rw0 + gg) = va := by
                      rw [ev (by omega)]
                      by_cases z : SS.G q 5 (3 * rw0 + gg) = 0
                      · have eG : SS.G q1 = SS.G q := hcq1.2.2.1.trans ((if_pos (by omega)).trans (if_pos z))
                        rw [eG]; exact ⟨z, rfl⟩
                      · have eG : SS.G q1 = upG (SS.G q) 5 (3 * rw0 + gg) 0 := hcq1.2.2.1.trans ((if_pos (by omega)).trans (if_neg z))
                        rw [eG]; exact ⟨upI_s _ _ _, rfl⟩
                    refine lv_aload_n hx hb dL_acts_274 rfl (lv_at hl 6 rfl) ?_
                    refine lv_iload hx hb dL_acts_275 (lv_at hl 4 rfl) ?_
                    refine lv_iload hx hb dL_acts_277 (lv_at hl 3 rfl) ?_
                    refine z_iconst hx hb dL_acts_279 ?_
                    refine mw_full (st1 := [.int (iI (SS.G q1 5 (3 * rw0 + gg)))]) (mr_V (As := [.int (iI rw0), .int (iI gg), .int (iI 1)]) (rest := []) (ci := 2) (q0 := 0) ⟨hx, hb, hml, hown, hts⟩ (rd_guard1 l D xo xh t ta cI cC cH hRq1 rw0 gg (by omega) (by omega)) (cwV 3 hts (gV q_353 q_354 q_355 q_37 q_258) rfl rfl rfl (by decide +kernel) ⟨Nat.le_trans (m := 4) (Nat.le_of_ble_eq_true rfl) (Nat.le_trans (Nat.le_of_ble_eq_true rfl) hRf), Nat.le_trans (m := 90) (Nat.le_of_ble_eq_true rfl) (Nat.le_trans (Nat.le_of_ble_eq_true rfl) hRl)⟩) hN hK hP hD rfl rfl rfl hl.1 (Nat.le_of_ble_eq_true rfl) ⟨hRc, hRs⟩ dL_acts_280) hD hS hA rfl (fun H locs hP hD hS => ?_)
                    have hv_103 := rb_guard1 hRq1 rw0 gg (by omega) (by omega)
                    refine z_if_ne (tgt := 304) hx hb dL_acts_283 (by decide) (by omega) (fun c_104 => absurd c_104 (by omega)) (fun c_104 => ?_)
                    refine lv_aload_n hx hb dL_acts_286 rfl (lv_at hl 6 rfl) ?_
                    refine lv_iload hx hb dL_acts_287 (lv_at hl 4 rfl) ?_
                    refine lv_iload hx hb dL_acts_289 (lv_at hl 3 rfl) ?_
                    refine z_iconst hx hb dL_acts_291 ?_
                    refine mw_full (st1 := [.int (iI (SS.G q1 4 (3 * rw0 + gg)))]) (mr_V (As := [.int (iI rw0), .int (iI gg), .int (iI 0)]) (rest := []) (ci := 2) (q0 := 0) ⟨hx, hb, hml, hown, hts⟩ (rd_guard0 l D xo xh t ta cI cC cH hRq1 rw0 gg (by omega) (by omega)) (cwV 3 hts (gV q_353 q_354 q_355 q_37 q_258) rfl rfl rfl (by decide +kernel) ⟨Nat.le_trans (m := 4) (Nat.le_of_ble_eq_true rfl) (Nat.le_trans (Nat.le_of_ble_eq_true rfl) hRf), Nat.le_trans (m := 90) (Nat.le_of_ble_eq_true rfl) (Nat.le_trans (Nat.le_of_ble_eq_true rfl) hRl)⟩) hN hK hP hD rfl rfl rfl hl.1 (Nat.le_of_ble_eq_true rfl) ⟨hRc, hRs⟩ dL_acts_292) hD hS hA rfl (fun H locs hP hD hS => ?_)
                    have hv_105 := rb_guard0 hRq1 rw0 gg (by omega) (by omega)
                    refine lv_iload hx hb dL_acts_295 (lv_at hl 1 rfl) ?_
                    refine z_icmp_ne (tgt := 304) hx hb dL_acts_297 (by decide) (by omega) (by omega) (fun c_106 => absurd c_106 (by omega)) (fun c_106 => ?_)
                    refine z_iconst hx hb dL_acts_300 ?_
                    refine lv_goto (tgt := 305) hx hb dL_acts_301 (by decide) ?_
                    exact hret q1 _ _ _ _ ⟨hRq1, hcq1.2.1⟩ dL_acts_305 hP hD hS
                have hV : mgV (SS.G q) rw0 gg = (if bd = 1 then -1000001 else if fl = 1 then va else -1000002) := by
                  by_cases c : bd = 1
                  · rw [if_pos c]; exact if_neg (by omega)
                  · rw [if_neg c, show mgV (SS.G q) rw0 gg = _ from if_pos (by omega)]
                    have e2 := ef (by omega)
                    by_cases d : fl = 1
                    · rw [if_pos d, if_neg (e2.mp d), ev (by omega)]
                    · rw [if_neg d, if_pos (by by_cases z : SS.G q 5 (3 * rw0 + gg) = 0; exact z; exact absurd (e2.mpr z) d)]
                refine lv_iload hx hb dL_acts_244 (lv_at hl 2 rfl) ?_
                refine z_if_eq (tgt := 254) hx hb dL_acts_246 (by decide) (by omega) (fun c_107 => ?_) (fun c_107 => ?_)
                · refine lv_iload hx hb dL_acts_254 (lv_at hl 0 rfl) ?_
                  refine z_if_eq (tgt := 264) hx hb dL_acts_256 (by decide) (by omega) (fun c_108 => ?_) (fun c_108 => ?_)
                  · refine z_ldc hx hb (-1000002) (by decide +kernel) hown (hq _ q_395) dL_acts_264 ?_
                    exact J_99 (-1000002) _ _ (by omega) hP hD hS
                  · refine lv_iload hx hb dL_acts_259 (lv_at hl 1 rfl) ?_
                    refine lv_goto (tgt := 266) hx hb dL_acts_261 (by decide) ?_
                    exact J_99 va _ _ (by omega) hP hD hS
                · refine z_ldc hx hb (-1000001) (by decide +kernel) hown (hq _ q_371) dL_acts_249 ?_
                  refine lv_goto (tgt := 266) hx hb dL_acts_251 (by decide) ?_
                  exact J_99 (-1000001) _ _ (by omega) hP hD hS
            · refine lv_iload_n hx hb dL_acts_124 rfl (lv_at hl 8 rfl) ?_
              refine z_bipush hx hb dL_acts_125 (by decide +kernel) ?_
              refine lv_ishr hx hb dL_acts_127 ?_
              obtain ⟨y_109, hy_109, ey_109⟩ := iI_ex (iI y >>> (iI 6 &&& 31))
              refine z_asB (b := y_109) ey_109 ?_
              refine z_sipush hx hb dL_acts_128 (by decide +kernel) ?_
              refine mw_none (st1 := [.int (iI (lowZ y_109 (1001 : Int)))]) (mr_S (As := [.int (iI y_109), .int (iI 1001)]) (rest := []) ⟨hx, hb, hml, hown, hts⟩ (m_L_low l D y_109 (1001 : Int) (by omega)) (va_cwS 2 hts (gS q_372 q_373 q_374 q_341) rfl rfl rfl (by decide +kernel) ⟨Nat.le_trans (m := 1) (Nat.le_of_ble_eq_true rfl) (Nat.le_trans (Nat.le_of_ble_eq_true rfl) hRf), Nat.le_trans (m := 21) (Nat.le_of_ble_eq_true rfl) (Nat.le_trans (Nat.le_of_ble_eq_true rfl) hRl)⟩) hN (hK.sub (tys' := []) [] rfl) (va_P0 _ _ _) (va_D0 A) rfl hl.1 (Nat.le_of_ble_eq_true rfl) ⟨hRc, hRs⟩ dL_acts_131) hP hS hA rfl (fun H locs hP hS => ?_)
              have hv_110 := low_bd y_109 (n := 1001) (by omega)
              obtain ⟨at1, e_at1⟩ : ∃ z : Int, z = (lowZ y_109 (1001 : Int)) := ⟨_, rfl⟩
              refine z_as e_at1.symm ?_
              refine lv_istore (lv' := [(9, .int (iI at1)), (8, .int (iI fl)), (7, .int (iI va)), (6, .int (iI bd)), (5, .int (iI gg)), (4, .int (iI rw0)), (3, .int (iI how)), (0, .ref xo), (1, .int (iI x)), (2, .int (iI y))]) hx hb dL_acts_134 hl (by decide) rfl (fun ls hl => ?_)
              refine lv_aload_n hx hb dL_acts_136 rfl (lv_at hl 7 rfl) ?_
              refine lv_iload hx hb dL_acts_137 (lv_at hl 5 rfl) ?_
              refine lv_iload hx hb dL_acts_139 (lv_at hl 4 rfl) ?_
              refine lv_iload hx hb dL_acts_141 (lv_at hl 0 rfl) ?_
              obtain ⟨q1, mxq1, hcq1, hTq1⟩ := sc_fail l D xo xh t ta cI cC cH h (by omega) rw0 gg at1 (by omega) (by omega) (by omega)
              have hRq1 := hcq1.1
              refine mw_full (st1 := [.int (iI (fgV (SS.G q) rw0 gg at1))]) (mr_V (As := [.int (iI rw0), .int (iI gg), .int (iI at1)]) (rest := []) (ci := 2) (q0 := 0) ⟨hx, hb, hml, hown, hts⟩ mxq1 (cwV 3 hts (gV q_421 q_422 q_423 q_37 q_240) rfl rfl rfl (by decide +kernel) ⟨Nat.le_trans (m := 4) (Nat.le_of_ble_eq_true rfl) (Nat.le_trans (Nat.le_of_ble_eq_true rfl) hRf), Nat.le_trans (m := 91) (Nat.le_of_ble_eq_true rfl) (Nat.le_trans (Nat.le_of_ble_eq_true rfl) hRl)⟩) hN hK hP hD rfl rfl rfl hl.1 (Nat.le_of_ble_eq_true rfl) ⟨hRc, hRs⟩ dL_acts_143) hD hS hA rfl (fun H locs hP hD hS => ?_)
              have hV : fgV (SS.G q) rw0 gg at1 = (if bd = 1 ∨ at1 = 1000 then -1000001 else if fl = 1 then -1000002 else va) := by
                by_cases c : bd = 1 ∨ at1 = 1000
                · rw [if_pos c]; exact if_neg (by omega)
                · rw [if_neg c, show fgV (SS.G q) rw0 gg at1 = _ from if_pos (by omega)]
                  have e2 := ef (by omega)
                  by_cases d : fl = 1
                  · rw [if_pos d, if_neg (e2.mp d)]
                  · rw [if_neg d, if_pos (by by_cases z : SS.G q 5 (3 * rw0 + gg) = 0; exact z; exact absurd (e2.mpr z) d), ev (by omega)]
              have J_111 : ∀ (bz_112 : Int) (H : Heap) (locs : List Loc), (bz_112 = (if bd = 1 ∨ at1 = 1000 then -1000001 else if fl = 1 then -1000002 else va)) → va_P D vwCl (wS xo xh t ta cI cC cH q1) H → va_D A (wS xo xh t ta cI cC cH q1) → va_S A s.heap H locs → W p l e R s m args below meth c H locs 0 0 Q (F0 m 176 ls [.int (iI bz_112), .int (iI (fgV (SS.G q) rw0 gg at1))]) := by
                intro bz_112 H locs hbz_112 hP hD hS
                refine z_icmp_ne (tgt := 228) hx hb dL_acts_176 (by decide) (by omega) (by omega) (fun c_113 => absurd c_113 (by omega)) (fun c_113 => ?_)
                refine lv_iload hx hb dL_acts_179 (lv_at hl 3 rfl) ?_
                refine z_if_ne (tgt := 224) hx hb dL_acts_181 (by decide) (by omega) (fun c_114 => ?_) (fun c_114 => ?_)
                · refine z_iconst hx hb dL_acts_224 ?_
                  refine lv_goto (tgt := 229) hx hb dL_acts_225 (by decide) ?_
                  exact hret q1 _ _ _ _ ⟨hRq1, hcq1.2.1⟩ dL_acts_229 hP hD hS
                · refine lv_iload hx hb dL_acts_184 (lv_at hl 0 rfl) ?_
                  refine z_sipush hx hb dL_acts_186 (by decide +kernel) ?_
                  refine z_icmp_eq (tgt := 224) hx hb dL_acts_189 (by decide) (by omega) (by omega) (fun c_115 => ?_) (fun c_115 => ?_)
                  · refine z_iconst hx hb dL_acts_224 ?_
                    refine lv_goto (tgt := 229) hx hb dL_acts_225 (by decide) ?_
                    exact hret q1 _ _ _ _ ⟨hRq1, hcq1.2.1⟩ dL_acts_229 hP hD hS
                  · refine lv_iload hx hb dL_acts_192 (lv_at hl 1 rfl) ?_
                    refine z_if_ne (tgt := 224) hx hb dL_acts_194 (by decide) (by omega) (fun c_116 => ?_) (fun c_116 => ?_)
                    · refine z_iconst hx hb dL_acts_224 ?_
                      refine lv_goto (tgt := 229) hx hb dL_acts_225 (by decide) ?_
                      exact hret q1 _ _ _ _ ⟨hRq1, hcq1.2.1⟩ dL_acts_229 hP hD hS
                    · have z5 : SS.G q 5 (3 * rw0 + gg) = 0 := by have e2 := ef (by omega); by_cases z : SS.G q 5 (3 * rw0 + gg) = 0; exact z; exact absurd (e2.mpr z) (by omega)
                      have eG : SS.G q1 = upG (upG (SS.G q) 5 (3 * rw0 + gg) 1) 4 (3 * rw0 + gg) at1 := hcq1.2.2.1.trans ((if_pos (by omega)).trans (if_pos z5))
                      have c4 : SS.G q1 4 (3 * rw0 + gg) = at1 := by rw [eG]; exact upI_s _ _ _
                      have c5 : SS.G q1 5 (3 * rw0 + gg) = 1 := by rw [eG]; exact upI_s _ _ _
                      refine lv_aload_n hx hb dL_acts_197 rfl (lv_at hl 7 rfl) ?_
                      refine lv_iload hx hb dL_acts_198 (lv_at hl 5 rfl) ?_
                      refine lv_iload hx hb dL_acts_200 (lv_at hl 4 rfl) ?_
                      refine z_iconst hx hb dL_acts_202 ?_
                      refine mw_full (st1 := [.int (iI (SS.G q1 4 (3 * rw0 + gg)))]) (mr_V (As := [.int (iI rw0), .int (iI gg), .int (iI 0)]) (rest := []) (ci := 2) (q0 := 0) ⟨hx, hb, hml, hown, hts⟩ (rd_guard0 l D xo xh t ta cI cC cH hRq1 rw0 gg (by omega) (by omega)) (cwV 3 hts (gV q_353 q_354 q_355 q_37 q_258) rfl rfl rfl (by decide +kernel) ⟨Nat.le_trans (m := 4) (Nat.le_of_ble_eq_true rfl) (Nat.le_trans (Nat.le_of_ble_eq_true rfl) hRf), Nat.le_trans (m := 90) (Nat.le_of_ble_eq_true rfl) (Nat.le_trans (Nat.le_of_ble_eq_true rfl) hRl)⟩) hN hK hP hD rfl rfl rfl hl.1 (Nat.le_of_ble_eq_true rfl) ⟨hRc, hRs⟩ dL_acts_203) hD hS hA rfl (fun H locs hP hD hS => ?_)
                      have hv_117 := rb_guard0 hRq1 rw0 gg (by omega) (by omega)
                      refine lv_iload hx hb dL_acts_206 (lv_at hl 0 rfl) ?_
                      refine z_icmp_ne (tgt := 228) hx hb dL_acts_208 (by decide) (by omega) (by omega) (fun c_118 => absurd c_118 (by omega)) (fun c_118 => ?_)
                      refine lv_aload_n hx hb dL_acts_211 rfl (lv_at hl 7 rfl) ?_
                      refine lv_iload hx hb dL_acts_212 (lv_at hl 5 rfl) ?_
                      refine lv_iload hx hb dL_acts_214 (lv_at hl 4 rfl) ?_
                      refine z_iconst hx hb dL_acts_216 ?_
                      refine mw_full (st1 := [.int (iI (SS.G q1 5 (3 * rw0 + gg)))]) (mr_V (As := [.int (iI rw0), .int (iI gg), .int (iI 1)]) (rest := []) (ci := 2) (q0 := 0) ⟨hx, hb, hml, hown, hts⟩ (rd_guard1 l D xo xh t ta cI cC cH hRq1 rw0 gg (by omega) (by omega)) (cwV 3 hts (gV q_353 q_354 q_355 q_37 q_258) rfl rfl rfl (by decide +kernel) ⟨Nat.le_trans (m := 4) (Nat.le_of_ble_eq_true rfl) (Nat.le_trans (Nat.le_of_ble_eq_true rfl) hRf), Nat.le_trans (m := 90) (Nat.le_of_ble_eq_true rfl) (Nat.le_trans (Nat.le_of_ble_eq_true rfl) hRl)⟩) hN hK hP hD rfl rfl rfl hl.1 (Nat.le_of_ble_eq_true rfl) ⟨hRc, hRs⟩ dL_acts_217) hD hS hA rfl (fun H locs hP hD hS => ?_)
                      have hv_119 := rb_guard1 hRq1 rw0 gg (by omega) (by omega)
                      refine z_iconst hx hb dL_acts_220 ?_
                      refine z_icmp_ne (tgt := 228) hx hb dL_acts_221 (by decide) (by omega) (by omega) (fun c_120 => absurd c_120 (by omega)) (fun c_120 => ?_)
                      refine z_iconst hx hb dL_acts_224 ?_
                      refine lv_goto (tgt := 229) hx hb dL_acts_225 (by decide) ?_
                      exact hret q1 _ _ _ _ ⟨hRq1, hcq1.2.1⟩ dL_acts_229 hP hD hS
              have hV : fgV (SS.G q) rw0 gg at1 = (if bd = 1 ∨ at1 = 1000 then -1000001 else if fl = 1 then -1000002 else va) := by
                by_cases c : bd = 1 ∨ at1 = 1000
                · rw [if_pos c]; exact if_neg (by omega)
                · rw [if_neg c, show fgV (SS.G q) rw0 gg at1 = _ from if_pos (by omega)]
                  have e2 := ef (by omega)
                  by_cases d : fl = 1
                  · rw [if_pos d, if_neg (e2.mp d)]
                  · rw [if_neg d, if_pos (by by_cases z : SS.G q 5 (3 * rw0 + gg) = 0; exact z; exact absurd (e2.mpr z) d), ev (by omega)]
              refine lv_iload hx hb dL_acts_146 (lv_at hl 3 rfl) ?_
              refine z_if_ne (tgt := 159) hx hb dL_acts_148 (by decide) (by omega) (fun c_121 => ?_) (fun c_121 => ?_)
              · refine z_ldc hx hb (-1000001) (by decide +kernel) hown (hq _ q_371) dL_acts_159 ?_
                refine lv_goto (tgt := 176) hx hb dL_acts_161 (by decide) ?_
                exact J_111 (-1000001) _ _ (by omega) hP hD hS
              · refine lv_iload hx hb dL_acts_151 (lv_at hl 0 rfl) ?_
                refine z_sipush hx hb dL_acts_153 (by decide +kernel) ?_
                refine z_icmp_ne (tgt := 164) hx hb dL_acts_156 (by decide) (by omega) (by omega) (fun c_122 => ?_) (fun c_122 => ?_)
                · refine lv_iload hx hb dL_acts_164 (lv_at hl 1 rfl) ?_
                  refine z_if_eq (tgt := 174) hx hb dL_acts_166 (by decide) (by omega) (fun c_123 => ?_) (fun c_123 => ?_)
                  · refine lv_iload hx hb dL_acts_174 (lv_at hl 2 rfl) ?_
                    exact J_111 va _ _ (by omega) hP hD hS
                  · refine z_ldc hx hb (-1000002) (by decide +kernel) hown (hq _ q_395) dL_acts_169 ?_
                    refine lv_goto (tgt := 176) hx hb dL_acts_171 (by decide) ?_
                    exact J_111 (-1000002) _ _ (by omega) hP hD hS
                · refine z_ldc hx hb (-1000001) (by decide +kernel) hown (hq _ q_371) dL_acts_159 ?_
                  refine lv_goto (tgt := 176) hx hb dL_acts_161 (by decide) ?_
                  exact J_111 (-1000001) _ _ (by omega) hP hD hS
          refine lv_iload hx hb dL_acts_93 (lv_at hl 1 rfl) ?_
          refine z_if_ne (tgt := 115) hx hb dL_acts_95 (by decide) (by omega) (fun c_124 => ?_) (fun c_124 => ?_)
          · refine z_iconst hx hb dL_acts_115 ?_
            exact J_12 0 _ _ (by omega) hP hD hS
          · refine lv_aload_n hx hb dL_acts_98 rfl (lv_at hl 5 rfl) ?_
            refine lv_iload hx hb dL_acts_99 (lv_at hl 3 rfl) ?_
            refine lv_iload hx hb dL_acts_101 (lv_at hl 2 rfl) ?_
            refine z_iconst hx hb dL_acts_103 ?_
            refine mw_full (st1 := [.int (iI (SS.G q 5 (3 * rw0 + gg)))]) (mr_V (As := [.int (iI rw0), .int (iI gg), .int (iI 1)]) (rest := []) (ci := 2) (q0 := 0) ⟨hx, hb, hml, hown, hts⟩ (rd_guard1 l D xo xh t ta cI cC cH h rw0 gg (by omega) (by omega)) (cwV 3 hts (gV q_353 q_354 q_355 q_37 q_258) rfl rfl rfl (by decide +kernel) ⟨Nat.le_trans (m := 4) (Nat.le_of_ble_eq_true rfl) (Nat.le_trans (Nat.le_of_ble_eq_true rfl) hRf), Nat.le_trans (m := 90) (Nat.le_of_ble_eq_true rfl) (Nat.le_trans (Nat.le_of_ble_eq_true rfl) hRl)⟩) hN hK hP hD rfl rfl rfl hl.1 (Nat.le_of_ble_eq_true rfl) ⟨hRc, hRs⟩ dL_acts_104) hD hS hA rfl (fun H locs hP hD hS => ?_)
            have hv_125 := rb_guard1 h rw0 gg (by omega) (by omega)
            refine z_iconst hx hb dL_acts_107 ?_
            refine z_icmp_ne (tgt := 115) hx hb dL_acts_108 (by decide) (by omega) (by omega) (fun c_126 => ?_) (fun c_126 => ?_)
            · refine z_iconst hx hb dL_acts_115 ?_
              exact J_12 0 _ _ (by omega) hP hD hS
            · refine z_iconst hx hb dL_acts_111 ?_
              refine lv_goto (tgt := 116) hx hb dL_acts_112 (by decide) ?_
              exact J_12 1 _ _ (by omega) hP hD hS
        refine lv_iload hx hb dL_acts_73 (lv_at hl 0 rfl) ?_
        refine z_if_eq (tgt := 82) hx hb dL_acts_75 (by decide) (by omega) (fun c_127 => ?_) (fun c_127 => ?_)
        · refine lv_aload_n hx hb dL_acts_82 rfl (lv_at hl 4 rfl) ?_
          refine lv_iload hx hb dL_acts_83 (lv_at hl 2 rfl) ?_
          refine lv_iload hx hb dL_acts_85 (lv_at hl 1 rfl) ?_
          refine z_iconst hx hb dL_acts_87 ?_
          refine mw_full (st1 := [.int (iI (SS.G q 4 (3 * rw0 + gg)))]) (mr_V (As := [.int (iI rw0), .int (iI gg), .int (iI 0)]) (rest := []) (ci := 2) (q0 := 0) ⟨hx, hb, hml, hown, hts⟩ (rd_guard0 l D xo xh t ta cI cC cH h rw0 gg (by omega) (by omega)) (cwV 3 hts (gV q_353 q_354 q_355 q_37 q_258) rfl rfl rfl (by decide +kernel) ⟨Nat.le_trans (m := 4) (Nat.le_of_ble_eq_true rfl) (Nat.le_trans (Nat.le_of_ble_eq_true rfl) hRf), Nat.le_trans (m := 90) (Nat.le_of_ble_eq_true rfl) (Nat.le_trans (Nat.le_of_ble_eq_true rfl) hRl)⟩) hN hK hP hD rfl rfl rfl hl.1 (Nat.le_of_ble_eq_true rfl) ⟨hRc, hRs⟩ dL_acts_88) hD hS hA rfl (fun H locs hP hD hS => ?_)
          have hv_128 := rb_guard0 h rw0 gg (by omega) (by omega)
          exact J_10 (SS.G q 4 (3 * rw0 + gg)) _ _ (by omega) hP hD hS
        · refine z_iconst hx hb dL_acts_78 ?_
          refine lv_goto (tgt := 91) hx hb dL_acts_79 (by decide) ?_
          exact J_10 0 _ _ (by omega) hP hD hS
      refine lv_iload hx hb dL_acts_53 (lv_at hl 1 rfl) ?_
      refine z_bipush hx hb dL_acts_55 (by decide +kernel) ?_
      refine z_icmp_eq (tgt := 66) hx hb dL_acts_57 (by decide) (by omega) (by omega) (fun c_129 => ?_) (fun c_129 => ?_)
      · refine z_iconst hx hb dL_acts_66 ?_
        refine lv_goto (tgt := 71) hx hb dL_acts_67 (by decide) ?_
        exact J_8 1 _ _ (by omega) hP hD hS
      · refine lv_iload hx hb dL_acts_60 (lv_at hl 0 rfl) ?_
        refine z_iconst hx hb dL_acts_62 ?_
        refine z_icmp_ne (tgt := 70) hx hb dL_acts_63 (by decide) (by omega) (by omega) (fun c_130 => ?_) (fun c_130 => ?_)
        · refine z_iconst hx hb dL_acts_70 ?_
          exact J_8 0 _ _ (by omega) hP hD hS
        · refine z_iconst hx hb dL_acts_66 ?_
          refine lv_goto (tgt := 71) hx hb dL_acts_67 (by decide) ?_
          exact J_8 1 _ _ (by omega) hP hD hS
    refine lv_iload_n hx hb dL_acts_31 rfl (lv_at hl 4 rfl) ?_
    refine z_bipush hx hb dL_acts_32 (by decide +kernel) ?_
    refine lv_ishr hx hb dL_acts_34 ?_
    obtain ⟨y_131, hy_131, ey_131⟩ := iI_ex (iI y >>> (iI 18 &&& 31))
    refine z_asB (b := y_131) ey_131 ?_
    refine z_bipush hx hb dL_acts_35 (by decide +kernel) ?_
    refine mw_none (st1 := [.int (iI (lowZ y_131 (6 : Int))), .int (iI y_4)]) (mr_S (As := [.int (iI y_131), .int (iI 6)]) (rest := [.int (iI y_4)]) ⟨hx, hb, hml, hown, hts⟩ (m_L_low l D y_131 (6 : Int) (by omega)) (va_cwS 2 hts (gS q_372 q_373 q_374 q_341) rfl rfl rfl (by decide +kernel) ⟨Nat.le_trans (m := 1) (Nat.le_of_ble_eq_true rfl) (Nat.le_trans (Nat.le_of_ble_eq_true rfl) hRf), Nat.le_trans (m := 21) (Nat.le_of_ble_eq_true rfl) (Nat.le_trans (Nat.le_of_ble_eq_true rfl) hRl)⟩) hN (hK.sub (tys' := []) [] rfl) (va_P0 _ _ _) (va_D0 A) rfl hl.1 (Nat.le_of_ble_eq_true rfl) ⟨hRc, hRs⟩ dL_acts_37) hP hS hA rfl (fun H locs hP hS => ?_)
    have hv_132 := low_bd y_131 (n := 6) (by omega)
    refine z_if_ne (tgt := 47) hx hb dL_acts_40 (by decide) (by omega) (fun c_133 => ?_) (fun c_133 => ?_)
    · refine z_iconst hx hb dL_acts_47 ?_
      exact J_5 3 _ _ (by omega) hP hD hS
    · refine z_iconst hx hb dL_acts_43 ?_
      refine lv_goto (tgt := 48) hx hb dL_acts_44 (by decide) ?_
      exact J_5 4 _ _ (by omega) hP hD hS
  · refine lv_aload_n hx hb dL_acts_13 rfl (lv_at hl 1 rfl) ?_
    refine lv_iload_n hx hb dL_acts_14 rfl (lv_at hl 0 rfl) ?_
    refine lv_iload_n hx hb dL_acts_15 rfl (lv_at hl 3 rfl) ?_
    refine me_go (st1 := [.int (iI 1)]) (me_S (As := [.ref xo, .int (iI how), .int (iI y)]) (rest := []) ⟨hx, hb, hml, hown, hts⟩ (m_L_cells l D xo xh t ta cI cC cH h (by omega) how (by omega) y (by omega) (by omega)) (va_cwS 3 hts (gS q_419 q_420 q_374 q_418) rfl rfl rfl (by decide +kernel) ⟨Nat.le_trans (m := 7) (Nat.le_of_ble_eq_true rfl) (Nat.le_trans (Nat.le_of_ble_eq_true rfl) hRf), Nat.le_trans (m := 168) (Nat.le_of_ble_eq_true rfl) (Nat.le_trans (Nat.le_of_ble_eq_true rfl) hRl)⟩) hN hK hP hD rfl hl.1 (Nat.le_of_ble_eq_true rfl) ⟨hRc, hRs⟩ dL_acts_16) hD hS hA rfl (fun q1 H locs hu hP hD hS => ?_)
    obtain ⟨hRq1, haq1⟩ := hu
    exact hret q1 _ _ _ _ ⟨hRq1, haq1⟩ dL_acts_19 hP hD hS
