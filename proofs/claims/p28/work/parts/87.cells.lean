set_option maxHeartbeats 8000000 in
set_option maxRecDepth 100000 in
theorem m_L_cells (l : Launch) (D : va_G) (xo xh t : Nat) (ta : Nat → Nat) (cI cC cH : ClassId) {k : Nat} {q : SS} (h : CR k q) (hk : k < 100) (how : Int) (h_how : -2147483648 ≤ how ∧ how < 2147483648) (y : Int) (h_y : -2147483648 ≤ y ∧ y < 2147483648) (hw9 : 0 ≤ how ∧ how < 9) : ME l D yL_cells (wsY yL_cells cL_cells 16 (some .boolean)) { frames := 6, cells := 0, slots := 0, locals := 133 } (tyS cI cC cH) [.ref xo, .int (iI how), .int (iI y)] (wS xo xh t ta cI cC cH q) (fun q' : SS => CR (k + 1) q' ∧ Aft q q') (fun q' : SS => wS xo xh t ta cI cC cH q') (some (.int (iI 1))) := by
  refine me_ofZ (cc := cL_cells) (maxL := 16) rfl (by decide) rfl (Nat.le_of_ble_eq_true rfl) ?_
  intro p e s m below meth c R A Q args ls hx hb hml hown hts hRf hRl hRc hRs hN hK hP hD hS hA hret hl
  have hq : ∀ w ∈ ALL, w.before args s = true := fun w h => hts w (List.mem_cons_of_mem _ h)
  have hl : lv_has ls 16 [(0, .ref xo), (1, .int (iI how)), (2, .int (iI y))] := hl
  refine lv_iload_n hx hb dL_cells_0 rfl (lv_at hl 2 rfl) ?_
  refine z_bipush hx hb dL_cells_1 (by decide +kernel) ?_
  refine mw_none (st1 := [.int (iI (lowZ y (7 : Int)))]) (mr_S (As := [.int (iI y), .int (iI 7)]) (rest := []) ⟨hx, hb, hml, hown, hts⟩ (m_L_low l D y (7 : Int) (by omega)) (va_cwS 2 hts (gS q_372 q_373 q_374 q_341) rfl rfl rfl (by decide +kernel) ⟨Nat.le_trans (m := 1) (Nat.le_of_ble_eq_true rfl) (Nat.le_trans (Nat.le_of_ble_eq_true rfl) hRf), Nat.le_trans (m := 21) (Nat.le_of_ble_eq_true rfl) (Nat.le_trans (Nat.le_of_ble_eq_true rfl) hRl)⟩) hN (hK.sub (tys' := []) [] rfl) (va_P0 _ _ _) (va_D0 A) rfl hl.1 (Nat.le_of_ble_eq_true rfl) ⟨hRc, hRs⟩ dL_cells_3) hP hS hA rfl (fun H locs hP hS => ?_)
  have hv_1 := low_bd y (n := 7) (by omega)
  obtain ⟨rw0, e_rw0⟩ : ∃ z : Int, z = (lowZ y (7 : Int)) := ⟨_, rfl⟩
  refine z_as e_rw0.symm ?_
  refine lv_istore_n (lv' := [(3, .int (iI rw0)), (0, .ref xo), (1, .int (iI how)), (2, .int (iI y))]) hx hb dL_cells_6 rfl hl (by decide) rfl (fun ls hl => ?_)
  refine lv_iload_n hx hb dL_cells_7 rfl (lv_at hl 3 rfl) ?_
  refine z_iconst hx hb dL_cells_8 ?_
  refine lv_ishr hx hb dL_cells_9 ?_
  obtain ⟨y_2, hy_2, ey_2⟩ := iI_ex (iI y >>> (iI 4 &&& 31))
  refine z_asB (b := y_2) ey_2 ?_
  have J_3 : ∀ (bz_4 : Int) (H : Heap) (locs : List Loc), (bz_4 = 9 ∨ bz_4 = 8) → va_P D vwCl (wS xo xh t ta cI cC cH q) H → va_D A (wS xo xh t ta cI cC cH q) → va_S A s.heap H locs → W p l e R s m args below meth c H locs 0 0 Q (F0 m 29 ls [.int (iI bz_4), .int (iI y_2)]) := by
    intro bz_4 H locs hbz_4 hP hD hS
    refine mw_none (st1 := [.int (iI (lowZ y_2 bz_4))]) (mr_S (As := [.int (iI y_2), .int (iI bz_4)]) (rest := []) ⟨hx, hb, hml, hown, hts⟩ (m_L_low l D y_2 bz_4 (by omega)) (va_cwS 2 hts (gS q_372 q_373 q_374 q_341) rfl rfl rfl (by decide +kernel) ⟨Nat.le_trans (m := 1) (Nat.le_of_ble_eq_true rfl) (Nat.le_trans (Nat.le_of_ble_eq_true rfl) hRf), Nat.le_trans (m := 21) (Nat.le_of_ble_eq_true rfl) (Nat.le_trans (Nat.le_of_ble_eq_true rfl) hRl)⟩) hN (hK.sub (tys' := []) [] rfl) (va_P0 _ _ _) (va_D0 A) rfl hl.1 (Nat.le_of_ble_eq_true rfl) ⟨hRc, hRs⟩ dL_cells_29) hP hS hA rfl (fun H locs hP hS => ?_)
    have hv_5 := low_bd y_2 (n := bz_4) (by omega)
    obtain ⟨cc, e_cc⟩ : ∃ z : Int, z = (lowZ y_2 bz_4) := ⟨_, rfl⟩
    refine z_as e_cc.symm ?_
    refine lv_istore (lv' := [(4, .int (iI cc)), (3, .int (iI rw0)), (0, .ref xo), (1, .int (iI how)), (2, .int (iI y))]) hx hb dL_cells_32 hl (by decide) rfl (fun ls hl => ?_)
    refine lv_iload_n hx hb dL_cells_34 rfl (lv_at hl 4 rfl) ?_
    refine z_bipush hx hb dL_cells_35 (by decide +kernel) ?_
    refine lv_ishr hx hb dL_cells_37 ?_
    obtain ⟨y_6, hy_6, ey_6⟩ := iI_ex (iI y >>> (iI 7 &&& 31))
    refine z_asB (b := y_6) ey_6 ?_
    have J_7 : ∀ (bz_8 : Int) (H : Heap) (locs : List Loc), (bz_8 = 4 ∨ bz_8 = 3) → va_P D vwCl (wS xo xh t ta cI cC cH q) H → va_D A (wS xo xh t ta cI cC cH q) → va_S A s.heap H locs → W p l e R s m args below meth c H locs 0 0 Q (F0 m 55 ls [.int (iI bz_8), .int (iI y_6)]) := by
      intro bz_8 H locs hbz_8 hP hD hS
      refine mw_none (st1 := [.int (iI (lowZ y_6 bz_8))]) (mr_S (As := [.int (iI y_6), .int (iI bz_8)]) (rest := []) ⟨hx, hb, hml, hown, hts⟩ (m_L_low l D y_6 bz_8 (by omega)) (va_cwS 2 hts (gS q_372 q_373 q_374 q_341) rfl rfl rfl (by decide +kernel) ⟨Nat.le_trans (m := 1) (Nat.le_of_ble_eq_true rfl) (Nat.le_trans (Nat.le_of_ble_eq_true rfl) hRf), Nat.le_trans (m := 21) (Nat.le_of_ble_eq_true rfl) (Nat.le_trans (Nat.le_of_ble_eq_true rfl) hRl)⟩) hN (hK.sub (tys' := []) [] rfl) (va_P0 _ _ _) (va_D0 A) rfl hl.1 (Nat.le_of_ble_eq_true rfl) ⟨hRc, hRs⟩ dL_cells_55) hP hS hA rfl (fun H locs hP hS => ?_)
      have hv_9 := low_bd y_6 (n := bz_8) (by omega)
      obtain ⟨lv, e_lv⟩ : ∃ z : Int, z = (lowZ y_6 bz_8) := ⟨_, rfl⟩
      refine z_as e_lv.symm ?_
      refine lv_istore (lv' := [(5, .int (iI lv)), (4, .int (iI cc)), (3, .int (iI rw0)), (0, .ref xo), (1, .int (iI how)), (2, .int (iI y))]) hx hb dL_cells_58 hl (by decide) rfl (fun ls hl => ?_)
      have J_10 : ∀ (bz_11 : Int) (H : Heap) (locs : List Loc), (bz_11 = (if rw0 = 6 ∨ cc = 8 then 1 else 0)) → va_P D vwCl (wS xo xh t ta cI cC cH q) H → va_D A (wS xo xh t ta cI cC cH q) → va_S A s.heap H locs → W p l e R s m args below meth c H locs 0 0 Q (F0 m 78 ls [.int (iI bz_11)]) := by
        intro bz_11 H locs hbz_11 hP hD hS
        obtain ⟨bd, e_bd⟩ : ∃ z : Int, z = bz_11 := ⟨_, rfl⟩
        refine z_as e_bd.symm ?_
        refine lv_istore (lv' := [(6, .int (iI bd)), (5, .int (iI lv)), (4, .int (iI cc)), (3, .int (iI rw0)), (0, .ref xo), (1, .int (iI how)), (2, .int (iI y))]) hx hb dL_cells_78 hl (by decide) rfl (fun ls hl => ?_)
        have J_12 : ∀ (bz_13 : Int) (H : Heap) (locs : List Loc), (bz_13 = (if bd = 0 then toldZ (SS.G q) rw0 cc else 0)) → va_P D vwCl (wS xo xh t ta cI cC cH q) H → va_D A (wS xo xh t ta cI cC cH q) → va_S A s.heap H locs → W p l e R s m args below meth c H locs 0 0 Q (F0 m 97 ls [.int (iI bz_13)]) := by
          intro bz_13 H locs hbz_13 hP hD hS
          obtain ⟨told, e_told⟩ : ∃ z : Int, z = bz_13 := ⟨_, rfl⟩
          refine z_as e_told.symm ?_
          refine lv_istore (lv' := [(7, .int (iI told)), (6, .int (iI bd)), (5, .int (iI lv)), (4, .int (iI cc)), (3, .int (iI rw0)), (0, .ref xo), (1, .int (iI how)), (2, .int (iI y))]) hx hb dL_cells_97 hl (by decide) rfl (fun ls hl => ?_)
          have J_14 : ∀ (bz_15 : Int) (H : Heap) (locs : List Loc), (bz_15 = (if bd = 0 then SS.G q 0 (8 * rw0 + cc) else 0)) → va_P D vwCl (wS xo xh t ta cI cC cH q) H → va_D A (wS xo xh t ta cI cC cH q) → va_S A s.heap H locs → W p l e R s m args below meth c H locs 0 0 Q (F0 m 116 ls [.int (iI bz_15)]) := by
            intro bz_15 H locs hbz_15 hP hD hS
            obtain ⟨had, e_had⟩ : ∃ z : Int, z = bz_15 := ⟨_, rfl⟩
            refine z_as e_had.symm ?_
            refine lv_istore (lv' := [(8, .int (iI had)), (7, .int (iI told)), (6, .int (iI bd)), (5, .int (iI lv)), (4, .int (iI cc)), (3, .int (iI rw0)), (0, .ref xo), (1, .int (iI how)), (2, .int (iI y))]) hx hb dL_cells_116 hl (by decide) rfl (fun ls hl => ?_)
            have J_16 : ∀ (bz_17 : Int) (H : Heap) (locs : List Loc), (bz_17 = (if bd = 0 then SS.G q 2 (8 * rw0 + cc) else 0)) → va_P D vwCl (wS xo xh t ta cI cC cH q) H → va_D A (wS xo xh t ta cI cC cH q) → va_S A s.heap H locs → W p l e R s m args below meth c H locs 0 0 Q (F0 m 135 ls [.int (iI bz_17)]) := by
              intro bz_17 H locs hbz_17 hP hD hS
              obtain ⟨times, e_times⟩ : ∃ z : Int, z = bz_17 := ⟨_, rfl⟩
              refine z_as e_times.symm ?_
              refine lv_istore (lv' := [(9, .int (iI times)), (8, .int (iI had)), (7, .int (iI told)), (6, .int (iI bd)), (5, .int (iI lv)), (4, .int (iI cc)), (3, .int (iI rw0)), (0, .ref xo), (1, .int (iI how)), (2, .int (iI y))]) hx hb dL_cells_135 hl (by decide) rfl (fun ls hl => ?_)
              have hbt : 0 ≤ told ∧ told ≤ 2 := by have := told_bd (SS.G q) rw0 cc; omega
              have hbh : 0 ≤ had ∧ had ≤ 2 := by
                by_cases c : bd = 0
                · have := invG_0 h.1.1 (8 * rw0 + cc) (by omega) (by omega); omega
                · omega
              have hbm : 0 ≤ times ∧ times ≤ 20000000 := by
                by_cases c : bd = 0
                · have := invG_2 h.1.1 (8 * rw0 + cc) (by omega) (by omega); omega
                · omega
              have e1t : bd = 0 → told = toldZ (SS.G q) rw0 cc := fun c => by omega
              have e1h : bd = 0 → had = SS.G q 0 (8 * rw0 + cc) := fun c => by omega
              have e1m : bd = 0 → times = SS.G q 2 (8 * rw0 + cc) := fun c => by omega
              have J_18 : ∀ (bz_19 : Int) (H : Heap) (locs : List Loc), (bz_19 = (if bd = 0 then SS.G q 10 (3 * had + told) else 0)) → va_P D vwCl (wS xo xh t ta cI cC cH q) H → va_D A (wS xo xh t ta cI cC cH q) → va_S A s.heap H locs → W p l e R s m args below meth c H locs 0 0 Q (F0 m 154 ls [.int (iI bz_19)]) := by
                intro bz_19 H locs hbz_19 hP hD hS
                obtain ⟨asked, e_asked⟩ : ∃ z : Int, z = bz_19 := ⟨_, rfl⟩
                refine z_as e_asked.symm ?_
                refine lv_istore (lv' := [(10, .int (iI asked)), (9, .int (iI times)), (8, .int (iI had)), (7, .int (iI told)), (6, .int (iI bd)), (5, .int (iI lv)), (4, .int (iI cc)), (3, .int (iI rw0)), (0, .ref xo), (1, .int (iI how)), (2, .int (iI y))]) hx hb dL_cells_154 hl (by decide) rfl (fun ls hl => ?_)
                have hba : 0 ≤ asked ∧ asked ≤ 20000000 := by
                  by_cases c : bd = 0
                  · have := invG_10 h.1.1 (3 * had + told) (by omega) (by omega); omega
                  · omega
                refine lv_iload_n hx hb dL_cells_156 rfl (lv_at hl 9 rfl) ?_
                refine z_iconst hx hb dL_cells_157 ?_
                refine z_icmp_ge (tgt := 292) hx hb dL_cells_158 (by decide) (by omega) (by omega) (fun c_20 => ?_) (fun c_20 => ?_)
                · refine lv_iload_n hx hb dL_cells_292 rfl (lv_at hl 9 rfl) ?_
                  refine z_bipush hx hb dL_cells_293 (by decide +kernel) ?_
                  refine z_icmp_ge (tgt := 376) hx hb dL_cells_295 (by decide) (by omega) (by omega) (fun c_21 => ?_) (fun c_21 => ?_)
                  · refine lv_iload_n hx hb dL_cells_376 rfl (lv_at hl 10 rfl) ?_
                    refine z_bipush hx hb dL_cells_377 (by decide +kernel) ?_
                    refine lv_ishr hx hb dL_cells_379 ?_
                    obtain ⟨y_22, hy_22, ey_22⟩ := iI_ex (iI y >>> (iI 7 &&& 31))
                    refine z_asB (b := y_22) ey_22 ?_
                    refine z_sipush hx hb dL_cells_380 (by decide +kernel) ?_
                    refine mw_none (st1 := [.int (iI (lowZ y_22 (6562 : Int)))]) (mr_S (As := [.int (iI y_22), .int (iI 6562)]) (rest := []) ⟨hx, hb, hml, hown, hts⟩ (m_L_low l D y_22 (6562 : Int) (by omega)) (va_cwS 2 hts (gS q_372 q_373 q_374 q_341) rfl rfl rfl (by decide +kernel) ⟨Nat.le_trans (m := 1) (Nat.le_of_ble_eq_true rfl) (Nat.le_trans (Nat.le_of_ble_eq_true rfl) hRf), Nat.le_trans (m := 21) (Nat.le_of_ble_eq_true rfl) (Nat.le_trans (Nat.le_of_ble_eq_true rfl) hRl)⟩) hN (hK.sub (tys' := []) [] rfl) (va_P0 _ _ _) (va_D0 A) rfl hl.1 (Nat.le_of_ble_eq_true rfl) ⟨hRc, hRs⟩ dL_cells_383) hP hS hA rfl (fun H locs hP hS => ?_)
                    have hv_23 := low_bd y_22 (n := 6562) (by omega)
                    obtain ⟨wd, e_wd⟩ : ∃ z : Int, z = (lowZ y_22 (6562 : Int)) := ⟨_, rfl⟩
                    refine z_as e_wd.symm ?_
                    refine lv_istore (lv' := [(11, .int (iI wd)), (10, .int (iI asked)), (9, .int (iI times)), (8, .int (iI had)), (7, .int (iI told)), (6, .int (iI bd)), (5, .int (iI lv)), (4, .int (iI cc)), (3, .int (iI rw0)), (0, .ref xo), (1, .int (iI how)), (2, .int (iI y))]) hx hb dL_cells_386 hl (by decide) rfl (fun ls hl => ?_)
                    have J_24 : ∀ (bz_25 : Int) (H : Heap) (locs : List Loc), (bz_25 = (if rw0 = 6 then 0 else toldWordZ (SS.G q) rw0)) → va_P D vwCl (wS xo xh t ta cI cC cH q) H → va_D A (wS xo xh t ta cI cC cH q) → va_S A s.heap H locs → W p l e R s m args below meth c H locs 0 0 Q (F0 m 405 ls [.int (iI bz_25)]) := by
                      intro bz_25 H locs hbz_25 hP hD hS
                      obtain ⟨bf, e_bf⟩ : ∃ z : Int, z = bz_25 := ⟨_, rfl⟩
                      refine z_as e_bf.symm ?_
                      refine lv_istore (lv' := [(12, .int (iI bf)), (11, .int (iI wd)), (10, .int (iI asked)), (9, .int (iI times)), (8, .int (iI had)), (7, .int (iI told)), (6, .int (iI bd)), (5, .int (iI lv)), (4, .int (iI cc)), (3, .int (iI rw0)), (0, .ref xo), (1, .int (iI how)), (2, .int (iI y))]) hx hb dL_cells_405 hl (by decide) rfl (fun ls hl => ?_)
                      have J_26 : ∀ (bz_27 : Int) (H : Heap) (locs : List Loc), (bz_27 = (if rw0 = 6 ∨ wd = 6561 then 1 else 0)) → va_P D vwCl (wS xo xh t ta cI cC cH q) H → va_D A (wS xo xh t ta cI cC cH q) → va_S A s.heap H locs → W p l e R s m args below meth c H locs 0 0 Q (F0 m 426 ls [.int (iI bz_27)]) := by
                        intro bz_27 H locs hbz_27 hP hD hS
                        obtain ⟨no, e_no⟩ : ∃ z : Int, z = bz_27 := ⟨_, rfl⟩
                        refine z_as e_no.symm ?_
                        refine lv_istore (lv' := [(13, .int (iI no)), (12, .int (iI bf)), (11, .int (iI wd)), (10, .int (iI asked)), (9, .int (iI times)), (8, .int (iI had)), (7, .int (iI told)), (6, .int (iI bd)), (5, .int (iI lv)), (4, .int (iI cc)), (3, .int (iI rw0)), (0, .ref xo), (1, .int (iI how)), (2, .int (iI y))]) hx hb dL_cells_426 hl (by decide) rfl (fun ls hl => ?_)
                        have hbw := toldWord_bd (SS.G q) rw0
                        refine lv_iload_n hx hb dL_cells_428 rfl (lv_at hl 12 rfl) ?_
                        refine z_bipush hx hb dL_cells_429 (by decide +kernel) ?_
                        refine z_icmp_ne (tgt := 479) hx hb dL_cells_431 (by decide) (by omega) (by omega) (fun c_28 => ?_) (fun c_28 => ?_)
                        · have J_29 : ∀ (bz_30 : Int) (H : Heap) (locs : List Loc), (bz_30 = (if rw0 = 6 then 0 else wrongZ (SS.G q) rw0)) → va_P D vwCl (wS xo xh t ta cI cC cH q) H → va_D A (wS xo xh t ta cI cC cH q) → va_S A s.heap H locs → W p l e R s m args below meth c H locs 0 0 Q (F0 m 496 ls [.int (iI bz_30)]) := by
                            intro bz_30 H locs hbz_30 hP hD hS
                            obtain ⟨wr, e_wr⟩ : ∃ z : Int, z = bz_30 := ⟨_, rfl⟩
                            refine z_as e_wr.symm ?_
                            refine lv_istore (lv' := [(14, .int (iI wr)), (13, .int (iI no)), (12, .int (iI bf)), (11, .int (iI wd)), (10, .int (iI asked)), (9, .int (iI times)), (8, .int (iI had)), (7, .int (iI told)), (6, .int (iI bd)), (5, .int (iI lv)), (4, .int (iI cc)), (3, .int (iI rw0)), (0, .ref xo), (1, .int (iI how)), (2, .int (iI y))]) hx hb dL_cells_496 hl (by decide) rfl (fun ls hl => ?_)
                            have hwz := wrongZ_bd (SS.G q) rw0
                            refine lv_aload_n hx hb dL_cells_498 rfl (lv_at hl 12 rfl) ?_
                            refine z_bipush hx hb dL_cells_499 (by decide +kernel) ?_
                            refine mw_full (st1 := [.int (iI (sumZ 6 (SS.G q 8)))]) (mr_V (As := [.int (iI 7)]) (rest := []) (ci := 2) (q0 := 0) ⟨hx, hb, hml, hown, hts⟩ (rd_cnt7 l D xo xh t ta cI cC cH h (by omega)) (cwV 1 hts (gV q_344 q_345 q_346 q_37 q_304) rfl rfl rfl (by decide +kernel) ⟨Nat.le_trans (m := 6) (Nat.le_of_ble_eq_true rfl) (Nat.le_trans (Nat.le_of_ble_eq_true rfl) hRf), Nat.le_trans (m := 133) (Nat.le_of_ble_eq_true rfl) (Nat.le_trans (Nat.le_of_ble_eq_true rfl) hRl)⟩) hN hK hP hD rfl rfl rfl hl.1 (Nat.le_of_ble_eq_true rfl) ⟨hRc, hRs⟩ dL_cells_501) hD hS hA rfl (fun H locs hP hD hS => ?_)
                            have hv_31 := rb_cnt7 h (by omega)
                            obtain ⟨lost, e_lost⟩ : ∃ z : Int, z = (sumZ 6 (SS.G q 8)) := ⟨_, rfl⟩
                            refine z_as e_lost.symm ?_
                            refine lv_istore (lv' := [(15, .int (iI lost)), (14, .int (iI wr)), (13, .int (iI no)), (12, .int (iI bf)), (11, .int (iI wd)), (10, .int (iI asked)), (9, .int (iI times)), (8, .int (iI had)), (7, .int (iI told)), (6, .int (iI bd)), (5, .int (iI lv)), (4, .int (iI cc)), (3, .int (iI rw0)), (0, .ref xo), (1, .int (iI how)), (2, .int (iI y))]) hx hb dL_cells_504 hl (by decide) rfl (fun ls hl => ?_)
                            refine lv_aload_n hx hb dL_cells_506 rfl (lv_at hl 13 rfl) ?_
                            refine lv_iload_n hx hb dL_cells_507 rfl (lv_at hl 12 rfl) ?_
                            obtain ⟨q1, mxq1, hcq1, hTq1⟩ := sc_anew l D xo xh t ta cI cC cH h (by omega) rw0 (by omega)
                            have hRq1 := hcq1.1
                            refine mw_full (st1 := [.int (iI (waV (SS.G q) rw0))]) (mr_V (As := [.int (iI rw0)]) (rest := []) (ci := 2) (q0 := 0) ⟨hx, hb, hml, hown, hts⟩ mxq1 (cwV 1 hts (gV q_415 q_416 q_417 q_37 q_234) rfl rfl rfl (by decide +kernel) ⟨Nat.le_trans (m := 4) (Nat.le_of_ble_eq_true rfl) (Nat.le_trans (Nat.le_of_ble_eq_true rfl) hRf), Nat.le_trans (m := 95) (Nat.le_of_ble_eq_true rfl) (Nat.le_trans (Nat.le_of_ble_eq_true rfl) hRl)⟩) hN hK hP hD rfl rfl rfl hl.1 (Nat.le_of_ble_eq_true rfl) ⟨hRc, hRs⟩ dL_cells_508) hD hS hA rfl (fun H locs hP hD hS => ?_)
                            have hV : waV (SS.G q) rw0 = (if rw0 = 6 then -1000001 else wr) := by
                              by_cases c : rw0 = 6
                              · rw [if_pos c]; exact if_neg (by omega)
                              · rw [if_neg c, show waV (SS.G q) rw0 = _ from if_pos (by omega), lostAnew_eq]; omega
                            have J_32 : ∀ (bz_33 : Int) (H : Heap) (locs : List Loc), (bz_33 = (if rw0 = 6 then -1000001 else wr)) → va_P D vwCl (wS xo xh t ta cI cC cH q1) H → va_D A (wS xo xh t ta cI cC cH q1) → va_S A s.heap H locs → W p l e R s m args below meth c H locs 0 0 Q (F0 m 524 ls [.int (iI bz_33), .int (iI (waV (SS.G q) rw0))]) := by
                              intro bz_33 H locs hbz_33 hP hD hS
                              refine z_icmp_ne (tgt := 597) hx hb dL_cells_524 (by decide) (by omega) (by omega) (fun c_34 => absurd c_34 (by omega)) (fun c_34 => ?_)
                              refine lv_iload_n hx hb dL_cells_527 rfl (lv_at hl 12 rfl) ?_
                              refine z_bipush hx hb dL_cells_528 (by decide +kernel) ?_
                              refine z_icmp_eq (tgt := 593) hx hb dL_cells_530 (by decide) (by omega) (by omega) (fun c_35 => ?_) (fun c_35 => ?_)
                              · refine z_iconst hx hb dL_cells_593 ?_
                                refine lv_goto (tgt := 598) hx hb dL_cells_594 (by decide) ?_
                                exact hret q1 _ _ _ _ ⟨hRq1, hcq1.2.1⟩ dL_cells_598 hP hD hS
                              · have eG : SS.G q1 = writeAnewZ (SS.G q) rw0 := hcq1.2.2.1.trans (if_pos (by omega))
                                have hag := anew_guard (SS.G q) rw0
                                have c11 : levelWordZ (SS.G q1) rw0 = bf := by rw [eG, anew_word]; omega
                                have c9 : ageZ (SS.G q1) rw0 = 0 := by rw [eG]; unfold ageZ; rw [hag.2.2.1, hag.2.2.2]; omega
                                have c7 : sumZ 6 (SS.G q1 8) = lost + wr := by rw [eG, anew_lost _ (by omega), lostAnew_eq]; omega
                                have g5 : SS.G q1 5 (3 * rw0 + 1) = SS.G q 5 (3 * rw0 + 1) := by rw [eG, hag.1]
                                have g4 : SS.G q 5 (3 * rw0 + 1) = 0 → SS.G q1 4 (3 * rw0 + 1) = 500 := fun z => by rw [eG]; exact hag.2.1 z
                                have g6 := invG_5 h.1.1 (3 * rw0 + 1) (by omega) (by omega)
                                refine lv_aload_n hx hb dL_cells_533 rfl (lv_at hl 13 rfl) ?_
                                refine lv_iload_n hx hb dL_cells_534 rfl (lv_at hl 12 rfl) ?_
                                refine z_bipush hx hb dL_cells_535 (by decide +kernel) ?_
                                refine mw_full (st1 := [.int (iI (levelWordZ (SS.G q1) rw0))]) (mr_V (As := [.int (iI rw0), .int (iI 11)]) (rest := []) (ci := 2) (q0 := 0) ⟨hx, hb, hml, hown, hts⟩ (rd_row11 l D xo xh t ta cI cC cH hRq1 rw0 (by omega)) (cwV 2 hts (gV q_350 q_351 q_352 q_37 q_262) rfl rfl rfl (by decide +kernel) ⟨Nat.le_trans (m := 5) (Nat.le_of_ble_eq_true rfl) (Nat.le_trans (Nat.le_of_ble_eq_true rfl) hRf), Nat.le_trans (m := 116) (Nat.le_of_ble_eq_true rfl) (Nat.le_trans (Nat.le_of_ble_eq_true rfl) hRl)⟩) hN hK hP hD rfl rfl rfl hl.1 (Nat.le_of_ble_eq_true rfl) ⟨hRc, hRs⟩ dL_cells_537) hD hS hA rfl (fun H locs hP hD hS => ?_)
                                have hv_36 := rb_row11 hRq1 rw0 (by omega)
                                refine lv_iload hx hb dL_cells_540 (lv_at hl 3 rfl) ?_
                                refine z_icmp_ne (tgt := 597) hx hb dL_cells_542 (by decide) (by omega) (by omega) (fun c_37 => absurd c_37 (by omega)) (fun c_37 => ?_)
                                refine lv_aload_n hx hb dL_cells_545 rfl (lv_at hl 13 rfl) ?_
                                refine lv_iload_n hx hb dL_cells_546 rfl (lv_at hl 12 rfl) ?_
                                refine z_bipush hx hb dL_cells_547 (by decide +kernel) ?_
                                refine mw_full (st1 := [.int (iI (ageZ (SS.G q1) rw0))]) (mr_V (As := [.int (iI rw0), .int (iI 9)]) (rest := []) (ci := 2) (q0 := 0) ⟨hx, hb, hml, hown, hts⟩ (rd_row9 l D xo xh t ta cI cC cH hRq1 rw0 (by omega)) (cwV 2 hts (gV q_350 q_351 q_352 q_37 q_262) rfl rfl rfl (by decide +kernel) ⟨Nat.le_trans (m := 5) (Nat.le_of_ble_eq_true rfl) (Nat.le_trans (Nat.le_of_ble_eq_true rfl) hRf), Nat.le_trans (m := 116) (Nat.le_of_ble_eq_true rfl) (Nat.le_trans (Nat.le_of_ble_eq_true rfl) hRl)⟩) hN hK hP hD rfl rfl rfl hl.1 (Nat.le_of_ble_eq_true rfl) ⟨hRc, hRs⟩ dL_cells_549) hD hS hA rfl (fun H locs hP hD hS => ?_)
                                have hv_38 := rb_row9 hRq1 rw0 (by omega)
                                refine z_if_ne (tgt := 597) hx hb dL_cells_552 (by decide) (by omega) (fun c_39 => absurd c_39 (by omega)) (fun c_39 => ?_)
                                refine lv_aload_n hx hb dL_cells_555 rfl (lv_at hl 13 rfl) ?_
                                refine z_bipush hx hb dL_cells_556 (by decide +kernel) ?_
                                refine mw_full (st1 := [.int (iI (sumZ 6 (SS.G q1 8)))]) (mr_V (As := [.int (iI 7)]) (rest := []) (ci := 2) (q0 := 0) ⟨hx, hb, hml, hown, hts⟩ (rd_cnt7 l D xo xh t ta cI cC cH hRq1 (by omega)) (cwV 1 hts (gV q_344 q_345 q_346 q_37 q_304) rfl rfl rfl (by decide +kernel) ⟨Nat.le_trans (m := 6) (Nat.le_of_ble_eq_true rfl) (Nat.le_trans (Nat.le_of_ble_eq_true rfl) hRf), Nat.le_trans (m := 133) (Nat.le_of_ble_eq_true rfl) (Nat.le_trans (Nat.le_of_ble_eq_true rfl) hRl)⟩) hN hK hP hD rfl rfl rfl hl.1 (Nat.le_of_ble_eq_true rfl) ⟨hRc, hRs⟩ dL_cells_558) hD hS hA rfl (fun H locs hP hD hS => ?_)
                                have hv_40 := rb_cnt7 hRq1 (by omega)
                                refine lv_iload hx hb dL_cells_561 (lv_at hl 0 rfl) ?_
                                refine lv_iload hx hb dL_cells_563 (lv_at hl 1 rfl) ?_
                                refine z_iadd hx hb dL_cells_565 ?_
                                refine z_icmp_ne (tgt := 597) hx hb dL_cells_566 (by decide) (by omega) (by omega) (fun c_41 => absurd c_41 (by omega)) (fun c_41 => ?_)
                                refine lv_aload_n hx hb dL_cells_569 rfl (lv_at hl 13 rfl) ?_
                                refine lv_iload_n hx hb dL_cells_570 rfl (lv_at hl 12 rfl) ?_
                                refine z_iconst hx hb dL_cells_571 ?_
                                refine z_iconst hx hb dL_cells_572 ?_
                                refine mw_full (st1 := [.int (iI (SS.G q1 5 (3 * rw0 + (1 : Int))))]) (mr_V (As := [.int (iI rw0), .int (iI 1), .int (iI 1)]) (rest := []) (ci := 2) (q0 := 0) ⟨hx, hb, hml, hown, hts⟩ (rd_guard1 l D xo xh t ta cI cC cH hRq1 rw0 (1 : Int) (by omega) (by omega)) (cwV 3 hts (gV q_353 q_354 q_355 q_37 q_258) rfl rfl rfl (by decide +kernel) ⟨Nat.le_trans (m := 4) (Nat.le_of_ble_eq_true rfl) (Nat.le_trans (Nat.le_of_ble_eq_true rfl) hRf), Nat.le_trans (m := 90) (Nat.le_of_ble_eq_true rfl) (Nat.le_trans (Nat.le_of_ble_eq_true rfl) hRl)⟩) hN hK hP hD rfl rfl rfl hl.1 (Nat.le_of_ble_eq_true rfl) ⟨hRc, hRs⟩ dL_cells_573) hD hS hA rfl (fun H locs hP hD hS => ?_)
                                have hv_42 := rb_guard1 hRq1 rw0 (1 : Int) (by omega) (by omega)
                                refine z_iconst hx hb dL_cells_576 ?_
                                refine z_icmp_eq (tgt := 593) hx hb dL_cells_577 (by decide) (by omega) (by omega) (fun c_43 => ?_) (fun c_43 => ?_)
                                · refine z_iconst hx hb dL_cells_593 ?_
                                  refine lv_goto (tgt := 598) hx hb dL_cells_594 (by decide) ?_
                                  exact hret q1 _ _ _ _ ⟨hRq1, hcq1.2.1⟩ dL_cells_598 hP hD hS
                                · refine lv_aload_n hx hb dL_cells_580 rfl (lv_at hl 13 rfl) ?_
                                  refine lv_iload_n hx hb dL_cells_581 rfl (lv_at hl 12 rfl) ?_
                                  refine z_iconst hx hb dL_cells_582 ?_
                                  refine z_iconst hx hb dL_cells_583 ?_
                                  refine mw_full (st1 := [.int (iI (SS.G q1 4 (3 * rw0 + (1 : Int))))]) (mr_V (As := [.int (iI rw0), .int (iI 1), .int (iI 0)]) (rest := []) (ci := 2) (q0 := 0) ⟨hx, hb, hml, hown, hts⟩ (rd_guard0 l D xo xh t ta cI cC cH hRq1 rw0 (1 : Int) (by omega) (by omega)) (cwV 3 hts (gV q_353 q_354 q_355 q_37 q_258) rfl rfl rfl (by decide +kernel) ⟨Nat.le_trans (m := 4) (Nat.le_of_ble_eq_true rfl) (Nat.le_trans (Nat.le_of_ble_eq_true rfl) hRf), Nat.le_trans (m := 90) (Nat.le_of_ble_eq_true rfl) (Nat.le_trans (Nat.le_of_ble_eq_true rfl) hRl)⟩) hN hK hP hD rfl rfl rfl hl.1 (Nat.le_of_ble_eq_true rfl) ⟨hRc, hRs⟩ dL_cells_584) hD hS hA rfl (fun H locs hP hD hS => ?_)
                                  have hv_44 := rb_guard0 hRq1 rw0 (1 : Int) (by omega) (by omega)
                                  refine z_sipush hx hb dL_cells_587 (by decide +kernel) ?_
                                  refine z_icmp_ne (tgt := 597) hx hb dL_cells_590 (by decide) (by omega) (by omega) (fun c_45 => absurd c_45 (by omega)) (fun c_45 => ?_)
                                  refine z_iconst hx hb dL_cells_593 ?_
                                  refine lv_goto (tgt := 598) hx hb dL_cells_594 (by decide) ?_
                                  exact hret q1 _ _ _ _ ⟨hRq1, hcq1.2.1⟩ dL_cells_598 hP hD hS
                            have hV : waV (SS.G q) rw0 = (if rw0 = 6 then -1000001 else wr) := by
                              by_cases c : rw0 = 6
                              · rw [if_pos c]; exact if_neg (by omega)
                              · rw [if_neg c, show waV (SS.G q) rw0 = _ from if_pos (by omega), lostAnew_eq]; omega
                            refine lv_iload_n hx hb dL_cells_511 rfl (lv_at hl 12 rfl) ?_
                            refine z_bipush hx hb dL_cells_512 (by decide +kernel) ?_
                            refine z_icmp_ne (tgt := 522) hx hb dL_cells_514 (by decide) (by omega) (by omega) (fun c_46 => ?_) (fun c_46 => ?_)
                            · refine lv_iload hx hb dL_cells_522 (lv_at hl 1 rfl) ?_
                              exact J_32 wr _ _ (by omega) hP hD hS
                            · refine z_ldc hx hb (-1000001) (by decide +kernel) hown (hq _ q_371) dL_cells_517 ?_
                              refine lv_goto (tgt := 524) hx hb dL_cells_519 (by decide) ?_
                              exact J_32 (-1000001) _ _ (by omega) hP hD hS
                          refine lv_iload_n hx hb dL_cells_479 rfl (lv_at hl 10 rfl) ?_
                          refine z_bipush hx hb dL_cells_480 (by decide +kernel) ?_
                          refine z_icmp_ne (tgt := 489) hx hb dL_cells_482 (by decide) (by omega) (by omega) (fun c_47 => ?_) (fun c_47 => ?_)
                          · refine lv_aload_n hx hb dL_cells_489 rfl (lv_at hl 11 rfl) ?_
                            refine lv_iload_n hx hb dL_cells_490 rfl (lv_at hl 10 rfl) ?_
                            refine z_bipush hx hb dL_cells_491 (by decide +kernel) ?_
                            refine mw_full (st1 := [.int (iI (wrongZ (SS.G q) rw0))]) (mr_V (As := [.int (iI rw0), .int (iI 6)]) (rest := []) (ci := 2) (q0 := 0) ⟨hx, hb, hml, hown, hts⟩ (rd_row6 l D xo xh t ta cI cC cH h rw0 (by omega)) (cwV 2 hts (gV q_350 q_351 q_352 q_37 q_262) rfl rfl rfl (by decide +kernel) ⟨Nat.le_trans (m := 5) (Nat.le_of_ble_eq_true rfl) (Nat.le_trans (Nat.le_of_ble_eq_true rfl) hRf), Nat.le_trans (m := 116) (Nat.le_of_ble_eq_true rfl) (Nat.le_trans (Nat.le_of_ble_eq_true rfl) hRl)⟩) hN hK hP hD rfl rfl rfl hl.1 (Nat.le_of_ble_eq_true rfl) ⟨hRc, hRs⟩ dL_cells_493) hD hS hA rfl (fun H locs hP hD hS => ?_)
                            have hv_48 := rb_row6 h rw0 (by omega)
                            exact J_29 (wrongZ (SS.G q) rw0) _ _ (by omega) hP hD hS
                          · refine z_iconst hx hb dL_cells_485 ?_
                            refine lv_goto (tgt := 496) hx hb dL_cells_486 (by decide) ?_
                            exact J_29 0 _ _ (by omega) hP hD hS
                        · refine lv_aload_n hx hb dL_cells_434 rfl (lv_at hl 11 rfl) ?_
                          refine lv_iload_n hx hb dL_cells_435 rfl (lv_at hl 10 rfl) ?_
                          refine lv_iload hx hb dL_cells_436 (lv_at hl 2 rfl) ?_
                          obtain ⟨q1, mxq1, hcq1, hTq1⟩ := sc_fill l D xo xh t ta cI cC cH h (by omega) rw0 wd (by omega) (by omega)
                          have hRq1 := hcq1.1
                          refine mw_full (st1 := [.int (iI (wwV (SS.G q) rw0 wd))]) (mr_V (As := [.int (iI rw0), .int (iI wd)]) (rest := []) (ci := 2) (q0 := 0) ⟨hx, hb, hml, hown, hts⟩ mxq1 (cwV 2 hts (gV q_412 q_413 q_414 q_37 q_232) rfl rfl rfl (by decide +kernel) ⟨Nat.le_trans (m := 5) (Nat.le_of_ble_eq_true rfl) (Nat.le_trans (Nat.le_of_ble_eq_true rfl) hRf), Nat.le_trans (m := 119) (Nat.le_of_ble_eq_true rfl) (Nat.le_trans (Nat.le_of_ble_eq_true rfl) hRl)⟩) hN hK hP hD rfl rfl rfl hl.1 (Nat.le_of_ble_eq_true rfl) ⟨hRc, hRs⟩ dL_cells_438) hD hS hA rfl (fun H locs hP hD hS => ?_)
                          have hV : wwV (SS.G q) rw0 wd = (if no = 0 then bf else -1000001) := by
                            by_cases c : no = 0
                            · rw [if_pos c, show wwV (SS.G q) rw0 wd = _ from if_pos (by omega)]; omega
                            · rw [if_neg c]; exact if_neg (by omega)
                          have J_49 : ∀ (bz_50 : Int) (H : Heap) (locs : List Loc), (bz_50 = (if no = 0 then bf else -1000001)) → va_P D vwCl (wS xo xh t ta cI cC cH q1) H → va_D A (wS xo xh t ta cI cC cH q1) → va_S A s.heap H locs → W p l e R s m args below meth c H locs 0 0 Q (F0 m 453 ls [.int (iI bz_50), .int (iI (wwV (SS.G q) rw0 wd))]) := by
                            intro bz_50 H locs hbz_50 hP hD hS
                            refine z_icmp_ne (tgt := 477) hx hb dL_cells_453 (by decide) (by omega) (by omega) (fun c_51 => absurd c_51 (by omega)) (fun c_51 => ?_)
                            refine lv_iload hx hb dL_cells_456 (lv_at hl 0 rfl) ?_
                            refine z_if_ne (tgt := 473) hx hb dL_cells_458 (by decide) (by omega) (fun c_52 => ?_) (fun c_52 => ?_)
                            · refine z_iconst hx hb dL_cells_473 ?_
                              refine lv_goto (tgt := 478) hx hb dL_cells_474 (by decide) ?_
                              exact hret q1 _ _ _ _ ⟨hRq1, hcq1.2.1⟩ dL_cells_478 hP hD hS
                            · have c11 : levelWordZ (SS.G q1) rw0 = wd := by rw [hcq1.2.2.1, show wwG (SS.G q) rw0 wd = _ from if_pos (by omega)]; exact fill_word _ _ (by omega)
                              refine lv_aload_n hx hb dL_cells_461 rfl (lv_at hl 11 rfl) ?_
                              refine lv_iload_n hx hb dL_cells_462 rfl (lv_at hl 10 rfl) ?_
                              refine z_bipush hx hb dL_cells_463 (by decide +kernel) ?_
                              refine mw_full (st1 := [.int (iI (levelWordZ (SS.G q1) rw0))]) (mr_V (As := [.int (iI rw0), .int (iI 11)]) (rest := []) (ci := 2) (q0 := 0) ⟨hx, hb, hml, hown, hts⟩ (rd_row11 l D xo xh t ta cI cC cH hRq1 rw0 (by omega)) (cwV 2 hts (gV q_350 q_351 q_352 q_37 q_262) rfl rfl rfl (by decide +kernel) ⟨Nat.le_trans (m := 5) (Nat.le_of_ble_eq_true rfl) (Nat.le_trans (Nat.le_of_ble_eq_true rfl) hRf), Nat.le_trans (m := 116) (Nat.le_of_ble_eq_true rfl) (Nat.le_trans (Nat.le_of_ble_eq_true rfl) hRl)⟩) hN hK hP hD rfl rfl rfl hl.1 (Nat.le_of_ble_eq_true rfl) ⟨hRc, hRs⟩ dL_cells_465) hD hS hA rfl (fun H locs hP hD hS => ?_)
                              have hv_53 := rb_row11 hRq1 rw0 (by omega)
                              refine lv_iload hx hb dL_cells_468 (lv_at hl 2 rfl) ?_
                              refine z_icmp_ne (tgt := 477) hx hb dL_cells_470 (by decide) (by omega) (by omega) (fun c_54 => absurd c_54 (by omega)) (fun c_54 => ?_)
                              refine z_iconst hx hb dL_cells_473 ?_
                              refine lv_goto (tgt := 478) hx hb dL_cells_474 (by decide) ?_
                              exact hret q1 _ _ _ _ ⟨hRq1, hcq1.2.1⟩ dL_cells_478 hP hD hS
                          have hV : wwV (SS.G q) rw0 wd = (if no = 0 then bf else -1000001) := by
                            by_cases c : no = 0
                            · rw [if_pos c, show wwV (SS.G q) rw0 wd = _ from if_pos (by omega)]; omega
                            · rw [if_neg c]; exact if_neg (by omega)
                          refine lv_iload hx hb dL_cells_441 (lv_at hl 0 rfl) ?_
                          refine z_if_eq (tgt := 451) hx hb dL_cells_443 (by decide) (by omega) (fun c_55 => ?_) (fun c_55 => ?_)
                          · refine lv_iload hx hb dL_cells_451 (lv_at hl 1 rfl) ?_
                            exact J_49 bf _ _ (by omega) hP hD hS
                          · refine z_ldc hx hb (-1000001) (by decide +kernel) hown (hq _ q_371) dL_cells_446 ?_
                            refine lv_goto (tgt := 453) hx hb dL_cells_448 (by decide) ?_
                            exact J_49 (-1000001) _ _ (by omega) hP hD hS
                      refine lv_iload_n hx hb dL_cells_407 rfl (lv_at hl 9 rfl) ?_
                      refine z_bipush hx hb dL_cells_408 (by decide +kernel) ?_
                      refine z_icmp_eq (tgt := 421) hx hb dL_cells_410 (by decide) (by omega) (by omega) (fun c_56 => ?_) (fun c_56 => ?_)
                      · refine z_iconst hx hb dL_cells_421 ?_
                        refine lv_goto (tgt := 426) hx hb dL_cells_422 (by decide) ?_
                        exact J_26 1 _ _ (by omega) hP hD hS
                      · refine lv_iload hx hb dL_cells_413 (lv_at hl 1 rfl) ?_
                        refine z_sipush hx hb dL_cells_415 (by decide +kernel) ?_
                        refine z_icmp_ne (tgt := 425) hx hb dL_cells_418 (by decide) (by omega) (by omega) (fun c_57 => ?_) (fun c_57 => ?_)
                        · refine z_iconst hx hb dL_cells_425 ?_
                          exact J_26 0 _ _ (by omega) hP hD hS
                        · refine z_iconst hx hb dL_cells_421 ?_
                          refine lv_goto (tgt := 426) hx hb dL_cells_422 (by decide) ?_
                          exact J_26 1 _ _ (by omega) hP hD hS
                    refine lv_iload_n hx hb dL_cells_388 rfl (lv_at hl 8 rfl) ?_
                    refine z_bipush hx hb dL_cells_389 (by decide +kernel) ?_
                    refine z_icmp_ne (tgt := 398) hx hb dL_cells_391 (by decide) (by omega) (by omega) (fun c_58 => ?_) (fun c_58 => ?_)
                    · refine lv_aload_n hx hb dL_cells_398 rfl (lv_at hl 9 rfl) ?_
                      refine lv_iload_n hx hb dL_cells_399 rfl (lv_at hl 8 rfl) ?_
                      refine z_bipush hx hb dL_cells_400 (by decide +kernel) ?_
                      refine mw_full (st1 := [.int (iI (toldWordZ (SS.G q) rw0))]) (mr_V (As := [.int (iI rw0), .int (iI 10)]) (rest := []) (ci := 2) (q0 := 0) ⟨hx, hb, hml, hown, hts⟩ (rd_row10 l D xo xh t ta cI cC cH h rw0 (by omega)) (cwV 2 hts (gV q_350 q_351 q_352 q_37 q_262) rfl rfl rfl (by decide +kernel) ⟨Nat.le_trans (m := 5) (Nat.le_of_ble_eq_true rfl) (Nat.le_trans (Nat.le_of_ble_eq_true rfl) hRf), Nat.le_trans (m := 116) (Nat.le_of_ble_eq_true rfl) (Nat.le_trans (Nat.le_of_ble_eq_true rfl) hRl)⟩) hN hK hP hD rfl rfl rfl hl.1 (Nat.le_of_ble_eq_true rfl) ⟨hRc, hRs⟩ dL_cells_402) hD hS hA rfl (fun H locs hP hD hS => ?_)
                      have hv_59 := rb_row10 h rw0 (by omega)
                      exact J_24 (toldWordZ (SS.G q) rw0) _ _ (by omega) hP hD hS
                    · refine z_iconst hx hb dL_cells_394 ?_
                      refine lv_goto (tgt := 405) hx hb dL_cells_395 (by decide) ?_
                      exact J_24 0 _ _ (by omega) hP hD hS
                  · refine lv_aload_n hx hb dL_cells_298 rfl (lv_at hl 8 rfl) ?_
                    refine z_bipush hx hb dL_cells_299 (by decide +kernel) ?_
                    refine mw_full (st1 := [.int (iI (sumZ 9 (SS.G q 10)))]) (mr_V (As := [.int (iI 10)]) (rest := []) (ci := 2) (q0 := 0) ⟨hx, hb, hml, hown, hts⟩ (rd_cnt10 l D xo xh t ta cI cC cH h (by omega)) (cwV 1 hts (gV q_344 q_345 q_346 q_37 q_304) rfl rfl rfl (by decide +kernel) ⟨Nat.le_trans (m := 6) (Nat.le_of_ble_eq_true rfl) (Nat.le_trans (Nat.le_of_ble_eq_true rfl) hRf), Nat.le_trans (m := 133) (Nat.le_of_ble_eq_true rfl) (Nat.le_trans (Nat.le_of_ble_eq_true rfl) hRl)⟩) hN hK hP hD rfl rfl rfl hl.1 (Nat.le_of_ble_eq_true rfl) ⟨hRc, hRs⟩ dL_cells_301) hD hS hA rfl (fun H locs hP hD hS => ?_)
                    have hv_60 := rb_cnt10 h (by omega)
                    obtain ⟨all0, e_all0⟩ : ∃ z : Int, z = (sumZ 9 (SS.G q 10)) := ⟨_, rfl⟩
                    refine z_as e_all0.symm ?_
                    refine lv_istore (lv' := [(11, .int (iI all0)), (10, .int (iI asked)), (9, .int (iI times)), (8, .int (iI had)), (7, .int (iI told)), (6, .int (iI bd)), (5, .int (iI lv)), (4, .int (iI cc)), (3, .int (iI rw0)), (0, .ref xo), (1, .int (iI how)), (2, .int (iI y))]) hx hb dL_cells_304 hl (by decide) rfl (fun ls hl => ?_)
                    refine lv_aload_n hx hb dL_cells_306 rfl (lv_at hl 9 rfl) ?_
                    refine lv_iload_n hx hb dL_cells_307 rfl (lv_at hl 8 rfl) ?_
                    refine lv_iload hx hb dL_cells_308 (lv_at hl 7 rfl) ?_
                    obtain ⟨q1, mxq1, hcq1, hTq1⟩ := sc_ask l D xo xh t ta cI cC cH h (by omega) rw0 cc (by omega) (by omega)
                    have hRq1 := hcq1.1
                    refine mw_full (st1 := [.int (iI (acV (SS.G q) rw0 cc))]) (mr_V (As := [.int (iI rw0), .int (iI cc)]) (rest := []) (ci := 2) (q0 := 0) ⟨hx, hb, hml, hown, hts⟩ mxq1 (cwV 2 hts (gV q_409 q_410 q_411 q_37 q_238) rfl rfl rfl (by decide +kernel) ⟨Nat.le_trans (m := 4) (Nat.le_of_ble_eq_true rfl) (Nat.le_trans (Nat.le_of_ble_eq_true rfl) hRf), Nat.le_trans (m := 93) (Nat.le_of_ble_eq_true rfl) (Nat.le_trans (Nat.le_of_ble_eq_true rfl) hRl)⟩) hN hK hP hD rfl rfl rfl hl.1 (Nat.le_of_ble_eq_true rfl) ⟨hRc, hRs⟩ dL_cells_310) hD hS hA rfl (fun H locs hP hD hS => ?_)
                    have hV : acV (SS.G q) rw0 cc = (if bd = 0 then told else -1000001) := by
                      by_cases c : bd = 0
                      · rw [if_pos c, show acV (SS.G q) rw0 cc = _ from if_pos (by omega), e1t c]
                      · rw [if_neg c]; exact if_neg (by omega)
                    have J_61 : ∀ (bz_62 : Int) (H : Heap) (locs : List Loc), (bz_62 = (if bd = 0 then told else -1000001)) → va_P D vwCl (wS xo xh t ta cI cC cH q1) H → va_D A (wS xo xh t ta cI cC cH q1) → va_S A s.heap H locs → W p l e R s m args below meth c H locs 0 0 Q (F0 m 325 ls [.int (iI bz_62), .int (iI (acV (SS.G q) rw0 cc))]) := by
                      intro bz_62 H locs hbz_62 hP hD hS
                      refine z_icmp_ne (tgt := 374) hx hb dL_cells_325 (by decide) (by omega) (by omega) (fun c_63 => absurd c_63 (by omega)) (fun c_63 => ?_)
                      have hs10 : sumZ 9 (SS.G q1 10) = all0 + (if bd = 0 then 1 else 0) := by
                        by_cases c : bd = 0
                        · rw [hcq1.2.2.1, show acG (SS.G q) rw0 cc = _ from if_pos (by omega), (ask_10 h.1.1 (by omega) (by omega)).1, if_pos c, e_all0]
                        · rw [hcq1.2.2.1, show acG (SS.G q) rw0 cc = _ from if_neg (by omega), if_neg c, e_all0]; omega
                      refine lv_aload_n hx hb dL_cells_328 rfl (lv_at hl 9 rfl) ?_
                      refine z_bipush hx hb dL_cells_329 (by decide +kernel) ?_
                      refine mw_full (st1 := [.int (iI (sumZ 9 (SS.G q1 10)))]) (mr_V (As := [.int (iI 10)]) (rest := []) (ci := 2) (q0 := 0) ⟨hx, hb, hml, hown, hts⟩ (rd_cnt10 l D xo xh t ta cI cC cH hRq1 (by omega)) (cwV 1 hts (gV q_344 q_345 q_346 q_37 q_304) rfl rfl rfl (by decide +kernel) ⟨Nat.le_trans (m := 6) (Nat.le_of_ble_eq_true rfl) (Nat.le_trans (Nat.le_of_ble_eq_true rfl) hRf), Nat.le_trans (m := 133) (Nat.le_of_ble_eq_true rfl) (Nat.le_trans (Nat.le_of_ble_eq_true rfl) hRl)⟩) hN hK hP hD rfl rfl rfl hl.1 (Nat.le_of_ble_eq_true rfl) ⟨hRc, hRs⟩ dL_cells_331) hD hS hA rfl (fun H locs hP hD hS => ?_)
                      have hv_64 := rb_cnt10 hRq1 (by omega)
                      refine lv_iload hx hb dL_cells_334 (lv_at hl 0 rfl) ?_
                      have J_65 : ∀ (bz_66 : Int) (H : Heap) (locs : List Loc), (bz_66 = (if bd = 0 then 1 else 0)) → va_P D vwCl (wS xo xh t ta cI cC cH q1) H → va_D A (wS xo xh t ta cI cC cH q1) → va_S A s.heap H locs → W p l e R s m args below meth c H locs 0 0 Q (F0 m 346 ls [.int (iI bz_66), .int (iI all0), .int (iI (sumZ 9 (SS.G q1 10)))]) := by
                        intro bz_66 H locs hbz_66 hP hD hS
                        refine z_iadd hx hb dL_cells_346 ?_
                        refine z_icmp_ne (tgt := 374) hx hb dL_cells_347 (by decide) (by omega) (by omega) (fun c_67 => absurd c_67 (by omega)) (fun c_67 => ?_)
                        refine lv_iload hx hb dL_cells_350 (lv_at hl 5 rfl) ?_
                        refine z_if_ne (tgt := 370) hx hb dL_cells_352 (by decide) (by omega) (fun c_68 => ?_) (fun c_68 => ?_)
                        · refine z_iconst hx hb dL_cells_370 ?_
                          refine lv_goto (tgt := 375) hx hb dL_cells_371 (by decide) ?_
                          exact hret q1 _ _ _ _ ⟨hRq1, hcq1.2.1⟩ dL_cells_375 hP hD hS
                        · have c10 : SS.G q1 10 (3 * had + told) = asked + 1 := by
                            have ea : asked = SS.G q 10 (3 * had + told) := by omega
                            rw [ea, e1h (by omega), e1t (by omega), hcq1.2.2.1, show acG (SS.G q) rw0 cc = _ from if_pos (by omega), (ask_10 h.1.1 (by omega) (by omega)).2]
                          refine lv_aload_n hx hb dL_cells_355 rfl (lv_at hl 9 rfl) ?_
                          refine lv_iload hx hb dL_cells_356 (lv_at hl 3 rfl) ?_
                          refine lv_iload hx hb dL_cells_358 (lv_at hl 4 rfl) ?_
                          refine mw_full (st1 := [.int (iI (SS.G q1 10 (3 * had + told)))]) (mr_V (As := [.int (iI had), .int (iI told)]) (rest := []) (ci := 2) (q0 := 0) ⟨hx, hb, hml, hown, hts⟩ (rd_tbl l D xo xh t ta cI cC cH hRq1 had told (by omega) (by omega)) (cwV 2 hts (gV q_347 q_348 q_349 q_37 q_266) rfl rfl rfl (by decide +kernel) ⟨Nat.le_trans (m := 3) (Nat.le_of_ble_eq_true rfl) (Nat.le_trans (Nat.le_of_ble_eq_true rfl) hRf), Nat.le_trans (m := 66) (Nat.le_of_ble_eq_true rfl) (Nat.le_trans (Nat.le_of_ble_eq_true rfl) hRl)⟩) hN hK hP hD rfl rfl rfl hl.1 (Nat.le_of_ble_eq_true rfl) ⟨hRc, hRs⟩ dL_cells_360) hD hS hA rfl (fun H locs hP hD hS => ?_)
                          have hv_69 := rb_tbl hRq1 had told (by omega) (by omega) (by omega)
                          refine lv_iload hx hb dL_cells_363 (lv_at hl 1 rfl) ?_
                          refine z_iconst hx hb dL_cells_365 ?_
                          refine z_iadd hx hb dL_cells_366 ?_
                          refine z_icmp_ne (tgt := 374) hx hb dL_cells_367 (by decide) (by omega) (by omega) (fun c_70 => absurd c_70 (by omega)) (fun c_70 => ?_)
                          refine z_iconst hx hb dL_cells_370 ?_
                          refine lv_goto (tgt := 375) hx hb dL_cells_371 (by decide) ?_
                          exact hret q1 _ _ _ _ ⟨hRq1, hcq1.2.1⟩ dL_cells_375 hP hD hS
                      refine lv_iload hx hb dL_cells_336 (lv_at hl 5 rfl) ?_
                      refine z_if_eq (tgt := 345) hx hb dL_cells_338 (by decide) (by omega) (fun c_71 => ?_) (fun c_71 => ?_)
                      · refine z_iconst hx hb dL_cells_345 ?_
                        exact J_65 1 _ _ (by omega) hP hD hS
                      · refine z_iconst hx hb dL_cells_341 ?_
                        refine lv_goto (tgt := 346) hx hb dL_cells_342 (by decide) ?_
                        exact J_65 0 _ _ (by omega) hP hD hS
                    have hV : acV (SS.G q) rw0 cc = (if bd = 0 then told else -1000001) := by
                      by_cases c : bd = 0
                      · rw [if_pos c, show acV (SS.G q) rw0 cc = _ from if_pos (by omega), e1t c]
                      · rw [if_neg c]; exact if_neg (by omega)
                    refine lv_iload hx hb dL_cells_313 (lv_at hl 5 rfl) ?_
                    refine z_if_eq (tgt := 323) hx hb dL_cells_315 (by decide) (by omega) (fun c_72 => ?_) (fun c_72 => ?_)
                    · refine lv_iload hx hb dL_cells_323 (lv_at hl 4 rfl) ?_
                      exact J_61 told _ _ (by omega) hP hD hS
                    · refine z_ldc hx hb (-1000001) (by decide +kernel) hown (hq _ q_371) dL_cells_318 ?_
                      refine lv_goto (tgt := 325) hx hb dL_cells_320 (by decide) ?_
                      exact J_61 (-1000001) _ _ (by omega) hP hD hS
                · refine z_bipush hx hb dL_cells_161 (by decide +kernel) ?_
                  refine z_sipush hx hb dL_cells_163 (by decide +kernel) ?_
                  refine lv_iload hx hb dL_cells_166 (lv_at hl 5 rfl) ?_
                  refine z_imul hx hb dL_cells_168 ?_
                  refine z_iadd hx hb dL_cells_169 ?_
                  refine z_bipush hx hb dL_cells_170 (by decide +kernel) ?_
                  refine z_bipush hx hb dL_cells_172 (by decide +kernel) ?_
                  refine lv_iload_n hx hb dL_cells_174 rfl (lv_at hl 7 rfl) ?_
                  refine z_imul hx hb dL_cells_175 ?_
                  refine lv_iload hx hb dL_cells_176 (lv_at hl 6 rfl) ?_
                  refine z_iadd hx hb dL_cells_178 ?_
                  refine z_imul hx hb dL_cells_179 ?_
                  refine z_bipush hx hb dL_cells_180 (by decide +kernel) ?_
                  refine lv_iload hx hb dL_cells_182 (lv_at hl 1 rfl) ?_
                  refine z_imul hx hb dL_cells_184 ?_
                  refine z_iadd hx hb dL_cells_185 ?_
                  refine z_bipush hx hb dL_cells_186 (by decide +kernel) ?_
                  refine z_irem hx hb dL_cells_188 (by omega) (by omega) ?_
                  refine z_iadd hx hb dL_cells_189 ?_
                  obtain ⟨due, e_due⟩ : ∃ z : Int, z = ((90 + (400 * lv)) + (((37 * ((8 * rw0) + cc)) + (11 * times)) % 21)) := ⟨_, rfl⟩
                  refine z_as e_due.symm ?_
                  refine lv_istore (lv' := [(11, .int (iI due)), (10, .int (iI asked)), (9, .int (iI times)), (8, .int (iI had)), (7, .int (iI told)), (6, .int (iI bd)), (5, .int (iI lv)), (4, .int (iI cc)), (3, .int (iI rw0)), (0, .ref xo), (1, .int (iI how)), (2, .int (iI y))]) hx hb dL_cells_190 hl (by decide) rfl (fun ls hl => ?_)
                  refine lv_aload_n hx hb dL_cells_192 rfl (lv_at hl 9 rfl) ?_
                  refine lv_iload_n hx hb dL_cells_193 rfl (lv_at hl 8 rfl) ?_
                  refine lv_iload hx hb dL_cells_194 (lv_at hl 7 rfl) ?_
                  refine lv_iload hx hb dL_cells_196 (lv_at hl 6 rfl) ?_
                  obtain ⟨q1, mxq1, hcq1, hTq1⟩ := sc_write l D xo xh t ta cI cC cH h (by omega) rw0 cc lv (by omega) (by omega) (by omega)
                  have hRq1 := hcq1.1
                  refine mw_full (st1 := [.int (iI (wlV (SS.G q) rw0 cc lv))]) (mr_V (As := [.int (iI rw0), .int (iI cc), .int (iI lv)]) (rest := []) (ci := 2) (q0 := 0) ⟨hx, hb, hml, hown, hts⟩ mxq1 (cwV 3 hts (gV q_406 q_407 q_408 q_37 q_228) rfl rfl rfl (by decide +kernel) ⟨Nat.le_trans (m := 4) (Nat.le_of_ble_eq_true rfl) (Nat.le_trans (Nat.le_of_ble_eq_true rfl) hRf), Nat.le_trans (m := 90) (Nat.le_of_ble_eq_true rfl) (Nat.le_trans (Nat.le_of_ble_eq_true rfl) hRl)⟩) hN hK hP hD rfl rfl rfl hl.1 (Nat.le_of_ble_eq_true rfl) ⟨hRc, hRs⟩ dL_cells_198) hD hS hA rfl (fun H locs hP hD hS => ?_)
                  have hV : wlV (SS.G q) rw0 cc lv = (if bd = 1 ∨ lv = 3 then -1000001 else due) := by
                    by_cases c : bd = 1 ∨ lv = 3
                    · rw [if_pos c]; exact if_neg (by omega)
                    · rw [if_neg c, show wlV (SS.G q) rw0 cc lv = _ from if_pos (by omega), put_1, e_due, e1m (by omega)]; unfold aimZ; omega
                  have J_73 : ∀ (bz_74 : Int) (H : Heap) (locs : List Loc), (bz_74 = (if bd = 1 ∨ lv = 3 then -1000001 else due)) → va_P D vwCl (wS xo xh t ta cI cC cH q1) H → va_D A (wS xo xh t ta cI cC cH q1) → va_S A s.heap H locs → W p l e R s m args below meth c H locs 0 0 Q (F0 m 219 ls [.int (iI bz_74), .int (iI (wlV (SS.G q) rw0 cc lv))]) := by
                    intro bz_74 H locs hbz_74 hP hD hS
                    refine z_icmp_ne (tgt := 290) hx hb dL_cells_219 (by decide) (by omega) (by omega) (fun c_75 => absurd c_75 (by omega)) (fun c_75 => ?_)
                    refine lv_iload hx hb dL_cells_222 (lv_at hl 5 rfl) ?_
                    refine z_if_ne (tgt := 286) hx hb dL_cells_224 (by decide) (by omega) (fun c_76 => ?_) (fun c_76 => ?_)
                    · refine z_iconst hx hb dL_cells_286 ?_
                      refine lv_goto (tgt := 291) hx hb dL_cells_287 (by decide) ?_
                      exact hret q1 _ _ _ _ ⟨hRq1, hcq1.2.1⟩ dL_cells_291 hP hD hS
                    · refine lv_iload hx hb dL_cells_227 (lv_at hl 6 rfl) ?_
                      refine z_iconst hx hb dL_cells_229 ?_
                      refine z_icmp_eq (tgt := 286) hx hb dL_cells_230 (by decide) (by omega) (by omega) (fun c_77 => ?_) (fun c_77 => ?_)
                      · refine z_iconst hx hb dL_cells_286 ?_
                        refine lv_goto (tgt := 291) hx hb dL_cells_287 (by decide) ?_
                        exact hret q1 _ _ _ _ ⟨hRq1, hcq1.2.1⟩ dL_cells_291 hP hD hS
                      · have eG : SS.G q1 = putZ (SS.G q) (8 * rw0 + cc) lv := hcq1.2.2.1.trans (if_pos (by omega))
                        have c0 : SS.G q1 0 (8 * rw0 + cc) = lv := by rw [eG, put_0]
                        have c1 : SS.G q1 1 (8 * rw0 + cc) = due := by
                          have e := hV
                          rw [if_neg (by omega), show wlV (SS.G q) rw0 cc lv = _ from if_pos (by omega)] at e
                          rw [eG]; exact e
                        have c5 : SS.G q1 2 (8 * rw0 + cc) = times + 1 := by rw [eG, put_2, e1m (by omega)]
                        have c7 : SS.G q1 12 0 - SS.G q1 3 (8 * rw0 + cc) = 0 := by rw [eG, put_3, put_k 12 (by omega)]; omega
                        refine lv_aload_n hx hb dL_cells_233 rfl (lv_at hl 9 rfl) ?_
                        refine lv_iload_n hx hb dL_cells_234 rfl (lv_at hl 8 rfl) ?_
                        refine lv_iload hx hb dL_cells_235 (lv_at hl 7 rfl) ?_
                        refine z_iconst hx hb dL_cells_237 ?_
                        refine mw_full (st1 := [.int (iI (SS.G q1 0 (8 * rw0 + cc)))]) (mr_V (As := [.int (iI rw0), .int (iI cc), .int (iI 0)]) (rest := []) (ci := 2) (q0 := 0) ⟨hx, hb, hml, hown, hts⟩ (rd_cell0 l D xo xh t ta cI cC cH hRq1 rw0 cc (by omega) (by omega)) (cwV 3 hts (gV q_356 q_357 q_358 q_37 q_254) rfl rfl rfl (by decide +kernel) ⟨Nat.le_trans (m := 4) (Nat.le_of_ble_eq_true rfl) (Nat.le_trans (Nat.le_of_ble_eq_true rfl) hRf), Nat.le_trans (m := 96) (Nat.le_of_ble_eq_true rfl) (Nat.le_trans (Nat.le_of_ble_eq_true rfl) hRl)⟩) hN hK hP hD rfl rfl rfl hl.1 (Nat.le_of_ble_eq_true rfl) ⟨hRc, hRs⟩ dL_cells_238) hD hS hA rfl (fun H locs hP hD hS => ?_)
                        have hv_78 := rb_cell0 hRq1 rw0 cc (by omega) (by omega)
                        refine lv_iload hx hb dL_cells_241 (lv_at hl 6 rfl) ?_
                        refine z_icmp_ne (tgt := 290) hx hb dL_cells_243 (by decide) (by omega) (by omega) (fun c_79 => absurd c_79 (by omega)) (fun c_79 => ?_)
                        refine lv_aload_n hx hb dL_cells_246 rfl (lv_at hl 9 rfl) ?_
                        refine lv_iload_n hx hb dL_cells_247 rfl (lv_at hl 8 rfl) ?_
                        refine lv_iload hx hb dL_cells_248 (lv_at hl 7 rfl) ?_
                        refine z_iconst hx hb dL_cells_250 ?_
                        refine mw_full (st1 := [.int (iI (SS.G q1 1 (8 * rw0 + cc)))]) (mr_V (As := [.int (iI rw0), .int (iI cc), .int (iI 1)]) (rest := []) (ci := 2) (q0 := 0) ⟨hx, hb, hml, hown, hts⟩ (rd_cell1 l D xo xh t ta cI cC cH hRq1 rw0 cc (by omega) (by omega)) (cwV 3 hts (gV q_356 q_357 q_358 q_37 q_254) rfl rfl rfl (by decide +kernel) ⟨Nat.le_trans (m := 4) (Nat.le_of_ble_eq_true rfl) (Nat.le_trans (Nat.le_of_ble_eq_true rfl) hRf), Nat.le_trans (m := 96) (Nat.le_of_ble_eq_true rfl) (Nat.le_trans (Nat.le_of_ble_eq_true rfl) hRl)⟩) hN hK hP hD rfl rfl rfl hl.1 (Nat.le_of_ble_eq_true rfl) ⟨hRc, hRs⟩ dL_cells_251) hD hS hA rfl (fun H locs hP hD hS => ?_)
                        have hv_80 := rb_cell1 hRq1 rw0 cc (by omega) (by omega)
                        refine lv_iload hx hb dL_cells_254 (lv_at hl 0 rfl) ?_
                        refine z_icmp_ne (tgt := 290) hx hb dL_cells_256 (by decide) (by omega) (by omega) (fun c_81 => absurd c_81 (by omega)) (fun c_81 => ?_)
                        refine lv_aload_n hx hb dL_cells_259 rfl (lv_at hl 9 rfl) ?_
                        refine lv_iload_n hx hb dL_cells_260 rfl (lv_at hl 8 rfl) ?_
                        refine lv_iload hx hb dL_cells_261 (lv_at hl 7 rfl) ?_
                        refine z_iconst hx hb dL_cells_263 ?_
                        refine mw_full (st1 := [.int (iI (SS.G q1 2 (8 * rw0 + cc)))]) (mr_V (As := [.int (iI rw0), .int (iI cc), .int (iI 5)]) (rest := []) (ci := 2) (q0 := 0) ⟨hx, hb, hml, hown, hts⟩ (rd_cell5 l D xo xh t ta cI cC cH hRq1 rw0 cc (by omega) (by omega) (by omega)) (cwV 3 hts (gV q_356 q_357 q_358 q_37 q_254) rfl rfl rfl (by decide +kernel) ⟨Nat.le_trans (m := 4) (Nat.le_of_ble_eq_true rfl) (Nat.le_trans (Nat.le_of_ble_eq_true rfl) hRf), Nat.le_trans (m := 96) (Nat.le_of_ble_eq_true rfl) (Nat.le_trans (Nat.le_of_ble_eq_true rfl) hRl)⟩) hN hK hP hD rfl rfl rfl hl.1 (Nat.le_of_ble_eq_true rfl) ⟨hRc, hRs⟩ dL_cells_264) hD hS hA rfl (fun H locs hP hD hS => ?_)
                        have hv_82 := rb_cell5 hRq1 rw0 cc (by omega) (by omega) (by omega)
                        refine lv_iload hx hb dL_cells_267 (lv_at hl 2 rfl) ?_
                        refine z_iconst hx hb dL_cells_269 ?_
                        refine z_iadd hx hb dL_cells_270 ?_
                        refine z_icmp_ne (tgt := 290) hx hb dL_cells_271 (by decide) (by omega) (by omega) (fun c_83 => absurd c_83 (by omega)) (fun c_83 => ?_)
                        refine lv_aload_n hx hb dL_cells_274 rfl (lv_at hl 9 rfl) ?_
                        refine lv_iload_n hx hb dL_cells_275 rfl (lv_at hl 8 rfl) ?_
                        refine lv_iload hx hb dL_cells_276 (lv_at hl 7 rfl) ?_
                        refine z_bipush hx hb dL_cells_278 (by decide +kernel) ?_
                        refine mw_full (st1 := [.int (iI (SS.G q1 12 0 - SS.G q1 3 (8 * rw0 + cc)))]) (mr_V (As := [.int (iI rw0), .int (iI cc), .int (iI 7)]) (rest := []) (ci := 2) (q0 := 0) ⟨hx, hb, hml, hown, hts⟩ (rd_cell7 l D xo xh t ta cI cC cH hRq1 rw0 cc (by omega) (by omega)) (cwV 3 hts (gV q_356 q_357 q_358 q_37 q_254) rfl rfl rfl (by decide +kernel) ⟨Nat.le_trans (m := 4) (Nat.le_of_ble_eq_true rfl) (Nat.le_trans (Nat.le_of_ble_eq_true rfl) hRf), Nat.le_trans (m := 96) (Nat.le_of_ble_eq_true rfl) (Nat.le_trans (Nat.le_of_ble_eq_true rfl) hRl)⟩) hN hK hP hD rfl rfl rfl hl.1 (Nat.le_of_ble_eq_true rfl) ⟨hRc, hRs⟩ dL_cells_280) hD hS hA rfl (fun H locs hP hD hS => ?_)
                        have hv_84 := rb_cell7 hRq1 rw0 cc (by omega) (by omega)
                        refine z_if_ne (tgt := 290) hx hb dL_cells_283 (by decide) (by omega) (fun c_85 => absurd c_85 (by omega)) (fun c_85 => ?_)
                        refine z_iconst hx hb dL_cells_286 ?_
                        refine lv_goto (tgt := 291) hx hb dL_cells_287 (by decide) ?_
                        exact hret q1 _ _ _ _ ⟨hRq1, hcq1.2.1⟩ dL_cells_291 hP hD hS
                  have hV : wlV (SS.G q) rw0 cc lv = (if bd = 1 ∨ lv = 3 then -1000001 else due) := by
                    by_cases c : bd = 1 ∨ lv = 3
                    · rw [if_pos c]; exact if_neg (by omega)
                    · rw [if_neg c, show wlV (SS.G q) rw0 cc lv = _ from if_pos (by omega), put_1, e_due, e1m (by omega)]; unfold aimZ; omega
                  refine lv_iload hx hb dL_cells_201 (lv_at hl 5 rfl) ?_
                  refine z_if_ne (tgt := 212) hx hb dL_cells_203 (by decide) (by omega) (fun c_86 => ?_) (fun c_86 => ?_)
                  · refine z_ldc hx hb (-1000001) (by decide +kernel) hown (hq _ q_371) dL_cells_212 ?_
                    refine lv_goto (tgt := 219) hx hb dL_cells_214 (by decide) ?_
                    exact J_73 (-1000001) _ _ (by omega) hP hD hS
                  · refine lv_iload hx hb dL_cells_206 (lv_at hl 6 rfl) ?_
                    refine z_iconst hx hb dL_cells_208 ?_
                    refine z_icmp_ne (tgt := 217) hx hb dL_cells_209 (by decide) (by omega) (by omega) (fun c_87 => ?_) (fun c_87 => ?_)
                    · refine lv_iload hx hb dL_cells_217 (lv_at hl 0 rfl) ?_
                      exact J_73 due _ _ (by omega) hP hD hS
                    · refine z_ldc hx hb (-1000001) (by decide +kernel) hown (hq _ q_371) dL_cells_212 ?_
                      refine lv_goto (tgt := 219) hx hb dL_cells_214 (by decide) ?_
                      exact J_73 (-1000001) _ _ (by omega) hP hD hS
              have hbt : 0 ≤ told ∧ told ≤ 2 := by have := told_bd (SS.G q) rw0 cc; omega
              have hbh : 0 ≤ had ∧ had ≤ 2 := by
                by_cases c : bd = 0
                · have := invG_0 h.1.1 (8 * rw0 + cc) (by omega) (by omega); omega
                · omega
              have hbm : 0 ≤ times ∧ times ≤ 20000000 := by
                by_cases c : bd = 0
                · have := invG_2 h.1.1 (8 * rw0 + cc) (by omega) (by omega); omega
                · omega
              have e1t : bd = 0 → told = toldZ (SS.G q) rw0 cc := fun c => by omega
              have e1h : bd = 0 → had = SS.G q 0 (8 * rw0 + cc) := fun c => by omega
              have e1m : bd = 0 → times = SS.G q 2 (8 * rw0 + cc) := fun c => by omega
              refine lv_iload hx hb dL_cells_137 (lv_at hl 3 rfl) ?_
              refine z_if_eq (tgt := 146) hx hb dL_cells_139 (by decide) (by omega) (fun c_88 => ?_) (fun c_88 => ?_)
              · refine lv_aload_n hx hb dL_cells_146 rfl (lv_at hl 7 rfl) ?_
                refine lv_iload hx hb dL_cells_147 (lv_at hl 1 rfl) ?_
                refine lv_iload hx hb dL_cells_149 (lv_at hl 2 rfl) ?_
                refine mw_full (st1 := [.int (iI (SS.G q 10 (3 * had + told)))]) (mr_V (As := [.int (iI had), .int (iI told)]) (rest := []) (ci := 2) (q0 := 0) ⟨hx, hb, hml, hown, hts⟩ (rd_tbl l D xo xh t ta cI cC cH h had told (by omega) (by omega)) (cwV 2 hts (gV q_347 q_348 q_349 q_37 q_266) rfl rfl rfl (by decide +kernel) ⟨Nat.le_trans (m := 3) (Nat.le_of_ble_eq_true rfl) (Nat.le_trans (Nat.le_of_ble_eq_true rfl) hRf), Nat.le_trans (m := 66) (Nat.le_of_ble_eq_true rfl) (Nat.le_trans (Nat.le_of_ble_eq_true rfl) hRl)⟩) hN hK hP hD rfl rfl rfl hl.1 (Nat.le_of_ble_eq_true rfl) ⟨hRc, hRs⟩ dL_cells_151) hD hS hA rfl (fun H locs hP hD hS => ?_)
                have hv_89 := rb_tbl h had told (by omega) (by omega) (by omega)
                exact J_18 (SS.G q 10 (3 * had + told)) _ _ (by omega) hP hD hS
              · refine z_iconst hx hb dL_cells_142 ?_
                refine lv_goto (tgt := 154) hx hb dL_cells_143 (by decide) ?_
                exact J_18 0 _ _ (by omega) hP hD hS
            refine lv_iload hx hb dL_cells_118 (lv_at hl 2 rfl) ?_
            refine z_if_eq (tgt := 127) hx hb dL_cells_120 (by decide) (by omega) (fun c_90 => ?_) (fun c_90 => ?_)
            · refine lv_aload_n hx hb dL_cells_127 rfl (lv_at hl 6 rfl) ?_
              refine lv_iload_n hx hb dL_cells_128 rfl (lv_at hl 5 rfl) ?_
              refine lv_iload hx hb dL_cells_129 (lv_at hl 4 rfl) ?_
              refine z_iconst hx hb dL_cells_131 ?_
              refine mw_full (st1 := [.int (iI (SS.G q 2 (8 * rw0 + cc)))]) (mr_V (As := [.int (iI rw0), .int (iI cc), .int (iI 5)]) (rest := []) (ci := 2) (q0 := 0) ⟨hx, hb, hml, hown, hts⟩ (rd_cell5 l D xo xh t ta cI cC cH h rw0 cc (by omega) (by omega) (by omega)) (cwV 3 hts (gV q_356 q_357 q_358 q_37 q_254) rfl rfl rfl (by decide +kernel) ⟨Nat.le_trans (m := 4) (Nat.le_of_ble_eq_true rfl) (Nat.le_trans (Nat.le_of_ble_eq_true rfl) hRf), Nat.le_trans (m := 96) (Nat.le_of_ble_eq_true rfl) (Nat.le_trans (Nat.le_of_ble_eq_true rfl) hRl)⟩) hN hK hP hD rfl rfl rfl hl.1 (Nat.le_of_ble_eq_true rfl) ⟨hRc, hRs⟩ dL_cells_132) hD hS hA rfl (fun H locs hP hD hS => ?_)
              have hv_91 := rb_cell5 h rw0 cc (by omega) (by omega) (by omega)
              exact J_16 (SS.G q 2 (8 * rw0 + cc)) _ _ (by omega) hP hD hS
            · refine z_iconst hx hb dL_cells_123 ?_
              refine lv_goto (tgt := 135) hx hb dL_cells_124 (by decide) ?_
              exact J_16 0 _ _ (by omega) hP hD hS
          refine lv_iload hx hb dL_cells_99 (lv_at hl 1 rfl) ?_
          refine z_if_eq (tgt := 108) hx hb dL_cells_101 (by decide) (by omega) (fun c_92 => ?_) (fun c_92 => ?_)
          · refine lv_aload_n hx hb dL_cells_108 rfl (lv_at hl 5 rfl) ?_
            refine lv_iload_n hx hb dL_cells_109 rfl (lv_at hl 4 rfl) ?_
            refine lv_iload hx hb dL_cells_110 (lv_at hl 3 rfl) ?_
            refine z_iconst hx hb dL_cells_112 ?_
            refine mw_full (st1 := [.int (iI (SS.G q 0 (8 * rw0 + cc)))]) (mr_V (As := [.int (iI rw0), .int (iI cc), .int (iI 0)]) (rest := []) (ci := 2) (q0 := 0) ⟨hx, hb, hml, hown, hts⟩ (rd_cell0 l D xo xh t ta cI cC cH h rw0 cc (by omega) (by omega)) (cwV 3 hts (gV q_356 q_357 q_358 q_37 q_254) rfl rfl rfl (by decide +kernel) ⟨Nat.le_trans (m := 4) (Nat.le_of_ble_eq_true rfl) (Nat.le_trans (Nat.le_of_ble_eq_true rfl) hRf), Nat.le_trans (m := 96) (Nat.le_of_ble_eq_true rfl) (Nat.le_trans (Nat.le_of_ble_eq_true rfl) hRl)⟩) hN hK hP hD rfl rfl rfl hl.1 (Nat.le_of_ble_eq_true rfl) ⟨hRc, hRs⟩ dL_cells_113) hD hS hA rfl (fun H locs hP hD hS => ?_)
            have hv_93 := rb_cell0 h rw0 cc (by omega) (by omega)
            exact J_14 (SS.G q 0 (8 * rw0 + cc)) _ _ (by omega) hP hD hS
          · refine z_iconst hx hb dL_cells_104 ?_
            refine lv_goto (tgt := 116) hx hb dL_cells_105 (by decide) ?_
            exact J_14 0 _ _ (by omega) hP hD hS
        refine lv_iload hx hb dL_cells_80 (lv_at hl 0 rfl) ?_
        refine z_if_eq (tgt := 89) hx hb dL_cells_82 (by decide) (by omega) (fun c_94 => ?_) (fun c_94 => ?_)
        · refine lv_aload_n hx hb dL_cells_89 rfl (lv_at hl 4 rfl) ?_
          refine lv_iload_n hx hb dL_cells_90 rfl (lv_at hl 3 rfl) ?_
          refine lv_iload hx hb dL_cells_91 (lv_at hl 2 rfl) ?_
          refine z_iconst hx hb dL_cells_93 ?_
          refine mw_full (st1 := [.int (iI (toldZ (SS.G q) rw0 cc))]) (mr_V (As := [.int (iI rw0), .int (iI cc), .int (iI 2)]) (rest := []) (ci := 2) (q0 := 0) ⟨hx, hb, hml, hown, hts⟩ (rd_cell2 l D xo xh t ta cI cC cH h rw0 cc (by omega) (by omega)) (cwV 3 hts (gV q_356 q_357 q_358 q_37 q_254) rfl rfl rfl (by decide +kernel) ⟨Nat.le_trans (m := 4) (Nat.le_of_ble_eq_true rfl) (Nat.le_trans (Nat.le_of_ble_eq_true rfl) hRf), Nat.le_trans (m := 96) (Nat.le_of_ble_eq_true rfl) (Nat.le_trans (Nat.le_of_ble_eq_true rfl) hRl)⟩) hN hK hP hD rfl rfl rfl hl.1 (Nat.le_of_ble_eq_true rfl) ⟨hRc, hRs⟩ dL_cells_94) hD hS hA rfl (fun H locs hP hD hS => ?_)
          have hv_95 := rb_cell2 h rw0 cc (by omega) (by omega)
          exact J_12 (toldZ (SS.G q) rw0 cc) _ _ (by omega) hP hD hS
        · refine z_iconst hx hb dL_cells_85 ?_
          refine lv_goto (tgt := 97) hx hb dL_cells_86 (by decide) ?_
          exact J_12 0 _ _ (by omega) hP hD hS
      refine lv_iload_n hx hb dL_cells_60 rfl (lv_at hl 2 rfl) ?_
      refine z_bipush hx hb dL_cells_61 (by decide +kernel) ?_
      refine z_icmp_eq (tgt := 73) hx hb dL_cells_63 (by decide) (by omega) (by omega) (fun c_96 => ?_) (fun c_96 => ?_)
      · refine z_iconst hx hb dL_cells_73 ?_
        refine lv_goto (tgt := 78) hx hb dL_cells_74 (by decide) ?_
        exact J_10 1 _ _ (by omega) hP hD hS
      · refine lv_iload hx hb dL_cells_66 (lv_at hl 1 rfl) ?_
        refine z_bipush hx hb dL_cells_68 (by decide +kernel) ?_
        refine z_icmp_ne (tgt := 77) hx hb dL_cells_70 (by decide) (by omega) (by omega) (fun c_97 => ?_) (fun c_97 => ?_)
        · refine z_iconst hx hb dL_cells_77 ?_
          exact J_10 0 _ _ (by omega) hP hD hS
        · refine z_iconst hx hb dL_cells_73 ?_
          refine lv_goto (tgt := 78) hx hb dL_cells_74 (by decide) ?_
          exact J_10 1 _ _ (by omega) hP hD hS
    refine lv_iload_n hx hb dL_cells_38 rfl (lv_at hl 4 rfl) ?_
    refine z_bipush hx hb dL_cells_39 (by decide +kernel) ?_
    refine lv_ishr hx hb dL_cells_41 ?_
    obtain ⟨y_98, hy_98, ey_98⟩ := iI_ex (iI y >>> (iI 17 &&& 31))
    refine z_asB (b := y_98) ey_98 ?_
    refine z_bipush hx hb dL_cells_42 (by decide +kernel) ?_
    refine mw_none (st1 := [.int (iI (lowZ y_98 (6 : Int))), .int (iI y_6)]) (mr_S (As := [.int (iI y_98), .int (iI 6)]) (rest := [.int (iI y_6)]) ⟨hx, hb, hml, hown, hts⟩ (m_L_low l D y_98 (6 : Int) (by omega)) (va_cwS 2 hts (gS q_372 q_373 q_374 q_341) rfl rfl rfl (by decide +kernel) ⟨Nat.le_trans (m := 1) (Nat.le_of_ble_eq_true rfl) (Nat.le_trans (Nat.le_of_ble_eq_true rfl) hRf), Nat.le_trans (m := 21) (Nat.le_of_ble_eq_true rfl) (Nat.le_trans (Nat.le_of_ble_eq_true rfl) hRl)⟩) hN (hK.sub (tys' := []) [] rfl) (va_P0 _ _ _) (va_D0 A) rfl hl.1 (Nat.le_of_ble_eq_true rfl) ⟨hRc, hRs⟩ dL_cells_44) hP hS hA rfl (fun H locs hP hS => ?_)
    have hv_99 := low_bd y_98 (n := 6) (by omega)
    refine z_if_ne (tgt := 54) hx hb dL_cells_47 (by decide) (by omega) (fun c_100 => ?_) (fun c_100 => ?_)
    · refine z_iconst hx hb dL_cells_54 ?_
      exact J_7 3 _ _ (by omega) hP hD hS
    · refine z_iconst hx hb dL_cells_50 ?_
      refine lv_goto (tgt := 55) hx hb dL_cells_51 (by decide) ?_
      exact J_7 4 _ _ (by omega) hP hD hS
  refine lv_iload_n hx hb dL_cells_10 rfl (lv_at hl 3 rfl) ?_
  refine z_bipush hx hb dL_cells_11 (by decide +kernel) ?_
  refine lv_ishr hx hb dL_cells_13 ?_
  obtain ⟨y_101, hy_101, ey_101⟩ := iI_ex (iI y >>> (iI 18 &&& 31))
  refine z_asB (b := y_101) ey_101 ?_
  refine z_bipush hx hb dL_cells_14 (by decide +kernel) ?_
  refine mw_none (st1 := [.int (iI (lowZ y_101 (6 : Int))), .int (iI y_2)]) (mr_S (As := [.int (iI y_101), .int (iI 6)]) (rest := [.int (iI y_2)]) ⟨hx, hb, hml, hown, hts⟩ (m_L_low l D y_101 (6 : Int) (by omega)) (va_cwS 2 hts (gS q_372 q_373 q_374 q_341) rfl rfl rfl (by decide +kernel) ⟨Nat.le_trans (m := 1) (Nat.le_of_ble_eq_true rfl) (Nat.le_trans (Nat.le_of_ble_eq_true rfl) hRf), Nat.le_trans (m := 21) (Nat.le_of_ble_eq_true rfl) (Nat.le_trans (Nat.le_of_ble_eq_true rfl) hRl)⟩) hN (hK.sub (tys' := []) [] rfl) (va_P0 _ _ _) (va_D0 A) rfl hl.1 (Nat.le_of_ble_eq_true rfl) ⟨hRc, hRs⟩ dL_cells_16) hP hS hA rfl (fun H locs hP hS => ?_)
  have hv_102 := low_bd y_101 (n := 6) (by omega)
  refine z_if_ne (tgt := 27) hx hb dL_cells_19 (by decide) (by omega) (fun c_103 => ?_) (fun c_103 => ?_)
  · refine z_bipush hx hb dL_cells_27 (by decide +kernel) ?_
    exact J_3 8 _ _ (by omega) hP hD hS
  · refine z_bipush hx hb dL_cells_22 (by decide +kernel) ?_
    refine lv_goto (tgt := 29) hx hb dL_cells_24 (by decide) ?_
    exact J_3 9 _ _ (by omega) hP hD hS
