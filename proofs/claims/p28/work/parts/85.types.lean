set_option maxHeartbeats 8000000 in
set_option maxRecDepth 100000 in
theorem m_L_types (l : Launch) (D : va_G) (xo xh t : Nat) (ta : Nat → Nat) (cI cC cH : ClassId) {k : Nat} {q : SS} (h : CR k q) (hk : k < 100) (x : Int) (h_x : -2147483648 ≤ x ∧ x < 2147483648) : ME l D yL_types (wsY yL_types cL_types 8 (some .boolean)) { frames := 4, cells := 0, slots := 0, locals := 85 } (tyS cI cC cH) [.ref xo, .int (iI x)] (wS xo xh t ta cI cC cH q) (fun q' : SS => CR k q' ∧ Sme q q' ∧ ∃ m1 : Int, TX q' m1 (lowZ x 6) 0 ∨ TX q' m1 (lowZ x 6 - 1) 1) (fun q' : SS => wS xo xh t ta cI cC cH q') (some (.int (iI 1))) := by
  refine me_ofZ (cc := cL_types) (maxL := 8) rfl (by decide) rfl (Nat.le_of_ble_eq_true rfl) ?_
  intro p e s m below meth c R A Q args ls hx hb hml hown hts hRf hRl hRc hRs hN hK hP hD hS hA hret hl
  have hq : ∀ w ∈ ALL, w.before args s = true := fun w h => hts w (List.mem_cons_of_mem _ h)
  have hl : lv_has ls 8 [(0, .ref xo), (1, .int (iI x))] := hl
  have hcb := h.2.2.2.1.1
  refine lv_iload_n hx hb dL_types_0 rfl (lv_at hl 1 rfl) ?_
  refine z_bipush hx hb dL_types_1 (by decide +kernel) ?_
  refine mw_none (st1 := [.int (iI (lowZ x (6 : Int)))]) (mr_S (As := [.int (iI x), .int (iI 6)]) (rest := []) ⟨hx, hb, hml, hown, hts⟩ (m_L_low l D x (6 : Int) (by omega)) (va_cwS 2 hts (gS q_372 q_373 q_374 q_341) rfl rfl rfl (by decide +kernel) ⟨Nat.le_trans (m := 1) (Nat.le_of_ble_eq_true rfl) (Nat.le_trans (Nat.le_of_ble_eq_true rfl) hRf), Nat.le_trans (m := 21) (Nat.le_of_ble_eq_true rfl) (Nat.le_trans (Nat.le_of_ble_eq_true rfl) hRl)⟩) hN (hK.sub (tys' := []) [] rfl) (va_P0 _ _ _) (va_D0 A) rfl hl.1 (Nat.le_of_ble_eq_true rfl) ⟨hRc, hRs⟩ dL_types_3) hP hS hA rfl (fun H locs hP hS => ?_)
  have hv_1 := low_bd x (n := 6) (by omega)
  obtain ⟨n6, e_n6⟩ : ∃ z : Int, z = (lowZ x (6 : Int)) := ⟨_, rfl⟩
  refine z_as e_n6.symm ?_
  refine lv_istore_n (lv' := [(2, .int (iI n6)), (0, .ref xo), (1, .int (iI x))]) hx hb dL_types_6 rfl hl (by decide) rfl (fun ls hl => ?_)
  refine lv_aload_n hx hb dL_types_7 rfl (lv_at hl 1 rfl) ?_
  obtain ⟨q1, mxq1, hRq1, hsq1, hxq1⟩ := sc_clear l D xo xh t ta cI cC cH h
  refine mw_full (st1 := [.int (iI (SS.T q 1 0))]) (mr_V (As := []) (rest := []) (ci := 2) (q0 := 0) ⟨hx, hb, hml, hown, hts⟩ mxq1 (cwV 0 hts (gV q_389 q_390 q_391 q_37 q_314) rfl rfl rfl (by decide +kernel) ⟨Nat.le_trans (m := 2) (Nat.le_of_ble_eq_true rfl) (Nat.le_trans (Nat.le_of_ble_eq_true rfl) hRf), Nat.le_trans (m := 41) (Nat.le_of_ble_eq_true rfl) (Nat.le_trans (Nat.le_of_ble_eq_true rfl) hRl)⟩) hN hK hP hD rfl rfl rfl hl.1 (Nat.le_of_ble_eq_true rfl) ⟨hRc, hRs⟩ dL_types_8) hD hS hA rfl (fun H locs hP hD hS => ?_)
  refine z_if_lt (tgt := 18) hx hb dL_types_11 (by decide) (by omega) (fun c_2 => absurd c_2 (by omega)) (fun c_2 => ?_)
  refine z_iconst hx hb dL_types_14 ?_
  refine lv_goto (tgt := 19) hx hb dL_types_15 (by decide) ?_
  refine lv_istore_n (lv' := [(3, .int (iI 1)), (2, .int (iI n6)), (0, .ref xo), (1, .int (iI x))]) hx hb dL_types_19 rfl hl (by decide) rfl (fun ls hl => ?_)
  refine z_iconst hx hb dL_types_20 ?_
  refine lv_istore (lv' := [(4, .int (iI 0)), (3, .int (iI 1)), (2, .int (iI n6)), (0, .ref xo), (1, .int (iI x))]) hx hb dL_types_21 hl (by decide) rfl (fun ls hl => ?_)
  have LP23 : ∀ (fu i : Nat) (qk : SS), i ≤ n6.toNat → n6.toNat < fu + i → CR k qk → Sme q qk → (∃ m1 : Int, (0 ≤ m1 ∧ m1 ≤ 9 * (i : Int)) ∧ (TX qk m1 (i : Int) 0 ∨ ((i : Int) = n6 ∧ TX qk m1 (n6 - 1) 1))) → ∀ (H : Heap) (locs : List Loc) (ls : Array Slot), va_P D vwCl (wS xo xh t ta cI cC cH qk) H → va_D A (wS xo xh t ta cI cC cH qk) → va_S A s.heap H locs → lv_has ls 8 [(4, .int (iI (i : Int))), (3, .int (iI 1)), (2, .int (iI n6)), (0, .ref xo), (1, .int (iI x))] → W p l e R s m args below meth c H locs 0 0 Q (F0 m 23 ls []) := by
    intro fu
    induction fu with
    | zero => intro i qk h1 h2; omega
    | succ fu ih23 =>
      intro i qk hi1 hif hRk hsk hTk H locs ls hP hD hS hl
      refine lv_iload hx hb dL_types_23 (lv_at hl 0 rfl) ?_
      refine lv_iload_n hx hb dL_types_25 rfl (lv_at hl 2 rfl) ?_
      refine z_icmp_ge (tgt := 421) hx hb dL_types_26 (by decide) (by omega) (by omega) (fun c_3 => ?_) (fun c_3 => ?_)
      · obtain ⟨mk, hmk, hTk⟩ := hTk
        have ei : (i : Int) = n6 := by omega
        rw [ei] at hTk
        have hend : TX qk mk n6 0 ∨ TX qk mk (n6 - 1) 1 := hTk.elim Or.inl (fun a => Or.inr a.2)
        rw [e_n6] at hend
        refine lv_iload_n hx hb dL_types_421 rfl (lv_at hl 1 rfl) ?_
        exact hret qk _ _ _ _ ⟨hRk, hsk, mk, hend⟩ dL_types_422 hP hD hS
      · obtain ⟨mk, hmk, hTk⟩ := hTk
        have hTk : TX qk mk (i : Int) 0 := hTk.resolve_right (fun a => by omega)
        refine lv_iload_n hx hb dL_types_29 rfl (lv_at hl 4 rfl) ?_
        refine z_iconst hx hb dL_types_30 ?_
        refine z_iconst hx hb dL_types_31 ?_
        refine lv_iload hx hb dL_types_32 (lv_at hl 0 rfl) ?_
        refine z_imul hx hb dL_types_34 ?_
        refine z_iadd hx hb dL_types_35 ?_
        refine lv_ishr hx hb dL_types_36 ?_
        obtain ⟨y_4, hy_4, ey_4⟩ := iI_ex (iI x >>> (iI (3 + (4 * (i : Int))) &&& 31))
        refine z_asB (b := y_4) ey_4 ?_
        refine lv_istore (lv' := [(5, .int (iI y_4)), (4, .int (iI (i : Int))), (3, .int (iI 1)), (2, .int (iI n6)), (0, .ref xo), (1, .int (iI x))]) hx hb dL_types_37 hl (by decide) rfl (fun ls hl => ?_)
        refine lv_iload hx hb dL_types_39 (lv_at hl 0 rfl) ?_
        refine z_bipush hx hb dL_types_41 (by decide +kernel) ?_
        refine mw_none (st1 := [.int (iI (lowZ y_4 (9 : Int)))]) (mr_S (As := [.int (iI y_4), .int (iI 9)]) (rest := []) ⟨hx, hb, hml, hown, hts⟩ (m_L_low l D y_4 (9 : Int) (by omega)) (va_cwS 2 hts (gS q_372 q_373 q_374 q_341) rfl rfl rfl (by decide +kernel) ⟨Nat.le_trans (m := 1) (Nat.le_of_ble_eq_true rfl) (Nat.le_trans (Nat.le_of_ble_eq_true rfl) hRf), Nat.le_trans (m := 21) (Nat.le_of_ble_eq_true rfl) (Nat.le_trans (Nat.le_of_ble_eq_true rfl) hRl)⟩) hN (hK.sub (tys' := []) [] rfl) (va_P0 _ _ _) (va_D0 A) rfl hl.1 (Nat.le_of_ble_eq_true rfl) ⟨hRc, hRs⟩ dL_types_43) hP hS hA rfl (fun H locs hP hS => ?_)
        have hv_5 := low_bd y_4 (n := 9) (by omega)
        obtain ⟨wy, e_wy⟩ : ∃ z : Int, z = (lowZ y_4 (9 : Int)) := ⟨_, rfl⟩
        refine z_as e_wy.symm ?_
        refine lv_istore (lv' := [(6, .int (iI wy)), (5, .int (iI y_4)), (4, .int (iI (i : Int))), (3, .int (iI 1)), (2, .int (iI n6)), (0, .ref xo), (1, .int (iI x))]) hx hb dL_types_46 hl (by decide) rfl (fun ls hl => ?_)
        refine lv_iload hx hb dL_types_48 (lv_at hl 1 rfl) ?_
        refine z_iconst hx hb dL_types_50 ?_
        refine lv_ishr hx hb dL_types_51 ?_
        obtain ⟨y_6, hy_6, ey_6⟩ := iI_ex (iI y_4 >>> (iI 1 &&& 31))
        refine z_asB (b := y_6) ey_6 ?_
        have J_7 : ∀ (bz_8 : Int) (H : Heap) (locs : List Loc), (bz_8 = 6 ∨ bz_8 = 7) → va_P D vwCl (wS xo xh t ta cI cC cH qk) H → va_D A (wS xo xh t ta cI cC cH qk) → va_S A s.heap H locs → W p l e R s m args below meth c H locs 0 0 Q (F0 m 71 ls [.int (iI bz_8), .int (iI y_6)]) := by
          intro bz_8 H locs hbz_8 hP hD hS
          refine mw_none (st1 := [.int (iI (lowZ y_6 bz_8))]) (mr_S (As := [.int (iI y_6), .int (iI bz_8)]) (rest := []) ⟨hx, hb, hml, hown, hts⟩ (m_L_low l D y_6 bz_8 (by omega)) (va_cwS 2 hts (gS q_372 q_373 q_374 q_341) rfl rfl rfl (by decide +kernel) ⟨Nat.le_trans (m := 1) (Nat.le_of_ble_eq_true rfl) (Nat.le_trans (Nat.le_of_ble_eq_true rfl) hRf), Nat.le_trans (m := 21) (Nat.le_of_ble_eq_true rfl) (Nat.le_trans (Nat.le_of_ble_eq_true rfl) hRl)⟩) hN (hK.sub (tys' := []) [] rfl) (va_P0 _ _ _) (va_D0 A) rfl hl.1 (Nat.le_of_ble_eq_true rfl) ⟨hRc, hRs⟩ dL_types_71) hP hS hA rfl (fun H locs hP hS => ?_)
          have hv_9 := low_bd y_6 (n := bz_8) (by omega)
          obtain ⟨rr, e_rr⟩ : ∃ z : Int, z = (lowZ y_6 bz_8) := ⟨_, rfl⟩
          refine z_as e_rr.symm ?_
          refine lv_istore (lv' := [(7, .int (iI rr)), (6, .int (iI wy)), (5, .int (iI y_4)), (4, .int (iI (i : Int))), (3, .int (iI 1)), (2, .int (iI n6)), (0, .ref xo), (1, .int (iI x))]) hx hb dL_types_74 hl (by decide) rfl (fun ls hl => ?_)
          refine lv_iload_n hx hb dL_types_76 rfl (lv_at hl 4 rfl) ?_
          refine z_if_eq (tgt := 196) hx hb dL_types_77 (by decide) (by omega) (fun c_10 => absurd c_10 (by omega)) (fun c_10 => ?_)
          refine lv_aload_n hx hb dL_types_80 rfl (lv_at hl 6 rfl) ?_
          have J_11 : ∀ (bz_12 : Int) (H : Heap) (locs : List Loc), (bz_12 = (if wy < 3 then 119 else if wy = 3 then 97 else if wy = 4 then 102 else if wy = 5 then 109 else if wy = 6 then 114 else 100)) → va_P D vwCl (wS xo xh t ta cI cC cH qk) H → va_D A (wS xo xh t ta cI cC cH qk) → va_S A s.heap H locs → W p l e R s m args below meth c H locs 0 0 Q (F0 m 139 ls [.int (iI bz_12), .ref xo]) := by
            intro bz_12 H locs hbz_12 hP hD hS
            obtain ⟨q2, mxq2, hRq2, hsq2, hxq2⟩ := sc_type l D xo xh t ta cI cC cH hRk bz_12 (by omega) hTk (by omega)
            have hxq2 : TX q2 (mk + 1) (i : Int) 0 := by have e0 := hxq2; rw [if_neg (by omega), if_neg (by omega), Int.add_zero, Int.add_zero] at e0; exact e0
            refine mw_full (st1 := [.int (iI (mk + 1))]) (mr_V (As := [.int (iI bz_12)]) (rest := []) (ci := 2) (q0 := 0) ⟨hx, hb, hml, hown, hts⟩ mxq2 (cwV 1 hts (gV q_385 q_386 q_387 q_37 q_310) rfl rfl rfl (by decide +kernel) ⟨Nat.le_trans (m := 3) (Nat.le_of_ble_eq_true rfl) (Nat.le_trans (Nat.le_of_ble_eq_true rfl) hRf), Nat.le_trans (m := 64) (Nat.le_of_ble_eq_true rfl) (Nat.le_trans (Nat.le_of_ble_eq_true rfl) hRl)⟩) hN hK hP hD rfl rfl rfl hl.1 (Nat.le_of_ble_eq_true rfl) ⟨hRc, hRs⟩ dL_types_139) hD hS hA rfl (fun H locs hP hD hS => ?_)
            refine z_if_le (tgt := 196) hx hb dL_types_142 (by decide) (by omega) (fun c_13 => absurd c_13 (by omega)) (fun c_13 => ?_)
            refine lv_aload_n hx hb dL_types_145 rfl (lv_at hl 6 rfl) ?_
            have J_14 : ∀ (bz_15 : Int) (H : Heap) (locs : List Loc), (0 ≤ bz_15 ∧ bz_15 ≤ 999 ∧ (wy ≤ 6 → bz_15 < 10)) → va_P D vwCl (wS xo xh t ta cI cC cH q2) H → va_D A (wS xo xh t ta cI cC cH q2) → va_S A s.heap H locs → W p l e R s m args below meth c H locs 0 0 Q (F0 m 186 ls [.int (iI bz_15), .ref xo]) := by
              intro bz_15 H locs hbz_15 hP hD hS
              refine me_go (st1 := [.int (iI 1)]) (me_S (As := [.ref xo, .int (iI bz_15)]) (rest := []) ⟨hx, hb, hml, hown, hts⟩ (m_L_number l D xo xh t ta cI cC cH hRq2 (by omega) bz_15 (by omega) (by omega) hxq2 (by omega)) (va_cwS 2 hts (gS q_392 q_393 q_374 q_388) rfl rfl rfl (by decide +kernel) ⟨Nat.le_trans (m := 4) (Nat.le_of_ble_eq_true rfl) (Nat.le_trans (Nat.le_of_ble_eq_true rfl) hRf), Nat.le_trans (m := 85) (Nat.le_of_ble_eq_true rfl) (Nat.le_trans (Nat.le_of_ble_eq_true rfl) hRl)⟩) hN hK hP hD rfl hl.1 (Nat.le_of_ble_eq_true rfl) ⟨hRc, hRs⟩ dL_types_186) hD hS hA rfl (fun q3 H locs hu hP hD hS => ?_)
              obtain ⟨hRq3, hsq3, mq3, hmq3, hxq3⟩ := hu
              refine z_if_eq (tgt := 196) hx hb dL_types_189 (by decide) (by omega) (fun c_16 => absurd c_16 (by omega)) (fun c_16 => ?_)
              refine z_iconst hx hb dL_types_192 ?_
              refine lv_goto (tgt := 197) hx hb dL_types_193 (by decide) ?_
              refine lv_istore_n (lv' := [(3, .int (iI 1)), (7, .int (iI rr)), (6, .int (iI wy)), (5, .int (iI y_4)), (4, .int (iI (i : Int))), (2, .int (iI n6)), (0, .ref xo), (1, .int (iI x))]) hx hb dL_types_197 rfl hl (by decide) rfl (fun ls hl => ?_)
              rcases (show (0 ≤ wy ∧ wy < 3) ∨ (wy = 3) ∨ (wy = 4) ∨ (5 ≤ wy ∧ wy ≤ 6) ∨ (7 ≤ wy) from by omega) with hsp_17 | hsp_17 | hsp_17 | hsp_17 | hsp_17
              · refine lv_iload hx hb dL_types_198 (lv_at hl 2 rfl) ?_
                refine z_iconst hx hb dL_types_200 ?_
                refine z_icmp_lt (tgt := 217) hx hb dL_types_201 (by decide) (by omega) (by omega) (fun c_18 => ?_) (fun c_18 => absurd c_18 (by omega))
                refine lv_iload_n hx hb dL_types_217 rfl (lv_at hl 0 rfl) ?_
                refine z_if_eq (tgt := 288) hx hb dL_types_218 (by decide) (by omega) (fun c_19 => absurd c_19 (by omega)) (fun c_19 => ?_)
                refine lv_aload_n hx hb dL_types_221 rfl (lv_at hl 6 rfl) ?_
                refine z_bipush hx hb dL_types_222 (by decide +kernel) ?_
                obtain ⟨q4, mxq4, hRq4, hsq4, hxq4⟩ := sc_type l D xo xh t ta cI cC cH hRq3 (44 : Int) (by omega) hxq3 (by omega)
                have hxq4 : TX q4 (mq3 + 1) (i : Int) 0 := by have e0 := hxq4; rw [if_neg (by omega), if_neg (by omega), Int.add_zero, Int.add_zero] at e0; exact e0
                refine mw_full (st1 := [.int (iI (mq3 + 1))]) (mr_V (As := [.int (iI 44)]) (rest := []) (ci := 2) (q0 := 0) ⟨hx, hb, hml, hown, hts⟩ mxq4 (cwV 1 hts (gV q_385 q_386 q_387 q_37 q_310) rfl rfl rfl (by decide +kernel) ⟨Nat.le_trans (m := 3) (Nat.le_of_ble_eq_true rfl) (Nat.le_trans (Nat.le_of_ble_eq_true rfl) hRf), Nat.le_trans (m := 64) (Nat.le_of_ble_eq_true rfl) (Nat.le_trans (Nat.le_of_ble_eq_true rfl) hRl)⟩) hN hK hP hD rfl rfl rfl hl.1 (Nat.le_of_ble_eq_true rfl) ⟨hRc, hRs⟩ dL_types_224) hD hS hA rfl (fun H locs hP hD hS => ?_)
                refine z_if_le (tgt := 288) hx hb dL_types_227 (by decide) (by omega) (fun c_20 => absurd c_20 (by omega)) (fun c_20 => ?_)
                refine lv_aload_n hx hb dL_types_230 rfl (lv_at hl 6 rfl) ?_
                have J_21 : ∀ (bz_22 : Int) (H : Heap) (locs : List Loc), (0 ≤ bz_22 ∧ bz_22 ≤ 999 ∧ (wy ≠ 6 → bz_22 < 10)) → va_P D vwCl (wS xo xh t ta cI cC cH q4) H → va_D A (wS xo xh t ta cI cC cH q4) → va_S A s.heap H locs → W p l e R s m args below meth c H locs 0 0 Q (F0 m 278 ls [.int (iI bz_22), .ref xo]) := by
                  intro bz_22 H locs hbz_22 hP hD hS
                  refine me_go (st1 := [.int (iI 1)]) (me_S (As := [.ref xo, .int (iI bz_22)]) (rest := []) ⟨hx, hb, hml, hown, hts⟩ (m_L_number l D xo xh t ta cI cC cH hRq4 (by omega) bz_22 (by omega) (by omega) hxq4 (by omega)) (va_cwS 2 hts (gS q_392 q_393 q_374 q_388) rfl rfl rfl (by decide +kernel) ⟨Nat.le_trans (m := 4) (Nat.le_of_ble_eq_true rfl) (Nat.le_trans (Nat.le_of_ble_eq_true rfl) hRf), Nat.le_trans (m := 85) (Nat.le_of_ble_eq_true rfl) (Nat.le_trans (Nat.le_of_ble_eq_true rfl) hRl)⟩) hN hK hP hD rfl hl.1 (Nat.le_of_ble_eq_true rfl) ⟨hRc, hRs⟩ dL_types_278) hD hS hA rfl (fun q5 H locs hu hP hD hS => ?_)
                  obtain ⟨hRq5, hsq5, mq5, hmq5, hxq5⟩ := hu
                  refine z_if_eq (tgt := 288) hx hb dL_types_281 (by decide) (by omega) (fun c_23 => absurd c_23 (by omega)) (fun c_23 => ?_)
                  refine z_iconst hx hb dL_types_284 ?_
                  refine lv_goto (tgt := 289) hx hb dL_types_285 (by decide) ?_
                  refine lv_istore_n (lv' := [(3, .int (iI 1)), (7, .int (iI rr)), (6, .int (iI wy)), (5, .int (iI y_4)), (4, .int (iI (i : Int))), (2, .int (iI n6)), (0, .ref xo), (1, .int (iI x))]) hx hb dL_types_289 rfl hl (by decide) rfl (fun ls hl => ?_)
                  refine lv_iload hx hb dL_types_290 (lv_at hl 2 rfl) ?_
                  refine z_iconst hx hb dL_types_292 ?_
                  refine z_icmp_lt (tgt := 302) hx hb dL_types_293 (by decide) (by omega) (by omega) (fun c_24 => ?_) (fun c_24 => absurd c_24 (by omega))
                  refine lv_iload_n hx hb dL_types_302 rfl (lv_at hl 0 rfl) ?_
                  refine z_if_eq (tgt := 369) hx hb dL_types_303 (by decide) (by omega) (fun c_25 => absurd c_25 (by omega)) (fun c_25 => ?_)
                  refine lv_aload_n hx hb dL_types_306 rfl (lv_at hl 6 rfl) ?_
                  refine z_bipush hx hb dL_types_307 (by decide +kernel) ?_
                  obtain ⟨q6, mxq6, hRq6, hsq6, hxq6⟩ := sc_type l D xo xh t ta cI cC cH hRq5 (44 : Int) (by omega) hxq5 (by omega)
                  have hxq6 : TX q6 (mq5 + 1) (i : Int) 0 := by have e0 := hxq6; rw [if_neg (by omega), if_neg (by omega), Int.add_zero, Int.add_zero] at e0; exact e0
                  refine mw_full (st1 := [.int (iI (mq5 + 1))]) (mr_V (As := [.int (iI 44)]) (rest := []) (ci := 2) (q0 := 0) ⟨hx, hb, hml, hown, hts⟩ mxq6 (cwV 1 hts (gV q_385 q_386 q_387 q_37 q_310) rfl rfl rfl (by decide +kernel) ⟨Nat.le_trans (m := 3) (Nat.le_of_ble_eq_true rfl) (Nat.le_trans (Nat.le_of_ble_eq_true rfl) hRf), Nat.le_trans (m := 64) (Nat.le_of_ble_eq_true rfl) (Nat.le_trans (Nat.le_of_ble_eq_true rfl) hRl)⟩) hN hK hP hD rfl rfl rfl hl.1 (Nat.le_of_ble_eq_true rfl) ⟨hRc, hRs⟩ dL_types_309) hD hS hA rfl (fun H locs hP hD hS => ?_)
                  refine z_if_le (tgt := 369) hx hb dL_types_312 (by decide) (by omega) (fun c_26 => absurd c_26 (by omega)) (fun c_26 => ?_)
                  refine lv_aload_n hx hb dL_types_315 rfl (lv_at hl 6 rfl) ?_
                  have J_27 : ∀ (bz_28 : Int) (H : Heap) (locs : List Loc), (0 ≤ bz_28 ∧ bz_28 ≤ 999 ∧ (wy ≠ 4 → bz_28 < 10)) → va_P D vwCl (wS xo xh t ta cI cC cH q6) H → va_D A (wS xo xh t ta cI cC cH q6) → va_S A s.heap H locs → W p l e R s m args below meth c H locs 0 0 Q (F0 m 359 ls [.int (iI bz_28), .ref xo]) := by
                    intro bz_28 H locs hbz_28 hP hD hS
                    refine me_go (st1 := [.int (iI 1)]) (me_S (As := [.ref xo, .int (iI bz_28)]) (rest := []) ⟨hx, hb, hml, hown, hts⟩ (m_L_number l D xo xh t ta cI cC cH hRq6 (by omega) bz_28 (by omega) (by omega) hxq6 (by omega)) (va_cwS 2 hts (gS q_392 q_393 q_374 q_388) rfl rfl rfl (by decide +kernel) ⟨Nat.le_trans (m := 4) (Nat.le_of_ble_eq_true rfl) (Nat.le_trans (Nat.le_of_ble_eq_true rfl) hRf), Nat.le_trans (m := 85) (Nat.le_of_ble_eq_true rfl) (Nat.le_trans (Nat.le_of_ble_eq_true rfl) hRl)⟩) hN hK hP hD rfl hl.1 (Nat.le_of_ble_eq_true rfl) ⟨hRc, hRs⟩ dL_types_359) hD hS hA rfl (fun q7 H locs hu hP hD hS => ?_)
                    obtain ⟨hRq7, hsq7, mq7, hmq7, hxq7⟩ := hu
                    refine z_if_eq (tgt := 369) hx hb dL_types_362 (by decide) (by omega) (fun c_29 => absurd c_29 (by omega)) (fun c_29 => ?_)
                    refine z_iconst hx hb dL_types_365 ?_
                    refine lv_goto (tgt := 370) hx hb dL_types_366 (by decide) ?_
                    refine lv_istore_n (lv' := [(3, .int (iI 1)), (7, .int (iI rr)), (6, .int (iI wy)), (5, .int (iI y_4)), (4, .int (iI (i : Int))), (2, .int (iI n6)), (0, .ref xo), (1, .int (iI x))]) hx hb dL_types_370 rfl hl (by decide) rfl (fun ls hl => ?_)
                    refine lv_iload_n hx hb dL_types_371 rfl (lv_at hl 0 rfl) ?_
                    refine z_if_eq (tgt := 413) hx hb dL_types_372 (by decide) (by omega) (fun c_30 => absurd c_30 (by omega)) (fun c_30 => ?_)
                    refine lv_aload_n hx hb dL_types_375 rfl (lv_at hl 6 rfl) ?_
                    have J_31 : ∀ (bz_32 : Int) (H : Heap) (locs : List Loc), (bz_32 = 59 ∨ (bz_32 = 46 ∧ (i : Int) = n6 - 1)) → va_P D vwCl (wS xo xh t ta cI cC cH q7) H → va_D A (wS xo xh t ta cI cC cH q7) → va_S A s.heap H locs → W p l e R s m args below meth c H locs 0 0 Q (F0 m 403 ls [.int (iI bz_32), .ref xo]) := by
                      intro bz_32 H locs hbz_32 hP hD hS
                      obtain ⟨q8, mxq8, hRq8, hsq8, hxq8⟩ := sc_type l D xo xh t ta cI cC cH hRq7 bz_32 (by omega) hxq7 (by omega)
                      refine mw_full (st1 := [.int (iI (mq7 + 1))]) (mr_V (As := [.int (iI bz_32)]) (rest := []) (ci := 2) (q0 := 0) ⟨hx, hb, hml, hown, hts⟩ mxq8 (cwV 1 hts (gV q_385 q_386 q_387 q_37 q_310) rfl rfl rfl (by decide +kernel) ⟨Nat.le_trans (m := 3) (Nat.le_of_ble_eq_true rfl) (Nat.le_trans (Nat.le_of_ble_eq_true rfl) hRf), Nat.le_trans (m := 64) (Nat.le_of_ble_eq_true rfl) (Nat.le_trans (Nat.le_of_ble_eq_true rfl) hRl)⟩) hN hK hP hD rfl rfl rfl hl.1 (Nat.le_of_ble_eq_true rfl) ⟨hRc, hRs⟩ dL_types_403) hD hS hA rfl (fun H locs hP hD hS => ?_)
                      refine z_if_le (tgt := 413) hx hb dL_types_406 (by decide) (by omega) (fun c_33 => absurd c_33 (by omega)) (fun c_33 => ?_)
                      refine z_iconst hx hb dL_types_409 ?_
                      refine lv_goto (tgt := 414) hx hb dL_types_410 (by decide) ?_
                      refine lv_istore_n (lv' := [(3, .int (iI 1)), (7, .int (iI rr)), (6, .int (iI wy)), (5, .int (iI y_4)), (4, .int (iI (i : Int))), (2, .int (iI n6)), (0, .ref xo), (1, .int (iI x))]) hx hb dL_types_414 rfl hl (by decide) rfl (fun ls hl => ?_)
                      refine lv_iinc (v := iI ((i : Int) + 1)) (lv' := [(4, .int (iI ((i : Int) + 1))), (3, .int (iI 1)), (7, .int (iI rr)), (6, .int (iI wy)), (5, .int (iI y_4)), (2, .int (iI n6)), (0, .ref xo), (1, .int (iI x))]) hx hb dL_types_415 hl (k := 4) rfl (iI_add _ _) (by decide) rfl (fun ls hl => ?_)
                      refine lv_goto (tgt := 23) hx hb dL_types_418 (by decide) ?_
                      have e1_0 : (((i + 1 : Nat) : Int)) = ((i : Int) + 1) := by first | rfl | omega
                      have e1_1 : (1) = 1 := by first | rfl | omega
                      exact ih23 (i + 1) q8 (by omega) (by omega) hRq8 (Sme_tr (Sme_tr (Sme_tr (Sme_tr (Sme_tr (Sme_tr (Sme_tr hsk hsq2) hsq3) hsq4) hsq5) hsq6) hsq7) hsq8) ⟨(mq7 + 1), ⟨by omega, by omega⟩, hbz_32.elim (fun e => Or.inl (by have t := hxq8; rw [if_pos e, if_neg (by omega), Int.add_zero] at t; rw [show ((i + 1 : Nat) : Int) = (i : Int) + 1 from by omega]; exact t)) (fun e => Or.inr ⟨by omega, by have t := hxq8; rw [if_neg (by omega), if_pos e.1, Int.add_zero, Int.zero_add] at t; rw [← e.2]; exact t⟩)⟩ _ _ _ hP hD hS (lv_to (lv_sub (l' := [(4, .int (iI ((i : Int) + 1))), (3, .int (iI 1)), (2, .int (iI n6)), (0, .ref xo), (1, .int (iI x))]) hl [0, 1, 5, 6, 7] rfl) (by simp only [e1_0, e1_1]))
                    refine lv_iload hx hb dL_types_376 (lv_at hl 4 rfl) ?_
                    refine lv_iload_n hx hb dL_types_378 rfl (lv_at hl 5 rfl) ?_
                    refine z_iconst hx hb dL_types_379 ?_
                    refine z_isub hx hb dL_types_380 ?_
                    refine z_icmp_ne (tgt := 401) hx hb dL_types_381 (by decide) (by omega) (by omega) (fun c_34 => ?_) (fun c_34 => ?_)
                    · refine z_bipush hx hb dL_types_401 (by decide +kernel) ?_
                      exact J_31 59 _ _ (by omega) hP hD hS
                    · refine lv_iload_n hx hb dL_types_384 rfl (lv_at hl 7 rfl) ?_
                      refine z_bipush hx hb dL_types_385 (by decide +kernel) ?_
                      refine lv_ishr hx hb dL_types_387 ?_
                      obtain ⟨y_35, hy_35, ey_35⟩ := iI_ex (iI x >>> (iI 26 &&& 31))
                      refine z_asB (b := y_35) ey_35 ?_
                      refine z_bipush hx hb dL_types_388 (by decide +kernel) ?_
                      refine mw_none (st1 := [.int (iI (lowZ y_35 (7 : Int))), .ref xo]) (mr_S (As := [.int (iI y_35), .int (iI 7)]) (rest := [.ref xo]) ⟨hx, hb, hml, hown, hts⟩ (m_L_low l D y_35 (7 : Int) (by omega)) (va_cwS 2 hts (gS q_372 q_373 q_374 q_341) rfl rfl rfl (by decide +kernel) ⟨Nat.le_trans (m := 1) (Nat.le_of_ble_eq_true rfl) (Nat.le_trans (Nat.le_of_ble_eq_true rfl) hRf), Nat.le_trans (m := 21) (Nat.le_of_ble_eq_true rfl) (Nat.le_trans (Nat.le_of_ble_eq_true rfl) hRl)⟩) hN (hK.sub (tys' := []) [] rfl) (va_P0 _ _ _) (va_D0 A) rfl hl.1 (Nat.le_of_ble_eq_true rfl) ⟨hRc, hRs⟩ dL_types_390) hP hS hA rfl (fun H locs hP hS => ?_)
                      have hv_36 := low_bd y_35 (n := 7) (by omega)
                      refine z_if_ne (tgt := 401) hx hb dL_types_393 (by decide) (by omega) (fun c_37 => ?_) (fun c_37 => ?_)
                      · refine z_bipush hx hb dL_types_401 (by decide +kernel) ?_
                        exact J_31 59 _ _ (by omega) hP hD hS
                      · refine z_bipush hx hb dL_types_396 (by decide +kernel) ?_
                        refine lv_goto (tgt := 403) hx hb dL_types_398 (by decide) ?_
                        exact J_31 46 _ _ (by omega) hP hD hS
                  refine lv_iload hx hb dL_types_316 (lv_at hl 2 rfl) ?_
                  refine z_iconst hx hb dL_types_318 ?_
                  refine z_icmp_ne (tgt := 335) hx hb dL_types_319 (by decide) (by omega) (by omega) (fun c_38 => ?_) (fun c_38 => absurd c_38 (by omega))
                  refine lv_iload hx hb dL_types_335 (lv_at hl 3 rfl) ?_
                  refine z_iconst hx hb dL_types_337 ?_
                  refine lv_ishr hx hb dL_types_338 ?_
                  obtain ⟨y_39, hy_39, ey_39⟩ := iI_ex (iI y_4 >>> (iI 3 &&& 31))
                  refine z_asB (b := y_39) ey_39 ?_
                  refine lv_iload_n hx hb dL_types_339 rfl (lv_at hl 7 rfl) ?_
                  refine z_bipush hx hb dL_types_340 (by decide +kernel) ?_
                  refine lv_ishr hx hb dL_types_342 ?_
                  obtain ⟨y_40, hy_40, ey_40⟩ := iI_ex (iI x >>> (iI 24 &&& 31))
                  refine z_asB (b := y_40) ey_40 ?_
                  refine z_bipush hx hb dL_types_343 (by decide +kernel) ?_
                  refine mw_none (st1 := [.int (iI (lowZ y_40 (9 : Int))), .int (iI y_39), .ref xo]) (mr_S (As := [.int (iI y_40), .int (iI 9)]) (rest := [.int (iI y_39), .ref xo]) ⟨hx, hb, hml, hown, hts⟩ (m_L_low l D y_40 (9 : Int) (by omega)) (va_cwS 2 hts (gS q_372 q_373 q_374 q_341) rfl rfl rfl (by decide +kernel) ⟨Nat.le_trans (m := 1) (Nat.le_of_ble_eq_true rfl) (Nat.le_trans (Nat.le_of_ble_eq_true rfl) hRf), Nat.le_trans (m := 21) (Nat.le_of_ble_eq_true rfl) (Nat.le_trans (Nat.le_of_ble_eq_true rfl) hRl)⟩) hN (hK.sub (tys' := []) [] rfl) (va_P0 _ _ _) (va_D0 A) rfl hl.1 (Nat.le_of_ble_eq_true rfl) ⟨hRc, hRs⟩ dL_types_345) hP hS hA rfl (fun H locs hP hS => ?_)
                  have hv_41 := low_bd y_40 (n := 9) (by omega)
                  refine z_if_ne (tgt := 355) hx hb dL_types_348 (by decide) (by omega) (fun c_42 => ?_) (fun c_42 => ?_)
                  · refine z_iconst hx hb dL_types_355 ?_
                    refine mw_none (st1 := [.int (iI (lowZ y_39 (3 : Int))), .ref xo]) (mr_S (As := [.int (iI y_39), .int (iI 3)]) (rest := [.ref xo]) ⟨hx, hb, hml, hown, hts⟩ (m_L_low l D y_39 (3 : Int) (by omega)) (va_cwS 2 hts (gS q_372 q_373 q_374 q_341) rfl rfl rfl (by decide +kernel) ⟨Nat.le_trans (m := 1) (Nat.le_of_ble_eq_true rfl) (Nat.le_trans (Nat.le_of_ble_eq_true rfl) hRf), Nat.le_trans (m := 21) (Nat.le_of_ble_eq_true rfl) (Nat.le_trans (Nat.le_of_ble_eq_true rfl) hRl)⟩) hN (hK.sub (tys' := []) [] rfl) (va_P0 _ _ _) (va_D0 A) rfl hl.1 (Nat.le_of_ble_eq_true rfl) ⟨hRc, hRs⟩ dL_types_356) hP hS hA rfl (fun H locs hP hS => ?_)
                    have hv_43 := low_bd y_39 (n := 3) (by omega)
                    exact J_27 (lowZ y_39 (3 : Int)) _ _ (by omega) hP hD hS
                  · refine z_iconst hx hb dL_types_351 ?_
                    refine lv_goto (tgt := 356) hx hb dL_types_352 (by decide) ?_
                    refine mw_none (st1 := [.int (iI (lowZ y_39 (4 : Int))), .ref xo]) (mr_S (As := [.int (iI y_39), .int (iI 4)]) (rest := [.ref xo]) ⟨hx, hb, hml, hown, hts⟩ (m_L_low l D y_39 (4 : Int) (by omega)) (va_cwS 2 hts (gS q_372 q_373 q_374 q_341) rfl rfl rfl (by decide +kernel) ⟨Nat.le_trans (m := 1) (Nat.le_of_ble_eq_true rfl) (Nat.le_trans (Nat.le_of_ble_eq_true rfl) hRf), Nat.le_trans (m := 21) (Nat.le_of_ble_eq_true rfl) (Nat.le_trans (Nat.le_of_ble_eq_true rfl) hRl)⟩) hN (hK.sub (tys' := []) [] rfl) (va_P0 _ _ _) (va_D0 A) rfl hl.1 (Nat.le_of_ble_eq_true rfl) ⟨hRc, hRs⟩ dL_types_356) hP hS hA rfl (fun H locs hP hS => ?_)
                    have hv_44 := low_bd y_39 (n := 4) (by omega)
                    exact J_27 (lowZ y_39 (4 : Int)) _ _ (by omega) hP hD hS
                refine lv_iload hx hb dL_types_231 (lv_at hl 2 rfl) ?_
                refine z_iconst hx hb dL_types_233 ?_
                refine z_icmp_ge (tgt := 249) hx hb dL_types_234 (by decide) (by omega) (by omega) (fun c_45 => absurd c_45 (by omega)) (fun c_45 => ?_)
                refine lv_iload hx hb dL_types_237 (lv_at hl 3 rfl) ?_
                refine z_iconst hx hb dL_types_239 ?_
                refine lv_ishr hx hb dL_types_240 ?_
                obtain ⟨y_46, hy_46, ey_46⟩ := iI_ex (iI y_4 >>> (iI 2 &&& 31))
                refine z_asB (b := y_46) ey_46 ?_
                refine z_bipush hx hb dL_types_241 (by decide +kernel) ?_
                refine mw_none (st1 := [.int (iI (lowZ y_46 (8 : Int))), .ref xo]) (mr_S (As := [.int (iI y_46), .int (iI 8)]) (rest := [.ref xo]) ⟨hx, hb, hml, hown, hts⟩ (m_L_low l D y_46 (8 : Int) (by omega)) (va_cwS 2 hts (gS q_372 q_373 q_374 q_341) rfl rfl rfl (by decide +kernel) ⟨Nat.le_trans (m := 1) (Nat.le_of_ble_eq_true rfl) (Nat.le_trans (Nat.le_of_ble_eq_true rfl) hRf), Nat.le_trans (m := 21) (Nat.le_of_ble_eq_true rfl) (Nat.le_trans (Nat.le_of_ble_eq_true rfl) hRl)⟩) hN (hK.sub (tys' := []) [] rfl) (va_P0 _ _ _) (va_D0 A) rfl hl.1 (Nat.le_of_ble_eq_true rfl) ⟨hRc, hRs⟩ dL_types_243) hP hS hA rfl (fun H locs hP hS => ?_)
                have hv_47 := low_bd y_46 (n := 8) (by omega)
                refine lv_goto (tgt := 278) hx hb dL_types_246 (by decide) ?_
                exact J_21 (lowZ y_46 (8 : Int)) _ _ (by omega) hP hD hS
              · refine lv_iload hx hb dL_types_198 (lv_at hl 2 rfl) ?_
                refine z_iconst hx hb dL_types_200 ?_
                refine z_icmp_lt (tgt := 217) hx hb dL_types_201 (by decide) (by omega) (by omega) (fun c_48 => absurd c_48 (by omega)) (fun c_48 => ?_)
                refine lv_iload hx hb dL_types_204 (lv_at hl 2 rfl) ?_
                refine z_iconst hx hb dL_types_206 ?_
                refine z_icmp_le (tgt := 290) hx hb dL_types_207 (by decide) (by omega) (by omega) (fun c_49 => ?_) (fun c_49 => absurd c_49 (by omega))
                refine lv_iload hx hb dL_types_290 (lv_at hl 2 rfl) ?_
                refine z_iconst hx hb dL_types_292 ?_
                refine z_icmp_lt (tgt := 302) hx hb dL_types_293 (by decide) (by omega) (by omega) (fun c_50 => absurd c_50 (by omega)) (fun c_50 => ?_)
                refine lv_iload hx hb dL_types_296 (lv_at hl 2 rfl) ?_
                refine z_iconst hx hb dL_types_298 ?_
                refine z_icmp_ne (tgt := 371) hx hb dL_types_299 (by decide) (by omega) (by omega) (fun c_51 => ?_) (fun c_51 => absurd c_51 (by omega))
                refine lv_iload_n hx hb dL_types_371 rfl (lv_at hl 0 rfl) ?_
                refine z_if_eq (tgt := 413) hx hb dL_types_372 (by decide) (by omega) (fun c_52 => absurd c_52 (by omega)) (fun c_52 => ?_)
                refine lv_aload_n hx hb dL_types_375 rfl (lv_at hl 6 rfl) ?_
                have J_53 : ∀ (bz_54 : Int) (H : Heap) (locs : List Loc), (bz_54 = 59 ∨ (bz_54 = 46 ∧ (i : Int) = n6 - 1)) → va_P D vwCl (wS xo xh t ta cI cC cH q3) H → va_D A (wS xo xh t ta cI cC cH q3) → va_S A s.heap H locs → W p l e R s m args below meth c H locs 0 0 Q (F0 m 403 ls [.int (iI bz_54), .ref xo]) := by
                  intro bz_54 H locs hbz_54 hP hD hS
                  obtain ⟨q4, mxq4, hRq4, hsq4, hxq4⟩ := sc_type l D xo xh t ta cI cC cH hRq3 bz_54 (by omega) hxq3 (by omega)
                  refine mw_full (st1 := [.int (iI (mq3 + 1))]) (mr_V (As := [.int (iI bz_54)]) (rest := []) (ci := 2) (q0 := 0) ⟨hx, hb, hml, hown, hts⟩ mxq4 (cwV 1 hts (gV q_385 q_386 q_387 q_37 q_310) rfl rfl rfl (by decide +kernel) ⟨Nat.le_trans (m := 3) (Nat.le_of_ble_eq_true rfl) (Nat.le_trans (Nat.le_of_ble_eq_true rfl) hRf), Nat.le_trans (m := 64) (Nat.le_of_ble_eq_true rfl) (Nat.le_trans (Nat.le_of_ble_eq_true rfl) hRl)⟩) hN hK hP hD rfl rfl rfl hl.1 (Nat.le_of_ble_eq_true rfl) ⟨hRc, hRs⟩ dL_types_403) hD hS hA rfl (fun H locs hP hD hS => ?_)
                  refine z_if_le (tgt := 413) hx hb dL_types_406 (by decide) (by omega) (fun c_55 => absurd c_55 (by omega)) (fun c_55 => ?_)
                  refine z_iconst hx hb dL_types_409 ?_
                  refine lv_goto (tgt := 414) hx hb dL_types_410 (by decide) ?_
                  refine lv_istore_n (lv' := [(3, .int (iI 1)), (7, .int (iI rr)), (6, .int (iI wy)), (5, .int (iI y_4)), (4, .int (iI (i : Int))), (2, .int (iI n6)), (0, .ref xo), (1, .int (iI x))]) hx hb dL_types_414 rfl hl (by decide) rfl (fun ls hl => ?_)
                  refine lv_iinc (v := iI ((i : Int) + 1)) (lv' := [(4, .int (iI ((i : Int) + 1))), (3, .int (iI 1)), (7, .int (iI rr)), (6, .int (iI wy)), (5, .int (iI y_4)), (2, .int (iI n6)), (0, .ref xo), (1, .int (iI x))]) hx hb dL_types_415 hl (k := 4) rfl (iI_add _ _) (by decide) rfl (fun ls hl => ?_)
                  refine lv_goto (tgt := 23) hx hb dL_types_418 (by decide) ?_
                  have e1_0 : (((i + 1 : Nat) : Int)) = ((i : Int) + 1) := by first | rfl | omega
                  have e1_1 : (1) = 1 := by first | rfl | omega
                  exact ih23 (i + 1) q4 (by omega) (by omega) hRq4 (Sme_tr (Sme_tr (Sme_tr hsk hsq2) hsq3) hsq4) ⟨(mq3 + 1), ⟨by omega, by omega⟩, hbz_54.elim (fun e => Or.inl (by have t := hxq4; rw [if_pos e, if_neg (by omega), Int.add_zero] at t; rw [show ((i + 1 : Nat) : Int) = (i : Int) + 1 from by omega]; exact t)) (fun e => Or.inr ⟨by omega, by have t := hxq4; rw [if_neg (by omega), if_pos e.1, Int.add_zero, Int.zero_add] at t; rw [← e.2]; exact t⟩)⟩ _ _ _ hP hD hS (lv_to (lv_sub (l' := [(4, .int (iI ((i : Int) + 1))), (3, .int (iI 1)), (2, .int (iI n6)), (0, .ref xo), (1, .int (iI x))]) hl [0, 1, 5, 6, 7] rfl) (by simp only [e1_0, e1_1]))
                refine lv_iload hx hb dL_types_376 (lv_at hl 4 rfl) ?_
                refine lv_iload_n hx hb dL_types_378 rfl (lv_at hl 5 rfl) ?_
                refine z_iconst hx hb dL_types_379 ?_
                refine z_isub hx hb dL_types_380 ?_
                refine z_icmp_ne (tgt := 401) hx hb dL_types_381 (by decide) (by omega) (by omega) (fun c_56 => ?_) (fun c_56 => ?_)
                · refine z_bipush hx hb dL_types_401 (by decide +kernel) ?_
                  exact J_53 59 _ _ (by omega) hP hD hS
                · refine lv_iload_n hx hb dL_types_384 rfl (lv_at hl 7 rfl) ?_
                  refine z_bipush hx hb dL_types_385 (by decide +kernel) ?_
                  refine lv_ishr hx hb dL_types_387 ?_
                  obtain ⟨y_57, hy_57, ey_57⟩ := iI_ex (iI x >>> (iI 26 &&& 31))
                  refine z_asB (b := y_57) ey_57 ?_
                  refine z_bipush hx hb dL_types_388 (by decide +kernel) ?_
                  refine mw_none (st1 := [.int (iI (lowZ y_57 (7 : Int))), .ref xo]) (mr_S (As := [.int (iI y_57), .int (iI 7)]) (rest := [.ref xo]) ⟨hx, hb, hml, hown, hts⟩ (m_L_low l D y_57 (7 : Int) (by omega)) (va_cwS 2 hts (gS q_372 q_373 q_374 q_341) rfl rfl rfl (by decide +kernel) ⟨Nat.le_trans (m := 1) (Nat.le_of_ble_eq_true rfl) (Nat.le_trans (Nat.le_of_ble_eq_true rfl) hRf), Nat.le_trans (m := 21) (Nat.le_of_ble_eq_true rfl) (Nat.le_trans (Nat.le_of_ble_eq_true rfl) hRl)⟩) hN (hK.sub (tys' := []) [] rfl) (va_P0 _ _ _) (va_D0 A) rfl hl.1 (Nat.le_of_ble_eq_true rfl) ⟨hRc, hRs⟩ dL_types_390) hP hS hA rfl (fun H locs hP hS => ?_)
                  have hv_58 := low_bd y_57 (n := 7) (by omega)
                  refine z_if_ne (tgt := 401) hx hb dL_types_393 (by decide) (by omega) (fun c_59 => ?_) (fun c_59 => ?_)
                  · refine z_bipush hx hb dL_types_401 (by decide +kernel) ?_
                    exact J_53 59 _ _ (by omega) hP hD hS
                  · refine z_bipush hx hb dL_types_396 (by decide +kernel) ?_
                    refine lv_goto (tgt := 403) hx hb dL_types_398 (by decide) ?_
                    exact J_53 46 _ _ (by omega) hP hD hS
              · refine lv_iload hx hb dL_types_198 (lv_at hl 2 rfl) ?_
                refine z_iconst hx hb dL_types_200 ?_
                refine z_icmp_lt (tgt := 217) hx hb dL_types_201 (by decide) (by omega) (by omega) (fun c_60 => absurd c_60 (by omega)) (fun c_60 => ?_)
                refine lv_iload hx hb dL_types_204 (lv_at hl 2 rfl) ?_
                refine z_iconst hx hb dL_types_206 ?_
                refine z_icmp_le (tgt := 290) hx hb dL_types_207 (by decide) (by omega) (by omega) (fun c_61 => absurd c_61 (by omega)) (fun c_61 => ?_)
                refine lv_iload hx hb dL_types_210 (lv_at hl 2 rfl) ?_
                refine z_bipush hx hb dL_types_212 (by decide +kernel) ?_
                refine z_icmp_ge (tgt := 290) hx hb dL_types_214 (by decide) (by omega) (by omega) (fun c_62 => absurd c_62 (by omega)) (fun c_62 => ?_)
                refine lv_iload_n hx hb dL_types_217 rfl (lv_at hl 0 rfl) ?_
                refine z_if_eq (tgt := 288) hx hb dL_types_218 (by decide) (by omega) (fun c_63 => absurd c_63 (by omega)) (fun c_63 => ?_)
                refine lv_aload_n hx hb dL_types_221 rfl (lv_at hl 6 rfl) ?_
                refine z_bipush hx hb dL_types_222 (by decide +kernel) ?_
                obtain ⟨q4, mxq4, hRq4, hsq4, hxq4⟩ := sc_type l D xo xh t ta cI cC cH hRq3 (44 : Int) (by omega) hxq3 (by omega)
                have hxq4 : TX q4 (mq3 + 1) (i : Int) 0 := by have e0 := hxq4; rw [if_neg (by omega), if_neg (by omega), Int.add_zero, Int.add_zero] at e0; exact e0
                refine mw_full (st1 := [.int (iI (mq3 + 1))]) (mr_V (As := [.int (iI 44)]) (rest := []) (ci := 2) (q0 := 0) ⟨hx, hb, hml, hown, hts⟩ mxq4 (cwV 1 hts (gV q_385 q_386 q_387 q_37 q_310) rfl rfl rfl (by decide +kernel) ⟨Nat.le_trans (m := 3) (Nat.le_of_ble_eq_true rfl) (Nat.le_trans (Nat.le_of_ble_eq_true rfl) hRf), Nat.le_trans (m := 64) (Nat.le_of_ble_eq_true rfl) (Nat.le_trans (Nat.le_of_ble_eq_true rfl) hRl)⟩) hN hK hP hD rfl rfl rfl hl.1 (Nat.le_of_ble_eq_true rfl) ⟨hRc, hRs⟩ dL_types_224) hD hS hA rfl (fun H locs hP hD hS => ?_)
                refine z_if_le (tgt := 288) hx hb dL_types_227 (by decide) (by omega) (fun c_64 => absurd c_64 (by omega)) (fun c_64 => ?_)
                refine lv_aload_n hx hb dL_types_230 rfl (lv_at hl 6 rfl) ?_
                have J_65 : ∀ (bz_66 : Int) (H : Heap) (locs : List Loc), (0 ≤ bz_66 ∧ bz_66 ≤ 999 ∧ (wy ≠ 6 → bz_66 < 10)) → va_P D vwCl (wS xo xh t ta cI cC cH q4) H → va_D A (wS xo xh t ta cI cC cH q4) → va_S A s.heap H locs → W p l e R s m args below meth c H locs 0 0 Q (F0 m 278 ls [.int (iI bz_66), .ref xo]) := by
                  intro bz_66 H locs hbz_66 hP hD hS
                  refine me_go (st1 := [.int (iI 1)]) (me_S (As := [.ref xo, .int (iI bz_66)]) (rest := []) ⟨hx, hb, hml, hown, hts⟩ (m_L_number l D xo xh t ta cI cC cH hRq4 (by omega) bz_66 (by omega) (by omega) hxq4 (by omega)) (va_cwS 2 hts (gS q_392 q_393 q_374 q_388) rfl rfl rfl (by decide +kernel) ⟨Nat.le_trans (m := 4) (Nat.le_of_ble_eq_true rfl) (Nat.le_trans (Nat.le_of_ble_eq_true rfl) hRf), Nat.le_trans (m := 85) (Nat.le_of_ble_eq_true rfl) (Nat.le_trans (Nat.le_of_ble_eq_true rfl) hRl)⟩) hN hK hP hD rfl hl.1 (Nat.le_of_ble_eq_true rfl) ⟨hRc, hRs⟩ dL_types_278) hD hS hA rfl (fun q5 H locs hu hP hD hS => ?_)
                  obtain ⟨hRq5, hsq5, mq5, hmq5, hxq5⟩ := hu
                  refine z_if_eq (tgt := 288) hx hb dL_types_281 (by decide) (by omega) (fun c_67 => absurd c_67 (by omega)) (fun c_67 => ?_)
                  refine z_iconst hx hb dL_types_284 ?_
                  refine lv_goto (tgt := 289) hx hb dL_types_285 (by decide) ?_
                  refine lv_istore_n (lv' := [(3, .int (iI 1)), (7, .int (iI rr)), (6, .int (iI wy)), (5, .int (iI y_4)), (4, .int (iI (i : Int))), (2, .int (iI n6)), (0, .ref xo), (1, .int (iI x))]) hx hb dL_types_289 rfl hl (by decide) rfl (fun ls hl => ?_)
                  refine lv_iload hx hb dL_types_290 (lv_at hl 2 rfl) ?_
                  refine z_iconst hx hb dL_types_292 ?_
                  refine z_icmp_lt (tgt := 302) hx hb dL_types_293 (by decide) (by omega) (by omega) (fun c_68 => absurd c_68 (by omega)) (fun c_68 => ?_)
                  refine lv_iload hx hb dL_types_296 (lv_at hl 2 rfl) ?_
                  refine z_iconst hx hb dL_types_298 ?_
                  refine z_icmp_ne (tgt := 371) hx hb dL_types_299 (by decide) (by omega) (by omega) (fun c_69 => absurd c_69 (by omega)) (fun c_69 => ?_)
                  refine lv_iload_n hx hb dL_types_302 rfl (lv_at hl 0 rfl) ?_
                  refine z_if_eq (tgt := 369) hx hb dL_types_303 (by decide) (by omega) (fun c_70 => absurd c_70 (by omega)) (fun c_70 => ?_)
                  refine lv_aload_n hx hb dL_types_306 rfl (lv_at hl 6 rfl) ?_
                  refine z_bipush hx hb dL_types_307 (by decide +kernel) ?_
                  obtain ⟨q6, mxq6, hRq6, hsq6, hxq6⟩ := sc_type l D xo xh t ta cI cC cH hRq5 (44 : Int) (by omega) hxq5 (by omega)
                  have hxq6 : TX q6 (mq5 + 1) (i : Int) 0 := by have e0 := hxq6; rw [if_neg (by omega), if_neg (by omega), Int.add_zero, Int.add_zero] at e0; exact e0
                  refine mw_full (st1 := [.int (iI (mq5 + 1))]) (mr_V (As := [.int (iI 44)]) (rest := []) (ci := 2) (q0 := 0) ⟨hx, hb, hml, hown, hts⟩ mxq6 (cwV 1 hts (gV q_385 q_386 q_387 q_37 q_310) rfl rfl rfl (by decide +kernel) ⟨Nat.le_trans (m := 3) (Nat.le_of_ble_eq_true rfl) (Nat.le_trans (Nat.le_of_ble_eq_true rfl) hRf), Nat.le_trans (m := 64) (Nat.le_of_ble_eq_true rfl) (Nat.le_trans (Nat.le_of_ble_eq_true rfl) hRl)⟩) hN hK hP hD rfl rfl rfl hl.1 (Nat.le_of_ble_eq_true rfl) ⟨hRc, hRs⟩ dL_types_309) hD hS hA rfl (fun H locs hP hD hS => ?_)
                  refine z_if_le (tgt := 369) hx hb dL_types_312 (by decide) (by omega) (fun c_71 => absurd c_71 (by omega)) (fun c_71 => ?_)
                  refine lv_aload_n hx hb dL_types_315 rfl (lv_at hl 6 rfl) ?_
                  have J_72 : ∀ (bz_73 : Int) (H : Heap) (locs : List Loc), (0 ≤ bz_73 ∧ bz_73 ≤ 999 ∧ (wy ≠ 4 → bz_73 < 10)) → va_P D vwCl (wS xo xh t ta cI cC cH q6) H → va_D A (wS xo xh t ta cI cC cH q6) → va_S A s.heap H locs → W p l e R s m args below meth c H locs 0 0 Q (F0 m 359 ls [.int (iI bz_73), .ref xo]) := by
                    intro bz_73 H locs hbz_73 hP hD hS
                    refine me_go (st1 := [.int (iI 1)]) (me_S (As := [.ref xo, .int (iI bz_73)]) (rest := []) ⟨hx, hb, hml, hown, hts⟩ (m_L_number l D xo xh t ta cI cC cH hRq6 (by omega) bz_73 (by omega) (by omega) hxq6 (by omega)) (va_cwS 2 hts (gS q_392 q_393 q_374 q_388) rfl rfl rfl (by decide +kernel) ⟨Nat.le_trans (m := 4) (Nat.le_of_ble_eq_true rfl) (Nat.le_trans (Nat.le_of_ble_eq_true rfl) hRf), Nat.le_trans (m := 85) (Nat.le_of_ble_eq_true rfl) (Nat.le_trans (Nat.le_of_ble_eq_true rfl) hRl)⟩) hN hK hP hD rfl hl.1 (Nat.le_of_ble_eq_true rfl) ⟨hRc, hRs⟩ dL_types_359) hD hS hA rfl (fun q7 H locs hu hP hD hS => ?_)
                    obtain ⟨hRq7, hsq7, mq7, hmq7, hxq7⟩ := hu
                    refine z_if_eq (tgt := 369) hx hb dL_types_362 (by decide) (by omega) (fun c_74 => absurd c_74 (by omega)) (fun c_74 => ?_)
                    refine z_iconst hx hb dL_types_365 ?_
                    refine lv_goto (tgt := 370) hx hb dL_types_366 (by decide) ?_
                    refine lv_istore_n (lv' := [(3, .int (iI 1)), (7, .int (iI rr)), (6, .int (iI wy)), (5, .int (iI y_4)), (4, .int (iI (i : Int))), (2, .int (iI n6)), (0, .ref xo), (1, .int (iI x))]) hx hb dL_types_370 rfl hl (by decide) rfl (fun ls hl => ?_)
                    refine lv_iload_n hx hb dL_types_371 rfl (lv_at hl 0 rfl) ?_
                    refine z_if_eq (tgt := 413) hx hb dL_types_372 (by decide) (by omega) (fun c_75 => absurd c_75 (by omega)) (fun c_75 => ?_)
                    refine lv_aload_n hx hb dL_types_375 rfl (lv_at hl 6 rfl) ?_
                    have J_76 : ∀ (bz_77 : Int) (H : Heap) (locs : List Loc), (bz_77 = 59 ∨ (bz_77 = 46 ∧ (i : Int) = n6 - 1)) → va_P D vwCl (wS xo xh t ta cI cC cH q7) H → va_D A (wS xo xh t ta cI cC cH q7) → va_S A s.heap H locs → W p l e R s m args below meth c H locs 0 0 Q (F0 m 403 ls [.int (iI bz_77), .ref xo]) := by
                      intro bz_77 H locs hbz_77 hP hD hS
                      obtain ⟨q8, mxq8, hRq8, hsq8, hxq8⟩ := sc_type l D xo xh t ta cI cC cH hRq7 bz_77 (by omega) hxq7 (by omega)
                      refine mw_full (st1 := [.int (iI (mq7 + 1))]) (mr_V (As := [.int (iI bz_77)]) (rest := []) (ci := 2) (q0 := 0) ⟨hx, hb, hml, hown, hts⟩ mxq8 (cwV 1 hts (gV q_385 q_386 q_387 q_37 q_310) rfl rfl rfl (by decide +kernel) ⟨Nat.le_trans (m := 3) (Nat.le_of_ble_eq_true rfl) (Nat.le_trans (Nat.le_of_ble_eq_true rfl) hRf), Nat.le_trans (m := 64) (Nat.le_of_ble_eq_true rfl) (Nat.le_trans (Nat.le_of_ble_eq_true rfl) hRl)⟩) hN hK hP hD rfl rfl rfl hl.1 (Nat.le_of_ble_eq_true rfl) ⟨hRc, hRs⟩ dL_types_403) hD hS hA rfl (fun H locs hP hD hS => ?_)
                      refine z_if_le (tgt := 413) hx hb dL_types_406 (by decide) (by omega) (fun c_78 => absurd c_78 (by omega)) (fun c_78 => ?_)
                      refine z_iconst hx hb dL_types_409 ?_
                      refine lv_goto (tgt := 414) hx hb dL_types_410 (by decide) ?_
                      refine lv_istore_n (lv' := [(3, .int (iI 1)), (7, .int (iI rr)), (6, .int (iI wy)), (5, .int (iI y_4)), (4, .int (iI (i : Int))), (2, .int (iI n6)), (0, .ref xo), (1, .int (iI x))]) hx hb dL_types_414 rfl hl (by decide) rfl (fun ls hl => ?_)
                      refine lv_iinc (v := iI ((i : Int) + 1)) (lv' := [(4, .int (iI ((i : Int) + 1))), (3, .int (iI 1)), (7, .int (iI rr)), (6, .int (iI wy)), (5, .int (iI y_4)), (2, .int (iI n6)), (0, .ref xo), (1, .int (iI x))]) hx hb dL_types_415 hl (k := 4) rfl (iI_add _ _) (by decide) rfl (fun ls hl => ?_)
                      refine lv_goto (tgt := 23) hx hb dL_types_418 (by decide) ?_
                      have e1_0 : (((i + 1 : Nat) : Int)) = ((i : Int) + 1) := by first | rfl | omega
                      have e1_1 : (1) = 1 := by first | rfl | omega
                      exact ih23 (i + 1) q8 (by omega) (by omega) hRq8 (Sme_tr (Sme_tr (Sme_tr (Sme_tr (Sme_tr (Sme_tr (Sme_tr hsk hsq2) hsq3) hsq4) hsq5) hsq6) hsq7) hsq8) ⟨(mq7 + 1), ⟨by omega, by omega⟩, hbz_77.elim (fun e => Or.inl (by have t := hxq8; rw [if_pos e, if_neg (by omega), Int.add_zero] at t; rw [show ((i + 1 : Nat) : Int) = (i : Int) + 1 from by omega]; exact t)) (fun e => Or.inr ⟨by omega, by have t := hxq8; rw [if_neg (by omega), if_pos e.1, Int.add_zero, Int.zero_add] at t; rw [← e.2]; exact t⟩)⟩ _ _ _ hP hD hS (lv_to (lv_sub (l' := [(4, .int (iI ((i : Int) + 1))), (3, .int (iI 1)), (2, .int (iI n6)), (0, .ref xo), (1, .int (iI x))]) hl [0, 1, 5, 6, 7] rfl) (by simp only [e1_0, e1_1]))
                    refine lv_iload hx hb dL_types_376 (lv_at hl 4 rfl) ?_
                    refine lv_iload_n hx hb dL_types_378 rfl (lv_at hl 5 rfl) ?_
                    refine z_iconst hx hb dL_types_379 ?_
                    refine z_isub hx hb dL_types_380 ?_
                    refine z_icmp_ne (tgt := 401) hx hb dL_types_381 (by decide) (by omega) (by omega) (fun c_79 => ?_) (fun c_79 => ?_)
                    · refine z_bipush hx hb dL_types_401 (by decide +kernel) ?_
                      exact J_76 59 _ _ (by omega) hP hD hS
                    · refine lv_iload_n hx hb dL_types_384 rfl (lv_at hl 7 rfl) ?_
                      refine z_bipush hx hb dL_types_385 (by decide +kernel) ?_
                      refine lv_ishr hx hb dL_types_387 ?_
                      obtain ⟨y_80, hy_80, ey_80⟩ := iI_ex (iI x >>> (iI 26 &&& 31))
                      refine z_asB (b := y_80) ey_80 ?_
                      refine z_bipush hx hb dL_types_388 (by decide +kernel) ?_
                      refine mw_none (st1 := [.int (iI (lowZ y_80 (7 : Int))), .ref xo]) (mr_S (As := [.int (iI y_80), .int (iI 7)]) (rest := [.ref xo]) ⟨hx, hb, hml, hown, hts⟩ (m_L_low l D y_80 (7 : Int) (by omega)) (va_cwS 2 hts (gS q_372 q_373 q_374 q_341) rfl rfl rfl (by decide +kernel) ⟨Nat.le_trans (m := 1) (Nat.le_of_ble_eq_true rfl) (Nat.le_trans (Nat.le_of_ble_eq_true rfl) hRf), Nat.le_trans (m := 21) (Nat.le_of_ble_eq_true rfl) (Nat.le_trans (Nat.le_of_ble_eq_true rfl) hRl)⟩) hN (hK.sub (tys' := []) [] rfl) (va_P0 _ _ _) (va_D0 A) rfl hl.1 (Nat.le_of_ble_eq_true rfl) ⟨hRc, hRs⟩ dL_types_390) hP hS hA rfl (fun H locs hP hS => ?_)
                      have hv_81 := low_bd y_80 (n := 7) (by omega)
                      refine z_if_ne (tgt := 401) hx hb dL_types_393 (by decide) (by omega) (fun c_82 => ?_) (fun c_82 => ?_)
                      · refine z_bipush hx hb dL_types_401 (by decide +kernel) ?_
                        exact J_76 59 _ _ (by omega) hP hD hS
                      · refine z_bipush hx hb dL_types_396 (by decide +kernel) ?_
                        refine lv_goto (tgt := 403) hx hb dL_types_398 (by decide) ?_
                        exact J_76 46 _ _ (by omega) hP hD hS
                  refine lv_iload hx hb dL_types_316 (lv_at hl 2 rfl) ?_
                  refine z_iconst hx hb dL_types_318 ?_
                  refine z_icmp_ne (tgt := 335) hx hb dL_types_319 (by decide) (by omega) (by omega) (fun c_83 => absurd c_83 (by omega)) (fun c_83 => ?_)
                  refine lv_iload hx hb dL_types_322 (lv_at hl 3 rfl) ?_
                  refine z_iconst hx hb dL_types_324 ?_
                  refine lv_ishr hx hb dL_types_325 ?_
                  obtain ⟨y_84, hy_84, ey_84⟩ := iI_ex (iI y_4 >>> (iI 3 &&& 31))
                  refine z_asB (b := y_84) ey_84 ?_
                  refine z_sipush hx hb dL_types_326 (by decide +kernel) ?_
                  refine mw_none (st1 := [.int (iI (lowZ y_84 (1000 : Int))), .ref xo]) (mr_S (As := [.int (iI y_84), .int (iI 1000)]) (rest := [.ref xo]) ⟨hx, hb, hml, hown, hts⟩ (m_L_low l D y_84 (1000 : Int) (by omega)) (va_cwS 2 hts (gS q_372 q_373 q_374 q_341) rfl rfl rfl (by decide +kernel) ⟨Nat.le_trans (m := 1) (Nat.le_of_ble_eq_true rfl) (Nat.le_trans (Nat.le_of_ble_eq_true rfl) hRf), Nat.le_trans (m := 21) (Nat.le_of_ble_eq_true rfl) (Nat.le_trans (Nat.le_of_ble_eq_true rfl) hRl)⟩) hN (hK.sub (tys' := []) [] rfl) (va_P0 _ _ _) (va_D0 A) rfl hl.1 (Nat.le_of_ble_eq_true rfl) ⟨hRc, hRs⟩ dL_types_329) hP hS hA rfl (fun H locs hP hS => ?_)
                  have hv_85 := low_bd y_84 (n := 1000) (by omega)
                  refine lv_goto (tgt := 359) hx hb dL_types_332 (by decide) ?_
                  exact J_72 (lowZ y_84 (1000 : Int)) _ _ (by omega) hP hD hS
                refine lv_iload hx hb dL_types_231 (lv_at hl 2 rfl) ?_
                refine z_iconst hx hb dL_types_233 ?_
                refine z_icmp_ge (tgt := 249) hx hb dL_types_234 (by decide) (by omega) (by omega) (fun c_86 => ?_) (fun c_86 => absurd c_86 (by omega))
                refine lv_iload hx hb dL_types_249 (lv_at hl 2 rfl) ?_
                refine z_bipush hx hb dL_types_251 (by decide +kernel) ?_
                refine z_icmp_ne (tgt := 270) hx hb dL_types_253 (by decide) (by omega) (by omega) (fun c_87 => ?_) (fun c_87 => absurd c_87 (by omega))
                refine lv_iload hx hb dL_types_270 (lv_at hl 3 rfl) ?_
                refine z_iconst hx hb dL_types_272 ?_
                refine lv_ishr hx hb dL_types_273 ?_
                obtain ⟨y_88, hy_88, ey_88⟩ := iI_ex (iI y_4 >>> (iI 2 &&& 31))
                refine z_asB (b := y_88) ey_88 ?_
                refine z_iconst hx hb dL_types_274 ?_
                refine mw_none (st1 := [.int (iI (lowZ y_88 (3 : Int))), .ref xo]) (mr_S (As := [.int (iI y_88), .int (iI 3)]) (rest := [.ref xo]) ⟨hx, hb, hml, hown, hts⟩ (m_L_low l D y_88 (3 : Int) (by omega)) (va_cwS 2 hts (gS q_372 q_373 q_374 q_341) rfl rfl rfl (by decide +kernel) ⟨Nat.le_trans (m := 1) (Nat.le_of_ble_eq_true rfl) (Nat.le_trans (Nat.le_of_ble_eq_true rfl) hRf), Nat.le_trans (m := 21) (Nat.le_of_ble_eq_true rfl) (Nat.le_trans (Nat.le_of_ble_eq_true rfl) hRl)⟩) hN (hK.sub (tys' := []) [] rfl) (va_P0 _ _ _) (va_D0 A) rfl hl.1 (Nat.le_of_ble_eq_true rfl) ⟨hRc, hRs⟩ dL_types_275) hP hS hA rfl (fun H locs hP hS => ?_)
                have hv_89 := low_bd y_88 (n := 3) (by omega)
                exact J_65 (lowZ y_88 (3 : Int)) _ _ (by omega) hP hD hS
              · refine lv_iload hx hb dL_types_198 (lv_at hl 2 rfl) ?_
                refine z_iconst hx hb dL_types_200 ?_
                refine z_icmp_lt (tgt := 217) hx hb dL_types_201 (by decide) (by omega) (by omega) (fun c_90 => absurd c_90 (by omega)) (fun c_90 => ?_)
                refine lv_iload hx hb dL_types_204 (lv_at hl 2 rfl) ?_
                refine z_iconst hx hb dL_types_206 ?_
                refine z_icmp_le (tgt := 290) hx hb dL_types_207 (by decide) (by omega) (by omega) (fun c_91 => absurd c_91 (by omega)) (fun c_91 => ?_)
                refine lv_iload hx hb dL_types_210 (lv_at hl 2 rfl) ?_
                refine z_bipush hx hb dL_types_212 (by decide +kernel) ?_
                refine z_icmp_ge (tgt := 290) hx hb dL_types_214 (by decide) (by omega) (by omega) (fun c_92 => absurd c_92 (by omega)) (fun c_92 => ?_)
                refine lv_iload_n hx hb dL_types_217 rfl (lv_at hl 0 rfl) ?_
                refine z_if_eq (tgt := 288) hx hb dL_types_218 (by decide) (by omega) (fun c_93 => absurd c_93 (by omega)) (fun c_93 => ?_)
                refine lv_aload_n hx hb dL_types_221 rfl (lv_at hl 6 rfl) ?_
                refine z_bipush hx hb dL_types_222 (by decide +kernel) ?_
                obtain ⟨q4, mxq4, hRq4, hsq4, hxq4⟩ := sc_type l D xo xh t ta cI cC cH hRq3 (44 : Int) (by omega) hxq3 (by omega)
                have hxq4 : TX q4 (mq3 + 1) (i : Int) 0 := by have e0 := hxq4; rw [if_neg (by omega), if_neg (by omega), Int.add_zero, Int.add_zero] at e0; exact e0
                refine mw_full (st1 := [.int (iI (mq3 + 1))]) (mr_V (As := [.int (iI 44)]) (rest := []) (ci := 2) (q0 := 0) ⟨hx, hb, hml, hown, hts⟩ mxq4 (cwV 1 hts (gV q_385 q_386 q_387 q_37 q_310) rfl rfl rfl (by decide +kernel) ⟨Nat.le_trans (m := 3) (Nat.le_of_ble_eq_true rfl) (Nat.le_trans (Nat.le_of_ble_eq_true rfl) hRf), Nat.le_trans (m := 64) (Nat.le_of_ble_eq_true rfl) (Nat.le_trans (Nat.le_of_ble_eq_true rfl) hRl)⟩) hN hK hP hD rfl rfl rfl hl.1 (Nat.le_of_ble_eq_true rfl) ⟨hRc, hRs⟩ dL_types_224) hD hS hA rfl (fun H locs hP hD hS => ?_)
                refine z_if_le (tgt := 288) hx hb dL_types_227 (by decide) (by omega) (fun c_94 => absurd c_94 (by omega)) (fun c_94 => ?_)
                refine lv_aload_n hx hb dL_types_230 rfl (lv_at hl 6 rfl) ?_
                have J_95 : ∀ (bz_96 : Int) (H : Heap) (locs : List Loc), (0 ≤ bz_96 ∧ bz_96 ≤ 999 ∧ (wy ≠ 6 → bz_96 < 10)) → va_P D vwCl (wS xo xh t ta cI cC cH q4) H → va_D A (wS xo xh t ta cI cC cH q4) → va_S A s.heap H locs → W p l e R s m args below meth c H locs 0 0 Q (F0 m 278 ls [.int (iI bz_96), .ref xo]) := by
                  intro bz_96 H locs hbz_96 hP hD hS
                  refine me_go (st1 := [.int (iI 1)]) (me_S (As := [.ref xo, .int (iI bz_96)]) (rest := []) ⟨hx, hb, hml, hown, hts⟩ (m_L_number l D xo xh t ta cI cC cH hRq4 (by omega) bz_96 (by omega) (by omega) hxq4 (by omega)) (va_cwS 2 hts (gS q_392 q_393 q_374 q_388) rfl rfl rfl (by decide +kernel) ⟨Nat.le_trans (m := 4) (Nat.le_of_ble_eq_true rfl) (Nat.le_trans (Nat.le_of_ble_eq_true rfl) hRf), Nat.le_trans (m := 85) (Nat.le_of_ble_eq_true rfl) (Nat.le_trans (Nat.le_of_ble_eq_true rfl) hRl)⟩) hN hK hP hD rfl hl.1 (Nat.le_of_ble_eq_true rfl) ⟨hRc, hRs⟩ dL_types_278) hD hS hA rfl (fun q5 H locs hu hP hD hS => ?_)
                  obtain ⟨hRq5, hsq5, mq5, hmq5, hxq5⟩ := hu
                  refine z_if_eq (tgt := 288) hx hb dL_types_281 (by decide) (by omega) (fun c_97 => absurd c_97 (by omega)) (fun c_97 => ?_)
                  refine z_iconst hx hb dL_types_284 ?_
                  refine lv_goto (tgt := 289) hx hb dL_types_285 (by decide) ?_
                  refine lv_istore_n (lv' := [(3, .int (iI 1)), (7, .int (iI rr)), (6, .int (iI wy)), (5, .int (iI y_4)), (4, .int (iI (i : Int))), (2, .int (iI n6)), (0, .ref xo), (1, .int (iI x))]) hx hb dL_types_289 rfl hl (by decide) rfl (fun ls hl => ?_)
                  refine lv_iload hx hb dL_types_290 (lv_at hl 2 rfl) ?_
                  refine z_iconst hx hb dL_types_292 ?_
                  refine z_icmp_lt (tgt := 302) hx hb dL_types_293 (by decide) (by omega) (by omega) (fun c_98 => absurd c_98 (by omega)) (fun c_98 => ?_)
                  refine lv_iload hx hb dL_types_296 (lv_at hl 2 rfl) ?_
                  refine z_iconst hx hb dL_types_298 ?_
                  refine z_icmp_ne (tgt := 371) hx hb dL_types_299 (by decide) (by omega) (by omega) (fun c_99 => ?_) (fun c_99 => absurd c_99 (by omega))
                  refine lv_iload_n hx hb dL_types_371 rfl (lv_at hl 0 rfl) ?_
                  refine z_if_eq (tgt := 413) hx hb dL_types_372 (by decide) (by omega) (fun c_100 => absurd c_100 (by omega)) (fun c_100 => ?_)
                  refine lv_aload_n hx hb dL_types_375 rfl (lv_at hl 6 rfl) ?_
                  have J_101 : ∀ (bz_102 : Int) (H : Heap) (locs : List Loc), (bz_102 = 59 ∨ (bz_102 = 46 ∧ (i : Int) = n6 - 1)) → va_P D vwCl (wS xo xh t ta cI cC cH q5) H → va_D A (wS xo xh t ta cI cC cH q5) → va_S A s.heap H locs → W p l e R s m args below meth c H locs 0 0 Q (F0 m 403 ls [.int (iI bz_102), .ref xo]) := by
                    intro bz_102 H locs hbz_102 hP hD hS
                    obtain ⟨q6, mxq6, hRq6, hsq6, hxq6⟩ := sc_type l D xo xh t ta cI cC cH hRq5 bz_102 (by omega) hxq5 (by omega)
                    refine mw_full (st1 := [.int (iI (mq5 + 1))]) (mr_V (As := [.int (iI bz_102)]) (rest := []) (ci := 2) (q0 := 0) ⟨hx, hb, hml, hown, hts⟩ mxq6 (cwV 1 hts (gV q_385 q_386 q_387 q_37 q_310) rfl rfl rfl (by decide +kernel) ⟨Nat.le_trans (m := 3) (Nat.le_of_ble_eq_true rfl) (Nat.le_trans (Nat.le_of_ble_eq_true rfl) hRf), Nat.le_trans (m := 64) (Nat.le_of_ble_eq_true rfl) (Nat.le_trans (Nat.le_of_ble_eq_true rfl) hRl)⟩) hN hK hP hD rfl rfl rfl hl.1 (Nat.le_of_ble_eq_true rfl) ⟨hRc, hRs⟩ dL_types_403) hD hS hA rfl (fun H locs hP hD hS => ?_)
                    refine z_if_le (tgt := 413) hx hb dL_types_406 (by decide) (by omega) (fun c_103 => absurd c_103 (by omega)) (fun c_103 => ?_)
                    refine z_iconst hx hb dL_types_409 ?_
                    refine lv_goto (tgt := 414) hx hb dL_types_410 (by decide) ?_
                    refine lv_istore_n (lv' := [(3, .int (iI 1)), (7, .int (iI rr)), (6, .int (iI wy)), (5, .int (iI y_4)), (4, .int (iI (i : Int))), (2, .int (iI n6)), (0, .ref xo), (1, .int (iI x))]) hx hb dL_types_414 rfl hl (by decide) rfl (fun ls hl => ?_)
                    refine lv_iinc (v := iI ((i : Int) + 1)) (lv' := [(4, .int (iI ((i : Int) + 1))), (3, .int (iI 1)), (7, .int (iI rr)), (6, .int (iI wy)), (5, .int (iI y_4)), (2, .int (iI n6)), (0, .ref xo), (1, .int (iI x))]) hx hb dL_types_415 hl (k := 4) rfl (iI_add _ _) (by decide) rfl (fun ls hl => ?_)
                    refine lv_goto (tgt := 23) hx hb dL_types_418 (by decide) ?_
                    have e1_0 : (((i + 1 : Nat) : Int)) = ((i : Int) + 1) := by first | rfl | omega
                    have e1_1 : (1) = 1 := by first | rfl | omega
                    exact ih23 (i + 1) q6 (by omega) (by omega) hRq6 (Sme_tr (Sme_tr (Sme_tr (Sme_tr (Sme_tr hsk hsq2) hsq3) hsq4) hsq5) hsq6) ⟨(mq5 + 1), ⟨by omega, by omega⟩, hbz_102.elim (fun e => Or.inl (by have t := hxq6; rw [if_pos e, if_neg (by omega), Int.add_zero] at t; rw [show ((i + 1 : Nat) : Int) = (i : Int) + 1 from by omega]; exact t)) (fun e => Or.inr ⟨by omega, by have t := hxq6; rw [if_neg (by omega), if_pos e.1, Int.add_zero, Int.zero_add] at t; rw [← e.2]; exact t⟩)⟩ _ _ _ hP hD hS (lv_to (lv_sub (l' := [(4, .int (iI ((i : Int) + 1))), (3, .int (iI 1)), (2, .int (iI n6)), (0, .ref xo), (1, .int (iI x))]) hl [0, 1, 5, 6, 7] rfl) (by simp only [e1_0, e1_1]))
                  refine lv_iload hx hb dL_types_376 (lv_at hl 4 rfl) ?_
                  refine lv_iload_n hx hb dL_types_378 rfl (lv_at hl 5 rfl) ?_
                  refine z_iconst hx hb dL_types_379 ?_
                  refine z_isub hx hb dL_types_380 ?_
                  refine z_icmp_ne (tgt := 401) hx hb dL_types_381 (by decide) (by omega) (by omega) (fun c_104 => ?_) (fun c_104 => ?_)
                  · refine z_bipush hx hb dL_types_401 (by decide +kernel) ?_
                    exact J_101 59 _ _ (by omega) hP hD hS
                  · refine lv_iload_n hx hb dL_types_384 rfl (lv_at hl 7 rfl) ?_
                    refine z_bipush hx hb dL_types_385 (by decide +kernel) ?_
                    refine lv_ishr hx hb dL_types_387 ?_
                    obtain ⟨y_105, hy_105, ey_105⟩ := iI_ex (iI x >>> (iI 26 &&& 31))
                    refine z_asB (b := y_105) ey_105 ?_
                    refine z_bipush hx hb dL_types_388 (by decide +kernel) ?_
                    refine mw_none (st1 := [.int (iI (lowZ y_105 (7 : Int))), .ref xo]) (mr_S (As := [.int (iI y_105), .int (iI 7)]) (rest := [.ref xo]) ⟨hx, hb, hml, hown, hts⟩ (m_L_low l D y_105 (7 : Int) (by omega)) (va_cwS 2 hts (gS q_372 q_373 q_374 q_341) rfl rfl rfl (by decide +kernel) ⟨Nat.le_trans (m := 1) (Nat.le_of_ble_eq_true rfl) (Nat.le_trans (Nat.le_of_ble_eq_true rfl) hRf), Nat.le_trans (m := 21) (Nat.le_of_ble_eq_true rfl) (Nat.le_trans (Nat.le_of_ble_eq_true rfl) hRl)⟩) hN (hK.sub (tys' := []) [] rfl) (va_P0 _ _ _) (va_D0 A) rfl hl.1 (Nat.le_of_ble_eq_true rfl) ⟨hRc, hRs⟩ dL_types_390) hP hS hA rfl (fun H locs hP hS => ?_)
                    have hv_106 := low_bd y_105 (n := 7) (by omega)
                    refine z_if_ne (tgt := 401) hx hb dL_types_393 (by decide) (by omega) (fun c_107 => ?_) (fun c_107 => ?_)
                    · refine z_bipush hx hb dL_types_401 (by decide +kernel) ?_
                      exact J_101 59 _ _ (by omega) hP hD hS
                    · refine z_bipush hx hb dL_types_396 (by decide +kernel) ?_
                      refine lv_goto (tgt := 403) hx hb dL_types_398 (by decide) ?_
                      exact J_101 46 _ _ (by omega) hP hD hS
                refine lv_iload hx hb dL_types_231 (lv_at hl 2 rfl) ?_
                refine z_iconst hx hb dL_types_233 ?_
                refine z_icmp_ge (tgt := 249) hx hb dL_types_234 (by decide) (by omega) (by omega) (fun c_108 => ?_) (fun c_108 => absurd c_108 (by omega))
                refine lv_iload hx hb dL_types_249 (lv_at hl 2 rfl) ?_
                refine z_bipush hx hb dL_types_251 (by decide +kernel) ?_
                refine z_icmp_ne (tgt := 270) hx hb dL_types_253 (by decide) (by omega) (by omega) (fun c_109 => ?_) (fun c_109 => ?_)
                · refine lv_iload hx hb dL_types_270 (lv_at hl 3 rfl) ?_
                  refine z_iconst hx hb dL_types_272 ?_
                  refine lv_ishr hx hb dL_types_273 ?_
                  obtain ⟨y_110, hy_110, ey_110⟩ := iI_ex (iI y_4 >>> (iI 2 &&& 31))
                  refine z_asB (b := y_110) ey_110 ?_
                  refine z_iconst hx hb dL_types_274 ?_
                  refine mw_none (st1 := [.int (iI (lowZ y_110 (3 : Int))), .ref xo]) (mr_S (As := [.int (iI y_110), .int (iI 3)]) (rest := [.ref xo]) ⟨hx, hb, hml, hown, hts⟩ (m_L_low l D y_110 (3 : Int) (by omega)) (va_cwS 2 hts (gS q_372 q_373 q_374 q_341) rfl rfl rfl (by decide +kernel) ⟨Nat.le_trans (m := 1) (Nat.le_of_ble_eq_true rfl) (Nat.le_trans (Nat.le_of_ble_eq_true rfl) hRf), Nat.le_trans (m := 21) (Nat.le_of_ble_eq_true rfl) (Nat.le_trans (Nat.le_of_ble_eq_true rfl) hRl)⟩) hN (hK.sub (tys' := []) [] rfl) (va_P0 _ _ _) (va_D0 A) rfl hl.1 (Nat.le_of_ble_eq_true rfl) ⟨hRc, hRs⟩ dL_types_275) hP hS hA rfl (fun H locs hP hS => ?_)
                  have hv_111 := low_bd y_110 (n := 3) (by omega)
                  exact J_95 (lowZ y_110 (3 : Int)) _ _ (by omega) hP hD hS
                · refine z_iconst hx hb dL_types_256 ?_
                  refine lv_iload hx hb dL_types_257 (lv_at hl 3 rfl) ?_
                  refine z_iconst hx hb dL_types_259 ?_
                  refine lv_ishr hx hb dL_types_260 ?_
                  obtain ⟨y_112, hy_112, ey_112⟩ := iI_ex (iI y_4 >>> (iI 2 &&& 31))
                  refine z_asB (b := y_112) ey_112 ?_
                  refine z_bipush hx hb dL_types_261 (by decide +kernel) ?_
                  refine mw_none (st1 := [.int (iI (lowZ y_112 (100 : Int))), .int (iI 1), .ref xo]) (mr_S (As := [.int (iI y_112), .int (iI 100)]) (rest := [.int (iI 1), .ref xo]) ⟨hx, hb, hml, hown, hts⟩ (m_L_low l D y_112 (100 : Int) (by omega)) (va_cwS 2 hts (gS q_372 q_373 q_374 q_341) rfl rfl rfl (by decide +kernel) ⟨Nat.le_trans (m := 1) (Nat.le_of_ble_eq_true rfl) (Nat.le_trans (Nat.le_of_ble_eq_true rfl) hRf), Nat.le_trans (m := 21) (Nat.le_of_ble_eq_true rfl) (Nat.le_trans (Nat.le_of_ble_eq_true rfl) hRl)⟩) hN (hK.sub (tys' := []) [] rfl) (va_P0 _ _ _) (va_D0 A) rfl hl.1 (Nat.le_of_ble_eq_true rfl) ⟨hRc, hRs⟩ dL_types_263) hP hS hA rfl (fun H locs hP hS => ?_)
                  have hv_113 := low_bd y_112 (n := 100) (by omega)
                  refine z_iadd hx hb dL_types_266 ?_
                  refine lv_goto (tgt := 278) hx hb dL_types_267 (by decide) ?_
                  exact J_95 (1 + (lowZ y_112 (100 : Int))) _ _ (by omega) hP hD hS
              · refine lv_iload hx hb dL_types_198 (lv_at hl 2 rfl) ?_
                refine z_iconst hx hb dL_types_200 ?_
                refine z_icmp_lt (tgt := 217) hx hb dL_types_201 (by decide) (by omega) (by omega) (fun c_114 => absurd c_114 (by omega)) (fun c_114 => ?_)
                refine lv_iload hx hb dL_types_204 (lv_at hl 2 rfl) ?_
                refine z_iconst hx hb dL_types_206 ?_
                refine z_icmp_le (tgt := 290) hx hb dL_types_207 (by decide) (by omega) (by omega) (fun c_115 => absurd c_115 (by omega)) (fun c_115 => ?_)
                refine lv_iload hx hb dL_types_210 (lv_at hl 2 rfl) ?_
                refine z_bipush hx hb dL_types_212 (by decide +kernel) ?_
                refine z_icmp_ge (tgt := 290) hx hb dL_types_214 (by decide) (by omega) (by omega) (fun c_116 => ?_) (fun c_116 => absurd c_116 (by omega))
                refine lv_iload hx hb dL_types_290 (lv_at hl 2 rfl) ?_
                refine z_iconst hx hb dL_types_292 ?_
                refine z_icmp_lt (tgt := 302) hx hb dL_types_293 (by decide) (by omega) (by omega) (fun c_117 => absurd c_117 (by omega)) (fun c_117 => ?_)
                refine lv_iload hx hb dL_types_296 (lv_at hl 2 rfl) ?_
                refine z_iconst hx hb dL_types_298 ?_
                refine z_icmp_ne (tgt := 371) hx hb dL_types_299 (by decide) (by omega) (by omega) (fun c_118 => ?_) (fun c_118 => absurd c_118 (by omega))
                refine lv_iload_n hx hb dL_types_371 rfl (lv_at hl 0 rfl) ?_
                refine z_if_eq (tgt := 413) hx hb dL_types_372 (by decide) (by omega) (fun c_119 => absurd c_119 (by omega)) (fun c_119 => ?_)
                refine lv_aload_n hx hb dL_types_375 rfl (lv_at hl 6 rfl) ?_
                have J_120 : ∀ (bz_121 : Int) (H : Heap) (locs : List Loc), (bz_121 = 59 ∨ (bz_121 = 46 ∧ (i : Int) = n6 - 1)) → va_P D vwCl (wS xo xh t ta cI cC cH q3) H → va_D A (wS xo xh t ta cI cC cH q3) → va_S A s.heap H locs → W p l e R s m args below meth c H locs 0 0 Q (F0 m 403 ls [.int (iI bz_121), .ref xo]) := by
                  intro bz_121 H locs hbz_121 hP hD hS
                  obtain ⟨q4, mxq4, hRq4, hsq4, hxq4⟩ := sc_type l D xo xh t ta cI cC cH hRq3 bz_121 (by omega) hxq3 (by omega)
                  refine mw_full (st1 := [.int (iI (mq3 + 1))]) (mr_V (As := [.int (iI bz_121)]) (rest := []) (ci := 2) (q0 := 0) ⟨hx, hb, hml, hown, hts⟩ mxq4 (cwV 1 hts (gV q_385 q_386 q_387 q_37 q_310) rfl rfl rfl (by decide +kernel) ⟨Nat.le_trans (m := 3) (Nat.le_of_ble_eq_true rfl) (Nat.le_trans (Nat.le_of_ble_eq_true rfl) hRf), Nat.le_trans (m := 64) (Nat.le_of_ble_eq_true rfl) (Nat.le_trans (Nat.le_of_ble_eq_true rfl) hRl)⟩) hN hK hP hD rfl rfl rfl hl.1 (Nat.le_of_ble_eq_true rfl) ⟨hRc, hRs⟩ dL_types_403) hD hS hA rfl (fun H locs hP hD hS => ?_)
                  refine z_if_le (tgt := 413) hx hb dL_types_406 (by decide) (by omega) (fun c_122 => absurd c_122 (by omega)) (fun c_122 => ?_)
                  refine z_iconst hx hb dL_types_409 ?_
                  refine lv_goto (tgt := 414) hx hb dL_types_410 (by decide) ?_
                  refine lv_istore_n (lv' := [(3, .int (iI 1)), (7, .int (iI rr)), (6, .int (iI wy)), (5, .int (iI y_4)), (4, .int (iI (i : Int))), (2, .int (iI n6)), (0, .ref xo), (1, .int (iI x))]) hx hb dL_types_414 rfl hl (by decide) rfl (fun ls hl => ?_)
                  refine lv_iinc (v := iI ((i : Int) + 1)) (lv' := [(4, .int (iI ((i : Int) + 1))), (3, .int (iI 1)), (7, .int (iI rr)), (6, .int (iI wy)), (5, .int (iI y_4)), (2, .int (iI n6)), (0, .ref xo), (1, .int (iI x))]) hx hb dL_types_415 hl (k := 4) rfl (iI_add _ _) (by decide) rfl (fun ls hl => ?_)
                  refine lv_goto (tgt := 23) hx hb dL_types_418 (by decide) ?_
                  have e1_0 : (((i + 1 : Nat) : Int)) = ((i : Int) + 1) := by first | rfl | omega
                  have e1_1 : (1) = 1 := by first | rfl | omega
                  exact ih23 (i + 1) q4 (by omega) (by omega) hRq4 (Sme_tr (Sme_tr (Sme_tr hsk hsq2) hsq3) hsq4) ⟨(mq3 + 1), ⟨by omega, by omega⟩, hbz_121.elim (fun e => Or.inl (by have t := hxq4; rw [if_pos e, if_neg (by omega), Int.add_zero] at t; rw [show ((i + 1 : Nat) : Int) = (i : Int) + 1 from by omega]; exact t)) (fun e => Or.inr ⟨by omega, by have t := hxq4; rw [if_neg (by omega), if_pos e.1, Int.add_zero, Int.zero_add] at t; rw [← e.2]; exact t⟩)⟩ _ _ _ hP hD hS (lv_to (lv_sub (l' := [(4, .int (iI ((i : Int) + 1))), (3, .int (iI 1)), (2, .int (iI n6)), (0, .ref xo), (1, .int (iI x))]) hl [0, 1, 5, 6, 7] rfl) (by simp only [e1_0, e1_1]))
                refine lv_iload hx hb dL_types_376 (lv_at hl 4 rfl) ?_
                refine lv_iload_n hx hb dL_types_378 rfl (lv_at hl 5 rfl) ?_
                refine z_iconst hx hb dL_types_379 ?_
                refine z_isub hx hb dL_types_380 ?_
                refine z_icmp_ne (tgt := 401) hx hb dL_types_381 (by decide) (by omega) (by omega) (fun c_123 => ?_) (fun c_123 => ?_)
                · refine z_bipush hx hb dL_types_401 (by decide +kernel) ?_
                  exact J_120 59 _ _ (by omega) hP hD hS
                · refine lv_iload_n hx hb dL_types_384 rfl (lv_at hl 7 rfl) ?_
                  refine z_bipush hx hb dL_types_385 (by decide +kernel) ?_
                  refine lv_ishr hx hb dL_types_387 ?_
                  obtain ⟨y_124, hy_124, ey_124⟩ := iI_ex (iI x >>> (iI 26 &&& 31))
                  refine z_asB (b := y_124) ey_124 ?_
                  refine z_bipush hx hb dL_types_388 (by decide +kernel) ?_
                  refine mw_none (st1 := [.int (iI (lowZ y_124 (7 : Int))), .ref xo]) (mr_S (As := [.int (iI y_124), .int (iI 7)]) (rest := [.ref xo]) ⟨hx, hb, hml, hown, hts⟩ (m_L_low l D y_124 (7 : Int) (by omega)) (va_cwS 2 hts (gS q_372 q_373 q_374 q_341) rfl rfl rfl (by decide +kernel) ⟨Nat.le_trans (m := 1) (Nat.le_of_ble_eq_true rfl) (Nat.le_trans (Nat.le_of_ble_eq_true rfl) hRf), Nat.le_trans (m := 21) (Nat.le_of_ble_eq_true rfl) (Nat.le_trans (Nat.le_of_ble_eq_true rfl) hRl)⟩) hN (hK.sub (tys' := []) [] rfl) (va_P0 _ _ _) (va_D0 A) rfl hl.1 (Nat.le_of_ble_eq_true rfl) ⟨hRc, hRs⟩ dL_types_390) hP hS hA rfl (fun H locs hP hS => ?_)
                  have hv_125 := low_bd y_124 (n := 7) (by omega)
                  refine z_if_ne (tgt := 401) hx hb dL_types_393 (by decide) (by omega) (fun c_126 => ?_) (fun c_126 => ?_)
                  · refine z_bipush hx hb dL_types_401 (by decide +kernel) ?_
                    exact J_120 59 _ _ (by omega) hP hD hS
                  · refine z_bipush hx hb dL_types_396 (by decide +kernel) ?_
                    refine lv_goto (tgt := 403) hx hb dL_types_398 (by decide) ?_
                    exact J_120 46 _ _ (by omega) hP hD hS
            refine lv_iload hx hb dL_types_146 (lv_at hl 1 rfl) ?_
            refine z_bipush hx hb dL_types_148 (by decide +kernel) ?_
            refine z_icmp_le (tgt := 184) hx hb dL_types_150 (by decide) (by omega) (by omega) (fun c_127 => ?_) (fun c_127 => ?_)
            · refine lv_iload hx hb dL_types_184 (lv_at hl 0 rfl) ?_
              exact J_14 rr _ _ (by omega) hP hD hS
            · refine z_iconst hx hb dL_types_153 ?_
              refine lv_iload hx hb dL_types_154 (lv_at hl 2 rfl) ?_
              refine z_iconst hx hb dL_types_156 ?_
              refine lv_ishr hx hb dL_types_157 ?_
              obtain ⟨y_128, hy_128, ey_128⟩ := iI_ex (iI y_4 >>> (iI 2 &&& 31))
              refine z_asB (b := y_128) ey_128 ?_
              refine lv_iload_n hx hb dL_types_158 rfl (lv_at hl 7 rfl) ?_
              refine z_bipush hx hb dL_types_159 (by decide +kernel) ?_
              refine lv_ishr hx hb dL_types_161 ?_
              obtain ⟨y_129, hy_129, ey_129⟩ := iI_ex (iI x >>> (iI 25 &&& 31))
              refine z_asB (b := y_129) ey_129 ?_
              refine z_bipush hx hb dL_types_162 (by decide +kernel) ?_
              refine mw_none (st1 := [.int (iI (lowZ y_129 (9 : Int))), .int (iI y_128), .int (iI 1), .ref xo]) (mr_S (As := [.int (iI y_129), .int (iI 9)]) (rest := [.int (iI y_128), .int (iI 1), .ref xo]) ⟨hx, hb, hml, hown, hts⟩ (m_L_low l D y_129 (9 : Int) (by omega)) (va_cwS 2 hts (gS q_372 q_373 q_374 q_341) rfl rfl rfl (by decide +kernel) ⟨Nat.le_trans (m := 1) (Nat.le_of_ble_eq_true rfl) (Nat.le_trans (Nat.le_of_ble_eq_true rfl) hRf), Nat.le_trans (m := 21) (Nat.le_of_ble_eq_true rfl) (Nat.le_trans (Nat.le_of_ble_eq_true rfl) hRl)⟩) hN (hK.sub (tys' := []) [] rfl) (va_P0 _ _ _) (va_D0 A) rfl hl.1 (Nat.le_of_ble_eq_true rfl) ⟨hRc, hRs⟩ dL_types_164) hP hS hA rfl (fun H locs hP hS => ?_)
              have hv_130 := low_bd y_129 (n := 9) (by omega)
              refine z_if_ne (tgt := 175) hx hb dL_types_167 (by decide) (by omega) (fun c_131 => ?_) (fun c_131 => ?_)
              · refine z_bipush hx hb dL_types_175 (by decide +kernel) ?_
                refine mw_none (st1 := [.int (iI (lowZ y_128 (9 : Int))), .int (iI 1), .ref xo]) (mr_S (As := [.int (iI y_128), .int (iI 9)]) (rest := [.int (iI 1), .ref xo]) ⟨hx, hb, hml, hown, hts⟩ (m_L_low l D y_128 (9 : Int) (by omega)) (va_cwS 2 hts (gS q_372 q_373 q_374 q_341) rfl rfl rfl (by decide +kernel) ⟨Nat.le_trans (m := 1) (Nat.le_of_ble_eq_true rfl) (Nat.le_trans (Nat.le_of_ble_eq_true rfl) hRf), Nat.le_trans (m := 21) (Nat.le_of_ble_eq_true rfl) (Nat.le_trans (Nat.le_of_ble_eq_true rfl) hRl)⟩) hN (hK.sub (tys' := []) [] rfl) (va_P0 _ _ _) (va_D0 A) rfl hl.1 (Nat.le_of_ble_eq_true rfl) ⟨hRc, hRs⟩ dL_types_177) hP hS hA rfl (fun H locs hP hS => ?_)
                have hv_132 := low_bd y_128 (n := 9) (by omega)
                refine z_iadd hx hb dL_types_180 ?_
                refine lv_goto (tgt := 186) hx hb dL_types_181 (by decide) ?_
                exact J_14 (1 + (lowZ y_128 (9 : Int))) _ _ (by omega) hP hD hS
              · refine z_bipush hx hb dL_types_170 (by decide +kernel) ?_
                refine lv_goto (tgt := 177) hx hb dL_types_172 (by decide) ?_
                refine mw_none (st1 := [.int (iI (lowZ y_128 (120 : Int))), .int (iI 1), .ref xo]) (mr_S (As := [.int (iI y_128), .int (iI 120)]) (rest := [.int (iI 1), .ref xo]) ⟨hx, hb, hml, hown, hts⟩ (m_L_low l D y_128 (120 : Int) (by omega)) (va_cwS 2 hts (gS q_372 q_373 q_374 q_341) rfl rfl rfl (by decide +kernel) ⟨Nat.le_trans (m := 1) (Nat.le_of_ble_eq_true rfl) (Nat.le_trans (Nat.le_of_ble_eq_true rfl) hRf), Nat.le_trans (m := 21) (Nat.le_of_ble_eq_true rfl) (Nat.le_trans (Nat.le_of_ble_eq_true rfl) hRl)⟩) hN (hK.sub (tys' := []) [] rfl) (va_P0 _ _ _) (va_D0 A) rfl hl.1 (Nat.le_of_ble_eq_true rfl) ⟨hRc, hRs⟩ dL_types_177) hP hS hA rfl (fun H locs hP hS => ?_)
                have hv_133 := low_bd y_128 (n := 120) (by omega)
                refine z_iadd hx hb dL_types_180 ?_
                refine lv_goto (tgt := 186) hx hb dL_types_181 (by decide) ?_
                exact J_14 (1 + (lowZ y_128 (120 : Int))) _ _ (by omega) hP hD hS
          refine lv_iload hx hb dL_types_81 (lv_at hl 1 rfl) ?_
          refine z_iconst hx hb dL_types_83 ?_
          refine z_icmp_ge (tgt := 92) hx hb dL_types_84 (by decide) (by omega) (by omega) (fun c_134 => ?_) (fun c_134 => ?_)
          · refine lv_iload hx hb dL_types_92 (lv_at hl 1 rfl) ?_
            refine z_iconst hx hb dL_types_94 ?_
            refine z_icmp_ne (tgt := 103) hx hb dL_types_95 (by decide) (by omega) (by omega) (fun c_135 => ?_) (fun c_135 => ?_)
            · refine lv_iload hx hb dL_types_103 (lv_at hl 1 rfl) ?_
              refine z_iconst hx hb dL_types_105 ?_
              refine z_icmp_ne (tgt := 114) hx hb dL_types_106 (by decide) (by omega) (by omega) (fun c_136 => ?_) (fun c_136 => ?_)
              · refine lv_iload hx hb dL_types_114 (lv_at hl 1 rfl) ?_
                refine z_iconst hx hb dL_types_116 ?_
                refine z_icmp_ne (tgt := 125) hx hb dL_types_117 (by decide) (by omega) (by omega) (fun c_137 => ?_) (fun c_137 => ?_)
                · refine lv_iload hx hb dL_types_125 (lv_at hl 1 rfl) ?_
                  refine z_bipush hx hb dL_types_127 (by decide +kernel) ?_
                  refine z_icmp_ne (tgt := 137) hx hb dL_types_129 (by decide) (by omega) (by omega) (fun c_138 => ?_) (fun c_138 => ?_)
                  · refine z_bipush hx hb dL_types_137 (by decide +kernel) ?_
                    exact J_11 100 _ _ (by omega) hP hD hS
                  · refine z_bipush hx hb dL_types_132 (by decide +kernel) ?_
                    refine lv_goto (tgt := 139) hx hb dL_types_134 (by decide) ?_
                    exact J_11 114 _ _ (by omega) hP hD hS
                · refine z_bipush hx hb dL_types_120 (by decide +kernel) ?_
                  refine lv_goto (tgt := 139) hx hb dL_types_122 (by decide) ?_
                  exact J_11 109 _ _ (by omega) hP hD hS
              · refine z_bipush hx hb dL_types_109 (by decide +kernel) ?_
                refine lv_goto (tgt := 139) hx hb dL_types_111 (by decide) ?_
                exact J_11 102 _ _ (by omega) hP hD hS
            · refine z_bipush hx hb dL_types_98 (by decide +kernel) ?_
              refine lv_goto (tgt := 139) hx hb dL_types_100 (by decide) ?_
              exact J_11 97 _ _ (by omega) hP hD hS
          · refine z_bipush hx hb dL_types_87 (by decide +kernel) ?_
            refine lv_goto (tgt := 139) hx hb dL_types_89 (by decide) ?_
            exact J_11 119 _ _ (by omega) hP hD hS
        refine lv_iload_n hx hb dL_types_52 rfl (lv_at hl 6 rfl) ?_
        refine z_bipush hx hb dL_types_53 (by decide +kernel) ?_
        refine lv_ishr hx hb dL_types_55 ?_
        obtain ⟨y_139, hy_139, ey_139⟩ := iI_ex (iI x >>> (iI 23 &&& 31))
        refine z_asB (b := y_139) ey_139 ?_
        refine z_bipush hx hb dL_types_56 (by decide +kernel) ?_
        refine mw_none (st1 := [.int (iI (lowZ y_139 (9 : Int))), .int (iI y_6)]) (mr_S (As := [.int (iI y_139), .int (iI 9)]) (rest := [.int (iI y_6)]) ⟨hx, hb, hml, hown, hts⟩ (m_L_low l D y_139 (9 : Int) (by omega)) (va_cwS 2 hts (gS q_372 q_373 q_374 q_341) rfl rfl rfl (by decide +kernel) ⟨Nat.le_trans (m := 1) (Nat.le_of_ble_eq_true rfl) (Nat.le_trans (Nat.le_of_ble_eq_true rfl) hRf), Nat.le_trans (m := 21) (Nat.le_of_ble_eq_true rfl) (Nat.le_trans (Nat.le_of_ble_eq_true rfl) hRl)⟩) hN (hK.sub (tys' := []) [] rfl) (va_P0 _ _ _) (va_D0 A) rfl hl.1 (Nat.le_of_ble_eq_true rfl) ⟨hRc, hRs⟩ dL_types_58) hP hS hA rfl (fun H locs hP hS => ?_)
        have hv_140 := low_bd y_139 (n := 9) (by omega)
        refine z_if_ne (tgt := 69) hx hb dL_types_61 (by decide) (by omega) (fun c_141 => ?_) (fun c_141 => ?_)
        · refine z_bipush hx hb dL_types_69 (by decide +kernel) ?_
          exact J_7 6 _ _ (by omega) hP hD hS
        · refine z_bipush hx hb dL_types_64 (by decide +kernel) ?_
          refine lv_goto (tgt := 71) hx hb dL_types_66 (by decide) ?_
          exact J_7 7 _ _ (by omega) hP hD hS
  have e0_0 : (((0 : Nat) : Int)) = 0 := by first | rfl | omega
  exact LP23 (n6.toNat + 1) 0 q1 (by omega) (by omega) hRq1 hsq1 ⟨0, ⟨by omega, by omega⟩, Or.inl hxq1⟩ _ _ _ hP hD hS (lv_to (lv_sub (l' := [(4, .int (iI 0)), (3, .int (iI 1)), (2, .int (iI n6)), (0, .ref xo), (1, .int (iI x))]) hl [0, 1, 2, 3, 4] rfl) (by simp only [e0_0]))
