set_option maxHeartbeats 4000000 in
set_option maxRecDepth 100000 in
theorem m_X3_mean (l : Launch) (D : va_G) (mo : Nat) (am : Nat → Nat) (cI : ClassId) (S : Nat → Int → Int) {B : Int} (hI : InvG B (gOf (S 0)))  : MW l D yX3_mean (wsY yX3_mean cX3_mean 3 (some .int)) { frames := 2, cells := 0, slots := 0, locals := 45 } [(cI, .int)] [.ref mo] (wM mo am cI S) (wM mo am cI S) (some (.int (iI ((FP.fdiv (FP.i2f (iI (distZ (gOf (S 0)) 48))) 1111490560).toNat : Int)))) := by
  refine mw_ofI (cc := cX3_mean) (maxL := 3) (by decide) rfl (Nat.le_of_ble_eq_true rfl) ?_
  intro p e s m below meth c R A Q args ls hx hb hml hown hts hRf hRl hRc hRs hN hK hP hD hS hA hret hl
  have hq : ∀ w ∈ ALL, w.before args s = true := fun w h => hts w (List.mem_cons_of_mem _ h)
  have hl : lv_has ls 3 [(0, .ref mo)] := hl
  refine z_iconst hx hb dX3_mean_0 ?_
  refine lv_istore_n (lv' := [(1, .int (iI 0)), (0, .ref mo)]) hx hb dX3_mean_1 rfl hl (by decide) rfl (fun ls hl => ?_)
  refine z_iconst hx hb dX3_mean_2 ?_
  refine lv_istore_n (lv' := [(2, .int (iI 0)), (1, .int (iI 0)), (0, .ref mo)]) hx hb dX3_mean_3 rfl hl (by decide) rfl (fun ls hl => ?_)
  have LP4 : ∀ (fu i : Nat), i ≤ 48 → 48 < fu + i → ∀ (H : Heap) (locs : List Loc) (ls : Array Slot), va_P D vwCl (wM mo am cI S) H → va_D A (wM mo am cI S) → va_S A s.heap H locs → lv_has ls 3 [(2, .int (iI (i : Int))), (1, .int (iI (distZ (gOf (S 0)) i))), (0, .ref mo)] → W p l e R s m args below meth c H locs 0 0 Q (F0 m 4 ls []) := by
    intro fu
    induction fu with
    | zero => intro i h1 h2; omega
    | succ fu ih4 =>
      intro i hi1 hif H locs ls hP hD hS hl
      have hi8 : 8 * ((i : Int) / 8) + (i : Int) % 8 = i := by omega
      have hdb := dist_bd hI i (by omega)
      have hj0 := fun h : i < 48 => invG_0 hI (i : Int) (by omega) (by omega)
      have hj1 := fun h : i < 48 => invG_1 hI (i : Int) (by omega) (by omega)
      refine lv_iload_n hx hb dX3_mean_4 rfl (lv_at hl 0 rfl) ?_
      refine z_bipush hx hb dX3_mean_5 (by decide +kernel) ?_
      refine z_icmp_ge (tgt := 52) hx hb dX3_mean_7 (by decide) (by omega) (by omega) (fun c_1 => ?_) (fun c_1 => ?_)
      · refine lv_iload_n hx hb dX3_mean_52 rfl (lv_at hl 1 rfl) ?_
        refine lv_i2f hx hb dX3_mean_53 ?_
        refine lv_ldcf hx hb hown (hq _ q_520) dX3_mean_54 ?_
        have hfp56 := fp_48 (a := (distZ (gOf (S 0)) i)) (by omega)
        refine lv_fdiv hx hb dX3_mean_56 (fPos_n32 hfp56) ?_
        refine mw_none (st1 := [.int (iI (((FP.fdiv (FP.i2f (iI (distZ (gOf (S 0)) i))) 1111490560)).toNat : Int))]) (mr_S (As := [.float (FP.fdiv (FP.i2f (iI (distZ (gOf (S 0)) i))) 1111490560)]) (rest := []) ⟨hx, hb, hml, hown, hts⟩ (m_f2ib l D (FP.fdiv (FP.i2f (iI (distZ (gOf (S 0)) i))) 1111490560) hfp56) (va_cwS 1 hts (gS q_521 q_522 q_523 q_524) rfl rfl rfl (by decide +kernel) ⟨Nat.le_trans (m := 2) (Nat.le_of_ble_eq_true rfl) (Nat.le_trans (Nat.le_of_ble_eq_true rfl) hRf), Nat.le_trans (m := 41) (Nat.le_of_ble_eq_true rfl) (Nat.le_trans (Nat.le_of_ble_eq_true rfl) hRl)⟩) hN (hK.sub (tys' := []) [] rfl) (va_P0 _ _ _) (va_D0 A) rfl hl.1 (Nat.le_of_ble_eq_true rfl) ⟨hRc, hRs⟩ dX3_mean_57) hP hS hA rfl (fun H locs hP hS => ?_)
        refine z_as (show (((FP.fdiv (FP.i2f (iI (distZ (gOf (S 0)) i))) 1111490560)).toNat : Int) = ((FP.fdiv (FP.i2f (iI (distZ (gOf (S 0)) 48))) 1111490560).toNat : Int) from by (rw [show i = 48 by omega])) ?_
        first | exact hret _ _ _ _ dX3_mean_60 hP hD hS | (exfalso; omega)
      · have hk0 := hj0 (by omega)
        have hk1 := hj1 (by omega)
        refine lv_iload_n hx hb dX3_mean_10 rfl (lv_at hl 1 rfl) ?_
        refine lv_aload_n hx hb dX3_mean_11 rfl (lv_at hl 2 rfl) ?_
        refine lv_iload_n hx hb dX3_mean_12 rfl (lv_at hl 0 rfl) ?_
        refine z_bipush hx hb dX3_mean_13 (by decide +kernel) ?_
        refine z_idiv hx hb dX3_mean_15 (by omega) (by omega) ?_
        refine lv_iload_n hx hb dX3_mean_16 rfl (lv_at hl 0 rfl) ?_
        refine z_bipush hx hb dX3_mean_17 (by decide +kernel) ?_
        refine z_irem hx hb dX3_mean_19 (by omega) (by omega) ?_
        refine z_iconst hx hb dX3_mean_20 ?_
        refine mw_full (st1 := [.int (iI ((gOf (S 0)) 1 (8 * ((i : Int) / 8) + ((i : Int) % 8)))), .int (iI (distZ (gOf (S 0)) i))]) (mr_V (As := [.int (iI ((i : Int) / 8)), .int (iI ((i : Int) % 8)), .int (iI 1)]) (rest := [.int (iI (distZ (gOf (S 0)) i))]) (ci := 3) (q0 := 0) ⟨hx, hb, hml, hown, hts⟩ (m_X3_ofCell l D mo am cI S ((i : Int) / 8) ((i : Int) % 8) 1 1 (by omega) (by omega) (by omega)) (cwV 3 hts (gV q_354 q_355 q_356 q_345 q_352) rfl rfl rfl (by decide +kernel) ⟨Nat.le_trans (m := 2) (Nat.le_of_ble_eq_true rfl) (Nat.le_trans (Nat.le_of_ble_eq_true rfl) hRf), Nat.le_trans (m := 45) (Nat.le_of_ble_eq_true rfl) (Nat.le_trans (Nat.le_of_ble_eq_true rfl) hRl)⟩) hN hK hP hD rfl rfl rfl hl.1 (Nat.le_of_ble_eq_true rfl) ⟨hRc, hRs⟩ dX3_mean_21) hD hS hA rfl (fun H locs hP hD hS => ?_)
        have hf_2 := invG_1 hI (8 * ((i : Int) / 8) + ((i : Int) % 8)) (by omega) (by omega)
        refine lv_aload_n hx hb dX3_mean_24 rfl (lv_at hl 2 rfl) ?_
        refine lv_iload_n hx hb dX3_mean_25 rfl (lv_at hl 0 rfl) ?_
        refine z_bipush hx hb dX3_mean_26 (by decide +kernel) ?_
        refine z_idiv hx hb dX3_mean_28 (by omega) (by omega) ?_
        refine lv_iload_n hx hb dX3_mean_29 rfl (lv_at hl 0 rfl) ?_
        refine z_bipush hx hb dX3_mean_30 (by decide +kernel) ?_
        refine z_irem hx hb dX3_mean_32 (by omega) (by omega) ?_
        refine z_iconst hx hb dX3_mean_33 ?_
        refine mw_full (st1 := [.int (iI ((gOf (S 0)) 0 (8 * ((i : Int) / 8) + ((i : Int) % 8)))), .int (iI ((gOf (S 0)) 1 (8 * ((i : Int) / 8) + ((i : Int) % 8)))), .int (iI (distZ (gOf (S 0)) i))]) (mr_V (As := [.int (iI ((i : Int) / 8)), .int (iI ((i : Int) % 8)), .int (iI 0)]) (rest := [.int (iI ((gOf (S 0)) 1 (8 * ((i : Int) / 8) + ((i : Int) % 8)))), .int (iI (distZ (gOf (S 0)) i))]) (ci := 3) (q0 := 0) ⟨hx, hb, hml, hown, hts⟩ (m_X3_ofCell l D mo am cI S ((i : Int) / 8) ((i : Int) % 8) 0 0 (by omega) (by omega) (by omega)) (cwV 3 hts (gV q_354 q_355 q_356 q_345 q_352) rfl rfl rfl (by decide +kernel) ⟨Nat.le_trans (m := 2) (Nat.le_of_ble_eq_true rfl) (Nat.le_trans (Nat.le_of_ble_eq_true rfl) hRf), Nat.le_trans (m := 45) (Nat.le_of_ble_eq_true rfl) (Nat.le_trans (Nat.le_of_ble_eq_true rfl) hRl)⟩) hN hK hP hD rfl rfl rfl hl.1 (Nat.le_of_ble_eq_true rfl) ⟨hRc, hRs⟩ dX3_mean_34) hD hS hA rfl (fun H locs hP hD hS => ?_)
        have hf_3 := invG_0 hI (8 * ((i : Int) / 8) + ((i : Int) % 8)) (by omega) (by omega)
        refine mw_none (st1 := [.int (iI (aimZ ((gOf (S 0)) 0 (8 * ((i : Int) / 8) + ((i : Int) % 8))))), .int (iI ((gOf (S 0)) 1 (8 * ((i : Int) / 8) + ((i : Int) % 8)))), .int (iI (distZ (gOf (S 0)) i))]) (mr_S (As := [.int (iI ((gOf (S 0)) 0 (8 * ((i : Int) / 8) + ((i : Int) % 8))))]) (rest := [.int (iI ((gOf (S 0)) 1 (8 * ((i : Int) / 8) + ((i : Int) % 8)))), .int (iI (distZ (gOf (S 0)) i))]) ⟨hx, hb, hml, hown, hts⟩ (m_X3_aim l D ((gOf (S 0)) 0 (8 * ((i : Int) / 8) + ((i : Int) % 8))) ) (va_cwS 1 hts (gS q_346 q_347 q_345 q_341) rfl rfl rfl (by decide +kernel) ⟨Nat.le_trans (m := 1) (Nat.le_of_ble_eq_true rfl) (Nat.le_trans (Nat.le_of_ble_eq_true rfl) hRf), Nat.le_trans (m := 20) (Nat.le_of_ble_eq_true rfl) (Nat.le_trans (Nat.le_of_ble_eq_true rfl) hRl)⟩) hN (hK.sub (tys' := []) [] rfl) (va_P0 _ _ _) (va_D0 A) rfl hl.1 (Nat.le_of_ble_eq_true rfl) ⟨hRc, hRs⟩ dX3_mean_37) hP hS hA rfl (fun H locs hP hS => ?_)
        have hf_4 : aimZ ((gOf (S 0)) 0 (8 * ((i : Int) / 8) + ((i : Int) % 8))) = 100 + 400 * ((gOf (S 0)) 0 (8 * ((i : Int) / 8) + ((i : Int) % 8))) := rfl
        refine z_isub hx hb dX3_mean_40 ?_
        refine mw_none (st1 := [.int (iI (if ((gOf (S 0)) 1 (8 * ((i : Int) / 8) + ((i : Int) % 8)) - aimZ ((gOf (S 0)) 0 (8 * ((i : Int) / 8) + ((i : Int) % 8)))) < 0 then -((gOf (S 0)) 1 (8 * ((i : Int) / 8) + ((i : Int) % 8)) - aimZ ((gOf (S 0)) 0 (8 * ((i : Int) / 8) + ((i : Int) % 8)))) else ((gOf (S 0)) 1 (8 * ((i : Int) / 8) + ((i : Int) % 8)) - aimZ ((gOf (S 0)) 0 (8 * ((i : Int) / 8) + ((i : Int) % 8)))) : Int)), .int (iI (distZ (gOf (S 0)) i))]) (mr_S (As := [.int (iI ((gOf (S 0)) 1 (8 * ((i : Int) / 8) + ((i : Int) % 8)) - aimZ ((gOf (S 0)) 0 (8 * ((i : Int) / 8) + ((i : Int) % 8)))))]) (rest := [.int (iI (distZ (gOf (S 0)) i))]) ⟨hx, hb, hml, hown, hts⟩ (m_X3_size l D ((gOf (S 0)) 1 (8 * ((i : Int) / 8) + ((i : Int) % 8)) - aimZ ((gOf (S 0)) 0 (8 * ((i : Int) / 8) + ((i : Int) % 8)))) (by omega)) (va_cwS 1 hts (gS q_426 q_427 q_345 q_385) rfl rfl rfl (by decide +kernel) ⟨Nat.le_trans (m := 1) (Nat.le_of_ble_eq_true rfl) (Nat.le_trans (Nat.le_of_ble_eq_true rfl) hRf), Nat.le_trans (m := 20) (Nat.le_of_ble_eq_true rfl) (Nat.le_trans (Nat.le_of_ble_eq_true rfl) hRl)⟩) hN (hK.sub (tys' := []) [] rfl) (va_P0 _ _ _) (va_D0 A) rfl hl.1 (Nat.le_of_ble_eq_true rfl) ⟨hRc, hRs⟩ dX3_mean_41) hP hS hA rfl (fun H locs hP hS => ?_)
        refine z_iadd hx hb dX3_mean_44 ?_
        refine lv_istore_n (lv' := [(1, .int (iI ((distZ (gOf (S 0)) i) + (if ((gOf (S 0)) 1 (8 * ((i : Int) / 8) + ((i : Int) % 8)) - aimZ ((gOf (S 0)) 0 (8 * ((i : Int) / 8) + ((i : Int) % 8)))) < 0 then -((gOf (S 0)) 1 (8 * ((i : Int) / 8) + ((i : Int) % 8)) - aimZ ((gOf (S 0)) 0 (8 * ((i : Int) / 8) + ((i : Int) % 8)))) else ((gOf (S 0)) 1 (8 * ((i : Int) / 8) + ((i : Int) % 8)) - aimZ ((gOf (S 0)) 0 (8 * ((i : Int) / 8) + ((i : Int) % 8)))) : Int)))), (2, .int (iI (i : Int))), (0, .ref mo)]) hx hb dX3_mean_45 rfl hl (by decide) rfl (fun ls hl => ?_)
        refine lv_iinc (v := iI ((i : Int) + 1)) (lv' := [(2, .int (iI ((i : Int) + 1))), (1, .int (iI ((distZ (gOf (S 0)) i) + (if ((gOf (S 0)) 1 (8 * ((i : Int) / 8) + ((i : Int) % 8)) - aimZ ((gOf (S 0)) 0 (8 * ((i : Int) / 8) + ((i : Int) % 8)))) < 0 then -((gOf (S 0)) 1 (8 * ((i : Int) / 8) + ((i : Int) % 8)) - aimZ ((gOf (S 0)) 0 (8 * ((i : Int) / 8) + ((i : Int) % 8)))) else ((gOf (S 0)) 1 (8 * ((i : Int) / 8) + ((i : Int) % 8)) - aimZ ((gOf (S 0)) 0 (8 * ((i : Int) / 8) + ((i : Int) % 8)))) : Int)))), (0, .ref mo)]) hx hb dX3_mean_46 hl (k := 1) rfl (iI_add _ _) (by decide) rfl (fun ls hl => ?_)
        refine lv_goto (tgt := 4) hx hb dX3_mean_49 (by decide) ?_
        have e1_0 : (((i + 1 : Nat) : Int)) = ((i : Int) + 1) := by first | omega | (rw [hi8]; simp only [distZ, sumZ]; omega)
        have e1_1 : ((distZ (gOf (S 0)) (i + 1))) = ((distZ (gOf (S 0)) i) + (if ((gOf (S 0)) 1 (8 * ((i : Int) / 8) + ((i : Int) % 8)) - aimZ ((gOf (S 0)) 0 (8 * ((i : Int) / 8) + ((i : Int) % 8)))) < 0 then -((gOf (S 0)) 1 (8 * ((i : Int) / 8) + ((i : Int) % 8)) - aimZ ((gOf (S 0)) 0 (8 * ((i : Int) / 8) + ((i : Int) % 8)))) else ((gOf (S 0)) 1 (8 * ((i : Int) / 8) + ((i : Int) % 8)) - aimZ ((gOf (S 0)) 0 (8 * ((i : Int) / 8) + ((i : Int) % 8)))) : Int)) := by first | omega | (rw [hi8]; simp only [distZ, sumZ]; omega)
        exact ih4 (i + 1) (by omega) (by omega) _ _ _ hP hD hS (lv_to (lv_sub (l' := [(2, .int (iI ((i : Int) + 1))), (1, .int (iI ((distZ (gOf (S 0)) i) + (if ((gOf (S 0)) 1 (8 * ((i : Int) / 8) + ((i : Int) % 8)) - aimZ ((gOf (S 0)) 0 (8 * ((i : Int) / 8) + ((i : Int) % 8)))) < 0 then -((gOf (S 0)) 1 (8 * ((i : Int) / 8) + ((i : Int) % 8)) - aimZ ((gOf (S 0)) 0 (8 * ((i : Int) / 8) + ((i : Int) % 8)))) else ((gOf (S 0)) 1 (8 * ((i : Int) / 8) + ((i : Int) % 8)) - aimZ ((gOf (S 0)) 0 (8 * ((i : Int) / 8) + ((i : Int) % 8)))) : Int)))), (0, .ref mo)]) hl [0, 1, 2] rfl) (by simp only [e1_0, e1_1]))
  have e0_0 : (((0 : Nat) : Int)) = 0 := by first | rfl | omega
  have e0_1 : ((distZ (gOf (S 0)) (0))) = 0 := by first | rfl | omega
  exact LP4 (48 + 1) 0 (by omega) (by omega) _ _ _ hP hD hS (lv_to (lv_sub (l' := [(2, .int (iI 0)), (1, .int (iI 0)), (0, .ref mo)]) hl [0, 1, 2] rfl) (by simp only [e0_0, e0_1]))
set_option maxHeartbeats 4000000 in
set_option maxRecDepth 100000 in
theorem m_X3_share (l : Launch) (D : va_G) (mo : Nat) (am : Nat → Nat) (cI : ClassId) (S : Nat → Int → Int) (hs1 : 0 ≤ ((S 0 8 + S 0 12) + S 0 16) ∧ ((S 0 8 + S 0 12) + S 0 16) < 16777216) (hs2 : 0 ≤ S 0 7 ∧ S 0 7 < 16777216)  : MW l D yX3_share (wsY yX3_share cX3_share 2 (some .int)) { frames := 2, cells := 0, slots := 0, locals := 41 } [(cI, .int)] [.ref mo] (wM mo am cI S) (wM mo am cI S) (some (.int (iI (if S 0 7 = 0 then -1000004 else ((FP.fdiv (FP.i2f (iI ((S 0 8 + S 0 12) + S 0 16))) (FP.i2f (iI (S 0 7)))).toNat : Int))))) := by
  refine mw_ofI (cc := cX3_share) (maxL := 2) (by decide) rfl (Nat.le_of_ble_eq_true rfl) ?_
  intro p e s m below meth c R A Q args ls hx hb hml hown hts hRf hRl hRc hRs hN hK hP hD hS hA hret hl
  have hq : ∀ w ∈ ALL, w.before args s = true := fun w h => hts w (List.mem_cons_of_mem _ h)
  have hl : lv_has ls 2 [(0, .ref mo)] := hl
  refine lv_aload_n hx hb dX3_share_0 rfl (lv_at hl 0 rfl) ?_
  refine va_get (D := D) (ci := 3) (v := .ref (am 0)) (C := RX3) (T := TX3) (N := 14) hx hb hq inA3 hown hK hP 0 rfl rfl 0 (by decide) (hq _ q_338) (fun _ h9 => h9) rfl dX3_share_1 ?_
  refine z_bipush hx hb dX3_share_4 (by decide +kernel) ?_
  refine z_iald hx hb hK hP 1 0 rfl rfl (by omega) (by omega) (v := (S 0 8)) rfl dX3_share_6 ?_
  refine lv_aload_n hx hb dX3_share_7 rfl (lv_at hl 0 rfl) ?_
  refine va_get (D := D) (ci := 3) (v := .ref (am 0)) (C := RX3) (T := TX3) (N := 14) hx hb hq inA3 hown hK hP 0 rfl rfl 0 (by decide) (hq _ q_338) (fun _ h9 => h9) rfl dX3_share_8 ?_
  refine z_bipush hx hb dX3_share_11 (by decide +kernel) ?_
  refine z_iald hx hb hK hP 1 0 rfl rfl (by omega) (by omega) (v := (S 0 12)) rfl dX3_share_13 ?_
  refine z_iadd hx hb dX3_share_14 ?_
  refine lv_aload_n hx hb dX3_share_15 rfl (lv_at hl 0 rfl) ?_
  refine va_get (D := D) (ci := 3) (v := .ref (am 0)) (C := RX3) (T := TX3) (N := 14) hx hb hq inA3 hown hK hP 0 rfl rfl 0 (by decide) (hq _ q_338) (fun _ h9 => h9) rfl dX3_share_16 ?_
  refine z_bipush hx hb dX3_share_19 (by decide +kernel) ?_
  refine z_iald hx hb hK hP 1 0 rfl rfl (by omega) (by omega) (v := (S 0 16)) rfl dX3_share_21 ?_
  refine z_iadd hx hb dX3_share_22 ?_
  refine lv_istore_n (lv' := [(1, .int (iI (((S 0 8) + (S 0 12)) + (S 0 16)))), (0, .ref mo)]) hx hb dX3_share_23 rfl hl (by decide) rfl (fun ls hl => ?_)
  refine lv_aload_n hx hb dX3_share_24 rfl (lv_at hl 1 rfl) ?_
  refine va_get (D := D) (ci := 3) (v := .ref (am 0)) (C := RX3) (T := TX3) (N := 14) hx hb hq inA3 hown hK hP 0 rfl rfl 0 (by decide) (hq _ q_338) (fun _ h9 => h9) rfl dX3_share_25 ?_
  refine z_bipush hx hb dX3_share_28 (by decide +kernel) ?_
  refine z_iald hx hb hK hP 1 0 rfl rfl (by omega) (by omega) (v := (S 0 7)) rfl dX3_share_30 ?_
  refine z_if_ne (tgt := 39) hx hb dX3_share_31 (by decide) (by omega) (fun c_1 => ?_) (fun c_1 => ?_)
  · have hnz := c_1
    refine lv_iload_n hx hb dX3_share_39 rfl (lv_at hl 0 rfl) ?_
    refine lv_i2f hx hb dX3_share_40 ?_
    refine lv_aload_n hx hb dX3_share_41 rfl (lv_at hl 1 rfl) ?_
    refine va_get (D := D) (ci := 3) (v := .ref (am 0)) (C := RX3) (T := TX3) (N := 14) hx hb hq inA3 hown hK hP 0 rfl rfl 0 (by decide) (hq _ q_338) (fun _ h9 => h9) rfl dX3_share_42 ?_
    refine z_bipush hx hb dX3_share_45 (by decide +kernel) ?_
    refine z_iald hx hb hK hP 1 0 rfl rfl (by omega) (by omega) (v := (S 0 7)) rfl dX3_share_47 ?_
    refine lv_i2f hx hb dX3_share_48 ?_
    have hfp49 := fp_q (a := ((S 0 8 + S 0 12) + S 0 16)) (b := S 0 7) (by omega) (by omega)
    refine lv_fdiv hx hb dX3_share_49 (fPos_n32 hfp49) ?_
    refine mw_none (st1 := [.int (iI (((FP.fdiv (FP.i2f (iI (((S 0 8) + (S 0 12)) + (S 0 16)))) (FP.i2f (iI (S 0 7))))).toNat : Int))]) (mr_S (As := [.float (FP.fdiv (FP.i2f (iI (((S 0 8) + (S 0 12)) + (S 0 16)))) (FP.i2f (iI (S 0 7))))]) (rest := []) ⟨hx, hb, hml, hown, hts⟩ (m_f2ib l D (FP.fdiv (FP.i2f (iI (((S 0 8) + (S 0 12)) + (S 0 16)))) (FP.i2f (iI (S 0 7)))) hfp49) (va_cwS 1 hts (gS q_521 q_522 q_523 q_524) rfl rfl rfl (by decide +kernel) ⟨Nat.le_trans (m := 2) (Nat.le_of_ble_eq_true rfl) (Nat.le_trans (Nat.le_of_ble_eq_true rfl) hRf), Nat.le_trans (m := 41) (Nat.le_of_ble_eq_true rfl) (Nat.le_trans (Nat.le_of_ble_eq_true rfl) hRl)⟩) hN (hK.sub (tys' := []) [] rfl) (va_P0 _ _ _) (va_D0 A) rfl hl.1 (Nat.le_of_ble_eq_true rfl) ⟨hRc, hRs⟩ dX3_share_50) hP hS hA rfl (fun H locs hP hS => ?_)
    refine z_as (show (((FP.fdiv (FP.i2f (iI (((S 0 8) + (S 0 12)) + (S 0 16)))) (FP.i2f (iI (S 0 7))))).toNat : Int) = (if S 0 7 = 0 then -1000004 else ((FP.fdiv (FP.i2f (iI ((S 0 8 + S 0 12) + S 0 16))) (FP.i2f (iI (S 0 7)))).toNat : Int)) from by first | (rw [if_pos hnz]) | (rw [if_neg hnz])) ?_
    first | exact hret _ _ _ _ dX3_share_53 hP hD hS | (exfalso; omega)
  · have hnz := c_1
    refine z_ldc hx hb (-1000004) (by decide +kernel) hown (hq _ q_511) dX3_share_34 ?_
    refine lv_goto (tgt := 53) hx hb dX3_share_36 (by decide) ?_
    refine z_as (show (-1000004) = (if S 0 7 = 0 then -1000004 else ((FP.fdiv (FP.i2f (iI ((S 0 8 + S 0 12) + S 0 16))) (FP.i2f (iI (S 0 7)))).toNat : Int)) from by first | (rw [if_pos hnz]) | (rw [if_neg hnz])) ?_
    first | exact hret _ _ _ _ dX3_share_53 hP hD hS | (exfalso; omega)
