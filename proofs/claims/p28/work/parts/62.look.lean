set_option maxHeartbeats 4000000 in
set_option maxRecDepth 100000 in
theorem m_X2_wrongIn (l : Launch) (D : va_G) (xo xh t : Nat) (ta : Nat → Nat) (cI cC cH : ClassId) (ga : Nat → Nat) (gd : Nat → Nat → Nat) (F T : Nat → Int → Int) (Gs : Nat → Nat → Int → Int) (r : Int) {B : Int} (hI : InvG B (Gs 0)) (hB : B + 1806 ≤ 100000000) (hd : Gs 0 12 0 ≤ 9999) (h1 : 0 ≤ r ∧ r < 6)  : MW l D yX2_wrongIn (wsY yX2_wrongIn cX2_wrongIn 3 (some .int)) { frames := 4, cells := 0, slots := 0, locals := 99 } [(cI, .int), (cC, .char), (cH, .object RX0)] [.ref xo, .int (iI r)] (wX xo xh t ta cI cC cH ga gd F T Gs) (wX xo xh t ta cI cC cH ga gd F T (upS Gs 2 (daysStZ (Gs 0) (fnZ (fun i : Nat => wrongZ (daysStZ (Gs 0) i) r) 301 0)))) (some (.int (iI (fstZ (fun i : Nat => wrongZ (daysStZ (Gs 0) i) r) 301 0)))) := by
  refine mw_ofI (cc := cX2_wrongIn) (maxL := 3) (by decide) rfl (Nat.le_of_ble_eq_true rfl) ?_
  intro p e s m below meth c R A Q args ls hx hb hml hown hts hRf hRl hRc hRs hN hK hP hD hS hA hret hl
  have hq : ∀ w ∈ ALL, w.before args s = true := fun w h => hts w (List.mem_cons_of_mem _ h)
  have hl : lv_has ls 3 [(0, .ref xo), (1, .int (iI r))] := hl
  refine lv_iload_n hx hb dX2_wrongIn_0 rfl (lv_at hl 1 rfl) ?_
  refine z_iconst hx hb dX2_wrongIn_1 ?_
  refine z_iconst hx hb dX2_wrongIn_2 ?_
  refine mw_none (st1 := [.int (iI (outZ r 0 5))]) (mr_S (As := [.int (iI r), .int (iI 0), .int (iI 5)]) (rest := []) ⟨hx, hb, hml, hown, hts⟩ (m_X2_isOutside l D r 0 5 (by omega) (by omega) (by omega)) (va_cwS 3 hts (gS q_270 q_36 q_37 q_35) rfl rfl rfl (by decide +kernel) ⟨Nat.le_trans (m := 1) (Nat.le_of_ble_eq_true rfl) (Nat.le_trans (Nat.le_of_ble_eq_true rfl) hRf), Nat.le_trans (m := 22) (Nat.le_of_ble_eq_true rfl) (Nat.le_trans (Nat.le_of_ble_eq_true rfl) hRl)⟩) hN (hK.sub (tys' := []) [] rfl) (va_P0 _ _ _) (va_D0 A) rfl hl.1 (Nat.le_of_ble_eq_true rfl) ⟨hRc, hRs⟩ dX2_wrongIn_3) hP hS hA rfl (fun H locs hP hS => ?_)
  have hf_1 : outZ r 0 5 = if r < 0 ∨ 5 < r then 1 else 0 := rfl
  refine z_if_eq (tgt := 12) hx hb dX2_wrongIn_6 (by decide) (by omega) (fun c_2 => ?_) (fun c_2 => absurd c_2 (by omega))
  refine lv_aload_n hx hb dX2_wrongIn_12 rfl (lv_at hl 0 rfl) ?_
  refine va_get (D := D) (ci := 2) (v := .ref (ga 2)) (C := RX2) (T := TX2) (N := 10) hx hb hq inA2 hown hK hP 0 rfl rfl 2 (by decide) (hq _ q_206) (fun _ h9 => h9) rfl dX2_wrongIn_13 ?_
  refine lv_aload_n hx hb dX2_wrongIn_16 rfl (lv_at hl 0 rfl) ?_
  refine va_get (D := D) (ci := 2) (v := .ref (ga 0)) (C := RX2) (T := TX2) (N := 10) hx hb hq inA2 hown hK hP 0 rfl rfl 0 (by decide) (hq _ q_204) (fun _ h9 => h9) rfl dX2_wrongIn_17 ?_
  refine mw_gg (ga := ga) (gd := gd) (T := T) (Gs := Gs) (st1 := []) 2 0 (by decide) (by decide) (by decide) (X := (Gs 0)) (mr_V (As := [.ref (ga 0)]) (rest := []) (ci := 0) (q0 := 0) ⟨hx, hb, hml, hown, hts⟩ (m_X0_copyFrom l D (ga 2) (gd 2) (ga 0) (gd 0) cI (Gs 2) (Gs 0)) (cwV 1 hts (gV q_221 q_222 q_223 q_8 q_34) rfl rfl rfl (by decide +kernel) ⟨Nat.le_trans (m := 2) (Nat.le_of_ble_eq_true rfl) (Nat.le_trans (Nat.le_of_ble_eq_true rfl) hRf), Nat.le_trans (m := 47) (Nat.le_of_ble_eq_true rfl) (Nat.le_trans (Nat.le_of_ble_eq_true rfl) hRl)⟩) hN (hK.sub (tys' := [(cI, .int)]) [0] rfl) (x_Pgg (ga := ga) (gd := gd) (T := T) (Gs := Gs) 2 0 (by decide) (by decide) (by decide) hP) (x_Dgg (ga := ga) (gd := gd) (T := T) (Gs := Gs) 2 0 (by decide) (by decide) (by decide) hD) rfl rfl rfl hl.1 (Nat.le_of_ble_eq_true rfl) ⟨hRc, hRs⟩ dX2_wrongIn_20) hP hD hS hA rfl (fun H locs hP hD hS => ?_)
  refine z_iconst hx hb dX2_wrongIn_23 ?_
  refine lv_istore_n (lv' := [(2, .int (iI 0)), (0, .ref xo), (1, .int (iI r))]) hx hb dX2_wrongIn_24 rfl hl (by decide) rfl (fun ls hl => ?_)
  have LP25 : ∀ (fu i : Nat), i ≤ 301 → 301 < fu + i → fstZ (fun i : Nat => wrongZ (daysStZ (Gs 0) i) r) 301 0 = fstZ (fun i : Nat => wrongZ (daysStZ (Gs 0) i) r) (301 - i) i → fnZ (fun i : Nat => wrongZ (daysStZ (Gs 0) i) r) 301 0 = fnZ (fun i : Nat => wrongZ (daysStZ (Gs 0) i) r) (301 - i) i → ∀ (H : Heap) (locs : List Loc) (ls : Array Slot), va_P D vwCl (wX xo xh t ta cI cC cH ga gd F T (upS Gs 2 (daysStZ (Gs 0) i))) H → va_D A (wX xo xh t ta cI cC cH ga gd F T (upS Gs 2 (daysStZ (Gs 0) i))) → va_S A s.heap H locs → lv_has ls 3 [(2, .int (iI (i : Int))), (0, .ref xo), (1, .int (iI r))] → W p l e R s m args below meth c H locs 0 0 Q (F0 m 25 ls []) := by
    intro fu
    induction fu with
    | zero => intro i h1 h2; omega
    | succ fu ih25 =>
      intro i hi1 hif hv hw H locs ls hP hD hS hl
      have hIi := days_inv hI i (by omega) (by omega)
      have hdi := days_12 (Gs 0) i
      have hwb := wrongZ_bd (daysStZ (Gs 0) i) r
      refine lv_iload_n hx hb dX2_wrongIn_25 rfl (lv_at hl 0 rfl) ?_
      refine z_sipush hx hb dX2_wrongIn_26 (by decide +kernel) ?_
      refine z_icmp_gt (tgt := 62) hx hb dX2_wrongIn_29 (by decide) (by omega) (by omega) (fun c_3 => ?_) (fun c_3 => ?_)
      · refine z_ldc hx hb (-1000004) (by decide +kernel) hown (hq _ q_269) dX2_wrongIn_62 ?_
        refine z_as (show (-1000004) = fstZ (fun i : Nat => wrongZ (daysStZ (Gs 0) i) r) 301 0 from by first | (exfalso; omega) | (rw [hv]; exact (fst_end (by omega)).symm) | (rw [hv]; exact (fst_hit (f := (fun i : Nat => wrongZ (daysStZ (Gs 0) i) r)) (by omega) (show wrongZ (daysStZ (Gs 0) i) r ≠ 0 by omega)).symm)) ?_
        first | (exfalso; omega; done) | (have eN := hw.trans (fn_hit (f := (fun i : Nat => wrongZ (daysStZ (Gs 0) i) r)) (by omega) (show wrongZ (daysStZ (Gs 0) i) r ≠ 0 by omega)); rw [← eN] at hP hD; exact hret _ _ _ _ dX2_wrongIn_64 hP hD hS) | (have eN := hw.trans (fn_end (f := (fun i : Nat => wrongZ (daysStZ (Gs 0) i) r)) (by omega)); rw [← eN] at hP hD; exact hret _ _ _ _ dX2_wrongIn_64 hP hD hS)
      · refine lv_aload_n hx hb dX2_wrongIn_32 rfl (lv_at hl 1 rfl) ?_
        refine va_get (D := D) (ci := 2) (v := .ref (ga 2)) (C := RX2) (T := TX2) (N := 10) hx hb hq inA2 hown hK hP 0 rfl rfl 2 (by decide) (hq _ q_206) (fun _ h9 => h9) rfl dX2_wrongIn_33 ?_
        refine lv_iload_n hx hb dX2_wrongIn_36 rfl (lv_at hl 2 rfl) ?_
        refine mw_grR (ga := ga) (gd := gd) (T := T) (Gs := (upS Gs 2 (daysStZ (Gs 0) i))) (st1 := [.int (iI (wrongZ (daysStZ (Gs 0) i) r))]) 2 (by decide) (mr_V (As := [.int (iI r)]) (rest := []) (ci := 0) (q0 := 0) ⟨hx, hb, hml, hown, hts⟩ (m_X0_wrongCells l D (ga 2) (gd 2) cI (daysStZ (Gs 0) i) r hIi (by omega)) (cwV 1 hts (gV q_271 q_116 q_117 q_8 q_110) rfl rfl rfl (by decide +kernel) ⟨Nat.le_trans (m := 3) (Nat.le_of_ble_eq_true rfl) (Nat.le_trans (Nat.le_of_ble_eq_true rfl) hRf), Nat.le_trans (m := 69) (Nat.le_of_ble_eq_true rfl) (Nat.le_trans (Nat.le_of_ble_eq_true rfl) hRl)⟩) hN (hK.sub (tys' := [(cI, .int)]) [0] rfl) (x_Pg (ga := ga) (gd := gd) (T := T) (Gs := (upS Gs 2 (daysStZ (Gs 0) i))) 2 (by decide) hP) (x_Dg (ga := ga) (gd := gd) (T := T) (Gs := (upS Gs 2 (daysStZ (Gs 0) i))) 2 (by decide) hD) rfl rfl rfl hl.1 (Nat.le_of_ble_eq_true rfl) ⟨hRc, hRs⟩ dX2_wrongIn_37) hP hD hS hA rfl (fun H locs hP hD hS => ?_)
        refine z_if_le (tgt := 45) hx hb dX2_wrongIn_40 (by decide) (by omega) (fun c_4 => ?_) (fun c_4 => ?_)
        · refine lv_aload_n hx hb dX2_wrongIn_45 rfl (lv_at hl 1 rfl) ?_
          refine va_get (D := D) (ci := 2) (v := .ref (ga 2)) (C := RX2) (T := TX2) (N := 10) hx hb hq inA2 hown hK hP 0 rfl rfl 2 (by decide) (hq _ q_206) (fun _ h9 => h9) rfl dX2_wrongIn_46 ?_
          refine z_iconst hx hb dX2_wrongIn_49 ?_
          refine z_ldc hx hb (1000000) (by decide +kernel) hown (hq _ q_268) dX2_wrongIn_50 ?_
          refine mw_gr (ga := ga) (gd := gd) (T := T) (Gs := (upS Gs 2 (daysStZ (Gs 0) i))) (st1 := [.int (iI (daysLostZ (daysStZ (Gs 0) i) (1 : Int).toNat))]) 2 (by decide) (X := (daysStZ (daysStZ (Gs 0) i) (1 : Int).toNat)) (mr_V (As := [.int (iI 1), .int (iI (1000000))]) (rest := []) (ci := 0) (q0 := 0) ⟨hx, hb, hml, hown, hts⟩ (m_X0_passDays l D (ga 2) (gd 2) cI (daysStZ (Gs 0) i) (1 : Int) (1000000) hIi (by omega) (by omega) (by omega) (by omega)) (cwV 2 hts (gV q_245 q_198 q_199 q_8 q_92) rfl rfl rfl (by decide +kernel) ⟨Nat.le_trans (m := 4) (Nat.le_of_ble_eq_true rfl) (Nat.le_trans (Nat.le_of_ble_eq_true rfl) hRf), Nat.le_trans (m := 99) (Nat.le_of_ble_eq_true rfl) (Nat.le_trans (Nat.le_of_ble_eq_true rfl) hRl)⟩) hN (hK.sub (tys' := [(cI, .int)]) [0] rfl) (x_Pg (ga := ga) (gd := gd) (T := T) (Gs := (upS Gs 2 (daysStZ (Gs 0) i))) 2 (by decide) hP) (x_Dg (ga := ga) (gd := gd) (T := T) (Gs := (upS Gs 2 (daysStZ (Gs 0) i))) 2 (by decide) hD) rfl rfl rfl hl.1 (Nat.le_of_ble_eq_true rfl) ⟨hRc, hRs⟩ dX2_wrongIn_52) hP hD hS hA rfl (fun H locs hP hD hS => ?_)
          rw [upS_2] at hP hD
          refine lv_pop hx hb dX2_wrongIn_55 rfl ?_
          refine lv_iinc (v := iI ((i : Int) + 1)) (lv' := [(2, .int (iI ((i : Int) + 1))), (0, .ref xo), (1, .int (iI r))]) hx hb dX2_wrongIn_56 hl (k := 0) rfl (iI_add _ _) (by decide) rfl (fun ls hl => ?_)
          refine lv_goto (tgt := 25) hx hb dX2_wrongIn_59 (by decide) ?_
          have e1_0 : (((i + 1 : Nat) : Int)) = ((i : Int) + 1) := by first | rfl | omega
          have eU : (upS Gs 2 (daysStZ (Gs 0) (i + 1))) = (upS Gs 2 (daysStZ (daysStZ (Gs 0) i) (1 : Int).toNat)) := by (rw [dy_step])
          rw [← eU] at hP hD
          exact ih25 (i + 1) (by omega) (by omega) (fst_next hv (by omega) (show wrongZ (daysStZ (Gs 0) i) r = 0 by omega)) (fn_next hw (by omega) (show wrongZ (daysStZ (Gs 0) i) r = 0 by omega)) _ _ _ hP hD hS (lv_to (lv_sub (l' := [(2, .int (iI ((i : Int) + 1))), (0, .ref xo), (1, .int (iI r))]) hl [0, 1, 2] rfl) (by simp only [e1_0]))
        · refine lv_iload_n hx hb dX2_wrongIn_43 rfl (lv_at hl 0 rfl) ?_
          refine z_as (show (i : Int) = fstZ (fun i : Nat => wrongZ (daysStZ (Gs 0) i) r) 301 0 from by first | (exfalso; omega) | (rw [hv]; exact (fst_end (by omega)).symm) | (rw [hv]; exact (fst_hit (f := (fun i : Nat => wrongZ (daysStZ (Gs 0) i) r)) (by omega) (show wrongZ (daysStZ (Gs 0) i) r ≠ 0 by omega)).symm)) ?_
          first | (exfalso; omega; done) | (have eN := hw.trans (fn_hit (f := (fun i : Nat => wrongZ (daysStZ (Gs 0) i) r)) (by omega) (show wrongZ (daysStZ (Gs 0) i) r ≠ 0 by omega)); rw [← eN] at hP hD; exact hret _ _ _ _ dX2_wrongIn_44 hP hD hS) | (have eN := hw.trans (fn_end (f := (fun i : Nat => wrongZ (daysStZ (Gs 0) i) r)) (by omega)); rw [← eN] at hP hD; exact hret _ _ _ _ dX2_wrongIn_44 hP hD hS)
  have e0_0 : (((0 : Nat) : Int)) = 0 := by first | rfl | omega
  exact LP25 (301 + 1) 0 (by omega) (by omega) rfl rfl _ _ _ hP hD hS (lv_to (lv_sub (l' := [(2, .int (iI 0)), (0, .ref xo), (1, .int (iI r))]) hl [0, 1, 2] rfl) (by simp only [e0_0]))
set_option maxHeartbeats 4000000 in
set_option maxRecDepth 100000 in
theorem m_X2_wrongIn_bad (l : Launch) (D : va_G) (xo xh t : Nat) (ta : Nat → Nat) (cI cC cH : ClassId) (ga : Nat → Nat) (gd : Nat → Nat → Nat) (F T : Nat → Int → Int) (Gs : Nat → Nat → Int → Int) (r : Int) (h_r : -2147483648 ≤ r ∧ r < 2147483648) (hb0 : r < 0 ∨ 5 < r)  : MW l D yX2_wrongIn (wsY yX2_wrongIn cX2_wrongIn 3 (some .int)) { frames := 4, cells := 0, slots := 0, locals := 99 } [(cI, .int), (cC, .char), (cH, .object RX0)] [.ref xo, .int (iI r)] (wX xo xh t ta cI cC cH ga gd F T Gs) (wX xo xh t ta cI cC cH ga gd F T Gs) (some (.int (iI (-1000001)))) := by
  refine mw_ofI (cc := cX2_wrongIn) (maxL := 3) (by decide) rfl (Nat.le_of_ble_eq_true rfl) ?_
  intro p e s m below meth c R A Q args ls hx hb hml hown hts hRf hRl hRc hRs hN hK hP hD hS hA hret hl
  have hq : ∀ w ∈ ALL, w.before args s = true := fun w h => hts w (List.mem_cons_of_mem _ h)
  have hl : lv_has ls 3 [(0, .ref xo), (1, .int (iI r))] := hl
  refine lv_iload_n hx hb dX2_wrongIn_0 rfl (lv_at hl 1 rfl) ?_
  refine z_iconst hx hb dX2_wrongIn_1 ?_
  refine z_iconst hx hb dX2_wrongIn_2 ?_
  refine mw_none (st1 := [.int (iI (outZ r 0 5))]) (mr_S (As := [.int (iI r), .int (iI 0), .int (iI 5)]) (rest := []) ⟨hx, hb, hml, hown, hts⟩ (m_X2_isOutside l D r 0 5 (by omega) (by omega) (by omega)) (va_cwS 3 hts (gS q_270 q_36 q_37 q_35) rfl rfl rfl (by decide +kernel) ⟨Nat.le_trans (m := 1) (Nat.le_of_ble_eq_true rfl) (Nat.le_trans (Nat.le_of_ble_eq_true rfl) hRf), Nat.le_trans (m := 22) (Nat.le_of_ble_eq_true rfl) (Nat.le_trans (Nat.le_of_ble_eq_true rfl) hRl)⟩) hN (hK.sub (tys' := []) [] rfl) (va_P0 _ _ _) (va_D0 A) rfl hl.1 (Nat.le_of_ble_eq_true rfl) ⟨hRc, hRs⟩ dX2_wrongIn_3) hP hS hA rfl (fun H locs hP hS => ?_)
  have hf_1 : outZ r 0 5 = if r < 0 ∨ 5 < r then 1 else 0 := rfl
  refine z_if_eq (tgt := 12) hx hb dX2_wrongIn_6 (by decide) (by omega) (fun c_2 => absurd c_2 (by omega)) (fun c_2 => ?_)
  refine z_ldc hx hb (-1000001) (by decide +kernel) hown (hq _ q_267) dX2_wrongIn_9 ?_
  refine z_as (show (-1000001) = -1000001 from by first | rfl | omega) ?_
  first | exact hret _ _ _ _ dX2_wrongIn_11 hP hD hS | (exfalso; omega)
set_option maxHeartbeats 4000000 in
set_option maxRecDepth 100000 in
theorem m_X2_rightFor (l : Launch) (D : va_G) (xo xh t : Nat) (ta : Nat → Nat) (cI cC cH : ClassId) (ga : Nat → Nat) (gd : Nat → Nat → Nat) (F T : Nat → Int → Int) (Gs : Nat → Nat → Int → Int) (r : Int) {B : Int} (hI : InvG B (Gs 0)) (hB : B + 1806 ≤ 100000000) (hd : Gs 0 12 0 ≤ 9999) (h1 : 0 ≤ r ∧ r < 6)  : MW l D yX2_rightFor (wsY yX2_rightFor cX2_rightFor 3 (some .int)) { frames := 4, cells := 0, slots := 0, locals := 99 } [(cI, .int), (cC, .char), (cH, .object RX0)] [.ref xo, .int (iI r)] (wX xo xh t ta cI cC cH ga gd F T Gs) (wX xo xh t ta cI cC cH ga gd F T (upS Gs 2 (daysStZ (upG (Gs 0) 11 2 0) (fnZ (fun i : Nat => if rightZ (daysStZ (upG (Gs 0) 11 2 0) i) r = 0 then 1 else 0) 301 0)))) (some (.int (iI (fstZ (fun i : Nat => if rightZ (daysStZ (upG (Gs 0) 11 2 0) i) r = 0 then 1 else 0) 301 0)))) := by
  refine mw_ofI (cc := cX2_rightFor) (maxL := 3) (by decide) rfl (Nat.le_of_ble_eq_true rfl) ?_
  intro p e s m below meth c R A Q args ls hx hb hml hown hts hRf hRl hRc hRs hN hK hP hD hS hA hret hl
  have hq : ∀ w ∈ ALL, w.before args s = true := fun w h => hts w (List.mem_cons_of_mem _ h)
  have hl : lv_has ls 3 [(0, .ref xo), (1, .int (iI r))] := hl
  refine lv_iload_n hx hb dX2_rightFor_0 rfl (lv_at hl 1 rfl) ?_
  refine z_iconst hx hb dX2_rightFor_1 ?_
  refine z_iconst hx hb dX2_rightFor_2 ?_
  refine mw_none (st1 := [.int (iI (outZ r 0 5))]) (mr_S (As := [.int (iI r), .int (iI 0), .int (iI 5)]) (rest := []) ⟨hx, hb, hml, hown, hts⟩ (m_X2_isOutside l D r 0 5 (by omega) (by omega) (by omega)) (va_cwS 3 hts (gS q_270 q_36 q_37 q_35) rfl rfl rfl (by decide +kernel) ⟨Nat.le_trans (m := 1) (Nat.le_of_ble_eq_true rfl) (Nat.le_trans (Nat.le_of_ble_eq_true rfl) hRf), Nat.le_trans (m := 22) (Nat.le_of_ble_eq_true rfl) (Nat.le_trans (Nat.le_of_ble_eq_true rfl) hRl)⟩) hN (hK.sub (tys' := []) [] rfl) (va_P0 _ _ _) (va_D0 A) rfl hl.1 (Nat.le_of_ble_eq_true rfl) ⟨hRc, hRs⟩ dX2_rightFor_3) hP hS hA rfl (fun H locs hP hS => ?_)
  have hf_1 : outZ r 0 5 = if r < 0 ∨ 5 < r then 1 else 0 := rfl
  refine z_if_eq (tgt := 12) hx hb dX2_rightFor_6 (by decide) (by omega) (fun c_2 => ?_) (fun c_2 => absurd c_2 (by omega))
  refine lv_aload_n hx hb dX2_rightFor_12 rfl (lv_at hl 0 rfl) ?_
  refine va_get (D := D) (ci := 2) (v := .ref (ga 2)) (C := RX2) (T := TX2) (N := 10) hx hb hq inA2 hown hK hP 0 rfl rfl 2 (by decide) (hq _ q_206) (fun _ h9 => h9) rfl dX2_rightFor_13 ?_
  refine lv_aload_n hx hb dX2_rightFor_16 rfl (lv_at hl 0 rfl) ?_
  refine va_get (D := D) (ci := 2) (v := .ref (ga 0)) (C := RX2) (T := TX2) (N := 10) hx hb hq inA2 hown hK hP 0 rfl rfl 0 (by decide) (hq _ q_204) (fun _ h9 => h9) rfl dX2_rightFor_17 ?_
  refine mw_gg (ga := ga) (gd := gd) (T := T) (Gs := Gs) (st1 := []) 2 0 (by decide) (by decide) (by decide) (X := (Gs 0)) (mr_V (As := [.ref (ga 0)]) (rest := []) (ci := 0) (q0 := 0) ⟨hx, hb, hml, hown, hts⟩ (m_X0_copyFrom l D (ga 2) (gd 2) (ga 0) (gd 0) cI (Gs 2) (Gs 0)) (cwV 1 hts (gV q_221 q_222 q_223 q_8 q_34) rfl rfl rfl (by decide +kernel) ⟨Nat.le_trans (m := 2) (Nat.le_of_ble_eq_true rfl) (Nat.le_trans (Nat.le_of_ble_eq_true rfl) hRf), Nat.le_trans (m := 47) (Nat.le_of_ble_eq_true rfl) (Nat.le_trans (Nat.le_of_ble_eq_true rfl) hRl)⟩) hN (hK.sub (tys' := [(cI, .int)]) [0] rfl) (x_Pgg (ga := ga) (gd := gd) (T := T) (Gs := Gs) 2 0 (by decide) (by decide) (by decide) hP) (x_Dgg (ga := ga) (gd := gd) (T := T) (Gs := Gs) 2 0 (by decide) (by decide) (by decide) hD) rfl rfl rfl hl.1 (Nat.le_of_ble_eq_true rfl) ⟨hRc, hRs⟩ dX2_rightFor_20) hP hD hS hA rfl (fun H locs hP hD hS => ?_)
  refine lv_aload_n hx hb dX2_rightFor_23 rfl (lv_at hl 0 rfl) ?_
  refine va_get (D := D) (ci := 2) (v := .ref (ga 2)) (C := RX2) (T := TX2) (N := 10) hx hb hq inA2 hown hK hP 0 rfl rfl 2 (by decide) (hq _ q_206) (fun _ h9 => h9) rfl dX2_rightFor_24 ?_
  refine z_iconst hx hb dX2_rightFor_27 ?_
  refine z_iconst hx hb dX2_rightFor_28 ?_
  refine mw_gr (ga := ga) (gd := gd) (T := T) (Gs := (upS Gs 2 (Gs 0))) (st1 := [.int (iI ((Gs 0) 11 (2 : Int)))]) 2 (by decide) (X := (upG (Gs 0) 11 (2 : Int) (0 : Int))) (mr_V (As := [.int (iI 2), .int (iI 0)]) (rest := []) (ci := 0) (q0 := 0) ⟨hx, hb, hml, hown, hts⟩ (m_X0_changeSetting l D (ga 2) (gd 2) cI (Gs 0) (2 : Int) (0 : Int) hI (by omega) (by omega) rfl) (cwV 2 hts (gV q_247 q_248 q_249 q_8 q_96) rfl rfl rfl (by decide +kernel) ⟨Nat.le_trans (m := 3) (Nat.le_of_ble_eq_true rfl) (Nat.le_trans (Nat.le_of_ble_eq_true rfl) hRf), Nat.le_trans (m := 66) (Nat.le_of_ble_eq_true rfl) (Nat.le_trans (Nat.le_of_ble_eq_true rfl) hRl)⟩) hN (hK.sub (tys' := [(cI, .int)]) [0] rfl) (x_Pg (ga := ga) (gd := gd) (T := T) (Gs := (upS Gs 2 (Gs 0))) 2 (by decide) hP) (x_Dg (ga := ga) (gd := gd) (T := T) (Gs := (upS Gs 2 (Gs 0))) 2 (by decide) hD) rfl rfl rfl hl.1 (Nat.le_of_ble_eq_true rfl) ⟨hRc, hRs⟩ dX2_rightFor_29) hP hD hS hA rfl (fun H locs hP hD hS => ?_)
  rw [upS_2] at hP hD
  refine lv_pop hx hb dX2_rightFor_32 rfl ?_
  refine z_iconst hx hb dX2_rightFor_33 ?_
  refine lv_istore_n (lv' := [(2, .int (iI 0)), (0, .ref xo), (1, .int (iI r))]) hx hb dX2_rightFor_34 rfl hl (by decide) rfl (fun ls hl => ?_)
  have LP35 : ∀ (fu i : Nat), i ≤ 301 → 301 < fu + i → fstZ (fun i : Nat => if rightZ (daysStZ (upG (Gs 0) 11 2 0) i) r = 0 then 1 else 0) 301 0 = fstZ (fun i : Nat => if rightZ (daysStZ (upG (Gs 0) 11 2 0) i) r = 0 then 1 else 0) (301 - i) i → fnZ (fun i : Nat => if rightZ (daysStZ (upG (Gs 0) 11 2 0) i) r = 0 then 1 else 0) 301 0 = fnZ (fun i : Nat => if rightZ (daysStZ (upG (Gs 0) 11 2 0) i) r = 0 then 1 else 0) (301 - i) i → ∀ (H : Heap) (locs : List Loc) (ls : Array Slot), va_P D vwCl (wX xo xh t ta cI cC cH ga gd F T (upS Gs 2 (daysStZ (upG (Gs 0) 11 2 0) i))) H → va_D A (wX xo xh t ta cI cC cH ga gd F T (upS Gs 2 (daysStZ (upG (Gs 0) 11 2 0) i))) → va_S A s.heap H locs → lv_has ls 3 [(2, .int (iI (i : Int))), (0, .ref xo), (1, .int (iI r))] → W p l e R s m args below meth c H locs 0 0 Q (F0 m 35 ls []) := by
    intro fu
    induction fu with
    | zero => intro i h1 h2; omega
    | succ fu ih35 =>
      intro i hi1 hif hv hw H locs ls hP hD hS hl
      have hI2 : InvG B (upG (Gs 0) 11 2 0) := invG_set2 hI (by omega)
      have hIi := days_inv hI2 i (by omega) (show Gs 0 12 0 + (i : Int) ≤ 10000000 by omega)
      have hdi : daysStZ (upG (Gs 0) 11 2 0) i 12 0 = Gs 0 12 0 + (i : Int) := days_12 (upG (Gs 0) 11 2 0) i
      have hwb := rightZ_01 (daysStZ (upG (Gs 0) 11 2 0) i) r
      refine lv_iload_n hx hb dX2_rightFor_35 rfl (lv_at hl 0 rfl) ?_
      refine z_sipush hx hb dX2_rightFor_36 (by decide +kernel) ?_
      refine z_icmp_gt (tgt := 72) hx hb dX2_rightFor_39 (by decide) (by omega) (by omega) (fun c_3 => ?_) (fun c_3 => ?_)
      · refine z_ldc hx hb (-1000004) (by decide +kernel) hown (hq _ q_269) dX2_rightFor_72 ?_
        refine z_as (show (-1000004) = fstZ (fun i : Nat => if rightZ (daysStZ (upG (Gs 0) 11 2 0) i) r = 0 then 1 else 0) 301 0 from by first | (exfalso; omega) | (rw [hv]; exact (fst_end (by omega)).symm) | (rw [hv]; exact (fst_hit (f := (fun i : Nat => if rightZ (daysStZ (upG (Gs 0) 11 2 0) i) r = 0 then 1 else 0)) (by omega) (show (if rightZ (daysStZ (upG (Gs 0) 11 2 0) i) r = 0 then (1 : Int) else 0) ≠ 0 by omega)).symm)) ?_
        first | (exfalso; omega; done) | (have eN := hw.trans (fn_hit (f := (fun i : Nat => if rightZ (daysStZ (upG (Gs 0) 11 2 0) i) r = 0 then 1 else 0)) (by omega) (show (if rightZ (daysStZ (upG (Gs 0) 11 2 0) i) r = 0 then (1 : Int) else 0) ≠ 0 by omega)); rw [← eN] at hP hD; exact hret _ _ _ _ dX2_rightFor_74 hP hD hS) | (have eN := hw.trans (fn_end (f := (fun i : Nat => if rightZ (daysStZ (upG (Gs 0) 11 2 0) i) r = 0 then 1 else 0)) (by omega)); rw [← eN] at hP hD; exact hret _ _ _ _ dX2_rightFor_74 hP hD hS)
      · refine lv_aload_n hx hb dX2_rightFor_42 rfl (lv_at hl 1 rfl) ?_
        refine va_get (D := D) (ci := 2) (v := .ref (ga 2)) (C := RX2) (T := TX2) (N := 10) hx hb hq inA2 hown hK hP 0 rfl rfl 2 (by decide) (hq _ q_206) (fun _ h9 => h9) rfl dX2_rightFor_43 ?_
        refine lv_iload_n hx hb dX2_rightFor_46 rfl (lv_at hl 2 rfl) ?_
        refine mw_grR (ga := ga) (gd := gd) (T := T) (Gs := (upS Gs 2 (daysStZ (upG (Gs 0) 11 2 0) i))) (st1 := [.int (iI (rightZ (daysStZ (upG (Gs 0) 11 2 0) i) r))]) 2 (by decide) (mr_V (As := [.int (iI r)]) (rest := []) (ci := 0) (q0 := 0) ⟨hx, hb, hml, hown, hts⟩ (m_X0_hasRightThresholds l D (ga 2) (gd 2) cI (daysStZ (upG (Gs 0) 11 2 0) i) r hIi (by omega)) (cwV 1 hts (gV q_273 q_46 q_47 q_8 q_43) rfl rfl rfl (by decide +kernel) ⟨Nat.le_trans (m := 1) (Nat.le_of_ble_eq_true rfl) (Nat.le_trans (Nat.le_of_ble_eq_true rfl) hRf), Nat.le_trans (m := 22) (Nat.le_of_ble_eq_true rfl) (Nat.le_trans (Nat.le_of_ble_eq_true rfl) hRl)⟩) hN (hK.sub (tys' := [(cI, .int)]) [0] rfl) (x_Pg (ga := ga) (gd := gd) (T := T) (Gs := (upS Gs 2 (daysStZ (upG (Gs 0) 11 2 0) i))) 2 (by decide) hP) (x_Dg (ga := ga) (gd := gd) (T := T) (Gs := (upS Gs 2 (daysStZ (upG (Gs 0) 11 2 0) i))) 2 (by decide) hD) rfl rfl rfl hl.1 (Nat.le_of_ble_eq_true rfl) ⟨hRc, hRs⟩ dX2_rightFor_47) hP hD hS hA rfl (fun H locs hP hD hS => ?_)
        refine z_if_ne (tgt := 55) hx hb dX2_rightFor_50 (by decide) (by omega) (fun c_4 => ?_) (fun c_4 => ?_)
        · refine lv_aload_n hx hb dX2_rightFor_55 rfl (lv_at hl 1 rfl) ?_
          refine va_get (D := D) (ci := 2) (v := .ref (ga 2)) (C := RX2) (T := TX2) (N := 10) hx hb hq inA2 hown hK hP 0 rfl rfl 2 (by decide) (hq _ q_206) (fun _ h9 => h9) rfl dX2_rightFor_56 ?_
          refine z_iconst hx hb dX2_rightFor_59 ?_
          refine z_ldc hx hb (1000000) (by decide +kernel) hown (hq _ q_268) dX2_rightFor_60 ?_
          refine mw_gr (ga := ga) (gd := gd) (T := T) (Gs := (upS Gs 2 (daysStZ (upG (Gs 0) 11 2 0) i))) (st1 := [.int (iI (daysLostZ (daysStZ (upG (Gs 0) 11 2 0) i) (1 : Int).toNat))]) 2 (by decide) (X := (daysStZ (daysStZ (upG (Gs 0) 11 2 0) i) (1 : Int).toNat)) (mr_V (As := [.int (iI 1), .int (iI (1000000))]) (rest := []) (ci := 0) (q0 := 0) ⟨hx, hb, hml, hown, hts⟩ (m_X0_passDays l D (ga 2) (gd 2) cI (daysStZ (upG (Gs 0) 11 2 0) i) (1 : Int) (1000000) hIi (by omega) (by omega) (by omega) (by omega)) (cwV 2 hts (gV q_245 q_198 q_199 q_8 q_92) rfl rfl rfl (by decide +kernel) ⟨Nat.le_trans (m := 4) (Nat.le_of_ble_eq_true rfl) (Nat.le_trans (Nat.le_of_ble_eq_true rfl) hRf), Nat.le_trans (m := 99) (Nat.le_of_ble_eq_true rfl) (Nat.le_trans (Nat.le_of_ble_eq_true rfl) hRl)⟩) hN (hK.sub (tys' := [(cI, .int)]) [0] rfl) (x_Pg (ga := ga) (gd := gd) (T := T) (Gs := (upS Gs 2 (daysStZ (upG (Gs 0) 11 2 0) i))) 2 (by decide) hP) (x_Dg (ga := ga) (gd := gd) (T := T) (Gs := (upS Gs 2 (daysStZ (upG (Gs 0) 11 2 0) i))) 2 (by decide) hD) rfl rfl rfl hl.1 (Nat.le_of_ble_eq_true rfl) ⟨hRc, hRs⟩ dX2_rightFor_62) hP hD hS hA rfl (fun H locs hP hD hS => ?_)
          rw [upS_2] at hP hD
          refine lv_pop hx hb dX2_rightFor_65 rfl ?_
          refine lv_iinc (v := iI ((i : Int) + 1)) (lv' := [(2, .int (iI ((i : Int) + 1))), (0, .ref xo), (1, .int (iI r))]) hx hb dX2_rightFor_66 hl (k := 0) rfl (iI_add _ _) (by decide) rfl (fun ls hl => ?_)
          refine lv_goto (tgt := 35) hx hb dX2_rightFor_69 (by decide) ?_
          have e1_0 : (((i + 1 : Nat) : Int)) = ((i : Int) + 1) := by first | rfl | omega
          have eU : (upS Gs 2 (daysStZ (upG (Gs 0) 11 2 0) (i + 1))) = (upS Gs 2 (daysStZ (daysStZ (upG (Gs 0) 11 2 0) i) (1 : Int).toNat)) := by (rw [dy_step])
          rw [← eU] at hP hD
          exact ih35 (i + 1) (by omega) (by omega) (fst_next hv (by omega) (if_neg (show rightZ (daysStZ (upG (Gs 0) 11 2 0) i) r ≠ 0 by omega))) (fn_next hw (by omega) (if_neg (show rightZ (daysStZ (upG (Gs 0) 11 2 0) i) r ≠ 0 by omega))) _ _ _ hP hD hS (lv_to (lv_sub (l' := [(2, .int (iI ((i : Int) + 1))), (0, .ref xo), (1, .int (iI r))]) hl [0, 1, 2] rfl) (by simp only [e1_0]))
        · refine lv_iload_n hx hb dX2_rightFor_53 rfl (lv_at hl 0 rfl) ?_
          refine z_as (show (i : Int) = fstZ (fun i : Nat => if rightZ (daysStZ (upG (Gs 0) 11 2 0) i) r = 0 then 1 else 0) 301 0 from by first | (exfalso; omega) | (rw [hv]; exact (fst_end (by omega)).symm) | (rw [hv]; exact (fst_hit (f := (fun i : Nat => if rightZ (daysStZ (upG (Gs 0) 11 2 0) i) r = 0 then 1 else 0)) (by omega) (show (if rightZ (daysStZ (upG (Gs 0) 11 2 0) i) r = 0 then (1 : Int) else 0) ≠ 0 by omega)).symm)) ?_
          first | (exfalso; omega; done) | (have eN := hw.trans (fn_hit (f := (fun i : Nat => if rightZ (daysStZ (upG (Gs 0) 11 2 0) i) r = 0 then 1 else 0)) (by omega) (show (if rightZ (daysStZ (upG (Gs 0) 11 2 0) i) r = 0 then (1 : Int) else 0) ≠ 0 by omega)); rw [← eN] at hP hD; exact hret _ _ _ _ dX2_rightFor_54 hP hD hS) | (have eN := hw.trans (fn_end (f := (fun i : Nat => if rightZ (daysStZ (upG (Gs 0) 11 2 0) i) r = 0 then 1 else 0)) (by omega)); rw [← eN] at hP hD; exact hret _ _ _ _ dX2_rightFor_54 hP hD hS)
  have e0_0 : (((0 : Nat) : Int)) = 0 := by first | rfl | omega
  exact LP35 (301 + 1) 0 (by omega) (by omega) rfl rfl _ _ _ hP hD hS (lv_to (lv_sub (l' := [(2, .int (iI 0)), (0, .ref xo), (1, .int (iI r))]) hl [0, 1, 2] rfl) (by simp only [e0_0]))
set_option maxHeartbeats 4000000 in
set_option maxRecDepth 100000 in
theorem m_X2_rightFor_bad (l : Launch) (D : va_G) (xo xh t : Nat) (ta : Nat → Nat) (cI cC cH : ClassId) (ga : Nat → Nat) (gd : Nat → Nat → Nat) (F T : Nat → Int → Int) (Gs : Nat → Nat → Int → Int) (r : Int) (h_r : -2147483648 ≤ r ∧ r < 2147483648) (hb0 : r < 0 ∨ 5 < r)  : MW l D yX2_rightFor (wsY yX2_rightFor cX2_rightFor 3 (some .int)) { frames := 4, cells := 0, slots := 0, locals := 99 } [(cI, .int), (cC, .char), (cH, .object RX0)] [.ref xo, .int (iI r)] (wX xo xh t ta cI cC cH ga gd F T Gs) (wX xo xh t ta cI cC cH ga gd F T Gs) (some (.int (iI (-1000001)))) := by
  refine mw_ofI (cc := cX2_rightFor) (maxL := 3) (by decide) rfl (Nat.le_of_ble_eq_true rfl) ?_
  intro p e s m below meth c R A Q args ls hx hb hml hown hts hRf hRl hRc hRs hN hK hP hD hS hA hret hl
  have hq : ∀ w ∈ ALL, w.before args s = true := fun w h => hts w (List.mem_cons_of_mem _ h)
  have hl : lv_has ls 3 [(0, .ref xo), (1, .int (iI r))] := hl
  refine lv_iload_n hx hb dX2_rightFor_0 rfl (lv_at hl 1 rfl) ?_
  refine z_iconst hx hb dX2_rightFor_1 ?_
  refine z_iconst hx hb dX2_rightFor_2 ?_
  refine mw_none (st1 := [.int (iI (outZ r 0 5))]) (mr_S (As := [.int (iI r), .int (iI 0), .int (iI 5)]) (rest := []) ⟨hx, hb, hml, hown, hts⟩ (m_X2_isOutside l D r 0 5 (by omega) (by omega) (by omega)) (va_cwS 3 hts (gS q_270 q_36 q_37 q_35) rfl rfl rfl (by decide +kernel) ⟨Nat.le_trans (m := 1) (Nat.le_of_ble_eq_true rfl) (Nat.le_trans (Nat.le_of_ble_eq_true rfl) hRf), Nat.le_trans (m := 22) (Nat.le_of_ble_eq_true rfl) (Nat.le_trans (Nat.le_of_ble_eq_true rfl) hRl)⟩) hN (hK.sub (tys' := []) [] rfl) (va_P0 _ _ _) (va_D0 A) rfl hl.1 (Nat.le_of_ble_eq_true rfl) ⟨hRc, hRs⟩ dX2_rightFor_3) hP hS hA rfl (fun H locs hP hS => ?_)
  have hf_1 : outZ r 0 5 = if r < 0 ∨ 5 < r then 1 else 0 := rfl
  refine z_if_eq (tgt := 12) hx hb dX2_rightFor_6 (by decide) (by omega) (fun c_2 => absurd c_2 (by omega)) (fun c_2 => ?_)
  refine z_ldc hx hb (-1000001) (by decide +kernel) hown (hq _ q_267) dX2_rightFor_9 ?_
  refine z_as (show (-1000001) = -1000001 from by first | rfl | omega) ?_
  first | exact hret _ _ _ _ dX2_rightFor_11 hP hD hS | (exfalso; omega)
set_option maxHeartbeats 4000000 in
set_option maxRecDepth 100000 in
theorem m_X2_isSafe (l : Launch) (D : va_G) (xo xh t : Nat) (ta : Nat → Nat) (cI cC cH : ClassId) (ga : Nat → Nat) (gd : Nat → Nat → Nat) (F T : Nat → Int → Int) (Gs : Nat → Nat → Int → Int) (ag : Int) {B : Int} (hI : InvG B (Gs 0)) (hB : B + 360 ≤ 100000000) (hd : Gs 0 12 0 ≤ 9999) (h1 : 0 ≤ ag ∧ ag ≤ 60)  : MW l D yX2_isSafe (wsY yX2_isSafe cX2_isSafe 3 (some .boolean)) { frames := 4, cells := 0, slots := 0, locals := 99 } [(cI, .int), (cC, .char), (cH, .object RX0)] [.ref xo, .int (iI ag)] (wX xo xh t ta cI cC cH ga gd F T Gs) (wX xo xh t ta cI cC cH ga gd F T (upS Gs 2 (isT (Gs 0) ag))) (some (.int (iI (safZ (Gs 0) ag)))) := by
  refine mw_ofZ (cc := cX2_isSafe) (maxL := 3) (ty := .boolean) (narrow_z01 (saf_01 (Gs 0) ag)) (by decide) rfl (Nat.le_of_ble_eq_true rfl) ?_
  intro p e s m below meth c R A Q args ls hx hb hml hown hts hRf hRl hRc hRs hN hK hP hD hS hA hret hl
  have hq : ∀ w ∈ ALL, w.before args s = true := fun w h => hts w (List.mem_cons_of_mem _ h)
  have hl : lv_has ls 3 [(0, .ref xo), (1, .int (iI ag))] := hl
  refine lv_aload_n hx hb dX2_isSafe_0 rfl (lv_at hl 0 rfl) ?_
  refine va_get (D := D) (ci := 2) (v := .ref (ga 2)) (C := RX2) (T := TX2) (N := 10) hx hb hq inA2 hown hK hP 0 rfl rfl 2 (by decide) (hq _ q_206) (fun _ h9 => h9) rfl dX2_isSafe_1 ?_
  refine lv_aload_n hx hb dX2_isSafe_4 rfl (lv_at hl 0 rfl) ?_
  refine va_get (D := D) (ci := 2) (v := .ref (ga 0)) (C := RX2) (T := TX2) (N := 10) hx hb hq inA2 hown hK hP 0 rfl rfl 0 (by decide) (hq _ q_204) (fun _ h9 => h9) rfl dX2_isSafe_5 ?_
  refine mw_gg (ga := ga) (gd := gd) (T := T) (Gs := Gs) (st1 := []) 2 0 (by decide) (by decide) (by decide) (X := (Gs 0)) (mr_V (As := [.ref (ga 0)]) (rest := []) (ci := 0) (q0 := 0) ⟨hx, hb, hml, hown, hts⟩ (m_X0_copyFrom l D (ga 2) (gd 2) (ga 0) (gd 0) cI (Gs 2) (Gs 0)) (cwV 1 hts (gV q_221 q_222 q_223 q_8 q_34) rfl rfl rfl (by decide +kernel) ⟨Nat.le_trans (m := 2) (Nat.le_of_ble_eq_true rfl) (Nat.le_trans (Nat.le_of_ble_eq_true rfl) hRf), Nat.le_trans (m := 47) (Nat.le_of_ble_eq_true rfl) (Nat.le_trans (Nat.le_of_ble_eq_true rfl) hRl)⟩) hN (hK.sub (tys' := [(cI, .int)]) [0] rfl) (x_Pgg (ga := ga) (gd := gd) (T := T) (Gs := Gs) 2 0 (by decide) (by decide) (by decide) hP) (x_Dgg (ga := ga) (gd := gd) (T := T) (Gs := Gs) 2 0 (by decide) (by decide) (by decide) hD) rfl rfl rfl hl.1 (Nat.le_of_ble_eq_true rfl) ⟨hRc, hRs⟩ dX2_isSafe_8) hP hD hS hA rfl (fun H locs hP hD hS => ?_)
  refine lv_aload_n hx hb dX2_isSafe_11 rfl (lv_at hl 0 rfl) ?_
  refine va_get (D := D) (ci := 2) (v := .ref (ga 2)) (C := RX2) (T := TX2) (N := 10) hx hb hq inA2 hown hK hP 0 rfl rfl 2 (by decide) (hq _ q_206) (fun _ h9 => h9) rfl dX2_isSafe_12 ?_
  refine z_iconst hx hb dX2_isSafe_15 ?_
  refine lv_iload_n hx hb dX2_isSafe_16 rfl (lv_at hl 1 rfl) ?_
  refine mw_gr (ga := ga) (gd := gd) (T := T) (Gs := (upS Gs 2 (Gs 0))) (st1 := [.int (iI ((Gs 0) 11 (2 : Int)))]) 2 (by decide) (X := (upG (Gs 0) 11 (2 : Int) ag)) (mr_V (As := [.int (iI 2), .int (iI ag)]) (rest := []) (ci := 0) (q0 := 0) ⟨hx, hb, hml, hown, hts⟩ (m_X0_changeSetting l D (ga 2) (gd 2) cI (Gs 0) (2 : Int) ag hI (by omega) (by omega) (by show outZ ag 0 99 = 0; unfold outZ; omega)) (cwV 2 hts (gV q_247 q_248 q_249 q_8 q_96) rfl rfl rfl (by decide +kernel) ⟨Nat.le_trans (m := 3) (Nat.le_of_ble_eq_true rfl) (Nat.le_trans (Nat.le_of_ble_eq_true rfl) hRf), Nat.le_trans (m := 66) (Nat.le_of_ble_eq_true rfl) (Nat.le_trans (Nat.le_of_ble_eq_true rfl) hRl)⟩) hN (hK.sub (tys' := [(cI, .int)]) [0] rfl) (x_Pg (ga := ga) (gd := gd) (T := T) (Gs := (upS Gs 2 (Gs 0))) 2 (by decide) hP) (x_Dg (ga := ga) (gd := gd) (T := T) (Gs := (upS Gs 2 (Gs 0))) 2 (by decide) hD) rfl rfl rfl hl.1 (Nat.le_of_ble_eq_true rfl) ⟨hRc, hRs⟩ dX2_isSafe_17) hP hD hS hA rfl (fun H locs hP hD hS => ?_)
  rw [upS_2] at hP hD
  refine lv_pop hx hb dX2_isSafe_20 rfl ?_
  refine z_iconst hx hb dX2_isSafe_21 ?_
  refine lv_istore_n (lv' := [(2, .int (iI 0)), (0, .ref xo), (1, .int (iI ag))]) hx hb dX2_isSafe_22 rfl hl (by decide) rfl (fun ls hl => ?_)
  have LP23 : ∀ (fu i : Nat), i ≤ 60 → 60 < fu + i → lbZ (Gs 0) ag = lstZ (laZ (Gs 0) ag) (60 - i) i → fn1Z (laZ (Gs 0) ag) 60 0 = fn1Z (laZ (Gs 0) ag) (60 - i) i → ∀ (H : Heap) (locs : List Loc) (ls : Array Slot), va_P D vwCl (wX xo xh t ta cI cC cH ga gd F T (upS Gs 2 (daysStZ (upG (Gs 0) 11 2 ag) i))) H → va_D A (wX xo xh t ta cI cC cH ga gd F T (upS Gs 2 (daysStZ (upG (Gs 0) 11 2 ag) i))) → va_S A s.heap H locs → lv_has ls 3 [(2, .int (iI (i : Int))), (0, .ref xo), (1, .int (iI ag))] → W p l e R s m args below meth c H locs 0 0 Q (F0 m 23 ls []) := by
    intro fu
    induction fu with
    | zero => intro i h1 h2; omega
    | succ fu ih23 =>
      intro i hi1 hif hv hw H locs ls hP hD hS hl
      have hI2 : InvG B (upG (Gs 0) 11 2 ag) := invG_set2 hI (by omega)
      have hIi := days_inv hI2 i (by omega) (show Gs 0 12 0 + (i : Int) ≤ 10000000 by omega)
      have hdi : daysStZ (upG (Gs 0) 11 2 ag) i 12 0 = Gs 0 12 0 + (i : Int) := days_12 (upG (Gs 0) 11 2 ag) i
      have hwb := la_bd (Gs 0) ag i
      refine lv_iload_n hx hb dX2_isSafe_23 rfl (lv_at hl 0 rfl) ?_
      refine z_bipush hx hb dX2_isSafe_24 (by decide +kernel) ?_
      refine z_icmp_ge (tgt := 50) hx hb dX2_isSafe_26 (by decide) (by omega) (by omega) (fun c_1 => ?_) (fun c_1 => ?_)
      · refine z_iconst hx hb dX2_isSafe_50 ?_
        refine z_as (show 1 = safZ (Gs 0) ag from by first | (exfalso; omega) | (unfold safZ; rw [hv, lst_end (by omega)]; rfl) | (unfold safZ; rw [hv, lst_hit (by omega) (show laZ (Gs 0) ag i ≠ 0 by omega), if_neg (show laZ (Gs 0) ag i ≠ 0 by omega)])) ?_
        first | (exfalso; omega; done) | (have eN := hw.trans (fn1_hit (f := laZ (Gs 0) ag) (by omega) (show laZ (Gs 0) ag i ≠ 0 by omega)); have eX : isT (Gs 0) ag = daysStZ (daysStZ (upG (Gs 0) 11 2 ag) i) (1 : Int).toNat := (by (unfold isT; rw [eN, dy_step])); rw [← eX] at hP hD; exact hret _ _ _ _ dX2_isSafe_51 hP hD hS) | (have eN := hw.trans (fn1_end (f := laZ (Gs 0) ag) (by omega)); have eX : isT (Gs 0) ag = daysStZ (upG (Gs 0) 11 2 ag) i := (by (unfold isT; rw [eN])); rw [← eX] at hP hD; exact hret _ _ _ _ dX2_isSafe_51 hP hD hS)
      · refine lv_aload_n hx hb dX2_isSafe_29 rfl (lv_at hl 1 rfl) ?_
        refine va_get (D := D) (ci := 2) (v := .ref (ga 2)) (C := RX2) (T := TX2) (N := 10) hx hb hq inA2 hown hK hP 0 rfl rfl 2 (by decide) (hq _ q_206) (fun _ h9 => h9) rfl dX2_isSafe_30 ?_
        refine z_iconst hx hb dX2_isSafe_33 ?_
        refine z_ldc hx hb (1000000) (by decide +kernel) hown (hq _ q_268) dX2_isSafe_34 ?_
        refine mw_gr (ga := ga) (gd := gd) (T := T) (Gs := (upS Gs 2 (daysStZ (upG (Gs 0) 11 2 ag) i))) (st1 := [.int (iI (daysLostZ (daysStZ (upG (Gs 0) 11 2 ag) i) (1 : Int).toNat))]) 2 (by decide) (X := (daysStZ (daysStZ (upG (Gs 0) 11 2 ag) i) (1 : Int).toNat)) (mr_V (As := [.int (iI 1), .int (iI (1000000))]) (rest := []) (ci := 0) (q0 := 0) ⟨hx, hb, hml, hown, hts⟩ (m_X0_passDays l D (ga 2) (gd 2) cI (daysStZ (upG (Gs 0) 11 2 ag) i) (1 : Int) (1000000) hIi (by omega) (by omega) (by omega) (by omega)) (cwV 2 hts (gV q_245 q_198 q_199 q_8 q_92) rfl rfl rfl (by decide +kernel) ⟨Nat.le_trans (m := 4) (Nat.le_of_ble_eq_true rfl) (Nat.le_trans (Nat.le_of_ble_eq_true rfl) hRf), Nat.le_trans (m := 99) (Nat.le_of_ble_eq_true rfl) (Nat.le_trans (Nat.le_of_ble_eq_true rfl) hRl)⟩) hN (hK.sub (tys' := [(cI, .int)]) [0] rfl) (x_Pg (ga := ga) (gd := gd) (T := T) (Gs := (upS Gs 2 (daysStZ (upG (Gs 0) 11 2 ag) i))) 2 (by decide) hP) (x_Dg (ga := ga) (gd := gd) (T := T) (Gs := (upS Gs 2 (daysStZ (upG (Gs 0) 11 2 ag) i))) 2 (by decide) hD) rfl rfl rfl hl.1 (Nat.le_of_ble_eq_true rfl) ⟨hRc, hRs⟩ dX2_isSafe_36) hP hD hS hA rfl (fun H locs hP hD hS => ?_)
        rw [upS_2] at hP hD
        have hl1 : daysLostZ (daysStZ (upG (Gs 0) 11 2 ag) i) (1 : Int).toNat = laZ (Gs 0) ag i := dl_1 _
        refine z_if_le (tgt := 44) hx hb dX2_isSafe_39 (by decide) (by omega) (fun c_2 => ?_) (fun c_2 => ?_)
        · refine lv_iinc (v := iI ((i : Int) + 1)) (lv' := [(2, .int (iI ((i : Int) + 1))), (0, .ref xo), (1, .int (iI ag))]) hx hb dX2_isSafe_44 hl (k := 0) rfl (iI_add _ _) (by decide) rfl (fun ls hl => ?_)
          refine lv_goto (tgt := 23) hx hb dX2_isSafe_47 (by decide) ?_
          have e1_0 : (((i + 1 : Nat) : Int)) = ((i : Int) + 1) := by first | rfl | omega
          have eU : (upS Gs 2 (daysStZ (upG (Gs 0) 11 2 ag) (i + 1))) = (upS Gs 2 (daysStZ (daysStZ (upG (Gs 0) 11 2 ag) i) (1 : Int).toNat)) := by (rw [dy_step])
          rw [← eU] at hP hD
          exact ih23 (i + 1) (by omega) (by omega) (lst_next1 hv (by omega) (show laZ (Gs 0) ag i = 0 by omega)) (fn1_next hw (by omega) (show laZ (Gs 0) ag i = 0 by omega)) _ _ _ hP hD hS (lv_to (lv_sub (l' := [(2, .int (iI ((i : Int) + 1))), (0, .ref xo), (1, .int (iI ag))]) hl [0, 1, 2] rfl) (by simp only [e1_0]))
        · refine z_iconst hx hb dX2_isSafe_42 ?_
          refine z_as (show 0 = safZ (Gs 0) ag from by first | (exfalso; omega) | (unfold safZ; rw [hv, lst_end (by omega)]; rfl) | (unfold safZ; rw [hv, lst_hit (by omega) (show laZ (Gs 0) ag i ≠ 0 by omega), if_neg (show laZ (Gs 0) ag i ≠ 0 by omega)])) ?_
          first | (exfalso; omega; done) | (have eN := hw.trans (fn1_hit (f := laZ (Gs 0) ag) (by omega) (show laZ (Gs 0) ag i ≠ 0 by omega)); have eX : isT (Gs 0) ag = daysStZ (daysStZ (upG (Gs 0) 11 2 ag) i) (1 : Int).toNat := (by (unfold isT; rw [eN, dy_step])); rw [← eX] at hP hD; exact hret _ _ _ _ dX2_isSafe_43 hP hD hS) | (have eN := hw.trans (fn1_end (f := laZ (Gs 0) ag) (by omega)); have eX : isT (Gs 0) ag = daysStZ (upG (Gs 0) 11 2 ag) i := (by (unfold isT; rw [eN])); rw [← eX] at hP hD; exact hret _ _ _ _ dX2_isSafe_43 hP hD hS)
  have e0_0 : (((0 : Nat) : Int)) = 0 := by first | rfl | omega
  exact LP23 (60 + 1) 0 (by omega) (by omega) rfl rfl _ _ _ hP hD hS (lv_to (lv_sub (l' := [(2, .int (iI 0)), (0, .ref xo), (1, .int (iI ag))]) hl [0, 1, 2] rfl) (by simp only [e0_0]))
set_option maxHeartbeats 4000000 in
set_option maxRecDepth 100000 in
theorem m_X2_safeAge (l : Launch) (D : va_G) (xo xh t : Nat) (ta : Nat → Nat) (cI cC cH : ClassId) (ga : Nat → Nat) (gd : Nat → Nat → Nat) (F T : Nat → Int → Int) (Gs : Nat → Nat → Int → Int) {B : Int} (hI : InvG B (Gs 0)) (hB : B + 360 ≤ 100000000) (hd : Gs 0 12 0 ≤ 9999)  : MW l D yX2_safeAge (wsY yX2_safeAge cX2_safeAge 2 (some .int)) { frames := 5, cells := 0, slots := 0, locals := 121 } [(cI, .int), (cC, .char), (cH, .object RX0)] [.ref xo] (wX xo xh t ta cI cC cH ga gd F T Gs) (wX xo xh t ta cI cC cH ga gd F T (upS Gs 2 (saX (Gs 0) (Gs 2) (sgN (Gs 0) 60 0)))) (some (.int (iI (sagZ (Gs 0) 60 0)))) := by
  refine mw_ofI (cc := cX2_safeAge) (maxL := 2) (by decide) rfl (Nat.le_of_ble_eq_true rfl) ?_
  intro p e s m below meth c R A Q args ls hx hb hml hown hts hRf hRl hRc hRs hN hK hP hD hS hA hret hl
  have hq : ∀ w ∈ ALL, w.before args s = true := fun w h => hts w (List.mem_cons_of_mem _ h)
  have hl : lv_has ls 2 [(0, .ref xo)] := hl
  rw [← upS_eta Gs 2] at hP hD
  refine z_bipush hx hb dX2_safeAge_0 (by decide +kernel) ?_
  refine lv_istore_n (lv' := [(1, .int (iI 60)), (0, .ref xo)]) hx hb dX2_safeAge_2 rfl hl (by decide) rfl (fun ls hl => ?_)
  have LP3 : ∀ (fu i : Nat), i ≤ 60 → 60 < fu + i → sagZ (Gs 0) 60 0 = sagZ (Gs 0) (60 - i) i → sgN (Gs 0) 60 0 = sgN (Gs 0) (60 - i) i → ∀ (H : Heap) (locs : List Loc) (ls : Array Slot), va_P D vwCl (wX xo xh t ta cI cC cH ga gd F T (upS Gs 2 (saX (Gs 0) (Gs 2) i))) H → va_D A (wX xo xh t ta cI cC cH ga gd F T (upS Gs 2 (saX (Gs 0) (Gs 2) i))) → va_S A s.heap H locs → lv_has ls 2 [(1, .int (iI (60 - (i : Int)))), (0, .ref xo)] → W p l e R s m args below meth c H locs 0 0 Q (F0 m 3 ls []) := by
    intro fu
    induction fu with
    | zero => intro i h1 h2; omega
    | succ fu ih3 =>
      intro i hi1 hif hv hw H locs ls hP hD hS hl
      refine lv_iload_n hx hb dX2_safeAge_3 rfl (lv_at hl 0 rfl) ?_
      refine z_iconst hx hb dX2_safeAge_4 ?_
      refine z_icmp_lt (tgt := 24) hx hb dX2_safeAge_5 (by decide) (by omega) (by omega) (fun c_1 => ?_) (fun c_1 => ?_)
      · refine z_ldc hx hb (-1000004) (by decide +kernel) hown (hq _ q_269) dX2_safeAge_24 ?_
        refine z_as (show (-1000004) = sagZ (Gs 0) 60 0 from by first | (exfalso; omega) | (rw [hv]; exact (sag_end (by omega)).symm) | (rw [hv]; exact (sag_hit (by omega) (by omega)).symm)) ?_
        first | (exfalso; omega; done) | (have eN := hw.trans (sg_hit (G := Gs 0) (by omega) (show lbZ (Gs 0) (60 - (i : Int)) = 0 by omega)); have eX : saX (Gs 0) (Gs 2) (sgN (Gs 0) 60 0) = isT (Gs 0) (60 - (i : Int)) := (by (rw [eN, sa_step])); rw [← eX] at hP hD; exact hret _ _ _ _ dX2_safeAge_26 hP hD hS) | (have eN := hw.trans (sg_end (G := Gs 0) (by omega)); rw [← eN] at hP hD; exact hret _ _ _ _ dX2_safeAge_26 hP hD hS)
      · refine lv_aload_n hx hb dX2_safeAge_8 rfl (lv_at hl 1 rfl) ?_
        refine lv_iload_n hx hb dX2_safeAge_9 rfl (lv_at hl 0 rfl) ?_
        refine mw_full (st1 := [.int (iI (safZ ((upS Gs 2 (saX (Gs 0) (Gs 2) i)) 0) (60 - (i : Int))))]) (mr_V (As := [.int (iI (60 - (i : Int)))]) (rest := []) (ci := 2) (q0 := 0) ⟨hx, hb, hml, hown, hts⟩ (m_X2_isSafe l D xo xh t ta cI cC cH ga gd F T (upS Gs 2 (saX (Gs 0) (Gs 2) i)) (60 - (i : Int)) hI (by omega) hd (by omega)) (cwV 1 hts (gV q_276 q_277 q_278 q_37 q_275) rfl rfl rfl (by decide +kernel) ⟨Nat.le_trans (m := 5) (Nat.le_of_ble_eq_true rfl) (Nat.le_trans (Nat.le_of_ble_eq_true rfl) hRf), Nat.le_trans (m := 121) (Nat.le_of_ble_eq_true rfl) (Nat.le_trans (Nat.le_of_ble_eq_true rfl) hRl)⟩) hN hK hP hD rfl rfl rfl hl.1 (Nat.le_of_ble_eq_true rfl) ⟨hRc, hRs⟩ dX2_safeAge_10) hD hS hA rfl (fun H locs hP hD hS => ?_)
        have hsf : safZ (Gs 0) (60 - (i : Int)) = if lbZ (Gs 0) (60 - (i : Int)) = 0 then 1 else 0 := rfl
        have hsf1 := saf_01 (Gs 0) (60 - (i : Int))
        rw [upS_2] at hP hD
        have hP : va_P D vwCl (wX xo xh t ta cI cC cH ga gd F T (upS Gs 2 (isT (Gs 0) (60 - (i : Int))))) H := hP
        have hD : va_D A (wX xo xh t ta cI cC cH ga gd F T (upS Gs 2 (isT (Gs 0) (60 - (i : Int))))) := hD
        refine z_as (show (safZ ((upS Gs 2 (saX (Gs 0) (Gs 2) i)) 0) (60 - (i : Int))) = safZ (Gs 0) (60 - (i : Int)) from rfl) ?_
        refine z_if_eq (tgt := 18) hx hb dX2_safeAge_13 (by decide) (by omega) (fun c_2 => ?_) (fun c_2 => ?_)
        · refine lv_iinc (v := iI ((60 - (i : Int)) + (-1))) (lv' := [(1, .int (iI ((60 - (i : Int)) + (-1)))), (0, .ref xo)]) hx hb dX2_safeAge_18 hl (k := 0) rfl (iI_add _ _) (by decide) rfl (fun ls hl => ?_)
          refine lv_goto (tgt := 3) hx hb dX2_safeAge_21 (by decide) ?_
          have e1_0 : ((60 - ((i + 1 : Nat) : Int))) = ((60 - (i : Int)) + (-1)) := by first | rfl | omega
          have eU : (upS Gs 2 (saX (Gs 0) (Gs 2) (i + 1))) = (upS Gs 2 (isT (Gs 0) (60 - (i : Int)))) := by (rw [sa_step])
          rw [← eU] at hP hD
          exact ih3 (i + 1) (by omega) (by omega) (sag_next hv (by omega) (show lbZ (Gs 0) (60 - (i : Int)) ≠ 0 by omega)) (sg_next hw (by omega) (show lbZ (Gs 0) (60 - (i : Int)) ≠ 0 by omega)) _ _ _ hP hD hS (lv_to (lv_sub (l' := [(1, .int (iI ((60 - (i : Int)) + (-1)))), (0, .ref xo)]) hl [0, 1] rfl) (by simp only [e1_0]))
        · refine lv_iload_n hx hb dX2_safeAge_16 rfl (lv_at hl 0 rfl) ?_
          refine z_as (show (60 - (i : Int)) = sagZ (Gs 0) 60 0 from by first | (exfalso; omega) | (rw [hv]; exact (sag_end (by omega)).symm) | (rw [hv]; exact (sag_hit (by omega) (by omega)).symm)) ?_
          first | (exfalso; omega; done) | (have eN := hw.trans (sg_hit (G := Gs 0) (by omega) (show lbZ (Gs 0) (60 - (i : Int)) = 0 by omega)); have eX : saX (Gs 0) (Gs 2) (sgN (Gs 0) 60 0) = isT (Gs 0) (60 - (i : Int)) := (by (rw [eN, sa_step])); rw [← eX] at hP hD; exact hret _ _ _ _ dX2_safeAge_17 hP hD hS) | (have eN := hw.trans (sg_end (G := Gs 0) (by omega)); rw [← eN] at hP hD; exact hret _ _ _ _ dX2_safeAge_17 hP hD hS)
  have e0_0 : ((60 - ((0 : Nat) : Int))) = 60 := by first | rfl | omega
  exact LP3 (60 + 1) 0 (by omega) (by omega) rfl rfl _ _ _ hP hD hS (lv_to (lv_sub (l' := [(1, .int (iI 60)), (0, .ref xo)]) hl [0, 1] rfl) (by simp only [e0_0]))
set_option maxHeartbeats 4000000 in
set_option maxRecDepth 100000 in
theorem m_X2_worst (l : Launch) (D : va_G) (xo xh t : Nat) (ta : Nat → Nat) (cI cC cH : ClassId) (ga : Nat → Nat) (gd : Nat → Nat → Nat) (F T : Nat → Int → Int) (Gs : Nat → Nat → Int → Int) (q : Int) {B : Int} (hI : InvG B (Gs 0)) (h1 : 0 ≤ q ∧ q < 6)  : MW l D yX2_worst (wsY yX2_worst cX2_worst 5 (some .int)) { frames := 4, cells := 0, slots := 0, locals := 94 } [(cI, .int), (cC, .char), (cH, .object RX0)] [.ref xo, .int (iI q)] (wX xo xh t ta cI cC cH ga gd F T Gs) (wX xo xh t ta cI cC cH ga gd F T Gs) (some (.int (iI ((wsZ (Gs 0) (q.toNat + 1)).2)))) := by
  refine mw_ofI (cc := cX2_worst) (maxL := 5) (by decide) rfl (Nat.le_of_ble_eq_true rfl) ?_
  intro p e s m below meth c R A Q args ls hx hb hml hown hts hRf hRl hRc hRs hN hK hP hD hS hA hret hl
  have hq : ∀ w ∈ ALL, w.before args s = true := fun w h => hts w (List.mem_cons_of_mem _ h)
  have hl : lv_has ls 5 [(0, .ref xo), (1, .int (iI q))] := hl
  refine lv_iload_n hx hb dX2_worst_0 rfl (lv_at hl 1 rfl) ?_
  refine z_iconst hx hb dX2_worst_1 ?_
  refine z_iconst hx hb dX2_worst_2 ?_
  refine mw_none (st1 := [.int (iI (outZ q 0 5))]) (mr_S (As := [.int (iI q), .int (iI 0), .int (iI 5)]) (rest := []) ⟨hx, hb, hml, hown, hts⟩ (m_X2_isOutside l D q 0 5 (by omega) (by omega) (by omega)) (va_cwS 3 hts (gS q_270 q_36 q_37 q_35) rfl rfl rfl (by decide +kernel) ⟨Nat.le_trans (m := 1) (Nat.le_of_ble_eq_true rfl) (Nat.le_trans (Nat.le_of_ble_eq_true rfl) hRf), Nat.le_trans (m := 22) (Nat.le_of_ble_eq_true rfl) (Nat.le_trans (Nat.le_of_ble_eq_true rfl) hRl)⟩) hN (hK.sub (tys' := []) [] rfl) (va_P0 _ _ _) (va_D0 A) rfl hl.1 (Nat.le_of_ble_eq_true rfl) ⟨hRc, hRs⟩ dX2_worst_3) hP hS hA rfl (fun H locs hP hS => ?_)
  have hf_1 : outZ q 0 5 = if q < 0 ∨ 5 < q then 1 else 0 := rfl
  refine z_if_eq (tgt := 12) hx hb dX2_worst_6 (by decide) (by omega) (fun c_2 => ?_) (fun c_2 => absurd c_2 (by omega))
  refine z_iconst hx hb dX2_worst_12 ?_
  refine lv_istore_n (lv' := [(2, .int (iI 0)), (0, .ref xo), (1, .int (iI q))]) hx hb dX2_worst_13 rfl hl (by decide) rfl (fun ls hl => ?_)
  refine z_iconst hx hb dX2_worst_14 ?_
  refine lv_istore_n (lv' := [(3, .int (iI 0)), (2, .int (iI 0)), (0, .ref xo), (1, .int (iI q))]) hx hb dX2_worst_15 rfl hl (by decide) rfl (fun ls hl => ?_)
  refine z_iconst hx hb dX2_worst_16 ?_
  refine lv_istore (lv' := [(4, .int (iI 0)), (3, .int (iI 0)), (2, .int (iI 0)), (0, .ref xo), (1, .int (iI q))]) hx hb dX2_worst_17 hl (by decide) rfl (fun ls hl => ?_)
  have LP19 : ∀ (fu i : Nat), i ≤ (q.toNat + 1) → (q.toNat + 1) < fu + i → ∀ (H : Heap) (locs : List Loc) (ls : Array Slot), va_P D vwCl (wX xo xh t ta cI cC cH ga gd F T Gs) H → va_D A (wX xo xh t ta cI cC cH ga gd F T Gs) → va_S A s.heap H locs → lv_has ls 5 [(4, .int (iI (i : Int))), (3, .int (iI ((wsZ (Gs 0) i).2))), (2, .int (iI ((wsZ (Gs 0) i).1))), (0, .ref xo), (1, .int (iI q))] → W p l e R s m args below meth c H locs 0 0 Q (F0 m 19 ls []) := by
    intro fu
    induction fu with
    | zero => intro i h1 h2; omega
    | succ fu ih19 =>
      intro i hi1 hif H locs ls hP hD hS hl
      have hws := ws_bd (Gs 0) i
      have hwb := (wb_bd (Gs 0) (wsZ (Gs 0) i).1 6 (by omega)).1
      refine lv_iload hx hb dX2_worst_19 (lv_at hl 0 rfl) ?_
      refine lv_iload_n hx hb dX2_worst_21 rfl (lv_at hl 4 rfl) ?_
      refine z_icmp_gt (tgt := 46) hx hb dX2_worst_22 (by decide) (by omega) (by omega) (fun c_3 => ?_) (fun c_3 => ?_)
      · refine lv_iload_n hx hb dX2_worst_46 rfl (lv_at hl 1 rfl) ?_
        refine z_as (show (wsZ (Gs 0) i).2 = (wsZ (Gs 0) (q.toNat + 1)).2 from by (rw [show i = q.toNat + 1 by omega])) ?_
        first | exact hret _ _ _ _ dX2_worst_47 hP hD hS | (exfalso; omega)
      · refine lv_aload_n hx hb dX2_worst_25 rfl (lv_at hl 3 rfl) ?_
        refine va_get (D := D) (ci := 2) (v := .ref (ga 0)) (C := RX2) (T := TX2) (N := 10) hx hb hq inA2 hown hK hP 0 rfl rfl 0 (by decide) (hq _ q_204) (fun _ h9 => h9) rfl dX2_worst_26 ?_
        refine lv_iload_n hx hb dX2_worst_29 rfl (lv_at hl 2 rfl) ?_
        refine mw_grR (ga := ga) (gd := gd) (T := T) (Gs := Gs) (st1 := [.int (iI ((wbZ (Gs 0) ((wsZ (Gs 0) i).1) 6).1))]) 0 (by decide) (mr_V (As := [.int (iI ((wsZ (Gs 0) i).1))]) (rest := []) (ci := 0) (q0 := 0) ⟨hx, hb, hml, hown, hts⟩ (m_X0_worstBut l D (ga 0) (gd 0) cI (Gs 0) ((wsZ (Gs 0) i).1) hI (by omega)) (cwV 1 hts (gV q_280 q_281 q_282 q_8 q_153) rfl rfl rfl (by decide +kernel) ⟨Nat.le_trans (m := 4) (Nat.le_of_ble_eq_true rfl) (Nat.le_trans (Nat.le_of_ble_eq_true rfl) hRf), Nat.le_trans (m := 94) (Nat.le_of_ble_eq_true rfl) (Nat.le_trans (Nat.le_of_ble_eq_true rfl) hRl)⟩) hN (hK.sub (tys' := [(cI, .int)]) [0] rfl) (x_Pg (ga := ga) (gd := gd) (T := T) (Gs := Gs) 0 (by decide) hP) (x_Dg (ga := ga) (gd := gd) (T := T) (Gs := Gs) 0 (by decide) hD) rfl rfl rfl hl.1 (Nat.le_of_ble_eq_true rfl) ⟨hRc, hRs⟩ dX2_worst_30) hP hD hS hA rfl (fun H locs hP hD hS => ?_)
        refine lv_istore_n (lv' := [(3, .int (iI ((wbZ (Gs 0) ((wsZ (Gs 0) i).1) 6).1))), (4, .int (iI (i : Int))), (2, .int (iI ((wsZ (Gs 0) i).1))), (0, .ref xo), (1, .int (iI q))]) hx hb dX2_worst_33 rfl hl (by decide) rfl (fun ls hl => ?_)
        refine lv_iload_n hx hb dX2_worst_34 rfl (lv_at hl 2 rfl) ?_
        refine z_iconst hx hb dX2_worst_35 ?_
        refine lv_iload_n hx hb dX2_worst_36 rfl (lv_at hl 0 rfl) ?_
        refine lv_ishl hx hb dX2_worst_37 ?_
        refine lv_ior hx hb dX2_worst_38 ?_
        refine z_asB (b := (borZ (wsZ (Gs 0) i).1 ((wbZ (Gs 0) (wsZ (Gs 0) i).1 6).1).toNat)) (bor_eq hwb hws.1) ?_
        refine lv_istore_n (lv' := [(2, .int (iI (borZ (wsZ (Gs 0) i).1 ((wbZ (Gs 0) (wsZ (Gs 0) i).1 6).1).toNat))), (3, .int (iI ((wbZ (Gs 0) ((wsZ (Gs 0) i).1) 6).1))), (4, .int (iI (i : Int))), (0, .ref xo), (1, .int (iI q))]) hx hb dX2_worst_39 rfl hl (by decide) rfl (fun ls hl => ?_)
        refine lv_iinc (v := iI ((i : Int) + 1)) (lv' := [(4, .int (iI ((i : Int) + 1))), (2, .int (iI (borZ (wsZ (Gs 0) i).1 ((wbZ (Gs 0) (wsZ (Gs 0) i).1 6).1).toNat))), (3, .int (iI ((wbZ (Gs 0) ((wsZ (Gs 0) i).1) 6).1))), (0, .ref xo), (1, .int (iI q))]) hx hb dX2_worst_40 hl (k := 2) rfl (iI_add _ _) (by decide) rfl (fun ls hl => ?_)
        refine lv_goto (tgt := 19) hx hb dX2_worst_43 (by decide) ?_
        have e1_0 : (((i + 1 : Nat) : Int)) = ((i : Int) + 1) := by first | rfl | omega
        have e1_1 : ((wsZ (Gs 0) (i + 1)).2) = ((wbZ (Gs 0) ((wsZ (Gs 0) i).1) 6).1) := by exact ws_2 _ _
        have e1_2 : ((wsZ (Gs 0) (i + 1)).1) = (borZ (wsZ (Gs 0) i).1 ((wbZ (Gs 0) (wsZ (Gs 0) i).1 6).1).toNat) := by exact ws_1 _ _
        exact ih19 (i + 1) (by omega) (by omega) _ _ _ hP hD hS (lv_to (lv_sub (l' := [(4, .int (iI ((i : Int) + 1))), (3, .int (iI ((wbZ (Gs 0) ((wsZ (Gs 0) i).1) 6).1))), (2, .int (iI (borZ (wsZ (Gs 0) i).1 ((wbZ (Gs 0) (wsZ (Gs 0) i).1 6).1).toNat))), (0, .ref xo), (1, .int (iI q))]) hl [0, 2, 1, 3, 4] rfl) (by simp only [e1_0, e1_1, e1_2]))
  have e0_0 : (((0 : Nat) : Int)) = 0 := by first | rfl | (simp only [wsZ])
  have e0_1 : ((wsZ (Gs 0) (0)).2) = 0 := by first | rfl | (simp only [wsZ])
  have e0_2 : ((wsZ (Gs 0) (0)).1) = 0 := by first | rfl | (simp only [wsZ])
  exact LP19 ((q.toNat + 1) + 1) 0 (by omega) (by omega) _ _ _ hP hD hS (lv_to (lv_sub (l' := [(4, .int (iI 0)), (3, .int (iI 0)), (2, .int (iI 0)), (0, .ref xo), (1, .int (iI q))]) hl [0, 1, 2, 3, 4] rfl) (by simp only [e0_0, e0_1, e0_2]))
set_option maxHeartbeats 4000000 in
set_option maxRecDepth 100000 in
theorem m_X2_worst_bad (l : Launch) (D : va_G) (xo xh t : Nat) (ta : Nat → Nat) (cI cC cH : ClassId) (ga : Nat → Nat) (gd : Nat → Nat → Nat) (F T : Nat → Int → Int) (Gs : Nat → Nat → Int → Int) (q : Int) (h_q : -2147483648 ≤ q ∧ q < 2147483648) (hb0 : q < 0 ∨ 5 < q)  : MW l D yX2_worst (wsY yX2_worst cX2_worst 5 (some .int)) { frames := 4, cells := 0, slots := 0, locals := 94 } [(cI, .int), (cC, .char), (cH, .object RX0)] [.ref xo, .int (iI q)] (wX xo xh t ta cI cC cH ga gd F T Gs) (wX xo xh t ta cI cC cH ga gd F T Gs) (some (.int (iI (-1000001)))) := by
  refine mw_ofI (cc := cX2_worst) (maxL := 5) (by decide) rfl (Nat.le_of_ble_eq_true rfl) ?_
  intro p e s m below meth c R A Q args ls hx hb hml hown hts hRf hRl hRc hRs hN hK hP hD hS hA hret hl
  have hq : ∀ w ∈ ALL, w.before args s = true := fun w h => hts w (List.mem_cons_of_mem _ h)
  have hl : lv_has ls 5 [(0, .ref xo), (1, .int (iI q))] := hl
  refine lv_iload_n hx hb dX2_worst_0 rfl (lv_at hl 1 rfl) ?_
  refine z_iconst hx hb dX2_worst_1 ?_
  refine z_iconst hx hb dX2_worst_2 ?_
  refine mw_none (st1 := [.int (iI (outZ q 0 5))]) (mr_S (As := [.int (iI q), .int (iI 0), .int (iI 5)]) (rest := []) ⟨hx, hb, hml, hown, hts⟩ (m_X2_isOutside l D q 0 5 (by omega) (by omega) (by omega)) (va_cwS 3 hts (gS q_270 q_36 q_37 q_35) rfl rfl rfl (by decide +kernel) ⟨Nat.le_trans (m := 1) (Nat.le_of_ble_eq_true rfl) (Nat.le_trans (Nat.le_of_ble_eq_true rfl) hRf), Nat.le_trans (m := 22) (Nat.le_of_ble_eq_true rfl) (Nat.le_trans (Nat.le_of_ble_eq_true rfl) hRl)⟩) hN (hK.sub (tys' := []) [] rfl) (va_P0 _ _ _) (va_D0 A) rfl hl.1 (Nat.le_of_ble_eq_true rfl) ⟨hRc, hRs⟩ dX2_worst_3) hP hS hA rfl (fun H locs hP hS => ?_)
  have hf_1 : outZ q 0 5 = if q < 0 ∨ 5 < q then 1 else 0 := rfl
  refine z_if_eq (tgt := 12) hx hb dX2_worst_6 (by decide) (by omega) (fun c_2 => absurd c_2 (by omega)) (fun c_2 => ?_)
  refine z_ldc hx hb (-1000001) (by decide +kernel) hown (hq _ q_267) dX2_worst_9 ?_
  refine z_as (show (-1000001) = -1000001 from by first | rfl | omega) ?_
  first | exact hret _ _ _ _ dX2_worst_11 hP hD hS | (exfalso; omega)
