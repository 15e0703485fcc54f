set_option maxHeartbeats 4000000 in
set_option maxRecDepth 100000 in
theorem m_X3_lostBy (l : Launch) (D : va_G) (mo : Nat) (am : Nat → Nat) (cI : ClassId) (S : Nat → Int → Int) (ag : Int) {B : Int} (hI : InvG B (gOf (S 0))) (h1 : 0 ≤ ag ∧ ag ≤ 60) (hB : B + 360 ≤ 100000000) (hd : (gOf (S 0)) 12 0 ≤ 9999)  : MW l D yX3_lostBy (wsY yX3_lostBy cX3_lostBy 4 (some .int)) { frames := 8, cells := 0, slots := 0, locals := 177 } [(cI, .int)] [.ref mo, .int (iI ag)] (wM mo am cI S) (wM mo am cI (setA S 1 (S 0))) (some (.int (iI (lbZ (gOf (S 0)) ag)))) := by
  refine mw_ofI (cc := cX3_lostBy) (maxL := 4) (by decide) rfl (Nat.le_of_ble_eq_true rfl) ?_
  intro p e s m below meth c R A Q args ls hx hb hml hown hts hRf hRl hRc hRs hN hK hP hD hS hA hret hl
  have hq : ∀ w ∈ ALL, w.before args s = true := fun w h => hts w (List.mem_cons_of_mem _ h)
  have hl : lv_has ls 4 [(0, .ref mo), (1, .int (iI ag))] := hl
  refine lv_aload_n hx hb dX3_lostBy_0 rfl (lv_at hl 0 rfl) ?_
  refine va_get (D := D) (ci := 3) (v := .ref (am 0)) (C := RX3) (T := TX3) (N := 14) hx hb hq inA3 hown hK hP 0 rfl rfl 0 (by decide) (hq _ q_338) (fun _ h9 => h9) rfl dX3_lostBy_1 ?_
  refine z_iconst hx hb dX3_lostBy_4 ?_
  refine lv_aload_n hx hb dX3_lostBy_5 rfl (lv_at hl 0 rfl) ?_
  refine va_get (D := D) (ci := 3) (v := .ref (am 1)) (C := RX3) (T := TX3) (N := 14) hx hb hq inA3 hown hK hP 0 rfl rfl 1 (by decide) (hq _ q_362) (fun _ h9 => h9) rfl dX3_lostBy_6 ?_
  refine z_iconst hx hb dX3_lostBy_9 ?_
  obtain ⟨Cp10, hCp10⟩ : ∃ C : Int → Int, C = (cpZ (S 0) (S 1) 0 0 269) := ⟨_, rfl⟩
  have mCp10 := (m_X3_copies l D (am 0) (am 1) cI 269 269 (S 0) (S 1) 0 0 (by omega) (by omega) (by omega))
  rw [← hCp10] at mCp10
  refine mw_part (st1 := []) (w1 := (wM mo am cI (setA S 1 Cp10))) (mr_S (As := [.ref (am 0), .int (iI 0), .ref (am 1), .int (iI 0)]) (rest := []) ⟨hx, hb, hml, hown, hts⟩ mCp10 (va_cwS 4 hts (gS q_377 q_378 q_345 q_375) rfl rfl rfl (by decide +kernel) ⟨Nat.le_trans (m := 1) (Nat.le_of_ble_eq_true rfl) (Nat.le_trans (Nat.le_of_ble_eq_true rfl) hRf), Nat.le_trans (m := 24) (Nat.le_of_ble_eq_true rfl) (Nat.le_trans (Nat.le_of_ble_eq_true rfl) hRl)⟩) hN hK (hP.sub (ws' := [((am 0), .inl (cI, 269, .inl (aI (S 0)))), ((am 1), .inl (cI, 269, .inl (aI (S 1))))]) [1, 2] rfl) (hD.sub (ws' := [((am 0), .inl (cI, 269, .inl (aI (S 0)))), ((am 1), .inl (cI, 269, .inl (aI (S 1))))]) [1, 2] (by decide) rfl) rfl hl.1 (Nat.le_of_ble_eq_true rfl) ⟨hRc, hRs⟩ dX3_lostBy_10) hP hD hS hA [1, 2] [0, 3, 4, 5, 6] [0, 5, 6, 1, 2, 3, 4] rfl (wr := ([0, 3, 4, 5, 6].filterMap (fun iq_ => ((wM mo am cI S))[iq_]?))) rfl (by decide) (by decide) (by decide) rfl rfl (fun H locs hP hD hS => ?_)
  have hP : va_P D vwCl (wM mo am cI (setA S 1 (S 0))) H := va_P_cell (ws := (wM mo am cI S)) (q1 := 2) (a := (am 1)) (c1 := cI) (n := 269) (f := aI Cp10) (g := aI (S 0)) hP (fun j hj => by rw [hCp10]; exact cp_full0 _ _ j hj)
  have hD : va_D A (wM mo am cI (setA S 1 (S 0))) := va_D.set (p := 2) (a := (am 1)) (e := .inl (cI, 269, .inl (aI (S 0)))) hD rfl
  refine lv_aload_n hx hb dX3_lostBy_13 rfl (lv_at hl 0 rfl) ?_
  refine va_get (D := D) (ci := 3) (v := .ref (am 0)) (C := RX3) (T := TX3) (N := 14) hx hb hq inA3 hown hK hP 0 rfl rfl 0 (by decide) (hq _ q_338) (fun _ h9 => h9) rfl dX3_lostBy_14 ?_
  refine z_iconst hx hb dX3_lostBy_17 ?_
  refine lv_iload_n hx hb dX3_lostBy_18 rfl (lv_at hl 1 rfl) ?_
  refine z_iast (w1 := (wM mo am cI (upG (setA S 1 (S 0)) 0 3 ag))) hx hb hK hP hD hS 1 0 rfl rfl (by omega) (by omega) rfl dX3_lostBy_19 (fun H locs hP hD hS => ?_)
  refine z_iconst hx hb dX3_lostBy_20 ?_
  refine lv_istore_n (lv' := [(2, .int (iI 0)), (0, .ref mo), (1, .int (iI ag))]) hx hb dX3_lostBy_21 rfl hl (by decide) rfl (fun ls hl => ?_)
  refine z_iconst hx hb dX3_lostBy_22 ?_
  refine lv_istore_n (lv' := [(3, .int (iI 0)), (2, .int (iI 0)), (0, .ref mo), (1, .int (iI ag))]) hx hb dX3_lostBy_23 rfl hl (by decide) rfl (fun ls hl => ?_)
  have LP24 : ∀ (fu i : Nat), i ≤ 60 → 60 < fu + i → lstZ (laZ (gOf (S 0)) ag) 60 0 = (if prvZ (laZ (gOf (S 0)) ag) i ≠ 0 then prvZ (laZ (gOf (S 0)) ag) i else lstZ (laZ (gOf (S 0)) ag) (60 - i) i) → ∀ (H : Heap) (locs : List Loc) (ls : Array Slot), va_P D vwCl (wM mo am cI (esS (upG (setA S 1 (S 0)) 0 3 ag) i)) H → va_D A (wM mo am cI (esS (upG (setA S 1 (S 0)) 0 3 ag) i)) → va_S A s.heap H locs → lv_has ls 4 [(3, .int (iI (i : Int))), (2, .int (iI (prvZ (laZ (gOf (S 0)) ag) i))), (0, .ref mo), (1, .int (iI ag))] → W p l e R s m args below meth c H locs 0 0 Q (F0 m 24 ls []) := by
    intro fu
    induction fu with
    | zero => intro i h1 h2; omega
    | succ fu ih24 =>
      intro i hi1 hif hv H locs ls hP hD hS hl
      have hI1 : InvG B (gOf ((upG (setA S 1 (S 0)) 0 3 ag) 0)) := by rw [q_age]; exact invG_set2 hI (by omega)
      have hd1 : gOf ((upG (setA S 1 (S 0)) 0 3 ag) 0) 12 0 = gOf (S 0) 12 0 := by rw [q_age]; rfl
      have hIi := inv_es hI1 i (by omega) (by omega)
      have hdi := es_12 hI1 i (by omega) (by omega)
      have hqi := (gOf_es hI1 i (by omega) (by omega)).1
      have hpb := prv_bd (gOf (S 0)) ag i
      have hel : i < 60 → edL (esS (upG (setA S 1 (S 0)) 0 3 ag) i) 6 = laZ (gOf (S 0)) ag i := fun h => by rw [(gOf_ed hIi (by omega) (by omega) 6 (by omega)).2, hqi, q_age]; rfl
      refine lv_iload_n hx hb dX3_lostBy_24 rfl (lv_at hl 0 rfl) ?_
      refine z_bipush hx hb dX3_lostBy_25 (by decide +kernel) ?_
      refine z_icmp_ge (tgt := 45) hx hb dX3_lostBy_27 (by decide) (by omega) (by omega) (fun c_1 => ?_) (fun c_1 => ?_)
      · refine lv_aload_n hx hb dX3_lostBy_45 rfl (lv_at hl 2 rfl) ?_
        refine va_get (D := D) (ci := 3) (v := .ref (am 1)) (C := RX3) (T := TX3) (N := 14) hx hb hq inA3 hown hK hP 0 rfl rfl 1 (by decide) (hq _ q_362) (fun _ h9 => h9) rfl dX3_lostBy_46 ?_
        refine z_iconst hx hb dX3_lostBy_49 ?_
        refine lv_aload_n hx hb dX3_lostBy_50 rfl (lv_at hl 2 rfl) ?_
        refine va_get (D := D) (ci := 3) (v := .ref (am 0)) (C := RX3) (T := TX3) (N := 14) hx hb hq inA3 hown hK hP 0 rfl rfl 0 (by decide) (hq _ q_338) (fun _ h9 => h9) rfl dX3_lostBy_51 ?_
        refine z_iconst hx hb dX3_lostBy_54 ?_
        obtain ⟨Cp55, hCp55⟩ : ∃ C : Int → Int, C = (cpZ ((esS (upG (setA S 1 (S 0)) 0 3 ag) i) 1) ((esS (upG (setA S 1 (S 0)) 0 3 ag) i) 0) 0 0 269) := ⟨_, rfl⟩
        have mCp55 := (m_X3_copies l D (am 1) (am 0) cI 269 269 ((esS (upG (setA S 1 (S 0)) 0 3 ag) i) 1) ((esS (upG (setA S 1 (S 0)) 0 3 ag) i) 0) 0 0 (by omega) (by omega) (by omega))
        rw [← hCp55] at mCp55
        refine mw_part (st1 := []) (w1 := (wM mo am cI (setA (esS (upG (setA S 1 (S 0)) 0 3 ag) i) 0 Cp55))) (mr_S (As := [.ref (am 1), .int (iI 0), .ref (am 0), .int (iI 0)]) (rest := []) ⟨hx, hb, hml, hown, hts⟩ mCp55 (va_cwS 4 hts (gS q_377 q_378 q_345 q_375) rfl rfl rfl (by decide +kernel) ⟨Nat.le_trans (m := 1) (Nat.le_of_ble_eq_true rfl) (Nat.le_trans (Nat.le_of_ble_eq_true rfl) hRf), Nat.le_trans (m := 24) (Nat.le_of_ble_eq_true rfl) (Nat.le_trans (Nat.le_of_ble_eq_true rfl) hRl)⟩) hN hK (hP.sub (ws' := [((am 1), .inl (cI, 269, .inl (aI ((esS (upG (setA S 1 (S 0)) 0 3 ag) i) 1)))), ((am 0), .inl (cI, 269, .inl (aI ((esS (upG (setA S 1 (S 0)) 0 3 ag) i) 0))))]) [2, 1] rfl) (hD.sub (ws' := [((am 1), .inl (cI, 269, .inl (aI ((esS (upG (setA S 1 (S 0)) 0 3 ag) i) 1)))), ((am 0), .inl (cI, 269, .inl (aI ((esS (upG (setA S 1 (S 0)) 0 3 ag) i) 0))))]) [2, 1] (by decide) rfl) rfl hl.1 (Nat.le_of_ble_eq_true rfl) ⟨hRc, hRs⟩ dX3_lostBy_55) hP hD hS hA [2, 1] [0, 3, 4, 5, 6] [0, 6, 5, 1, 2, 3, 4] rfl (wr := ([0, 3, 4, 5, 6].filterMap (fun iq_ => ((wM mo am cI (esS (upG (setA S 1 (S 0)) 0 3 ag) i)))[iq_]?))) rfl (by decide) (by decide) (by decide) rfl rfl (fun H locs hP hD hS => ?_)
        have hP : va_P D vwCl (wM mo am cI (setA (esS (upG (setA S 1 (S 0)) 0 3 ag) i) 0 ((esS (upG (setA S 1 (S 0)) 0 3 ag) i) 1))) H := va_P_cell (ws := (wM mo am cI (esS (upG (setA S 1 (S 0)) 0 3 ag) i))) (q1 := 1) (a := (am 0)) (c1 := cI) (n := 269) (f := aI Cp55) (g := aI ((esS (upG (setA S 1 (S 0)) 0 3 ag) i) 1)) hP (fun j hj => by rw [hCp55]; exact cp_full0 _ _ j hj)
        have hD : va_D A (wM mo am cI (setA (esS (upG (setA S 1 (S 0)) 0 3 ag) i) 0 ((esS (upG (setA S 1 (S 0)) 0 3 ag) i) 1))) := va_D.set (p := 1) (a := (am 0)) (e := .inl (cI, 269, .inl (aI ((esS (upG (setA S 1 (S 0)) 0 3 ag) i) 1)))) hD rfl
        refine lv_iload_n hx hb dX3_lostBy_58 rfl (lv_at hl 1 rfl) ?_
        refine z_as (show (prvZ (laZ (gOf (S 0)) ag) i) = lbZ (gOf (S 0)) ag from by (exact lst_out hv (by omega))) ?_
        have eW0 : setA S 1 (S 0) = (setA (esS (upG (setA S 1 (S 0)) 0 3 ag) i) 0 ((esS (upG (setA S 1 (S 0)) 0 3 ag) i) 1)) := by (exact (es_back2 _ _ _).symm)
        rw [← eW0] at hP hD
        first | exact hret _ _ _ _ dX3_lostBy_59 hP hD hS | (exfalso; omega)
      · refine lv_iload_n hx hb dX3_lostBy_30 rfl (lv_at hl 1 rfl) ?_
        refine z_if_ne (tgt := 45) hx hb dX3_lostBy_31 (by decide) (by omega) (fun c_2 => ?_) (fun c_2 => ?_)
        · refine lv_aload_n hx hb dX3_lostBy_45 rfl (lv_at hl 2 rfl) ?_
          refine va_get (D := D) (ci := 3) (v := .ref (am 1)) (C := RX3) (T := TX3) (N := 14) hx hb hq inA3 hown hK hP 0 rfl rfl 1 (by decide) (hq _ q_362) (fun _ h9 => h9) rfl dX3_lostBy_46 ?_
          refine z_iconst hx hb dX3_lostBy_49 ?_
          refine lv_aload_n hx hb dX3_lostBy_50 rfl (lv_at hl 2 rfl) ?_
          refine va_get (D := D) (ci := 3) (v := .ref (am 0)) (C := RX3) (T := TX3) (N := 14) hx hb hq inA3 hown hK hP 0 rfl rfl 0 (by decide) (hq _ q_338) (fun _ h9 => h9) rfl dX3_lostBy_51 ?_
          refine z_iconst hx hb dX3_lostBy_54 ?_
          obtain ⟨Cp55, hCp55⟩ : ∃ C : Int → Int, C = (cpZ ((esS (upG (setA S 1 (S 0)) 0 3 ag) i) 1) ((esS (upG (setA S 1 (S 0)) 0 3 ag) i) 0) 0 0 269) := ⟨_, rfl⟩
          have mCp55 := (m_X3_copies l D (am 1) (am 0) cI 269 269 ((esS (upG (setA S 1 (S 0)) 0 3 ag) i) 1) ((esS (upG (setA S 1 (S 0)) 0 3 ag) i) 0) 0 0 (by omega) (by omega) (by omega))
          rw [← hCp55] at mCp55
          refine mw_part (st1 := []) (w1 := (wM mo am cI (setA (esS (upG (setA S 1 (S 0)) 0 3 ag) i) 0 Cp55))) (mr_S (As := [.ref (am 1), .int (iI 0), .ref (am 0), .int (iI 0)]) (rest := []) ⟨hx, hb, hml, hown, hts⟩ mCp55 (va_cwS 4 hts (gS q_377 q_378 q_345 q_375) rfl rfl rfl (by decide +kernel) ⟨Nat.le_trans (m := 1) (Nat.le_of_ble_eq_true rfl) (Nat.le_trans (Nat.le_of_ble_eq_true rfl) hRf), Nat.le_trans (m := 24) (Nat.le_of_ble_eq_true rfl) (Nat.le_trans (Nat.le_of_ble_eq_true rfl) hRl)⟩) hN hK (hP.sub (ws' := [((am 1), .inl (cI, 269, .inl (aI ((esS (upG (setA S 1 (S 0)) 0 3 ag) i) 1)))), ((am 0), .inl (cI, 269, .inl (aI ((esS (upG (setA S 1 (S 0)) 0 3 ag) i) 0))))]) [2, 1] rfl) (hD.sub (ws' := [((am 1), .inl (cI, 269, .inl (aI ((esS (upG (setA S 1 (S 0)) 0 3 ag) i) 1)))), ((am 0), .inl (cI, 269, .inl (aI ((esS (upG (setA S 1 (S 0)) 0 3 ag) i) 0))))]) [2, 1] (by decide) rfl) rfl hl.1 (Nat.le_of_ble_eq_true rfl) ⟨hRc, hRs⟩ dX3_lostBy_55) hP hD hS hA [2, 1] [0, 3, 4, 5, 6] [0, 6, 5, 1, 2, 3, 4] rfl (wr := ([0, 3, 4, 5, 6].filterMap (fun iq_ => ((wM mo am cI (esS (upG (setA S 1 (S 0)) 0 3 ag) i)))[iq_]?))) rfl (by decide) (by decide) (by decide) rfl rfl (fun H locs hP hD hS => ?_)
          have hP : va_P D vwCl (wM mo am cI (setA (esS (upG (setA S 1 (S 0)) 0 3 ag) i) 0 ((esS (upG (setA S 1 (S 0)) 0 3 ag) i) 1))) H := va_P_cell (ws := (wM mo am cI (esS (upG (setA S 1 (S 0)) 0 3 ag) i))) (q1 := 1) (a := (am 0)) (c1 := cI) (n := 269) (f := aI Cp55) (g := aI ((esS (upG (setA S 1 (S 0)) 0 3 ag) i) 1)) hP (fun j hj => by rw [hCp55]; exact cp_full0 _ _ j hj)
          have hD : va_D A (wM mo am cI (setA (esS (upG (setA S 1 (S 0)) 0 3 ag) i) 0 ((esS (upG (setA S 1 (S 0)) 0 3 ag) i) 1))) := va_D.set (p := 1) (a := (am 0)) (e := .inl (cI, 269, .inl (aI ((esS (upG (setA S 1 (S 0)) 0 3 ag) i) 1)))) hD rfl
          refine lv_iload_n hx hb dX3_lostBy_58 rfl (lv_at hl 1 rfl) ?_
          refine z_as (show (prvZ (laZ (gOf (S 0)) ag) i) = lbZ (gOf (S 0)) ag from by (exact lst_out hv (by omega))) ?_
          have eW0 : setA S 1 (S 0) = (setA (esS (upG (setA S 1 (S 0)) 0 3 ag) i) 0 ((esS (upG (setA S 1 (S 0)) 0 3 ag) i) 1)) := by (exact (es_back2 _ _ _).symm)
          rw [← eW0] at hP hD
          first | exact hret _ _ _ _ dX3_lostBy_59 hP hD hS | (exfalso; omega)
        · refine lv_aload_n hx hb dX3_lostBy_34 rfl (lv_at hl 2 rfl) ?_
          refine mw_full (st1 := [.int (iI (edL (esS (upG (setA S 1 (S 0)) 0 3 ag) i) 6))]) (mr_V (As := []) (rest := []) (ci := 3) (q0 := 0) ⟨hx, hb, hml, hown, hts⟩ (m_X3_endsDay l D mo am cI (esS (upG (setA S 1 (S 0)) 0 3 ag) i)  hIi (by omega) (by omega)) (cwV 0 hts (gV q_444 q_445 q_446 q_345 q_443) rfl rfl rfl (by decide +kernel) ⟨Nat.le_trans (m := 8) (Nat.le_of_ble_eq_true rfl) (Nat.le_trans (Nat.le_of_ble_eq_true rfl) hRf), Nat.le_trans (m := 177) (Nat.le_of_ble_eq_true rfl) (Nat.le_trans (Nat.le_of_ble_eq_true rfl) hRl)⟩) hN hK hP hD rfl rfl rfl hl.1 (Nat.le_of_ble_eq_true rfl) ⟨hRc, hRs⟩ dX3_lostBy_35) hD hS hA rfl (fun H locs hP hD hS => ?_)
          have hf_3 := edL_bd (esS (upG (setA S 1 (S 0)) 0 3 ag) i) 6
          refine lv_istore_n (lv' := [(2, .int (iI (edL (esS (upG (setA S 1 (S 0)) 0 3 ag) i) 6))), (3, .int (iI (i : Int))), (0, .ref mo), (1, .int (iI ag))]) hx hb dX3_lostBy_38 rfl hl (by decide) rfl (fun ls hl => ?_)
          refine lv_iinc (v := iI ((i : Int) + 1)) (lv' := [(3, .int (iI ((i : Int) + 1))), (2, .int (iI (edL (esS (upG (setA S 1 (S 0)) 0 3 ag) i) 6))), (0, .ref mo), (1, .int (iI ag))]) hx hb dX3_lostBy_39 hl (k := 1) rfl (iI_add _ _) (by decide) rfl (fun ls hl => ?_)
          refine lv_goto (tgt := 24) hx hb dX3_lostBy_42 (by decide) ?_
          have e1_0 : (((i + 1 : Nat) : Int)) = ((i : Int) + 1) := by first | omega | exact (hel (by omega)).symm
          have e1_1 : ((prvZ (laZ (gOf (S 0)) ag) (i + 1))) = edL (esS (upG (setA S 1 (S 0)) 0 3 ag) i) 6 := by first | omega | exact (hel (by omega)).symm
          have eG0 : (esS (upG (setA S 1 (S 0)) 0 3 ag) (i + 1)) = (edS (esS (upG (setA S 1 (S 0)) 0 3 ag) i) 6) := by rfl
          rw [← eG0] at hP hD
          exact ih24 (i + 1) (by omega) (by omega) (lst_next hv (by omega) (by omega)) _ _ _ hP hD hS (lv_to (lv_sub (l' := [(3, .int (iI ((i : Int) + 1))), (2, .int (iI (edL (esS (upG (setA S 1 (S 0)) 0 3 ag) i) 6))), (0, .ref mo), (1, .int (iI ag))]) hl [0, 1, 2, 3] rfl) (by simp only [e1_0, e1_1]))
  have e0_0 : (((0 : Nat) : Int)) = 0 := by first | rfl | omega
  have e0_1 : ((prvZ (laZ (gOf (S 0)) ag) (0))) = 0 := by first | rfl | omega
  exact LP24 (60 + 1) 0 (by omega) (by omega) (lst_init _ 60) _ _ _ hP hD hS (lv_to (lv_sub (l' := [(3, .int (iI 0)), (2, .int (iI 0)), (0, .ref mo), (1, .int (iI ag))]) hl [0, 1, 2, 3] rfl) (by simp only [e0_0, e0_1]))
set_option maxHeartbeats 4000000 in
set_option maxRecDepth 100000 in
theorem m_X3_safeAge (l : Launch) (D : va_G) (mo : Nat) (am : Nat → Nat) (cI : ClassId) (S : Nat → Int → Int) {B : Int} (hI : InvG B (gOf (S 0))) (hB : B + 360 ≤ 100000000) (hd : (gOf (S 0)) 12 0 ≤ 9999)  : MW l D yX3_safeAge (wsY yX3_safeAge cX3_safeAge 2 (some .int)) { frames := 9, cells := 0, slots := 0, locals := 200 } [(cI, .int)] [.ref mo] (wM mo am cI S) (wM mo am cI (setA S 1 (S 0))) (some (.int (iI (sagZ (gOf (S 0)) 60 0)))) := by
  refine mw_ofI (cc := cX3_safeAge) (maxL := 2) (by decide) rfl (Nat.le_of_ble_eq_true rfl) ?_
  intro p e s m below meth c R A Q args ls hx hb hml hown hts hRf hRl hRc hRs hN hK hP hD hS hA hret hl
  have hq : ∀ w ∈ ALL, w.before args s = true := fun w h => hts w (List.mem_cons_of_mem _ h)
  have hl : lv_has ls 2 [(0, .ref mo)] := hl
  refine z_bipush hx hb dX3_safeAge_0 (by decide +kernel) ?_
  refine lv_istore_n (lv' := [(1, .int (iI 60)), (0, .ref mo)]) hx hb dX3_safeAge_2 rfl hl (by decide) rfl (fun ls hl => ?_)
  have LP3 : ∀ (fu i : Nat), i ≤ 60 → 60 < fu + i → sagZ (gOf (S 0)) 60 0 = sagZ (gOf (S 0)) (60 - i) i → ∀ (H : Heap) (locs : List Loc) (ls : Array Slot), va_P D vwCl (wM mo am cI (sfS S i)) H → va_D A (wM mo am cI (sfS S i)) → va_S A s.heap H locs → lv_has ls 2 [(1, .int (iI (60 - (i : Int)))), (0, .ref mo)] → W p l e R s m args below meth c H locs 0 0 Q (F0 m 3 ls []) := by
    intro fu
    induction fu with
    | zero => intro i h1 h2; omega
    | succ fu ih3 =>
      intro i hi1 hif hv H locs ls hP hD hS hl
      have hIi := inv_sf hI i
      have hqi : gOf (sfS S i 0) = gOf (S 0) := by rw [sf_0]
      have hdi : gOf (sfS S i 0) 12 0 = gOf (S 0) 12 0 := by rw [hqi]
      have hli : lbZ (gOf (sfS S i 0)) (60 - (i : Int)) = lbZ (gOf (S 0)) (60 - (i : Int)) := by rw [hqi]
      refine lv_iload_n hx hb dX3_safeAge_3 rfl (lv_at hl 0 rfl) ?_
      refine z_if_le (tgt := 21) hx hb dX3_safeAge_4 (by decide) (by omega) (fun c_1 => ?_) (fun c_1 => ?_)
      · refine lv_iload_n hx hb dX3_safeAge_21 rfl (lv_at hl 0 rfl) ?_
        refine z_if_ne (tgt := 30) hx hb dX3_safeAge_22 (by decide) (by omega) (fun c_2 => ?_) (fun c_2 => ?_)
        · refine lv_iload_n hx hb dX3_safeAge_30 rfl (lv_at hl 0 rfl) ?_
          refine z_as (show (60 - (i : Int)) = sagZ (gOf (S 0)) 60 0 from by first | (exfalso; omega) | (rw [hv]; exact (sag_end (by omega)).symm) | (rw [hv]; exact (sag_hit (by omega) (by omega)).symm)) ?_
          have eW0 : setA S 1 (S 0) = (sfS S i) := by first | (exact (sf_pos S i (by omega)).symm) | (exact (sf_succ S i).symm)
          rw [← eW0] at hP hD
          first | exact hret _ _ _ _ dX3_safeAge_31 hP hD hS | (exfalso; omega)
        · refine z_ldc hx hb (-1000004) (by decide +kernel) hown (hq _ q_511) dX3_safeAge_25 ?_
          refine lv_goto (tgt := 31) hx hb dX3_safeAge_27 (by decide) ?_
          refine z_as (show (-1000004) = sagZ (gOf (S 0)) 60 0 from by first | (exfalso; omega) | (rw [hv]; exact (sag_end (by omega)).symm) | (rw [hv]; exact (sag_hit (by omega) (by omega)).symm)) ?_
          have eW0 : setA S 1 (S 0) = (sfS S i) := by first | (exact (sf_pos S i (by omega)).symm) | (exact (sf_succ S i).symm)
          rw [← eW0] at hP hD
          first | exact hret _ _ _ _ dX3_safeAge_31 hP hD hS | (exfalso; omega)
      · refine lv_aload_n hx hb dX3_safeAge_7 rfl (lv_at hl 1 rfl) ?_
        refine lv_iload_n hx hb dX3_safeAge_8 rfl (lv_at hl 0 rfl) ?_
        refine mw_full (st1 := [.int (iI (lbZ (gOf ((sfS S i) 0)) (60 - (i : Int))))]) (mr_V (As := [.int (iI (60 - (i : Int)))]) (rest := []) (ci := 3) (q0 := 0) ⟨hx, hb, hml, hown, hts⟩ (m_X3_lostBy l D mo am cI (sfS S i) (60 - (i : Int)) hIi (by omega) hB (by omega)) (cwV 1 hts (gV q_515 q_516 q_517 q_345 q_514) rfl rfl rfl (by decide +kernel) ⟨Nat.le_trans (m := 9) (Nat.le_of_ble_eq_true rfl) (Nat.le_trans (Nat.le_of_ble_eq_true rfl) hRf), Nat.le_trans (m := 200) (Nat.le_of_ble_eq_true rfl) (Nat.le_trans (Nat.le_of_ble_eq_true rfl) hRl)⟩) hN hK hP hD rfl rfl rfl hl.1 (Nat.le_of_ble_eq_true rfl) ⟨hRc, hRs⟩ dX3_safeAge_9) hD hS hA rfl (fun H locs hP hD hS => ?_)
        have hf_3 := lb_bd (gOf ((sfS S i) 0)) (60 - (i : Int))
        refine z_if_le (tgt := 21) hx hb dX3_safeAge_12 (by decide) (by omega) (fun c_4 => ?_) (fun c_4 => ?_)
        · refine lv_iload_n hx hb dX3_safeAge_21 rfl (lv_at hl 0 rfl) ?_
          refine z_if_ne (tgt := 30) hx hb dX3_safeAge_22 (by decide) (by omega) (fun c_5 => ?_) (fun c_5 => ?_)
          · refine lv_iload_n hx hb dX3_safeAge_30 rfl (lv_at hl 0 rfl) ?_
            refine z_as (show (60 - (i : Int)) = sagZ (gOf (S 0)) 60 0 from by first | (exfalso; omega) | (rw [hv]; exact (sag_end (by omega)).symm) | (rw [hv]; exact (sag_hit (by omega) (by omega)).symm)) ?_
            have eW0 : setA S 1 (S 0) = (setA (sfS S i) 1 ((sfS S i) 0)) := by first | (exact (sf_pos S i (by omega)).symm) | (exact (sf_succ S i).symm)
            rw [← eW0] at hP hD
            first | exact hret _ _ _ _ dX3_safeAge_31 hP hD hS | (exfalso; omega)
          · refine z_ldc hx hb (-1000004) (by decide +kernel) hown (hq _ q_511) dX3_safeAge_25 ?_
            refine lv_goto (tgt := 31) hx hb dX3_safeAge_27 (by decide) ?_
            refine z_as (show (-1000004) = sagZ (gOf (S 0)) 60 0 from by first | (exfalso; omega) | (rw [hv]; exact (sag_end (by omega)).symm) | (rw [hv]; exact (sag_hit (by omega) (by omega)).symm)) ?_
            have eW0 : setA S 1 (S 0) = (setA (sfS S i) 1 ((sfS S i) 0)) := by first | (exact (sf_pos S i (by omega)).symm) | (exact (sf_succ S i).symm)
            rw [← eW0] at hP hD
            first | exact hret _ _ _ _ dX3_safeAge_31 hP hD hS | (exfalso; omega)
        · refine lv_iinc (v := iI ((60 - (i : Int)) + (-1))) (lv' := [(1, .int (iI ((60 - (i : Int)) + (-1)))), (0, .ref mo)]) hx hb dX3_safeAge_15 hl (k := 0) rfl (iI_add _ _) (by decide) rfl (fun ls hl => ?_)
          refine lv_goto (tgt := 3) hx hb dX3_safeAge_18 (by decide) ?_
          have e1_0 : ((60 - ((i + 1 : Nat) : Int))) = ((60 - (i : Int)) + (-1)) := by first | rfl | omega
          have eG0 : (sfS S (i + 1)) = (setA (sfS S i) 1 ((sfS S i) 0)) := by rfl
          rw [← eG0] at hP hD
          exact ih3 (i + 1) (by omega) (by omega) (sag_next hv (by omega) (by omega)) _ _ _ hP hD hS (lv_to (lv_sub (l' := [(1, .int (iI ((60 - (i : Int)) + (-1)))), (0, .ref mo)]) hl [0, 1] rfl) (by simp only [e1_0]))
  have e0_0 : ((60 - ((0 : Nat) : Int))) = 60 := by first | rfl | omega
  exact LP3 (60 + 1) 0 (by omega) (by omega) rfl _ _ _ hP hD hS (lv_to (lv_sub (l' := [(1, .int (iI 60)), (0, .ref mo)]) hl [0, 1] rfl) (by simp only [e0_0]))
