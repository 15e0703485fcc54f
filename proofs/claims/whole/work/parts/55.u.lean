set_option maxHeartbeats 4000000 in
set_option maxRecDepth 100000 in
theorem m_X3_fault (l : Launch) (D : va_G) (mo : Nat) (am : Nat → Nat) (cI : ClassId) (S : Nat → Int → Int) (w : Int) {B : Int} (hI : InvG B (gOf (S 0))) (hT : InvS S) (hK9 : InvK S) (hB : B + 35640 ≤ 100000000) (h1 : 0 ≤ w ∧ w ≤ 2)  : MW l D yX3_fault (wsY yX3_fault cX3_fault 3 (some .int)) { frames := 11, cells := 0, slots := 0, locals := 243 } [(cI, .int)] [.ref mo, .int (iI w)] (wM mo am cI S) (wM mo am cI (faS S)) (some (.int (iI (faV S w)))) := by
  refine mw_ofI (cc := cX3_fault) (maxL := 3) (by decide) rfl (Nat.le_of_ble_eq_true rfl) ?_
  intro p e s m below meth c R A Q args ls hx hb hml hown hts hRf hRl hRc hRs hN hK hP hD hS hA hret hl
  have hq : ∀ w ∈ ALL, w.before args s = true := fun w h => hts w (List.mem_cons_of_mem _ h)
  have hl : lv_has ls 3 [(0, .ref mo), (1, .int (iI w))] := hl
  refine lv_iload_n hx hb dX3_fault_0 rfl (lv_at hl 1 rfl) ?_
  refine z_iconst hx hb dX3_fault_1 ?_
  refine z_iconst hx hb dX3_fault_2 ?_
  refine mw_none (st1 := [.int (iI (if 0 ≤ w ∧ w ≤ 2 then 1 else 0 : Int))]) (mr_S (As := [.int (iI w), .int (iI 0), .int (iI 2)]) (rest := []) ⟨hx, hb, hml, hown, hts⟩ (m_X3_in l D w 0 2 (by omega) (by omega) (by omega)) (va_cwS 3 hts (gS q_380 q_381 q_345 q_374) rfl rfl rfl (by decide +kernel) ⟨Nat.le_trans (m := 1) (Nat.le_of_ble_eq_true rfl) (Nat.le_trans (Nat.le_of_ble_eq_true rfl) hRf), Nat.le_trans (m := 22) (Nat.le_of_ble_eq_true rfl) (Nat.le_trans (Nat.le_of_ble_eq_true rfl) hRl)⟩) hN (hK.sub (tys' := []) [] rfl) (va_P0 _ _ _) (va_D0 A) rfl hl.1 (Nat.le_of_ble_eq_true rfl) ⟨hRc, hRs⟩ dX3_fault_3) hP hS hA rfl (fun H locs hP hS => ?_)
  refine z_if_ne (tgt := 12) hx hb dX3_fault_6 (by decide) (by omega) (fun c_1 => ?_) (fun c_1 => absurd c_1 (by omega))
  refine lv_aload_n hx hb dX3_fault_12 rfl (lv_at hl 0 rfl) ?_
  refine va_get (D := D) (ci := 3) (v := .ref (am 0)) (C := RX3) (T := TX3) (N := 14) hx hb hq inA3 hown hK hP 0 rfl rfl 0 (by decide) (hq _ q_338) (fun _ h9 => h9) rfl dX3_fault_13 ?_
  refine z_iconst hx hb dX3_fault_16 ?_
  refine lv_aload_n hx hb dX3_fault_17 rfl (lv_at hl 0 rfl) ?_
  refine va_get (D := D) (ci := 3) (v := .ref (am 2)) (C := RX3) (T := TX3) (N := 14) hx hb hq inA3 hown hK hP 0 rfl rfl 2 (by decide) (hq _ q_363) (fun _ h9 => h9) rfl dX3_fault_18 ?_
  refine z_iconst hx hb dX3_fault_21 ?_
  obtain ⟨Cp22, hCp22⟩ : ∃ C : Int → Int, C = (cpZ (S 0) (S 2) 0 0 269) := ⟨_, rfl⟩
  have mCp22 := (m_X3_copies l D (am 0) (am 2) cI 269 269 (S 0) (S 2) 0 0 (by omega) (by omega) (by omega))
  rw [← hCp22] at mCp22
  refine mw_part (st1 := []) (w1 := (wM mo am cI (setA S 2 Cp22))) (mr_S (As := [.ref (am 0), .int (iI 0), .ref (am 2), .int (iI 0)]) (rest := []) ⟨hx, hb, hml, hown, hts⟩ mCp22 (va_cwS 4 hts (gS q_377 q_378 q_345 q_375) rfl rfl rfl (by decide +kernel) ⟨Nat.le_trans (m := 1) (Nat.le_of_ble_eq_true rfl) (Nat.le_trans (Nat.le_of_ble_eq_true rfl) hRf), Nat.le_trans (m := 24) (Nat.le_of_ble_eq_true rfl) (Nat.le_trans (Nat.le_of_ble_eq_true rfl) hRl)⟩) hN hK (hP.sub (ws' := [((am 0), .inl (cI, 269, .inl (aI (S 0)))), ((am 2), .inl (cI, 269, .inl (aI (S 2))))]) [1, 3] rfl) (hD.sub (ws' := [((am 0), .inl (cI, 269, .inl (aI (S 0)))), ((am 2), .inl (cI, 269, .inl (aI (S 2))))]) [1, 3] (by decide) rfl) rfl hl.1 (Nat.le_of_ble_eq_true rfl) ⟨hRc, hRs⟩ dX3_fault_22) hP hD hS hA [1, 3] [0, 2, 4, 5, 6] [0, 5, 1, 6, 2, 3, 4] rfl (wr := ([0, 2, 4, 5, 6].filterMap (fun iq_ => ((wM mo am cI S))[iq_]?))) rfl (by decide) (by decide) (by decide) rfl rfl (fun H locs hP hD hS => ?_)
  have hP : va_P D vwCl (wM mo am cI (setA S 2 (S 0))) H := va_P_cell (ws := (wM mo am cI S)) (q1 := 3) (a := (am 2)) (c1 := cI) (n := 269) (f := aI Cp22) (g := aI (S 0)) hP (fun j hj => by rw [hCp22]; exact cp_full0 _ _ j hj)
  have hD : va_D A (wM mo am cI (setA S 2 (S 0))) := va_D.set (p := 3) (a := (am 2)) (e := .inl (cI, 269, .inl (aI (S 0)))) hD rfl
  refine lv_aload_n hx hb dX3_fault_25 rfl (lv_at hl 0 rfl) ?_
  refine mw_full (st1 := [.int (iI (daC (upG (upG (setA S 2 (S 0)) 12 0 0) 7 0 0) 60))]) (mr_V (As := []) (rest := []) (ci := 3) (q0 := 0) ⟨hx, hb, hml, hown, hts⟩ (m_X3_doesAll l D mo am cI (setA S 2 (S 0))  hI hT hK9 hB) (cwV 0 hts (gV q_594 q_595 q_596 q_345 q_593) rfl rfl rfl (by decide +kernel) ⟨Nat.le_trans (m := 11) (Nat.le_of_ble_eq_true rfl) (Nat.le_trans (Nat.le_of_ble_eq_true rfl) hRf), Nat.le_trans (m := 243) (Nat.le_of_ble_eq_true rfl) (Nat.le_trans (Nat.le_of_ble_eq_true rfl) hRl)⟩) hN hK hP hD rfl rfl rfl hl.1 (Nat.le_of_ble_eq_true rfl) ⟨hRc, hRs⟩ dX3_fault_26) hD hS hA rfl (fun H locs hP hD hS => ?_)
  obtain ⟨Z_2, hZ_2⟩ : ∃ X : Nat → Int → Int, X = (daI (upG (upG (setA S 2 (S 0)) 12 0 0) 7 0 0) 60) := ⟨_, rfl⟩
  rw [← hZ_2] at hP hD
  have hZf : Z_2 = faT S := hZ_2
  obtain ⟨hFT, hFK, hFb⟩ := fa_inv hI hT hK9 hB
  rw [← hZf] at hFT hFK hFb
  have hF4 : Z_2 4 0 = S 4 0 := by rw [hZf]; exact congrFun (fa_k S 4 (by decide) (by decide) (by decide) (by decide) (by decide) (by decide) (by decide) (by decide) (by decide)) 0
  refine lv_istore_n (lv' := [(2, .int (iI (daC (upG (upG (setA S 2 (S 0)) 12 0 0) 7 0 0) 60))), (0, .ref mo), (1, .int (iI w))]) hx hb dX3_fault_29 rfl hl (by decide) rfl (fun ls hl => ?_)
  refine lv_aload_n hx hb dX3_fault_30 rfl (lv_at hl 1 rfl) ?_
  refine va_get (D := D) (ci := 3) (v := .ref (am 2)) (C := RX3) (T := TX3) (N := 14) hx hb hq inA3 hown hK hP 0 rfl rfl 2 (by decide) (hq _ q_363) (fun _ h9 => h9) rfl dX3_fault_31 ?_
  refine z_iconst hx hb dX3_fault_34 ?_
  refine lv_aload_n hx hb dX3_fault_35 rfl (lv_at hl 1 rfl) ?_
  refine va_get (D := D) (ci := 3) (v := .ref (am 0)) (C := RX3) (T := TX3) (N := 14) hx hb hq inA3 hown hK hP 0 rfl rfl 0 (by decide) (hq _ q_338) (fun _ h9 => h9) rfl dX3_fault_36 ?_
  refine z_iconst hx hb dX3_fault_39 ?_
  obtain ⟨Cp40, hCp40⟩ : ∃ C : Int → Int, C = (cpZ (Z_2 2) (Z_2 0) 0 0 269) := ⟨_, rfl⟩
  have mCp40 := (m_X3_copies l D (am 2) (am 0) cI 269 269 (Z_2 2) (Z_2 0) 0 0 (by omega) (by omega) (by omega))
  rw [← hCp40] at mCp40
  refine mw_part (st1 := []) (w1 := (wM mo am cI (setA Z_2 0 Cp40))) (mr_S (As := [.ref (am 2), .int (iI 0), .ref (am 0), .int (iI 0)]) (rest := []) ⟨hx, hb, hml, hown, hts⟩ mCp40 (va_cwS 4 hts (gS q_377 q_378 q_345 q_375) rfl rfl rfl (by decide +kernel) ⟨Nat.le_trans (m := 1) (Nat.le_of_ble_eq_true rfl) (Nat.le_trans (Nat.le_of_ble_eq_true rfl) hRf), Nat.le_trans (m := 24) (Nat.le_of_ble_eq_true rfl) (Nat.le_trans (Nat.le_of_ble_eq_true rfl) hRl)⟩) hN hK (hP.sub (ws' := [((am 2), .inl (cI, 269, .inl (aI (Z_2 2)))), ((am 0), .inl (cI, 269, .inl (aI (Z_2 0))))]) [3, 1] rfl) (hD.sub (ws' := [((am 2), .inl (cI, 269, .inl (aI (Z_2 2)))), ((am 0), .inl (cI, 269, .inl (aI (Z_2 0))))]) [3, 1] (by decide) rfl) rfl hl.1 (Nat.le_of_ble_eq_true rfl) ⟨hRc, hRs⟩ dX3_fault_40) hP hD hS hA [3, 1] [0, 2, 4, 5, 6] [0, 6, 1, 5, 2, 3, 4] rfl (wr := ([0, 2, 4, 5, 6].filterMap (fun iq_ => ((wM mo am cI Z_2))[iq_]?))) rfl (by decide) (by decide) (by decide) rfl rfl (fun H locs hP hD hS => ?_)
  have hP : va_P D vwCl (wM mo am cI (setA Z_2 0 (Z_2 2))) H := va_P_cell (ws := (wM mo am cI Z_2)) (q1 := 1) (a := (am 0)) (c1 := cI) (n := 269) (f := aI Cp40) (g := aI (Z_2 2)) hP (fun j hj => by rw [hCp40]; exact cp_full0 _ _ j hj)
  have hD : va_D A (wM mo am cI (setA Z_2 0 (Z_2 2))) := va_D.set (p := 1) (a := (am 0)) (e := .inl (cI, 269, .inl (aI (Z_2 2)))) hD rfl
  refine lv_aload_n hx hb dX3_fault_43 rfl (lv_at hl 1 rfl) ?_
  refine va_get (D := D) (ci := 3) (v := .int (iI (Z_2 12 0))) (C := RX3) (T := TX3) (N := 14) hx hb hq inA3 hown hK hP 0 rfl rfl 12 (by decide) (hq _ q_582) (fun _ h9 => h9) rfl dX3_fault_44 ?_
  refine z_if_ne (tgt := 55) hx hb dX3_fault_47 (by decide) (by omega) (fun c_7 => ?_) (fun c_7 => ?_)
  · refine lv_iload_n hx hb dX3_fault_55 rfl (lv_at hl 2 rfl) ?_
    refine z_if_ne (tgt := 66) hx hb dX3_fault_56 (by decide) (by omega) (fun c_8 => ?_) (fun c_8 => ?_)
    · refine lv_iload_n hx hb dX3_fault_66 rfl (lv_at hl 2 rfl) ?_
      refine z_iconst hx hb dX3_fault_67 ?_
      refine z_icmp_ne (tgt := 78) hx hb dX3_fault_68 (by decide) (by omega) (by omega) (fun c_9 => ?_) (fun c_9 => ?_)
      · refine lv_aload_n hx hb dX3_fault_78 rfl (lv_at hl 1 rfl) ?_
        refine va_get (D := D) (ci := 3) (v := .int (iI (Z_2 13 0))) (C := RX3) (T := TX3) (N := 14) hx hb hq inA3 hown hK hP 0 rfl rfl 13 (by decide) (hq _ q_583) (fun _ h9 => h9) rfl dX3_fault_79 ?_
        refine z_as (show (Z_2 13 0) = faV S w from by (unfold faV; rw [← hZf]; omega)) ?_
        have eW0 : faS S = (setA Z_2 0 (Z_2 2)) := by (unfold faS; rw [← hZf])
        rw [← eW0] at hP hD
        first | exact hret _ _ _ _ dX3_fault_82 hP hD hS | (exfalso; omega)
      · refine lv_aload_n hx hb dX3_fault_71 rfl (lv_at hl 1 rfl) ?_
        refine va_get (D := D) (ci := 3) (v := .int (iI (Z_2 12 0))) (C := RX3) (T := TX3) (N := 14) hx hb hq inA3 hown hK hP 0 rfl rfl 12 (by decide) (hq _ q_582) (fun _ h9 => h9) rfl dX3_fault_72 ?_
        refine lv_goto (tgt := 82) hx hb dX3_fault_75 (by decide) ?_
        refine z_as (show (Z_2 12 0) = faV S w from by (unfold faV; rw [← hZf]; omega)) ?_
        have eW0 : faS S = (setA Z_2 0 (Z_2 2)) := by (unfold faS; rw [← hZf])
        rw [← eW0] at hP hD
        first | exact hret _ _ _ _ dX3_fault_82 hP hD hS | (exfalso; omega)
    · refine lv_aload_n hx hb dX3_fault_59 rfl (lv_at hl 1 rfl) ?_
      refine va_get (D := D) (ci := 3) (v := .int (iI (Z_2 8 0))) (C := RX3) (T := TX3) (N := 14) hx hb hq inA3 hown hK hP 0 rfl rfl 8 (by decide) (hq _ q_571) (fun _ h9 => h9) rfl dX3_fault_60 ?_
      refine lv_goto (tgt := 82) hx hb dX3_fault_63 (by decide) ?_
      refine z_as (show (Z_2 8 0) = faV S w from by (unfold faV; rw [← hZf]; omega)) ?_
      have eW0 : faS S = (setA Z_2 0 (Z_2 2)) := by (unfold faS; rw [← hZf])
      rw [← eW0] at hP hD
      first | exact hret _ _ _ _ dX3_fault_82 hP hD hS | (exfalso; omega)
  · refine z_ldc hx hb (-1000004) (by decide +kernel) hown (hq _ q_511) dX3_fault_50 ?_
    refine lv_goto (tgt := 82) hx hb dX3_fault_52 (by decide) ?_
    refine z_as (show (-1000004) = faV S w from by (unfold faV; rw [← hZf]; omega)) ?_
    have eW0 : faS S = (setA Z_2 0 (Z_2 2)) := by (unfold faS; rw [← hZf])
    rw [← eW0] at hP hD
    first | exact hret _ _ _ _ dX3_fault_82 hP hD hS | (exfalso; omega)
set_option maxHeartbeats 4000000 in
set_option maxRecDepth 100000 in
theorem m_X3_fault_bad (l : Launch) (D : va_G) (mo : Nat) (am : Nat → Nat) (cI : ClassId) (S : Nat → Int → Int) (w : Int) (h1 : -2147483648 ≤ w ∧ w < 2147483648) (hb0 : w < 0 ∨ 2 < w)  : MW l D yX3_fault (wsY yX3_fault cX3_fault 3 (some .int)) { frames := 11, cells := 0, slots := 0, locals := 243 } [(cI, .int)] [.ref mo, .int (iI w)] (wM mo am cI S) (wM mo am cI S) (some (.int (iI (-1000001)))) := by
  refine mw_ofI (cc := cX3_fault) (maxL := 3) (by decide) rfl (Nat.le_of_ble_eq_true rfl) ?_
  intro p e s m below meth c R A Q args ls hx hb hml hown hts hRf hRl hRc hRs hN hK hP hD hS hA hret hl
  have hq : ∀ w ∈ ALL, w.before args s = true := fun w h => hts w (List.mem_cons_of_mem _ h)
  have hl : lv_has ls 3 [(0, .ref mo), (1, .int (iI w))] := hl
  refine lv_iload_n hx hb dX3_fault_0 rfl (lv_at hl 1 rfl) ?_
  refine z_iconst hx hb dX3_fault_1 ?_
  refine z_iconst hx hb dX3_fault_2 ?_
  refine mw_none (st1 := [.int (iI (if 0 ≤ w ∧ w ≤ 2 then 1 else 0 : Int))]) (mr_S (As := [.int (iI w), .int (iI 0), .int (iI 2)]) (rest := []) ⟨hx, hb, hml, hown, hts⟩ (m_X3_in l D w 0 2 (by omega) (by omega) (by omega)) (va_cwS 3 hts (gS q_380 q_381 q_345 q_374) rfl rfl rfl (by decide +kernel) ⟨Nat.le_trans (m := 1) (Nat.le_of_ble_eq_true rfl) (Nat.le_trans (Nat.le_of_ble_eq_true rfl) hRf), Nat.le_trans (m := 22) (Nat.le_of_ble_eq_true rfl) (Nat.le_trans (Nat.le_of_ble_eq_true rfl) hRl)⟩) hN (hK.sub (tys' := []) [] rfl) (va_P0 _ _ _) (va_D0 A) rfl hl.1 (Nat.le_of_ble_eq_true rfl) ⟨hRc, hRs⟩ dX3_fault_3) hP hS hA rfl (fun H locs hP hS => ?_)
  refine z_if_ne (tgt := 12) hx hb dX3_fault_6 (by decide) (by omega) (fun c_1 => absurd c_1 (by omega)) (fun c_1 => ?_)
  refine z_ldc hx hb (-1000001) (by decide +kernel) hown (hq _ q_448) dX3_fault_9 ?_
  refine z_as (show (-1000001) = -1000001 from by first | rfl | omega) ?_
  first | exact hret _ _ _ _ dX3_fault_11 hP hD hS | (exfalso; omega)
set_option maxHeartbeats 4000000 in
set_option maxRecDepth 100000 in
theorem m_X3_play (l : Launch) (D : va_G) (mo : Nat) (am : Nat → Nat) (cI : ClassId) (S : Nat → Int → Int) {B : Int} (hI : InvG B (gOf (S 0))) (hT : InvS S) (hK9 : InvK S) (hB : B + 35640 ≤ 100000000) (hk : 0 ≤ S 4 0 ∧ S 4 0 ≤ 4)  : MW l D yX3_play (wsY yX3_play cX3_play 2 (some .int)) { frames := 11, cells := 0, slots := 0, locals := 243 } [(cI, .int)] [.ref mo] (wM mo am cI S) (wM mo am cI (plS S)) (some (.int (iI (plV S)))) := by
  refine mw_ofI (cc := cX3_play) (maxL := 2) (by decide) rfl (Nat.le_of_ble_eq_true rfl) ?_
  intro p e s m below meth c R A Q args ls hx hb hml hown hts hRf hRl hRc hRs hN hK hP hD hS hA hret hl
  have hq : ∀ w ∈ ALL, w.before args s = true := fun w h => hts w (List.mem_cons_of_mem _ h)
  have hl : lv_has ls 2 [(0, .ref mo)] := hl
  refine lv_aload_n hx hb dX3_play_0 rfl (lv_at hl 0 rfl) ?_
  refine va_get (D := D) (ci := 3) (v := .ref (am 0)) (C := RX3) (T := TX3) (N := 14) hx hb hq inA3 hown hK hP 0 rfl rfl 0 (by decide) (hq _ q_338) (fun _ h9 => h9) rfl dX3_play_1 ?_
  refine z_iconst hx hb dX3_play_4 ?_
  refine lv_aload_n hx hb dX3_play_5 rfl (lv_at hl 0 rfl) ?_
  refine va_get (D := D) (ci := 3) (v := .ref (am 2)) (C := RX3) (T := TX3) (N := 14) hx hb hq inA3 hown hK hP 0 rfl rfl 2 (by decide) (hq _ q_363) (fun _ h9 => h9) rfl dX3_play_6 ?_
  refine z_iconst hx hb dX3_play_9 ?_
  obtain ⟨Cp10, hCp10⟩ : ∃ C : Int → Int, C = (cpZ (S 0) (S 2) 0 0 269) := ⟨_, rfl⟩
  have mCp10 := (m_X3_copies l D (am 0) (am 2) cI 269 269 (S 0) (S 2) 0 0 (by omega) (by omega) (by omega))
  rw [← hCp10] at mCp10
  refine mw_part (st1 := []) (w1 := (wM mo am cI (setA S 2 Cp10))) (mr_S (As := [.ref (am 0), .int (iI 0), .ref (am 2), .int (iI 0)]) (rest := []) ⟨hx, hb, hml, hown, hts⟩ mCp10 (va_cwS 4 hts (gS q_377 q_378 q_345 q_375) rfl rfl rfl (by decide +kernel) ⟨Nat.le_trans (m := 1) (Nat.le_of_ble_eq_true rfl) (Nat.le_trans (Nat.le_of_ble_eq_true rfl) hRf), Nat.le_trans (m := 24) (Nat.le_of_ble_eq_true rfl) (Nat.le_trans (Nat.le_of_ble_eq_true rfl) hRl)⟩) hN hK (hP.sub (ws' := [((am 0), .inl (cI, 269, .inl (aI (S 0)))), ((am 2), .inl (cI, 269, .inl (aI (S 2))))]) [1, 3] rfl) (hD.sub (ws' := [((am 0), .inl (cI, 269, .inl (aI (S 0)))), ((am 2), .inl (cI, 269, .inl (aI (S 2))))]) [1, 3] (by decide) rfl) rfl hl.1 (Nat.le_of_ble_eq_true rfl) ⟨hRc, hRs⟩ dX3_play_10) hP hD hS hA [1, 3] [0, 2, 4, 5, 6] [0, 5, 1, 6, 2, 3, 4] rfl (wr := ([0, 2, 4, 5, 6].filterMap (fun iq_ => ((wM mo am cI S))[iq_]?))) rfl (by decide) (by decide) (by decide) rfl rfl (fun H locs hP hD hS => ?_)
  have hP : va_P D vwCl (wM mo am cI (setA S 2 (S 0))) H := va_P_cell (ws := (wM mo am cI S)) (q1 := 3) (a := (am 2)) (c1 := cI) (n := 269) (f := aI Cp10) (g := aI (S 0)) hP (fun j hj => by rw [hCp10]; exact cp_full0 _ _ j hj)
  have hD : va_D A (wM mo am cI (setA S 2 (S 0))) := va_D.set (p := 3) (a := (am 2)) (e := .inl (cI, 269, .inl (aI (S 0)))) hD rfl
  refine lv_aload_n hx hb dX3_play_13 rfl (lv_at hl 0 rfl) ?_
  refine mw_full (st1 := [.int (iI (daC (upG (upG (setA S 2 (S 0)) 12 0 0) 7 0 0) 60))]) (mr_V (As := []) (rest := []) (ci := 3) (q0 := 0) ⟨hx, hb, hml, hown, hts⟩ (m_X3_doesAll l D mo am cI (setA S 2 (S 0))  hI hT hK9 hB) (cwV 0 hts (gV q_594 q_595 q_596 q_345 q_593) rfl rfl rfl (by decide +kernel) ⟨Nat.le_trans (m := 11) (Nat.le_of_ble_eq_true rfl) (Nat.le_trans (Nat.le_of_ble_eq_true rfl) hRf), Nat.le_trans (m := 243) (Nat.le_of_ble_eq_true rfl) (Nat.le_trans (Nat.le_of_ble_eq_true rfl) hRl)⟩) hN hK hP hD rfl rfl rfl hl.1 (Nat.le_of_ble_eq_true rfl) ⟨hRc, hRs⟩ dX3_play_14) hD hS hA rfl (fun H locs hP hD hS => ?_)
  obtain ⟨Z_1, hZ_1⟩ : ∃ X : Nat → Int → Int, X = (daI (upG (upG (setA S 2 (S 0)) 12 0 0) 7 0 0) 60) := ⟨_, rfl⟩
  rw [← hZ_1] at hP hD
  have hZf : Z_1 = faT S := hZ_1
  obtain ⟨hFT, hFK, hFb⟩ := fa_inv hI hT hK9 hB
  rw [← hZf] at hFT hFK hFb
  have hF4 : Z_1 4 0 = S 4 0 := by rw [hZf]; exact congrFun (fa_k S 4 (by decide) (by decide) (by decide) (by decide) (by decide) (by decide) (by decide) (by decide) (by decide)) 0
  refine lv_istore_n (lv' := [(1, .int (iI (daC (upG (upG (setA S 2 (S 0)) 12 0 0) 7 0 0) 60))), (0, .ref mo)]) hx hb dX3_play_17 rfl hl (by decide) rfl (fun ls hl => ?_)
  refine lv_aload_n hx hb dX3_play_18 rfl (lv_at hl 1 rfl) ?_
  refine va_get (D := D) (ci := 3) (v := .ref (am 2)) (C := RX3) (T := TX3) (N := 14) hx hb hq inA3 hown hK hP 0 rfl rfl 2 (by decide) (hq _ q_363) (fun _ h9 => h9) rfl dX3_play_19 ?_
  refine z_iconst hx hb dX3_play_22 ?_
  refine lv_aload_n hx hb dX3_play_23 rfl (lv_at hl 1 rfl) ?_
  refine va_get (D := D) (ci := 3) (v := .ref (am 0)) (C := RX3) (T := TX3) (N := 14) hx hb hq inA3 hown hK hP 0 rfl rfl 0 (by decide) (hq _ q_338) (fun _ h9 => h9) rfl dX3_play_24 ?_
  refine z_iconst hx hb dX3_play_27 ?_
  obtain ⟨Cp28, hCp28⟩ : ∃ C : Int → Int, C = (cpZ (Z_1 2) (Z_1 0) 0 0 269) := ⟨_, rfl⟩
  have mCp28 := (m_X3_copies l D (am 2) (am 0) cI 269 269 (Z_1 2) (Z_1 0) 0 0 (by omega) (by omega) (by omega))
  rw [← hCp28] at mCp28
  refine mw_part (st1 := []) (w1 := (wM mo am cI (setA Z_1 0 Cp28))) (mr_S (As := [.ref (am 2), .int (iI 0), .ref (am 0), .int (iI 0)]) (rest := []) ⟨hx, hb, hml, hown, hts⟩ mCp28 (va_cwS 4 hts (gS q_377 q_378 q_345 q_375) rfl rfl rfl (by decide +kernel) ⟨Nat.le_trans (m := 1) (Nat.le_of_ble_eq_true rfl) (Nat.le_trans (Nat.le_of_ble_eq_true rfl) hRf), Nat.le_trans (m := 24) (Nat.le_of_ble_eq_true rfl) (Nat.le_trans (Nat.le_of_ble_eq_true rfl) hRl)⟩) hN hK (hP.sub (ws' := [((am 2), .inl (cI, 269, .inl (aI (Z_1 2)))), ((am 0), .inl (cI, 269, .inl (aI (Z_1 0))))]) [3, 1] rfl) (hD.sub (ws' := [((am 2), .inl (cI, 269, .inl (aI (Z_1 2)))), ((am 0), .inl (cI, 269, .inl (aI (Z_1 0))))]) [3, 1] (by decide) rfl) rfl hl.1 (Nat.le_of_ble_eq_true rfl) ⟨hRc, hRs⟩ dX3_play_28) hP hD hS hA [3, 1] [0, 2, 4, 5, 6] [0, 6, 1, 5, 2, 3, 4] rfl (wr := ([0, 2, 4, 5, 6].filterMap (fun iq_ => ((wM mo am cI Z_1))[iq_]?))) rfl (by decide) (by decide) (by decide) rfl rfl (fun H locs hP hD hS => ?_)
  have hP : va_P D vwCl (wM mo am cI (setA Z_1 0 (Z_1 2))) H := va_P_cell (ws := (wM mo am cI Z_1)) (q1 := 1) (a := (am 0)) (c1 := cI) (n := 269) (f := aI Cp28) (g := aI (Z_1 2)) hP (fun j hj => by rw [hCp28]; exact cp_full0 _ _ j hj)
  have hD : va_D A (wM mo am cI (setA Z_1 0 (Z_1 2))) := va_D.set (p := 1) (a := (am 0)) (e := .inl (cI, 269, .inl (aI (Z_1 2)))) hD rfl
  refine lv_aload_n hx hb dX3_play_31 rfl (lv_at hl 1 rfl) ?_
  refine va_get (D := D) (ci := 3) (v := .int (iI (Z_1 12 0))) (C := RX3) (T := TX3) (N := 14) hx hb hq inA3 hown hK hP 0 rfl rfl 12 (by decide) (hq _ q_582) (fun _ h9 => h9) rfl dX3_play_32 ?_
  refine z_if_le (tgt := 41) hx hb dX3_play_35 (by decide) (by omega) (fun c_6 => ?_) (fun c_6 => ?_)
  · refine lv_aload_n hx hb dX3_play_41 rfl (lv_at hl 1 rfl) ?_
    refine mw_full (st1 := []) (mr_V (As := []) (rest := []) (ci := 3) (q0 := 0) ⟨hx, hb, hml, hown, hts⟩ (m_X3_records_all l D mo am cI (setA Z_1 0 (Z_1 2))  (show 0 ≤ (Z_1 4 0) ∧ (Z_1 4 0) ≤ 4 by omega)) (cwV 0 hts (gV q_463 q_464 q_465 q_345 q_379) rfl rfl rfl (by decide +kernel) ⟨Nat.le_trans (m := 2) (Nat.le_of_ble_eq_true rfl) (Nat.le_trans (Nat.le_of_ble_eq_true rfl) hRf), Nat.le_trans (m := 45) (Nat.le_of_ble_eq_true rfl) (Nat.le_trans (Nat.le_of_ble_eq_true rfl) hRl)⟩) hN hK hP hD rfl rfl rfl hl.1 (Nat.le_of_ble_eq_true rfl) ⟨hRc, hRs⟩ dX3_play_42) hD hS hA rfl (fun H locs hP hD hS => ?_)
    refine lv_aload_n hx hb dX3_play_45 rfl (lv_at hl 1 rfl) ?_
    refine mw_full (st1 := [.int (iI (daC (upG (upG (recS (setA Z_1 0 (Z_1 2))) 12 0 0) 7 0 0) 60))]) (mr_V (As := []) (rest := []) (ci := 3) (q0 := 0) ⟨hx, hb, hml, hown, hts⟩ (m_X3_doesAll l D mo am cI (recS (setA Z_1 0 (Z_1 2)))  (fr_inv hZf hI) (fr_S hFT) (fr_K hFK) hB) (cwV 0 hts (gV q_594 q_595 q_596 q_345 q_593) rfl rfl rfl (by decide +kernel) ⟨Nat.le_trans (m := 11) (Nat.le_of_ble_eq_true rfl) (Nat.le_trans (Nat.le_of_ble_eq_true rfl) hRf), Nat.le_trans (m := 243) (Nat.le_of_ble_eq_true rfl) (Nat.le_trans (Nat.le_of_ble_eq_true rfl) hRl)⟩) hN hK hP hD rfl rfl rfl hl.1 (Nat.le_of_ble_eq_true rfl) ⟨hRc, hRs⟩ dX3_play_46) hD hS hA rfl (fun H locs hP hD hS => ?_)
    obtain ⟨Z_7, hZ_7⟩ : ∃ X : Nat → Int → Int, X = (daI (upG (upG (recS (setA Z_1 0 (Z_1 2))) 12 0 0) 7 0 0) 60) := ⟨_, rfl⟩
    rw [← hZ_7] at hP hD
    have hZp : daI (goX (recS (faS S))) 60 = Z_7 := by rw [hZ_7]; unfold faS; rw [← hZf]; rfl
    refine lv_istore_n (lv' := [(1, .int (iI (daC (upG (upG (recS (setA Z_1 0 (Z_1 2))) 12 0 0) 7 0 0) 60))), (0, .ref mo)]) hx hb dX3_play_49 rfl hl (by decide) rfl (fun ls hl => ?_)
    refine lv_iload_n hx hb dX3_play_50 rfl (lv_at hl 0 rfl) ?_
    refine z_as (show daC (upG (upG (recS (setA Z_1 0 (Z_1 2))) 12 0 0) 7 0 0) 60 = plV S from by first | (unfold plV; rw [← hZf, if_pos (by omega)]; unfold faS; rw [← hZf]; rfl) | (unfold plV; rw [← hZf, if_neg (by omega)])) ?_
    have eW0 : plS S = Z_7 := by first | (unfold plS; rw [← hZf, if_pos (by omega)]; exact hZp) | (unfold plS; rw [← hZf, if_neg (by omega)]; unfold faS; rw [← hZf])
    rw [← eW0] at hP hD
    first | exact hret _ _ _ _ dX3_play_51 hP hD hS | (exfalso; omega)
  · refine z_ldc hx hb (-1000002) (by decide +kernel) hown (hq _ q_454) dX3_play_38 ?_
    refine z_as (show (-1000002) = plV S from by first | (unfold plV; rw [← hZf, if_pos (by omega)]; unfold faS; rw [← hZf]; rfl) | (unfold plV; rw [← hZf, if_neg (by omega)])) ?_
    have eW0 : plS S = (setA Z_1 0 (Z_1 2)) := by first | (unfold plS; rw [← hZf, if_pos (by omega)]; exact hZp) | (unfold plS; rw [← hZf, if_neg (by omega)]; unfold faS; rw [← hZf])
    rw [← eW0] at hP hD
    first | exact hret _ _ _ _ dX3_play_40 hP hD hS | (exfalso; omega)
