set_option maxHeartbeats 4000000 in
set_option maxRecDepth 100000 in
theorem m_X3_wrongIn (l : Launch) (D : va_G) (mo : Nat) (am : Nat → Nat) (cI : ClassId) (S : Nat → Int → Int) (r : Int) {B : Int} (hI : InvG B (gOf (S 0))) (h1 : 0 ≤ r ∧ r < 6) (hB : B + 1806 ≤ 100000000) (hd : (gOf (S 0)) 12 0 ≤ 9999)  : MW l D yX3_wrongIn (wsY yX3_wrongIn cX3_wrongIn 4 (some .int)) { frames := 8, cells := 0, slots := 0, locals := 177 } [(cI, .int)] [.ref mo, .int (iI r)] (wM mo am cI S) (wM mo am cI (setA S 1 (S 0))) (some (.int (iI (fstZ (fun i : Nat => wrongZ (daysStZ (gOf (S 0)) i) r) 301 0)))) := by
  refine mw_ofI (cc := cX3_wrongIn) (maxL := 4) (by decide) rfl (Nat.le_of_ble_eq_true rfl) ?_
  intro p e s m below meth c R A Q args ls hx hb hml hown hts hRf hRl hRc hRs hN hK hP hD hS hA hret hl
  have hq : ∀ w ∈ ALL, w.before args s = true := fun w h => hts w (List.mem_cons_of_mem _ h)
  have hl : lv_has ls 4 [(0, .ref mo), (1, .int (iI r))] := hl
  refine lv_iload_n hx hb dX3_wrongIn_0 rfl (lv_at hl 1 rfl) ?_
  refine mw_none (st1 := [.int (iI (if 0 ≤ r ∧ r ≤ 5 then 1 else 0 : Int))]) (mr_S (As := [.int (iI r)]) (rest := []) ⟨hx, hb, hml, hown, hts⟩ (m_X3_isRow l D r (by omega)) (va_cwS 1 hts (gS q_388 q_389 q_345 q_382) rfl rfl rfl (by decide +kernel) ⟨Nat.le_trans (m := 2) (Nat.le_of_ble_eq_true rfl) (Nat.le_trans (Nat.le_of_ble_eq_true rfl) hRf), Nat.le_trans (m := 42) (Nat.le_of_ble_eq_true rfl) (Nat.le_trans (Nat.le_of_ble_eq_true rfl) hRl)⟩) hN (hK.sub (tys' := []) [] rfl) (va_P0 _ _ _) (va_D0 A) rfl hl.1 (Nat.le_of_ble_eq_true rfl) ⟨hRc, hRs⟩ dX3_wrongIn_1) hP hS hA rfl (fun H locs hP hS => ?_)
  refine z_if_ne (tgt := 10) hx hb dX3_wrongIn_4 (by decide) (by omega) (fun c_1 => ?_) (fun c_1 => absurd c_1 (by omega))
  refine lv_aload_n hx hb dX3_wrongIn_10 rfl (lv_at hl 0 rfl) ?_
  refine va_get (D := D) (ci := 3) (v := .ref (am 0)) (C := RX3) (T := TX3) (N := 14) hx hb hq inA3 hown hK hP 0 rfl rfl 0 (by decide) (hq _ q_338) (fun _ h9 => h9) rfl dX3_wrongIn_11 ?_
  refine z_iconst hx hb dX3_wrongIn_14 ?_
  refine lv_aload_n hx hb dX3_wrongIn_15 rfl (lv_at hl 0 rfl) ?_
  refine va_get (D := D) (ci := 3) (v := .ref (am 1)) (C := RX3) (T := TX3) (N := 14) hx hb hq inA3 hown hK hP 0 rfl rfl 1 (by decide) (hq _ q_362) (fun _ h9 => h9) rfl dX3_wrongIn_16 ?_
  refine z_iconst hx hb dX3_wrongIn_19 ?_
  obtain ⟨Cp20, hCp20⟩ : ∃ C : Int → Int, C = (cpZ (S 0) (S 1) 0 0 269) := ⟨_, rfl⟩
  have mCp20 := (m_X3_copies l D (am 0) (am 1) cI 269 269 (S 0) (S 1) 0 0 (by omega) (by omega) (by omega))
  rw [← hCp20] at mCp20
  refine mw_part (st1 := []) (w1 := (wM mo am cI (setA S 1 Cp20))) (mr_S (As := [.ref (am 0), .int (iI 0), .ref (am 1), .int (iI 0)]) (rest := []) ⟨hx, hb, hml, hown, hts⟩ mCp20 (va_cwS 4 hts (gS q_377 q_378 q_345 q_375) rfl rfl rfl (by decide +kernel) ⟨Nat.le_trans (m := 1) (Nat.le_of_ble_eq_true rfl) (Nat.le_trans (Nat.le_of_ble_eq_true rfl) hRf), Nat.le_trans (m := 24) (Nat.le_of_ble_eq_true rfl) (Nat.le_trans (Nat.le_of_ble_eq_true rfl) hRl)⟩) hN hK (hP.sub (ws' := [((am 0), .inl (cI, 269, .inl (aI (S 0)))), ((am 1), .inl (cI, 269, .inl (aI (S 1))))]) [1, 2] rfl) (hD.sub (ws' := [((am 0), .inl (cI, 269, .inl (aI (S 0)))), ((am 1), .inl (cI, 269, .inl (aI (S 1))))]) [1, 2] (by decide) rfl) rfl hl.1 (Nat.le_of_ble_eq_true rfl) ⟨hRc, hRs⟩ dX3_wrongIn_20) hP hD hS hA [1, 2] [0, 3, 4, 5, 6] [0, 5, 6, 1, 2, 3, 4] rfl (wr := ([0, 3, 4, 5, 6].filterMap (fun iq_ => ((wM mo am cI S))[iq_]?))) rfl (by decide) (by decide) (by decide) rfl rfl (fun H locs hP hD hS => ?_)
  have hP : va_P D vwCl (wM mo am cI (setA S 1 (S 0))) H := va_P_cell (ws := (wM mo am cI S)) (q1 := 2) (a := (am 1)) (c1 := cI) (n := 269) (f := aI Cp20) (g := aI (S 0)) hP (fun j hj => by rw [hCp20]; exact cp_full0 _ _ j hj)
  have hD : va_D A (wM mo am cI (setA S 1 (S 0))) := va_D.set (p := 2) (a := (am 1)) (e := .inl (cI, 269, .inl (aI (S 0)))) hD rfl
  refine z_iconst hx hb dX3_wrongIn_23 ?_
  refine lv_istore_n (lv' := [(2, .int (iI 0)), (0, .ref mo), (1, .int (iI r))]) hx hb dX3_wrongIn_24 rfl hl (by decide) rfl (fun ls hl => ?_)
  have LP25 : ∀ (fu i : Nat), i ≤ 301 → 301 < fu + i → fstZ (fun i : Nat => wrongZ (daysStZ (gOf (S 0)) i) r) 301 0 = fstZ (fun i : Nat => wrongZ (daysStZ (gOf (S 0)) i) r) (301 - i) i → ∀ (H : Heap) (locs : List Loc) (ls : Array Slot), va_P D vwCl (wM mo am cI (esS (setA S 1 (S 0)) i)) H → va_D A (wM mo am cI (esS (setA S 1 (S 0)) i)) → va_S A s.heap H locs → lv_has ls 4 [(2, .int (iI (i : Int))), (0, .ref mo), (1, .int (iI r))] → W p l e R s m args below meth c H locs 0 0 Q (F0 m 25 ls []) := by
    intro fu
    induction fu with
    | zero => intro i h1 h2; omega
    | succ fu ih25 =>
      intro i hi1 hif hv H locs ls hP hD hS hl
      have hI1 : InvG B (gOf (setA S 1 (S 0) 0)) := hI
      have hIi := inv_es hI1 i (by omega) (show gOf (S 0) 12 0 + (i : Int) ≤ 10000000 by omega)
      have hdi : gOf (esS (setA S 1 (S 0)) i 0) 12 0 = gOf (S 0) 12 0 + i := es_12 hI1 i (by omega) (show gOf (S 0) 12 0 + (i : Int) ≤ 10000000 by omega)
      have hqi : gOf (esS (setA S 1 (S 0)) i 0) = daysStZ (gOf (S 0)) i := (gOf_es hI1 i (by omega) (show gOf (S 0) 12 0 + (i : Int) ≤ 10000000 by omega)).1
      refine lv_iload_n hx hb dX3_wrongIn_25 rfl (lv_at hl 0 rfl) ?_
      refine z_sipush hx hb dX3_wrongIn_26 (by decide +kernel) ?_
      refine z_icmp_gt (tgt := 51) hx hb dX3_wrongIn_29 (by decide) (by omega) (by omega) (fun c_2 => ?_) (fun c_2 => ?_)
      · refine lv_aload_n hx hb dX3_wrongIn_51 rfl (lv_at hl 1 rfl) ?_
        refine va_get (D := D) (ci := 3) (v := .ref (am 1)) (C := RX3) (T := TX3) (N := 14) hx hb hq inA3 hown hK hP 0 rfl rfl 1 (by decide) (hq _ q_362) (fun _ h9 => h9) rfl dX3_wrongIn_52 ?_
        refine z_iconst hx hb dX3_wrongIn_55 ?_
        refine lv_aload_n hx hb dX3_wrongIn_56 rfl (lv_at hl 1 rfl) ?_
        refine va_get (D := D) (ci := 3) (v := .ref (am 0)) (C := RX3) (T := TX3) (N := 14) hx hb hq inA3 hown hK hP 0 rfl rfl 0 (by decide) (hq _ q_338) (fun _ h9 => h9) rfl dX3_wrongIn_57 ?_
        refine z_iconst hx hb dX3_wrongIn_60 ?_
        obtain ⟨Cp61, hCp61⟩ : ∃ C : Int → Int, C = (cpZ ((esS (setA S 1 (S 0)) i) 1) ((esS (setA S 1 (S 0)) i) 0) 0 0 269) := ⟨_, rfl⟩
        have mCp61 := (m_X3_copies l D (am 1) (am 0) cI 269 269 ((esS (setA S 1 (S 0)) i) 1) ((esS (setA S 1 (S 0)) i) 0) 0 0 (by omega) (by omega) (by omega))
        rw [← hCp61] at mCp61
        refine mw_part (st1 := []) (w1 := (wM mo am cI (setA (esS (setA S 1 (S 0)) i) 0 Cp61))) (mr_S (As := [.ref (am 1), .int (iI 0), .ref (am 0), .int (iI 0)]) (rest := []) ⟨hx, hb, hml, hown, hts⟩ mCp61 (va_cwS 4 hts (gS q_377 q_378 q_345 q_375) rfl rfl rfl (by decide +kernel) ⟨Nat.le_trans (m := 1) (Nat.le_of_ble_eq_true rfl) (Nat.le_trans (Nat.le_of_ble_eq_true rfl) hRf), Nat.le_trans (m := 24) (Nat.le_of_ble_eq_true rfl) (Nat.le_trans (Nat.le_of_ble_eq_true rfl) hRl)⟩) hN hK (hP.sub (ws' := [((am 1), .inl (cI, 269, .inl (aI ((esS (setA S 1 (S 0)) i) 1)))), ((am 0), .inl (cI, 269, .inl (aI ((esS (setA S 1 (S 0)) i) 0))))]) [2, 1] rfl) (hD.sub (ws' := [((am 1), .inl (cI, 269, .inl (aI ((esS (setA S 1 (S 0)) i) 1)))), ((am 0), .inl (cI, 269, .inl (aI ((esS (setA S 1 (S 0)) i) 0))))]) [2, 1] (by decide) rfl) rfl hl.1 (Nat.le_of_ble_eq_true rfl) ⟨hRc, hRs⟩ dX3_wrongIn_61) hP hD hS hA [2, 1] [0, 3, 4, 5, 6] [0, 6, 5, 1, 2, 3, 4] rfl (wr := ([0, 3, 4, 5, 6].filterMap (fun iq_ => ((wM mo am cI (esS (setA S 1 (S 0)) i)))[iq_]?))) rfl (by decide) (by decide) (by decide) rfl rfl (fun H locs hP hD hS => ?_)
        have hP : va_P D vwCl (wM mo am cI (setA (esS (setA S 1 (S 0)) i) 0 ((esS (setA S 1 (S 0)) i) 1))) H := va_P_cell (ws := (wM mo am cI (esS (setA S 1 (S 0)) i))) (q1 := 1) (a := (am 0)) (c1 := cI) (n := 269) (f := aI Cp61) (g := aI ((esS (setA S 1 (S 0)) i) 1)) hP (fun j hj => by rw [hCp61]; exact cp_full0 _ _ j hj)
        have hD : va_D A (wM mo am cI (setA (esS (setA S 1 (S 0)) i) 0 ((esS (setA S 1 (S 0)) i) 1))) := va_D.set (p := 1) (a := (am 0)) (e := .inl (cI, 269, .inl (aI ((esS (setA S 1 (S 0)) i) 1)))) hD rfl
        refine lv_iload_n hx hb dX3_wrongIn_64 rfl (lv_at hl 0 rfl) ?_
        refine z_sipush hx hb dX3_wrongIn_65 (by decide +kernel) ?_
        refine z_icmp_le (tgt := 76) hx hb dX3_wrongIn_68 (by decide) (by omega) (by omega) (fun c_3 => ?_) (fun c_3 => ?_)
        · refine lv_iload_n hx hb dX3_wrongIn_76 rfl (lv_at hl 0 rfl) ?_
          refine z_as (show (i : Int) = fstZ (fun i : Nat => wrongZ (daysStZ (gOf (S 0)) i) r) 301 0 from by first | (exfalso; omega) | (rw [hv]; exact (fst_end (by omega)).symm) | (rw [hv]; exact (fst_hit (by omega) (by assumption)).symm)) ?_
          have eW0 : setA S 1 (S 0) = (setA (esS (setA S 1 (S 0)) i) 0 ((esS (setA S 1 (S 0)) i) 1)) := by (exact (es_back _ rfl _).symm)
          rw [← eW0] at hP hD
          first | exact hret _ _ _ _ dX3_wrongIn_77 hP hD hS | (exfalso; omega)
        · refine z_ldc hx hb (-1000004) (by decide +kernel) hown (hq _ q_511) dX3_wrongIn_71 ?_
          refine lv_goto (tgt := 77) hx hb dX3_wrongIn_73 (by decide) ?_
          refine z_as (show (-1000004) = fstZ (fun i : Nat => wrongZ (daysStZ (gOf (S 0)) i) r) 301 0 from by first | (exfalso; omega) | (rw [hv]; exact (fst_end (by omega)).symm) | (rw [hv]; exact (fst_hit (by omega) (by assumption)).symm)) ?_
          have eW0 : setA S 1 (S 0) = (setA (esS (setA S 1 (S 0)) i) 0 ((esS (setA S 1 (S 0)) i) 1)) := by (exact (es_back _ rfl _).symm)
          rw [← eW0] at hP hD
          first | exact hret _ _ _ _ dX3_wrongIn_77 hP hD hS | (exfalso; omega)
      · refine lv_aload_n hx hb dX3_wrongIn_32 rfl (lv_at hl 1 rfl) ?_
        refine lv_iload_n hx hb dX3_wrongIn_33 rfl (lv_at hl 2 rfl) ?_
        refine mw_full (st1 := [.int (iI (wrongZ (gOf ((esS (setA S 1 (S 0)) i) 0)) r))]) (mr_V (As := [.int (iI r)]) (rest := []) (ci := 3) (q0 := 0) ⟨hx, hb, hml, hown, hts⟩ (m_X3_wrong l D mo am cI (esS (setA S 1 (S 0)) i) r hIi (by omega)) (cwV 1 hts (gV q_416 q_417 q_418 q_345 q_412) rfl rfl rfl (by decide +kernel) ⟨Nat.le_trans (m := 6) (Nat.le_of_ble_eq_true rfl) (Nat.le_trans (Nat.le_of_ble_eq_true rfl) hRf), Nat.le_trans (m := 133) (Nat.le_of_ble_eq_true rfl) (Nat.le_trans (Nat.le_of_ble_eq_true rfl) hRl)⟩) hN hK hP hD rfl rfl rfl hl.1 (Nat.le_of_ble_eq_true rfl) ⟨hRc, hRs⟩ dX3_wrongIn_34) hD hS hA rfl (fun H locs hP hD hS => ?_)
        have hf_4 := wrongZ_bd (gOf ((esS (setA S 1 (S 0)) i) 0)) r
        refine z_if_ne (tgt := 51) hx hb dX3_wrongIn_37 (by decide) (by omega) (fun c_5 => ?_) (fun c_5 => ?_)
        · rw [hqi] at c_5
          refine lv_aload_n hx hb dX3_wrongIn_51 rfl (lv_at hl 1 rfl) ?_
          refine va_get (D := D) (ci := 3) (v := .ref (am 1)) (C := RX3) (T := TX3) (N := 14) hx hb hq inA3 hown hK hP 0 rfl rfl 1 (by decide) (hq _ q_362) (fun _ h9 => h9) rfl dX3_wrongIn_52 ?_
          refine z_iconst hx hb dX3_wrongIn_55 ?_
          refine lv_aload_n hx hb dX3_wrongIn_56 rfl (lv_at hl 1 rfl) ?_
          refine va_get (D := D) (ci := 3) (v := .ref (am 0)) (C := RX3) (T := TX3) (N := 14) hx hb hq inA3 hown hK hP 0 rfl rfl 0 (by decide) (hq _ q_338) (fun _ h9 => h9) rfl dX3_wrongIn_57 ?_
          refine z_iconst hx hb dX3_wrongIn_60 ?_
          obtain ⟨Cp61, hCp61⟩ : ∃ C : Int → Int, C = (cpZ ((esS (setA S 1 (S 0)) i) 1) ((esS (setA S 1 (S 0)) i) 0) 0 0 269) := ⟨_, rfl⟩
          have mCp61 := (m_X3_copies l D (am 1) (am 0) cI 269 269 ((esS (setA S 1 (S 0)) i) 1) ((esS (setA S 1 (S 0)) i) 0) 0 0 (by omega) (by omega) (by omega))
          rw [← hCp61] at mCp61
          refine mw_part (st1 := []) (w1 := (wM mo am cI (setA (esS (setA S 1 (S 0)) i) 0 Cp61))) (mr_S (As := [.ref (am 1), .int (iI 0), .ref (am 0), .int (iI 0)]) (rest := []) ⟨hx, hb, hml, hown, hts⟩ mCp61 (va_cwS 4 hts (gS q_377 q_378 q_345 q_375) rfl rfl rfl (by decide +kernel) ⟨Nat.le_trans (m := 1) (Nat.le_of_ble_eq_true rfl) (Nat.le_trans (Nat.le_of_ble_eq_true rfl) hRf), Nat.le_trans (m := 24) (Nat.le_of_ble_eq_true rfl) (Nat.le_trans (Nat.le_of_ble_eq_true rfl) hRl)⟩) hN hK (hP.sub (ws' := [((am 1), .inl (cI, 269, .inl (aI ((esS (setA S 1 (S 0)) i) 1)))), ((am 0), .inl (cI, 269, .inl (aI ((esS (setA S 1 (S 0)) i) 0))))]) [2, 1] rfl) (hD.sub (ws' := [((am 1), .inl (cI, 269, .inl (aI ((esS (setA S 1 (S 0)) i) 1)))), ((am 0), .inl (cI, 269, .inl (aI ((esS (setA S 1 (S 0)) i) 0))))]) [2, 1] (by decide) rfl) rfl hl.1 (Nat.le_of_ble_eq_true rfl) ⟨hRc, hRs⟩ dX3_wrongIn_61) hP hD hS hA [2, 1] [0, 3, 4, 5, 6] [0, 6, 5, 1, 2, 3, 4] rfl (wr := ([0, 3, 4, 5, 6].filterMap (fun iq_ => ((wM mo am cI (esS (setA S 1 (S 0)) i)))[iq_]?))) rfl (by decide) (by decide) (by decide) rfl rfl (fun H locs hP hD hS => ?_)
          have hP : va_P D vwCl (wM mo am cI (setA (esS (setA S 1 (S 0)) i) 0 ((esS (setA S 1 (S 0)) i) 1))) H := va_P_cell (ws := (wM mo am cI (esS (setA S 1 (S 0)) i))) (q1 := 1) (a := (am 0)) (c1 := cI) (n := 269) (f := aI Cp61) (g := aI ((esS (setA S 1 (S 0)) i) 1)) hP (fun j hj => by rw [hCp61]; exact cp_full0 _ _ j hj)
          have hD : va_D A (wM mo am cI (setA (esS (setA S 1 (S 0)) i) 0 ((esS (setA S 1 (S 0)) i) 1))) := va_D.set (p := 1) (a := (am 0)) (e := .inl (cI, 269, .inl (aI ((esS (setA S 1 (S 0)) i) 1)))) hD rfl
          refine lv_iload_n hx hb dX3_wrongIn_64 rfl (lv_at hl 0 rfl) ?_
          refine z_sipush hx hb dX3_wrongIn_65 (by decide +kernel) ?_
          refine z_icmp_le (tgt := 76) hx hb dX3_wrongIn_68 (by decide) (by omega) (by omega) (fun c_6 => ?_) (fun c_6 => ?_)
          · refine lv_iload_n hx hb dX3_wrongIn_76 rfl (lv_at hl 0 rfl) ?_
            refine z_as (show (i : Int) = fstZ (fun i : Nat => wrongZ (daysStZ (gOf (S 0)) i) r) 301 0 from by first | (exfalso; omega) | (rw [hv]; exact (fst_end (by omega)).symm) | (rw [hv]; exact (fst_hit (by omega) (by assumption)).symm)) ?_
            have eW0 : setA S 1 (S 0) = (setA (esS (setA S 1 (S 0)) i) 0 ((esS (setA S 1 (S 0)) i) 1)) := by (exact (es_back _ rfl _).symm)
            rw [← eW0] at hP hD
            first | exact hret _ _ _ _ dX3_wrongIn_77 hP hD hS | (exfalso; omega)
          · refine z_ldc hx hb (-1000004) (by decide +kernel) hown (hq _ q_511) dX3_wrongIn_71 ?_
            refine lv_goto (tgt := 77) hx hb dX3_wrongIn_73 (by decide) ?_
            refine z_as (show (-1000004) = fstZ (fun i : Nat => wrongZ (daysStZ (gOf (S 0)) i) r) 301 0 from by first | (exfalso; omega) | (rw [hv]; exact (fst_end (by omega)).symm) | (rw [hv]; exact (fst_hit (by omega) (by assumption)).symm)) ?_
            have eW0 : setA S 1 (S 0) = (setA (esS (setA S 1 (S 0)) i) 0 ((esS (setA S 1 (S 0)) i) 1)) := by (exact (es_back _ rfl _).symm)
            rw [← eW0] at hP hD
            first | exact hret _ _ _ _ dX3_wrongIn_77 hP hD hS | (exfalso; omega)
        · rw [hqi] at c_5
          refine lv_aload_n hx hb dX3_wrongIn_40 rfl (lv_at hl 1 rfl) ?_
          refine mw_full (st1 := [.int (iI (edL (esS (setA S 1 (S 0)) i) 6))]) (mr_V (As := []) (rest := []) (ci := 3) (q0 := 0) ⟨hx, hb, hml, hown, hts⟩ (m_X3_endsDay l D mo am cI (esS (setA S 1 (S 0)) i)  hIi (by omega) (by omega)) (cwV 0 hts (gV q_444 q_445 q_446 q_345 q_443) rfl rfl rfl (by decide +kernel) ⟨Nat.le_trans (m := 8) (Nat.le_of_ble_eq_true rfl) (Nat.le_trans (Nat.le_of_ble_eq_true rfl) hRf), Nat.le_trans (m := 177) (Nat.le_of_ble_eq_true rfl) (Nat.le_trans (Nat.le_of_ble_eq_true rfl) hRl)⟩) hN hK hP hD rfl rfl rfl hl.1 (Nat.le_of_ble_eq_true rfl) ⟨hRc, hRs⟩ dX3_wrongIn_41) hD hS hA rfl (fun H locs hP hD hS => ?_)
          have hf_7 := edL_bd (esS (setA S 1 (S 0)) i) 6
          refine lv_istore_n (lv' := [(3, .int (iI (edL (esS (setA S 1 (S 0)) i) 6))), (2, .int (iI (i : Int))), (0, .ref mo), (1, .int (iI r))]) hx hb dX3_wrongIn_44 rfl hl (by decide) rfl (fun ls hl => ?_)
          refine lv_iinc (v := iI ((i : Int) + 1)) (lv' := [(2, .int (iI ((i : Int) + 1))), (3, .int (iI (edL (esS (setA S 1 (S 0)) i) 6))), (0, .ref mo), (1, .int (iI r))]) hx hb dX3_wrongIn_45 hl (k := 1) rfl (iI_add _ _) (by decide) rfl (fun ls hl => ?_)
          refine lv_goto (tgt := 25) hx hb dX3_wrongIn_48 (by decide) ?_
          have e1_0 : (((i + 1 : Nat) : Int)) = ((i : Int) + 1) := by first | rfl | omega
          have eG0 : (esS (setA S 1 (S 0)) (i + 1)) = (edS (esS (setA S 1 (S 0)) i) 6) := by rfl
          rw [← eG0] at hP hD
          exact ih25 (i + 1) (by omega) (by omega) (fst_next hv (by omega) (by omega)) _ _ _ hP hD hS (lv_to (lv_sub (l' := [(2, .int (iI ((i : Int) + 1))), (0, .ref mo), (1, .int (iI r))]) hl [0, 2, 3] rfl) (by simp only [e1_0]))
  have e0_0 : (((0 : Nat) : Int)) = 0 := by first | rfl | omega
  exact LP25 (301 + 1) 0 (by omega) (by omega) rfl _ _ _ hP hD hS (lv_to (lv_sub (l' := [(2, .int (iI 0)), (0, .ref mo), (1, .int (iI r))]) hl [0, 1, 2] rfl) (by simp only [e0_0]))
set_option maxHeartbeats 4000000 in
set_option maxRecDepth 100000 in
theorem m_X3_wrongIn_bad (l : Launch) (D : va_G) (mo : Nat) (am : Nat → Nat) (cI : ClassId) (S : Nat → Int → Int) (r : Int) (h1 : -2147483648 ≤ r ∧ r < 2147483648) (hb0 : r < 0 ∨ 5 < r)  : MW l D yX3_wrongIn (wsY yX3_wrongIn cX3_wrongIn 4 (some .int)) { frames := 8, cells := 0, slots := 0, locals := 177 } [(cI, .int)] [.ref mo, .int (iI r)] (wM mo am cI S) (wM mo am cI S) (some (.int (iI (-1000001)))) := by
  refine mw_ofI (cc := cX3_wrongIn) (maxL := 4) (by decide) rfl (Nat.le_of_ble_eq_true rfl) ?_
  intro p e s m below meth c R A Q args ls hx hb hml hown hts hRf hRl hRc hRs hN hK hP hD hS hA hret hl
  have hq : ∀ w ∈ ALL, w.before args s = true := fun w h => hts w (List.mem_cons_of_mem _ h)
  have hl : lv_has ls 4 [(0, .ref mo), (1, .int (iI r))] := hl
  refine lv_iload_n hx hb dX3_wrongIn_0 rfl (lv_at hl 1 rfl) ?_
  refine mw_none (st1 := [.int (iI (if 0 ≤ r ∧ r ≤ 5 then 1 else 0 : Int))]) (mr_S (As := [.int (iI r)]) (rest := []) ⟨hx, hb, hml, hown, hts⟩ (m_X3_isRow l D r (by omega)) (va_cwS 1 hts (gS q_388 q_389 q_345 q_382) rfl rfl rfl (by decide +kernel) ⟨Nat.le_trans (m := 2) (Nat.le_of_ble_eq_true rfl) (Nat.le_trans (Nat.le_of_ble_eq_true rfl) hRf), Nat.le_trans (m := 42) (Nat.le_of_ble_eq_true rfl) (Nat.le_trans (Nat.le_of_ble_eq_true rfl) hRl)⟩) hN (hK.sub (tys' := []) [] rfl) (va_P0 _ _ _) (va_D0 A) rfl hl.1 (Nat.le_of_ble_eq_true rfl) ⟨hRc, hRs⟩ dX3_wrongIn_1) hP hS hA rfl (fun H locs hP hS => ?_)
  refine z_if_ne (tgt := 10) hx hb dX3_wrongIn_4 (by decide) (by omega) (fun c_1 => absurd c_1 (by omega)) (fun c_1 => ?_)
  refine z_ldc hx hb (-1000001) (by decide +kernel) hown (hq _ q_448) dX3_wrongIn_7 ?_
  refine z_as (show (-1000001) = -1000001 from by first | rfl | omega) ?_
  first | exact hret _ _ _ _ dX3_wrongIn_9 hP hD hS | (exfalso; omega)
set_option maxHeartbeats 4000000 in
set_option maxRecDepth 100000 in
theorem m_X3_rightFor (l : Launch) (D : va_G) (mo : Nat) (am : Nat → Nat) (cI : ClassId) (S : Nat → Int → Int) (r : Int) {B : Int} (hI : InvG B (gOf (S 0))) (h1 : 0 ≤ r ∧ r < 6) (hB : B + 0 ≤ 100000000) (hd : (gOf (S 0)) 12 0 ≤ 9999)  : MW l D yX3_rightFor (wsY yX3_rightFor cX3_rightFor 3 (some .int)) { frames := 3, cells := 0, slots := 0, locals := 69 } [(cI, .int)] [.ref mo, .int (iI r)] (wM mo am cI S) (wM mo am cI (setA S 1 (S 0))) (some (.int (iI (fstZ (fun i : Nat => if rightZ (tksZ (gOf (S 0)) i) r = 0 then 1 else 0) 301 0)))) := by
  refine mw_ofI (cc := cX3_rightFor) (maxL := 3) (by decide) rfl (Nat.le_of_ble_eq_true rfl) ?_
  intro p e s m below meth c R A Q args ls hx hb hml hown hts hRf hRl hRc hRs hN hK hP hD hS hA hret hl
  have hq : ∀ w ∈ ALL, w.before args s = true := fun w h => hts w (List.mem_cons_of_mem _ h)
  have hl : lv_has ls 3 [(0, .ref mo), (1, .int (iI r))] := hl
  refine lv_iload_n hx hb dX3_rightFor_0 rfl (lv_at hl 1 rfl) ?_
  refine mw_none (st1 := [.int (iI (if 0 ≤ r ∧ r ≤ 5 then 1 else 0 : Int))]) (mr_S (As := [.int (iI r)]) (rest := []) ⟨hx, hb, hml, hown, hts⟩ (m_X3_isRow l D r (by omega)) (va_cwS 1 hts (gS q_388 q_389 q_345 q_382) rfl rfl rfl (by decide +kernel) ⟨Nat.le_trans (m := 2) (Nat.le_of_ble_eq_true rfl) (Nat.le_trans (Nat.le_of_ble_eq_true rfl) hRf), Nat.le_trans (m := 42) (Nat.le_of_ble_eq_true rfl) (Nat.le_trans (Nat.le_of_ble_eq_true rfl) hRl)⟩) hN (hK.sub (tys' := []) [] rfl) (va_P0 _ _ _) (va_D0 A) rfl hl.1 (Nat.le_of_ble_eq_true rfl) ⟨hRc, hRs⟩ dX3_rightFor_1) hP hS hA rfl (fun H locs hP hS => ?_)
  refine z_if_ne (tgt := 10) hx hb dX3_rightFor_4 (by decide) (by omega) (fun c_1 => ?_) (fun c_1 => absurd c_1 (by omega))
  refine lv_aload_n hx hb dX3_rightFor_10 rfl (lv_at hl 0 rfl) ?_
  refine va_get (D := D) (ci := 3) (v := .ref (am 0)) (C := RX3) (T := TX3) (N := 14) hx hb hq inA3 hown hK hP 0 rfl rfl 0 (by decide) (hq _ q_338) (fun _ h9 => h9) rfl dX3_rightFor_11 ?_
  refine z_iconst hx hb dX3_rightFor_14 ?_
  refine lv_aload_n hx hb dX3_rightFor_15 rfl (lv_at hl 0 rfl) ?_
  refine va_get (D := D) (ci := 3) (v := .ref (am 1)) (C := RX3) (T := TX3) (N := 14) hx hb hq inA3 hown hK hP 0 rfl rfl 1 (by decide) (hq _ q_362) (fun _ h9 => h9) rfl dX3_rightFor_16 ?_
  refine z_iconst hx hb dX3_rightFor_19 ?_
  obtain ⟨Cp20, hCp20⟩ : ∃ C : Int → Int, C = (cpZ (S 0) (S 1) 0 0 269) := ⟨_, rfl⟩
  have mCp20 := (m_X3_copies l D (am 0) (am 1) cI 269 269 (S 0) (S 1) 0 0 (by omega) (by omega) (by omega))
  rw [← hCp20] at mCp20
  refine mw_part (st1 := []) (w1 := (wM mo am cI (setA S 1 Cp20))) (mr_S (As := [.ref (am 0), .int (iI 0), .ref (am 1), .int (iI 0)]) (rest := []) ⟨hx, hb, hml, hown, hts⟩ mCp20 (va_cwS 4 hts (gS q_377 q_378 q_345 q_375) rfl rfl rfl (by decide +kernel) ⟨Nat.le_trans (m := 1) (Nat.le_of_ble_eq_true rfl) (Nat.le_trans (Nat.le_of_ble_eq_true rfl) hRf), Nat.le_trans (m := 24) (Nat.le_of_ble_eq_true rfl) (Nat.le_trans (Nat.le_of_ble_eq_true rfl) hRl)⟩) hN hK (hP.sub (ws' := [((am 0), .inl (cI, 269, .inl (aI (S 0)))), ((am 1), .inl (cI, 269, .inl (aI (S 1))))]) [1, 2] rfl) (hD.sub (ws' := [((am 0), .inl (cI, 269, .inl (aI (S 0)))), ((am 1), .inl (cI, 269, .inl (aI (S 1))))]) [1, 2] (by decide) rfl) rfl hl.1 (Nat.le_of_ble_eq_true rfl) ⟨hRc, hRs⟩ dX3_rightFor_20) hP hD hS hA [1, 2] [0, 3, 4, 5, 6] [0, 5, 6, 1, 2, 3, 4] rfl (wr := ([0, 3, 4, 5, 6].filterMap (fun iq_ => ((wM mo am cI S))[iq_]?))) rfl (by decide) (by decide) (by decide) rfl rfl (fun H locs hP hD hS => ?_)
  have hP : va_P D vwCl (wM mo am cI (setA S 1 (S 0))) H := va_P_cell (ws := (wM mo am cI S)) (q1 := 2) (a := (am 1)) (c1 := cI) (n := 269) (f := aI Cp20) (g := aI (S 0)) hP (fun j hj => by rw [hCp20]; exact cp_full0 _ _ j hj)
  have hD : va_D A (wM mo am cI (setA S 1 (S 0))) := va_D.set (p := 2) (a := (am 1)) (e := .inl (cI, 269, .inl (aI (S 0)))) hD rfl
  refine z_iconst hx hb dX3_rightFor_23 ?_
  refine lv_istore_n (lv' := [(2, .int (iI 0)), (0, .ref mo), (1, .int (iI r))]) hx hb dX3_rightFor_24 rfl hl (by decide) rfl (fun ls hl => ?_)
  have LP25 : ∀ (fu i : Nat), i ≤ 301 → 301 < fu + i → fstZ (fun i : Nat => if rightZ (tksZ (gOf (S 0)) i) r = 0 then 1 else 0) 301 0 = fstZ (fun i : Nat => if rightZ (tksZ (gOf (S 0)) i) r = 0 then 1 else 0) (301 - i) i → ∀ (H : Heap) (locs : List Loc) (ls : Array Slot), va_P D vwCl (wM mo am cI (dpS (setA S 1 (S 0)) i)) H → va_D A (wM mo am cI (dpS (setA S 1 (S 0)) i)) → va_S A s.heap H locs → lv_has ls 3 [(2, .int (iI (i : Int))), (0, .ref mo), (1, .int (iI r))] → W p l e R s m args below meth c H locs 0 0 Q (F0 m 25 ls []) := by
    intro fu
    induction fu with
    | zero => intro i h1 h2; omega
    | succ fu ih25 =>
      intro i hi1 hif hv H locs ls hP hD hS hl
      have hI1 : InvG B (gOf (setA S 1 (S 0) 0)) := hI
      have hIi := inv_dp hI1 i (show gOf (S 0) 12 0 + (i : Int) ≤ 10000000 by omega)
      have hqi : gOf (dpS (setA S 1 (S 0)) i 0) = tksZ (gOf (S 0)) i := gOf_dp hI1 i (show gOf (S 0) 12 0 + (i : Int) ≤ 10000000 by omega)
      refine lv_iload_n hx hb dX3_rightFor_25 rfl (lv_at hl 0 rfl) ?_
      refine z_sipush hx hb dX3_rightFor_26 (by decide +kernel) ?_
      refine z_icmp_gt (tgt := 50) hx hb dX3_rightFor_29 (by decide) (by omega) (by omega) (fun c_2 => ?_) (fun c_2 => ?_)
      · refine lv_aload_n hx hb dX3_rightFor_50 rfl (lv_at hl 1 rfl) ?_
        refine va_get (D := D) (ci := 3) (v := .ref (am 1)) (C := RX3) (T := TX3) (N := 14) hx hb hq inA3 hown hK hP 0 rfl rfl 1 (by decide) (hq _ q_362) (fun _ h9 => h9) rfl dX3_rightFor_51 ?_
        refine z_iconst hx hb dX3_rightFor_54 ?_
        refine lv_aload_n hx hb dX3_rightFor_55 rfl (lv_at hl 1 rfl) ?_
        refine va_get (D := D) (ci := 3) (v := .ref (am 0)) (C := RX3) (T := TX3) (N := 14) hx hb hq inA3 hown hK hP 0 rfl rfl 0 (by decide) (hq _ q_338) (fun _ h9 => h9) rfl dX3_rightFor_56 ?_
        refine z_iconst hx hb dX3_rightFor_59 ?_
        obtain ⟨Cp60, hCp60⟩ : ∃ C : Int → Int, C = (cpZ ((dpS (setA S 1 (S 0)) i) 1) ((dpS (setA S 1 (S 0)) i) 0) 0 0 269) := ⟨_, rfl⟩
        have mCp60 := (m_X3_copies l D (am 1) (am 0) cI 269 269 ((dpS (setA S 1 (S 0)) i) 1) ((dpS (setA S 1 (S 0)) i) 0) 0 0 (by omega) (by omega) (by omega))
        rw [← hCp60] at mCp60
        refine mw_part (st1 := []) (w1 := (wM mo am cI (setA (dpS (setA S 1 (S 0)) i) 0 Cp60))) (mr_S (As := [.ref (am 1), .int (iI 0), .ref (am 0), .int (iI 0)]) (rest := []) ⟨hx, hb, hml, hown, hts⟩ mCp60 (va_cwS 4 hts (gS q_377 q_378 q_345 q_375) rfl rfl rfl (by decide +kernel) ⟨Nat.le_trans (m := 1) (Nat.le_of_ble_eq_true rfl) (Nat.le_trans (Nat.le_of_ble_eq_true rfl) hRf), Nat.le_trans (m := 24) (Nat.le_of_ble_eq_true rfl) (Nat.le_trans (Nat.le_of_ble_eq_true rfl) hRl)⟩) hN hK (hP.sub (ws' := [((am 1), .inl (cI, 269, .inl (aI ((dpS (setA S 1 (S 0)) i) 1)))), ((am 0), .inl (cI, 269, .inl (aI ((dpS (setA S 1 (S 0)) i) 0))))]) [2, 1] rfl) (hD.sub (ws' := [((am 1), .inl (cI, 269, .inl (aI ((dpS (setA S 1 (S 0)) i) 1)))), ((am 0), .inl (cI, 269, .inl (aI ((dpS (setA S 1 (S 0)) i) 0))))]) [2, 1] (by decide) rfl) rfl hl.1 (Nat.le_of_ble_eq_true rfl) ⟨hRc, hRs⟩ dX3_rightFor_60) hP hD hS hA [2, 1] [0, 3, 4, 5, 6] [0, 6, 5, 1, 2, 3, 4] rfl (wr := ([0, 3, 4, 5, 6].filterMap (fun iq_ => ((wM mo am cI (dpS (setA S 1 (S 0)) i)))[iq_]?))) rfl (by decide) (by decide) (by decide) rfl rfl (fun H locs hP hD hS => ?_)
        have hP : va_P D vwCl (wM mo am cI (setA (dpS (setA S 1 (S 0)) i) 0 ((dpS (setA S 1 (S 0)) i) 1))) H := va_P_cell (ws := (wM mo am cI (dpS (setA S 1 (S 0)) i))) (q1 := 1) (a := (am 0)) (c1 := cI) (n := 269) (f := aI Cp60) (g := aI ((dpS (setA S 1 (S 0)) i) 1)) hP (fun j hj => by rw [hCp60]; exact cp_full0 _ _ j hj)
        have hD : va_D A (wM mo am cI (setA (dpS (setA S 1 (S 0)) i) 0 ((dpS (setA S 1 (S 0)) i) 1))) := va_D.set (p := 1) (a := (am 0)) (e := .inl (cI, 269, .inl (aI ((dpS (setA S 1 (S 0)) i) 1)))) hD rfl
        refine lv_iload_n hx hb dX3_rightFor_63 rfl (lv_at hl 0 rfl) ?_
        refine z_sipush hx hb dX3_rightFor_64 (by decide +kernel) ?_
        refine z_icmp_le (tgt := 75) hx hb dX3_rightFor_67 (by decide) (by omega) (by omega) (fun c_3 => ?_) (fun c_3 => ?_)
        · refine lv_iload_n hx hb dX3_rightFor_75 rfl (lv_at hl 0 rfl) ?_
          refine z_as (show (i : Int) = fstZ (fun i : Nat => if rightZ (tksZ (gOf (S 0)) i) r = 0 then 1 else 0) 301 0 from by first | (exfalso; omega) | (rw [hv]; exact (fst_end (by omega)).symm) | (rw [hv]; exact (fst_hit (f := (fun i : Nat => if rightZ (tksZ (gOf (S 0)) i) r = 0 then 1 else 0)) (by omega) hf1).symm)) ?_
          have eW0 : setA S 1 (S 0) = (setA (dpS (setA S 1 (S 0)) i) 0 ((dpS (setA S 1 (S 0)) i) 1)) := by (exact (dp_back _ rfl _).symm)
          rw [← eW0] at hP hD
          first | exact hret _ _ _ _ dX3_rightFor_76 hP hD hS | (exfalso; omega)
        · refine z_ldc hx hb (-1000004) (by decide +kernel) hown (hq _ q_511) dX3_rightFor_70 ?_
          refine lv_goto (tgt := 76) hx hb dX3_rightFor_72 (by decide) ?_
          refine z_as (show (-1000004) = fstZ (fun i : Nat => if rightZ (tksZ (gOf (S 0)) i) r = 0 then 1 else 0) 301 0 from by first | (exfalso; omega) | (rw [hv]; exact (fst_end (by omega)).symm) | (rw [hv]; exact (fst_hit (f := (fun i : Nat => if rightZ (tksZ (gOf (S 0)) i) r = 0 then 1 else 0)) (by omega) hf1).symm)) ?_
          have eW0 : setA S 1 (S 0) = (setA (dpS (setA S 1 (S 0)) i) 0 ((dpS (setA S 1 (S 0)) i) 1)) := by (exact (dp_back _ rfl _).symm)
          rw [← eW0] at hP hD
          first | exact hret _ _ _ _ dX3_rightFor_76 hP hD hS | (exfalso; omega)
      · refine lv_aload_n hx hb dX3_rightFor_32 rfl (lv_at hl 1 rfl) ?_
        refine lv_iload_n hx hb dX3_rightFor_33 rfl (lv_at hl 2 rfl) ?_
        refine mw_full (st1 := [.int (iI (rightZ (gOf ((dpS (setA S 1 (S 0)) i) 0)) r))]) (mr_V (As := [.int (iI r)]) (rest := []) (ci := 3) (q0 := 0) ⟨hx, hb, hml, hown, hts⟩ (m_X3_isRight l D mo am cI (dpS (setA S 1 (S 0)) i) r hIi (by omega)) (cwV 1 hts (gV q_390 q_391 q_392 q_345 q_387) rfl rfl rfl (by decide +kernel) ⟨Nat.le_trans (m := 2) (Nat.le_of_ble_eq_true rfl) (Nat.le_trans (Nat.le_of_ble_eq_true rfl) hRf), Nat.le_trans (m := 43) (Nat.le_of_ble_eq_true rfl) (Nat.le_trans (Nat.le_of_ble_eq_true rfl) hRl)⟩) hN hK hP hD rfl rfl rfl hl.1 (Nat.le_of_ble_eq_true rfl) ⟨hRc, hRs⟩ dX3_rightFor_34) hD hS hA rfl (fun H locs hP hD hS => ?_)
        have hf_4 := rightZ_01 (gOf ((dpS (setA S 1 (S 0)) i) 0)) r
        refine z_if_eq (tgt := 50) hx hb dX3_rightFor_37 (by decide) (by omega) (fun c_5 => ?_) (fun c_5 => ?_)
        · rw [hqi] at c_5
          have hf1 : (if rightZ (tksZ (gOf (S 0)) i) r = 0 then (1 : Int) else 0) ≠ 0 := by rw [if_pos c_5]; decide
          refine lv_aload_n hx hb dX3_rightFor_50 rfl (lv_at hl 1 rfl) ?_
          refine va_get (D := D) (ci := 3) (v := .ref (am 1)) (C := RX3) (T := TX3) (N := 14) hx hb hq inA3 hown hK hP 0 rfl rfl 1 (by decide) (hq _ q_362) (fun _ h9 => h9) rfl dX3_rightFor_51 ?_
          refine z_iconst hx hb dX3_rightFor_54 ?_
          refine lv_aload_n hx hb dX3_rightFor_55 rfl (lv_at hl 1 rfl) ?_
          refine va_get (D := D) (ci := 3) (v := .ref (am 0)) (C := RX3) (T := TX3) (N := 14) hx hb hq inA3 hown hK hP 0 rfl rfl 0 (by decide) (hq _ q_338) (fun _ h9 => h9) rfl dX3_rightFor_56 ?_
          refine z_iconst hx hb dX3_rightFor_59 ?_
          obtain ⟨Cp60, hCp60⟩ : ∃ C : Int → Int, C = (cpZ ((dpS (setA S 1 (S 0)) i) 1) ((dpS (setA S 1 (S 0)) i) 0) 0 0 269) := ⟨_, rfl⟩
          have mCp60 := (m_X3_copies l D (am 1) (am 0) cI 269 269 ((dpS (setA S 1 (S 0)) i) 1) ((dpS (setA S 1 (S 0)) i) 0) 0 0 (by omega) (by omega) (by omega))
          rw [← hCp60] at mCp60
          refine mw_part (st1 := []) (w1 := (wM mo am cI (setA (dpS (setA S 1 (S 0)) i) 0 Cp60))) (mr_S (As := [.ref (am 1), .int (iI 0), .ref (am 0), .int (iI 0)]) (rest := []) ⟨hx, hb, hml, hown, hts⟩ mCp60 (va_cwS 4 hts (gS q_377 q_378 q_345 q_375) rfl rfl rfl (by decide +kernel) ⟨Nat.le_trans (m := 1) (Nat.le_of_ble_eq_true rfl) (Nat.le_trans (Nat.le_of_ble_eq_true rfl) hRf), Nat.le_trans (m := 24) (Nat.le_of_ble_eq_true rfl) (Nat.le_trans (Nat.le_of_ble_eq_true rfl) hRl)⟩) hN hK (hP.sub (ws' := [((am 1), .inl (cI, 269, .inl (aI ((dpS (setA S 1 (S 0)) i) 1)))), ((am 0), .inl (cI, 269, .inl (aI ((dpS (setA S 1 (S 0)) i) 0))))]) [2, 1] rfl) (hD.sub (ws' := [((am 1), .inl (cI, 269, .inl (aI ((dpS (setA S 1 (S 0)) i) 1)))), ((am 0), .inl (cI, 269, .inl (aI ((dpS (setA S 1 (S 0)) i) 0))))]) [2, 1] (by decide) rfl) rfl hl.1 (Nat.le_of_ble_eq_true rfl) ⟨hRc, hRs⟩ dX3_rightFor_60) hP hD hS hA [2, 1] [0, 3, 4, 5, 6] [0, 6, 5, 1, 2, 3, 4] rfl (wr := ([0, 3, 4, 5, 6].filterMap (fun iq_ => ((wM mo am cI (dpS (setA S 1 (S 0)) i)))[iq_]?))) rfl (by decide) (by decide) (by decide) rfl rfl (fun H locs hP hD hS => ?_)
          have hP : va_P D vwCl (wM mo am cI (setA (dpS (setA S 1 (S 0)) i) 0 ((dpS (setA S 1 (S 0)) i) 1))) H := va_P_cell (ws := (wM mo am cI (dpS (setA S 1 (S 0)) i))) (q1 := 1) (a := (am 0)) (c1 := cI) (n := 269) (f := aI Cp60) (g := aI ((dpS (setA S 1 (S 0)) i) 1)) hP (fun j hj => by rw [hCp60]; exact cp_full0 _ _ j hj)
          have hD : va_D A (wM mo am cI (setA (dpS (setA S 1 (S 0)) i) 0 ((dpS (setA S 1 (S 0)) i) 1))) := va_D.set (p := 1) (a := (am 0)) (e := .inl (cI, 269, .inl (aI ((dpS (setA S 1 (S 0)) i) 1)))) hD rfl
          refine lv_iload_n hx hb dX3_rightFor_63 rfl (lv_at hl 0 rfl) ?_
          refine z_sipush hx hb dX3_rightFor_64 (by decide +kernel) ?_
          refine z_icmp_le (tgt := 75) hx hb dX3_rightFor_67 (by decide) (by omega) (by omega) (fun c_6 => ?_) (fun c_6 => ?_)
          · refine lv_iload_n hx hb dX3_rightFor_75 rfl (lv_at hl 0 rfl) ?_
            refine z_as (show (i : Int) = fstZ (fun i : Nat => if rightZ (tksZ (gOf (S 0)) i) r = 0 then 1 else 0) 301 0 from by first | (exfalso; omega) | (rw [hv]; exact (fst_end (by omega)).symm) | (rw [hv]; exact (fst_hit (f := (fun i : Nat => if rightZ (tksZ (gOf (S 0)) i) r = 0 then 1 else 0)) (by omega) hf1).symm)) ?_
            have eW0 : setA S 1 (S 0) = (setA (dpS (setA S 1 (S 0)) i) 0 ((dpS (setA S 1 (S 0)) i) 1)) := by (exact (dp_back _ rfl _).symm)
            rw [← eW0] at hP hD
            first | exact hret _ _ _ _ dX3_rightFor_76 hP hD hS | (exfalso; omega)
          · refine z_ldc hx hb (-1000004) (by decide +kernel) hown (hq _ q_511) dX3_rightFor_70 ?_
            refine lv_goto (tgt := 76) hx hb dX3_rightFor_72 (by decide) ?_
            refine z_as (show (-1000004) = fstZ (fun i : Nat => if rightZ (tksZ (gOf (S 0)) i) r = 0 then 1 else 0) 301 0 from by first | (exfalso; omega) | (rw [hv]; exact (fst_end (by omega)).symm) | (rw [hv]; exact (fst_hit (f := (fun i : Nat => if rightZ (tksZ (gOf (S 0)) i) r = 0 then 1 else 0)) (by omega) hf1).symm)) ?_
            have eW0 : setA S 1 (S 0) = (setA (dpS (setA S 1 (S 0)) i) 0 ((dpS (setA S 1 (S 0)) i) 1)) := by (exact (dp_back _ rfl _).symm)
            rw [← eW0] at hP hD
            first | exact hret _ _ _ _ dX3_rightFor_76 hP hD hS | (exfalso; omega)
        · rw [hqi] at c_5
          refine lv_aload_n hx hb dX3_rightFor_40 rfl (lv_at hl 1 rfl) ?_
          refine mw_full (st1 := []) (mr_V (As := []) (rest := []) (ci := 3) (q0 := 0) ⟨hx, hb, hml, hown, hts⟩ (m_X3_drifts l D mo am cI (dpS (setA S 1 (S 0)) i)  hIi) (cwV 0 hts (gV q_434 q_435 q_436 q_345 q_432) rfl rfl rfl (by decide +kernel) ⟨Nat.le_trans (m := 3) (Nat.le_of_ble_eq_true rfl) (Nat.le_trans (Nat.le_of_ble_eq_true rfl) hRf), Nat.le_trans (m := 69) (Nat.le_of_ble_eq_true rfl) (Nat.le_trans (Nat.le_of_ble_eq_true rfl) hRl)⟩) hN hK hP hD rfl rfl rfl hl.1 (Nat.le_of_ble_eq_true rfl) ⟨hRc, hRs⟩ dX3_rightFor_41) hD hS hA rfl (fun H locs hP hD hS => ?_)
          refine lv_iinc (v := iI ((i : Int) + 1)) (lv' := [(2, .int (iI ((i : Int) + 1))), (0, .ref mo), (1, .int (iI r))]) hx hb dX3_rightFor_44 hl (k := 0) rfl (iI_add _ _) (by decide) rfl (fun ls hl => ?_)
          refine lv_goto (tgt := 25) hx hb dX3_rightFor_47 (by decide) ?_
          have e1_0 : (((i + 1 : Nat) : Int)) = ((i : Int) + 1) := by first | rfl | omega
          have eG0 : (dpS (setA S 1 (S 0)) (i + 1)) = (dsS (dpS (setA S 1 (S 0)) i)) := by rfl
          rw [← eG0] at hP hD
          exact ih25 (i + 1) (by omega) (by omega) (fst_next hv (by omega) (if_neg (by assumption))) _ _ _ hP hD hS (lv_to (lv_sub (l' := [(2, .int (iI ((i : Int) + 1))), (0, .ref mo), (1, .int (iI r))]) hl [0, 1, 2] rfl) (by simp only [e1_0]))
  have e0_0 : (((0 : Nat) : Int)) = 0 := by first | rfl | omega
  exact LP25 (301 + 1) 0 (by omega) (by omega) rfl _ _ _ hP hD hS (lv_to (lv_sub (l' := [(2, .int (iI 0)), (0, .ref mo), (1, .int (iI r))]) hl [0, 1, 2] rfl) (by simp only [e0_0]))
set_option maxHeartbeats 4000000 in
set_option maxRecDepth 100000 in
theorem m_X3_rightFor_bad (l : Launch) (D : va_G) (mo : Nat) (am : Nat → Nat) (cI : ClassId) (S : Nat → Int → Int) (r : Int) (h1 : -2147483648 ≤ r ∧ r < 2147483648) (hb0 : r < 0 ∨ 5 < r)  : MW l D yX3_rightFor (wsY yX3_rightFor cX3_rightFor 3 (some .int)) { frames := 3, cells := 0, slots := 0, locals := 69 } [(cI, .int)] [.ref mo, .int (iI r)] (wM mo am cI S) (wM mo am cI S) (some (.int (iI (-1000001)))) := by
  refine mw_ofI (cc := cX3_rightFor) (maxL := 3) (by decide) rfl (Nat.le_of_ble_eq_true rfl) ?_
  intro p e s m below meth c R A Q args ls hx hb hml hown hts hRf hRl hRc hRs hN hK hP hD hS hA hret hl
  have hq : ∀ w ∈ ALL, w.before args s = true := fun w h => hts w (List.mem_cons_of_mem _ h)
  have hl : lv_has ls 3 [(0, .ref mo), (1, .int (iI r))] := hl
  refine lv_iload_n hx hb dX3_rightFor_0 rfl (lv_at hl 1 rfl) ?_
  refine mw_none (st1 := [.int (iI (if 0 ≤ r ∧ r ≤ 5 then 1 else 0 : Int))]) (mr_S (As := [.int (iI r)]) (rest := []) ⟨hx, hb, hml, hown, hts⟩ (m_X3_isRow l D r (by omega)) (va_cwS 1 hts (gS q_388 q_389 q_345 q_382) rfl rfl rfl (by decide +kernel) ⟨Nat.le_trans (m := 2) (Nat.le_of_ble_eq_true rfl) (Nat.le_trans (Nat.le_of_ble_eq_true rfl) hRf), Nat.le_trans (m := 42) (Nat.le_of_ble_eq_true rfl) (Nat.le_trans (Nat.le_of_ble_eq_true rfl) hRl)⟩) hN (hK.sub (tys' := []) [] rfl) (va_P0 _ _ _) (va_D0 A) rfl hl.1 (Nat.le_of_ble_eq_true rfl) ⟨hRc, hRs⟩ dX3_rightFor_1) hP hS hA rfl (fun H locs hP hS => ?_)
  refine z_if_ne (tgt := 10) hx hb dX3_rightFor_4 (by decide) (by omega) (fun c_1 => absurd c_1 (by omega)) (fun c_1 => ?_)
  refine z_ldc hx hb (-1000001) (by decide +kernel) hown (hq _ q_448) dX3_rightFor_7 ?_
  refine z_as (show (-1000001) = -1000001 from by first | rfl | omega) ?_
  first | exact hret _ _ _ _ dX3_rightFor_9 hP hD hS | (exfalso; omega)
set_option maxHeartbeats 4000000 in
set_option maxRecDepth 100000 in
theorem m_X3_undo (l : Launch) (D : va_G) (mo : Nat) (am : Nat → Nat) (cI : ClassId) (S : Nat → Int → Int) (hk : 1 ≤ S 4 0 ∧ S 4 0 ≤ 4)  : MW l D yX3_undo (wsY yX3_undo cX3_undo 1 (some .int)) { frames := 1, cells := 0, slots := 0, locals := 24 } [(cI, .int)] [.ref mo] (wM mo am cI S) (wM mo am cI (upG (setA S 0 (shfZ (S 3) (269 * (S 4 0 - 1)))) 4 0 (S 4 0 - 1))) (some (.int (iI (S 4 0 - 1)))) := by
  refine mw_ofI (cc := cX3_undo) (maxL := 1) (by decide) rfl (Nat.le_of_ble_eq_true rfl) ?_
  intro p e s m below meth c R A Q args ls hx hb hml hown hts hRf hRl hRc hRs hN hK hP hD hS hA hret hl
  have hq : ∀ w ∈ ALL, w.before args s = true := fun w h => hts w (List.mem_cons_of_mem _ h)
  have hl : lv_has ls 1 [(0, .ref mo)] := hl
  refine lv_aload_n hx hb dX3_undo_0 rfl (lv_at hl 0 rfl) ?_
  refine va_get (D := D) (ci := 3) (v := .int (iI (S 4 0))) (C := RX3) (T := TX3) (N := 14) hx hb hq inA3 hown hK hP 0 rfl rfl 4 (by decide) (hq _ q_376) (fun _ h9 => h9) rfl dX3_undo_1 ?_
  refine z_if_ne (tgt := 10) hx hb dX3_undo_4 (by decide) (by omega) (fun c_1 => ?_) (fun c_1 => absurd c_1 (by omega))
  refine lv_aload_n hx hb dX3_undo_10 rfl (lv_at hl 0 rfl) ?_
  refine lv_dup hx hb dX3_undo_11 rfl ?_
  refine va_get (D := D) (ci := 3) (v := .int (iI (S 4 0))) (C := RX3) (T := TX3) (N := 14) hx hb hq inA3 hown hK hP 0 rfl rfl 4 (by decide) (hq _ q_376) (fun _ h9 => h9) rfl dX3_undo_12 ?_
  refine z_iconst hx hb dX3_undo_15 ?_
  refine z_isub hx hb dX3_undo_16 ?_
  refine va_put (D := D) (ci := 3) (v := .int (iI ((S 4 0) - 1))) (ty := .int) (C := RX3) (T := TX3) (N := 14) hx hb hq inA3 tyX3 tyX3_ok nmX3 hown hK hP hD hS 0 rfl rfl 4 (by decide) (hq _ q_376) (fun _ h9 => h9) rfl (by decide +kernel) rfl rfl (Nat.le_of_ble_eq_true rfl) dX3_undo_17 (fun H locs hP hD hS => ?_)
  have hP : va_P D vwCl (wM mo am cI (upG S 4 0 ((S 4 0) - 1))) H := hP
  have hD : va_D A (wM mo am cI (upG S 4 0 ((S 4 0) - 1))) := hD
  refine lv_aload_n hx hb dX3_undo_20 rfl (lv_at hl 0 rfl) ?_
  refine va_get (D := D) (ci := 3) (v := .ref (am 3)) (C := RX3) (T := TX3) (N := 14) hx hb hq inA3 hown hK hP 0 rfl rfl 3 (by decide) (hq _ q_364) (fun _ h9 => h9) rfl dX3_undo_21 ?_
  refine z_sipush hx hb dX3_undo_24 (by decide +kernel) ?_
  refine lv_aload_n hx hb dX3_undo_27 rfl (lv_at hl 0 rfl) ?_
  refine va_get (D := D) (ci := 3) (v := .int (iI ((S 4 0) - 1))) (C := RX3) (T := TX3) (N := 14) hx hb hq inA3 hown hK hP 0 rfl rfl 4 (by decide) (hq _ q_376) (fun _ h9 => h9) rfl dX3_undo_28 ?_
  refine z_imul hx hb dX3_undo_31 ?_
  refine lv_aload_n hx hb dX3_undo_32 rfl (lv_at hl 0 rfl) ?_
  refine va_get (D := D) (ci := 3) (v := .ref (am 0)) (C := RX3) (T := TX3) (N := 14) hx hb hq inA3 hown hK hP 0 rfl rfl 0 (by decide) (hq _ q_338) (fun _ h9 => h9) rfl dX3_undo_33 ?_
  refine z_iconst hx hb dX3_undo_36 ?_
  obtain ⟨Cp37, hCp37⟩ : ∃ C : Int → Int, C = (cpZ (S 3) (S 0) (269 * ((S 4 0) - 1)) 0 269) := ⟨_, rfl⟩
  have mCp37 := (m_X3_copies l D (am 3) (am 0) cI 1076 269 (S 3) (S 0) (269 * ((S 4 0) - 1)) 0 (by omega) (by omega) (by omega))
  rw [← hCp37] at mCp37
  refine mw_part (st1 := []) (w1 := (wM mo am cI (setA (upG S 4 0 ((S 4 0) - 1)) 0 Cp37))) (mr_S (As := [.ref (am 3), .int (iI (269 * ((S 4 0) - 1))), .ref (am 0), .int (iI 0)]) (rest := []) ⟨hx, hb, hml, hown, hts⟩ mCp37 (va_cwS 4 hts (gS q_377 q_378 q_345 q_375) rfl rfl rfl (by decide +kernel) ⟨Nat.le_trans (m := 1) (Nat.le_of_ble_eq_true rfl) (Nat.le_trans (Nat.le_of_ble_eq_true rfl) hRf), Nat.le_trans (m := 24) (Nat.le_of_ble_eq_true rfl) (Nat.le_trans (Nat.le_of_ble_eq_true rfl) hRl)⟩) hN hK (hP.sub (ws' := [((am 3), .inl (cI, 1076, .inl (aI (S 3)))), ((am 0), .inl (cI, 269, .inl (aI (S 0))))]) [4, 1] rfl) (hD.sub (ws' := [((am 3), .inl (cI, 1076, .inl (aI (S 3)))), ((am 0), .inl (cI, 269, .inl (aI (S 0))))]) [4, 1] (by decide) rfl) rfl hl.1 (Nat.le_of_ble_eq_true rfl) ⟨hRc, hRs⟩ dX3_undo_37) hP hD hS hA [4, 1] [0, 2, 3, 5, 6] [0, 6, 1, 2, 5, 3, 4] rfl (wr := ([0, 2, 3, 5, 6].filterMap (fun iq_ => ((wM mo am cI (upG S 4 0 ((S 4 0) - 1))))[iq_]?))) rfl (by decide) (by decide) (by decide) rfl rfl (fun H locs hP hD hS => ?_)
  have hP : va_P D vwCl (wM mo am cI (setA (upG S 4 0 ((S 4 0) - 1)) 0 (shfZ (S 3) (269 * ((S 4 0) - 1))))) H := va_P_cell (ws := (wM mo am cI (upG S 4 0 ((S 4 0) - 1)))) (q1 := 1) (a := (am 0)) (c1 := cI) (n := 269) (f := aI Cp37) (g := aI (shfZ (S 3) (269 * ((S 4 0) - 1)))) hP (fun j hj => by rw [hCp37]; exact cp_fullA _ _ _ j hj)
  have hD : va_D A (wM mo am cI (setA (upG S 4 0 ((S 4 0) - 1)) 0 (shfZ (S 3) (269 * ((S 4 0) - 1))))) := va_D.set (p := 1) (a := (am 0)) (e := .inl (cI, 269, .inl (aI (shfZ (S 3) (269 * ((S 4 0) - 1)))))) hD rfl
  refine lv_aload_n hx hb dX3_undo_40 rfl (lv_at hl 0 rfl) ?_
  refine va_get (D := D) (ci := 3) (v := .int (iI ((S 4 0) - 1))) (C := RX3) (T := TX3) (N := 14) hx hb hq inA3 hown hK hP 0 rfl rfl 4 (by decide) (hq _ q_376) (fun _ h9 => h9) rfl dX3_undo_41 ?_
  refine z_as (show ((S 4 0) - 1) = S 4 0 - 1 from by first | rfl | omega) ?_
  have eW0 : upG (setA S 0 (shfZ (S 3) (269 * (S 4 0 - 1)))) 4 0 (S 4 0 - 1) = (setA (upG S 4 0 ((S 4 0) - 1)) 0 (shfZ (S 3) (269 * ((S 4 0) - 1)))) := by (funext k; simp only [upG, setA]; split <;> (try split) <;> simp_all)
  rw [← eW0] at hP hD
  first | exact hret _ _ _ _ dX3_undo_44 hP hD hS | (exfalso; omega)
set_option maxHeartbeats 4000000 in
set_option maxRecDepth 100000 in
theorem m_X3_undo_no (l : Launch) (D : va_G) (mo : Nat) (am : Nat → Nat) (cI : ClassId) (S : Nat → Int → Int) (hk : S 4 0 = 0)  : MW l D yX3_undo (wsY yX3_undo cX3_undo 1 (some .int)) { frames := 1, cells := 0, slots := 0, locals := 24 } [(cI, .int)] [.ref mo] (wM mo am cI S) (wM mo am cI S) (some (.int (iI (-1000002)))) := by
  refine mw_ofI (cc := cX3_undo) (maxL := 1) (by decide) rfl (Nat.le_of_ble_eq_true rfl) ?_
  intro p e s m below meth c R A Q args ls hx hb hml hown hts hRf hRl hRc hRs hN hK hP hD hS hA hret hl
  have hq : ∀ w ∈ ALL, w.before args s = true := fun w h => hts w (List.mem_cons_of_mem _ h)
  have hl : lv_has ls 1 [(0, .ref mo)] := hl
  refine lv_aload_n hx hb dX3_undo_0 rfl (lv_at hl 0 rfl) ?_
  refine va_get (D := D) (ci := 3) (v := .int (iI (S 4 0))) (C := RX3) (T := TX3) (N := 14) hx hb hq inA3 hown hK hP 0 rfl rfl 4 (by decide) (hq _ q_376) (fun _ h9 => h9) rfl dX3_undo_1 ?_
  refine z_if_ne (tgt := 10) hx hb dX3_undo_4 (by decide) (by omega) (fun c_1 => absurd c_1 (by omega)) (fun c_1 => ?_)
  refine z_ldc hx hb (-1000002) (by decide +kernel) hown (hq _ q_454) dX3_undo_7 ?_
  refine z_as (show (-1000002) = -1000002 from by first | rfl | omega) ?_
  first | exact hret _ _ _ _ dX3_undo_9 hP hD hS | (exfalso; omega)
