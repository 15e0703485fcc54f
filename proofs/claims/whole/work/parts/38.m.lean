set_option maxHeartbeats 4000000 in
set_option maxRecDepth 100000 in
theorem m_X3_copies (l : Launch) (D : va_G) (a b : Nat) (cI : ClassId) (na nb : Nat) (F T : Int → Int) (at0 by0 : Int) (h1 : 0 ≤ at0 ∧ at0 + 269 ≤ na) (h2 : 0 ≤ by0 ∧ by0 + 269 ≤ nb) (h3 : na < 2147483648 ∧ nb < 2147483648)  : MW l D yX3_copies (wsY yX3_copies cX3_copies 5 none) { frames := 0, cells := 0, slots := 0, locals := 0 } [(cI, .int)] [.ref a, .int (iI at0), .ref b, .int (iI by0)] [(a, .inl (cI, na, .inl (aI F))), (b, .inl (cI, nb, .inl (aI T)))] [(a, .inl (cI, na, .inl (aI F))), (b, .inl (cI, nb, .inl (aI (cpZ F T at0 by0 269))))] none := by
  refine mw_ofV (cc := cX3_copies) (maxL := 5) (by decide) rfl (Nat.le_of_ble_eq_true rfl) ?_
  intro p e s m below meth c R A Q args ls hx hb hml hown hts hRf hRl hRc hRs hN hK hP hD hS hA hret hl
  have hq : ∀ w ∈ ALL, w.before args s = true := fun w h => hts w (List.mem_cons_of_mem _ h)
  have hl : lv_has ls 5 [(0, .ref a), (1, .int (iI at0)), (2, .ref b), (3, .int (iI by0))] := hl
  refine z_iconst hx hb dX3_copies_0 ?_
  refine lv_istore (lv' := [(4, .int (iI 0)), (0, .ref a), (1, .int (iI at0)), (2, .ref b), (3, .int (iI by0))]) hx hb dX3_copies_1 hl (by decide) rfl (fun ls hl => ?_)
  have LP3 : ∀ (fu i : Nat), i ≤ 269 → 269 < fu + i → ∀ (H : Heap) (locs : List Loc) (ls : Array Slot), va_P D vwCl [(a, .inl (cI, na, .inl (aI F))), (b, .inl (cI, nb, .inl (aI (cpZ F T at0 by0 i))))] H → va_D A [(a, .inl (cI, na, .inl (aI F))), (b, .inl (cI, nb, .inl (aI (cpZ F T at0 by0 i))))] → va_S A s.heap H locs → lv_has ls 5 [(4, .int (iI (i : Int))), (0, .ref a), (1, .int (iI at0)), (2, .ref b), (3, .int (iI by0))] → W p l e R s m args below meth c H locs 0 0 Q (F0 m 3 ls []) := by
    intro fu
    induction fu with
    | zero => intro i h1 h2; omega
    | succ fu ih3 =>
      intro i hi1 hif H locs ls hP hD hS hl
      refine lv_iload hx hb dX3_copies_3 (lv_at hl 0 rfl) ?_
      refine z_sipush hx hb dX3_copies_5 (by decide +kernel) ?_
      refine z_icmp_ge (tgt := 29) hx hb dX3_copies_8 (by decide) (by omega) (by omega) (fun c_1 => ?_) (fun c_1 => ?_)
      · have hiN : i = 269 := by omega
        have eW0 : (cpZ F T at0 by0 269) = (cpZ F T at0 by0 i) := by (rw [hiN])
        rw [← eW0] at hP hD
        first | exact hret _ _ _ _ dX3_copies_29 hP hD hS | (exfalso; omega)
      · refine lv_aload_n hx hb dX3_copies_11 rfl (lv_at hl 3 rfl) ?_
        refine lv_iload_n hx hb dX3_copies_12 rfl (lv_at hl 4 rfl) ?_
        refine lv_iload hx hb dX3_copies_13 (lv_at hl 0 rfl) ?_
        refine z_iadd hx hb dX3_copies_15 ?_
        refine lv_aload_n hx hb dX3_copies_16 rfl (lv_at hl 1 rfl) ?_
        refine lv_iload_n hx hb dX3_copies_17 rfl (lv_at hl 2 rfl) ?_
        refine lv_iload hx hb dX3_copies_18 (lv_at hl 0 rfl) ?_
        refine z_iadd hx hb dX3_copies_20 ?_
        refine z_iald hx hb hK hP 0 0 rfl rfl (by omega) (by omega) (v := (F (at0 + (i : Int)))) rfl dX3_copies_21 ?_
        refine z_iast (w1 := [(a, .inl (cI, na, .inl (aI F))), (b, .inl (cI, nb, .inl (aI (upI (cpZ F T at0 by0 i) (by0 + (i : Int)) (F (at0 + (i : Int)))))))]) hx hb hK hP hD hS 1 0 rfl rfl (by omega) (by omega) rfl dX3_copies_22 (fun H locs hP hD hS => ?_)
        refine lv_iinc (v := iI ((i : Int) + 1)) (lv' := [(4, .int (iI ((i : Int) + 1))), (0, .ref a), (1, .int (iI at0)), (2, .ref b), (3, .int (iI by0))]) hx hb dX3_copies_23 hl (k := 0) rfl (iI_add _ _) (by decide) rfl (fun ls hl => ?_)
        refine lv_goto (tgt := 3) hx hb dX3_copies_26 (by decide) ?_
        have e1_0 : (((i + 1 : Nat) : Int)) = ((i : Int) + 1) := by first | rfl | omega
        have eG0 : (cpZ F T at0 by0 (i + 1)) = (upI (cpZ F T at0 by0 i) (by0 + (i : Int)) (F (at0 + (i : Int)))) := by rfl
        rw [← eG0] at hP hD
        exact ih3 (i + 1) (by omega) (by omega) _ _ _ hP hD hS (lv_to (lv_sub (l' := [(4, .int (iI ((i : Int) + 1))), (0, .ref a), (1, .int (iI at0)), (2, .ref b), (3, .int (iI by0))]) hl [0, 1, 2, 3, 4] rfl) (by simp only [e1_0]))
  have e0_0 : (((0 : Nat) : Int)) = 0 := by first | rfl | omega
  exact LP3 (269 + 1) 0 (by omega) (by omega) _ _ _ hP hD hS (lv_to (lv_sub (l' := [(4, .int (iI 0)), (0, .ref a), (1, .int (iI at0)), (2, .ref b), (3, .int (iI by0))]) hl [0, 1, 2, 3, 4] rfl) (by simp only [e0_0]))
set_option maxHeartbeats 4000000 in
set_option maxRecDepth 100000 in
theorem m_X3_records (l : Launch) (D : va_G) (mo : Nat) (am : Nat → Nat) (cI : ClassId) (S : Nat → Int → Int) (hk : 0 ≤ S 4 0 ∧ S 4 0 < 4)  : MW l D yX3_records (wsY yX3_records cX3_records 2 none) { frames := 1, cells := 0, slots := 0, locals := 24 } [(cI, .int)] [.ref mo] (wM mo am cI S) (wM mo am cI (recN S)) none := by
  refine mw_ofV (cc := cX3_records) (maxL := 2) (by decide) rfl (Nat.le_of_ble_eq_true rfl) ?_
  intro p e s m below meth c R A Q args ls hx hb hml hown hts hRf hRl hRc hRs hN hK hP hD hS hA hret hl
  have hq : ∀ w ∈ ALL, w.before args s = true := fun w h => hts w (List.mem_cons_of_mem _ h)
  have hl : lv_has ls 2 [(0, .ref mo)] := hl
  refine lv_aload_n hx hb dX3_records_0 rfl (lv_at hl 0 rfl) ?_
  refine va_get (D := D) (ci := 3) (v := .int (iI (S 4 0))) (C := RX3) (T := TX3) (N := 14) hx hb hq inA3 hown hK hP 0 rfl rfl 4 (by decide) (hq _ q_376) (fun _ h9 => h9) rfl dX3_records_1 ?_
  refine z_iconst hx hb dX3_records_4 ?_
  refine z_icmp_ne (tgt := 49) hx hb dX3_records_5 (by decide) (by omega) (by omega) (fun c_1 => ?_) (fun c_1 => absurd c_1 (by omega))
  refine lv_aload_n hx hb dX3_records_49 rfl (lv_at hl 0 rfl) ?_
  refine va_get (D := D) (ci := 3) (v := .ref (am 0)) (C := RX3) (T := TX3) (N := 14) hx hb hq inA3 hown hK hP 0 rfl rfl 0 (by decide) (hq _ q_338) (fun _ h9 => h9) rfl dX3_records_50 ?_
  refine z_iconst hx hb dX3_records_53 ?_
  refine lv_aload_n hx hb dX3_records_54 rfl (lv_at hl 0 rfl) ?_
  refine va_get (D := D) (ci := 3) (v := .ref (am 3)) (C := RX3) (T := TX3) (N := 14) hx hb hq inA3 hown hK hP 0 rfl rfl 3 (by decide) (hq _ q_364) (fun _ h9 => h9) rfl dX3_records_55 ?_
  refine z_sipush hx hb dX3_records_58 (by decide +kernel) ?_
  refine lv_aload_n hx hb dX3_records_61 rfl (lv_at hl 0 rfl) ?_
  refine va_get (D := D) (ci := 3) (v := .int (iI (S 4 0))) (C := RX3) (T := TX3) (N := 14) hx hb hq inA3 hown hK hP 0 rfl rfl 4 (by decide) (hq _ q_376) (fun _ h9 => h9) rfl dX3_records_62 ?_
  refine z_imul hx hb dX3_records_65 ?_
  obtain ⟨C_2, hC_2⟩ : ∃ C : Int → Int, C = (cpZ (S 0) (S 3) 0 (269 * (S 4 0)) 269) := ⟨_, rfl⟩
  have mC_2 := (m_X3_copies l D (am 0) (am 3) cI 269 1076 (S 0) (S 3) 0 (269 * (S 4 0)) (by omega) (by omega) (by omega))
  rw [← hC_2] at mC_2
  refine mw_part (st1 := []) (w1 := (wM mo am cI (setA S 3 C_2))) (mr_S (As := [.ref (am 0), .int (iI 0), .ref (am 3), .int (iI (269 * (S 4 0)))]) (rest := []) ⟨hx, hb, hml, hown, hts⟩ mC_2 (va_cwS 4 hts (gS q_377 q_378 q_345 q_375) rfl rfl rfl (by decide +kernel) ⟨Nat.le_trans (m := 1) (Nat.le_of_ble_eq_true rfl) (Nat.le_trans (Nat.le_of_ble_eq_true rfl) hRf), Nat.le_trans (m := 24) (Nat.le_of_ble_eq_true rfl) (Nat.le_trans (Nat.le_of_ble_eq_true rfl) hRl)⟩) hN hK (hP.sub (ws' := [((am 0), .inl (cI, 269, .inl (aI (S 0)))), ((am 3), .inl (cI, 1076, .inl (aI (S 3))))]) [1, 4] rfl) (hD.sub (ws' := [((am 0), .inl (cI, 269, .inl (aI (S 0)))), ((am 3), .inl (cI, 1076, .inl (aI (S 3))))]) [1, 4] (by decide) rfl) rfl hl.1 (Nat.le_of_ble_eq_true rfl) ⟨hRc, hRs⟩ dX3_records_66) hP hD hS hA [1, 4] [0, 2, 3, 5, 6] [0, 5, 1, 2, 6, 3, 4] rfl (wr := ([0, 2, 3, 5, 6].filterMap (fun i => ((wM mo am cI S))[i]?))) rfl (by decide) (by decide) (by decide) rfl rfl (fun H locs hP hD hS => ?_)
  refine lv_aload_n hx hb dX3_records_69 rfl (lv_at hl 0 rfl) ?_
  refine lv_dup hx hb dX3_records_70 rfl ?_
  refine va_get (D := D) (ci := 3) (v := .int (iI (S 4 0))) (C := RX3) (T := TX3) (N := 14) hx hb hq inA3 hown hK hP 0 rfl rfl 4 (by decide) (hq _ q_376) (fun _ h9 => h9) rfl dX3_records_71 ?_
  refine z_iconst hx hb dX3_records_74 ?_
  refine z_iadd hx hb dX3_records_75 ?_
  refine va_put (D := D) (ci := 3) (v := .int (iI ((S 4 0) + 1))) (ty := .int) (C := RX3) (T := TX3) (N := 14) hx hb hq inA3 tyX3 tyX3_ok nmX3 hown hK hP hD hS 0 rfl rfl 4 (by decide) (hq _ q_376) (fun _ h9 => h9) rfl (by decide +kernel) rfl rfl (Nat.le_of_ble_eq_true rfl) dX3_records_76 (fun H locs hP hD hS => ?_)
  have hP : va_P D vwCl (wM mo am cI (upG (setA S 3 C_2) 4 0 ((S 4 0) + 1))) H := hP
  have hD : va_D A (wM mo am cI (upG (setA S 3 C_2) 4 0 ((S 4 0) + 1))) := hD
  have eW0 : recN S = (upG (setA S 3 C_2) 4 0 ((S 4 0) + 1)) := by (rw [hC_2]; rfl)
  rw [← eW0] at hP hD
  first | exact hret _ _ _ _ dX3_records_79 hP hD hS | (exfalso; omega)
set_option maxHeartbeats 4000000 in
set_option maxRecDepth 100000 in
theorem m_X3_records_full (l : Launch) (D : va_G) (mo : Nat) (am : Nat → Nat) (cI : ClassId) (S : Nat → Int → Int) (hk : S 4 0 = 4)  : MW l D yX3_records (wsY yX3_records cX3_records 2 none) { frames := 1, cells := 0, slots := 0, locals := 24 } [(cI, .int)] [.ref mo] (wM mo am cI S) (wM mo am cI (recF S)) none := by
  refine mw_ofV (cc := cX3_records) (maxL := 2) (by decide) rfl (Nat.le_of_ble_eq_true rfl) ?_
  intro p e s m below meth c R A Q args ls hx hb hml hown hts hRf hRl hRc hRs hN hK hP hD hS hA hret hl
  have hq : ∀ w ∈ ALL, w.before args s = true := fun w h => hts w (List.mem_cons_of_mem _ h)
  have hl : lv_has ls 2 [(0, .ref mo)] := hl
  refine lv_aload_n hx hb dX3_records_0 rfl (lv_at hl 0 rfl) ?_
  refine va_get (D := D) (ci := 3) (v := .int (iI (S 4 0))) (C := RX3) (T := TX3) (N := 14) hx hb hq inA3 hown hK hP 0 rfl rfl 4 (by decide) (hq _ q_376) (fun _ h9 => h9) rfl dX3_records_1 ?_
  refine z_iconst hx hb dX3_records_4 ?_
  refine z_icmp_ne (tgt := 49) hx hb dX3_records_5 (by decide) (by omega) (by omega) (fun c_1 => absurd c_1 (by omega)) (fun c_1 => ?_)
  refine z_iconst hx hb dX3_records_8 ?_
  refine lv_istore_n (lv' := [(1, .int (iI 0)), (0, .ref mo)]) hx hb dX3_records_9 rfl hl (by decide) rfl (fun ls hl => ?_)
  have LP10 : ∀ (fu i : Nat), i ≤ 807 → 807 < fu + i → ∀ (H : Heap) (locs : List Loc) (ls : Array Slot), va_P D vwCl (wM mo am cI (setA S 3 (shZ (S 3) i))) H → va_D A (wM mo am cI (setA S 3 (shZ (S 3) i))) → va_S A s.heap H locs → lv_has ls 2 [(1, .int (iI (i : Int))), (0, .ref mo)] → W p l e R s m args below meth c H locs 0 0 Q (F0 m 10 ls []) := by
    intro fu
    induction fu with
    | zero => intro i h1 h2; omega
    | succ fu ih10 =>
      intro i hi1 hif H locs ls hP hD hS hl
      refine lv_iload_n hx hb dX3_records_10 rfl (lv_at hl 0 rfl) ?_
      refine z_sipush hx hb dX3_records_11 (by decide +kernel) ?_
      refine z_icmp_ge (tgt := 39) hx hb dX3_records_14 (by decide) (by omega) (by omega) (fun c_2 => ?_) (fun c_2 => ?_)
      · have hiN : i = 807 := by omega
        obtain ⟨P8, hP8⟩ : ∃ P8 : Int → Int, P8 = shZ (S 3) 807 := ⟨_, rfl⟩
        rw [hiN, ← hP8] at hP hD
        refine lv_aload_n hx hb dX3_records_39 rfl (lv_at hl 1 rfl) ?_
        refine lv_dup hx hb dX3_records_40 rfl ?_
        refine va_get (D := D) (ci := 3) (v := .int (iI (S 4 0))) (C := RX3) (T := TX3) (N := 14) hx hb hq inA3 hown hK hP 0 rfl rfl 4 (by decide) (hq _ q_376) (fun _ h9 => h9) rfl dX3_records_41 ?_
        refine z_iconst hx hb dX3_records_44 ?_
        refine z_isub hx hb dX3_records_45 ?_
        refine va_put (D := D) (ci := 3) (v := .int (iI ((S 4 0) - 1))) (ty := .int) (C := RX3) (T := TX3) (N := 14) hx hb hq inA3 tyX3 tyX3_ok nmX3 hown hK hP hD hS 0 rfl rfl 4 (by decide) (hq _ q_376) (fun _ h9 => h9) rfl (by decide +kernel) rfl rfl (Nat.le_of_ble_eq_true rfl) dX3_records_46 (fun H locs hP hD hS => ?_)
        have hP : va_P D vwCl (wM mo am cI (upG (setA S 3 P8) 4 0 ((S 4 0) - 1))) H := hP
        have hD : va_D A (wM mo am cI (upG (setA S 3 P8) 4 0 ((S 4 0) - 1))) := hD
        refine lv_aload_n hx hb dX3_records_49 rfl (lv_at hl 1 rfl) ?_
        refine va_get (D := D) (ci := 3) (v := .ref (am 0)) (C := RX3) (T := TX3) (N := 14) hx hb hq inA3 hown hK hP 0 rfl rfl 0 (by decide) (hq _ q_338) (fun _ h9 => h9) rfl dX3_records_50 ?_
        refine z_iconst hx hb dX3_records_53 ?_
        refine lv_aload_n hx hb dX3_records_54 rfl (lv_at hl 1 rfl) ?_
        refine va_get (D := D) (ci := 3) (v := .ref (am 3)) (C := RX3) (T := TX3) (N := 14) hx hb hq inA3 hown hK hP 0 rfl rfl 3 (by decide) (hq _ q_364) (fun _ h9 => h9) rfl dX3_records_55 ?_
        refine z_sipush hx hb dX3_records_58 (by decide +kernel) ?_
        refine lv_aload_n hx hb dX3_records_61 rfl (lv_at hl 1 rfl) ?_
        refine va_get (D := D) (ci := 3) (v := .int (iI ((S 4 0) - 1))) (C := RX3) (T := TX3) (N := 14) hx hb hq inA3 hown hK hP 0 rfl rfl 4 (by decide) (hq _ q_376) (fun _ h9 => h9) rfl dX3_records_62 ?_
        refine z_imul hx hb dX3_records_65 ?_
        obtain ⟨C_3, hC_3⟩ : ∃ C : Int → Int, C = (cpZ (S 0) P8 0 (269 * ((S 4 0) - 1)) 269) := ⟨_, rfl⟩
        have mC_3 := (m_X3_copies l D (am 0) (am 3) cI 269 1076 (S 0) P8 0 (269 * ((S 4 0) - 1)) (by omega) (by omega) (by omega))
        rw [← hC_3] at mC_3
        refine mw_part (st1 := []) (w1 := (wM mo am cI (setA (upG (setA S 3 P8) 4 0 ((S 4 0) - 1)) 3 C_3))) (mr_S (As := [.ref (am 0), .int (iI 0), .ref (am 3), .int (iI (269 * ((S 4 0) - 1)))]) (rest := []) ⟨hx, hb, hml, hown, hts⟩ mC_3 (va_cwS 4 hts (gS q_377 q_378 q_345 q_375) rfl rfl rfl (by decide +kernel) ⟨Nat.le_trans (m := 1) (Nat.le_of_ble_eq_true rfl) (Nat.le_trans (Nat.le_of_ble_eq_true rfl) hRf), Nat.le_trans (m := 24) (Nat.le_of_ble_eq_true rfl) (Nat.le_trans (Nat.le_of_ble_eq_true rfl) hRl)⟩) hN hK (hP.sub (ws' := [((am 0), .inl (cI, 269, .inl (aI (S 0)))), ((am 3), .inl (cI, 1076, .inl (aI P8)))]) [1, 4] rfl) (hD.sub (ws' := [((am 0), .inl (cI, 269, .inl (aI (S 0)))), ((am 3), .inl (cI, 1076, .inl (aI P8)))]) [1, 4] (by decide) rfl) rfl hl.1 (Nat.le_of_ble_eq_true rfl) ⟨hRc, hRs⟩ dX3_records_66) hP hD hS hA [1, 4] [0, 2, 3, 5, 6] [0, 5, 1, 2, 6, 3, 4] rfl (wr := ([0, 2, 3, 5, 6].filterMap (fun i => ((wM mo am cI (upG (setA S 3 P8) 4 0 ((S 4 0) - 1))))[i]?))) rfl (by decide) (by decide) (by decide) rfl rfl (fun H locs hP hD hS => ?_)
        refine lv_aload_n hx hb dX3_records_69 rfl (lv_at hl 1 rfl) ?_
        refine lv_dup hx hb dX3_records_70 rfl ?_
        refine va_get (D := D) (ci := 3) (v := .int (iI ((S 4 0) - 1))) (C := RX3) (T := TX3) (N := 14) hx hb hq inA3 hown hK hP 0 rfl rfl 4 (by decide) (hq _ q_376) (fun _ h9 => h9) rfl dX3_records_71 ?_
        refine z_iconst hx hb dX3_records_74 ?_
        refine z_iadd hx hb dX3_records_75 ?_
        refine va_put (D := D) (ci := 3) (v := .int (iI (((S 4 0) - 1) + 1))) (ty := .int) (C := RX3) (T := TX3) (N := 14) hx hb hq inA3 tyX3 tyX3_ok nmX3 hown hK hP hD hS 0 rfl rfl 4 (by decide) (hq _ q_376) (fun _ h9 => h9) rfl (by decide +kernel) rfl rfl (Nat.le_of_ble_eq_true rfl) dX3_records_76 (fun H locs hP hD hS => ?_)
        have hP : va_P D vwCl (wM mo am cI (upG (setA (setA S 3 P8) 3 C_3) 4 0 (((S 4 0) - 1) + 1))) H := hP
        have hD : va_D A (wM mo am cI (upG (setA (setA S 3 P8) 3 C_3) 4 0 (((S 4 0) - 1) + 1))) := hD
        have eW0 : recF S = (upG (setA (setA S 3 P8) 3 C_3) 4 0 (((S 4 0) - 1) + 1)) := by (rw [hC_3, hP8]; rfl)
        rw [← eW0] at hP hD
        first | exact hret _ _ _ _ dX3_records_79 hP hD hS | (exfalso; omega)
      · refine lv_aload_n hx hb dX3_records_17 rfl (lv_at hl 1 rfl) ?_
        refine va_get (D := D) (ci := 3) (v := .ref (am 3)) (C := RX3) (T := TX3) (N := 14) hx hb hq inA3 hown hK hP 0 rfl rfl 3 (by decide) (hq _ q_364) (fun _ h9 => h9) rfl dX3_records_18 ?_
        refine lv_iload_n hx hb dX3_records_21 rfl (lv_at hl 0 rfl) ?_
        refine lv_aload_n hx hb dX3_records_22 rfl (lv_at hl 1 rfl) ?_
        refine va_get (D := D) (ci := 3) (v := .ref (am 3)) (C := RX3) (T := TX3) (N := 14) hx hb hq inA3 hown hK hP 0 rfl rfl 3 (by decide) (hq _ q_364) (fun _ h9 => h9) rfl dX3_records_23 ?_
        refine lv_iload_n hx hb dX3_records_26 rfl (lv_at hl 0 rfl) ?_
        refine z_sipush hx hb dX3_records_27 (by decide +kernel) ?_
        refine z_iadd hx hb dX3_records_30 ?_
        refine z_iald hx hb hK hP 4 0 rfl rfl (by omega) (by omega) (v := (shZ (S 3) i ((i : Int) + 269))) rfl dX3_records_31 ?_
        refine z_iast (w1 := (wM mo am cI (upG (setA S 3 (shZ (S 3) i)) 3 (i : Int) (shZ (S 3) i ((i : Int) + 269))))) hx hb hK hP hD hS 4 0 rfl rfl (by omega) (by omega) (wM_set3 _ _ _ _ _ _) dX3_records_32 (fun H locs hP hD hS => ?_)
        refine lv_iinc (v := iI ((i : Int) + 1)) (lv' := [(1, .int (iI ((i : Int) + 1))), (0, .ref mo)]) hx hb dX3_records_33 hl (k := 0) rfl (iI_add _ _) (by decide) rfl (fun ls hl => ?_)
        refine lv_goto (tgt := 10) hx hb dX3_records_36 (by decide) ?_
        have e1_0 : (((i + 1 : Nat) : Int)) = ((i : Int) + 1) := by first | rfl | omega
        have eG0 : (setA S 3 (shZ (S 3) (i + 1))) = (upG (setA S 3 (shZ (S 3) i)) 3 (i : Int) (shZ (S 3) i ((i : Int) + 269))) := by (exact (upG_setA _ _ _ _ _).symm)
        rw [← eG0] at hP hD
        exact ih10 (i + 1) (by omega) (by omega) _ _ _ hP hD hS (lv_to (lv_sub (l' := [(1, .int (iI ((i : Int) + 1))), (0, .ref mo)]) hl [0, 1] rfl) (by simp only [e1_0]))
  have e0_0 : (((0 : Nat) : Int)) = 0 := by first | rfl | omega
  exact LP10 (807 + 1) 0 (by omega) (by omega) _ _ _ hP hD hS (lv_to (lv_sub (l' := [(1, .int (iI 0)), (0, .ref mo)]) hl [0, 1] rfl) (by simp only [e0_0]))
