set_option maxHeartbeats 4000000 in
set_option maxRecDepth 100000 in
theorem m_X3_type (l : Launch) (D : va_G) (mo : Nat) (am : Nat → Nat) (cI : ClassId) (S : Nat → Int → Int) (v : Int) (hT : InvS S) (h1 : 32 ≤ v ∧ v ≤ 126) (h2 : S 6 0 < 60)  : MW l D yX3_type (wsY yX3_type cX3_type 2 (some .int)) { frames := 1, cells := 0, slots := 0, locals := 22 } [(cI, .int)] [.ref mo, .int (iI v)] (wM mo am cI S) (wM mo am cI (upG (upG S 5 (S 6 0) v) 6 0 (S 6 0 + 1))) (some (.int (iI (S 6 0 + 1)))) := by
  refine mw_ofI (cc := cX3_type) (maxL := 2) (by decide) rfl (Nat.le_of_ble_eq_true rfl) ?_
  intro p e s m below meth c R A Q args ls hx hb hml hown hts hRf hRl hRc hRs hN hK hP hD hS hA hret hl
  have hq : ∀ w ∈ ALL, w.before args s = true := fun w h => hts w (List.mem_cons_of_mem _ h)
  have hl : lv_has ls 2 [(0, .ref mo), (1, .int (iI v))] := hl
  have hT1 := hT.1
  refine lv_iload_n hx hb dX3_type_0 rfl (lv_at hl 1 rfl) ?_
  refine z_bipush hx hb dX3_type_1 (by decide +kernel) ?_
  refine z_bipush hx hb dX3_type_3 (by decide +kernel) ?_
  refine mw_none (st1 := [.int (iI (if 32 ≤ v ∧ v ≤ 126 then 1 else 0 : Int))]) (mr_S (As := [.int (iI v), .int (iI 32), .int (iI 126)]) (rest := []) ⟨hx, hb, hml, hown, hts⟩ (m_X3_in l D v 32 126 (by omega) (by omega) (by omega)) (va_cwS 3 hts (gS q_380 q_381 q_345 q_374) rfl rfl rfl (by decide +kernel) ⟨Nat.le_trans (m := 1) (Nat.le_of_ble_eq_true rfl) (Nat.le_trans (Nat.le_of_ble_eq_true rfl) hRf), Nat.le_trans (m := 22) (Nat.le_of_ble_eq_true rfl) (Nat.le_trans (Nat.le_of_ble_eq_true rfl) hRl)⟩) hN (hK.sub (tys' := []) [] rfl) (va_P0 _ _ _) (va_D0 A) rfl hl.1 (Nat.le_of_ble_eq_true rfl) ⟨hRc, hRs⟩ dX3_type_5) hP hS hA rfl (fun H locs hP hS => ?_)
  refine z_if_ne (tgt := 14) hx hb dX3_type_8 (by decide) (by omega) (fun c_1 => ?_) (fun c_1 => ?_)
  · refine lv_aload_n hx hb dX3_type_14 rfl (lv_at hl 0 rfl) ?_
    refine va_get (D := D) (ci := 3) (v := .int (iI (S 6 0))) (C := RX3) (T := TX3) (N := 14) hx hb hq inA3 hown hK hP 0 rfl rfl 6 (by decide) (hq _ q_544) (fun _ h9 => h9) rfl dX3_type_15 ?_
    refine z_bipush hx hb dX3_type_18 (by decide +kernel) ?_
    refine z_icmp_ne (tgt := 26) hx hb dX3_type_20 (by decide) (by omega) (by omega) (fun c_2 => ?_) (fun c_2 => ?_)
    · refine lv_aload_n hx hb dX3_type_26 rfl (lv_at hl 0 rfl) ?_
      refine va_get (D := D) (ci := 3) (v := .ref (am 5)) (C := RX3) (T := TX3) (N := 14) hx hb hq inA3 hown hK hP 0 rfl rfl 5 (by decide) (hq _ q_365) (fun _ h9 => h9) rfl dX3_type_27 ?_
      refine lv_aload_n hx hb dX3_type_30 rfl (lv_at hl 0 rfl) ?_
      refine va_get (D := D) (ci := 3) (v := .int (iI (S 6 0))) (C := RX3) (T := TX3) (N := 14) hx hb hq inA3 hown hK hP 0 rfl rfl 6 (by decide) (hq _ q_544) (fun _ h9 => h9) rfl dX3_type_31 ?_
      refine lv_iload_n hx hb dX3_type_34 rfl (lv_at hl 1 rfl) ?_
      refine z_iast (w1 := (wM mo am cI (upG S 5 (S 6 0) v))) hx hb hK hP hD hS 5 0 rfl rfl (by omega) (by omega) (wM_set5 _ _ _ _ _ _) dX3_type_35 (fun H locs hP hD hS => ?_)
      refine lv_aload_n hx hb dX3_type_36 rfl (lv_at hl 0 rfl) ?_
      refine lv_dup hx hb dX3_type_37 rfl ?_
      refine va_get (D := D) (ci := 3) (v := .int (iI (S 6 0))) (C := RX3) (T := TX3) (N := 14) hx hb hq inA3 hown hK hP 0 rfl rfl 6 (by decide) (hq _ q_544) (fun _ h9 => h9) rfl dX3_type_38 ?_
      refine z_iconst hx hb dX3_type_41 ?_
      refine z_iadd hx hb dX3_type_42 ?_
      refine va_put (D := D) (ci := 3) (v := .int (iI ((S 6 0) + 1))) (ty := .int) (C := RX3) (T := TX3) (N := 14) hx hb hq inA3 tyX3 tyX3_ok nmX3 hown hK hP hD hS 0 rfl rfl 6 (by decide) (hq _ q_544) (fun _ h9 => h9) rfl (by decide +kernel) rfl rfl (Nat.le_of_ble_eq_true rfl) dX3_type_43 (fun H locs hP hD hS => ?_)
      have hP : va_P D vwCl (wM mo am cI (upG (upG S 5 (S 6 0) v) 6 0 ((S 6 0) + 1))) H := hP
      have hD : va_D A (wM mo am cI (upG (upG S 5 (S 6 0) v) 6 0 ((S 6 0) + 1))) := hD
      refine lv_aload_n hx hb dX3_type_46 rfl (lv_at hl 0 rfl) ?_
      refine va_get (D := D) (ci := 3) (v := .int (iI ((S 6 0) + 1))) (C := RX3) (T := TX3) (N := 14) hx hb hq inA3 hown hK hP 0 rfl rfl 6 (by decide) (hq _ q_544) (fun _ h9 => h9) rfl dX3_type_47 ?_
      refine z_as (show ((S 6 0) + 1) = S 6 0 + 1 from by first | rfl | omega) ?_
      first | exact hret _ _ _ _ dX3_type_50 hP hD hS | (exfalso; omega)
    · refine z_ldc hx hb (-1000003) (by decide +kernel) hown (hq _ q_458) dX3_type_23 ?_
      refine z_as (show (-1000003) = S 6 0 + 1 from by first | rfl | omega) ?_
      first | exact hret _ _ _ _ dX3_type_25 hP hD hS | (exfalso; omega)
  · refine z_ldc hx hb (-1000001) (by decide +kernel) hown (hq _ q_448) dX3_type_11 ?_
    refine z_as (show (-1000001) = S 6 0 + 1 from by first | rfl | omega) ?_
    first | exact hret _ _ _ _ dX3_type_13 hP hD hS | (exfalso; omega)
set_option maxHeartbeats 4000000 in
set_option maxRecDepth 100000 in
theorem m_X3_type_bad (l : Launch) (D : va_G) (mo : Nat) (am : Nat → Nat) (cI : ClassId) (S : Nat → Int → Int) (v : Int) (h1 : -2147483648 ≤ v ∧ v < 2147483648) (hb0 : v < 32 ∨ 126 < v)  : MW l D yX3_type (wsY yX3_type cX3_type 2 (some .int)) { frames := 1, cells := 0, slots := 0, locals := 22 } [(cI, .int)] [.ref mo, .int (iI v)] (wM mo am cI S) (wM mo am cI S) (some (.int (iI (-1000001)))) := by
  refine mw_ofI (cc := cX3_type) (maxL := 2) (by decide) rfl (Nat.le_of_ble_eq_true rfl) ?_
  intro p e s m below meth c R A Q args ls hx hb hml hown hts hRf hRl hRc hRs hN hK hP hD hS hA hret hl
  have hq : ∀ w ∈ ALL, w.before args s = true := fun w h => hts w (List.mem_cons_of_mem _ h)
  have hl : lv_has ls 2 [(0, .ref mo), (1, .int (iI v))] := hl
  refine lv_iload_n hx hb dX3_type_0 rfl (lv_at hl 1 rfl) ?_
  refine z_bipush hx hb dX3_type_1 (by decide +kernel) ?_
  refine z_bipush hx hb dX3_type_3 (by decide +kernel) ?_
  refine mw_none (st1 := [.int (iI (if 32 ≤ v ∧ v ≤ 126 then 1 else 0 : Int))]) (mr_S (As := [.int (iI v), .int (iI 32), .int (iI 126)]) (rest := []) ⟨hx, hb, hml, hown, hts⟩ (m_X3_in l D v 32 126 (by omega) (by omega) (by omega)) (va_cwS 3 hts (gS q_380 q_381 q_345 q_374) rfl rfl rfl (by decide +kernel) ⟨Nat.le_trans (m := 1) (Nat.le_of_ble_eq_true rfl) (Nat.le_trans (Nat.le_of_ble_eq_true rfl) hRf), Nat.le_trans (m := 22) (Nat.le_of_ble_eq_true rfl) (Nat.le_trans (Nat.le_of_ble_eq_true rfl) hRl)⟩) hN (hK.sub (tys' := []) [] rfl) (va_P0 _ _ _) (va_D0 A) rfl hl.1 (Nat.le_of_ble_eq_true rfl) ⟨hRc, hRs⟩ dX3_type_5) hP hS hA rfl (fun H locs hP hS => ?_)
  refine z_if_ne (tgt := 14) hx hb dX3_type_8 (by decide) (by omega) (fun c_1 => absurd c_1 (by omega)) (fun c_1 => ?_)
  refine z_ldc hx hb (-1000001) (by decide +kernel) hown (hq _ q_448) dX3_type_11 ?_
  refine z_as (show (-1000001) = -1000001 from by first | rfl | omega) ?_
  first | exact hret _ _ _ _ dX3_type_13 hP hD hS | (exfalso; omega)
set_option maxHeartbeats 4000000 in
set_option maxRecDepth 100000 in
theorem m_X3_type_full (l : Launch) (D : va_G) (mo : Nat) (am : Nat → Nat) (cI : ClassId) (S : Nat → Int → Int) (v : Int) (hT : InvS S) (h1 : 32 ≤ v ∧ v ≤ 126) (h2 : S 6 0 = 60)  : MW l D yX3_type (wsY yX3_type cX3_type 2 (some .int)) { frames := 1, cells := 0, slots := 0, locals := 22 } [(cI, .int)] [.ref mo, .int (iI v)] (wM mo am cI S) (wM mo am cI S) (some (.int (iI (-1000003)))) := by
  refine mw_ofI (cc := cX3_type) (maxL := 2) (by decide) rfl (Nat.le_of_ble_eq_true rfl) ?_
  intro p e s m below meth c R A Q args ls hx hb hml hown hts hRf hRl hRc hRs hN hK hP hD hS hA hret hl
  have hq : ∀ w ∈ ALL, w.before args s = true := fun w h => hts w (List.mem_cons_of_mem _ h)
  have hl : lv_has ls 2 [(0, .ref mo), (1, .int (iI v))] := hl
  have hT1 := hT.1
  refine lv_iload_n hx hb dX3_type_0 rfl (lv_at hl 1 rfl) ?_
  refine z_bipush hx hb dX3_type_1 (by decide +kernel) ?_
  refine z_bipush hx hb dX3_type_3 (by decide +kernel) ?_
  refine mw_none (st1 := [.int (iI (if 32 ≤ v ∧ v ≤ 126 then 1 else 0 : Int))]) (mr_S (As := [.int (iI v), .int (iI 32), .int (iI 126)]) (rest := []) ⟨hx, hb, hml, hown, hts⟩ (m_X3_in l D v 32 126 (by omega) (by omega) (by omega)) (va_cwS 3 hts (gS q_380 q_381 q_345 q_374) rfl rfl rfl (by decide +kernel) ⟨Nat.le_trans (m := 1) (Nat.le_of_ble_eq_true rfl) (Nat.le_trans (Nat.le_of_ble_eq_true rfl) hRf), Nat.le_trans (m := 22) (Nat.le_of_ble_eq_true rfl) (Nat.le_trans (Nat.le_of_ble_eq_true rfl) hRl)⟩) hN (hK.sub (tys' := []) [] rfl) (va_P0 _ _ _) (va_D0 A) rfl hl.1 (Nat.le_of_ble_eq_true rfl) ⟨hRc, hRs⟩ dX3_type_5) hP hS hA rfl (fun H locs hP hS => ?_)
  refine z_if_ne (tgt := 14) hx hb dX3_type_8 (by decide) (by omega) (fun c_1 => ?_) (fun c_1 => absurd c_1 (by omega))
  refine lv_aload_n hx hb dX3_type_14 rfl (lv_at hl 0 rfl) ?_
  refine va_get (D := D) (ci := 3) (v := .int (iI (S 6 0))) (C := RX3) (T := TX3) (N := 14) hx hb hq inA3 hown hK hP 0 rfl rfl 6 (by decide) (hq _ q_544) (fun _ h9 => h9) rfl dX3_type_15 ?_
  refine z_bipush hx hb dX3_type_18 (by decide +kernel) ?_
  refine z_icmp_ne (tgt := 26) hx hb dX3_type_20 (by decide) (by omega) (by omega) (fun c_2 => absurd c_2 (by omega)) (fun c_2 => ?_)
  refine z_ldc hx hb (-1000003) (by decide +kernel) hown (hq _ q_458) dX3_type_23 ?_
  refine z_as (show (-1000003) = -1000003 from by first | rfl | omega) ?_
  first | exact hret _ _ _ _ dX3_type_25 hP hD hS | (exfalso; omega)
set_option maxHeartbeats 4000000 in
set_option maxRecDepth 100000 in
theorem m_X3_clearText (l : Launch) (D : va_G) (mo : Nat) (am : Nat → Nat) (cI : ClassId) (S : Nat → Int → Int)  : MW l D yX3_clearText (wsY yX3_clearText cX3_clearText 2 (some .int)) { frames := 0, cells := 0, slots := 0, locals := 0 } [(cI, .int)] [.ref mo] (wM mo am cI S) (wM mo am cI (upG S 6 0 0)) (some (.int (iI (S 6 0)))) := by
  refine mw_ofI (cc := cX3_clearText) (maxL := 2) (by decide) rfl (Nat.le_of_ble_eq_true rfl) ?_
  intro p e s m below meth c R A Q args ls hx hb hml hown hts hRf hRl hRc hRs hN hK hP hD hS hA hret hl
  have hq : ∀ w ∈ ALL, w.before args s = true := fun w h => hts w (List.mem_cons_of_mem _ h)
  have hl : lv_has ls 2 [(0, .ref mo)] := hl
  refine lv_aload_n hx hb dX3_clearText_0 rfl (lv_at hl 0 rfl) ?_
  refine va_get (D := D) (ci := 3) (v := .int (iI (S 6 0))) (C := RX3) (T := TX3) (N := 14) hx hb hq inA3 hown hK hP 0 rfl rfl 6 (by decide) (hq _ q_544) (fun _ h9 => h9) rfl dX3_clearText_1 ?_
  refine lv_istore_n (lv' := [(1, .int (iI (S 6 0))), (0, .ref mo)]) hx hb dX3_clearText_4 rfl hl (by decide) rfl (fun ls hl => ?_)
  refine lv_aload_n hx hb dX3_clearText_5 rfl (lv_at hl 1 rfl) ?_
  refine z_iconst hx hb dX3_clearText_6 ?_
  refine va_put (D := D) (ci := 3) (v := .int (iI 0)) (ty := .int) (C := RX3) (T := TX3) (N := 14) hx hb hq inA3 tyX3 tyX3_ok nmX3 hown hK hP hD hS 0 rfl rfl 6 (by decide) (hq _ q_544) (fun _ h9 => h9) rfl (by decide +kernel) rfl rfl (Nat.le_of_ble_eq_true rfl) dX3_clearText_7 (fun H locs hP hD hS => ?_)
  have hP : va_P D vwCl (wM mo am cI (upG S 6 0 0)) H := hP
  have hD : va_D A (wM mo am cI (upG S 6 0 0)) := hD
  refine lv_iload_n hx hb dX3_clearText_10 rfl (lv_at hl 0 rfl) ?_
  refine z_as (show (S 6 0) = S 6 0 from by first | rfl | omega) ?_
  first | exact hret _ _ _ _ dX3_clearText_11 hP hD hS | (exfalso; omega)
set_option maxHeartbeats 4000000 in
set_option maxRecDepth 100000 in
theorem m_X3_here (l : Launch) (D : va_G) (mo : Nat) (am : Nat → Nat) (cI : ClassId) (S : Nat → Int → Int) (hT : InvS S) (h1 : 0 ≤ S 7 0 ∧ S 7 0 ≤ 1000)  : MW l D yX3_here (wsY yX3_here cX3_here 1 (some .int)) { frames := 0, cells := 0, slots := 0, locals := 0 } [(cI, .int)] [.ref mo] (wM mo am cI S) (wM mo am cI S) (some (.int (iI (chrZ (S 5) (S 6 0) (S 7 0))))) := by
  refine mw_ofI (cc := cX3_here) (maxL := 1) (by decide) rfl (Nat.le_of_ble_eq_true rfl) ?_
  intro p e s m below meth c R A Q args ls hx hb hml hown hts hRf hRl hRc hRs hN hK hP hD hS hA hret hl
  have hq : ∀ w ∈ ALL, w.before args s = true := fun w h => hts w (List.mem_cons_of_mem _ h)
  have hl : lv_has ls 1 [(0, .ref mo)] := hl
  have hT1 := hT.1
  refine lv_aload_n hx hb dX3_here_0 rfl (lv_at hl 0 rfl) ?_
  refine va_get (D := D) (ci := 3) (v := .int (iI (S 7 0))) (C := RX3) (T := TX3) (N := 14) hx hb hq inA3 hown hK hP 0 rfl rfl 7 (by decide) (hq _ q_563) (fun _ h9 => h9) rfl dX3_here_1 ?_
  refine lv_aload_n hx hb dX3_here_4 rfl (lv_at hl 0 rfl) ?_
  refine va_get (D := D) (ci := 3) (v := .int (iI (S 6 0))) (C := RX3) (T := TX3) (N := 14) hx hb hq inA3 hown hK hP 0 rfl rfl 6 (by decide) (hq _ q_544) (fun _ h9 => h9) rfl dX3_here_5 ?_
  refine z_icmp_ge (tgt := 23) hx hb dX3_here_8 (by decide) (by omega) (by omega) (fun c_1 => ?_) (fun c_1 => ?_)
  · refine z_iconst hx hb dX3_here_23 ?_
    refine z_as (show 0 = chrZ (S 5) (S 6 0) (S 7 0) from by first | rfl | omega | (unfold chrZ; omega) | (subst_vars; unfold chrZ; omega) | (subst_vars; simp [chrZ])) ?_
    first | exact hret _ _ _ _ dX3_here_24 hP hD hS | (exfalso; omega)
  · refine lv_aload_n hx hb dX3_here_11 rfl (lv_at hl 0 rfl) ?_
    refine va_get (D := D) (ci := 3) (v := .ref (am 5)) (C := RX3) (T := TX3) (N := 14) hx hb hq inA3 hown hK hP 0 rfl rfl 5 (by decide) (hq _ q_365) (fun _ h9 => h9) rfl dX3_here_12 ?_
    refine lv_aload_n hx hb dX3_here_15 rfl (lv_at hl 0 rfl) ?_
    refine va_get (D := D) (ci := 3) (v := .int (iI (S 7 0))) (C := RX3) (T := TX3) (N := 14) hx hb hq inA3 hown hK hP 0 rfl rfl 7 (by decide) (hq _ q_563) (fun _ h9 => h9) rfl dX3_here_16 ?_
    refine z_iald hx hb hK hP 5 0 rfl rfl (by omega) (by omega) (v := (S 5 (S 7 0))) rfl dX3_here_19 ?_
    refine lv_goto (tgt := 24) hx hb dX3_here_20 (by decide) ?_
    refine z_as (show (S 5 (S 7 0)) = chrZ (S 5) (S 6 0) (S 7 0) from by first | rfl | omega | (unfold chrZ; omega) | (subst_vars; unfold chrZ; omega) | (subst_vars; simp [chrZ])) ?_
    first | exact hret _ _ _ _ dX3_here_24 hP hD hS | (exfalso; omega)
set_option maxHeartbeats 4000000 in
set_option maxRecDepth 100000 in
theorem m_X3_takes (l : Launch) (D : va_G) (mo : Nat) (am : Nat → Nat) (cI : ClassId) (S : Nat → Int → Int) (mb : Int) (h1 : S 9 0 = 0 ∨ S 9 0 = 1) (h2 : mb = 0 ∨ mb = 1)  : MW l D yX3_takes (wsY yX3_takes cX3_takes 2 none) { frames := 0, cells := 0, slots := 0, locals := 0 } [(cI, .int)] [.ref mo, .int (iI mb)] (wM mo am cI S) (wM mo am cI (tkS S mb)) none := by
  refine mw_ofV (cc := cX3_takes) (maxL := 2) (by decide) rfl (Nat.le_of_ble_eq_true rfl) ?_
  intro p e s m below meth c R A Q args ls hx hb hml hown hts hRf hRl hRc hRs hN hK hP hD hS hA hret hl
  have hq : ∀ w ∈ ALL, w.before args s = true := fun w h => hts w (List.mem_cons_of_mem _ h)
  have hl : lv_has ls 2 [(0, .ref mo), (1, .int (iI mb))] := hl
  refine lv_aload_n hx hb dX3_takes_0 rfl (lv_at hl 0 rfl) ?_
  refine lv_aload_n hx hb dX3_takes_1 rfl (lv_at hl 0 rfl) ?_
  refine va_get (D := D) (ci := 3) (v := .int (iI (S 9 0))) (C := RX3) (T := TX3) (N := 14) hx hb hq inA3 hown hK hP 0 rfl rfl 9 (by decide) (hq _ q_565) (fun _ h9 => h9) rfl dX3_takes_2 ?_
  refine z_if_eq (tgt := 16) hx hb dX3_takes_5 (by decide) (by omega) (fun c_1 => ?_) (fun c_1 => ?_)
  · refine z_iconst hx hb dX3_takes_16 ?_
    refine va_put (D := D) (ci := 3) (v := .int (iI 0)) (ty := .boolean) (C := RX3) (T := TX3) (N := 14) hx hb hq inA3 tyX3 tyX3_ok nmX3 hown hK hP hD hS 0 rfl rfl 9 (by decide) (hq _ q_565) (fun _ h9 => h9) rfl (by decide +kernel) (narrow_z01 (by omega)) (fits_z01 (by omega)) (Nat.le_of_ble_eq_true rfl) dX3_takes_17 (fun H locs hP hD hS => ?_)
    have hP : va_P D vwCl (wM mo am cI (upG S 9 0 0)) H := hP
    have hD : va_D A (wM mo am cI (upG S 9 0 0)) := hD
    refine lv_aload_n hx hb dX3_takes_20 rfl (lv_at hl 0 rfl) ?_
    refine lv_dup hx hb dX3_takes_21 rfl ?_
    refine va_get (D := D) (ci := 3) (v := .int (iI (S 7 0))) (C := RX3) (T := TX3) (N := 14) hx hb hq inA3 hown hK hP 0 rfl rfl 7 (by decide) (hq _ q_563) (fun _ h9 => h9) rfl dX3_takes_22 ?_
    refine lv_aload_n hx hb dX3_takes_25 rfl (lv_at hl 0 rfl) ?_
    refine va_get (D := D) (ci := 3) (v := .int (iI 0)) (C := RX3) (T := TX3) (N := 14) hx hb hq inA3 hown hK hP 0 rfl rfl 9 (by decide) (hq _ q_565) (fun _ h9 => h9) rfl dX3_takes_26 ?_
    refine z_if_eq (tgt := 36) hx hb dX3_takes_29 (by decide) (by omega) (fun c_2 => ?_) (fun c_2 => absurd c_2 (by omega))
    refine z_iconst hx hb dX3_takes_36 ?_
    refine z_iadd hx hb dX3_takes_37 ?_
    refine va_put (D := D) (ci := 3) (v := .int (iI ((S 7 0) + 0))) (ty := .int) (C := RX3) (T := TX3) (N := 14) hx hb hq inA3 tyX3 tyX3_ok nmX3 hown hK hP hD hS 0 rfl rfl 7 (by decide) (hq _ q_563) (fun _ h9 => h9) rfl (by decide +kernel) rfl rfl (Nat.le_of_ble_eq_true rfl) dX3_takes_38 (fun H locs hP hD hS => ?_)
    have hP : va_P D vwCl (wM mo am cI (upG (upG S 9 0 0) 7 0 ((S 7 0) + 0))) H := hP
    have hD : va_D A (wM mo am cI (upG (upG S 9 0 0) 7 0 ((S 7 0) + 0))) := hD
    have eW0 : tkS S mb = (upG (upG S 9 0 0) 7 0 ((S 7 0) + 0)) := by (unfold tkS; split <;> first | (exfalso; omega) | rfl)
    rw [← eW0] at hP hD
    first | exact hret _ _ _ _ dX3_takes_41 hP hD hS | (exfalso; omega)
  · refine lv_iload_n hx hb dX3_takes_8 rfl (lv_at hl 1 rfl) ?_
    refine z_if_eq (tgt := 16) hx hb dX3_takes_9 (by decide) (by omega) (fun c_3 => ?_) (fun c_3 => ?_)
    · refine z_iconst hx hb dX3_takes_16 ?_
      refine va_put (D := D) (ci := 3) (v := .int (iI 0)) (ty := .boolean) (C := RX3) (T := TX3) (N := 14) hx hb hq inA3 tyX3 tyX3_ok nmX3 hown hK hP hD hS 0 rfl rfl 9 (by decide) (hq _ q_565) (fun _ h9 => h9) rfl (by decide +kernel) (narrow_z01 (by omega)) (fits_z01 (by omega)) (Nat.le_of_ble_eq_true rfl) dX3_takes_17 (fun H locs hP hD hS => ?_)
      have hP : va_P D vwCl (wM mo am cI (upG S 9 0 0)) H := hP
      have hD : va_D A (wM mo am cI (upG S 9 0 0)) := hD
      refine lv_aload_n hx hb dX3_takes_20 rfl (lv_at hl 0 rfl) ?_
      refine lv_dup hx hb dX3_takes_21 rfl ?_
      refine va_get (D := D) (ci := 3) (v := .int (iI (S 7 0))) (C := RX3) (T := TX3) (N := 14) hx hb hq inA3 hown hK hP 0 rfl rfl 7 (by decide) (hq _ q_563) (fun _ h9 => h9) rfl dX3_takes_22 ?_
      refine lv_aload_n hx hb dX3_takes_25 rfl (lv_at hl 0 rfl) ?_
      refine va_get (D := D) (ci := 3) (v := .int (iI 0)) (C := RX3) (T := TX3) (N := 14) hx hb hq inA3 hown hK hP 0 rfl rfl 9 (by decide) (hq _ q_565) (fun _ h9 => h9) rfl dX3_takes_26 ?_
      refine z_if_eq (tgt := 36) hx hb dX3_takes_29 (by decide) (by omega) (fun c_4 => ?_) (fun c_4 => absurd c_4 (by omega))
      refine z_iconst hx hb dX3_takes_36 ?_
      refine z_iadd hx hb dX3_takes_37 ?_
      refine va_put (D := D) (ci := 3) (v := .int (iI ((S 7 0) + 0))) (ty := .int) (C := RX3) (T := TX3) (N := 14) hx hb hq inA3 tyX3 tyX3_ok nmX3 hown hK hP hD hS 0 rfl rfl 7 (by decide) (hq _ q_563) (fun _ h9 => h9) rfl (by decide +kernel) rfl rfl (Nat.le_of_ble_eq_true rfl) dX3_takes_38 (fun H locs hP hD hS => ?_)
      have hP : va_P D vwCl (wM mo am cI (upG (upG S 9 0 0) 7 0 ((S 7 0) + 0))) H := hP
      have hD : va_D A (wM mo am cI (upG (upG S 9 0 0) 7 0 ((S 7 0) + 0))) := hD
      have eW0 : tkS S mb = (upG (upG S 9 0 0) 7 0 ((S 7 0) + 0)) := by (unfold tkS; split <;> first | (exfalso; omega) | rfl)
      rw [← eW0] at hP hD
      first | exact hret _ _ _ _ dX3_takes_41 hP hD hS | (exfalso; omega)
    · refine z_iconst hx hb dX3_takes_12 ?_
      refine lv_goto (tgt := 17) hx hb dX3_takes_13 (by decide) ?_
      refine va_put (D := D) (ci := 3) (v := .int (iI 1)) (ty := .boolean) (C := RX3) (T := TX3) (N := 14) hx hb hq inA3 tyX3 tyX3_ok nmX3 hown hK hP hD hS 0 rfl rfl 9 (by decide) (hq _ q_565) (fun _ h9 => h9) rfl (by decide +kernel) (narrow_z01 (by omega)) (fits_z01 (by omega)) (Nat.le_of_ble_eq_true rfl) dX3_takes_17 (fun H locs hP hD hS => ?_)
      have hP : va_P D vwCl (wM mo am cI (upG S 9 0 1)) H := hP
      have hD : va_D A (wM mo am cI (upG S 9 0 1)) := hD
      refine lv_aload_n hx hb dX3_takes_20 rfl (lv_at hl 0 rfl) ?_
      refine lv_dup hx hb dX3_takes_21 rfl ?_
      refine va_get (D := D) (ci := 3) (v := .int (iI (S 7 0))) (C := RX3) (T := TX3) (N := 14) hx hb hq inA3 hown hK hP 0 rfl rfl 7 (by decide) (hq _ q_563) (fun _ h9 => h9) rfl dX3_takes_22 ?_
      refine lv_aload_n hx hb dX3_takes_25 rfl (lv_at hl 0 rfl) ?_
      refine va_get (D := D) (ci := 3) (v := .int (iI 1)) (C := RX3) (T := TX3) (N := 14) hx hb hq inA3 hown hK hP 0 rfl rfl 9 (by decide) (hq _ q_565) (fun _ h9 => h9) rfl dX3_takes_26 ?_
      refine z_if_eq (tgt := 36) hx hb dX3_takes_29 (by decide) (by omega) (fun c_5 => absurd c_5 (by omega)) (fun c_5 => ?_)
      refine z_iconst hx hb dX3_takes_32 ?_
      refine lv_goto (tgt := 37) hx hb dX3_takes_33 (by decide) ?_
      refine z_iadd hx hb dX3_takes_37 ?_
      refine va_put (D := D) (ci := 3) (v := .int (iI ((S 7 0) + 1))) (ty := .int) (C := RX3) (T := TX3) (N := 14) hx hb hq inA3 tyX3 tyX3_ok nmX3 hown hK hP hD hS 0 rfl rfl 7 (by decide) (hq _ q_563) (fun _ h9 => h9) rfl (by decide +kernel) rfl rfl (Nat.le_of_ble_eq_true rfl) dX3_takes_38 (fun H locs hP hD hS => ?_)
      have hP : va_P D vwCl (wM mo am cI (upG (upG S 9 0 1) 7 0 ((S 7 0) + 1))) H := hP
      have hD : va_D A (wM mo am cI (upG (upG S 9 0 1) 7 0 ((S 7 0) + 1))) := hD
      have eW0 : tkS S mb = (upG (upG S 9 0 1) 7 0 ((S 7 0) + 1)) := by (unfold tkS; split <;> first | (exfalso; omega) | rfl)
      rw [← eW0] at hP hD
      first | exact hret _ _ _ _ dX3_takes_41 hP hD hS | (exfalso; omega)
set_option maxHeartbeats 4000000 in
set_option maxRecDepth 100000 in
theorem m_X3_takesNumber (l : Launch) (D : va_G) (mo : Nat) (am : Nat → Nat) (cI : ClassId) (S : Nat → Int → Int) (k2 : Int) (hT : InvS S) (h1 : S 9 0 = 0 ∨ S 9 0 = 1) (h2 : 0 ≤ S 7 0 ∧ S 7 0 ≤ 900) (h3 : 0 ≤ k2 ∧ k2 ≤ 2)  : MW l D yX3_takesNumber (wsY yX3_takesNumber cX3_takesNumber 4 none) { frames := 1, cells := 0, slots := 0, locals := 22 } [(cI, .int)] [.ref mo, .int (iI k2)] (wM mo am cI S) (wM mo am cI (tnS S k2)) none := by
  refine mw_ofV (cc := cX3_takesNumber) (maxL := 4) (by decide) rfl (Nat.le_of_ble_eq_true rfl) ?_
  intro p e s m below meth c R A Q args ls hx hb hml hown hts hRf hRl hRc hRs hN hK hP hD hS hA hret hl
  have hq : ∀ w ∈ ALL, w.before args s = true := fun w h => hts w (List.mem_cons_of_mem _ h)
  have hl : lv_has ls 4 [(0, .ref mo), (1, .int (iI k2))] := hl
  have hT1 := hT.1
  refine z_iconst hx hb dX3_takesNumber_0 ?_
  refine lv_istore_n (lv' := [(2, .int (iI 0)), (0, .ref mo), (1, .int (iI k2))]) hx hb dX3_takesNumber_1 rfl hl (by decide) rfl (fun ls hl => ?_)
  refine z_iconst hx hb dX3_takesNumber_2 ?_
  refine lv_istore_n (lv' := [(3, .int (iI 0)), (2, .int (iI 0)), (0, .ref mo), (1, .int (iI k2))]) hx hb dX3_takesNumber_3 rfl hl (by decide) rfl (fun ls hl => ?_)
  refine lv_aload_n hx hb dX3_takesNumber_4 rfl (lv_at hl 2 rfl) ?_
  refine va_get (D := D) (ci := 3) (v := .int (iI (S 9 0))) (C := RX3) (T := TX3) (N := 14) hx hb hq inA3 hown hK hP 0 rfl rfl 9 (by decide) (hq _ q_565) (fun _ h9 => h9) rfl dX3_takesNumber_5 ?_
  refine z_if_eq (tgt := 59) hx hb dX3_takesNumber_8 (by decide) (by omega) (fun c_1 => ?_) (fun c_1 => ?_)
  · refine lv_aload_n hx hb dX3_takesNumber_59 rfl (lv_at hl 2 rfl) ?_
    refine lv_aload_n hx hb dX3_takesNumber_60 rfl (lv_at hl 2 rfl) ?_
    refine va_get (D := D) (ci := 3) (v := .int (iI (S 9 0))) (C := RX3) (T := TX3) (N := 14) hx hb hq inA3 hown hK hP 0 rfl rfl 9 (by decide) (hq _ q_565) (fun _ h9 => h9) rfl dX3_takesNumber_61 ?_
    refine z_if_eq (tgt := 75) hx hb dX3_takesNumber_64 (by decide) (by omega) (fun c_2 => ?_) (fun c_2 => absurd c_2 (by omega))
    refine z_iconst hx hb dX3_takesNumber_75 ?_
    refine va_put (D := D) (ci := 3) (v := .int (iI 0)) (ty := .boolean) (C := RX3) (T := TX3) (N := 14) hx hb hq inA3 tyX3 tyX3_ok nmX3 hown hK hP hD hS 0 rfl rfl 9 (by decide) (hq _ q_565) (fun _ h9 => h9) rfl (by decide +kernel) (narrow_z01 (by omega)) (fits_z01 (by omega)) (Nat.le_of_ble_eq_true rfl) dX3_takesNumber_76 (fun H locs hP hD hS => ?_)
    have hP : va_P D vwCl (wM mo am cI (upG S 9 0 0)) H := hP
    have hD : va_D A (wM mo am cI (upG S 9 0 0)) := hD
    refine lv_aload_n hx hb dX3_takesNumber_79 rfl (lv_at hl 2 rfl) ?_
    refine va_get (D := D) (ci := 3) (v := .ref (am 11)) (C := RX3) (T := TX3) (N := 14) hx hb hq inA3 hown hK hP 0 rfl rfl 11 (by decide) (hq _ q_366) (fun _ h9 => h9) rfl dX3_takesNumber_80 ?_
    refine lv_iload_n hx hb dX3_takesNumber_83 rfl (lv_at hl 3 rfl) ?_
    refine lv_iload_n hx hb dX3_takesNumber_84 rfl (lv_at hl 1 rfl) ?_
    refine z_iast (w1 := (wM mo am cI (upG (upG S 9 0 0) 11 k2 0))) hx hb hK hP hD hS 6 0 rfl rfl (by omega) (by omega) (wM_set11 _ _ _ _ _ _) dX3_takesNumber_85 (fun H locs hP hD hS => ?_)
    have eW0 : tnS S k2 = (upG (upG S 9 0 0) 11 k2 0) := by (unfold tnS digZ; (repeat' split) <;> first | (exfalso; omega) | rfl)
    rw [← eW0] at hP hD
    first | exact hret _ _ _ _ dX3_takesNumber_86 hP hD hS | (exfalso; omega)
  · refine lv_iload_n hx hb dX3_takesNumber_11 rfl (lv_at hl 0 rfl) ?_
    refine z_iconst hx hb dX3_takesNumber_12 ?_
    refine z_icmp_ge (tgt := 59) hx hb dX3_takesNumber_13 (by decide) (by omega) (by omega) (fun c_3 => absurd c_3 (by omega)) (fun c_3 => ?_)
    refine lv_aload_n hx hb dX3_takesNumber_16 rfl (lv_at hl 2 rfl) ?_
    refine mw_full (st1 := [.int (iI (chrZ (S 5) (S 6 0) (S 7 0)))]) (mr_V (As := []) (rest := []) (ci := 3) (q0 := 0) ⟨hx, hb, hml, hown, hts⟩ (m_X3_here l D mo am cI S  hT (show 0 ≤ (S 7 0) ∧ (S 7 0) ≤ 1000 by omega)) (cwV 0 hts (gV q_567 q_568 q_569 q_345 q_564) rfl rfl rfl (by decide +kernel) ⟨Nat.le_trans (m := 1) (Nat.le_of_ble_eq_true rfl) (Nat.le_trans (Nat.le_of_ble_eq_true rfl) hRf), Nat.le_trans (m := 20) (Nat.le_of_ble_eq_true rfl) (Nat.le_trans (Nat.le_of_ble_eq_true rfl) hRl)⟩) hN hK hP hD rfl rfl rfl hl.1 (Nat.le_of_ble_eq_true rfl) ⟨hRc, hRs⟩ dX3_takesNumber_17) hD hS hA rfl (fun H locs hP hD hS => ?_)
    have hf_4 := chrS_bd hT (S 7 0)
    refine z_bipush hx hb dX3_takesNumber_20 (by decide +kernel) ?_
    refine z_bipush hx hb dX3_takesNumber_22 (by decide +kernel) ?_
    refine mw_none (st1 := [.int (iI (if 48 ≤ (chrZ (S 5) (S 6 0) (S 7 0)) ∧ (chrZ (S 5) (S 6 0) (S 7 0)) ≤ 57 then 1 else 0 : Int))]) (mr_S (As := [.int (iI (chrZ (S 5) (S 6 0) (S 7 0))), .int (iI 48), .int (iI 57)]) (rest := []) ⟨hx, hb, hml, hown, hts⟩ (m_X3_in l D (chrZ (S 5) (S 6 0) (S 7 0)) 48 57 (by omega) (by omega) (by omega)) (va_cwS 3 hts (gS q_380 q_381 q_345 q_374) rfl rfl rfl (by decide +kernel) ⟨Nat.le_trans (m := 1) (Nat.le_of_ble_eq_true rfl) (Nat.le_trans (Nat.le_of_ble_eq_true rfl) hRf), Nat.le_trans (m := 22) (Nat.le_of_ble_eq_true rfl) (Nat.le_trans (Nat.le_of_ble_eq_true rfl) hRl)⟩) hN (hK.sub (tys' := []) [] rfl) (va_P0 _ _ _) (va_D0 A) rfl hl.1 (Nat.le_of_ble_eq_true rfl) ⟨hRc, hRs⟩ dX3_takesNumber_24) hP hS hA rfl (fun H locs hP hS => ?_)
    refine z_if_eq (tgt := 59) hx hb dX3_takesNumber_27 (by decide) (by omega) (fun c_5 => ?_) (fun c_5 => ?_)
    · refine lv_aload_n hx hb dX3_takesNumber_59 rfl (lv_at hl 2 rfl) ?_
      refine lv_aload_n hx hb dX3_takesNumber_60 rfl (lv_at hl 2 rfl) ?_
      refine va_get (D := D) (ci := 3) (v := .int (iI (S 9 0))) (C := RX3) (T := TX3) (N := 14) hx hb hq inA3 hown hK hP 0 rfl rfl 9 (by decide) (hq _ q_565) (fun _ h9 => h9) rfl dX3_takesNumber_61 ?_
      refine z_if_eq (tgt := 75) hx hb dX3_takesNumber_64 (by decide) (by omega) (fun c_6 => absurd c_6 (by omega)) (fun c_6 => ?_)
      refine lv_iload_n hx hb dX3_takesNumber_67 rfl (lv_at hl 0 rfl) ?_
      refine z_if_le (tgt := 75) hx hb dX3_takesNumber_68 (by decide) (by omega) (fun c_7 => ?_) (fun c_7 => absurd c_7 (by omega))
      refine z_iconst hx hb dX3_takesNumber_75 ?_
      refine va_put (D := D) (ci := 3) (v := .int (iI 0)) (ty := .boolean) (C := RX3) (T := TX3) (N := 14) hx hb hq inA3 tyX3 tyX3_ok nmX3 hown hK hP hD hS 0 rfl rfl 9 (by decide) (hq _ q_565) (fun _ h9 => h9) rfl (by decide +kernel) (narrow_z01 (by omega)) (fits_z01 (by omega)) (Nat.le_of_ble_eq_true rfl) dX3_takesNumber_76 (fun H locs hP hD hS => ?_)
      have hP : va_P D vwCl (wM mo am cI (upG S 9 0 0)) H := hP
      have hD : va_D A (wM mo am cI (upG S 9 0 0)) := hD
      refine lv_aload_n hx hb dX3_takesNumber_79 rfl (lv_at hl 2 rfl) ?_
      refine va_get (D := D) (ci := 3) (v := .ref (am 11)) (C := RX3) (T := TX3) (N := 14) hx hb hq inA3 hown hK hP 0 rfl rfl 11 (by decide) (hq _ q_366) (fun _ h9 => h9) rfl dX3_takesNumber_80 ?_
      refine lv_iload_n hx hb dX3_takesNumber_83 rfl (lv_at hl 3 rfl) ?_
      refine lv_iload_n hx hb dX3_takesNumber_84 rfl (lv_at hl 1 rfl) ?_
      refine z_iast (w1 := (wM mo am cI (upG (upG S 9 0 0) 11 k2 0))) hx hb hK hP hD hS 6 0 rfl rfl (by omega) (by omega) (wM_set11 _ _ _ _ _ _) dX3_takesNumber_85 (fun H locs hP hD hS => ?_)
      have eW0 : tnS S k2 = (upG (upG S 9 0 0) 11 k2 0) := by (unfold tnS digZ; (repeat' split) <;> first | (exfalso; omega) | rfl)
      rw [← eW0] at hP hD
      first | exact hret _ _ _ _ dX3_takesNumber_86 hP hD hS | (exfalso; omega)
    · refine z_bipush hx hb dX3_takesNumber_30 (by decide +kernel) ?_
      refine lv_iload_n hx hb dX3_takesNumber_32 rfl (lv_at hl 1 rfl) ?_
      refine z_imul hx hb dX3_takesNumber_33 ?_
      refine z_as (show ((10 * 0) : Int) = 0 from rfl) ?_
      refine lv_aload_n hx hb dX3_takesNumber_34 rfl (lv_at hl 2 rfl) ?_
      refine mw_full (st1 := [.int (iI (chrZ (S 5) (S 6 0) (S 7 0))), .int (iI 0)]) (mr_V (As := []) (rest := [.int (iI 0)]) (ci := 3) (q0 := 0) ⟨hx, hb, hml, hown, hts⟩ (m_X3_here l D mo am cI S  hT (show 0 ≤ (S 7 0) ∧ (S 7 0) ≤ 1000 by omega)) (cwV 0 hts (gV q_567 q_568 q_569 q_345 q_564) rfl rfl rfl (by decide +kernel) ⟨Nat.le_trans (m := 1) (Nat.le_of_ble_eq_true rfl) (Nat.le_trans (Nat.le_of_ble_eq_true rfl) hRf), Nat.le_trans (m := 20) (Nat.le_of_ble_eq_true rfl) (Nat.le_trans (Nat.le_of_ble_eq_true rfl) hRl)⟩) hN hK hP hD rfl rfl rfl hl.1 (Nat.le_of_ble_eq_true rfl) ⟨hRc, hRs⟩ dX3_takesNumber_35) hD hS hA rfl (fun H locs hP hD hS => ?_)
      have hf_8 := chrS_bd hT (S 7 0)
      refine z_iadd hx hb dX3_takesNumber_38 ?_
      refine z_bipush hx hb dX3_takesNumber_39 (by decide +kernel) ?_
      refine z_isub hx hb dX3_takesNumber_41 ?_
      refine lv_istore_n (lv' := [(2, .int (iI ((0 + chrZ (S 5) (S 6 0) (S 7 0)) - 48))), (3, .int (iI 0)), (0, .ref mo), (1, .int (iI k2))]) hx hb dX3_takesNumber_42 rfl hl (by decide) rfl (fun ls hl => ?_)
      refine lv_iinc (v := iI 1) (lv' := [(3, .int (iI 1)), (2, .int (iI ((0 + chrZ (S 5) (S 6 0) (S 7 0)) - 48))), (0, .ref mo), (1, .int (iI k2))]) hx hb dX3_takesNumber_43 hl (k := 1) rfl (by decide +kernel) (by decide) rfl (fun ls hl => ?_)
      refine lv_aload_n hx hb dX3_takesNumber_46 rfl (lv_at hl 2 rfl) ?_
      refine lv_dup hx hb dX3_takesNumber_47 rfl ?_
      refine va_get (D := D) (ci := 3) (v := .int (iI (S 7 0))) (C := RX3) (T := TX3) (N := 14) hx hb hq inA3 hown hK hP 0 rfl rfl 7 (by decide) (hq _ q_563) (fun _ h9 => h9) rfl dX3_takesNumber_48 ?_
      refine z_iconst hx hb dX3_takesNumber_51 ?_
      refine z_iadd hx hb dX3_takesNumber_52 ?_
      refine va_put (D := D) (ci := 3) (v := .int (iI ((S 7 0) + 1))) (ty := .int) (C := RX3) (T := TX3) (N := 14) hx hb hq inA3 tyX3 tyX3_ok nmX3 hown hK hP hD hS 0 rfl rfl 7 (by decide) (hq _ q_563) (fun _ h9 => h9) rfl (by decide +kernel) rfl rfl (Nat.le_of_ble_eq_true rfl) dX3_takesNumber_53 (fun H locs hP hD hS => ?_)
      have hP : va_P D vwCl (wM mo am cI (upG S 7 0 ((S 7 0) + 1))) H := hP
      have hD : va_D A (wM mo am cI (upG S 7 0 ((S 7 0) + 1))) := hD
      refine lv_goto (tgt := 4) hx hb dX3_takesNumber_56 (by decide) ?_
      refine lv_aload_n hx hb dX3_takesNumber_4 rfl (lv_at hl 2 rfl) ?_
      refine va_get (D := D) (ci := 3) (v := .int (iI (S 9 0))) (C := RX3) (T := TX3) (N := 14) hx hb hq inA3 hown hK hP 0 rfl rfl 9 (by decide) (hq _ q_565) (fun _ h9 => h9) rfl dX3_takesNumber_5 ?_
      refine z_if_eq (tgt := 59) hx hb dX3_takesNumber_8 (by decide) (by omega) (fun c_9 => absurd c_9 (by omega)) (fun c_9 => ?_)
      refine lv_iload_n hx hb dX3_takesNumber_11 rfl (lv_at hl 0 rfl) ?_
      refine z_iconst hx hb dX3_takesNumber_12 ?_
      refine z_icmp_ge (tgt := 59) hx hb dX3_takesNumber_13 (by decide) (by omega) (by omega) (fun c_10 => absurd c_10 (by omega)) (fun c_10 => ?_)
      refine lv_aload_n hx hb dX3_takesNumber_16 rfl (lv_at hl 2 rfl) ?_
      refine mw_full (st1 := [.int (iI (chrZ (S 5) (S 6 0) ((S 7 0) + 1)))]) (mr_V (As := []) (rest := []) (ci := 3) (q0 := 0) ⟨hx, hb, hml, hown, hts⟩ (m_X3_here l D mo am cI (upG S 7 0 ((S 7 0) + 1))  hT (show 0 ≤ ((S 7 0) + 1) ∧ ((S 7 0) + 1) ≤ 1000 by omega)) (cwV 0 hts (gV q_567 q_568 q_569 q_345 q_564) rfl rfl rfl (by decide +kernel) ⟨Nat.le_trans (m := 1) (Nat.le_of_ble_eq_true rfl) (Nat.le_trans (Nat.le_of_ble_eq_true rfl) hRf), Nat.le_trans (m := 20) (Nat.le_of_ble_eq_true rfl) (Nat.le_trans (Nat.le_of_ble_eq_true rfl) hRl)⟩) hN hK hP hD rfl rfl rfl hl.1 (Nat.le_of_ble_eq_true rfl) ⟨hRc, hRs⟩ dX3_takesNumber_17) hD hS hA rfl (fun H locs hP hD hS => ?_)
      have hf_11 := chrS_bd hT ((S 7 0) + 1)
      refine z_bipush hx hb dX3_takesNumber_20 (by decide +kernel) ?_
      refine z_bipush hx hb dX3_takesNumber_22 (by decide +kernel) ?_
      refine mw_none (st1 := [.int (iI (if 48 ≤ (chrZ (S 5) (S 6 0) ((S 7 0) + 1)) ∧ (chrZ (S 5) (S 6 0) ((S 7 0) + 1)) ≤ 57 then 1 else 0 : Int))]) (mr_S (As := [.int (iI (chrZ (S 5) (S 6 0) ((S 7 0) + 1))), .int (iI 48), .int (iI 57)]) (rest := []) ⟨hx, hb, hml, hown, hts⟩ (m_X3_in l D (chrZ (S 5) (S 6 0) ((S 7 0) + 1)) 48 57 (by omega) (by omega) (by omega)) (va_cwS 3 hts (gS q_380 q_381 q_345 q_374) rfl rfl rfl (by decide +kernel) ⟨Nat.le_trans (m := 1) (Nat.le_of_ble_eq_true rfl) (Nat.le_trans (Nat.le_of_ble_eq_true rfl) hRf), Nat.le_trans (m := 22) (Nat.le_of_ble_eq_true rfl) (Nat.le_trans (Nat.le_of_ble_eq_true rfl) hRl)⟩) hN (hK.sub (tys' := []) [] rfl) (va_P0 _ _ _) (va_D0 A) rfl hl.1 (Nat.le_of_ble_eq_true rfl) ⟨hRc, hRs⟩ dX3_takesNumber_24) hP hS hA rfl (fun H locs hP hS => ?_)
      refine z_if_eq (tgt := 59) hx hb dX3_takesNumber_27 (by decide) (by omega) (fun c_12 => ?_) (fun c_12 => ?_)
      · refine lv_aload_n hx hb dX3_takesNumber_59 rfl (lv_at hl 2 rfl) ?_
        refine lv_aload_n hx hb dX3_takesNumber_60 rfl (lv_at hl 2 rfl) ?_
        refine va_get (D := D) (ci := 3) (v := .int (iI (S 9 0))) (C := RX3) (T := TX3) (N := 14) hx hb hq inA3 hown hK hP 0 rfl rfl 9 (by decide) (hq _ q_565) (fun _ h9 => h9) rfl dX3_takesNumber_61 ?_
        refine z_if_eq (tgt := 75) hx hb dX3_takesNumber_64 (by decide) (by omega) (fun c_13 => absurd c_13 (by omega)) (fun c_13 => ?_)
        refine lv_iload_n hx hb dX3_takesNumber_67 rfl (lv_at hl 0 rfl) ?_
        refine z_if_le (tgt := 75) hx hb dX3_takesNumber_68 (by decide) (by omega) (fun c_14 => absurd c_14 (by omega)) (fun c_14 => ?_)
        refine z_iconst hx hb dX3_takesNumber_71 ?_
        refine lv_goto (tgt := 76) hx hb dX3_takesNumber_72 (by decide) ?_
        refine va_put (D := D) (ci := 3) (v := .int (iI 1)) (ty := .boolean) (C := RX3) (T := TX3) (N := 14) hx hb hq inA3 tyX3 tyX3_ok nmX3 hown hK hP hD hS 0 rfl rfl 9 (by decide) (hq _ q_565) (fun _ h9 => h9) rfl (by decide +kernel) (narrow_z01 (by omega)) (fits_z01 (by omega)) (Nat.le_of_ble_eq_true rfl) dX3_takesNumber_76 (fun H locs hP hD hS => ?_)
        have hP : va_P D vwCl (wM mo am cI (upG (upG S 7 0 ((S 7 0) + 1)) 9 0 1)) H := hP
        have hD : va_D A (wM mo am cI (upG (upG S 7 0 ((S 7 0) + 1)) 9 0 1)) := hD
        refine lv_aload_n hx hb dX3_takesNumber_79 rfl (lv_at hl 2 rfl) ?_
        refine va_get (D := D) (ci := 3) (v := .ref (am 11)) (C := RX3) (T := TX3) (N := 14) hx hb hq inA3 hown hK hP 0 rfl rfl 11 (by decide) (hq _ q_366) (fun _ h9 => h9) rfl dX3_takesNumber_80 ?_
        refine lv_iload_n hx hb dX3_takesNumber_83 rfl (lv_at hl 3 rfl) ?_
        refine lv_iload_n hx hb dX3_takesNumber_84 rfl (lv_at hl 1 rfl) ?_
        refine z_iast (w1 := (wM mo am cI (upG (upG (upG S 7 0 ((S 7 0) + 1)) 9 0 1) 11 k2 ((0 + chrZ (S 5) (S 6 0) (S 7 0)) - 48)))) hx hb hK hP hD hS 6 0 rfl rfl (by omega) (by omega) (wM_set11 _ _ _ _ _ _) dX3_takesNumber_85 (fun H locs hP hD hS => ?_)
        have eW0 : tnS S k2 = (upG (upG (upG S 7 0 ((S 7 0) + 1)) 9 0 1) 11 k2 ((0 + chrZ (S 5) (S 6 0) (S 7 0)) - 48)) := by (unfold tnS digZ; (repeat' split) <;> first | (exfalso; omega) | rfl)
        rw [← eW0] at hP hD
        first | exact hret _ _ _ _ dX3_takesNumber_86 hP hD hS | (exfalso; omega)
      · refine z_bipush hx hb dX3_takesNumber_30 (by decide +kernel) ?_
        refine lv_iload_n hx hb dX3_takesNumber_32 rfl (lv_at hl 1 rfl) ?_
        refine z_imul hx hb dX3_takesNumber_33 ?_
        refine lv_aload_n hx hb dX3_takesNumber_34 rfl (lv_at hl 2 rfl) ?_
        refine mw_full (st1 := [.int (iI (chrZ (S 5) (S 6 0) ((S 7 0) + 1))), .int (iI (10 * ((0 + chrZ (S 5) (S 6 0) (S 7 0)) - 48)))]) (mr_V (As := []) (rest := [.int (iI (10 * ((0 + chrZ (S 5) (S 6 0) (S 7 0)) - 48)))]) (ci := 3) (q0 := 0) ⟨hx, hb, hml, hown, hts⟩ (m_X3_here l D mo am cI (upG S 7 0 ((S 7 0) + 1))  hT (show 0 ≤ ((S 7 0) + 1) ∧ ((S 7 0) + 1) ≤ 1000 by omega)) (cwV 0 hts (gV q_567 q_568 q_569 q_345 q_564) rfl rfl rfl (by decide +kernel) ⟨Nat.le_trans (m := 1) (Nat.le_of_ble_eq_true rfl) (Nat.le_trans (Nat.le_of_ble_eq_true rfl) hRf), Nat.le_trans (m := 20) (Nat.le_of_ble_eq_true rfl) (Nat.le_trans (Nat.le_of_ble_eq_true rfl) hRl)⟩) hN hK hP hD rfl rfl rfl hl.1 (Nat.le_of_ble_eq_true rfl) ⟨hRc, hRs⟩ dX3_takesNumber_35) hD hS hA rfl (fun H locs hP hD hS => ?_)
        have hf_15 := chrS_bd hT ((S 7 0) + 1)
        refine z_iadd hx hb dX3_takesNumber_38 ?_
        refine z_bipush hx hb dX3_takesNumber_39 (by decide +kernel) ?_
        refine z_isub hx hb dX3_takesNumber_41 ?_
        refine lv_istore_n (lv' := [(2, .int (iI (((10 * ((0 + chrZ (S 5) (S 6 0) (S 7 0)) - 48)) + chrZ (S 5) (S 6 0) ((S 7 0) + 1)) - 48))), (3, .int (iI 1)), (0, .ref mo), (1, .int (iI k2))]) hx hb dX3_takesNumber_42 rfl hl (by decide) rfl (fun ls hl => ?_)
        refine lv_iinc (v := iI 2) (lv' := [(3, .int (iI 2)), (2, .int (iI (((10 * ((0 + chrZ (S 5) (S 6 0) (S 7 0)) - 48)) + chrZ (S 5) (S 6 0) ((S 7 0) + 1)) - 48))), (0, .ref mo), (1, .int (iI k2))]) hx hb dX3_takesNumber_43 hl (k := 1) rfl (by decide +kernel) (by decide) rfl (fun ls hl => ?_)
        refine lv_aload_n hx hb dX3_takesNumber_46 rfl (lv_at hl 2 rfl) ?_
        refine lv_dup hx hb dX3_takesNumber_47 rfl ?_
        refine va_get (D := D) (ci := 3) (v := .int (iI ((S 7 0) + 1))) (C := RX3) (T := TX3) (N := 14) hx hb hq inA3 hown hK hP 0 rfl rfl 7 (by decide) (hq _ q_563) (fun _ h9 => h9) rfl dX3_takesNumber_48 ?_
        refine z_iconst hx hb dX3_takesNumber_51 ?_
        refine z_iadd hx hb dX3_takesNumber_52 ?_
        refine va_put (D := D) (ci := 3) (v := .int (iI (((S 7 0) + 1) + 1))) (ty := .int) (C := RX3) (T := TX3) (N := 14) hx hb hq inA3 tyX3 tyX3_ok nmX3 hown hK hP hD hS 0 rfl rfl 7 (by decide) (hq _ q_563) (fun _ h9 => h9) rfl (by decide +kernel) rfl rfl (Nat.le_of_ble_eq_true rfl) dX3_takesNumber_53 (fun H locs hP hD hS => ?_)
        have hP : va_P D vwCl (wM mo am cI (upG S 7 0 (((S 7 0) + 1) + 1))) H := hP
        have hD : va_D A (wM mo am cI (upG S 7 0 (((S 7 0) + 1) + 1))) := hD
        refine lv_goto (tgt := 4) hx hb dX3_takesNumber_56 (by decide) ?_
        refine lv_aload_n hx hb dX3_takesNumber_4 rfl (lv_at hl 2 rfl) ?_
        refine va_get (D := D) (ci := 3) (v := .int (iI (S 9 0))) (C := RX3) (T := TX3) (N := 14) hx hb hq inA3 hown hK hP 0 rfl rfl 9 (by decide) (hq _ q_565) (fun _ h9 => h9) rfl dX3_takesNumber_5 ?_
        refine z_if_eq (tgt := 59) hx hb dX3_takesNumber_8 (by decide) (by omega) (fun c_16 => absurd c_16 (by omega)) (fun c_16 => ?_)
        refine lv_iload_n hx hb dX3_takesNumber_11 rfl (lv_at hl 0 rfl) ?_
        refine z_iconst hx hb dX3_takesNumber_12 ?_
        refine z_icmp_ge (tgt := 59) hx hb dX3_takesNumber_13 (by decide) (by omega) (by omega) (fun c_17 => absurd c_17 (by omega)) (fun c_17 => ?_)
        refine lv_aload_n hx hb dX3_takesNumber_16 rfl (lv_at hl 2 rfl) ?_
        refine mw_full (st1 := [.int (iI (chrZ (S 5) (S 6 0) (((S 7 0) + 1) + 1)))]) (mr_V (As := []) (rest := []) (ci := 3) (q0 := 0) ⟨hx, hb, hml, hown, hts⟩ (m_X3_here l D mo am cI (upG S 7 0 (((S 7 0) + 1) + 1))  hT (show 0 ≤ (((S 7 0) + 1) + 1) ∧ (((S 7 0) + 1) + 1) ≤ 1000 by omega)) (cwV 0 hts (gV q_567 q_568 q_569 q_345 q_564) rfl rfl rfl (by decide +kernel) ⟨Nat.le_trans (m := 1) (Nat.le_of_ble_eq_true rfl) (Nat.le_trans (Nat.le_of_ble_eq_true rfl) hRf), Nat.le_trans (m := 20) (Nat.le_of_ble_eq_true rfl) (Nat.le_trans (Nat.le_of_ble_eq_true rfl) hRl)⟩) hN hK hP hD rfl rfl rfl hl.1 (Nat.le_of_ble_eq_true rfl) ⟨hRc, hRs⟩ dX3_takesNumber_17) hD hS hA rfl (fun H locs hP hD hS => ?_)
        have hf_18 := chrS_bd hT (((S 7 0) + 1) + 1)
        refine z_bipush hx hb dX3_takesNumber_20 (by decide +kernel) ?_
        refine z_bipush hx hb dX3_takesNumber_22 (by decide +kernel) ?_
        refine mw_none (st1 := [.int (iI (if 48 ≤ (chrZ (S 5) (S 6 0) (((S 7 0) + 1) + 1)) ∧ (chrZ (S 5) (S 6 0) (((S 7 0) + 1) + 1)) ≤ 57 then 1 else 0 : Int))]) (mr_S (As := [.int (iI (chrZ (S 5) (S 6 0) (((S 7 0) + 1) + 1))), .int (iI 48), .int (iI 57)]) (rest := []) ⟨hx, hb, hml, hown, hts⟩ (m_X3_in l D (chrZ (S 5) (S 6 0) (((S 7 0) + 1) + 1)) 48 57 (by omega) (by omega) (by omega)) (va_cwS 3 hts (gS q_380 q_381 q_345 q_374) rfl rfl rfl (by decide +kernel) ⟨Nat.le_trans (m := 1) (Nat.le_of_ble_eq_true rfl) (Nat.le_trans (Nat.le_of_ble_eq_true rfl) hRf), Nat.le_trans (m := 22) (Nat.le_of_ble_eq_true rfl) (Nat.le_trans (Nat.le_of_ble_eq_true rfl) hRl)⟩) hN (hK.sub (tys' := []) [] rfl) (va_P0 _ _ _) (va_D0 A) rfl hl.1 (Nat.le_of_ble_eq_true rfl) ⟨hRc, hRs⟩ dX3_takesNumber_24) hP hS hA rfl (fun H locs hP hS => ?_)
        refine z_if_eq (tgt := 59) hx hb dX3_takesNumber_27 (by decide) (by omega) (fun c_19 => ?_) (fun c_19 => ?_)
        · refine lv_aload_n hx hb dX3_takesNumber_59 rfl (lv_at hl 2 rfl) ?_
          refine lv_aload_n hx hb dX3_takesNumber_60 rfl (lv_at hl 2 rfl) ?_
          refine va_get (D := D) (ci := 3) (v := .int (iI (S 9 0))) (C := RX3) (T := TX3) (N := 14) hx hb hq inA3 hown hK hP 0 rfl rfl 9 (by decide) (hq _ q_565) (fun _ h9 => h9) rfl dX3_takesNumber_61 ?_
          refine z_if_eq (tgt := 75) hx hb dX3_takesNumber_64 (by decide) (by omega) (fun c_20 => absurd c_20 (by omega)) (fun c_20 => ?_)
          refine lv_iload_n hx hb dX3_takesNumber_67 rfl (lv_at hl 0 rfl) ?_
          refine z_if_le (tgt := 75) hx hb dX3_takesNumber_68 (by decide) (by omega) (fun c_21 => absurd c_21 (by omega)) (fun c_21 => ?_)
          refine z_iconst hx hb dX3_takesNumber_71 ?_
          refine lv_goto (tgt := 76) hx hb dX3_takesNumber_72 (by decide) ?_
          refine va_put (D := D) (ci := 3) (v := .int (iI 1)) (ty := .boolean) (C := RX3) (T := TX3) (N := 14) hx hb hq inA3 tyX3 tyX3_ok nmX3 hown hK hP hD hS 0 rfl rfl 9 (by decide) (hq _ q_565) (fun _ h9 => h9) rfl (by decide +kernel) (narrow_z01 (by omega)) (fits_z01 (by omega)) (Nat.le_of_ble_eq_true rfl) dX3_takesNumber_76 (fun H locs hP hD hS => ?_)
          have hP : va_P D vwCl (wM mo am cI (upG (upG S 7 0 (((S 7 0) + 1) + 1)) 9 0 1)) H := hP
          have hD : va_D A (wM mo am cI (upG (upG S 7 0 (((S 7 0) + 1) + 1)) 9 0 1)) := hD
          refine lv_aload_n hx hb dX3_takesNumber_79 rfl (lv_at hl 2 rfl) ?_
          refine va_get (D := D) (ci := 3) (v := .ref (am 11)) (C := RX3) (T := TX3) (N := 14) hx hb hq inA3 hown hK hP 0 rfl rfl 11 (by decide) (hq _ q_366) (fun _ h9 => h9) rfl dX3_takesNumber_80 ?_
          refine lv_iload_n hx hb dX3_takesNumber_83 rfl (lv_at hl 3 rfl) ?_
          refine lv_iload_n hx hb dX3_takesNumber_84 rfl (lv_at hl 1 rfl) ?_
          refine z_iast (w1 := (wM mo am cI (upG (upG (upG S 7 0 (((S 7 0) + 1) + 1)) 9 0 1) 11 k2 (((10 * ((0 + chrZ (S 5) (S 6 0) (S 7 0)) - 48)) + chrZ (S 5) (S 6 0) ((S 7 0) + 1)) - 48)))) hx hb hK hP hD hS 6 0 rfl rfl (by omega) (by omega) (wM_set11 _ _ _ _ _ _) dX3_takesNumber_85 (fun H locs hP hD hS => ?_)
          have eW0 : tnS S k2 = (upG (upG (upG S 7 0 (((S 7 0) + 1) + 1)) 9 0 1) 11 k2 (((10 * ((0 + chrZ (S 5) (S 6 0) (S 7 0)) - 48)) + chrZ (S 5) (S 6 0) ((S 7 0) + 1)) - 48)) := by (unfold tnS digZ; (repeat' split) <;> first | (exfalso; omega) | rfl)
          rw [← eW0] at hP hD
          first | exact hret _ _ _ _ dX3_takesNumber_86 hP hD hS | (exfalso; omega)
        · refine z_bipush hx hb dX3_takesNumber_30 (by decide +kernel) ?_
          refine lv_iload_n hx hb dX3_takesNumber_32 rfl (lv_at hl 1 rfl) ?_
          refine z_imul hx hb dX3_takesNumber_33 ?_
          refine lv_aload_n hx hb dX3_takesNumber_34 rfl (lv_at hl 2 rfl) ?_
          refine mw_full (st1 := [.int (iI (chrZ (S 5) (S 6 0) (((S 7 0) + 1) + 1))), .int (iI (10 * (((10 * ((0 + chrZ (S 5) (S 6 0) (S 7 0)) - 48)) + chrZ (S 5) (S 6 0) ((S 7 0) + 1)) - 48)))]) (mr_V (As := []) (rest := [.int (iI (10 * (((10 * ((0 + chrZ (S 5) (S 6 0) (S 7 0)) - 48)) + chrZ (S 5) (S 6 0) ((S 7 0) + 1)) - 48)))]) (ci := 3) (q0 := 0) ⟨hx, hb, hml, hown, hts⟩ (m_X3_here l D mo am cI (upG S 7 0 (((S 7 0) + 1) + 1))  hT (show 0 ≤ (((S 7 0) + 1) + 1) ∧ (((S 7 0) + 1) + 1) ≤ 1000 by omega)) (cwV 0 hts (gV q_567 q_568 q_569 q_345 q_564) rfl rfl rfl (by decide +kernel) ⟨Nat.le_trans (m := 1) (Nat.le_of_ble_eq_true rfl) (Nat.le_trans (Nat.le_of_ble_eq_true rfl) hRf), Nat.le_trans (m := 20) (Nat.le_of_ble_eq_true rfl) (Nat.le_trans (Nat.le_of_ble_eq_true rfl) hRl)⟩) hN hK hP hD rfl rfl rfl hl.1 (Nat.le_of_ble_eq_true rfl) ⟨hRc, hRs⟩ dX3_takesNumber_35) hD hS hA rfl (fun H locs hP hD hS => ?_)
          have hf_22 := chrS_bd hT (((S 7 0) + 1) + 1)
          refine z_iadd hx hb dX3_takesNumber_38 ?_
          refine z_bipush hx hb dX3_takesNumber_39 (by decide +kernel) ?_
          refine z_isub hx hb dX3_takesNumber_41 ?_
          refine lv_istore_n (lv' := [(2, .int (iI (((10 * (((10 * ((0 + chrZ (S 5) (S 6 0) (S 7 0)) - 48)) + chrZ (S 5) (S 6 0) ((S 7 0) + 1)) - 48)) + chrZ (S 5) (S 6 0) (((S 7 0) + 1) + 1)) - 48))), (3, .int (iI 2)), (0, .ref mo), (1, .int (iI k2))]) hx hb dX3_takesNumber_42 rfl hl (by decide) rfl (fun ls hl => ?_)
          refine lv_iinc (v := iI 3) (lv' := [(3, .int (iI 3)), (2, .int (iI (((10 * (((10 * ((0 + chrZ (S 5) (S 6 0) (S 7 0)) - 48)) + chrZ (S 5) (S 6 0) ((S 7 0) + 1)) - 48)) + chrZ (S 5) (S 6 0) (((S 7 0) + 1) + 1)) - 48))), (0, .ref mo), (1, .int (iI k2))]) hx hb dX3_takesNumber_43 hl (k := 1) rfl (by decide +kernel) (by decide) rfl (fun ls hl => ?_)
          refine lv_aload_n hx hb dX3_takesNumber_46 rfl (lv_at hl 2 rfl) ?_
          refine lv_dup hx hb dX3_takesNumber_47 rfl ?_
          refine va_get (D := D) (ci := 3) (v := .int (iI (((S 7 0) + 1) + 1))) (C := RX3) (T := TX3) (N := 14) hx hb hq inA3 hown hK hP 0 rfl rfl 7 (by decide) (hq _ q_563) (fun _ h9 => h9) rfl dX3_takesNumber_48 ?_
          refine z_iconst hx hb dX3_takesNumber_51 ?_
          refine z_iadd hx hb dX3_takesNumber_52 ?_
          refine va_put (D := D) (ci := 3) (v := .int (iI ((((S 7 0) + 1) + 1) + 1))) (ty := .int) (C := RX3) (T := TX3) (N := 14) hx hb hq inA3 tyX3 tyX3_ok nmX3 hown hK hP hD hS 0 rfl rfl 7 (by decide) (hq _ q_563) (fun _ h9 => h9) rfl (by decide +kernel) rfl rfl (Nat.le_of_ble_eq_true rfl) dX3_takesNumber_53 (fun H locs hP hD hS => ?_)
          have hP : va_P D vwCl (wM mo am cI (upG S 7 0 ((((S 7 0) + 1) + 1) + 1))) H := hP
          have hD : va_D A (wM mo am cI (upG S 7 0 ((((S 7 0) + 1) + 1) + 1))) := hD
          refine lv_goto (tgt := 4) hx hb dX3_takesNumber_56 (by decide) ?_
          refine lv_aload_n hx hb dX3_takesNumber_4 rfl (lv_at hl 2 rfl) ?_
          refine va_get (D := D) (ci := 3) (v := .int (iI (S 9 0))) (C := RX3) (T := TX3) (N := 14) hx hb hq inA3 hown hK hP 0 rfl rfl 9 (by decide) (hq _ q_565) (fun _ h9 => h9) rfl dX3_takesNumber_5 ?_
          refine z_if_eq (tgt := 59) hx hb dX3_takesNumber_8 (by decide) (by omega) (fun c_23 => absurd c_23 (by omega)) (fun c_23 => ?_)
          refine lv_iload_n hx hb dX3_takesNumber_11 rfl (lv_at hl 0 rfl) ?_
          refine z_iconst hx hb dX3_takesNumber_12 ?_
          refine z_icmp_ge (tgt := 59) hx hb dX3_takesNumber_13 (by decide) (by omega) (by omega) (fun c_24 => ?_) (fun c_24 => absurd c_24 (by omega))
          refine lv_aload_n hx hb dX3_takesNumber_59 rfl (lv_at hl 2 rfl) ?_
          refine lv_aload_n hx hb dX3_takesNumber_60 rfl (lv_at hl 2 rfl) ?_
          refine va_get (D := D) (ci := 3) (v := .int (iI (S 9 0))) (C := RX3) (T := TX3) (N := 14) hx hb hq inA3 hown hK hP 0 rfl rfl 9 (by decide) (hq _ q_565) (fun _ h9 => h9) rfl dX3_takesNumber_61 ?_
          refine z_if_eq (tgt := 75) hx hb dX3_takesNumber_64 (by decide) (by omega) (fun c_25 => absurd c_25 (by omega)) (fun c_25 => ?_)
          refine lv_iload_n hx hb dX3_takesNumber_67 rfl (lv_at hl 0 rfl) ?_
          refine z_if_le (tgt := 75) hx hb dX3_takesNumber_68 (by decide) (by omega) (fun c_26 => absurd c_26 (by omega)) (fun c_26 => ?_)
          refine z_iconst hx hb dX3_takesNumber_71 ?_
          refine lv_goto (tgt := 76) hx hb dX3_takesNumber_72 (by decide) ?_
          refine va_put (D := D) (ci := 3) (v := .int (iI 1)) (ty := .boolean) (C := RX3) (T := TX3) (N := 14) hx hb hq inA3 tyX3 tyX3_ok nmX3 hown hK hP hD hS 0 rfl rfl 9 (by decide) (hq _ q_565) (fun _ h9 => h9) rfl (by decide +kernel) (narrow_z01 (by omega)) (fits_z01 (by omega)) (Nat.le_of_ble_eq_true rfl) dX3_takesNumber_76 (fun H locs hP hD hS => ?_)
          have hP : va_P D vwCl (wM mo am cI (upG (upG S 7 0 ((((S 7 0) + 1) + 1) + 1)) 9 0 1)) H := hP
          have hD : va_D A (wM mo am cI (upG (upG S 7 0 ((((S 7 0) + 1) + 1) + 1)) 9 0 1)) := hD
          refine lv_aload_n hx hb dX3_takesNumber_79 rfl (lv_at hl 2 rfl) ?_
          refine va_get (D := D) (ci := 3) (v := .ref (am 11)) (C := RX3) (T := TX3) (N := 14) hx hb hq inA3 hown hK hP 0 rfl rfl 11 (by decide) (hq _ q_366) (fun _ h9 => h9) rfl dX3_takesNumber_80 ?_
          refine lv_iload_n hx hb dX3_takesNumber_83 rfl (lv_at hl 3 rfl) ?_
          refine lv_iload_n hx hb dX3_takesNumber_84 rfl (lv_at hl 1 rfl) ?_
          refine z_iast (w1 := (wM mo am cI (upG (upG (upG S 7 0 ((((S 7 0) + 1) + 1) + 1)) 9 0 1) 11 k2 (((10 * (((10 * ((0 + chrZ (S 5) (S 6 0) (S 7 0)) - 48)) + chrZ (S 5) (S 6 0) ((S 7 0) + 1)) - 48)) + chrZ (S 5) (S 6 0) (((S 7 0) + 1) + 1)) - 48)))) hx hb hK hP hD hS 6 0 rfl rfl (by omega) (by omega) (wM_set11 _ _ _ _ _ _) dX3_takesNumber_85 (fun H locs hP hD hS => ?_)
          have eW0 : tnS S k2 = (upG (upG (upG S 7 0 ((((S 7 0) + 1) + 1) + 1)) 9 0 1) 11 k2 (((10 * (((10 * ((0 + chrZ (S 5) (S 6 0) (S 7 0)) - 48)) + chrZ (S 5) (S 6 0) ((S 7 0) + 1)) - 48)) + chrZ (S 5) (S 6 0) (((S 7 0) + 1) + 1)) - 48)) := by (unfold tnS digZ; (repeat' split) <;> first | (exfalso; omega) | rfl)
          rw [← eW0] at hP hD
          first | exact hret _ _ _ _ dX3_takesNumber_86 hP hD hS | (exfalso; omega)
