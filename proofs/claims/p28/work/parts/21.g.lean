set_option maxHeartbeats 4000000 in
set_option maxRecDepth 100000 in
theorem m_X1_size (l : Launch) (D : va_G) (t : Nat) (ta : Nat → Nat) (cI : ClassId) (cC : ClassId) (T : Nat → Int → Int)  : MW l D yX1_size (wsY yX1_size cX1_size 1 (some .int)) { frames := 0, cells := 0, slots := 0, locals := 0 } [(cI, .int), (cC, .char)] [.ref t] (wT t ta cI cC T) (wT t ta cI cC T) (some (.int (iI (T 1 0)))) := by
  refine mw_ofI (cc := cX1_size) (maxL := 1) (by decide) rfl (Nat.le_of_ble_eq_true rfl) ?_
  intro p e s m below meth c R A Q args ls hx hb hml hown hts hRf hRl hRc hRs hN hK hP hD hS hA hret hl
  have hq : ∀ w ∈ ALL, w.before args s = true := fun w h => hts w (List.mem_cons_of_mem _ h)
  have hl : lv_has ls 1 [(0, .ref t)] := hl
  refine lv_aload_n hx hb dX1_size_0 rfl (lv_at hl 0 rfl) ?_
  refine va_get (D := D) (ci := 1) (v := .int (iI (T 1 0))) (C := RX1) (T := TX1) (N := 5) hx hb hq inA1 hown hK hP 0 rfl rfl 1 (by decide) (hq _ q_159) (fun _ h9 => h9) rfl dX1_size_1 ?_
  refine z_as (show (T 1 0) = T 1 0 from by first | rfl | omega) ?_
  first | exact hret _ _ _ _ dX1_size_4 hP hD hS | (exfalso; omega)
set_option maxHeartbeats 4000000 in
set_option maxRecDepth 100000 in
theorem m_X1_placeReached (l : Launch) (D : va_G) (t : Nat) (ta : Nat → Nat) (cI : ClassId) (cC : ClassId) (T : Nat → Int → Int)  : MW l D yX1_placeReached (wsY yX1_placeReached cX1_placeReached 1 (some .int)) { frames := 0, cells := 0, slots := 0, locals := 0 } [(cI, .int), (cC, .char)] [.ref t] (wT t ta cI cC T) (wT t ta cI cC T) (some (.int (iI (T 4 0)))) := by
  refine mw_ofI (cc := cX1_placeReached) (maxL := 1) (by decide) rfl (Nat.le_of_ble_eq_true rfl) ?_
  intro p e s m below meth c R A Q args ls hx hb hml hown hts hRf hRl hRc hRs hN hK hP hD hS hA hret hl
  have hq : ∀ w ∈ ALL, w.before args s = true := fun w h => hts w (List.mem_cons_of_mem _ h)
  have hl : lv_has ls 1 [(0, .ref t)] := hl
  refine lv_aload_n hx hb dX1_placeReached_0 rfl (lv_at hl 0 rfl) ?_
  refine va_get (D := D) (ci := 1) (v := .int (iI (T 4 0))) (C := RX1) (T := TX1) (N := 5) hx hb hq inA1 hown hK hP 0 rfl rfl 4 (by decide) (hq _ q_165) (fun _ h9 => h9) rfl dX1_placeReached_1 ?_
  refine z_as (show (T 4 0) = T 4 0 from by first | rfl | omega) ?_
  first | exact hret _ _ _ _ dX1_placeReached_4 hP hD hS | (exfalso; omega)
set_option maxHeartbeats 4000000 in
set_option maxRecDepth 100000 in
theorem m_X1_isDigit (l : Launch) (D : va_G) (k : Int) (h1 : -2147483648 ≤ k ∧ k < 2147483648) : MW l D yX1_isDigit (wsY yX1_isDigit cX1_isDigit 1 (some .boolean)) { frames := 0, cells := 0, slots := 0, locals := 0 } [] [.int (iI k)] [] [] (some (.int (iI (digZ k)))) := by
  refine mw_ofZ (cc := cX1_isDigit) (maxL := 1) (ty := .boolean) (narrow_z01 (dig_01 k)) (by decide) rfl (Nat.le_of_ble_eq_true rfl) ?_
  intro p e s m below meth c R A Q args ls hx hb hml hown hts hRf hRl hRc hRs hN hK hP hD hS hA hret hl
  have hq : ∀ w ∈ ALL, w.before args s = true := fun w h => hts w (List.mem_cons_of_mem _ h)
  have hl : lv_has ls 1 [(0, .int (iI k))] := hl
  refine lv_iload_n hx hb dX1_isDigit_0 rfl (lv_at hl 0 rfl) ?_
  refine z_bipush hx hb dX1_isDigit_1 (by decide +kernel) ?_
  refine z_icmp_lt (tgt := 16) hx hb dX1_isDigit_3 (by decide) (by omega) (by omega) (fun c_1 => ?_) (fun c_1 => ?_)
  · refine z_iconst hx hb dX1_isDigit_16 ?_
    refine z_as (show 0 = digZ k from by first | rfl | omega | (unfold digZ; omega)) ?_
    first | exact hret _ _ _ _ dX1_isDigit_17 hP hD hS | (exfalso; omega)
  · refine lv_iload_n hx hb dX1_isDigit_6 rfl (lv_at hl 0 rfl) ?_
    refine z_bipush hx hb dX1_isDigit_7 (by decide +kernel) ?_
    refine z_icmp_gt (tgt := 16) hx hb dX1_isDigit_9 (by decide) (by omega) (by omega) (fun c_2 => ?_) (fun c_2 => ?_)
    · refine z_iconst hx hb dX1_isDigit_16 ?_
      refine z_as (show 0 = digZ k from by first | rfl | omega | (unfold digZ; omega)) ?_
      first | exact hret _ _ _ _ dX1_isDigit_17 hP hD hS | (exfalso; omega)
    · refine z_iconst hx hb dX1_isDigit_12 ?_
      refine lv_goto (tgt := 17) hx hb dX1_isDigit_13 (by decide) ?_
      refine z_as (show 1 = digZ k from by first | rfl | omega | (unfold digZ; omega)) ?_
      first | exact hret _ _ _ _ dX1_isDigit_17 hP hD hS | (exfalso; omega)
set_option maxHeartbeats 4000000 in
set_option maxRecDepth 100000 in
theorem m_X1_numbersOf (l : Launch) (D : va_G) (k : Int) (h1 : -2147483648 ≤ k ∧ k < 2147483648) : MW l D yX1_numbersOf (wsY yX1_numbersOf cX1_numbersOf 1 (some .int)) { frames := 0, cells := 0, slots := 0, locals := 0 } [] [.int (iI k)] [] [] (some (.int (iI (nosZ k)))) := by
  refine mw_ofI (cc := cX1_numbersOf) (maxL := 1) (by decide) rfl (Nat.le_of_ble_eq_true rfl) ?_
  intro p e s m below meth c R A Q args ls hx hb hml hown hts hRf hRl hRc hRs hN hK hP hD hS hA hret hl
  have hq : ∀ w ∈ ALL, w.before args s = true := fun w h => hts w (List.mem_cons_of_mem _ h)
  have hl : lv_has ls 1 [(0, .int (iI k))] := hl
  refine lv_iload_n hx hb dX1_numbersOf_0 rfl (lv_at hl 0 rfl) ?_
  have c_1 : (k ≠ 97 ∧ k ≠ 100 ∧ k ≠ 102 ∧ k ≠ 109 ∧ k ≠ 114 ∧ k ≠ 119) ∨ (k = 97 ∨ k = 100 ∨ k = 102 ∨ k = 109 ∨ k = 114 ∨ k = 119) := by omega
  rcases c_1 with c_1 | c_1 | c_1 | c_1 | c_1 | c_1 | c_1
  · refine lv_lookup (tgt := 66) (off := 65) hx hb dX1_numbersOf_1 (by decide) (by rw [iI_t (by omega)]; show (if (97 : Int) = k then (63 : Int) else (if (100 : Int) = k then (63 : Int) else (if (102 : Int) = k then (59 : Int) else (if (109 : Int) = k then (61 : Int) else (if (114 : Int) = k then (61 : Int) else (if (119 : Int) = k then (59 : Int) else 65)))))) = 65; omega) (by decide) ?_
    refine z_iconst hx hb dX1_numbersOf_66 ?_
    refine z_as (show 0 = nosZ k from by first | rfl | omega | (unfold nosZ; omega)) ?_
    first | exact hret _ _ _ _ dX1_numbersOf_67 hP hD hS | (exfalso; omega)
  · refine lv_lookup (tgt := 64) (off := 63) hx hb dX1_numbersOf_1 (by decide) (by rw [iI_t (by omega), c_1]; rfl) (by decide) ?_
    refine z_iconst hx hb dX1_numbersOf_64 ?_
    refine z_as (show 1 = nosZ k from by first | rfl | omega | (unfold nosZ; omega)) ?_
    first | exact hret _ _ _ _ dX1_numbersOf_65 hP hD hS | (exfalso; omega)
  · refine lv_lookup (tgt := 64) (off := 63) hx hb dX1_numbersOf_1 (by decide) (by rw [iI_t (by omega), c_1]; rfl) (by decide) ?_
    refine z_iconst hx hb dX1_numbersOf_64 ?_
    refine z_as (show 1 = nosZ k from by first | rfl | omega | (unfold nosZ; omega)) ?_
    first | exact hret _ _ _ _ dX1_numbersOf_65 hP hD hS | (exfalso; omega)
  · refine lv_lookup (tgt := 60) (off := 59) hx hb dX1_numbersOf_1 (by decide) (by rw [iI_t (by omega), c_1]; rfl) (by decide) ?_
    refine z_iconst hx hb dX1_numbersOf_60 ?_
    refine z_as (show 3 = nosZ k from by first | rfl | omega | (unfold nosZ; omega)) ?_
    first | exact hret _ _ _ _ dX1_numbersOf_61 hP hD hS | (exfalso; omega)
  · refine lv_lookup (tgt := 62) (off := 61) hx hb dX1_numbersOf_1 (by decide) (by rw [iI_t (by omega), c_1]; rfl) (by decide) ?_
    refine z_iconst hx hb dX1_numbersOf_62 ?_
    refine z_as (show 2 = nosZ k from by first | rfl | omega | (unfold nosZ; omega)) ?_
    first | exact hret _ _ _ _ dX1_numbersOf_63 hP hD hS | (exfalso; omega)
  · refine lv_lookup (tgt := 62) (off := 61) hx hb dX1_numbersOf_1 (by decide) (by rw [iI_t (by omega), c_1]; rfl) (by decide) ?_
    refine z_iconst hx hb dX1_numbersOf_62 ?_
    refine z_as (show 2 = nosZ k from by first | rfl | omega | (unfold nosZ; omega)) ?_
    first | exact hret _ _ _ _ dX1_numbersOf_63 hP hD hS | (exfalso; omega)
  · refine lv_lookup (tgt := 60) (off := 59) hx hb dX1_numbersOf_1 (by decide) (by rw [iI_t (by omega), c_1]; rfl) (by decide) ?_
    refine z_iconst hx hb dX1_numbersOf_60 ?_
    refine z_as (show 3 = nosZ k from by first | rfl | omega | (unfold nosZ; omega)) ?_
    first | exact hret _ _ _ _ dX1_numbersOf_61 hP hD hS | (exfalso; omega)
set_option maxHeartbeats 4000000 in
set_option maxRecDepth 100000 in
theorem m_X1_signAt (l : Launch) (D : va_G) (t : Nat) (ta : Nat → Nat) (cI : ClassId) (cC : ClassId) (T : Nat → Int → Int) (i : Int) (hT : InvT T) (h1 : -2147483648 ≤ i ∧ i < 2147483648)  : MW l D yX1_signAt (wsY yX1_signAt cX1_signAt 2 (some .char)) { frames := 1, cells := 0, slots := 0, locals := 22 } [(cI, .int), (cC, .char)] [.ref t, .int (iI i)] (wT t ta cI cC T) (wT t ta cI cC T) (some (.int (iI (chrZ (T 0) (T 1 0) i)))) := by
  refine mw_ofZ (cc := cX1_signAt) (maxL := 2) (ty := .char) (narrow_c (by have := chr_bd hT i; omega)) (by decide) rfl (Nat.le_of_ble_eq_true rfl) ?_
  intro p e s m below meth c R A Q args ls hx hb hml hown hts hRf hRl hRc hRs hN hK hP hD hS hA hret hl
  have hq : ∀ w ∈ ALL, w.before args s = true := fun w h => hts w (List.mem_cons_of_mem _ h)
  have hl : lv_has ls 2 [(0, .ref t), (1, .int (iI i))] := hl
  have hT1 := hT.1
  refine lv_iload_n hx hb dX1_signAt_0 rfl (lv_at hl 1 rfl) ?_
  refine z_iconst hx hb dX1_signAt_1 ?_
  refine lv_aload_n hx hb dX1_signAt_2 rfl (lv_at hl 0 rfl) ?_
  refine va_get (D := D) (ci := 1) (v := .int (iI (T 1 0))) (C := RX1) (T := TX1) (N := 5) hx hb hq inA1 hown hK hP 0 rfl rfl 1 (by decide) (hq _ q_159) (fun _ h9 => h9) rfl dX1_signAt_3 ?_
  refine z_iconst hx hb dX1_signAt_6 ?_
  refine z_isub hx hb dX1_signAt_7 ?_
  refine mw_none (st1 := [.int (iI (outZ i 0 ((T 1 0) - 1)))]) (mr_SN (As := [.int (iI i), .int (iI 0), .int (iI ((T 1 0) - 1))]) (rest := []) ⟨hx, hb, hml, hown, hts⟩ (m_X2_isOutside l D i 0 ((T 1 0) - 1) (by omega) (by omega) (by omega)) ⟨va_cnB 3 hts (gSelf q_35) rfl rfl rfl hN.2 (hq _ q_37) (by decide +kernel) ⟨Nat.le_trans (m := 1) (Nat.le_of_ble_eq_true rfl) (Nat.le_trans (Nat.le_of_ble_eq_true rfl) hRf), Nat.le_trans (m := 22) (Nat.le_of_ble_eq_true rfl) (Nat.le_trans (Nat.le_of_ble_eq_true rfl) hRl)⟩, hq _ q_36, trivial⟩ hN (hK.sub (tys' := []) [] rfl) (va_P0 _ _ _) (va_D0 A) rfl hl.1 (Nat.le_of_ble_eq_true rfl) ⟨hRc, hRs⟩ dX1_signAt_8) hP hS hA rfl (fun H locs hP hS => ?_)
  have hf_1 : outZ i 0 ((T 1 0) - 1) = if i < 0 ∨ ((T 1 0) - 1) < i then 1 else 0 := rfl
  refine z_if_eq (tgt := 18) hx hb dX1_signAt_11 (by decide) (by omega) (fun c_2 => ?_) (fun c_2 => ?_)
  · refine lv_aload_n hx hb dX1_signAt_18 rfl (lv_at hl 0 rfl) ?_
    refine va_get (D := D) (ci := 1) (v := .ref (ta 0)) (C := RX1) (T := TX1) (N := 5) hx hb hq inA1 hown hK hP 0 rfl rfl 0 (by decide) (hq _ q_156) (fun _ h9 => h9) rfl dX1_signAt_19 ?_
    refine lv_iload_n hx hb dX1_signAt_22 rfl (lv_at hl 1 rfl) ?_
    refine z_cald hx hb hK hP 1 1 rfl rfl (by omega) (by omega) (v := (T 0 i)) rfl dX1_signAt_23 ?_
    refine z_as (show (T 0 i) = chrZ (T 0) (T 1 0) i from by first | rfl | omega | (unfold chrZ; omega)) ?_
    first | exact hret _ _ _ _ dX1_signAt_24 hP hD hS | (exfalso; omega)
  · refine z_iconst hx hb dX1_signAt_14 ?_
    refine lv_goto (tgt := 24) hx hb dX1_signAt_15 (by decide) ?_
    refine z_as (show 0 = chrZ (T 0) (T 1 0) i from by first | rfl | omega | (unfold chrZ; omega)) ?_
    first | exact hret _ _ _ _ dX1_signAt_24 hP hD hS | (exfalso; omega)
set_option maxHeartbeats 4000000 in
set_option maxRecDepth 100000 in
theorem m_X1_append (l : Launch) (D : va_G) (t : Nat) (ta : Nat → Nat) (cI : ClassId) (cC : ClassId) (T : Nat → Int → Int) (v : Int) (hT : InvT T) (h1 : 32 ≤ v ∧ v ≤ 126) (h2 : T 1 0 < 60)  : MW l D yX1_append (wsY yX1_append cX1_append 2 (some .int)) { frames := 1, cells := 0, slots := 0, locals := 22 } [(cI, .int), (cC, .char)] [.ref t, .int (iI v)] (wT t ta cI cC T) (wT t ta cI cC (upG (upG T 0 (T 1 0) v) 1 0 (T 1 0 + 1))) (some (.int (iI (T 1 0 + 1)))) := by
  refine mw_ofI (cc := cX1_append) (maxL := 2) (by decide) rfl (Nat.le_of_ble_eq_true rfl) ?_
  intro p e s m below meth c R A Q args ls hx hb hml hown hts hRf hRl hRc hRs hN hK hP hD hS hA hret hl
  have hq : ∀ w ∈ ALL, w.before args s = true := fun w h => hts w (List.mem_cons_of_mem _ h)
  have hl : lv_has ls 2 [(0, .ref t), (1, .int (iI v))] := hl
  have hT1 := hT.1
  refine lv_iload_n hx hb dX1_append_0 rfl (lv_at hl 1 rfl) ?_
  refine z_bipush hx hb dX1_append_1 (by decide +kernel) ?_
  refine z_bipush hx hb dX1_append_3 (by decide +kernel) ?_
  refine mw_none (st1 := [.int (iI (outZ v 32 126))]) (mr_SN (As := [.int (iI v), .int (iI 32), .int (iI 126)]) (rest := []) ⟨hx, hb, hml, hown, hts⟩ (m_X2_isOutside l D v 32 126 (by omega) (by omega) (by omega)) ⟨va_cnB 3 hts (gSelf q_35) rfl rfl rfl hN.2 (hq _ q_37) (by decide +kernel) ⟨Nat.le_trans (m := 1) (Nat.le_of_ble_eq_true rfl) (Nat.le_trans (Nat.le_of_ble_eq_true rfl) hRf), Nat.le_trans (m := 22) (Nat.le_of_ble_eq_true rfl) (Nat.le_trans (Nat.le_of_ble_eq_true rfl) hRl)⟩, hq _ q_36, trivial⟩ hN (hK.sub (tys' := []) [] rfl) (va_P0 _ _ _) (va_D0 A) rfl hl.1 (Nat.le_of_ble_eq_true rfl) ⟨hRc, hRs⟩ dX1_append_5) hP hS hA rfl (fun H locs hP hS => ?_)
  have hf_1 : outZ v 32 126 = if v < 32 ∨ 126 < v then 1 else 0 := rfl
  refine z_if_eq (tgt := 14) hx hb dX1_append_8 (by decide) (by omega) (fun c_2 => ?_) (fun c_2 => absurd c_2 (by omega))
  refine lv_aload_n hx hb dX1_append_14 rfl (lv_at hl 0 rfl) ?_
  refine va_get (D := D) (ci := 1) (v := .int (iI (T 1 0))) (C := RX1) (T := TX1) (N := 5) hx hb hq inA1 hown hK hP 0 rfl rfl 1 (by decide) (hq _ q_159) (fun _ h9 => h9) rfl dX1_append_15 ?_
  refine z_bipush hx hb dX1_append_18 (by decide +kernel) ?_
  refine z_icmp_lt (tgt := 26) hx hb dX1_append_20 (by decide) (by omega) (by omega) (fun c_3 => ?_) (fun c_3 => absurd c_3 (by omega))
  refine lv_aload_n hx hb dX1_append_26 rfl (lv_at hl 0 rfl) ?_
  refine va_get (D := D) (ci := 1) (v := .ref (ta 0)) (C := RX1) (T := TX1) (N := 5) hx hb hq inA1 hown hK hP 0 rfl rfl 0 (by decide) (hq _ q_156) (fun _ h9 => h9) rfl dX1_append_27 ?_
  refine lv_aload_n hx hb dX1_append_30 rfl (lv_at hl 0 rfl) ?_
  refine va_get (D := D) (ci := 1) (v := .int (iI (T 1 0))) (C := RX1) (T := TX1) (N := 5) hx hb hq inA1 hown hK hP 0 rfl rfl 1 (by decide) (hq _ q_159) (fun _ h9 => h9) rfl dX1_append_31 ?_
  refine lv_iload_n hx hb dX1_append_34 rfl (lv_at hl 1 rfl) ?_
  refine lv_i2c hx hb dX1_append_35 (i2c_z (by omega)) ?_
  refine z_cast (w1 := (wT t ta cI cC (upG T 0 (T 1 0) v))) hx hb hK hP hD hS 1 1 rfl rfl (by omega) (by omega) (by omega) rfl dX1_append_36 (fun H locs hP hD hS => ?_)
  refine lv_aload_n hx hb dX1_append_37 rfl (lv_at hl 0 rfl) ?_
  refine lv_dup hx hb dX1_append_38 rfl ?_
  refine va_get (D := D) (ci := 1) (v := .int (iI (T 1 0))) (C := RX1) (T := TX1) (N := 5) hx hb hq inA1 hown hK hP 0 rfl rfl 1 (by decide) (hq _ q_159) (fun _ h9 => h9) rfl dX1_append_39 ?_
  refine z_iconst hx hb dX1_append_42 ?_
  refine z_iadd hx hb dX1_append_43 ?_
  refine va_put (D := D) (ci := 1) (v := .int (iI ((T 1 0) + 1))) (ty := .int) (C := RX1) (T := TX1) (N := 5) hx hb hq inA1 tyX1 tyX1_ok nmX1 hown hK hP hD hS 0 rfl rfl 1 (by decide) (hq _ q_159) (fun _ h9 => h9) rfl (by decide +kernel) rfl rfl (Nat.le_of_ble_eq_true rfl) dX1_append_44 (fun H locs hP hD hS => ?_)
  have hP : va_P D vwCl (wT t ta cI cC (upG (upG T 0 (T 1 0) v) 1 0 ((T 1 0) + 1))) H := hP
  have hD : va_D A (wT t ta cI cC (upG (upG T 0 (T 1 0) v) 1 0 ((T 1 0) + 1))) := hD
  refine lv_aload_n hx hb dX1_append_47 rfl (lv_at hl 0 rfl) ?_
  refine va_get (D := D) (ci := 1) (v := .int (iI ((T 1 0) + 1))) (C := RX1) (T := TX1) (N := 5) hx hb hq inA1 hown hK hP 0 rfl rfl 1 (by decide) (hq _ q_159) (fun _ h9 => h9) rfl dX1_append_48 ?_
  refine z_as (show ((T 1 0) + 1) = T 1 0 + 1 from by first | rfl | omega) ?_
  first | exact hret _ _ _ _ dX1_append_51 hP hD hS | (exfalso; omega)
set_option maxHeartbeats 4000000 in
set_option maxRecDepth 100000 in
theorem m_X1_append_bad (l : Launch) (D : va_G) (t : Nat) (ta : Nat → Nat) (cI : ClassId) (cC : ClassId) (T : Nat → Int → Int) (v : Int) (h1 : -2147483648 ≤ v ∧ v < 2147483648) (hb0 : v < 32 ∨ 126 < v)  : MW l D yX1_append (wsY yX1_append cX1_append 2 (some .int)) { frames := 1, cells := 0, slots := 0, locals := 22 } [(cI, .int), (cC, .char)] [.ref t, .int (iI v)] (wT t ta cI cC T) (wT t ta cI cC T) (some (.int (iI (-1000001)))) := by
  refine mw_ofI (cc := cX1_append) (maxL := 2) (by decide) rfl (Nat.le_of_ble_eq_true rfl) ?_
  intro p e s m below meth c R A Q args ls hx hb hml hown hts hRf hRl hRc hRs hN hK hP hD hS hA hret hl
  have hq : ∀ w ∈ ALL, w.before args s = true := fun w h => hts w (List.mem_cons_of_mem _ h)
  have hl : lv_has ls 2 [(0, .ref t), (1, .int (iI v))] := hl
  refine lv_iload_n hx hb dX1_append_0 rfl (lv_at hl 1 rfl) ?_
  refine z_bipush hx hb dX1_append_1 (by decide +kernel) ?_
  refine z_bipush hx hb dX1_append_3 (by decide +kernel) ?_
  refine mw_none (st1 := [.int (iI (outZ v 32 126))]) (mr_SN (As := [.int (iI v), .int (iI 32), .int (iI 126)]) (rest := []) ⟨hx, hb, hml, hown, hts⟩ (m_X2_isOutside l D v 32 126 (by omega) (by omega) (by omega)) ⟨va_cnB 3 hts (gSelf q_35) rfl rfl rfl hN.2 (hq _ q_37) (by decide +kernel) ⟨Nat.le_trans (m := 1) (Nat.le_of_ble_eq_true rfl) (Nat.le_trans (Nat.le_of_ble_eq_true rfl) hRf), Nat.le_trans (m := 22) (Nat.le_of_ble_eq_true rfl) (Nat.le_trans (Nat.le_of_ble_eq_true rfl) hRl)⟩, hq _ q_36, trivial⟩ hN (hK.sub (tys' := []) [] rfl) (va_P0 _ _ _) (va_D0 A) rfl hl.1 (Nat.le_of_ble_eq_true rfl) ⟨hRc, hRs⟩ dX1_append_5) hP hS hA rfl (fun H locs hP hS => ?_)
  have hf_1 : outZ v 32 126 = if v < 32 ∨ 126 < v then 1 else 0 := rfl
  refine z_if_eq (tgt := 14) hx hb dX1_append_8 (by decide) (by omega) (fun c_2 => absurd c_2 (by omega)) (fun c_2 => ?_)
  refine z_ldc hx hb (-1000001) (by decide +kernel) hown (hq _ q_161) dX1_append_11 ?_
  refine z_as (show (-1000001) = -1000001 from by first | rfl | omega) ?_
  first | exact hret _ _ _ _ dX1_append_13 hP hD hS | (exfalso; omega)
set_option maxHeartbeats 4000000 in
set_option maxRecDepth 100000 in
theorem m_X1_append_full (l : Launch) (D : va_G) (t : Nat) (ta : Nat → Nat) (cI : ClassId) (cC : ClassId) (T : Nat → Int → Int) (v : Int) (hT : InvT T) (h1 : 32 ≤ v ∧ v ≤ 126) (h2 : T 1 0 = 60)  : MW l D yX1_append (wsY yX1_append cX1_append 2 (some .int)) { frames := 1, cells := 0, slots := 0, locals := 22 } [(cI, .int), (cC, .char)] [.ref t, .int (iI v)] (wT t ta cI cC T) (wT t ta cI cC T) (some (.int (iI (-1000003)))) := by
  refine mw_ofI (cc := cX1_append) (maxL := 2) (by decide) rfl (Nat.le_of_ble_eq_true rfl) ?_
  intro p e s m below meth c R A Q args ls hx hb hml hown hts hRf hRl hRc hRs hN hK hP hD hS hA hret hl
  have hq : ∀ w ∈ ALL, w.before args s = true := fun w h => hts w (List.mem_cons_of_mem _ h)
  have hl : lv_has ls 2 [(0, .ref t), (1, .int (iI v))] := hl
  have hT1 := hT.1
  refine lv_iload_n hx hb dX1_append_0 rfl (lv_at hl 1 rfl) ?_
  refine z_bipush hx hb dX1_append_1 (by decide +kernel) ?_
  refine z_bipush hx hb dX1_append_3 (by decide +kernel) ?_
  refine mw_none (st1 := [.int (iI (outZ v 32 126))]) (mr_SN (As := [.int (iI v), .int (iI 32), .int (iI 126)]) (rest := []) ⟨hx, hb, hml, hown, hts⟩ (m_X2_isOutside l D v 32 126 (by omega) (by omega) (by omega)) ⟨va_cnB 3 hts (gSelf q_35) rfl rfl rfl hN.2 (hq _ q_37) (by decide +kernel) ⟨Nat.le_trans (m := 1) (Nat.le_of_ble_eq_true rfl) (Nat.le_trans (Nat.le_of_ble_eq_true rfl) hRf), Nat.le_trans (m := 22) (Nat.le_of_ble_eq_true rfl) (Nat.le_trans (Nat.le_of_ble_eq_true rfl) hRl)⟩, hq _ q_36, trivial⟩ hN (hK.sub (tys' := []) [] rfl) (va_P0 _ _ _) (va_D0 A) rfl hl.1 (Nat.le_of_ble_eq_true rfl) ⟨hRc, hRs⟩ dX1_append_5) hP hS hA rfl (fun H locs hP hS => ?_)
  have hf_1 : outZ v 32 126 = if v < 32 ∨ 126 < v then 1 else 0 := rfl
  refine z_if_eq (tgt := 14) hx hb dX1_append_8 (by decide) (by omega) (fun c_2 => ?_) (fun c_2 => absurd c_2 (by omega))
  refine lv_aload_n hx hb dX1_append_14 rfl (lv_at hl 0 rfl) ?_
  refine va_get (D := D) (ci := 1) (v := .int (iI (T 1 0))) (C := RX1) (T := TX1) (N := 5) hx hb hq inA1 hown hK hP 0 rfl rfl 1 (by decide) (hq _ q_159) (fun _ h9 => h9) rfl dX1_append_15 ?_
  refine z_bipush hx hb dX1_append_18 (by decide +kernel) ?_
  refine z_icmp_lt (tgt := 26) hx hb dX1_append_20 (by decide) (by omega) (by omega) (fun c_3 => absurd c_3 (by omega)) (fun c_3 => ?_)
  refine z_ldc hx hb (-1000003) (by decide +kernel) hown (hq _ q_162) dX1_append_23 ?_
  refine z_as (show (-1000003) = -1000003 from by first | rfl | omega) ?_
  first | exact hret _ _ _ _ dX1_append_25 hP hD hS | (exfalso; omega)
set_option maxHeartbeats 4000000 in
set_option maxRecDepth 100000 in
theorem m_X1_empty (l : Launch) (D : va_G) (t : Nat) (ta : Nat → Nat) (cI : ClassId) (cC : ClassId) (T : Nat → Int → Int)  : MW l D yX1_empty (wsY yX1_empty cX1_empty 2 (some .int)) { frames := 0, cells := 0, slots := 0, locals := 0 } [(cI, .int), (cC, .char)] [.ref t] (wT t ta cI cC T) (wT t ta cI cC (upG T 1 0 0)) (some (.int (iI (T 1 0)))) := by
  refine mw_ofI (cc := cX1_empty) (maxL := 2) (by decide) rfl (Nat.le_of_ble_eq_true rfl) ?_
  intro p e s m below meth c R A Q args ls hx hb hml hown hts hRf hRl hRc hRs hN hK hP hD hS hA hret hl
  have hq : ∀ w ∈ ALL, w.before args s = true := fun w h => hts w (List.mem_cons_of_mem _ h)
  have hl : lv_has ls 2 [(0, .ref t)] := hl
  refine lv_aload_n hx hb dX1_empty_0 rfl (lv_at hl 0 rfl) ?_
  refine va_get (D := D) (ci := 1) (v := .int (iI (T 1 0))) (C := RX1) (T := TX1) (N := 5) hx hb hq inA1 hown hK hP 0 rfl rfl 1 (by decide) (hq _ q_159) (fun _ h9 => h9) rfl dX1_empty_1 ?_
  refine lv_istore_n (lv' := [(1, .int (iI (T 1 0))), (0, .ref t)]) hx hb dX1_empty_4 rfl hl (by decide) rfl (fun ls hl => ?_)
  refine lv_aload_n hx hb dX1_empty_5 rfl (lv_at hl 1 rfl) ?_
  refine z_iconst hx hb dX1_empty_6 ?_
  refine va_put (D := D) (ci := 1) (v := .int (iI 0)) (ty := .int) (C := RX1) (T := TX1) (N := 5) hx hb hq inA1 tyX1 tyX1_ok nmX1 hown hK hP hD hS 0 rfl rfl 1 (by decide) (hq _ q_159) (fun _ h9 => h9) rfl (by decide +kernel) rfl rfl (Nat.le_of_ble_eq_true rfl) dX1_empty_7 (fun H locs hP hD hS => ?_)
  have hP : va_P D vwCl (wT t ta cI cC (upG T 1 0 0)) H := hP
  have hD : va_D A (wT t ta cI cC (upG T 1 0 0)) := hD
  refine lv_iload_n hx hb dX1_empty_10 rfl (lv_at hl 0 rfl) ?_
  refine z_as (show (T 1 0) = T 1 0 from by first | rfl | omega) ?_
  first | exact hret _ _ _ _ dX1_empty_11 hP hD hS | (exfalso; omega)
set_option maxHeartbeats 4000000 in
set_option maxRecDepth 100000 in
theorem m_X1_readNumber (l : Launch) (D : va_G) (t : Nat) (ta : Nat → Nat) (cI : ClassId) (cC : ClassId) (T : Nat → Int → Int) (w : Int) (hT : InvT T) (h1 : 0 ≤ w ∧ w ≤ 2) (h2 : 0 ≤ T 4 0 ∧ T 4 0 ≤ 100)  : MW l D yX1_readNumber (wsY yX1_readNumber cX1_readNumber 4 (some .boolean)) { frames := 2, cells := 0, slots := 0, locals := 43 } [(cI, .int), (cC, .char)] [.ref t, .int (iI w)] (wT t ta cI cC T) (wT t ta cI cC (rnZ T w)) (some (.int (iI (rnV T)))) := by
  refine mw_ofZ (cc := cX1_readNumber) (maxL := 4) (ty := .boolean) (narrow_z01 (by unfold rnV; omega)) (by decide) rfl (Nat.le_of_ble_eq_true rfl) ?_
  intro p e s m below meth c R A Q args ls hx hb hml hown hts hRf hRl hRc hRs hN hK hP hD hS hA hret hl
  have hq : ∀ w ∈ ALL, w.before args s = true := fun w h => hts w (List.mem_cons_of_mem _ h)
  have hl : lv_has ls 4 [(0, .ref t), (1, .int (iI w))] := hl
  refine z_iconst hx hb dX1_readNumber_0 ?_
  refine lv_istore_n (lv' := [(2, .int (iI 0)), (0, .ref t), (1, .int (iI w))]) hx hb dX1_readNumber_1 rfl hl (by decide) rfl (fun ls hl => ?_)
  refine z_iconst hx hb dX1_readNumber_2 ?_
  refine lv_istore_n (lv' := [(3, .int (iI 0)), (2, .int (iI 0)), (0, .ref t), (1, .int (iI w))]) hx hb dX1_readNumber_3 rfl hl (by decide) rfl (fun ls hl => ?_)
  refine lv_iload_n hx hb dX1_readNumber_4 rfl (lv_at hl 0 rfl) ?_
  refine z_iconst hx hb dX1_readNumber_5 ?_
  refine z_icmp_ge (tgt := 56) hx hb dX1_readNumber_6 (by decide) (by omega) (by omega) (fun c_1 => absurd c_1 (by omega)) (fun c_1 => ?_)
  refine lv_aload_n hx hb dX1_readNumber_9 rfl (lv_at hl 2 rfl) ?_
  refine lv_aload_n hx hb dX1_readNumber_10 rfl (lv_at hl 2 rfl) ?_
  refine va_get (D := D) (ci := 1) (v := .int (iI (T 4 0))) (C := RX1) (T := TX1) (N := 5) hx hb hq inA1 hown hK hP 0 rfl rfl 4 (by decide) (hq _ q_165) (fun _ h9 => h9) rfl dX1_readNumber_11 ?_
  refine mw_full (st1 := [.int (iI (chrZ (T 0) (T 1 0) (T 4 0)))]) (mr_V (As := [.int (iI (T 4 0))]) (rest := []) (ci := 1) (q0 := 0) ⟨hx, hb, hml, hown, hts⟩ (m_X1_signAt l D t ta cI cC T (T 4 0) hT (by omega)) (cwV 1 hts (gV q_170 q_171 q_172 q_173 q_167) rfl rfl rfl (by decide +kernel) ⟨Nat.le_trans (m := 2) (Nat.le_of_ble_eq_true rfl) (Nat.le_trans (Nat.le_of_ble_eq_true rfl) hRf), Nat.le_trans (m := 43) (Nat.le_of_ble_eq_true rfl) (Nat.le_trans (Nat.le_of_ble_eq_true rfl) hRl)⟩) hN hK hP hD rfl rfl rfl hl.1 (Nat.le_of_ble_eq_true rfl) ⟨hRc, hRs⟩ dX1_readNumber_14) hD hS hA rfl (fun H locs hP hD hS => ?_)
  have hf_2 := chr_bd hT (T 4 0)
  refine mw_none (st1 := [.int (iI (digZ (chrZ (T 0) (T 1 0) (T 4 0))))]) (mr_S (As := [.int (iI (chrZ (T 0) (T 1 0) (T 4 0)))]) (rest := []) ⟨hx, hb, hml, hown, hts⟩ (m_X1_isDigit l D (chrZ (T 0) (T 1 0) (T 4 0)) (by omega)) (va_cwS 1 hts (gS q_174 q_175 q_173 q_169) rfl rfl rfl (by decide +kernel) ⟨Nat.le_trans (m := 1) (Nat.le_of_ble_eq_true rfl) (Nat.le_trans (Nat.le_of_ble_eq_true rfl) hRf), Nat.le_trans (m := 20) (Nat.le_of_ble_eq_true rfl) (Nat.le_trans (Nat.le_of_ble_eq_true rfl) hRl)⟩) hN (hK.sub (tys' := []) [] rfl) (va_P0 _ _ _) (va_D0 A) rfl hl.1 (Nat.le_of_ble_eq_true rfl) ⟨hRc, hRs⟩ dX1_readNumber_17) hP hS hA rfl (fun H locs hP hS => ?_)
  have hf_3 := dig_01 (chrZ (T 0) (T 1 0) (T 4 0))
  refine z_if_eq (tgt := 56) hx hb dX1_readNumber_20 (by decide) (by omega) (fun c_4 => ?_) (fun c_4 => ?_)
  · refine lv_iload_n hx hb dX1_readNumber_56 rfl (lv_at hl 0 rfl) ?_
    refine z_if_eq (tgt := 69) hx hb dX1_readNumber_57 (by decide) (by omega) (fun c_5 => ?_) (fun c_5 => absurd c_5 (by omega))
    refine z_iconst hx hb dX1_readNumber_69 ?_
    refine z_as (show 0 = rnV T from by first | rfl | omega | (unfold rnV; omega)) ?_
    have eW0 : rnZ T w = T := by (unfold rnZ; (repeat' split) <;> first | (exfalso; omega) | rfl)
    rw [← eW0] at hP hD
    first | exact hret _ _ _ _ dX1_readNumber_70 hP hD hS | (exfalso; omega)
  · refine z_bipush hx hb dX1_readNumber_23 (by decide +kernel) ?_
    refine lv_iload_n hx hb dX1_readNumber_25 rfl (lv_at hl 1 rfl) ?_
    refine z_imul hx hb dX1_readNumber_26 ?_
    refine lv_aload_n hx hb dX1_readNumber_27 rfl (lv_at hl 2 rfl) ?_
    refine lv_aload_n hx hb dX1_readNumber_28 rfl (lv_at hl 2 rfl) ?_
    refine va_get (D := D) (ci := 1) (v := .int (iI (T 4 0))) (C := RX1) (T := TX1) (N := 5) hx hb hq inA1 hown hK hP 0 rfl rfl 4 (by decide) (hq _ q_165) (fun _ h9 => h9) rfl dX1_readNumber_29 ?_
    refine mw_full (st1 := [.int (iI (chrZ (T 0) (T 1 0) (T 4 0))), .int (iI (10 * 0))]) (mr_V (As := [.int (iI (T 4 0))]) (rest := [.int (iI (10 * 0))]) (ci := 1) (q0 := 0) ⟨hx, hb, hml, hown, hts⟩ (m_X1_signAt l D t ta cI cC T (T 4 0) hT (by omega)) (cwV 1 hts (gV q_170 q_171 q_172 q_173 q_167) rfl rfl rfl (by decide +kernel) ⟨Nat.le_trans (m := 2) (Nat.le_of_ble_eq_true rfl) (Nat.le_trans (Nat.le_of_ble_eq_true rfl) hRf), Nat.le_trans (m := 43) (Nat.le_of_ble_eq_true rfl) (Nat.le_trans (Nat.le_of_ble_eq_true rfl) hRl)⟩) hN hK hP hD rfl rfl rfl hl.1 (Nat.le_of_ble_eq_true rfl) ⟨hRc, hRs⟩ dX1_readNumber_32) hD hS hA rfl (fun H locs hP hD hS => ?_)
    have hf_6 := chr_bd hT (T 4 0)
    refine z_bipush hx hb dX1_readNumber_35 (by decide +kernel) ?_
    refine z_isub hx hb dX1_readNumber_37 ?_
    refine z_iadd hx hb dX1_readNumber_38 ?_
    refine lv_istore_n (lv' := [(2, .int (iI ((10 * 0) + (chrZ (T 0) (T 1 0) (T 4 0) - 48)))), (3, .int (iI 0)), (0, .ref t), (1, .int (iI w))]) hx hb dX1_readNumber_39 rfl hl (by decide) rfl (fun ls hl => ?_)
    refine lv_aload_n hx hb dX1_readNumber_40 rfl (lv_at hl 2 rfl) ?_
    refine lv_dup hx hb dX1_readNumber_41 rfl ?_
    refine va_get (D := D) (ci := 1) (v := .int (iI (T 4 0))) (C := RX1) (T := TX1) (N := 5) hx hb hq inA1 hown hK hP 0 rfl rfl 4 (by decide) (hq _ q_165) (fun _ h9 => h9) rfl dX1_readNumber_42 ?_
    refine z_iconst hx hb dX1_readNumber_45 ?_
    refine z_iadd hx hb dX1_readNumber_46 ?_
    refine va_put (D := D) (ci := 1) (v := .int (iI ((T 4 0) + 1))) (ty := .int) (C := RX1) (T := TX1) (N := 5) hx hb hq inA1 tyX1 tyX1_ok nmX1 hown hK hP hD hS 0 rfl rfl 4 (by decide) (hq _ q_165) (fun _ h9 => h9) rfl (by decide +kernel) rfl rfl (Nat.le_of_ble_eq_true rfl) dX1_readNumber_47 (fun H locs hP hD hS => ?_)
    have hP : va_P D vwCl (wT t ta cI cC (upG T 4 0 ((T 4 0) + 1))) H := hP
    have hD : va_D A (wT t ta cI cC (upG T 4 0 ((T 4 0) + 1))) := hD
    refine lv_iinc (v := iI 1) (lv' := [(3, .int (iI 1)), (2, .int (iI ((10 * 0) + (chrZ (T 0) (T 1 0) (T 4 0) - 48)))), (0, .ref t), (1, .int (iI w))]) hx hb dX1_readNumber_50 hl (k := 1) rfl (by decide +kernel) (by decide) rfl (fun ls hl => ?_)
    refine lv_goto (tgt := 4) hx hb dX1_readNumber_53 (by decide) ?_
    refine lv_iload_n hx hb dX1_readNumber_4 rfl (lv_at hl 0 rfl) ?_
    refine z_iconst hx hb dX1_readNumber_5 ?_
    refine z_icmp_ge (tgt := 56) hx hb dX1_readNumber_6 (by decide) (by omega) (by omega) (fun c_7 => absurd c_7 (by omega)) (fun c_7 => ?_)
    refine lv_aload_n hx hb dX1_readNumber_9 rfl (lv_at hl 2 rfl) ?_
    refine lv_aload_n hx hb dX1_readNumber_10 rfl (lv_at hl 2 rfl) ?_
    refine va_get (D := D) (ci := 1) (v := .int (iI ((T 4 0) + 1))) (C := RX1) (T := TX1) (N := 5) hx hb hq inA1 hown hK hP 0 rfl rfl 4 (by decide) (hq _ q_165) (fun _ h9 => h9) rfl dX1_readNumber_11 ?_
    refine mw_full (st1 := [.int (iI (chrZ (T 0) (T 1 0) ((T 4 0) + 1)))]) (mr_V (As := [.int (iI ((T 4 0) + 1))]) (rest := []) (ci := 1) (q0 := 0) ⟨hx, hb, hml, hown, hts⟩ (m_X1_signAt l D t ta cI cC (upG T 4 0 ((T 4 0) + 1)) ((T 4 0) + 1) hT (by omega)) (cwV 1 hts (gV q_170 q_171 q_172 q_173 q_167) rfl rfl rfl (by decide +kernel) ⟨Nat.le_trans (m := 2) (Nat.le_of_ble_eq_true rfl) (Nat.le_trans (Nat.le_of_ble_eq_true rfl) hRf), Nat.le_trans (m := 43) (Nat.le_of_ble_eq_true rfl) (Nat.le_trans (Nat.le_of_ble_eq_true rfl) hRl)⟩) hN hK hP hD rfl rfl rfl hl.1 (Nat.le_of_ble_eq_true rfl) ⟨hRc, hRs⟩ dX1_readNumber_14) hD hS hA rfl (fun H locs hP hD hS => ?_)
    have hf_8 := chr_bd hT ((T 4 0) + 1)
    refine mw_none (st1 := [.int (iI (digZ (chrZ (T 0) (T 1 0) ((T 4 0) + 1))))]) (mr_S (As := [.int (iI (chrZ (T 0) (T 1 0) ((T 4 0) + 1)))]) (rest := []) ⟨hx, hb, hml, hown, hts⟩ (m_X1_isDigit l D (chrZ (T 0) (T 1 0) ((T 4 0) + 1)) (by omega)) (va_cwS 1 hts (gS q_174 q_175 q_173 q_169) rfl rfl rfl (by decide +kernel) ⟨Nat.le_trans (m := 1) (Nat.le_of_ble_eq_true rfl) (Nat.le_trans (Nat.le_of_ble_eq_true rfl) hRf), Nat.le_trans (m := 20) (Nat.le_of_ble_eq_true rfl) (Nat.le_trans (Nat.le_of_ble_eq_true rfl) hRl)⟩) hN (hK.sub (tys' := []) [] rfl) (va_P0 _ _ _) (va_D0 A) rfl hl.1 (Nat.le_of_ble_eq_true rfl) ⟨hRc, hRs⟩ dX1_readNumber_17) hP hS hA rfl (fun H locs hP hS => ?_)
    have hf_9 := dig_01 (chrZ (T 0) (T 1 0) ((T 4 0) + 1))
    refine z_if_eq (tgt := 56) hx hb dX1_readNumber_20 (by decide) (by omega) (fun c_10 => ?_) (fun c_10 => ?_)
    · refine lv_iload_n hx hb dX1_readNumber_56 rfl (lv_at hl 0 rfl) ?_
      refine z_if_eq (tgt := 69) hx hb dX1_readNumber_57 (by decide) (by omega) (fun c_11 => absurd c_11 (by omega)) (fun c_11 => ?_)
      refine lv_iload_n hx hb dX1_readNumber_60 rfl (lv_at hl 3 rfl) ?_
      refine z_iconst hx hb dX1_readNumber_61 ?_
      refine z_iconst hx hb dX1_readNumber_62 ?_
      refine mw_none (st1 := [.int (iI (outZ w 0 2))]) (mr_SN (As := [.int (iI w), .int (iI 0), .int (iI 2)]) (rest := []) ⟨hx, hb, hml, hown, hts⟩ (m_X2_isOutside l D w 0 2 (by omega) (by omega) (by omega)) ⟨va_cnB 3 hts (gSelf q_35) rfl rfl rfl hN.2 (hq _ q_37) (by decide +kernel) ⟨Nat.le_trans (m := 1) (Nat.le_of_ble_eq_true rfl) (Nat.le_trans (Nat.le_of_ble_eq_true rfl) hRf), Nat.le_trans (m := 22) (Nat.le_of_ble_eq_true rfl) (Nat.le_trans (Nat.le_of_ble_eq_true rfl) hRl)⟩, hq _ q_36, trivial⟩ hN (hK.sub (tys' := []) [] rfl) (va_P0 _ _ _) (va_D0 A) rfl hl.1 (Nat.le_of_ble_eq_true rfl) ⟨hRc, hRs⟩ dX1_readNumber_63) hP hS hA rfl (fun H locs hP hS => ?_)
      have hf_12 : outZ w 0 2 = if w < 0 ∨ 2 < w then 1 else 0 := rfl
      refine z_if_eq (tgt := 71) hx hb dX1_readNumber_66 (by decide) (by omega) (fun c_13 => ?_) (fun c_13 => absurd c_13 (by omega))
      refine lv_aload_n hx hb dX1_readNumber_71 rfl (lv_at hl 2 rfl) ?_
      refine va_get (D := D) (ci := 1) (v := .ref (ta 3)) (C := RX1) (T := TX1) (N := 5) hx hb hq inA1 hown hK hP 0 rfl rfl 3 (by decide) (hq _ q_157) (fun _ h9 => h9) rfl dX1_readNumber_72 ?_
      refine lv_iload_n hx hb dX1_readNumber_75 rfl (lv_at hl 3 rfl) ?_
      refine lv_iload_n hx hb dX1_readNumber_76 rfl (lv_at hl 1 rfl) ?_
      refine z_iast (w1 := (wT t ta cI cC (upG (upG T 4 0 ((T 4 0) + 1)) 3 w ((10 * 0) + (chrZ (T 0) (T 1 0) (T 4 0) - 48))))) hx hb hK hP hD hS 2 0 rfl rfl (by omega) (by omega) rfl dX1_readNumber_77 (fun H locs hP hD hS => ?_)
      refine z_iconst hx hb dX1_readNumber_78 ?_
      refine z_as (show 1 = rnV T from by first | rfl | omega | (unfold rnV; omega)) ?_
      have eW0 : rnZ T w = (upG (upG T 4 0 ((T 4 0) + 1)) 3 w ((10 * 0) + (chrZ (T 0) (T 1 0) (T 4 0) - 48))) := by (unfold rnZ; (repeat' split) <;> first | (exfalso; omega) | rfl)
      rw [← eW0] at hP hD
      first | exact hret _ _ _ _ dX1_readNumber_79 hP hD hS | (exfalso; omega)
    · refine z_bipush hx hb dX1_readNumber_23 (by decide +kernel) ?_
      refine lv_iload_n hx hb dX1_readNumber_25 rfl (lv_at hl 1 rfl) ?_
      refine z_imul hx hb dX1_readNumber_26 ?_
      refine lv_aload_n hx hb dX1_readNumber_27 rfl (lv_at hl 2 rfl) ?_
      refine lv_aload_n hx hb dX1_readNumber_28 rfl (lv_at hl 2 rfl) ?_
      refine va_get (D := D) (ci := 1) (v := .int (iI ((T 4 0) + 1))) (C := RX1) (T := TX1) (N := 5) hx hb hq inA1 hown hK hP 0 rfl rfl 4 (by decide) (hq _ q_165) (fun _ h9 => h9) rfl dX1_readNumber_29 ?_
      refine mw_full (st1 := [.int (iI (chrZ (T 0) (T 1 0) ((T 4 0) + 1))), .int (iI (10 * ((10 * 0) + (chrZ (T 0) (T 1 0) (T 4 0) - 48))))]) (mr_V (As := [.int (iI ((T 4 0) + 1))]) (rest := [.int (iI (10 * ((10 * 0) + (chrZ (T 0) (T 1 0) (T 4 0) - 48))))]) (ci := 1) (q0 := 0) ⟨hx, hb, hml, hown, hts⟩ (m_X1_signAt l D t ta cI cC (upG T 4 0 ((T 4 0) + 1)) ((T 4 0) + 1) hT (by omega)) (cwV 1 hts (gV q_170 q_171 q_172 q_173 q_167) rfl rfl rfl (by decide +kernel) ⟨Nat.le_trans (m := 2) (Nat.le_of_ble_eq_true rfl) (Nat.le_trans (Nat.le_of_ble_eq_true rfl) hRf), Nat.le_trans (m := 43) (Nat.le_of_ble_eq_true rfl) (Nat.le_trans (Nat.le_of_ble_eq_true rfl) hRl)⟩) hN hK hP hD rfl rfl rfl hl.1 (Nat.le_of_ble_eq_true rfl) ⟨hRc, hRs⟩ dX1_readNumber_32) hD hS hA rfl (fun H locs hP hD hS => ?_)
      have hf_14 := chr_bd hT ((T 4 0) + 1)
      refine z_bipush hx hb dX1_readNumber_35 (by decide +kernel) ?_
      refine z_isub hx hb dX1_readNumber_37 ?_
      refine z_iadd hx hb dX1_readNumber_38 ?_
      refine lv_istore_n (lv' := [(2, .int (iI ((10 * ((10 * 0) + (chrZ (T 0) (T 1 0) (T 4 0) - 48))) + (chrZ (T 0) (T 1 0) ((T 4 0) + 1) - 48)))), (3, .int (iI 1)), (0, .ref t), (1, .int (iI w))]) hx hb dX1_readNumber_39 rfl hl (by decide) rfl (fun ls hl => ?_)
      refine lv_aload_n hx hb dX1_readNumber_40 rfl (lv_at hl 2 rfl) ?_
      refine lv_dup hx hb dX1_readNumber_41 rfl ?_
      refine va_get (D := D) (ci := 1) (v := .int (iI ((T 4 0) + 1))) (C := RX1) (T := TX1) (N := 5) hx hb hq inA1 hown hK hP 0 rfl rfl 4 (by decide) (hq _ q_165) (fun _ h9 => h9) rfl dX1_readNumber_42 ?_
      refine z_iconst hx hb dX1_readNumber_45 ?_
      refine z_iadd hx hb dX1_readNumber_46 ?_
      refine va_put (D := D) (ci := 1) (v := .int (iI (((T 4 0) + 1) + 1))) (ty := .int) (C := RX1) (T := TX1) (N := 5) hx hb hq inA1 tyX1 tyX1_ok nmX1 hown hK hP hD hS 0 rfl rfl 4 (by decide) (hq _ q_165) (fun _ h9 => h9) rfl (by decide +kernel) rfl rfl (Nat.le_of_ble_eq_true rfl) dX1_readNumber_47 (fun H locs hP hD hS => ?_)
      have hP : va_P D vwCl (wT t ta cI cC (upG T 4 0 (((T 4 0) + 1) + 1))) H := hP
      have hD : va_D A (wT t ta cI cC (upG T 4 0 (((T 4 0) + 1) + 1))) := hD
      refine lv_iinc (v := iI 2) (lv' := [(3, .int (iI 2)), (2, .int (iI ((10 * ((10 * 0) + (chrZ (T 0) (T 1 0) (T 4 0) - 48))) + (chrZ (T 0) (T 1 0) ((T 4 0) + 1) - 48)))), (0, .ref t), (1, .int (iI w))]) hx hb dX1_readNumber_50 hl (k := 1) rfl (by decide +kernel) (by decide) rfl (fun ls hl => ?_)
      refine lv_goto (tgt := 4) hx hb dX1_readNumber_53 (by decide) ?_
      refine lv_iload_n hx hb dX1_readNumber_4 rfl (lv_at hl 0 rfl) ?_
      refine z_iconst hx hb dX1_readNumber_5 ?_
      refine z_icmp_ge (tgt := 56) hx hb dX1_readNumber_6 (by decide) (by omega) (by omega) (fun c_15 => absurd c_15 (by omega)) (fun c_15 => ?_)
      refine lv_aload_n hx hb dX1_readNumber_9 rfl (lv_at hl 2 rfl) ?_
      refine lv_aload_n hx hb dX1_readNumber_10 rfl (lv_at hl 2 rfl) ?_
      refine va_get (D := D) (ci := 1) (v := .int (iI (((T 4 0) + 1) + 1))) (C := RX1) (T := TX1) (N := 5) hx hb hq inA1 hown hK hP 0 rfl rfl 4 (by decide) (hq _ q_165) (fun _ h9 => h9) rfl dX1_readNumber_11 ?_
      refine mw_full (st1 := [.int (iI (chrZ (T 0) (T 1 0) (((T 4 0) + 1) + 1)))]) (mr_V (As := [.int (iI (((T 4 0) + 1) + 1))]) (rest := []) (ci := 1) (q0 := 0) ⟨hx, hb, hml, hown, hts⟩ (m_X1_signAt l D t ta cI cC (upG T 4 0 (((T 4 0) + 1) + 1)) (((T 4 0) + 1) + 1) hT (by omega)) (cwV 1 hts (gV q_170 q_171 q_172 q_173 q_167) rfl rfl rfl (by decide +kernel) ⟨Nat.le_trans (m := 2) (Nat.le_of_ble_eq_true rfl) (Nat.le_trans (Nat.le_of_ble_eq_true rfl) hRf), Nat.le_trans (m := 43) (Nat.le_of_ble_eq_true rfl) (Nat.le_trans (Nat.le_of_ble_eq_true rfl) hRl)⟩) hN hK hP hD rfl rfl rfl hl.1 (Nat.le_of_ble_eq_true rfl) ⟨hRc, hRs⟩ dX1_readNumber_14) hD hS hA rfl (fun H locs hP hD hS => ?_)
      have hf_16 := chr_bd hT (((T 4 0) + 1) + 1)
      refine mw_none (st1 := [.int (iI (digZ (chrZ (T 0) (T 1 0) (((T 4 0) + 1) + 1))))]) (mr_S (As := [.int (iI (chrZ (T 0) (T 1 0) (((T 4 0) + 1) + 1)))]) (rest := []) ⟨hx, hb, hml, hown, hts⟩ (m_X1_isDigit l D (chrZ (T 0) (T 1 0) (((T 4 0) + 1) + 1)) (by omega)) (va_cwS 1 hts (gS q_174 q_175 q_173 q_169) rfl rfl rfl (by decide +kernel) ⟨Nat.le_trans (m := 1) (Nat.le_of_ble_eq_true rfl) (Nat.le_trans (Nat.le_of_ble_eq_true rfl) hRf), Nat.le_trans (m := 20) (Nat.le_of_ble_eq_true rfl) (Nat.le_trans (Nat.le_of_ble_eq_true rfl) hRl)⟩) hN (hK.sub (tys' := []) [] rfl) (va_P0 _ _ _) (va_D0 A) rfl hl.1 (Nat.le_of_ble_eq_true rfl) ⟨hRc, hRs⟩ dX1_readNumber_17) hP hS hA rfl (fun H locs hP hS => ?_)
      have hf_17 := dig_01 (chrZ (T 0) (T 1 0) (((T 4 0) + 1) + 1))
      refine z_if_eq (tgt := 56) hx hb dX1_readNumber_20 (by decide) (by omega) (fun c_18 => ?_) (fun c_18 => ?_)
      · refine lv_iload_n hx hb dX1_readNumber_56 rfl (lv_at hl 0 rfl) ?_
        refine z_if_eq (tgt := 69) hx hb dX1_readNumber_57 (by decide) (by omega) (fun c_19 => absurd c_19 (by omega)) (fun c_19 => ?_)
        refine lv_iload_n hx hb dX1_readNumber_60 rfl (lv_at hl 3 rfl) ?_
        refine z_iconst hx hb dX1_readNumber_61 ?_
        refine z_iconst hx hb dX1_readNumber_62 ?_
        refine mw_none (st1 := [.int (iI (outZ w 0 2))]) (mr_SN (As := [.int (iI w), .int (iI 0), .int (iI 2)]) (rest := []) ⟨hx, hb, hml, hown, hts⟩ (m_X2_isOutside l D w 0 2 (by omega) (by omega) (by omega)) ⟨va_cnB 3 hts (gSelf q_35) rfl rfl rfl hN.2 (hq _ q_37) (by decide +kernel) ⟨Nat.le_trans (m := 1) (Nat.le_of_ble_eq_true rfl) (Nat.le_trans (Nat.le_of_ble_eq_true rfl) hRf), Nat.le_trans (m := 22) (Nat.le_of_ble_eq_true rfl) (Nat.le_trans (Nat.le_of_ble_eq_true rfl) hRl)⟩, hq _ q_36, trivial⟩ hN (hK.sub (tys' := []) [] rfl) (va_P0 _ _ _) (va_D0 A) rfl hl.1 (Nat.le_of_ble_eq_true rfl) ⟨hRc, hRs⟩ dX1_readNumber_63) hP hS hA rfl (fun H locs hP hS => ?_)
        have hf_20 : outZ w 0 2 = if w < 0 ∨ 2 < w then 1 else 0 := rfl
        refine z_if_eq (tgt := 71) hx hb dX1_readNumber_66 (by decide) (by omega) (fun c_21 => ?_) (fun c_21 => absurd c_21 (by omega))
        refine lv_aload_n hx hb dX1_readNumber_71 rfl (lv_at hl 2 rfl) ?_
        refine va_get (D := D) (ci := 1) (v := .ref (ta 3)) (C := RX1) (T := TX1) (N := 5) hx hb hq inA1 hown hK hP 0 rfl rfl 3 (by decide) (hq _ q_157) (fun _ h9 => h9) rfl dX1_readNumber_72 ?_
        refine lv_iload_n hx hb dX1_readNumber_75 rfl (lv_at hl 3 rfl) ?_
        refine lv_iload_n hx hb dX1_readNumber_76 rfl (lv_at hl 1 rfl) ?_
        refine z_iast (w1 := (wT t ta cI cC (upG (upG T 4 0 (((T 4 0) + 1) + 1)) 3 w ((10 * ((10 * 0) + (chrZ (T 0) (T 1 0) (T 4 0) - 48))) + (chrZ (T 0) (T 1 0) ((T 4 0) + 1) - 48))))) hx hb hK hP hD hS 2 0 rfl rfl (by omega) (by omega) rfl dX1_readNumber_77 (fun H locs hP hD hS => ?_)
        refine z_iconst hx hb dX1_readNumber_78 ?_
        refine z_as (show 1 = rnV T from by first | rfl | omega | (unfold rnV; omega)) ?_
        have eW0 : rnZ T w = (upG (upG T 4 0 (((T 4 0) + 1) + 1)) 3 w ((10 * ((10 * 0) + (chrZ (T 0) (T 1 0) (T 4 0) - 48))) + (chrZ (T 0) (T 1 0) ((T 4 0) + 1) - 48))) := by (unfold rnZ; (repeat' split) <;> first | (exfalso; omega) | rfl)
        rw [← eW0] at hP hD
        first | exact hret _ _ _ _ dX1_readNumber_79 hP hD hS | (exfalso; omega)
      · refine z_bipush hx hb dX1_readNumber_23 (by decide +kernel) ?_
        refine lv_iload_n hx hb dX1_readNumber_25 rfl (lv_at hl 1 rfl) ?_
        refine z_imul hx hb dX1_readNumber_26 ?_
        refine lv_aload_n hx hb dX1_readNumber_27 rfl (lv_at hl 2 rfl) ?_
        refine lv_aload_n hx hb dX1_readNumber_28 rfl (lv_at hl 2 rfl) ?_
        refine va_get (D := D) (ci := 1) (v := .int (iI (((T 4 0) + 1) + 1))) (C := RX1) (T := TX1) (N := 5) hx hb hq inA1 hown hK hP 0 rfl rfl 4 (by decide) (hq _ q_165) (fun _ h9 => h9) rfl dX1_readNumber_29 ?_
        refine mw_full (st1 := [.int (iI (chrZ (T 0) (T 1 0) (((T 4 0) + 1) + 1))), .int (iI (10 * ((10 * ((10 * 0) + (chrZ (T 0) (T 1 0) (T 4 0) - 48))) + (chrZ (T 0) (T 1 0) ((T 4 0) + 1) - 48))))]) (mr_V (As := [.int (iI (((T 4 0) + 1) + 1))]) (rest := [.int (iI (10 * ((10 * ((10 * 0) + (chrZ (T 0) (T 1 0) (T 4 0) - 48))) + (chrZ (T 0) (T 1 0) ((T 4 0) + 1) - 48))))]) (ci := 1) (q0 := 0) ⟨hx, hb, hml, hown, hts⟩ (m_X1_signAt l D t ta cI cC (upG T 4 0 (((T 4 0) + 1) + 1)) (((T 4 0) + 1) + 1) hT (by omega)) (cwV 1 hts (gV q_170 q_171 q_172 q_173 q_167) rfl rfl rfl (by decide +kernel) ⟨Nat.le_trans (m := 2) (Nat.le_of_ble_eq_true rfl) (Nat.le_trans (Nat.le_of_ble_eq_true rfl) hRf), Nat.le_trans (m := 43) (Nat.le_of_ble_eq_true rfl) (Nat.le_trans (Nat.le_of_ble_eq_true rfl) hRl)⟩) hN hK hP hD rfl rfl rfl hl.1 (Nat.le_of_ble_eq_true rfl) ⟨hRc, hRs⟩ dX1_readNumber_32) hD hS hA rfl (fun H locs hP hD hS => ?_)
        have hf_22 := chr_bd hT (((T 4 0) + 1) + 1)
        refine z_bipush hx hb dX1_readNumber_35 (by decide +kernel) ?_
        refine z_isub hx hb dX1_readNumber_37 ?_
        refine z_iadd hx hb dX1_readNumber_38 ?_
        refine lv_istore_n (lv' := [(2, .int (iI ((10 * ((10 * ((10 * 0) + (chrZ (T 0) (T 1 0) (T 4 0) - 48))) + (chrZ (T 0) (T 1 0) ((T 4 0) + 1) - 48))) + (chrZ (T 0) (T 1 0) (((T 4 0) + 1) + 1) - 48)))), (3, .int (iI 2)), (0, .ref t), (1, .int (iI w))]) hx hb dX1_readNumber_39 rfl hl (by decide) rfl (fun ls hl => ?_)
        refine lv_aload_n hx hb dX1_readNumber_40 rfl (lv_at hl 2 rfl) ?_
        refine lv_dup hx hb dX1_readNumber_41 rfl ?_
        refine va_get (D := D) (ci := 1) (v := .int (iI (((T 4 0) + 1) + 1))) (C := RX1) (T := TX1) (N := 5) hx hb hq inA1 hown hK hP 0 rfl rfl 4 (by decide) (hq _ q_165) (fun _ h9 => h9) rfl dX1_readNumber_42 ?_
        refine z_iconst hx hb dX1_readNumber_45 ?_
        refine z_iadd hx hb dX1_readNumber_46 ?_
        refine va_put (D := D) (ci := 1) (v := .int (iI ((((T 4 0) + 1) + 1) + 1))) (ty := .int) (C := RX1) (T := TX1) (N := 5) hx hb hq inA1 tyX1 tyX1_ok nmX1 hown hK hP hD hS 0 rfl rfl 4 (by decide) (hq _ q_165) (fun _ h9 => h9) rfl (by decide +kernel) rfl rfl (Nat.le_of_ble_eq_true rfl) dX1_readNumber_47 (fun H locs hP hD hS => ?_)
        have hP : va_P D vwCl (wT t ta cI cC (upG T 4 0 ((((T 4 0) + 1) + 1) + 1))) H := hP
        have hD : va_D A (wT t ta cI cC (upG T 4 0 ((((T 4 0) + 1) + 1) + 1))) := hD
        refine lv_iinc (v := iI 3) (lv' := [(3, .int (iI 3)), (2, .int (iI ((10 * ((10 * ((10 * 0) + (chrZ (T 0) (T 1 0) (T 4 0) - 48))) + (chrZ (T 0) (T 1 0) ((T 4 0) + 1) - 48))) + (chrZ (T 0) (T 1 0) (((T 4 0) + 1) + 1) - 48)))), (0, .ref t), (1, .int (iI w))]) hx hb dX1_readNumber_50 hl (k := 1) rfl (by decide +kernel) (by decide) rfl (fun ls hl => ?_)
        refine lv_goto (tgt := 4) hx hb dX1_readNumber_53 (by decide) ?_
        refine lv_iload_n hx hb dX1_readNumber_4 rfl (lv_at hl 0 rfl) ?_
        refine z_iconst hx hb dX1_readNumber_5 ?_
        refine z_icmp_ge (tgt := 56) hx hb dX1_readNumber_6 (by decide) (by omega) (by omega) (fun c_23 => ?_) (fun c_23 => absurd c_23 (by omega))
        refine lv_iload_n hx hb dX1_readNumber_56 rfl (lv_at hl 0 rfl) ?_
        refine z_if_eq (tgt := 69) hx hb dX1_readNumber_57 (by decide) (by omega) (fun c_24 => absurd c_24 (by omega)) (fun c_24 => ?_)
        refine lv_iload_n hx hb dX1_readNumber_60 rfl (lv_at hl 3 rfl) ?_
        refine z_iconst hx hb dX1_readNumber_61 ?_
        refine z_iconst hx hb dX1_readNumber_62 ?_
        refine mw_none (st1 := [.int (iI (outZ w 0 2))]) (mr_SN (As := [.int (iI w), .int (iI 0), .int (iI 2)]) (rest := []) ⟨hx, hb, hml, hown, hts⟩ (m_X2_isOutside l D w 0 2 (by omega) (by omega) (by omega)) ⟨va_cnB 3 hts (gSelf q_35) rfl rfl rfl hN.2 (hq _ q_37) (by decide +kernel) ⟨Nat.le_trans (m := 1) (Nat.le_of_ble_eq_true rfl) (Nat.le_trans (Nat.le_of_ble_eq_true rfl) hRf), Nat.le_trans (m := 22) (Nat.le_of_ble_eq_true rfl) (Nat.le_trans (Nat.le_of_ble_eq_true rfl) hRl)⟩, hq _ q_36, trivial⟩ hN (hK.sub (tys' := []) [] rfl) (va_P0 _ _ _) (va_D0 A) rfl hl.1 (Nat.le_of_ble_eq_true rfl) ⟨hRc, hRs⟩ dX1_readNumber_63) hP hS hA rfl (fun H locs hP hS => ?_)
        have hf_25 : outZ w 0 2 = if w < 0 ∨ 2 < w then 1 else 0 := rfl
        refine z_if_eq (tgt := 71) hx hb dX1_readNumber_66 (by decide) (by omega) (fun c_26 => ?_) (fun c_26 => absurd c_26 (by omega))
        refine lv_aload_n hx hb dX1_readNumber_71 rfl (lv_at hl 2 rfl) ?_
        refine va_get (D := D) (ci := 1) (v := .ref (ta 3)) (C := RX1) (T := TX1) (N := 5) hx hb hq inA1 hown hK hP 0 rfl rfl 3 (by decide) (hq _ q_157) (fun _ h9 => h9) rfl dX1_readNumber_72 ?_
        refine lv_iload_n hx hb dX1_readNumber_75 rfl (lv_at hl 3 rfl) ?_
        refine lv_iload_n hx hb dX1_readNumber_76 rfl (lv_at hl 1 rfl) ?_
        refine z_iast (w1 := (wT t ta cI cC (upG (upG T 4 0 ((((T 4 0) + 1) + 1) + 1)) 3 w ((10 * ((10 * ((10 * 0) + (chrZ (T 0) (T 1 0) (T 4 0) - 48))) + (chrZ (T 0) (T 1 0) ((T 4 0) + 1) - 48))) + (chrZ (T 0) (T 1 0) (((T 4 0) + 1) + 1) - 48))))) hx hb hK hP hD hS 2 0 rfl rfl (by omega) (by omega) rfl dX1_readNumber_77 (fun H locs hP hD hS => ?_)
        refine z_iconst hx hb dX1_readNumber_78 ?_
        refine z_as (show 1 = rnV T from by first | rfl | omega | (unfold rnV; omega)) ?_
        have eW0 : rnZ T w = (upG (upG T 4 0 ((((T 4 0) + 1) + 1) + 1)) 3 w ((10 * ((10 * ((10 * 0) + (chrZ (T 0) (T 1 0) (T 4 0) - 48))) + (chrZ (T 0) (T 1 0) ((T 4 0) + 1) - 48))) + (chrZ (T 0) (T 1 0) (((T 4 0) + 1) + 1) - 48))) := by (unfold rnZ; (repeat' split) <;> first | (exfalso; omega) | rfl)
        rw [← eW0] at hP hD
        first | exact hret _ _ _ _ dX1_readNumber_79 hP hD hS | (exfalso; omega)
set_option maxHeartbeats 4000000 in
set_option maxRecDepth 100000 in
theorem m_X1_readOrder (l : Launch) (D : va_G) (t : Nat) (ta : Nat → Nat) (cI : ClassId) (cC : ClassId) (T : Nat → Int → Int) (q : Int) (hT : InvT T) (h1 : 0 ≤ q ∧ q ≤ 60)  : MW l D yX1_readOrder (wsY yX1_readOrder cX1_readOrder 5 (some .boolean)) { frames := 3, cells := 0, slots := 0, locals := 66 } [(cI, .int), (cC, .char)] [.ref t, .int (iI q)] (wT t ta cI cC T) (wT t ta cI cC (roT T q)) (some (.int (iI (roV T q)))) := by
  refine mw_ofZ (cc := cX1_readOrder) (maxL := 5) (ty := .boolean) (narrow_z01 (ro_01 T q)) (by decide) rfl (Nat.le_of_ble_eq_true rfl) ?_
  intro p e s m below meth c R A Q args ls hx hb hml hown hts hRf hRl hRc hRs hN hK hP hD hS hA hret hl
  have hq : ∀ w ∈ ALL, w.before args s = true := fun w h => hts w (List.mem_cons_of_mem _ h)
  have hl : lv_has ls 5 [(0, .ref t), (1, .int (iI q))] := hl
  have hT1 := hT.1
  refine lv_aload_n hx hb dX1_readOrder_0 rfl (lv_at hl 0 rfl) ?_
  refine lv_iload_n hx hb dX1_readOrder_1 rfl (lv_at hl 1 rfl) ?_
  refine va_put (D := D) (ci := 1) (v := .int (iI q)) (ty := .int) (C := RX1) (T := TX1) (N := 5) hx hb hq inA1 tyX1 tyX1_ok nmX1 hown hK hP hD hS 0 rfl rfl 4 (by decide) (hq _ q_165) (fun _ h9 => h9) rfl (by decide +kernel) rfl rfl (Nat.le_of_ble_eq_true rfl) dX1_readOrder_2 (fun H locs hP hD hS => ?_)
  have hP : va_P D vwCl (wT t ta cI cC (upG T 4 0 q)) H := hP
  have hD : va_D A (wT t ta cI cC (upG T 4 0 q)) := hD
  refine lv_aload_n hx hb dX1_readOrder_5 rfl (lv_at hl 0 rfl) ?_
  refine lv_aload_n hx hb dX1_readOrder_6 rfl (lv_at hl 0 rfl) ?_
  refine lv_iload_n hx hb dX1_readOrder_7 rfl (lv_at hl 1 rfl) ?_
  refine mw_full (st1 := [.int (iI (chrZ (T 0) (T 1 0) q)), .ref t]) (mr_V (As := [.int (iI q)]) (rest := [.ref t]) (ci := 1) (q0 := 0) ⟨hx, hb, hml, hown, hts⟩ (m_X1_signAt l D t ta cI cC (upG T 4 0 q) q hT (by omega)) (cwV 1 hts (gV q_170 q_171 q_172 q_173 q_167) rfl rfl rfl (by decide +kernel) ⟨Nat.le_trans (m := 2) (Nat.le_of_ble_eq_true rfl) (Nat.le_trans (Nat.le_of_ble_eq_true rfl) hRf), Nat.le_trans (m := 43) (Nat.le_of_ble_eq_true rfl) (Nat.le_trans (Nat.le_of_ble_eq_true rfl) hRl)⟩) hN hK hP hD rfl rfl rfl hl.1 (Nat.le_of_ble_eq_true rfl) ⟨hRc, hRs⟩ dX1_readOrder_8) hD hS hA rfl (fun H locs hP hD hS => ?_)
  have hf_1 := chr_bd hT q
  refine va_put (D := D) (ci := 1) (v := .int (iI (chrZ (T 0) (T 1 0) q))) (ty := .char) (C := RX1) (T := TX1) (N := 5) hx hb hq inA1 tyX1 tyX1_ok nmX1 hown hK hP hD hS 0 rfl rfl 2 (by decide) (hq _ q_177) (fun _ h9 => h9) rfl (by decide +kernel) (narrow_c (by omega)) (fits_c (by omega)) (Nat.le_of_ble_eq_true rfl) dX1_readOrder_11 (fun H locs hP hD hS => ?_)
  have hP : va_P D vwCl (wT t ta cI cC (upG (upG T 4 0 q) 2 0 (chrZ (T 0) (T 1 0) q))) H := hP
  have hD : va_D A (wT t ta cI cC (upG (upG T 4 0 q) 2 0 (chrZ (T 0) (T 1 0) q))) := hD
  refine lv_aload_n hx hb dX1_readOrder_14 rfl (lv_at hl 0 rfl) ?_
  refine va_get (D := D) (ci := 1) (v := .int (iI (chrZ (T 0) (T 1 0) q))) (C := RX1) (T := TX1) (N := 5) hx hb hq inA1 hown hK hP 0 rfl rfl 2 (by decide) (hq _ q_177) (fun _ h9 => h9) rfl dX1_readOrder_15 ?_
  refine mw_none (st1 := [.int (iI (nosZ (chrZ (T 0) (T 1 0) q)))]) (mr_S (As := [.int (iI (chrZ (T 0) (T 1 0) q))]) (rest := []) ⟨hx, hb, hml, hown, hts⟩ (m_X1_numbersOf l D (chrZ (T 0) (T 1 0) q) (by omega)) (va_cwS 1 hts (gS q_178 q_179 q_173 q_168) rfl rfl rfl (by decide +kernel) ⟨Nat.le_trans (m := 1) (Nat.le_of_ble_eq_true rfl) (Nat.le_trans (Nat.le_of_ble_eq_true rfl) hRf), Nat.le_trans (m := 20) (Nat.le_of_ble_eq_true rfl) (Nat.le_trans (Nat.le_of_ble_eq_true rfl) hRl)⟩) hN (hK.sub (tys' := []) [] rfl) (va_P0 _ _ _) (va_D0 A) rfl hl.1 (Nat.le_of_ble_eq_true rfl) ⟨hRc, hRs⟩ dX1_readOrder_18) hP hS hA rfl (fun H locs hP hS => ?_)
  have hf_2 := nos_bd (chrZ (T 0) (T 1 0) q)
  rcases (show nosZ (chrZ (T 0) (T 1 0) q) = 0 ∨ nosZ (chrZ (T 0) (T 1 0) q) = 1 ∨ nosZ (chrZ (T 0) (T 1 0) q) = 2 ∨ nosZ (chrZ (T 0) (T 1 0) q) = 3 from by omega) with hcs_3 | hcs_3 | hcs_3 | hcs_3
  · refine z_as hcs_3 ?_
    refine lv_istore_n (lv' := [(2, .int (iI 0)), (0, .ref t), (1, .int (iI q))]) hx hb dX1_readOrder_21 rfl hl (by decide) rfl (fun ls hl => ?_)
    refine lv_iload_n hx hb dX1_readOrder_22 rfl (lv_at hl 0 rfl) ?_
    refine z_if_ne (tgt := 28) hx hb dX1_readOrder_23 (by decide) (by omega) (fun c_4 => absurd c_4 (by omega)) (fun c_4 => ?_)
    refine z_iconst hx hb dX1_readOrder_26 ?_
    refine z_as (show 0 = roV T q from by first | rfl | (simp [roV, roT, stV, stT, ro1, ro2, hcs_3])) ?_
    have eW0 : roT T q = (upG (upG T 4 0 q) 2 0 (chrZ (T 0) (T 1 0) q)) := by (simp [roV, roT, stV, stT, ro1, ro2, hcs_3])
    rw [← eW0] at hP hD
    first | exact hret _ _ _ _ dX1_readOrder_27 hP hD hS | (exfalso; omega)
  · refine z_as hcs_3 ?_
    refine lv_istore_n (lv' := [(2, .int (iI 1)), (0, .ref t), (1, .int (iI q))]) hx hb dX1_readOrder_21 rfl hl (by decide) rfl (fun ls hl => ?_)
    refine lv_iload_n hx hb dX1_readOrder_22 rfl (lv_at hl 0 rfl) ?_
    refine z_if_ne (tgt := 28) hx hb dX1_readOrder_23 (by decide) (by omega) (fun c_5 => ?_) (fun c_5 => absurd c_5 (by omega))
    refine lv_aload_n hx hb dX1_readOrder_28 rfl (lv_at hl 1 rfl) ?_
    refine lv_dup hx hb dX1_readOrder_29 rfl ?_
    refine va_get (D := D) (ci := 1) (v := .int (iI q)) (C := RX1) (T := TX1) (N := 5) hx hb hq inA1 hown hK hP 0 rfl rfl 4 (by decide) (hq _ q_165) (fun _ h9 => h9) rfl dX1_readOrder_30 ?_
    refine z_iconst hx hb dX1_readOrder_33 ?_
    refine z_iadd hx hb dX1_readOrder_34 ?_
    refine va_put (D := D) (ci := 1) (v := .int (iI (q + 1))) (ty := .int) (C := RX1) (T := TX1) (N := 5) hx hb hq inA1 tyX1 tyX1_ok nmX1 hown hK hP hD hS 0 rfl rfl 4 (by decide) (hq _ q_165) (fun _ h9 => h9) rfl (by decide +kernel) rfl rfl (Nat.le_of_ble_eq_true rfl) dX1_readOrder_35 (fun H locs hP hD hS => ?_)
    have hP : va_P D vwCl (wT t ta cI cC (upG (upG T 2 0 (chrZ (T 0) (T 1 0) q)) 4 0 (q + 1))) H := hP
    have hD : va_D A (wT t ta cI cC (upG (upG T 2 0 (chrZ (T 0) (T 1 0) q)) 4 0 (q + 1))) := hD
    refine z_iconst hx hb dX1_readOrder_38 ?_
    refine lv_istore_n (lv' := [(3, .int (iI 0)), (2, .int (iI 1)), (0, .ref t), (1, .int (iI q))]) hx hb dX1_readOrder_39 rfl hl (by decide) rfl (fun ls hl => ?_)
    refine lv_iload_n hx hb dX1_readOrder_40 rfl (lv_at hl 0 rfl) ?_
    refine lv_iload_n hx hb dX1_readOrder_41 rfl (lv_at hl 1 rfl) ?_
    refine z_icmp_ge (tgt := 102) hx hb dX1_readOrder_42 (by decide) (by omega) (by omega) (fun c_6 => absurd c_6 (by omega)) (fun c_6 => ?_)
    refine lv_aload_n hx hb dX1_readOrder_45 rfl (lv_at hl 2 rfl) ?_
    refine lv_iload_n hx hb dX1_readOrder_46 rfl (lv_at hl 0 rfl) ?_
    refine mw_full (st1 := [.int (iI (rnV (upG (upG T 2 0 (chrZ (T 0) (T 1 0) q)) 4 0 (q + 1))))]) (mr_V (As := [.int (iI 0)]) (rest := []) (ci := 1) (q0 := 0) ⟨hx, hb, hml, hown, hts⟩ (m_X1_readNumber l D t ta cI cC (upG (upG T 2 0 (chrZ (T 0) (T 1 0) q)) 4 0 (q + 1)) 0 hT (by omega) (show 0 ≤ (q + 1) ∧ (q + 1) ≤ 100 by omega)) (cwV 1 hts (gV q_180 q_181 q_182 q_173 q_176) rfl rfl rfl (by decide +kernel) ⟨Nat.le_trans (m := 3) (Nat.le_of_ble_eq_true rfl) (Nat.le_trans (Nat.le_of_ble_eq_true rfl) hRf), Nat.le_trans (m := 66) (Nat.le_of_ble_eq_true rfl) (Nat.le_trans (Nat.le_of_ble_eq_true rfl) hRl)⟩) hN hK hP hD rfl rfl rfl hl.1 (Nat.le_of_ble_eq_true rfl) ⟨hRc, hRs⟩ dX1_readOrder_47) hD hS hA rfl (fun H locs hP hD hS => ?_)
    have hf_7a : (q + 1) ≤ (rnZ (upG (upG T 2 0 (chrZ (T 0) (T 1 0) q)) 4 0 (q + 1)) 0) 4 0 ∧ (rnZ (upG (upG T 2 0 (chrZ (T 0) (T 1 0) q)) 4 0 (q + 1)) 0) 4 0 ≤ (q + 1) + 3 := rn_4 (upG (upG T 2 0 (chrZ (T 0) (T 1 0) q)) 4 0 (q + 1)) 0; have hf_7b : (rnZ (upG (upG T 2 0 (chrZ (T 0) (T 1 0) q)) 4 0 (q + 1)) 0) 1 0 = (T 1 0) := congrFun (rn_k (upG (upG T 2 0 (chrZ (T 0) (T 1 0) q)) 4 0 (q + 1)) 0 1 (by omega) (by omega)) 0; have hf_7c : rnV (upG (upG T 2 0 (chrZ (T 0) (T 1 0) q)) 4 0 (q + 1)) = 0 ∨ rnV (upG (upG T 2 0 (chrZ (T 0) (T 1 0) q)) 4 0 (q + 1)) = 1 := by unfold rnV; omega
    refine z_if_ne (tgt := 55) hx hb dX1_readOrder_50 (by decide) (by omega) (fun c_8 => ?_) (fun c_8 => ?_)
    · refine lv_iload_n hx hb dX1_readOrder_55 rfl (lv_at hl 0 rfl) ?_
      refine lv_iload_n hx hb dX1_readOrder_56 rfl (lv_at hl 1 rfl) ?_
      refine z_iconst hx hb dX1_readOrder_57 ?_
      refine z_isub hx hb dX1_readOrder_58 ?_
      refine z_icmp_ge (tgt := 67) hx hb dX1_readOrder_59 (by decide) (by omega) (by omega) (fun c_9 => ?_) (fun c_9 => absurd c_9 (by omega))
      refine z_bipush hx hb dX1_readOrder_67 (by decide +kernel) ?_
      refine lv_istore (lv' := [(4, .int (iI 59)), (3, .int (iI 0)), (2, .int (iI 1)), (0, .ref t), (1, .int (iI q))]) hx hb dX1_readOrder_69 hl (by decide) rfl (fun ls hl => ?_)
      refine lv_aload_n hx hb dX1_readOrder_71 rfl (lv_at hl 3 rfl) ?_
      refine lv_aload_n hx hb dX1_readOrder_72 rfl (lv_at hl 3 rfl) ?_
      refine va_get (D := D) (ci := 1) (v := .int (iI ((rnZ (upG (upG T 2 0 (chrZ (T 0) (T 1 0) q)) 4 0 (q + 1)) 0) 4 0))) (C := RX1) (T := TX1) (N := 5) hx hb hq inA1 hown hK hP 0 rfl rfl 4 (by decide) (hq _ q_165) (fun _ h9 => h9) rfl dX1_readOrder_73 ?_
      refine mw_full (st1 := [.int (iI (chrZ ((rnZ (upG (upG T 2 0 (chrZ (T 0) (T 1 0) q)) 4 0 (q + 1)) 0) 0) ((rnZ (upG (upG T 2 0 (chrZ (T 0) (T 1 0) q)) 4 0 (q + 1)) 0) 1 0) ((rnZ (upG (upG T 2 0 (chrZ (T 0) (T 1 0) q)) 4 0 (q + 1)) 0) 4 0)))]) (mr_V (As := [.int (iI ((rnZ (upG (upG T 2 0 (chrZ (T 0) (T 1 0) q)) 4 0 (q + 1)) 0) 4 0))]) (rest := []) (ci := 1) (q0 := 0) ⟨hx, hb, hml, hown, hts⟩ (m_X1_signAt l D t ta cI cC (rnZ (upG (upG T 2 0 (chrZ (T 0) (T 1 0) q)) 4 0 (q + 1)) 0) ((rnZ (upG (upG T 2 0 (chrZ (T 0) (T 1 0) q)) 4 0 (q + 1)) 0) 4 0) (rn_inv (T := (upG (upG T 2 0 (chrZ (T 0) (T 1 0) q)) 4 0 (q + 1))) hT 0) (by omega)) (cwV 1 hts (gV q_170 q_171 q_172 q_173 q_167) rfl rfl rfl (by decide +kernel) ⟨Nat.le_trans (m := 2) (Nat.le_of_ble_eq_true rfl) (Nat.le_trans (Nat.le_of_ble_eq_true rfl) hRf), Nat.le_trans (m := 43) (Nat.le_of_ble_eq_true rfl) (Nat.le_trans (Nat.le_of_ble_eq_true rfl) hRl)⟩) hN hK hP hD rfl rfl rfl hl.1 (Nat.le_of_ble_eq_true rfl) ⟨hRc, hRs⟩ dX1_readOrder_76) hD hS hA rfl (fun H locs hP hD hS => ?_)
      have hf_10 := chr_bd (rn_inv (T := (upG (upG T 2 0 (chrZ (T 0) (T 1 0) q)) 4 0 (q + 1))) hT 0) ((rnZ (upG (upG T 2 0 (chrZ (T 0) (T 1 0) q)) 4 0 (q + 1)) 0) 4 0)
      refine lv_iload hx hb dX1_readOrder_79 (lv_at hl 0 rfl) ?_
      refine z_icmp_eq (tgt := 86) hx hb dX1_readOrder_81 (by decide) (by omega) (by omega) (fun c_11 => ?_) (fun c_11 => ?_)
      · refine lv_aload_n hx hb dX1_readOrder_86 rfl (lv_at hl 3 rfl) ?_
        refine lv_dup hx hb dX1_readOrder_87 rfl ?_
        refine va_get (D := D) (ci := 1) (v := .int (iI ((rnZ (upG (upG T 2 0 (chrZ (T 0) (T 1 0) q)) 4 0 (q + 1)) 0) 4 0))) (C := RX1) (T := TX1) (N := 5) hx hb hq inA1 hown hK hP 0 rfl rfl 4 (by decide) (hq _ q_165) (fun _ h9 => h9) rfl dX1_readOrder_88 ?_
        refine z_iconst hx hb dX1_readOrder_91 ?_
        refine z_iadd hx hb dX1_readOrder_92 ?_
        refine va_put (D := D) (ci := 1) (v := .int (iI (((rnZ (upG (upG T 2 0 (chrZ (T 0) (T 1 0) q)) 4 0 (q + 1)) 0) 4 0) + 1))) (ty := .int) (C := RX1) (T := TX1) (N := 5) hx hb hq inA1 tyX1 tyX1_ok nmX1 hown hK hP hD hS 0 rfl rfl 4 (by decide) (hq _ q_165) (fun _ h9 => h9) rfl (by decide +kernel) rfl rfl (Nat.le_of_ble_eq_true rfl) dX1_readOrder_93 (fun H locs hP hD hS => ?_)
        have hP : va_P D vwCl (wT t ta cI cC (upG (rnZ (upG (upG T 2 0 (chrZ (T 0) (T 1 0) q)) 4 0 (q + 1)) 0) 4 0 (((rnZ (upG (upG T 2 0 (chrZ (T 0) (T 1 0) q)) 4 0 (q + 1)) 0) 4 0) + 1))) H := hP
        have hD : va_D A (wT t ta cI cC (upG (rnZ (upG (upG T 2 0 (chrZ (T 0) (T 1 0) q)) 4 0 (q + 1)) 0) 4 0 (((rnZ (upG (upG T 2 0 (chrZ (T 0) (T 1 0) q)) 4 0 (q + 1)) 0) 4 0) + 1))) := hD
        refine lv_iinc (v := iI 1) (lv' := [(3, .int (iI 1)), (4, .int (iI 59)), (2, .int (iI 1)), (0, .ref t), (1, .int (iI q))]) hx hb dX1_readOrder_96 hl (k := 1) rfl (by decide +kernel) (by decide) rfl (fun ls hl => ?_)
        refine lv_goto (tgt := 40) hx hb dX1_readOrder_99 (by decide) ?_
        refine lv_iload_n hx hb dX1_readOrder_40 rfl (lv_at hl 0 rfl) ?_
        refine lv_iload_n hx hb dX1_readOrder_41 rfl (lv_at hl 2 rfl) ?_
        refine z_icmp_ge (tgt := 102) hx hb dX1_readOrder_42 (by decide) (by omega) (by omega) (fun c_12 => ?_) (fun c_12 => absurd c_12 (by omega))
        refine z_iconst hx hb dX1_readOrder_102 ?_
        refine z_as (show 1 = roV T q from by first | rfl | (simp [roV, roT, stV, stT, ro1, ro2, hcs_3, c_8, c_11])) ?_
        have eW0 : roT T q = (upG (rnZ (upG (upG T 2 0 (chrZ (T 0) (T 1 0) q)) 4 0 (q + 1)) 0) 4 0 (((rnZ (upG (upG T 2 0 (chrZ (T 0) (T 1 0) q)) 4 0 (q + 1)) 0) 4 0) + 1)) := by (simp [roV, roT, stV, stT, ro1, ro2, hcs_3, c_8, c_11])
        rw [← eW0] at hP hD
        first | exact hret _ _ _ _ dX1_readOrder_103 hP hD hS | (exfalso; omega)
      · refine z_iconst hx hb dX1_readOrder_84 ?_
        refine z_as (show 0 = roV T q from by first | rfl | (simp [roV, roT, stV, stT, ro1, ro2, hcs_3, c_8, c_11])) ?_
        have eW0 : roT T q = (rnZ (upG (upG T 2 0 (chrZ (T 0) (T 1 0) q)) 4 0 (q + 1)) 0) := by (simp [roV, roT, stV, stT, ro1, ro2, hcs_3, c_8, c_11])
        rw [← eW0] at hP hD
        first | exact hret _ _ _ _ dX1_readOrder_85 hP hD hS | (exfalso; omega)
    · refine z_iconst hx hb dX1_readOrder_53 ?_
      refine z_as (show 0 = roV T q from by first | rfl | (simp [roV, roT, stV, stT, ro1, ro2, hcs_3, c_8])) ?_
      have eW0 : roT T q = (rnZ (upG (upG T 2 0 (chrZ (T 0) (T 1 0) q)) 4 0 (q + 1)) 0) := by (simp [roV, roT, stV, stT, ro1, ro2, hcs_3, c_8])
      rw [← eW0] at hP hD
      first | exact hret _ _ _ _ dX1_readOrder_54 hP hD hS | (exfalso; omega)
  · refine z_as hcs_3 ?_
    refine lv_istore_n (lv' := [(2, .int (iI 2)), (0, .ref t), (1, .int (iI q))]) hx hb dX1_readOrder_21 rfl hl (by decide) rfl (fun ls hl => ?_)
    refine lv_iload_n hx hb dX1_readOrder_22 rfl (lv_at hl 0 rfl) ?_
    refine z_if_ne (tgt := 28) hx hb dX1_readOrder_23 (by decide) (by omega) (fun c_13 => ?_) (fun c_13 => absurd c_13 (by omega))
    refine lv_aload_n hx hb dX1_readOrder_28 rfl (lv_at hl 1 rfl) ?_
    refine lv_dup hx hb dX1_readOrder_29 rfl ?_
    refine va_get (D := D) (ci := 1) (v := .int (iI q)) (C := RX1) (T := TX1) (N := 5) hx hb hq inA1 hown hK hP 0 rfl rfl 4 (by decide) (hq _ q_165) (fun _ h9 => h9) rfl dX1_readOrder_30 ?_
    refine z_iconst hx hb dX1_readOrder_33 ?_
    refine z_iadd hx hb dX1_readOrder_34 ?_
    refine va_put (D := D) (ci := 1) (v := .int (iI (q + 1))) (ty := .int) (C := RX1) (T := TX1) (N := 5) hx hb hq inA1 tyX1 tyX1_ok nmX1 hown hK hP hD hS 0 rfl rfl 4 (by decide) (hq _ q_165) (fun _ h9 => h9) rfl (by decide +kernel) rfl rfl (Nat.le_of_ble_eq_true rfl) dX1_readOrder_35 (fun H locs hP hD hS => ?_)
    have hP : va_P D vwCl (wT t ta cI cC (upG (upG T 2 0 (chrZ (T 0) (T 1 0) q)) 4 0 (q + 1))) H := hP
    have hD : va_D A (wT t ta cI cC (upG (upG T 2 0 (chrZ (T 0) (T 1 0) q)) 4 0 (q + 1))) := hD
    refine z_iconst hx hb dX1_readOrder_38 ?_
    refine lv_istore_n (lv' := [(3, .int (iI 0)), (2, .int (iI 2)), (0, .ref t), (1, .int (iI q))]) hx hb dX1_readOrder_39 rfl hl (by decide) rfl (fun ls hl => ?_)
    refine lv_iload_n hx hb dX1_readOrder_40 rfl (lv_at hl 0 rfl) ?_
    refine lv_iload_n hx hb dX1_readOrder_41 rfl (lv_at hl 1 rfl) ?_
    refine z_icmp_ge (tgt := 102) hx hb dX1_readOrder_42 (by decide) (by omega) (by omega) (fun c_14 => absurd c_14 (by omega)) (fun c_14 => ?_)
    refine lv_aload_n hx hb dX1_readOrder_45 rfl (lv_at hl 2 rfl) ?_
    refine lv_iload_n hx hb dX1_readOrder_46 rfl (lv_at hl 0 rfl) ?_
    refine mw_full (st1 := [.int (iI (rnV (upG (upG T 2 0 (chrZ (T 0) (T 1 0) q)) 4 0 (q + 1))))]) (mr_V (As := [.int (iI 0)]) (rest := []) (ci := 1) (q0 := 0) ⟨hx, hb, hml, hown, hts⟩ (m_X1_readNumber l D t ta cI cC (upG (upG T 2 0 (chrZ (T 0) (T 1 0) q)) 4 0 (q + 1)) 0 hT (by omega) (show 0 ≤ (q + 1) ∧ (q + 1) ≤ 100 by omega)) (cwV 1 hts (gV q_180 q_181 q_182 q_173 q_176) rfl rfl rfl (by decide +kernel) ⟨Nat.le_trans (m := 3) (Nat.le_of_ble_eq_true rfl) (Nat.le_trans (Nat.le_of_ble_eq_true rfl) hRf), Nat.le_trans (m := 66) (Nat.le_of_ble_eq_true rfl) (Nat.le_trans (Nat.le_of_ble_eq_true rfl) hRl)⟩) hN hK hP hD rfl rfl rfl hl.1 (Nat.le_of_ble_eq_true rfl) ⟨hRc, hRs⟩ dX1_readOrder_47) hD hS hA rfl (fun H locs hP hD hS => ?_)
    have hf_15a : (q + 1) ≤ (rnZ (upG (upG T 2 0 (chrZ (T 0) (T 1 0) q)) 4 0 (q + 1)) 0) 4 0 ∧ (rnZ (upG (upG T 2 0 (chrZ (T 0) (T 1 0) q)) 4 0 (q + 1)) 0) 4 0 ≤ (q + 1) + 3 := rn_4 (upG (upG T 2 0 (chrZ (T 0) (T 1 0) q)) 4 0 (q + 1)) 0; have hf_15b : (rnZ (upG (upG T 2 0 (chrZ (T 0) (T 1 0) q)) 4 0 (q + 1)) 0) 1 0 = (T 1 0) := congrFun (rn_k (upG (upG T 2 0 (chrZ (T 0) (T 1 0) q)) 4 0 (q + 1)) 0 1 (by omega) (by omega)) 0; have hf_15c : rnV (upG (upG T 2 0 (chrZ (T 0) (T 1 0) q)) 4 0 (q + 1)) = 0 ∨ rnV (upG (upG T 2 0 (chrZ (T 0) (T 1 0) q)) 4 0 (q + 1)) = 1 := by unfold rnV; omega
    refine z_if_ne (tgt := 55) hx hb dX1_readOrder_50 (by decide) (by omega) (fun c_16 => ?_) (fun c_16 => ?_)
    · refine lv_iload_n hx hb dX1_readOrder_55 rfl (lv_at hl 0 rfl) ?_
      refine lv_iload_n hx hb dX1_readOrder_56 rfl (lv_at hl 1 rfl) ?_
      refine z_iconst hx hb dX1_readOrder_57 ?_
      refine z_isub hx hb dX1_readOrder_58 ?_
      refine z_icmp_ge (tgt := 67) hx hb dX1_readOrder_59 (by decide) (by omega) (by omega) (fun c_17 => absurd c_17 (by omega)) (fun c_17 => ?_)
      refine z_bipush hx hb dX1_readOrder_62 (by decide +kernel) ?_
      refine lv_goto (tgt := 69) hx hb dX1_readOrder_64 (by decide) ?_
      refine lv_istore (lv' := [(4, .int (iI 44)), (3, .int (iI 0)), (2, .int (iI 2)), (0, .ref t), (1, .int (iI q))]) hx hb dX1_readOrder_69 hl (by decide) rfl (fun ls hl => ?_)
      refine lv_aload_n hx hb dX1_readOrder_71 rfl (lv_at hl 3 rfl) ?_
      refine lv_aload_n hx hb dX1_readOrder_72 rfl (lv_at hl 3 rfl) ?_
      refine va_get (D := D) (ci := 1) (v := .int (iI ((rnZ (upG (upG T 2 0 (chrZ (T 0) (T 1 0) q)) 4 0 (q + 1)) 0) 4 0))) (C := RX1) (T := TX1) (N := 5) hx hb hq inA1 hown hK hP 0 rfl rfl 4 (by decide) (hq _ q_165) (fun _ h9 => h9) rfl dX1_readOrder_73 ?_
      refine mw_full (st1 := [.int (iI (chrZ ((rnZ (upG (upG T 2 0 (chrZ (T 0) (T 1 0) q)) 4 0 (q + 1)) 0) 0) ((rnZ (upG (upG T 2 0 (chrZ (T 0) (T 1 0) q)) 4 0 (q + 1)) 0) 1 0) ((rnZ (upG (upG T 2 0 (chrZ (T 0) (T 1 0) q)) 4 0 (q + 1)) 0) 4 0)))]) (mr_V (As := [.int (iI ((rnZ (upG (upG T 2 0 (chrZ (T 0) (T 1 0) q)) 4 0 (q + 1)) 0) 4 0))]) (rest := []) (ci := 1) (q0 := 0) ⟨hx, hb, hml, hown, hts⟩ (m_X1_signAt l D t ta cI cC (rnZ (upG (upG T 2 0 (chrZ (T 0) (T 1 0) q)) 4 0 (q + 1)) 0) ((rnZ (upG (upG T 2 0 (chrZ (T 0) (T 1 0) q)) 4 0 (q + 1)) 0) 4 0) (rn_inv (T := (upG (upG T 2 0 (chrZ (T 0) (T 1 0) q)) 4 0 (q + 1))) hT 0) (by omega)) (cwV 1 hts (gV q_170 q_171 q_172 q_173 q_167) rfl rfl rfl (by decide +kernel) ⟨Nat.le_trans (m := 2) (Nat.le_of_ble_eq_true rfl) (Nat.le_trans (Nat.le_of_ble_eq_true rfl) hRf), Nat.le_trans (m := 43) (Nat.le_of_ble_eq_true rfl) (Nat.le_trans (Nat.le_of_ble_eq_true rfl) hRl)⟩) hN hK hP hD rfl rfl rfl hl.1 (Nat.le_of_ble_eq_true rfl) ⟨hRc, hRs⟩ dX1_readOrder_76) hD hS hA rfl (fun H locs hP hD hS => ?_)
      have hf_18 := chr_bd (rn_inv (T := (upG (upG T 2 0 (chrZ (T 0) (T 1 0) q)) 4 0 (q + 1))) hT 0) ((rnZ (upG (upG T 2 0 (chrZ (T 0) (T 1 0) q)) 4 0 (q + 1)) 0) 4 0)
      refine lv_iload hx hb dX1_readOrder_79 (lv_at hl 0 rfl) ?_
      refine z_icmp_eq (tgt := 86) hx hb dX1_readOrder_81 (by decide) (by omega) (by omega) (fun c_19 => ?_) (fun c_19 => ?_)
      · refine lv_aload_n hx hb dX1_readOrder_86 rfl (lv_at hl 3 rfl) ?_
        refine lv_dup hx hb dX1_readOrder_87 rfl ?_
        refine va_get (D := D) (ci := 1) (v := .int (iI ((rnZ (upG (upG T 2 0 (chrZ (T 0) (T 1 0) q)) 4 0 (q + 1)) 0) 4 0))) (C := RX1) (T := TX1) (N := 5) hx hb hq inA1 hown hK hP 0 rfl rfl 4 (by decide) (hq _ q_165) (fun _ h9 => h9) rfl dX1_readOrder_88 ?_
        refine z_iconst hx hb dX1_readOrder_91 ?_
        refine z_iadd hx hb dX1_readOrder_92 ?_
        refine va_put (D := D) (ci := 1) (v := .int (iI (((rnZ (upG (upG T 2 0 (chrZ (T 0) (T 1 0) q)) 4 0 (q + 1)) 0) 4 0) + 1))) (ty := .int) (C := RX1) (T := TX1) (N := 5) hx hb hq inA1 tyX1 tyX1_ok nmX1 hown hK hP hD hS 0 rfl rfl 4 (by decide) (hq _ q_165) (fun _ h9 => h9) rfl (by decide +kernel) rfl rfl (Nat.le_of_ble_eq_true rfl) dX1_readOrder_93 (fun H locs hP hD hS => ?_)
        have hP : va_P D vwCl (wT t ta cI cC (upG (rnZ (upG (upG T 2 0 (chrZ (T 0) (T 1 0) q)) 4 0 (q + 1)) 0) 4 0 (((rnZ (upG (upG T 2 0 (chrZ (T 0) (T 1 0) q)) 4 0 (q + 1)) 0) 4 0) + 1))) H := hP
        have hD : va_D A (wT t ta cI cC (upG (rnZ (upG (upG T 2 0 (chrZ (T 0) (T 1 0) q)) 4 0 (q + 1)) 0) 4 0 (((rnZ (upG (upG T 2 0 (chrZ (T 0) (T 1 0) q)) 4 0 (q + 1)) 0) 4 0) + 1))) := hD
        refine lv_iinc (v := iI 1) (lv' := [(3, .int (iI 1)), (4, .int (iI 44)), (2, .int (iI 2)), (0, .ref t), (1, .int (iI q))]) hx hb dX1_readOrder_96 hl (k := 1) rfl (by decide +kernel) (by decide) rfl (fun ls hl => ?_)
        refine lv_goto (tgt := 40) hx hb dX1_readOrder_99 (by decide) ?_
        refine lv_iload_n hx hb dX1_readOrder_40 rfl (lv_at hl 0 rfl) ?_
        refine lv_iload_n hx hb dX1_readOrder_41 rfl (lv_at hl 2 rfl) ?_
        refine z_icmp_ge (tgt := 102) hx hb dX1_readOrder_42 (by decide) (by omega) (by omega) (fun c_20 => absurd c_20 (by omega)) (fun c_20 => ?_)
        refine lv_aload_n hx hb dX1_readOrder_45 rfl (lv_at hl 3 rfl) ?_
        refine lv_iload_n hx hb dX1_readOrder_46 rfl (lv_at hl 0 rfl) ?_
        refine mw_full (st1 := [.int (iI (rnV (upG (rnZ (upG (upG T 2 0 (chrZ (T 0) (T 1 0) q)) 4 0 (q + 1)) 0) 4 0 (((rnZ (upG (upG T 2 0 (chrZ (T 0) (T 1 0) q)) 4 0 (q + 1)) 0) 4 0) + 1))))]) (mr_V (As := [.int (iI 1)]) (rest := []) (ci := 1) (q0 := 0) ⟨hx, hb, hml, hown, hts⟩ (m_X1_readNumber l D t ta cI cC (upG (rnZ (upG (upG T 2 0 (chrZ (T 0) (T 1 0) q)) 4 0 (q + 1)) 0) 4 0 (((rnZ (upG (upG T 2 0 (chrZ (T 0) (T 1 0) q)) 4 0 (q + 1)) 0) 4 0) + 1)) 1 (rn_inv (T := (upG (upG T 2 0 (chrZ (T 0) (T 1 0) q)) 4 0 (q + 1))) hT 0) (by omega) (show 0 ≤ (((rnZ (upG (upG T 2 0 (chrZ (T 0) (T 1 0) q)) 4 0 (q + 1)) 0) 4 0) + 1) ∧ (((rnZ (upG (upG T 2 0 (chrZ (T 0) (T 1 0) q)) 4 0 (q + 1)) 0) 4 0) + 1) ≤ 100 by omega)) (cwV 1 hts (gV q_180 q_181 q_182 q_173 q_176) rfl rfl rfl (by decide +kernel) ⟨Nat.le_trans (m := 3) (Nat.le_of_ble_eq_true rfl) (Nat.le_trans (Nat.le_of_ble_eq_true rfl) hRf), Nat.le_trans (m := 66) (Nat.le_of_ble_eq_true rfl) (Nat.le_trans (Nat.le_of_ble_eq_true rfl) hRl)⟩) hN hK hP hD rfl rfl rfl hl.1 (Nat.le_of_ble_eq_true rfl) ⟨hRc, hRs⟩ dX1_readOrder_47) hD hS hA rfl (fun H locs hP hD hS => ?_)
        have hf_21a : (((rnZ (upG (upG T 2 0 (chrZ (T 0) (T 1 0) q)) 4 0 (q + 1)) 0) 4 0) + 1) ≤ (rnZ (upG (rnZ (upG (upG T 2 0 (chrZ (T 0) (T 1 0) q)) 4 0 (q + 1)) 0) 4 0 (((rnZ (upG (upG T 2 0 (chrZ (T 0) (T 1 0) q)) 4 0 (q + 1)) 0) 4 0) + 1)) 1) 4 0 ∧ (rnZ (upG (rnZ (upG (upG T 2 0 (chrZ (T 0) (T 1 0) q)) 4 0 (q + 1)) 0) 4 0 (((rnZ (upG (upG T 2 0 (chrZ (T 0) (T 1 0) q)) 4 0 (q + 1)) 0) 4 0) + 1)) 1) 4 0 ≤ (((rnZ (upG (upG T 2 0 (chrZ (T 0) (T 1 0) q)) 4 0 (q + 1)) 0) 4 0) + 1) + 3 := rn_4 (upG (rnZ (upG (upG T 2 0 (chrZ (T 0) (T 1 0) q)) 4 0 (q + 1)) 0) 4 0 (((rnZ (upG (upG T 2 0 (chrZ (T 0) (T 1 0) q)) 4 0 (q + 1)) 0) 4 0) + 1)) 1; have hf_21b : (rnZ (upG (rnZ (upG (upG T 2 0 (chrZ (T 0) (T 1 0) q)) 4 0 (q + 1)) 0) 4 0 (((rnZ (upG (upG T 2 0 (chrZ (T 0) (T 1 0) q)) 4 0 (q + 1)) 0) 4 0) + 1)) 1) 1 0 = ((rnZ (upG (upG T 2 0 (chrZ (T 0) (T 1 0) q)) 4 0 (q + 1)) 0) 1 0) := congrFun (rn_k (upG (rnZ (upG (upG T 2 0 (chrZ (T 0) (T 1 0) q)) 4 0 (q + 1)) 0) 4 0 (((rnZ (upG (upG T 2 0 (chrZ (T 0) (T 1 0) q)) 4 0 (q + 1)) 0) 4 0) + 1)) 1 1 (by omega) (by omega)) 0; have hf_21c : rnV (upG (rnZ (upG (upG T 2 0 (chrZ (T 0) (T 1 0) q)) 4 0 (q + 1)) 0) 4 0 (((rnZ (upG (upG T 2 0 (chrZ (T 0) (T 1 0) q)) 4 0 (q + 1)) 0) 4 0) + 1)) = 0 ∨ rnV (upG (rnZ (upG (upG T 2 0 (chrZ (T 0) (T 1 0) q)) 4 0 (q + 1)) 0) 4 0 (((rnZ (upG (upG T 2 0 (chrZ (T 0) (T 1 0) q)) 4 0 (q + 1)) 0) 4 0) + 1)) = 1 := by unfold rnV; omega
        refine z_if_ne (tgt := 55) hx hb dX1_readOrder_50 (by decide) (by omega) (fun c_22 => ?_) (fun c_22 => ?_)
        · refine lv_iload_n hx hb dX1_readOrder_55 rfl (lv_at hl 0 rfl) ?_
          refine lv_iload_n hx hb dX1_readOrder_56 rfl (lv_at hl 2 rfl) ?_
          refine z_iconst hx hb dX1_readOrder_57 ?_
          refine z_isub hx hb dX1_readOrder_58 ?_
          refine z_icmp_ge (tgt := 67) hx hb dX1_readOrder_59 (by decide) (by omega) (by omega) (fun c_23 => ?_) (fun c_23 => absurd c_23 (by omega))
          refine z_bipush hx hb dX1_readOrder_67 (by decide +kernel) ?_
          refine lv_istore (lv' := [(4, .int (iI 59)), (3, .int (iI 1)), (2, .int (iI 2)), (0, .ref t), (1, .int (iI q))]) hx hb dX1_readOrder_69 hl (by decide) rfl (fun ls hl => ?_)
          refine lv_aload_n hx hb dX1_readOrder_71 rfl (lv_at hl 3 rfl) ?_
          refine lv_aload_n hx hb dX1_readOrder_72 rfl (lv_at hl 3 rfl) ?_
          refine va_get (D := D) (ci := 1) (v := .int (iI ((rnZ (upG (rnZ (upG (upG T 2 0 (chrZ (T 0) (T 1 0) q)) 4 0 (q + 1)) 0) 4 0 (((rnZ (upG (upG T 2 0 (chrZ (T 0) (T 1 0) q)) 4 0 (q + 1)) 0) 4 0) + 1)) 1) 4 0))) (C := RX1) (T := TX1) (N := 5) hx hb hq inA1 hown hK hP 0 rfl rfl 4 (by decide) (hq _ q_165) (fun _ h9 => h9) rfl dX1_readOrder_73 ?_
          refine mw_full (st1 := [.int (iI (chrZ ((rnZ (upG (rnZ (upG (upG T 2 0 (chrZ (T 0) (T 1 0) q)) 4 0 (q + 1)) 0) 4 0 (((rnZ (upG (upG T 2 0 (chrZ (T 0) (T 1 0) q)) 4 0 (q + 1)) 0) 4 0) + 1)) 1) 0) ((rnZ (upG (rnZ (upG (upG T 2 0 (chrZ (T 0) (T 1 0) q)) 4 0 (q + 1)) 0) 4 0 (((rnZ (upG (upG T 2 0 (chrZ (T 0) (T 1 0) q)) 4 0 (q + 1)) 0) 4 0) + 1)) 1) 1 0) ((rnZ (upG (rnZ (upG (upG T 2 0 (chrZ (T 0) (T 1 0) q)) 4 0 (q + 1)) 0) 4 0 (((rnZ (upG (upG T 2 0 (chrZ (T 0) (T 1 0) q)) 4 0 (q + 1)) 0) 4 0) + 1)) 1) 4 0)))]) (mr_V (As := [.int (iI ((rnZ (upG (rnZ (upG (upG T 2 0 (chrZ (T 0) (T 1 0) q)) 4 0 (q + 1)) 0) 4 0 (((rnZ (upG (upG T 2 0 (chrZ (T 0) (T 1 0) q)) 4 0 (q + 1)) 0) 4 0) + 1)) 1) 4 0))]) (rest := []) (ci := 1) (q0 := 0) ⟨hx, hb, hml, hown, hts⟩ (m_X1_signAt l D t ta cI cC (rnZ (upG (rnZ (upG (upG T 2 0 (chrZ (T 0) (T 1 0) q)) 4 0 (q + 1)) 0) 4 0 (((rnZ (upG (upG T 2 0 (chrZ (T 0) (T 1 0) q)) 4 0 (q + 1)) 0) 4 0) + 1)) 1) ((rnZ (upG (rnZ (upG (upG T 2 0 (chrZ (T 0) (T 1 0) q)) 4 0 (q + 1)) 0) 4 0 (((rnZ (upG (upG T 2 0 (chrZ (T 0) (T 1 0) q)) 4 0 (q + 1)) 0) 4 0) + 1)) 1) 4 0) (rn_inv (T := (upG (rnZ (upG (upG T 2 0 (chrZ (T 0) (T 1 0) q)) 4 0 (q + 1)) 0) 4 0 (((rnZ (upG (upG T 2 0 (chrZ (T 0) (T 1 0) q)) 4 0 (q + 1)) 0) 4 0) + 1))) (rn_inv (T := (upG (upG T 2 0 (chrZ (T 0) (T 1 0) q)) 4 0 (q + 1))) hT 0) 1) (by omega)) (cwV 1 hts (gV q_170 q_171 q_172 q_173 q_167) rfl rfl rfl (by decide +kernel) ⟨Nat.le_trans (m := 2) (Nat.le_of_ble_eq_true rfl) (Nat.le_trans (Nat.le_of_ble_eq_true rfl) hRf), Nat.le_trans (m := 43) (Nat.le_of_ble_eq_true rfl) (Nat.le_trans (Nat.le_of_ble_eq_true rfl) hRl)⟩) hN hK hP hD rfl rfl rfl hl.1 (Nat.le_of_ble_eq_true rfl) ⟨hRc, hRs⟩ dX1_readOrder_76) hD hS hA rfl (fun H locs hP hD hS => ?_)
          have hf_24 := chr_bd (rn_inv (T := (upG (rnZ (upG (upG T 2 0 (chrZ (T 0) (T 1 0) q)) 4 0 (q + 1)) 0) 4 0 (((rnZ (upG (upG T 2 0 (chrZ (T 0) (T 1 0) q)) 4 0 (q + 1)) 0) 4 0) + 1))) (rn_inv (T := (upG (upG T 2 0 (chrZ (T 0) (T 1 0) q)) 4 0 (q + 1))) hT 0) 1) ((rnZ (upG (rnZ (upG (upG T 2 0 (chrZ (T 0) (T 1 0) q)) 4 0 (q + 1)) 0) 4 0 (((rnZ (upG (upG T 2 0 (chrZ (T 0) (T 1 0) q)) 4 0 (q + 1)) 0) 4 0) + 1)) 1) 4 0)
          refine lv_iload hx hb dX1_readOrder_79 (lv_at hl 0 rfl) ?_
          refine z_icmp_eq (tgt := 86) hx hb dX1_readOrder_81 (by decide) (by omega) (by omega) (fun c_25 => ?_) (fun c_25 => ?_)
          · refine lv_aload_n hx hb dX1_readOrder_86 rfl (lv_at hl 3 rfl) ?_
            refine lv_dup hx hb dX1_readOrder_87 rfl ?_
            refine va_get (D := D) (ci := 1) (v := .int (iI ((rnZ (upG (rnZ (upG (upG T 2 0 (chrZ (T 0) (T 1 0) q)) 4 0 (q + 1)) 0) 4 0 (((rnZ (upG (upG T 2 0 (chrZ (T 0) (T 1 0) q)) 4 0 (q + 1)) 0) 4 0) + 1)) 1) 4 0))) (C := RX1) (T := TX1) (N := 5) hx hb hq inA1 hown hK hP 0 rfl rfl 4 (by decide) (hq _ q_165) (fun _ h9 => h9) rfl dX1_readOrder_88 ?_
            refine z_iconst hx hb dX1_readOrder_91 ?_
            refine z_iadd hx hb dX1_readOrder_92 ?_
            refine va_put (D := D) (ci := 1) (v := .int (iI (((rnZ (upG (rnZ (upG (upG T 2 0 (chrZ (T 0) (T 1 0) q)) 4 0 (q + 1)) 0) 4 0 (((rnZ (upG (upG T 2 0 (chrZ (T 0) (T 1 0) q)) 4 0 (q + 1)) 0) 4 0) + 1)) 1) 4 0) + 1))) (ty := .int) (C := RX1) (T := TX1) (N := 5) hx hb hq inA1 tyX1 tyX1_ok nmX1 hown hK hP hD hS 0 rfl rfl 4 (by decide) (hq _ q_165) (fun _ h9 => h9) rfl (by decide +kernel) rfl rfl (Nat.le_of_ble_eq_true rfl) dX1_readOrder_93 (fun H locs hP hD hS => ?_)
            have hP : va_P D vwCl (wT t ta cI cC (upG (rnZ (upG (rnZ (upG (upG T 2 0 (chrZ (T 0) (T 1 0) q)) 4 0 (q + 1)) 0) 4 0 (((rnZ (upG (upG T 2 0 (chrZ (T 0) (T 1 0) q)) 4 0 (q + 1)) 0) 4 0) + 1)) 1) 4 0 (((rnZ (upG (rnZ (upG (upG T 2 0 (chrZ (T 0) (T 1 0) q)) 4 0 (q + 1)) 0) 4 0 (((rnZ (upG (upG T 2 0 (chrZ (T 0) (T 1 0) q)) 4 0 (q + 1)) 0) 4 0) + 1)) 1) 4 0) + 1))) H := hP
            have hD : va_D A (wT t ta cI cC (upG (rnZ (upG (rnZ (upG (upG T 2 0 (chrZ (T 0) (T 1 0) q)) 4 0 (q + 1)) 0) 4 0 (((rnZ (upG (upG T 2 0 (chrZ (T 0) (T 1 0) q)) 4 0 (q + 1)) 0) 4 0) + 1)) 1) 4 0 (((rnZ (upG (rnZ (upG (upG T 2 0 (chrZ (T 0) (T 1 0) q)) 4 0 (q + 1)) 0) 4 0 (((rnZ (upG (upG T 2 0 (chrZ (T 0) (T 1 0) q)) 4 0 (q + 1)) 0) 4 0) + 1)) 1) 4 0) + 1))) := hD
            refine lv_iinc (v := iI 2) (lv' := [(3, .int (iI 2)), (4, .int (iI 59)), (2, .int (iI 2)), (0, .ref t), (1, .int (iI q))]) hx hb dX1_readOrder_96 hl (k := 1) rfl (by decide +kernel) (by decide) rfl (fun ls hl => ?_)
            refine lv_goto (tgt := 40) hx hb dX1_readOrder_99 (by decide) ?_
            refine lv_iload_n hx hb dX1_readOrder_40 rfl (lv_at hl 0 rfl) ?_
            refine lv_iload_n hx hb dX1_readOrder_41 rfl (lv_at hl 2 rfl) ?_
            refine z_icmp_ge (tgt := 102) hx hb dX1_readOrder_42 (by decide) (by omega) (by omega) (fun c_26 => ?_) (fun c_26 => absurd c_26 (by omega))
            refine z_iconst hx hb dX1_readOrder_102 ?_
            refine z_as (show 1 = roV T q from by first | rfl | (simp [roV, roT, stV, stT, ro1, ro2, hcs_3, c_16, c_19, c_22, c_25])) ?_
            have eW0 : roT T q = (upG (rnZ (upG (rnZ (upG (upG T 2 0 (chrZ (T 0) (T 1 0) q)) 4 0 (q + 1)) 0) 4 0 (((rnZ (upG (upG T 2 0 (chrZ (T 0) (T 1 0) q)) 4 0 (q + 1)) 0) 4 0) + 1)) 1) 4 0 (((rnZ (upG (rnZ (upG (upG T 2 0 (chrZ (T 0) (T 1 0) q)) 4 0 (q + 1)) 0) 4 0 (((rnZ (upG (upG T 2 0 (chrZ (T 0) (T 1 0) q)) 4 0 (q + 1)) 0) 4 0) + 1)) 1) 4 0) + 1)) := by (simp [roV, roT, stV, stT, ro1, ro2, hcs_3, c_16, c_19, c_22, c_25])
            rw [← eW0] at hP hD
            first | exact hret _ _ _ _ dX1_readOrder_103 hP hD hS | (exfalso; omega)
          · refine z_iconst hx hb dX1_readOrder_84 ?_
            refine z_as (show 0 = roV T q from by first | rfl | (simp [roV, roT, stV, stT, ro1, ro2, hcs_3, c_16, c_19, c_22, c_25])) ?_
            have eW0 : roT T q = (rnZ (upG (rnZ (upG (upG T 2 0 (chrZ (T 0) (T 1 0) q)) 4 0 (q + 1)) 0) 4 0 (((rnZ (upG (upG T 2 0 (chrZ (T 0) (T 1 0) q)) 4 0 (q + 1)) 0) 4 0) + 1)) 1) := by (simp [roV, roT, stV, stT, ro1, ro2, hcs_3, c_16, c_19, c_22, c_25])
            rw [← eW0] at hP hD
            first | exact hret _ _ _ _ dX1_readOrder_85 hP hD hS | (exfalso; omega)
        · refine z_iconst hx hb dX1_readOrder_53 ?_
          refine z_as (show 0 = roV T q from by first | rfl | (simp [roV, roT, stV, stT, ro1, ro2, hcs_3, c_16, c_19, c_22])) ?_
          have eW0 : roT T q = (rnZ (upG (rnZ (upG (upG T 2 0 (chrZ (T 0) (T 1 0) q)) 4 0 (q + 1)) 0) 4 0 (((rnZ (upG (upG T 2 0 (chrZ (T 0) (T 1 0) q)) 4 0 (q + 1)) 0) 4 0) + 1)) 1) := by (simp [roV, roT, stV, stT, ro1, ro2, hcs_3, c_16, c_19, c_22])
          rw [← eW0] at hP hD
          first | exact hret _ _ _ _ dX1_readOrder_54 hP hD hS | (exfalso; omega)
      · refine z_iconst hx hb dX1_readOrder_84 ?_
        refine z_as (show 0 = roV T q from by first | rfl | (simp [roV, roT, stV, stT, ro1, ro2, hcs_3, c_16, c_19])) ?_
        have eW0 : roT T q = (rnZ (upG (upG T 2 0 (chrZ (T 0) (T 1 0) q)) 4 0 (q + 1)) 0) := by (simp [roV, roT, stV, stT, ro1, ro2, hcs_3, c_16, c_19])
        rw [← eW0] at hP hD
        first | exact hret _ _ _ _ dX1_readOrder_85 hP hD hS | (exfalso; omega)
    · refine z_iconst hx hb dX1_readOrder_53 ?_
      refine z_as (show 0 = roV T q from by first | rfl | (simp [roV, roT, stV, stT, ro1, ro2, hcs_3, c_16])) ?_
      have eW0 : roT T q = (rnZ (upG (upG T 2 0 (chrZ (T 0) (T 1 0) q)) 4 0 (q + 1)) 0) := by (simp [roV, roT, stV, stT, ro1, ro2, hcs_3, c_16])
      rw [← eW0] at hP hD
      first | exact hret _ _ _ _ dX1_readOrder_54 hP hD hS | (exfalso; omega)
  · refine z_as hcs_3 ?_
    refine lv_istore_n (lv' := [(2, .int (iI 3)), (0, .ref t), (1, .int (iI q))]) hx hb dX1_readOrder_21 rfl hl (by decide) rfl (fun ls hl => ?_)
    refine lv_iload_n hx hb dX1_readOrder_22 rfl (lv_at hl 0 rfl) ?_
    refine z_if_ne (tgt := 28) hx hb dX1_readOrder_23 (by decide) (by omega) (fun c_27 => ?_) (fun c_27 => absurd c_27 (by omega))
    refine lv_aload_n hx hb dX1_readOrder_28 rfl (lv_at hl 1 rfl) ?_
    refine lv_dup hx hb dX1_readOrder_29 rfl ?_
    refine va_get (D := D) (ci := 1) (v := .int (iI q)) (C := RX1) (T := TX1) (N := 5) hx hb hq inA1 hown hK hP 0 rfl rfl 4 (by decide) (hq _ q_165) (fun _ h9 => h9) rfl dX1_readOrder_30 ?_
    refine z_iconst hx hb dX1_readOrder_33 ?_
    refine z_iadd hx hb dX1_readOrder_34 ?_
    refine va_put (D := D) (ci := 1) (v := .int (iI (q + 1))) (ty := .int) (C := RX1) (T := TX1) (N := 5) hx hb hq inA1 tyX1 tyX1_ok nmX1 hown hK hP hD hS 0 rfl rfl 4 (by decide) (hq _ q_165) (fun _ h9 => h9) rfl (by decide +kernel) rfl rfl (Nat.le_of_ble_eq_true rfl) dX1_readOrder_35 (fun H locs hP hD hS => ?_)
    have hP : va_P D vwCl (wT t ta cI cC (upG (upG T 2 0 (chrZ (T 0) (T 1 0) q)) 4 0 (q + 1))) H := hP
    have hD : va_D A (wT t ta cI cC (upG (upG T 2 0 (chrZ (T 0) (T 1 0) q)) 4 0 (q + 1))) := hD
    refine z_iconst hx hb dX1_readOrder_38 ?_
    refine lv_istore_n (lv' := [(3, .int (iI 0)), (2, .int (iI 3)), (0, .ref t), (1, .int (iI q))]) hx hb dX1_readOrder_39 rfl hl (by decide) rfl (fun ls hl => ?_)
    refine lv_iload_n hx hb dX1_readOrder_40 rfl (lv_at hl 0 rfl) ?_
    refine lv_iload_n hx hb dX1_readOrder_41 rfl (lv_at hl 1 rfl) ?_
    refine z_icmp_ge (tgt := 102) hx hb dX1_readOrder_42 (by decide) (by omega) (by omega) (fun c_28 => absurd c_28 (by omega)) (fun c_28 => ?_)
    refine lv_aload_n hx hb dX1_readOrder_45 rfl (lv_at hl 2 rfl) ?_
    refine lv_iload_n hx hb dX1_readOrder_46 rfl (lv_at hl 0 rfl) ?_
    refine mw_full (st1 := [.int (iI (rnV (upG (upG T 2 0 (chrZ (T 0) (T 1 0) q)) 4 0 (q + 1))))]) (mr_V (As := [.int (iI 0)]) (rest := []) (ci := 1) (q0 := 0) ⟨hx, hb, hml, hown, hts⟩ (m_X1_readNumber l D t ta cI cC (upG (upG T 2 0 (chrZ (T 0) (T 1 0) q)) 4 0 (q + 1)) 0 hT (by omega) (show 0 ≤ (q + 1) ∧ (q + 1) ≤ 100 by omega)) (cwV 1 hts (gV q_180 q_181 q_182 q_173 q_176) rfl rfl rfl (by decide +kernel) ⟨Nat.le_trans (m := 3) (Nat.le_of_ble_eq_true rfl) (Nat.le_trans (Nat.le_of_ble_eq_true rfl) hRf), Nat.le_trans (m := 66) (Nat.le_of_ble_eq_true rfl) (Nat.le_trans (Nat.le_of_ble_eq_true rfl) hRl)⟩) hN hK hP hD rfl rfl rfl hl.1 (Nat.le_of_ble_eq_true rfl) ⟨hRc, hRs⟩ dX1_readOrder_47) hD hS hA rfl (fun H locs hP hD hS => ?_)
    have hf_29a : (q + 1) ≤ (rnZ (upG (upG T 2 0 (chrZ (T 0) (T 1 0) q)) 4 0 (q + 1)) 0) 4 0 ∧ (rnZ (upG (upG T 2 0 (chrZ (T 0) (T 1 0) q)) 4 0 (q + 1)) 0) 4 0 ≤ (q + 1) + 3 := rn_4 (upG (upG T 2 0 (chrZ (T 0) (T 1 0) q)) 4 0 (q + 1)) 0; have hf_29b : (rnZ (upG (upG T 2 0 (chrZ (T 0) (T 1 0) q)) 4 0 (q + 1)) 0) 1 0 = (T 1 0) := congrFun (rn_k (upG (upG T 2 0 (chrZ (T 0) (T 1 0) q)) 4 0 (q + 1)) 0 1 (by omega) (by omega)) 0; have hf_29c : rnV (upG (upG T 2 0 (chrZ (T 0) (T 1 0) q)) 4 0 (q + 1)) = 0 ∨ rnV (upG (upG T 2 0 (chrZ (T 0) (T 1 0) q)) 4 0 (q + 1)) = 1 := by unfold rnV; omega
    refine z_if_ne (tgt := 55) hx hb dX1_readOrder_50 (by decide) (by omega) (fun c_30 => ?_) (fun c_30 => ?_)
    · refine lv_iload_n hx hb dX1_readOrder_55 rfl (lv_at hl 0 rfl) ?_
      refine lv_iload_n hx hb dX1_readOrder_56 rfl (lv_at hl 1 rfl) ?_
      refine z_iconst hx hb dX1_readOrder_57 ?_
      refine z_isub hx hb dX1_readOrder_58 ?_
      refine z_icmp_ge (tgt := 67) hx hb dX1_readOrder_59 (by decide) (by omega) (by omega) (fun c_31 => absurd c_31 (by omega)) (fun c_31 => ?_)
      refine z_bipush hx hb dX1_readOrder_62 (by decide +kernel) ?_
      refine lv_goto (tgt := 69) hx hb dX1_readOrder_64 (by decide) ?_
      refine lv_istore (lv' := [(4, .int (iI 44)), (3, .int (iI 0)), (2, .int (iI 3)), (0, .ref t), (1, .int (iI q))]) hx hb dX1_readOrder_69 hl (by decide) rfl (fun ls hl => ?_)
      refine lv_aload_n hx hb dX1_readOrder_71 rfl (lv_at hl 3 rfl) ?_
      refine lv_aload_n hx hb dX1_readOrder_72 rfl (lv_at hl 3 rfl) ?_
      refine va_get (D := D) (ci := 1) (v := .int (iI ((rnZ (upG (upG T 2 0 (chrZ (T 0) (T 1 0) q)) 4 0 (q + 1)) 0) 4 0))) (C := RX1) (T := TX1) (N := 5) hx hb hq inA1 hown hK hP 0 rfl rfl 4 (by decide) (hq _ q_165) (fun _ h9 => h9) rfl dX1_readOrder_73 ?_
      refine mw_full (st1 := [.int (iI (chrZ ((rnZ (upG (upG T 2 0 (chrZ (T 0) (T 1 0) q)) 4 0 (q + 1)) 0) 0) ((rnZ (upG (upG T 2 0 (chrZ (T 0) (T 1 0) q)) 4 0 (q + 1)) 0) 1 0) ((rnZ (upG (upG T 2 0 (chrZ (T 0) (T 1 0) q)) 4 0 (q + 1)) 0) 4 0)))]) (mr_V (As := [.int (iI ((rnZ (upG (upG T 2 0 (chrZ (T 0) (T 1 0) q)) 4 0 (q + 1)) 0) 4 0))]) (rest := []) (ci := 1) (q0 := 0) ⟨hx, hb, hml, hown, hts⟩ (m_X1_signAt l D t ta cI cC (rnZ (upG (upG T 2 0 (chrZ (T 0) (T 1 0) q)) 4 0 (q + 1)) 0) ((rnZ (upG (upG T 2 0 (chrZ (T 0) (T 1 0) q)) 4 0 (q + 1)) 0) 4 0) (rn_inv (T := (upG (upG T 2 0 (chrZ (T 0) (T 1 0) q)) 4 0 (q + 1))) hT 0) (by omega)) (cwV 1 hts (gV q_170 q_171 q_172 q_173 q_167) rfl rfl rfl (by decide +kernel) ⟨Nat.le_trans (m := 2) (Nat.le_of_ble_eq_true rfl) (Nat.le_trans (Nat.le_of_ble_eq_true rfl) hRf), Nat.le_trans (m := 43) (Nat.le_of_ble_eq_true rfl) (Nat.le_trans (Nat.le_of_ble_eq_true rfl) hRl)⟩) hN hK hP hD rfl rfl rfl hl.1 (Nat.le_of_ble_eq_true rfl) ⟨hRc, hRs⟩ dX1_readOrder_76) hD hS hA rfl (fun H locs hP hD hS => ?_)
      have hf_32 := chr_bd (rn_inv (T := (upG (upG T 2 0 (chrZ (T 0) (T 1 0) q)) 4 0 (q + 1))) hT 0) ((rnZ (upG (upG T 2 0 (chrZ (T 0) (T 1 0) q)) 4 0 (q + 1)) 0) 4 0)
      refine lv_iload hx hb dX1_readOrder_79 (lv_at hl 0 rfl) ?_
      refine z_icmp_eq (tgt := 86) hx hb dX1_readOrder_81 (by decide) (by omega) (by omega) (fun c_33 => ?_) (fun c_33 => ?_)
      · refine lv_aload_n hx hb dX1_readOrder_86 rfl (lv_at hl 3 rfl) ?_
        refine lv_dup hx hb dX1_readOrder_87 rfl ?_
        refine va_get (D := D) (ci := 1) (v := .int (iI ((rnZ (upG (upG T 2 0 (chrZ (T 0) (T 1 0) q)) 4 0 (q + 1)) 0) 4 0))) (C := RX1) (T := TX1) (N := 5) hx hb hq inA1 hown hK hP 0 rfl rfl 4 (by decide) (hq _ q_165) (fun _ h9 => h9) rfl dX1_readOrder_88 ?_
        refine z_iconst hx hb dX1_readOrder_91 ?_
        refine z_iadd hx hb dX1_readOrder_92 ?_
        refine va_put (D := D) (ci := 1) (v := .int (iI (((rnZ (upG (upG T 2 0 (chrZ (T 0) (T 1 0) q)) 4 0 (q + 1)) 0) 4 0) + 1))) (ty := .int) (C := RX1) (T := TX1) (N := 5) hx hb hq inA1 tyX1 tyX1_ok nmX1 hown hK hP hD hS 0 rfl rfl 4 (by decide) (hq _ q_165) (fun _ h9 => h9) rfl (by decide +kernel) rfl rfl (Nat.le_of_ble_eq_true rfl) dX1_readOrder_93 (fun H locs hP hD hS => ?_)
        have hP : va_P D vwCl (wT t ta cI cC (upG (rnZ (upG (upG T 2 0 (chrZ (T 0) (T 1 0) q)) 4 0 (q + 1)) 0) 4 0 (((rnZ (upG (upG T 2 0 (chrZ (T 0) (T 1 0) q)) 4 0 (q + 1)) 0) 4 0) + 1))) H := hP
        have hD : va_D A (wT t ta cI cC (upG (rnZ (upG (upG T 2 0 (chrZ (T 0) (T 1 0) q)) 4 0 (q + 1)) 0) 4 0 (((rnZ (upG (upG T 2 0 (chrZ (T 0) (T 1 0) q)) 4 0 (q + 1)) 0) 4 0) + 1))) := hD
        refine lv_iinc (v := iI 1) (lv' := [(3, .int (iI 1)), (4, .int (iI 44)), (2, .int (iI 3)), (0, .ref t), (1, .int (iI q))]) hx hb dX1_readOrder_96 hl (k := 1) rfl (by decide +kernel) (by decide) rfl (fun ls hl => ?_)
        refine lv_goto (tgt := 40) hx hb dX1_readOrder_99 (by decide) ?_
        refine lv_iload_n hx hb dX1_readOrder_40 rfl (lv_at hl 0 rfl) ?_
        refine lv_iload_n hx hb dX1_readOrder_41 rfl (lv_at hl 2 rfl) ?_
        refine z_icmp_ge (tgt := 102) hx hb dX1_readOrder_42 (by decide) (by omega) (by omega) (fun c_34 => absurd c_34 (by omega)) (fun c_34 => ?_)
        refine lv_aload_n hx hb dX1_readOrder_45 rfl (lv_at hl 3 rfl) ?_
        refine lv_iload_n hx hb dX1_readOrder_46 rfl (lv_at hl 0 rfl) ?_
        refine mw_full (st1 := [.int (iI (rnV (upG (rnZ (upG (upG T 2 0 (chrZ (T 0) (T 1 0) q)) 4 0 (q + 1)) 0) 4 0 (((rnZ (upG (upG T 2 0 (chrZ (T 0) (T 1 0) q)) 4 0 (q + 1)) 0) 4 0) + 1))))]) (mr_V (As := [.int (iI 1)]) (rest := []) (ci := 1) (q0 := 0) ⟨hx, hb, hml, hown, hts⟩ (m_X1_readNumber l D t ta cI cC (upG (rnZ (upG (upG T 2 0 (chrZ (T 0) (T 1 0) q)) 4 0 (q + 1)) 0) 4 0 (((rnZ (upG (upG T 2 0 (chrZ (T 0) (T 1 0) q)) 4 0 (q + 1)) 0) 4 0) + 1)) 1 (rn_inv (T := (upG (upG T 2 0 (chrZ (T 0) (T 1 0) q)) 4 0 (q + 1))) hT 0) (by omega) (show 0 ≤ (((rnZ (upG (upG T 2 0 (chrZ (T 0) (T 1 0) q)) 4 0 (q + 1)) 0) 4 0) + 1) ∧ (((rnZ (upG (upG T 2 0 (chrZ (T 0) (T 1 0) q)) 4 0 (q + 1)) 0) 4 0) + 1) ≤ 100 by omega)) (cwV 1 hts (gV q_180 q_181 q_182 q_173 q_176) rfl rfl rfl (by decide +kernel) ⟨Nat.le_trans (m := 3) (Nat.le_of_ble_eq_true rfl) (Nat.le_trans (Nat.le_of_ble_eq_true rfl) hRf), Nat.le_trans (m := 66) (Nat.le_of_ble_eq_true rfl) (Nat.le_trans (Nat.le_of_ble_eq_true rfl) hRl)⟩) hN hK hP hD rfl rfl rfl hl.1 (Nat.le_of_ble_eq_true rfl) ⟨hRc, hRs⟩ dX1_readOrder_47) hD hS hA rfl (fun H locs hP hD hS => ?_)
        have hf_35a : (((rnZ (upG (upG T 2 0 (chrZ (T 0) (T 1 0) q)) 4 0 (q + 1)) 0) 4 0) + 1) ≤ (rnZ (upG (rnZ (upG (upG T 2 0 (chrZ (T 0) (T 1 0) q)) 4 0 (q + 1)) 0) 4 0 (((rnZ (upG (upG T 2 0 (chrZ (T 0) (T 1 0) q)) 4 0 (q + 1)) 0) 4 0) + 1)) 1) 4 0 ∧ (rnZ (upG (rnZ (upG (upG T 2 0 (chrZ (T 0) (T 1 0) q)) 4 0 (q + 1)) 0) 4 0 (((rnZ (upG (upG T 2 0 (chrZ (T 0) (T 1 0) q)) 4 0 (q + 1)) 0) 4 0) + 1)) 1) 4 0 ≤ (((rnZ (upG (upG T 2 0 (chrZ (T 0) (T 1 0) q)) 4 0 (q + 1)) 0) 4 0) + 1) + 3 := rn_4 (upG (rnZ (upG (upG T 2 0 (chrZ (T 0) (T 1 0) q)) 4 0 (q + 1)) 0) 4 0 (((rnZ (upG (upG T 2 0 (chrZ (T 0) (T 1 0) q)) 4 0 (q + 1)) 0) 4 0) + 1)) 1; have hf_35b : (rnZ (upG (rnZ (upG (upG T 2 0 (chrZ (T 0) (T 1 0) q)) 4 0 (q + 1)) 0) 4 0 (((rnZ (upG (upG T 2 0 (chrZ (T 0) (T 1 0) q)) 4 0 (q + 1)) 0) 4 0) + 1)) 1) 1 0 = ((rnZ (upG (upG T 2 0 (chrZ (T 0) (T 1 0) q)) 4 0 (q + 1)) 0) 1 0) := congrFun (rn_k (upG (rnZ (upG (upG T 2 0 (chrZ (T 0) (T 1 0) q)) 4 0 (q + 1)) 0) 4 0 (((rnZ (upG (upG T 2 0 (chrZ (T 0) (T 1 0) q)) 4 0 (q + 1)) 0) 4 0) + 1)) 1 1 (by omega) (by omega)) 0; have hf_35c : rnV (upG (rnZ (upG (upG T 2 0 (chrZ (T 0) (T 1 0) q)) 4 0 (q + 1)) 0) 4 0 (((rnZ (upG (upG T 2 0 (chrZ (T 0) (T 1 0) q)) 4 0 (q + 1)) 0) 4 0) + 1)) = 0 ∨ rnV (upG (rnZ (upG (upG T 2 0 (chrZ (T 0) (T 1 0) q)) 4 0 (q + 1)) 0) 4 0 (((rnZ (upG (upG T 2 0 (chrZ (T 0) (T 1 0) q)) 4 0 (q + 1)) 0) 4 0) + 1)) = 1 := by unfold rnV; omega
        refine z_if_ne (tgt := 55) hx hb dX1_readOrder_50 (by decide) (by omega) (fun c_36 => ?_) (fun c_36 => ?_)
        · refine lv_iload_n hx hb dX1_readOrder_55 rfl (lv_at hl 0 rfl) ?_
          refine lv_iload_n hx hb dX1_readOrder_56 rfl (lv_at hl 2 rfl) ?_
          refine z_iconst hx hb dX1_readOrder_57 ?_
          refine z_isub hx hb dX1_readOrder_58 ?_
          refine z_icmp_ge (tgt := 67) hx hb dX1_readOrder_59 (by decide) (by omega) (by omega) (fun c_37 => absurd c_37 (by omega)) (fun c_37 => ?_)
          refine z_bipush hx hb dX1_readOrder_62 (by decide +kernel) ?_
          refine lv_goto (tgt := 69) hx hb dX1_readOrder_64 (by decide) ?_
          refine lv_istore (lv' := [(4, .int (iI 44)), (3, .int (iI 1)), (2, .int (iI 3)), (0, .ref t), (1, .int (iI q))]) hx hb dX1_readOrder_69 hl (by decide) rfl (fun ls hl => ?_)
          refine lv_aload_n hx hb dX1_readOrder_71 rfl (lv_at hl 3 rfl) ?_
          refine lv_aload_n hx hb dX1_readOrder_72 rfl (lv_at hl 3 rfl) ?_
          refine va_get (D := D) (ci := 1) (v := .int (iI ((rnZ (upG (rnZ (upG (upG T 2 0 (chrZ (T 0) (T 1 0) q)) 4 0 (q + 1)) 0) 4 0 (((rnZ (upG (upG T 2 0 (chrZ (T 0) (T 1 0) q)) 4 0 (q + 1)) 0) 4 0) + 1)) 1) 4 0))) (C := RX1) (T := TX1) (N := 5) hx hb hq inA1 hown hK hP 0 rfl rfl 4 (by decide) (hq _ q_165) (fun _ h9 => h9) rfl dX1_readOrder_73 ?_
          refine mw_full (st1 := [.int (iI (chrZ ((rnZ (upG (rnZ (upG (upG T 2 0 (chrZ (T 0) (T 1 0) q)) 4 0 (q + 1)) 0) 4 0 (((rnZ (upG (upG T 2 0 (chrZ (T 0) (T 1 0) q)) 4 0 (q + 1)) 0) 4 0) + 1)) 1) 0) ((rnZ (upG (rnZ (upG (upG T 2 0 (chrZ (T 0) (T 1 0) q)) 4 0 (q + 1)) 0) 4 0 (((rnZ (upG (upG T 2 0 (chrZ (T 0) (T 1 0) q)) 4 0 (q + 1)) 0) 4 0) + 1)) 1) 1 0) ((rnZ (upG (rnZ (upG (upG T 2 0 (chrZ (T 0) (T 1 0) q)) 4 0 (q + 1)) 0) 4 0 (((rnZ (upG (upG T 2 0 (chrZ (T 0) (T 1 0) q)) 4 0 (q + 1)) 0) 4 0) + 1)) 1) 4 0)))]) (mr_V (As := [.int (iI ((rnZ (upG (rnZ (upG (upG T 2 0 (chrZ (T 0) (T 1 0) q)) 4 0 (q + 1)) 0) 4 0 (((rnZ (upG (upG T 2 0 (chrZ (T 0) (T 1 0) q)) 4 0 (q + 1)) 0) 4 0) + 1)) 1) 4 0))]) (rest := []) (ci := 1) (q0 := 0) ⟨hx, hb, hml, hown, hts⟩ (m_X1_signAt l D t ta cI cC (rnZ (upG (rnZ (upG (upG T 2 0 (chrZ (T 0) (T 1 0) q)) 4 0 (q + 1)) 0) 4 0 (((rnZ (upG (upG T 2 0 (chrZ (T 0) (T 1 0) q)) 4 0 (q + 1)) 0) 4 0) + 1)) 1) ((rnZ (upG (rnZ (upG (upG T 2 0 (chrZ (T 0) (T 1 0) q)) 4 0 (q + 1)) 0) 4 0 (((rnZ (upG (upG T 2 0 (chrZ (T 0) (T 1 0) q)) 4 0 (q + 1)) 0) 4 0) + 1)) 1) 4 0) (rn_inv (T := (upG (rnZ (upG (upG T 2 0 (chrZ (T 0) (T 1 0) q)) 4 0 (q + 1)) 0) 4 0 (((rnZ (upG (upG T 2 0 (chrZ (T 0) (T 1 0) q)) 4 0 (q + 1)) 0) 4 0) + 1))) (rn_inv (T := (upG (upG T 2 0 (chrZ (T 0) (T 1 0) q)) 4 0 (q + 1))) hT 0) 1) (by omega)) (cwV 1 hts (gV q_170 q_171 q_172 q_173 q_167) rfl rfl rfl (by decide +kernel) ⟨Nat.le_trans (m := 2) (Nat.le_of_ble_eq_true rfl) (Nat.le_trans (Nat.le_of_ble_eq_true rfl) hRf), Nat.le_trans (m := 43) (Nat.le_of_ble_eq_true rfl) (Nat.le_trans (Nat.le_of_ble_eq_true rfl) hRl)⟩) hN hK hP hD rfl rfl rfl hl.1 (Nat.le_of_ble_eq_true rfl) ⟨hRc, hRs⟩ dX1_readOrder_76) hD hS hA rfl (fun H locs hP hD hS => ?_)
          have hf_38 := chr_bd (rn_inv (T := (upG (rnZ (upG (upG T 2 0 (chrZ (T 0) (T 1 0) q)) 4 0 (q + 1)) 0) 4 0 (((rnZ (upG (upG T 2 0 (chrZ (T 0) (T 1 0) q)) 4 0 (q + 1)) 0) 4 0) + 1))) (rn_inv (T := (upG (upG T 2 0 (chrZ (T 0) (T 1 0) q)) 4 0 (q + 1))) hT 0) 1) ((rnZ (upG (rnZ (upG (upG T 2 0 (chrZ (T 0) (T 1 0) q)) 4 0 (q + 1)) 0) 4 0 (((rnZ (upG (upG T 2 0 (chrZ (T 0) (T 1 0) q)) 4 0 (q + 1)) 0) 4 0) + 1)) 1) 4 0)
          refine lv_iload hx hb dX1_readOrder_79 (lv_at hl 0 rfl) ?_
          refine z_icmp_eq (tgt := 86) hx hb dX1_readOrder_81 (by decide) (by omega) (by omega) (fun c_39 => ?_) (fun c_39 => ?_)
          · refine lv_aload_n hx hb dX1_readOrder_86 rfl (lv_at hl 3 rfl) ?_
            refine lv_dup hx hb dX1_readOrder_87 rfl ?_
            refine va_get (D := D) (ci := 1) (v := .int (iI ((rnZ (upG (rnZ (upG (upG T 2 0 (chrZ (T 0) (T 1 0) q)) 4 0 (q + 1)) 0) 4 0 (((rnZ (upG (upG T 2 0 (chrZ (T 0) (T 1 0) q)) 4 0 (q + 1)) 0) 4 0) + 1)) 1) 4 0))) (C := RX1) (T := TX1) (N := 5) hx hb hq inA1 hown hK hP 0 rfl rfl 4 (by decide) (hq _ q_165) (fun _ h9 => h9) rfl dX1_readOrder_88 ?_
            refine z_iconst hx hb dX1_readOrder_91 ?_
            refine z_iadd hx hb dX1_readOrder_92 ?_
            refine va_put (D := D) (ci := 1) (v := .int (iI (((rnZ (upG (rnZ (upG (upG T 2 0 (chrZ (T 0) (T 1 0) q)) 4 0 (q + 1)) 0) 4 0 (((rnZ (upG (upG T 2 0 (chrZ (T 0) (T 1 0) q)) 4 0 (q + 1)) 0) 4 0) + 1)) 1) 4 0) + 1))) (ty := .int) (C := RX1) (T := TX1) (N := 5) hx hb hq inA1 tyX1 tyX1_ok nmX1 hown hK hP hD hS 0 rfl rfl 4 (by decide) (hq _ q_165) (fun _ h9 => h9) rfl (by decide +kernel) rfl rfl (Nat.le_of_ble_eq_true rfl) dX1_readOrder_93 (fun H locs hP hD hS => ?_)
            have hP : va_P D vwCl (wT t ta cI cC (upG (rnZ (upG (rnZ (upG (upG T 2 0 (chrZ (T 0) (T 1 0) q)) 4 0 (q + 1)) 0) 4 0 (((rnZ (upG (upG T 2 0 (chrZ (T 0) (T 1 0) q)) 4 0 (q + 1)) 0) 4 0) + 1)) 1) 4 0 (((rnZ (upG (rnZ (upG (upG T 2 0 (chrZ (T 0) (T 1 0) q)) 4 0 (q + 1)) 0) 4 0 (((rnZ (upG (upG T 2 0 (chrZ (T 0) (T 1 0) q)) 4 0 (q + 1)) 0) 4 0) + 1)) 1) 4 0) + 1))) H := hP
            have hD : va_D A (wT t ta cI cC (upG (rnZ (upG (rnZ (upG (upG T 2 0 (chrZ (T 0) (T 1 0) q)) 4 0 (q + 1)) 0) 4 0 (((rnZ (upG (upG T 2 0 (chrZ (T 0) (T 1 0) q)) 4 0 (q + 1)) 0) 4 0) + 1)) 1) 4 0 (((rnZ (upG (rnZ (upG (upG T 2 0 (chrZ (T 0) (T 1 0) q)) 4 0 (q + 1)) 0) 4 0 (((rnZ (upG (upG T 2 0 (chrZ (T 0) (T 1 0) q)) 4 0 (q + 1)) 0) 4 0) + 1)) 1) 4 0) + 1))) := hD
            refine lv_iinc (v := iI 2) (lv' := [(3, .int (iI 2)), (4, .int (iI 44)), (2, .int (iI 3)), (0, .ref t), (1, .int (iI q))]) hx hb dX1_readOrder_96 hl (k := 1) rfl (by decide +kernel) (by decide) rfl (fun ls hl => ?_)
            refine lv_goto (tgt := 40) hx hb dX1_readOrder_99 (by decide) ?_
            refine lv_iload_n hx hb dX1_readOrder_40 rfl (lv_at hl 0 rfl) ?_
            refine lv_iload_n hx hb dX1_readOrder_41 rfl (lv_at hl 2 rfl) ?_
            refine z_icmp_ge (tgt := 102) hx hb dX1_readOrder_42 (by decide) (by omega) (by omega) (fun c_40 => absurd c_40 (by omega)) (fun c_40 => ?_)
            refine lv_aload_n hx hb dX1_readOrder_45 rfl (lv_at hl 3 rfl) ?_
            refine lv_iload_n hx hb dX1_readOrder_46 rfl (lv_at hl 0 rfl) ?_
            refine mw_full (st1 := [.int (iI (rnV (upG (rnZ (upG (rnZ (upG (upG T 2 0 (chrZ (T 0) (T 1 0) q)) 4 0 (q + 1)) 0) 4 0 (((rnZ (upG (upG T 2 0 (chrZ (T 0) (T 1 0) q)) 4 0 (q + 1)) 0) 4 0) + 1)) 1) 4 0 (((rnZ (upG (rnZ (upG (upG T 2 0 (chrZ (T 0) (T 1 0) q)) 4 0 (q + 1)) 0) 4 0 (((rnZ (upG (upG T 2 0 (chrZ (T 0) (T 1 0) q)) 4 0 (q + 1)) 0) 4 0) + 1)) 1) 4 0) + 1))))]) (mr_V (As := [.int (iI 2)]) (rest := []) (ci := 1) (q0 := 0) ⟨hx, hb, hml, hown, hts⟩ (m_X1_readNumber l D t ta cI cC (upG (rnZ (upG (rnZ (upG (upG T 2 0 (chrZ (T 0) (T 1 0) q)) 4 0 (q + 1)) 0) 4 0 (((rnZ (upG (upG T 2 0 (chrZ (T 0) (T 1 0) q)) 4 0 (q + 1)) 0) 4 0) + 1)) 1) 4 0 (((rnZ (upG (rnZ (upG (upG T 2 0 (chrZ (T 0) (T 1 0) q)) 4 0 (q + 1)) 0) 4 0 (((rnZ (upG (upG T 2 0 (chrZ (T 0) (T 1 0) q)) 4 0 (q + 1)) 0) 4 0) + 1)) 1) 4 0) + 1)) 2 (rn_inv (T := (upG (rnZ (upG (upG T 2 0 (chrZ (T 0) (T 1 0) q)) 4 0 (q + 1)) 0) 4 0 (((rnZ (upG (upG T 2 0 (chrZ (T 0) (T 1 0) q)) 4 0 (q + 1)) 0) 4 0) + 1))) (rn_inv (T := (upG (upG T 2 0 (chrZ (T 0) (T 1 0) q)) 4 0 (q + 1))) hT 0) 1) (by omega) (show 0 ≤ (((rnZ (upG (rnZ (upG (upG T 2 0 (chrZ (T 0) (T 1 0) q)) 4 0 (q + 1)) 0) 4 0 (((rnZ (upG (upG T 2 0 (chrZ (T 0) (T 1 0) q)) 4 0 (q + 1)) 0) 4 0) + 1)) 1) 4 0) + 1) ∧ (((rnZ (upG (rnZ (upG (upG T 2 0 (chrZ (T 0) (T 1 0) q)) 4 0 (q + 1)) 0) 4 0 (((rnZ (upG (upG T 2 0 (chrZ (T 0) (T 1 0) q)) 4 0 (q + 1)) 0) 4 0) + 1)) 1) 4 0) + 1) ≤ 100 by omega)) (cwV 1 hts (gV q_180 q_181 q_182 q_173 q_176) rfl rfl rfl (by decide +kernel) ⟨Nat.le_trans (m := 3) (Nat.le_of_ble_eq_true rfl) (Nat.le_trans (Nat.le_of_ble_eq_true rfl) hRf), Nat.le_trans (m := 66) (Nat.le_of_ble_eq_true rfl) (Nat.le_trans (Nat.le_of_ble_eq_true rfl) hRl)⟩) hN hK hP hD rfl rfl rfl hl.1 (Nat.le_of_ble_eq_true rfl) ⟨hRc, hRs⟩ dX1_readOrder_47) hD hS hA rfl (fun H locs hP hD hS => ?_)
            have hf_41a : (((rnZ (upG (rnZ (upG (upG T 2 0 (chrZ (T 0) (T 1 0) q)) 4 0 (q + 1)) 0) 4 0 (((rnZ (upG (upG T 2 0 (chrZ (T 0) (T 1 0) q)) 4 0 (q + 1)) 0) 4 0) + 1)) 1) 4 0) + 1) ≤ (rnZ (upG (rnZ (upG (rnZ (upG (upG T 2 0 (chrZ (T 0) (T 1 0) q)) 4 0 (q + 1)) 0) 4 0 (((rnZ (upG (upG T 2 0 (chrZ (T 0) (T 1 0) q)) 4 0 (q + 1)) 0) 4 0) + 1)) 1) 4 0 (((rnZ (upG (rnZ (upG (upG T 2 0 (chrZ (T 0) (T 1 0) q)) 4 0 (q + 1)) 0) 4 0 (((rnZ (upG (upG T 2 0 (chrZ (T 0) (T 1 0) q)) 4 0 (q + 1)) 0) 4 0) + 1)) 1) 4 0) + 1)) 2) 4 0 ∧ (rnZ (upG (rnZ (upG (rnZ (upG (upG T 2 0 (chrZ (T 0) (T 1 0) q)) 4 0 (q + 1)) 0) 4 0 (((rnZ (upG (upG T 2 0 (chrZ (T 0) (T 1 0) q)) 4 0 (q + 1)) 0) 4 0) + 1)) 1) 4 0 (((rnZ (upG (rnZ (upG (upG T 2 0 (chrZ (T 0) (T 1 0) q)) 4 0 (q + 1)) 0) 4 0 (((rnZ (upG (upG T 2 0 (chrZ (T 0) (T 1 0) q)) 4 0 (q + 1)) 0) 4 0) + 1)) 1) 4 0) + 1)) 2) 4 0 ≤ (((rnZ (upG (rnZ (upG (upG T 2 0 (chrZ (T 0) (T 1 0) q)) 4 0 (q + 1)) 0) 4 0 (((rnZ (upG (upG T 2 0 (chrZ (T 0) (T 1 0) q)) 4 0 (q + 1)) 0) 4 0) + 1)) 1) 4 0) + 1) + 3 := rn_4 (upG (rnZ (upG (rnZ (upG (upG T 2 0 (chrZ (T 0) (T 1 0) q)) 4 0 (q + 1)) 0) 4 0 (((rnZ (upG (upG T 2 0 (chrZ (T 0) (T 1 0) q)) 4 0 (q + 1)) 0) 4 0) + 1)) 1) 4 0 (((rnZ (upG (rnZ (upG (upG T 2 0 (chrZ (T 0) (T 1 0) q)) 4 0 (q + 1)) 0) 4 0 (((rnZ (upG (upG T 2 0 (chrZ (T 0) (T 1 0) q)) 4 0 (q + 1)) 0) 4 0) + 1)) 1) 4 0) + 1)) 2; have hf_41b : (rnZ (upG (rnZ (upG (rnZ (upG (upG T 2 0 (chrZ (T 0) (T 1 0) q)) 4 0 (q + 1)) 0) 4 0 (((rnZ (upG (upG T 2 0 (chrZ (T 0) (T 1 0) q)) 4 0 (q + 1)) 0) 4 0) + 1)) 1) 4 0 (((rnZ (upG (rnZ (upG (upG T 2 0 (chrZ (T 0) (T 1 0) q)) 4 0 (q + 1)) 0) 4 0 (((rnZ (upG (upG T 2 0 (chrZ (T 0) (T 1 0) q)) 4 0 (q + 1)) 0) 4 0) + 1)) 1) 4 0) + 1)) 2) 1 0 = ((rnZ (upG (rnZ (upG (upG T 2 0 (chrZ (T 0) (T 1 0) q)) 4 0 (q + 1)) 0) 4 0 (((rnZ (upG (upG T 2 0 (chrZ (T 0) (T 1 0) q)) 4 0 (q + 1)) 0) 4 0) + 1)) 1) 1 0) := congrFun (rn_k (upG (rnZ (upG (rnZ (upG (upG T 2 0 (chrZ (T 0) (T 1 0) q)) 4 0 (q + 1)) 0) 4 0 (((rnZ (upG (upG T 2 0 (chrZ (T 0) (T 1 0) q)) 4 0 (q + 1)) 0) 4 0) + 1)) 1) 4 0 (((rnZ (upG (rnZ (upG (upG T 2 0 (chrZ (T 0) (T 1 0) q)) 4 0 (q + 1)) 0) 4 0 (((rnZ (upG (upG T 2 0 (chrZ (T 0) (T 1 0) q)) 4 0 (q + 1)) 0) 4 0) + 1)) 1) 4 0) + 1)) 2 1 (by omega) (by omega)) 0; have hf_41c : rnV (upG (rnZ (upG (rnZ (upG (upG T 2 0 (chrZ (T 0) (T 1 0) q)) 4 0 (q + 1)) 0) 4 0 (((rnZ (upG (upG T 2 0 (chrZ (T 0) (T 1 0) q)) 4 0 (q + 1)) 0) 4 0) + 1)) 1) 4 0 (((rnZ (upG (rnZ (upG (upG T 2 0 (chrZ (T 0) (T 1 0) q)) 4 0 (q + 1)) 0) 4 0 (((rnZ (upG (upG T 2 0 (chrZ (T 0) (T 1 0) q)) 4 0 (q + 1)) 0) 4 0) + 1)) 1) 4 0) + 1)) = 0 ∨ rnV (upG (rnZ (upG (rnZ (upG (upG T 2 0 (chrZ (T 0) (T 1 0) q)) 4 0 (q + 1)) 0) 4 0 (((rnZ (upG (upG T 2 0 (chrZ (T 0) (T 1 0) q)) 4 0 (q + 1)) 0) 4 0) + 1)) 1) 4 0 (((rnZ (upG (rnZ (upG (upG T 2 0 (chrZ (T 0) (T 1 0) q)) 4 0 (q + 1)) 0) 4 0 (((rnZ (upG (upG T 2 0 (chrZ (T 0) (T 1 0) q)) 4 0 (q + 1)) 0) 4 0) + 1)) 1) 4 0) + 1)) = 1 := by unfold rnV; omega
            refine z_if_ne (tgt := 55) hx hb dX1_readOrder_50 (by decide) (by omega) (fun c_42 => ?_) (fun c_42 => ?_)
            · refine lv_iload_n hx hb dX1_readOrder_55 rfl (lv_at hl 0 rfl) ?_
              refine lv_iload_n hx hb dX1_readOrder_56 rfl (lv_at hl 2 rfl) ?_
              refine z_iconst hx hb dX1_readOrder_57 ?_
              refine z_isub hx hb dX1_readOrder_58 ?_
              refine z_icmp_ge (tgt := 67) hx hb dX1_readOrder_59 (by decide) (by omega) (by omega) (fun c_43 => ?_) (fun c_43 => absurd c_43 (by omega))
              refine z_bipush hx hb dX1_readOrder_67 (by decide +kernel) ?_
              refine lv_istore (lv' := [(4, .int (iI 59)), (3, .int (iI 2)), (2, .int (iI 3)), (0, .ref t), (1, .int (iI q))]) hx hb dX1_readOrder_69 hl (by decide) rfl (fun ls hl => ?_)
              refine lv_aload_n hx hb dX1_readOrder_71 rfl (lv_at hl 3 rfl) ?_
              refine lv_aload_n hx hb dX1_readOrder_72 rfl (lv_at hl 3 rfl) ?_
              refine va_get (D := D) (ci := 1) (v := .int (iI ((rnZ (upG (rnZ (upG (rnZ (upG (upG T 2 0 (chrZ (T 0) (T 1 0) q)) 4 0 (q + 1)) 0) 4 0 (((rnZ (upG (upG T 2 0 (chrZ (T 0) (T 1 0) q)) 4 0 (q + 1)) 0) 4 0) + 1)) 1) 4 0 (((rnZ (upG (rnZ (upG (upG T 2 0 (chrZ (T 0) (T 1 0) q)) 4 0 (q + 1)) 0) 4 0 (((rnZ (upG (upG T 2 0 (chrZ (T 0) (T 1 0) q)) 4 0 (q + 1)) 0) 4 0) + 1)) 1) 4 0) + 1)) 2) 4 0))) (C := RX1) (T := TX1) (N := 5) hx hb hq inA1 hown hK hP 0 rfl rfl 4 (by decide) (hq _ q_165) (fun _ h9 => h9) rfl dX1_readOrder_73 ?_
              refine mw_full (st1 := [.int (iI (chrZ ((rnZ (upG (rnZ (upG (rnZ (upG (upG T 2 0 (chrZ (T 0) (T 1 0) q)) 4 0 (q + 1)) 0) 4 0 (((rnZ (upG (upG T 2 0 (chrZ (T 0) (T 1 0) q)) 4 0 (q + 1)) 0) 4 0) + 1)) 1) 4 0 (((rnZ (upG (rnZ (upG (upG T 2 0 (chrZ (T 0) (T 1 0) q)) 4 0 (q + 1)) 0) 4 0 (((rnZ (upG (upG T 2 0 (chrZ (T 0) (T 1 0) q)) 4 0 (q + 1)) 0) 4 0) + 1)) 1) 4 0) + 1)) 2) 0) ((rnZ (upG (rnZ (upG (rnZ (upG (upG T 2 0 (chrZ (T 0) (T 1 0) q)) 4 0 (q + 1)) 0) 4 0 (((rnZ (upG (upG T 2 0 (chrZ (T 0) (T 1 0) q)) 4 0 (q + 1)) 0) 4 0) + 1)) 1) 4 0 (((rnZ (upG (rnZ (upG (upG T 2 0 (chrZ (T 0) (T 1 0) q)) 4 0 (q + 1)) 0) 4 0 (((rnZ (upG (upG T 2 0 (chrZ (T 0) (T 1 0) q)) 4 0 (q + 1)) 0) 4 0) + 1)) 1) 4 0) + 1)) 2) 1 0) ((rnZ (upG (rnZ (upG (rnZ (upG (upG T 2 0 (chrZ (T 0) (T 1 0) q)) 4 0 (q + 1)) 0) 4 0 (((rnZ (upG (upG T 2 0 (chrZ (T 0) (T 1 0) q)) 4 0 (q + 1)) 0) 4 0) + 1)) 1) 4 0 (((rnZ (upG (rnZ (upG (upG T 2 0 (chrZ (T 0) (T 1 0) q)) 4 0 (q + 1)) 0) 4 0 (((rnZ (upG (upG T 2 0 (chrZ (T 0) (T 1 0) q)) 4 0 (q + 1)) 0) 4 0) + 1)) 1) 4 0) + 1)) 2) 4 0)))]) (mr_V (As := [.int (iI ((rnZ (upG (rnZ (upG (rnZ (upG (upG T 2 0 (chrZ (T 0) (T 1 0) q)) 4 0 (q + 1)) 0) 4 0 (((rnZ (upG (upG T 2 0 (chrZ (T 0) (T 1 0) q)) 4 0 (q + 1)) 0) 4 0) + 1)) 1) 4 0 (((rnZ (upG (rnZ (upG (upG T 2 0 (chrZ (T 0) (T 1 0) q)) 4 0 (q + 1)) 0) 4 0 (((rnZ (upG (upG T 2 0 (chrZ (T 0) (T 1 0) q)) 4 0 (q + 1)) 0) 4 0) + 1)) 1) 4 0) + 1)) 2) 4 0))]) (rest := []) (ci := 1) (q0 := 0) ⟨hx, hb, hml, hown, hts⟩ (m_X1_signAt l D t ta cI cC (rnZ (upG (rnZ (upG (rnZ (upG (upG T 2 0 (chrZ (T 0) (T 1 0) q)) 4 0 (q + 1)) 0) 4 0 (((rnZ (upG (upG T 2 0 (chrZ (T 0) (T 1 0) q)) 4 0 (q + 1)) 0) 4 0) + 1)) 1) 4 0 (((rnZ (upG (rnZ (upG (upG T 2 0 (chrZ (T 0) (T 1 0) q)) 4 0 (q + 1)) 0) 4 0 (((rnZ (upG (upG T 2 0 (chrZ (T 0) (T 1 0) q)) 4 0 (q + 1)) 0) 4 0) + 1)) 1) 4 0) + 1)) 2) ((rnZ (upG (rnZ (upG (rnZ (upG (upG T 2 0 (chrZ (T 0) (T 1 0) q)) 4 0 (q + 1)) 0) 4 0 (((rnZ (upG (upG T 2 0 (chrZ (T 0) (T 1 0) q)) 4 0 (q + 1)) 0) 4 0) + 1)) 1) 4 0 (((rnZ (upG (rnZ (upG (upG T 2 0 (chrZ (T 0) (T 1 0) q)) 4 0 (q + 1)) 0) 4 0 (((rnZ (upG (upG T 2 0 (chrZ (T 0) (T 1 0) q)) 4 0 (q + 1)) 0) 4 0) + 1)) 1) 4 0) + 1)) 2) 4 0) (rn_inv (T := (upG (rnZ (upG (rnZ (upG (upG T 2 0 (chrZ (T 0) (T 1 0) q)) 4 0 (q + 1)) 0) 4 0 (((rnZ (upG (upG T 2 0 (chrZ (T 0) (T 1 0) q)) 4 0 (q + 1)) 0) 4 0) + 1)) 1) 4 0 (((rnZ (upG (rnZ (upG (upG T 2 0 (chrZ (T 0) (T 1 0) q)) 4 0 (q + 1)) 0) 4 0 (((rnZ (upG (upG T 2 0 (chrZ (T 0) (T 1 0) q)) 4 0 (q + 1)) 0) 4 0) + 1)) 1) 4 0) + 1))) (rn_inv (T := (upG (rnZ (upG (upG T 2 0 (chrZ (T 0) (T 1 0) q)) 4 0 (q + 1)) 0) 4 0 (((rnZ (upG (upG T 2 0 (chrZ (T 0) (T 1 0) q)) 4 0 (q + 1)) 0) 4 0) + 1))) (rn_inv (T := (upG (upG T 2 0 (chrZ (T 0) (T 1 0) q)) 4 0 (q + 1))) hT 0) 1) 2) (by omega)) (cwV 1 hts (gV q_170 q_171 q_172 q_173 q_167) rfl rfl rfl (by decide +kernel) ⟨Nat.le_trans (m := 2) (Nat.le_of_ble_eq_true rfl) (Nat.le_trans (Nat.le_of_ble_eq_true rfl) hRf), Nat.le_trans (m := 43) (Nat.le_of_ble_eq_true rfl) (Nat.le_trans (Nat.le_of_ble_eq_true rfl) hRl)⟩) hN hK hP hD rfl rfl rfl hl.1 (Nat.le_of_ble_eq_true rfl) ⟨hRc, hRs⟩ dX1_readOrder_76) hD hS hA rfl (fun H locs hP hD hS => ?_)
              have hf_44 := chr_bd (rn_inv (T := (upG (rnZ (upG (rnZ (upG (upG T 2 0 (chrZ (T 0) (T 1 0) q)) 4 0 (q + 1)) 0) 4 0 (((rnZ (upG (upG T 2 0 (chrZ (T 0) (T 1 0) q)) 4 0 (q + 1)) 0) 4 0) + 1)) 1) 4 0 (((rnZ (upG (rnZ (upG (upG T 2 0 (chrZ (T 0) (T 1 0) q)) 4 0 (q + 1)) 0) 4 0 (((rnZ (upG (upG T 2 0 (chrZ (T 0) (T 1 0) q)) 4 0 (q + 1)) 0) 4 0) + 1)) 1) 4 0) + 1))) (rn_inv (T := (upG (rnZ (upG (upG T 2 0 (chrZ (T 0) (T 1 0) q)) 4 0 (q + 1)) 0) 4 0 (((rnZ (upG (upG T 2 0 (chrZ (T 0) (T 1 0) q)) 4 0 (q + 1)) 0) 4 0) + 1))) (rn_inv (T := (upG (upG T 2 0 (chrZ (T 0) (T 1 0) q)) 4 0 (q + 1))) hT 0) 1) 2) ((rnZ (upG (rnZ (upG (rnZ (upG (upG T 2 0 (chrZ (T 0) (T 1 0) q)) 4 0 (q + 1)) 0) 4 0 (((rnZ (upG (upG T 2 0 (chrZ (T 0) (T 1 0) q)) 4 0 (q + 1)) 0) 4 0) + 1)) 1) 4 0 (((rnZ (upG (rnZ (upG (upG T 2 0 (chrZ (T 0) (T 1 0) q)) 4 0 (q + 1)) 0) 4 0 (((rnZ (upG (upG T 2 0 (chrZ (T 0) (T 1 0) q)) 4 0 (q + 1)) 0) 4 0) + 1)) 1) 4 0) + 1)) 2) 4 0)
              refine lv_iload hx hb dX1_readOrder_79 (lv_at hl 0 rfl) ?_
              refine z_icmp_eq (tgt := 86) hx hb dX1_readOrder_81 (by decide) (by omega) (by omega) (fun c_45 => ?_) (fun c_45 => ?_)
              · refine lv_aload_n hx hb dX1_readOrder_86 rfl (lv_at hl 3 rfl) ?_
                refine lv_dup hx hb dX1_readOrder_87 rfl ?_
                refine va_get (D := D) (ci := 1) (v := .int (iI ((rnZ (upG (rnZ (upG (rnZ (upG (upG T 2 0 (chrZ (T 0) (T 1 0) q)) 4 0 (q + 1)) 0) 4 0 (((rnZ (upG (upG T 2 0 (chrZ (T 0) (T 1 0) q)) 4 0 (q + 1)) 0) 4 0) + 1)) 1) 4 0 (((rnZ (upG (rnZ (upG (upG T 2 0 (chrZ (T 0) (T 1 0) q)) 4 0 (q + 1)) 0) 4 0 (((rnZ (upG (upG T 2 0 (chrZ (T 0) (T 1 0) q)) 4 0 (q + 1)) 0) 4 0) + 1)) 1) 4 0) + 1)) 2) 4 0))) (C := RX1) (T := TX1) (N := 5) hx hb hq inA1 hown hK hP 0 rfl rfl 4 (by decide) (hq _ q_165) (fun _ h9 => h9) rfl dX1_readOrder_88 ?_
                refine z_iconst hx hb dX1_readOrder_91 ?_
                refine z_iadd hx hb dX1_readOrder_92 ?_
                refine va_put (D := D) (ci := 1) (v := .int (iI (((rnZ (upG (rnZ (upG (rnZ (upG (upG T 2 0 (chrZ (T 0) (T 1 0) q)) 4 0 (q + 1)) 0) 4 0 (((rnZ (upG (upG T 2 0 (chrZ (T 0) (T 1 0) q)) 4 0 (q + 1)) 0) 4 0) + 1)) 1) 4 0 (((rnZ (upG (rnZ (upG (upG T 2 0 (chrZ (T 0) (T 1 0) q)) 4 0 (q + 1)) 0) 4 0 (((rnZ (upG (upG T 2 0 (chrZ (T 0) (T 1 0) q)) 4 0 (q + 1)) 0) 4 0) + 1)) 1) 4 0) + 1)) 2) 4 0) + 1))) (ty := .int) (C := RX1) (T := TX1) (N := 5) hx hb hq inA1 tyX1 tyX1_ok nmX1 hown hK hP hD hS 0 rfl rfl 4 (by decide) (hq _ q_165) (fun _ h9 => h9) rfl (by decide +kernel) rfl rfl (Nat.le_of_ble_eq_true rfl) dX1_readOrder_93 (fun H locs hP hD hS => ?_)
                have hP : va_P D vwCl (wT t ta cI cC (upG (rnZ (upG (rnZ (upG (rnZ (upG (upG T 2 0 (chrZ (T 0) (T 1 0) q)) 4 0 (q + 1)) 0) 4 0 (((rnZ (upG (upG T 2 0 (chrZ (T 0) (T 1 0) q)) 4 0 (q + 1)) 0) 4 0) + 1)) 1) 4 0 (((rnZ (upG (rnZ (upG (upG T 2 0 (chrZ (T 0) (T 1 0) q)) 4 0 (q + 1)) 0) 4 0 (((rnZ (upG (upG T 2 0 (chrZ (T 0) (T 1 0) q)) 4 0 (q + 1)) 0) 4 0) + 1)) 1) 4 0) + 1)) 2) 4 0 (((rnZ (upG (rnZ (upG (rnZ (upG (upG T 2 0 (chrZ (T 0) (T 1 0) q)) 4 0 (q + 1)) 0) 4 0 (((rnZ (upG (upG T 2 0 (chrZ (T 0) (T 1 0) q)) 4 0 (q + 1)) 0) 4 0) + 1)) 1) 4 0 (((rnZ (upG (rnZ (upG (upG T 2 0 (chrZ (T 0) (T 1 0) q)) 4 0 (q + 1)) 0) 4 0 (((rnZ (upG (upG T 2 0 (chrZ (T 0) (T 1 0) q)) 4 0 (q + 1)) 0) 4 0) + 1)) 1) 4 0) + 1)) 2) 4 0) + 1))) H := hP
                have hD : va_D A (wT t ta cI cC (upG (rnZ (upG (rnZ (upG (rnZ (upG (upG T 2 0 (chrZ (T 0) (T 1 0) q)) 4 0 (q + 1)) 0) 4 0 (((rnZ (upG (upG T 2 0 (chrZ (T 0) (T 1 0) q)) 4 0 (q + 1)) 0) 4 0) + 1)) 1) 4 0 (((rnZ (upG (rnZ (upG (upG T 2 0 (chrZ (T 0) (T 1 0) q)) 4 0 (q + 1)) 0) 4 0 (((rnZ (upG (upG T 2 0 (chrZ (T 0) (T 1 0) q)) 4 0 (q + 1)) 0) 4 0) + 1)) 1) 4 0) + 1)) 2) 4 0 (((rnZ (upG (rnZ (upG (rnZ (upG (upG T 2 0 (chrZ (T 0) (T 1 0) q)) 4 0 (q + 1)) 0) 4 0 (((rnZ (upG (upG T 2 0 (chrZ (T 0) (T 1 0) q)) 4 0 (q + 1)) 0) 4 0) + 1)) 1) 4 0 (((rnZ (upG (rnZ (upG (upG T 2 0 (chrZ (T 0) (T 1 0) q)) 4 0 (q + 1)) 0) 4 0 (((rnZ (upG (upG T 2 0 (chrZ (T 0) (T 1 0) q)) 4 0 (q + 1)) 0) 4 0) + 1)) 1) 4 0) + 1)) 2) 4 0) + 1))) := hD
                refine lv_iinc (v := iI 3) (lv' := [(3, .int (iI 3)), (4, .int (iI 59)), (2, .int (iI 3)), (0, .ref t), (1, .int (iI q))]) hx hb dX1_readOrder_96 hl (k := 1) rfl (by decide +kernel) (by decide) rfl (fun ls hl => ?_)
                refine lv_goto (tgt := 40) hx hb dX1_readOrder_99 (by decide) ?_
                refine lv_iload_n hx hb dX1_readOrder_40 rfl (lv_at hl 0 rfl) ?_
                refine lv_iload_n hx hb dX1_readOrder_41 rfl (lv_at hl 2 rfl) ?_
                refine z_icmp_ge (tgt := 102) hx hb dX1_readOrder_42 (by decide) (by omega) (by omega) (fun c_46 => ?_) (fun c_46 => absurd c_46 (by omega))
                refine z_iconst hx hb dX1_readOrder_102 ?_
                refine z_as (show 1 = roV T q from by first | rfl | (simp [roV, roT, stV, stT, ro1, ro2, hcs_3, c_30, c_33, c_36, c_39, c_42, c_45])) ?_
                have eW0 : roT T q = (upG (rnZ (upG (rnZ (upG (rnZ (upG (upG T 2 0 (chrZ (T 0) (T 1 0) q)) 4 0 (q + 1)) 0) 4 0 (((rnZ (upG (upG T 2 0 (chrZ (T 0) (T 1 0) q)) 4 0 (q + 1)) 0) 4 0) + 1)) 1) 4 0 (((rnZ (upG (rnZ (upG (upG T 2 0 (chrZ (T 0) (T 1 0) q)) 4 0 (q + 1)) 0) 4 0 (((rnZ (upG (upG T 2 0 (chrZ (T 0) (T 1 0) q)) 4 0 (q + 1)) 0) 4 0) + 1)) 1) 4 0) + 1)) 2) 4 0 (((rnZ (upG (rnZ (upG (rnZ (upG (upG T 2 0 (chrZ (T 0) (T 1 0) q)) 4 0 (q + 1)) 0) 4 0 (((rnZ (upG (upG T 2 0 (chrZ (T 0) (T 1 0) q)) 4 0 (q + 1)) 0) 4 0) + 1)) 1) 4 0 (((rnZ (upG (rnZ (upG (upG T 2 0 (chrZ (T 0) (T 1 0) q)) 4 0 (q + 1)) 0) 4 0 (((rnZ (upG (upG T 2 0 (chrZ (T 0) (T 1 0) q)) 4 0 (q + 1)) 0) 4 0) + 1)) 1) 4 0) + 1)) 2) 4 0) + 1)) := by (simp [roV, roT, stV, stT, ro1, ro2, hcs_3, c_30, c_33, c_36, c_39, c_42, c_45])
                rw [← eW0] at hP hD
                first | exact hret _ _ _ _ dX1_readOrder_103 hP hD hS | (exfalso; omega)
              · refine z_iconst hx hb dX1_readOrder_84 ?_
                refine z_as (show 0 = roV T q from by first | rfl | (simp [roV, roT, stV, stT, ro1, ro2, hcs_3, c_30, c_33, c_36, c_39, c_42, c_45])) ?_
                have eW0 : roT T q = (rnZ (upG (rnZ (upG (rnZ (upG (upG T 2 0 (chrZ (T 0) (T 1 0) q)) 4 0 (q + 1)) 0) 4 0 (((rnZ (upG (upG T 2 0 (chrZ (T 0) (T 1 0) q)) 4 0 (q + 1)) 0) 4 0) + 1)) 1) 4 0 (((rnZ (upG (rnZ (upG (upG T 2 0 (chrZ (T 0) (T 1 0) q)) 4 0 (q + 1)) 0) 4 0 (((rnZ (upG (upG T 2 0 (chrZ (T 0) (T 1 0) q)) 4 0 (q + 1)) 0) 4 0) + 1)) 1) 4 0) + 1)) 2) := by (simp [roV, roT, stV, stT, ro1, ro2, hcs_3, c_30, c_33, c_36, c_39, c_42, c_45])
                rw [← eW0] at hP hD
                first | exact hret _ _ _ _ dX1_readOrder_85 hP hD hS | (exfalso; omega)
            · refine z_iconst hx hb dX1_readOrder_53 ?_
              refine z_as (show 0 = roV T q from by first | rfl | (simp [roV, roT, stV, stT, ro1, ro2, hcs_3, c_30, c_33, c_36, c_39, c_42])) ?_
              have eW0 : roT T q = (rnZ (upG (rnZ (upG (rnZ (upG (upG T 2 0 (chrZ (T 0) (T 1 0) q)) 4 0 (q + 1)) 0) 4 0 (((rnZ (upG (upG T 2 0 (chrZ (T 0) (T 1 0) q)) 4 0 (q + 1)) 0) 4 0) + 1)) 1) 4 0 (((rnZ (upG (rnZ (upG (upG T 2 0 (chrZ (T 0) (T 1 0) q)) 4 0 (q + 1)) 0) 4 0 (((rnZ (upG (upG T 2 0 (chrZ (T 0) (T 1 0) q)) 4 0 (q + 1)) 0) 4 0) + 1)) 1) 4 0) + 1)) 2) := by (simp [roV, roT, stV, stT, ro1, ro2, hcs_3, c_30, c_33, c_36, c_39, c_42])
              rw [← eW0] at hP hD
              first | exact hret _ _ _ _ dX1_readOrder_54 hP hD hS | (exfalso; omega)
          · refine z_iconst hx hb dX1_readOrder_84 ?_
            refine z_as (show 0 = roV T q from by first | rfl | (simp [roV, roT, stV, stT, ro1, ro2, hcs_3, c_30, c_33, c_36, c_39])) ?_
            have eW0 : roT T q = (rnZ (upG (rnZ (upG (upG T 2 0 (chrZ (T 0) (T 1 0) q)) 4 0 (q + 1)) 0) 4 0 (((rnZ (upG (upG T 2 0 (chrZ (T 0) (T 1 0) q)) 4 0 (q + 1)) 0) 4 0) + 1)) 1) := by (simp [roV, roT, stV, stT, ro1, ro2, hcs_3, c_30, c_33, c_36, c_39])
            rw [← eW0] at hP hD
            first | exact hret _ _ _ _ dX1_readOrder_85 hP hD hS | (exfalso; omega)
        · refine z_iconst hx hb dX1_readOrder_53 ?_
          refine z_as (show 0 = roV T q from by first | rfl | (simp [roV, roT, stV, stT, ro1, ro2, hcs_3, c_30, c_33, c_36])) ?_
          have eW0 : roT T q = (rnZ (upG (rnZ (upG (upG T 2 0 (chrZ (T 0) (T 1 0) q)) 4 0 (q + 1)) 0) 4 0 (((rnZ (upG (upG T 2 0 (chrZ (T 0) (T 1 0) q)) 4 0 (q + 1)) 0) 4 0) + 1)) 1) := by (simp [roV, roT, stV, stT, ro1, ro2, hcs_3, c_30, c_33, c_36])
          rw [← eW0] at hP hD
          first | exact hret _ _ _ _ dX1_readOrder_54 hP hD hS | (exfalso; omega)
      · refine z_iconst hx hb dX1_readOrder_84 ?_
        refine z_as (show 0 = roV T q from by first | rfl | (simp [roV, roT, stV, stT, ro1, ro2, hcs_3, c_30, c_33])) ?_
        have eW0 : roT T q = (rnZ (upG (upG T 2 0 (chrZ (T 0) (T 1 0) q)) 4 0 (q + 1)) 0) := by (simp [roV, roT, stV, stT, ro1, ro2, hcs_3, c_30, c_33])
        rw [← eW0] at hP hD
        first | exact hret _ _ _ _ dX1_readOrder_85 hP hD hS | (exfalso; omega)
    · refine z_iconst hx hb dX1_readOrder_53 ?_
      refine z_as (show 0 = roV T q from by first | rfl | (simp [roV, roT, stV, stT, ro1, ro2, hcs_3, c_30])) ?_
      have eW0 : roT T q = (rnZ (upG (upG T 2 0 (chrZ (T 0) (T 1 0) q)) 4 0 (q + 1)) 0) := by (simp [roV, roT, stV, stT, ro1, ro2, hcs_3, c_30])
      rw [← eW0] at hP hD
      first | exact hret _ _ _ _ dX1_readOrder_54 hP hD hS | (exfalso; omega)
