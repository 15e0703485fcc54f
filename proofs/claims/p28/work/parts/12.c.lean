set_option maxHeartbeats 4000000 in
set_option maxRecDepth 100000 in
theorem m_X0_rowsWithWrongCells (l : Launch) (D : va_G) (g : Nat) (ad : Nat → Nat) (cI : ClassId) (G : Nat → Int → Int) {B : Int} (hI : InvG B G)  : MW l D yX0_rowsWithWrongCells (wsY yX0_rowsWithWrongCells cX0_rowsWithWrongCells 3 (some .int)) { frames := 3, cells := 0, slots := 0, locals := 69 } [(cI, .int)] [.ref g] (wG g ad cI G) (wG g ad cI G) (some (.int (iI (rowSetZ G)))) := by
  refine mw_ofI (cc := cX0_rowsWithWrongCells) (maxL := 3) (by decide) rfl (Nat.le_of_ble_eq_true rfl) ?_
  intro p e s m below meth c R A Q args ls hx hb hml hown hts hRf hRl hRc hRs hN hK hP hD hS hA hret hl
  have hq : ∀ w ∈ ALL, w.before args s = true := fun w h => hts w (List.mem_cons_of_mem _ h)
  have hl : lv_has ls 3 [(0, .ref g)] := hl
  refine z_iconst hx hb dX0_rowsWithWrongCells_0 ?_
  refine lv_istore_n (lv' := [(1, .int (iI 0)), (0, .ref g)]) hx hb dX0_rowsWithWrongCells_1 rfl hl (by decide) rfl (fun ls hl => ?_)
  refine z_iconst hx hb dX0_rowsWithWrongCells_2 ?_
  refine lv_istore_n (lv' := [(2, .int (iI 0)), (1, .int (iI 0)), (0, .ref g)]) hx hb dX0_rowsWithWrongCells_3 rfl hl (by decide) rfl (fun ls hl => ?_)
  have LP4 : ∀ (fu i : Nat), i ≤ 6 → 6 < fu + i → ∀ (H : Heap) (locs : List Loc) (ls : Array Slot), va_P D vwCl (wG g ad cI G) H → va_D A (wG g ad cI G) → va_S A s.heap H locs → lv_has ls 3 [(2, .int (iI (i : Int))), (1, .int (iI (bitsZ (fun r => wrongZ G r) i))), (0, .ref g)] → W p l e R s m args below meth c H locs 0 0 Q (F0 m 4 ls []) := by
    intro fu
    induction fu with
    | zero => intro i h1 h2; omega
    | succ fu ih4 =>
      intro i hi1 hif H locs ls hP hD hS hl
      have hbb := bits_bd (fun r => wrongZ G r) i
      refine lv_iload_n hx hb dX0_rowsWithWrongCells_4 rfl (lv_at hl 0 rfl) ?_
      refine z_bipush hx hb dX0_rowsWithWrongCells_5 (by decide +kernel) ?_
      refine z_icmp_ge (tgt := 30) hx hb dX0_rowsWithWrongCells_7 (by decide) (by omega) (by omega) (fun c_1 => ?_) (fun c_1 => ?_)
      · refine lv_iload_n hx hb dX0_rowsWithWrongCells_30 rfl (lv_at hl 1 rfl) ?_
        refine z_as (show (bitsZ (fun r => wrongZ G r) i) = rowSetZ G from by (have hiN : i = 6 := by omega); rw [hiN]; first | done | rfl) ?_
        first | exact hret _ _ _ _ dX0_rowsWithWrongCells_31 hP hD hS | (exfalso; omega)
      · refine lv_aload_n hx hb dX0_rowsWithWrongCells_10 rfl (lv_at hl 2 rfl) ?_
        refine lv_iload_n hx hb dX0_rowsWithWrongCells_11 rfl (lv_at hl 0 rfl) ?_
        refine mw_full (st1 := [.int (iI (wrongZ G (i : Int)))]) (mr_V (As := [.int (iI (i : Int))]) (rest := []) (ci := 0) (q0 := 0) ⟨hx, hb, hml, hown, hts⟩ (m_X0_wrongCells l D g ad cI G (i : Int) hI (by omega)) (cwV 1 hts (gV q_115 q_116 q_117 q_8 q_110) rfl rfl rfl (by decide +kernel) ⟨Nat.le_trans (m := 3) (Nat.le_of_ble_eq_true rfl) (Nat.le_trans (Nat.le_of_ble_eq_true rfl) hRf), Nat.le_trans (m := 69) (Nat.le_of_ble_eq_true rfl) (Nat.le_trans (Nat.le_of_ble_eq_true rfl) hRl)⟩) hN hK hP hD rfl rfl rfl hl.1 (Nat.le_of_ble_eq_true rfl) ⟨hRc, hRs⟩ dX0_rowsWithWrongCells_12) hD hS hA rfl (fun H locs hP hD hS => ?_)
        have hf_2 := wrongZ_bd G (i : Int)
        refine z_if_le (tgt := 24) hx hb dX0_rowsWithWrongCells_15 (by decide) (by omega) (fun c_3 => ?_) (fun c_3 => ?_)
        · refine lv_iinc (v := iI ((i : Int) + 1)) (lv' := [(2, .int (iI ((i : Int) + 1))), (1, .int (iI (bitsZ (fun r => wrongZ G r) i))), (0, .ref g)]) hx hb dX0_rowsWithWrongCells_24 hl (k := 0) rfl (iI_add _ _) (by decide) rfl (fun ls hl => ?_)
          refine lv_goto (tgt := 4) hx hb dX0_rowsWithWrongCells_27 (by decide) ?_
          have e1_0 : (((i + 1 : Nat) : Int)) = ((i : Int) + 1) := by first | omega | (simp only [bitsZ]; rw [if_pos (by omega)]) | (simp only [bitsZ]; rw [if_neg (by omega)])
          have e1_1 : ((bitsZ (fun r => wrongZ G r) (i + 1))) = (bitsZ (fun r => wrongZ G r) i) := by first | omega | (simp only [bitsZ]; rw [if_pos (by omega)]) | (simp only [bitsZ]; rw [if_neg (by omega)])
          exact ih4 (i + 1) (by omega) (by omega) _ _ _ hP hD hS (lv_to (lv_sub (l' := [(2, .int (iI ((i : Int) + 1))), (1, .int (iI (bitsZ (fun r => wrongZ G r) i))), (0, .ref g)]) hl [0, 1, 2] rfl) (by simp only [e1_0, e1_1]))
        · refine lv_iload_n hx hb dX0_rowsWithWrongCells_18 rfl (lv_at hl 1 rfl) ?_
          refine z_iconst hx hb dX0_rowsWithWrongCells_19 ?_
          refine lv_iload_n hx hb dX0_rowsWithWrongCells_20 rfl (lv_at hl 0 rfl) ?_
          refine lv_ishl hx hb dX0_rowsWithWrongCells_21 ?_
          refine lv_ior hx hb dX0_rowsWithWrongCells_22 ?_
          refine z_asB (b := (bitsZ (fun r => wrongZ G r) i + ((2 ^ i : Nat) : Int))) (bit_or i (by omega) hbb) ?_
          refine lv_istore_n (lv' := [(1, .int (iI (bitsZ (fun r => wrongZ G r) i + ((2 ^ i : Nat) : Int)))), (2, .int (iI (i : Int))), (0, .ref g)]) hx hb dX0_rowsWithWrongCells_23 rfl hl (by decide) rfl (fun ls hl => ?_)
          refine lv_iinc (v := iI ((i : Int) + 1)) (lv' := [(2, .int (iI ((i : Int) + 1))), (1, .int (iI (bitsZ (fun r => wrongZ G r) i + ((2 ^ i : Nat) : Int)))), (0, .ref g)]) hx hb dX0_rowsWithWrongCells_24 hl (k := 1) rfl (iI_add _ _) (by decide) rfl (fun ls hl => ?_)
          refine lv_goto (tgt := 4) hx hb dX0_rowsWithWrongCells_27 (by decide) ?_
          have e1_0 : (((i + 1 : Nat) : Int)) = ((i : Int) + 1) := by first | omega | (simp only [bitsZ]; rw [if_pos (by omega)]) | (simp only [bitsZ]; rw [if_neg (by omega)])
          have e1_1 : ((bitsZ (fun r => wrongZ G r) (i + 1))) = (bitsZ (fun r => wrongZ G r) i + ((2 ^ i : Nat) : Int)) := by first | omega | (simp only [bitsZ]; rw [if_pos (by omega)]) | (simp only [bitsZ]; rw [if_neg (by omega)])
          exact ih4 (i + 1) (by omega) (by omega) _ _ _ hP hD hS (lv_to (lv_sub (l' := [(2, .int (iI ((i : Int) + 1))), (1, .int (iI (bitsZ (fun r => wrongZ G r) i + ((2 ^ i : Nat) : Int)))), (0, .ref g)]) hl [0, 1, 2] rfl) (by simp only [e1_0, e1_1]))
  have e0_0 : (((0 : Nat) : Int)) = 0 := by first | rfl | omega
  have e0_1 : ((bitsZ (fun r => wrongZ G r) (0))) = 0 := by first | rfl | omega
  exact LP4 (6 + 1) 0 (by omega) (by omega) _ _ _ hP hD hS (lv_to (lv_sub (l' := [(2, .int (iI 0)), (1, .int (iI 0)), (0, .ref g)]) hl [0, 1, 2] rfl) (by simp only [e0_0, e0_1]))
set_option maxHeartbeats 4000000 in
set_option maxRecDepth 100000 in
theorem m_X0_rowsToldBy (l : Launch) (D : va_G) (g : Nat) (ad : Nat → Nat) (cI : ClassId) (G : Nat → Int → Int) (w : Int) {B : Int} (hI : InvG B G) (h1 : -2147483648 ≤ w ∧ w < 2147483648)  : MW l D yX0_rowsToldBy (wsY yX0_rowsToldBy cX0_rowsToldBy 4 (some .int)) { frames := 2, cells := 0, slots := 0, locals := 43 } [(cI, .int)] [.ref g, .int (iI w)] (wG g ad cI G) (wG g ad cI G) (some (.int (iI (srcSetZ G w)))) := by
  refine mw_ofI (cc := cX0_rowsToldBy) (maxL := 4) (by decide) rfl (Nat.le_of_ble_eq_true rfl) ?_
  intro p e s m below meth c R A Q args ls hx hb hml hown hts hRf hRl hRc hRs hN hK hP hD hS hA hret hl
  have hq : ∀ w ∈ ALL, w.before args s = true := fun w h => hts w (List.mem_cons_of_mem _ h)
  have hl : lv_has ls 4 [(0, .ref g), (1, .int (iI w))] := hl
  refine z_iconst hx hb dX0_rowsToldBy_0 ?_
  refine lv_istore_n (lv' := [(2, .int (iI 0)), (0, .ref g), (1, .int (iI w))]) hx hb dX0_rowsToldBy_1 rfl hl (by decide) rfl (fun ls hl => ?_)
  refine z_iconst hx hb dX0_rowsToldBy_2 ?_
  refine lv_istore_n (lv' := [(3, .int (iI 0)), (2, .int (iI 0)), (0, .ref g), (1, .int (iI w))]) hx hb dX0_rowsToldBy_3 rfl hl (by decide) rfl (fun ls hl => ?_)
  have LP4 : ∀ (fu i : Nat), i ≤ 6 → 6 < fu + i → ∀ (H : Heap) (locs : List Loc) (ls : Array Slot), va_P D vwCl (wG g ad cI G) H → va_D A (wG g ad cI G) → va_S A s.heap H locs → lv_has ls 4 [(3, .int (iI (i : Int))), (2, .int (iI (bitsZ (fun r => if sourceZ G r = w then 1 else 0) i))), (0, .ref g), (1, .int (iI w))] → W p l e R s m args below meth c H locs 0 0 Q (F0 m 4 ls []) := by
    intro fu
    induction fu with
    | zero => intro i h1 h2; omega
    | succ fu ih4 =>
      intro i hi1 hif H locs ls hP hD hS hl
      have hbb := bits_bd (fun r => if sourceZ G r = w then 1 else 0) i
      refine lv_iload_n hx hb dX0_rowsToldBy_4 rfl (lv_at hl 0 rfl) ?_
      refine z_bipush hx hb dX0_rowsToldBy_5 (by decide +kernel) ?_
      refine z_icmp_ge (tgt := 31) hx hb dX0_rowsToldBy_7 (by decide) (by omega) (by omega) (fun c_1 => ?_) (fun c_1 => ?_)
      · refine lv_iload_n hx hb dX0_rowsToldBy_31 rfl (lv_at hl 1 rfl) ?_
        refine z_as (show (bitsZ (fun r => if sourceZ G r = w then 1 else 0) i) = srcSetZ G w from by (have hiN : i = 6 := by omega); rw [hiN]; first | done | rfl) ?_
        first | exact hret _ _ _ _ dX0_rowsToldBy_32 hP hD hS | (exfalso; omega)
      · refine lv_aload_n hx hb dX0_rowsToldBy_10 rfl (lv_at hl 2 rfl) ?_
        refine lv_iload_n hx hb dX0_rowsToldBy_11 rfl (lv_at hl 0 rfl) ?_
        refine mw_full (st1 := [.int (iI (sourceZ G (i : Int)))]) (mr_V (As := [.int (iI (i : Int))]) (rest := []) (ci := 0) (q0 := 0) ⟨hx, hb, hml, hown, hts⟩ (m_X0_source l D g ad cI G (i : Int) hI (by omega)) (cwV 1 hts (gV q_112 q_113 q_114 q_8 q_105) rfl rfl rfl (by decide +kernel) ⟨Nat.le_trans (m := 2) (Nat.le_of_ble_eq_true rfl) (Nat.le_trans (Nat.le_of_ble_eq_true rfl) hRf), Nat.le_trans (m := 43) (Nat.le_of_ble_eq_true rfl) (Nat.le_trans (Nat.le_of_ble_eq_true rfl) hRl)⟩) hN hK hP hD rfl rfl rfl hl.1 (Nat.le_of_ble_eq_true rfl) ⟨hRc, hRs⟩ dX0_rowsToldBy_12) hD hS hA rfl (fun H locs hP hD hS => ?_)
        have hf_2 : 0 ≤ sourceZ G (i : Int) ∧ sourceZ G (i : Int) ≤ 2 := by unfold sourceZ; omega
        refine lv_iload_n hx hb dX0_rowsToldBy_15 rfl (lv_at hl 3 rfl) ?_
        refine z_icmp_ne (tgt := 25) hx hb dX0_rowsToldBy_16 (by decide) (by omega) (by omega) (fun c_3 => ?_) (fun c_3 => ?_)
        · refine lv_iinc (v := iI ((i : Int) + 1)) (lv' := [(3, .int (iI ((i : Int) + 1))), (2, .int (iI (bitsZ (fun r => if sourceZ G r = w then 1 else 0) i))), (0, .ref g), (1, .int (iI w))]) hx hb dX0_rowsToldBy_25 hl (k := 0) rfl (iI_add _ _) (by decide) rfl (fun ls hl => ?_)
          refine lv_goto (tgt := 4) hx hb dX0_rowsToldBy_28 (by decide) ?_
          have e1_0 : (((i + 1 : Nat) : Int)) = ((i : Int) + 1) := by first | omega | (simp only [bitsZ]; rw [if_pos (by omega)]) | (simp only [bitsZ]; rw [if_neg (by omega)])
          have e1_1 : ((bitsZ (fun r => if sourceZ G r = w then 1 else 0) (i + 1))) = (bitsZ (fun r => if sourceZ G r = w then 1 else 0) i) := by first | omega | (simp only [bitsZ]; rw [if_pos (by omega)]) | (simp only [bitsZ]; rw [if_neg (by omega)])
          exact ih4 (i + 1) (by omega) (by omega) _ _ _ hP hD hS (lv_to (lv_sub (l' := [(3, .int (iI ((i : Int) + 1))), (2, .int (iI (bitsZ (fun r => if sourceZ G r = w then 1 else 0) i))), (0, .ref g), (1, .int (iI w))]) hl [0, 1, 2, 3] rfl) (by simp only [e1_0, e1_1]))
        · refine lv_iload_n hx hb dX0_rowsToldBy_19 rfl (lv_at hl 1 rfl) ?_
          refine z_iconst hx hb dX0_rowsToldBy_20 ?_
          refine lv_iload_n hx hb dX0_rowsToldBy_21 rfl (lv_at hl 0 rfl) ?_
          refine lv_ishl hx hb dX0_rowsToldBy_22 ?_
          refine lv_ior hx hb dX0_rowsToldBy_23 ?_
          refine z_asB (b := (bitsZ (fun r => if sourceZ G r = w then 1 else 0) i + ((2 ^ i : Nat) : Int))) (bit_or i (by omega) hbb) ?_
          refine lv_istore_n (lv' := [(2, .int (iI (bitsZ (fun r => if sourceZ G r = w then 1 else 0) i + ((2 ^ i : Nat) : Int)))), (3, .int (iI (i : Int))), (0, .ref g), (1, .int (iI w))]) hx hb dX0_rowsToldBy_24 rfl hl (by decide) rfl (fun ls hl => ?_)
          refine lv_iinc (v := iI ((i : Int) + 1)) (lv' := [(3, .int (iI ((i : Int) + 1))), (2, .int (iI (bitsZ (fun r => if sourceZ G r = w then 1 else 0) i + ((2 ^ i : Nat) : Int)))), (0, .ref g), (1, .int (iI w))]) hx hb dX0_rowsToldBy_25 hl (k := 1) rfl (iI_add _ _) (by decide) rfl (fun ls hl => ?_)
          refine lv_goto (tgt := 4) hx hb dX0_rowsToldBy_28 (by decide) ?_
          have e1_0 : (((i + 1 : Nat) : Int)) = ((i : Int) + 1) := by first | omega | (simp only [bitsZ]; rw [if_pos (by omega)]) | (simp only [bitsZ]; rw [if_neg (by omega)])
          have e1_1 : ((bitsZ (fun r => if sourceZ G r = w then 1 else 0) (i + 1))) = (bitsZ (fun r => if sourceZ G r = w then 1 else 0) i + ((2 ^ i : Nat) : Int)) := by first | omega | (simp only [bitsZ]; rw [if_pos (by omega)]) | (simp only [bitsZ]; rw [if_neg (by omega)])
          exact ih4 (i + 1) (by omega) (by omega) _ _ _ hP hD hS (lv_to (lv_sub (l' := [(3, .int (iI ((i : Int) + 1))), (2, .int (iI (bitsZ (fun r => if sourceZ G r = w then 1 else 0) i + ((2 ^ i : Nat) : Int)))), (0, .ref g), (1, .int (iI w))]) hl [0, 1, 2, 3] rfl) (by simp only [e1_0, e1_1]))
  have e0_0 : (((0 : Nat) : Int)) = 0 := by first | rfl | omega
  have e0_1 : ((bitsZ (fun r => if sourceZ G r = w then 1 else 0) (0))) = 0 := by first | rfl | omega
  exact LP4 (6 + 1) 0 (by omega) (by omega) _ _ _ hP hD hS (lv_to (lv_sub (l' := [(3, .int (iI 0)), (2, .int (iI 0)), (0, .ref g), (1, .int (iI w))]) hl [0, 1, 2, 3] rfl) (by simp only [e0_0, e0_1]))
set_option maxHeartbeats 4000000 in
set_option maxRecDepth 100000 in
theorem m_X0_allWrongCells (l : Launch) (D : va_G) (g : Nat) (ad : Nat → Nat) (cI : ClassId) (G : Nat → Int → Int) {B : Int} (hI : InvG B G)  : MW l D yX0_allWrongCells (wsY yX0_allWrongCells cX0_allWrongCells 3 (some .int)) { frames := 3, cells := 0, slots := 0, locals := 69 } [(cI, .int)] [.ref g] (wG g ad cI G) (wG g ad cI G) (some (.int (iI (allWrongZ G 6)))) := by
  refine mw_ofI (cc := cX0_allWrongCells) (maxL := 3) (by decide) rfl (Nat.le_of_ble_eq_true rfl) ?_
  intro p e s m below meth c R A Q args ls hx hb hml hown hts hRf hRl hRc hRs hN hK hP hD hS hA hret hl
  have hq : ∀ w ∈ ALL, w.before args s = true := fun w h => hts w (List.mem_cons_of_mem _ h)
  have hl : lv_has ls 3 [(0, .ref g)] := hl
  refine z_iconst hx hb dX0_allWrongCells_0 ?_
  refine lv_istore_n (lv' := [(1, .int (iI 0)), (0, .ref g)]) hx hb dX0_allWrongCells_1 rfl hl (by decide) rfl (fun ls hl => ?_)
  refine z_iconst hx hb dX0_allWrongCells_2 ?_
  refine lv_istore_n (lv' := [(2, .int (iI 0)), (1, .int (iI 0)), (0, .ref g)]) hx hb dX0_allWrongCells_3 rfl hl (by decide) rfl (fun ls hl => ?_)
  have LP4 : ∀ (fu i : Nat), i ≤ 6 → 6 < fu + i → ∀ (H : Heap) (locs : List Loc) (ls : Array Slot), va_P D vwCl (wG g ad cI G) H → va_D A (wG g ad cI G) → va_S A s.heap H locs → lv_has ls 3 [(2, .int (iI (i : Int))), (1, .int (iI (allWrongZ G i))), (0, .ref g)] → W p l e R s m args below meth c H locs 0 0 Q (F0 m 4 ls []) := by
    intro fu
    induction fu with
    | zero => intro i h1 h2; omega
    | succ fu ih4 =>
      intro i hi1 hif H locs ls hP hD hS hl
      refine lv_iload_n hx hb dX0_allWrongCells_4 rfl (lv_at hl 0 rfl) ?_
      refine z_bipush hx hb dX0_allWrongCells_5 (by decide +kernel) ?_
      refine z_icmp_ge (tgt := 24) hx hb dX0_allWrongCells_7 (by decide) (by omega) (by omega) (fun c_1 => ?_) (fun c_1 => ?_)
      · refine lv_iload_n hx hb dX0_allWrongCells_24 rfl (lv_at hl 1 rfl) ?_
        refine z_as (show (allWrongZ G i) = allWrongZ G 6 from by (have hiN : i = 6 := by omega); rw [hiN]; first | done | rfl) ?_
        first | exact hret _ _ _ _ dX0_allWrongCells_25 hP hD hS | (exfalso; omega)
      · refine lv_iload_n hx hb dX0_allWrongCells_10 rfl (lv_at hl 1 rfl) ?_
        refine lv_aload_n hx hb dX0_allWrongCells_11 rfl (lv_at hl 2 rfl) ?_
        refine lv_iload_n hx hb dX0_allWrongCells_12 rfl (lv_at hl 0 rfl) ?_
        refine mw_full (st1 := [.int (iI (wrongZ G (i : Int))), .int (iI (allWrongZ G i))]) (mr_V (As := [.int (iI (i : Int))]) (rest := [.int (iI (allWrongZ G i))]) (ci := 0) (q0 := 0) ⟨hx, hb, hml, hown, hts⟩ (m_X0_wrongCells l D g ad cI G (i : Int) hI (by omega)) (cwV 1 hts (gV q_115 q_116 q_117 q_8 q_110) rfl rfl rfl (by decide +kernel) ⟨Nat.le_trans (m := 3) (Nat.le_of_ble_eq_true rfl) (Nat.le_trans (Nat.le_of_ble_eq_true rfl) hRf), Nat.le_trans (m := 69) (Nat.le_of_ble_eq_true rfl) (Nat.le_trans (Nat.le_of_ble_eq_true rfl) hRl)⟩) hN hK hP hD rfl rfl rfl hl.1 (Nat.le_of_ble_eq_true rfl) ⟨hRc, hRs⟩ dX0_allWrongCells_13) hD hS hA rfl (fun H locs hP hD hS => ?_)
        have hf_2 := wrongZ_bd G (i : Int)
        refine z_iadd hx hb dX0_allWrongCells_16 ?_
        refine lv_istore_n (lv' := [(1, .int (iI ((allWrongZ G i) + wrongZ G (i : Int)))), (2, .int (iI (i : Int))), (0, .ref g)]) hx hb dX0_allWrongCells_17 rfl hl (by decide) rfl (fun ls hl => ?_)
        refine lv_iinc (v := iI ((i : Int) + 1)) (lv' := [(2, .int (iI ((i : Int) + 1))), (1, .int (iI ((allWrongZ G i) + wrongZ G (i : Int)))), (0, .ref g)]) hx hb dX0_allWrongCells_18 hl (k := 1) rfl (iI_add _ _) (by decide) rfl (fun ls hl => ?_)
        refine lv_goto (tgt := 4) hx hb dX0_allWrongCells_21 (by decide) ?_
        have e1_0 : (((i + 1 : Nat) : Int)) = ((i : Int) + 1) := by first | rfl | omega
        have e1_1 : ((allWrongZ G (i + 1))) = ((allWrongZ G i) + wrongZ G (i : Int)) := by first | rfl | omega
        exact ih4 (i + 1) (by omega) (by omega) _ _ _ hP hD hS (lv_to (lv_sub (l' := [(2, .int (iI ((i : Int) + 1))), (1, .int (iI ((allWrongZ G i) + wrongZ G (i : Int)))), (0, .ref g)]) hl [0, 1, 2] rfl) (by simp only [e1_0, e1_1]))
  have e0_0 : (((0 : Nat) : Int)) = 0 := by first | rfl | omega
  have e0_1 : ((allWrongZ G (0))) = 0 := by first | rfl | omega
  exact LP4 (6 + 1) 0 (by omega) (by omega) _ _ _ hP hD hS (lv_to (lv_sub (l' := [(2, .int (iI 0)), (1, .int (iI 0)), (0, .ref g)]) hl [0, 1, 2] rfl) (by simp only [e0_0, e0_1]))
set_option maxHeartbeats 4000000 in
set_option maxRecDepth 100000 in
theorem m_X0_pairsTold (l : Launch) (D : va_G) (g : Nat) (ad : Nat → Nat) (cI : ClassId) (G : Nat → Int → Int) {B : Int} (hI : InvG B G)  : MW l D yX0_pairsTold (wsY yX0_pairsTold cX0_pairsTold 3 (some .int)) { frames := 0, cells := 0, slots := 0, locals := 0 } [(cI, .int)] [.ref g] (wG g ad cI G) (wG g ad cI G) (some (.int (iI (pairsZ G 9)))) := by
  refine mw_ofI (cc := cX0_pairsTold) (maxL := 3) (by decide) rfl (Nat.le_of_ble_eq_true rfl) ?_
  intro p e s m below meth c R A Q args ls hx hb hml hown hts hRf hRl hRc hRs hN hK hP hD hS hA hret hl
  have hq : ∀ w ∈ ALL, w.before args s = true := fun w h => hts w (List.mem_cons_of_mem _ h)
  have hl : lv_has ls 3 [(0, .ref g)] := hl
  have hBb := invG_B hI
  refine z_iconst hx hb dX0_pairsTold_0 ?_
  refine lv_istore_n (lv' := [(1, .int (iI 0)), (0, .ref g)]) hx hb dX0_pairsTold_1 rfl hl (by decide) rfl (fun ls hl => ?_)
  refine z_iconst hx hb dX0_pairsTold_2 ?_
  refine lv_istore_n (lv' := [(2, .int (iI 0)), (1, .int (iI 0)), (0, .ref g)]) hx hb dX0_pairsTold_3 rfl hl (by decide) rfl (fun ls hl => ?_)
  have LP4 : ∀ (fu i : Nat), i ≤ 9 → 9 < fu + i → ∀ (H : Heap) (locs : List Loc) (ls : Array Slot), va_P D vwCl (wG g ad cI G) H → va_D A (wG g ad cI G) → va_S A s.heap H locs → lv_has ls 3 [(2, .int (iI (i : Int))), (1, .int (iI (pairsZ G i))), (0, .ref g)] → W p l e R s m args below meth c H locs 0 0 Q (F0 m 4 ls []) := by
    intro fu
    induction fu with
    | zero => intro i h1 h2; omega
    | succ fu ih4 =>
      intro i hi1 hif H locs ls hP hD hS hl
      refine lv_iload_n hx hb dX0_pairsTold_4 rfl (lv_at hl 0 rfl) ?_
      refine z_bipush hx hb dX0_pairsTold_5 (by decide +kernel) ?_
      refine z_icmp_ge (tgt := 28) hx hb dX0_pairsTold_7 (by decide) (by omega) (by omega) (fun c_1 => ?_) (fun c_1 => ?_)
      · refine lv_iload_n hx hb dX0_pairsTold_28 rfl (lv_at hl 1 rfl) ?_
        refine z_as (show (pairsZ G i) = pairsZ G 9 from by (have hiN : i = 9 := by omega); rw [hiN]; first | done | rfl) ?_
        first | exact hret _ _ _ _ dX0_pairsTold_29 hP hD hS | (exfalso; omega)
      · refine lv_aload_n hx hb dX0_pairsTold_10 rfl (lv_at hl 2 rfl) ?_
        refine va_get (D := D) (ci := 0) (v := .ref (ad 10)) (C := RX0) (T := TX0) (N := 13) hx hb hq inA0 hown hK hP 0 rfl rfl 10 (by decide) (hq _ q_21) (fun _ h9 => h9) rfl dX0_pairsTold_11 ?_
        refine lv_iload_n hx hb dX0_pairsTold_14 rfl (lv_at hl 0 rfl) ?_
        refine z_iald hx hb hK hP 11 0 rfl rfl (by omega) (by omega) (v := (G 10 (i : Int))) rfl dX0_pairsTold_15 ?_
        have hv_2 := invG_10 hI (i : Int) (by omega) (by omega)
        refine z_if_le (tgt := 22) hx hb dX0_pairsTold_16 (by decide) (by omega) (fun c_3 => ?_) (fun c_3 => ?_)
        · refine lv_iinc (v := iI ((i : Int) + 1)) (lv' := [(2, .int (iI ((i : Int) + 1))), (1, .int (iI (pairsZ G i))), (0, .ref g)]) hx hb dX0_pairsTold_22 hl (k := 0) rfl (iI_add _ _) (by decide) rfl (fun ls hl => ?_)
          refine lv_goto (tgt := 4) hx hb dX0_pairsTold_25 (by decide) ?_
          have e1_0 : (((i + 1 : Nat) : Int)) = ((i : Int) + 1) := by first | omega | (simp only [pairsZ, sumZ]; omega)
          have e1_1 : ((pairsZ G (i + 1))) = (pairsZ G i) := by first | omega | (simp only [pairsZ, sumZ]; omega)
          exact ih4 (i + 1) (by omega) (by omega) _ _ _ hP hD hS (lv_to (lv_sub (l' := [(2, .int (iI ((i : Int) + 1))), (1, .int (iI (pairsZ G i))), (0, .ref g)]) hl [0, 1, 2] rfl) (by simp only [e1_0, e1_1]))
        · refine lv_iinc (v := iI ((pairsZ G i) + 1)) (lv' := [(1, .int (iI ((pairsZ G i) + 1))), (2, .int (iI (i : Int))), (0, .ref g)]) hx hb dX0_pairsTold_19 hl (k := 1) rfl (iI_add _ _) (by decide) rfl (fun ls hl => ?_)
          refine lv_iinc (v := iI ((i : Int) + 1)) (lv' := [(2, .int (iI ((i : Int) + 1))), (1, .int (iI ((pairsZ G i) + 1))), (0, .ref g)]) hx hb dX0_pairsTold_22 hl (k := 1) rfl (iI_add _ _) (by decide) rfl (fun ls hl => ?_)
          refine lv_goto (tgt := 4) hx hb dX0_pairsTold_25 (by decide) ?_
          have e1_0 : (((i + 1 : Nat) : Int)) = ((i : Int) + 1) := by first | omega | (simp only [pairsZ, sumZ]; omega)
          have e1_1 : ((pairsZ G (i + 1))) = ((pairsZ G i) + 1) := by first | omega | (simp only [pairsZ, sumZ]; omega)
          exact ih4 (i + 1) (by omega) (by omega) _ _ _ hP hD hS (lv_to (lv_sub (l' := [(2, .int (iI ((i : Int) + 1))), (1, .int (iI ((pairsZ G i) + 1))), (0, .ref g)]) hl [0, 1, 2] rfl) (by simp only [e1_0, e1_1]))
  have e0_0 : (((0 : Nat) : Int)) = 0 := by first | rfl | omega
  have e0_1 : ((pairsZ G (0))) = 0 := by first | rfl | omega
  exact LP4 (9 + 1) 0 (by omega) (by omega) _ _ _ hP hD hS (lv_to (lv_sub (l' := [(2, .int (iI 0)), (1, .int (iI 0)), (0, .ref g)]) hl [0, 1, 2] rfl) (by simp only [e0_0, e0_1]))
set_option maxHeartbeats 4000000 in
set_option maxRecDepth 100000 in
theorem m_X0_cellsOfLevel (l : Launch) (D : va_G) (g : Nat) (ad : Nat → Nat) (cI : ClassId) (G : Nat → Int → Int) (v : Int) {B : Int} (hI : InvG B G) (h1 : -2147483648 ≤ v ∧ v < 2147483648)  : MW l D yX0_cellsOfLevel (wsY yX0_cellsOfLevel cX0_cellsOfLevel 4 (some .int)) { frames := 0, cells := 0, slots := 0, locals := 0 } [(cI, .int)] [.ref g, .int (iI v)] (wG g ad cI G) (wG g ad cI G) (some (.int (iI (ofLevelZ G v 48)))) := by
  refine mw_ofI (cc := cX0_cellsOfLevel) (maxL := 4) (by decide) rfl (Nat.le_of_ble_eq_true rfl) ?_
  intro p e s m below meth c R A Q args ls hx hb hml hown hts hRf hRl hRc hRs hN hK hP hD hS hA hret hl
  have hq : ∀ w ∈ ALL, w.before args s = true := fun w h => hts w (List.mem_cons_of_mem _ h)
  have hl : lv_has ls 4 [(0, .ref g), (1, .int (iI v))] := hl
  refine z_iconst hx hb dX0_cellsOfLevel_0 ?_
  refine lv_istore_n (lv' := [(2, .int (iI 0)), (0, .ref g), (1, .int (iI v))]) hx hb dX0_cellsOfLevel_1 rfl hl (by decide) rfl (fun ls hl => ?_)
  refine z_iconst hx hb dX0_cellsOfLevel_2 ?_
  refine lv_istore_n (lv' := [(3, .int (iI 0)), (2, .int (iI 0)), (0, .ref g), (1, .int (iI v))]) hx hb dX0_cellsOfLevel_3 rfl hl (by decide) rfl (fun ls hl => ?_)
  have LP4 : ∀ (fu i : Nat), i ≤ 48 → 48 < fu + i → ∀ (H : Heap) (locs : List Loc) (ls : Array Slot), va_P D vwCl (wG g ad cI G) H → va_D A (wG g ad cI G) → va_S A s.heap H locs → lv_has ls 4 [(3, .int (iI (i : Int))), (2, .int (iI (ofLevelZ G v i))), (0, .ref g), (1, .int (iI v))] → W p l e R s m args below meth c H locs 0 0 Q (F0 m 4 ls []) := by
    intro fu
    induction fu with
    | zero => intro i h1 h2; omega
    | succ fu ih4 =>
      intro i hi1 hif H locs ls hP hD hS hl
      refine lv_iload_n hx hb dX0_cellsOfLevel_4 rfl (lv_at hl 0 rfl) ?_
      refine z_bipush hx hb dX0_cellsOfLevel_5 (by decide +kernel) ?_
      refine z_icmp_ge (tgt := 29) hx hb dX0_cellsOfLevel_7 (by decide) (by omega) (by omega) (fun c_1 => ?_) (fun c_1 => ?_)
      · refine lv_iload_n hx hb dX0_cellsOfLevel_29 rfl (lv_at hl 1 rfl) ?_
        refine z_as (show (ofLevelZ G v i) = ofLevelZ G v 48 from by (have hiN : i = 48 := by omega); rw [hiN]; first | done | rfl) ?_
        first | exact hret _ _ _ _ dX0_cellsOfLevel_30 hP hD hS | (exfalso; omega)
      · refine lv_aload_n hx hb dX0_cellsOfLevel_10 rfl (lv_at hl 2 rfl) ?_
        refine va_get (D := D) (ci := 0) (v := .ref (ad 0)) (C := RX0) (T := TX0) (N := 13) hx hb hq inA0 hown hK hP 0 rfl rfl 0 (by decide) (hq _ q_2) (fun _ h9 => h9) rfl dX0_cellsOfLevel_11 ?_
        refine lv_iload_n hx hb dX0_cellsOfLevel_14 rfl (lv_at hl 0 rfl) ?_
        refine z_iald hx hb hK hP 1 0 rfl rfl (by omega) (by omega) (v := (G 0 (i : Int))) rfl dX0_cellsOfLevel_15 ?_
        have hv_2 := invG_0 hI (i : Int) (by omega) (by omega)
        refine lv_iload_n hx hb dX0_cellsOfLevel_16 rfl (lv_at hl 3 rfl) ?_
        refine z_icmp_ne (tgt := 23) hx hb dX0_cellsOfLevel_17 (by decide) (by omega) (by omega) (fun c_3 => ?_) (fun c_3 => ?_)
        · refine lv_iinc (v := iI ((i : Int) + 1)) (lv' := [(3, .int (iI ((i : Int) + 1))), (2, .int (iI (ofLevelZ G v i))), (0, .ref g), (1, .int (iI v))]) hx hb dX0_cellsOfLevel_23 hl (k := 0) rfl (iI_add _ _) (by decide) rfl (fun ls hl => ?_)
          refine lv_goto (tgt := 4) hx hb dX0_cellsOfLevel_26 (by decide) ?_
          have e1_0 : (((i + 1 : Nat) : Int)) = ((i : Int) + 1) := by first | omega | (simp only [ofLevelZ, sumZ]; omega)
          have e1_1 : ((ofLevelZ G v (i + 1))) = (ofLevelZ G v i) := by first | omega | (simp only [ofLevelZ, sumZ]; omega)
          exact ih4 (i + 1) (by omega) (by omega) _ _ _ hP hD hS (lv_to (lv_sub (l' := [(3, .int (iI ((i : Int) + 1))), (2, .int (iI (ofLevelZ G v i))), (0, .ref g), (1, .int (iI v))]) hl [0, 1, 2, 3] rfl) (by simp only [e1_0, e1_1]))
        · refine lv_iinc (v := iI ((ofLevelZ G v i) + 1)) (lv' := [(2, .int (iI ((ofLevelZ G v i) + 1))), (3, .int (iI (i : Int))), (0, .ref g), (1, .int (iI v))]) hx hb dX0_cellsOfLevel_20 hl (k := 1) rfl (iI_add _ _) (by decide) rfl (fun ls hl => ?_)
          refine lv_iinc (v := iI ((i : Int) + 1)) (lv' := [(3, .int (iI ((i : Int) + 1))), (2, .int (iI ((ofLevelZ G v i) + 1))), (0, .ref g), (1, .int (iI v))]) hx hb dX0_cellsOfLevel_23 hl (k := 1) rfl (iI_add _ _) (by decide) rfl (fun ls hl => ?_)
          refine lv_goto (tgt := 4) hx hb dX0_cellsOfLevel_26 (by decide) ?_
          have e1_0 : (((i + 1 : Nat) : Int)) = ((i : Int) + 1) := by first | omega | (simp only [ofLevelZ, sumZ]; omega)
          have e1_1 : ((ofLevelZ G v (i + 1))) = ((ofLevelZ G v i) + 1) := by first | omega | (simp only [ofLevelZ, sumZ]; omega)
          exact ih4 (i + 1) (by omega) (by omega) _ _ _ hP hD hS (lv_to (lv_sub (l' := [(3, .int (iI ((i : Int) + 1))), (2, .int (iI ((ofLevelZ G v i) + 1))), (0, .ref g), (1, .int (iI v))]) hl [0, 1, 2, 3] rfl) (by simp only [e1_0, e1_1]))
  have e0_0 : (((0 : Nat) : Int)) = 0 := by first | rfl | omega
  have e0_1 : ((ofLevelZ G v (0))) = 0 := by first | rfl | omega
  exact LP4 (48 + 1) 0 (by omega) (by omega) _ _ _ hP hD hS (lv_to (lv_sub (l' := [(3, .int (iI 0)), (2, .int (iI 0)), (0, .ref g), (1, .int (iI v))]) hl [0, 1, 2, 3] rfl) (by simp only [e0_0, e0_1]))
set_option maxHeartbeats 4000000 in
set_option maxRecDepth 100000 in
theorem m_X0_timesToldRight (l : Launch) (D : va_G) (g : Nat) (ad : Nat → Nat) (cI : ClassId) (G : Nat → Int → Int) {B : Int} (hI : InvG B G)  : MW l D yX0_timesToldRight (wsY yX0_timesToldRight cX0_timesToldRight 3 (some .int)) { frames := 0, cells := 0, slots := 0, locals := 0 } [(cI, .int)] [.ref g] (wG g ad cI G) (wG g ad cI G) (some (.int (iI (rightTZ G 3)))) := by
  refine mw_ofI (cc := cX0_timesToldRight) (maxL := 3) (by decide) rfl (Nat.le_of_ble_eq_true rfl) ?_
  intro p e s m below meth c R A Q args ls hx hb hml hown hts hRf hRl hRc hRs hN hK hP hD hS hA hret hl
  have hq : ∀ w ∈ ALL, w.before args s = true := fun w h => hts w (List.mem_cons_of_mem _ h)
  have hl : lv_has ls 3 [(0, .ref g)] := hl
  refine z_iconst hx hb dX0_timesToldRight_0 ?_
  refine lv_istore_n (lv' := [(1, .int (iI 0)), (0, .ref g)]) hx hb dX0_timesToldRight_1 rfl hl (by decide) rfl (fun ls hl => ?_)
  refine z_iconst hx hb dX0_timesToldRight_2 ?_
  refine lv_istore_n (lv' := [(2, .int (iI 0)), (1, .int (iI 0)), (0, .ref g)]) hx hb dX0_timesToldRight_3 rfl hl (by decide) rfl (fun ls hl => ?_)
  have LP4 : ∀ (fu i : Nat), i ≤ 3 → 3 < fu + i → ∀ (H : Heap) (locs : List Loc) (ls : Array Slot), va_P D vwCl (wG g ad cI G) H → va_D A (wG g ad cI G) → va_S A s.heap H locs → lv_has ls 3 [(2, .int (iI (i : Int))), (1, .int (iI (rightTZ G i))), (0, .ref g)] → W p l e R s m args below meth c H locs 0 0 Q (F0 m 4 ls []) := by
    intro fu
    induction fu with
    | zero => intro i h1 h2; omega
    | succ fu ih4 =>
      intro i hi1 hif H locs ls hP hD hS hl
      refine lv_iload_n hx hb dX0_timesToldRight_4 rfl (lv_at hl 0 rfl) ?_
      refine z_iconst hx hb dX0_timesToldRight_5 ?_
      refine z_icmp_ge (tgt := 28) hx hb dX0_timesToldRight_6 (by decide) (by omega) (by omega) (fun c_1 => ?_) (fun c_1 => ?_)
      · refine lv_iload_n hx hb dX0_timesToldRight_28 rfl (lv_at hl 1 rfl) ?_
        refine z_as (show (rightTZ G i) = rightTZ G 3 from by (have hiN : i = 3 := by omega); rw [hiN]; first | done | rfl) ?_
        first | exact hret _ _ _ _ dX0_timesToldRight_29 hP hD hS | (exfalso; omega)
      · refine lv_iload_n hx hb dX0_timesToldRight_9 rfl (lv_at hl 1 rfl) ?_
        refine lv_aload_n hx hb dX0_timesToldRight_10 rfl (lv_at hl 2 rfl) ?_
        refine va_get (D := D) (ci := 0) (v := .ref (ad 10)) (C := RX0) (T := TX0) (N := 13) hx hb hq inA0 hown hK hP 0 rfl rfl 10 (by decide) (hq _ q_21) (fun _ h9 => h9) rfl dX0_timesToldRight_11 ?_
        refine z_iconst hx hb dX0_timesToldRight_14 ?_
        refine lv_iload_n hx hb dX0_timesToldRight_15 rfl (lv_at hl 0 rfl) ?_
        refine z_imul hx hb dX0_timesToldRight_16 ?_
        refine lv_iload_n hx hb dX0_timesToldRight_17 rfl (lv_at hl 0 rfl) ?_
        refine z_iadd hx hb dX0_timesToldRight_18 ?_
        refine z_iald hx hb hK hP 11 0 rfl rfl (by omega) (by omega) (v := (G 10 ((3 * (i : Int)) + (i : Int)))) rfl dX0_timesToldRight_19 ?_
        have hv_2 := invG_10 hI ((3 * (i : Int)) + (i : Int)) (by omega) (by omega)
        refine z_iadd hx hb dX0_timesToldRight_20 ?_
        refine lv_istore_n (lv' := [(1, .int (iI ((rightTZ G i) + (G 10 ((3 * (i : Int)) + (i : Int)))))), (2, .int (iI (i : Int))), (0, .ref g)]) hx hb dX0_timesToldRight_21 rfl hl (by decide) rfl (fun ls hl => ?_)
        refine lv_iinc (v := iI ((i : Int) + 1)) (lv' := [(2, .int (iI ((i : Int) + 1))), (1, .int (iI ((rightTZ G i) + (G 10 ((3 * (i : Int)) + (i : Int)))))), (0, .ref g)]) hx hb dX0_timesToldRight_22 hl (k := 1) rfl (iI_add _ _) (by decide) rfl (fun ls hl => ?_)
        refine lv_goto (tgt := 4) hx hb dX0_timesToldRight_25 (by decide) ?_
        have e1_0 : (((i + 1 : Nat) : Int)) = ((i : Int) + 1) := by first | rfl | omega
        have e1_1 : ((rightTZ G (i + 1))) = ((rightTZ G i) + (G 10 ((3 * (i : Int)) + (i : Int)))) := by first | rfl | omega
        exact ih4 (i + 1) (by omega) (by omega) _ _ _ hP hD hS (lv_to (lv_sub (l' := [(2, .int (iI ((i : Int) + 1))), (1, .int (iI ((rightTZ G i) + (G 10 ((3 * (i : Int)) + (i : Int)))))), (0, .ref g)]) hl [0, 1, 2] rfl) (by simp only [e1_0, e1_1]))
  have e0_0 : (((0 : Nat) : Int)) = 0 := by first | rfl | omega
  have e0_1 : ((rightTZ G (0))) = 0 := by first | rfl | omega
  exact LP4 (3 + 1) 0 (by omega) (by omega) _ _ _ hP hD hS (lv_to (lv_sub (l' := [(2, .int (iI 0)), (1, .int (iI 0)), (0, .ref g)]) hl [0, 1, 2] rfl) (by simp only [e0_0, e0_1]))
set_option maxHeartbeats 4000000 in
set_option maxRecDepth 100000 in
theorem m_X0_distanceFromAims (l : Launch) (D : va_G) (g : Nat) (ad : Nat → Nat) (cI : ClassId) (G : Nat → Int → Int) {B : Int} (hI : InvG B G)  : MW l D yX0_distanceFromAims (wsY yX0_distanceFromAims cX0_distanceFromAims 3 (some .int)) { frames := 1, cells := 0, slots := 0, locals := 21 } [(cI, .int)] [.ref g] (wG g ad cI G) (wG g ad cI G) (some (.int (iI (distZ G 48)))) := by
  refine mw_ofI (cc := cX0_distanceFromAims) (maxL := 3) (by decide) rfl (Nat.le_of_ble_eq_true rfl) ?_
  intro p e s m below meth c R A Q args ls hx hb hml hown hts hRf hRl hRc hRs hN hK hP hD hS hA hret hl
  have hq : ∀ w ∈ ALL, w.before args s = true := fun w h => hts w (List.mem_cons_of_mem _ h)
  have hl : lv_has ls 3 [(0, .ref g)] := hl
  refine z_iconst hx hb dX0_distanceFromAims_0 ?_
  refine lv_istore_n (lv' := [(1, .int (iI 0)), (0, .ref g)]) hx hb dX0_distanceFromAims_1 rfl hl (by decide) rfl (fun ls hl => ?_)
  refine z_iconst hx hb dX0_distanceFromAims_2 ?_
  refine lv_istore_n (lv' := [(2, .int (iI 0)), (1, .int (iI 0)), (0, .ref g)]) hx hb dX0_distanceFromAims_3 rfl hl (by decide) rfl (fun ls hl => ?_)
  have LP4 : ∀ (fu i : Nat), i ≤ 48 → 48 < fu + i → ∀ (H : Heap) (locs : List Loc) (ls : Array Slot), va_P D vwCl (wG g ad cI G) H → va_D A (wG g ad cI G) → va_S A s.heap H locs → lv_has ls 3 [(2, .int (iI (i : Int))), (1, .int (iI (distZ G i))), (0, .ref g)] → W p l e R s m args below meth c H locs 0 0 Q (F0 m 4 ls []) := by
    intro fu
    induction fu with
    | zero => intro i h1 h2; omega
    | succ fu ih4 =>
      intro i hi1 hif H locs ls hP hD hS hl
      refine lv_iload_n hx hb dX0_distanceFromAims_4 rfl (lv_at hl 0 rfl) ?_
      refine z_bipush hx hb dX0_distanceFromAims_5 (by decide +kernel) ?_
      refine z_icmp_ge (tgt := 38) hx hb dX0_distanceFromAims_7 (by decide) (by omega) (by omega) (fun c_1 => ?_) (fun c_1 => ?_)
      · refine lv_iload_n hx hb dX0_distanceFromAims_38 rfl (lv_at hl 1 rfl) ?_
        refine z_as (show (distZ G i) = distZ G 48 from by (have hiN : i = 48 := by omega); rw [hiN]; first | done | rfl) ?_
        first | exact hret _ _ _ _ dX0_distanceFromAims_39 hP hD hS | (exfalso; omega)
      · refine lv_iload_n hx hb dX0_distanceFromAims_10 rfl (lv_at hl 1 rfl) ?_
        refine lv_aload_n hx hb dX0_distanceFromAims_11 rfl (lv_at hl 2 rfl) ?_
        refine va_get (D := D) (ci := 0) (v := .ref (ad 1)) (C := RX0) (T := TX0) (N := 13) hx hb hq inA0 hown hK hP 0 rfl rfl 1 (by decide) (hq _ q_3) (fun _ h9 => h9) rfl dX0_distanceFromAims_12 ?_
        refine lv_iload_n hx hb dX0_distanceFromAims_15 rfl (lv_at hl 0 rfl) ?_
        refine z_iald hx hb hK hP 2 0 rfl rfl (by omega) (by omega) (v := (G 1 (i : Int))) rfl dX0_distanceFromAims_16 ?_
        have hv_2 := invG_1 hI (i : Int) (by omega) (by omega)
        refine lv_aload_n hx hb dX0_distanceFromAims_17 rfl (lv_at hl 2 rfl) ?_
        refine va_get (D := D) (ci := 0) (v := .ref (ad 0)) (C := RX0) (T := TX0) (N := 13) hx hb hq inA0 hown hK hP 0 rfl rfl 0 (by decide) (hq _ q_2) (fun _ h9 => h9) rfl dX0_distanceFromAims_18 ?_
        refine lv_iload_n hx hb dX0_distanceFromAims_21 rfl (lv_at hl 0 rfl) ?_
        refine z_iald hx hb hK hP 1 0 rfl rfl (by omega) (by omega) (v := (G 0 (i : Int))) rfl dX0_distanceFromAims_22 ?_
        have hv_3 := invG_0 hI (i : Int) (by omega) (by omega)
        refine mw_none (st1 := [.int (iI (aimZ (G 0 (i : Int)))), .int (iI (G 1 (i : Int))), .int (iI (distZ G i))]) (mr_S (As := [.int (iI (G 0 (i : Int)))]) (rest := [.int (iI (G 1 (i : Int))), .int (iI (distZ G i))]) ⟨hx, hb, hml, hown, hts⟩ (m_X0_aim l D (G 0 (i : Int)) ) (va_cwS 1 hts (gS q_6 q_7 q_8 q_0) rfl rfl rfl (by decide +kernel) ⟨Nat.le_trans (m := 1) (Nat.le_of_ble_eq_true rfl) (Nat.le_trans (Nat.le_of_ble_eq_true rfl) hRf), Nat.le_trans (m := 20) (Nat.le_of_ble_eq_true rfl) (Nat.le_trans (Nat.le_of_ble_eq_true rfl) hRl)⟩) hN (hK.sub (tys' := []) [] rfl) (va_P0 _ _ _) (va_D0 A) rfl hl.1 (Nat.le_of_ble_eq_true rfl) ⟨hRc, hRs⟩ dX0_distanceFromAims_23) hP hS hA rfl (fun H locs hP hS => ?_)
        have hf_4 : aimZ (G 0 (i : Int)) = 100 + 400 * (G 0 (i : Int)) := rfl
        refine z_isub hx hb dX0_distanceFromAims_26 ?_
        refine z_mabs hx hb (hml.trans hl.1.symm) hown (hq _ q_97) (hq _ q_98) (hq _ q_74) (hq _ q_99) (Nat.le_trans (Nat.le_of_ble_eq_true rfl) hRf) (Nat.le_trans (Nat.le_of_ble_eq_true rfl) hRl) hRc hRs (by omega) (Nat.le_of_ble_eq_true rfl) dX0_distanceFromAims_27 ?_
        refine z_iadd hx hb dX0_distanceFromAims_30 ?_
        refine lv_istore_n (lv' := [(1, .int (iI ((distZ G i) + (if 0 ≤ ((G 1 (i : Int)) - aimZ (G 0 (i : Int))) then ((G 1 (i : Int)) - aimZ (G 0 (i : Int))) else 0 - ((G 1 (i : Int)) - aimZ (G 0 (i : Int))))))), (2, .int (iI (i : Int))), (0, .ref g)]) hx hb dX0_distanceFromAims_31 rfl hl (by decide) rfl (fun ls hl => ?_)
        refine lv_iinc (v := iI ((i : Int) + 1)) (lv' := [(2, .int (iI ((i : Int) + 1))), (1, .int (iI ((distZ G i) + (if 0 ≤ ((G 1 (i : Int)) - aimZ (G 0 (i : Int))) then ((G 1 (i : Int)) - aimZ (G 0 (i : Int))) else 0 - ((G 1 (i : Int)) - aimZ (G 0 (i : Int))))))), (0, .ref g)]) hx hb dX0_distanceFromAims_32 hl (k := 1) rfl (iI_add _ _) (by decide) rfl (fun ls hl => ?_)
        refine lv_goto (tgt := 4) hx hb dX0_distanceFromAims_35 (by decide) ?_
        have e1_0 : (((i + 1 : Nat) : Int)) = ((i : Int) + 1) := by first | rfl | omega
        have e1_1 : ((distZ G (i + 1))) = ((distZ G i) + (if 0 ≤ ((G 1 (i : Int)) - aimZ (G 0 (i : Int))) then ((G 1 (i : Int)) - aimZ (G 0 (i : Int))) else 0 - ((G 1 (i : Int)) - aimZ (G 0 (i : Int))))) := by first | rfl | omega
        exact ih4 (i + 1) (by omega) (by omega) _ _ _ hP hD hS (lv_to (lv_sub (l' := [(2, .int (iI ((i : Int) + 1))), (1, .int (iI ((distZ G i) + (if 0 ≤ ((G 1 (i : Int)) - aimZ (G 0 (i : Int))) then ((G 1 (i : Int)) - aimZ (G 0 (i : Int))) else 0 - ((G 1 (i : Int)) - aimZ (G 0 (i : Int))))))), (0, .ref g)]) hl [0, 1, 2] rfl) (by simp only [e1_0, e1_1]))
  have e0_0 : (((0 : Nat) : Int)) = 0 := by first | rfl | omega
  have e0_1 : ((distZ G (0))) = 0 := by first | rfl | omega
  exact LP4 (48 + 1) 0 (by omega) (by omega) _ _ _ hP hD hS (lv_to (lv_sub (l' := [(2, .int (iI 0)), (1, .int (iI 0)), (0, .ref g)]) hl [0, 1, 2] rfl) (by simp only [e0_0, e0_1]))
set_option maxHeartbeats 4000000 in
set_option maxRecDepth 100000 in
theorem m_X0_worstBut (l : Launch) (D : va_G) (g : Nat) (ad : Nat → Nat) (cI : ClassId) (G : Nat → Int → Int) (tk : Int) {B : Int} (hI : InvG B G) (h1 : 0 ≤ tk ∧ tk < 64)  : MW l D yX0_worstBut (wsY yX0_worstBut cX0_worstBut 6 (some .int)) { frames := 3, cells := 0, slots := 0, locals := 69 } [(cI, .int)] [.ref g, .int (iI tk)] (wG g ad cI G) (wG g ad cI G) (some (.int (iI ((wbZ G tk 6).1)))) := by
  refine mw_ofI (cc := cX0_worstBut) (maxL := 6) (by decide) rfl (Nat.le_of_ble_eq_true rfl) ?_
  intro p e s m below meth c R A Q args ls hx hb hml hown hts hRf hRl hRc hRs hN hK hP hD hS hA hret hl
  have hq : ∀ w ∈ ALL, w.before args s = true := fun w h => hts w (List.mem_cons_of_mem _ h)
  have hl : lv_has ls 6 [(0, .ref g), (1, .int (iI tk))] := hl
  refine z_iconst hx hb dX0_worstBut_0 ?_
  refine lv_istore_n (lv' := [(2, .int (iI 0)), (0, .ref g), (1, .int (iI tk))]) hx hb dX0_worstBut_1 rfl hl (by decide) rfl (fun ls hl => ?_)
  refine z_iconst hx hb dX0_worstBut_2 ?_
  refine lv_istore_n (lv' := [(3, .int (iI (-1))), (2, .int (iI 0)), (0, .ref g), (1, .int (iI tk))]) hx hb dX0_worstBut_3 rfl hl (by decide) rfl (fun ls hl => ?_)
  refine z_iconst hx hb dX0_worstBut_4 ?_
  refine lv_istore (lv' := [(4, .int (iI 0)), (3, .int (iI (-1))), (2, .int (iI 0)), (0, .ref g), (1, .int (iI tk))]) hx hb dX0_worstBut_5 hl (by decide) rfl (fun ls hl => ?_)
  have LP7 : ∀ (fu i : Nat), i ≤ 6 → 6 < fu + i → ∀ (H : Heap) (locs : List Loc) (ls : Array Slot), va_P D vwCl (wG g ad cI G) H → va_D A (wG g ad cI G) → va_S A s.heap H locs → lv_has ls 6 [(4, .int (iI (i : Int))), (3, .int (iI ((wbZ G tk i).2))), (2, .int (iI ((wbZ G tk i).1))), (0, .ref g), (1, .int (iI tk))] → W p l e R s m args below meth c H locs 0 0 Q (F0 m 7 ls []) := by
    intro fu
    induction fu with
    | zero => intro i h1 h2; omega
    | succ fu ih7 =>
      intro i hi1 hif H locs ls hP hD hS hl
      have hwb := wb_bd G tk i (by omega)
      have hbt := bitZ_01 tk i
      refine lv_iload hx hb dX0_worstBut_7 (lv_at hl 0 rfl) ?_
      refine z_bipush hx hb dX0_worstBut_9 (by decide +kernel) ?_
      refine z_icmp_ge (tgt := 61) hx hb dX0_worstBut_11 (by decide) (by omega) (by omega) (fun c_1 => ?_) (fun c_1 => ?_)
      · refine lv_iload_n hx hb dX0_worstBut_61 rfl (lv_at hl 2 rfl) ?_
        refine z_as (show (wbZ G tk i).1 = (wbZ G tk 6).1 from by (have hiN : i = 6 := by omega); rw [hiN]; first | done | rfl) ?_
        first | exact hret _ _ _ _ dX0_worstBut_62 hP hD hS | (exfalso; omega)
      · refine lv_iload_n hx hb dX0_worstBut_14 rfl (lv_at hl 4 rfl) ?_
        refine lv_iload hx hb dX0_worstBut_15 (lv_at hl 0 rfl) ?_
        refine lv_ishr hx hb dX0_worstBut_17 ?_
        refine z_iconst hx hb dX0_worstBut_18 ?_
        refine lv_iand hx hb dX0_worstBut_19 ?_
        refine z_asB (b := (bitZ tk i)) (bit_at i (by omega) (by omega)) ?_
        refine z_if_eq (tgt := 27) hx hb dX0_worstBut_20 (by decide) (by omega) (fun c_2 => ?_) (fun c_2 => ?_)
        · refine z_iconst hx hb dX0_worstBut_27 ?_
          refine lv_istore (lv' := [(5, .int (iI 0)), (4, .int (iI (i : Int))), (3, .int (iI ((wbZ G tk i).2))), (2, .int (iI ((wbZ G tk i).1))), (0, .ref g), (1, .int (iI tk))]) hx hb dX0_worstBut_28 hl (by decide) rfl (fun ls hl => ?_)
          refine lv_iload hx hb dX0_worstBut_30 (lv_at hl 0 rfl) ?_
          refine z_if_ne (tgt := 55) hx hb dX0_worstBut_32 (by decide) (by omega) (fun c_3 => absurd c_3 (by omega)) (fun c_3 => ?_)
          refine lv_aload_n hx hb dX0_worstBut_35 rfl (lv_at hl 4 rfl) ?_
          refine lv_iload hx hb dX0_worstBut_36 (lv_at hl 1 rfl) ?_
          refine mw_full (st1 := [.int (iI (wrongZ G (i : Int)))]) (mr_V (As := [.int (iI (i : Int))]) (rest := []) (ci := 0) (q0 := 0) ⟨hx, hb, hml, hown, hts⟩ (m_X0_wrongCells l D g ad cI G (i : Int) hI (by omega)) (cwV 1 hts (gV q_115 q_116 q_117 q_8 q_110) rfl rfl rfl (by decide +kernel) ⟨Nat.le_trans (m := 3) (Nat.le_of_ble_eq_true rfl) (Nat.le_trans (Nat.le_of_ble_eq_true rfl) hRf), Nat.le_trans (m := 69) (Nat.le_of_ble_eq_true rfl) (Nat.le_trans (Nat.le_of_ble_eq_true rfl) hRl)⟩) hN hK hP hD rfl rfl rfl hl.1 (Nat.le_of_ble_eq_true rfl) ⟨hRc, hRs⟩ dX0_worstBut_38) hD hS hA rfl (fun H locs hP hD hS => ?_)
          have hf_4 := wrongZ_bd G (i : Int)
          refine lv_iload_n hx hb dX0_worstBut_41 rfl (lv_at hl 2 rfl) ?_
          refine z_icmp_le (tgt := 55) hx hb dX0_worstBut_42 (by decide) (by omega) (by omega) (fun c_5 => ?_) (fun c_5 => ?_)
          · refine lv_iinc (v := iI ((i : Int) + 1)) (lv' := [(4, .int (iI ((i : Int) + 1))), (5, .int (iI 0)), (3, .int (iI ((wbZ G tk i).2))), (2, .int (iI ((wbZ G tk i).1))), (0, .ref g), (1, .int (iI tk))]) hx hb dX0_worstBut_55 hl (k := 1) rfl (iI_add _ _) (by decide) rfl (fun ls hl => ?_)
            refine lv_goto (tgt := 7) hx hb dX0_worstBut_58 (by decide) ?_
            have e1_0 : (((i + 1 : Nat) : Int)) = ((i : Int) + 1) := by first | omega | (simp only [wbZ]; split <;> first | (exfalso; omega) | rfl)
            have e1_1 : ((wbZ G tk (i + 1)).2) = (wbZ G tk i).2 := by first | omega | (simp only [wbZ]; split <;> first | (exfalso; omega) | rfl)
            have e1_2 : ((wbZ G tk (i + 1)).1) = (wbZ G tk i).1 := by first | omega | (simp only [wbZ]; split <;> first | (exfalso; omega) | rfl)
            exact ih7 (i + 1) (by omega) (by omega) _ _ _ hP hD hS (lv_to (lv_sub (l' := [(4, .int (iI ((i : Int) + 1))), (3, .int (iI ((wbZ G tk i).2))), (2, .int (iI ((wbZ G tk i).1))), (0, .ref g), (1, .int (iI tk))]) hl [0, 2, 3, 4, 5] rfl) (by simp only [e1_0, e1_1, e1_2]))
          · refine lv_iload hx hb dX0_worstBut_45 (lv_at hl 1 rfl) ?_
            refine lv_istore_n (lv' := [(2, .int (iI (i : Int))), (5, .int (iI 0)), (4, .int (iI (i : Int))), (3, .int (iI ((wbZ G tk i).2))), (0, .ref g), (1, .int (iI tk))]) hx hb dX0_worstBut_47 rfl hl (by decide) rfl (fun ls hl => ?_)
            refine lv_aload_n hx hb dX0_worstBut_48 rfl (lv_at hl 4 rfl) ?_
            refine lv_iload hx hb dX0_worstBut_49 (lv_at hl 2 rfl) ?_
            refine mw_full (st1 := [.int (iI (wrongZ G (i : Int)))]) (mr_V (As := [.int (iI (i : Int))]) (rest := []) (ci := 0) (q0 := 0) ⟨hx, hb, hml, hown, hts⟩ (m_X0_wrongCells l D g ad cI G (i : Int) hI (by omega)) (cwV 1 hts (gV q_115 q_116 q_117 q_8 q_110) rfl rfl rfl (by decide +kernel) ⟨Nat.le_trans (m := 3) (Nat.le_of_ble_eq_true rfl) (Nat.le_trans (Nat.le_of_ble_eq_true rfl) hRf), Nat.le_trans (m := 69) (Nat.le_of_ble_eq_true rfl) (Nat.le_trans (Nat.le_of_ble_eq_true rfl) hRl)⟩) hN hK hP hD rfl rfl rfl hl.1 (Nat.le_of_ble_eq_true rfl) ⟨hRc, hRs⟩ dX0_worstBut_51) hD hS hA rfl (fun H locs hP hD hS => ?_)
            have hf_6 := wrongZ_bd G (i : Int)
            refine lv_istore_n (lv' := [(3, .int (iI (wrongZ G (i : Int)))), (2, .int (iI (i : Int))), (5, .int (iI 0)), (4, .int (iI (i : Int))), (0, .ref g), (1, .int (iI tk))]) hx hb dX0_worstBut_54 rfl hl (by decide) rfl (fun ls hl => ?_)
            refine lv_iinc (v := iI ((i : Int) + 1)) (lv' := [(4, .int (iI ((i : Int) + 1))), (3, .int (iI (wrongZ G (i : Int)))), (2, .int (iI (i : Int))), (5, .int (iI 0)), (0, .ref g), (1, .int (iI tk))]) hx hb dX0_worstBut_55 hl (k := 3) rfl (iI_add _ _) (by decide) rfl (fun ls hl => ?_)
            refine lv_goto (tgt := 7) hx hb dX0_worstBut_58 (by decide) ?_
            have e1_0 : (((i + 1 : Nat) : Int)) = ((i : Int) + 1) := by first | omega | (simp only [wbZ]; split <;> first | (exfalso; omega) | rfl)
            have e1_1 : ((wbZ G tk (i + 1)).2) = wrongZ G (i : Int) := by first | omega | (simp only [wbZ]; split <;> first | (exfalso; omega) | rfl)
            have e1_2 : ((wbZ G tk (i + 1)).1) = (i : Int) := by first | omega | (simp only [wbZ]; split <;> first | (exfalso; omega) | rfl)
            exact ih7 (i + 1) (by omega) (by omega) _ _ _ hP hD hS (lv_to (lv_sub (l' := [(4, .int (iI ((i : Int) + 1))), (3, .int (iI (wrongZ G (i : Int)))), (2, .int (iI (i : Int))), (0, .ref g), (1, .int (iI tk))]) hl [0, 1, 2, 4, 5] rfl) (by simp only [e1_0, e1_1, e1_2]))
        · refine z_iconst hx hb dX0_worstBut_23 ?_
          refine lv_goto (tgt := 28) hx hb dX0_worstBut_24 (by decide) ?_
          refine lv_istore (lv' := [(5, .int (iI 1)), (4, .int (iI (i : Int))), (3, .int (iI ((wbZ G tk i).2))), (2, .int (iI ((wbZ G tk i).1))), (0, .ref g), (1, .int (iI tk))]) hx hb dX0_worstBut_28 hl (by decide) rfl (fun ls hl => ?_)
          refine lv_iload hx hb dX0_worstBut_30 (lv_at hl 0 rfl) ?_
          refine z_if_ne (tgt := 55) hx hb dX0_worstBut_32 (by decide) (by omega) (fun c_7 => ?_) (fun c_7 => absurd c_7 (by omega))
          refine lv_iinc (v := iI ((i : Int) + 1)) (lv' := [(4, .int (iI ((i : Int) + 1))), (5, .int (iI 1)), (3, .int (iI ((wbZ G tk i).2))), (2, .int (iI ((wbZ G tk i).1))), (0, .ref g), (1, .int (iI tk))]) hx hb dX0_worstBut_55 hl (k := 1) rfl (iI_add _ _) (by decide) rfl (fun ls hl => ?_)
          refine lv_goto (tgt := 7) hx hb dX0_worstBut_58 (by decide) ?_
          have e1_0 : (((i + 1 : Nat) : Int)) = ((i : Int) + 1) := by first | omega | (simp only [wbZ]; split <;> first | (exfalso; omega) | rfl)
          have e1_1 : ((wbZ G tk (i + 1)).2) = (wbZ G tk i).2 := by first | omega | (simp only [wbZ]; split <;> first | (exfalso; omega) | rfl)
          have e1_2 : ((wbZ G tk (i + 1)).1) = (wbZ G tk i).1 := by first | omega | (simp only [wbZ]; split <;> first | (exfalso; omega) | rfl)
          exact ih7 (i + 1) (by omega) (by omega) _ _ _ hP hD hS (lv_to (lv_sub (l' := [(4, .int (iI ((i : Int) + 1))), (3, .int (iI ((wbZ G tk i).2))), (2, .int (iI ((wbZ G tk i).1))), (0, .ref g), (1, .int (iI tk))]) hl [0, 2, 3, 4, 5] rfl) (by simp only [e1_0, e1_1, e1_2]))
  have e0_0 : (((0 : Nat) : Int)) = 0 := by first | rfl | omega
  have e0_1 : ((wbZ G tk (0)).2) = (-1) := by first | rfl | omega
  have e0_2 : ((wbZ G tk (0)).1) = 0 := by first | rfl | omega
  exact LP7 (6 + 1) 0 (by omega) (by omega) _ _ _ hP hD hS (lv_to (lv_sub (l' := [(4, .int (iI 0)), (3, .int (iI (-1))), (2, .int (iI 0)), (0, .ref g), (1, .int (iI tk))]) hl [0, 1, 2, 3, 4] rfl) (by simp only [e0_0, e0_1, e0_2]))
