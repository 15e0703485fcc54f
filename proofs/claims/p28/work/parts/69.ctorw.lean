/-! inside the constructors: what holds of a grid before its settings and rates are laid -/
def InvW (B : Int) (G : Nat → Int → Int) : Prop := (0 ≤ B ∧ B ≤ 100000000) ∧ (∀ p : Int, 0 ≤ p → p < 48 → 0 ≤ G 2 p ∧ G 2 p ≤ B) ∧ (∀ p : Int, 0 ≤ p → p < 18 → 0 ≤ G 4 p ∧ G 4 p ≤ 999) ∧ (∀ p : Int, 0 ≤ p → p < 18 → 0 ≤ G 5 p ∧ G 5 p ≤ 1) ∧ (0 ≤ G 12 0 ∧ G 12 0 ≤ 10000000)
theorem invW_B {B : Int} {G : Nat → Int → Int} (h : InvW B G) : 0 ≤ B ∧ B ≤ 100000000 := h.1
theorem invW_2 {B : Int} {G : Nat → Int → Int} (h : InvW B G) (p : Int) (h0 : 0 ≤ p) (h1 : p < 48) : 0 ≤ G 2 p ∧ G 2 p ≤ B := h.2.1 p h0 h1
theorem invW_4 {B : Int} {G : Nat → Int → Int} (h : InvW B G) (p : Int) (h0 : 0 ≤ p) (h1 : p < 18) : 0 ≤ G 4 p ∧ G 4 p ≤ 999 := h.2.2.1 p h0 h1
theorem invW_5 {B : Int} {G : Nat → Int → Int} (h : InvW B G) (p : Int) (h0 : 0 ≤ p) (h1 : p < 18) : 0 ≤ G 5 p ∧ G 5 p ≤ 1 := h.2.2.2.1 p h0 h1
theorem invW_up4 {B : Int} {G : Nat → Int → Int} (h : InvW B G) (z : Int) {v : Int} (hv : 0 ≤ v ∧ v ≤ 999) : InvW B (upG G 4 z v) := ⟨h.1, h.2.1, (fun p h0 h1 => invU (fun x => 0 ≤ x ∧ x ≤ 999) hv (invW_4 h p h0 h1)), h.2.2.2.1, h.2.2.2.2⟩
theorem invW_upk {B : Int} {G : Nat → Int → Int} (h : InvW B G) (k : Nat) (z v : Int) (h2 : 2 ≠ k) (h4 : 4 ≠ k) (h5 : 5 ≠ k) (h12 : 12 ≠ k) : InvW B (upG G k z v) := by
  have e : ∀ j, j ≠ k → upG G k z v j = G j := fun j hj => if_neg hj
  unfold InvW
  rw [e 2 h2, e 4 h4, e 5 h5, e 12 h12]
  exact h
theorem invW_put {B : Int} {G : Nat → Int → Int} (h : InvW B G) (hB : B + 1 ≤ 100000000) (p v : Int) (hp : 0 ≤ p ∧ p < 48) : InvW (B + 1) (putZ G p v) := by
  have hb := h.1
  have h2 := invW_2 h p hp.1 hp.2
  have e : ∀ j, 4 ≤ j → putZ G p v j = G j := fun j hj => put_k j hj
  refine ⟨by omega, fun q h0 h1 => ?_, ?_, ?_, ?_⟩
  · have h3 := invW_2 h q h0 h1
    by_cases c : q = p
    · subst c; rw [put_2]; omega
    · rw [put_ne 2 c]; omega
  · rw [e 4 (by omega)]; exact h.2.2.1
  · rw [e 5 (by omega)]; exact h.2.2.2.1
  · rw [e 12 (by omega)]; exact h.2.2.2.2
theorem guards_invW {B : Int} {G : Nat → Int → Int} (h : InvW B G) (r : Int) : ∀ n : Nat, n ≤ 3 → InvW B (guardsZ G r n) := by
  intro n
  induction n with
  | zero => intro _; exact h
  | succ n ih =>
    intro hn
    show InvW B (if guardsZ G r n 5 (3 * r + n) = 0 then upG (guardsZ G r n) 4 (3 * r + n) (aimZ n) else guardsZ G r n)
    by_cases c : guardsZ G r n 5 (3 * r + n) = 0
    · rw [if_pos c]; exact invW_up4 (ih (by omega)) _ (by unfold aimZ; omega)
    · rw [if_neg c]; exact ih (by omega)
theorem writeGuards_invW {B : Int} {G : Nat → Int → Int} (h : InvW B G) (r : Int) : InvW B (writeGuardsZ G r) := invW_upk (guards_invW h r 3 (Nat.le_refl _)) 7 _ _ (by decide) (by decide) (by decide) (by decide)
set_option maxHeartbeats 4000000 in
set_option maxRecDepth 100000 in
theorem m_X0_put_w (l : Launch) (D : va_G) (g : Nat) (ad : Nat → Nat) (cI : ClassId) (G : Nat → Int → Int) (pl v : Int) {B : Int} (hI : InvW B G) (h1 : 0 ≤ pl ∧ pl < 48)  : MW l D yX0_put (wsY yX0_put cX0_put 4 none) { frames := 1, cells := 0, slots := 0, locals := 20 } [(cI, .int)] [.ref g, .int (iI pl), .int (iI v)] (wG g ad cI G) (wG g ad cI (putZ G pl v)) none := by
  refine mw_ofV (cc := cX0_put) (maxL := 4) (by decide) rfl (Nat.le_of_ble_eq_true rfl) ?_
  intro p e s m below meth c R A Q args ls hx hb hml hown hts hRf hRl hRc hRs hN hK hP hD hS hA hret hl
  have hq : ∀ w ∈ ALL, w.before args s = true := fun w h => hts w (List.mem_cons_of_mem _ h)
  have hl : lv_has ls 4 [(0, .ref g), (1, .int (iI pl)), (2, .int (iI v))] := hl
  have hBb := invW_B hI
  refine z_bipush hx hb dX0_put_0 (by decide +kernel) ?_
  refine lv_iload_n hx hb dX0_put_2 rfl (lv_at hl 1 rfl) ?_
  refine z_imul hx hb dX0_put_3 ?_
  refine z_bipush hx hb dX0_put_4 (by decide +kernel) ?_
  refine lv_aload_n hx hb dX0_put_6 rfl (lv_at hl 0 rfl) ?_
  refine va_get (D := D) (ci := 0) (v := .ref (ad 2)) (C := RX0) (T := TX0) (N := 13) hx hb hq inA0 hown hK hP 0 rfl rfl 2 (by decide) (hq _ q_1) (fun _ h9 => h9) rfl dX0_put_7 ?_
  refine lv_iload_n hx hb dX0_put_10 rfl (lv_at hl 1 rfl) ?_
  refine z_iald hx hb hK hP 3 0 rfl rfl (by omega) (by omega) (v := (G 2 pl)) rfl dX0_put_11 ?_
  have hv_1 := invW_2 hI pl (by omega) (by omega)
  refine z_imul hx hb dX0_put_12 ?_
  refine z_iadd hx hb dX0_put_13 ?_
  refine z_bipush hx hb dX0_put_14 (by decide +kernel) ?_
  refine z_irem hx hb dX0_put_16 (by omega) (by omega) ?_
  refine z_bipush hx hb dX0_put_17 (by decide +kernel) ?_
  refine z_isub hx hb dX0_put_19 ?_
  refine lv_istore_n (lv' := [(3, .int (iI ((((37 * pl) + (11 * (G 2 pl))) % 21) - 10))), (0, .ref g), (1, .int (iI pl)), (2, .int (iI v))]) hx hb dX0_put_20 rfl hl (by decide) rfl (fun ls hl => ?_)
  refine lv_aload_n hx hb dX0_put_21 rfl (lv_at hl 1 rfl) ?_
  refine va_get (D := D) (ci := 0) (v := .ref (ad 0)) (C := RX0) (T := TX0) (N := 13) hx hb hq inA0 hown hK hP 0 rfl rfl 0 (by decide) (hq _ q_2) (fun _ h9 => h9) rfl dX0_put_22 ?_
  refine lv_iload_n hx hb dX0_put_25 rfl (lv_at hl 2 rfl) ?_
  refine lv_iload_n hx hb dX0_put_26 rfl (lv_at hl 3 rfl) ?_
  refine z_iast (w1 := (wG g ad cI (upG G 0 pl v))) hx hb hK hP hD hS 1 0 rfl rfl (by omega) (by omega) (wG_set0 _ _ _ _ _ _) dX0_put_27 (fun H locs hP hD hS => ?_)
  refine lv_aload_n hx hb dX0_put_28 rfl (lv_at hl 1 rfl) ?_
  refine va_get (D := D) (ci := 0) (v := .ref (ad 1)) (C := RX0) (T := TX0) (N := 13) hx hb hq inA0 hown hK hP 0 rfl rfl 1 (by decide) (hq _ q_3) (fun _ h9 => h9) rfl dX0_put_29 ?_
  refine lv_iload_n hx hb dX0_put_32 rfl (lv_at hl 2 rfl) ?_
  refine lv_iload_n hx hb dX0_put_33 rfl (lv_at hl 3 rfl) ?_
  refine mw_none (st1 := [.int (iI (aimZ v)), .int (iI pl), .ref (ad 1)]) (mr_S (As := [.int (iI v)]) (rest := [.int (iI pl), .ref (ad 1)]) ⟨hx, hb, hml, hown, hts⟩ (m_X0_aim l D v ) (va_cwS 1 hts (gS q_6 q_7 q_8 q_0) rfl rfl rfl (by decide +kernel) ⟨Nat.le_trans (m := 1) (Nat.le_of_ble_eq_true rfl) (Nat.le_trans (Nat.le_of_ble_eq_true rfl) hRf), Nat.le_trans (m := 20) (Nat.le_of_ble_eq_true rfl) (Nat.le_trans (Nat.le_of_ble_eq_true rfl) hRl)⟩) hN (hK.sub (tys' := []) [] rfl) (va_P0 _ _ _) (va_D0 A) rfl hl.1 (Nat.le_of_ble_eq_true rfl) ⟨hRc, hRs⟩ dX0_put_34) hP hS hA rfl (fun H locs hP hS => ?_)
  have hf_2 : aimZ v = 100 + 400 * v := rfl
  refine lv_iload_n hx hb dX0_put_37 rfl (lv_at hl 0 rfl) ?_
  refine z_iadd hx hb dX0_put_38 ?_
  refine z_iast (w1 := (wG g ad cI (upG (upG G 0 pl v) 1 pl (aimZ v + ((((37 * pl) + (11 * (G 2 pl))) % 21) - 10))))) hx hb hK hP hD hS 2 0 rfl rfl (by omega) (by omega) (wG_set1 _ _ _ _ _ _) dX0_put_39 (fun H locs hP hD hS => ?_)
  refine lv_aload_n hx hb dX0_put_40 rfl (lv_at hl 1 rfl) ?_
  refine va_get (D := D) (ci := 0) (v := .ref (ad 2)) (C := RX0) (T := TX0) (N := 13) hx hb hq inA0 hown hK hP 0 rfl rfl 2 (by decide) (hq _ q_1) (fun _ h9 => h9) rfl dX0_put_41 ?_
  refine lv_iload_n hx hb dX0_put_44 rfl (lv_at hl 2 rfl) ?_
  refine lv_dup2_11 hx hb dX0_put_45 rfl rfl ?_
  refine z_iald hx hb hK hP 3 0 rfl rfl (by omega) (by omega) (v := (G 2 pl)) rfl dX0_put_46 ?_
  have hv_3 := invW_2 hI pl (by omega) (by omega)
  refine z_iconst hx hb dX0_put_47 ?_
  refine z_iadd hx hb dX0_put_48 ?_
  refine z_iast (w1 := (wG g ad cI (upG (upG (upG G 0 pl v) 1 pl (aimZ v + ((((37 * pl) + (11 * (G 2 pl))) % 21) - 10))) 2 pl ((G 2 pl) + 1)))) hx hb hK hP hD hS 3 0 rfl rfl (by omega) (by omega) (wG_set2 _ _ _ _ _ _) dX0_put_49 (fun H locs hP hD hS => ?_)
  refine lv_aload_n hx hb dX0_put_50 rfl (lv_at hl 1 rfl) ?_
  refine va_get (D := D) (ci := 0) (v := .ref (ad 3)) (C := RX0) (T := TX0) (N := 13) hx hb hq inA0 hown hK hP 0 rfl rfl 3 (by decide) (hq _ q_4) (fun _ h9 => h9) rfl dX0_put_51 ?_
  refine lv_iload_n hx hb dX0_put_54 rfl (lv_at hl 2 rfl) ?_
  refine lv_aload_n hx hb dX0_put_55 rfl (lv_at hl 1 rfl) ?_
  refine va_get (D := D) (ci := 0) (v := .int (iI (G 12 0))) (C := RX0) (T := TX0) (N := 13) hx hb hq inA0 hown hK hP 0 rfl rfl 12 (by decide) (hq _ q_5) (fun _ h9 => h9) rfl dX0_put_56 ?_
  refine z_iast (w1 := (wG g ad cI (upG (upG (upG (upG G 0 pl v) 1 pl (aimZ v + ((((37 * pl) + (11 * (G 2 pl))) % 21) - 10))) 2 pl ((G 2 pl) + 1)) 3 pl (G 12 0)))) hx hb hK hP hD hS 4 0 rfl rfl (by omega) (by omega) (wG_set3 _ _ _ _ _ _) dX0_put_59 (fun H locs hP hD hS => ?_)
  first | exact hret _ _ _ _ dX0_put_60 hP hD hS | (exfalso; omega)
set_option maxHeartbeats 4000000 in
set_option maxRecDepth 100000 in
theorem m_X0_writeGuards_w (l : Launch) (D : va_G) (g : Nat) (ad : Nat → Nat) (cI : ClassId) (G : Nat → Int → Int) (r : Int) {B : Int} (hI : InvW B G) (h1 : 0 ≤ r ∧ r < 6)  : MW l D yX0_writeGuards (wsY yX0_writeGuards cX0_writeGuards 4 none) { frames := 1, cells := 0, slots := 0, locals := 20 } [(cI, .int)] [.ref g, .int (iI r)] (wG g ad cI G) (wG g ad cI (writeGuardsZ G r)) none := by
  refine mw_ofV (cc := cX0_writeGuards) (maxL := 4) (by decide) rfl (Nat.le_of_ble_eq_true rfl) ?_
  intro p e s m below meth c R A Q args ls hx hb hml hown hts hRf hRl hRc hRs hN hK hP hD hS hA hret hl
  have hq : ∀ w ∈ ALL, w.before args s = true := fun w h => hts w (List.mem_cons_of_mem _ h)
  have hl : lv_has ls 4 [(0, .ref g), (1, .int (iI r))] := hl
  refine z_iconst hx hb dX0_writeGuards_0 ?_
  refine lv_istore_n (lv' := [(2, .int (iI 0)), (0, .ref g), (1, .int (iI r))]) hx hb dX0_writeGuards_1 rfl hl (by decide) rfl (fun ls hl => ?_)
  have LP2 : ∀ (fu i : Nat), i ≤ 3 → 3 < fu + i → ∀ (H : Heap) (locs : List Loc) (ls : Array Slot), va_P D vwCl (wG g ad cI (guardsZ G r i)) H → va_D A (wG g ad cI (guardsZ G r i)) → va_S A s.heap H locs → lv_has ls 4 [(2, .int (iI (i : Int))), (0, .ref g), (1, .int (iI r))] → W p l e R s m args below meth c H locs 0 0 Q (F0 m 2 ls []) := by
    intro fu
    induction fu with
    | zero => intro i h1 h2; omega
    | succ fu ih2 =>
      intro i hi1 hif H locs ls hP hD hS hl
      have hIi := guards_invW hI r i (by omega)
      refine lv_iload_n hx hb dX0_writeGuards_2 rfl (lv_at hl 0 rfl) ?_
      refine z_iconst hx hb dX0_writeGuards_3 ?_
      refine z_icmp_ge (tgt := 38) hx hb dX0_writeGuards_4 (by decide) (by omega) (by omega) (fun c_1 => ?_) (fun c_1 => ?_)
      · have hiN : i = 3 := by omega
        refine lv_aload_n hx hb dX0_writeGuards_38 rfl (lv_at hl 1 rfl) ?_
        refine va_get (D := D) (ci := 0) (v := .ref (ad 7)) (C := RX0) (T := TX0) (N := 13) hx hb hq inA0 hown hK hP 0 rfl rfl 7 (by decide) (hq _ q_12) (fun _ h9 => h9) rfl dX0_writeGuards_39 ?_
        refine lv_iload_n hx hb dX0_writeGuards_42 rfl (lv_at hl 2 rfl) ?_
        refine lv_aload_n hx hb dX0_writeGuards_43 rfl (lv_at hl 1 rfl) ?_
        refine va_get (D := D) (ci := 0) (v := .int (iI ((guardsZ G r i) 12 0))) (C := RX0) (T := TX0) (N := 13) hx hb hq inA0 hown hK hP 0 rfl rfl 12 (by decide) (hq _ q_5) (fun _ h9 => h9) rfl dX0_writeGuards_44 ?_
        refine z_iast (w1 := (wG g ad cI (upG (guardsZ G r i) 7 r ((guardsZ G r i) 12 0)))) hx hb hK hP hD hS 8 0 rfl rfl (by omega) (by omega) (wG_set7 _ _ _ _ _ _) dX0_writeGuards_47 (fun H locs hP hD hS => ?_)
        have eW0 : writeGuardsZ G r = (upG (guardsZ G r i) 7 r ((guardsZ G r i) 12 0)) := by rw [hiN]; rfl
        rw [← eW0] at hP hD
        first | exact hret _ _ _ _ dX0_writeGuards_48 hP hD hS | (exfalso; omega)
      · refine z_iconst hx hb dX0_writeGuards_7 ?_
        refine lv_iload_n hx hb dX0_writeGuards_8 rfl (lv_at hl 2 rfl) ?_
        refine z_imul hx hb dX0_writeGuards_9 ?_
        refine lv_iload_n hx hb dX0_writeGuards_10 rfl (lv_at hl 0 rfl) ?_
        refine z_iadd hx hb dX0_writeGuards_11 ?_
        refine lv_istore_n (lv' := [(3, .int (iI ((3 * r) + (i : Int)))), (2, .int (iI (i : Int))), (0, .ref g), (1, .int (iI r))]) hx hb dX0_writeGuards_12 rfl hl (by decide) rfl (fun ls hl => ?_)
        refine lv_aload_n hx hb dX0_writeGuards_13 rfl (lv_at hl 2 rfl) ?_
        refine va_get (D := D) (ci := 0) (v := .ref (ad 5)) (C := RX0) (T := TX0) (N := 13) hx hb hq inA0 hown hK hP 0 rfl rfl 5 (by decide) (hq _ q_10) (fun _ h9 => h9) rfl dX0_writeGuards_14 ?_
        refine lv_iload_n hx hb dX0_writeGuards_17 rfl (lv_at hl 0 rfl) ?_
        refine z_iald hx hb hK hP 6 0 rfl rfl (by omega) (by omega) (v := ((guardsZ G r i) 5 ((3 * r) + (i : Int)))) rfl dX0_writeGuards_18 ?_
        have hv_2 := invW_5 hIi ((3 * r) + (i : Int)) (by omega) (by omega)
        refine z_if_ne (tgt := 32) hx hb dX0_writeGuards_19 (by decide) (by omega) (fun c_3 => ?_) (fun c_3 => ?_)
        · refine lv_iinc (v := iI ((i : Int) + 1)) (lv' := [(2, .int (iI ((i : Int) + 1))), (3, .int (iI ((3 * r) + (i : Int)))), (0, .ref g), (1, .int (iI r))]) hx hb dX0_writeGuards_32 hl (k := 1) rfl (iI_add _ _) (by decide) rfl (fun ls hl => ?_)
          refine lv_goto (tgt := 2) hx hb dX0_writeGuards_35 (by decide) ?_
          have e1_0 : (((i + 1 : Nat) : Int)) = ((i : Int) + 1) := by first | rfl | omega
          have eG0 : (guardsZ G r (i + 1)) = (guardsZ G r i) := by first | (simp only [guardsZ]; rw [if_pos (by assumption)]) | (simp only [guardsZ]; rw [if_neg (by assumption)])
          rw [← eG0] at hP hD
          exact ih2 (i + 1) (by omega) (by omega) _ _ _ hP hD hS (lv_to (lv_sub (l' := [(2, .int (iI ((i : Int) + 1))), (0, .ref g), (1, .int (iI r))]) hl [0, 2, 3] rfl) (by simp only [e1_0]))
        · refine lv_aload_n hx hb dX0_writeGuards_22 rfl (lv_at hl 2 rfl) ?_
          refine va_get (D := D) (ci := 0) (v := .ref (ad 4)) (C := RX0) (T := TX0) (N := 13) hx hb hq inA0 hown hK hP 0 rfl rfl 4 (by decide) (hq _ q_11) (fun _ h9 => h9) rfl dX0_writeGuards_23 ?_
          refine lv_iload_n hx hb dX0_writeGuards_26 rfl (lv_at hl 0 rfl) ?_
          refine lv_iload_n hx hb dX0_writeGuards_27 rfl (lv_at hl 1 rfl) ?_
          refine mw_none (st1 := [.int (iI (aimZ (i : Int))), .int (iI ((3 * r) + (i : Int))), .ref (ad 4)]) (mr_S (As := [.int (iI (i : Int))]) (rest := [.int (iI ((3 * r) + (i : Int))), .ref (ad 4)]) ⟨hx, hb, hml, hown, hts⟩ (m_X0_aim l D (i : Int) ) (va_cwS 1 hts (gS q_6 q_7 q_8 q_0) rfl rfl rfl (by decide +kernel) ⟨Nat.le_trans (m := 1) (Nat.le_of_ble_eq_true rfl) (Nat.le_trans (Nat.le_of_ble_eq_true rfl) hRf), Nat.le_trans (m := 20) (Nat.le_of_ble_eq_true rfl) (Nat.le_trans (Nat.le_of_ble_eq_true rfl) hRl)⟩) hN (hK.sub (tys' := []) [] rfl) (va_P0 _ _ _) (va_D0 A) rfl hl.1 (Nat.le_of_ble_eq_true rfl) ⟨hRc, hRs⟩ dX0_writeGuards_28) hP hS hA rfl (fun H locs hP hS => ?_)
          have hf_4 : aimZ (i : Int) = 100 + 400 * (i : Int) := rfl
          refine z_iast (w1 := (wG g ad cI (upG (guardsZ G r i) 4 ((3 * r) + (i : Int)) (aimZ (i : Int))))) hx hb hK hP hD hS 5 0 rfl rfl (by omega) (by omega) (wG_set4 _ _ _ _ _ _) dX0_writeGuards_31 (fun H locs hP hD hS => ?_)
          refine lv_iinc (v := iI ((i : Int) + 1)) (lv' := [(2, .int (iI ((i : Int) + 1))), (3, .int (iI ((3 * r) + (i : Int)))), (0, .ref g), (1, .int (iI r))]) hx hb dX0_writeGuards_32 hl (k := 1) rfl (iI_add _ _) (by decide) rfl (fun ls hl => ?_)
          refine lv_goto (tgt := 2) hx hb dX0_writeGuards_35 (by decide) ?_
          have e1_0 : (((i + 1 : Nat) : Int)) = ((i : Int) + 1) := by first | rfl | omega
          have eG0 : (guardsZ G r (i + 1)) = (upG (guardsZ G r i) 4 ((3 * r) + (i : Int)) (aimZ (i : Int))) := by first | (simp only [guardsZ]; rw [if_pos (by assumption)]) | (simp only [guardsZ]; rw [if_neg (by assumption)])
          rw [← eG0] at hP hD
          exact ih2 (i + 1) (by omega) (by omega) _ _ _ hP hD hS (lv_to (lv_sub (l' := [(2, .int (iI ((i : Int) + 1))), (0, .ref g), (1, .int (iI r))]) hl [0, 2, 3] rfl) (by simp only [e1_0]))
  have e0_0 : (((0 : Nat) : Int)) = 0 := by first | rfl | omega
  exact LP2 (3 + 1) 0 (by omega) (by omega) _ _ _ hP hD hS (lv_to (lv_sub (l' := [(2, .int (iI 0)), (0, .ref g), (1, .int (iI r))]) hl [0, 1, 2] rfl) (by simp only [e0_0]))
