set_option maxHeartbeats 4000000 in
set_option maxRecDepth 100000 in
theorem law_loop {p : Program} {l : Launch} {e : Env} {s : State} {m : MethodId} {args : Array Value} {below : List Frame} {meth : Method} {c : Code} {Q : State → Prop} {D : va_G} {A : Nat → Prop} {cI cC cH : ClassId} {xo xh t : Nat} {ta : Nat → Nat} {mo : Nat} {am : Nat → Nat} {b L : Nat} {xs : Nat → Int32} (hx : p.tables.exec = Jvm.exec) (hb : c.code = cL_law) (hml : c.maxLocals = 4) (hown : s.vm.findClass RL = some m.cls) (hts : ∀ w ∈ (Cond.arrayClass .int :: ALL), w.before args s = true) (hN : nK s) (hK : va_K D vwCl [(cI, .int), (cC, .char), (cH, .object RX0)] s) (hA : ∀ q : Nat, s.heap.size ≤ q → A q) (hX : va_X b L xs s s.heap) (hbl : b < s.heap.size) (hbA : ¬ A b) (hL : L ≤ 2048) (hend : (∀ (H : Heap) (locs : List Loc) (ls : Array Slot), va_S A s.heap H locs → W p l e room_1 s m args below meth c H locs 600000 7302250 Q (F0 m 819 ls []))) : ∀ (fu k : Nat), k ≤ 512 → 512 < fu + k → ∀ (ga : Nat → Nat) (gd : Nat → Nat → Nat) (F T : Nat → Int → Int) (Gs : Nat → Nat → Int → Int) (S : Nat → Int → Int) (H : Heap) (locs : List Loc) (ls : Array Slot), Rel k F T Gs S → va_P D vwCl (wX xo xh t ta cI cC cH ga gd F T Gs ++ wM mo am cI S) H → va_D A (wX xo xh t ta cI cC cH ga gd F T Gs ++ wM mo am cI S) → va_S A s.heap H locs → lv_has ls 4 [(3, .int (iI (4 * (k : Int)))), (2, .ref mo), (1, .ref xo), (0, .ref b)] → W p l e room_1 s m args below meth c H locs 600000 7302250 Q (F0 m 18 ls []) := by
  intro fu
  induction fu with
  | zero => intro k h1 h2; omega
  | succ fu ih =>
    intro k hk0 hfu ga gd F T Gs S H locs ls hR hP hD hS hl
    refine lv_iload_n hx hb dL_law_18 rfl (lv_at hl 0 rfl) ?_
    refine lv_aload_n hx hb dL_law_19 rfl (lv_at hl 3 rfl) ?_
    refine va_slen hx hb hX hbl hbA hS dL_law_20 ?_
    rw [show Int32.ofNat L = iI (L : Int) from (Int32.ofInt_eq_ofNat).symm]
    refine z_iconst hx hb dL_law_21 ?_
    refine z_isub hx hb dL_law_22 ?_
    refine z_icmp_gt (tgt := 819) hx hb dL_law_23 (by decide) (by omega) (by omega) (fun c_1 => ?_) (fun c_1 => ?_)
    · exact hend H locs ls hS
    · have hk : k < 512 := by omega
      obtain ⟨a0, ha0, ea0⟩ := iI_ex (xs (4 * k + 0))
      obtain ⟨a1, ha1, ea1⟩ := iI_ex (xs (4 * k + 1))
      obtain ⟨a2, ha2, ea2⟩ := iI_ex (xs (4 * k + 2))
      obtain ⟨a3, ha3, ea3⟩ := iI_ex (xs (4 * k + 3))
      have hn : (∀ (ga : Nat → Nat) (gd : Nat → Nat → Nat) (F T : Nat → Int → Int) (Gs : Nat → Nat → Int → Int) (S : Nat → Int → Int) (H : Heap) (locs : List Loc) (ls : Array Slot), Rel (k + 1) F T Gs S → va_P D vwCl (wX xo xh t ta cI cC cH ga gd F T Gs ++ wM mo am cI S) H → va_D A (wX xo xh t ta cI cC cH ga gd F T Gs ++ wM mo am cI S) → va_S A s.heap H locs → lv_has ls 4 [(3, .int (iI (4 * (k : Int)))), (2, .ref mo), (1, .ref xo), (0, .ref b)] → W p l e room_1 s m args below meth c H locs 600000 7302250 Q (F0 m 813 ls [])) := by
        intro ga gd F T Gs S H locs ls hR hP hD hS hl
        refine lv_iinc (v := iI (4 * (k : Int) + 4)) (lv' := [(3, .int (iI (4 * (k : Int) + 4))), (2, .ref mo), (1, .ref xo), (0, .ref b)]) hx hb dL_law_813 hl (k := 0) rfl (iI_add _ _) (by decide) rfl (fun ls hl => ?_)
        refine lv_goto (tgt := 18) hx hb dL_law_816 (by decide) ?_
        exact ih (k + 1) (by omega) (by omega) _ _ _ _ _ _ _ _ _ hR hP hD hS (lv_to hl (by rw [show 4 * ((k + 1 : Nat) : Int) = 4 * (k : Int) + 4 by omega]))
      refine lv_aload_n hx hb dL_law_26 rfl (lv_at hl 3 rfl) ?_
      refine lv_iload_n hx hb dL_law_27 rfl (lv_at hl 0 rfl) ?_
      refine l_sld hx hb hX hbl hbA hS hL (4 * k + 0) (by omega) (by omega) ea0 dL_law_28 ?_
      refine z_bipush hx hb dL_law_29 (by decide +kernel) ?_
      refine lv_iand hx hb dL_law_31 ?_
      obtain ⟨v, hv, ev⟩ := iI_ex (iI a0 &&& iI 31)
      rw [ev]
      rcases z_tab v 0 24 with c_2 | c_2
      · refine lv_tableOut (tgt := 813) hx hb dL_law_32 (by rw [iI_t hv]; exact c_2) (by decide) ?_
        exact hn _ _ _ _ _ _ _ _ _ (Rel_id hR (by omega)) hP hD hS hl
      · have c_3 : v = 0 ∨ v = 1 ∨ v = 2 ∨ v = 3 ∨ v = 4 ∨ v = 5 ∨ v = 6 ∨ v = 7 ∨ v = 8 ∨ v = 9 ∨ v = 10 ∨ v = 11 ∨ v = 12 ∨ v = 13 ∨ v = 14 ∨ v = 15 ∨ v = 16 ∨ v = 17 ∨ v = 18 ∨ v = 19 ∨ v = 20 ∨ v = 21 ∨ v = 22 ∨ v = 23 ∨ v = 24 := by omega
        rcases c_3 with c_3 | c_3 | c_3 | c_3 | c_3 | c_3 | c_3 | c_3 | c_3 | c_3 | c_3 | c_3 | c_3 | c_3 | c_3 | c_3 | c_3 | c_3 | c_3 | c_3 | c_3 | c_3 | c_3 | c_3 | c_3
        · refine lv_tableIn (tgt := 148) (off := 116) hx hb dL_law_32 (by rw [iI_t hv]; omega) (by rw [iI_t hv]; omega) (by rw [iI_t hv, c_3]; rfl) (by decide) ?_
          exact law_write hx hb hml hown hts hN hK hA hX hbl hbA hL k hk (by omega) hn hR hP hD hS hl ha1 ea1 ha2 ea2 ha3 ea3
        · refine lv_tableIn (tgt := 191) (off := 159) hx hb dL_law_32 (by rw [iI_t hv]; omega) (by rw [iI_t hv]; omega) (by rw [iI_t hv, c_3]; rfl) (by decide) ?_
          exact law_fill hx hb hml hown hts hN hK hA hX hbl hbA hL k hk (by omega) hn hR hP hD hS hl ha1 ea1 ha2 ea2
        · refine lv_tableIn (tgt := 224) (off := 192) hx hb dL_law_32 (by rw [iI_t hv]; omega) (by rw [iI_t hv]; omega) (by rw [iI_t hv, c_3]; rfl) (by decide) ?_
          exact law_anew hx hb hml hown hts hN hK hA hX hbl hbA hL k hk (by omega) hn hR hP hD hS hl ha1 ea1
        · refine lv_tableIn (tgt := 247) (off := 215) hx hb dL_law_32 (by rw [iI_t hv]; omega) (by rw [iI_t hv]; omega) (by rw [iI_t hv, c_3]; rfl) (by decide) ?_
          exact law_ask hx hb hml hown hts hN hK hA hX hbl hbA hL k hk (by omega) hn hR hP hD hS hl ha1 ea1 ha2 ea2
        · refine lv_tableIn (tgt := 280) (off := 248) hx hb dL_law_32 (by rw [iI_t hv]; omega) (by rw [iI_t hv]; omega) (by rw [iI_t hv, c_3]; rfl) (by decide) ?_
          exact law_fail hx hb hml hown hts hN hK hA hX hbl hbA hL k hk (by omega) hn hR hP hD hS hl ha1 ea1 ha2 ea2 ha3 ea3
        · refine lv_tableIn (tgt := 323) (off := 291) hx hb dL_law_32 (by rw [iI_t hv]; omega) (by rw [iI_t hv]; omega) (by rw [iI_t hv, c_3]; rfl) (by decide) ?_
          exact law_mend hx hb hml hown hts hN hK hA hX hbl hbA hL k hk (by omega) hn hR hP hD hS hl ha1 ea1 ha2 ea2
        · refine lv_tableIn (tgt := 356) (off := 324) hx hb dL_law_32 (by rw [iI_t hv]; omega) (by rw [iI_t hv]; omega) (by rw [iI_t hv, c_3]; rfl) (by decide) ?_
          exact law_rate hx hb hml hown hts hN hK hA hX hbl hbA hL k hk (by omega) hn hR hP hD hS hl ha1 ea1 ha2 ea2
        · refine lv_tableIn (tgt := 389) (off := 357) hx hb dL_law_32 (by rw [iI_t hv]; omega) (by rw [iI_t hv]; omega) (by rw [iI_t hv, c_3]; rfl) (by decide) ?_
          exact law_days hx hb hml hown hts hN hK hA hX hbl hbA hL k hk (by omega) hn hR hP hD hS hl ha1 ea1
        · refine lv_tableIn (tgt := 412) (off := 380) hx hb dL_law_32 (by rw [iI_t hv]; omega) (by rw [iI_t hv]; omega) (by rw [iI_t hv, c_3]; rfl) (by decide) ?_
          exact law_set hx hb hml hown hts hN hK hA hX hbl hbA hL k hk (by omega) hn hR hP hD hS hl ha1 ea1 ha2 ea2
        · refine lv_tableIn (tgt := 445) (off := 413) hx hb dL_law_32 (by rw [iI_t hv]; omega) (by rw [iI_t hv]; omega) (by rw [iI_t hv, c_3]; rfl) (by decide) ?_
          exact law_cell hx hb hml hown hts hN hK hA hX hbl hbA hL k hk (by omega) hn hR hP hD hS hl ha1 ea1 ha2 ea2 ha3 ea3
        · refine lv_tableIn (tgt := 488) (off := 456) hx hb dL_law_32 (by rw [iI_t hv]; omega) (by rw [iI_t hv]; omega) (by rw [iI_t hv, c_3]; rfl) (by decide) ?_
          exact law_guard hx hb hml hown hts hN hK hA hX hbl hbA hL k hk (by omega) hn hR hP hD hS hl ha1 ea1 ha2 ea2 ha3 ea3
        · refine lv_tableIn (tgt := 531) (off := 499) hx hb dL_law_32 (by rw [iI_t hv]; omega) (by rw [iI_t hv]; omega) (by rw [iI_t hv, c_3]; rfl) (by decide) ?_
          exact law_row hx hb hml hown hts hN hK hA hX hbl hbA hL k hk (by omega) hn hR hP hD hS hl ha1 ea1 ha2 ea2
        · refine lv_tableIn (tgt := 564) (off := 532) hx hb dL_law_32 (by rw [iI_t hv]; omega) (by rw [iI_t hv]; omega) (by rw [iI_t hv, c_3]; rfl) (by decide) ?_
          exact law_table hx hb hml hown hts hN hK hA hX hbl hbA hL k hk (by omega) hn hR hP hD hS hl ha1 ea1 ha2 ea2
        · refine lv_tableIn (tgt := 597) (off := 565) hx hb dL_law_32 (by rw [iI_t hv]; omega) (by rw [iI_t hv]; omega) (by rw [iI_t hv, c_3]; rfl) (by decide) ?_
          exact law_wrongIn hx hb hml hown hts hN hK hA hX hbl hbA hL k hk (by omega) hn hR hP hD hS hl ha1 ea1
        · refine lv_tableIn (tgt := 620) (off := 588) hx hb dL_law_32 (by rw [iI_t hv]; omega) (by rw [iI_t hv]; omega) (by rw [iI_t hv, c_3]; rfl) (by decide) ?_
          exact law_rightFor hx hb hml hown hts hN hK hA hX hbl hbA hL k hk (by omega) hn hR hP hD hS hl ha1 ea1
        · refine lv_tableIn (tgt := 643) (off := 611) hx hb dL_law_32 (by rw [iI_t hv]; omega) (by rw [iI_t hv]; omega) (by rw [iI_t hv, c_3]; rfl) (by decide) ?_
          exact law_safeAge hx hb hml hown hts hN hK hA hX hbl hbA hL k hk (by omega) hn hR hP hD hS hl 
        · refine lv_tableIn (tgt := 656) (off := 624) hx hb dL_law_32 (by rw [iI_t hv]; omega) (by rw [iI_t hv]; omega) (by rw [iI_t hv, c_3]; rfl) (by decide) ?_
          exact law_worst hx hb hml hown hts hN hK hA hX hbl hbA hL k hk (by omega) hn hR hP hD hS hl ha1 ea1
        · refine lv_tableIn (tgt := 679) (off := 647) hx hb dL_law_32 (by rw [iI_t hv]; omega) (by rw [iI_t hv]; omega) (by rw [iI_t hv, c_3]; rfl) (by decide) ?_
          exact law_mean hx hb hml hown hts hN hK hA hX hbl hbA hL k hk (by omega) hn hR hP hD hS hl 
        · refine lv_tableIn (tgt := 692) (off := 660) hx hb dL_law_32 (by rw [iI_t hv]; omega) (by rw [iI_t hv]; omega) (by rw [iI_t hv, c_3]; rfl) (by decide) ?_
          exact law_share hx hb hml hown hts hN hK hA hX hbl hbA hL k hk (by omega) hn hR hP hD hS hl 
        · refine lv_tableIn (tgt := 705) (off := 673) hx hb dL_law_32 (by rw [iI_t hv]; omega) (by rw [iI_t hv]; omega) (by rw [iI_t hv, c_3]; rfl) (by decide) ?_
          exact law_count hx hb hml hown hts hN hK hA hX hbl hbA hL k hk (by omega) hn hR hP hD hS hl ha1 ea1
        · refine lv_tableIn (tgt := 728) (off := 696) hx hb dL_law_32 (by rw [iI_t hv]; omega) (by rw [iI_t hv]; omega) (by rw [iI_t hv, c_3]; rfl) (by decide) ?_
          exact law_undo hx hb hml hown hts hN hK hA hX hbl hbA hL k hk (by omega) hn hR hP hD hS hl 
        · refine lv_tableIn (tgt := 741) (off := 709) hx hb dL_law_32 (by rw [iI_t hv]; omega) (by rw [iI_t hv]; omega) (by rw [iI_t hv, c_3]; rfl) (by decide) ?_
          exact law_type hx hb hml hown hts hN hK hA hX hbl hbA hL k hk (by omega) hn hR hP hD hS hl ha1 ea1
        · refine lv_tableIn (tgt := 764) (off := 732) hx hb dL_law_32 (by rw [iI_t hv]; omega) (by rw [iI_t hv]; omega) (by rw [iI_t hv, c_3]; rfl) (by decide) ?_
          exact law_clearText hx hb hml hown hts hN hK hA hX hbl hbA hL k hk (by omega) hn hR hP hD hS hl 
        · refine lv_tableIn (tgt := 777) (off := 745) hx hb dL_law_32 (by rw [iI_t hv]; omega) (by rw [iI_t hv]; omega) (by rw [iI_t hv, c_3]; rfl) (by decide) ?_
          exact law_fault hx hb hml hown hts hN hK hA hX hbl hbA hL k hk (by omega) hn hR hP hD hS hl ha1 ea1
        · refine lv_tableIn (tgt := 800) (off := 768) hx hb dL_law_32 (by rw [iI_t hv]; omega) (by rw [iI_t hv]; omega) (by rw [iI_t hv, c_3]; rfl) (by decide) ?_
          exact law_play hx hb hml hown hts hN hK hA hX hbl hbA hL k hk (by omega) hn hR hP hD hS hl 
