/-! the law's own body, behind the making of its object -/
theorem lcmp_self (x : Int64) : lg_cmp x x = iI 0 := by
  unfold lg_cmp
  simp
  exact iI_0.symm
set_option maxHeartbeats 8000000 in
set_option maxRecDepth 100000 in
theorem law_body {p : Program} {l : Launch} {e : Env} {s : State} {m : MethodId} {args : Array Value} {below : List Frame} {meth : Method} {c : Code} {Q : State → Prop} {D : va_G} {A : Nat → Prop} {cI cC cH : ClassId} {xo xh t : Nat} {ta : Nat → Nat} {b L : Nat} {xs : Nat → Int32} (hx : p.tables.exec = Jvm.exec) (hb : c.code = cL_law) (hml : c.maxLocals = 11) (hown : s.vm.findClass RL = some m.cls) (hts : ∀ w ∈ (Cond.arrayClass .int :: ALL), w.before args s = true) (hN : nK s) (hK : va_K D vwCl (tyS cI cC cH) s) (hA : ∀ q : Nat, s.heap.size ≤ q → A q) (hX : va_X b L xs s s.heap) (hbl : b < s.heap.size) (hbA : ¬ A b) (hL : L ≤ 260) {q : SS} (h : CR 0 q) (hn0 : SS.n q = 0) {H : Heap} {locs : List Loc} {ls : Array Slot} (hP : va_P D vwCl (wS xo xh t ta cI cC cH q) H) (hD : va_D A (wS xo xh t ta cI cC cH q)) (hS : va_S A s.heap H locs) (hl : lv_has ls 11 [(1, .ref xo), (0, .ref b)]) (hend : ∀ (H : Heap) (locs : List Loc) (ls : Array Slot), va_S A s.heap H locs → W p l e room_1 s m args below meth c H locs 600000 7302250 Q (F0 m 301 ls [.int (iI 1)])) : W p l e room_1 s m args below meth c H locs 600000 7302250 Q (F0 m 8 ls []) := by
  have hq : ∀ w ∈ ALL, w.before args s = true := fun w h => hts w (List.mem_cons_of_mem _ h)
  refine lv_aload_n hx hb dL_law_8 rfl (lv_at hl 0 rfl) ?_
  refine mw_full (st1 := [.int (iI 1)]) (mr_S (As := [.ref xo]) (rest := []) ⟨hx, hb, hml, hown, hts⟩ (m_L_holds l D xo xh t ta cI cC cH h (by omega)) (va_cwS 1 hts (gS q_443 q_444 q_374 q_370) rfl rfl rfl (by decide +kernel) ⟨Nat.le_of_ble_eq_true rfl, Nat.le_of_ble_eq_true rfl⟩) hN hK hP hD rfl hl.1 (Nat.le_of_ble_eq_true rfl) ⟨Nat.le_of_ble_eq_true rfl, Nat.le_of_ble_eq_true rfl⟩ dL_law_9) hD hS hA rfl (fun H locs hP hD hS => ?_)
  refine z_if_eq (tgt := 36) hx hb dL_law_12 (by decide) (by omega) (fun c_1 => absurd c_1 (by omega)) (fun c_1 => ?_)
  refine lv_aload_n hx hb dL_law_15 rfl (lv_at hl 0 rfl) ?_
  refine z_iconst hx hb dL_law_16 ?_
  refine me_go (st1 := [.int (iI 1)]) (me_S (As := [.ref xo, .int (iI 0)]) (rest := []) ⟨hx, hb, hml, hown, hts⟩ (m_L_would l D xo xh t ta cI cC cH h (by omega) (0 : Int) (by omega)) (va_cwS 2 hts (gS q_445 q_446 q_374 q_384) rfl rfl rfl (by decide +kernel) ⟨Nat.le_of_ble_eq_true rfl, Nat.le_of_ble_eq_true rfl⟩) hN hK hP hD rfl hl.1 (Nat.le_of_ble_eq_true rfl) ⟨Nat.le_of_ble_eq_true rfl, Nat.le_of_ble_eq_true rfl⟩ dL_law_17) hD hS hA rfl (fun q1 H locs hu hP hD hS => ?_)
  obtain ⟨hRq1, hsq1⟩ := hu
  refine z_if_eq (tgt := 36) hx hb dL_law_20 (by decide) (by omega) (fun c_2 => absurd c_2 (by omega)) (fun c_2 => ?_)
  refine lv_aload_n hx hb dL_law_23 rfl (lv_at hl 0 rfl) ?_
  refine mw_full (st1 := [.int (iI (-1000002))]) (mr_V (As := []) (rest := []) (ci := 2) (q0 := 0) ⟨hx, hb, hml, hown, hts⟩ (sc_undo_no l D xo xh t ta cI cC cH hRq1 (by omega) (by rw [hsq1.2.1]; exact hn0)) (cwV 0 hts (gV q_447 q_448 q_449 q_37 q_306) rfl rfl rfl (by decide +kernel) ⟨Nat.le_of_ble_eq_true rfl, Nat.le_of_ble_eq_true rfl⟩) hN hK hP hD rfl rfl rfl hl.1 (Nat.le_of_ble_eq_true rfl) ⟨Nat.le_of_ble_eq_true rfl, Nat.le_of_ble_eq_true rfl⟩ dL_law_24) hD hS hA rfl (fun H locs hP hD hS => ?_)
  refine z_ldc hx hb (-1000002) (by decide +kernel) hown (hq _ q_395) dL_law_27 ?_
  refine z_icmp_ne (tgt := 36) hx hb dL_law_29 (by decide) (by omega) (by omega) (fun c_3 => absurd c_3 (by omega)) (fun c_3 => ?_)
  refine z_iconst hx hb dL_law_32 ?_
  refine lv_goto (tgt := 37) hx hb dL_law_33 (by decide) ?_
  refine lv_istore_n (lv' := [(2, .int (iI 1)), (1, .ref xo), (0, .ref b)]) hx hb dL_law_37 rfl hl (by decide) rfl (fun ls hl => ?_)
  refine z_iconst hx hb dL_law_38 ?_
  refine lv_istore_n (lv' := [(3, .int (iI 0)), (2, .int (iI 1)), (1, .ref xo), (0, .ref b)]) hx hb dL_law_39 rfl hl (by decide) rfl (fun ls hl => ?_)
  have LP40 : ∀ (fu i : Nat) (qi : SS), i ≤ 46 → 46 < fu + i → CR i qi → ∀ (H : Heap) (locs : List Loc) (ls : Array Slot), va_P D vwCl (wS xo xh t ta cI cC cH qi) H → va_D A (wS xo xh t ta cI cC cH qi) → va_S A s.heap H locs → lv_has ls 11 [(3, .int (iI (i : Int))), (2, .int (iI 1)), (1, .ref xo), (0, .ref b)] → W p l e room_1 s m args below meth c H locs 600000 7302250 Q (F0 m 40 ls []) := by
    intro fu
    induction fu with
    | zero => intro i qi h1 h2; omega
    | succ fu ih40 =>
      intro i qi hi1 hif hRi H locs ls hP hD hS hl
      refine lv_iload_n hx hb dL_law_40 rfl (lv_at hl 0 rfl) ?_
      refine z_bipush hx hb dL_law_41 (by decide +kernel) ?_
      refine z_icmp_ge (tgt := 285) hx hb dL_law_43 (by decide) (by omega) (by omega) (fun c_4 => ?_) (fun c_4 => ?_)
      · refine lv_iload_n hx hb dL_law_285 rfl (lv_at hl 1 rfl) ?_
        refine z_if_eq (tgt := 300) hx hb dL_law_286 (by decide) (by omega) (fun c_5 => absurd c_5 (by omega)) (fun c_5 => ?_)
        refine lv_aload_n hx hb dL_law_289 rfl (lv_at hl 2 rfl) ?_
        refine mw_full (st1 := [.int (iI 1)]) (mr_S (As := [.ref xo]) (rest := []) ⟨hx, hb, hml, hown, hts⟩ (m_L_holds l D xo xh t ta cI cC cH hRi (by omega)) (va_cwS 1 hts (gS q_443 q_444 q_374 q_370) rfl rfl rfl (by decide +kernel) ⟨Nat.le_of_ble_eq_true rfl, Nat.le_of_ble_eq_true rfl⟩) hN hK hP hD rfl hl.1 (Nat.le_of_ble_eq_true rfl) ⟨Nat.le_of_ble_eq_true rfl, Nat.le_of_ble_eq_true rfl⟩ dL_law_290) hD hS hA rfl (fun H locs hP hD hS => ?_)
        refine z_if_eq (tgt := 300) hx hb dL_law_293 (by decide) (by omega) (fun c_6 => absurd c_6 (by omega)) (fun c_6 => ?_)
        refine z_iconst hx hb dL_law_296 ?_
        refine lv_goto (tgt := 301) hx hb dL_law_297 (by decide) ?_
        exact hend _ _ _ hS
      · refine lv_iload_n hx hb dL_law_46 rfl (lv_at hl 1 rfl) ?_
        refine z_if_eq (tgt := 285) hx hb dL_law_47 (by decide) (by omega) (fun c_7 => absurd c_7 (by omega)) (fun c_7 => ?_)
        refine lv_aload_n hx hb dL_law_50 rfl (lv_at hl 3 rfl) ?_
        refine z_iconst hx hb dL_law_51 ?_
        refine lv_iload_n hx hb dL_law_52 rfl (lv_at hl 0 rfl) ?_
        refine z_imul hx hb dL_law_53 ?_
        refine lot_go (rest := []) ⟨_, va_runS (rest := []) ⟨hx, hb, hml, hown, hts⟩ (m_lot l hL (2 * (i : Int)) (by omega) H.size) (va_cwS 2 hts (gS q_450 q_451 q_374 q_339) rfl rfl rfl (by decide +kernel) ⟨Nat.le_of_ble_eq_true rfl, Nat.le_of_ble_eq_true rfl⟩) (pl_pre hX hbl hbA hS (2 * (i : Int))) rfl rfl hl.1 rfl (lv_room (Nat.le_of_ble_eq_true rfl)) dL_law_54 ⟨Nat.le_of_ble_eq_true rfl, Nat.le_of_ble_eq_true rfl⟩⟩ hP hS hA (fun xav H locs hP hS => ?_)
        obtain ⟨xa, hxa, exa⟩ := iI_ex xav
        subst exa
        refine lv_istore (lv' := [(4, .int (iI xa)), (3, .int (iI (i : Int))), (2, .int (iI 1)), (1, .ref xo), (0, .ref b)]) hx hb dL_law_57 hl (by decide) rfl (fun ls hl => ?_)
        refine lv_aload_n hx hb dL_law_59 rfl (lv_at hl 4 rfl) ?_
        refine z_iconst hx hb dL_law_60 ?_
        refine lv_iload_n hx hb dL_law_61 rfl (lv_at hl 1 rfl) ?_
        refine z_imul hx hb dL_law_62 ?_
        refine z_iconst hx hb dL_law_63 ?_
        refine z_iadd hx hb dL_law_64 ?_
        refine lot_go (rest := []) ⟨_, va_runS (rest := []) ⟨hx, hb, hml, hown, hts⟩ (m_lot l hL ((2 * (i : Int)) + 1) (by omega) H.size) (va_cwS 2 hts (gS q_450 q_451 q_374 q_339) rfl rfl rfl (by decide +kernel) ⟨Nat.le_of_ble_eq_true rfl, Nat.le_of_ble_eq_true rfl⟩) (pl_pre hX hbl hbA hS ((2 * (i : Int)) + 1)) rfl rfl hl.1 rfl (lv_room (Nat.le_of_ble_eq_true rfl)) dL_law_65 ⟨Nat.le_of_ble_eq_true rfl, Nat.le_of_ble_eq_true rfl⟩⟩ hP hS hA (fun yav H locs hP hS => ?_)
        obtain ⟨ya, hya, eya⟩ := iI_ex yav
        subst eya
        refine lv_istore (lv' := [(5, .int (iI ya)), (4, .int (iI xa)), (3, .int (iI (i : Int))), (2, .int (iI 1)), (1, .ref xo), (0, .ref b)]) hx hb dL_law_68 hl (by decide) rfl (fun ls hl => ?_)
        refine lv_aload_n hx hb dL_law_70 rfl (lv_at hl 4 rfl) ?_
        refine mw_full (st1 := [.long (lookZ (SS.G qi))]) (mr_S (As := [.ref xo]) (rest := []) ⟨hx, hb, hml, hown, hts⟩ (m_L_look l D xo xh t ta cI cC cH hRi (by omega)) (va_cwS 1 hts (gS q_452 q_453 q_374 q_359) rfl rfl rfl (by decide +kernel) ⟨Nat.le_of_ble_eq_true rfl, Nat.le_of_ble_eq_true rfl⟩) hN hK hP hD rfl hl.1 (Nat.le_of_ble_eq_true rfl) ⟨Nat.le_of_ble_eq_true rfl, Nat.le_of_ble_eq_true rfl⟩ dL_law_71) hD hS hA rfl (fun H locs hP hD hS => ?_)
        refine lv_lstore (lv' := [(6, .long (lookZ (SS.G qi))), (5, .int (iI ya)), (4, .int (iI xa)), (3, .int (iI (i : Int))), (2, .int (iI 1)), (1, .ref xo), (0, .ref b)]) hx hb dL_law_74 hl (by decide) rfl (fun ls hl => ?_)
        refine lv_aload_n hx hb dL_law_76 rfl (lv_at hl 5 rfl) ?_
        refine z_bipush hx hb dL_law_77 (by decide +kernel) ?_
        refine mw_full (st1 := [.int (iI (SS.n qi))]) (mr_V (As := [.int (iI 15)]) (rest := []) (ci := 2) (q0 := 0) ⟨hx, hb, hml, hown, hts⟩ (rd_cnt15 l D xo xh t ta cI cC cH hRi (by omega)) (cwV 1 hts (gV q_344 q_345 q_346 q_37 q_304) rfl rfl rfl (by decide +kernel) ⟨Nat.le_of_ble_eq_true rfl, Nat.le_of_ble_eq_true rfl⟩) hN hK hP hD rfl rfl rfl hl.1 (Nat.le_of_ble_eq_true rfl) ⟨Nat.le_of_ble_eq_true rfl, Nat.le_of_ble_eq_true rfl⟩ dL_law_79) hD hS hA rfl (fun H locs hP hD hS => ?_)
        have hv_8 := rb_cnt15 hRi (by omega)
        obtain ⟨had, e_had⟩ : ∃ z : Int, z = (SS.n qi) := ⟨_, rfl⟩
        refine z_as e_had.symm ?_
        refine lv_istore (lv' := [(8, .int (iI had)), (6, .long (lookZ (SS.G qi))), (5, .int (iI ya)), (4, .int (iI xa)), (3, .int (iI (i : Int))), (2, .int (iI 1)), (1, .ref xo), (0, .ref b)]) hx hb dL_law_82 hl (by decide) rfl (fun ls hl => ?_)
        refine lv_aload_n hx hb dL_law_84 rfl (lv_at hl 6 rfl) ?_
        refine lv_iload hx hb dL_law_85 (lv_at hl 3 rfl) ?_
        refine lv_iload hx hb dL_law_87 (lv_at hl 2 rfl) ?_
        refine me_go (st1 := [.int (iI 1)]) (me_S (As := [.ref xo, .int (iI xa), .int (iI ya)]) (rest := []) ⟨hx, hb, hml, hown, hts⟩ (m_L_acts l D xo xh t ta cI cC cH hRi (by omega) xa (by omega) ya (by omega)) (va_cwS 3 hts (gS q_454 q_455 q_374 q_438) rfl rfl rfl (by decide +kernel) ⟨Nat.le_of_ble_eq_true rfl, Nat.le_of_ble_eq_true rfl⟩) hN hK hP hD rfl hl.1 (Nat.le_of_ble_eq_true rfl) ⟨Nat.le_of_ble_eq_true rfl, Nat.le_of_ble_eq_true rfl⟩ dL_law_89) hD hS hA rfl (fun q2 H locs hu hP hD hS => ?_)
        obtain ⟨hRq2, haq2⟩ := hu
        refine z_if_eq (tgt := 129) hx hb dL_law_92 (by decide) (by omega) (fun c_9 => absurd c_9 (by omega)) (fun c_9 => ?_)
        have J_10 : ∀ (H : Heap) (locs : List Loc), va_P D vwCl (wS xo xh t ta cI cC cH q2) H → va_D A (wS xo xh t ta cI cC cH q2) → va_S A s.heap H locs → W p l e room_1 s m args below meth c H locs 600000 7302250 Q (F0 m 108 ls []) := by
          intro H locs hP hD hS
          have SJ_12 : ∀ (qz125 : SS) (H : Heap) (locs : List Loc) (ls : Array Slot), (CR (i + 1) qz125 ∧ Aft qi qz125) → va_P D vwCl (wS xo xh t ta cI cC cH qz125) H → va_D A (wS xo xh t ta cI cC cH qz125) → va_S A s.heap H locs → lv_has ls 11 [(8, .int (iI had)), (6, .long (lookZ (SS.G qi))), (5, .int (iI ya)), (4, .int (iI xa)), (3, .int (iI (i : Int))), (2, .int (iI 1)), (1, .ref xo), (0, .ref b)] → W p l e room_1 s m args below meth c H locs 600000 7302250 Q (F0 m 125 ls []) := by
            intro qz125 H locs ls hz hP hD hS hl
            obtain ⟨hRqz125, haqz125⟩ := hz
            have hnn : SS.n qz125 = SS.n qi ∨ SS.n qz125 = SS.n qi + 1 := by
              rcases haqz125 with a | a
              · exact Or.inl a.1
              · exact Or.inr a.1
            have hGe : SS.n qz125 = SS.n qi → ¬ SS.n qi = 4 → SS.G qz125 = SS.G qi := fun a b => by
              rcases haqz125 with c | c
              · exact c.2.resolve_left b
              · exact absurd a (by have := c.1; omega)
            have hHe : SS.n qz125 = SS.n qi + 1 → SS.H qz125 (3 + (SS.n qz125 - 1).toNat) = SS.G qi := fun a => by
              rcases haqz125 with c | c
              · exact absurd a (by have := c.1; omega)
              · rw [a, show SS.n qi + 1 - 1 = SS.n qi by omega]; exact c.2.2
            refine z_iconst hx hb dL_law_125 ?_
            refine lv_goto (tgt := 130) hx hb dL_law_126 (by decide) ?_
            refine lv_istore_n (lv' := [(2, .int (iI 1)), (8, .int (iI had)), (6, .long (lookZ (SS.G qi))), (5, .int (iI ya)), (4, .int (iI xa)), (3, .int (iI (i : Int))), (1, .ref xo), (0, .ref b)]) hx hb dL_law_130 rfl hl (by decide) rfl (fun ls hl => ?_)
            refine lv_aload_n hx hb dL_law_131 rfl (lv_at hl 6 rfl) ?_
            refine z_bipush hx hb dL_law_132 (by decide +kernel) ?_
            refine mw_full (st1 := [.int (iI (SS.n qz125))]) (mr_V (As := [.int (iI 15)]) (rest := []) (ci := 2) (q0 := 0) ⟨hx, hb, hml, hown, hts⟩ (rd_cnt15 l D xo xh t ta cI cC cH hRqz125 (by omega)) (cwV 1 hts (gV q_344 q_345 q_346 q_37 q_304) rfl rfl rfl (by decide +kernel) ⟨Nat.le_of_ble_eq_true rfl, Nat.le_of_ble_eq_true rfl⟩) hN hK hP hD rfl rfl rfl hl.1 (Nat.le_of_ble_eq_true rfl) ⟨Nat.le_of_ble_eq_true rfl, Nat.le_of_ble_eq_true rfl⟩ dL_law_134) hD hS hA rfl (fun H locs hP hD hS => ?_)
            have hv_13 := rb_cnt15 hRqz125 (by omega)
            obtain ⟨now, e_now⟩ : ∃ z : Int, z = (SS.n qz125) := ⟨_, rfl⟩
            refine z_as e_now.symm ?_
            refine lv_istore (lv' := [(9, .int (iI now)), (2, .int (iI 1)), (8, .int (iI had)), (6, .long (lookZ (SS.G qi))), (5, .int (iI ya)), (4, .int (iI xa)), (3, .int (iI (i : Int))), (1, .ref xo), (0, .ref b)]) hx hb dL_law_137 hl (by decide) rfl (fun ls hl => ?_)
            refine lv_iload_n hx hb dL_law_139 rfl (lv_at hl 1 rfl) ?_
            refine z_if_eq (tgt := 179) hx hb dL_law_140 (by decide) (by omega) (fun c_14 => absurd c_14 (by omega)) (fun c_14 => ?_)
            have J_15 : ∀ (H : Heap) (locs : List Loc), va_P D vwCl (wS xo xh t ta cI cC cH qz125) H → va_D A (wS xo xh t ta cI cC cH qz125) → va_S A s.heap H locs → W p l e room_1 s m args below meth c H locs 600000 7302250 Q (F0 m 175 ls []) := by
              intro H locs hP hD hS
              refine z_iconst hx hb dL_law_175 ?_
              refine lv_goto (tgt := 180) hx hb dL_law_176 (by decide) ?_
              refine lv_istore_n (lv' := [(2, .int (iI 1)), (9, .int (iI now)), (8, .int (iI had)), (6, .long (lookZ (SS.G qi))), (5, .int (iI ya)), (4, .int (iI xa)), (3, .int (iI (i : Int))), (1, .ref xo), (0, .ref b)]) hx hb dL_law_180 rfl hl (by decide) rfl (fun ls hl => ?_)
              have SJ_17 : ∀ (qz231 : SS) (H : Heap) (locs : List Loc) (ls : Array Slot), (CR (i + 1) qz231) → va_P D vwCl (wS xo xh t ta cI cC cH qz231) H → va_D A (wS xo xh t ta cI cC cH qz231) → va_S A s.heap H locs → lv_has ls 11 [(2, .int (iI 1)), (9, .int (iI now)), (8, .int (iI had)), (6, .long (lookZ (SS.G qi))), (5, .int (iI ya)), (4, .int (iI xa)), (3, .int (iI (i : Int))), (1, .ref xo), (0, .ref b)] → W p l e room_1 s m args below meth c H locs 600000 7302250 Q (F0 m 231 ls []) := by
                intro qz231 H locs ls hz hP hD hS hl
                have hRqz231 := hz
                have hnz := hRqz231.2.1
                have SJ_18 : ∀ (qz279 : SS) (H : Heap) (locs : List Loc) (ls : Array Slot), (CR (i + 1) qz279) → va_P D vwCl (wS xo xh t ta cI cC cH qz279) H → va_D A (wS xo xh t ta cI cC cH qz279) → va_S A s.heap H locs → lv_has ls 11 [(2, .int (iI 1)), (9, .int (iI now)), (8, .int (iI had)), (6, .long (lookZ (SS.G qi))), (5, .int (iI ya)), (4, .int (iI xa)), (3, .int (iI (i : Int))), (1, .ref xo), (0, .ref b)] → W p l e room_1 s m args below meth c H locs 600000 7302250 Q (F0 m 279 ls []) := by
                  intro qz279 H locs ls hz hP hD hS hl
                  have hRqz279 := hz
                  refine lv_iinc (v := iI ((i : Int) + 1)) (lv' := [(3, .int (iI ((i : Int) + 1))), (2, .int (iI 1)), (9, .int (iI now)), (8, .int (iI had)), (6, .long (lookZ (SS.G qi))), (5, .int (iI ya)), (4, .int (iI xa)), (1, .ref xo), (0, .ref b)]) hx hb dL_law_279 hl (k := 6) rfl (iI_add _ _) (by decide) rfl (fun ls hl => ?_)
                  refine lv_goto (tgt := 40) hx hb dL_law_282 (by decide) ?_
                  have e1_0 : (((i + 1 : Nat) : Int)) = ((i : Int) + 1) := by first | rfl | omega
                  have e1_1 : (1) = 1 := by first | rfl | omega
                  exact ih40 (i + 1) qz279 (by omega) (by omega) hRqz279 _ _ _ hP hD hS (lv_to (lv_sub (l' := [(3, .int (iI ((i : Int) + 1))), (2, .int (iI 1)), (1, .ref xo), (0, .ref b)]) hl [0, 1, 7, 8] rfl) (by simp only [e1_0, e1_1]))
                have hnz := hRqz231.2.1
                refine lv_iload_n hx hb dL_law_231 rfl (lv_at hl 0 rfl) ?_
                refine z_if_eq (tgt := 279) hx hb dL_law_232 (by decide) (by omega) (fun c_19 => absurd c_19 (by omega)) (fun c_19 => ?_)
                refine lv_iload_n hx hb dL_law_235 rfl (lv_at hl 6 rfl) ?_
                refine z_bipush hx hb dL_law_236 (by decide +kernel) ?_
                refine z_irem hx hb dL_law_238 (by omega) (by omega) ?_
                refine z_bipush hx hb dL_law_239 (by decide +kernel) ?_
                refine z_icmp_ne (tgt := 279) hx hb dL_law_241 (by decide) (by omega) (by omega) (fun c_20 => ?_) (fun c_20 => ?_)
                · exact SJ_18 qz231 _ _ _ hRqz231 hP hD hS (lv_sub (l' := [(2, .int (iI 1)), (9, .int (iI now)), (8, .int (iI had)), (6, .long (lookZ (SS.G qi))), (5, .int (iI ya)), (4, .int (iI xa)), (3, .int (iI (i : Int))), (1, .ref xo), (0, .ref b)]) hl [0, 1, 2, 3, 4, 5, 6, 7, 8] rfl)
                · rcases (show (SS.n qz231 = 0) ∨ (1 ≤ SS.n qz231) from by omega) with hsp_21 | hsp_21
                  · refine lv_aload_n hx hb dL_law_244 rfl (lv_at hl 7 rfl) ?_
                    refine z_bipush hx hb dL_law_245 (by decide +kernel) ?_
                    refine mw_full (st1 := [.int (iI (SS.n qz231))]) (mr_V (As := [.int (iI 15)]) (rest := []) (ci := 2) (q0 := 0) ⟨hx, hb, hml, hown, hts⟩ (rd_cnt15 l D xo xh t ta cI cC cH hRqz231 (by omega)) (cwV 1 hts (gV q_344 q_345 q_346 q_37 q_304) rfl rfl rfl (by decide +kernel) ⟨Nat.le_of_ble_eq_true rfl, Nat.le_of_ble_eq_true rfl⟩) hN hK hP hD rfl rfl rfl hl.1 (Nat.le_of_ble_eq_true rfl) ⟨Nat.le_of_ble_eq_true rfl, Nat.le_of_ble_eq_true rfl⟩ dL_law_247) hD hS hA rfl (fun H locs hP hD hS => ?_)
                    have hv_22 := rb_cnt15 hRqz231 (by omega)
                    obtain ⟨left, e_left⟩ : ∃ z : Int, z = (SS.n qz231) := ⟨_, rfl⟩
                    refine z_as e_left.symm ?_
                    refine lv_istore (lv' := [(10, .int (iI left)), (2, .int (iI 1)), (9, .int (iI now)), (8, .int (iI had)), (6, .long (lookZ (SS.G qi))), (5, .int (iI ya)), (4, .int (iI xa)), (3, .int (iI (i : Int))), (1, .ref xo), (0, .ref b)]) hx hb dL_law_250 hl (by decide) rfl (fun ls hl => ?_)
                    refine lv_aload_n hx hb dL_law_252 rfl (lv_at hl 8 rfl) ?_
                    refine mw_full (st1 := [.int (iI (-1000002))]) (mr_V (As := []) (rest := []) (ci := 2) (q0 := 0) ⟨hx, hb, hml, hown, hts⟩ (sc_undo_no l D xo xh t ta cI cC cH hRqz231 (by omega) (by omega)) (cwV 0 hts (gV q_447 q_448 q_449 q_37 q_306) rfl rfl rfl (by decide +kernel) ⟨Nat.le_of_ble_eq_true rfl, Nat.le_of_ble_eq_true rfl⟩) hN hK hP hD rfl rfl rfl hl.1 (Nat.le_of_ble_eq_true rfl) ⟨Nat.le_of_ble_eq_true rfl, Nat.le_of_ble_eq_true rfl⟩ dL_law_253) hD hS hA rfl (fun H locs hP hD hS => ?_)
                    refine lv_iload hx hb dL_law_256 (lv_at hl 0 rfl) ?_
                    refine z_if_ne (tgt := 266) hx hb dL_law_258 (by decide) (by omega) (fun c_23 => absurd c_23 (by omega)) (fun c_23 => ?_)
                    refine z_ldc hx hb (-1000002) (by decide +kernel) hown (hq _ q_395) dL_law_261 ?_
                    refine lv_goto (tgt := 270) hx hb dL_law_263 (by decide) ?_
                    refine z_icmp_ne (tgt := 277) hx hb dL_law_270 (by decide) (by omega) (by omega) (fun c_24 => absurd c_24 (by omega)) (fun c_24 => ?_)
                    refine z_iconst hx hb dL_law_273 ?_
                    refine lv_goto (tgt := 278) hx hb dL_law_274 (by decide) ?_
                    refine lv_istore_n (lv' := [(2, .int (iI 1)), (10, .int (iI left)), (9, .int (iI now)), (8, .int (iI had)), (6, .long (lookZ (SS.G qi))), (5, .int (iI ya)), (4, .int (iI xa)), (3, .int (iI (i : Int))), (1, .ref xo), (0, .ref b)]) hx hb dL_law_278 rfl hl (by decide) rfl (fun ls hl => ?_)
                    exact SJ_18 qz231 _ _ _ hRqz231 hP hD hS (lv_sub (l' := [(2, .int (iI 1)), (9, .int (iI now)), (8, .int (iI had)), (6, .long (lookZ (SS.G qi))), (5, .int (iI ya)), (4, .int (iI xa)), (3, .int (iI (i : Int))), (1, .ref xo), (0, .ref b)]) hl [0, 2, 3, 4, 5, 6, 7, 8, 9] rfl)
                  · refine lv_aload_n hx hb dL_law_244 rfl (lv_at hl 7 rfl) ?_
                    refine z_bipush hx hb dL_law_245 (by decide +kernel) ?_
                    refine mw_full (st1 := [.int (iI (SS.n qz231))]) (mr_V (As := [.int (iI 15)]) (rest := []) (ci := 2) (q0 := 0) ⟨hx, hb, hml, hown, hts⟩ (rd_cnt15 l D xo xh t ta cI cC cH hRqz231 (by omega)) (cwV 1 hts (gV q_344 q_345 q_346 q_37 q_304) rfl rfl rfl (by decide +kernel) ⟨Nat.le_of_ble_eq_true rfl, Nat.le_of_ble_eq_true rfl⟩) hN hK hP hD rfl rfl rfl hl.1 (Nat.le_of_ble_eq_true rfl) ⟨Nat.le_of_ble_eq_true rfl, Nat.le_of_ble_eq_true rfl⟩ dL_law_247) hD hS hA rfl (fun H locs hP hD hS => ?_)
                    have hv_25 := rb_cnt15 hRqz231 (by omega)
                    obtain ⟨left, e_left⟩ : ∃ z : Int, z = (SS.n qz231) := ⟨_, rfl⟩
                    refine z_as e_left.symm ?_
                    refine lv_istore (lv' := [(10, .int (iI left)), (2, .int (iI 1)), (9, .int (iI now)), (8, .int (iI had)), (6, .long (lookZ (SS.G qi))), (5, .int (iI ya)), (4, .int (iI xa)), (3, .int (iI (i : Int))), (1, .ref xo), (0, .ref b)]) hx hb dL_law_250 hl (by decide) rfl (fun ls hl => ?_)
                    refine lv_aload_n hx hb dL_law_252 rfl (lv_at hl 8 rfl) ?_
                    obtain ⟨q3, mxq3, hRq3, hgq3, hnq3⟩ := sc_undo l D xo xh t ta cI cC cH hRqz231 (by omega) (by omega)
                    refine mw_full (st1 := [.int (iI (SS.n qz231 - 1))]) (mr_V (As := []) (rest := []) (ci := 2) (q0 := 0) ⟨hx, hb, hml, hown, hts⟩ mxq3 (cwV 0 hts (gV q_447 q_448 q_449 q_37 q_306) rfl rfl rfl (by decide +kernel) ⟨Nat.le_of_ble_eq_true rfl, Nat.le_of_ble_eq_true rfl⟩) hN hK hP hD rfl rfl rfl hl.1 (Nat.le_of_ble_eq_true rfl) ⟨Nat.le_of_ble_eq_true rfl, Nat.le_of_ble_eq_true rfl⟩ dL_law_253) hD hS hA rfl (fun H locs hP hD hS => ?_)
                    refine lv_iload hx hb dL_law_256 (lv_at hl 0 rfl) ?_
                    refine z_if_ne (tgt := 266) hx hb dL_law_258 (by decide) (by omega) (fun c_26 => ?_) (fun c_26 => absurd c_26 (by omega))
                    refine lv_iload hx hb dL_law_266 (lv_at hl 0 rfl) ?_
                    refine z_iconst hx hb dL_law_268 ?_
                    refine z_isub hx hb dL_law_269 ?_
                    refine z_icmp_ne (tgt := 277) hx hb dL_law_270 (by decide) (by omega) (by omega) (fun c_27 => absurd c_27 (by omega)) (fun c_27 => ?_)
                    refine z_iconst hx hb dL_law_273 ?_
                    refine lv_goto (tgt := 278) hx hb dL_law_274 (by decide) ?_
                    refine lv_istore_n (lv' := [(2, .int (iI 1)), (10, .int (iI left)), (9, .int (iI now)), (8, .int (iI had)), (6, .long (lookZ (SS.G qi))), (5, .int (iI ya)), (4, .int (iI xa)), (3, .int (iI (i : Int))), (1, .ref xo), (0, .ref b)]) hx hb dL_law_278 rfl hl (by decide) rfl (fun ls hl => ?_)
                    exact SJ_18 q3 _ _ _ hRq3 hP hD hS (lv_sub (l' := [(2, .int (iI 1)), (9, .int (iI now)), (8, .int (iI had)), (6, .long (lookZ (SS.G qi))), (5, .int (iI ya)), (4, .int (iI xa)), (3, .int (iI (i : Int))), (1, .ref xo), (0, .ref b)]) hl [0, 2, 3, 4, 5, 6, 7, 8, 9] rfl)
              refine lv_iload_n hx hb dL_law_181 rfl (lv_at hl 0 rfl) ?_
              refine z_if_eq (tgt := 231) hx hb dL_law_182 (by decide) (by omega) (fun c_28 => absurd c_28 (by omega)) (fun c_28 => ?_)
              refine lv_iload hx hb dL_law_185 (lv_at hl 1 rfl) ?_
              refine lv_iload hx hb dL_law_187 (lv_at hl 2 rfl) ?_
              refine z_iconst hx hb dL_law_189 ?_
              refine z_iadd hx hb dL_law_190 ?_
              refine z_icmp_ne (tgt := 231) hx hb dL_law_191 (by decide) (by omega) (by omega) (fun c_29 => ?_) (fun c_29 => ?_)
              · have hnz := hRqz125.2.1
                exact SJ_17 qz125 _ _ _ hRqz125 hP hD hS (lv_sub (l' := [(2, .int (iI 1)), (9, .int (iI now)), (8, .int (iI had)), (6, .long (lookZ (SS.G qi))), (5, .int (iI ya)), (4, .int (iI xa)), (3, .int (iI (i : Int))), (1, .ref xo), (0, .ref b)]) hl [0, 1, 2, 3, 4, 5, 6, 7, 8] rfl)
              · refine lv_iload hx hb dL_law_194 (lv_at hl 4 rfl) ?_
                refine z_bipush hx hb dL_law_196 (by decide +kernel) ?_
                refine lv_ishr hx hb dL_law_198 ?_
                obtain ⟨y_30, hy_30, ey_30⟩ := iI_ex (iI ya >>> (iI 8 &&& 31))
                refine z_asB (b := y_30) ey_30 ?_
                refine z_iconst hx hb dL_law_199 ?_
                refine mw_none (st1 := [.int (iI (lowZ y_30 (3 : Int)))]) (mr_S (As := [.int (iI y_30), .int (iI 3)]) (rest := []) ⟨hx, hb, hml, hown, hts⟩ (m_L_low l D y_30 (3 : Int) (by omega)) (va_cwS 2 hts (gS q_372 q_373 q_374 q_341) rfl rfl rfl (by decide +kernel) ⟨Nat.le_of_ble_eq_true rfl, Nat.le_of_ble_eq_true rfl⟩) hN (hK.sub (tys' := []) [] rfl) (va_P0 _ _ _) (va_D0 A) rfl hl.1 (Nat.le_of_ble_eq_true rfl) ⟨Nat.le_of_ble_eq_true rfl, Nat.le_of_ble_eq_true rfl⟩ dL_law_200) hP hS hA rfl (fun H locs hP hS => ?_)
                have hv_31 := low_bd y_30 (n := 3) (by omega)
                refine z_if_ne (tgt := 231) hx hb dL_law_203 (by decide) (by omega) (fun c_32 => ?_) (fun c_32 => ?_)
                · have hnz := hRqz125.2.1
                  exact SJ_17 qz125 _ _ _ hRqz125 hP hD hS (lv_sub (l' := [(2, .int (iI 1)), (9, .int (iI now)), (8, .int (iI had)), (6, .long (lookZ (SS.G qi))), (5, .int (iI ya)), (4, .int (iI xa)), (3, .int (iI (i : Int))), (1, .ref xo), (0, .ref b)]) hl [0, 1, 2, 3, 4, 5, 6, 7, 8] rfl)
                · refine lv_aload_n hx hb dL_law_206 rfl (lv_at hl 7 rfl) ?_
                  obtain ⟨q3, mxq3, hRq3, hgq3, hnq3⟩ := sc_undo l D xo xh t ta cI cC cH hRqz125 (by omega) (by omega)
                  refine mw_full (st1 := [.int (iI (SS.n qz125 - 1))]) (mr_V (As := []) (rest := []) (ci := 2) (q0 := 0) ⟨hx, hb, hml, hown, hts⟩ mxq3 (cwV 0 hts (gV q_447 q_448 q_449 q_37 q_306) rfl rfl rfl (by decide +kernel) ⟨Nat.le_of_ble_eq_true rfl, Nat.le_of_ble_eq_true rfl⟩) hN hK hP hD rfl rfl rfl hl.1 (Nat.le_of_ble_eq_true rfl) ⟨Nat.le_of_ble_eq_true rfl, Nat.le_of_ble_eq_true rfl⟩ dL_law_207) hD hS hA rfl (fun H locs hP hD hS => ?_)
                  refine lv_iload hx hb dL_law_210 (lv_at hl 2 rfl) ?_
                  refine z_icmp_ne (tgt := 229) hx hb dL_law_212 (by decide) (by omega) (by omega) (fun c_33 => absurd c_33 (by omega)) (fun c_33 => ?_)
                  refine lv_aload_n hx hb dL_law_215 rfl (lv_at hl 7 rfl) ?_
                  refine mw_full (st1 := [.long (lookZ (SS.G q3))]) (mr_S (As := [.ref xo]) (rest := []) ⟨hx, hb, hml, hown, hts⟩ (m_L_look l D xo xh t ta cI cC cH hRq3 (by omega)) (va_cwS 1 hts (gS q_452 q_453 q_374 q_359) rfl rfl rfl (by decide +kernel) ⟨Nat.le_of_ble_eq_true rfl, Nat.le_of_ble_eq_true rfl⟩) hN hK hP hD rfl hl.1 (Nat.le_of_ble_eq_true rfl) ⟨Nat.le_of_ble_eq_true rfl, Nat.le_of_ble_eq_true rfl⟩ dL_law_216) hD hS hA rfl (fun H locs hP hD hS => ?_)
                  refine lv_lload hx hb dL_law_219 (lv_at hl 3 rfl) ?_
                  refine W.lcmp hx hb dL_law_221 ?_
                  rw [show lg_cmp (lookZ (SS.G q3)) (lookZ (SS.G qi)) = iI 0 from by rw [hgq3, hHe (by omega)]; exact lcmp_self _]
                  refine z_if_ne (tgt := 229) hx hb dL_law_222 (by decide) (by omega) (fun c_34 => absurd c_34 (by omega)) (fun c_34 => ?_)
                  refine z_iconst hx hb dL_law_225 ?_
                  refine lv_goto (tgt := 230) hx hb dL_law_226 (by decide) ?_
                  refine lv_istore_n (lv' := [(2, .int (iI 1)), (9, .int (iI now)), (8, .int (iI had)), (6, .long (lookZ (SS.G qi))), (5, .int (iI ya)), (4, .int (iI xa)), (3, .int (iI (i : Int))), (1, .ref xo), (0, .ref b)]) hx hb dL_law_230 rfl hl (by decide) rfl (fun ls hl => ?_)
                  have hnz := hRq3.2.1
                  exact SJ_17 q3 _ _ _ hRq3 hP hD hS (lv_sub (l' := [(2, .int (iI 1)), (9, .int (iI now)), (8, .int (iI had)), (6, .long (lookZ (SS.G qi))), (5, .int (iI ya)), (4, .int (iI xa)), (3, .int (iI (i : Int))), (1, .ref xo), (0, .ref b)]) hl [0, 1, 2, 3, 4, 5, 6, 7, 8] rfl)
            refine lv_iload hx hb dL_law_143 (lv_at hl 0 rfl) ?_
            refine lv_iload hx hb dL_law_145 (lv_at hl 2 rfl) ?_
            refine z_icmp_ne (tgt := 166) hx hb dL_law_147 (by decide) (by omega) (by omega) (fun c_35 => ?_) (fun c_35 => ?_)
            · refine lv_iload hx hb dL_law_166 (lv_at hl 0 rfl) ?_
              refine lv_iload hx hb dL_law_168 (lv_at hl 2 rfl) ?_
              refine z_iconst hx hb dL_law_170 ?_
              refine z_iadd hx hb dL_law_171 ?_
              refine z_icmp_ne (tgt := 179) hx hb dL_law_172 (by decide) (by omega) (by omega) (fun c_36 => absurd c_36 (by omega)) (fun c_36 => ?_)
              exact J_15 _ _ hP hD hS
            · refine lv_iload hx hb dL_law_150 (lv_at hl 2 rfl) ?_
              refine z_iconst hx hb dL_law_152 ?_
              refine z_icmp_eq (tgt := 175) hx hb dL_law_153 (by decide) (by omega) (by omega) (fun c_37 => ?_) (fun c_37 => ?_)
              · exact J_15 _ _ hP hD hS
              · refine lv_aload_n hx hb dL_law_156 rfl (lv_at hl 7 rfl) ?_
                refine mw_full (st1 := [.long (lookZ (SS.G qz125))]) (mr_S (As := [.ref xo]) (rest := []) ⟨hx, hb, hml, hown, hts⟩ (m_L_look l D xo xh t ta cI cC cH hRqz125 (by omega)) (va_cwS 1 hts (gS q_452 q_453 q_374 q_359) rfl rfl rfl (by decide +kernel) ⟨Nat.le_of_ble_eq_true rfl, Nat.le_of_ble_eq_true rfl⟩) hN hK hP hD rfl hl.1 (Nat.le_of_ble_eq_true rfl) ⟨Nat.le_of_ble_eq_true rfl, Nat.le_of_ble_eq_true rfl⟩ dL_law_157) hD hS hA rfl (fun H locs hP hD hS => ?_)
                refine lv_lload hx hb dL_law_160 (lv_at hl 3 rfl) ?_
                refine W.lcmp hx hb dL_law_162 ?_
                rw [show lg_cmp (lookZ (SS.G qz125)) (lookZ (SS.G qi)) = iI 0 from by rw [hGe (by omega) (by omega)]; exact lcmp_self _]
                refine z_if_eq (tgt := 175) hx hb dL_law_163 (by decide) (by omega) (fun c_38 => ?_) (fun c_38 => absurd c_38 (by omega))
                exact J_15 _ _ hP hD hS
          refine lv_iload_n hx hb dL_law_108 rfl (lv_at hl 4 rfl) ?_
          refine z_bipush hx hb dL_law_109 (by decide +kernel) ?_
          refine z_irem hx hb dL_law_111 (by omega) (by omega) ?_
          refine z_iconst hx hb dL_law_112 ?_
          refine z_icmp_ne (tgt := 125) hx hb dL_law_113 (by decide) (by omega) (by omega) (fun c_39 => ?_) (fun c_39 => ?_)
          · exact SJ_12 q2 _ _ _ ⟨hRq2, haq2⟩ hP hD hS (lv_sub (l' := [(8, .int (iI had)), (6, .long (lookZ (SS.G qi))), (5, .int (iI ya)), (4, .int (iI xa)), (3, .int (iI (i : Int))), (2, .int (iI 1)), (1, .ref xo), (0, .ref b)]) hl [0, 1, 2, 3, 4, 5, 6, 7] rfl)
          · refine lv_aload_n hx hb dL_law_116 rfl (lv_at hl 6 rfl) ?_
            refine lv_iload hx hb dL_law_117 (lv_at hl 2 rfl) ?_
            refine me_go (st1 := [.int (iI 1)]) (me_S (As := [.ref xo, .int (iI ya)]) (rest := []) ⟨hx, hb, hml, hown, hts⟩ (m_L_would l D xo xh t ta cI cC cH hRq2 (by omega) ya (by omega)) (va_cwS 2 hts (gS q_445 q_446 q_374 q_384) rfl rfl rfl (by decide +kernel) ⟨Nat.le_of_ble_eq_true rfl, Nat.le_of_ble_eq_true rfl⟩) hN hK hP hD rfl hl.1 (Nat.le_of_ble_eq_true rfl) ⟨Nat.le_of_ble_eq_true rfl, Nat.le_of_ble_eq_true rfl⟩ dL_law_119) hD hS hA rfl (fun q3 H locs hu hP hD hS => ?_)
            obtain ⟨hRq3, hsq3⟩ := hu
            refine z_if_eq (tgt := 129) hx hb dL_law_122 (by decide) (by omega) (fun c_40 => absurd c_40 (by omega)) (fun c_40 => ?_)
            exact SJ_12 q3 _ _ _ ⟨hRq3, Aft_r haq2 hsq3⟩ hP hD hS (lv_sub (l' := [(8, .int (iI had)), (6, .long (lookZ (SS.G qi))), (5, .int (iI ya)), (4, .int (iI xa)), (3, .int (iI (i : Int))), (2, .int (iI 1)), (1, .ref xo), (0, .ref b)]) hl [0, 1, 2, 3, 4, 5, 6, 7] rfl)
        refine lv_iload_n hx hb dL_law_95 rfl (lv_at hl 4 rfl) ?_
        refine z_iconst hx hb dL_law_96 ?_
        refine z_irem hx hb dL_law_97 (by omega) (by omega) ?_
        refine z_if_gt (tgt := 108) hx hb dL_law_98 (by decide) (by omega) (fun c_41 => ?_) (fun c_41 => ?_)
        · exact J_10 _ _ hP hD hS
        · refine lv_aload_n hx hb dL_law_101 rfl (lv_at hl 6 rfl) ?_
          refine mw_full (st1 := [.int (iI 1)]) (mr_S (As := [.ref xo]) (rest := []) ⟨hx, hb, hml, hown, hts⟩ (m_L_holds l D xo xh t ta cI cC cH hRq2 (by omega)) (va_cwS 1 hts (gS q_443 q_444 q_374 q_370) rfl rfl rfl (by decide +kernel) ⟨Nat.le_of_ble_eq_true rfl, Nat.le_of_ble_eq_true rfl⟩) hN hK hP hD rfl hl.1 (Nat.le_of_ble_eq_true rfl) ⟨Nat.le_of_ble_eq_true rfl, Nat.le_of_ble_eq_true rfl⟩ dL_law_102) hD hS hA rfl (fun H locs hP hD hS => ?_)
          refine z_if_eq (tgt := 129) hx hb dL_law_105 (by decide) (by omega) (fun c_42 => absurd c_42 (by omega)) (fun c_42 => ?_)
          exact J_10 _ _ hP hD hS
  have e0_0 : (((0 : Nat) : Int)) = 0 := by first | rfl | omega
  exact LP40 (46 + 1) 0 q1 (by omega) (by omega) hRq1 _ _ _ hP hD hS (lv_to (lv_sub (l' := [(3, .int (iI 0)), (2, .int (iI 1)), (1, .ref xo), (0, .ref b)]) hl [0, 1, 2, 3] rfl) (by simp only [e0_0]))
