/-! a text looked through thrice, and played -/
set_option maxHeartbeats 4000000 in
theorem sc_reads (l : Launch) (D : va_G) (xo xh t : Nat) (ta : Nat → Nat) (cI cC cH : ClassId) {k : Nat} {q1 : SS} (h : CR k q1) (hk : k < 500) {m1 n : Int} (hx : TX q1 m1 n 0 ∨ TX q1 m1 (n - 1) 1) : ∃ (q2 q3 q4 q5 : SS) (va vr vc vt : Int), MW l D yX2_fault (wsY yX2_fault cX2_fault 2 (some .int)) { frames := 6, cells := 0, slots := 0, locals := 142 } (tyS cI cC cH) [.ref xo, .int (iI 0)] (wS xo xh t ta cI cC cH q1) (wS xo xh t ta cI cC cH q2) (some (.int (iI va))) ∧ MW l D yX2_fault (wsY yX2_fault cX2_fault 2 (some .int)) { frames := 6, cells := 0, slots := 0, locals := 142 } (tyS cI cC cH) [.ref xo, .int (iI 1)] (wS xo xh t ta cI cC cH q2) (wS xo xh t ta cI cC cH q3) (some (.int (iI vr))) ∧ MW l D yX2_fault (wsY yX2_fault cX2_fault 2 (some .int)) { frames := 6, cells := 0, slots := 0, locals := 142 } (tyS cI cC cH) [.ref xo, .int (iI 2)] (wS xo xh t ta cI cC cH q3) (wS xo xh t ta cI cC cH q4) (some (.int (iI vc))) ∧ MW l D yX2_play (wsY yX2_play cX2_play 1 (some .int)) { frames := 6, cells := 0, slots := 0, locals := 142 } (tyS cI cC cH) [.ref xo] (wS xo xh t ta cI cC cH q4) (wS xo xh t ta cI cC cH q5) (some (.int (iI vt))) ∧ CR (k + 1) q5 ∧ Aft q1 q5 ∧ SS.T q5 1 = SS.T q1 1 ∧ ((va = -1000004 ∧ vr = -1000004 ∧ vc = -1000004 ∧ vt = n ∧ SS.n q5 = (if SS.n q1 < 4 then SS.n q1 + 1 else 4)) ∨ ((0 ≤ va ∧ va < SS.T q1 1 0) ∧ ((vr = 1 ∧ 0 ≤ vc ∧ va + vc ≤ SS.T q1 1 0) ∨ (vr = 2 ∧ (vc = -1000001 ∨ vc = -1000002 ∨ vc = -1000003))) ∧ vt = -1000002 ∧ SS.n q5 = SS.n q1)) := by
  obtain ⟨q2, m2, h2, s2, t20, t21⟩ := sc_fault l D xo xh t ta cI cC cH h hk 0 (by omega)
  obtain ⟨q3, m3, h3, s3, t30, t31⟩ := sc_fault l D xo xh t ta cI cC cH h2 hk 1 (by omega)
  obtain ⟨q4, m4, h4, s4, t40, t41⟩ := sc_fault l D xo xh t ta cI cC cH h3 hk 2 (by omega)
  obtain ⟨q5, m5, h5, a5, n5, t5⟩ := sc_play l D xo xh t ta cI cC cH h4 hk
  have g1 := ff_text h.1.1 h.2.2.2.1 h.2.2.2.2 (by omega) 60 (Nat.le_refl 60)
  have g2 := ff_end h.1.1 h.2.2.2.1 h.2.2.2.2 (by omega)
  have f2 := ff_TR (SS.G q1) t20 t21 60
  have f3 := ff_TR (SS.G q1) (t30.trans t20) (t31.trans t21) 60
  have f4 := ff_TR (SS.G q1) (t40.trans (t30.trans t20)) (t41.trans (t31.trans t21)) 60
  have hi := ff_inv h.1.1 h.2.2.2.1 h.2.2.2.2 (by omega) 60 (Nat.le_refl 60)
  have e2 : SS.G q2 = SS.G q1 := s2.1
  have e3 : SS.G q3 = SS.G q1 := s3.1.trans e2
  have e4 : SS.G q4 = SS.G q1 := s4.1.trans e3
  have en : SS.n q4 = SS.n q1 := s4.2.1.trans (s3.2.1.trans s2.2.1)
  rw [e2] at m3
  rw [e3] at m4
  rw [e4] at m5 n5
  rw [en] at n5
  generalize ffI (SS.G q1) (SS.T q1) 60 = z at m2 f2 f3 f4 g1 g2 hi
  generalize ffI (SS.G q1) (SS.T q2) 60 = z2 at m3 f2
  generalize ffI (SS.G q1) (SS.T q3) 60 = z3 at m4 f3
  generalize ffI (SS.G q1) (SS.T q4) 60 = z4 at m5 n5 f4
  refine ⟨q2, q3, q4, q5, _, _, _, _, m2, m3, m4, m5, h5, Aft_l (Sme_tr (Sme_tr s2 s3) s4) a5, t5.trans (t41.trans (t31.trans t21)), ?_⟩
  obtain ⟨-, i2, i3, i4, i5, -, -⟩ := f2
  obtain ⟨-, j2, j3, j4, j5, -, -⟩ := f3
  obtain ⟨-, l2, l3, l4, l5, -, -⟩ := f4
  by_cases c : FF.f z = 0
  · left
    have v1 : ffV z = 0 := if_pos c
    have v2 : ffV z2 = 0 := if_pos (i4.trans c)
    have v3 : ffV z3 = 0 := if_pos (j4.trans c)
    have v4 : ffV z4 = 0 := if_pos (l4.trans c)
    rw [if_pos v4] at n5
    refine ⟨if_pos v1, if_pos v2, if_pos v3, ?_, n5⟩
    rw [if_pos v4, l2]
    obtain ⟨w1, w2⟩ := g2 c
    rcases hx with ⟨x1, x2, x3⟩ | ⟨x1, x2, x3⟩
    · rw [w1, x1, x2]
    · rw [x1, x3] at w2
      exact absurd w2 (by decide)
  · right
    have v1 : ¬ ffV z = 0 := by unfold ffV; rw [if_neg c]; decide
    have v2 : ¬ ffV z2 = 0 := by unfold ffV; rw [if_neg (fun q => c (i4.symm.trans q))]; decide
    have v3 : ¬ ffV z3 = 0 := by unfold ffV; rw [if_neg (fun q => c (j4.symm.trans q))]; decide
    have v4 : ¬ ffV z4 = 0 := by unfold ffV; rw [if_neg (fun q => c (l4.symm.trans q))]; decide
    obtain ⟨w1, w2, w3⟩ := g1.2 c
    have w4 := hi.2.2.2.2.2.2.1
    rw [if_neg v4] at n5
    rw [if_neg v1, if_neg v2, if_neg v3, if_neg v4, if_pos (show (0 : Int) = 0 from rfl), if_neg (show ¬ (1 : Int) = 0 by decide), if_pos (show (1 : Int) = 1 from rfl), if_neg (show ¬ (2 : Int) = 0 by decide), if_neg (show ¬ (2 : Int) = 1 by decide), i4, j5]
    refine ⟨w1, ?_, rfl, n5⟩
    have w4 : 0 ≤ FF.f z ∧ FF.f z ≤ 2 := w4
    rcases (show FF.f z = 1 ∨ FF.f z = 2 by omega) with b | b
    · exact Or.inl ⟨b, w2 b⟩
    · exact Or.inr ⟨b, w3 b⟩
set_option maxHeartbeats 8000000 in
set_option maxRecDepth 100000 in
theorem m_L_reads (l : Launch) (D : va_G) (xo xh t : Nat) (ta : Nat → Nat) (cI cC cH : ClassId) {k : Nat} {q : SS} (h : CR k q) (hk : k < 100) (x : Int) (h_x : -2147483648 ≤ x ∧ x < 2147483648) : ME l D yL_reads (wsY yL_reads cL_reads 10 (some .boolean)) { frames := 7, cells := 0, slots := 0, locals := 163 } (tyS cI cC cH) [.ref xo, .int (iI x)] (wS xo xh t ta cI cC cH q) (fun q' : SS => CR (k + 1) q' ∧ Aft q q') (fun q' : SS => wS xo xh t ta cI cC cH q') (some (.int (iI 1))) := by
  refine me_ofZ (cc := cL_reads) (maxL := 10) rfl (by decide) rfl (Nat.le_of_ble_eq_true rfl) ?_
  intro p e s m below meth c R A Q args ls hx hb hml hown hts hRf hRl hRc hRs hN hK hP hD hS hA hret hl
  have hq : ∀ w ∈ ALL, w.before args s = true := fun w h => hts w (List.mem_cons_of_mem _ h)
  have hl : lv_has ls 10 [(0, .ref xo), (1, .int (iI x))] := hl
  refine lv_aload_n hx hb dL_reads_0 rfl (lv_at hl 0 rfl) ?_
  refine lv_iload_n hx hb dL_reads_1 rfl (lv_at hl 1 rfl) ?_
  refine me_go (st1 := [.int (iI 1)]) (me_S (As := [.ref xo, .int (iI x)]) (rest := []) ⟨hx, hb, hml, hown, hts⟩ (m_L_types l D xo xh t ta cI cC cH h (by omega) x (by omega)) (va_cwS 2 hts (gS q_397 q_398 q_374 q_394) rfl rfl rfl (by decide +kernel) ⟨Nat.le_trans (m := 5) (Nat.le_of_ble_eq_true rfl) (Nat.le_trans (Nat.le_of_ble_eq_true rfl) hRf), Nat.le_trans (m := 112) (Nat.le_of_ble_eq_true rfl) (Nat.le_trans (Nat.le_of_ble_eq_true rfl) hRl)⟩) hN hK hP hD rfl hl.1 (Nat.le_of_ble_eq_true rfl) ⟨hRc, hRs⟩ dL_reads_2) hD hS hA rfl (fun q1 H locs hu hP hD hS => ?_)
  obtain ⟨hRq1, hsq1, hxq1⟩ := hu
  obtain ⟨m1, hm1⟩ := hxq1
  obtain ⟨q2, q3, q4, q5, va, vr, vc, vt, mxA, mxB, mxC, mxD, hR5, ha5, ht5, hcase⟩ := sc_reads l D xo xh t ta cI cC cH hRq1 (by omega) hm1
  have e16 : SS.T q5 1 0 = SS.T q1 1 0 := by rw [ht5]
  refine lv_istore_n (lv' := [(2, .int (iI 1)), (0, .ref xo), (1, .int (iI x))]) hx hb dL_reads_5 rfl hl (by decide) rfl (fun ls hl => ?_)
  have hlw := low_bd x (n := 6) (by omega)
  have hT5 := hR5.2.2.2.1.1
  refine lv_aload_n hx hb dL_reads_6 rfl (lv_at hl 1 rfl) ?_
  refine z_bipush hx hb dL_reads_7 (by decide +kernel) ?_
  refine mw_full (st1 := [.int (iI (SS.T q1 1 0))]) (mr_V (As := [.int (iI 16)]) (rest := []) (ci := 2) (q0 := 0) ⟨hx, hb, hml, hown, hts⟩ (rd_cnt16 l D xo xh t ta cI cC cH hRq1 (by omega)) (cwV 1 hts (gV q_344 q_345 q_346 q_37 q_304) rfl rfl rfl (by decide +kernel) ⟨Nat.le_trans (m := 6) (Nat.le_of_ble_eq_true rfl) (Nat.le_trans (Nat.le_of_ble_eq_true rfl) hRf), Nat.le_trans (m := 133) (Nat.le_of_ble_eq_true rfl) (Nat.le_trans (Nat.le_of_ble_eq_true rfl) hRl)⟩) hN hK hP hD rfl rfl rfl hl.1 (Nat.le_of_ble_eq_true rfl) ⟨hRc, hRs⟩ dL_reads_9) hD hS hA rfl (fun H locs hP hD hS => ?_)
  have hv_1 := rb_cnt16 hRq1 (by omega)
  refine lv_istore_n (lv' := [(3, .int (iI (SS.T q1 1 0))), (2, .int (iI 1)), (0, .ref xo), (1, .int (iI x))]) hx hb dL_reads_12 rfl hl (by decide) rfl (fun ls hl => ?_)
  refine lv_aload_n hx hb dL_reads_13 rfl (lv_at hl 2 rfl) ?_
  refine z_bipush hx hb dL_reads_14 (by decide +kernel) ?_
  refine mw_full (st1 := [.int (iI (SS.n q1))]) (mr_V (As := [.int (iI 15)]) (rest := []) (ci := 2) (q0 := 0) ⟨hx, hb, hml, hown, hts⟩ (rd_cnt15 l D xo xh t ta cI cC cH hRq1 (by omega)) (cwV 1 hts (gV q_344 q_345 q_346 q_37 q_304) rfl rfl rfl (by decide +kernel) ⟨Nat.le_trans (m := 6) (Nat.le_of_ble_eq_true rfl) (Nat.le_trans (Nat.le_of_ble_eq_true rfl) hRf), Nat.le_trans (m := 133) (Nat.le_of_ble_eq_true rfl) (Nat.le_trans (Nat.le_of_ble_eq_true rfl) hRl)⟩) hN hK hP hD rfl rfl rfl hl.1 (Nat.le_of_ble_eq_true rfl) ⟨hRc, hRs⟩ dL_reads_16) hD hS hA rfl (fun H locs hP hD hS => ?_)
  have hv_2 := rb_cnt15 hRq1 (by omega)
  refine lv_istore (lv' := [(4, .int (iI (SS.n q1))), (3, .int (iI (SS.T q1 1 0))), (2, .int (iI 1)), (0, .ref xo), (1, .int (iI x))]) hx hb dL_reads_19 hl (by decide) rfl (fun ls hl => ?_)
  refine lv_aload_n hx hb dL_reads_21 rfl (lv_at hl 3 rfl) ?_
  refine z_iconst hx hb dL_reads_22 ?_
  refine mw_full (st1 := [.int (iI va)]) (mr_V (As := [.int (iI 0)]) (rest := []) (ci := 2) (q0 := 0) ⟨hx, hb, hml, hown, hts⟩ mxA (cwV 1 hts (gV q_399 q_400 q_401 q_37 q_336) rfl rfl rfl (by decide +kernel) ⟨Nat.le_trans (m := 7) (Nat.le_of_ble_eq_true rfl) (Nat.le_trans (Nat.le_of_ble_eq_true rfl) hRf), Nat.le_trans (m := 163) (Nat.le_of_ble_eq_true rfl) (Nat.le_trans (Nat.le_of_ble_eq_true rfl) hRl)⟩) hN hK hP hD rfl rfl rfl hl.1 (Nat.le_of_ble_eq_true rfl) ⟨hRc, hRs⟩ dL_reads_23) hD hS hA rfl (fun H locs hP hD hS => ?_)
  refine lv_istore (lv' := [(5, .int (iI va)), (4, .int (iI (SS.n q1))), (3, .int (iI (SS.T q1 1 0))), (2, .int (iI 1)), (0, .ref xo), (1, .int (iI x))]) hx hb dL_reads_26 hl (by decide) rfl (fun ls hl => ?_)
  refine lv_aload_n hx hb dL_reads_28 rfl (lv_at hl 4 rfl) ?_
  refine z_iconst hx hb dL_reads_29 ?_
  refine mw_full (st1 := [.int (iI vr)]) (mr_V (As := [.int (iI 1)]) (rest := []) (ci := 2) (q0 := 0) ⟨hx, hb, hml, hown, hts⟩ mxB (cwV 1 hts (gV q_399 q_400 q_401 q_37 q_336) rfl rfl rfl (by decide +kernel) ⟨Nat.le_trans (m := 7) (Nat.le_of_ble_eq_true rfl) (Nat.le_trans (Nat.le_of_ble_eq_true rfl) hRf), Nat.le_trans (m := 163) (Nat.le_of_ble_eq_true rfl) (Nat.le_trans (Nat.le_of_ble_eq_true rfl) hRl)⟩) hN hK hP hD rfl rfl rfl hl.1 (Nat.le_of_ble_eq_true rfl) ⟨hRc, hRs⟩ dL_reads_30) hD hS hA rfl (fun H locs hP hD hS => ?_)
  refine lv_istore (lv' := [(6, .int (iI vr)), (5, .int (iI va)), (4, .int (iI (SS.n q1))), (3, .int (iI (SS.T q1 1 0))), (2, .int (iI 1)), (0, .ref xo), (1, .int (iI x))]) hx hb dL_reads_33 hl (by decide) rfl (fun ls hl => ?_)
  refine lv_aload_n hx hb dL_reads_35 rfl (lv_at hl 5 rfl) ?_
  refine z_iconst hx hb dL_reads_36 ?_
  refine mw_full (st1 := [.int (iI vc)]) (mr_V (As := [.int (iI 2)]) (rest := []) (ci := 2) (q0 := 0) ⟨hx, hb, hml, hown, hts⟩ mxC (cwV 1 hts (gV q_399 q_400 q_401 q_37 q_336) rfl rfl rfl (by decide +kernel) ⟨Nat.le_trans (m := 7) (Nat.le_of_ble_eq_true rfl) (Nat.le_trans (Nat.le_of_ble_eq_true rfl) hRf), Nat.le_trans (m := 163) (Nat.le_of_ble_eq_true rfl) (Nat.le_trans (Nat.le_of_ble_eq_true rfl) hRl)⟩) hN hK hP hD rfl rfl rfl hl.1 (Nat.le_of_ble_eq_true rfl) ⟨hRc, hRs⟩ dL_reads_37) hD hS hA rfl (fun H locs hP hD hS => ?_)
  refine lv_istore (lv' := [(7, .int (iI vc)), (6, .int (iI vr)), (5, .int (iI va)), (4, .int (iI (SS.n q1))), (3, .int (iI (SS.T q1 1 0))), (2, .int (iI 1)), (0, .ref xo), (1, .int (iI x))]) hx hb dL_reads_40 hl (by decide) rfl (fun ls hl => ?_)
  refine lv_aload_n hx hb dL_reads_42 rfl (lv_at hl 6 rfl) ?_
  refine mw_full (st1 := [.int (iI vt)]) (mr_V (As := []) (rest := []) (ci := 2) (q0 := 0) ⟨hx, hb, hml, hown, hts⟩ mxD (cwV 0 hts (gV q_402 q_403 q_404 q_37 q_337) rfl rfl rfl (by decide +kernel) ⟨Nat.le_trans (m := 7) (Nat.le_of_ble_eq_true rfl) (Nat.le_trans (Nat.le_of_ble_eq_true rfl) hRf), Nat.le_trans (m := 162) (Nat.le_of_ble_eq_true rfl) (Nat.le_trans (Nat.le_of_ble_eq_true rfl) hRl)⟩) hN hK hP hD rfl rfl rfl hl.1 (Nat.le_of_ble_eq_true rfl) ⟨hRc, hRs⟩ dL_reads_43) hD hS hA rfl (fun H locs hP hD hS => ?_)
  refine lv_istore (lv' := [(8, .int (iI vt)), (7, .int (iI vc)), (6, .int (iI vr)), (5, .int (iI va)), (4, .int (iI (SS.n q1))), (3, .int (iI (SS.T q1 1 0))), (2, .int (iI 1)), (0, .ref xo), (1, .int (iI x))]) hx hb dL_reads_46 hl (by decide) rfl (fun ls hl => ?_)
  refine lv_iload_n hx hb dL_reads_48 rfl (lv_at hl 6 rfl) ?_
  refine z_if_eq (tgt := 145) hx hb dL_reads_49 (by decide) (by omega) (fun c_3 => absurd c_3 (by omega)) (fun c_3 => ?_)
  refine lv_aload_n hx hb dL_reads_52 rfl (lv_at hl 7 rfl) ?_
  refine z_bipush hx hb dL_reads_53 (by decide +kernel) ?_
  refine mw_full (st1 := [.int (iI (SS.T q5 1 0))]) (mr_V (As := [.int (iI 16)]) (rest := []) (ci := 2) (q0 := 0) ⟨hx, hb, hml, hown, hts⟩ (rd_cnt16 l D xo xh t ta cI cC cH hR5 (by omega)) (cwV 1 hts (gV q_344 q_345 q_346 q_37 q_304) rfl rfl rfl (by decide +kernel) ⟨Nat.le_trans (m := 6) (Nat.le_of_ble_eq_true rfl) (Nat.le_trans (Nat.le_of_ble_eq_true rfl) hRf), Nat.le_trans (m := 133) (Nat.le_of_ble_eq_true rfl) (Nat.le_trans (Nat.le_of_ble_eq_true rfl) hRl)⟩) hN hK hP hD rfl rfl rfl hl.1 (Nat.le_of_ble_eq_true rfl) ⟨hRc, hRs⟩ dL_reads_55) hD hS hA rfl (fun H locs hP hD hS => ?_)
  have hv_4 := rb_cnt16 hR5 (by omega)
  refine lv_iload_n hx hb dL_reads_58 rfl (lv_at hl 5 rfl) ?_
  refine z_icmp_ne (tgt := 145) hx hb dL_reads_59 (by decide) (by omega) (by omega) (fun c_5 => absurd c_5 (by omega)) (fun c_5 => ?_)
  have J_6 : ∀ (bz_7 : Int) (H : Heap) (locs : List Loc), (bz_7 = (if va = -1000004 then 1 else 0)) → va_P D vwCl (wS xo xh t ta cI cC cH q5) H → va_D A (wS xo xh t ta cI cC cH q5) → va_S A s.heap H locs → W p l e R s m args below meth c H locs 0 0 Q (F0 m 74 ls [.int (iI bz_7)]) := by
    intro bz_7 H locs hbz_7 hP hD hS
    have J_8 : ∀ (bz_9 : Int) (H : Heap) (locs : List Loc), (bz_9 = (if vr = -1000004 then 1 else 0)) → va_P D vwCl (wS xo xh t ta cI cC cH q5) H → va_D A (wS xo xh t ta cI cC cH q5) → va_S A s.heap H locs → W p l e R s m args below meth c H locs 0 0 Q (F0 m 86 ls [.int (iI bz_9), .int (iI bz_7)]) := by
      intro bz_9 H locs hbz_9 hP hD hS
      refine z_icmp_ne (tgt := 145) hx hb dL_reads_86 (by decide) (by omega) (by omega) (fun c_10 => absurd c_10 (by omega)) (fun c_10 => ?_)
      have J_11 : ∀ (bz_12 : Int) (H : Heap) (locs : List Loc), (bz_12 = (if va = -1000004 then 1 else 0)) → va_P D vwCl (wS xo xh t ta cI cC cH q5) H → va_D A (wS xo xh t ta cI cC cH q5) → va_S A s.heap H locs → W p l e R s m args below meth c H locs 0 0 Q (F0 m 101 ls [.int (iI bz_12)]) := by
        intro bz_12 H locs hbz_12 hP hD hS
        have J_13 : ∀ (bz_14 : Int) (H : Heap) (locs : List Loc), (bz_14 = (if vc = -1000004 then 1 else 0)) → va_P D vwCl (wS xo xh t ta cI cC cH q5) H → va_D A (wS xo xh t ta cI cC cH q5) → va_S A s.heap H locs → W p l e R s m args below meth c H locs 0 0 Q (F0 m 113 ls [.int (iI bz_14), .int (iI bz_12)]) := by
          intro bz_14 H locs hbz_14 hP hD hS
          refine z_icmp_ne (tgt := 145) hx hb dL_reads_113 (by decide) (by omega) (by omega) (fun c_15 => absurd c_15 (by omega)) (fun c_15 => ?_)
          have J_16 : ∀ (bz_17 : Int) (H : Heap) (locs : List Loc), (bz_17 = (if vt = -1000002 then 1 else 0)) → va_P D vwCl (wS xo xh t ta cI cC cH q5) H → va_D A (wS xo xh t ta cI cC cH q5) → va_S A s.heap H locs → W p l e R s m args below meth c H locs 0 0 Q (F0 m 128 ls [.int (iI bz_17)]) := by
            intro bz_17 H locs hbz_17 hP hD hS
            have J_18 : ∀ (bz_19 : Int) (H : Heap) (locs : List Loc), (bz_19 = (if 0 ≤ va then 1 else 0)) → va_P D vwCl (wS xo xh t ta cI cC cH q5) H → va_D A (wS xo xh t ta cI cC cH q5) → va_S A s.heap H locs → W p l e R s m args below meth c H locs 0 0 Q (F0 m 138 ls [.int (iI bz_19), .int (iI bz_17)]) := by
              intro bz_19 H locs hbz_19 hP hD hS
              refine z_icmp_ne (tgt := 145) hx hb dL_reads_138 (by decide) (by omega) (by omega) (fun c_20 => absurd c_20 (by omega)) (fun c_20 => ?_)
              refine z_iconst hx hb dL_reads_141 ?_
              refine lv_goto (tgt := 146) hx hb dL_reads_142 (by decide) ?_
              refine lv_istore (lv' := [(9, .int (iI 1)), (8, .int (iI vt)), (7, .int (iI vc)), (6, .int (iI vr)), (5, .int (iI va)), (4, .int (iI (SS.n q1))), (3, .int (iI (SS.T q1 1 0))), (2, .int (iI 1)), (0, .ref xo), (1, .int (iI x))]) hx hb dL_reads_146 hl (by decide) rfl (fun ls hl => ?_)
              refine lv_iload hx hb dL_reads_148 (lv_at hl 0 rfl) ?_
              refine z_if_eq (tgt := 266) hx hb dL_reads_150 (by decide) (by omega) (fun c_21 => absurd c_21 (by omega)) (fun c_21 => ?_)
              refine lv_iload hx hb dL_reads_153 (lv_at hl 4 rfl) ?_
              refine z_if_lt (tgt := 228) hx hb dL_reads_155 (by decide) (by omega) (fun c_22 => ?_) (fun c_22 => ?_)
              · refine lv_iload hx hb dL_reads_228 (lv_at hl 1 rfl) ?_
                refine lv_iload_n hx hb dL_reads_230 rfl (lv_at hl 9 rfl) ?_
                refine z_bipush hx hb dL_reads_231 (by decide +kernel) ?_
                refine mw_none (st1 := [.int (iI (lowZ x (6 : Int))), .int (iI vt)]) (mr_S (As := [.int (iI x), .int (iI 6)]) (rest := [.int (iI vt)]) ⟨hx, hb, hml, hown, hts⟩ (m_L_low l D x (6 : Int) (by omega)) (va_cwS 2 hts (gS q_372 q_373 q_374 q_341) rfl rfl rfl (by decide +kernel) ⟨Nat.le_trans (m := 1) (Nat.le_of_ble_eq_true rfl) (Nat.le_trans (Nat.le_of_ble_eq_true rfl) hRf), Nat.le_trans (m := 21) (Nat.le_of_ble_eq_true rfl) (Nat.le_trans (Nat.le_of_ble_eq_true rfl) hRl)⟩) hN (hK.sub (tys' := []) [] rfl) (va_P0 _ _ _) (va_D0 A) rfl hl.1 (Nat.le_of_ble_eq_true rfl) ⟨hRc, hRs⟩ dL_reads_233) hP hS hA rfl (fun H locs hP hS => ?_)
                have hv_23 := low_bd x (n := 6) (by omega)
                refine z_icmp_ne (tgt := 266) hx hb dL_reads_236 (by decide) (by omega) (by omega) (fun c_24 => absurd c_24 (by omega)) (fun c_24 => ?_)
                refine lv_aload_n hx hb dL_reads_239 rfl (lv_at hl 8 rfl) ?_
                refine z_bipush hx hb dL_reads_240 (by decide +kernel) ?_
                refine mw_full (st1 := [.int (iI (SS.n q5))]) (mr_V (As := [.int (iI 15)]) (rest := []) (ci := 2) (q0 := 0) ⟨hx, hb, hml, hown, hts⟩ (rd_cnt15 l D xo xh t ta cI cC cH hR5 (by omega)) (cwV 1 hts (gV q_344 q_345 q_346 q_37 q_304) rfl rfl rfl (by decide +kernel) ⟨Nat.le_trans (m := 6) (Nat.le_of_ble_eq_true rfl) (Nat.le_trans (Nat.le_of_ble_eq_true rfl) hRf), Nat.le_trans (m := 133) (Nat.le_of_ble_eq_true rfl) (Nat.le_trans (Nat.le_of_ble_eq_true rfl) hRl)⟩) hN hK hP hD rfl rfl rfl hl.1 (Nat.le_of_ble_eq_true rfl) ⟨hRc, hRs⟩ dL_reads_242) hD hS hA rfl (fun H locs hP hD hS => ?_)
                have hv_25 := rb_cnt15 hR5 (by omega)
                have J_26 : ∀ (bz_27 : Int) (H : Heap) (locs : List Loc), (bz_27 = (if (SS.n q1) < 4 then (SS.n q1) + 1 else 4)) → va_P D vwCl (wS xo xh t ta cI cC cH q5) H → va_D A (wS xo xh t ta cI cC cH q5) → va_S A s.heap H locs → W p l e R s m args below meth c H locs 0 0 Q (F0 m 259 ls [.int (iI bz_27), .int (iI (SS.n q5))]) := by
                  intro bz_27 H locs hbz_27 hP hD hS
                  refine z_icmp_ne (tgt := 266) hx hb dL_reads_259 (by decide) (by omega) (by omega) (fun c_28 => absurd c_28 (by omega)) (fun c_28 => ?_)
                  refine z_iconst hx hb dL_reads_262 ?_
                  refine lv_goto (tgt := 267) hx hb dL_reads_263 (by decide) ?_
                  exact hret q5 _ _ _ _ ⟨hR5, Aft_l hsq1 ha5⟩ dL_reads_267 hP hD hS
                refine lv_iload hx hb dL_reads_245 (lv_at hl 5 rfl) ?_
                refine z_iconst hx hb dL_reads_247 ?_
                refine z_icmp_ge (tgt := 258) hx hb dL_reads_248 (by decide) (by omega) (by omega) (fun c_29 => ?_) (fun c_29 => ?_)
                · refine z_iconst hx hb dL_reads_258 ?_
                  exact J_26 4 _ _ (by omega) hP hD hS
                · refine lv_iload hx hb dL_reads_251 (lv_at hl 5 rfl) ?_
                  refine z_iconst hx hb dL_reads_253 ?_
                  refine z_iadd hx hb dL_reads_254 ?_
                  refine lv_goto (tgt := 259) hx hb dL_reads_255 (by decide) ?_
                  exact J_26 ((SS.n q1) + 1) _ _ (by omega) hP hD hS
              · refine lv_iload hx hb dL_reads_158 (lv_at hl 4 rfl) ?_
                refine lv_iload_n hx hb dL_reads_160 rfl (lv_at hl 6 rfl) ?_
                refine z_icmp_ge (tgt := 266) hx hb dL_reads_161 (by decide) (by omega) (by omega) (fun c_30 => absurd c_30 (by omega)) (fun c_30 => ?_)
                refine lv_iload hx hb dL_reads_164 (lv_at hl 3 rfl) ?_
                refine z_iconst hx hb dL_reads_166 ?_
                refine z_icmp_ne (tgt := 187) hx hb dL_reads_167 (by decide) (by omega) (by omega) (fun c_31 => ?_) (fun c_31 => ?_)
                · refine lv_iload hx hb dL_reads_187 (lv_at hl 3 rfl) ?_
                  refine z_iconst hx hb dL_reads_189 ?_
                  refine z_icmp_ne (tgt := 266) hx hb dL_reads_190 (by decide) (by omega) (by omega) (fun c_32 => absurd c_32 (by omega)) (fun c_32 => ?_)
                  refine lv_iload hx hb dL_reads_193 (lv_at hl 2 rfl) ?_
                  refine z_ldc hx hb (-1000001) (by decide +kernel) hown (hq _ q_371) dL_reads_195 ?_
                  refine z_icmp_eq (tgt := 214) hx hb dL_reads_197 (by decide) (by omega) (by omega) (fun c_33 => ?_) (fun c_33 => ?_)
                  · refine lv_aload_n hx hb dL_reads_214 rfl (lv_at hl 8 rfl) ?_
                    refine z_bipush hx hb dL_reads_215 (by decide +kernel) ?_
                    refine mw_full (st1 := [.int (iI (SS.n q5))]) (mr_V (As := [.int (iI 15)]) (rest := []) (ci := 2) (q0 := 0) ⟨hx, hb, hml, hown, hts⟩ (rd_cnt15 l D xo xh t ta cI cC cH hR5 (by omega)) (cwV 1 hts (gV q_344 q_345 q_346 q_37 q_304) rfl rfl rfl (by decide +kernel) ⟨Nat.le_trans (m := 6) (Nat.le_of_ble_eq_true rfl) (Nat.le_trans (Nat.le_of_ble_eq_true rfl) hRf), Nat.le_trans (m := 133) (Nat.le_of_ble_eq_true rfl) (Nat.le_trans (Nat.le_of_ble_eq_true rfl) hRl)⟩) hN hK hP hD rfl rfl rfl hl.1 (Nat.le_of_ble_eq_true rfl) ⟨hRc, hRs⟩ dL_reads_217) hD hS hA rfl (fun H locs hP hD hS => ?_)
                    have hv_34 := rb_cnt15 hR5 (by omega)
                    refine lv_iload hx hb dL_reads_220 (lv_at hl 5 rfl) ?_
                    refine z_icmp_ne (tgt := 266) hx hb dL_reads_222 (by decide) (by omega) (by omega) (fun c_35 => absurd c_35 (by omega)) (fun c_35 => ?_)
                    refine lv_goto (tgt := 262) hx hb dL_reads_225 (by decide) ?_
                    refine z_iconst hx hb dL_reads_262 ?_
                    refine lv_goto (tgt := 267) hx hb dL_reads_263 (by decide) ?_
                    exact hret q5 _ _ _ _ ⟨hR5, Aft_l hsq1 ha5⟩ dL_reads_267 hP hD hS
                  · refine lv_iload hx hb dL_reads_200 (lv_at hl 2 rfl) ?_
                    refine z_ldc hx hb (-1000002) (by decide +kernel) hown (hq _ q_395) dL_reads_202 ?_
                    refine z_icmp_eq (tgt := 214) hx hb dL_reads_204 (by decide) (by omega) (by omega) (fun c_36 => ?_) (fun c_36 => ?_)
                    · refine lv_aload_n hx hb dL_reads_214 rfl (lv_at hl 8 rfl) ?_
                      refine z_bipush hx hb dL_reads_215 (by decide +kernel) ?_
                      refine mw_full (st1 := [.int (iI (SS.n q5))]) (mr_V (As := [.int (iI 15)]) (rest := []) (ci := 2) (q0 := 0) ⟨hx, hb, hml, hown, hts⟩ (rd_cnt15 l D xo xh t ta cI cC cH hR5 (by omega)) (cwV 1 hts (gV q_344 q_345 q_346 q_37 q_304) rfl rfl rfl (by decide +kernel) ⟨Nat.le_trans (m := 6) (Nat.le_of_ble_eq_true rfl) (Nat.le_trans (Nat.le_of_ble_eq_true rfl) hRf), Nat.le_trans (m := 133) (Nat.le_of_ble_eq_true rfl) (Nat.le_trans (Nat.le_of_ble_eq_true rfl) hRl)⟩) hN hK hP hD rfl rfl rfl hl.1 (Nat.le_of_ble_eq_true rfl) ⟨hRc, hRs⟩ dL_reads_217) hD hS hA rfl (fun H locs hP hD hS => ?_)
                      have hv_37 := rb_cnt15 hR5 (by omega)
                      refine lv_iload hx hb dL_reads_220 (lv_at hl 5 rfl) ?_
                      refine z_icmp_ne (tgt := 266) hx hb dL_reads_222 (by decide) (by omega) (by omega) (fun c_38 => absurd c_38 (by omega)) (fun c_38 => ?_)
                      refine lv_goto (tgt := 262) hx hb dL_reads_225 (by decide) ?_
                      refine z_iconst hx hb dL_reads_262 ?_
                      refine lv_goto (tgt := 267) hx hb dL_reads_263 (by decide) ?_
                      exact hret q5 _ _ _ _ ⟨hR5, Aft_l hsq1 ha5⟩ dL_reads_267 hP hD hS
                    · refine lv_iload hx hb dL_reads_207 (lv_at hl 2 rfl) ?_
                      refine z_ldc hx hb (-1000003) (by decide +kernel) hown (hq _ q_396) dL_reads_209 ?_
                      refine z_icmp_ne (tgt := 266) hx hb dL_reads_211 (by decide) (by omega) (by omega) (fun c_39 => absurd c_39 (by omega)) (fun c_39 => ?_)
                      refine lv_aload_n hx hb dL_reads_214 rfl (lv_at hl 8 rfl) ?_
                      refine z_bipush hx hb dL_reads_215 (by decide +kernel) ?_
                      refine mw_full (st1 := [.int (iI (SS.n q5))]) (mr_V (As := [.int (iI 15)]) (rest := []) (ci := 2) (q0 := 0) ⟨hx, hb, hml, hown, hts⟩ (rd_cnt15 l D xo xh t ta cI cC cH hR5 (by omega)) (cwV 1 hts (gV q_344 q_345 q_346 q_37 q_304) rfl rfl rfl (by decide +kernel) ⟨Nat.le_trans (m := 6) (Nat.le_of_ble_eq_true rfl) (Nat.le_trans (Nat.le_of_ble_eq_true rfl) hRf), Nat.le_trans (m := 133) (Nat.le_of_ble_eq_true rfl) (Nat.le_trans (Nat.le_of_ble_eq_true rfl) hRl)⟩) hN hK hP hD rfl rfl rfl hl.1 (Nat.le_of_ble_eq_true rfl) ⟨hRc, hRs⟩ dL_reads_217) hD hS hA rfl (fun H locs hP hD hS => ?_)
                      have hv_40 := rb_cnt15 hR5 (by omega)
                      refine lv_iload hx hb dL_reads_220 (lv_at hl 5 rfl) ?_
                      refine z_icmp_ne (tgt := 266) hx hb dL_reads_222 (by decide) (by omega) (by omega) (fun c_41 => absurd c_41 (by omega)) (fun c_41 => ?_)
                      refine lv_goto (tgt := 262) hx hb dL_reads_225 (by decide) ?_
                      refine z_iconst hx hb dL_reads_262 ?_
                      refine lv_goto (tgt := 267) hx hb dL_reads_263 (by decide) ?_
                      exact hret q5 _ _ _ _ ⟨hR5, Aft_l hsq1 ha5⟩ dL_reads_267 hP hD hS
                · refine lv_iload hx hb dL_reads_170 (lv_at hl 2 rfl) ?_
                  refine z_if_lt (tgt := 266) hx hb dL_reads_172 (by decide) (by omega) (fun c_42 => absurd c_42 (by omega)) (fun c_42 => ?_)
                  refine lv_iload hx hb dL_reads_175 (lv_at hl 4 rfl) ?_
                  refine lv_iload hx hb dL_reads_177 (lv_at hl 2 rfl) ?_
                  refine z_iadd hx hb dL_reads_179 ?_
                  refine lv_iload_n hx hb dL_reads_180 rfl (lv_at hl 6 rfl) ?_
                  refine z_icmp_gt (tgt := 266) hx hb dL_reads_181 (by decide) (by omega) (by omega) (fun c_43 => absurd c_43 (by omega)) (fun c_43 => ?_)
                  refine lv_goto (tgt := 214) hx hb dL_reads_184 (by decide) ?_
                  refine lv_aload_n hx hb dL_reads_214 rfl (lv_at hl 8 rfl) ?_
                  refine z_bipush hx hb dL_reads_215 (by decide +kernel) ?_
                  refine mw_full (st1 := [.int (iI (SS.n q5))]) (mr_V (As := [.int (iI 15)]) (rest := []) (ci := 2) (q0 := 0) ⟨hx, hb, hml, hown, hts⟩ (rd_cnt15 l D xo xh t ta cI cC cH hR5 (by omega)) (cwV 1 hts (gV q_344 q_345 q_346 q_37 q_304) rfl rfl rfl (by decide +kernel) ⟨Nat.le_trans (m := 6) (Nat.le_of_ble_eq_true rfl) (Nat.le_trans (Nat.le_of_ble_eq_true rfl) hRf), Nat.le_trans (m := 133) (Nat.le_of_ble_eq_true rfl) (Nat.le_trans (Nat.le_of_ble_eq_true rfl) hRl)⟩) hN hK hP hD rfl rfl rfl hl.1 (Nat.le_of_ble_eq_true rfl) ⟨hRc, hRs⟩ dL_reads_217) hD hS hA rfl (fun H locs hP hD hS => ?_)
                  have hv_44 := rb_cnt15 hR5 (by omega)
                  refine lv_iload hx hb dL_reads_220 (lv_at hl 5 rfl) ?_
                  refine z_icmp_ne (tgt := 266) hx hb dL_reads_222 (by decide) (by omega) (by omega) (fun c_45 => absurd c_45 (by omega)) (fun c_45 => ?_)
                  refine lv_goto (tgt := 262) hx hb dL_reads_225 (by decide) ?_
                  refine z_iconst hx hb dL_reads_262 ?_
                  refine lv_goto (tgt := 267) hx hb dL_reads_263 (by decide) ?_
                  exact hret q5 _ _ _ _ ⟨hR5, Aft_l hsq1 ha5⟩ dL_reads_267 hP hD hS
            refine lv_iload hx hb dL_reads_128 (lv_at hl 3 rfl) ?_
            refine z_if_lt (tgt := 137) hx hb dL_reads_130 (by decide) (by omega) (fun c_46 => ?_) (fun c_46 => ?_)
            · refine z_iconst hx hb dL_reads_137 ?_
              exact J_18 0 _ _ (by omega) hP hD hS
            · refine z_iconst hx hb dL_reads_133 ?_
              refine lv_goto (tgt := 138) hx hb dL_reads_134 (by decide) ?_
              exact J_18 1 _ _ (by omega) hP hD hS
          refine lv_iload hx hb dL_reads_116 (lv_at hl 0 rfl) ?_
          refine z_ldc hx hb (-1000002) (by decide +kernel) hown (hq _ q_395) dL_reads_118 ?_
          refine z_icmp_ne (tgt := 127) hx hb dL_reads_120 (by decide) (by omega) (by omega) (fun c_47 => ?_) (fun c_47 => ?_)
          · refine z_iconst hx hb dL_reads_127 ?_
            exact J_16 0 _ _ (by omega) hP hD hS
          · refine z_iconst hx hb dL_reads_123 ?_
            refine lv_goto (tgt := 128) hx hb dL_reads_124 (by decide) ?_
            exact J_16 1 _ _ (by omega) hP hD hS
        refine lv_iload hx hb dL_reads_101 (lv_at hl 1 rfl) ?_
        refine z_ldc hx hb (-1000004) (by decide +kernel) hown (hq _ q_360) dL_reads_103 ?_
        refine z_icmp_ne (tgt := 112) hx hb dL_reads_105 (by decide) (by omega) (by omega) (fun c_48 => ?_) (fun c_48 => ?_)
        · refine z_iconst hx hb dL_reads_112 ?_
          exact J_13 0 _ _ (by omega) hP hD hS
        · refine z_iconst hx hb dL_reads_108 ?_
          refine lv_goto (tgt := 113) hx hb dL_reads_109 (by decide) ?_
          exact J_13 1 _ _ (by omega) hP hD hS
      refine lv_iload hx hb dL_reads_89 (lv_at hl 3 rfl) ?_
      refine z_ldc hx hb (-1000004) (by decide +kernel) hown (hq _ q_360) dL_reads_91 ?_
      refine z_icmp_ne (tgt := 100) hx hb dL_reads_93 (by decide) (by omega) (by omega) (fun c_49 => ?_) (fun c_49 => ?_)
      · refine z_iconst hx hb dL_reads_100 ?_
        exact J_11 0 _ _ (by omega) hP hD hS
      · refine z_iconst hx hb dL_reads_96 ?_
        refine lv_goto (tgt := 101) hx hb dL_reads_97 (by decide) ?_
        exact J_11 1 _ _ (by omega) hP hD hS
    refine lv_iload hx hb dL_reads_74 (lv_at hl 2 rfl) ?_
    refine z_ldc hx hb (-1000004) (by decide +kernel) hown (hq _ q_360) dL_reads_76 ?_
    refine z_icmp_ne (tgt := 85) hx hb dL_reads_78 (by decide) (by omega) (by omega) (fun c_50 => ?_) (fun c_50 => ?_)
    · refine z_iconst hx hb dL_reads_85 ?_
      exact J_8 0 _ _ (by omega) hP hD hS
    · refine z_iconst hx hb dL_reads_81 ?_
      refine lv_goto (tgt := 86) hx hb dL_reads_82 (by decide) ?_
      exact J_8 1 _ _ (by omega) hP hD hS
  refine lv_iload hx hb dL_reads_62 (lv_at hl 3 rfl) ?_
  refine z_ldc hx hb (-1000004) (by decide +kernel) hown (hq _ q_360) dL_reads_64 ?_
  refine z_icmp_ne (tgt := 73) hx hb dL_reads_66 (by decide) (by omega) (by omega) (fun c_51 => ?_) (fun c_51 => ?_)
  · refine z_iconst hx hb dL_reads_73 ?_
    exact J_6 0 _ _ (by omega) hP hD hS
  · refine z_iconst hx hb dL_reads_69 ?_
    refine lv_goto (tgt := 74) hx hb dL_reads_70 (by decide) ?_
    exact J_6 1 _ _ (by omega) hP hD hS
