/-! the law's look at a state: one number out of all that it reads -/
def lkA (G : Nat → Int → Int) : Nat → Int64
  | 0 => 331
  | n + 1 => 31 * lkA G n + (iI (tallyV G (n : Int))).toInt64
def lkB (G : Nat → Int → Int) (a : Int64) : Nat → Int64
  | 0 => a
  | n + 1 => 31 * (31 * lkB G a n + (iI (G 10 (3 * ((n : Int) / 3) + (n : Int) % 3))).toInt64) + (iI (if (n : Int) < 3 then G 11 (n : Int) else 0)).toInt64
def lkC (G : Nat → Int → Int) (r : Int) (a : Int64) : Nat → Int64
  | 0 => a
  | n + 1 => 31 * lkC G r a n + (iI (rowV G r (8 + (n : Int)))).toInt64
def lkD (G : Nat → Int → Int) (r : Int) (a : Int64) : Nat → Int64
  | 0 => a
  | n + 1 => 31 * lkD G r a n + (iI (guardV G r ((n : Int) / 2) ((n : Int) % 2))).toInt64
def lkE (G : Nat → Int → Int) (r : Int) (a : Int64) : Nat → Int64
  | 0 => a
  | n + 1 => 31 * (31 * (31 * (31 * lkE G r a n + (iI (G 0 (8 * r + (n : Int)))).toInt64) + (iI (G 1 (8 * r + (n : Int)))).toInt64) + (iI (G 2 (8 * r + (n : Int)))).toInt64) + (iI (G 12 0 - G 3 (8 * r + (n : Int)))).toInt64
def lkR (G : Nat → Int → Int) : Nat → Int64
  | 0 => lkB G (lkA G 15) 9
  | n + 1 => lkE G (n : Int) (lkD G (n : Int) (lkC G (n : Int) (lkR G n) 6) 6) 8
def lookZ (G : Nat → Int → Int) : Int64 := lkR G 6
set_option maxHeartbeats 8000000 in
set_option maxRecDepth 100000 in
theorem m_L_look (l : Launch) (D : va_G) (xo xh t : Nat) (ta : Nat → Nat) (cI cC cH : ClassId) {k : Nat} {q : SS} (h : CR k q) (hk : k < 100) : MW l D yL_look (wsY yL_look cL_look 5 (some .long)) { frames := 6, cells := 0, slots := 0, locals := 133 } (tyS cI cC cH) [.ref xo] (wS xo xh t ta cI cC cH q) (wS xo xh t ta cI cC cH q) (some (.long (lookZ (SS.G q)))) := by
  refine mw_ofJ (cc := cL_look) (maxL := 5) (by decide) rfl (Nat.le_of_ble_eq_true rfl) ?_
  intro p e s m below meth c R A Q args ls hx hb hml hown hts hRf hRl hRc hRs hN hK hP hD hS hA hret hl
  have hq : ∀ w ∈ ALL, w.before args s = true := fun w h => hts w (List.mem_cons_of_mem _ h)
  have hl : lv_has ls 5 [(0, .ref xo)] := hl
  refine lv_ldc2 (v := 331) hx hb hown (hq _ q_342) dL_look_0 ?_
  refine lv_lstore_n (lv' := [(1, .long 331), (0, .ref xo)]) hx hb dL_look_3 rfl hl (by decide) rfl (fun ls hl => ?_)
  refine z_iconst hx hb dL_look_4 ?_
  refine lv_istore_n (lv' := [(3, .int (iI 0)), (1, .long 331), (0, .ref xo)]) hx hb dL_look_5 rfl hl (by decide) rfl (fun ls hl => ?_)
  have LP6 : ∀ (fu ia : Nat), ia ≤ 15 → 15 < fu + ia → ∀ (H : Heap) (locs : List Loc) (ls : Array Slot), va_P D vwCl (wS xo xh t ta cI cC cH q) H → va_D A (wS xo xh t ta cI cC cH q) → va_S A s.heap H locs → lv_has ls 5 [(3, .int (iI (ia : Int))), (1, .long (lkA (SS.G q) ia)), (0, .ref xo)] → W p l e R s m args below meth c H locs 0 0 Q (F0 m 6 ls []) := by
    intro fu
    induction fu with
    | zero => intro ia h1 h2; omega
    | succ fu ih6 =>
      intro ia hia1 hiaf H locs ls hP hD hS hl
      refine lv_iload_n hx hb dL_look_6 rfl (lv_at hl 0 rfl) ?_
      refine z_bipush hx hb dL_look_7 (by decide +kernel) ?_
      refine z_icmp_ge (tgt := 31) hx hb dL_look_9 (by decide) (by omega) (by omega) (fun c_1 => ?_) (fun c_1 => ?_)
      · have ea : ia = 15 := by omega
        refine z_iconst hx hb dL_look_31 ?_
        refine lv_istore_n (lv' := [(3, .int (iI 0)), (1, .long (lkA (SS.G q) ia)), (0, .ref xo)]) hx hb dL_look_32 rfl hl (by decide) rfl (fun ls hl => ?_)
        have LP33 : ∀ (fu ib : Nat), ib ≤ 9 → 9 < fu + ib → ∀ (H : Heap) (locs : List Loc) (ls : Array Slot), va_P D vwCl (wS xo xh t ta cI cC cH q) H → va_D A (wS xo xh t ta cI cC cH q) → va_S A s.heap H locs → lv_has ls 5 [(3, .int (iI (ib : Int))), (1, .long (lkB (SS.G q) (lkA (SS.G q) 15) ib)), (0, .ref xo)] → W p l e R s m args below meth c H locs 0 0 Q (F0 m 33 ls []) := by
          intro fu
          induction fu with
          | zero => intro ib h1 h2; omega
          | succ fu ih33 =>
            intro ib hib1 hibf H locs ls hP hD hS hl
            refine lv_iload_n hx hb dL_look_33 rfl (lv_at hl 0 rfl) ?_
            refine z_bipush hx hb dL_look_34 (by decide +kernel) ?_
            refine z_icmp_ge (tgt := 86) hx hb dL_look_36 (by decide) (by omega) (by omega) (fun c_2 => ?_) (fun c_2 => ?_)
            · have eb : ib = 9 := by omega
              refine z_iconst hx hb dL_look_86 ?_
              refine lv_istore_n (lv' := [(3, .int (iI 0)), (1, .long (lkB (SS.G q) (lkA (SS.G q) 15) ib)), (0, .ref xo)]) hx hb dL_look_87 rfl hl (by decide) rfl (fun ls hl => ?_)
              have LP88 : ∀ (fu i : Nat), i ≤ 6 → 6 < fu + i → ∀ (H : Heap) (locs : List Loc) (ls : Array Slot), va_P D vwCl (wS xo xh t ta cI cC cH q) H → va_D A (wS xo xh t ta cI cC cH q) → va_S A s.heap H locs → lv_has ls 5 [(3, .int (iI (i : Int))), (1, .long (lkR (SS.G q) i)), (0, .ref xo)] → W p l e R s m args below meth c H locs 0 0 Q (F0 m 88 ls []) := by
                intro fu
                induction fu with
                | zero => intro i h1 h2; omega
                | succ fu ih88 =>
                  intro i hi1 hif H locs ls hP hD hS hl
                  refine lv_iload_n hx hb dL_look_88 rfl (lv_at hl 0 rfl) ?_
                  refine z_bipush hx hb dL_look_89 (by decide +kernel) ?_
                  refine z_icmp_ge (tgt := 244) hx hb dL_look_91 (by decide) (by omega) (by omega) (fun c_3 => ?_) (fun c_3 => ?_)
                  · have er : i = 6 := by omega
                    refine lv_lload_n hx hb dL_look_244 rfl (lv_at hl 1 rfl) ?_
                    have eL : (lkR (SS.G q) i) = (lookZ (SS.G q)) := by unfold lookZ; subst er; rfl
                    rw [eL]
                    exact hret _ _ _ _ dL_look_245 hP hD hS
                  · refine z_bipush hx hb dL_look_94 (by decide +kernel) ?_
                    refine lv_istore (lv' := [(4, .int (iI 8)), (3, .int (iI (i : Int))), (1, .long (lkR (SS.G q) i)), (0, .ref xo)]) hx hb dL_look_96 hl (by decide) rfl (fun ls hl => ?_)
                    have LP98 : ∀ (fu jc : Nat), jc ≤ 6 → 6 < fu + jc → ∀ (H : Heap) (locs : List Loc) (ls : Array Slot), va_P D vwCl (wS xo xh t ta cI cC cH q) H → va_D A (wS xo xh t ta cI cC cH q) → va_S A s.heap H locs → lv_has ls 5 [(4, .int (iI (8 + (jc : Int)))), (3, .int (iI (i : Int))), (1, .long (lkC (SS.G q) (i : Int) (lkR (SS.G q) i) jc)), (0, .ref xo)] → W p l e R s m args below meth c H locs 0 0 Q (F0 m 98 ls []) := by
                      intro fu
                      induction fu with
                      | zero => intro jc h1 h2; omega
                      | succ fu ih98 =>
                        intro jc hjc1 hjcf H locs ls hP hD hS hl
                        refine lv_iload hx hb dL_look_98 (lv_at hl 0 rfl) ?_
                        refine z_bipush hx hb dL_look_100 (by decide +kernel) ?_
                        refine z_icmp_ge (tgt := 126) hx hb dL_look_102 (by decide) (by omega) (by omega) (fun c_4 => ?_) (fun c_4 => ?_)
                        · have ec : jc = 6 := by omega
                          refine z_iconst hx hb dL_look_126 ?_
                          refine lv_istore (lv' := [(4, .int (iI 0)), (3, .int (iI (i : Int))), (1, .long (lkC (SS.G q) (i : Int) (lkR (SS.G q) i) jc)), (0, .ref xo)]) hx hb dL_look_127 hl (by decide) rfl (fun ls hl => ?_)
                          have LP129 : ∀ (fu jd : Nat), jd ≤ 6 → 6 < fu + jd → ∀ (H : Heap) (locs : List Loc) (ls : Array Slot), va_P D vwCl (wS xo xh t ta cI cC cH q) H → va_D A (wS xo xh t ta cI cC cH q) → va_S A s.heap H locs → lv_has ls 5 [(4, .int (iI (jd : Int))), (3, .int (iI (i : Int))), (1, .long (lkD (SS.G q) (i : Int) (lkC (SS.G q) (i : Int) (lkR (SS.G q) i) 6) jd)), (0, .ref xo)] → W p l e R s m args below meth c H locs 0 0 Q (F0 m 129 ls []) := by
                            intro fu
                            induction fu with
                            | zero => intro jd h1 h2; omega
                            | succ fu ih129 =>
                              intro jd hjd1 hjdf H locs ls hP hD hS hl
                              refine lv_iload hx hb dL_look_129 (lv_at hl 0 rfl) ?_
                              refine z_bipush hx hb dL_look_131 (by decide +kernel) ?_
                              refine z_icmp_ge (tgt := 163) hx hb dL_look_133 (by decide) (by omega) (by omega) (fun c_5 => ?_) (fun c_5 => ?_)
                              · have ed : jd = 6 := by omega
                                refine z_iconst hx hb dL_look_163 ?_
                                refine lv_istore (lv' := [(4, .int (iI 0)), (3, .int (iI (i : Int))), (1, .long (lkD (SS.G q) (i : Int) (lkC (SS.G q) (i : Int) (lkR (SS.G q) i) 6) jd)), (0, .ref xo)]) hx hb dL_look_164 hl (by decide) rfl (fun ls hl => ?_)
                                have LP166 : ∀ (fu je : Nat), je ≤ 8 → 8 < fu + je → ∀ (H : Heap) (locs : List Loc) (ls : Array Slot), va_P D vwCl (wS xo xh t ta cI cC cH q) H → va_D A (wS xo xh t ta cI cC cH q) → va_S A s.heap H locs → lv_has ls 5 [(4, .int (iI (je : Int))), (3, .int (iI (i : Int))), (1, .long (lkE (SS.G q) (i : Int) (lkD (SS.G q) (i : Int) (lkC (SS.G q) (i : Int) (lkR (SS.G q) i) 6) 6) je)), (0, .ref xo)] → W p l e R s m args below meth c H locs 0 0 Q (F0 m 166 ls []) := by
                                  intro fu
                                  induction fu with
                                  | zero => intro je h1 h2; omega
                                  | succ fu ih166 =>
                                    intro je hje1 hjef H locs ls hP hD hS hl
                                    refine lv_iload hx hb dL_look_166 (lv_at hl 0 rfl) ?_
                                    refine z_bipush hx hb dL_look_168 (by decide +kernel) ?_
                                    refine z_icmp_ge (tgt := 238) hx hb dL_look_170 (by decide) (by omega) (by omega) (fun c_6 => ?_) (fun c_6 => ?_)
                                    · have ee : je = 8 := by omega
                                      refine lv_iinc (v := iI ((i : Int) + 1)) (lv' := [(3, .int (iI ((i : Int) + 1))), (4, .int (iI (je : Int))), (1, .long (lkE (SS.G q) (i : Int) (lkD (SS.G q) (i : Int) (lkC (SS.G q) (i : Int) (lkR (SS.G q) i) 6) 6) je)), (0, .ref xo)]) hx hb dL_look_238 hl (k := 1) rfl (iI_add _ _) (by decide) rfl (fun ls hl => ?_)
                                      refine lv_goto (tgt := 88) hx hb dL_look_241 (by decide) ?_
                                      have e1_0 : (((i + 1 : Nat) : Int)) = ((i : Int) + 1) := by first | rfl | omega | (subst ee; rfl)
                                      have e1_1 : ((lkR (SS.G q) (i + 1))) = (lkE (SS.G q) (i : Int) (lkD (SS.G q) (i : Int) (lkC (SS.G q) (i : Int) (lkR (SS.G q) i) 6) 6) je) := by first | rfl | omega | (subst ee; rfl)
                                      exact ih88 (i + 1) (by omega) (by omega) _ _ _ hP hD hS (lv_to (lv_sub (l' := [(3, .int (iI ((i : Int) + 1))), (1, .long (lkE (SS.G q) (i : Int) (lkD (SS.G q) (i : Int) (lkC (SS.G q) (i : Int) (lkR (SS.G q) i) 6) 6) je)), (0, .ref xo)]) hl [0, 2, 3] rfl) (by simp only [e1_0, e1_1]))
                                    · refine lv_ldc2 (v := 31) hx hb hown (hq _ q_343) dL_look_173 ?_
                                      refine lv_ldc2 (v := 31) hx hb hown (hq _ q_343) dL_look_176 ?_
                                      refine lv_ldc2 (v := 31) hx hb hown (hq _ q_343) dL_look_179 ?_
                                      refine lv_ldc2 (v := 31) hx hb hown (hq _ q_343) dL_look_182 ?_
                                      refine lv_lload_n hx hb dL_look_185 rfl (lv_at hl 2 rfl) ?_
                                      refine lv_lmul hx hb dL_look_186 ?_
                                      refine lv_aload_n hx hb dL_look_187 rfl (lv_at hl 3 rfl) ?_
                                      refine lv_iload_n hx hb dL_look_188 rfl (lv_at hl 1 rfl) ?_
                                      refine lv_iload hx hb dL_look_189 (lv_at hl 0 rfl) ?_
                                      refine z_iconst hx hb dL_look_191 ?_
                                      refine mw_full (st1 := [.int (iI (SS.G q 0 (8 * (i : Int) + (je : Int)))), .long (31 * (lkE (SS.G q) (i : Int) (lkD (SS.G q) (i : Int) (lkC (SS.G q) (i : Int) (lkR (SS.G q) i) 6) 6) je)), .long 31, .long 31, .long 31]) (mr_V (As := [.int (iI (i : Int)), .int (iI (je : Int)), .int (iI 0)]) (rest := [.long (31 * (lkE (SS.G q) (i : Int) (lkD (SS.G q) (i : Int) (lkC (SS.G q) (i : Int) (lkR (SS.G q) i) 6) 6) je)), .long 31, .long 31, .long 31]) (ci := 2) (q0 := 0) ⟨hx, hb, hml, hown, hts⟩ (rd_cell0 l D xo xh t ta cI cC cH h (i : Int) (je : Int) (by omega) (by omega)) (cwV 3 hts (gV q_356 q_357 q_358 q_37 q_254) rfl rfl rfl (by decide +kernel) ⟨Nat.le_trans (m := 4) (Nat.le_of_ble_eq_true rfl) (Nat.le_trans (Nat.le_of_ble_eq_true rfl) hRf), Nat.le_trans (m := 96) (Nat.le_of_ble_eq_true rfl) (Nat.le_trans (Nat.le_of_ble_eq_true rfl) hRl)⟩) hN hK hP hD rfl rfl rfl hl.1 (Nat.le_of_ble_eq_true rfl) ⟨hRc, hRs⟩ dL_look_192) hD hS hA rfl (fun H locs hP hD hS => ?_)
                                      refine lv_i2l (v := (iI (SS.G q 0 (8 * (i : Int) + (je : Int)))).toInt64) hx hb dL_look_195 rfl ?_
                                      refine lv_ladd hx hb dL_look_196 ?_
                                      refine lv_lmul hx hb dL_look_197 ?_
                                      refine lv_aload_n hx hb dL_look_198 rfl (lv_at hl 3 rfl) ?_
                                      refine lv_iload_n hx hb dL_look_199 rfl (lv_at hl 1 rfl) ?_
                                      refine lv_iload hx hb dL_look_200 (lv_at hl 0 rfl) ?_
                                      refine z_iconst hx hb dL_look_202 ?_
                                      refine mw_full (st1 := [.int (iI (SS.G q 1 (8 * (i : Int) + (je : Int)))), .long (31 * ((31 * (lkE (SS.G q) (i : Int) (lkD (SS.G q) (i : Int) (lkC (SS.G q) (i : Int) (lkR (SS.G q) i) 6) 6) je)) + (iI (SS.G q 0 (8 * (i : Int) + (je : Int)))).toInt64)), .long 31, .long 31]) (mr_V (As := [.int (iI (i : Int)), .int (iI (je : Int)), .int (iI 1)]) (rest := [.long (31 * ((31 * (lkE (SS.G q) (i : Int) (lkD (SS.G q) (i : Int) (lkC (SS.G q) (i : Int) (lkR (SS.G q) i) 6) 6) je)) + (iI (SS.G q 0 (8 * (i : Int) + (je : Int)))).toInt64)), .long 31, .long 31]) (ci := 2) (q0 := 0) ⟨hx, hb, hml, hown, hts⟩ (rd_cell1 l D xo xh t ta cI cC cH h (i : Int) (je : Int) (by omega) (by omega)) (cwV 3 hts (gV q_356 q_357 q_358 q_37 q_254) rfl rfl rfl (by decide +kernel) ⟨Nat.le_trans (m := 4) (Nat.le_of_ble_eq_true rfl) (Nat.le_trans (Nat.le_of_ble_eq_true rfl) hRf), Nat.le_trans (m := 96) (Nat.le_of_ble_eq_true rfl) (Nat.le_trans (Nat.le_of_ble_eq_true rfl) hRl)⟩) hN hK hP hD rfl rfl rfl hl.1 (Nat.le_of_ble_eq_true rfl) ⟨hRc, hRs⟩ dL_look_203) hD hS hA rfl (fun H locs hP hD hS => ?_)
                                      refine lv_i2l (v := (iI (SS.G q 1 (8 * (i : Int) + (je : Int)))).toInt64) hx hb dL_look_206 rfl ?_
                                      refine lv_ladd hx hb dL_look_207 ?_
                                      refine lv_lmul hx hb dL_look_208 ?_
                                      refine lv_aload_n hx hb dL_look_209 rfl (lv_at hl 3 rfl) ?_
                                      refine lv_iload_n hx hb dL_look_210 rfl (lv_at hl 1 rfl) ?_
                                      refine lv_iload hx hb dL_look_211 (lv_at hl 0 rfl) ?_
                                      refine z_iconst hx hb dL_look_213 ?_
                                      refine mw_full (st1 := [.int (iI (SS.G q 2 (8 * (i : Int) + (je : Int)))), .long (31 * ((31 * ((31 * (lkE (SS.G q) (i : Int) (lkD (SS.G q) (i : Int) (lkC (SS.G q) (i : Int) (lkR (SS.G q) i) 6) 6) je)) + (iI (SS.G q 0 (8 * (i : Int) + (je : Int)))).toInt64)) + (iI (SS.G q 1 (8 * (i : Int) + (je : Int)))).toInt64)), .long 31]) (mr_V (As := [.int (iI (i : Int)), .int (iI (je : Int)), .int (iI 5)]) (rest := [.long (31 * ((31 * ((31 * (lkE (SS.G q) (i : Int) (lkD (SS.G q) (i : Int) (lkC (SS.G q) (i : Int) (lkR (SS.G q) i) 6) 6) je)) + (iI (SS.G q 0 (8 * (i : Int) + (je : Int)))).toInt64)) + (iI (SS.G q 1 (8 * (i : Int) + (je : Int)))).toInt64)), .long 31]) (ci := 2) (q0 := 0) ⟨hx, hb, hml, hown, hts⟩ (rd_cell5 l D xo xh t ta cI cC cH h (i : Int) (je : Int) (by omega) (by omega) (by omega)) (cwV 3 hts (gV q_356 q_357 q_358 q_37 q_254) rfl rfl rfl (by decide +kernel) ⟨Nat.le_trans (m := 4) (Nat.le_of_ble_eq_true rfl) (Nat.le_trans (Nat.le_of_ble_eq_true rfl) hRf), Nat.le_trans (m := 96) (Nat.le_of_ble_eq_true rfl) (Nat.le_trans (Nat.le_of_ble_eq_true rfl) hRl)⟩) hN hK hP hD rfl rfl rfl hl.1 (Nat.le_of_ble_eq_true rfl) ⟨hRc, hRs⟩ dL_look_214) hD hS hA rfl (fun H locs hP hD hS => ?_)
                                      refine lv_i2l (v := (iI (SS.G q 2 (8 * (i : Int) + (je : Int)))).toInt64) hx hb dL_look_217 rfl ?_
                                      refine lv_ladd hx hb dL_look_218 ?_
                                      refine lv_lmul hx hb dL_look_219 ?_
                                      refine lv_aload_n hx hb dL_look_220 rfl (lv_at hl 3 rfl) ?_
                                      refine lv_iload_n hx hb dL_look_221 rfl (lv_at hl 1 rfl) ?_
                                      refine lv_iload hx hb dL_look_222 (lv_at hl 0 rfl) ?_
                                      refine z_bipush hx hb dL_look_224 (by decide +kernel) ?_
                                      refine mw_full (st1 := [.int (iI (SS.G q 12 0 - SS.G q 3 (8 * (i : Int) + (je : Int)))), .long (31 * ((31 * ((31 * ((31 * (lkE (SS.G q) (i : Int) (lkD (SS.G q) (i : Int) (lkC (SS.G q) (i : Int) (lkR (SS.G q) i) 6) 6) je)) + (iI (SS.G q 0 (8 * (i : Int) + (je : Int)))).toInt64)) + (iI (SS.G q 1 (8 * (i : Int) + (je : Int)))).toInt64)) + (iI (SS.G q 2 (8 * (i : Int) + (je : Int)))).toInt64))]) (mr_V (As := [.int (iI (i : Int)), .int (iI (je : Int)), .int (iI 7)]) (rest := [.long (31 * ((31 * ((31 * ((31 * (lkE (SS.G q) (i : Int) (lkD (SS.G q) (i : Int) (lkC (SS.G q) (i : Int) (lkR (SS.G q) i) 6) 6) je)) + (iI (SS.G q 0 (8 * (i : Int) + (je : Int)))).toInt64)) + (iI (SS.G q 1 (8 * (i : Int) + (je : Int)))).toInt64)) + (iI (SS.G q 2 (8 * (i : Int) + (je : Int)))).toInt64))]) (ci := 2) (q0 := 0) ⟨hx, hb, hml, hown, hts⟩ (rd_cell7 l D xo xh t ta cI cC cH h (i : Int) (je : Int) (by omega) (by omega)) (cwV 3 hts (gV q_356 q_357 q_358 q_37 q_254) rfl rfl rfl (by decide +kernel) ⟨Nat.le_trans (m := 4) (Nat.le_of_ble_eq_true rfl) (Nat.le_trans (Nat.le_of_ble_eq_true rfl) hRf), Nat.le_trans (m := 96) (Nat.le_of_ble_eq_true rfl) (Nat.le_trans (Nat.le_of_ble_eq_true rfl) hRl)⟩) hN hK hP hD rfl rfl rfl hl.1 (Nat.le_of_ble_eq_true rfl) ⟨hRc, hRs⟩ dL_look_226) hD hS hA rfl (fun H locs hP hD hS => ?_)
                                      refine lv_i2l (v := (iI (SS.G q 12 0 - SS.G q 3 (8 * (i : Int) + (je : Int)))).toInt64) hx hb dL_look_229 rfl ?_
                                      refine lv_ladd hx hb dL_look_230 ?_
                                      refine lv_lstore_n (lv' := [(1, .long ((31 * ((31 * ((31 * ((31 * (lkE (SS.G q) (i : Int) (lkD (SS.G q) (i : Int) (lkC (SS.G q) (i : Int) (lkR (SS.G q) i) 6) 6) je)) + (iI (SS.G q 0 (8 * (i : Int) + (je : Int)))).toInt64)) + (iI (SS.G q 1 (8 * (i : Int) + (je : Int)))).toInt64)) + (iI (SS.G q 2 (8 * (i : Int) + (je : Int)))).toInt64)) + (iI (SS.G q 12 0 - SS.G q 3 (8 * (i : Int) + (je : Int)))).toInt64)), (4, .int (iI (je : Int))), (3, .int (iI (i : Int))), (0, .ref xo)]) hx hb dL_look_231 rfl hl (by decide) rfl (fun ls hl => ?_)
                                      refine lv_iinc (v := iI ((je : Int) + 1)) (lv' := [(4, .int (iI ((je : Int) + 1))), (1, .long ((31 * ((31 * ((31 * ((31 * (lkE (SS.G q) (i : Int) (lkD (SS.G q) (i : Int) (lkC (SS.G q) (i : Int) (lkR (SS.G q) i) 6) 6) je)) + (iI (SS.G q 0 (8 * (i : Int) + (je : Int)))).toInt64)) + (iI (SS.G q 1 (8 * (i : Int) + (je : Int)))).toInt64)) + (iI (SS.G q 2 (8 * (i : Int) + (je : Int)))).toInt64)) + (iI (SS.G q 12 0 - SS.G q 3 (8 * (i : Int) + (je : Int)))).toInt64)), (3, .int (iI (i : Int))), (0, .ref xo)]) hx hb dL_look_232 hl (k := 1) rfl (iI_add _ _) (by decide) rfl (fun ls hl => ?_)
                                      refine lv_goto (tgt := 166) hx hb dL_look_235 (by decide) ?_
                                      have e1_0 : (((je + 1 : Nat) : Int)) = ((je : Int) + 1) := by first | rfl | omega
                                      have e1_1 : ((lkE (SS.G q) (i : Int) (lkD (SS.G q) (i : Int) (lkC (SS.G q) (i : Int) (lkR (SS.G q) i) 6) 6) (je + 1))) = ((31 * ((31 * ((31 * ((31 * (lkE (SS.G q) (i : Int) (lkD (SS.G q) (i : Int) (lkC (SS.G q) (i : Int) (lkR (SS.G q) i) 6) 6) je)) + (iI (SS.G q 0 (8 * (i : Int) + (je : Int)))).toInt64)) + (iI (SS.G q 1 (8 * (i : Int) + (je : Int)))).toInt64)) + (iI (SS.G q 2 (8 * (i : Int) + (je : Int)))).toInt64)) + (iI (SS.G q 12 0 - SS.G q 3 (8 * (i : Int) + (je : Int)))).toInt64) := by first | rfl | omega
                                      exact ih166 (je + 1) (by omega) (by omega) _ _ _ hP hD hS (lv_to (lv_sub (l' := [(4, .int (iI ((je : Int) + 1))), (3, .int (iI (i : Int))), (1, .long ((31 * ((31 * ((31 * ((31 * (lkE (SS.G q) (i : Int) (lkD (SS.G q) (i : Int) (lkC (SS.G q) (i : Int) (lkR (SS.G q) i) 6) 6) je)) + (iI (SS.G q 0 (8 * (i : Int) + (je : Int)))).toInt64)) + (iI (SS.G q 1 (8 * (i : Int) + (je : Int)))).toInt64)) + (iI (SS.G q 2 (8 * (i : Int) + (je : Int)))).toInt64)) + (iI (SS.G q 12 0 - SS.G q 3 (8 * (i : Int) + (je : Int)))).toInt64)), (0, .ref xo)]) hl [0, 2, 1, 3] rfl) (by simp only [e1_0, e1_1]))
                                have e0_0 : (((0 : Nat) : Int)) = 0 := by first | rfl | omega | (subst ed; rfl)
                                have e0_1 : ((lkE (SS.G q) (i : Int) (lkD (SS.G q) (i : Int) (lkC (SS.G q) (i : Int) (lkR (SS.G q) i) 6) 6) (0))) = (lkD (SS.G q) (i : Int) (lkC (SS.G q) (i : Int) (lkR (SS.G q) i) 6) jd) := by first | rfl | omega | (subst ed; rfl)
                                exact LP166 (8 + 1) 0 (by omega) (by omega) _ _ _ hP hD hS (lv_to (lv_sub (l' := [(4, .int (iI 0)), (3, .int (iI (i : Int))), (1, .long (lkD (SS.G q) (i : Int) (lkC (SS.G q) (i : Int) (lkR (SS.G q) i) 6) jd)), (0, .ref xo)]) hl [0, 1, 2, 3] rfl) (by simp only [e0_0, e0_1]))
                              · refine lv_ldc2 (v := 31) hx hb hown (hq _ q_343) dL_look_136 ?_
                                refine lv_lload_n hx hb dL_look_139 rfl (lv_at hl 2 rfl) ?_
                                refine lv_lmul hx hb dL_look_140 ?_
                                refine lv_aload_n hx hb dL_look_141 rfl (lv_at hl 3 rfl) ?_
                                refine lv_iload_n hx hb dL_look_142 rfl (lv_at hl 1 rfl) ?_
                                refine lv_iload hx hb dL_look_143 (lv_at hl 0 rfl) ?_
                                refine z_iconst hx hb dL_look_145 ?_
                                refine z_idiv hx hb dL_look_146 (by omega) (by omega) ?_
                                refine lv_iload hx hb dL_look_147 (lv_at hl 0 rfl) ?_
                                refine z_iconst hx hb dL_look_149 ?_
                                refine z_irem hx hb dL_look_150 (by omega) (by omega) ?_
                                refine mw_full (st1 := [.int (iI (guardV (SS.G q) (i : Int) ((jd : Int) / 2) ((jd : Int) % 2))), .long (31 * (lkD (SS.G q) (i : Int) (lkC (SS.G q) (i : Int) (lkR (SS.G q) i) 6) jd))]) (mr_V (As := [.int (iI (i : Int)), .int (iI ((jd : Int) / 2)), .int (iI ((jd : Int) % 2))]) (rest := [.long (31 * (lkD (SS.G q) (i : Int) (lkC (SS.G q) (i : Int) (lkR (SS.G q) i) 6) jd))]) (ci := 2) (q0 := 0) ⟨hx, hb, hml, hown, hts⟩ (rd_guardV l D xo xh t ta cI cC cH h (i : Int) ((jd : Int) / 2) ((jd : Int) % 2) (by omega) (by omega) (by omega)) (cwV 3 hts (gV q_353 q_354 q_355 q_37 q_258) rfl rfl rfl (by decide +kernel) ⟨Nat.le_trans (m := 4) (Nat.le_of_ble_eq_true rfl) (Nat.le_trans (Nat.le_of_ble_eq_true rfl) hRf), Nat.le_trans (m := 90) (Nat.le_of_ble_eq_true rfl) (Nat.le_trans (Nat.le_of_ble_eq_true rfl) hRl)⟩) hN hK hP hD rfl rfl rfl hl.1 (Nat.le_of_ble_eq_true rfl) ⟨hRc, hRs⟩ dL_look_151) hD hS hA rfl (fun H locs hP hD hS => ?_)
                                refine lv_i2l (v := (iI (guardV (SS.G q) (i : Int) ((jd : Int) / 2) ((jd : Int) % 2))).toInt64) hx hb dL_look_154 rfl ?_
                                refine lv_ladd hx hb dL_look_155 ?_
                                refine lv_lstore_n (lv' := [(1, .long ((31 * (lkD (SS.G q) (i : Int) (lkC (SS.G q) (i : Int) (lkR (SS.G q) i) 6) jd)) + (iI (guardV (SS.G q) (i : Int) ((jd : Int) / 2) ((jd : Int) % 2))).toInt64)), (4, .int (iI (jd : Int))), (3, .int (iI (i : Int))), (0, .ref xo)]) hx hb dL_look_156 rfl hl (by decide) rfl (fun ls hl => ?_)
                                refine lv_iinc (v := iI ((jd : Int) + 1)) (lv' := [(4, .int (iI ((jd : Int) + 1))), (1, .long ((31 * (lkD (SS.G q) (i : Int) (lkC (SS.G q) (i : Int) (lkR (SS.G q) i) 6) jd)) + (iI (guardV (SS.G q) (i : Int) ((jd : Int) / 2) ((jd : Int) % 2))).toInt64)), (3, .int (iI (i : Int))), (0, .ref xo)]) hx hb dL_look_157 hl (k := 1) rfl (iI_add _ _) (by decide) rfl (fun ls hl => ?_)
                                refine lv_goto (tgt := 129) hx hb dL_look_160 (by decide) ?_
                                have e1_0 : (((jd + 1 : Nat) : Int)) = ((jd : Int) + 1) := by first | rfl | omega
                                have e1_1 : ((lkD (SS.G q) (i : Int) (lkC (SS.G q) (i : Int) (lkR (SS.G q) i) 6) (jd + 1))) = ((31 * (lkD (SS.G q) (i : Int) (lkC (SS.G q) (i : Int) (lkR (SS.G q) i) 6) jd)) + (iI (guardV (SS.G q) (i : Int) ((jd : Int) / 2) ((jd : Int) % 2))).toInt64) := by first | rfl | omega
                                exact ih129 (jd + 1) (by omega) (by omega) _ _ _ hP hD hS (lv_to (lv_sub (l' := [(4, .int (iI ((jd : Int) + 1))), (3, .int (iI (i : Int))), (1, .long ((31 * (lkD (SS.G q) (i : Int) (lkC (SS.G q) (i : Int) (lkR (SS.G q) i) 6) jd)) + (iI (guardV (SS.G q) (i : Int) ((jd : Int) / 2) ((jd : Int) % 2))).toInt64)), (0, .ref xo)]) hl [0, 2, 1, 3] rfl) (by simp only [e1_0, e1_1]))
                          have e0_0 : (((0 : Nat) : Int)) = 0 := by first | rfl | omega | (subst ec; rfl)
                          have e0_1 : ((lkD (SS.G q) (i : Int) (lkC (SS.G q) (i : Int) (lkR (SS.G q) i) 6) (0))) = (lkC (SS.G q) (i : Int) (lkR (SS.G q) i) jc) := by first | rfl | omega | (subst ec; rfl)
                          exact LP129 (6 + 1) 0 (by omega) (by omega) _ _ _ hP hD hS (lv_to (lv_sub (l' := [(4, .int (iI 0)), (3, .int (iI (i : Int))), (1, .long (lkC (SS.G q) (i : Int) (lkR (SS.G q) i) jc)), (0, .ref xo)]) hl [0, 1, 2, 3] rfl) (by simp only [e0_0, e0_1]))
                        · refine lv_ldc2 (v := 31) hx hb hown (hq _ q_343) dL_look_105 ?_
                          refine lv_lload_n hx hb dL_look_108 rfl (lv_at hl 2 rfl) ?_
                          refine lv_lmul hx hb dL_look_109 ?_
                          refine lv_aload_n hx hb dL_look_110 rfl (lv_at hl 3 rfl) ?_
                          refine lv_iload_n hx hb dL_look_111 rfl (lv_at hl 1 rfl) ?_
                          refine lv_iload hx hb dL_look_112 (lv_at hl 0 rfl) ?_
                          refine mw_full (st1 := [.int (iI (rowV (SS.G q) (i : Int) (8 + (jc : Int)))), .long (31 * (lkC (SS.G q) (i : Int) (lkR (SS.G q) i) jc))]) (mr_V (As := [.int (iI (i : Int)), .int (iI (8 + (jc : Int)))]) (rest := [.long (31 * (lkC (SS.G q) (i : Int) (lkR (SS.G q) i) jc))]) (ci := 2) (q0 := 0) ⟨hx, hb, hml, hown, hts⟩ (rd_rowV l D xo xh t ta cI cC cH h (i : Int) (8 + (jc : Int)) (by omega) (by omega)) (cwV 2 hts (gV q_350 q_351 q_352 q_37 q_262) rfl rfl rfl (by decide +kernel) ⟨Nat.le_trans (m := 5) (Nat.le_of_ble_eq_true rfl) (Nat.le_trans (Nat.le_of_ble_eq_true rfl) hRf), Nat.le_trans (m := 116) (Nat.le_of_ble_eq_true rfl) (Nat.le_trans (Nat.le_of_ble_eq_true rfl) hRl)⟩) hN hK hP hD rfl rfl rfl hl.1 (Nat.le_of_ble_eq_true rfl) ⟨hRc, hRs⟩ dL_look_114) hD hS hA rfl (fun H locs hP hD hS => ?_)
                          refine lv_i2l (v := (iI (rowV (SS.G q) (i : Int) (8 + (jc : Int)))).toInt64) hx hb dL_look_117 rfl ?_
                          refine lv_ladd hx hb dL_look_118 ?_
                          refine lv_lstore_n (lv' := [(1, .long ((31 * (lkC (SS.G q) (i : Int) (lkR (SS.G q) i) jc)) + (iI (rowV (SS.G q) (i : Int) (8 + (jc : Int)))).toInt64)), (4, .int (iI (8 + (jc : Int)))), (3, .int (iI (i : Int))), (0, .ref xo)]) hx hb dL_look_119 rfl hl (by decide) rfl (fun ls hl => ?_)
                          refine lv_iinc (v := iI ((8 + (jc : Int)) + 1)) (lv' := [(4, .int (iI ((8 + (jc : Int)) + 1))), (1, .long ((31 * (lkC (SS.G q) (i : Int) (lkR (SS.G q) i) jc)) + (iI (rowV (SS.G q) (i : Int) (8 + (jc : Int)))).toInt64)), (3, .int (iI (i : Int))), (0, .ref xo)]) hx hb dL_look_120 hl (k := 1) rfl (iI_add _ _) (by decide) rfl (fun ls hl => ?_)
                          refine lv_goto (tgt := 98) hx hb dL_look_123 (by decide) ?_
                          have e1_0 : ((8 + ((jc + 1 : Nat) : Int))) = ((8 + (jc : Int)) + 1) := by first | rfl | omega
                          have e1_1 : ((lkC (SS.G q) (i : Int) (lkR (SS.G q) i) (jc + 1))) = ((31 * (lkC (SS.G q) (i : Int) (lkR (SS.G q) i) jc)) + (iI (rowV (SS.G q) (i : Int) (8 + (jc : Int)))).toInt64) := by first | rfl | omega
                          exact ih98 (jc + 1) (by omega) (by omega) _ _ _ hP hD hS (lv_to (lv_sub (l' := [(4, .int (iI ((8 + (jc : Int)) + 1))), (3, .int (iI (i : Int))), (1, .long ((31 * (lkC (SS.G q) (i : Int) (lkR (SS.G q) i) jc)) + (iI (rowV (SS.G q) (i : Int) (8 + (jc : Int)))).toInt64)), (0, .ref xo)]) hl [0, 2, 1, 3] rfl) (by simp only [e1_0, e1_1]))
                    have e0_0 : ((8 + ((0 : Nat) : Int))) = 8 := by first | rfl | omega
                    have e0_1 : ((lkC (SS.G q) (i : Int) (lkR (SS.G q) i) (0))) = (lkR (SS.G q) i) := by first | rfl | omega
                    exact LP98 (6 + 1) 0 (by omega) (by omega) _ _ _ hP hD hS (lv_to (lv_sub (l' := [(4, .int (iI 8)), (3, .int (iI (i : Int))), (1, .long (lkR (SS.G q) i)), (0, .ref xo)]) hl [0, 1, 2, 3] rfl) (by simp only [e0_0, e0_1]))
              have e0_0 : (((0 : Nat) : Int)) = 0 := by first | rfl | omega | (subst eb; rfl)
              have e0_1 : ((lkR (SS.G q) (0))) = (lkB (SS.G q) (lkA (SS.G q) 15) ib) := by first | rfl | omega | (subst eb; rfl)
              exact LP88 (6 + 1) 0 (by omega) (by omega) _ _ _ hP hD hS (lv_to (lv_sub (l' := [(3, .int (iI 0)), (1, .long (lkB (SS.G q) (lkA (SS.G q) 15) ib)), (0, .ref xo)]) hl [0, 1, 2] rfl) (by simp only [e0_0, e0_1]))
            · refine lv_ldc2 (v := 31) hx hb hown (hq _ q_343) dL_look_39 ?_
              refine lv_ldc2 (v := 31) hx hb hown (hq _ q_343) dL_look_42 ?_
              refine lv_lload_n hx hb dL_look_45 rfl (lv_at hl 1 rfl) ?_
              refine lv_lmul hx hb dL_look_46 ?_
              refine lv_aload_n hx hb dL_look_47 rfl (lv_at hl 2 rfl) ?_
              refine lv_iload_n hx hb dL_look_48 rfl (lv_at hl 0 rfl) ?_
              refine z_iconst hx hb dL_look_49 ?_
              refine z_idiv hx hb dL_look_50 (by omega) (by omega) ?_
              refine lv_iload_n hx hb dL_look_51 rfl (lv_at hl 0 rfl) ?_
              refine z_iconst hx hb dL_look_52 ?_
              refine z_irem hx hb dL_look_53 (by omega) (by omega) ?_
              refine mw_full (st1 := [.int (iI (SS.G q 10 (3 * ((ib : Int) / 3) + ((ib : Int) % 3)))), .long (31 * (lkB (SS.G q) (lkA (SS.G q) 15) ib)), .long 31]) (mr_V (As := [.int (iI ((ib : Int) / 3)), .int (iI ((ib : Int) % 3))]) (rest := [.long (31 * (lkB (SS.G q) (lkA (SS.G q) 15) ib)), .long 31]) (ci := 2) (q0 := 0) ⟨hx, hb, hml, hown, hts⟩ (rd_tbl l D xo xh t ta cI cC cH h ((ib : Int) / 3) ((ib : Int) % 3) (by omega) (by omega)) (cwV 2 hts (gV q_347 q_348 q_349 q_37 q_266) rfl rfl rfl (by decide +kernel) ⟨Nat.le_trans (m := 3) (Nat.le_of_ble_eq_true rfl) (Nat.le_trans (Nat.le_of_ble_eq_true rfl) hRf), Nat.le_trans (m := 66) (Nat.le_of_ble_eq_true rfl) (Nat.le_trans (Nat.le_of_ble_eq_true rfl) hRl)⟩) hN hK hP hD rfl rfl rfl hl.1 (Nat.le_of_ble_eq_true rfl) ⟨hRc, hRs⟩ dL_look_54) hD hS hA rfl (fun H locs hP hD hS => ?_)
              refine lv_i2l (v := (iI (SS.G q 10 (3 * ((ib : Int) / 3) + ((ib : Int) % 3)))).toInt64) hx hb dL_look_57 rfl ?_
              refine lv_ladd hx hb dL_look_58 ?_
              refine lv_lmul hx hb dL_look_59 ?_
              have J_7 : ∀ (bz_8 : Int) (H : Heap) (locs : List Loc), (bz_8 = (if (ib : Int) < 3 then SS.G q 11 (ib : Int) else 0)) → va_P D vwCl (wS xo xh t ta cI cC cH q) H → va_D A (wS xo xh t ta cI cC cH q) → va_S A s.heap H locs → W p l e R s m args below meth c H locs 0 0 Q (F0 m 77 ls [.int (iI bz_8), .long (31 * ((31 * (lkB (SS.G q) (lkA (SS.G q) 15) ib)) + (iI (SS.G q 10 (3 * ((ib : Int) / 3) + ((ib : Int) % 3)))).toInt64))]) := by
                intro bz_8 H locs hbz_8 hP hD hS
                refine lv_i2l (v := (iI bz_8).toInt64) hx hb dL_look_77 rfl ?_
                refine lv_ladd hx hb dL_look_78 ?_
                refine lv_lstore_n (lv' := [(1, .long ((31 * ((31 * (lkB (SS.G q) (lkA (SS.G q) 15) ib)) + (iI (SS.G q 10 (3 * ((ib : Int) / 3) + ((ib : Int) % 3)))).toInt64)) + (iI bz_8).toInt64)), (3, .int (iI (ib : Int))), (0, .ref xo)]) hx hb dL_look_79 rfl hl (by decide) rfl (fun ls hl => ?_)
                refine lv_iinc (v := iI ((ib : Int) + 1)) (lv' := [(3, .int (iI ((ib : Int) + 1))), (1, .long ((31 * ((31 * (lkB (SS.G q) (lkA (SS.G q) 15) ib)) + (iI (SS.G q 10 (3 * ((ib : Int) / 3) + ((ib : Int) % 3)))).toInt64)) + (iI bz_8).toInt64)), (0, .ref xo)]) hx hb dL_look_80 hl (k := 1) rfl (iI_add _ _) (by decide) rfl (fun ls hl => ?_)
                refine lv_goto (tgt := 33) hx hb dL_look_83 (by decide) ?_
                have e1_0 : (((ib + 1 : Nat) : Int)) = ((ib : Int) + 1) := by first | rfl | omega | (subst_vars; rfl)
                have e1_1 : ((lkB (SS.G q) (lkA (SS.G q) 15) (ib + 1))) = ((31 * ((31 * (lkB (SS.G q) (lkA (SS.G q) 15) ib)) + (iI (SS.G q 10 (3 * ((ib : Int) / 3) + ((ib : Int) % 3)))).toInt64)) + (iI bz_8).toInt64) := by first | rfl | omega | (subst_vars; rfl)
                exact ih33 (ib + 1) (by omega) (by omega) _ _ _ hP hD hS (lv_to (lv_sub (l' := [(3, .int (iI ((ib : Int) + 1))), (1, .long ((31 * ((31 * (lkB (SS.G q) (lkA (SS.G q) 15) ib)) + (iI (SS.G q 10 (3 * ((ib : Int) / 3) + ((ib : Int) % 3)))).toInt64)) + (iI bz_8).toInt64)), (0, .ref xo)]) hl [0, 1, 2] rfl) (by simp only [e1_0, e1_1]))
              refine lv_iload_n hx hb dL_look_60 rfl (lv_at hl 0 rfl) ?_
              refine z_iconst hx hb dL_look_61 ?_
              refine z_icmp_ge (tgt := 76) hx hb dL_look_62 (by decide) (by omega) (by omega) (fun c_9 => ?_) (fun c_9 => ?_)
              · refine z_iconst hx hb dL_look_76 ?_
                exact J_7 0 _ _ (by first | (rw [if_pos (by omega)]) | (rw [if_neg (by omega)])) hP hD hS
              · refine lv_aload_n hx hb dL_look_65 rfl (lv_at hl 2 rfl) ?_
                refine z_bipush hx hb dL_look_66 (by decide +kernel) ?_
                refine lv_iload_n hx hb dL_look_68 rfl (lv_at hl 0 rfl) ?_
                refine z_iadd hx hb dL_look_69 ?_
                refine mw_full (st1 := [.int (iI (SS.G q 11 (ib : Int))), .long (31 * ((31 * (lkB (SS.G q) (lkA (SS.G q) 15) ib)) + (iI (SS.G q 10 (3 * ((ib : Int) / 3) + ((ib : Int) % 3)))).toInt64))]) (mr_V (As := [.int (iI (20 + (ib : Int)))]) (rest := [.long (31 * ((31 * (lkB (SS.G q) (lkA (SS.G q) 15) ib)) + (iI (SS.G q 10 (3 * ((ib : Int) / 3) + ((ib : Int) % 3)))).toInt64))]) (ci := 2) (q0 := 0) ⟨hx, hb, hml, hown, hts⟩ (rd_cntS l D xo xh t ta cI cC cH h (ib : Int) (by omega)) (cwV 1 hts (gV q_344 q_345 q_346 q_37 q_304) rfl rfl rfl (by decide +kernel) ⟨Nat.le_trans (m := 6) (Nat.le_of_ble_eq_true rfl) (Nat.le_trans (Nat.le_of_ble_eq_true rfl) hRf), Nat.le_trans (m := 133) (Nat.le_of_ble_eq_true rfl) (Nat.le_trans (Nat.le_of_ble_eq_true rfl) hRl)⟩) hN hK hP hD rfl rfl rfl hl.1 (Nat.le_of_ble_eq_true rfl) ⟨hRc, hRs⟩ dL_look_70) hD hS hA rfl (fun H locs hP hD hS => ?_)
                refine lv_goto (tgt := 77) hx hb dL_look_73 (by decide) ?_
                exact J_7 (SS.G q 11 (ib : Int)) _ _ (by first | (rw [if_pos (by omega)]) | (rw [if_neg (by omega)])) hP hD hS
        have e0_0 : (((0 : Nat) : Int)) = 0 := by first | rfl | omega | (subst ea; rfl)
        have e0_1 : ((lkB (SS.G q) (lkA (SS.G q) 15) (0))) = (lkA (SS.G q) ia) := by first | rfl | omega | (subst ea; rfl)
        exact LP33 (9 + 1) 0 (by omega) (by omega) _ _ _ hP hD hS (lv_to (lv_sub (l' := [(3, .int (iI 0)), (1, .long (lkA (SS.G q) ia)), (0, .ref xo)]) hl [0, 1, 2] rfl) (by simp only [e0_0, e0_1]))
      · refine lv_ldc2 (v := 31) hx hb hown (hq _ q_343) dL_look_12 ?_
        refine lv_lload_n hx hb dL_look_15 rfl (lv_at hl 1 rfl) ?_
        refine lv_lmul hx hb dL_look_16 ?_
        refine lv_aload_n hx hb dL_look_17 rfl (lv_at hl 2 rfl) ?_
        refine lv_iload_n hx hb dL_look_18 rfl (lv_at hl 0 rfl) ?_
        refine mw_full (st1 := [.int (iI (tallyV (SS.G q) (ia : Int))), .long (31 * (lkA (SS.G q) ia))]) (mr_V (As := [.int (iI (ia : Int))]) (rest := [.long (31 * (lkA (SS.G q) ia))]) (ci := 2) (q0 := 0) ⟨hx, hb, hml, hown, hts⟩ (rd_tal l D xo xh t ta cI cC cH h (ia : Int) (by omega)) (cwV 1 hts (gV q_344 q_345 q_346 q_37 q_304) rfl rfl rfl (by decide +kernel) ⟨Nat.le_trans (m := 6) (Nat.le_of_ble_eq_true rfl) (Nat.le_trans (Nat.le_of_ble_eq_true rfl) hRf), Nat.le_trans (m := 133) (Nat.le_of_ble_eq_true rfl) (Nat.le_trans (Nat.le_of_ble_eq_true rfl) hRl)⟩) hN hK hP hD rfl rfl rfl hl.1 (Nat.le_of_ble_eq_true rfl) ⟨hRc, hRs⟩ dL_look_19) hD hS hA rfl (fun H locs hP hD hS => ?_)
        refine lv_i2l (v := (iI (tallyV (SS.G q) (ia : Int))).toInt64) hx hb dL_look_22 rfl ?_
        refine lv_ladd hx hb dL_look_23 ?_
        refine lv_lstore_n (lv' := [(1, .long ((31 * (lkA (SS.G q) ia)) + (iI (tallyV (SS.G q) (ia : Int))).toInt64)), (3, .int (iI (ia : Int))), (0, .ref xo)]) hx hb dL_look_24 rfl hl (by decide) rfl (fun ls hl => ?_)
        refine lv_iinc (v := iI ((ia : Int) + 1)) (lv' := [(3, .int (iI ((ia : Int) + 1))), (1, .long ((31 * (lkA (SS.G q) ia)) + (iI (tallyV (SS.G q) (ia : Int))).toInt64)), (0, .ref xo)]) hx hb dL_look_25 hl (k := 1) rfl (iI_add _ _) (by decide) rfl (fun ls hl => ?_)
        refine lv_goto (tgt := 6) hx hb dL_look_28 (by decide) ?_
        have e1_0 : (((ia + 1 : Nat) : Int)) = ((ia : Int) + 1) := by first | rfl | omega
        have e1_1 : ((lkA (SS.G q) (ia + 1))) = ((31 * (lkA (SS.G q) ia)) + (iI (tallyV (SS.G q) (ia : Int))).toInt64) := by first | rfl | omega
        exact ih6 (ia + 1) (by omega) (by omega) _ _ _ hP hD hS (lv_to (lv_sub (l' := [(3, .int (iI ((ia : Int) + 1))), (1, .long ((31 * (lkA (SS.G q) ia)) + (iI (tallyV (SS.G q) (ia : Int))).toInt64)), (0, .ref xo)]) hl [0, 1, 2] rfl) (by simp only [e1_0, e1_1]))
  have e0_0 : (((0 : Nat) : Int)) = 0 := by first | rfl | omega
  have e0_1 : ((lkA (SS.G q) (0))) = 331 := by first | rfl | omega
  exact LP6 (15 + 1) 0 (by omega) (by omega) _ _ _ hP hD hS (lv_to (lv_sub (l' := [(3, .int (iI 0)), (1, .long 331), (0, .ref xo)]) hl [0, 1, 2] rfl) (by simp only [e0_0, e0_1]))
