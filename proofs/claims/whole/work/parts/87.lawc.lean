/-! the law: its script, its calls -/
theorem l_sld {p : Program} {l : Launch} {e : Env} {R : Room} {s : State} {m : MethodId} {args : Array Value} {below : List Frame} {meth : Method} {c : Code} {H : Heap} {locs : List Loc} {cells slots : Nat} {Q : State → Prop} {cc : ByteArray} {pc : Nat} {ls : Array Slot} {rest : List Value} {A : Nat → Prop} (hx : p.tables.exec = Jvm.exec) (hb : c.code = cc) {b L : Nat} {xs : Nat → Int32} (hX : va_X b L xs s s.heap) (hbl : b < s.heap.size) (hbA : ¬ A b) (hS : va_S A s.heap H locs) (hL : L ≤ 2048) {z : Int} (j : Nat) (hz : z = (j : Int)) (hj : j < L) {a : Int} (ea : xs j = iI a) (hdg : decode cc pc = .ok (.iaload, 1))
    (kk : W p l e R s m args below meth c H locs cells slots Q (F0 m (pc + 1) ls (.int (iI a) :: rest))) : W p l e R s m args below meth c H locs cells slots Q (F0 m pc ls (.int (iI z) :: .ref b :: rest)) := by
  refine va_sld hx hb hX hbl hbA hS (iI_in (by omega) (by omega) (by omega)) hdg ?_
  rw [iI_clamp (by omega) (by omega), show z.toNat = j by omega, ea]
  exact kk
set_option maxHeartbeats 4000000 in
set_option maxRecDepth 100000 in
theorem law_write {p : Program} {l : Launch} {e : Env} {s : State} {m : MethodId} {args : Array Value} {below : List Frame} {meth : Method} {c : Code} {Q : State → Prop} {D : va_G} {A : Nat → Prop} {cI cC cH : ClassId} {xo xh t : Nat} {ta : Nat → Nat} {mo : Nat} {am : Nat → Nat} {b L : Nat} {xs : Nat → Int32} (hx : p.tables.exec = Jvm.exec) (hb : c.code = cL_law) (hml : c.maxLocals = 4) (hown : s.vm.findClass RL = some m.cls) (hts : ∀ w ∈ (Cond.arrayClass .int :: ALL), w.before args s = true) (hN : nK s) (hK : va_K D vwCl [(cI, .int), (cC, .char), (cH, .object RX0)] s) (hA : ∀ q : Nat, s.heap.size ≤ q → A q) (hX : va_X b L xs s s.heap) (hbl : b < s.heap.size) (hbA : ¬ A b) (hL : L ≤ 2048) (k : Nat) (hk : k < 512) (hk4 : 4 * (k : Int) ≤ (L : Int) - 4) (hn : (∀ (ga : Nat → Nat) (gd : Nat → Nat → Nat) (F T : Nat → Int → Int) (Gs : Nat → Nat → Int → Int) (S : Nat → Int → Int) (H : Heap) (locs : List Loc) (ls : Array Slot), Rel (k + 1) F T Gs S → va_P D vwCl (wX xo xh t ta cI cC cH ga gd F T Gs ++ wM mo am cI S) H → va_D A (wX xo xh t ta cI cC cH ga gd F T Gs ++ wM mo am cI S) → va_S A s.heap H locs → lv_has ls 4 [(3, .int (iI (4 * (k : Int)))), (2, .ref mo), (1, .ref xo), (0, .ref b)] → W p l e room_1 s m args below meth c H locs 600000 7302250 Q (F0 m 813 ls []))) {ga : Nat → Nat} {gd : Nat → Nat → Nat} {F T : Nat → Int → Int} {Gs : Nat → Nat → Int → Int} {S : Nat → Int → Int} {H : Heap} {locs : List Loc} {ls : Array Slot} (hR : Rel k F T Gs S) (hP : va_P D vwCl (wX xo xh t ta cI cC cH ga gd F T Gs ++ wM mo am cI S) H) (hD : va_D A (wX xo xh t ta cI cC cH ga gd F T Gs ++ wM mo am cI S)) (hS : va_S A s.heap H locs) (hl : lv_has ls 4 [(3, .int (iI (4 * (k : Int)))), (2, .ref mo), (1, .ref xo), (0, .ref b)]) {a1 : Int} (ha1 : -2147483648 ≤ a1 ∧ a1 < 2147483648) (ea1 : xs (4 * k + 1) = iI a1) {a2 : Int} (ha2 : -2147483648 ≤ a2 ∧ a2 < 2147483648) (ea2 : xs (4 * k + 2) = iI a2) {a3 : Int} (ha3 : -2147483648 ≤ a3 ∧ a3 < 2147483648) (ea3 : xs (4 * k + 3) = iI a3) : W p l e room_1 s m args below meth c H locs 600000 7302250 Q (F0 m 148 ls []) := by
  obtain ⟨V, ga1, gd1, F1, T1, Gs1, S1, mx, mm, hR1⟩ := st_write l D xo xh t ta cI cC cH mo am a1 a2 a3 ha1 ha2 ha3 k ga gd F T Gs S hk hR
  refine lv_aload_n hx hb dL_law_148 rfl (lv_at hl 2 rfl) ?_
  refine lv_aload_n hx hb dL_law_149 rfl (lv_at hl 3 rfl) ?_
  refine lv_iload_n hx hb dL_law_150 rfl (lv_at hl 0 rfl) ?_
  refine z_iconst hx hb dL_law_151 ?_
  refine z_iadd hx hb dL_law_152 ?_
  refine l_sld hx hb hX hbl hbA hS hL (4 * k + 1) (by omega) (by omega) ea1 dL_law_153 ?_
  refine lv_aload_n hx hb dL_law_154 rfl (lv_at hl 3 rfl) ?_
  refine lv_iload_n hx hb dL_law_155 rfl (lv_at hl 0 rfl) ?_
  refine z_iconst hx hb dL_law_156 ?_
  refine z_iadd hx hb dL_law_157 ?_
  refine l_sld hx hb hX hbl hbA hS hL (4 * k + 2) (by omega) (by omega) ea2 dL_law_158 ?_
  refine lv_aload_n hx hb dL_law_159 rfl (lv_at hl 3 rfl) ?_
  refine lv_iload_n hx hb dL_law_160 rfl (lv_at hl 0 rfl) ?_
  refine z_iconst hx hb dL_law_161 ?_
  refine z_iadd hx hb dL_law_162 ?_
  refine l_sld hx hb hX hbl hbA hS hL (4 * k + 3) (by omega) (by omega) ea3 dL_law_163 ?_
  refine mw_blk (wr := wM mo am cI S) (st1 := [.int (iI V)]) (mr_V (As := [.int (iI a1), .int (iI a2), .int (iI a3)]) (rest := []) (ci := 2) (q0 := 0) ⟨hx, hb, hml, hown, hts⟩ mx (cwV 3 hts (gV q_607 q_608 q_609 q_37 q_228) rfl rfl rfl (by decide +kernel) ⟨Nat.le_of_ble_eq_true rfl, Nat.le_of_ble_eq_true rfl⟩) hN hK (va_P_left hP) (va_D_left hD) rfl rfl rfl hl.1 (Nat.le_of_ble_eq_true rfl) ⟨Nat.le_of_ble_eq_true rfl, Nat.le_of_ble_eq_true rfl⟩ dL_law_164) hP hD hS hA (List.Perm.refl _) (List.Perm.refl _) rfl (fun H locs hP hD hS => ?_)
  refine lv_aload_n hx hb dL_law_167 rfl (lv_at hl 1 rfl) ?_
  refine lv_aload_n hx hb dL_law_168 rfl (lv_at hl 3 rfl) ?_
  refine lv_iload_n hx hb dL_law_169 rfl (lv_at hl 0 rfl) ?_
  refine z_iconst hx hb dL_law_170 ?_
  refine z_iadd hx hb dL_law_171 ?_
  refine l_sld hx hb hX hbl hbA hS hL (4 * k + 1) (by omega) (by omega) ea1 dL_law_172 ?_
  refine lv_aload_n hx hb dL_law_173 rfl (lv_at hl 3 rfl) ?_
  refine lv_iload_n hx hb dL_law_174 rfl (lv_at hl 0 rfl) ?_
  refine z_iconst hx hb dL_law_175 ?_
  refine z_iadd hx hb dL_law_176 ?_
  refine l_sld hx hb hX hbl hbA hS hL (4 * k + 2) (by omega) (by omega) ea2 dL_law_177 ?_
  refine lv_aload_n hx hb dL_law_178 rfl (lv_at hl 3 rfl) ?_
  refine lv_iload_n hx hb dL_law_179 rfl (lv_at hl 0 rfl) ?_
  refine z_iconst hx hb dL_law_180 ?_
  refine z_iadd hx hb dL_law_181 ?_
  refine l_sld hx hb hX hbl hbA hS hL (4 * k + 3) (by omega) (by omega) ea3 dL_law_182 ?_
  refine mw_blk (wr := wX xo xh t ta cI cC cH ga1 gd1 F1 T1 Gs1) (st1 := [.int (iI V), .int (iI V)]) (mr_V (As := [.int (iI a1), .int (iI a2), .int (iI a3)]) (rest := [.int (iI V)]) (ci := 3) (q0 := 0) ⟨hx, hb, hml, hown, hts⟩ mm (cwV 3 hts (gV q_610 q_611 q_612 q_345 q_466) rfl rfl rfl (by decide +kernel) ⟨Nat.le_of_ble_eq_true rfl, Nat.le_of_ble_eq_true rfl⟩) hN (hK.sub (tys' := [(cI, .int)]) [0] rfl) (va_P_left (va_P_perm hP List.perm_append_comm)) (va_D_left (va_D_perm hD List.perm_append_comm)) rfl rfl rfl hl.1 (Nat.le_of_ble_eq_true rfl) ⟨Nat.le_of_ble_eq_true rfl, Nat.le_of_ble_eq_true rfl⟩ dL_law_183) hP hD hS hA List.perm_append_comm List.perm_append_comm rfl (fun H locs hP hD hS => ?_)
  refine lv_icmp_eq (tgt := 813) hx hb dL_law_186 (by decide) (fun _ => ?_) (fun h => absurd rfl h)
  exact hn _ _ _ _ _ _ _ _ _ hR1 hP hD hS hl
set_option maxHeartbeats 4000000 in
set_option maxRecDepth 100000 in
theorem law_fill {p : Program} {l : Launch} {e : Env} {s : State} {m : MethodId} {args : Array Value} {below : List Frame} {meth : Method} {c : Code} {Q : State → Prop} {D : va_G} {A : Nat → Prop} {cI cC cH : ClassId} {xo xh t : Nat} {ta : Nat → Nat} {mo : Nat} {am : Nat → Nat} {b L : Nat} {xs : Nat → Int32} (hx : p.tables.exec = Jvm.exec) (hb : c.code = cL_law) (hml : c.maxLocals = 4) (hown : s.vm.findClass RL = some m.cls) (hts : ∀ w ∈ (Cond.arrayClass .int :: ALL), w.before args s = true) (hN : nK s) (hK : va_K D vwCl [(cI, .int), (cC, .char), (cH, .object RX0)] s) (hA : ∀ q : Nat, s.heap.size ≤ q → A q) (hX : va_X b L xs s s.heap) (hbl : b < s.heap.size) (hbA : ¬ A b) (hL : L ≤ 2048) (k : Nat) (hk : k < 512) (hk4 : 4 * (k : Int) ≤ (L : Int) - 4) (hn : (∀ (ga : Nat → Nat) (gd : Nat → Nat → Nat) (F T : Nat → Int → Int) (Gs : Nat → Nat → Int → Int) (S : Nat → Int → Int) (H : Heap) (locs : List Loc) (ls : Array Slot), Rel (k + 1) F T Gs S → va_P D vwCl (wX xo xh t ta cI cC cH ga gd F T Gs ++ wM mo am cI S) H → va_D A (wX xo xh t ta cI cC cH ga gd F T Gs ++ wM mo am cI S) → va_S A s.heap H locs → lv_has ls 4 [(3, .int (iI (4 * (k : Int)))), (2, .ref mo), (1, .ref xo), (0, .ref b)] → W p l e room_1 s m args below meth c H locs 600000 7302250 Q (F0 m 813 ls []))) {ga : Nat → Nat} {gd : Nat → Nat → Nat} {F T : Nat → Int → Int} {Gs : Nat → Nat → Int → Int} {S : Nat → Int → Int} {H : Heap} {locs : List Loc} {ls : Array Slot} (hR : Rel k F T Gs S) (hP : va_P D vwCl (wX xo xh t ta cI cC cH ga gd F T Gs ++ wM mo am cI S) H) (hD : va_D A (wX xo xh t ta cI cC cH ga gd F T Gs ++ wM mo am cI S)) (hS : va_S A s.heap H locs) (hl : lv_has ls 4 [(3, .int (iI (4 * (k : Int)))), (2, .ref mo), (1, .ref xo), (0, .ref b)]) {a1 : Int} (ha1 : -2147483648 ≤ a1 ∧ a1 < 2147483648) (ea1 : xs (4 * k + 1) = iI a1) {a2 : Int} (ha2 : -2147483648 ≤ a2 ∧ a2 < 2147483648) (ea2 : xs (4 * k + 2) = iI a2) : W p l e room_1 s m args below meth c H locs 600000 7302250 Q (F0 m 191 ls []) := by
  obtain ⟨V, ga1, gd1, F1, T1, Gs1, S1, mx, mm, hR1⟩ := st_fill l D xo xh t ta cI cC cH mo am a1 a2 ha1 ha2 k ga gd F T Gs S hk hR
  refine lv_aload_n hx hb dL_law_191 rfl (lv_at hl 2 rfl) ?_
  refine lv_aload_n hx hb dL_law_192 rfl (lv_at hl 3 rfl) ?_
  refine lv_iload_n hx hb dL_law_193 rfl (lv_at hl 0 rfl) ?_
  refine z_iconst hx hb dL_law_194 ?_
  refine z_iadd hx hb dL_law_195 ?_
  refine l_sld hx hb hX hbl hbA hS hL (4 * k + 1) (by omega) (by omega) ea1 dL_law_196 ?_
  refine lv_aload_n hx hb dL_law_197 rfl (lv_at hl 3 rfl) ?_
  refine lv_iload_n hx hb dL_law_198 rfl (lv_at hl 0 rfl) ?_
  refine z_iconst hx hb dL_law_199 ?_
  refine z_iadd hx hb dL_law_200 ?_
  refine l_sld hx hb hX hbl hbA hS hL (4 * k + 2) (by omega) (by omega) ea2 dL_law_201 ?_
  refine mw_blk (wr := wM mo am cI S) (st1 := [.int (iI V)]) (mr_V (As := [.int (iI a1), .int (iI a2)]) (rest := []) (ci := 2) (q0 := 0) ⟨hx, hb, hml, hown, hts⟩ mx (cwV 2 hts (gV q_613 q_614 q_615 q_37 q_232) rfl rfl rfl (by decide +kernel) ⟨Nat.le_of_ble_eq_true rfl, Nat.le_of_ble_eq_true rfl⟩) hN hK (va_P_left hP) (va_D_left hD) rfl rfl rfl hl.1 (Nat.le_of_ble_eq_true rfl) ⟨Nat.le_of_ble_eq_true rfl, Nat.le_of_ble_eq_true rfl⟩ dL_law_202) hP hD hS hA (List.Perm.refl _) (List.Perm.refl _) rfl (fun H locs hP hD hS => ?_)
  refine lv_aload_n hx hb dL_law_205 rfl (lv_at hl 1 rfl) ?_
  refine lv_aload_n hx hb dL_law_206 rfl (lv_at hl 3 rfl) ?_
  refine lv_iload_n hx hb dL_law_207 rfl (lv_at hl 0 rfl) ?_
  refine z_iconst hx hb dL_law_208 ?_
  refine z_iadd hx hb dL_law_209 ?_
  refine l_sld hx hb hX hbl hbA hS hL (4 * k + 1) (by omega) (by omega) ea1 dL_law_210 ?_
  refine lv_aload_n hx hb dL_law_211 rfl (lv_at hl 3 rfl) ?_
  refine lv_iload_n hx hb dL_law_212 rfl (lv_at hl 0 rfl) ?_
  refine z_iconst hx hb dL_law_213 ?_
  refine z_iadd hx hb dL_law_214 ?_
  refine l_sld hx hb hX hbl hbA hS hL (4 * k + 2) (by omega) (by omega) ea2 dL_law_215 ?_
  refine mw_blk (wr := wX xo xh t ta cI cC cH ga1 gd1 F1 T1 Gs1) (st1 := [.int (iI V), .int (iI V)]) (mr_V (As := [.int (iI a1), .int (iI a2)]) (rest := [.int (iI V)]) (ci := 3) (q0 := 0) ⟨hx, hb, hml, hown, hts⟩ mm (cwV 2 hts (gV q_616 q_617 q_618 q_345 q_467) rfl rfl rfl (by decide +kernel) ⟨Nat.le_of_ble_eq_true rfl, Nat.le_of_ble_eq_true rfl⟩) hN (hK.sub (tys' := [(cI, .int)]) [0] rfl) (va_P_left (va_P_perm hP List.perm_append_comm)) (va_D_left (va_D_perm hD List.perm_append_comm)) rfl rfl rfl hl.1 (Nat.le_of_ble_eq_true rfl) ⟨Nat.le_of_ble_eq_true rfl, Nat.le_of_ble_eq_true rfl⟩ dL_law_216) hP hD hS hA List.perm_append_comm List.perm_append_comm rfl (fun H locs hP hD hS => ?_)
  refine lv_icmp_eq (tgt := 813) hx hb dL_law_219 (by decide) (fun _ => ?_) (fun h => absurd rfl h)
  exact hn _ _ _ _ _ _ _ _ _ hR1 hP hD hS hl
set_option maxHeartbeats 4000000 in
set_option maxRecDepth 100000 in
theorem law_anew {p : Program} {l : Launch} {e : Env} {s : State} {m : MethodId} {args : Array Value} {below : List Frame} {meth : Method} {c : Code} {Q : State → Prop} {D : va_G} {A : Nat → Prop} {cI cC cH : ClassId} {xo xh t : Nat} {ta : Nat → Nat} {mo : Nat} {am : Nat → Nat} {b L : Nat} {xs : Nat → Int32} (hx : p.tables.exec = Jvm.exec) (hb : c.code = cL_law) (hml : c.maxLocals = 4) (hown : s.vm.findClass RL = some m.cls) (hts : ∀ w ∈ (Cond.arrayClass .int :: ALL), w.before args s = true) (hN : nK s) (hK : va_K D vwCl [(cI, .int), (cC, .char), (cH, .object RX0)] s) (hA : ∀ q : Nat, s.heap.size ≤ q → A q) (hX : va_X b L xs s s.heap) (hbl : b < s.heap.size) (hbA : ¬ A b) (hL : L ≤ 2048) (k : Nat) (hk : k < 512) (hk4 : 4 * (k : Int) ≤ (L : Int) - 4) (hn : (∀ (ga : Nat → Nat) (gd : Nat → Nat → Nat) (F T : Nat → Int → Int) (Gs : Nat → Nat → Int → Int) (S : Nat → Int → Int) (H : Heap) (locs : List Loc) (ls : Array Slot), Rel (k + 1) F T Gs S → va_P D vwCl (wX xo xh t ta cI cC cH ga gd F T Gs ++ wM mo am cI S) H → va_D A (wX xo xh t ta cI cC cH ga gd F T Gs ++ wM mo am cI S) → va_S A s.heap H locs → lv_has ls 4 [(3, .int (iI (4 * (k : Int)))), (2, .ref mo), (1, .ref xo), (0, .ref b)] → W p l e room_1 s m args below meth c H locs 600000 7302250 Q (F0 m 813 ls []))) {ga : Nat → Nat} {gd : Nat → Nat → Nat} {F T : Nat → Int → Int} {Gs : Nat → Nat → Int → Int} {S : Nat → Int → Int} {H : Heap} {locs : List Loc} {ls : Array Slot} (hR : Rel k F T Gs S) (hP : va_P D vwCl (wX xo xh t ta cI cC cH ga gd F T Gs ++ wM mo am cI S) H) (hD : va_D A (wX xo xh t ta cI cC cH ga gd F T Gs ++ wM mo am cI S)) (hS : va_S A s.heap H locs) (hl : lv_has ls 4 [(3, .int (iI (4 * (k : Int)))), (2, .ref mo), (1, .ref xo), (0, .ref b)]) {a1 : Int} (ha1 : -2147483648 ≤ a1 ∧ a1 < 2147483648) (ea1 : xs (4 * k + 1) = iI a1) : W p l e room_1 s m args below meth c H locs 600000 7302250 Q (F0 m 224 ls []) := by
  obtain ⟨V, ga1, gd1, F1, T1, Gs1, S1, mx, mm, hR1⟩ := st_anew l D xo xh t ta cI cC cH mo am a1 ha1 k ga gd F T Gs S hk hR
  refine lv_aload_n hx hb dL_law_224 rfl (lv_at hl 2 rfl) ?_
  refine lv_aload_n hx hb dL_law_225 rfl (lv_at hl 3 rfl) ?_
  refine lv_iload_n hx hb dL_law_226 rfl (lv_at hl 0 rfl) ?_
  refine z_iconst hx hb dL_law_227 ?_
  refine z_iadd hx hb dL_law_228 ?_
  refine l_sld hx hb hX hbl hbA hS hL (4 * k + 1) (by omega) (by omega) ea1 dL_law_229 ?_
  refine mw_blk (wr := wM mo am cI S) (st1 := [.int (iI V)]) (mr_V (As := [.int (iI a1)]) (rest := []) (ci := 2) (q0 := 0) ⟨hx, hb, hml, hown, hts⟩ mx (cwV 1 hts (gV q_619 q_620 q_621 q_37 q_234) rfl rfl rfl (by decide +kernel) ⟨Nat.le_of_ble_eq_true rfl, Nat.le_of_ble_eq_true rfl⟩) hN hK (va_P_left hP) (va_D_left hD) rfl rfl rfl hl.1 (Nat.le_of_ble_eq_true rfl) ⟨Nat.le_of_ble_eq_true rfl, Nat.le_of_ble_eq_true rfl⟩ dL_law_230) hP hD hS hA (List.Perm.refl _) (List.Perm.refl _) rfl (fun H locs hP hD hS => ?_)
  refine lv_aload_n hx hb dL_law_233 rfl (lv_at hl 1 rfl) ?_
  refine lv_aload_n hx hb dL_law_234 rfl (lv_at hl 3 rfl) ?_
  refine lv_iload_n hx hb dL_law_235 rfl (lv_at hl 0 rfl) ?_
  refine z_iconst hx hb dL_law_236 ?_
  refine z_iadd hx hb dL_law_237 ?_
  refine l_sld hx hb hX hbl hbA hS hL (4 * k + 1) (by omega) (by omega) ea1 dL_law_238 ?_
  refine mw_blk (wr := wX xo xh t ta cI cC cH ga1 gd1 F1 T1 Gs1) (st1 := [.int (iI V), .int (iI V)]) (mr_V (As := [.int (iI a1)]) (rest := [.int (iI V)]) (ci := 3) (q0 := 0) ⟨hx, hb, hml, hown, hts⟩ mm (cwV 1 hts (gV q_622 q_623 q_624 q_345 q_468) rfl rfl rfl (by decide +kernel) ⟨Nat.le_of_ble_eq_true rfl, Nat.le_of_ble_eq_true rfl⟩) hN (hK.sub (tys' := [(cI, .int)]) [0] rfl) (va_P_left (va_P_perm hP List.perm_append_comm)) (va_D_left (va_D_perm hD List.perm_append_comm)) rfl rfl rfl hl.1 (Nat.le_of_ble_eq_true rfl) ⟨Nat.le_of_ble_eq_true rfl, Nat.le_of_ble_eq_true rfl⟩ dL_law_239) hP hD hS hA List.perm_append_comm List.perm_append_comm rfl (fun H locs hP hD hS => ?_)
  refine lv_icmp_eq (tgt := 813) hx hb dL_law_242 (by decide) (fun _ => ?_) (fun h => absurd rfl h)
  exact hn _ _ _ _ _ _ _ _ _ hR1 hP hD hS hl
set_option maxHeartbeats 4000000 in
set_option maxRecDepth 100000 in
theorem law_ask {p : Program} {l : Launch} {e : Env} {s : State} {m : MethodId} {args : Array Value} {below : List Frame} {meth : Method} {c : Code} {Q : State → Prop} {D : va_G} {A : Nat → Prop} {cI cC cH : ClassId} {xo xh t : Nat} {ta : Nat → Nat} {mo : Nat} {am : Nat → Nat} {b L : Nat} {xs : Nat → Int32} (hx : p.tables.exec = Jvm.exec) (hb : c.code = cL_law) (hml : c.maxLocals = 4) (hown : s.vm.findClass RL = some m.cls) (hts : ∀ w ∈ (Cond.arrayClass .int :: ALL), w.before args s = true) (hN : nK s) (hK : va_K D vwCl [(cI, .int), (cC, .char), (cH, .object RX0)] s) (hA : ∀ q : Nat, s.heap.size ≤ q → A q) (hX : va_X b L xs s s.heap) (hbl : b < s.heap.size) (hbA : ¬ A b) (hL : L ≤ 2048) (k : Nat) (hk : k < 512) (hk4 : 4 * (k : Int) ≤ (L : Int) - 4) (hn : (∀ (ga : Nat → Nat) (gd : Nat → Nat → Nat) (F T : Nat → Int → Int) (Gs : Nat → Nat → Int → Int) (S : Nat → Int → Int) (H : Heap) (locs : List Loc) (ls : Array Slot), Rel (k + 1) F T Gs S → va_P D vwCl (wX xo xh t ta cI cC cH ga gd F T Gs ++ wM mo am cI S) H → va_D A (wX xo xh t ta cI cC cH ga gd F T Gs ++ wM mo am cI S) → va_S A s.heap H locs → lv_has ls 4 [(3, .int (iI (4 * (k : Int)))), (2, .ref mo), (1, .ref xo), (0, .ref b)] → W p l e room_1 s m args below meth c H locs 600000 7302250 Q (F0 m 813 ls []))) {ga : Nat → Nat} {gd : Nat → Nat → Nat} {F T : Nat → Int → Int} {Gs : Nat → Nat → Int → Int} {S : Nat → Int → Int} {H : Heap} {locs : List Loc} {ls : Array Slot} (hR : Rel k F T Gs S) (hP : va_P D vwCl (wX xo xh t ta cI cC cH ga gd F T Gs ++ wM mo am cI S) H) (hD : va_D A (wX xo xh t ta cI cC cH ga gd F T Gs ++ wM mo am cI S)) (hS : va_S A s.heap H locs) (hl : lv_has ls 4 [(3, .int (iI (4 * (k : Int)))), (2, .ref mo), (1, .ref xo), (0, .ref b)]) {a1 : Int} (ha1 : -2147483648 ≤ a1 ∧ a1 < 2147483648) (ea1 : xs (4 * k + 1) = iI a1) {a2 : Int} (ha2 : -2147483648 ≤ a2 ∧ a2 < 2147483648) (ea2 : xs (4 * k + 2) = iI a2) : W p l e room_1 s m args below meth c H locs 600000 7302250 Q (F0 m 247 ls []) := by
  obtain ⟨V, ga1, gd1, F1, T1, Gs1, S1, mx, mm, hR1⟩ := st_ask l D xo xh t ta cI cC cH mo am a1 a2 ha1 ha2 k ga gd F T Gs S hk hR
  refine lv_aload_n hx hb dL_law_247 rfl (lv_at hl 2 rfl) ?_
  refine lv_aload_n hx hb dL_law_248 rfl (lv_at hl 3 rfl) ?_
  refine lv_iload_n hx hb dL_law_249 rfl (lv_at hl 0 rfl) ?_
  refine z_iconst hx hb dL_law_250 ?_
  refine z_iadd hx hb dL_law_251 ?_
  refine l_sld hx hb hX hbl hbA hS hL (4 * k + 1) (by omega) (by omega) ea1 dL_law_252 ?_
  refine lv_aload_n hx hb dL_law_253 rfl (lv_at hl 3 rfl) ?_
  refine lv_iload_n hx hb dL_law_254 rfl (lv_at hl 0 rfl) ?_
  refine z_iconst hx hb dL_law_255 ?_
  refine z_iadd hx hb dL_law_256 ?_
  refine l_sld hx hb hX hbl hbA hS hL (4 * k + 2) (by omega) (by omega) ea2 dL_law_257 ?_
  refine mw_blk (wr := wM mo am cI S) (st1 := [.int (iI V)]) (mr_V (As := [.int (iI a1), .int (iI a2)]) (rest := []) (ci := 2) (q0 := 0) ⟨hx, hb, hml, hown, hts⟩ mx (cwV 2 hts (gV q_625 q_626 q_627 q_37 q_238) rfl rfl rfl (by decide +kernel) ⟨Nat.le_of_ble_eq_true rfl, Nat.le_of_ble_eq_true rfl⟩) hN hK (va_P_left hP) (va_D_left hD) rfl rfl rfl hl.1 (Nat.le_of_ble_eq_true rfl) ⟨Nat.le_of_ble_eq_true rfl, Nat.le_of_ble_eq_true rfl⟩ dL_law_258) hP hD hS hA (List.Perm.refl _) (List.Perm.refl _) rfl (fun H locs hP hD hS => ?_)
  refine lv_aload_n hx hb dL_law_261 rfl (lv_at hl 1 rfl) ?_
  refine lv_aload_n hx hb dL_law_262 rfl (lv_at hl 3 rfl) ?_
  refine lv_iload_n hx hb dL_law_263 rfl (lv_at hl 0 rfl) ?_
  refine z_iconst hx hb dL_law_264 ?_
  refine z_iadd hx hb dL_law_265 ?_
  refine l_sld hx hb hX hbl hbA hS hL (4 * k + 1) (by omega) (by omega) ea1 dL_law_266 ?_
  refine lv_aload_n hx hb dL_law_267 rfl (lv_at hl 3 rfl) ?_
  refine lv_iload_n hx hb dL_law_268 rfl (lv_at hl 0 rfl) ?_
  refine z_iconst hx hb dL_law_269 ?_
  refine z_iadd hx hb dL_law_270 ?_
  refine l_sld hx hb hX hbl hbA hS hL (4 * k + 2) (by omega) (by omega) ea2 dL_law_271 ?_
  refine mw_blk (wr := wX xo xh t ta cI cC cH ga1 gd1 F1 T1 Gs1) (st1 := [.int (iI V), .int (iI V)]) (mr_V (As := [.int (iI a1), .int (iI a2)]) (rest := [.int (iI V)]) (ci := 3) (q0 := 0) ⟨hx, hb, hml, hown, hts⟩ mm (cwV 2 hts (gV q_628 q_629 q_630 q_345 q_469) rfl rfl rfl (by decide +kernel) ⟨Nat.le_of_ble_eq_true rfl, Nat.le_of_ble_eq_true rfl⟩) hN (hK.sub (tys' := [(cI, .int)]) [0] rfl) (va_P_left (va_P_perm hP List.perm_append_comm)) (va_D_left (va_D_perm hD List.perm_append_comm)) rfl rfl rfl hl.1 (Nat.le_of_ble_eq_true rfl) ⟨Nat.le_of_ble_eq_true rfl, Nat.le_of_ble_eq_true rfl⟩ dL_law_272) hP hD hS hA List.perm_append_comm List.perm_append_comm rfl (fun H locs hP hD hS => ?_)
  refine lv_icmp_eq (tgt := 813) hx hb dL_law_275 (by decide) (fun _ => ?_) (fun h => absurd rfl h)
  exact hn _ _ _ _ _ _ _ _ _ hR1 hP hD hS hl
set_option maxHeartbeats 4000000 in
set_option maxRecDepth 100000 in
theorem law_fail {p : Program} {l : Launch} {e : Env} {s : State} {m : MethodId} {args : Array Value} {below : List Frame} {meth : Method} {c : Code} {Q : State → Prop} {D : va_G} {A : Nat → Prop} {cI cC cH : ClassId} {xo xh t : Nat} {ta : Nat → Nat} {mo : Nat} {am : Nat → Nat} {b L : Nat} {xs : Nat → Int32} (hx : p.tables.exec = Jvm.exec) (hb : c.code = cL_law) (hml : c.maxLocals = 4) (hown : s.vm.findClass RL = some m.cls) (hts : ∀ w ∈ (Cond.arrayClass .int :: ALL), w.before args s = true) (hN : nK s) (hK : va_K D vwCl [(cI, .int), (cC, .char), (cH, .object RX0)] s) (hA : ∀ q : Nat, s.heap.size ≤ q → A q) (hX : va_X b L xs s s.heap) (hbl : b < s.heap.size) (hbA : ¬ A b) (hL : L ≤ 2048) (k : Nat) (hk : k < 512) (hk4 : 4 * (k : Int) ≤ (L : Int) - 4) (hn : (∀ (ga : Nat → Nat) (gd : Nat → Nat → Nat) (F T : Nat → Int → Int) (Gs : Nat → Nat → Int → Int) (S : Nat → Int → Int) (H : Heap) (locs : List Loc) (ls : Array Slot), Rel (k + 1) F T Gs S → va_P D vwCl (wX xo xh t ta cI cC cH ga gd F T Gs ++ wM mo am cI S) H → va_D A (wX xo xh t ta cI cC cH ga gd F T Gs ++ wM mo am cI S) → va_S A s.heap H locs → lv_has ls 4 [(3, .int (iI (4 * (k : Int)))), (2, .ref mo), (1, .ref xo), (0, .ref b)] → W p l e room_1 s m args below meth c H locs 600000 7302250 Q (F0 m 813 ls []))) {ga : Nat → Nat} {gd : Nat → Nat → Nat} {F T : Nat → Int → Int} {Gs : Nat → Nat → Int → Int} {S : Nat → Int → Int} {H : Heap} {locs : List Loc} {ls : Array Slot} (hR : Rel k F T Gs S) (hP : va_P D vwCl (wX xo xh t ta cI cC cH ga gd F T Gs ++ wM mo am cI S) H) (hD : va_D A (wX xo xh t ta cI cC cH ga gd F T Gs ++ wM mo am cI S)) (hS : va_S A s.heap H locs) (hl : lv_has ls 4 [(3, .int (iI (4 * (k : Int)))), (2, .ref mo), (1, .ref xo), (0, .ref b)]) {a1 : Int} (ha1 : -2147483648 ≤ a1 ∧ a1 < 2147483648) (ea1 : xs (4 * k + 1) = iI a1) {a2 : Int} (ha2 : -2147483648 ≤ a2 ∧ a2 < 2147483648) (ea2 : xs (4 * k + 2) = iI a2) {a3 : Int} (ha3 : -2147483648 ≤ a3 ∧ a3 < 2147483648) (ea3 : xs (4 * k + 3) = iI a3) : W p l e room_1 s m args below meth c H locs 600000 7302250 Q (F0 m 280 ls []) := by
  obtain ⟨V, ga1, gd1, F1, T1, Gs1, S1, mx, mm, hR1⟩ := st_fail l D xo xh t ta cI cC cH mo am a1 a2 a3 ha1 ha2 ha3 k ga gd F T Gs S hk hR
  refine lv_aload_n hx hb dL_law_280 rfl (lv_at hl 2 rfl) ?_
  refine lv_aload_n hx hb dL_law_281 rfl (lv_at hl 3 rfl) ?_
  refine lv_iload_n hx hb dL_law_282 rfl (lv_at hl 0 rfl) ?_
  refine z_iconst hx hb dL_law_283 ?_
  refine z_iadd hx hb dL_law_284 ?_
  refine l_sld hx hb hX hbl hbA hS hL (4 * k + 1) (by omega) (by omega) ea1 dL_law_285 ?_
  refine lv_aload_n hx hb dL_law_286 rfl (lv_at hl 3 rfl) ?_
  refine lv_iload_n hx hb dL_law_287 rfl (lv_at hl 0 rfl) ?_
  refine z_iconst hx hb dL_law_288 ?_
  refine z_iadd hx hb dL_law_289 ?_
  refine l_sld hx hb hX hbl hbA hS hL (4 * k + 2) (by omega) (by omega) ea2 dL_law_290 ?_
  refine lv_aload_n hx hb dL_law_291 rfl (lv_at hl 3 rfl) ?_
  refine lv_iload_n hx hb dL_law_292 rfl (lv_at hl 0 rfl) ?_
  refine z_iconst hx hb dL_law_293 ?_
  refine z_iadd hx hb dL_law_294 ?_
  refine l_sld hx hb hX hbl hbA hS hL (4 * k + 3) (by omega) (by omega) ea3 dL_law_295 ?_
  refine mw_blk (wr := wM mo am cI S) (st1 := [.int (iI V)]) (mr_V (As := [.int (iI a1), .int (iI a2), .int (iI a3)]) (rest := []) (ci := 2) (q0 := 0) ⟨hx, hb, hml, hown, hts⟩ mx (cwV 3 hts (gV q_631 q_632 q_633 q_37 q_240) rfl rfl rfl (by decide +kernel) ⟨Nat.le_of_ble_eq_true rfl, Nat.le_of_ble_eq_true rfl⟩) hN hK (va_P_left hP) (va_D_left hD) rfl rfl rfl hl.1 (Nat.le_of_ble_eq_true rfl) ⟨Nat.le_of_ble_eq_true rfl, Nat.le_of_ble_eq_true rfl⟩ dL_law_296) hP hD hS hA (List.Perm.refl _) (List.Perm.refl _) rfl (fun H locs hP hD hS => ?_)
  refine lv_aload_n hx hb dL_law_299 rfl (lv_at hl 1 rfl) ?_
  refine lv_aload_n hx hb dL_law_300 rfl (lv_at hl 3 rfl) ?_
  refine lv_iload_n hx hb dL_law_301 rfl (lv_at hl 0 rfl) ?_
  refine z_iconst hx hb dL_law_302 ?_
  refine z_iadd hx hb dL_law_303 ?_
  refine l_sld hx hb hX hbl hbA hS hL (4 * k + 1) (by omega) (by omega) ea1 dL_law_304 ?_
  refine lv_aload_n hx hb dL_law_305 rfl (lv_at hl 3 rfl) ?_
  refine lv_iload_n hx hb dL_law_306 rfl (lv_at hl 0 rfl) ?_
  refine z_iconst hx hb dL_law_307 ?_
  refine z_iadd hx hb dL_law_308 ?_
  refine l_sld hx hb hX hbl hbA hS hL (4 * k + 2) (by omega) (by omega) ea2 dL_law_309 ?_
  refine lv_aload_n hx hb dL_law_310 rfl (lv_at hl 3 rfl) ?_
  refine lv_iload_n hx hb dL_law_311 rfl (lv_at hl 0 rfl) ?_
  refine z_iconst hx hb dL_law_312 ?_
  refine z_iadd hx hb dL_law_313 ?_
  refine l_sld hx hb hX hbl hbA hS hL (4 * k + 3) (by omega) (by omega) ea3 dL_law_314 ?_
  refine mw_blk (wr := wX xo xh t ta cI cC cH ga1 gd1 F1 T1 Gs1) (st1 := [.int (iI V), .int (iI V)]) (mr_V (As := [.int (iI a1), .int (iI a2), .int (iI a3)]) (rest := [.int (iI V)]) (ci := 3) (q0 := 0) ⟨hx, hb, hml, hown, hts⟩ mm (cwV 3 hts (gV q_634 q_635 q_636 q_345 q_476) rfl rfl rfl (by decide +kernel) ⟨Nat.le_of_ble_eq_true rfl, Nat.le_of_ble_eq_true rfl⟩) hN (hK.sub (tys' := [(cI, .int)]) [0] rfl) (va_P_left (va_P_perm hP List.perm_append_comm)) (va_D_left (va_D_perm hD List.perm_append_comm)) rfl rfl rfl hl.1 (Nat.le_of_ble_eq_true rfl) ⟨Nat.le_of_ble_eq_true rfl, Nat.le_of_ble_eq_true rfl⟩ dL_law_315) hP hD hS hA List.perm_append_comm List.perm_append_comm rfl (fun H locs hP hD hS => ?_)
  refine lv_icmp_eq (tgt := 813) hx hb dL_law_318 (by decide) (fun _ => ?_) (fun h => absurd rfl h)
  exact hn _ _ _ _ _ _ _ _ _ hR1 hP hD hS hl
set_option maxHeartbeats 4000000 in
set_option maxRecDepth 100000 in
theorem law_mend {p : Program} {l : Launch} {e : Env} {s : State} {m : MethodId} {args : Array Value} {below : List Frame} {meth : Method} {c : Code} {Q : State → Prop} {D : va_G} {A : Nat → Prop} {cI cC cH : ClassId} {xo xh t : Nat} {ta : Nat → Nat} {mo : Nat} {am : Nat → Nat} {b L : Nat} {xs : Nat → Int32} (hx : p.tables.exec = Jvm.exec) (hb : c.code = cL_law) (hml : c.maxLocals = 4) (hown : s.vm.findClass RL = some m.cls) (hts : ∀ w ∈ (Cond.arrayClass .int :: ALL), w.before args s = true) (hN : nK s) (hK : va_K D vwCl [(cI, .int), (cC, .char), (cH, .object RX0)] s) (hA : ∀ q : Nat, s.heap.size ≤ q → A q) (hX : va_X b L xs s s.heap) (hbl : b < s.heap.size) (hbA : ¬ A b) (hL : L ≤ 2048) (k : Nat) (hk : k < 512) (hk4 : 4 * (k : Int) ≤ (L : Int) - 4) (hn : (∀ (ga : Nat → Nat) (gd : Nat → Nat → Nat) (F T : Nat → Int → Int) (Gs : Nat → Nat → Int → Int) (S : Nat → Int → Int) (H : Heap) (locs : List Loc) (ls : Array Slot), Rel (k + 1) F T Gs S → va_P D vwCl (wX xo xh t ta cI cC cH ga gd F T Gs ++ wM mo am cI S) H → va_D A (wX xo xh t ta cI cC cH ga gd F T Gs ++ wM mo am cI S) → va_S A s.heap H locs → lv_has ls 4 [(3, .int (iI (4 * (k : Int)))), (2, .ref mo), (1, .ref xo), (0, .ref b)] → W p l e room_1 s m args below meth c H locs 600000 7302250 Q (F0 m 813 ls []))) {ga : Nat → Nat} {gd : Nat → Nat → Nat} {F T : Nat → Int → Int} {Gs : Nat → Nat → Int → Int} {S : Nat → Int → Int} {H : Heap} {locs : List Loc} {ls : Array Slot} (hR : Rel k F T Gs S) (hP : va_P D vwCl (wX xo xh t ta cI cC cH ga gd F T Gs ++ wM mo am cI S) H) (hD : va_D A (wX xo xh t ta cI cC cH ga gd F T Gs ++ wM mo am cI S)) (hS : va_S A s.heap H locs) (hl : lv_has ls 4 [(3, .int (iI (4 * (k : Int)))), (2, .ref mo), (1, .ref xo), (0, .ref b)]) {a1 : Int} (ha1 : -2147483648 ≤ a1 ∧ a1 < 2147483648) (ea1 : xs (4 * k + 1) = iI a1) {a2 : Int} (ha2 : -2147483648 ≤ a2 ∧ a2 < 2147483648) (ea2 : xs (4 * k + 2) = iI a2) : W p l e room_1 s m args below meth c H locs 600000 7302250 Q (F0 m 323 ls []) := by
  obtain ⟨V, ga1, gd1, F1, T1, Gs1, S1, mx, mm, hR1⟩ := st_mend l D xo xh t ta cI cC cH mo am a1 a2 ha1 ha2 k ga gd F T Gs S hk hR
  refine lv_aload_n hx hb dL_law_323 rfl (lv_at hl 2 rfl) ?_
  refine lv_aload_n hx hb dL_law_324 rfl (lv_at hl 3 rfl) ?_
  refine lv_iload_n hx hb dL_law_325 rfl (lv_at hl 0 rfl) ?_
  refine z_iconst hx hb dL_law_326 ?_
  refine z_iadd hx hb dL_law_327 ?_
  refine l_sld hx hb hX hbl hbA hS hL (4 * k + 1) (by omega) (by omega) ea1 dL_law_328 ?_
  refine lv_aload_n hx hb dL_law_329 rfl (lv_at hl 3 rfl) ?_
  refine lv_iload_n hx hb dL_law_330 rfl (lv_at hl 0 rfl) ?_
  refine z_iconst hx hb dL_law_331 ?_
  refine z_iadd hx hb dL_law_332 ?_
  refine l_sld hx hb hX hbl hbA hS hL (4 * k + 2) (by omega) (by omega) ea2 dL_law_333 ?_
  refine mw_blk (wr := wM mo am cI S) (st1 := [.int (iI V)]) (mr_V (As := [.int (iI a1), .int (iI a2)]) (rest := []) (ci := 2) (q0 := 0) ⟨hx, hb, hml, hown, hts⟩ mx (cwV 2 hts (gV q_637 q_638 q_639 q_37 q_242) rfl rfl rfl (by decide +kernel) ⟨Nat.le_of_ble_eq_true rfl, Nat.le_of_ble_eq_true rfl⟩) hN hK (va_P_left hP) (va_D_left hD) rfl rfl rfl hl.1 (Nat.le_of_ble_eq_true rfl) ⟨Nat.le_of_ble_eq_true rfl, Nat.le_of_ble_eq_true rfl⟩ dL_law_334) hP hD hS hA (List.Perm.refl _) (List.Perm.refl _) rfl (fun H locs hP hD hS => ?_)
  refine lv_aload_n hx hb dL_law_337 rfl (lv_at hl 1 rfl) ?_
  refine lv_aload_n hx hb dL_law_338 rfl (lv_at hl 3 rfl) ?_
  refine lv_iload_n hx hb dL_law_339 rfl (lv_at hl 0 rfl) ?_
  refine z_iconst hx hb dL_law_340 ?_
  refine z_iadd hx hb dL_law_341 ?_
  refine l_sld hx hb hX hbl hbA hS hL (4 * k + 1) (by omega) (by omega) ea1 dL_law_342 ?_
  refine lv_aload_n hx hb dL_law_343 rfl (lv_at hl 3 rfl) ?_
  refine lv_iload_n hx hb dL_law_344 rfl (lv_at hl 0 rfl) ?_
  refine z_iconst hx hb dL_law_345 ?_
  refine z_iadd hx hb dL_law_346 ?_
  refine l_sld hx hb hX hbl hbA hS hL (4 * k + 2) (by omega) (by omega) ea2 dL_law_347 ?_
  refine mw_blk (wr := wX xo xh t ta cI cC cH ga1 gd1 F1 T1 Gs1) (st1 := [.int (iI V), .int (iI V)]) (mr_V (As := [.int (iI a1), .int (iI a2)]) (rest := [.int (iI V)]) (ci := 3) (q0 := 0) ⟨hx, hb, hml, hown, hts⟩ mm (cwV 2 hts (gV q_640 q_641 q_642 q_345 q_480) rfl rfl rfl (by decide +kernel) ⟨Nat.le_of_ble_eq_true rfl, Nat.le_of_ble_eq_true rfl⟩) hN (hK.sub (tys' := [(cI, .int)]) [0] rfl) (va_P_left (va_P_perm hP List.perm_append_comm)) (va_D_left (va_D_perm hD List.perm_append_comm)) rfl rfl rfl hl.1 (Nat.le_of_ble_eq_true rfl) ⟨Nat.le_of_ble_eq_true rfl, Nat.le_of_ble_eq_true rfl⟩ dL_law_348) hP hD hS hA List.perm_append_comm List.perm_append_comm rfl (fun H locs hP hD hS => ?_)
  refine lv_icmp_eq (tgt := 813) hx hb dL_law_351 (by decide) (fun _ => ?_) (fun h => absurd rfl h)
  exact hn _ _ _ _ _ _ _ _ _ hR1 hP hD hS hl
set_option maxHeartbeats 4000000 in
set_option maxRecDepth 100000 in
theorem law_rate {p : Program} {l : Launch} {e : Env} {s : State} {m : MethodId} {args : Array Value} {below : List Frame} {meth : Method} {c : Code} {Q : State → Prop} {D : va_G} {A : Nat → Prop} {cI cC cH : ClassId} {xo xh t : Nat} {ta : Nat → Nat} {mo : Nat} {am : Nat → Nat} {b L : Nat} {xs : Nat → Int32} (hx : p.tables.exec = Jvm.exec) (hb : c.code = cL_law) (hml : c.maxLocals = 4) (hown : s.vm.findClass RL = some m.cls) (hts : ∀ w ∈ (Cond.arrayClass .int :: ALL), w.before args s = true) (hN : nK s) (hK : va_K D vwCl [(cI, .int), (cC, .char), (cH, .object RX0)] s) (hA : ∀ q : Nat, s.heap.size ≤ q → A q) (hX : va_X b L xs s s.heap) (hbl : b < s.heap.size) (hbA : ¬ A b) (hL : L ≤ 2048) (k : Nat) (hk : k < 512) (hk4 : 4 * (k : Int) ≤ (L : Int) - 4) (hn : (∀ (ga : Nat → Nat) (gd : Nat → Nat → Nat) (F T : Nat → Int → Int) (Gs : Nat → Nat → Int → Int) (S : Nat → Int → Int) (H : Heap) (locs : List Loc) (ls : Array Slot), Rel (k + 1) F T Gs S → va_P D vwCl (wX xo xh t ta cI cC cH ga gd F T Gs ++ wM mo am cI S) H → va_D A (wX xo xh t ta cI cC cH ga gd F T Gs ++ wM mo am cI S) → va_S A s.heap H locs → lv_has ls 4 [(3, .int (iI (4 * (k : Int)))), (2, .ref mo), (1, .ref xo), (0, .ref b)] → W p l e room_1 s m args below meth c H locs 600000 7302250 Q (F0 m 813 ls []))) {ga : Nat → Nat} {gd : Nat → Nat → Nat} {F T : Nat → Int → Int} {Gs : Nat → Nat → Int → Int} {S : Nat → Int → Int} {H : Heap} {locs : List Loc} {ls : Array Slot} (hR : Rel k F T Gs S) (hP : va_P D vwCl (wX xo xh t ta cI cC cH ga gd F T Gs ++ wM mo am cI S) H) (hD : va_D A (wX xo xh t ta cI cC cH ga gd F T Gs ++ wM mo am cI S)) (hS : va_S A s.heap H locs) (hl : lv_has ls 4 [(3, .int (iI (4 * (k : Int)))), (2, .ref mo), (1, .ref xo), (0, .ref b)]) {a1 : Int} (ha1 : -2147483648 ≤ a1 ∧ a1 < 2147483648) (ea1 : xs (4 * k + 1) = iI a1) {a2 : Int} (ha2 : -2147483648 ≤ a2 ∧ a2 < 2147483648) (ea2 : xs (4 * k + 2) = iI a2) : W p l e room_1 s m args below meth c H locs 600000 7302250 Q (F0 m 356 ls []) := by
  obtain ⟨V, ga1, gd1, F1, T1, Gs1, S1, mx, mm, hR1⟩ := st_rate l D xo xh t ta cI cC cH mo am a1 a2 ha1 ha2 k ga gd F T Gs S hk hR
  refine lv_aload_n hx hb dL_law_356 rfl (lv_at hl 2 rfl) ?_
  refine lv_aload_n hx hb dL_law_357 rfl (lv_at hl 3 rfl) ?_
  refine lv_iload_n hx hb dL_law_358 rfl (lv_at hl 0 rfl) ?_
  refine z_iconst hx hb dL_law_359 ?_
  refine z_iadd hx hb dL_law_360 ?_
  refine l_sld hx hb hX hbl hbA hS hL (4 * k + 1) (by omega) (by omega) ea1 dL_law_361 ?_
  refine lv_aload_n hx hb dL_law_362 rfl (lv_at hl 3 rfl) ?_
  refine lv_iload_n hx hb dL_law_363 rfl (lv_at hl 0 rfl) ?_
  refine z_iconst hx hb dL_law_364 ?_
  refine z_iadd hx hb dL_law_365 ?_
  refine l_sld hx hb hX hbl hbA hS hL (4 * k + 2) (by omega) (by omega) ea2 dL_law_366 ?_
  refine mw_blk (wr := wM mo am cI S) (st1 := [.int (iI V)]) (mr_V (As := [.int (iI a1), .int (iI a2)]) (rest := []) (ci := 2) (q0 := 0) ⟨hx, hb, hml, hown, hts⟩ mx (cwV 2 hts (gV q_643 q_644 q_645 q_37 q_244) rfl rfl rfl (by decide +kernel) ⟨Nat.le_of_ble_eq_true rfl, Nat.le_of_ble_eq_true rfl⟩) hN hK (va_P_left hP) (va_D_left hD) rfl rfl rfl hl.1 (Nat.le_of_ble_eq_true rfl) ⟨Nat.le_of_ble_eq_true rfl, Nat.le_of_ble_eq_true rfl⟩ dL_law_367) hP hD hS hA (List.Perm.refl _) (List.Perm.refl _) rfl (fun H locs hP hD hS => ?_)
  refine lv_aload_n hx hb dL_law_370 rfl (lv_at hl 1 rfl) ?_
  refine lv_aload_n hx hb dL_law_371 rfl (lv_at hl 3 rfl) ?_
  refine lv_iload_n hx hb dL_law_372 rfl (lv_at hl 0 rfl) ?_
  refine z_iconst hx hb dL_law_373 ?_
  refine z_iadd hx hb dL_law_374 ?_
  refine l_sld hx hb hX hbl hbA hS hL (4 * k + 1) (by omega) (by omega) ea1 dL_law_375 ?_
  refine lv_aload_n hx hb dL_law_376 rfl (lv_at hl 3 rfl) ?_
  refine lv_iload_n hx hb dL_law_377 rfl (lv_at hl 0 rfl) ?_
  refine z_iconst hx hb dL_law_378 ?_
  refine z_iadd hx hb dL_law_379 ?_
  refine l_sld hx hb hX hbl hbA hS hL (4 * k + 2) (by omega) (by omega) ea2 dL_law_380 ?_
  refine mw_blk (wr := wX xo xh t ta cI cC cH ga1 gd1 F1 T1 Gs1) (st1 := [.int (iI V), .int (iI V)]) (mr_V (As := [.int (iI a1), .int (iI a2)]) (rest := [.int (iI V)]) (ci := 3) (q0 := 0) ⟨hx, hb, hml, hown, hts⟩ mm (cwV 2 hts (gV q_646 q_647 q_648 q_345 q_483) rfl rfl rfl (by decide +kernel) ⟨Nat.le_of_ble_eq_true rfl, Nat.le_of_ble_eq_true rfl⟩) hN (hK.sub (tys' := [(cI, .int)]) [0] rfl) (va_P_left (va_P_perm hP List.perm_append_comm)) (va_D_left (va_D_perm hD List.perm_append_comm)) rfl rfl rfl hl.1 (Nat.le_of_ble_eq_true rfl) ⟨Nat.le_of_ble_eq_true rfl, Nat.le_of_ble_eq_true rfl⟩ dL_law_381) hP hD hS hA List.perm_append_comm List.perm_append_comm rfl (fun H locs hP hD hS => ?_)
  refine lv_icmp_eq (tgt := 813) hx hb dL_law_384 (by decide) (fun _ => ?_) (fun h => absurd rfl h)
  exact hn _ _ _ _ _ _ _ _ _ hR1 hP hD hS hl
set_option maxHeartbeats 4000000 in
set_option maxRecDepth 100000 in
theorem law_days {p : Program} {l : Launch} {e : Env} {s : State} {m : MethodId} {args : Array Value} {below : List Frame} {meth : Method} {c : Code} {Q : State → Prop} {D : va_G} {A : Nat → Prop} {cI cC cH : ClassId} {xo xh t : Nat} {ta : Nat → Nat} {mo : Nat} {am : Nat → Nat} {b L : Nat} {xs : Nat → Int32} (hx : p.tables.exec = Jvm.exec) (hb : c.code = cL_law) (hml : c.maxLocals = 4) (hown : s.vm.findClass RL = some m.cls) (hts : ∀ w ∈ (Cond.arrayClass .int :: ALL), w.before args s = true) (hN : nK s) (hK : va_K D vwCl [(cI, .int), (cC, .char), (cH, .object RX0)] s) (hA : ∀ q : Nat, s.heap.size ≤ q → A q) (hX : va_X b L xs s s.heap) (hbl : b < s.heap.size) (hbA : ¬ A b) (hL : L ≤ 2048) (k : Nat) (hk : k < 512) (hk4 : 4 * (k : Int) ≤ (L : Int) - 4) (hn : (∀ (ga : Nat → Nat) (gd : Nat → Nat → Nat) (F T : Nat → Int → Int) (Gs : Nat → Nat → Int → Int) (S : Nat → Int → Int) (H : Heap) (locs : List Loc) (ls : Array Slot), Rel (k + 1) F T Gs S → va_P D vwCl (wX xo xh t ta cI cC cH ga gd F T Gs ++ wM mo am cI S) H → va_D A (wX xo xh t ta cI cC cH ga gd F T Gs ++ wM mo am cI S) → va_S A s.heap H locs → lv_has ls 4 [(3, .int (iI (4 * (k : Int)))), (2, .ref mo), (1, .ref xo), (0, .ref b)] → W p l e room_1 s m args below meth c H locs 600000 7302250 Q (F0 m 813 ls []))) {ga : Nat → Nat} {gd : Nat → Nat → Nat} {F T : Nat → Int → Int} {Gs : Nat → Nat → Int → Int} {S : Nat → Int → Int} {H : Heap} {locs : List Loc} {ls : Array Slot} (hR : Rel k F T Gs S) (hP : va_P D vwCl (wX xo xh t ta cI cC cH ga gd F T Gs ++ wM mo am cI S) H) (hD : va_D A (wX xo xh t ta cI cC cH ga gd F T Gs ++ wM mo am cI S)) (hS : va_S A s.heap H locs) (hl : lv_has ls 4 [(3, .int (iI (4 * (k : Int)))), (2, .ref mo), (1, .ref xo), (0, .ref b)]) {a1 : Int} (ha1 : -2147483648 ≤ a1 ∧ a1 < 2147483648) (ea1 : xs (4 * k + 1) = iI a1) : W p l e room_1 s m args below meth c H locs 600000 7302250 Q (F0 m 389 ls []) := by
  obtain ⟨V, ga1, gd1, F1, T1, Gs1, S1, mx, mm, hR1⟩ := st_days l D xo xh t ta cI cC cH mo am a1 ha1 k ga gd F T Gs S hk hR
  refine lv_aload_n hx hb dL_law_389 rfl (lv_at hl 2 rfl) ?_
  refine lv_aload_n hx hb dL_law_390 rfl (lv_at hl 3 rfl) ?_
  refine lv_iload_n hx hb dL_law_391 rfl (lv_at hl 0 rfl) ?_
  refine z_iconst hx hb dL_law_392 ?_
  refine z_iadd hx hb dL_law_393 ?_
  refine l_sld hx hb hX hbl hbA hS hL (4 * k + 1) (by omega) (by omega) ea1 dL_law_394 ?_
  refine mw_blk (wr := wM mo am cI S) (st1 := [.int (iI V)]) (mr_V (As := [.int (iI a1)]) (rest := []) (ci := 2) (q0 := 0) ⟨hx, hb, hml, hown, hts⟩ mx (cwV 1 hts (gV q_649 q_650 q_651 q_37 q_246) rfl rfl rfl (by decide +kernel) ⟨Nat.le_of_ble_eq_true rfl, Nat.le_of_ble_eq_true rfl⟩) hN hK (va_P_left hP) (va_D_left hD) rfl rfl rfl hl.1 (Nat.le_of_ble_eq_true rfl) ⟨Nat.le_of_ble_eq_true rfl, Nat.le_of_ble_eq_true rfl⟩ dL_law_395) hP hD hS hA (List.Perm.refl _) (List.Perm.refl _) rfl (fun H locs hP hD hS => ?_)
  refine lv_aload_n hx hb dL_law_398 rfl (lv_at hl 1 rfl) ?_
  refine lv_aload_n hx hb dL_law_399 rfl (lv_at hl 3 rfl) ?_
  refine lv_iload_n hx hb dL_law_400 rfl (lv_at hl 0 rfl) ?_
  refine z_iconst hx hb dL_law_401 ?_
  refine z_iadd hx hb dL_law_402 ?_
  refine l_sld hx hb hX hbl hbA hS hL (4 * k + 1) (by omega) (by omega) ea1 dL_law_403 ?_
  refine mw_blk (wr := wX xo xh t ta cI cC cH ga1 gd1 F1 T1 Gs1) (st1 := [.int (iI V), .int (iI V)]) (mr_V (As := [.int (iI a1)]) (rest := [.int (iI V)]) (ci := 3) (q0 := 0) ⟨hx, hb, hml, hown, hts⟩ mm (cwV 1 hts (gV q_652 q_653 q_654 q_345 q_490) rfl rfl rfl (by decide +kernel) ⟨Nat.le_of_ble_eq_true rfl, Nat.le_of_ble_eq_true rfl⟩) hN (hK.sub (tys' := [(cI, .int)]) [0] rfl) (va_P_left (va_P_perm hP List.perm_append_comm)) (va_D_left (va_D_perm hD List.perm_append_comm)) rfl rfl rfl hl.1 (Nat.le_of_ble_eq_true rfl) ⟨Nat.le_of_ble_eq_true rfl, Nat.le_of_ble_eq_true rfl⟩ dL_law_404) hP hD hS hA List.perm_append_comm List.perm_append_comm rfl (fun H locs hP hD hS => ?_)
  refine lv_icmp_eq (tgt := 813) hx hb dL_law_407 (by decide) (fun _ => ?_) (fun h => absurd rfl h)
  exact hn _ _ _ _ _ _ _ _ _ hR1 hP hD hS hl
set_option maxHeartbeats 4000000 in
set_option maxRecDepth 100000 in
theorem law_set {p : Program} {l : Launch} {e : Env} {s : State} {m : MethodId} {args : Array Value} {below : List Frame} {meth : Method} {c : Code} {Q : State → Prop} {D : va_G} {A : Nat → Prop} {cI cC cH : ClassId} {xo xh t : Nat} {ta : Nat → Nat} {mo : Nat} {am : Nat → Nat} {b L : Nat} {xs : Nat → Int32} (hx : p.tables.exec = Jvm.exec) (hb : c.code = cL_law) (hml : c.maxLocals = 4) (hown : s.vm.findClass RL = some m.cls) (hts : ∀ w ∈ (Cond.arrayClass .int :: ALL), w.before args s = true) (hN : nK s) (hK : va_K D vwCl [(cI, .int), (cC, .char), (cH, .object RX0)] s) (hA : ∀ q : Nat, s.heap.size ≤ q → A q) (hX : va_X b L xs s s.heap) (hbl : b < s.heap.size) (hbA : ¬ A b) (hL : L ≤ 2048) (k : Nat) (hk : k < 512) (hk4 : 4 * (k : Int) ≤ (L : Int) - 4) (hn : (∀ (ga : Nat → Nat) (gd : Nat → Nat → Nat) (F T : Nat → Int → Int) (Gs : Nat → Nat → Int → Int) (S : Nat → Int → Int) (H : Heap) (locs : List Loc) (ls : Array Slot), Rel (k + 1) F T Gs S → va_P D vwCl (wX xo xh t ta cI cC cH ga gd F T Gs ++ wM mo am cI S) H → va_D A (wX xo xh t ta cI cC cH ga gd F T Gs ++ wM mo am cI S) → va_S A s.heap H locs → lv_has ls 4 [(3, .int (iI (4 * (k : Int)))), (2, .ref mo), (1, .ref xo), (0, .ref b)] → W p l e room_1 s m args below meth c H locs 600000 7302250 Q (F0 m 813 ls []))) {ga : Nat → Nat} {gd : Nat → Nat → Nat} {F T : Nat → Int → Int} {Gs : Nat → Nat → Int → Int} {S : Nat → Int → Int} {H : Heap} {locs : List Loc} {ls : Array Slot} (hR : Rel k F T Gs S) (hP : va_P D vwCl (wX xo xh t ta cI cC cH ga gd F T Gs ++ wM mo am cI S) H) (hD : va_D A (wX xo xh t ta cI cC cH ga gd F T Gs ++ wM mo am cI S)) (hS : va_S A s.heap H locs) (hl : lv_has ls 4 [(3, .int (iI (4 * (k : Int)))), (2, .ref mo), (1, .ref xo), (0, .ref b)]) {a1 : Int} (ha1 : -2147483648 ≤ a1 ∧ a1 < 2147483648) (ea1 : xs (4 * k + 1) = iI a1) {a2 : Int} (ha2 : -2147483648 ≤ a2 ∧ a2 < 2147483648) (ea2 : xs (4 * k + 2) = iI a2) : W p l e room_1 s m args below meth c H locs 600000 7302250 Q (F0 m 412 ls []) := by
  obtain ⟨V, ga1, gd1, F1, T1, Gs1, S1, mx, mm, hR1⟩ := st_set l D xo xh t ta cI cC cH mo am a1 a2 ha1 ha2 k ga gd F T Gs S hk hR
  refine lv_aload_n hx hb dL_law_412 rfl (lv_at hl 2 rfl) ?_
  refine lv_aload_n hx hb dL_law_413 rfl (lv_at hl 3 rfl) ?_
  refine lv_iload_n hx hb dL_law_414 rfl (lv_at hl 0 rfl) ?_
  refine z_iconst hx hb dL_law_415 ?_
  refine z_iadd hx hb dL_law_416 ?_
  refine l_sld hx hb hX hbl hbA hS hL (4 * k + 1) (by omega) (by omega) ea1 dL_law_417 ?_
  refine lv_aload_n hx hb dL_law_418 rfl (lv_at hl 3 rfl) ?_
  refine lv_iload_n hx hb dL_law_419 rfl (lv_at hl 0 rfl) ?_
  refine z_iconst hx hb dL_law_420 ?_
  refine z_iadd hx hb dL_law_421 ?_
  refine l_sld hx hb hX hbl hbA hS hL (4 * k + 2) (by omega) (by omega) ea2 dL_law_422 ?_
  refine mw_blk (wr := wM mo am cI S) (st1 := [.int (iI V)]) (mr_V (As := [.int (iI a1), .int (iI a2)]) (rest := []) (ci := 2) (q0 := 0) ⟨hx, hb, hml, hown, hts⟩ mx (cwV 2 hts (gV q_655 q_656 q_657 q_37 q_250) rfl rfl rfl (by decide +kernel) ⟨Nat.le_of_ble_eq_true rfl, Nat.le_of_ble_eq_true rfl⟩) hN hK (va_P_left hP) (va_D_left hD) rfl rfl rfl hl.1 (Nat.le_of_ble_eq_true rfl) ⟨Nat.le_of_ble_eq_true rfl, Nat.le_of_ble_eq_true rfl⟩ dL_law_423) hP hD hS hA (List.Perm.refl _) (List.Perm.refl _) rfl (fun H locs hP hD hS => ?_)
  refine lv_aload_n hx hb dL_law_426 rfl (lv_at hl 1 rfl) ?_
  refine lv_aload_n hx hb dL_law_427 rfl (lv_at hl 3 rfl) ?_
  refine lv_iload_n hx hb dL_law_428 rfl (lv_at hl 0 rfl) ?_
  refine z_iconst hx hb dL_law_429 ?_
  refine z_iadd hx hb dL_law_430 ?_
  refine l_sld hx hb hX hbl hbA hS hL (4 * k + 1) (by omega) (by omega) ea1 dL_law_431 ?_
  refine lv_aload_n hx hb dL_law_432 rfl (lv_at hl 3 rfl) ?_
  refine lv_iload_n hx hb dL_law_433 rfl (lv_at hl 0 rfl) ?_
  refine z_iconst hx hb dL_law_434 ?_
  refine z_iadd hx hb dL_law_435 ?_
  refine l_sld hx hb hX hbl hbA hS hL (4 * k + 2) (by omega) (by omega) ea2 dL_law_436 ?_
  refine mw_blk (wr := wX xo xh t ta cI cC cH ga1 gd1 F1 T1 Gs1) (st1 := [.int (iI V), .int (iI V)]) (mr_V (As := [.int (iI a1), .int (iI a2)]) (rest := [.int (iI V)]) (ci := 3) (q0 := 0) ⟨hx, hb, hml, hown, hts⟩ mm (cwV 2 hts (gV q_658 q_659 q_660 q_345 q_491) rfl rfl rfl (by decide +kernel) ⟨Nat.le_of_ble_eq_true rfl, Nat.le_of_ble_eq_true rfl⟩) hN (hK.sub (tys' := [(cI, .int)]) [0] rfl) (va_P_left (va_P_perm hP List.perm_append_comm)) (va_D_left (va_D_perm hD List.perm_append_comm)) rfl rfl rfl hl.1 (Nat.le_of_ble_eq_true rfl) ⟨Nat.le_of_ble_eq_true rfl, Nat.le_of_ble_eq_true rfl⟩ dL_law_437) hP hD hS hA List.perm_append_comm List.perm_append_comm rfl (fun H locs hP hD hS => ?_)
  refine lv_icmp_eq (tgt := 813) hx hb dL_law_440 (by decide) (fun _ => ?_) (fun h => absurd rfl h)
  exact hn _ _ _ _ _ _ _ _ _ hR1 hP hD hS hl
set_option maxHeartbeats 4000000 in
set_option maxRecDepth 100000 in
theorem law_cell {p : Program} {l : Launch} {e : Env} {s : State} {m : MethodId} {args : Array Value} {below : List Frame} {meth : Method} {c : Code} {Q : State → Prop} {D : va_G} {A : Nat → Prop} {cI cC cH : ClassId} {xo xh t : Nat} {ta : Nat → Nat} {mo : Nat} {am : Nat → Nat} {b L : Nat} {xs : Nat → Int32} (hx : p.tables.exec = Jvm.exec) (hb : c.code = cL_law) (hml : c.maxLocals = 4) (hown : s.vm.findClass RL = some m.cls) (hts : ∀ w ∈ (Cond.arrayClass .int :: ALL), w.before args s = true) (hN : nK s) (hK : va_K D vwCl [(cI, .int), (cC, .char), (cH, .object RX0)] s) (hA : ∀ q : Nat, s.heap.size ≤ q → A q) (hX : va_X b L xs s s.heap) (hbl : b < s.heap.size) (hbA : ¬ A b) (hL : L ≤ 2048) (k : Nat) (hk : k < 512) (hk4 : 4 * (k : Int) ≤ (L : Int) - 4) (hn : (∀ (ga : Nat → Nat) (gd : Nat → Nat → Nat) (F T : Nat → Int → Int) (Gs : Nat → Nat → Int → Int) (S : Nat → Int → Int) (H : Heap) (locs : List Loc) (ls : Array Slot), Rel (k + 1) F T Gs S → va_P D vwCl (wX xo xh t ta cI cC cH ga gd F T Gs ++ wM mo am cI S) H → va_D A (wX xo xh t ta cI cC cH ga gd F T Gs ++ wM mo am cI S) → va_S A s.heap H locs → lv_has ls 4 [(3, .int (iI (4 * (k : Int)))), (2, .ref mo), (1, .ref xo), (0, .ref b)] → W p l e room_1 s m args below meth c H locs 600000 7302250 Q (F0 m 813 ls []))) {ga : Nat → Nat} {gd : Nat → Nat → Nat} {F T : Nat → Int → Int} {Gs : Nat → Nat → Int → Int} {S : Nat → Int → Int} {H : Heap} {locs : List Loc} {ls : Array Slot} (hR : Rel k F T Gs S) (hP : va_P D vwCl (wX xo xh t ta cI cC cH ga gd F T Gs ++ wM mo am cI S) H) (hD : va_D A (wX xo xh t ta cI cC cH ga gd F T Gs ++ wM mo am cI S)) (hS : va_S A s.heap H locs) (hl : lv_has ls 4 [(3, .int (iI (4 * (k : Int)))), (2, .ref mo), (1, .ref xo), (0, .ref b)]) {a1 : Int} (ha1 : -2147483648 ≤ a1 ∧ a1 < 2147483648) (ea1 : xs (4 * k + 1) = iI a1) {a2 : Int} (ha2 : -2147483648 ≤ a2 ∧ a2 < 2147483648) (ea2 : xs (4 * k + 2) = iI a2) {a3 : Int} (ha3 : -2147483648 ≤ a3 ∧ a3 < 2147483648) (ea3 : xs (4 * k + 3) = iI a3) : W p l e room_1 s m args below meth c H locs 600000 7302250 Q (F0 m 445 ls []) := by
  obtain ⟨V, ga1, gd1, F1, T1, Gs1, S1, mx, mm, hR1⟩ := st_cell l D xo xh t ta cI cC cH mo am a1 a2 a3 ha1 ha2 ha3 k ga gd F T Gs S hk hR
  refine lv_aload_n hx hb dL_law_445 rfl (lv_at hl 2 rfl) ?_
  refine lv_aload_n hx hb dL_law_446 rfl (lv_at hl 3 rfl) ?_
  refine lv_iload_n hx hb dL_law_447 rfl (lv_at hl 0 rfl) ?_
  refine z_iconst hx hb dL_law_448 ?_
  refine z_iadd hx hb dL_law_449 ?_
  refine l_sld hx hb hX hbl hbA hS hL (4 * k + 1) (by omega) (by omega) ea1 dL_law_450 ?_
  refine lv_aload_n hx hb dL_law_451 rfl (lv_at hl 3 rfl) ?_
  refine lv_iload_n hx hb dL_law_452 rfl (lv_at hl 0 rfl) ?_
  refine z_iconst hx hb dL_law_453 ?_
  refine z_iadd hx hb dL_law_454 ?_
  refine l_sld hx hb hX hbl hbA hS hL (4 * k + 2) (by omega) (by omega) ea2 dL_law_455 ?_
  refine lv_aload_n hx hb dL_law_456 rfl (lv_at hl 3 rfl) ?_
  refine lv_iload_n hx hb dL_law_457 rfl (lv_at hl 0 rfl) ?_
  refine z_iconst hx hb dL_law_458 ?_
  refine z_iadd hx hb dL_law_459 ?_
  refine l_sld hx hb hX hbl hbA hS hL (4 * k + 3) (by omega) (by omega) ea3 dL_law_460 ?_
  refine mw_blk (wr := wM mo am cI S) (st1 := [.int (iI V)]) (mr_V (As := [.int (iI a1), .int (iI a2), .int (iI a3)]) (rest := []) (ci := 2) (q0 := 0) ⟨hx, hb, hml, hown, hts⟩ mx (cwV 3 hts (gV q_661 q_662 q_663 q_37 q_254) rfl rfl rfl (by decide +kernel) ⟨Nat.le_of_ble_eq_true rfl, Nat.le_of_ble_eq_true rfl⟩) hN hK (va_P_left hP) (va_D_left hD) rfl rfl rfl hl.1 (Nat.le_of_ble_eq_true rfl) ⟨Nat.le_of_ble_eq_true rfl, Nat.le_of_ble_eq_true rfl⟩ dL_law_461) hP hD hS hA (List.Perm.refl _) (List.Perm.refl _) rfl (fun H locs hP hD hS => ?_)
  refine lv_aload_n hx hb dL_law_464 rfl (lv_at hl 1 rfl) ?_
  refine lv_aload_n hx hb dL_law_465 rfl (lv_at hl 3 rfl) ?_
  refine lv_iload_n hx hb dL_law_466 rfl (lv_at hl 0 rfl) ?_
  refine z_iconst hx hb dL_law_467 ?_
  refine z_iadd hx hb dL_law_468 ?_
  refine l_sld hx hb hX hbl hbA hS hL (4 * k + 1) (by omega) (by omega) ea1 dL_law_469 ?_
  refine lv_aload_n hx hb dL_law_470 rfl (lv_at hl 3 rfl) ?_
  refine lv_iload_n hx hb dL_law_471 rfl (lv_at hl 0 rfl) ?_
  refine z_iconst hx hb dL_law_472 ?_
  refine z_iadd hx hb dL_law_473 ?_
  refine l_sld hx hb hX hbl hbA hS hL (4 * k + 2) (by omega) (by omega) ea2 dL_law_474 ?_
  refine lv_aload_n hx hb dL_law_475 rfl (lv_at hl 3 rfl) ?_
  refine lv_iload_n hx hb dL_law_476 rfl (lv_at hl 0 rfl) ?_
  refine z_iconst hx hb dL_law_477 ?_
  refine z_iadd hx hb dL_law_478 ?_
  refine l_sld hx hb hX hbl hbA hS hL (4 * k + 3) (by omega) (by omega) ea3 dL_law_479 ?_
  refine mw_blk (wr := wX xo xh t ta cI cC cH ga1 gd1 F1 T1 Gs1) (st1 := [.int (iI V), .int (iI V)]) (mr_V (As := [.int (iI a1), .int (iI a2), .int (iI a3)]) (rest := [.int (iI V)]) (ci := 3) (q0 := 0) ⟨hx, hb, hml, hown, hts⟩ mm (cwV 3 hts (gV q_664 q_665 q_666 q_345 q_497) rfl rfl rfl (by decide +kernel) ⟨Nat.le_of_ble_eq_true rfl, Nat.le_of_ble_eq_true rfl⟩) hN (hK.sub (tys' := [(cI, .int)]) [0] rfl) (va_P_left (va_P_perm hP List.perm_append_comm)) (va_D_left (va_D_perm hD List.perm_append_comm)) rfl rfl rfl hl.1 (Nat.le_of_ble_eq_true rfl) ⟨Nat.le_of_ble_eq_true rfl, Nat.le_of_ble_eq_true rfl⟩ dL_law_480) hP hD hS hA List.perm_append_comm List.perm_append_comm rfl (fun H locs hP hD hS => ?_)
  refine lv_icmp_eq (tgt := 813) hx hb dL_law_483 (by decide) (fun _ => ?_) (fun h => absurd rfl h)
  exact hn _ _ _ _ _ _ _ _ _ hR1 hP hD hS hl
set_option maxHeartbeats 4000000 in
set_option maxRecDepth 100000 in
theorem law_guard {p : Program} {l : Launch} {e : Env} {s : State} {m : MethodId} {args : Array Value} {below : List Frame} {meth : Method} {c : Code} {Q : State → Prop} {D : va_G} {A : Nat → Prop} {cI cC cH : ClassId} {xo xh t : Nat} {ta : Nat → Nat} {mo : Nat} {am : Nat → Nat} {b L : Nat} {xs : Nat → Int32} (hx : p.tables.exec = Jvm.exec) (hb : c.code = cL_law) (hml : c.maxLocals = 4) (hown : s.vm.findClass RL = some m.cls) (hts : ∀ w ∈ (Cond.arrayClass .int :: ALL), w.before args s = true) (hN : nK s) (hK : va_K D vwCl [(cI, .int), (cC, .char), (cH, .object RX0)] s) (hA : ∀ q : Nat, s.heap.size ≤ q → A q) (hX : va_X b L xs s s.heap) (hbl : b < s.heap.size) (hbA : ¬ A b) (hL : L ≤ 2048) (k : Nat) (hk : k < 512) (hk4 : 4 * (k : Int) ≤ (L : Int) - 4) (hn : (∀ (ga : Nat → Nat) (gd : Nat → Nat → Nat) (F T : Nat → Int → Int) (Gs : Nat → Nat → Int → Int) (S : Nat → Int → Int) (H : Heap) (locs : List Loc) (ls : Array Slot), Rel (k + 1) F T Gs S → va_P D vwCl (wX xo xh t ta cI cC cH ga gd F T Gs ++ wM mo am cI S) H → va_D A (wX xo xh t ta cI cC cH ga gd F T Gs ++ wM mo am cI S) → va_S A s.heap H locs → lv_has ls 4 [(3, .int (iI (4 * (k : Int)))), (2, .ref mo), (1, .ref xo), (0, .ref b)] → W p l e room_1 s m args below meth c H locs 600000 7302250 Q (F0 m 813 ls []))) {ga : Nat → Nat} {gd : Nat → Nat → Nat} {F T : Nat → Int → Int} {Gs : Nat → Nat → Int → Int} {S : Nat → Int → Int} {H : Heap} {locs : List Loc} {ls : Array Slot} (hR : Rel k F T Gs S) (hP : va_P D vwCl (wX xo xh t ta cI cC cH ga gd F T Gs ++ wM mo am cI S) H) (hD : va_D A (wX xo xh t ta cI cC cH ga gd F T Gs ++ wM mo am cI S)) (hS : va_S A s.heap H locs) (hl : lv_has ls 4 [(3, .int (iI (4 * (k : Int)))), (2, .ref mo), (1, .ref xo), (0, .ref b)]) {a1 : Int} (ha1 : -2147483648 ≤ a1 ∧ a1 < 2147483648) (ea1 : xs (4 * k + 1) = iI a1) {a2 : Int} (ha2 : -2147483648 ≤ a2 ∧ a2 < 2147483648) (ea2 : xs (4 * k + 2) = iI a2) {a3 : Int} (ha3 : -2147483648 ≤ a3 ∧ a3 < 2147483648) (ea3 : xs (4 * k + 3) = iI a3) : W p l e room_1 s m args below meth c H locs 600000 7302250 Q (F0 m 488 ls []) := by
  obtain ⟨V, ga1, gd1, F1, T1, Gs1, S1, mx, mm, hR1⟩ := st_guard l D xo xh t ta cI cC cH mo am a1 a2 a3 ha1 ha2 ha3 k ga gd F T Gs S hk hR
  refine lv_aload_n hx hb dL_law_488 rfl (lv_at hl 2 rfl) ?_
  refine lv_aload_n hx hb dL_law_489 rfl (lv_at hl 3 rfl) ?_
  refine lv_iload_n hx hb dL_law_490 rfl (lv_at hl 0 rfl) ?_
  refine z_iconst hx hb dL_law_491 ?_
  refine z_iadd hx hb dL_law_492 ?_
  refine l_sld hx hb hX hbl hbA hS hL (4 * k + 1) (by omega) (by omega) ea1 dL_law_493 ?_
  refine lv_aload_n hx hb dL_law_494 rfl (lv_at hl 3 rfl) ?_
  refine lv_iload_n hx hb dL_law_495 rfl (lv_at hl 0 rfl) ?_
  refine z_iconst hx hb dL_law_496 ?_
  refine z_iadd hx hb dL_law_497 ?_
  refine l_sld hx hb hX hbl hbA hS hL (4 * k + 2) (by omega) (by omega) ea2 dL_law_498 ?_
  refine lv_aload_n hx hb dL_law_499 rfl (lv_at hl 3 rfl) ?_
  refine lv_iload_n hx hb dL_law_500 rfl (lv_at hl 0 rfl) ?_
  refine z_iconst hx hb dL_law_501 ?_
  refine z_iadd hx hb dL_law_502 ?_
  refine l_sld hx hb hX hbl hbA hS hL (4 * k + 3) (by omega) (by omega) ea3 dL_law_503 ?_
  refine mw_blk (wr := wM mo am cI S) (st1 := [.int (iI V)]) (mr_V (As := [.int (iI a1), .int (iI a2), .int (iI a3)]) (rest := []) (ci := 2) (q0 := 0) ⟨hx, hb, hml, hown, hts⟩ mx (cwV 3 hts (gV q_667 q_668 q_669 q_37 q_258) rfl rfl rfl (by decide +kernel) ⟨Nat.le_of_ble_eq_true rfl, Nat.le_of_ble_eq_true rfl⟩) hN hK (va_P_left hP) (va_D_left hD) rfl rfl rfl hl.1 (Nat.le_of_ble_eq_true rfl) ⟨Nat.le_of_ble_eq_true rfl, Nat.le_of_ble_eq_true rfl⟩ dL_law_504) hP hD hS hA (List.Perm.refl _) (List.Perm.refl _) rfl (fun H locs hP hD hS => ?_)
  refine lv_aload_n hx hb dL_law_507 rfl (lv_at hl 1 rfl) ?_
  refine lv_aload_n hx hb dL_law_508 rfl (lv_at hl 3 rfl) ?_
  refine lv_iload_n hx hb dL_law_509 rfl (lv_at hl 0 rfl) ?_
  refine z_iconst hx hb dL_law_510 ?_
  refine z_iadd hx hb dL_law_511 ?_
  refine l_sld hx hb hX hbl hbA hS hL (4 * k + 1) (by omega) (by omega) ea1 dL_law_512 ?_
  refine lv_aload_n hx hb dL_law_513 rfl (lv_at hl 3 rfl) ?_
  refine lv_iload_n hx hb dL_law_514 rfl (lv_at hl 0 rfl) ?_
  refine z_iconst hx hb dL_law_515 ?_
  refine z_iadd hx hb dL_law_516 ?_
  refine l_sld hx hb hX hbl hbA hS hL (4 * k + 2) (by omega) (by omega) ea2 dL_law_517 ?_
  refine lv_aload_n hx hb dL_law_518 rfl (lv_at hl 3 rfl) ?_
  refine lv_iload_n hx hb dL_law_519 rfl (lv_at hl 0 rfl) ?_
  refine z_iconst hx hb dL_law_520 ?_
  refine z_iadd hx hb dL_law_521 ?_
  refine l_sld hx hb hX hbl hbA hS hL (4 * k + 3) (by omega) (by omega) ea3 dL_law_522 ?_
  refine mw_blk (wr := wX xo xh t ta cI cC cH ga1 gd1 F1 T1 Gs1) (st1 := [.int (iI V), .int (iI V)]) (mr_V (As := [.int (iI a1), .int (iI a2), .int (iI a3)]) (rest := [.int (iI V)]) (ci := 3) (q0 := 0) ⟨hx, hb, hml, hown, hts⟩ mm (cwV 3 hts (gV q_670 q_671 q_672 q_345 q_498) rfl rfl rfl (by decide +kernel) ⟨Nat.le_of_ble_eq_true rfl, Nat.le_of_ble_eq_true rfl⟩) hN (hK.sub (tys' := [(cI, .int)]) [0] rfl) (va_P_left (va_P_perm hP List.perm_append_comm)) (va_D_left (va_D_perm hD List.perm_append_comm)) rfl rfl rfl hl.1 (Nat.le_of_ble_eq_true rfl) ⟨Nat.le_of_ble_eq_true rfl, Nat.le_of_ble_eq_true rfl⟩ dL_law_523) hP hD hS hA List.perm_append_comm List.perm_append_comm rfl (fun H locs hP hD hS => ?_)
  refine lv_icmp_eq (tgt := 813) hx hb dL_law_526 (by decide) (fun _ => ?_) (fun h => absurd rfl h)
  exact hn _ _ _ _ _ _ _ _ _ hR1 hP hD hS hl
set_option maxHeartbeats 4000000 in
set_option maxRecDepth 100000 in
theorem law_row {p : Program} {l : Launch} {e : Env} {s : State} {m : MethodId} {args : Array Value} {below : List Frame} {meth : Method} {c : Code} {Q : State → Prop} {D : va_G} {A : Nat → Prop} {cI cC cH : ClassId} {xo xh t : Nat} {ta : Nat → Nat} {mo : Nat} {am : Nat → Nat} {b L : Nat} {xs : Nat → Int32} (hx : p.tables.exec = Jvm.exec) (hb : c.code = cL_law) (hml : c.maxLocals = 4) (hown : s.vm.findClass RL = some m.cls) (hts : ∀ w ∈ (Cond.arrayClass .int :: ALL), w.before args s = true) (hN : nK s) (hK : va_K D vwCl [(cI, .int), (cC, .char), (cH, .object RX0)] s) (hA : ∀ q : Nat, s.heap.size ≤ q → A q) (hX : va_X b L xs s s.heap) (hbl : b < s.heap.size) (hbA : ¬ A b) (hL : L ≤ 2048) (k : Nat) (hk : k < 512) (hk4 : 4 * (k : Int) ≤ (L : Int) - 4) (hn : (∀ (ga : Nat → Nat) (gd : Nat → Nat → Nat) (F T : Nat → Int → Int) (Gs : Nat → Nat → Int → Int) (S : Nat → Int → Int) (H : Heap) (locs : List Loc) (ls : Array Slot), Rel (k + 1) F T Gs S → va_P D vwCl (wX xo xh t ta cI cC cH ga gd F T Gs ++ wM mo am cI S) H → va_D A (wX xo xh t ta cI cC cH ga gd F T Gs ++ wM mo am cI S) → va_S A s.heap H locs → lv_has ls 4 [(3, .int (iI (4 * (k : Int)))), (2, .ref mo), (1, .ref xo), (0, .ref b)] → W p l e room_1 s m args below meth c H locs 600000 7302250 Q (F0 m 813 ls []))) {ga : Nat → Nat} {gd : Nat → Nat → Nat} {F T : Nat → Int → Int} {Gs : Nat → Nat → Int → Int} {S : Nat → Int → Int} {H : Heap} {locs : List Loc} {ls : Array Slot} (hR : Rel k F T Gs S) (hP : va_P D vwCl (wX xo xh t ta cI cC cH ga gd F T Gs ++ wM mo am cI S) H) (hD : va_D A (wX xo xh t ta cI cC cH ga gd F T Gs ++ wM mo am cI S)) (hS : va_S A s.heap H locs) (hl : lv_has ls 4 [(3, .int (iI (4 * (k : Int)))), (2, .ref mo), (1, .ref xo), (0, .ref b)]) {a1 : Int} (ha1 : -2147483648 ≤ a1 ∧ a1 < 2147483648) (ea1 : xs (4 * k + 1) = iI a1) {a2 : Int} (ha2 : -2147483648 ≤ a2 ∧ a2 < 2147483648) (ea2 : xs (4 * k + 2) = iI a2) : W p l e room_1 s m args below meth c H locs 600000 7302250 Q (F0 m 531 ls []) := by
  obtain ⟨V, ga1, gd1, F1, T1, Gs1, S1, mx, mm, hR1⟩ := st_row l D xo xh t ta cI cC cH mo am a1 a2 ha1 ha2 k ga gd F T Gs S hk hR
  refine lv_aload_n hx hb dL_law_531 rfl (lv_at hl 2 rfl) ?_
  refine lv_aload_n hx hb dL_law_532 rfl (lv_at hl 3 rfl) ?_
  refine lv_iload_n hx hb dL_law_533 rfl (lv_at hl 0 rfl) ?_
  refine z_iconst hx hb dL_law_534 ?_
  refine z_iadd hx hb dL_law_535 ?_
  refine l_sld hx hb hX hbl hbA hS hL (4 * k + 1) (by omega) (by omega) ea1 dL_law_536 ?_
  refine lv_aload_n hx hb dL_law_537 rfl (lv_at hl 3 rfl) ?_
  refine lv_iload_n hx hb dL_law_538 rfl (lv_at hl 0 rfl) ?_
  refine z_iconst hx hb dL_law_539 ?_
  refine z_iadd hx hb dL_law_540 ?_
  refine l_sld hx hb hX hbl hbA hS hL (4 * k + 2) (by omega) (by omega) ea2 dL_law_541 ?_
  refine mw_blk (wr := wM mo am cI S) (st1 := [.int (iI V)]) (mr_V (As := [.int (iI a1), .int (iI a2)]) (rest := []) (ci := 2) (q0 := 0) ⟨hx, hb, hml, hown, hts⟩ mx (cwV 2 hts (gV q_673 q_674 q_675 q_37 q_262) rfl rfl rfl (by decide +kernel) ⟨Nat.le_of_ble_eq_true rfl, Nat.le_of_ble_eq_true rfl⟩) hN hK (va_P_left hP) (va_D_left hD) rfl rfl rfl hl.1 (Nat.le_of_ble_eq_true rfl) ⟨Nat.le_of_ble_eq_true rfl, Nat.le_of_ble_eq_true rfl⟩ dL_law_542) hP hD hS hA (List.Perm.refl _) (List.Perm.refl _) rfl (fun H locs hP hD hS => ?_)
  refine lv_aload_n hx hb dL_law_545 rfl (lv_at hl 1 rfl) ?_
  refine lv_aload_n hx hb dL_law_546 rfl (lv_at hl 3 rfl) ?_
  refine lv_iload_n hx hb dL_law_547 rfl (lv_at hl 0 rfl) ?_
  refine z_iconst hx hb dL_law_548 ?_
  refine z_iadd hx hb dL_law_549 ?_
  refine l_sld hx hb hX hbl hbA hS hL (4 * k + 1) (by omega) (by omega) ea1 dL_law_550 ?_
  refine lv_aload_n hx hb dL_law_551 rfl (lv_at hl 3 rfl) ?_
  refine lv_iload_n hx hb dL_law_552 rfl (lv_at hl 0 rfl) ?_
  refine z_iconst hx hb dL_law_553 ?_
  refine z_iadd hx hb dL_law_554 ?_
  refine l_sld hx hb hX hbl hbA hS hL (4 * k + 2) (by omega) (by omega) ea2 dL_law_555 ?_
  refine mw_blk (wr := wX xo xh t ta cI cC cH ga1 gd1 F1 T1 Gs1) (st1 := [.int (iI V), .int (iI V)]) (mr_V (As := [.int (iI a1), .int (iI a2)]) (rest := [.int (iI V)]) (ci := 3) (q0 := 0) ⟨hx, hb, hml, hown, hts⟩ mm (cwV 2 hts (gV q_676 q_677 q_678 q_345 q_509) rfl rfl rfl (by decide +kernel) ⟨Nat.le_of_ble_eq_true rfl, Nat.le_of_ble_eq_true rfl⟩) hN (hK.sub (tys' := [(cI, .int)]) [0] rfl) (va_P_left (va_P_perm hP List.perm_append_comm)) (va_D_left (va_D_perm hD List.perm_append_comm)) rfl rfl rfl hl.1 (Nat.le_of_ble_eq_true rfl) ⟨Nat.le_of_ble_eq_true rfl, Nat.le_of_ble_eq_true rfl⟩ dL_law_556) hP hD hS hA List.perm_append_comm List.perm_append_comm rfl (fun H locs hP hD hS => ?_)
  refine lv_icmp_eq (tgt := 813) hx hb dL_law_559 (by decide) (fun _ => ?_) (fun h => absurd rfl h)
  exact hn _ _ _ _ _ _ _ _ _ hR1 hP hD hS hl
set_option maxHeartbeats 4000000 in
set_option maxRecDepth 100000 in
theorem law_table {p : Program} {l : Launch} {e : Env} {s : State} {m : MethodId} {args : Array Value} {below : List Frame} {meth : Method} {c : Code} {Q : State → Prop} {D : va_G} {A : Nat → Prop} {cI cC cH : ClassId} {xo xh t : Nat} {ta : Nat → Nat} {mo : Nat} {am : Nat → Nat} {b L : Nat} {xs : Nat → Int32} (hx : p.tables.exec = Jvm.exec) (hb : c.code = cL_law) (hml : c.maxLocals = 4) (hown : s.vm.findClass RL = some m.cls) (hts : ∀ w ∈ (Cond.arrayClass .int :: ALL), w.before args s = true) (hN : nK s) (hK : va_K D vwCl [(cI, .int), (cC, .char), (cH, .object RX0)] s) (hA : ∀ q : Nat, s.heap.size ≤ q → A q) (hX : va_X b L xs s s.heap) (hbl : b < s.heap.size) (hbA : ¬ A b) (hL : L ≤ 2048) (k : Nat) (hk : k < 512) (hk4 : 4 * (k : Int) ≤ (L : Int) - 4) (hn : (∀ (ga : Nat → Nat) (gd : Nat → Nat → Nat) (F T : Nat → Int → Int) (Gs : Nat → Nat → Int → Int) (S : Nat → Int → Int) (H : Heap) (locs : List Loc) (ls : Array Slot), Rel (k + 1) F T Gs S → va_P D vwCl (wX xo xh t ta cI cC cH ga gd F T Gs ++ wM mo am cI S) H → va_D A (wX xo xh t ta cI cC cH ga gd F T Gs ++ wM mo am cI S) → va_S A s.heap H locs → lv_has ls 4 [(3, .int (iI (4 * (k : Int)))), (2, .ref mo), (1, .ref xo), (0, .ref b)] → W p l e room_1 s m args below meth c H locs 600000 7302250 Q (F0 m 813 ls []))) {ga : Nat → Nat} {gd : Nat → Nat → Nat} {F T : Nat → Int → Int} {Gs : Nat → Nat → Int → Int} {S : Nat → Int → Int} {H : Heap} {locs : List Loc} {ls : Array Slot} (hR : Rel k F T Gs S) (hP : va_P D vwCl (wX xo xh t ta cI cC cH ga gd F T Gs ++ wM mo am cI S) H) (hD : va_D A (wX xo xh t ta cI cC cH ga gd F T Gs ++ wM mo am cI S)) (hS : va_S A s.heap H locs) (hl : lv_has ls 4 [(3, .int (iI (4 * (k : Int)))), (2, .ref mo), (1, .ref xo), (0, .ref b)]) {a1 : Int} (ha1 : -2147483648 ≤ a1 ∧ a1 < 2147483648) (ea1 : xs (4 * k + 1) = iI a1) {a2 : Int} (ha2 : -2147483648 ≤ a2 ∧ a2 < 2147483648) (ea2 : xs (4 * k + 2) = iI a2) : W p l e room_1 s m args below meth c H locs 600000 7302250 Q (F0 m 564 ls []) := by
  obtain ⟨V, ga1, gd1, F1, T1, Gs1, S1, mx, mm, hR1⟩ := st_table l D xo xh t ta cI cC cH mo am a1 a2 ha1 ha2 k ga gd F T Gs S hk hR
  refine lv_aload_n hx hb dL_law_564 rfl (lv_at hl 2 rfl) ?_
  refine lv_aload_n hx hb dL_law_565 rfl (lv_at hl 3 rfl) ?_
  refine lv_iload_n hx hb dL_law_566 rfl (lv_at hl 0 rfl) ?_
  refine z_iconst hx hb dL_law_567 ?_
  refine z_iadd hx hb dL_law_568 ?_
  refine l_sld hx hb hX hbl hbA hS hL (4 * k + 1) (by omega) (by omega) ea1 dL_law_569 ?_
  refine lv_aload_n hx hb dL_law_570 rfl (lv_at hl 3 rfl) ?_
  refine lv_iload_n hx hb dL_law_571 rfl (lv_at hl 0 rfl) ?_
  refine z_iconst hx hb dL_law_572 ?_
  refine z_iadd hx hb dL_law_573 ?_
  refine l_sld hx hb hX hbl hbA hS hL (4 * k + 2) (by omega) (by omega) ea2 dL_law_574 ?_
  refine mw_blk (wr := wM mo am cI S) (st1 := [.int (iI V)]) (mr_V (As := [.int (iI a1), .int (iI a2)]) (rest := []) (ci := 2) (q0 := 0) ⟨hx, hb, hml, hown, hts⟩ mx (cwV 2 hts (gV q_679 q_680 q_681 q_37 q_266) rfl rfl rfl (by decide +kernel) ⟨Nat.le_of_ble_eq_true rfl, Nat.le_of_ble_eq_true rfl⟩) hN hK (va_P_left hP) (va_D_left hD) rfl rfl rfl hl.1 (Nat.le_of_ble_eq_true rfl) ⟨Nat.le_of_ble_eq_true rfl, Nat.le_of_ble_eq_true rfl⟩ dL_law_575) hP hD hS hA (List.Perm.refl _) (List.Perm.refl _) rfl (fun H locs hP hD hS => ?_)
  refine lv_aload_n hx hb dL_law_578 rfl (lv_at hl 1 rfl) ?_
  refine lv_aload_n hx hb dL_law_579 rfl (lv_at hl 3 rfl) ?_
  refine lv_iload_n hx hb dL_law_580 rfl (lv_at hl 0 rfl) ?_
  refine z_iconst hx hb dL_law_581 ?_
  refine z_iadd hx hb dL_law_582 ?_
  refine l_sld hx hb hX hbl hbA hS hL (4 * k + 1) (by omega) (by omega) ea1 dL_law_583 ?_
  refine lv_aload_n hx hb dL_law_584 rfl (lv_at hl 3 rfl) ?_
  refine lv_iload_n hx hb dL_law_585 rfl (lv_at hl 0 rfl) ?_
  refine z_iconst hx hb dL_law_586 ?_
  refine z_iadd hx hb dL_law_587 ?_
  refine l_sld hx hb hX hbl hbA hS hL (4 * k + 2) (by omega) (by omega) ea2 dL_law_588 ?_
  refine mw_blk (wr := wX xo xh t ta cI cC cH ga1 gd1 F1 T1 Gs1) (st1 := [.int (iI V), .int (iI V)]) (mr_V (As := [.int (iI a1), .int (iI a2)]) (rest := [.int (iI V)]) (ci := 3) (q0 := 0) ⟨hx, hb, hml, hown, hts⟩ mm (cwV 2 hts (gV q_682 q_683 q_684 q_345 q_510) rfl rfl rfl (by decide +kernel) ⟨Nat.le_of_ble_eq_true rfl, Nat.le_of_ble_eq_true rfl⟩) hN (hK.sub (tys' := [(cI, .int)]) [0] rfl) (va_P_left (va_P_perm hP List.perm_append_comm)) (va_D_left (va_D_perm hD List.perm_append_comm)) rfl rfl rfl hl.1 (Nat.le_of_ble_eq_true rfl) ⟨Nat.le_of_ble_eq_true rfl, Nat.le_of_ble_eq_true rfl⟩ dL_law_589) hP hD hS hA List.perm_append_comm List.perm_append_comm rfl (fun H locs hP hD hS => ?_)
  refine lv_icmp_eq (tgt := 813) hx hb dL_law_592 (by decide) (fun _ => ?_) (fun h => absurd rfl h)
  exact hn _ _ _ _ _ _ _ _ _ hR1 hP hD hS hl
set_option maxHeartbeats 4000000 in
set_option maxRecDepth 100000 in
theorem law_wrongIn {p : Program} {l : Launch} {e : Env} {s : State} {m : MethodId} {args : Array Value} {below : List Frame} {meth : Method} {c : Code} {Q : State → Prop} {D : va_G} {A : Nat → Prop} {cI cC cH : ClassId} {xo xh t : Nat} {ta : Nat → Nat} {mo : Nat} {am : Nat → Nat} {b L : Nat} {xs : Nat → Int32} (hx : p.tables.exec = Jvm.exec) (hb : c.code = cL_law) (hml : c.maxLocals = 4) (hown : s.vm.findClass RL = some m.cls) (hts : ∀ w ∈ (Cond.arrayClass .int :: ALL), w.before args s = true) (hN : nK s) (hK : va_K D vwCl [(cI, .int), (cC, .char), (cH, .object RX0)] s) (hA : ∀ q : Nat, s.heap.size ≤ q → A q) (hX : va_X b L xs s s.heap) (hbl : b < s.heap.size) (hbA : ¬ A b) (hL : L ≤ 2048) (k : Nat) (hk : k < 512) (hk4 : 4 * (k : Int) ≤ (L : Int) - 4) (hn : (∀ (ga : Nat → Nat) (gd : Nat → Nat → Nat) (F T : Nat → Int → Int) (Gs : Nat → Nat → Int → Int) (S : Nat → Int → Int) (H : Heap) (locs : List Loc) (ls : Array Slot), Rel (k + 1) F T Gs S → va_P D vwCl (wX xo xh t ta cI cC cH ga gd F T Gs ++ wM mo am cI S) H → va_D A (wX xo xh t ta cI cC cH ga gd F T Gs ++ wM mo am cI S) → va_S A s.heap H locs → lv_has ls 4 [(3, .int (iI (4 * (k : Int)))), (2, .ref mo), (1, .ref xo), (0, .ref b)] → W p l e room_1 s m args below meth c H locs 600000 7302250 Q (F0 m 813 ls []))) {ga : Nat → Nat} {gd : Nat → Nat → Nat} {F T : Nat → Int → Int} {Gs : Nat → Nat → Int → Int} {S : Nat → Int → Int} {H : Heap} {locs : List Loc} {ls : Array Slot} (hR : Rel k F T Gs S) (hP : va_P D vwCl (wX xo xh t ta cI cC cH ga gd F T Gs ++ wM mo am cI S) H) (hD : va_D A (wX xo xh t ta cI cC cH ga gd F T Gs ++ wM mo am cI S)) (hS : va_S A s.heap H locs) (hl : lv_has ls 4 [(3, .int (iI (4 * (k : Int)))), (2, .ref mo), (1, .ref xo), (0, .ref b)]) {a1 : Int} (ha1 : -2147483648 ≤ a1 ∧ a1 < 2147483648) (ea1 : xs (4 * k + 1) = iI a1) : W p l e room_1 s m args below meth c H locs 600000 7302250 Q (F0 m 597 ls []) := by
  obtain ⟨V, ga1, gd1, F1, T1, Gs1, S1, mx, mm, hR1⟩ := st_wrongIn l D xo xh t ta cI cC cH mo am a1 ha1 k ga gd F T Gs S hk hR
  refine lv_aload_n hx hb dL_law_597 rfl (lv_at hl 2 rfl) ?_
  refine lv_aload_n hx hb dL_law_598 rfl (lv_at hl 3 rfl) ?_
  refine lv_iload_n hx hb dL_law_599 rfl (lv_at hl 0 rfl) ?_
  refine z_iconst hx hb dL_law_600 ?_
  refine z_iadd hx hb dL_law_601 ?_
  refine l_sld hx hb hX hbl hbA hS hL (4 * k + 1) (by omega) (by omega) ea1 dL_law_602 ?_
  refine mw_blk (wr := wM mo am cI S) (st1 := [.int (iI V)]) (mr_V (As := [.int (iI a1)]) (rest := []) (ci := 2) (q0 := 0) ⟨hx, hb, hml, hown, hts⟩ mx (cwV 1 hts (gV q_685 q_686 q_687 q_37 q_272) rfl rfl rfl (by decide +kernel) ⟨Nat.le_of_ble_eq_true rfl, Nat.le_of_ble_eq_true rfl⟩) hN hK (va_P_left hP) (va_D_left hD) rfl rfl rfl hl.1 (Nat.le_of_ble_eq_true rfl) ⟨Nat.le_of_ble_eq_true rfl, Nat.le_of_ble_eq_true rfl⟩ dL_law_603) hP hD hS hA (List.Perm.refl _) (List.Perm.refl _) rfl (fun H locs hP hD hS => ?_)
  refine lv_aload_n hx hb dL_law_606 rfl (lv_at hl 1 rfl) ?_
  refine lv_aload_n hx hb dL_law_607 rfl (lv_at hl 3 rfl) ?_
  refine lv_iload_n hx hb dL_law_608 rfl (lv_at hl 0 rfl) ?_
  refine z_iconst hx hb dL_law_609 ?_
  refine z_iadd hx hb dL_law_610 ?_
  refine l_sld hx hb hX hbl hbA hS hL (4 * k + 1) (by omega) (by omega) ea1 dL_law_611 ?_
  refine mw_blk (wr := wX xo xh t ta cI cC cH ga1 gd1 F1 T1 Gs1) (st1 := [.int (iI V), .int (iI V)]) (mr_V (As := [.int (iI a1)]) (rest := [.int (iI V)]) (ci := 3) (q0 := 0) ⟨hx, hb, hml, hown, hts⟩ mm (cwV 1 hts (gV q_688 q_689 q_690 q_345 q_512) rfl rfl rfl (by decide +kernel) ⟨Nat.le_of_ble_eq_true rfl, Nat.le_of_ble_eq_true rfl⟩) hN (hK.sub (tys' := [(cI, .int)]) [0] rfl) (va_P_left (va_P_perm hP List.perm_append_comm)) (va_D_left (va_D_perm hD List.perm_append_comm)) rfl rfl rfl hl.1 (Nat.le_of_ble_eq_true rfl) ⟨Nat.le_of_ble_eq_true rfl, Nat.le_of_ble_eq_true rfl⟩ dL_law_612) hP hD hS hA List.perm_append_comm List.perm_append_comm rfl (fun H locs hP hD hS => ?_)
  refine lv_icmp_eq (tgt := 813) hx hb dL_law_615 (by decide) (fun _ => ?_) (fun h => absurd rfl h)
  exact hn _ _ _ _ _ _ _ _ _ hR1 hP hD hS hl
set_option maxHeartbeats 4000000 in
set_option maxRecDepth 100000 in
theorem law_rightFor {p : Program} {l : Launch} {e : Env} {s : State} {m : MethodId} {args : Array Value} {below : List Frame} {meth : Method} {c : Code} {Q : State → Prop} {D : va_G} {A : Nat → Prop} {cI cC cH : ClassId} {xo xh t : Nat} {ta : Nat → Nat} {mo : Nat} {am : Nat → Nat} {b L : Nat} {xs : Nat → Int32} (hx : p.tables.exec = Jvm.exec) (hb : c.code = cL_law) (hml : c.maxLocals = 4) (hown : s.vm.findClass RL = some m.cls) (hts : ∀ w ∈ (Cond.arrayClass .int :: ALL), w.before args s = true) (hN : nK s) (hK : va_K D vwCl [(cI, .int), (cC, .char), (cH, .object RX0)] s) (hA : ∀ q : Nat, s.heap.size ≤ q → A q) (hX : va_X b L xs s s.heap) (hbl : b < s.heap.size) (hbA : ¬ A b) (hL : L ≤ 2048) (k : Nat) (hk : k < 512) (hk4 : 4 * (k : Int) ≤ (L : Int) - 4) (hn : (∀ (ga : Nat → Nat) (gd : Nat → Nat → Nat) (F T : Nat → Int → Int) (Gs : Nat → Nat → Int → Int) (S : Nat → Int → Int) (H : Heap) (locs : List Loc) (ls : Array Slot), Rel (k + 1) F T Gs S → va_P D vwCl (wX xo xh t ta cI cC cH ga gd F T Gs ++ wM mo am cI S) H → va_D A (wX xo xh t ta cI cC cH ga gd F T Gs ++ wM mo am cI S) → va_S A s.heap H locs → lv_has ls 4 [(3, .int (iI (4 * (k : Int)))), (2, .ref mo), (1, .ref xo), (0, .ref b)] → W p l e room_1 s m args below meth c H locs 600000 7302250 Q (F0 m 813 ls []))) {ga : Nat → Nat} {gd : Nat → Nat → Nat} {F T : Nat → Int → Int} {Gs : Nat → Nat → Int → Int} {S : Nat → Int → Int} {H : Heap} {locs : List Loc} {ls : Array Slot} (hR : Rel k F T Gs S) (hP : va_P D vwCl (wX xo xh t ta cI cC cH ga gd F T Gs ++ wM mo am cI S) H) (hD : va_D A (wX xo xh t ta cI cC cH ga gd F T Gs ++ wM mo am cI S)) (hS : va_S A s.heap H locs) (hl : lv_has ls 4 [(3, .int (iI (4 * (k : Int)))), (2, .ref mo), (1, .ref xo), (0, .ref b)]) {a1 : Int} (ha1 : -2147483648 ≤ a1 ∧ a1 < 2147483648) (ea1 : xs (4 * k + 1) = iI a1) : W p l e room_1 s m args below meth c H locs 600000 7302250 Q (F0 m 620 ls []) := by
  obtain ⟨V, ga1, gd1, F1, T1, Gs1, S1, mx, mm, hR1⟩ := st_rightFor l D xo xh t ta cI cC cH mo am a1 ha1 k ga gd F T Gs S hk hR
  refine lv_aload_n hx hb dL_law_620 rfl (lv_at hl 2 rfl) ?_
  refine lv_aload_n hx hb dL_law_621 rfl (lv_at hl 3 rfl) ?_
  refine lv_iload_n hx hb dL_law_622 rfl (lv_at hl 0 rfl) ?_
  refine z_iconst hx hb dL_law_623 ?_
  refine z_iadd hx hb dL_law_624 ?_
  refine l_sld hx hb hX hbl hbA hS hL (4 * k + 1) (by omega) (by omega) ea1 dL_law_625 ?_
  refine mw_blk (wr := wM mo am cI S) (st1 := [.int (iI V)]) (mr_V (As := [.int (iI a1)]) (rest := []) (ci := 2) (q0 := 0) ⟨hx, hb, hml, hown, hts⟩ mx (cwV 1 hts (gV q_691 q_692 q_693 q_37 q_274) rfl rfl rfl (by decide +kernel) ⟨Nat.le_of_ble_eq_true rfl, Nat.le_of_ble_eq_true rfl⟩) hN hK (va_P_left hP) (va_D_left hD) rfl rfl rfl hl.1 (Nat.le_of_ble_eq_true rfl) ⟨Nat.le_of_ble_eq_true rfl, Nat.le_of_ble_eq_true rfl⟩ dL_law_626) hP hD hS hA (List.Perm.refl _) (List.Perm.refl _) rfl (fun H locs hP hD hS => ?_)
  refine lv_aload_n hx hb dL_law_629 rfl (lv_at hl 1 rfl) ?_
  refine lv_aload_n hx hb dL_law_630 rfl (lv_at hl 3 rfl) ?_
  refine lv_iload_n hx hb dL_law_631 rfl (lv_at hl 0 rfl) ?_
  refine z_iconst hx hb dL_law_632 ?_
  refine z_iadd hx hb dL_law_633 ?_
  refine l_sld hx hb hX hbl hbA hS hL (4 * k + 1) (by omega) (by omega) ea1 dL_law_634 ?_
  refine mw_blk (wr := wX xo xh t ta cI cC cH ga1 gd1 F1 T1 Gs1) (st1 := [.int (iI V), .int (iI V)]) (mr_V (As := [.int (iI a1)]) (rest := [.int (iI V)]) (ci := 3) (q0 := 0) ⟨hx, hb, hml, hown, hts⟩ mm (cwV 1 hts (gV q_694 q_695 q_696 q_345 q_513) rfl rfl rfl (by decide +kernel) ⟨Nat.le_of_ble_eq_true rfl, Nat.le_of_ble_eq_true rfl⟩) hN (hK.sub (tys' := [(cI, .int)]) [0] rfl) (va_P_left (va_P_perm hP List.perm_append_comm)) (va_D_left (va_D_perm hD List.perm_append_comm)) rfl rfl rfl hl.1 (Nat.le_of_ble_eq_true rfl) ⟨Nat.le_of_ble_eq_true rfl, Nat.le_of_ble_eq_true rfl⟩ dL_law_635) hP hD hS hA List.perm_append_comm List.perm_append_comm rfl (fun H locs hP hD hS => ?_)
  refine lv_icmp_eq (tgt := 813) hx hb dL_law_638 (by decide) (fun _ => ?_) (fun h => absurd rfl h)
  exact hn _ _ _ _ _ _ _ _ _ hR1 hP hD hS hl
set_option maxHeartbeats 4000000 in
set_option maxRecDepth 100000 in
theorem law_safeAge {p : Program} {l : Launch} {e : Env} {s : State} {m : MethodId} {args : Array Value} {below : List Frame} {meth : Method} {c : Code} {Q : State → Prop} {D : va_G} {A : Nat → Prop} {cI cC cH : ClassId} {xo xh t : Nat} {ta : Nat → Nat} {mo : Nat} {am : Nat → Nat} {b L : Nat} {xs : Nat → Int32} (hx : p.tables.exec = Jvm.exec) (hb : c.code = cL_law) (hml : c.maxLocals = 4) (hown : s.vm.findClass RL = some m.cls) (hts : ∀ w ∈ (Cond.arrayClass .int :: ALL), w.before args s = true) (hN : nK s) (hK : va_K D vwCl [(cI, .int), (cC, .char), (cH, .object RX0)] s) (hA : ∀ q : Nat, s.heap.size ≤ q → A q) (hX : va_X b L xs s s.heap) (hbl : b < s.heap.size) (hbA : ¬ A b) (hL : L ≤ 2048) (k : Nat) (hk : k < 512) (hk4 : 4 * (k : Int) ≤ (L : Int) - 4) (hn : (∀ (ga : Nat → Nat) (gd : Nat → Nat → Nat) (F T : Nat → Int → Int) (Gs : Nat → Nat → Int → Int) (S : Nat → Int → Int) (H : Heap) (locs : List Loc) (ls : Array Slot), Rel (k + 1) F T Gs S → va_P D vwCl (wX xo xh t ta cI cC cH ga gd F T Gs ++ wM mo am cI S) H → va_D A (wX xo xh t ta cI cC cH ga gd F T Gs ++ wM mo am cI S) → va_S A s.heap H locs → lv_has ls 4 [(3, .int (iI (4 * (k : Int)))), (2, .ref mo), (1, .ref xo), (0, .ref b)] → W p l e room_1 s m args below meth c H locs 600000 7302250 Q (F0 m 813 ls []))) {ga : Nat → Nat} {gd : Nat → Nat → Nat} {F T : Nat → Int → Int} {Gs : Nat → Nat → Int → Int} {S : Nat → Int → Int} {H : Heap} {locs : List Loc} {ls : Array Slot} (hR : Rel k F T Gs S) (hP : va_P D vwCl (wX xo xh t ta cI cC cH ga gd F T Gs ++ wM mo am cI S) H) (hD : va_D A (wX xo xh t ta cI cC cH ga gd F T Gs ++ wM mo am cI S)) (hS : va_S A s.heap H locs) (hl : lv_has ls 4 [(3, .int (iI (4 * (k : Int)))), (2, .ref mo), (1, .ref xo), (0, .ref b)])  : W p l e room_1 s m args below meth c H locs 600000 7302250 Q (F0 m 643 ls []) := by
  obtain ⟨V, ga1, gd1, F1, T1, Gs1, S1, mx, mm, hR1⟩ := st_safeAge l D xo xh t ta cI cC cH mo am   k ga gd F T Gs S hk hR
  refine lv_aload_n hx hb dL_law_643 rfl (lv_at hl 2 rfl) ?_
  refine mw_blk (wr := wM mo am cI S) (st1 := [.int (iI V)]) (mr_V (As := []) (rest := []) (ci := 2) (q0 := 0) ⟨hx, hb, hml, hown, hts⟩ mx (cwV 0 hts (gV q_697 q_698 q_699 q_37 q_279) rfl rfl rfl (by decide +kernel) ⟨Nat.le_of_ble_eq_true rfl, Nat.le_of_ble_eq_true rfl⟩) hN hK (va_P_left hP) (va_D_left hD) rfl rfl rfl hl.1 (Nat.le_of_ble_eq_true rfl) ⟨Nat.le_of_ble_eq_true rfl, Nat.le_of_ble_eq_true rfl⟩ dL_law_644) hP hD hS hA (List.Perm.refl _) (List.Perm.refl _) rfl (fun H locs hP hD hS => ?_)
  refine lv_aload_n hx hb dL_law_647 rfl (lv_at hl 1 rfl) ?_
  refine mw_blk (wr := wX xo xh t ta cI cC cH ga1 gd1 F1 T1 Gs1) (st1 := [.int (iI V), .int (iI V)]) (mr_V (As := []) (rest := [.int (iI V)]) (ci := 3) (q0 := 0) ⟨hx, hb, hml, hown, hts⟩ mm (cwV 0 hts (gV q_700 q_701 q_702 q_345 q_518) rfl rfl rfl (by decide +kernel) ⟨Nat.le_of_ble_eq_true rfl, Nat.le_of_ble_eq_true rfl⟩) hN (hK.sub (tys' := [(cI, .int)]) [0] rfl) (va_P_left (va_P_perm hP List.perm_append_comm)) (va_D_left (va_D_perm hD List.perm_append_comm)) rfl rfl rfl hl.1 (Nat.le_of_ble_eq_true rfl) ⟨Nat.le_of_ble_eq_true rfl, Nat.le_of_ble_eq_true rfl⟩ dL_law_648) hP hD hS hA List.perm_append_comm List.perm_append_comm rfl (fun H locs hP hD hS => ?_)
  refine lv_icmp_eq (tgt := 813) hx hb dL_law_651 (by decide) (fun _ => ?_) (fun h => absurd rfl h)
  exact hn _ _ _ _ _ _ _ _ _ hR1 hP hD hS hl
set_option maxHeartbeats 4000000 in
set_option maxRecDepth 100000 in
theorem law_worst {p : Program} {l : Launch} {e : Env} {s : State} {m : MethodId} {args : Array Value} {below : List Frame} {meth : Method} {c : Code} {Q : State → Prop} {D : va_G} {A : Nat → Prop} {cI cC cH : ClassId} {xo xh t : Nat} {ta : Nat → Nat} {mo : Nat} {am : Nat → Nat} {b L : Nat} {xs : Nat → Int32} (hx : p.tables.exec = Jvm.exec) (hb : c.code = cL_law) (hml : c.maxLocals = 4) (hown : s.vm.findClass RL = some m.cls) (hts : ∀ w ∈ (Cond.arrayClass .int :: ALL), w.before args s = true) (hN : nK s) (hK : va_K D vwCl [(cI, .int), (cC, .char), (cH, .object RX0)] s) (hA : ∀ q : Nat, s.heap.size ≤ q → A q) (hX : va_X b L xs s s.heap) (hbl : b < s.heap.size) (hbA : ¬ A b) (hL : L ≤ 2048) (k : Nat) (hk : k < 512) (hk4 : 4 * (k : Int) ≤ (L : Int) - 4) (hn : (∀ (ga : Nat → Nat) (gd : Nat → Nat → Nat) (F T : Nat → Int → Int) (Gs : Nat → Nat → Int → Int) (S : Nat → Int → Int) (H : Heap) (locs : List Loc) (ls : Array Slot), Rel (k + 1) F T Gs S → va_P D vwCl (wX xo xh t ta cI cC cH ga gd F T Gs ++ wM mo am cI S) H → va_D A (wX xo xh t ta cI cC cH ga gd F T Gs ++ wM mo am cI S) → va_S A s.heap H locs → lv_has ls 4 [(3, .int (iI (4 * (k : Int)))), (2, .ref mo), (1, .ref xo), (0, .ref b)] → W p l e room_1 s m args below meth c H locs 600000 7302250 Q (F0 m 813 ls []))) {ga : Nat → Nat} {gd : Nat → Nat → Nat} {F T : Nat → Int → Int} {Gs : Nat → Nat → Int → Int} {S : Nat → Int → Int} {H : Heap} {locs : List Loc} {ls : Array Slot} (hR : Rel k F T Gs S) (hP : va_P D vwCl (wX xo xh t ta cI cC cH ga gd F T Gs ++ wM mo am cI S) H) (hD : va_D A (wX xo xh t ta cI cC cH ga gd F T Gs ++ wM mo am cI S)) (hS : va_S A s.heap H locs) (hl : lv_has ls 4 [(3, .int (iI (4 * (k : Int)))), (2, .ref mo), (1, .ref xo), (0, .ref b)]) {a1 : Int} (ha1 : -2147483648 ≤ a1 ∧ a1 < 2147483648) (ea1 : xs (4 * k + 1) = iI a1) : W p l e room_1 s m args below meth c H locs 600000 7302250 Q (F0 m 656 ls []) := by
  obtain ⟨V, ga1, gd1, F1, T1, Gs1, S1, mx, mm, hR1⟩ := st_worst l D xo xh t ta cI cC cH mo am a1 ha1 k ga gd F T Gs S hk hR
  refine lv_aload_n hx hb dL_law_656 rfl (lv_at hl 2 rfl) ?_
  refine lv_aload_n hx hb dL_law_657 rfl (lv_at hl 3 rfl) ?_
  refine lv_iload_n hx hb dL_law_658 rfl (lv_at hl 0 rfl) ?_
  refine z_iconst hx hb dL_law_659 ?_
  refine z_iadd hx hb dL_law_660 ?_
  refine l_sld hx hb hX hbl hbA hS hL (4 * k + 1) (by omega) (by omega) ea1 dL_law_661 ?_
  refine mw_blk (wr := wM mo am cI S) (st1 := [.int (iI V)]) (mr_V (As := [.int (iI a1)]) (rest := []) (ci := 2) (q0 := 0) ⟨hx, hb, hml, hown, hts⟩ mx (cwV 1 hts (gV q_703 q_704 q_705 q_37 q_283) rfl rfl rfl (by decide +kernel) ⟨Nat.le_of_ble_eq_true rfl, Nat.le_of_ble_eq_true rfl⟩) hN hK (va_P_left hP) (va_D_left hD) rfl rfl rfl hl.1 (Nat.le_of_ble_eq_true rfl) ⟨Nat.le_of_ble_eq_true rfl, Nat.le_of_ble_eq_true rfl⟩ dL_law_662) hP hD hS hA (List.Perm.refl _) (List.Perm.refl _) rfl (fun H locs hP hD hS => ?_)
  refine lv_aload_n hx hb dL_law_665 rfl (lv_at hl 1 rfl) ?_
  refine lv_aload_n hx hb dL_law_666 rfl (lv_at hl 3 rfl) ?_
  refine lv_iload_n hx hb dL_law_667 rfl (lv_at hl 0 rfl) ?_
  refine z_iconst hx hb dL_law_668 ?_
  refine z_iadd hx hb dL_law_669 ?_
  refine l_sld hx hb hX hbl hbA hS hL (4 * k + 1) (by omega) (by omega) ea1 dL_law_670 ?_
  refine mw_blk (wr := wX xo xh t ta cI cC cH ga1 gd1 F1 T1 Gs1) (st1 := [.int (iI V), .int (iI V)]) (mr_V (As := [.int (iI a1)]) (rest := [.int (iI V)]) (ci := 3) (q0 := 0) ⟨hx, hb, hml, hown, hts⟩ mm (cwV 1 hts (gV q_706 q_707 q_708 q_345 q_519) rfl rfl rfl (by decide +kernel) ⟨Nat.le_of_ble_eq_true rfl, Nat.le_of_ble_eq_true rfl⟩) hN (hK.sub (tys' := [(cI, .int)]) [0] rfl) (va_P_left (va_P_perm hP List.perm_append_comm)) (va_D_left (va_D_perm hD List.perm_append_comm)) rfl rfl rfl hl.1 (Nat.le_of_ble_eq_true rfl) ⟨Nat.le_of_ble_eq_true rfl, Nat.le_of_ble_eq_true rfl⟩ dL_law_671) hP hD hS hA List.perm_append_comm List.perm_append_comm rfl (fun H locs hP hD hS => ?_)
  refine lv_icmp_eq (tgt := 813) hx hb dL_law_674 (by decide) (fun _ => ?_) (fun h => absurd rfl h)
  exact hn _ _ _ _ _ _ _ _ _ hR1 hP hD hS hl
set_option maxHeartbeats 4000000 in
set_option maxRecDepth 100000 in
theorem law_mean {p : Program} {l : Launch} {e : Env} {s : State} {m : MethodId} {args : Array Value} {below : List Frame} {meth : Method} {c : Code} {Q : State → Prop} {D : va_G} {A : Nat → Prop} {cI cC cH : ClassId} {xo xh t : Nat} {ta : Nat → Nat} {mo : Nat} {am : Nat → Nat} {b L : Nat} {xs : Nat → Int32} (hx : p.tables.exec = Jvm.exec) (hb : c.code = cL_law) (hml : c.maxLocals = 4) (hown : s.vm.findClass RL = some m.cls) (hts : ∀ w ∈ (Cond.arrayClass .int :: ALL), w.before args s = true) (hN : nK s) (hK : va_K D vwCl [(cI, .int), (cC, .char), (cH, .object RX0)] s) (hA : ∀ q : Nat, s.heap.size ≤ q → A q) (hX : va_X b L xs s s.heap) (hbl : b < s.heap.size) (hbA : ¬ A b) (hL : L ≤ 2048) (k : Nat) (hk : k < 512) (hk4 : 4 * (k : Int) ≤ (L : Int) - 4) (hn : (∀ (ga : Nat → Nat) (gd : Nat → Nat → Nat) (F T : Nat → Int → Int) (Gs : Nat → Nat → Int → Int) (S : Nat → Int → Int) (H : Heap) (locs : List Loc) (ls : Array Slot), Rel (k + 1) F T Gs S → va_P D vwCl (wX xo xh t ta cI cC cH ga gd F T Gs ++ wM mo am cI S) H → va_D A (wX xo xh t ta cI cC cH ga gd F T Gs ++ wM mo am cI S) → va_S A s.heap H locs → lv_has ls 4 [(3, .int (iI (4 * (k : Int)))), (2, .ref mo), (1, .ref xo), (0, .ref b)] → W p l e room_1 s m args below meth c H locs 600000 7302250 Q (F0 m 813 ls []))) {ga : Nat → Nat} {gd : Nat → Nat → Nat} {F T : Nat → Int → Int} {Gs : Nat → Nat → Int → Int} {S : Nat → Int → Int} {H : Heap} {locs : List Loc} {ls : Array Slot} (hR : Rel k F T Gs S) (hP : va_P D vwCl (wX xo xh t ta cI cC cH ga gd F T Gs ++ wM mo am cI S) H) (hD : va_D A (wX xo xh t ta cI cC cH ga gd F T Gs ++ wM mo am cI S)) (hS : va_S A s.heap H locs) (hl : lv_has ls 4 [(3, .int (iI (4 * (k : Int)))), (2, .ref mo), (1, .ref xo), (0, .ref b)])  : W p l e room_1 s m args below meth c H locs 600000 7302250 Q (F0 m 679 ls []) := by
  obtain ⟨V, ga1, gd1, F1, T1, Gs1, S1, mx, mm, hR1⟩ := st_mean l D xo xh t ta cI cC cH mo am   k ga gd F T Gs S hk hR
  refine lv_aload_n hx hb dL_law_679 rfl (lv_at hl 2 rfl) ?_
  refine mw_blk (wr := wM mo am cI S) (st1 := [.int (iI V)]) (mr_V (As := []) (rest := []) (ci := 2) (q0 := 0) ⟨hx, hb, hml, hown, hts⟩ mx (cwV 0 hts (gV q_709 q_710 q_711 q_37 q_292) rfl rfl rfl (by decide +kernel) ⟨Nat.le_of_ble_eq_true rfl, Nat.le_of_ble_eq_true rfl⟩) hN hK (va_P_left hP) (va_D_left hD) rfl rfl rfl hl.1 (Nat.le_of_ble_eq_true rfl) ⟨Nat.le_of_ble_eq_true rfl, Nat.le_of_ble_eq_true rfl⟩ dL_law_680) hP hD hS hA (List.Perm.refl _) (List.Perm.refl _) rfl (fun H locs hP hD hS => ?_)
  refine lv_aload_n hx hb dL_law_683 rfl (lv_at hl 1 rfl) ?_
  refine mw_blk (wr := wX xo xh t ta cI cC cH ga1 gd1 F1 T1 Gs1) (st1 := [.int (iI V), .int (iI V)]) (mr_V (As := []) (rest := [.int (iI V)]) (ci := 3) (q0 := 0) ⟨hx, hb, hml, hown, hts⟩ mm (cwV 0 hts (gV q_712 q_713 q_714 q_345 q_533) rfl rfl rfl (by decide +kernel) ⟨Nat.le_of_ble_eq_true rfl, Nat.le_of_ble_eq_true rfl⟩) hN (hK.sub (tys' := [(cI, .int)]) [0] rfl) (va_P_left (va_P_perm hP List.perm_append_comm)) (va_D_left (va_D_perm hD List.perm_append_comm)) rfl rfl rfl hl.1 (Nat.le_of_ble_eq_true rfl) ⟨Nat.le_of_ble_eq_true rfl, Nat.le_of_ble_eq_true rfl⟩ dL_law_684) hP hD hS hA List.perm_append_comm List.perm_append_comm rfl (fun H locs hP hD hS => ?_)
  refine lv_icmp_eq (tgt := 813) hx hb dL_law_687 (by decide) (fun _ => ?_) (fun h => absurd rfl h)
  exact hn _ _ _ _ _ _ _ _ _ hR1 hP hD hS hl
set_option maxHeartbeats 4000000 in
set_option maxRecDepth 100000 in
theorem law_share {p : Program} {l : Launch} {e : Env} {s : State} {m : MethodId} {args : Array Value} {below : List Frame} {meth : Method} {c : Code} {Q : State → Prop} {D : va_G} {A : Nat → Prop} {cI cC cH : ClassId} {xo xh t : Nat} {ta : Nat → Nat} {mo : Nat} {am : Nat → Nat} {b L : Nat} {xs : Nat → Int32} (hx : p.tables.exec = Jvm.exec) (hb : c.code = cL_law) (hml : c.maxLocals = 4) (hown : s.vm.findClass RL = some m.cls) (hts : ∀ w ∈ (Cond.arrayClass .int :: ALL), w.before args s = true) (hN : nK s) (hK : va_K D vwCl [(cI, .int), (cC, .char), (cH, .object RX0)] s) (hA : ∀ q : Nat, s.heap.size ≤ q → A q) (hX : va_X b L xs s s.heap) (hbl : b < s.heap.size) (hbA : ¬ A b) (hL : L ≤ 2048) (k : Nat) (hk : k < 512) (hk4 : 4 * (k : Int) ≤ (L : Int) - 4) (hn : (∀ (ga : Nat → Nat) (gd : Nat → Nat → Nat) (F T : Nat → Int → Int) (Gs : Nat → Nat → Int → Int) (S : Nat → Int → Int) (H : Heap) (locs : List Loc) (ls : Array Slot), Rel (k + 1) F T Gs S → va_P D vwCl (wX xo xh t ta cI cC cH ga gd F T Gs ++ wM mo am cI S) H → va_D A (wX xo xh t ta cI cC cH ga gd F T Gs ++ wM mo am cI S) → va_S A s.heap H locs → lv_has ls 4 [(3, .int (iI (4 * (k : Int)))), (2, .ref mo), (1, .ref xo), (0, .ref b)] → W p l e room_1 s m args below meth c H locs 600000 7302250 Q (F0 m 813 ls []))) {ga : Nat → Nat} {gd : Nat → Nat → Nat} {F T : Nat → Int → Int} {Gs : Nat → Nat → Int → Int} {S : Nat → Int → Int} {H : Heap} {locs : List Loc} {ls : Array Slot} (hR : Rel k F T Gs S) (hP : va_P D vwCl (wX xo xh t ta cI cC cH ga gd F T Gs ++ wM mo am cI S) H) (hD : va_D A (wX xo xh t ta cI cC cH ga gd F T Gs ++ wM mo am cI S)) (hS : va_S A s.heap H locs) (hl : lv_has ls 4 [(3, .int (iI (4 * (k : Int)))), (2, .ref mo), (1, .ref xo), (0, .ref b)])  : W p l e room_1 s m args below meth c H locs 600000 7302250 Q (F0 m 692 ls []) := by
  obtain ⟨V, ga1, gd1, F1, T1, Gs1, S1, mx, mm, hR1⟩ := st_share l D xo xh t ta cI cC cH mo am   k ga gd F T Gs S hk hR
  refine lv_aload_n hx hb dL_law_692 rfl (lv_at hl 2 rfl) ?_
  refine mw_blk (wr := wM mo am cI S) (st1 := [.int (iI V)]) (mr_V (As := []) (rest := []) (ci := 2) (q0 := 0) ⟨hx, hb, hml, hown, hts⟩ mx (cwV 0 hts (gV q_715 q_716 q_717 q_37 q_297) rfl rfl rfl (by decide +kernel) ⟨Nat.le_of_ble_eq_true rfl, Nat.le_of_ble_eq_true rfl⟩) hN hK (va_P_left hP) (va_D_left hD) rfl rfl rfl hl.1 (Nat.le_of_ble_eq_true rfl) ⟨Nat.le_of_ble_eq_true rfl, Nat.le_of_ble_eq_true rfl⟩ dL_law_693) hP hD hS hA (List.Perm.refl _) (List.Perm.refl _) rfl (fun H locs hP hD hS => ?_)
  refine lv_aload_n hx hb dL_law_696 rfl (lv_at hl 1 rfl) ?_
  refine mw_blk (wr := wX xo xh t ta cI cC cH ga1 gd1 F1 T1 Gs1) (st1 := [.int (iI V), .int (iI V)]) (mr_V (As := []) (rest := [.int (iI V)]) (ci := 3) (q0 := 0) ⟨hx, hb, hml, hown, hts⟩ mm (cwV 0 hts (gV q_718 q_719 q_720 q_345 q_534) rfl rfl rfl (by decide +kernel) ⟨Nat.le_of_ble_eq_true rfl, Nat.le_of_ble_eq_true rfl⟩) hN (hK.sub (tys' := [(cI, .int)]) [0] rfl) (va_P_left (va_P_perm hP List.perm_append_comm)) (va_D_left (va_D_perm hD List.perm_append_comm)) rfl rfl rfl hl.1 (Nat.le_of_ble_eq_true rfl) ⟨Nat.le_of_ble_eq_true rfl, Nat.le_of_ble_eq_true rfl⟩ dL_law_697) hP hD hS hA List.perm_append_comm List.perm_append_comm rfl (fun H locs hP hD hS => ?_)
  refine lv_icmp_eq (tgt := 813) hx hb dL_law_700 (by decide) (fun _ => ?_) (fun h => absurd rfl h)
  exact hn _ _ _ _ _ _ _ _ _ hR1 hP hD hS hl
set_option maxHeartbeats 4000000 in
set_option maxRecDepth 100000 in
theorem law_count {p : Program} {l : Launch} {e : Env} {s : State} {m : MethodId} {args : Array Value} {below : List Frame} {meth : Method} {c : Code} {Q : State → Prop} {D : va_G} {A : Nat → Prop} {cI cC cH : ClassId} {xo xh t : Nat} {ta : Nat → Nat} {mo : Nat} {am : Nat → Nat} {b L : Nat} {xs : Nat → Int32} (hx : p.tables.exec = Jvm.exec) (hb : c.code = cL_law) (hml : c.maxLocals = 4) (hown : s.vm.findClass RL = some m.cls) (hts : ∀ w ∈ (Cond.arrayClass .int :: ALL), w.before args s = true) (hN : nK s) (hK : va_K D vwCl [(cI, .int), (cC, .char), (cH, .object RX0)] s) (hA : ∀ q : Nat, s.heap.size ≤ q → A q) (hX : va_X b L xs s s.heap) (hbl : b < s.heap.size) (hbA : ¬ A b) (hL : L ≤ 2048) (k : Nat) (hk : k < 512) (hk4 : 4 * (k : Int) ≤ (L : Int) - 4) (hn : (∀ (ga : Nat → Nat) (gd : Nat → Nat → Nat) (F T : Nat → Int → Int) (Gs : Nat → Nat → Int → Int) (S : Nat → Int → Int) (H : Heap) (locs : List Loc) (ls : Array Slot), Rel (k + 1) F T Gs S → va_P D vwCl (wX xo xh t ta cI cC cH ga gd F T Gs ++ wM mo am cI S) H → va_D A (wX xo xh t ta cI cC cH ga gd F T Gs ++ wM mo am cI S) → va_S A s.heap H locs → lv_has ls 4 [(3, .int (iI (4 * (k : Int)))), (2, .ref mo), (1, .ref xo), (0, .ref b)] → W p l e room_1 s m args below meth c H locs 600000 7302250 Q (F0 m 813 ls []))) {ga : Nat → Nat} {gd : Nat → Nat → Nat} {F T : Nat → Int → Int} {Gs : Nat → Nat → Int → Int} {S : Nat → Int → Int} {H : Heap} {locs : List Loc} {ls : Array Slot} (hR : Rel k F T Gs S) (hP : va_P D vwCl (wX xo xh t ta cI cC cH ga gd F T Gs ++ wM mo am cI S) H) (hD : va_D A (wX xo xh t ta cI cC cH ga gd F T Gs ++ wM mo am cI S)) (hS : va_S A s.heap H locs) (hl : lv_has ls 4 [(3, .int (iI (4 * (k : Int)))), (2, .ref mo), (1, .ref xo), (0, .ref b)]) {a1 : Int} (ha1 : -2147483648 ≤ a1 ∧ a1 < 2147483648) (ea1 : xs (4 * k + 1) = iI a1) : W p l e room_1 s m args below meth c H locs 600000 7302250 Q (F0 m 705 ls []) := by
  obtain ⟨V, ga1, gd1, F1, T1, Gs1, S1, mx, mm, hR1⟩ := st_count l D xo xh t ta cI cC cH mo am a1 ha1 k ga gd F T Gs S hk hR
  refine lv_aload_n hx hb dL_law_705 rfl (lv_at hl 2 rfl) ?_
  refine lv_aload_n hx hb dL_law_706 rfl (lv_at hl 3 rfl) ?_
  refine lv_iload_n hx hb dL_law_707 rfl (lv_at hl 0 rfl) ?_
  refine z_iconst hx hb dL_law_708 ?_
  refine z_iadd hx hb dL_law_709 ?_
  refine l_sld hx hb hX hbl hbA hS hL (4 * k + 1) (by omega) (by omega) ea1 dL_law_710 ?_
  refine mw_blk (wr := wM mo am cI S) (st1 := [.int (iI V)]) (mr_V (As := [.int (iI a1)]) (rest := []) (ci := 2) (q0 := 0) ⟨hx, hb, hml, hown, hts⟩ mx (cwV 1 hts (gV q_721 q_722 q_723 q_37 q_304) rfl rfl rfl (by decide +kernel) ⟨Nat.le_of_ble_eq_true rfl, Nat.le_of_ble_eq_true rfl⟩) hN hK (va_P_left hP) (va_D_left hD) rfl rfl rfl hl.1 (Nat.le_of_ble_eq_true rfl) ⟨Nat.le_of_ble_eq_true rfl, Nat.le_of_ble_eq_true rfl⟩ dL_law_711) hP hD hS hA (List.Perm.refl _) (List.Perm.refl _) rfl (fun H locs hP hD hS => ?_)
  refine lv_aload_n hx hb dL_law_714 rfl (lv_at hl 1 rfl) ?_
  refine lv_aload_n hx hb dL_law_715 rfl (lv_at hl 3 rfl) ?_
  refine lv_iload_n hx hb dL_law_716 rfl (lv_at hl 0 rfl) ?_
  refine z_iconst hx hb dL_law_717 ?_
  refine z_iadd hx hb dL_law_718 ?_
  refine l_sld hx hb hX hbl hbA hS hL (4 * k + 1) (by omega) (by omega) ea1 dL_law_719 ?_
  refine mw_blk (wr := wX xo xh t ta cI cC cH ga1 gd1 F1 T1 Gs1) (st1 := [.int (iI V), .int (iI V)]) (mr_V (As := [.int (iI a1)]) (rest := [.int (iI V)]) (ci := 3) (q0 := 0) ⟨hx, hb, hml, hown, hts⟩ mm (cwV 1 hts (gV q_724 q_725 q_726 q_345 q_560) rfl rfl rfl (by decide +kernel) ⟨Nat.le_of_ble_eq_true rfl, Nat.le_of_ble_eq_true rfl⟩) hN (hK.sub (tys' := [(cI, .int)]) [0] rfl) (va_P_left (va_P_perm hP List.perm_append_comm)) (va_D_left (va_D_perm hD List.perm_append_comm)) rfl rfl rfl hl.1 (Nat.le_of_ble_eq_true rfl) ⟨Nat.le_of_ble_eq_true rfl, Nat.le_of_ble_eq_true rfl⟩ dL_law_720) hP hD hS hA List.perm_append_comm List.perm_append_comm rfl (fun H locs hP hD hS => ?_)
  refine lv_icmp_eq (tgt := 813) hx hb dL_law_723 (by decide) (fun _ => ?_) (fun h => absurd rfl h)
  exact hn _ _ _ _ _ _ _ _ _ hR1 hP hD hS hl
set_option maxHeartbeats 4000000 in
set_option maxRecDepth 100000 in
theorem law_undo {p : Program} {l : Launch} {e : Env} {s : State} {m : MethodId} {args : Array Value} {below : List Frame} {meth : Method} {c : Code} {Q : State → Prop} {D : va_G} {A : Nat → Prop} {cI cC cH : ClassId} {xo xh t : Nat} {ta : Nat → Nat} {mo : Nat} {am : Nat → Nat} {b L : Nat} {xs : Nat → Int32} (hx : p.tables.exec = Jvm.exec) (hb : c.code = cL_law) (hml : c.maxLocals = 4) (hown : s.vm.findClass RL = some m.cls) (hts : ∀ w ∈ (Cond.arrayClass .int :: ALL), w.before args s = true) (hN : nK s) (hK : va_K D vwCl [(cI, .int), (cC, .char), (cH, .object RX0)] s) (hA : ∀ q : Nat, s.heap.size ≤ q → A q) (hX : va_X b L xs s s.heap) (hbl : b < s.heap.size) (hbA : ¬ A b) (hL : L ≤ 2048) (k : Nat) (hk : k < 512) (hk4 : 4 * (k : Int) ≤ (L : Int) - 4) (hn : (∀ (ga : Nat → Nat) (gd : Nat → Nat → Nat) (F T : Nat → Int → Int) (Gs : Nat → Nat → Int → Int) (S : Nat → Int → Int) (H : Heap) (locs : List Loc) (ls : Array Slot), Rel (k + 1) F T Gs S → va_P D vwCl (wX xo xh t ta cI cC cH ga gd F T Gs ++ wM mo am cI S) H → va_D A (wX xo xh t ta cI cC cH ga gd F T Gs ++ wM mo am cI S) → va_S A s.heap H locs → lv_has ls 4 [(3, .int (iI (4 * (k : Int)))), (2, .ref mo), (1, .ref xo), (0, .ref b)] → W p l e room_1 s m args below meth c H locs 600000 7302250 Q (F0 m 813 ls []))) {ga : Nat → Nat} {gd : Nat → Nat → Nat} {F T : Nat → Int → Int} {Gs : Nat → Nat → Int → Int} {S : Nat → Int → Int} {H : Heap} {locs : List Loc} {ls : Array Slot} (hR : Rel k F T Gs S) (hP : va_P D vwCl (wX xo xh t ta cI cC cH ga gd F T Gs ++ wM mo am cI S) H) (hD : va_D A (wX xo xh t ta cI cC cH ga gd F T Gs ++ wM mo am cI S)) (hS : va_S A s.heap H locs) (hl : lv_has ls 4 [(3, .int (iI (4 * (k : Int)))), (2, .ref mo), (1, .ref xo), (0, .ref b)])  : W p l e room_1 s m args below meth c H locs 600000 7302250 Q (F0 m 728 ls []) := by
  obtain ⟨V, ga1, gd1, F1, T1, Gs1, S1, mx, mm, hR1⟩ := st_undo l D xo xh t ta cI cC cH mo am   k ga gd F T Gs S hk hR
  refine lv_aload_n hx hb dL_law_728 rfl (lv_at hl 2 rfl) ?_
  refine mw_blk (wr := wM mo am cI S) (st1 := [.int (iI V)]) (mr_V (As := []) (rest := []) (ci := 2) (q0 := 0) ⟨hx, hb, hml, hown, hts⟩ mx (cwV 0 hts (gV q_727 q_728 q_729 q_37 q_306) rfl rfl rfl (by decide +kernel) ⟨Nat.le_of_ble_eq_true rfl, Nat.le_of_ble_eq_true rfl⟩) hN hK (va_P_left hP) (va_D_left hD) rfl rfl rfl hl.1 (Nat.le_of_ble_eq_true rfl) ⟨Nat.le_of_ble_eq_true rfl, Nat.le_of_ble_eq_true rfl⟩ dL_law_729) hP hD hS hA (List.Perm.refl _) (List.Perm.refl _) rfl (fun H locs hP hD hS => ?_)
  refine lv_aload_n hx hb dL_law_732 rfl (lv_at hl 1 rfl) ?_
  refine mw_blk (wr := wX xo xh t ta cI cC cH ga1 gd1 F1 T1 Gs1) (st1 := [.int (iI V), .int (iI V)]) (mr_V (As := []) (rest := [.int (iI V)]) (ci := 3) (q0 := 0) ⟨hx, hb, hml, hown, hts⟩ mm (cwV 0 hts (gV q_730 q_731 q_732 q_345 q_492) rfl rfl rfl (by decide +kernel) ⟨Nat.le_of_ble_eq_true rfl, Nat.le_of_ble_eq_true rfl⟩) hN (hK.sub (tys' := [(cI, .int)]) [0] rfl) (va_P_left (va_P_perm hP List.perm_append_comm)) (va_D_left (va_D_perm hD List.perm_append_comm)) rfl rfl rfl hl.1 (Nat.le_of_ble_eq_true rfl) ⟨Nat.le_of_ble_eq_true rfl, Nat.le_of_ble_eq_true rfl⟩ dL_law_733) hP hD hS hA List.perm_append_comm List.perm_append_comm rfl (fun H locs hP hD hS => ?_)
  refine lv_icmp_eq (tgt := 813) hx hb dL_law_736 (by decide) (fun _ => ?_) (fun h => absurd rfl h)
  exact hn _ _ _ _ _ _ _ _ _ hR1 hP hD hS hl
set_option maxHeartbeats 4000000 in
set_option maxRecDepth 100000 in
theorem law_type {p : Program} {l : Launch} {e : Env} {s : State} {m : MethodId} {args : Array Value} {below : List Frame} {meth : Method} {c : Code} {Q : State → Prop} {D : va_G} {A : Nat → Prop} {cI cC cH : ClassId} {xo xh t : Nat} {ta : Nat → Nat} {mo : Nat} {am : Nat → Nat} {b L : Nat} {xs : Nat → Int32} (hx : p.tables.exec = Jvm.exec) (hb : c.code = cL_law) (hml : c.maxLocals = 4) (hown : s.vm.findClass RL = some m.cls) (hts : ∀ w ∈ (Cond.arrayClass .int :: ALL), w.before args s = true) (hN : nK s) (hK : va_K D vwCl [(cI, .int), (cC, .char), (cH, .object RX0)] s) (hA : ∀ q : Nat, s.heap.size ≤ q → A q) (hX : va_X b L xs s s.heap) (hbl : b < s.heap.size) (hbA : ¬ A b) (hL : L ≤ 2048) (k : Nat) (hk : k < 512) (hk4 : 4 * (k : Int) ≤ (L : Int) - 4) (hn : (∀ (ga : Nat → Nat) (gd : Nat → Nat → Nat) (F T : Nat → Int → Int) (Gs : Nat → Nat → Int → Int) (S : Nat → Int → Int) (H : Heap) (locs : List Loc) (ls : Array Slot), Rel (k + 1) F T Gs S → va_P D vwCl (wX xo xh t ta cI cC cH ga gd F T Gs ++ wM mo am cI S) H → va_D A (wX xo xh t ta cI cC cH ga gd F T Gs ++ wM mo am cI S) → va_S A s.heap H locs → lv_has ls 4 [(3, .int (iI (4 * (k : Int)))), (2, .ref mo), (1, .ref xo), (0, .ref b)] → W p l e room_1 s m args below meth c H locs 600000 7302250 Q (F0 m 813 ls []))) {ga : Nat → Nat} {gd : Nat → Nat → Nat} {F T : Nat → Int → Int} {Gs : Nat → Nat → Int → Int} {S : Nat → Int → Int} {H : Heap} {locs : List Loc} {ls : Array Slot} (hR : Rel k F T Gs S) (hP : va_P D vwCl (wX xo xh t ta cI cC cH ga gd F T Gs ++ wM mo am cI S) H) (hD : va_D A (wX xo xh t ta cI cC cH ga gd F T Gs ++ wM mo am cI S)) (hS : va_S A s.heap H locs) (hl : lv_has ls 4 [(3, .int (iI (4 * (k : Int)))), (2, .ref mo), (1, .ref xo), (0, .ref b)]) {a1 : Int} (ha1 : -2147483648 ≤ a1 ∧ a1 < 2147483648) (ea1 : xs (4 * k + 1) = iI a1) : W p l e room_1 s m args below meth c H locs 600000 7302250 Q (F0 m 741 ls []) := by
  obtain ⟨V, ga1, gd1, F1, T1, Gs1, S1, mx, mm, hR1⟩ := st_type l D xo xh t ta cI cC cH mo am a1 ha1 k ga gd F T Gs S hk hR
  refine lv_aload_n hx hb dL_law_741 rfl (lv_at hl 2 rfl) ?_
  refine lv_aload_n hx hb dL_law_742 rfl (lv_at hl 3 rfl) ?_
  refine lv_iload_n hx hb dL_law_743 rfl (lv_at hl 0 rfl) ?_
  refine z_iconst hx hb dL_law_744 ?_
  refine z_iadd hx hb dL_law_745 ?_
  refine l_sld hx hb hX hbl hbA hS hL (4 * k + 1) (by omega) (by omega) ea1 dL_law_746 ?_
  refine mw_blk (wr := wM mo am cI S) (st1 := [.int (iI V)]) (mr_V (As := [.int (iI a1)]) (rest := []) (ci := 2) (q0 := 0) ⟨hx, hb, hml, hown, hts⟩ mx (cwV 1 hts (gV q_733 q_734 q_735 q_37 q_310) rfl rfl rfl (by decide +kernel) ⟨Nat.le_of_ble_eq_true rfl, Nat.le_of_ble_eq_true rfl⟩) hN hK (va_P_left hP) (va_D_left hD) rfl rfl rfl hl.1 (Nat.le_of_ble_eq_true rfl) ⟨Nat.le_of_ble_eq_true rfl, Nat.le_of_ble_eq_true rfl⟩ dL_law_747) hP hD hS hA (List.Perm.refl _) (List.Perm.refl _) rfl (fun H locs hP hD hS => ?_)
  refine lv_aload_n hx hb dL_law_750 rfl (lv_at hl 1 rfl) ?_
  refine lv_aload_n hx hb dL_law_751 rfl (lv_at hl 3 rfl) ?_
  refine lv_iload_n hx hb dL_law_752 rfl (lv_at hl 0 rfl) ?_
  refine z_iconst hx hb dL_law_753 ?_
  refine z_iadd hx hb dL_law_754 ?_
  refine l_sld hx hb hX hbl hbA hS hL (4 * k + 1) (by omega) (by omega) ea1 dL_law_755 ?_
  refine mw_blk (wr := wX xo xh t ta cI cC cH ga1 gd1 F1 T1 Gs1) (st1 := [.int (iI V), .int (iI V)]) (mr_V (As := [.int (iI a1)]) (rest := [.int (iI V)]) (ci := 3) (q0 := 0) ⟨hx, hb, hml, hown, hts⟩ mm (cwV 1 hts (gV q_736 q_737 q_738 q_345 q_561) rfl rfl rfl (by decide +kernel) ⟨Nat.le_of_ble_eq_true rfl, Nat.le_of_ble_eq_true rfl⟩) hN (hK.sub (tys' := [(cI, .int)]) [0] rfl) (va_P_left (va_P_perm hP List.perm_append_comm)) (va_D_left (va_D_perm hD List.perm_append_comm)) rfl rfl rfl hl.1 (Nat.le_of_ble_eq_true rfl) ⟨Nat.le_of_ble_eq_true rfl, Nat.le_of_ble_eq_true rfl⟩ dL_law_756) hP hD hS hA List.perm_append_comm List.perm_append_comm rfl (fun H locs hP hD hS => ?_)
  refine lv_icmp_eq (tgt := 813) hx hb dL_law_759 (by decide) (fun _ => ?_) (fun h => absurd rfl h)
  exact hn _ _ _ _ _ _ _ _ _ hR1 hP hD hS hl
set_option maxHeartbeats 4000000 in
set_option maxRecDepth 100000 in
theorem law_clearText {p : Program} {l : Launch} {e : Env} {s : State} {m : MethodId} {args : Array Value} {below : List Frame} {meth : Method} {c : Code} {Q : State → Prop} {D : va_G} {A : Nat → Prop} {cI cC cH : ClassId} {xo xh t : Nat} {ta : Nat → Nat} {mo : Nat} {am : Nat → Nat} {b L : Nat} {xs : Nat → Int32} (hx : p.tables.exec = Jvm.exec) (hb : c.code = cL_law) (hml : c.maxLocals = 4) (hown : s.vm.findClass RL = some m.cls) (hts : ∀ w ∈ (Cond.arrayClass .int :: ALL), w.before args s = true) (hN : nK s) (hK : va_K D vwCl [(cI, .int), (cC, .char), (cH, .object RX0)] s) (hA : ∀ q : Nat, s.heap.size ≤ q → A q) (hX : va_X b L xs s s.heap) (hbl : b < s.heap.size) (hbA : ¬ A b) (hL : L ≤ 2048) (k : Nat) (hk : k < 512) (hk4 : 4 * (k : Int) ≤ (L : Int) - 4) (hn : (∀ (ga : Nat → Nat) (gd : Nat → Nat → Nat) (F T : Nat → Int → Int) (Gs : Nat → Nat → Int → Int) (S : Nat → Int → Int) (H : Heap) (locs : List Loc) (ls : Array Slot), Rel (k + 1) F T Gs S → va_P D vwCl (wX xo xh t ta cI cC cH ga gd F T Gs ++ wM mo am cI S) H → va_D A (wX xo xh t ta cI cC cH ga gd F T Gs ++ wM mo am cI S) → va_S A s.heap H locs → lv_has ls 4 [(3, .int (iI (4 * (k : Int)))), (2, .ref mo), (1, .ref xo), (0, .ref b)] → W p l e room_1 s m args below meth c H locs 600000 7302250 Q (F0 m 813 ls []))) {ga : Nat → Nat} {gd : Nat → Nat → Nat} {F T : Nat → Int → Int} {Gs : Nat → Nat → Int → Int} {S : Nat → Int → Int} {H : Heap} {locs : List Loc} {ls : Array Slot} (hR : Rel k F T Gs S) (hP : va_P D vwCl (wX xo xh t ta cI cC cH ga gd F T Gs ++ wM mo am cI S) H) (hD : va_D A (wX xo xh t ta cI cC cH ga gd F T Gs ++ wM mo am cI S)) (hS : va_S A s.heap H locs) (hl : lv_has ls 4 [(3, .int (iI (4 * (k : Int)))), (2, .ref mo), (1, .ref xo), (0, .ref b)])  : W p l e room_1 s m args below meth c H locs 600000 7302250 Q (F0 m 764 ls []) := by
  obtain ⟨V, ga1, gd1, F1, T1, Gs1, S1, mx, mm, hR1⟩ := st_clearText l D xo xh t ta cI cC cH mo am   k ga gd F T Gs S hk hR
  refine lv_aload_n hx hb dL_law_764 rfl (lv_at hl 2 rfl) ?_
  refine mw_blk (wr := wM mo am cI S) (st1 := [.int (iI V)]) (mr_V (As := []) (rest := []) (ci := 2) (q0 := 0) ⟨hx, hb, hml, hown, hts⟩ mx (cwV 0 hts (gV q_739 q_740 q_741 q_37 q_314) rfl rfl rfl (by decide +kernel) ⟨Nat.le_of_ble_eq_true rfl, Nat.le_of_ble_eq_true rfl⟩) hN hK (va_P_left hP) (va_D_left hD) rfl rfl rfl hl.1 (Nat.le_of_ble_eq_true rfl) ⟨Nat.le_of_ble_eq_true rfl, Nat.le_of_ble_eq_true rfl⟩ dL_law_765) hP hD hS hA (List.Perm.refl _) (List.Perm.refl _) rfl (fun H locs hP hD hS => ?_)
  refine lv_aload_n hx hb dL_law_768 rfl (lv_at hl 1 rfl) ?_
  refine mw_blk (wr := wX xo xh t ta cI cC cH ga1 gd1 F1 T1 Gs1) (st1 := [.int (iI V), .int (iI V)]) (mr_V (As := []) (rest := [.int (iI V)]) (ci := 3) (q0 := 0) ⟨hx, hb, hml, hown, hts⟩ mm (cwV 0 hts (gV q_742 q_743 q_744 q_345 q_562) rfl rfl rfl (by decide +kernel) ⟨Nat.le_of_ble_eq_true rfl, Nat.le_of_ble_eq_true rfl⟩) hN (hK.sub (tys' := [(cI, .int)]) [0] rfl) (va_P_left (va_P_perm hP List.perm_append_comm)) (va_D_left (va_D_perm hD List.perm_append_comm)) rfl rfl rfl hl.1 (Nat.le_of_ble_eq_true rfl) ⟨Nat.le_of_ble_eq_true rfl, Nat.le_of_ble_eq_true rfl⟩ dL_law_769) hP hD hS hA List.perm_append_comm List.perm_append_comm rfl (fun H locs hP hD hS => ?_)
  refine lv_icmp_eq (tgt := 813) hx hb dL_law_772 (by decide) (fun _ => ?_) (fun h => absurd rfl h)
  exact hn _ _ _ _ _ _ _ _ _ hR1 hP hD hS hl
set_option maxHeartbeats 4000000 in
set_option maxRecDepth 100000 in
theorem law_fault {p : Program} {l : Launch} {e : Env} {s : State} {m : MethodId} {args : Array Value} {below : List Frame} {meth : Method} {c : Code} {Q : State → Prop} {D : va_G} {A : Nat → Prop} {cI cC cH : ClassId} {xo xh t : Nat} {ta : Nat → Nat} {mo : Nat} {am : Nat → Nat} {b L : Nat} {xs : Nat → Int32} (hx : p.tables.exec = Jvm.exec) (hb : c.code = cL_law) (hml : c.maxLocals = 4) (hown : s.vm.findClass RL = some m.cls) (hts : ∀ w ∈ (Cond.arrayClass .int :: ALL), w.before args s = true) (hN : nK s) (hK : va_K D vwCl [(cI, .int), (cC, .char), (cH, .object RX0)] s) (hA : ∀ q : Nat, s.heap.size ≤ q → A q) (hX : va_X b L xs s s.heap) (hbl : b < s.heap.size) (hbA : ¬ A b) (hL : L ≤ 2048) (k : Nat) (hk : k < 512) (hk4 : 4 * (k : Int) ≤ (L : Int) - 4) (hn : (∀ (ga : Nat → Nat) (gd : Nat → Nat → Nat) (F T : Nat → Int → Int) (Gs : Nat → Nat → Int → Int) (S : Nat → Int → Int) (H : Heap) (locs : List Loc) (ls : Array Slot), Rel (k + 1) F T Gs S → va_P D vwCl (wX xo xh t ta cI cC cH ga gd F T Gs ++ wM mo am cI S) H → va_D A (wX xo xh t ta cI cC cH ga gd F T Gs ++ wM mo am cI S) → va_S A s.heap H locs → lv_has ls 4 [(3, .int (iI (4 * (k : Int)))), (2, .ref mo), (1, .ref xo), (0, .ref b)] → W p l e room_1 s m args below meth c H locs 600000 7302250 Q (F0 m 813 ls []))) {ga : Nat → Nat} {gd : Nat → Nat → Nat} {F T : Nat → Int → Int} {Gs : Nat → Nat → Int → Int} {S : Nat → Int → Int} {H : Heap} {locs : List Loc} {ls : Array Slot} (hR : Rel k F T Gs S) (hP : va_P D vwCl (wX xo xh t ta cI cC cH ga gd F T Gs ++ wM mo am cI S) H) (hD : va_D A (wX xo xh t ta cI cC cH ga gd F T Gs ++ wM mo am cI S)) (hS : va_S A s.heap H locs) (hl : lv_has ls 4 [(3, .int (iI (4 * (k : Int)))), (2, .ref mo), (1, .ref xo), (0, .ref b)]) {a1 : Int} (ha1 : -2147483648 ≤ a1 ∧ a1 < 2147483648) (ea1 : xs (4 * k + 1) = iI a1) : W p l e room_1 s m args below meth c H locs 600000 7302250 Q (F0 m 777 ls []) := by
  obtain ⟨V, ga1, gd1, F1, T1, Gs1, S1, mx, mm, hR1⟩ := st_fault l D xo xh t ta cI cC cH mo am a1 ha1 k ga gd F T Gs S hk hR
  refine lv_aload_n hx hb dL_law_777 rfl (lv_at hl 2 rfl) ?_
  refine lv_aload_n hx hb dL_law_778 rfl (lv_at hl 3 rfl) ?_
  refine lv_iload_n hx hb dL_law_779 rfl (lv_at hl 0 rfl) ?_
  refine z_iconst hx hb dL_law_780 ?_
  refine z_iadd hx hb dL_law_781 ?_
  refine l_sld hx hb hX hbl hbA hS hL (4 * k + 1) (by omega) (by omega) ea1 dL_law_782 ?_
  refine mw_blk (wr := wM mo am cI S) (st1 := [.int (iI V)]) (mr_V (As := [.int (iI a1)]) (rest := []) (ci := 2) (q0 := 0) ⟨hx, hb, hml, hown, hts⟩ mx (cwV 1 hts (gV q_745 q_746 q_747 q_37 q_336) rfl rfl rfl (by decide +kernel) ⟨Nat.le_of_ble_eq_true rfl, Nat.le_of_ble_eq_true rfl⟩) hN hK (va_P_left hP) (va_D_left hD) rfl rfl rfl hl.1 (Nat.le_of_ble_eq_true rfl) ⟨Nat.le_of_ble_eq_true rfl, Nat.le_of_ble_eq_true rfl⟩ dL_law_783) hP hD hS hA (List.Perm.refl _) (List.Perm.refl _) rfl (fun H locs hP hD hS => ?_)
  refine lv_aload_n hx hb dL_law_786 rfl (lv_at hl 1 rfl) ?_
  refine lv_aload_n hx hb dL_law_787 rfl (lv_at hl 3 rfl) ?_
  refine lv_iload_n hx hb dL_law_788 rfl (lv_at hl 0 rfl) ?_
  refine z_iconst hx hb dL_law_789 ?_
  refine z_iadd hx hb dL_law_790 ?_
  refine l_sld hx hb hX hbl hbA hS hL (4 * k + 1) (by omega) (by omega) ea1 dL_law_791 ?_
  refine mw_blk (wr := wX xo xh t ta cI cC cH ga1 gd1 F1 T1 Gs1) (st1 := [.int (iI V), .int (iI V)]) (mr_V (As := [.int (iI a1)]) (rest := [.int (iI V)]) (ci := 3) (q0 := 0) ⟨hx, hb, hml, hown, hts⟩ mm (cwV 1 hts (gV q_748 q_749 q_750 q_345 q_597) rfl rfl rfl (by decide +kernel) ⟨Nat.le_of_ble_eq_true rfl, Nat.le_of_ble_eq_true rfl⟩) hN (hK.sub (tys' := [(cI, .int)]) [0] rfl) (va_P_left (va_P_perm hP List.perm_append_comm)) (va_D_left (va_D_perm hD List.perm_append_comm)) rfl rfl rfl hl.1 (Nat.le_of_ble_eq_true rfl) ⟨Nat.le_of_ble_eq_true rfl, Nat.le_of_ble_eq_true rfl⟩ dL_law_792) hP hD hS hA List.perm_append_comm List.perm_append_comm rfl (fun H locs hP hD hS => ?_)
  refine lv_icmp_eq (tgt := 813) hx hb dL_law_795 (by decide) (fun _ => ?_) (fun h => absurd rfl h)
  exact hn _ _ _ _ _ _ _ _ _ hR1 hP hD hS hl
set_option maxHeartbeats 4000000 in
set_option maxRecDepth 100000 in
theorem law_play {p : Program} {l : Launch} {e : Env} {s : State} {m : MethodId} {args : Array Value} {below : List Frame} {meth : Method} {c : Code} {Q : State → Prop} {D : va_G} {A : Nat → Prop} {cI cC cH : ClassId} {xo xh t : Nat} {ta : Nat → Nat} {mo : Nat} {am : Nat → Nat} {b L : Nat} {xs : Nat → Int32} (hx : p.tables.exec = Jvm.exec) (hb : c.code = cL_law) (hml : c.maxLocals = 4) (hown : s.vm.findClass RL = some m.cls) (hts : ∀ w ∈ (Cond.arrayClass .int :: ALL), w.before args s = true) (hN : nK s) (hK : va_K D vwCl [(cI, .int), (cC, .char), (cH, .object RX0)] s) (hA : ∀ q : Nat, s.heap.size ≤ q → A q) (hX : va_X b L xs s s.heap) (hbl : b < s.heap.size) (hbA : ¬ A b) (hL : L ≤ 2048) (k : Nat) (hk : k < 512) (hk4 : 4 * (k : Int) ≤ (L : Int) - 4) (hn : (∀ (ga : Nat → Nat) (gd : Nat → Nat → Nat) (F T : Nat → Int → Int) (Gs : Nat → Nat → Int → Int) (S : Nat → Int → Int) (H : Heap) (locs : List Loc) (ls : Array Slot), Rel (k + 1) F T Gs S → va_P D vwCl (wX xo xh t ta cI cC cH ga gd F T Gs ++ wM mo am cI S) H → va_D A (wX xo xh t ta cI cC cH ga gd F T Gs ++ wM mo am cI S) → va_S A s.heap H locs → lv_has ls 4 [(3, .int (iI (4 * (k : Int)))), (2, .ref mo), (1, .ref xo), (0, .ref b)] → W p l e room_1 s m args below meth c H locs 600000 7302250 Q (F0 m 813 ls []))) {ga : Nat → Nat} {gd : Nat → Nat → Nat} {F T : Nat → Int → Int} {Gs : Nat → Nat → Int → Int} {S : Nat → Int → Int} {H : Heap} {locs : List Loc} {ls : Array Slot} (hR : Rel k F T Gs S) (hP : va_P D vwCl (wX xo xh t ta cI cC cH ga gd F T Gs ++ wM mo am cI S) H) (hD : va_D A (wX xo xh t ta cI cC cH ga gd F T Gs ++ wM mo am cI S)) (hS : va_S A s.heap H locs) (hl : lv_has ls 4 [(3, .int (iI (4 * (k : Int)))), (2, .ref mo), (1, .ref xo), (0, .ref b)])  : W p l e room_1 s m args below meth c H locs 600000 7302250 Q (F0 m 800 ls []) := by
  obtain ⟨V, ga1, gd1, F1, T1, Gs1, S1, mx, mm, hR1⟩ := st_play l D xo xh t ta cI cC cH mo am   k ga gd F T Gs S hk hR
  refine lv_aload_n hx hb dL_law_800 rfl (lv_at hl 2 rfl) ?_
  refine mw_blk (wr := wM mo am cI S) (st1 := [.int (iI V)]) (mr_V (As := []) (rest := []) (ci := 2) (q0 := 0) ⟨hx, hb, hml, hown, hts⟩ mx (cwV 0 hts (gV q_751 q_752 q_753 q_37 q_337) rfl rfl rfl (by decide +kernel) ⟨Nat.le_of_ble_eq_true rfl, Nat.le_of_ble_eq_true rfl⟩) hN hK (va_P_left hP) (va_D_left hD) rfl rfl rfl hl.1 (Nat.le_of_ble_eq_true rfl) ⟨Nat.le_of_ble_eq_true rfl, Nat.le_of_ble_eq_true rfl⟩ dL_law_801) hP hD hS hA (List.Perm.refl _) (List.Perm.refl _) rfl (fun H locs hP hD hS => ?_)
  refine lv_aload_n hx hb dL_law_804 rfl (lv_at hl 1 rfl) ?_
  refine mw_blk (wr := wX xo xh t ta cI cC cH ga1 gd1 F1 T1 Gs1) (st1 := [.int (iI V), .int (iI V)]) (mr_V (As := []) (rest := [.int (iI V)]) (ci := 3) (q0 := 0) ⟨hx, hb, hml, hown, hts⟩ mm (cwV 0 hts (gV q_754 q_755 q_756 q_345 q_598) rfl rfl rfl (by decide +kernel) ⟨Nat.le_of_ble_eq_true rfl, Nat.le_of_ble_eq_true rfl⟩) hN (hK.sub (tys' := [(cI, .int)]) [0] rfl) (va_P_left (va_P_perm hP List.perm_append_comm)) (va_D_left (va_D_perm hD List.perm_append_comm)) rfl rfl rfl hl.1 (Nat.le_of_ble_eq_true rfl) ⟨Nat.le_of_ble_eq_true rfl, Nat.le_of_ble_eq_true rfl⟩ dL_law_805) hP hD hS hA List.perm_append_comm List.perm_append_comm rfl (fun H locs hP hD hS => ?_)
  refine lv_icmp_eq (tgt := 813) hx hb dL_law_808 (by decide) (fun _ => ?_) (fun h => absurd rfl h)
  exact hn _ _ _ _ _ _ _ _ _ hR1 hP hD hS hl
