/-! the start of the law, and its walk -/
theorem dfX2 : ∀ j, j < 10 → defaultValue (tyX2 j) = vp_V [.null, .null, .null, .null, .int (iI 0), .null, .int (iI 0), .int (iI 0), .int (iI 0), .int (iI 0)] j := fun j hj => by
  rcases (show j = 0 ∨ j = 1 ∨ j = 2 ∨ j = 3 ∨ j = 4 ∨ j = 5 ∨ j = 6 ∨ j = 7 ∨ j = 8 ∨ j = 9 by omega) with rfl | rfl | rfl | rfl | rfl | rfl | rfl | rfl | rfl | rfl <;> rfl
theorem CR_0 (ga : Nat → Nat) (gd : Nat → Nat → Nat) : CR 0 (ga, gd, zS, zS, fun _ => gI) := by
  refine ⟨⟨?_, ?_, ?_⟩, ⟨Int.le_refl 0, by show (0 : Int) ≤ 4; decide⟩, fun i hi => ?_, ⟨⟨Int.le_refl 0, (by decide : (0 : Int) ≤ 60)⟩, fun p _ _ => ⟨Int.le_refl 0, (by decide : (0 : Int) ≤ 126)⟩⟩, fun p _ _ => ⟨Int.le_refl 0, (by decide : (0 : Int) ≤ 999)⟩⟩
  · rw [show (1 : Int) + 36000 * ((0 : Nat) : Int) = 1 by omega]; exact gI_inv
  · show gI 12 0 ≤ 9999; decide +kernel
  · show sumZ 9 (gI 10) ≤ ((0 : Nat) : Int); decide +kernel
  · have h : (i : Int) < 0 := hi
    omega
theorem arr_int {args : Array Value} {s : State} (h : (Cond.arrayClass .int).before args s = true) : ∃ cI : ClassId, ArrOfT s cI .int ∧ va_RA s cI .int := by
  obtain ⟨cA, kA, comp, h1, h2, h3⟩ := Cond.arrayClass_spec h
  exact ⟨cA, fun n z => ⟨fun k q => (by cases q), kA, h2, comp, h3⟩, h1⟩
theorem arr_char {args : Array Value} {s : State} (h : (Cond.arrayClass .char).before args s = true) : ∃ cC : ClassId, ArrOfT s cC .char ∧ va_RA s cC .char := by
  obtain ⟨cA, kA, comp, h1, h2, h3⟩ := Cond.arrayClass_spec h
  exact ⟨cA, fun n z => ⟨fun k q => (by cases q), kA, h2, comp, h3⟩, h1⟩
theorem arr_obj {args : Array Value} {s : State} {C : String} (h : (Cond.arrayOver (.object C)).before args s = true) : ∃ cH : ClassId, ArrOfT s cH (.object C) ∧ va_RA s cH (.object C) := by
  obtain ⟨comp, cA, kA, h1, h2, h3, h4, h5⟩ := Cond.arrayOver_spec h
  exact ⟨cA, fun n z => ⟨fun k q => (by cases q), kA, h3, comp, h4⟩, kA, comp, h3, h4, h1, h5⟩
theorem eX2_b (U : State) (a : Array Value) (g : JFrame) (mk : MethodId) (h : eX2 U) : eX2 (U.calling g mk a) := ⟨va_AO.moved (u := U) (U := U.calling g mk a) (Vm.Alike.refl U.vm) h.1, va_Nw.same (u := U) (U := U.calling g mk a) rfl rfl h.2⟩
theorem eX2_w {s U : State} (hW : s.WarmedH U.vm) (h : eX2 s) : eX2 U := ⟨va_AO.moved hW.alike h.1, va_Nw.warmM hW h.2⟩
set_option maxHeartbeats 4000000 in
set_option maxRecDepth 100000 in
theorem whole_start {p : Program} {e : Env} {s : State} {m : MethodId} {below : List Frame} {meth : Method} {c : Code} (l : Launch) (hflags : l.flags = flags0) {b L : Nat} {xs : Nat → Int32} (hL : L ≤ 260) (C0 : lw_At p s m meth c b L xs) : W p l e room_1 s m #[Value.ref b] below meth c s.heap [] 0 0 (lw_Z below #[Value.ref b] s) (entryFrame m ([Value.ref b] : List Value).toArray 11) := by
  obtain ⟨hx, hb, hr, hml, hown, hts0, hX, hbl, hlocks, hgv⟩ := id C0
  have hq : ∀ w ∈ ALL, w.before #[Value.ref b] s = true := fun w h => hts0 w (ALL_in w h)
  have hts : ∀ w ∈ (Cond.arrayClass .int :: ALL), w.before #[Value.ref b] s = true := fun w h => by
    rcases List.mem_cons.mp h with rfl | h
    · exact hq _ q_17
    · exact hq w h
  have hown : s.vm.findClass RL = some m.cls := hown
  obtain ⟨A, hAe⟩ : ∃ A : Nat → Prop, A = (fun q : Nat => s.heap.size ≤ q) := ⟨_, rfl⟩
  have hA : ∀ q : Nat, s.heap.size ≤ q → A q := fun q h => by rw [hAe]; exact h
  have hbA : ¬ A b := by rw [hAe]; exact Nat.not_le.mpr hbl
  obtain ⟨c0, iS0, hKn0⟩ := u_known (C := RX0) (T := TX0) (N := 13) (n := 13) hq inA0 (hq _ q_203)
  obtain ⟨c1, iS1, hKn1⟩ := u_known (C := RX1) (T := TX1) (N := 5) (n := 5) hq inA1 (hq _ q_209)
  obtain ⟨c2, iS2, hKn2⟩ := u_known (C := RX2) (T := TX2) (N := 10) (n := 10) hq inA2 (hq _ q_440)
  obtain ⟨dC, dI, hKc⟩ : ∃ (dC : Nat → ClassId) (dI : Nat → Nat → Nat), ∀ (k : Nat) (q : vw_C), vwCl[k]? = some q → u_Kn s q.1 q.2.1 q.2.2 (dC k) (dI k) := by
    refine ⟨fun k => if k = 0 then c0 else if k = 1 then c1 else c2, fun k => if k = 0 then iS0 else if k = 1 then iS1 else iS2, ?_⟩
    intro k q hq
    match k, hq with
    | 0, hq => cases hq; exact hKn0
    | 1, hq => cases hq; exact hKn1
    | 2, hq => cases hq; exact hKn2
    | k + 3, hq => simp [vwCl] at hq
  obtain ⟨cI, aI1, aI2⟩ := arr_int (hq _ q_17)
  obtain ⟨cC, aC1, aC2⟩ := arr_char (hq _ q_155)
  obtain ⟨cH, aH1, aH2⟩ := arr_obj (hts0 _ t_over)
  have hK : va_K (dC, dI) vwCl [(cI, .int), (cC, .char), (cH, .object RX0)] s := ⟨hKc, fun k q h => by
    match k, h with
    | 0, h => cases h; exact ⟨aI1, aI2⟩
    | 1, h => cases h; exact ⟨aC1, aC2⟩
    | 2, h => cases h; exact ⟨aH1, aH2⟩
    | k + 3, h => simp at h⟩
  have hN : nK s := ⟨va_Nw.of rfl (hts0 _ t_w70), va_Nw.of rfl (hts0 _ t_w23)⟩
  have hE : eX2 s := ⟨va_AO.of (hts0 _ t_over), va_Nw.of rfl (hts0 _ t_w28)⟩
  have hS : va_S A s.heap s.heap [] := va_S.rf
  have hP : va_P (dC, dI) vwCl [] s.heap := va_P0 _ _ _
  have hD : va_D A [] := va_D0 A
  have hl := lv_entry ([.ref b]) (n := 11) (Nat.le_of_ble_eq_true rfl)
  rw [lg_entry_eq]
  generalize (lg_sl ([.ref b]) ++ List.replicate (11 - (lg_sl ([.ref b])).length) Slot.unset).toArray = ls at hl ⊢
  have hl : lv_has ls 11 [(0, .ref b)] := hl
  refine va_new (D := (dC, dI)) (ci := 2) (fs := [.null, .null, .null, .null, .int (iI 0), .null, .int (iI 0), .int (iI 0), .int (iI 0), .int (iI 0)]) (C := RX2) (T := TX2) (N := 10) hx hb hq inA2 tyX2 tyX2_ok hown (hq _ q_439) (hq _ q_440) (hq _ q_37) hK hP hD hS hA rfl dfX2 (Nat.le_of_ble_eq_true rfl) (Nat.le_of_ble_eq_true rfl) dL_law_0 (fun xo H hP hD hS => ?_)
  have hP : va_P (dC, dI) vwCl [(xo, .inr (2, [.null, .null, .null, .null, .int (iI 0), .null, .int (iI 0), .int (iI 0), .int (iI 0), .int (iI 0)]))] H := hP
  have hD : va_D A [(xo, .inr (2, [.null, .null, .null, .null, .int (iI 0), .null, .int (iI 0), .int (iI 0), .int (iI 0), .int (iI 0)]))] := hD
  refine lv_dup hx hb dL_law_3 rfl ?_
  refine mc_run (wr := []) (mc_I (rest := [.ref xo]) ⟨hx, hb, hml, hown, hts⟩ (m_X2_init l (dC, dI) xo cI cC cH) (cwI 0 hts (gSelf q_214) rfl rfl rfl (hq _ q_37) (hq _ q_441) (hq _ q_442) rfl (by decide +kernel) ⟨(Nat.le_of_ble_eq_true rfl), (Nat.le_of_ble_eq_true rfl)⟩) (mc_pre hN hK hP hD eX2_b (fun U hW => eX2_w hW hE)) hl.1 (Nat.le_of_ble_eq_true rfl) ⟨(Nat.le_of_ble_eq_true rfl), (Nat.le_of_ble_eq_true rfl)⟩ dL_law_4) hP hD hS hA (List.Perm.refl _) (fun u H locs hP hD hS => ?_)
  obtain ⟨xh, t, ta, ga, gd⟩ := u
  have hP : va_P (dC, dI) vwCl (wX xo xh t ta cI cC cH ga gd zS zS (fun _ => gI) ++ []) H := hP
  have hD : va_D A (wX xo xh t ta cI cC cH ga gd zS zS (fun _ => gI) ++ []) := hD
  refine lv_astore_n (lv' := [(1, .ref xo), (0, .ref b)]) hx hb dL_law_7 rfl hl (by decide) rfl (fun ls hl => ?_)
  refine W.widen (k := 600000) (n := 7302250) (Nat.le_of_ble_eq_true rfl) (Nat.le_of_ble_eq_true rfl) ?_
  rw [List.append_nil] at hP hD
  refine law_body (args := #[Value.ref b]) (D := (dC, dI)) (cI := cI) (cC := cC) (cH := cH) (xo := xo) (xh := xh) (t := t) (ta := ta) (q := (ga, gd, zS, zS, fun _ => gI)) (Q := lw_Z below #[Value.ref b] s) hx hb hml hown hts hN hK hA hX hbl hbA hL (CR_0 ga gd) rfl hP hD hS hl ?_
  intro H locs ls hS
  refine va_forget (fun q h => by have h2 := hS.2.2 q h; rw [hAe] at h2; exact h2) ?_
  refine W.base ?_
  exact lw_ret (Drawn.sameBut.refl s.drawn lw_cs) hx hb hr hlocks dL_law_301
