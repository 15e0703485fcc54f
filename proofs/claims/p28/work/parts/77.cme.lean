/-! contracts of the law's methods: from the cells w to the cells wf u, for some u with P u -/
def Qwe (D : va_G) {S : Type} (P : S → Prop) (wf : S → va_W) (r : Option Value) (w : va_W) (sz : Nat) : Array Value → State → Outcome → State → Prop := fun _ st oc t => (∃ u : S, P u ∧ oc = .returned r ∧ va_P D vwCl (wf u) t.heap ∧ va_D (va_A w sz) (wf u)) ∧ va_F (va_A w sz) st t
def ME (l : Launch) (D : va_G) (y : MethodName) (ws : List Cond) (rm : Room) (tys : List (ClassId × FieldType)) (av : List Value) (w : va_W) {S : Type} (P : S → Prop) (wf : S → va_W) (r : Option Value) : Prop := ∀ sz : Nat, Met l y ws rm (Pw D tys av w sz) (Qwe D P wf r w sz) 0 0 (va_A w sz)
theorem me_ofZ {l : Launch} {D : va_G} {y : MethodName} {ws ws' : List Cond} {rm : Room} {tys : List (ClassId × FieldType)} {av : List Value} {w : va_W} {S : Type} {P : S → Prop} {wf : S → va_W} {v : Int32} {cc : ByteArray} {maxL : Nat} (hn : narrow .boolean (.int v) = .int v)
    (hy : plainName y.cls = true) (hw : ws = Cond.code y cc maxL (some .boolean) :: ws') (hav : (lg_sl av).length ≤ maxL)
    (body : ∀ (p : Program) (e : Env) (s : State) (m : MethodId) (below : List Frame) (meth : Method) (c : Code) (R : Room) (A : Nat → Prop) (Q : State → Prop) (args : Array Value) (ls : Array Slot), p.tables.exec = Jvm.exec → c.code = cc → c.maxLocals = maxL → s.vm.findClass y.cls = some m.cls → (∀ w ∈ ws, w.before args s = true) → rm.frames ≤ R.frames → rm.locals ≤ R.locals → 0 ≤ R.cells → 0 ≤ R.slots → nK s → va_K D vwCl tys s → va_P D vwCl w s.heap → va_D A w → va_S A s.heap s.heap [] → (∀ q : Nat, s.heap.size ≤ q → A q) →
      (∀ (u : S) (pc : Nat) (ls : Array Slot) (H1 : Heap) (locs1 : List Loc), P u → decode cc pc = .ok (.ireturn, 1) → va_P D vwCl (wf u) H1 → va_D A (wf u) → va_S A s.heap H1 locs1 → W p l e R s m args below meth c H1 locs1 0 0 Q (F0 m pc ls [.int v])) → lv_has ls maxL (lv_args 0 av) →
      W p l e R s m args below meth c s.heap [] 0 0 Q (F0 m 0 ls [])) : ME l D y ws rm tys av w P wf (some (.int v)) := by
  intro sz
  refine Met.ofW (cc := cc) (maxL := maxL) (ret := some .boolean) hy hw ?_
  intro p e s m args below meth c s₁ B hml hv
  obtain ⟨rfl, hsz, hP, hK, hD0, hN⟩ := hv
  subst hsz
  have hts := atoms_spec (ws := ws) B.pre
  have hown : s.vm.findClass y.cls = some m.cls := findClass_of_methodNamed B.named
  have hl := lv_entry av (n := maxL) hav
  rw [lg_entry_eq]
  generalize (lg_sl av ++ List.replicate (maxL - (lg_sl av).length) Slot.unset).toArray = ls at hl ⊢
  refine body p e s m below meth c (headSpec ws rm).room (va_A w s.heap.size) _ av.toArray ls B.exec B.bytes hml hown hts (Nat.le_refl _) (Nat.le_refl _) (Nat.zero_le _) (Nat.zero_le _) hN hK hP hD0.self va_S.rf (fun q h => Or.inr h) ?_ hl
  intro u pc ls H1 locs1 hu hdg hP1 hD1 hS1
  exact W.zret B.exec B.bytes B.returns hn (fun t ht hW => ⟨⟨u, hu, rfl, by rw [ht]; exact hP1, hD1⟩, hS1.F ht⟩) hS1.2.2 hdg B.notSynchronized
theorem mw_ofJ {l : Launch} {D : va_G} {y : MethodName} {ws ws' : List Cond} {rm : Room} {tys : List (ClassId × FieldType)} {av : List Value} {w w' : va_W} {v : Int64} {cc : ByteArray} {maxL : Nat}
    (hy : plainName y.cls = true) (hw : ws = Cond.code y cc maxL (some .long) :: ws') (hav : (lg_sl av).length ≤ maxL)
    (body : ∀ (p : Program) (e : Env) (s : State) (m : MethodId) (below : List Frame) (meth : Method) (c : Code) (R : Room) (A : Nat → Prop) (Q : State → Prop) (args : Array Value) (ls : Array Slot), p.tables.exec = Jvm.exec → c.code = cc → c.maxLocals = maxL → s.vm.findClass y.cls = some m.cls → (∀ w ∈ ws, w.before args s = true) → rm.frames ≤ R.frames → rm.locals ≤ R.locals → 0 ≤ R.cells → 0 ≤ R.slots → nK s → va_K D vwCl tys s → va_P D vwCl w s.heap → va_D A w → va_S A s.heap s.heap [] → (∀ q : Nat, s.heap.size ≤ q → A q) → Wret p l e R s m args below meth c Q D A w' .lreturn [.long v] cc → lv_has ls maxL (lv_args 0 av) →
      W p l e R s m args below meth c s.heap [] 0 0 Q (F0 m 0 ls [])) : MW l D y ws rm tys av w w' (some (.long v)) :=
  mw_of hy hw hav (fun p e R s m args below meth c H locs ls pc Qc free hx hb hr hlocks hq hf hdg => W.lret hx hb hr hq hf hdg hlocks) body
section MEC
variable {p : Program} {l : Launch} {e : Env} {R : Room} {s : State} {m : MethodId} {args : Array Value} {below : List Frame} {meth : Method} {c : Code} {H : Heap} {locs : List Loc} {cells slots : Nat} {Q : State → Prop}
variable {cc : ByteArray} {pc nL : Nat} {ls : Array Slot} {rest : List Value} {D : va_G} {A : Nat → Prop} {tys tys' : List (ClassId × FieldType)} {wc wc' ws0 w1 : va_W} {r : Option Value} {Ts ws : List Cond} {own : String} {y : MethodName} {bytes : ByteArray} {maxL n index : Nat} {ret : Option FieldType} {rm : Room} {As : List Value} {b : Nat}
theorem me_S {S : Type} {P : S → Prop} {wf : S → va_W} (S0 : CallFix p m c cc nL s args Ts own) (hM : ME l D y ws rm tys' As wc P wf r) (cw : CallB R s args own index y bytes maxL ret ws rm 0 0 n ∧ (Cond.static y).before args s = true) (hN : nK s) (hK : va_K D vwCl tys' s) (hP : va_P D vwCl wc H) (hD : va_D A wc) (hn : As.length = n) (hsize : ls.size = nL) (hW : (rest.map fun v => v.category).sum ≤ 8) (hf : cells ≤ R.cells ∧ slots ≤ R.slots) (hdg : decode cc pc = .ok (.invokestatic index, 3)) :
    ∃ a : Array Value, va_Run p l e R s m args below meth c H locs cells slots 0 0 (F0 m pc ls (As.reverse ++ rest)) rest (Qwe D P wf r wc H.size a) (va_A wc H.size) :=
  ⟨_, va_runS (rest := rest) S0 (hM H.size) cw ⟨pw_blind _ _ _, pw_here _ hN hK hP hD⟩ rfl hn hsize rfl (lv_room hW) hdg hf⟩
theorem me_go {S : Type} {P : S → Prop} {wf : S → va_W} {st0 st1 : List Value} (hr : ∃ a : Array Value, va_Run p l e R s m args below meth c H locs cells slots 0 0 (F0 m pc ls st0) rest (Qwe D P wf r wc H.size a) (va_A wc H.size)) (hD : va_D A wc) (hS : va_S A s.heap H locs) (hA : ∀ q : Nat, s.heap.size ≤ q → A q) (hst : r.toList ++ rest = st1)
    (kk : ∀ (u : S) (H1 : Heap) (locs1 : List Loc), P u → va_P D vwCl (wf u) H1 → va_D A (wf u) → va_S A s.heap H1 locs1 → W p l e R s m args below meth c H1 locs1 cells slots Q (F0 m (pc + 3) ls st1)) : W p l e R s m args below meth c H locs cells slots Q (F0 m pc ls st0) := by
  have hF : ∀ q, va_A wc H.size q → A q := fun q h => by
    rcases h with ⟨k, e0, h⟩ | h
    · exact hD.2 k (q, e0) h
    · exact hA q (Nat.le_trans hS.1 h)
  subst hst
  obtain ⟨a, hr⟩ := hr
  intro T hT X
  obtain ⟨v, st₀, t, T', L, h0, X', hL, e1, e2, ⟨⟨u, hu, hv, hp, hd⟩, hz, hk⟩, st⟩ := hr T hT X
  cases hv
  rw [h0] at hz hk
  obtain ⟨t2, a1, b1⟩ := kk u T'.heap (locs ++ L) hu (by rw [e1]; exact hp) (hd.weaken (fun k q _ h => hF q.1 h))
    ⟨Nat.le_trans hS.1 (by rw [e1]; exact hz), fun q h1 h2 => by rw [e1, hk q (Nat.lt_of_lt_of_le h1 hS.1) (fun z => h2 (hF q z))]; exact hS.2.1 q h1 h2, fun q hq => by
      rcases List.mem_append.mp hq with h | h
      · exact hS.2.2 q h
      · exact hF _ (hL q h)⟩ T' rfl X'
  exact ⟨t2, st t2 a1, b1⟩
end MEC
/-! the script's numbers: any method that only reads the script -/
def Pl (b L : Nat) (xs : Nat → Int32) (k : Int) (sz : Nat) : Array Value → State → Prop := va_Pc [.ref b, .int (iI k)] (fun U => U.heap.size = sz ∧ b < sz ∧ va_X b L xs U U.heap)
def Ql (sz : Nat) : Array Value → State → Outcome → State → Prop := fun _ st oc t => (∃ v : Int32, oc = .returned (some (.int v))) ∧ va_F (fun q => sz ≤ q) st t
theorem m_lot (l : Launch) {b L : Nat} {xs : Nat → Int32} (hL : L ≤ 260) (k : Int) (hk : 0 ≤ k ∧ k < 1000) (sz : Nat) : Met l yL_lot (wsY yL_lot cL_lot 2 (some .int)) { frames := 0, cells := 0, slots := 0, locals := 0 } (Pl b L xs k sz) (Ql sz) 0 0 (fun q => sz ≤ q) := by
  refine Met.ofW (cc := cL_lot) (maxL := 2) (ret := some .int) (by decide) rfl ?_
  intro p e s m args below meth c s₁ B hml hv
  obtain ⟨rfl, hsz, hbl, hX⟩ := hv
  subst hsz
  have hts := atoms_spec (ws := wsY yL_lot cL_lot 2 (some .int)) B.pre
  have hq : ∀ w ∈ ALL, w.before _ s = true := fun w h => hts w (List.mem_cons_of_mem _ h)
  have hown : s.vm.findClass RL = some m.cls := findClass_of_methodNamed B.named
  have hx := B.exec
  have hb := B.bytes
  have hl := lv_entry ([.ref b, .int (iI k)]) (n := 2) (Nat.le_of_ble_eq_true rfl)
  rw [lg_entry_eq]
  generalize (lg_sl ([.ref b, .int (iI k)]) ++ List.replicate (2 - (lg_sl ([.ref b, .int (iI k)])).length) Slot.unset).toArray = ls at hl ⊢
  have hl : lv_has ls 2 [(0, .ref b), (1, .int (iI k))] := hl
  have hS : va_S (fun q => s.heap.size ≤ q) s.heap s.heap [] := va_S.rf
  have hbA : ¬ (fun q => s.heap.size ≤ q) b := Nat.not_le.mpr hbl
  refine lv_iload_n hx hb dL_lot_0 rfl (lv_at hl 1 rfl) ?_
  refine lv_aload_n hx hb dL_lot_1 rfl (lv_at hl 0 rfl) ?_
  refine va_slen hx hb hX hbl hbA hS dL_lot_2 ?_
  rw [show Int32.ofNat L = iI (L : Int) from (Int32.ofInt_eq_ofNat).symm]
  refine z_icmp_ge (tgt := 12) hx hb dL_lot_3 (by decide) (by omega) (by omega) (fun c_1 => ?_) (fun c_1 => ?_)
  · refine z_ldc hx hb (-673127061) (by decide +kernel) hown (hq _ q_338) dL_lot_12 ?_
    refine lv_iload_n hx hb dL_lot_14 rfl (lv_at hl 1 rfl) ?_
    refine z_sipush hx hb dL_lot_15 (by decide +kernel) ?_
    refine z_iadd hx hb dL_lot_18 ?_
    refine z_imul hx hb dL_lot_19 ?_
    refine z_sipush hx hb dL_lot_20 (by decide +kernel) ?_
    refine z_iadd hx hb dL_lot_23 ?_
    exact W.iret hx hb B.returns (fun t ht hW => ⟨⟨_, rfl⟩, hS.F ht⟩) hS.2.2 dL_lot_24 B.notSynchronized
  · refine lv_aload_n hx hb dL_lot_6 rfl (lv_at hl 0 rfl) ?_
    refine lv_iload_n hx hb dL_lot_7 rfl (lv_at hl 1 rfl) ?_
    refine va_sld hx hb hX hbl hbA hS (iI_in (by omega) (by omega) (by omega)) dL_lot_8 ?_
    refine lv_goto (tgt := 24) hx hb dL_lot_9 (by decide) ?_
    exact W.iret hx hb B.returns (fun t ht hW => ⟨⟨_, rfl⟩, hS.F ht⟩) hS.2.2 dL_lot_24 B.notSynchronized
theorem pl_pre {s : State} {A : Nat → Prop} {H : Heap} {locs : List Loc} {b L : Nat} {xs : Nat → Int32} (hX : va_X b L xs s s.heap) (hbl : b < s.heap.size) (hbA : ¬ A b) (hS : va_S A s.heap H locs) (k : Int) : PreS s H (Pl b L xs k H.size) [.ref b, .int (iI k)] :=
  ⟨fun a U g mk q => by
    obtain ⟨e0, q0, q1, q2⟩ := q
    exact ⟨e0, q0, q1, va_X.moved (u := U) (U := U.calling g mk a) (Vm.Alike.refl U.vm) q2⟩, fun U hU hW => ⟨rfl, by rw [hU], Nat.lt_of_lt_of_le hbl hS.1, by rw [hU]; exact va_X.moved hW.alike (hX.kept (hS.2.1 b hbl hbA))⟩⟩
/-- the callee makes nothing and changes nothing: any int comes back -/
theorem lot_go {p : Program} {l : Launch} {e : Env} {R : Room} {s : State} {m : MethodId} {args : Array Value} {below : List Frame} {meth : Method} {c : Code} {H : Heap} {locs : List Loc} {cells slots : Nat} {Q : State → Prop} {pc : Nat} {ls : Array Slot} {rest : List Value} {D : va_G} {A : Nat → Prop} {ws0 : va_W} {st0 : List Value} (hr : ∃ a : Array Value, va_Run p l e R s m args below meth c H locs cells slots 0 0 (F0 m pc ls st0) rest (Ql H.size a) (fun q => H.size ≤ q)) (hP : va_P D vwCl ws0 H) (hS : va_S A s.heap H locs) (hA : ∀ q : Nat, s.heap.size ≤ q → A q)
    (kk : ∀ (v : Int32) (H1 : Heap) (locs1 : List Loc), va_P D vwCl ws0 H1 → va_S A s.heap H1 locs1 → W p l e R s m args below meth c H1 locs1 cells slots Q (F0 m (pc + 3) ls (.int v :: rest))) : W p l e R s m args below meth c H locs cells slots Q (F0 m pc ls st0) := by
  obtain ⟨a, hr⟩ := hr
  intro T hT X
  obtain ⟨v, st₀, t, T', L, h0, X', hL, e1, e2, ⟨⟨u, hv⟩, hz, hk⟩, st⟩ := hr T hT X
  cases hv
  rw [h0] at hz hk
  obtain ⟨t2, a1, b1⟩ := kk u T'.heap (locs ++ L) (hP.kept (fun k q hq => by rw [e1]; exact hk q.1 (hP k q hq).lt (fun h => by have h2 := (hP k q hq).lt; omega)))
    ⟨Nat.le_trans hS.1 (by rw [e1]; exact hz), fun q h1 h2 => by rw [e1, hk q (Nat.lt_of_lt_of_le h1 hS.1) (fun z => h2 (hA q (Nat.le_trans hS.1 z)))]; exact hS.2.1 q h1 h2, fun q hq => by
      rcases List.mem_append.mp hq with h | h
      · exact hS.2.2 q h
      · exact hA _ (Nat.le_trans hS.1 (hL q h))⟩ T' rfl X'
  exact ⟨t2, st t2 a1, b1⟩
