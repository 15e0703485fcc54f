/-! contracts of constructors: from the cells w to the cells wf u, for some u; mc new cells of ms slots -/
def Qwc (D : va_G) {S : Type} (wf : S → va_W) (w : va_W) (sz : Nat) : Array Value → State → Outcome → State → Prop := fun _ st oc t => (∃ u : S, oc = .returned none ∧ va_P D vwCl (wf u) t.heap ∧ va_D (va_A w sz) (wf u)) ∧ va_F (va_A w sz) st t
def Pwe (D : va_G) (tys : List (ClassId × FieldType)) (av : List Value) (w : va_W) (sz : Nat) (E : State → Prop) : Array Value → State → Prop := fun a U => Pw D tys av w sz a U ∧ E U
def MC (l : Launch) (D : va_G) (y : MethodName) (ws : List Cond) (rm : Room) (tys : List (ClassId × FieldType)) (av : List Value) (w : va_W) (E : State → Prop) (mc ms : Nat) {S : Type} (wf : S → va_W) : Prop := ∀ sz : Nat, Met l y ws rm (Pwe D tys av w sz E) (Qwc D wf w sz) mc ms (va_A w sz)
theorem mc_of {l : Launch} {D : va_G} {y : MethodName} {ws ws' : List Cond} {rm : Room} {tys : List (ClassId × FieldType)} {av : List Value} {w : va_W} {E : State → Prop} {mc ms : Nat} {S : Type} {wf : S → va_W} {cc : ByteArray} {maxL : Nat}
    (hy : plainName y.cls = true) (hw : ws = Cond.code y cc maxL none :: ws') (hav : (lg_sl av).length ≤ maxL)
    (body : ∀ (p : Program) (e : Env) (s : State) (m : MethodId) (below : List Frame) (meth : Method) (c : Code) (R : Room) (A : Nat → Prop) (Q : State → Prop) (args : Array Value) (ls : Array Slot), p.tables.exec = Jvm.exec → c.code = cc → c.maxLocals = maxL → s.vm.findClass y.cls = some m.cls → (∀ w ∈ ws, w.before args s = true) → rm.frames ≤ R.frames → rm.locals ≤ R.locals → rm.cells ≤ R.cells → rm.slots ≤ R.slots → nK s → va_K D vwCl tys s → va_P D vwCl w s.heap → va_D A w → va_S A s.heap s.heap [] → (∀ q : Nat, s.heap.size ≤ q → A q) →
      (∀ (u : S) (pc : Nat) (ls : Array Slot) (H1 : Heap) (locs1 : List Loc), decode cc pc = .ok (.return_, 1) → va_P D vwCl (wf u) H1 → va_D A (wf u) → va_S A s.heap H1 locs1 → W p l e R s m args below meth c H1 locs1 mc ms Q (F0 m pc ls [])) → lv_has ls maxL (lv_args 0 av) → meth.name = y.name → E s →
      W p l e R s m args below meth c s.heap [] 0 0 Q (F0 m 0 ls [])) : MC l D y ws rm tys av w E mc ms wf := by
  intro sz
  refine Met.ofW (cc := cc) (maxL := maxL) (ret := none) hy hw ?_
  intro p e s m args below meth c s₁ B hml hv
  obtain ⟨⟨rfl, hsz, hP, hK, hD0, hN⟩, hE⟩ := hv
  subst hsz
  have hts := atoms_spec (ws := ws) B.pre
  have hown : s.vm.findClass y.cls = some m.cls := findClass_of_methodNamed B.named
  have hin : meth.name = y.name := (name_of_methodNamed B.named B.method).1
  have hl := lv_entry av (n := maxL) hav
  rw [lg_entry_eq]
  generalize (lg_sl av ++ List.replicate (maxL - (lg_sl av).length) Slot.unset).toArray = ls at hl ⊢
  refine body p e s m below meth c (headSpec ws rm).room (va_A w s.heap.size) _ av.toArray ls B.exec B.bytes hml hown hts (Nat.le_refl _) (Nat.le_refl _) (Nat.le_refl _) (Nat.le_refl _) hN hK hP hD0.self va_S.rf (fun q h => Or.inr h) ?_ hl hin hE
  intro u pc ls H1 locs1 hdg hP1 hD1 hS1
  exact W.vret B.exec B.bytes B.returns (fun t ht hW => ⟨⟨u, rfl, by rw [ht]; exact hP1, hD1⟩, hS1.F ht⟩) hS1.2.2 hdg B.notSynchronized
section MCC
variable {p : Program} {l : Launch} {e : Env} {R : Room} {s : State} {m : MethodId} {args : Array Value} {below : List Frame} {meth : Method} {c : Code} {H : Heap} {locs : List Loc} {cells slots : Nat} {Q : State → Prop}
variable {cc : ByteArray} {pc nL : Nat} {ls : Array Slot} {rest : List Value} {D : va_G} {A : Nat → Prop} {tys tys' : List (ClassId × FieldType)} {wc ws0 wr : va_W} {Ts ws : List Cond} {own : String} {y : MethodName} {bytes : ByteArray} {maxL n index mc ms : Nat} {rm : Room} {b : Nat} {E : State → Prop} {S : Type} {wf : S → va_W}
/-- a constructor runs: what a call of it needs, and goes on over the cells that it made -/
theorem mc_run (hr : ∃ a : Array Value, va_Run p l e R s m args below meth c H locs cells slots mc ms (F0 m pc ls (.ref b :: rest)) rest (Qwc D wf wc H.size a) (va_A wc H.size)) (hP : va_P D vwCl ws0 H) (hD : va_D A ws0) (hS : va_S A s.heap H locs) (hA : ∀ q : Nat, s.heap.size ≤ q → A q) (hp : ws0.Perm (wc ++ wr))
    (kk : ∀ (u : S) (H1 : Heap) (locs1 : List Loc), va_P D vwCl (wf u ++ wr) H1 → va_D A (wf u ++ wr) → va_S A s.heap H1 locs1 → W p l e R s m args below meth c H1 locs1 (cells + mc) (slots + ms) Q (F0 m (pc + 3) ls rest)) : W p l e R s m args below meth c H locs cells slots Q (F0 m pc ls (.ref b :: rest)) := by
  have hP' := va_P_iff.mp (va_P_perm hP hp)
  have hD' := va_D_iff.mp (va_D_perm hD hp)
  rw [List.map_append, List.nodup_append] at hD'
  have hF : ∀ q, va_A wc H.size q → A q := fun q h => by
    rcases h with ⟨k, e0, h⟩ | h
    · exact hD'.2 _ (List.mem_append_left _ (List.mem_of_getElem? h))
    · exact hA q (Nat.le_trans hS.1 h)
  have hno : ∀ q ∈ wr, ¬ va_A wc H.size q.1 := fun q hq h => by
    rcases h with ⟨k, e0, h⟩ | h
    · exact hD'.1.2.2 q.1 (List.mem_map.mpr ⟨_, List.mem_of_getElem? h, rfl⟩) q.1 (List.mem_map.mpr ⟨_, hq, rfl⟩) rfl
    · have := (hP' q (List.mem_append_right _ hq)).lt
      omega
  obtain ⟨a, hr⟩ := hr
  intro T hT X
  obtain ⟨v, st₀, t, T', L, h0, X', hL, e1, e2, ⟨⟨u, hv, hp1, hd⟩, hz, hk⟩, st⟩ := hr T hT X
  cases hv
  rw [h0] at hz hk
  have hd := va_D_iff.mp hd
  have hP1 : va_P D vwCl (wf u ++ wr) T'.heap := va_P_iff.mpr fun q hq => by
    rcases List.mem_append.mp hq with h | h
    · rw [e1]; exact va_P_iff.mp hp1 q h
    · have h1 := hP' q (List.mem_append_right _ h)
      exact h1.kept (by rw [e1]; exact hk q.1 h1.lt (hno q h))
  have hD1 : va_D A (wf u ++ wr) := va_D_iff.mpr ⟨by
    rw [List.map_append, List.nodup_append]
    refine ⟨hd.1, hD'.1.2.1, fun x hx z hz2 hxz => ?_⟩
    obtain ⟨q1, hq1, rfl⟩ := List.mem_map.mp hx
    obtain ⟨q2, hq2, rfl⟩ := List.mem_map.mp hz2
    exact hno q2 hq2 (by rw [← hxz]; exact hd.2 q1 hq1), fun q hq => by
    rcases List.mem_append.mp hq with h | h
    · exact hF _ (hd.2 q h)
    · exact hD'.2 q (List.mem_append_right _ h)⟩
  obtain ⟨t2, a1, b1⟩ := kk u T'.heap (locs ++ L) hP1 hD1
    ⟨Nat.le_trans hS.1 (by rw [e1]; exact hz), fun q h1 h2 => by rw [e1, hk q (Nat.lt_of_lt_of_le h1 hS.1) (fun z => h2 (hF q z))]; exact hS.2.1 q h1 h2, fun q hq => by
      rcases List.mem_append.mp hq with h | h
      · exact hS.2.2 q h
      · exact hF _ (hL q h)⟩ T' rfl X'
  exact ⟨t2, st t2 a1, b1⟩
theorem mc_pre (hN : nK s) (hK : va_K D vwCl tys' s) (hP : va_P D vwCl wc H) (hD : va_D A wc) (hEb : ∀ (U : State) (a : Array Value) g mk, E U → E (U.calling g mk a)) (hEw : ∀ U : State, s.WarmedH U.vm → E U) : PreS s H (Pwe D tys' [.ref b] wc H.size E) [.ref b] :=
  ⟨fun a U g mk q => ⟨pw_blind _ _ _ a U g mk q.1, hEb U a g mk q.2⟩, fun U hU hW => ⟨pw_here _ hN hK hP hD U hU hW, hEw U hW⟩⟩
theorem mc_I (S0 : CallFix p m c cc nL s args Ts own) (hM : MC l D y ws rm tys' [.ref b] wc E mc ms wf) (cw : CallB R s args own index y bytes maxL none ws rm mc ms 0 ∧ y.name = "<init>" ∧ (Cond.instanceMethod y).before args s = true) (hpre : PreS s H (Pwe D tys' [.ref b] wc H.size E) [.ref b]) (hsize : ls.size = nL) (hW : (rest.map fun v => v.category).sum ≤ 8) (hf : cells + mc ≤ R.cells ∧ slots + ms ≤ R.slots) (hdg : decode cc pc = .ok (.invokespecial index, 3)) :
    ∃ a : Array Value, va_Run p l e R s m args below meth c H locs cells slots mc ms (F0 m pc ls (.ref b :: rest)) rest (Qwc D wf wc H.size a) (va_A wc H.size) :=
  ⟨_, va_runI (As := []) (rest := rest) S0 (hM H.size) cw hpre rfl rfl hsize rfl (lv_room hW) hdg hf⟩
theorem mc_IN {host : String} (S0 : CallFix p m c cc nL s args Ts own) (hM : MC l D y ws rm tys' [.ref b] wc E mc ms wf) (cw : va_CN R s args own index y host bytes maxL none ws rm mc ms 0 ∧ y.name = "<init>" ∧ (Cond.instanceMethod y).before args s = true) (hpre : PreS s H (Pwe D tys' [.ref b] wc H.size E) [.ref b]) (hsize : ls.size = nL) (hW : (rest.map fun v => v.category).sum ≤ 8) (hf : cells + mc ≤ R.cells ∧ slots + ms ≤ R.slots) (hdg : decode cc pc = .ok (.invokespecial index, 3)) :
    ∃ a : Array Value, va_Run p l e R s m args below meth c H locs cells slots mc ms (F0 m pc ls (.ref b :: rest)) rest (Qwc D wf wc H.size a) (va_A wc H.size) :=
  ⟨_, va_runIN (As := []) (rest := rest) S0 (hM H.size) cw hpre rfl rfl hsize rfl (lv_room hW) hdg hf⟩
/-- a new array of whole numbers, all 0; its class is the one that the world knows -/
theorem x_newI {ws : va_W} {H0 : Heap} {cI : ClassId} (hx : p.tables.exec = Jvm.exec) (hb : c.code = cc) (harr : (Cond.arrayClass .int).before args s = true) (hK : va_K D vwCl tys s) (hP : va_P D vwCl ws H) (hD : va_D A ws) (hS : va_S A H0 H locs) (hA : ∀ q, H0.size ≤ q → A q) (t0 : Nat) (ht : tys[t0]? = some (cI, .int)) {z : Int} (N' : Nat) (hz : z = (N' : Int)) (hN : N' ≤ 2000) (hcells : cells + 1 ≤ R.cells) (hslots : slots + N' ≤ R.slots) (hdg : decode cc pc = .ok (.newarray .int, 2))
    (kk : ∀ (q : Nat) (H1 : Heap), va_P D vwCl (ws ++ [(q, .inl (cI, N', .inl (aI (fun _ => 0))))]) H1 → va_D A (ws ++ [(q, .inl (cI, N', .inl (aI (fun _ => 0))))]) → va_S A H0 H1 locs → W p l e R s m args below meth c H1 locs (cells + 1) (slots + N') Q (F0 m (pc + 2) ls (.ref q :: rest))) : W p l e R s m args below meth c H locs cells slots Q (F0 m pc ls (.int (iI z) :: rest)) := by
  refine va_newa (atype := .int) (ty := .int) (n := iI z) (N' := N') (a0 := (N', .inl (aI (fun _ => 0)))) hx hb harr rfl hK hP hD hS hA (fun cA => ?_) ?_ ?_ ?_ hcells hslots hdg (fun q cA H1 hK1 hP1 hD1 hS1 => ?_)
  · show arrV cA N' (fun j => .int (aI (fun _ => 0) j)) = arrV cA N' (fun _ => .int 0)
    congr 1
  · rw [← iI_0, iI_lt (by omega) (by omega)]; omega
  · rw [iI_clamp (by omega) (by omega)]; omega
  · show N' * 4 ≤ 536870912; omega
  · have h1 := (hK1.2 tys.length (cA, .int) (by simp)).2
    have h2 := (hK.2 t0 _ ht).2
    have e : cA = cI := Option.some.inj (h1.symm.trans h2)
    subst e
    exact kk q H1 hP1 hD1 hS1
theorem x_newC {ws : va_W} {H0 : Heap} {cC : ClassId} (hx : p.tables.exec = Jvm.exec) (hb : c.code = cc) (harr : (Cond.arrayClass .char).before args s = true) (hK : va_K D vwCl tys s) (hP : va_P D vwCl ws H) (hD : va_D A ws) (hS : va_S A H0 H locs) (hA : ∀ q, H0.size ≤ q → A q) (t0 : Nat) (ht : tys[t0]? = some (cC, .char)) {z : Int} (N' : Nat) (hz : z = (N' : Int)) (hN : N' ≤ 2000) (hcells : cells + 1 ≤ R.cells) (hslots : slots + N' ≤ R.slots) (hdg : decode cc pc = .ok (.newarray .char, 2))
    (kk : ∀ (q : Nat) (H1 : Heap), va_P D vwCl (ws ++ [(q, .inl (cC, N', .inl (aI (fun _ => 0))))]) H1 → va_D A (ws ++ [(q, .inl (cC, N', .inl (aI (fun _ => 0))))]) → va_S A H0 H1 locs → W p l e R s m args below meth c H1 locs (cells + 1) (slots + N') Q (F0 m (pc + 2) ls (.ref q :: rest))) : W p l e R s m args below meth c H locs cells slots Q (F0 m pc ls (.int (iI z) :: rest)) := by
  refine va_newa (atype := .char) (ty := .char) (n := iI z) (N' := N') (a0 := (N', .inl (aI (fun _ => 0)))) hx hb harr rfl hK hP hD hS hA (fun cA => ?_) ?_ ?_ ?_ hcells hslots hdg (fun q cA H1 hK1 hP1 hD1 hS1 => ?_)
  · show arrV cA N' (fun j => .int (aI (fun _ => 0) j)) = arrV cA N' (fun _ => .int 0)
    congr 1
  · rw [← iI_0, iI_lt (by omega) (by omega)]; omega
  · rw [iI_clamp (by omega) (by omega)]; omega
  · show N' * 2 ≤ 536870912; omega
  · have h1 := (hK1.2 tys.length (cA, .char) (by simp)).2
    have h2 := (hK.2 t0 _ ht).2
    have e : cA = cC := Option.some.inj (h1.symm.trans h2)
    subst e
    exact kk q H1 hP1 hD1 hS1
theorem x_newH {ws : va_W} {H0 : Heap} {cH : ClassId} {C : String} (hx : p.tables.exec = Jvm.exec) (hb : c.code = cc) {idx : Nat} (hown : s.vm.findClass own = some m.cls) (hcl : (Cond.classLink own idx C).before args s = true) (hover : va_AO C s) (hK : va_K D vwCl tys s) (hP : va_P D vwCl ws H) (hD : va_D A ws) (hS : va_S A H0 H locs) (hA : ∀ q, H0.size ≤ q → A q) (t0 : Nat) (ht : tys[t0]? = some (cH, .object C)) {z : Int} (N' : Nat) (hz : z = (N' : Int)) (hN : N' ≤ 2000) (hcells : cells + 1 ≤ R.cells) (hslots : slots + N' ≤ R.slots) (hdg : decode cc pc = .ok (.anewarray idx, 3))
    (kk : ∀ (q : Nat) (H1 : Heap), va_P D vwCl (ws ++ [(q, .inl (cH, N', .inr (.inr (.inr (.inr (fun _ => none))))))]) H1 → va_D A (ws ++ [(q, .inl (cH, N', .inr (.inr (.inr (.inr (fun _ => none))))))]) → va_S A H0 H1 locs → W p l e R s m args below meth c H1 locs (cells + 1) (slots + N') Q (F0 m (pc + 3) ls (.ref q :: rest))) : W p l e R s m args below meth c H locs cells slots Q (F0 m pc ls (.int (iI z) :: rest)) := by
  refine va_newq (N' := N') (n := iI z) hx hb hown hcl hover hK hP hD hS hA ?_ ?_ ?_ hcells hslots hdg (fun q cA H1 hK1 hP1 hD1 hS1 => ?_)
  · rw [← iI_0, iI_lt (by omega) (by omega)]; omega
  · rw [iI_clamp (by omega) (by omega)]; omega
  · omega
  · obtain ⟨kA, comp, h1, h2, h3, h4⟩ := (hK1.2 tys.length (cA, .object C) (by simp)).2
    obtain ⟨kB, comp2, g1, g2, g3, g4⟩ := (hK.2 t0 _ ht).2
    have e : cA = cH := Option.some.inj (h4.symm.trans g4)
    subst e
    exact kk q H1 hP1 hD1 hS1
end MCC
