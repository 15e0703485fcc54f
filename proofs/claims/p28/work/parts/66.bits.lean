/-! the bits of a float: the class's own building of them, and the JDK's -/
theorem dist_bd {B : Int} {G : Nat → Int → Int} (hI : InvG B G) : ∀ n : Nat, n ≤ 48 → 0 ≤ distZ G n ∧ distZ G n ≤ 2000 * n := by
  intro n
  induction n with
  | zero => intro _; exact ⟨Int.le_refl 0, Int.le_refl 0⟩
  | succ n ih =>
    intro hn
    have h := ih (by omega)
    have h0 := invG_0 hI n (by omega) (by omega)
    have h1 := invG_1 hI n (by omega) (by omega)
    have ha : aimZ (G 0 n) = 100 + 400 * G 0 n := rfl
    have e : distZ G (n + 1) = distZ G n + (if 0 ≤ G 1 n - aimZ (G 0 n) then G 1 n - aimZ (G 0 n) else 0 - (G 1 n - aimZ (G 0 n))) := rfl
    rw [e]
    omega
theorem asked_bd {B : Int} {G : Nat → Int → Int} (hI : InvG B G) : 0 ≤ sumZ 9 (G 10) ∧ sumZ 9 (G 10) ≤ 9 * B := by
  have h0 := invG_10 hI 0 (by omega) (by omega)
  have h1 := invG_10 hI 1 (by omega) (by omega)
  have h2 := invG_10 hI 2 (by omega) (by omega)
  have h3 := invG_10 hI 3 (by omega) (by omega)
  have h4 := invG_10 hI 4 (by omega) (by omega)
  have h5 := invG_10 hI 5 (by omega) (by omega)
  have h6 := invG_10 hI 6 (by omega) (by omega)
  have h7 := invG_10 hI 7 (by omega) (by omega)
  have h8 := invG_10 hI 8 (by omega) (by omega)
  have e : sumZ 9 (G 10) = 0 + G 10 0 + G 10 1 + G 10 2 + G 10 3 + G 10 4 + G 10 5 + G 10 6 + G 10 7 + G 10 8 := rfl
  rw [e]
  omega
theorem right_e (G : Nat → Int → Int) : rightTZ G 3 = G 10 0 + G 10 4 + G 10 8 := by
  have e : rightTZ G 3 = 0 + G 10 0 + G 10 4 + G 10 8 := rfl
  rw [e]; omega
theorem right_bd {B : Int} {G : Nat → Int → Int} (hI : InvG B G) : 0 ≤ rightTZ G 3 ∧ rightTZ G 3 ≤ 3 * B := by
  have h0 := invG_10 hI 0 (by omega) (by omega)
  have h4 := invG_10 hI 4 (by omega) (by omega)
  have h8 := invG_10 hI 8 (by omega) (by omega)
  rw [right_e]
  omega
theorem f_self {x : UInt32} (h : fPos x) (op : CmpOp) : Op.cmpValue (FP.fcmp x x) op = iI 0 := by
  rcases h with h | ⟨c, q, hN, h⟩
  · rw [h]; exact f_00 op
  · rw [h, fc_val, fB_val hN, ord_ff]
    exact cmp_eq rfl op
/-- a contract of a method of a class that has native rows, but none for this method -/
theorem Met_ofWF {l : Launch} {y : MethodName} {ws ws' : List Cond} {rm : Room} {Pc : Array Value → State → Prop} {Qc : Array Value → State → Outcome → State → Prop} {mc ms : Nat} {free : Addr → Prop} {cc : ByteArray} {maxL : Nat} {ret : Option FieldType}
    (hy : plainFor y = true) (hw : ws = Cond.code y cc maxL ret :: ws')
    (body : ∀ p e s m args below meth c s₁, BodyLoose p l y (headSpec ws rm) cc maxL ret e s m args below meth c s₁ → c.maxLocals = maxL → Pc args s →
      W p l e (headSpec ws rm).room s m args below meth c s.heap [] 0 0 (MQ below Qc args s mc ms free) (entryFrame m args maxL)) : Met l y ws rm Pc Qc mc ms free := by
  refine MetFree.of_bodySF (code := cc) (maxLocals := maxL) (ret := ret) hy ?_ ?_
  · intro args s m h hn
    obtain ⟨meth, c, h1, h2, h3, h4, h5, h6, -, -⟩ := Cond.code_spec hn (atoms_spec (ws := ws) h _ (by rw [hw]; exact List.mem_cons_self))
    exact ⟨meth, c, h1, h2, h3, h4, h5, h6⟩
  · intro p e s m args below meth c s₁ B hml hP _
    have hh0 : s₁.heap = s.heap := by rw [B.state]; rfl
    obtain ⟨t, a1, o, b1, b2, b3⟩ := body p e s m args below meth c s₁ B hml hP s₁ hh0 (Stand.of_body B)
    exact ⟨t, o, a1, b1, b2, ⟨b3.1, b3.2⟩⟩
theorem mw_ofF {l : Launch} {D : va_G} {y : MethodName} {ws ws' : List Cond} {rm : Room} {tys : List (ClassId × FieldType)} {av : List Value} {w w' : va_W} {v : Int32} {cc : ByteArray} {maxL : Nat} {ty : FieldType} (hn : narrow ty (.int v) = .int v)
    (hy : plainFor y = true) (hw : ws = Cond.code y cc maxL (some ty) :: ws') (hav : (lg_sl av).length ≤ maxL)
    (body : ∀ (p : Program) (e : Env) (s : State) (m : MethodId) (below : List Frame) (meth : Method) (c : Code) (R : Room) (A : Nat → Prop) (Q : State → Prop) (args : Array Value) (ls : Array Slot), p.tables.exec = Jvm.exec → c.code = cc → c.maxLocals = maxL → s.vm.findClass y.cls = some m.cls → (∀ w ∈ ws, w.before args s = true) → rm.frames ≤ R.frames → rm.locals ≤ R.locals → 0 ≤ R.cells → 0 ≤ R.slots → nK s → va_K D vwCl tys s → va_P D vwCl w s.heap → va_D A w → va_S A s.heap s.heap [] → (∀ q : Nat, s.heap.size ≤ q → A q) → Wret p l e R s m args below meth c Q D A w' .ireturn [.int v] cc → lv_has ls maxL (lv_args 0 av) →
      W p l e R s m args below meth c s.heap [] 0 0 Q (F0 m 0 ls [])) : MW l D y ws rm tys av w w' (some (.int v)) := by
  intro sz
  refine Met_ofWF (cc := cc) (maxL := maxL) (ret := some ty) hy hw ?_
  intro p e s m args below meth c s₁ B hml hv
  obtain ⟨rfl, hsz, hP, hK, hD0, hN⟩ := hv
  subst hsz
  have hts := atoms_spec (ws := ws) B.pre
  have hown : s.vm.findClass y.cls = some m.cls := findClass_of_methodNamed B.named
  have hl := lv_entry av (n := maxL) hav
  rw [lg_entry_eq]
  generalize (lg_sl av ++ List.replicate (maxL - (lg_sl av).length) Slot.unset).toArray = ls at hl ⊢
  refine body p e s m below meth c (headSpec ws rm).room (va_A w s.heap.size) _ av.toArray ls B.exec B.bytes hml hown hts (Nat.le_refl _) (Nat.le_refl _) (Nat.zero_le _) (Nat.zero_le _) hN hK hP hD0.self va_S.rf (fun q h => Or.inr h) ?_ hl
  intro pc ls H1 locs1 hdg hP1 hD1 hS1
  exact W.zret B.exec B.bytes B.returns hn (fun t ht hW => ⟨⟨rfl, by rw [ht]; exact hP1, hD1⟩, hS1.F ht⟩) hS1.2.2 hdg B.notSynchronized
set_option maxHeartbeats 4000000 in
set_option maxRecDepth 100000 in
theorem m_X2_bitsOf (l : Launch) (D : va_G) (x : UInt32) (hf : fPos x) : MW l D yX2_bitsOf (wsY yX2_bitsOf cX2_bitsOf 4 (some .int)) { frames := 0, cells := 0, slots := 0, locals := 0 } [] [.float x] [] [] (some (.int (iI ((x).toNat : Int)))) := by
  refine mw_ofI (cc := cX2_bitsOf) (maxL := 4) (by decide) rfl (Nat.le_of_ble_eq_true rfl) ?_
  intro p e s m below meth c0 R A Q args ls hx hb hml hown hts hRf hRl hRc hRs hN hK hP hD hS hA hret hl
  have hq : ∀ w ∈ ALL, w.before args s = true := fun w h => hts w (List.mem_cons_of_mem _ h)
  have hl : lv_has ls 4 [(0, .float x)] := hl
  refine lv_fload_n hx hb dX2_bitsOf_0 rfl (lv_at hl 0 rfl) ?_
  refine lv_fconst0 hx hb dX2_bitsOf_1 ?_
  refine lv_fcmp hx hb dX2_bitsOf_2 ?_
  rcases hf with h | ⟨c, q, hf, h⟩
  · subst h
    rw [f_00]
    refine z_if_gt (tgt := 8) hx hb dX2_bitsOf_3 (by decide) (by omega) (fun c_1 => absurd c_1 (by omega)) (fun c_1 => ?_)
    refine z_iconst hx hb dX2_bitsOf_6 ?_
    exact hret _ _ _ _ dX2_bitsOf_7 hP hD hS
  · subst h
    rw [f_gt0 hf]
    have hf0 := hf
    unfold fN at hf0
    refine z_if_gt (tgt := 8) hx hb dX2_bitsOf_3 (by decide) (by omega) (fun c_1 => ?_) (fun c_1 => absurd c_1 (by omega))
    have K57 : ∀ ls : Array Slot, lv_has ls 4 [(1, .float (fB c (-23))), (2, .int (iI (150 + q)))] → W p l e R s m args below meth c0 s.heap [] 0 0 Q (F0 m 57 ls []) := by
      intro ls hl
      have hfr := f_frac (c := c) (by omega) (by omega)
      refine lv_fload_n hx hb dX2_bitsOf_57 rfl (lv_at hl 0 rfl) ?_
      refine lv_fconst1 hx hb dX2_bitsOf_58 ?_
      refine lv_fsub hx hb dX2_bitsOf_59 hfr.1 ?_
      refine lv_ldcf hx hb hown (hq _ q_284) dX2_bitsOf_60 ?_
      refine lv_fmul hx hb dX2_bitsOf_62 hfr.2.1 ?_
      refine lv_f2i hx hb dX2_bitsOf_63 ?_
      rw [hfr.2.2]
      refine lv_istore_n (lv' := [(3, .int (iI ((c - 8388608 : Nat) : Int))), (1, .float (fB c (-23))), (2, .int (iI (150 + q)))]) hx hb dX2_bitsOf_64 rfl hl (by decide) rfl (fun ls hl => ?_)
      refine lv_iload_n hx hb dX2_bitsOf_65 rfl (lv_at hl 2 rfl) ?_
      refine z_bipush hx hb dX2_bitsOf_66 (by decide +kernel) ?_
      refine lv_ishl hx hb dX2_bitsOf_68 ?_
      refine lv_iload_n hx hb dX2_bitsOf_69 rfl (lv_at hl 0 rfl) ?_
      refine lv_ior hx hb dX2_bitsOf_70 ?_
      refine z_asB (b := ((fB c q).toNat : Int)) ((bits_join (by omega) (by omega)).trans (by rw [enc_nat hf0.1 hf0.2.1 (by omega)]; congr 1; omega)) ?_
      exact hret _ _ _ _ dX2_bitsOf_71 hP hD hS
    have K36 : ∀ (fu : Nat) (r : Int), -148 ≤ r ∧ r ≤ -23 → (q ≤ r ∨ r = -23) → -23 - r < (fu : Int) → ∀ ls : Array Slot, lv_has ls 4 [(1, .float (fB c r)), (2, .int (iI (127 + (q - r))))] → W p l e R s m args below meth c0 s.heap [] 0 0 Q (F0 m 36 ls []) := by
      intro fu
      induction fu with
      | zero => intro r h1 h2 h3; omega
      | succ fu ih =>
        intro r h1 h2 h3 ls hl
        have hr : fN c r := by unfold fN; omega
        refine lv_fload_n hx hb dX2_bitsOf_36 rfl (lv_at hl 0 rfl) ?_
        refine lv_fconst1 hx hb dX2_bitsOf_37 ?_
        refine lv_fcmp hx hb dX2_bitsOf_38 ?_
        by_cases hc : r = -23
        · subst hc
          obtain ⟨v, hv, ev⟩ := f_ge val_c1 hr (Int.le_refl _) .g
          rw [ev]
          refine z_if_ge (tgt := 57) hx hb dX2_bitsOf_39 (by decide) (by omega) (fun c_1 => ?_) (fun c_1 => absurd c_1 (by omega))
          exact K57 ls (lv_to hl (by rw [show 127 + (q - -23) = 150 + q by omega]))
        · rw [f_lt val_c1 hr (by omega) .g]
          refine z_if_ge (tgt := 57) hx hb dX2_bitsOf_39 (by decide) (by omega) (fun c_1 => absurd c_1 (by omega)) (fun c_1 => ?_)
          refine lv_iload_n hx hb dX2_bitsOf_42 rfl (lv_at hl 1 rfl) ?_
          refine z_iconst hx hb dX2_bitsOf_43 ?_
          refine z_icmp_le (tgt := 57) hx hb dX2_bitsOf_44 (by decide) (by omega) (by omega) (fun c_2 => absurd c_2 (by omega)) (fun c_2 => ?_)
          refine lv_fload_n hx hb dX2_bitsOf_47 rfl (lv_at hl 0 rfl) ?_
          refine lv_fconst2 hx hb dX2_bitsOf_48 ?_
          have e2 := f_dbl hr (by omega)
          refine lv_fmul hx hb dX2_bitsOf_49 (by rw [e2]; exact fB_n32 hf0.1 hf0.2.1 (by omega)) ?_
          rw [e2]
          refine lv_fstore_n (lv' := [(1, .float (fB c (r + 1))), (2, .int (iI (127 + (q - r))))]) hx hb dX2_bitsOf_50 rfl hl (by decide) rfl (fun ls hl => ?_)
          refine lv_iinc (v := iI (127 + (q - r) + (-1))) (lv' := [(2, .int (iI (127 + (q - r) + (-1)))), (1, .float (fB c (r + 1)))]) hx hb dX2_bitsOf_51 hl (k := 1) rfl (iI_add _ _) (by decide) rfl (fun ls hl => ?_)
          refine lv_goto (tgt := 36) hx hb dX2_bitsOf_54 (by decide) ?_
          exact ih (r + 1) (by omega) (by omega) (by omega) ls (lv_to (lv_sub (l' := [(1, .float (fB c (r + 1))), (2, .int (iI (127 + (q - r) + (-1))))]) hl [1, 0] rfl) (by rw [show 127 + (q - r) + (-1) = 127 + (q - (r + 1)) by omega]))
    have K13 : ∀ (fu : Nat) (r : Int), -148 ≤ r ∧ r ≤ q → (r = q ∨ -23 ≤ r) → r + 23 < (fu : Int) → ∀ ls : Array Slot, lv_has ls 4 [(1, .float (fB c r)), (2, .int (iI (127 + (q - r))))] → W p l e R s m args below meth c0 s.heap [] 0 0 Q (F0 m 13 ls []) := by
      intro fu
      induction fu with
      | zero =>
        intro r h1 h2 h3 ls hl
        have hr : fN c r := by unfold fN; omega
        refine lv_fload_n hx hb dX2_bitsOf_13 rfl (lv_at hl 0 rfl) ?_
        refine lv_fconst2 hx hb dX2_bitsOf_14 ?_
        refine lv_fcmp hx hb dX2_bitsOf_15 ?_
        rw [f_lt val_c2 hr (by omega) .l]
        refine z_if_lt (tgt := 36) hx hb dX2_bitsOf_16 (by decide) (by omega) (fun c_1 => ?_) (fun c_1 => absurd c_1 (by omega))
        exact K36 300 r (by omega) (by omega) (by omega) ls hl
      | succ fu ih =>
        intro r h1 h2 h3 ls hl
        have hr : fN c r := by unfold fN; omega
        refine lv_fload_n hx hb dX2_bitsOf_13 rfl (lv_at hl 0 rfl) ?_
        refine lv_fconst2 hx hb dX2_bitsOf_14 ?_
        refine lv_fcmp hx hb dX2_bitsOf_15 ?_
        by_cases hc : r < -22
        · rw [f_lt val_c2 hr hc .l]
          refine z_if_lt (tgt := 36) hx hb dX2_bitsOf_16 (by decide) (by omega) (fun c_1 => ?_) (fun c_1 => absurd c_1 (by omega))
          exact K36 300 r (by omega) (by omega) (by omega) ls hl
        · obtain ⟨v, hv, ev⟩ := f_ge val_c2 hr (by omega) .l
          rw [ev]
          refine z_if_lt (tgt := 36) hx hb dX2_bitsOf_16 (by decide) (by omega) (fun c_1 => absurd c_1 (by omega)) (fun c_1 => ?_)
          refine lv_iload_n hx hb dX2_bitsOf_19 rfl (lv_at hl 1 rfl) ?_
          refine z_sipush hx hb dX2_bitsOf_20 (by decide +kernel) ?_
          refine z_icmp_ge (tgt := 36) hx hb dX2_bitsOf_23 (by decide) (by omega) (by omega) (fun c_2 => absurd c_2 (by omega)) (fun c_2 => ?_)
          refine lv_fload_n hx hb dX2_bitsOf_26 rfl (lv_at hl 0 rfl) ?_
          refine lv_fconst2 hx hb dX2_bitsOf_27 ?_
          have e2 := f_half hr (by omega)
          refine lv_fdiv hx hb dX2_bitsOf_28 (by rw [e2]; exact fB_n32 hf0.1 hf0.2.1 (by omega)) ?_
          rw [e2]
          refine lv_fstore_n (lv' := [(1, .float (fB c (r - 1))), (2, .int (iI (127 + (q - r))))]) hx hb dX2_bitsOf_29 rfl hl (by decide) rfl (fun ls hl => ?_)
          refine lv_iinc (v := iI (127 + (q - r) + 1)) (lv' := [(2, .int (iI (127 + (q - r) + 1))), (1, .float (fB c (r - 1)))]) hx hb dX2_bitsOf_30 hl (k := 1) rfl (iI_add _ _) (by decide) rfl (fun ls hl => ?_)
          refine lv_goto (tgt := 13) hx hb dX2_bitsOf_33 (by decide) ?_
          exact ih (r - 1) (by omega) (by omega) (by omega) ls (lv_to (lv_sub (l' := [(1, .float (fB c (r - 1))), (2, .int (iI (127 + (q - r) + 1)))]) hl [1, 0] rfl) (by rw [show 127 + (q - r) + 1 = 127 + (q - (r - 1)) by omega]))
    refine lv_fload_n hx hb dX2_bitsOf_8 rfl (lv_at hl 0 rfl) ?_
    refine lv_fstore_n (lv' := [(1, .float (fB c q)), (0, .float (fB c q))]) hx hb dX2_bitsOf_9 rfl hl (by decide) rfl (fun ls hl => ?_)
    refine z_bipush hx hb dX2_bitsOf_10 (by decide +kernel) ?_
    refine lv_istore_n (lv' := [(2, .int (iI 127)), (1, .float (fB c q)), (0, .float (fB c q))]) hx hb dX2_bitsOf_12 rfl hl (by decide) rfl (fun ls hl => ?_)
    exact K13 300 q (by omega) (Or.inl rfl) (by omega) ls (lv_to (lv_sub (l' := [(1, .float (fB c q)), (2, .int (iI 127))]) hl [1, 0] rfl) (by rw [show 127 + (q - q) = 127 by omega]))
theorem right_le {B : Int} {G : Nat → Int → Int} (hI : InvG B G) : rightTZ G 3 ≤ sumZ 9 (G 10) := by
  have h1 := invG_10 hI 1 (by omega) (by omega)
  have h2 := invG_10 hI 2 (by omega) (by omega)
  have h3 := invG_10 hI 3 (by omega) (by omega)
  have h5 := invG_10 hI 5 (by omega) (by omega)
  have h6 := invG_10 hI 6 (by omega) (by omega)
  have h7 := invG_10 hI 7 (by omega) (by omega)
  have e : sumZ 9 (G 10) = 0 + G 10 0 + G 10 1 + G 10 2 + G 10 3 + G 10 4 + G 10 5 + G 10 6 + G 10 7 + G 10 8 := rfl
  rw [right_e, e]
  omega
